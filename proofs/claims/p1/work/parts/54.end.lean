set_option maxRecDepth 100000 in
theorem lf_end_0 (xs : Nat → Int32) (p0 : Int32) (p1 : Int32) (a0 : p0.toInt < 0) : op_ok xs 165 144 [.ref 0, .int p0, .int p1, .ref 189] [.ref 165, .int p0, .int p1] := by
  refine ⟨1, 0, ?_⟩
  apply Exists.intro
  apply Exists.intro
  apply And.intro
  · refine xe_sn pg_165 4 (fr' := (4, [(0, .ref 0), (1, .int p0), (2, .int p1), (3, .ref 189)], [.int p0, .ref 0, .int 0, .ref 189])) rfl ?_
    refine xe_sn pg_165 1 (fr' := (5, [(0, .ref 0), (1, .int p0), (2, .int p1), (3, .ref 189)], [.int p1, .int p0, .ref 0, .int 0, .ref 189])) rfl ?_
    apply xe_callq pg_165 78 [.ref 0, .int p0, .int p1] (.inr 0) (15, [(0, .ref 0), (1, .int p0), (2, .int p1), (3, .ref 189)], []) rfl (fun _ => rfl)
    · refine xe_sn pg_78 1 (fr' := (1, [(0, .ref 0), (1, .int p0), (2, .int p1)], [.int p0])) rfl ?_
      apply xe_callqx pg_78 92 [.int p0] 0 rfl (fun _ => rfl)
      · refine xe_sn pg_92 2 (fr' := (2, [(0, .int p0)], [.int 4, .int p0])) rfl ?_
        apply xe_callqx pg_92 95 [.int p0, .int 4] 0 rfl (fun _ => rfl)
        · refine xe_sn pg_95 1 (fr' := (1, [(0, .int p0), (1, .int 4)], [.int p0])) rfl ?_
          refine xe_t1 pg_95 9 rfl rfl (by show (p0).toInt < 0; omega) ?_
          exact xe_end pg_95 rfl
    refine xe_sn pg_165 1 (fr' := (16, [(0, .ref 0), (1, .int p0), (2, .int p1), (3, .ref 189)], [.int 1])) rfl ?_
    exact xe_end pg_165 rfl
  refine And.intro ⟨rfl, rfl, rfl, rfl⟩ ?_
  apply And.intro
  · refine xe_sn pg_144 2 (fr' := (2, [(0, .ref 165), (1, .int p0), (2, .int p1)], [.int p0, .ref 165])) rfl ?_
    apply xe_callq pg_144 104 [.int p0] (.inl (some (.int 0))) (5, [(0, .ref 165), (1, .int p0), (2, .int p1)], [.int 0, .ref 165]) rfl (fun _ => rfl)
    · refine xe_sn pg_104 3 (fr' := (3, [(0, .int p0)], [.int 3, .int 0, .int p0])) rfl ?_
      apply xe_callq pg_104 103 [.int p0, .int 0, .int 3] (.inl (some (.int 0))) (6, [(0, .int p0)], [.int 0]) rfl (fun _ => rfl)
      · refine xe_sn pg_103 2 (fr' := (2, [(0, .int p0), (1, .int 0), (2, .int 3)], [.int 0, .int p0])) rfl ?_
        refine xe_t2 pg_103 14 rfl rfl (by show (p0).toInt < 0; omega) ?_
        refine xe_sn pg_103 1 (fr' := (15, [(0, .int p0), (1, .int 0), (2, .int 3)], [.int 0])) rfl ?_
        exact xe_end pg_103 rfl
      exact xe_end pg_104 rfl
    refine xe_sn pg_144 4 (fr' := (25, [(0, .ref 165), (1, .int p0), (2, .int p1)], [])) rfl ?_
    refine xe_sn pg_144 4 (fr' := (43, [(0, .ref 165), (1, .int p0), (2, .int p1)], [.int 0])) rfl ?_
    refine xe_sn pg_144 4 (fr' := (49, [(3, .int 0), (0, .ref 165), (1, .int p0), (2, .int p1)], [.int 1, .ref 165])) rfl ?_
    refine xe_sn pg_144 4 (fr' := (72, [(3, .int 0), (0, .ref 165), (1, .int p0), (2, .int p1)], [])) rfl ?_
    refine xe_sn pg_144 4 (fr' := (80, [(3, .int 0), (0, .ref 165), (1, .int p0), (2, .int p1)], [.int 0])) rfl ?_
    exact xe_end pg_144 rfl
  · exact ⟨⟨rfl, rfl, rfl, rfl⟩, Nat.le_of_ble_eq_true rfl, Nat.le_of_ble_eq_true rfl, rfl, fun q => absurd q (by decide)⟩

set_option maxRecDepth 100000 in
theorem lf_end_1 (xs : Nat → Int32) (p0 : Int32) (p1 : Int32) (b0 : 3 < p0.toInt) : op_ok xs 165 144 [.ref 0, .int p0, .int p1, .ref 189] [.ref 165, .int p0, .int p1] := by
  refine ⟨1, 0, ?_⟩
  apply Exists.intro
  apply Exists.intro
  apply And.intro
  · refine xe_sn pg_165 4 (fr' := (4, [(0, .ref 0), (1, .int p0), (2, .int p1), (3, .ref 189)], [.int p0, .ref 0, .int 0, .ref 189])) rfl ?_
    refine xe_sn pg_165 1 (fr' := (5, [(0, .ref 0), (1, .int p0), (2, .int p1), (3, .ref 189)], [.int p1, .int p0, .ref 0, .int 0, .ref 189])) rfl ?_
    apply xe_callq pg_165 78 [.ref 0, .int p0, .int p1] (.inr 0) (15, [(0, .ref 0), (1, .int p0), (2, .int p1), (3, .ref 189)], []) rfl (fun _ => rfl)
    · refine xe_sn pg_78 1 (fr' := (1, [(0, .ref 0), (1, .int p0), (2, .int p1)], [.int p0])) rfl ?_
      apply xe_callqx pg_78 92 [.int p0] 0 rfl (fun _ => rfl)
      · refine xe_sn pg_92 2 (fr' := (2, [(0, .int p0)], [.int 4, .int p0])) rfl ?_
        apply xe_callqx pg_92 95 [.int p0, .int 4] 0 rfl (fun _ => rfl)
        · refine xe_sn pg_95 1 (fr' := (1, [(0, .int p0), (1, .int 4)], [.int p0])) rfl ?_
          refine xe_f1 pg_95 9 rfl rfl (by show ¬ ((p0).toInt < 0); omega) ?_
          refine xe_sn pg_95 2 (fr' := (6, [(0, .int p0), (1, .int 4)], [.int 4, .int p0])) rfl ?_
          refine xe_f2 pg_95 17 rfl rfl (by show ¬ ((p0).toInt < 4); omega) ?_
          exact xe_end pg_95 rfl
    refine xe_sn pg_165 1 (fr' := (16, [(0, .ref 0), (1, .int p0), (2, .int p1), (3, .ref 189)], [.int 1])) rfl ?_
    exact xe_end pg_165 rfl
  refine And.intro ⟨rfl, rfl, rfl, rfl⟩ ?_
  apply And.intro
  · refine xe_sn pg_144 2 (fr' := (2, [(0, .ref 165), (1, .int p0), (2, .int p1)], [.int p0, .ref 165])) rfl ?_
    apply xe_callq pg_144 104 [.int p0] (.inl (some (.int 0))) (5, [(0, .ref 165), (1, .int p0), (2, .int p1)], [.int 0, .ref 165]) rfl (fun _ => rfl)
    · refine xe_sn pg_104 3 (fr' := (3, [(0, .int p0)], [.int 3, .int 0, .int p0])) rfl ?_
      apply xe_callq pg_104 103 [.int p0, .int 0, .int 3] (.inl (some (.int 0))) (6, [(0, .int p0)], [.int 0]) rfl (fun _ => rfl)
      · refine xe_sn pg_103 2 (fr' := (2, [(0, .int p0), (1, .int 0), (2, .int 3)], [.int 0, .int p0])) rfl ?_
        refine xe_f2 pg_103 14 rfl rfl (by show ¬ ((p0).toInt < 0); omega) ?_
        refine xe_sn pg_103 2 (fr' := (7, [(0, .int p0), (1, .int 0), (2, .int 3)], [.int 3, .int p0])) rfl ?_
        refine xe_t2 pg_103 14 rfl rfl (by show 3 < (p0).toInt; omega) ?_
        refine xe_sn pg_103 1 (fr' := (15, [(0, .int p0), (1, .int 0), (2, .int 3)], [.int 0])) rfl ?_
        exact xe_end pg_103 rfl
      exact xe_end pg_104 rfl
    refine xe_sn pg_144 4 (fr' := (25, [(0, .ref 165), (1, .int p0), (2, .int p1)], [])) rfl ?_
    refine xe_sn pg_144 4 (fr' := (43, [(0, .ref 165), (1, .int p0), (2, .int p1)], [.int 0])) rfl ?_
    refine xe_sn pg_144 4 (fr' := (49, [(3, .int 0), (0, .ref 165), (1, .int p0), (2, .int p1)], [.int 1, .ref 165])) rfl ?_
    refine xe_sn pg_144 4 (fr' := (72, [(3, .int 0), (0, .ref 165), (1, .int p0), (2, .int p1)], [])) rfl ?_
    refine xe_sn pg_144 4 (fr' := (80, [(3, .int 0), (0, .ref 165), (1, .int p0), (2, .int p1)], [.int 0])) rfl ?_
    exact xe_end pg_144 rfl
  · exact ⟨⟨rfl, rfl, rfl, rfl⟩, Nat.le_of_ble_eq_true rfl, Nat.le_of_ble_eq_true rfl, rfl, fun q => absurd q (by decide)⟩

set_option maxRecDepth 100000 in
theorem lf_end_2 (xs : Nat → Int32) (p1 : Int32) (a1 : p1.toInt < 1) : op_ok xs 165 144 [.ref 0, .int 0, .int p1, .ref 189] [.ref 165, .int 0, .int p1] := by
  refine ⟨1, 0, ?_⟩
  apply Exists.intro
  apply Exists.intro
  apply And.intro
  · refine xe_sn pg_165 4 (fr' := (4, [(0, .ref 0), (1, .int 0), (2, .int p1), (3, .ref 189)], [.int 0, .ref 0, .int 0, .ref 189])) rfl ?_
    refine xe_sn pg_165 1 (fr' := (5, [(0, .ref 0), (1, .int 0), (2, .int p1), (3, .ref 189)], [.int p1, .int 0, .ref 0, .int 0, .ref 189])) rfl ?_
    apply xe_callq pg_165 78 [.ref 0, .int 0, .int p1] (.inr 0) (15, [(0, .ref 0), (1, .int 0), (2, .int p1), (3, .ref 189)], []) rfl (fun _ => rfl)
    · refine xe_sn pg_78 1 (fr' := (1, [(0, .ref 0), (1, .int 0), (2, .int p1)], [.int 0])) rfl ?_
      apply xe_callq pg_78 92 [.int 0] (.inl none) (4, [(0, .ref 0), (1, .int 0), (2, .int p1)], []) rfl (fun _ => rfl)
      · refine xe_sn pg_92 2 (fr' := (2, [(0, .int 0)], [.int 4, .int 0])) rfl ?_
        apply xe_callq pg_92 95 [.int 0, .int 4] (.inl none) (5, [(0, .int 0)], []) rfl (fun _ => rfl)
        · refine xe_sn pg_95 4 (fr' := (6, [(0, .int 0), (1, .int 4)], [.int 4, .int 0])) rfl ?_
          refine xe_sn pg_95 1 (fr' := (17, [(0, .int 0), (1, .int 4)], [])) rfl ?_
          exact xe_end pg_95 rfl
        exact xe_end pg_92 rfl
      refine xe_sn pg_78 1 (fr' := (5, [(0, .ref 0), (1, .int 0), (2, .int p1)], [.int p1])) rfl ?_
      apply xe_callqx pg_78 94 [.int p1] 0 rfl (fun _ => rfl)
      · refine xe_sn pg_94 1 (fr' := (1, [(0, .int p1)], [.int p1])) rfl ?_
        apply xe_callq pg_94 100 [.int p1] (.inl (some (.int 0))) (4, [(0, .int p1)], [.int 0]) rfl (fun _ => rfl)
        · refine xe_sn pg_100 2 (fr' := (2, [(0, .int p1)], [.int 1, .int p1])) rfl ?_
          refine xe_t2 pg_100 14 rfl rfl (by show (p1).toInt < 1; omega) ?_
          refine xe_sn pg_100 1 (fr' := (15, [(0, .int p1)], [.int 0])) rfl ?_
          exact xe_end pg_100 rfl
        refine xe_sn pg_94 1 (fr' := (7, [(0, .int p1)], [])) rfl ?_
        exact xe_end pg_94 rfl
    refine xe_sn pg_165 1 (fr' := (16, [(0, .ref 0), (1, .int 0), (2, .int p1), (3, .ref 189)], [.int 1])) rfl ?_
    exact xe_end pg_165 rfl
  refine And.intro ⟨rfl, rfl, rfl, rfl⟩ ?_
  apply And.intro
  · refine xe_sn pg_144 2 (fr' := (2, [(0, .ref 165), (1, .int 0), (2, .int p1)], [.int 0, .ref 165])) rfl ?_
    apply xe_callq pg_144 104 [.int 0] (.inl (some (.int 1))) (5, [(0, .ref 165), (1, .int 0), (2, .int p1)], [.int 1, .ref 165]) rfl (fun _ => rfl)
    · refine xe_sn pg_104 3 (fr' := (3, [(0, .int 0)], [.int 3, .int 0, .int 0])) rfl ?_
      apply xe_callq pg_104 103 [.int 0, .int 0, .int 3] (.inl (some (.int 1))) (6, [(0, .int 0)], [.int 1]) rfl (fun _ => rfl)
      · refine xe_sn pg_103 4 (fr' := (6, [(0, .int 0), (1, .int 0), (2, .int 3)], [.int 0])) rfl ?_
        refine xe_sn pg_103 4 (fr' := (15, [(0, .int 0), (1, .int 0), (2, .int 3)], [.int 1])) rfl ?_
        exact xe_end pg_103 rfl
      exact xe_end pg_104 rfl
    refine xe_sn pg_144 4 (fr' := (11, [(0, .ref 165), (1, .int 0), (2, .int p1)], [.int 3, .int 1, .int p1, .ref 165])) rfl ?_
    apply xe_callq pg_144 103 [.int p1, .int 1, .int 3] (.inl (some (.int 0))) (14, [(0, .ref 165), (1, .int 0), (2, .int p1)], [.int 0, .ref 165]) rfl (fun _ => rfl)
    · refine xe_sn pg_103 2 (fr' := (2, [(0, .int p1), (1, .int 1), (2, .int 3)], [.int 1, .int p1])) rfl ?_
      refine xe_t2 pg_103 14 rfl rfl (by show (p1).toInt < 1; omega) ?_
      refine xe_sn pg_103 1 (fr' := (15, [(0, .int p1), (1, .int 1), (2, .int 3)], [.int 0])) rfl ?_
      exact xe_end pg_103 rfl
    refine xe_sn pg_144 4 (fr' := (25, [(0, .ref 165), (1, .int 0), (2, .int p1)], [])) rfl ?_
    refine xe_sn pg_144 4 (fr' := (43, [(0, .ref 165), (1, .int 0), (2, .int p1)], [.int 0])) rfl ?_
    refine xe_sn pg_144 4 (fr' := (49, [(3, .int 0), (0, .ref 165), (1, .int 0), (2, .int p1)], [.int 1, .ref 165])) rfl ?_
    refine xe_sn pg_144 4 (fr' := (72, [(3, .int 0), (0, .ref 165), (1, .int 0), (2, .int p1)], [])) rfl ?_
    refine xe_sn pg_144 4 (fr' := (80, [(3, .int 0), (0, .ref 165), (1, .int 0), (2, .int p1)], [.int 0])) rfl ?_
    exact xe_end pg_144 rfl
  · exact ⟨⟨rfl, rfl, rfl, rfl⟩, Nat.le_of_ble_eq_true rfl, Nat.le_of_ble_eq_true rfl, rfl, fun q => absurd q (by decide)⟩

set_option maxRecDepth 100000 in
theorem lf_end_3 (xs : Nat → Int32) (p1 : Int32) (b1 : 3 < p1.toInt) : op_ok xs 165 144 [.ref 0, .int 0, .int p1, .ref 189] [.ref 165, .int 0, .int p1] := by
  refine ⟨1, 0, ?_⟩
  apply Exists.intro
  apply Exists.intro
  apply And.intro
  · refine xe_sn pg_165 4 (fr' := (4, [(0, .ref 0), (1, .int 0), (2, .int p1), (3, .ref 189)], [.int 0, .ref 0, .int 0, .ref 189])) rfl ?_
    refine xe_sn pg_165 1 (fr' := (5, [(0, .ref 0), (1, .int 0), (2, .int p1), (3, .ref 189)], [.int p1, .int 0, .ref 0, .int 0, .ref 189])) rfl ?_
    apply xe_callq pg_165 78 [.ref 0, .int 0, .int p1] (.inr 0) (15, [(0, .ref 0), (1, .int 0), (2, .int p1), (3, .ref 189)], []) rfl (fun _ => rfl)
    · refine xe_sn pg_78 1 (fr' := (1, [(0, .ref 0), (1, .int 0), (2, .int p1)], [.int 0])) rfl ?_
      apply xe_callq pg_78 92 [.int 0] (.inl none) (4, [(0, .ref 0), (1, .int 0), (2, .int p1)], []) rfl (fun _ => rfl)
      · refine xe_sn pg_92 2 (fr' := (2, [(0, .int 0)], [.int 4, .int 0])) rfl ?_
        apply xe_callq pg_92 95 [.int 0, .int 4] (.inl none) (5, [(0, .int 0)], []) rfl (fun _ => rfl)
        · refine xe_sn pg_95 4 (fr' := (6, [(0, .int 0), (1, .int 4)], [.int 4, .int 0])) rfl ?_
          refine xe_sn pg_95 1 (fr' := (17, [(0, .int 0), (1, .int 4)], [])) rfl ?_
          exact xe_end pg_95 rfl
        exact xe_end pg_92 rfl
      refine xe_sn pg_78 1 (fr' := (5, [(0, .ref 0), (1, .int 0), (2, .int p1)], [.int p1])) rfl ?_
      apply xe_callqx pg_78 94 [.int p1] 0 rfl (fun _ => rfl)
      · refine xe_sn pg_94 1 (fr' := (1, [(0, .int p1)], [.int p1])) rfl ?_
        apply xe_callq pg_94 100 [.int p1] (.inl (some (.int 0))) (4, [(0, .int p1)], [.int 0]) rfl (fun _ => rfl)
        · refine xe_sn pg_100 2 (fr' := (2, [(0, .int p1)], [.int 1, .int p1])) rfl ?_
          refine xe_f2 pg_100 14 rfl rfl (by show ¬ ((p1).toInt < 1); omega) ?_
          refine xe_sn pg_100 2 (fr' := (7, [(0, .int p1)], [.int 3, .int p1])) rfl ?_
          refine xe_t2 pg_100 14 rfl rfl (by show 3 < (p1).toInt; omega) ?_
          refine xe_sn pg_100 1 (fr' := (15, [(0, .int p1)], [.int 0])) rfl ?_
          exact xe_end pg_100 rfl
        refine xe_sn pg_94 1 (fr' := (7, [(0, .int p1)], [])) rfl ?_
        exact xe_end pg_94 rfl
    refine xe_sn pg_165 1 (fr' := (16, [(0, .ref 0), (1, .int 0), (2, .int p1), (3, .ref 189)], [.int 1])) rfl ?_
    exact xe_end pg_165 rfl
  refine And.intro ⟨rfl, rfl, rfl, rfl⟩ ?_
  apply And.intro
  · refine xe_sn pg_144 2 (fr' := (2, [(0, .ref 165), (1, .int 0), (2, .int p1)], [.int 0, .ref 165])) rfl ?_
    apply xe_callq pg_144 104 [.int 0] (.inl (some (.int 1))) (5, [(0, .ref 165), (1, .int 0), (2, .int p1)], [.int 1, .ref 165]) rfl (fun _ => rfl)
    · refine xe_sn pg_104 3 (fr' := (3, [(0, .int 0)], [.int 3, .int 0, .int 0])) rfl ?_
      apply xe_callq pg_104 103 [.int 0, .int 0, .int 3] (.inl (some (.int 1))) (6, [(0, .int 0)], [.int 1]) rfl (fun _ => rfl)
      · refine xe_sn pg_103 4 (fr' := (6, [(0, .int 0), (1, .int 0), (2, .int 3)], [.int 0])) rfl ?_
        refine xe_sn pg_103 4 (fr' := (15, [(0, .int 0), (1, .int 0), (2, .int 3)], [.int 1])) rfl ?_
        exact xe_end pg_103 rfl
      exact xe_end pg_104 rfl
    refine xe_sn pg_144 4 (fr' := (11, [(0, .ref 165), (1, .int 0), (2, .int p1)], [.int 3, .int 1, .int p1, .ref 165])) rfl ?_
    apply xe_callq pg_144 103 [.int p1, .int 1, .int 3] (.inl (some (.int 0))) (14, [(0, .ref 165), (1, .int 0), (2, .int p1)], [.int 0, .ref 165]) rfl (fun _ => rfl)
    · refine xe_sn pg_103 2 (fr' := (2, [(0, .int p1), (1, .int 1), (2, .int 3)], [.int 1, .int p1])) rfl ?_
      refine xe_f2 pg_103 14 rfl rfl (by show ¬ ((p1).toInt < 1); omega) ?_
      refine xe_sn pg_103 2 (fr' := (7, [(0, .int p1), (1, .int 1), (2, .int 3)], [.int 3, .int p1])) rfl ?_
      refine xe_t2 pg_103 14 rfl rfl (by show 3 < (p1).toInt; omega) ?_
      refine xe_sn pg_103 1 (fr' := (15, [(0, .int p1), (1, .int 1), (2, .int 3)], [.int 0])) rfl ?_
      exact xe_end pg_103 rfl
    refine xe_sn pg_144 4 (fr' := (25, [(0, .ref 165), (1, .int 0), (2, .int p1)], [])) rfl ?_
    refine xe_sn pg_144 4 (fr' := (43, [(0, .ref 165), (1, .int 0), (2, .int p1)], [.int 0])) rfl ?_
    refine xe_sn pg_144 4 (fr' := (49, [(3, .int 0), (0, .ref 165), (1, .int 0), (2, .int p1)], [.int 1, .ref 165])) rfl ?_
    refine xe_sn pg_144 4 (fr' := (72, [(3, .int 0), (0, .ref 165), (1, .int 0), (2, .int p1)], [])) rfl ?_
    refine xe_sn pg_144 4 (fr' := (80, [(3, .int 0), (0, .ref 165), (1, .int 0), (2, .int p1)], [.int 0])) rfl ?_
    exact xe_end pg_144 rfl
  · exact ⟨⟨rfl, rfl, rfl, rfl⟩, Nat.le_of_ble_eq_true rfl, Nat.le_of_ble_eq_true rfl, rfl, fun q => absurd q (by decide)⟩

set_option maxRecDepth 100000 in
theorem lf_end_4 (xs : Nat → Int32) : op_ok xs 165 144 [.ref 0, .int 0, .int 1, .ref 189] [.ref 165, .int 0, .int 1] := by
  refine ⟨2, 0, ?_⟩
  apply Exists.intro
  apply Exists.intro
  apply And.intro
  · refine xe_sn pg_165 4 (fr' := (4, [(0, .ref 0), (1, .int 0), (2, .int 1), (3, .ref 189)], [.int 0, .ref 0, .int 0, .ref 189])) rfl ?_
    refine xe_sn pg_165 1 (fr' := (5, [(0, .ref 0), (1, .int 0), (2, .int 1), (3, .ref 189)], [.int 1, .int 0, .ref 0, .int 0, .ref 189])) rfl ?_
    apply xe_callq pg_165 78 [.ref 0, .int 0, .int 1] (.inr 2) (19, [(0, .ref 0), (1, .int 0), (2, .int 1), (3, .ref 189)], []) rfl (fun _ => rfl)
    · refine xe_sn pg_78 1 (fr' := (1, [(0, .ref 0), (1, .int 0), (2, .int 1)], [.int 0])) rfl ?_
      apply xe_callq pg_78 92 [.int 0] (.inl none) (4, [(0, .ref 0), (1, .int 0), (2, .int 1)], []) rfl (fun _ => rfl)
      · refine xe_sn pg_92 2 (fr' := (2, [(0, .int 0)], [.int 4, .int 0])) rfl ?_
        apply xe_callq pg_92 95 [.int 0, .int 4] (.inl none) (5, [(0, .int 0)], []) rfl (fun _ => rfl)
        · refine xe_sn pg_95 4 (fr' := (6, [(0, .int 0), (1, .int 4)], [.int 4, .int 0])) rfl ?_
          refine xe_sn pg_95 1 (fr' := (17, [(0, .int 0), (1, .int 4)], [])) rfl ?_
          exact xe_end pg_95 rfl
        exact xe_end pg_92 rfl
      refine xe_sn pg_78 1 (fr' := (5, [(0, .ref 0), (1, .int 0), (2, .int 1)], [.int 1])) rfl ?_
      apply xe_callq pg_78 94 [.int 1] (.inl none) (8, [(0, .ref 0), (1, .int 0), (2, .int 1)], []) rfl (fun _ => rfl)
      · refine xe_sn pg_94 1 (fr' := (1, [(0, .int 1)], [.int 1])) rfl ?_
        apply xe_callq pg_94 100 [.int 1] (.inl (some (.int 1))) (4, [(0, .int 1)], [.int 1]) rfl (fun _ => rfl)
        · refine xe_sn pg_100 4 (fr' := (6, [(0, .int 1)], [.int 1])) rfl ?_
          refine xe_sn pg_100 4 (fr' := (15, [(0, .int 1)], [.int 1])) rfl ?_
          exact xe_end pg_100 rfl
        refine xe_sn pg_94 1 (fr' := (15, [(0, .int 1)], [])) rfl ?_
        exact xe_end pg_94 rfl
      refine xe_sn pg_78 4 (fr' := (14, [(0, .ref 0), (1, .int 0), (2, .int 1)], [.ref 121])) rfl ?_
      refine xe_sn pg_78 4 (fr' := (20, [(0, .ref 0), (1, .int 0), (2, .int 1)], [.int 0, .ref 127])) rfl ?_
      refine xe_sn pg_78 4 (fr' := (26, [(3, .int 0), (0, .ref 0), (1, .int 0), (2, .int 1)], [.int 0])) rfl ?_
      refine xe_sn pg_78 2 (fr' := (34, [(3, .int 0), (0, .ref 0), (1, .int 0), (2, .int 1)], [.int 0])) rfl ?_
      apply xe_callqx pg_78 98 [.int 0] 2 rfl (fun _ => rfl)
      · refine xe_sn pg_98 2 (fr' := (4, [(0, .int 0)], [])) rfl ?_
        exact xe_end pg_98 rfl
    refine xe_sn pg_165 1 (fr' := (20, [(0, .ref 0), (1, .int 0), (2, .int 1), (3, .ref 189)], [.int 2])) rfl ?_
    exact xe_end pg_165 rfl
  refine And.intro ⟨rfl, rfl, rfl, rfl⟩ ?_
  apply And.intro
  · refine xe_sn pg_144 2 (fr' := (2, [(0, .ref 165), (1, .int 0), (2, .int 1)], [.int 0, .ref 165])) rfl ?_
    apply xe_callq pg_144 104 [.int 0] (.inl (some (.int 1))) (5, [(0, .ref 165), (1, .int 0), (2, .int 1)], [.int 1, .ref 165]) rfl (fun _ => rfl)
    · refine xe_sn pg_104 3 (fr' := (3, [(0, .int 0)], [.int 3, .int 0, .int 0])) rfl ?_
      apply xe_callq pg_104 103 [.int 0, .int 0, .int 3] (.inl (some (.int 1))) (6, [(0, .int 0)], [.int 1]) rfl (fun _ => rfl)
      · refine xe_sn pg_103 4 (fr' := (6, [(0, .int 0), (1, .int 0), (2, .int 3)], [.int 0])) rfl ?_
        refine xe_sn pg_103 4 (fr' := (15, [(0, .int 0), (1, .int 0), (2, .int 3)], [.int 1])) rfl ?_
        exact xe_end pg_103 rfl
      exact xe_end pg_104 rfl
    refine xe_sn pg_144 4 (fr' := (11, [(0, .ref 165), (1, .int 0), (2, .int 1)], [.int 3, .int 1, .int 1, .ref 165])) rfl ?_
    apply xe_callq pg_144 103 [.int 1, .int 1, .int 3] (.inl (some (.int 1))) (14, [(0, .ref 165), (1, .int 0), (2, .int 1)], [.int 1, .ref 165]) rfl (fun _ => rfl)
    · refine xe_sn pg_103 4 (fr' := (6, [(0, .int 1), (1, .int 1), (2, .int 3)], [.int 1])) rfl ?_
      refine xe_sn pg_103 4 (fr' := (15, [(0, .int 1), (1, .int 1), (2, .int 3)], [.int 1])) rfl ?_
      exact xe_end pg_103 rfl
    refine xe_sn pg_144 4 (fr' := (26, [(0, .ref 165), (1, .int 0), (2, .int 1)], [.ref 165])) rfl ?_
    refine xe_sn pg_144 4 (fr' := (34, [(0, .ref 165), (1, .int 0), (2, .int 1)], [.int 0, .int 3])) rfl ?_
    refine xe_sn pg_144 4 (fr' := (38, [(0, .ref 165), (1, .int 0), (2, .int 1)], [.int 1, .int 1])) rfl ?_
    refine xe_sn pg_144 4 (fr' := (45, [(3, .int 0), (0, .ref 165), (1, .int 0), (2, .int 1)], [.ref 165])) rfl ?_
    refine xe_sn pg_144 4 (fr' := (53, [(3, .int 0), (0, .ref 165), (1, .int 0), (2, .int 1)], [.ref 165, .ref 165])) rfl ?_
    refine xe_sn pg_144 4 (fr' := (61, [(3, .int 0), (0, .ref 165), (1, .int 0), (2, .int 1)], [.ref 165])) rfl ?_
    refine xe_sn pg_144 4 (fr' := (73, [(3, .int 0), (0, .ref 165), (1, .int 0), (2, .int 1)], [.ref 165])) rfl ?_
    refine xe_sn pg_144 3 (fr' := (80, [(3, .int 0), (0, .ref 165), (1, .int 0), (2, .int 1)], [.int 0])) rfl ?_
    exact xe_end pg_144 rfl
  · exact ⟨⟨rfl, rfl, rfl, rfl⟩, Nat.le_of_ble_eq_true rfl, Nat.le_of_ble_eq_true rfl, rfl, fun q => absurd q (by decide)⟩

set_option maxRecDepth 100000 in
theorem lf_end_5 (xs : Nat → Int32) : op_ok xs 165 144 [.ref 0, .int 0, .int 2, .ref 189] [.ref 165, .int 0, .int 2] := by
  refine ⟨2, 0, ?_⟩
  apply Exists.intro
  apply Exists.intro
  apply And.intro
  · refine xe_sn pg_165 4 (fr' := (4, [(0, .ref 0), (1, .int 0), (2, .int 2), (3, .ref 189)], [.int 0, .ref 0, .int 0, .ref 189])) rfl ?_
    refine xe_sn pg_165 1 (fr' := (5, [(0, .ref 0), (1, .int 0), (2, .int 2), (3, .ref 189)], [.int 2, .int 0, .ref 0, .int 0, .ref 189])) rfl ?_
    apply xe_callq pg_165 78 [.ref 0, .int 0, .int 2] (.inr 2) (19, [(0, .ref 0), (1, .int 0), (2, .int 2), (3, .ref 189)], []) rfl (fun _ => rfl)
    · refine xe_sn pg_78 1 (fr' := (1, [(0, .ref 0), (1, .int 0), (2, .int 2)], [.int 0])) rfl ?_
      apply xe_callq pg_78 92 [.int 0] (.inl none) (4, [(0, .ref 0), (1, .int 0), (2, .int 2)], []) rfl (fun _ => rfl)
      · refine xe_sn pg_92 2 (fr' := (2, [(0, .int 0)], [.int 4, .int 0])) rfl ?_
        apply xe_callq pg_92 95 [.int 0, .int 4] (.inl none) (5, [(0, .int 0)], []) rfl (fun _ => rfl)
        · refine xe_sn pg_95 4 (fr' := (6, [(0, .int 0), (1, .int 4)], [.int 4, .int 0])) rfl ?_
          refine xe_sn pg_95 1 (fr' := (17, [(0, .int 0), (1, .int 4)], [])) rfl ?_
          exact xe_end pg_95 rfl
        exact xe_end pg_92 rfl
      refine xe_sn pg_78 1 (fr' := (5, [(0, .ref 0), (1, .int 0), (2, .int 2)], [.int 2])) rfl ?_
      apply xe_callq pg_78 94 [.int 2] (.inl none) (8, [(0, .ref 0), (1, .int 0), (2, .int 2)], []) rfl (fun _ => rfl)
      · refine xe_sn pg_94 1 (fr' := (1, [(0, .int 2)], [.int 2])) rfl ?_
        apply xe_callq pg_94 100 [.int 2] (.inl (some (.int 1))) (4, [(0, .int 2)], [.int 1]) rfl (fun _ => rfl)
        · refine xe_sn pg_100 4 (fr' := (6, [(0, .int 2)], [.int 2])) rfl ?_
          refine xe_sn pg_100 4 (fr' := (15, [(0, .int 2)], [.int 1])) rfl ?_
          exact xe_end pg_100 rfl
        refine xe_sn pg_94 1 (fr' := (15, [(0, .int 2)], [])) rfl ?_
        exact xe_end pg_94 rfl
      refine xe_sn pg_78 4 (fr' := (14, [(0, .ref 0), (1, .int 0), (2, .int 2)], [.ref 121])) rfl ?_
      refine xe_sn pg_78 4 (fr' := (20, [(0, .ref 0), (1, .int 0), (2, .int 2)], [.int 1, .ref 127])) rfl ?_
      refine xe_sn pg_78 4 (fr' := (26, [(3, .int 0), (0, .ref 0), (1, .int 0), (2, .int 2)], [.int 0])) rfl ?_
      refine xe_sn pg_78 2 (fr' := (34, [(3, .int 0), (0, .ref 0), (1, .int 0), (2, .int 2)], [.int 0])) rfl ?_
      apply xe_callqx pg_78 98 [.int 0] 2 rfl (fun _ => rfl)
      · refine xe_sn pg_98 2 (fr' := (4, [(0, .int 0)], [])) rfl ?_
        exact xe_end pg_98 rfl
    refine xe_sn pg_165 1 (fr' := (20, [(0, .ref 0), (1, .int 0), (2, .int 2), (3, .ref 189)], [.int 2])) rfl ?_
    exact xe_end pg_165 rfl
  refine And.intro ⟨rfl, rfl, rfl, rfl⟩ ?_
  apply And.intro
  · refine xe_sn pg_144 2 (fr' := (2, [(0, .ref 165), (1, .int 0), (2, .int 2)], [.int 0, .ref 165])) rfl ?_
    apply xe_callq pg_144 104 [.int 0] (.inl (some (.int 1))) (5, [(0, .ref 165), (1, .int 0), (2, .int 2)], [.int 1, .ref 165]) rfl (fun _ => rfl)
    · refine xe_sn pg_104 3 (fr' := (3, [(0, .int 0)], [.int 3, .int 0, .int 0])) rfl ?_
      apply xe_callq pg_104 103 [.int 0, .int 0, .int 3] (.inl (some (.int 1))) (6, [(0, .int 0)], [.int 1]) rfl (fun _ => rfl)
      · refine xe_sn pg_103 4 (fr' := (6, [(0, .int 0), (1, .int 0), (2, .int 3)], [.int 0])) rfl ?_
        refine xe_sn pg_103 4 (fr' := (15, [(0, .int 0), (1, .int 0), (2, .int 3)], [.int 1])) rfl ?_
        exact xe_end pg_103 rfl
      exact xe_end pg_104 rfl
    refine xe_sn pg_144 4 (fr' := (11, [(0, .ref 165), (1, .int 0), (2, .int 2)], [.int 3, .int 1, .int 2, .ref 165])) rfl ?_
    apply xe_callq pg_144 103 [.int 2, .int 1, .int 3] (.inl (some (.int 1))) (14, [(0, .ref 165), (1, .int 0), (2, .int 2)], [.int 1, .ref 165]) rfl (fun _ => rfl)
    · refine xe_sn pg_103 4 (fr' := (6, [(0, .int 2), (1, .int 1), (2, .int 3)], [.int 2])) rfl ?_
      refine xe_sn pg_103 4 (fr' := (15, [(0, .int 2), (1, .int 1), (2, .int 3)], [.int 1])) rfl ?_
      exact xe_end pg_103 rfl
    refine xe_sn pg_144 4 (fr' := (26, [(0, .ref 165), (1, .int 0), (2, .int 2)], [.ref 165])) rfl ?_
    refine xe_sn pg_144 4 (fr' := (34, [(0, .ref 165), (1, .int 0), (2, .int 2)], [.int 0, .int 3])) rfl ?_
    refine xe_sn pg_144 4 (fr' := (38, [(0, .ref 165), (1, .int 0), (2, .int 2)], [.int 1, .int 2])) rfl ?_
    refine xe_sn pg_144 4 (fr' := (45, [(3, .int 1), (0, .ref 165), (1, .int 0), (2, .int 2)], [.ref 165])) rfl ?_
    refine xe_sn pg_144 4 (fr' := (53, [(3, .int 1), (0, .ref 165), (1, .int 0), (2, .int 2)], [.ref 165, .ref 165])) rfl ?_
    refine xe_sn pg_144 4 (fr' := (61, [(3, .int 1), (0, .ref 165), (1, .int 0), (2, .int 2)], [.ref 165])) rfl ?_
    refine xe_sn pg_144 4 (fr' := (73, [(3, .int 1), (0, .ref 165), (1, .int 0), (2, .int 2)], [.ref 165])) rfl ?_
    refine xe_sn pg_144 3 (fr' := (80, [(3, .int 1), (0, .ref 165), (1, .int 0), (2, .int 2)], [.int 0])) rfl ?_
    exact xe_end pg_144 rfl
  · exact ⟨⟨rfl, rfl, rfl, rfl⟩, Nat.le_of_ble_eq_true rfl, Nat.le_of_ble_eq_true rfl, rfl, fun q => absurd q (by decide)⟩

set_option maxRecDepth 100000 in
theorem lf_end_6 (xs : Nat → Int32) : op_ok xs 165 144 [.ref 0, .int 0, .int 3, .ref 189] [.ref 165, .int 0, .int 3] := by
  refine ⟨2, 0, ?_⟩
  apply Exists.intro
  apply Exists.intro
  apply And.intro
  · refine xe_sn pg_165 4 (fr' := (4, [(0, .ref 0), (1, .int 0), (2, .int 3), (3, .ref 189)], [.int 0, .ref 0, .int 0, .ref 189])) rfl ?_
    refine xe_sn pg_165 1 (fr' := (5, [(0, .ref 0), (1, .int 0), (2, .int 3), (3, .ref 189)], [.int 3, .int 0, .ref 0, .int 0, .ref 189])) rfl ?_
    apply xe_callq pg_165 78 [.ref 0, .int 0, .int 3] (.inr 2) (19, [(0, .ref 0), (1, .int 0), (2, .int 3), (3, .ref 189)], []) rfl (fun _ => rfl)
    · refine xe_sn pg_78 1 (fr' := (1, [(0, .ref 0), (1, .int 0), (2, .int 3)], [.int 0])) rfl ?_
      apply xe_callq pg_78 92 [.int 0] (.inl none) (4, [(0, .ref 0), (1, .int 0), (2, .int 3)], []) rfl (fun _ => rfl)
      · refine xe_sn pg_92 2 (fr' := (2, [(0, .int 0)], [.int 4, .int 0])) rfl ?_
        apply xe_callq pg_92 95 [.int 0, .int 4] (.inl none) (5, [(0, .int 0)], []) rfl (fun _ => rfl)
        · refine xe_sn pg_95 4 (fr' := (6, [(0, .int 0), (1, .int 4)], [.int 4, .int 0])) rfl ?_
          refine xe_sn pg_95 1 (fr' := (17, [(0, .int 0), (1, .int 4)], [])) rfl ?_
          exact xe_end pg_95 rfl
        exact xe_end pg_92 rfl
      refine xe_sn pg_78 1 (fr' := (5, [(0, .ref 0), (1, .int 0), (2, .int 3)], [.int 3])) rfl ?_
      apply xe_callq pg_78 94 [.int 3] (.inl none) (8, [(0, .ref 0), (1, .int 0), (2, .int 3)], []) rfl (fun _ => rfl)
      · refine xe_sn pg_94 1 (fr' := (1, [(0, .int 3)], [.int 3])) rfl ?_
        apply xe_callq pg_94 100 [.int 3] (.inl (some (.int 1))) (4, [(0, .int 3)], [.int 1]) rfl (fun _ => rfl)
        · refine xe_sn pg_100 4 (fr' := (6, [(0, .int 3)], [.int 3])) rfl ?_
          refine xe_sn pg_100 4 (fr' := (15, [(0, .int 3)], [.int 1])) rfl ?_
          exact xe_end pg_100 rfl
        refine xe_sn pg_94 1 (fr' := (15, [(0, .int 3)], [])) rfl ?_
        exact xe_end pg_94 rfl
      refine xe_sn pg_78 4 (fr' := (14, [(0, .ref 0), (1, .int 0), (2, .int 3)], [.ref 121])) rfl ?_
      refine xe_sn pg_78 4 (fr' := (20, [(0, .ref 0), (1, .int 0), (2, .int 3)], [.int 2, .ref 127])) rfl ?_
      refine xe_sn pg_78 4 (fr' := (26, [(3, .int 0), (0, .ref 0), (1, .int 0), (2, .int 3)], [.int 0])) rfl ?_
      refine xe_sn pg_78 2 (fr' := (34, [(3, .int 0), (0, .ref 0), (1, .int 0), (2, .int 3)], [.int 0])) rfl ?_
      apply xe_callqx pg_78 98 [.int 0] 2 rfl (fun _ => rfl)
      · refine xe_sn pg_98 2 (fr' := (4, [(0, .int 0)], [])) rfl ?_
        exact xe_end pg_98 rfl
    refine xe_sn pg_165 1 (fr' := (20, [(0, .ref 0), (1, .int 0), (2, .int 3), (3, .ref 189)], [.int 2])) rfl ?_
    exact xe_end pg_165 rfl
  refine And.intro ⟨rfl, rfl, rfl, rfl⟩ ?_
  apply And.intro
  · refine xe_sn pg_144 2 (fr' := (2, [(0, .ref 165), (1, .int 0), (2, .int 3)], [.int 0, .ref 165])) rfl ?_
    apply xe_callq pg_144 104 [.int 0] (.inl (some (.int 1))) (5, [(0, .ref 165), (1, .int 0), (2, .int 3)], [.int 1, .ref 165]) rfl (fun _ => rfl)
    · refine xe_sn pg_104 3 (fr' := (3, [(0, .int 0)], [.int 3, .int 0, .int 0])) rfl ?_
      apply xe_callq pg_104 103 [.int 0, .int 0, .int 3] (.inl (some (.int 1))) (6, [(0, .int 0)], [.int 1]) rfl (fun _ => rfl)
      · refine xe_sn pg_103 4 (fr' := (6, [(0, .int 0), (1, .int 0), (2, .int 3)], [.int 0])) rfl ?_
        refine xe_sn pg_103 4 (fr' := (15, [(0, .int 0), (1, .int 0), (2, .int 3)], [.int 1])) rfl ?_
        exact xe_end pg_103 rfl
      exact xe_end pg_104 rfl
    refine xe_sn pg_144 4 (fr' := (11, [(0, .ref 165), (1, .int 0), (2, .int 3)], [.int 3, .int 1, .int 3, .ref 165])) rfl ?_
    apply xe_callq pg_144 103 [.int 3, .int 1, .int 3] (.inl (some (.int 1))) (14, [(0, .ref 165), (1, .int 0), (2, .int 3)], [.int 1, .ref 165]) rfl (fun _ => rfl)
    · refine xe_sn pg_103 4 (fr' := (6, [(0, .int 3), (1, .int 1), (2, .int 3)], [.int 3])) rfl ?_
      refine xe_sn pg_103 4 (fr' := (15, [(0, .int 3), (1, .int 1), (2, .int 3)], [.int 1])) rfl ?_
      exact xe_end pg_103 rfl
    refine xe_sn pg_144 4 (fr' := (26, [(0, .ref 165), (1, .int 0), (2, .int 3)], [.ref 165])) rfl ?_
    refine xe_sn pg_144 4 (fr' := (34, [(0, .ref 165), (1, .int 0), (2, .int 3)], [.int 0, .int 3])) rfl ?_
    refine xe_sn pg_144 4 (fr' := (38, [(0, .ref 165), (1, .int 0), (2, .int 3)], [.int 1, .int 3])) rfl ?_
    refine xe_sn pg_144 4 (fr' := (45, [(3, .int 2), (0, .ref 165), (1, .int 0), (2, .int 3)], [.ref 165])) rfl ?_
    refine xe_sn pg_144 4 (fr' := (53, [(3, .int 2), (0, .ref 165), (1, .int 0), (2, .int 3)], [.ref 165, .ref 165])) rfl ?_
    refine xe_sn pg_144 4 (fr' := (61, [(3, .int 2), (0, .ref 165), (1, .int 0), (2, .int 3)], [.ref 165])) rfl ?_
    refine xe_sn pg_144 4 (fr' := (73, [(3, .int 2), (0, .ref 165), (1, .int 0), (2, .int 3)], [.ref 165])) rfl ?_
    refine xe_sn pg_144 3 (fr' := (80, [(3, .int 2), (0, .ref 165), (1, .int 0), (2, .int 3)], [.int 0])) rfl ?_
    exact xe_end pg_144 rfl
  · exact ⟨⟨rfl, rfl, rfl, rfl⟩, Nat.le_of_ble_eq_true rfl, Nat.le_of_ble_eq_true rfl, rfl, fun q => absurd q (by decide)⟩

set_option maxRecDepth 100000 in
theorem lf_end_7 (xs : Nat → Int32) (p1 : Int32) (a1 : p1.toInt < 1) : op_ok xs 165 144 [.ref 0, .int 1, .int p1, .ref 189] [.ref 165, .int 1, .int p1] := by
  refine ⟨1, 0, ?_⟩
  apply Exists.intro
  apply Exists.intro
  apply And.intro
  · refine xe_sn pg_165 4 (fr' := (4, [(0, .ref 0), (1, .int 1), (2, .int p1), (3, .ref 189)], [.int 1, .ref 0, .int 0, .ref 189])) rfl ?_
    refine xe_sn pg_165 1 (fr' := (5, [(0, .ref 0), (1, .int 1), (2, .int p1), (3, .ref 189)], [.int p1, .int 1, .ref 0, .int 0, .ref 189])) rfl ?_
    apply xe_callq pg_165 78 [.ref 0, .int 1, .int p1] (.inr 0) (15, [(0, .ref 0), (1, .int 1), (2, .int p1), (3, .ref 189)], []) rfl (fun _ => rfl)
    · refine xe_sn pg_78 1 (fr' := (1, [(0, .ref 0), (1, .int 1), (2, .int p1)], [.int 1])) rfl ?_
      apply xe_callq pg_78 92 [.int 1] (.inl none) (4, [(0, .ref 0), (1, .int 1), (2, .int p1)], []) rfl (fun _ => rfl)
      · refine xe_sn pg_92 2 (fr' := (2, [(0, .int 1)], [.int 4, .int 1])) rfl ?_
        apply xe_callq pg_92 95 [.int 1, .int 4] (.inl none) (5, [(0, .int 1)], []) rfl (fun _ => rfl)
        · refine xe_sn pg_95 4 (fr' := (6, [(0, .int 1), (1, .int 4)], [.int 4, .int 1])) rfl ?_
          refine xe_sn pg_95 1 (fr' := (17, [(0, .int 1), (1, .int 4)], [])) rfl ?_
          exact xe_end pg_95 rfl
        exact xe_end pg_92 rfl
      refine xe_sn pg_78 1 (fr' := (5, [(0, .ref 0), (1, .int 1), (2, .int p1)], [.int p1])) rfl ?_
      apply xe_callqx pg_78 94 [.int p1] 0 rfl (fun _ => rfl)
      · refine xe_sn pg_94 1 (fr' := (1, [(0, .int p1)], [.int p1])) rfl ?_
        apply xe_callq pg_94 100 [.int p1] (.inl (some (.int 0))) (4, [(0, .int p1)], [.int 0]) rfl (fun _ => rfl)
        · refine xe_sn pg_100 2 (fr' := (2, [(0, .int p1)], [.int 1, .int p1])) rfl ?_
          refine xe_t2 pg_100 14 rfl rfl (by show (p1).toInt < 1; omega) ?_
          refine xe_sn pg_100 1 (fr' := (15, [(0, .int p1)], [.int 0])) rfl ?_
          exact xe_end pg_100 rfl
        refine xe_sn pg_94 1 (fr' := (7, [(0, .int p1)], [])) rfl ?_
        exact xe_end pg_94 rfl
    refine xe_sn pg_165 1 (fr' := (16, [(0, .ref 0), (1, .int 1), (2, .int p1), (3, .ref 189)], [.int 1])) rfl ?_
    exact xe_end pg_165 rfl
  refine And.intro ⟨rfl, rfl, rfl, rfl⟩ ?_
  apply And.intro
  · refine xe_sn pg_144 2 (fr' := (2, [(0, .ref 165), (1, .int 1), (2, .int p1)], [.int 1, .ref 165])) rfl ?_
    apply xe_callq pg_144 104 [.int 1] (.inl (some (.int 1))) (5, [(0, .ref 165), (1, .int 1), (2, .int p1)], [.int 1, .ref 165]) rfl (fun _ => rfl)
    · refine xe_sn pg_104 3 (fr' := (3, [(0, .int 1)], [.int 3, .int 0, .int 1])) rfl ?_
      apply xe_callq pg_104 103 [.int 1, .int 0, .int 3] (.inl (some (.int 1))) (6, [(0, .int 1)], [.int 1]) rfl (fun _ => rfl)
      · refine xe_sn pg_103 4 (fr' := (6, [(0, .int 1), (1, .int 0), (2, .int 3)], [.int 1])) rfl ?_
        refine xe_sn pg_103 4 (fr' := (15, [(0, .int 1), (1, .int 0), (2, .int 3)], [.int 1])) rfl ?_
        exact xe_end pg_103 rfl
      exact xe_end pg_104 rfl
    refine xe_sn pg_144 4 (fr' := (11, [(0, .ref 165), (1, .int 1), (2, .int p1)], [.int 3, .int 1, .int p1, .ref 165])) rfl ?_
    apply xe_callq pg_144 103 [.int p1, .int 1, .int 3] (.inl (some (.int 0))) (14, [(0, .ref 165), (1, .int 1), (2, .int p1)], [.int 0, .ref 165]) rfl (fun _ => rfl)
    · refine xe_sn pg_103 2 (fr' := (2, [(0, .int p1), (1, .int 1), (2, .int 3)], [.int 1, .int p1])) rfl ?_
      refine xe_t2 pg_103 14 rfl rfl (by show (p1).toInt < 1; omega) ?_
      refine xe_sn pg_103 1 (fr' := (15, [(0, .int p1), (1, .int 1), (2, .int 3)], [.int 0])) rfl ?_
      exact xe_end pg_103 rfl
    refine xe_sn pg_144 4 (fr' := (25, [(0, .ref 165), (1, .int 1), (2, .int p1)], [])) rfl ?_
    refine xe_sn pg_144 4 (fr' := (43, [(0, .ref 165), (1, .int 1), (2, .int p1)], [.int 0])) rfl ?_
    refine xe_sn pg_144 4 (fr' := (49, [(3, .int 0), (0, .ref 165), (1, .int 1), (2, .int p1)], [.int 1, .ref 165])) rfl ?_
    refine xe_sn pg_144 4 (fr' := (72, [(3, .int 0), (0, .ref 165), (1, .int 1), (2, .int p1)], [])) rfl ?_
    refine xe_sn pg_144 4 (fr' := (80, [(3, .int 0), (0, .ref 165), (1, .int 1), (2, .int p1)], [.int 0])) rfl ?_
    exact xe_end pg_144 rfl
  · exact ⟨⟨rfl, rfl, rfl, rfl⟩, Nat.le_of_ble_eq_true rfl, Nat.le_of_ble_eq_true rfl, rfl, fun q => absurd q (by decide)⟩

set_option maxRecDepth 100000 in
theorem lf_end_8 (xs : Nat → Int32) (p1 : Int32) (b1 : 3 < p1.toInt) : op_ok xs 165 144 [.ref 0, .int 1, .int p1, .ref 189] [.ref 165, .int 1, .int p1] := by
  refine ⟨1, 0, ?_⟩
  apply Exists.intro
  apply Exists.intro
  apply And.intro
  · refine xe_sn pg_165 4 (fr' := (4, [(0, .ref 0), (1, .int 1), (2, .int p1), (3, .ref 189)], [.int 1, .ref 0, .int 0, .ref 189])) rfl ?_
    refine xe_sn pg_165 1 (fr' := (5, [(0, .ref 0), (1, .int 1), (2, .int p1), (3, .ref 189)], [.int p1, .int 1, .ref 0, .int 0, .ref 189])) rfl ?_
    apply xe_callq pg_165 78 [.ref 0, .int 1, .int p1] (.inr 0) (15, [(0, .ref 0), (1, .int 1), (2, .int p1), (3, .ref 189)], []) rfl (fun _ => rfl)
    · refine xe_sn pg_78 1 (fr' := (1, [(0, .ref 0), (1, .int 1), (2, .int p1)], [.int 1])) rfl ?_
      apply xe_callq pg_78 92 [.int 1] (.inl none) (4, [(0, .ref 0), (1, .int 1), (2, .int p1)], []) rfl (fun _ => rfl)
      · refine xe_sn pg_92 2 (fr' := (2, [(0, .int 1)], [.int 4, .int 1])) rfl ?_
        apply xe_callq pg_92 95 [.int 1, .int 4] (.inl none) (5, [(0, .int 1)], []) rfl (fun _ => rfl)
        · refine xe_sn pg_95 4 (fr' := (6, [(0, .int 1), (1, .int 4)], [.int 4, .int 1])) rfl ?_
          refine xe_sn pg_95 1 (fr' := (17, [(0, .int 1), (1, .int 4)], [])) rfl ?_
          exact xe_end pg_95 rfl
        exact xe_end pg_92 rfl
      refine xe_sn pg_78 1 (fr' := (5, [(0, .ref 0), (1, .int 1), (2, .int p1)], [.int p1])) rfl ?_
      apply xe_callqx pg_78 94 [.int p1] 0 rfl (fun _ => rfl)
      · refine xe_sn pg_94 1 (fr' := (1, [(0, .int p1)], [.int p1])) rfl ?_
        apply xe_callq pg_94 100 [.int p1] (.inl (some (.int 0))) (4, [(0, .int p1)], [.int 0]) rfl (fun _ => rfl)
        · refine xe_sn pg_100 2 (fr' := (2, [(0, .int p1)], [.int 1, .int p1])) rfl ?_
          refine xe_f2 pg_100 14 rfl rfl (by show ¬ ((p1).toInt < 1); omega) ?_
          refine xe_sn pg_100 2 (fr' := (7, [(0, .int p1)], [.int 3, .int p1])) rfl ?_
          refine xe_t2 pg_100 14 rfl rfl (by show 3 < (p1).toInt; omega) ?_
          refine xe_sn pg_100 1 (fr' := (15, [(0, .int p1)], [.int 0])) rfl ?_
          exact xe_end pg_100 rfl
        refine xe_sn pg_94 1 (fr' := (7, [(0, .int p1)], [])) rfl ?_
        exact xe_end pg_94 rfl
    refine xe_sn pg_165 1 (fr' := (16, [(0, .ref 0), (1, .int 1), (2, .int p1), (3, .ref 189)], [.int 1])) rfl ?_
    exact xe_end pg_165 rfl
  refine And.intro ⟨rfl, rfl, rfl, rfl⟩ ?_
  apply And.intro
  · refine xe_sn pg_144 2 (fr' := (2, [(0, .ref 165), (1, .int 1), (2, .int p1)], [.int 1, .ref 165])) rfl ?_
    apply xe_callq pg_144 104 [.int 1] (.inl (some (.int 1))) (5, [(0, .ref 165), (1, .int 1), (2, .int p1)], [.int 1, .ref 165]) rfl (fun _ => rfl)
    · refine xe_sn pg_104 3 (fr' := (3, [(0, .int 1)], [.int 3, .int 0, .int 1])) rfl ?_
      apply xe_callq pg_104 103 [.int 1, .int 0, .int 3] (.inl (some (.int 1))) (6, [(0, .int 1)], [.int 1]) rfl (fun _ => rfl)
      · refine xe_sn pg_103 4 (fr' := (6, [(0, .int 1), (1, .int 0), (2, .int 3)], [.int 1])) rfl ?_
        refine xe_sn pg_103 4 (fr' := (15, [(0, .int 1), (1, .int 0), (2, .int 3)], [.int 1])) rfl ?_
        exact xe_end pg_103 rfl
      exact xe_end pg_104 rfl
    refine xe_sn pg_144 4 (fr' := (11, [(0, .ref 165), (1, .int 1), (2, .int p1)], [.int 3, .int 1, .int p1, .ref 165])) rfl ?_
    apply xe_callq pg_144 103 [.int p1, .int 1, .int 3] (.inl (some (.int 0))) (14, [(0, .ref 165), (1, .int 1), (2, .int p1)], [.int 0, .ref 165]) rfl (fun _ => rfl)
    · refine xe_sn pg_103 2 (fr' := (2, [(0, .int p1), (1, .int 1), (2, .int 3)], [.int 1, .int p1])) rfl ?_
      refine xe_f2 pg_103 14 rfl rfl (by show ¬ ((p1).toInt < 1); omega) ?_
      refine xe_sn pg_103 2 (fr' := (7, [(0, .int p1), (1, .int 1), (2, .int 3)], [.int 3, .int p1])) rfl ?_
      refine xe_t2 pg_103 14 rfl rfl (by show 3 < (p1).toInt; omega) ?_
      refine xe_sn pg_103 1 (fr' := (15, [(0, .int p1), (1, .int 1), (2, .int 3)], [.int 0])) rfl ?_
      exact xe_end pg_103 rfl
    refine xe_sn pg_144 4 (fr' := (25, [(0, .ref 165), (1, .int 1), (2, .int p1)], [])) rfl ?_
    refine xe_sn pg_144 4 (fr' := (43, [(0, .ref 165), (1, .int 1), (2, .int p1)], [.int 0])) rfl ?_
    refine xe_sn pg_144 4 (fr' := (49, [(3, .int 0), (0, .ref 165), (1, .int 1), (2, .int p1)], [.int 1, .ref 165])) rfl ?_
    refine xe_sn pg_144 4 (fr' := (72, [(3, .int 0), (0, .ref 165), (1, .int 1), (2, .int p1)], [])) rfl ?_
    refine xe_sn pg_144 4 (fr' := (80, [(3, .int 0), (0, .ref 165), (1, .int 1), (2, .int p1)], [.int 0])) rfl ?_
    exact xe_end pg_144 rfl
  · exact ⟨⟨rfl, rfl, rfl, rfl⟩, Nat.le_of_ble_eq_true rfl, Nat.le_of_ble_eq_true rfl, rfl, fun q => absurd q (by decide)⟩

set_option maxRecDepth 100000 in
theorem lf_end_9 (xs : Nat → Int32) : op_ok xs 165 144 [.ref 0, .int 1, .int 1, .ref 189] [.ref 165, .int 1, .int 1] := by
  refine ⟨2, 0, ?_⟩
  apply Exists.intro
  apply Exists.intro
  apply And.intro
  · refine xe_sn pg_165 4 (fr' := (4, [(0, .ref 0), (1, .int 1), (2, .int 1), (3, .ref 189)], [.int 1, .ref 0, .int 0, .ref 189])) rfl ?_
    refine xe_sn pg_165 1 (fr' := (5, [(0, .ref 0), (1, .int 1), (2, .int 1), (3, .ref 189)], [.int 1, .int 1, .ref 0, .int 0, .ref 189])) rfl ?_
    apply xe_callq pg_165 78 [.ref 0, .int 1, .int 1] (.inr 2) (19, [(0, .ref 0), (1, .int 1), (2, .int 1), (3, .ref 189)], []) rfl (fun _ => rfl)
    · refine xe_sn pg_78 1 (fr' := (1, [(0, .ref 0), (1, .int 1), (2, .int 1)], [.int 1])) rfl ?_
      apply xe_callq pg_78 92 [.int 1] (.inl none) (4, [(0, .ref 0), (1, .int 1), (2, .int 1)], []) rfl (fun _ => rfl)
      · refine xe_sn pg_92 2 (fr' := (2, [(0, .int 1)], [.int 4, .int 1])) rfl ?_
        apply xe_callq pg_92 95 [.int 1, .int 4] (.inl none) (5, [(0, .int 1)], []) rfl (fun _ => rfl)
        · refine xe_sn pg_95 4 (fr' := (6, [(0, .int 1), (1, .int 4)], [.int 4, .int 1])) rfl ?_
          refine xe_sn pg_95 1 (fr' := (17, [(0, .int 1), (1, .int 4)], [])) rfl ?_
          exact xe_end pg_95 rfl
        exact xe_end pg_92 rfl
      refine xe_sn pg_78 1 (fr' := (5, [(0, .ref 0), (1, .int 1), (2, .int 1)], [.int 1])) rfl ?_
      apply xe_callq pg_78 94 [.int 1] (.inl none) (8, [(0, .ref 0), (1, .int 1), (2, .int 1)], []) rfl (fun _ => rfl)
      · refine xe_sn pg_94 1 (fr' := (1, [(0, .int 1)], [.int 1])) rfl ?_
        apply xe_callq pg_94 100 [.int 1] (.inl (some (.int 1))) (4, [(0, .int 1)], [.int 1]) rfl (fun _ => rfl)
        · refine xe_sn pg_100 4 (fr' := (6, [(0, .int 1)], [.int 1])) rfl ?_
          refine xe_sn pg_100 4 (fr' := (15, [(0, .int 1)], [.int 1])) rfl ?_
          exact xe_end pg_100 rfl
        refine xe_sn pg_94 1 (fr' := (15, [(0, .int 1)], [])) rfl ?_
        exact xe_end pg_94 rfl
      refine xe_sn pg_78 4 (fr' := (14, [(0, .ref 0), (1, .int 1), (2, .int 1)], [.ref 132])) rfl ?_
      refine xe_sn pg_78 4 (fr' := (20, [(0, .ref 0), (1, .int 1), (2, .int 1)], [.int 0, .ref 138])) rfl ?_
      refine xe_sn pg_78 4 (fr' := (26, [(3, .int 0), (0, .ref 0), (1, .int 1), (2, .int 1)], [.int 0])) rfl ?_
      refine xe_sn pg_78 2 (fr' := (34, [(3, .int 0), (0, .ref 0), (1, .int 1), (2, .int 1)], [.int 0])) rfl ?_
      apply xe_callqx pg_78 98 [.int 0] 2 rfl (fun _ => rfl)
      · refine xe_sn pg_98 2 (fr' := (4, [(0, .int 0)], [])) rfl ?_
        exact xe_end pg_98 rfl
    refine xe_sn pg_165 1 (fr' := (20, [(0, .ref 0), (1, .int 1), (2, .int 1), (3, .ref 189)], [.int 2])) rfl ?_
    exact xe_end pg_165 rfl
  refine And.intro ⟨rfl, rfl, rfl, rfl⟩ ?_
  apply And.intro
  · refine xe_sn pg_144 2 (fr' := (2, [(0, .ref 165), (1, .int 1), (2, .int 1)], [.int 1, .ref 165])) rfl ?_
    apply xe_callq pg_144 104 [.int 1] (.inl (some (.int 1))) (5, [(0, .ref 165), (1, .int 1), (2, .int 1)], [.int 1, .ref 165]) rfl (fun _ => rfl)
    · refine xe_sn pg_104 3 (fr' := (3, [(0, .int 1)], [.int 3, .int 0, .int 1])) rfl ?_
      apply xe_callq pg_104 103 [.int 1, .int 0, .int 3] (.inl (some (.int 1))) (6, [(0, .int 1)], [.int 1]) rfl (fun _ => rfl)
      · refine xe_sn pg_103 4 (fr' := (6, [(0, .int 1), (1, .int 0), (2, .int 3)], [.int 1])) rfl ?_
        refine xe_sn pg_103 4 (fr' := (15, [(0, .int 1), (1, .int 0), (2, .int 3)], [.int 1])) rfl ?_
        exact xe_end pg_103 rfl
      exact xe_end pg_104 rfl
    refine xe_sn pg_144 4 (fr' := (11, [(0, .ref 165), (1, .int 1), (2, .int 1)], [.int 3, .int 1, .int 1, .ref 165])) rfl ?_
    apply xe_callq pg_144 103 [.int 1, .int 1, .int 3] (.inl (some (.int 1))) (14, [(0, .ref 165), (1, .int 1), (2, .int 1)], [.int 1, .ref 165]) rfl (fun _ => rfl)
    · refine xe_sn pg_103 4 (fr' := (6, [(0, .int 1), (1, .int 1), (2, .int 3)], [.int 1])) rfl ?_
      refine xe_sn pg_103 4 (fr' := (15, [(0, .int 1), (1, .int 1), (2, .int 3)], [.int 1])) rfl ?_
      exact xe_end pg_103 rfl
    refine xe_sn pg_144 4 (fr' := (26, [(0, .ref 165), (1, .int 1), (2, .int 1)], [.ref 165])) rfl ?_
    refine xe_sn pg_144 4 (fr' := (34, [(0, .ref 165), (1, .int 1), (2, .int 1)], [.int 1, .int 3])) rfl ?_
    refine xe_sn pg_144 4 (fr' := (38, [(0, .ref 165), (1, .int 1), (2, .int 1)], [.int 1, .int 4])) rfl ?_
    refine xe_sn pg_144 4 (fr' := (45, [(3, .int 3), (0, .ref 165), (1, .int 1), (2, .int 1)], [.ref 165])) rfl ?_
    refine xe_sn pg_144 4 (fr' := (53, [(3, .int 3), (0, .ref 165), (1, .int 1), (2, .int 1)], [.ref 165, .ref 165])) rfl ?_
    refine xe_sn pg_144 4 (fr' := (61, [(3, .int 3), (0, .ref 165), (1, .int 1), (2, .int 1)], [.ref 165])) rfl ?_
    refine xe_sn pg_144 4 (fr' := (73, [(3, .int 3), (0, .ref 165), (1, .int 1), (2, .int 1)], [.ref 165])) rfl ?_
    refine xe_sn pg_144 3 (fr' := (80, [(3, .int 3), (0, .ref 165), (1, .int 1), (2, .int 1)], [.int 0])) rfl ?_
    exact xe_end pg_144 rfl
  · exact ⟨⟨rfl, rfl, rfl, rfl⟩, Nat.le_of_ble_eq_true rfl, Nat.le_of_ble_eq_true rfl, rfl, fun q => absurd q (by decide)⟩

set_option maxRecDepth 100000 in
theorem lf_end_10 (xs : Nat → Int32) : op_ok xs 165 144 [.ref 0, .int 1, .int 2, .ref 189] [.ref 165, .int 1, .int 2] := by
  refine ⟨2, 0, ?_⟩
  apply Exists.intro
  apply Exists.intro
  apply And.intro
  · refine xe_sn pg_165 4 (fr' := (4, [(0, .ref 0), (1, .int 1), (2, .int 2), (3, .ref 189)], [.int 1, .ref 0, .int 0, .ref 189])) rfl ?_
    refine xe_sn pg_165 1 (fr' := (5, [(0, .ref 0), (1, .int 1), (2, .int 2), (3, .ref 189)], [.int 2, .int 1, .ref 0, .int 0, .ref 189])) rfl ?_
    apply xe_callq pg_165 78 [.ref 0, .int 1, .int 2] (.inr 2) (19, [(0, .ref 0), (1, .int 1), (2, .int 2), (3, .ref 189)], []) rfl (fun _ => rfl)
    · refine xe_sn pg_78 1 (fr' := (1, [(0, .ref 0), (1, .int 1), (2, .int 2)], [.int 1])) rfl ?_
      apply xe_callq pg_78 92 [.int 1] (.inl none) (4, [(0, .ref 0), (1, .int 1), (2, .int 2)], []) rfl (fun _ => rfl)
      · refine xe_sn pg_92 2 (fr' := (2, [(0, .int 1)], [.int 4, .int 1])) rfl ?_
        apply xe_callq pg_92 95 [.int 1, .int 4] (.inl none) (5, [(0, .int 1)], []) rfl (fun _ => rfl)
        · refine xe_sn pg_95 4 (fr' := (6, [(0, .int 1), (1, .int 4)], [.int 4, .int 1])) rfl ?_
          refine xe_sn pg_95 1 (fr' := (17, [(0, .int 1), (1, .int 4)], [])) rfl ?_
          exact xe_end pg_95 rfl
        exact xe_end pg_92 rfl
      refine xe_sn pg_78 1 (fr' := (5, [(0, .ref 0), (1, .int 1), (2, .int 2)], [.int 2])) rfl ?_
      apply xe_callq pg_78 94 [.int 2] (.inl none) (8, [(0, .ref 0), (1, .int 1), (2, .int 2)], []) rfl (fun _ => rfl)
      · refine xe_sn pg_94 1 (fr' := (1, [(0, .int 2)], [.int 2])) rfl ?_
        apply xe_callq pg_94 100 [.int 2] (.inl (some (.int 1))) (4, [(0, .int 2)], [.int 1]) rfl (fun _ => rfl)
        · refine xe_sn pg_100 4 (fr' := (6, [(0, .int 2)], [.int 2])) rfl ?_
          refine xe_sn pg_100 4 (fr' := (15, [(0, .int 2)], [.int 1])) rfl ?_
          exact xe_end pg_100 rfl
        refine xe_sn pg_94 1 (fr' := (15, [(0, .int 2)], [])) rfl ?_
        exact xe_end pg_94 rfl
      refine xe_sn pg_78 4 (fr' := (14, [(0, .ref 0), (1, .int 1), (2, .int 2)], [.ref 132])) rfl ?_
      refine xe_sn pg_78 4 (fr' := (20, [(0, .ref 0), (1, .int 1), (2, .int 2)], [.int 1, .ref 138])) rfl ?_
      refine xe_sn pg_78 4 (fr' := (26, [(3, .int 0), (0, .ref 0), (1, .int 1), (2, .int 2)], [.int 0])) rfl ?_
      refine xe_sn pg_78 2 (fr' := (34, [(3, .int 0), (0, .ref 0), (1, .int 1), (2, .int 2)], [.int 0])) rfl ?_
      apply xe_callqx pg_78 98 [.int 0] 2 rfl (fun _ => rfl)
      · refine xe_sn pg_98 2 (fr' := (4, [(0, .int 0)], [])) rfl ?_
        exact xe_end pg_98 rfl
    refine xe_sn pg_165 1 (fr' := (20, [(0, .ref 0), (1, .int 1), (2, .int 2), (3, .ref 189)], [.int 2])) rfl ?_
    exact xe_end pg_165 rfl
  refine And.intro ⟨rfl, rfl, rfl, rfl⟩ ?_
  apply And.intro
  · refine xe_sn pg_144 2 (fr' := (2, [(0, .ref 165), (1, .int 1), (2, .int 2)], [.int 1, .ref 165])) rfl ?_
    apply xe_callq pg_144 104 [.int 1] (.inl (some (.int 1))) (5, [(0, .ref 165), (1, .int 1), (2, .int 2)], [.int 1, .ref 165]) rfl (fun _ => rfl)
    · refine xe_sn pg_104 3 (fr' := (3, [(0, .int 1)], [.int 3, .int 0, .int 1])) rfl ?_
      apply xe_callq pg_104 103 [.int 1, .int 0, .int 3] (.inl (some (.int 1))) (6, [(0, .int 1)], [.int 1]) rfl (fun _ => rfl)
      · refine xe_sn pg_103 4 (fr' := (6, [(0, .int 1), (1, .int 0), (2, .int 3)], [.int 1])) rfl ?_
        refine xe_sn pg_103 4 (fr' := (15, [(0, .int 1), (1, .int 0), (2, .int 3)], [.int 1])) rfl ?_
        exact xe_end pg_103 rfl
      exact xe_end pg_104 rfl
    refine xe_sn pg_144 4 (fr' := (11, [(0, .ref 165), (1, .int 1), (2, .int 2)], [.int 3, .int 1, .int 2, .ref 165])) rfl ?_
    apply xe_callq pg_144 103 [.int 2, .int 1, .int 3] (.inl (some (.int 1))) (14, [(0, .ref 165), (1, .int 1), (2, .int 2)], [.int 1, .ref 165]) rfl (fun _ => rfl)
    · refine xe_sn pg_103 4 (fr' := (6, [(0, .int 2), (1, .int 1), (2, .int 3)], [.int 2])) rfl ?_
      refine xe_sn pg_103 4 (fr' := (15, [(0, .int 2), (1, .int 1), (2, .int 3)], [.int 1])) rfl ?_
      exact xe_end pg_103 rfl
    refine xe_sn pg_144 4 (fr' := (26, [(0, .ref 165), (1, .int 1), (2, .int 2)], [.ref 165])) rfl ?_
    refine xe_sn pg_144 4 (fr' := (34, [(0, .ref 165), (1, .int 1), (2, .int 2)], [.int 1, .int 3])) rfl ?_
    refine xe_sn pg_144 4 (fr' := (38, [(0, .ref 165), (1, .int 1), (2, .int 2)], [.int 1, .int 5])) rfl ?_
    refine xe_sn pg_144 4 (fr' := (45, [(3, .int 4), (0, .ref 165), (1, .int 1), (2, .int 2)], [.ref 165])) rfl ?_
    refine xe_sn pg_144 4 (fr' := (53, [(3, .int 4), (0, .ref 165), (1, .int 1), (2, .int 2)], [.ref 165, .ref 165])) rfl ?_
    refine xe_sn pg_144 4 (fr' := (61, [(3, .int 4), (0, .ref 165), (1, .int 1), (2, .int 2)], [.ref 165])) rfl ?_
    refine xe_sn pg_144 4 (fr' := (73, [(3, .int 4), (0, .ref 165), (1, .int 1), (2, .int 2)], [.ref 165])) rfl ?_
    refine xe_sn pg_144 3 (fr' := (80, [(3, .int 4), (0, .ref 165), (1, .int 1), (2, .int 2)], [.int 0])) rfl ?_
    exact xe_end pg_144 rfl
  · exact ⟨⟨rfl, rfl, rfl, rfl⟩, Nat.le_of_ble_eq_true rfl, Nat.le_of_ble_eq_true rfl, rfl, fun q => absurd q (by decide)⟩

set_option maxRecDepth 100000 in
theorem lf_end_11 (xs : Nat → Int32) : op_ok xs 165 144 [.ref 0, .int 1, .int 3, .ref 189] [.ref 165, .int 1, .int 3] := by
  refine ⟨2, 0, ?_⟩
  apply Exists.intro
  apply Exists.intro
  apply And.intro
  · refine xe_sn pg_165 4 (fr' := (4, [(0, .ref 0), (1, .int 1), (2, .int 3), (3, .ref 189)], [.int 1, .ref 0, .int 0, .ref 189])) rfl ?_
    refine xe_sn pg_165 1 (fr' := (5, [(0, .ref 0), (1, .int 1), (2, .int 3), (3, .ref 189)], [.int 3, .int 1, .ref 0, .int 0, .ref 189])) rfl ?_
    apply xe_callq pg_165 78 [.ref 0, .int 1, .int 3] (.inr 2) (19, [(0, .ref 0), (1, .int 1), (2, .int 3), (3, .ref 189)], []) rfl (fun _ => rfl)
    · refine xe_sn pg_78 1 (fr' := (1, [(0, .ref 0), (1, .int 1), (2, .int 3)], [.int 1])) rfl ?_
      apply xe_callq pg_78 92 [.int 1] (.inl none) (4, [(0, .ref 0), (1, .int 1), (2, .int 3)], []) rfl (fun _ => rfl)
      · refine xe_sn pg_92 2 (fr' := (2, [(0, .int 1)], [.int 4, .int 1])) rfl ?_
        apply xe_callq pg_92 95 [.int 1, .int 4] (.inl none) (5, [(0, .int 1)], []) rfl (fun _ => rfl)
        · refine xe_sn pg_95 4 (fr' := (6, [(0, .int 1), (1, .int 4)], [.int 4, .int 1])) rfl ?_
          refine xe_sn pg_95 1 (fr' := (17, [(0, .int 1), (1, .int 4)], [])) rfl ?_
          exact xe_end pg_95 rfl
        exact xe_end pg_92 rfl
      refine xe_sn pg_78 1 (fr' := (5, [(0, .ref 0), (1, .int 1), (2, .int 3)], [.int 3])) rfl ?_
      apply xe_callq pg_78 94 [.int 3] (.inl none) (8, [(0, .ref 0), (1, .int 1), (2, .int 3)], []) rfl (fun _ => rfl)
      · refine xe_sn pg_94 1 (fr' := (1, [(0, .int 3)], [.int 3])) rfl ?_
        apply xe_callq pg_94 100 [.int 3] (.inl (some (.int 1))) (4, [(0, .int 3)], [.int 1]) rfl (fun _ => rfl)
        · refine xe_sn pg_100 4 (fr' := (6, [(0, .int 3)], [.int 3])) rfl ?_
          refine xe_sn pg_100 4 (fr' := (15, [(0, .int 3)], [.int 1])) rfl ?_
          exact xe_end pg_100 rfl
        refine xe_sn pg_94 1 (fr' := (15, [(0, .int 3)], [])) rfl ?_
        exact xe_end pg_94 rfl
      refine xe_sn pg_78 4 (fr' := (14, [(0, .ref 0), (1, .int 1), (2, .int 3)], [.ref 132])) rfl ?_
      refine xe_sn pg_78 4 (fr' := (20, [(0, .ref 0), (1, .int 1), (2, .int 3)], [.int 2, .ref 138])) rfl ?_
      refine xe_sn pg_78 4 (fr' := (26, [(3, .int 0), (0, .ref 0), (1, .int 1), (2, .int 3)], [.int 0])) rfl ?_
      refine xe_sn pg_78 2 (fr' := (34, [(3, .int 0), (0, .ref 0), (1, .int 1), (2, .int 3)], [.int 0])) rfl ?_
      apply xe_callqx pg_78 98 [.int 0] 2 rfl (fun _ => rfl)
      · refine xe_sn pg_98 2 (fr' := (4, [(0, .int 0)], [])) rfl ?_
        exact xe_end pg_98 rfl
    refine xe_sn pg_165 1 (fr' := (20, [(0, .ref 0), (1, .int 1), (2, .int 3), (3, .ref 189)], [.int 2])) rfl ?_
    exact xe_end pg_165 rfl
  refine And.intro ⟨rfl, rfl, rfl, rfl⟩ ?_
  apply And.intro
  · refine xe_sn pg_144 2 (fr' := (2, [(0, .ref 165), (1, .int 1), (2, .int 3)], [.int 1, .ref 165])) rfl ?_
    apply xe_callq pg_144 104 [.int 1] (.inl (some (.int 1))) (5, [(0, .ref 165), (1, .int 1), (2, .int 3)], [.int 1, .ref 165]) rfl (fun _ => rfl)
    · refine xe_sn pg_104 3 (fr' := (3, [(0, .int 1)], [.int 3, .int 0, .int 1])) rfl ?_
      apply xe_callq pg_104 103 [.int 1, .int 0, .int 3] (.inl (some (.int 1))) (6, [(0, .int 1)], [.int 1]) rfl (fun _ => rfl)
      · refine xe_sn pg_103 4 (fr' := (6, [(0, .int 1), (1, .int 0), (2, .int 3)], [.int 1])) rfl ?_
        refine xe_sn pg_103 4 (fr' := (15, [(0, .int 1), (1, .int 0), (2, .int 3)], [.int 1])) rfl ?_
        exact xe_end pg_103 rfl
      exact xe_end pg_104 rfl
    refine xe_sn pg_144 4 (fr' := (11, [(0, .ref 165), (1, .int 1), (2, .int 3)], [.int 3, .int 1, .int 3, .ref 165])) rfl ?_
    apply xe_callq pg_144 103 [.int 3, .int 1, .int 3] (.inl (some (.int 1))) (14, [(0, .ref 165), (1, .int 1), (2, .int 3)], [.int 1, .ref 165]) rfl (fun _ => rfl)
    · refine xe_sn pg_103 4 (fr' := (6, [(0, .int 3), (1, .int 1), (2, .int 3)], [.int 3])) rfl ?_
      refine xe_sn pg_103 4 (fr' := (15, [(0, .int 3), (1, .int 1), (2, .int 3)], [.int 1])) rfl ?_
      exact xe_end pg_103 rfl
    refine xe_sn pg_144 4 (fr' := (26, [(0, .ref 165), (1, .int 1), (2, .int 3)], [.ref 165])) rfl ?_
    refine xe_sn pg_144 4 (fr' := (34, [(0, .ref 165), (1, .int 1), (2, .int 3)], [.int 1, .int 3])) rfl ?_
    refine xe_sn pg_144 4 (fr' := (38, [(0, .ref 165), (1, .int 1), (2, .int 3)], [.int 1, .int 6])) rfl ?_
    refine xe_sn pg_144 4 (fr' := (45, [(3, .int 5), (0, .ref 165), (1, .int 1), (2, .int 3)], [.ref 165])) rfl ?_
    refine xe_sn pg_144 4 (fr' := (53, [(3, .int 5), (0, .ref 165), (1, .int 1), (2, .int 3)], [.ref 165, .ref 165])) rfl ?_
    refine xe_sn pg_144 4 (fr' := (61, [(3, .int 5), (0, .ref 165), (1, .int 1), (2, .int 3)], [.ref 165])) rfl ?_
    refine xe_sn pg_144 4 (fr' := (73, [(3, .int 5), (0, .ref 165), (1, .int 1), (2, .int 3)], [.ref 165])) rfl ?_
    refine xe_sn pg_144 3 (fr' := (80, [(3, .int 5), (0, .ref 165), (1, .int 1), (2, .int 3)], [.int 0])) rfl ?_
    exact xe_end pg_144 rfl
  · exact ⟨⟨rfl, rfl, rfl, rfl⟩, Nat.le_of_ble_eq_true rfl, Nat.le_of_ble_eq_true rfl, rfl, fun q => absurd q (by decide)⟩

set_option maxRecDepth 100000 in
theorem lf_end_12 (xs : Nat → Int32) (p1 : Int32) (a1 : p1.toInt < 1) : op_ok xs 165 144 [.ref 0, .int 2, .int p1, .ref 189] [.ref 165, .int 2, .int p1] := by
  refine ⟨1, 0, ?_⟩
  apply Exists.intro
  apply Exists.intro
  apply And.intro
  · refine xe_sn pg_165 4 (fr' := (4, [(0, .ref 0), (1, .int 2), (2, .int p1), (3, .ref 189)], [.int 2, .ref 0, .int 0, .ref 189])) rfl ?_
    refine xe_sn pg_165 1 (fr' := (5, [(0, .ref 0), (1, .int 2), (2, .int p1), (3, .ref 189)], [.int p1, .int 2, .ref 0, .int 0, .ref 189])) rfl ?_
    apply xe_callq pg_165 78 [.ref 0, .int 2, .int p1] (.inr 0) (15, [(0, .ref 0), (1, .int 2), (2, .int p1), (3, .ref 189)], []) rfl (fun _ => rfl)
    · refine xe_sn pg_78 1 (fr' := (1, [(0, .ref 0), (1, .int 2), (2, .int p1)], [.int 2])) rfl ?_
      apply xe_callq pg_78 92 [.int 2] (.inl none) (4, [(0, .ref 0), (1, .int 2), (2, .int p1)], []) rfl (fun _ => rfl)
      · refine xe_sn pg_92 2 (fr' := (2, [(0, .int 2)], [.int 4, .int 2])) rfl ?_
        apply xe_callq pg_92 95 [.int 2, .int 4] (.inl none) (5, [(0, .int 2)], []) rfl (fun _ => rfl)
        · refine xe_sn pg_95 4 (fr' := (6, [(0, .int 2), (1, .int 4)], [.int 4, .int 2])) rfl ?_
          refine xe_sn pg_95 1 (fr' := (17, [(0, .int 2), (1, .int 4)], [])) rfl ?_
          exact xe_end pg_95 rfl
        exact xe_end pg_92 rfl
      refine xe_sn pg_78 1 (fr' := (5, [(0, .ref 0), (1, .int 2), (2, .int p1)], [.int p1])) rfl ?_
      apply xe_callqx pg_78 94 [.int p1] 0 rfl (fun _ => rfl)
      · refine xe_sn pg_94 1 (fr' := (1, [(0, .int p1)], [.int p1])) rfl ?_
        apply xe_callq pg_94 100 [.int p1] (.inl (some (.int 0))) (4, [(0, .int p1)], [.int 0]) rfl (fun _ => rfl)
        · refine xe_sn pg_100 2 (fr' := (2, [(0, .int p1)], [.int 1, .int p1])) rfl ?_
          refine xe_t2 pg_100 14 rfl rfl (by show (p1).toInt < 1; omega) ?_
          refine xe_sn pg_100 1 (fr' := (15, [(0, .int p1)], [.int 0])) rfl ?_
          exact xe_end pg_100 rfl
        refine xe_sn pg_94 1 (fr' := (7, [(0, .int p1)], [])) rfl ?_
        exact xe_end pg_94 rfl
    refine xe_sn pg_165 1 (fr' := (16, [(0, .ref 0), (1, .int 2), (2, .int p1), (3, .ref 189)], [.int 1])) rfl ?_
    exact xe_end pg_165 rfl
  refine And.intro ⟨rfl, rfl, rfl, rfl⟩ ?_
  apply And.intro
  · refine xe_sn pg_144 2 (fr' := (2, [(0, .ref 165), (1, .int 2), (2, .int p1)], [.int 2, .ref 165])) rfl ?_
    apply xe_callq pg_144 104 [.int 2] (.inl (some (.int 1))) (5, [(0, .ref 165), (1, .int 2), (2, .int p1)], [.int 1, .ref 165]) rfl (fun _ => rfl)
    · refine xe_sn pg_104 3 (fr' := (3, [(0, .int 2)], [.int 3, .int 0, .int 2])) rfl ?_
      apply xe_callq pg_104 103 [.int 2, .int 0, .int 3] (.inl (some (.int 1))) (6, [(0, .int 2)], [.int 1]) rfl (fun _ => rfl)
      · refine xe_sn pg_103 4 (fr' := (6, [(0, .int 2), (1, .int 0), (2, .int 3)], [.int 2])) rfl ?_
        refine xe_sn pg_103 4 (fr' := (15, [(0, .int 2), (1, .int 0), (2, .int 3)], [.int 1])) rfl ?_
        exact xe_end pg_103 rfl
      exact xe_end pg_104 rfl
    refine xe_sn pg_144 4 (fr' := (11, [(0, .ref 165), (1, .int 2), (2, .int p1)], [.int 3, .int 1, .int p1, .ref 165])) rfl ?_
    apply xe_callq pg_144 103 [.int p1, .int 1, .int 3] (.inl (some (.int 0))) (14, [(0, .ref 165), (1, .int 2), (2, .int p1)], [.int 0, .ref 165]) rfl (fun _ => rfl)
    · refine xe_sn pg_103 2 (fr' := (2, [(0, .int p1), (1, .int 1), (2, .int 3)], [.int 1, .int p1])) rfl ?_
      refine xe_t2 pg_103 14 rfl rfl (by show (p1).toInt < 1; omega) ?_
      refine xe_sn pg_103 1 (fr' := (15, [(0, .int p1), (1, .int 1), (2, .int 3)], [.int 0])) rfl ?_
      exact xe_end pg_103 rfl
    refine xe_sn pg_144 4 (fr' := (25, [(0, .ref 165), (1, .int 2), (2, .int p1)], [])) rfl ?_
    refine xe_sn pg_144 4 (fr' := (43, [(0, .ref 165), (1, .int 2), (2, .int p1)], [.int 0])) rfl ?_
    refine xe_sn pg_144 4 (fr' := (49, [(3, .int 0), (0, .ref 165), (1, .int 2), (2, .int p1)], [.int 1, .ref 165])) rfl ?_
    refine xe_sn pg_144 4 (fr' := (72, [(3, .int 0), (0, .ref 165), (1, .int 2), (2, .int p1)], [])) rfl ?_
    refine xe_sn pg_144 4 (fr' := (80, [(3, .int 0), (0, .ref 165), (1, .int 2), (2, .int p1)], [.int 0])) rfl ?_
    exact xe_end pg_144 rfl
  · exact ⟨⟨rfl, rfl, rfl, rfl⟩, Nat.le_of_ble_eq_true rfl, Nat.le_of_ble_eq_true rfl, rfl, fun q => absurd q (by decide)⟩

set_option maxRecDepth 100000 in
theorem lf_end_13 (xs : Nat → Int32) (p1 : Int32) (b1 : 3 < p1.toInt) : op_ok xs 165 144 [.ref 0, .int 2, .int p1, .ref 189] [.ref 165, .int 2, .int p1] := by
  refine ⟨1, 0, ?_⟩
  apply Exists.intro
  apply Exists.intro
  apply And.intro
  · refine xe_sn pg_165 4 (fr' := (4, [(0, .ref 0), (1, .int 2), (2, .int p1), (3, .ref 189)], [.int 2, .ref 0, .int 0, .ref 189])) rfl ?_
    refine xe_sn pg_165 1 (fr' := (5, [(0, .ref 0), (1, .int 2), (2, .int p1), (3, .ref 189)], [.int p1, .int 2, .ref 0, .int 0, .ref 189])) rfl ?_
    apply xe_callq pg_165 78 [.ref 0, .int 2, .int p1] (.inr 0) (15, [(0, .ref 0), (1, .int 2), (2, .int p1), (3, .ref 189)], []) rfl (fun _ => rfl)
    · refine xe_sn pg_78 1 (fr' := (1, [(0, .ref 0), (1, .int 2), (2, .int p1)], [.int 2])) rfl ?_
      apply xe_callq pg_78 92 [.int 2] (.inl none) (4, [(0, .ref 0), (1, .int 2), (2, .int p1)], []) rfl (fun _ => rfl)
      · refine xe_sn pg_92 2 (fr' := (2, [(0, .int 2)], [.int 4, .int 2])) rfl ?_
        apply xe_callq pg_92 95 [.int 2, .int 4] (.inl none) (5, [(0, .int 2)], []) rfl (fun _ => rfl)
        · refine xe_sn pg_95 4 (fr' := (6, [(0, .int 2), (1, .int 4)], [.int 4, .int 2])) rfl ?_
          refine xe_sn pg_95 1 (fr' := (17, [(0, .int 2), (1, .int 4)], [])) rfl ?_
          exact xe_end pg_95 rfl
        exact xe_end pg_92 rfl
      refine xe_sn pg_78 1 (fr' := (5, [(0, .ref 0), (1, .int 2), (2, .int p1)], [.int p1])) rfl ?_
      apply xe_callqx pg_78 94 [.int p1] 0 rfl (fun _ => rfl)
      · refine xe_sn pg_94 1 (fr' := (1, [(0, .int p1)], [.int p1])) rfl ?_
        apply xe_callq pg_94 100 [.int p1] (.inl (some (.int 0))) (4, [(0, .int p1)], [.int 0]) rfl (fun _ => rfl)
        · refine xe_sn pg_100 2 (fr' := (2, [(0, .int p1)], [.int 1, .int p1])) rfl ?_
          refine xe_f2 pg_100 14 rfl rfl (by show ¬ ((p1).toInt < 1); omega) ?_
          refine xe_sn pg_100 2 (fr' := (7, [(0, .int p1)], [.int 3, .int p1])) rfl ?_
          refine xe_t2 pg_100 14 rfl rfl (by show 3 < (p1).toInt; omega) ?_
          refine xe_sn pg_100 1 (fr' := (15, [(0, .int p1)], [.int 0])) rfl ?_
          exact xe_end pg_100 rfl
        refine xe_sn pg_94 1 (fr' := (7, [(0, .int p1)], [])) rfl ?_
        exact xe_end pg_94 rfl
    refine xe_sn pg_165 1 (fr' := (16, [(0, .ref 0), (1, .int 2), (2, .int p1), (3, .ref 189)], [.int 1])) rfl ?_
    exact xe_end pg_165 rfl
  refine And.intro ⟨rfl, rfl, rfl, rfl⟩ ?_
  apply And.intro
  · refine xe_sn pg_144 2 (fr' := (2, [(0, .ref 165), (1, .int 2), (2, .int p1)], [.int 2, .ref 165])) rfl ?_
    apply xe_callq pg_144 104 [.int 2] (.inl (some (.int 1))) (5, [(0, .ref 165), (1, .int 2), (2, .int p1)], [.int 1, .ref 165]) rfl (fun _ => rfl)
    · refine xe_sn pg_104 3 (fr' := (3, [(0, .int 2)], [.int 3, .int 0, .int 2])) rfl ?_
      apply xe_callq pg_104 103 [.int 2, .int 0, .int 3] (.inl (some (.int 1))) (6, [(0, .int 2)], [.int 1]) rfl (fun _ => rfl)
      · refine xe_sn pg_103 4 (fr' := (6, [(0, .int 2), (1, .int 0), (2, .int 3)], [.int 2])) rfl ?_
        refine xe_sn pg_103 4 (fr' := (15, [(0, .int 2), (1, .int 0), (2, .int 3)], [.int 1])) rfl ?_
        exact xe_end pg_103 rfl
      exact xe_end pg_104 rfl
    refine xe_sn pg_144 4 (fr' := (11, [(0, .ref 165), (1, .int 2), (2, .int p1)], [.int 3, .int 1, .int p1, .ref 165])) rfl ?_
    apply xe_callq pg_144 103 [.int p1, .int 1, .int 3] (.inl (some (.int 0))) (14, [(0, .ref 165), (1, .int 2), (2, .int p1)], [.int 0, .ref 165]) rfl (fun _ => rfl)
    · refine xe_sn pg_103 2 (fr' := (2, [(0, .int p1), (1, .int 1), (2, .int 3)], [.int 1, .int p1])) rfl ?_
      refine xe_f2 pg_103 14 rfl rfl (by show ¬ ((p1).toInt < 1); omega) ?_
      refine xe_sn pg_103 2 (fr' := (7, [(0, .int p1), (1, .int 1), (2, .int 3)], [.int 3, .int p1])) rfl ?_
      refine xe_t2 pg_103 14 rfl rfl (by show 3 < (p1).toInt; omega) ?_
      refine xe_sn pg_103 1 (fr' := (15, [(0, .int p1), (1, .int 1), (2, .int 3)], [.int 0])) rfl ?_
      exact xe_end pg_103 rfl
    refine xe_sn pg_144 4 (fr' := (25, [(0, .ref 165), (1, .int 2), (2, .int p1)], [])) rfl ?_
    refine xe_sn pg_144 4 (fr' := (43, [(0, .ref 165), (1, .int 2), (2, .int p1)], [.int 0])) rfl ?_
    refine xe_sn pg_144 4 (fr' := (49, [(3, .int 0), (0, .ref 165), (1, .int 2), (2, .int p1)], [.int 1, .ref 165])) rfl ?_
    refine xe_sn pg_144 4 (fr' := (72, [(3, .int 0), (0, .ref 165), (1, .int 2), (2, .int p1)], [])) rfl ?_
    refine xe_sn pg_144 4 (fr' := (80, [(3, .int 0), (0, .ref 165), (1, .int 2), (2, .int p1)], [.int 0])) rfl ?_
    exact xe_end pg_144 rfl
  · exact ⟨⟨rfl, rfl, rfl, rfl⟩, Nat.le_of_ble_eq_true rfl, Nat.le_of_ble_eq_true rfl, rfl, fun q => absurd q (by decide)⟩

set_option maxRecDepth 100000 in
theorem lf_end_14 (xs : Nat → Int32) : op_ok xs 165 144 [.ref 0, .int 2, .int 1, .ref 189] [.ref 165, .int 2, .int 1] := by
  refine ⟨2, 0, ?_⟩
  apply Exists.intro
  apply Exists.intro
  apply And.intro
  · refine xe_sn pg_165 4 (fr' := (4, [(0, .ref 0), (1, .int 2), (2, .int 1), (3, .ref 189)], [.int 2, .ref 0, .int 0, .ref 189])) rfl ?_
    refine xe_sn pg_165 1 (fr' := (5, [(0, .ref 0), (1, .int 2), (2, .int 1), (3, .ref 189)], [.int 1, .int 2, .ref 0, .int 0, .ref 189])) rfl ?_
    apply xe_callq pg_165 78 [.ref 0, .int 2, .int 1] (.inr 2) (19, [(0, .ref 0), (1, .int 2), (2, .int 1), (3, .ref 189)], []) rfl (fun _ => rfl)
    · refine xe_sn pg_78 1 (fr' := (1, [(0, .ref 0), (1, .int 2), (2, .int 1)], [.int 2])) rfl ?_
      apply xe_callq pg_78 92 [.int 2] (.inl none) (4, [(0, .ref 0), (1, .int 2), (2, .int 1)], []) rfl (fun _ => rfl)
      · refine xe_sn pg_92 2 (fr' := (2, [(0, .int 2)], [.int 4, .int 2])) rfl ?_
        apply xe_callq pg_92 95 [.int 2, .int 4] (.inl none) (5, [(0, .int 2)], []) rfl (fun _ => rfl)
        · refine xe_sn pg_95 4 (fr' := (6, [(0, .int 2), (1, .int 4)], [.int 4, .int 2])) rfl ?_
          refine xe_sn pg_95 1 (fr' := (17, [(0, .int 2), (1, .int 4)], [])) rfl ?_
          exact xe_end pg_95 rfl
        exact xe_end pg_92 rfl
      refine xe_sn pg_78 1 (fr' := (5, [(0, .ref 0), (1, .int 2), (2, .int 1)], [.int 1])) rfl ?_
      apply xe_callq pg_78 94 [.int 1] (.inl none) (8, [(0, .ref 0), (1, .int 2), (2, .int 1)], []) rfl (fun _ => rfl)
      · refine xe_sn pg_94 1 (fr' := (1, [(0, .int 1)], [.int 1])) rfl ?_
        apply xe_callq pg_94 100 [.int 1] (.inl (some (.int 1))) (4, [(0, .int 1)], [.int 1]) rfl (fun _ => rfl)
        · refine xe_sn pg_100 4 (fr' := (6, [(0, .int 1)], [.int 1])) rfl ?_
          refine xe_sn pg_100 4 (fr' := (15, [(0, .int 1)], [.int 1])) rfl ?_
          exact xe_end pg_100 rfl
        refine xe_sn pg_94 1 (fr' := (15, [(0, .int 1)], [])) rfl ?_
        exact xe_end pg_94 rfl
      refine xe_sn pg_78 4 (fr' := (14, [(0, .ref 0), (1, .int 2), (2, .int 1)], [.ref 143])) rfl ?_
      refine xe_sn pg_78 4 (fr' := (20, [(0, .ref 0), (1, .int 2), (2, .int 1)], [.int 0, .ref 149])) rfl ?_
      refine xe_sn pg_78 4 (fr' := (26, [(3, .int 0), (0, .ref 0), (1, .int 2), (2, .int 1)], [.int 0])) rfl ?_
      refine xe_sn pg_78 2 (fr' := (34, [(3, .int 0), (0, .ref 0), (1, .int 2), (2, .int 1)], [.int 0])) rfl ?_
      apply xe_callqx pg_78 98 [.int 0] 2 rfl (fun _ => rfl)
      · refine xe_sn pg_98 2 (fr' := (4, [(0, .int 0)], [])) rfl ?_
        exact xe_end pg_98 rfl
    refine xe_sn pg_165 1 (fr' := (20, [(0, .ref 0), (1, .int 2), (2, .int 1), (3, .ref 189)], [.int 2])) rfl ?_
    exact xe_end pg_165 rfl
  refine And.intro ⟨rfl, rfl, rfl, rfl⟩ ?_
  apply And.intro
  · refine xe_sn pg_144 2 (fr' := (2, [(0, .ref 165), (1, .int 2), (2, .int 1)], [.int 2, .ref 165])) rfl ?_
    apply xe_callq pg_144 104 [.int 2] (.inl (some (.int 1))) (5, [(0, .ref 165), (1, .int 2), (2, .int 1)], [.int 1, .ref 165]) rfl (fun _ => rfl)
    · refine xe_sn pg_104 3 (fr' := (3, [(0, .int 2)], [.int 3, .int 0, .int 2])) rfl ?_
      apply xe_callq pg_104 103 [.int 2, .int 0, .int 3] (.inl (some (.int 1))) (6, [(0, .int 2)], [.int 1]) rfl (fun _ => rfl)
      · refine xe_sn pg_103 4 (fr' := (6, [(0, .int 2), (1, .int 0), (2, .int 3)], [.int 2])) rfl ?_
        refine xe_sn pg_103 4 (fr' := (15, [(0, .int 2), (1, .int 0), (2, .int 3)], [.int 1])) rfl ?_
        exact xe_end pg_103 rfl
      exact xe_end pg_104 rfl
    refine xe_sn pg_144 4 (fr' := (11, [(0, .ref 165), (1, .int 2), (2, .int 1)], [.int 3, .int 1, .int 1, .ref 165])) rfl ?_
    apply xe_callq pg_144 103 [.int 1, .int 1, .int 3] (.inl (some (.int 1))) (14, [(0, .ref 165), (1, .int 2), (2, .int 1)], [.int 1, .ref 165]) rfl (fun _ => rfl)
    · refine xe_sn pg_103 4 (fr' := (6, [(0, .int 1), (1, .int 1), (2, .int 3)], [.int 1])) rfl ?_
      refine xe_sn pg_103 4 (fr' := (15, [(0, .int 1), (1, .int 1), (2, .int 3)], [.int 1])) rfl ?_
      exact xe_end pg_103 rfl
    refine xe_sn pg_144 4 (fr' := (26, [(0, .ref 165), (1, .int 2), (2, .int 1)], [.ref 165])) rfl ?_
    refine xe_sn pg_144 4 (fr' := (34, [(0, .ref 165), (1, .int 2), (2, .int 1)], [.int 2, .int 3])) rfl ?_
    refine xe_sn pg_144 4 (fr' := (38, [(0, .ref 165), (1, .int 2), (2, .int 1)], [.int 1, .int 7])) rfl ?_
    refine xe_sn pg_144 4 (fr' := (45, [(3, .int 6), (0, .ref 165), (1, .int 2), (2, .int 1)], [.ref 165])) rfl ?_
    refine xe_sn pg_144 4 (fr' := (53, [(3, .int 6), (0, .ref 165), (1, .int 2), (2, .int 1)], [.ref 165, .ref 165])) rfl ?_
    refine xe_sn pg_144 4 (fr' := (61, [(3, .int 6), (0, .ref 165), (1, .int 2), (2, .int 1)], [.ref 165])) rfl ?_
    refine xe_sn pg_144 4 (fr' := (73, [(3, .int 6), (0, .ref 165), (1, .int 2), (2, .int 1)], [.ref 165])) rfl ?_
    refine xe_sn pg_144 3 (fr' := (80, [(3, .int 6), (0, .ref 165), (1, .int 2), (2, .int 1)], [.int 0])) rfl ?_
    exact xe_end pg_144 rfl
  · exact ⟨⟨rfl, rfl, rfl, rfl⟩, Nat.le_of_ble_eq_true rfl, Nat.le_of_ble_eq_true rfl, rfl, fun q => absurd q (by decide)⟩

set_option maxRecDepth 100000 in
theorem lf_end_15 (xs : Nat → Int32) : op_ok xs 165 144 [.ref 0, .int 2, .int 2, .ref 189] [.ref 165, .int 2, .int 2] := by
  refine ⟨2, 0, ?_⟩
  apply Exists.intro
  apply Exists.intro
  apply And.intro
  · refine xe_sn pg_165 4 (fr' := (4, [(0, .ref 0), (1, .int 2), (2, .int 2), (3, .ref 189)], [.int 2, .ref 0, .int 0, .ref 189])) rfl ?_
    refine xe_sn pg_165 1 (fr' := (5, [(0, .ref 0), (1, .int 2), (2, .int 2), (3, .ref 189)], [.int 2, .int 2, .ref 0, .int 0, .ref 189])) rfl ?_
    apply xe_callq pg_165 78 [.ref 0, .int 2, .int 2] (.inr 2) (19, [(0, .ref 0), (1, .int 2), (2, .int 2), (3, .ref 189)], []) rfl (fun _ => rfl)
    · refine xe_sn pg_78 1 (fr' := (1, [(0, .ref 0), (1, .int 2), (2, .int 2)], [.int 2])) rfl ?_
      apply xe_callq pg_78 92 [.int 2] (.inl none) (4, [(0, .ref 0), (1, .int 2), (2, .int 2)], []) rfl (fun _ => rfl)
      · refine xe_sn pg_92 2 (fr' := (2, [(0, .int 2)], [.int 4, .int 2])) rfl ?_
        apply xe_callq pg_92 95 [.int 2, .int 4] (.inl none) (5, [(0, .int 2)], []) rfl (fun _ => rfl)
        · refine xe_sn pg_95 4 (fr' := (6, [(0, .int 2), (1, .int 4)], [.int 4, .int 2])) rfl ?_
          refine xe_sn pg_95 1 (fr' := (17, [(0, .int 2), (1, .int 4)], [])) rfl ?_
          exact xe_end pg_95 rfl
        exact xe_end pg_92 rfl
      refine xe_sn pg_78 1 (fr' := (5, [(0, .ref 0), (1, .int 2), (2, .int 2)], [.int 2])) rfl ?_
      apply xe_callq pg_78 94 [.int 2] (.inl none) (8, [(0, .ref 0), (1, .int 2), (2, .int 2)], []) rfl (fun _ => rfl)
      · refine xe_sn pg_94 1 (fr' := (1, [(0, .int 2)], [.int 2])) rfl ?_
        apply xe_callq pg_94 100 [.int 2] (.inl (some (.int 1))) (4, [(0, .int 2)], [.int 1]) rfl (fun _ => rfl)
        · refine xe_sn pg_100 4 (fr' := (6, [(0, .int 2)], [.int 2])) rfl ?_
          refine xe_sn pg_100 4 (fr' := (15, [(0, .int 2)], [.int 1])) rfl ?_
          exact xe_end pg_100 rfl
        refine xe_sn pg_94 1 (fr' := (15, [(0, .int 2)], [])) rfl ?_
        exact xe_end pg_94 rfl
      refine xe_sn pg_78 4 (fr' := (14, [(0, .ref 0), (1, .int 2), (2, .int 2)], [.ref 143])) rfl ?_
      refine xe_sn pg_78 4 (fr' := (20, [(0, .ref 0), (1, .int 2), (2, .int 2)], [.int 1, .ref 149])) rfl ?_
      refine xe_sn pg_78 4 (fr' := (26, [(3, .int 0), (0, .ref 0), (1, .int 2), (2, .int 2)], [.int 0])) rfl ?_
      refine xe_sn pg_78 2 (fr' := (34, [(3, .int 0), (0, .ref 0), (1, .int 2), (2, .int 2)], [.int 0])) rfl ?_
      apply xe_callqx pg_78 98 [.int 0] 2 rfl (fun _ => rfl)
      · refine xe_sn pg_98 2 (fr' := (4, [(0, .int 0)], [])) rfl ?_
        exact xe_end pg_98 rfl
    refine xe_sn pg_165 1 (fr' := (20, [(0, .ref 0), (1, .int 2), (2, .int 2), (3, .ref 189)], [.int 2])) rfl ?_
    exact xe_end pg_165 rfl
  refine And.intro ⟨rfl, rfl, rfl, rfl⟩ ?_
  apply And.intro
  · refine xe_sn pg_144 2 (fr' := (2, [(0, .ref 165), (1, .int 2), (2, .int 2)], [.int 2, .ref 165])) rfl ?_
    apply xe_callq pg_144 104 [.int 2] (.inl (some (.int 1))) (5, [(0, .ref 165), (1, .int 2), (2, .int 2)], [.int 1, .ref 165]) rfl (fun _ => rfl)
    · refine xe_sn pg_104 3 (fr' := (3, [(0, .int 2)], [.int 3, .int 0, .int 2])) rfl ?_
      apply xe_callq pg_104 103 [.int 2, .int 0, .int 3] (.inl (some (.int 1))) (6, [(0, .int 2)], [.int 1]) rfl (fun _ => rfl)
      · refine xe_sn pg_103 4 (fr' := (6, [(0, .int 2), (1, .int 0), (2, .int 3)], [.int 2])) rfl ?_
        refine xe_sn pg_103 4 (fr' := (15, [(0, .int 2), (1, .int 0), (2, .int 3)], [.int 1])) rfl ?_
        exact xe_end pg_103 rfl
      exact xe_end pg_104 rfl
    refine xe_sn pg_144 4 (fr' := (11, [(0, .ref 165), (1, .int 2), (2, .int 2)], [.int 3, .int 1, .int 2, .ref 165])) rfl ?_
    apply xe_callq pg_144 103 [.int 2, .int 1, .int 3] (.inl (some (.int 1))) (14, [(0, .ref 165), (1, .int 2), (2, .int 2)], [.int 1, .ref 165]) rfl (fun _ => rfl)
    · refine xe_sn pg_103 4 (fr' := (6, [(0, .int 2), (1, .int 1), (2, .int 3)], [.int 2])) rfl ?_
      refine xe_sn pg_103 4 (fr' := (15, [(0, .int 2), (1, .int 1), (2, .int 3)], [.int 1])) rfl ?_
      exact xe_end pg_103 rfl
    refine xe_sn pg_144 4 (fr' := (26, [(0, .ref 165), (1, .int 2), (2, .int 2)], [.ref 165])) rfl ?_
    refine xe_sn pg_144 4 (fr' := (34, [(0, .ref 165), (1, .int 2), (2, .int 2)], [.int 2, .int 3])) rfl ?_
    refine xe_sn pg_144 4 (fr' := (38, [(0, .ref 165), (1, .int 2), (2, .int 2)], [.int 1, .int 8])) rfl ?_
    refine xe_sn pg_144 4 (fr' := (45, [(3, .int 7), (0, .ref 165), (1, .int 2), (2, .int 2)], [.ref 165])) rfl ?_
    refine xe_sn pg_144 4 (fr' := (53, [(3, .int 7), (0, .ref 165), (1, .int 2), (2, .int 2)], [.ref 165, .ref 165])) rfl ?_
    refine xe_sn pg_144 4 (fr' := (61, [(3, .int 7), (0, .ref 165), (1, .int 2), (2, .int 2)], [.ref 165])) rfl ?_
    refine xe_sn pg_144 4 (fr' := (73, [(3, .int 7), (0, .ref 165), (1, .int 2), (2, .int 2)], [.ref 165])) rfl ?_
    refine xe_sn pg_144 3 (fr' := (80, [(3, .int 7), (0, .ref 165), (1, .int 2), (2, .int 2)], [.int 0])) rfl ?_
    exact xe_end pg_144 rfl
  · exact ⟨⟨rfl, rfl, rfl, rfl⟩, Nat.le_of_ble_eq_true rfl, Nat.le_of_ble_eq_true rfl, rfl, fun q => absurd q (by decide)⟩

set_option maxRecDepth 100000 in
theorem lf_end_16 (xs : Nat → Int32) : op_ok xs 165 144 [.ref 0, .int 2, .int 3, .ref 189] [.ref 165, .int 2, .int 3] := by
  refine ⟨2, 0, ?_⟩
  apply Exists.intro
  apply Exists.intro
  apply And.intro
  · refine xe_sn pg_165 4 (fr' := (4, [(0, .ref 0), (1, .int 2), (2, .int 3), (3, .ref 189)], [.int 2, .ref 0, .int 0, .ref 189])) rfl ?_
    refine xe_sn pg_165 1 (fr' := (5, [(0, .ref 0), (1, .int 2), (2, .int 3), (3, .ref 189)], [.int 3, .int 2, .ref 0, .int 0, .ref 189])) rfl ?_
    apply xe_callq pg_165 78 [.ref 0, .int 2, .int 3] (.inr 2) (19, [(0, .ref 0), (1, .int 2), (2, .int 3), (3, .ref 189)], []) rfl (fun _ => rfl)
    · refine xe_sn pg_78 1 (fr' := (1, [(0, .ref 0), (1, .int 2), (2, .int 3)], [.int 2])) rfl ?_
      apply xe_callq pg_78 92 [.int 2] (.inl none) (4, [(0, .ref 0), (1, .int 2), (2, .int 3)], []) rfl (fun _ => rfl)
      · refine xe_sn pg_92 2 (fr' := (2, [(0, .int 2)], [.int 4, .int 2])) rfl ?_
        apply xe_callq pg_92 95 [.int 2, .int 4] (.inl none) (5, [(0, .int 2)], []) rfl (fun _ => rfl)
        · refine xe_sn pg_95 4 (fr' := (6, [(0, .int 2), (1, .int 4)], [.int 4, .int 2])) rfl ?_
          refine xe_sn pg_95 1 (fr' := (17, [(0, .int 2), (1, .int 4)], [])) rfl ?_
          exact xe_end pg_95 rfl
        exact xe_end pg_92 rfl
      refine xe_sn pg_78 1 (fr' := (5, [(0, .ref 0), (1, .int 2), (2, .int 3)], [.int 3])) rfl ?_
      apply xe_callq pg_78 94 [.int 3] (.inl none) (8, [(0, .ref 0), (1, .int 2), (2, .int 3)], []) rfl (fun _ => rfl)
      · refine xe_sn pg_94 1 (fr' := (1, [(0, .int 3)], [.int 3])) rfl ?_
        apply xe_callq pg_94 100 [.int 3] (.inl (some (.int 1))) (4, [(0, .int 3)], [.int 1]) rfl (fun _ => rfl)
        · refine xe_sn pg_100 4 (fr' := (6, [(0, .int 3)], [.int 3])) rfl ?_
          refine xe_sn pg_100 4 (fr' := (15, [(0, .int 3)], [.int 1])) rfl ?_
          exact xe_end pg_100 rfl
        refine xe_sn pg_94 1 (fr' := (15, [(0, .int 3)], [])) rfl ?_
        exact xe_end pg_94 rfl
      refine xe_sn pg_78 4 (fr' := (14, [(0, .ref 0), (1, .int 2), (2, .int 3)], [.ref 143])) rfl ?_
      refine xe_sn pg_78 4 (fr' := (20, [(0, .ref 0), (1, .int 2), (2, .int 3)], [.int 2, .ref 149])) rfl ?_
      refine xe_sn pg_78 4 (fr' := (26, [(3, .int 0), (0, .ref 0), (1, .int 2), (2, .int 3)], [.int 0])) rfl ?_
      refine xe_sn pg_78 2 (fr' := (34, [(3, .int 0), (0, .ref 0), (1, .int 2), (2, .int 3)], [.int 0])) rfl ?_
      apply xe_callqx pg_78 98 [.int 0] 2 rfl (fun _ => rfl)
      · refine xe_sn pg_98 2 (fr' := (4, [(0, .int 0)], [])) rfl ?_
        exact xe_end pg_98 rfl
    refine xe_sn pg_165 1 (fr' := (20, [(0, .ref 0), (1, .int 2), (2, .int 3), (3, .ref 189)], [.int 2])) rfl ?_
    exact xe_end pg_165 rfl
  refine And.intro ⟨rfl, rfl, rfl, rfl⟩ ?_
  apply And.intro
  · refine xe_sn pg_144 2 (fr' := (2, [(0, .ref 165), (1, .int 2), (2, .int 3)], [.int 2, .ref 165])) rfl ?_
    apply xe_callq pg_144 104 [.int 2] (.inl (some (.int 1))) (5, [(0, .ref 165), (1, .int 2), (2, .int 3)], [.int 1, .ref 165]) rfl (fun _ => rfl)
    · refine xe_sn pg_104 3 (fr' := (3, [(0, .int 2)], [.int 3, .int 0, .int 2])) rfl ?_
      apply xe_callq pg_104 103 [.int 2, .int 0, .int 3] (.inl (some (.int 1))) (6, [(0, .int 2)], [.int 1]) rfl (fun _ => rfl)
      · refine xe_sn pg_103 4 (fr' := (6, [(0, .int 2), (1, .int 0), (2, .int 3)], [.int 2])) rfl ?_
        refine xe_sn pg_103 4 (fr' := (15, [(0, .int 2), (1, .int 0), (2, .int 3)], [.int 1])) rfl ?_
        exact xe_end pg_103 rfl
      exact xe_end pg_104 rfl
    refine xe_sn pg_144 4 (fr' := (11, [(0, .ref 165), (1, .int 2), (2, .int 3)], [.int 3, .int 1, .int 3, .ref 165])) rfl ?_
    apply xe_callq pg_144 103 [.int 3, .int 1, .int 3] (.inl (some (.int 1))) (14, [(0, .ref 165), (1, .int 2), (2, .int 3)], [.int 1, .ref 165]) rfl (fun _ => rfl)
    · refine xe_sn pg_103 4 (fr' := (6, [(0, .int 3), (1, .int 1), (2, .int 3)], [.int 3])) rfl ?_
      refine xe_sn pg_103 4 (fr' := (15, [(0, .int 3), (1, .int 1), (2, .int 3)], [.int 1])) rfl ?_
      exact xe_end pg_103 rfl
    refine xe_sn pg_144 4 (fr' := (26, [(0, .ref 165), (1, .int 2), (2, .int 3)], [.ref 165])) rfl ?_
    refine xe_sn pg_144 4 (fr' := (34, [(0, .ref 165), (1, .int 2), (2, .int 3)], [.int 2, .int 3])) rfl ?_
    refine xe_sn pg_144 4 (fr' := (38, [(0, .ref 165), (1, .int 2), (2, .int 3)], [.int 1, .int 9])) rfl ?_
    refine xe_sn pg_144 4 (fr' := (45, [(3, .int 8), (0, .ref 165), (1, .int 2), (2, .int 3)], [.ref 165])) rfl ?_
    refine xe_sn pg_144 4 (fr' := (53, [(3, .int 8), (0, .ref 165), (1, .int 2), (2, .int 3)], [.ref 165, .ref 165])) rfl ?_
    refine xe_sn pg_144 4 (fr' := (61, [(3, .int 8), (0, .ref 165), (1, .int 2), (2, .int 3)], [.ref 165])) rfl ?_
    refine xe_sn pg_144 4 (fr' := (73, [(3, .int 8), (0, .ref 165), (1, .int 2), (2, .int 3)], [.ref 165])) rfl ?_
    refine xe_sn pg_144 3 (fr' := (80, [(3, .int 8), (0, .ref 165), (1, .int 2), (2, .int 3)], [.int 0])) rfl ?_
    exact xe_end pg_144 rfl
  · exact ⟨⟨rfl, rfl, rfl, rfl⟩, Nat.le_of_ble_eq_true rfl, Nat.le_of_ble_eq_true rfl, rfl, fun q => absurd q (by decide)⟩

set_option maxRecDepth 100000 in
theorem lf_end_17 (xs : Nat → Int32) (p1 : Int32) (a1 : p1.toInt < 1) : op_ok xs 165 144 [.ref 0, .int 3, .int p1, .ref 189] [.ref 165, .int 3, .int p1] := by
  refine ⟨1, 0, ?_⟩
  apply Exists.intro
  apply Exists.intro
  apply And.intro
  · refine xe_sn pg_165 4 (fr' := (4, [(0, .ref 0), (1, .int 3), (2, .int p1), (3, .ref 189)], [.int 3, .ref 0, .int 0, .ref 189])) rfl ?_
    refine xe_sn pg_165 1 (fr' := (5, [(0, .ref 0), (1, .int 3), (2, .int p1), (3, .ref 189)], [.int p1, .int 3, .ref 0, .int 0, .ref 189])) rfl ?_
    apply xe_callq pg_165 78 [.ref 0, .int 3, .int p1] (.inr 0) (15, [(0, .ref 0), (1, .int 3), (2, .int p1), (3, .ref 189)], []) rfl (fun _ => rfl)
    · refine xe_sn pg_78 1 (fr' := (1, [(0, .ref 0), (1, .int 3), (2, .int p1)], [.int 3])) rfl ?_
      apply xe_callq pg_78 92 [.int 3] (.inl none) (4, [(0, .ref 0), (1, .int 3), (2, .int p1)], []) rfl (fun _ => rfl)
      · refine xe_sn pg_92 2 (fr' := (2, [(0, .int 3)], [.int 4, .int 3])) rfl ?_
        apply xe_callq pg_92 95 [.int 3, .int 4] (.inl none) (5, [(0, .int 3)], []) rfl (fun _ => rfl)
        · refine xe_sn pg_95 4 (fr' := (6, [(0, .int 3), (1, .int 4)], [.int 4, .int 3])) rfl ?_
          refine xe_sn pg_95 1 (fr' := (17, [(0, .int 3), (1, .int 4)], [])) rfl ?_
          exact xe_end pg_95 rfl
        exact xe_end pg_92 rfl
      refine xe_sn pg_78 1 (fr' := (5, [(0, .ref 0), (1, .int 3), (2, .int p1)], [.int p1])) rfl ?_
      apply xe_callqx pg_78 94 [.int p1] 0 rfl (fun _ => rfl)
      · refine xe_sn pg_94 1 (fr' := (1, [(0, .int p1)], [.int p1])) rfl ?_
        apply xe_callq pg_94 100 [.int p1] (.inl (some (.int 0))) (4, [(0, .int p1)], [.int 0]) rfl (fun _ => rfl)
        · refine xe_sn pg_100 2 (fr' := (2, [(0, .int p1)], [.int 1, .int p1])) rfl ?_
          refine xe_t2 pg_100 14 rfl rfl (by show (p1).toInt < 1; omega) ?_
          refine xe_sn pg_100 1 (fr' := (15, [(0, .int p1)], [.int 0])) rfl ?_
          exact xe_end pg_100 rfl
        refine xe_sn pg_94 1 (fr' := (7, [(0, .int p1)], [])) rfl ?_
        exact xe_end pg_94 rfl
    refine xe_sn pg_165 1 (fr' := (16, [(0, .ref 0), (1, .int 3), (2, .int p1), (3, .ref 189)], [.int 1])) rfl ?_
    exact xe_end pg_165 rfl
  refine And.intro ⟨rfl, rfl, rfl, rfl⟩ ?_
  apply And.intro
  · refine xe_sn pg_144 2 (fr' := (2, [(0, .ref 165), (1, .int 3), (2, .int p1)], [.int 3, .ref 165])) rfl ?_
    apply xe_callq pg_144 104 [.int 3] (.inl (some (.int 1))) (5, [(0, .ref 165), (1, .int 3), (2, .int p1)], [.int 1, .ref 165]) rfl (fun _ => rfl)
    · refine xe_sn pg_104 3 (fr' := (3, [(0, .int 3)], [.int 3, .int 0, .int 3])) rfl ?_
      apply xe_callq pg_104 103 [.int 3, .int 0, .int 3] (.inl (some (.int 1))) (6, [(0, .int 3)], [.int 1]) rfl (fun _ => rfl)
      · refine xe_sn pg_103 4 (fr' := (6, [(0, .int 3), (1, .int 0), (2, .int 3)], [.int 3])) rfl ?_
        refine xe_sn pg_103 4 (fr' := (15, [(0, .int 3), (1, .int 0), (2, .int 3)], [.int 1])) rfl ?_
        exact xe_end pg_103 rfl
      exact xe_end pg_104 rfl
    refine xe_sn pg_144 4 (fr' := (11, [(0, .ref 165), (1, .int 3), (2, .int p1)], [.int 3, .int 1, .int p1, .ref 165])) rfl ?_
    apply xe_callq pg_144 103 [.int p1, .int 1, .int 3] (.inl (some (.int 0))) (14, [(0, .ref 165), (1, .int 3), (2, .int p1)], [.int 0, .ref 165]) rfl (fun _ => rfl)
    · refine xe_sn pg_103 2 (fr' := (2, [(0, .int p1), (1, .int 1), (2, .int 3)], [.int 1, .int p1])) rfl ?_
      refine xe_t2 pg_103 14 rfl rfl (by show (p1).toInt < 1; omega) ?_
      refine xe_sn pg_103 1 (fr' := (15, [(0, .int p1), (1, .int 1), (2, .int 3)], [.int 0])) rfl ?_
      exact xe_end pg_103 rfl
    refine xe_sn pg_144 4 (fr' := (25, [(0, .ref 165), (1, .int 3), (2, .int p1)], [])) rfl ?_
    refine xe_sn pg_144 4 (fr' := (43, [(0, .ref 165), (1, .int 3), (2, .int p1)], [.int 0])) rfl ?_
    refine xe_sn pg_144 4 (fr' := (49, [(3, .int 0), (0, .ref 165), (1, .int 3), (2, .int p1)], [.int 1, .ref 165])) rfl ?_
    refine xe_sn pg_144 4 (fr' := (72, [(3, .int 0), (0, .ref 165), (1, .int 3), (2, .int p1)], [])) rfl ?_
    refine xe_sn pg_144 4 (fr' := (80, [(3, .int 0), (0, .ref 165), (1, .int 3), (2, .int p1)], [.int 0])) rfl ?_
    exact xe_end pg_144 rfl
  · exact ⟨⟨rfl, rfl, rfl, rfl⟩, Nat.le_of_ble_eq_true rfl, Nat.le_of_ble_eq_true rfl, rfl, fun q => absurd q (by decide)⟩

set_option maxRecDepth 100000 in
theorem lf_end_18 (xs : Nat → Int32) (p1 : Int32) (b1 : 3 < p1.toInt) : op_ok xs 165 144 [.ref 0, .int 3, .int p1, .ref 189] [.ref 165, .int 3, .int p1] := by
  refine ⟨1, 0, ?_⟩
  apply Exists.intro
  apply Exists.intro
  apply And.intro
  · refine xe_sn pg_165 4 (fr' := (4, [(0, .ref 0), (1, .int 3), (2, .int p1), (3, .ref 189)], [.int 3, .ref 0, .int 0, .ref 189])) rfl ?_
    refine xe_sn pg_165 1 (fr' := (5, [(0, .ref 0), (1, .int 3), (2, .int p1), (3, .ref 189)], [.int p1, .int 3, .ref 0, .int 0, .ref 189])) rfl ?_
    apply xe_callq pg_165 78 [.ref 0, .int 3, .int p1] (.inr 0) (15, [(0, .ref 0), (1, .int 3), (2, .int p1), (3, .ref 189)], []) rfl (fun _ => rfl)
    · refine xe_sn pg_78 1 (fr' := (1, [(0, .ref 0), (1, .int 3), (2, .int p1)], [.int 3])) rfl ?_
      apply xe_callq pg_78 92 [.int 3] (.inl none) (4, [(0, .ref 0), (1, .int 3), (2, .int p1)], []) rfl (fun _ => rfl)
      · refine xe_sn pg_92 2 (fr' := (2, [(0, .int 3)], [.int 4, .int 3])) rfl ?_
        apply xe_callq pg_92 95 [.int 3, .int 4] (.inl none) (5, [(0, .int 3)], []) rfl (fun _ => rfl)
        · refine xe_sn pg_95 4 (fr' := (6, [(0, .int 3), (1, .int 4)], [.int 4, .int 3])) rfl ?_
          refine xe_sn pg_95 1 (fr' := (17, [(0, .int 3), (1, .int 4)], [])) rfl ?_
          exact xe_end pg_95 rfl
        exact xe_end pg_92 rfl
      refine xe_sn pg_78 1 (fr' := (5, [(0, .ref 0), (1, .int 3), (2, .int p1)], [.int p1])) rfl ?_
      apply xe_callqx pg_78 94 [.int p1] 0 rfl (fun _ => rfl)
      · refine xe_sn pg_94 1 (fr' := (1, [(0, .int p1)], [.int p1])) rfl ?_
        apply xe_callq pg_94 100 [.int p1] (.inl (some (.int 0))) (4, [(0, .int p1)], [.int 0]) rfl (fun _ => rfl)
        · refine xe_sn pg_100 2 (fr' := (2, [(0, .int p1)], [.int 1, .int p1])) rfl ?_
          refine xe_f2 pg_100 14 rfl rfl (by show ¬ ((p1).toInt < 1); omega) ?_
          refine xe_sn pg_100 2 (fr' := (7, [(0, .int p1)], [.int 3, .int p1])) rfl ?_
          refine xe_t2 pg_100 14 rfl rfl (by show 3 < (p1).toInt; omega) ?_
          refine xe_sn pg_100 1 (fr' := (15, [(0, .int p1)], [.int 0])) rfl ?_
          exact xe_end pg_100 rfl
        refine xe_sn pg_94 1 (fr' := (7, [(0, .int p1)], [])) rfl ?_
        exact xe_end pg_94 rfl
    refine xe_sn pg_165 1 (fr' := (16, [(0, .ref 0), (1, .int 3), (2, .int p1), (3, .ref 189)], [.int 1])) rfl ?_
    exact xe_end pg_165 rfl
  refine And.intro ⟨rfl, rfl, rfl, rfl⟩ ?_
  apply And.intro
  · refine xe_sn pg_144 2 (fr' := (2, [(0, .ref 165), (1, .int 3), (2, .int p1)], [.int 3, .ref 165])) rfl ?_
    apply xe_callq pg_144 104 [.int 3] (.inl (some (.int 1))) (5, [(0, .ref 165), (1, .int 3), (2, .int p1)], [.int 1, .ref 165]) rfl (fun _ => rfl)
    · refine xe_sn pg_104 3 (fr' := (3, [(0, .int 3)], [.int 3, .int 0, .int 3])) rfl ?_
      apply xe_callq pg_104 103 [.int 3, .int 0, .int 3] (.inl (some (.int 1))) (6, [(0, .int 3)], [.int 1]) rfl (fun _ => rfl)
      · refine xe_sn pg_103 4 (fr' := (6, [(0, .int 3), (1, .int 0), (2, .int 3)], [.int 3])) rfl ?_
        refine xe_sn pg_103 4 (fr' := (15, [(0, .int 3), (1, .int 0), (2, .int 3)], [.int 1])) rfl ?_
        exact xe_end pg_103 rfl
      exact xe_end pg_104 rfl
    refine xe_sn pg_144 4 (fr' := (11, [(0, .ref 165), (1, .int 3), (2, .int p1)], [.int 3, .int 1, .int p1, .ref 165])) rfl ?_
    apply xe_callq pg_144 103 [.int p1, .int 1, .int 3] (.inl (some (.int 0))) (14, [(0, .ref 165), (1, .int 3), (2, .int p1)], [.int 0, .ref 165]) rfl (fun _ => rfl)
    · refine xe_sn pg_103 2 (fr' := (2, [(0, .int p1), (1, .int 1), (2, .int 3)], [.int 1, .int p1])) rfl ?_
      refine xe_f2 pg_103 14 rfl rfl (by show ¬ ((p1).toInt < 1); omega) ?_
      refine xe_sn pg_103 2 (fr' := (7, [(0, .int p1), (1, .int 1), (2, .int 3)], [.int 3, .int p1])) rfl ?_
      refine xe_t2 pg_103 14 rfl rfl (by show 3 < (p1).toInt; omega) ?_
      refine xe_sn pg_103 1 (fr' := (15, [(0, .int p1), (1, .int 1), (2, .int 3)], [.int 0])) rfl ?_
      exact xe_end pg_103 rfl
    refine xe_sn pg_144 4 (fr' := (25, [(0, .ref 165), (1, .int 3), (2, .int p1)], [])) rfl ?_
    refine xe_sn pg_144 4 (fr' := (43, [(0, .ref 165), (1, .int 3), (2, .int p1)], [.int 0])) rfl ?_
    refine xe_sn pg_144 4 (fr' := (49, [(3, .int 0), (0, .ref 165), (1, .int 3), (2, .int p1)], [.int 1, .ref 165])) rfl ?_
    refine xe_sn pg_144 4 (fr' := (72, [(3, .int 0), (0, .ref 165), (1, .int 3), (2, .int p1)], [])) rfl ?_
    refine xe_sn pg_144 4 (fr' := (80, [(3, .int 0), (0, .ref 165), (1, .int 3), (2, .int p1)], [.int 0])) rfl ?_
    exact xe_end pg_144 rfl
  · exact ⟨⟨rfl, rfl, rfl, rfl⟩, Nat.le_of_ble_eq_true rfl, Nat.le_of_ble_eq_true rfl, rfl, fun q => absurd q (by decide)⟩

set_option maxRecDepth 100000 in
theorem lf_end_19 (xs : Nat → Int32) : op_ok xs 165 144 [.ref 0, .int 3, .int 1, .ref 189] [.ref 165, .int 3, .int 1] := by
  refine ⟨2, 0, ?_⟩
  apply Exists.intro
  apply Exists.intro
  apply And.intro
  · refine xe_sn pg_165 4 (fr' := (4, [(0, .ref 0), (1, .int 3), (2, .int 1), (3, .ref 189)], [.int 3, .ref 0, .int 0, .ref 189])) rfl ?_
    refine xe_sn pg_165 1 (fr' := (5, [(0, .ref 0), (1, .int 3), (2, .int 1), (3, .ref 189)], [.int 1, .int 3, .ref 0, .int 0, .ref 189])) rfl ?_
    apply xe_callq pg_165 78 [.ref 0, .int 3, .int 1] (.inr 2) (19, [(0, .ref 0), (1, .int 3), (2, .int 1), (3, .ref 189)], []) rfl (fun _ => rfl)
    · refine xe_sn pg_78 1 (fr' := (1, [(0, .ref 0), (1, .int 3), (2, .int 1)], [.int 3])) rfl ?_
      apply xe_callq pg_78 92 [.int 3] (.inl none) (4, [(0, .ref 0), (1, .int 3), (2, .int 1)], []) rfl (fun _ => rfl)
      · refine xe_sn pg_92 2 (fr' := (2, [(0, .int 3)], [.int 4, .int 3])) rfl ?_
        apply xe_callq pg_92 95 [.int 3, .int 4] (.inl none) (5, [(0, .int 3)], []) rfl (fun _ => rfl)
        · refine xe_sn pg_95 4 (fr' := (6, [(0, .int 3), (1, .int 4)], [.int 4, .int 3])) rfl ?_
          refine xe_sn pg_95 1 (fr' := (17, [(0, .int 3), (1, .int 4)], [])) rfl ?_
          exact xe_end pg_95 rfl
        exact xe_end pg_92 rfl
      refine xe_sn pg_78 1 (fr' := (5, [(0, .ref 0), (1, .int 3), (2, .int 1)], [.int 1])) rfl ?_
      apply xe_callq pg_78 94 [.int 1] (.inl none) (8, [(0, .ref 0), (1, .int 3), (2, .int 1)], []) rfl (fun _ => rfl)
      · refine xe_sn pg_94 1 (fr' := (1, [(0, .int 1)], [.int 1])) rfl ?_
        apply xe_callq pg_94 100 [.int 1] (.inl (some (.int 1))) (4, [(0, .int 1)], [.int 1]) rfl (fun _ => rfl)
        · refine xe_sn pg_100 4 (fr' := (6, [(0, .int 1)], [.int 1])) rfl ?_
          refine xe_sn pg_100 4 (fr' := (15, [(0, .int 1)], [.int 1])) rfl ?_
          exact xe_end pg_100 rfl
        refine xe_sn pg_94 1 (fr' := (15, [(0, .int 1)], [])) rfl ?_
        exact xe_end pg_94 rfl
      refine xe_sn pg_78 4 (fr' := (14, [(0, .ref 0), (1, .int 3), (2, .int 1)], [.ref 154])) rfl ?_
      refine xe_sn pg_78 4 (fr' := (20, [(0, .ref 0), (1, .int 3), (2, .int 1)], [.int 0, .ref 160])) rfl ?_
      refine xe_sn pg_78 4 (fr' := (26, [(3, .int 0), (0, .ref 0), (1, .int 3), (2, .int 1)], [.int 0])) rfl ?_
      refine xe_sn pg_78 2 (fr' := (34, [(3, .int 0), (0, .ref 0), (1, .int 3), (2, .int 1)], [.int 0])) rfl ?_
      apply xe_callqx pg_78 98 [.int 0] 2 rfl (fun _ => rfl)
      · refine xe_sn pg_98 2 (fr' := (4, [(0, .int 0)], [])) rfl ?_
        exact xe_end pg_98 rfl
    refine xe_sn pg_165 1 (fr' := (20, [(0, .ref 0), (1, .int 3), (2, .int 1), (3, .ref 189)], [.int 2])) rfl ?_
    exact xe_end pg_165 rfl
  refine And.intro ⟨rfl, rfl, rfl, rfl⟩ ?_
  apply And.intro
  · refine xe_sn pg_144 2 (fr' := (2, [(0, .ref 165), (1, .int 3), (2, .int 1)], [.int 3, .ref 165])) rfl ?_
    apply xe_callq pg_144 104 [.int 3] (.inl (some (.int 1))) (5, [(0, .ref 165), (1, .int 3), (2, .int 1)], [.int 1, .ref 165]) rfl (fun _ => rfl)
    · refine xe_sn pg_104 3 (fr' := (3, [(0, .int 3)], [.int 3, .int 0, .int 3])) rfl ?_
      apply xe_callq pg_104 103 [.int 3, .int 0, .int 3] (.inl (some (.int 1))) (6, [(0, .int 3)], [.int 1]) rfl (fun _ => rfl)
      · refine xe_sn pg_103 4 (fr' := (6, [(0, .int 3), (1, .int 0), (2, .int 3)], [.int 3])) rfl ?_
        refine xe_sn pg_103 4 (fr' := (15, [(0, .int 3), (1, .int 0), (2, .int 3)], [.int 1])) rfl ?_
        exact xe_end pg_103 rfl
      exact xe_end pg_104 rfl
    refine xe_sn pg_144 4 (fr' := (11, [(0, .ref 165), (1, .int 3), (2, .int 1)], [.int 3, .int 1, .int 1, .ref 165])) rfl ?_
    apply xe_callq pg_144 103 [.int 1, .int 1, .int 3] (.inl (some (.int 1))) (14, [(0, .ref 165), (1, .int 3), (2, .int 1)], [.int 1, .ref 165]) rfl (fun _ => rfl)
    · refine xe_sn pg_103 4 (fr' := (6, [(0, .int 1), (1, .int 1), (2, .int 3)], [.int 1])) rfl ?_
      refine xe_sn pg_103 4 (fr' := (15, [(0, .int 1), (1, .int 1), (2, .int 3)], [.int 1])) rfl ?_
      exact xe_end pg_103 rfl
    refine xe_sn pg_144 4 (fr' := (26, [(0, .ref 165), (1, .int 3), (2, .int 1)], [.ref 165])) rfl ?_
    refine xe_sn pg_144 4 (fr' := (34, [(0, .ref 165), (1, .int 3), (2, .int 1)], [.int 3, .int 3])) rfl ?_
    refine xe_sn pg_144 4 (fr' := (38, [(0, .ref 165), (1, .int 3), (2, .int 1)], [.int 1, .int 10])) rfl ?_
    refine xe_sn pg_144 4 (fr' := (45, [(3, .int 9), (0, .ref 165), (1, .int 3), (2, .int 1)], [.ref 165])) rfl ?_
    refine xe_sn pg_144 4 (fr' := (53, [(3, .int 9), (0, .ref 165), (1, .int 3), (2, .int 1)], [.ref 165, .ref 165])) rfl ?_
    refine xe_sn pg_144 4 (fr' := (61, [(3, .int 9), (0, .ref 165), (1, .int 3), (2, .int 1)], [.ref 165])) rfl ?_
    refine xe_sn pg_144 4 (fr' := (73, [(3, .int 9), (0, .ref 165), (1, .int 3), (2, .int 1)], [.ref 165])) rfl ?_
    refine xe_sn pg_144 3 (fr' := (80, [(3, .int 9), (0, .ref 165), (1, .int 3), (2, .int 1)], [.int 0])) rfl ?_
    exact xe_end pg_144 rfl
  · exact ⟨⟨rfl, rfl, rfl, rfl⟩, Nat.le_of_ble_eq_true rfl, Nat.le_of_ble_eq_true rfl, rfl, fun q => absurd q (by decide)⟩

set_option maxRecDepth 100000 in
theorem lf_end_20 (xs : Nat → Int32) : op_ok xs 165 144 [.ref 0, .int 3, .int 2, .ref 189] [.ref 165, .int 3, .int 2] := by
  refine ⟨2, 0, ?_⟩
  apply Exists.intro
  apply Exists.intro
  apply And.intro
  · refine xe_sn pg_165 4 (fr' := (4, [(0, .ref 0), (1, .int 3), (2, .int 2), (3, .ref 189)], [.int 3, .ref 0, .int 0, .ref 189])) rfl ?_
    refine xe_sn pg_165 1 (fr' := (5, [(0, .ref 0), (1, .int 3), (2, .int 2), (3, .ref 189)], [.int 2, .int 3, .ref 0, .int 0, .ref 189])) rfl ?_
    apply xe_callq pg_165 78 [.ref 0, .int 3, .int 2] (.inr 2) (19, [(0, .ref 0), (1, .int 3), (2, .int 2), (3, .ref 189)], []) rfl (fun _ => rfl)
    · refine xe_sn pg_78 1 (fr' := (1, [(0, .ref 0), (1, .int 3), (2, .int 2)], [.int 3])) rfl ?_
      apply xe_callq pg_78 92 [.int 3] (.inl none) (4, [(0, .ref 0), (1, .int 3), (2, .int 2)], []) rfl (fun _ => rfl)
      · refine xe_sn pg_92 2 (fr' := (2, [(0, .int 3)], [.int 4, .int 3])) rfl ?_
        apply xe_callq pg_92 95 [.int 3, .int 4] (.inl none) (5, [(0, .int 3)], []) rfl (fun _ => rfl)
        · refine xe_sn pg_95 4 (fr' := (6, [(0, .int 3), (1, .int 4)], [.int 4, .int 3])) rfl ?_
          refine xe_sn pg_95 1 (fr' := (17, [(0, .int 3), (1, .int 4)], [])) rfl ?_
          exact xe_end pg_95 rfl
        exact xe_end pg_92 rfl
      refine xe_sn pg_78 1 (fr' := (5, [(0, .ref 0), (1, .int 3), (2, .int 2)], [.int 2])) rfl ?_
      apply xe_callq pg_78 94 [.int 2] (.inl none) (8, [(0, .ref 0), (1, .int 3), (2, .int 2)], []) rfl (fun _ => rfl)
      · refine xe_sn pg_94 1 (fr' := (1, [(0, .int 2)], [.int 2])) rfl ?_
        apply xe_callq pg_94 100 [.int 2] (.inl (some (.int 1))) (4, [(0, .int 2)], [.int 1]) rfl (fun _ => rfl)
        · refine xe_sn pg_100 4 (fr' := (6, [(0, .int 2)], [.int 2])) rfl ?_
          refine xe_sn pg_100 4 (fr' := (15, [(0, .int 2)], [.int 1])) rfl ?_
          exact xe_end pg_100 rfl
        refine xe_sn pg_94 1 (fr' := (15, [(0, .int 2)], [])) rfl ?_
        exact xe_end pg_94 rfl
      refine xe_sn pg_78 4 (fr' := (14, [(0, .ref 0), (1, .int 3), (2, .int 2)], [.ref 154])) rfl ?_
      refine xe_sn pg_78 4 (fr' := (20, [(0, .ref 0), (1, .int 3), (2, .int 2)], [.int 1, .ref 160])) rfl ?_
      refine xe_sn pg_78 4 (fr' := (26, [(3, .int 0), (0, .ref 0), (1, .int 3), (2, .int 2)], [.int 0])) rfl ?_
      refine xe_sn pg_78 2 (fr' := (34, [(3, .int 0), (0, .ref 0), (1, .int 3), (2, .int 2)], [.int 0])) rfl ?_
      apply xe_callqx pg_78 98 [.int 0] 2 rfl (fun _ => rfl)
      · refine xe_sn pg_98 2 (fr' := (4, [(0, .int 0)], [])) rfl ?_
        exact xe_end pg_98 rfl
    refine xe_sn pg_165 1 (fr' := (20, [(0, .ref 0), (1, .int 3), (2, .int 2), (3, .ref 189)], [.int 2])) rfl ?_
    exact xe_end pg_165 rfl
  refine And.intro ⟨rfl, rfl, rfl, rfl⟩ ?_
  apply And.intro
  · refine xe_sn pg_144 2 (fr' := (2, [(0, .ref 165), (1, .int 3), (2, .int 2)], [.int 3, .ref 165])) rfl ?_
    apply xe_callq pg_144 104 [.int 3] (.inl (some (.int 1))) (5, [(0, .ref 165), (1, .int 3), (2, .int 2)], [.int 1, .ref 165]) rfl (fun _ => rfl)
    · refine xe_sn pg_104 3 (fr' := (3, [(0, .int 3)], [.int 3, .int 0, .int 3])) rfl ?_
      apply xe_callq pg_104 103 [.int 3, .int 0, .int 3] (.inl (some (.int 1))) (6, [(0, .int 3)], [.int 1]) rfl (fun _ => rfl)
      · refine xe_sn pg_103 4 (fr' := (6, [(0, .int 3), (1, .int 0), (2, .int 3)], [.int 3])) rfl ?_
        refine xe_sn pg_103 4 (fr' := (15, [(0, .int 3), (1, .int 0), (2, .int 3)], [.int 1])) rfl ?_
        exact xe_end pg_103 rfl
      exact xe_end pg_104 rfl
    refine xe_sn pg_144 4 (fr' := (11, [(0, .ref 165), (1, .int 3), (2, .int 2)], [.int 3, .int 1, .int 2, .ref 165])) rfl ?_
    apply xe_callq pg_144 103 [.int 2, .int 1, .int 3] (.inl (some (.int 1))) (14, [(0, .ref 165), (1, .int 3), (2, .int 2)], [.int 1, .ref 165]) rfl (fun _ => rfl)
    · refine xe_sn pg_103 4 (fr' := (6, [(0, .int 2), (1, .int 1), (2, .int 3)], [.int 2])) rfl ?_
      refine xe_sn pg_103 4 (fr' := (15, [(0, .int 2), (1, .int 1), (2, .int 3)], [.int 1])) rfl ?_
      exact xe_end pg_103 rfl
    refine xe_sn pg_144 4 (fr' := (26, [(0, .ref 165), (1, .int 3), (2, .int 2)], [.ref 165])) rfl ?_
    refine xe_sn pg_144 4 (fr' := (34, [(0, .ref 165), (1, .int 3), (2, .int 2)], [.int 3, .int 3])) rfl ?_
    refine xe_sn pg_144 4 (fr' := (38, [(0, .ref 165), (1, .int 3), (2, .int 2)], [.int 1, .int 11])) rfl ?_
    refine xe_sn pg_144 4 (fr' := (45, [(3, .int 10), (0, .ref 165), (1, .int 3), (2, .int 2)], [.ref 165])) rfl ?_
    refine xe_sn pg_144 4 (fr' := (53, [(3, .int 10), (0, .ref 165), (1, .int 3), (2, .int 2)], [.ref 165, .ref 165])) rfl ?_
    refine xe_sn pg_144 4 (fr' := (61, [(3, .int 10), (0, .ref 165), (1, .int 3), (2, .int 2)], [.ref 165])) rfl ?_
    refine xe_sn pg_144 4 (fr' := (73, [(3, .int 10), (0, .ref 165), (1, .int 3), (2, .int 2)], [.ref 165])) rfl ?_
    refine xe_sn pg_144 3 (fr' := (80, [(3, .int 10), (0, .ref 165), (1, .int 3), (2, .int 2)], [.int 0])) rfl ?_
    exact xe_end pg_144 rfl
  · exact ⟨⟨rfl, rfl, rfl, rfl⟩, Nat.le_of_ble_eq_true rfl, Nat.le_of_ble_eq_true rfl, rfl, fun q => absurd q (by decide)⟩

set_option maxRecDepth 100000 in
theorem lf_end_21 (xs : Nat → Int32) : op_ok xs 165 144 [.ref 0, .int 3, .int 3, .ref 189] [.ref 165, .int 3, .int 3] := by
  refine ⟨2, 0, ?_⟩
  apply Exists.intro
  apply Exists.intro
  apply And.intro
  · refine xe_sn pg_165 4 (fr' := (4, [(0, .ref 0), (1, .int 3), (2, .int 3), (3, .ref 189)], [.int 3, .ref 0, .int 0, .ref 189])) rfl ?_
    refine xe_sn pg_165 1 (fr' := (5, [(0, .ref 0), (1, .int 3), (2, .int 3), (3, .ref 189)], [.int 3, .int 3, .ref 0, .int 0, .ref 189])) rfl ?_
    apply xe_callq pg_165 78 [.ref 0, .int 3, .int 3] (.inr 2) (19, [(0, .ref 0), (1, .int 3), (2, .int 3), (3, .ref 189)], []) rfl (fun _ => rfl)
    · refine xe_sn pg_78 1 (fr' := (1, [(0, .ref 0), (1, .int 3), (2, .int 3)], [.int 3])) rfl ?_
      apply xe_callq pg_78 92 [.int 3] (.inl none) (4, [(0, .ref 0), (1, .int 3), (2, .int 3)], []) rfl (fun _ => rfl)
      · refine xe_sn pg_92 2 (fr' := (2, [(0, .int 3)], [.int 4, .int 3])) rfl ?_
        apply xe_callq pg_92 95 [.int 3, .int 4] (.inl none) (5, [(0, .int 3)], []) rfl (fun _ => rfl)
        · refine xe_sn pg_95 4 (fr' := (6, [(0, .int 3), (1, .int 4)], [.int 4, .int 3])) rfl ?_
          refine xe_sn pg_95 1 (fr' := (17, [(0, .int 3), (1, .int 4)], [])) rfl ?_
          exact xe_end pg_95 rfl
        exact xe_end pg_92 rfl
      refine xe_sn pg_78 1 (fr' := (5, [(0, .ref 0), (1, .int 3), (2, .int 3)], [.int 3])) rfl ?_
      apply xe_callq pg_78 94 [.int 3] (.inl none) (8, [(0, .ref 0), (1, .int 3), (2, .int 3)], []) rfl (fun _ => rfl)
      · refine xe_sn pg_94 1 (fr' := (1, [(0, .int 3)], [.int 3])) rfl ?_
        apply xe_callq pg_94 100 [.int 3] (.inl (some (.int 1))) (4, [(0, .int 3)], [.int 1]) rfl (fun _ => rfl)
        · refine xe_sn pg_100 4 (fr' := (6, [(0, .int 3)], [.int 3])) rfl ?_
          refine xe_sn pg_100 4 (fr' := (15, [(0, .int 3)], [.int 1])) rfl ?_
          exact xe_end pg_100 rfl
        refine xe_sn pg_94 1 (fr' := (15, [(0, .int 3)], [])) rfl ?_
        exact xe_end pg_94 rfl
      refine xe_sn pg_78 4 (fr' := (14, [(0, .ref 0), (1, .int 3), (2, .int 3)], [.ref 154])) rfl ?_
      refine xe_sn pg_78 4 (fr' := (20, [(0, .ref 0), (1, .int 3), (2, .int 3)], [.int 2, .ref 160])) rfl ?_
      refine xe_sn pg_78 4 (fr' := (26, [(3, .int 0), (0, .ref 0), (1, .int 3), (2, .int 3)], [.int 0])) rfl ?_
      refine xe_sn pg_78 2 (fr' := (34, [(3, .int 0), (0, .ref 0), (1, .int 3), (2, .int 3)], [.int 0])) rfl ?_
      apply xe_callqx pg_78 98 [.int 0] 2 rfl (fun _ => rfl)
      · refine xe_sn pg_98 2 (fr' := (4, [(0, .int 0)], [])) rfl ?_
        exact xe_end pg_98 rfl
    refine xe_sn pg_165 1 (fr' := (20, [(0, .ref 0), (1, .int 3), (2, .int 3), (3, .ref 189)], [.int 2])) rfl ?_
    exact xe_end pg_165 rfl
  refine And.intro ⟨rfl, rfl, rfl, rfl⟩ ?_
  apply And.intro
  · refine xe_sn pg_144 2 (fr' := (2, [(0, .ref 165), (1, .int 3), (2, .int 3)], [.int 3, .ref 165])) rfl ?_
    apply xe_callq pg_144 104 [.int 3] (.inl (some (.int 1))) (5, [(0, .ref 165), (1, .int 3), (2, .int 3)], [.int 1, .ref 165]) rfl (fun _ => rfl)
    · refine xe_sn pg_104 3 (fr' := (3, [(0, .int 3)], [.int 3, .int 0, .int 3])) rfl ?_
      apply xe_callq pg_104 103 [.int 3, .int 0, .int 3] (.inl (some (.int 1))) (6, [(0, .int 3)], [.int 1]) rfl (fun _ => rfl)
      · refine xe_sn pg_103 4 (fr' := (6, [(0, .int 3), (1, .int 0), (2, .int 3)], [.int 3])) rfl ?_
        refine xe_sn pg_103 4 (fr' := (15, [(0, .int 3), (1, .int 0), (2, .int 3)], [.int 1])) rfl ?_
        exact xe_end pg_103 rfl
      exact xe_end pg_104 rfl
    refine xe_sn pg_144 4 (fr' := (11, [(0, .ref 165), (1, .int 3), (2, .int 3)], [.int 3, .int 1, .int 3, .ref 165])) rfl ?_
    apply xe_callq pg_144 103 [.int 3, .int 1, .int 3] (.inl (some (.int 1))) (14, [(0, .ref 165), (1, .int 3), (2, .int 3)], [.int 1, .ref 165]) rfl (fun _ => rfl)
    · refine xe_sn pg_103 4 (fr' := (6, [(0, .int 3), (1, .int 1), (2, .int 3)], [.int 3])) rfl ?_
      refine xe_sn pg_103 4 (fr' := (15, [(0, .int 3), (1, .int 1), (2, .int 3)], [.int 1])) rfl ?_
      exact xe_end pg_103 rfl
    refine xe_sn pg_144 4 (fr' := (26, [(0, .ref 165), (1, .int 3), (2, .int 3)], [.ref 165])) rfl ?_
    refine xe_sn pg_144 4 (fr' := (34, [(0, .ref 165), (1, .int 3), (2, .int 3)], [.int 3, .int 3])) rfl ?_
    refine xe_sn pg_144 4 (fr' := (38, [(0, .ref 165), (1, .int 3), (2, .int 3)], [.int 1, .int 12])) rfl ?_
    refine xe_sn pg_144 4 (fr' := (45, [(3, .int 11), (0, .ref 165), (1, .int 3), (2, .int 3)], [.ref 165])) rfl ?_
    refine xe_sn pg_144 4 (fr' := (53, [(3, .int 11), (0, .ref 165), (1, .int 3), (2, .int 3)], [.ref 165, .ref 165])) rfl ?_
    refine xe_sn pg_144 4 (fr' := (61, [(3, .int 11), (0, .ref 165), (1, .int 3), (2, .int 3)], [.ref 165])) rfl ?_
    refine xe_sn pg_144 4 (fr' := (73, [(3, .int 11), (0, .ref 165), (1, .int 3), (2, .int 3)], [.ref 165])) rfl ?_
    refine xe_sn pg_144 3 (fr' := (80, [(3, .int 11), (0, .ref 165), (1, .int 3), (2, .int 3)], [.int 0])) rfl ?_
    exact xe_end pg_144 rfl
  · exact ⟨⟨rfl, rfl, rfl, rfl⟩, Nat.le_of_ble_eq_true rfl, Nat.le_of_ble_eq_true rfl, rfl, fun q => absurd q (by decide)⟩
theorem op_end (xs : Nat → Int32) (p0 p1 : Int32) : op_ok xs 165 144 [.ref 0, .int p0, .int p1, .ref 189] [.ref 165, .int p0, .int p1] := by
  by_cases a0 : p0.toInt < 0
  · exact lf_end_0 xs p0 p1 a0
  by_cases b0 : 3 < p0.toInt
  · exact lf_end_1 xs p0 p1 b0
  replace a0 : 0 ≤ p0.toInt := by omega
  replace b0 : p0.toInt ≤ 3 := by omega
  rcases (by omega : p0.toInt = 0 ∨ p0.toInt = 1 ∨ p0.toInt = 2 ∨ p0.toInt = 3) with q0 | q0 | q0 | q0
  · obtain rfl : p0 = 0 := Int32.toInt_inj.mp (q0.trans (by decide))
    by_cases a1 : p1.toInt < 1
    · exact lf_end_2 xs p1 a1
    by_cases b1 : 3 < p1.toInt
    · exact lf_end_3 xs p1 b1
    replace a1 : 1 ≤ p1.toInt := by omega
    replace b1 : p1.toInt ≤ 3 := by omega
    rcases (by omega : p1.toInt = 1 ∨ p1.toInt = 2 ∨ p1.toInt = 3) with q1 | q1 | q1
    · obtain rfl : p1 = 1 := Int32.toInt_inj.mp (q1.trans (by decide))
      exact lf_end_4 xs 
    · obtain rfl : p1 = 2 := Int32.toInt_inj.mp (q1.trans (by decide))
      exact lf_end_5 xs 
    · obtain rfl : p1 = 3 := Int32.toInt_inj.mp (q1.trans (by decide))
      exact lf_end_6 xs 
  · obtain rfl : p0 = 1 := Int32.toInt_inj.mp (q0.trans (by decide))
    by_cases a1 : p1.toInt < 1
    · exact lf_end_7 xs p1 a1
    by_cases b1 : 3 < p1.toInt
    · exact lf_end_8 xs p1 b1
    replace a1 : 1 ≤ p1.toInt := by omega
    replace b1 : p1.toInt ≤ 3 := by omega
    rcases (by omega : p1.toInt = 1 ∨ p1.toInt = 2 ∨ p1.toInt = 3) with q1 | q1 | q1
    · obtain rfl : p1 = 1 := Int32.toInt_inj.mp (q1.trans (by decide))
      exact lf_end_9 xs 
    · obtain rfl : p1 = 2 := Int32.toInt_inj.mp (q1.trans (by decide))
      exact lf_end_10 xs 
    · obtain rfl : p1 = 3 := Int32.toInt_inj.mp (q1.trans (by decide))
      exact lf_end_11 xs 
  · obtain rfl : p0 = 2 := Int32.toInt_inj.mp (q0.trans (by decide))
    by_cases a1 : p1.toInt < 1
    · exact lf_end_12 xs p1 a1
    by_cases b1 : 3 < p1.toInt
    · exact lf_end_13 xs p1 b1
    replace a1 : 1 ≤ p1.toInt := by omega
    replace b1 : p1.toInt ≤ 3 := by omega
    rcases (by omega : p1.toInt = 1 ∨ p1.toInt = 2 ∨ p1.toInt = 3) with q1 | q1 | q1
    · obtain rfl : p1 = 1 := Int32.toInt_inj.mp (q1.trans (by decide))
      exact lf_end_14 xs 
    · obtain rfl : p1 = 2 := Int32.toInt_inj.mp (q1.trans (by decide))
      exact lf_end_15 xs 
    · obtain rfl : p1 = 3 := Int32.toInt_inj.mp (q1.trans (by decide))
      exact lf_end_16 xs 
  · obtain rfl : p0 = 3 := Int32.toInt_inj.mp (q0.trans (by decide))
    by_cases a1 : p1.toInt < 1
    · exact lf_end_17 xs p1 a1
    by_cases b1 : 3 < p1.toInt
    · exact lf_end_18 xs p1 b1
    replace a1 : 1 ≤ p1.toInt := by omega
    replace b1 : p1.toInt ≤ 3 := by omega
    rcases (by omega : p1.toInt = 1 ∨ p1.toInt = 2 ∨ p1.toInt = 3) with q1 | q1 | q1
    · obtain rfl : p1 = 1 := Int32.toInt_inj.mp (q1.trans (by decide))
      exact lf_end_19 xs 
    · obtain rfl : p1 = 2 := Int32.toInt_inj.mp (q1.trans (by decide))
      exact lf_end_20 xs 
    · obtain rfl : p1 = 3 := Int32.toInt_inj.mp (q1.trans (by decide))
      exact lf_end_21 xs 

