set_option maxRecDepth 100000 in
theorem lf_begin_0 (xs : Nat → Int32) (p0 : Int32) (p1 : Int32) (p2 : Int32) (a0 : p0.toInt < 0) : op_okv xs 163 142 [.ref 0, .int p0, .int p1, .int p2] [.ref 165, .int p0, .int p1, .int p2] := by
  refine ⟨1, ?_⟩
  apply Exists.intro
  apply Exists.intro
  apply And.intro
  · refine xe_sn pg_163 4 (fr' := (4, [(0, .ref 0), (1, .int p0), (2, .int p1), (3, .int p2)], [.int p2, .int p1, .int p0, .ref 0])) rfl ?_
    apply xe_callq pg_163 76 [.ref 0, .int p0, .int p1, .int p2] (.inr 0) (12, [(0, .ref 0), (1, .int p0), (2, .int p1), (3, .int p2)], []) rfl (fun _ => rfl)
    · refine xe_sn pg_76 1 (fr' := (1, [(0, .ref 0), (1, .int p0), (2, .int p1), (3, .int p2)], [.int p0])) rfl ?_
      apply xe_callqx pg_76 92 [.int p0] 0 rfl (fun _ => rfl)
      · refine xe_sn pg_92 2 (fr' := (2, [(0, .int p0)], [.int 4, .int p0])) rfl ?_
        apply xe_callqx pg_92 95 [.int p0, .int 4] 0 rfl (fun _ => rfl)
        · refine xe_sn pg_95 1 (fr' := (1, [(0, .int p0), (1, .int 4)], [.int p0])) rfl ?_
          refine xe_t1 pg_95 9 rfl rfl (by show (p0).toInt < 0; omega) ?_
          exact xe_end pg_95 rfl
    refine xe_sn pg_163 1 (fr' := (13, [(0, .ref 0), (1, .int p0), (2, .int p1), (3, .int p2)], [.int 1])) rfl ?_
    exact xe_end pg_163 rfl
  refine And.intro ⟨rfl, rfl, rfl, rfl⟩ ?_
  apply And.intro
  · refine xe_sn pg_142 2 (fr' := (2, [(0, .ref 165), (1, .int p0), (2, .int p1), (3, .int p2)], [.int p0, .ref 165])) rfl ?_
    apply xe_callq pg_142 104 [.int p0] (.inl (some (.int 0))) (5, [(0, .ref 165), (1, .int p0), (2, .int p1), (3, .int p2)], [.int 0, .ref 165]) rfl (fun _ => rfl)
    · refine xe_sn pg_104 3 (fr' := (3, [(0, .int p0)], [.int 3, .int 0, .int p0])) rfl ?_
      apply xe_callq pg_104 103 [.int p0, .int 0, .int 3] (.inl (some (.int 0))) (6, [(0, .int p0)], [.int 0]) rfl (fun _ => rfl)
      · refine xe_sn pg_103 2 (fr' := (2, [(0, .int p0), (1, .int 0), (2, .int 3)], [.int 0, .int p0])) rfl ?_
        refine xe_t2 pg_103 14 rfl rfl (by show (p0).toInt < 0; omega) ?_
        refine xe_sn pg_103 1 (fr' := (15, [(0, .int p0), (1, .int 0), (2, .int 3)], [.int 0])) rfl ?_
        exact xe_end pg_103 rfl
      exact xe_end pg_104 rfl
    refine xe_sn pg_142 4 (fr' := (25, [(0, .ref 165), (1, .int p0), (2, .int p1), (3, .int p2)], [])) rfl ?_
    refine xe_sn pg_142 4 (fr' := (43, [(0, .ref 165), (1, .int p0), (2, .int p1), (3, .int p2)], [.int 0])) rfl ?_
    refine xe_sn pg_142 4 (fr' := (50, [(4, .int 0), (0, .ref 165), (1, .int p0), (2, .int p1), (3, .int p2)], [.int 1, .ref 165])) rfl ?_
    refine xe_sn pg_142 4 (fr' := (100, [(4, .int 0), (0, .ref 165), (1, .int p0), (2, .int p1), (3, .int p2)], [])) rfl ?_
    refine xe_sn pg_142 3 (fr' := (144, [(4, .int 0), (0, .ref 165), (1, .int p0), (2, .int p1), (3, .int p2)], [])) rfl ?_
    exact xe_end pg_142 rfl
  · exact ⟨⟨rfl, rfl, rfl, rfl⟩, Nat.le_of_ble_eq_true rfl, Nat.le_of_ble_eq_true rfl, rfl⟩

set_option maxRecDepth 100000 in
theorem lf_begin_1 (xs : Nat → Int32) (p0 : Int32) (p1 : Int32) (p2 : Int32) (b0 : 3 < p0.toInt) : op_okv xs 163 142 [.ref 0, .int p0, .int p1, .int p2] [.ref 165, .int p0, .int p1, .int p2] := by
  refine ⟨1, ?_⟩
  apply Exists.intro
  apply Exists.intro
  apply And.intro
  · refine xe_sn pg_163 4 (fr' := (4, [(0, .ref 0), (1, .int p0), (2, .int p1), (3, .int p2)], [.int p2, .int p1, .int p0, .ref 0])) rfl ?_
    apply xe_callq pg_163 76 [.ref 0, .int p0, .int p1, .int p2] (.inr 0) (12, [(0, .ref 0), (1, .int p0), (2, .int p1), (3, .int p2)], []) rfl (fun _ => rfl)
    · refine xe_sn pg_76 1 (fr' := (1, [(0, .ref 0), (1, .int p0), (2, .int p1), (3, .int p2)], [.int p0])) rfl ?_
      apply xe_callqx pg_76 92 [.int p0] 0 rfl (fun _ => rfl)
      · refine xe_sn pg_92 2 (fr' := (2, [(0, .int p0)], [.int 4, .int p0])) rfl ?_
        apply xe_callqx pg_92 95 [.int p0, .int 4] 0 rfl (fun _ => rfl)
        · refine xe_sn pg_95 1 (fr' := (1, [(0, .int p0), (1, .int 4)], [.int p0])) rfl ?_
          refine xe_f1 pg_95 9 rfl rfl (by show ¬ ((p0).toInt < 0); omega) ?_
          refine xe_sn pg_95 2 (fr' := (6, [(0, .int p0), (1, .int 4)], [.int 4, .int p0])) rfl ?_
          refine xe_f2 pg_95 17 rfl rfl (by show ¬ ((p0).toInt < 4); omega) ?_
          exact xe_end pg_95 rfl
    refine xe_sn pg_163 1 (fr' := (13, [(0, .ref 0), (1, .int p0), (2, .int p1), (3, .int p2)], [.int 1])) rfl ?_
    exact xe_end pg_163 rfl
  refine And.intro ⟨rfl, rfl, rfl, rfl⟩ ?_
  apply And.intro
  · refine xe_sn pg_142 2 (fr' := (2, [(0, .ref 165), (1, .int p0), (2, .int p1), (3, .int p2)], [.int p0, .ref 165])) rfl ?_
    apply xe_callq pg_142 104 [.int p0] (.inl (some (.int 0))) (5, [(0, .ref 165), (1, .int p0), (2, .int p1), (3, .int p2)], [.int 0, .ref 165]) rfl (fun _ => rfl)
    · refine xe_sn pg_104 3 (fr' := (3, [(0, .int p0)], [.int 3, .int 0, .int p0])) rfl ?_
      apply xe_callq pg_104 103 [.int p0, .int 0, .int 3] (.inl (some (.int 0))) (6, [(0, .int p0)], [.int 0]) rfl (fun _ => rfl)
      · refine xe_sn pg_103 2 (fr' := (2, [(0, .int p0), (1, .int 0), (2, .int 3)], [.int 0, .int p0])) rfl ?_
        refine xe_f2 pg_103 14 rfl rfl (by show ¬ ((p0).toInt < 0); omega) ?_
        refine xe_sn pg_103 2 (fr' := (7, [(0, .int p0), (1, .int 0), (2, .int 3)], [.int 3, .int p0])) rfl ?_
        refine xe_t2 pg_103 14 rfl rfl (by show 3 < (p0).toInt; omega) ?_
        refine xe_sn pg_103 1 (fr' := (15, [(0, .int p0), (1, .int 0), (2, .int 3)], [.int 0])) rfl ?_
        exact xe_end pg_103 rfl
      exact xe_end pg_104 rfl
    refine xe_sn pg_142 4 (fr' := (25, [(0, .ref 165), (1, .int p0), (2, .int p1), (3, .int p2)], [])) rfl ?_
    refine xe_sn pg_142 4 (fr' := (43, [(0, .ref 165), (1, .int p0), (2, .int p1), (3, .int p2)], [.int 0])) rfl ?_
    refine xe_sn pg_142 4 (fr' := (50, [(4, .int 0), (0, .ref 165), (1, .int p0), (2, .int p1), (3, .int p2)], [.int 1, .ref 165])) rfl ?_
    refine xe_sn pg_142 4 (fr' := (100, [(4, .int 0), (0, .ref 165), (1, .int p0), (2, .int p1), (3, .int p2)], [])) rfl ?_
    refine xe_sn pg_142 3 (fr' := (144, [(4, .int 0), (0, .ref 165), (1, .int p0), (2, .int p1), (3, .int p2)], [])) rfl ?_
    exact xe_end pg_142 rfl
  · exact ⟨⟨rfl, rfl, rfl, rfl⟩, Nat.le_of_ble_eq_true rfl, Nat.le_of_ble_eq_true rfl, rfl⟩

set_option maxRecDepth 100000 in
theorem lf_begin_2 (xs : Nat → Int32) (p1 : Int32) (p2 : Int32) (a1 : p1.toInt < 1) : op_okv xs 163 142 [.ref 0, .int 0, .int p1, .int p2] [.ref 165, .int 0, .int p1, .int p2] := by
  refine ⟨1, ?_⟩
  apply Exists.intro
  apply Exists.intro
  apply And.intro
  · refine xe_sn pg_163 4 (fr' := (4, [(0, .ref 0), (1, .int 0), (2, .int p1), (3, .int p2)], [.int p2, .int p1, .int 0, .ref 0])) rfl ?_
    apply xe_callq pg_163 76 [.ref 0, .int 0, .int p1, .int p2] (.inr 0) (12, [(0, .ref 0), (1, .int 0), (2, .int p1), (3, .int p2)], []) rfl (fun _ => rfl)
    · refine xe_sn pg_76 1 (fr' := (1, [(0, .ref 0), (1, .int 0), (2, .int p1), (3, .int p2)], [.int 0])) rfl ?_
      apply xe_callq pg_76 92 [.int 0] (.inl none) (4, [(0, .ref 0), (1, .int 0), (2, .int p1), (3, .int p2)], []) rfl (fun _ => rfl)
      · refine xe_sn pg_92 2 (fr' := (2, [(0, .int 0)], [.int 4, .int 0])) rfl ?_
        apply xe_callq pg_92 95 [.int 0, .int 4] (.inl none) (5, [(0, .int 0)], []) rfl (fun _ => rfl)
        · refine xe_sn pg_95 4 (fr' := (6, [(0, .int 0), (1, .int 4)], [.int 4, .int 0])) rfl ?_
          refine xe_sn pg_95 1 (fr' := (17, [(0, .int 0), (1, .int 4)], [])) rfl ?_
          exact xe_end pg_95 rfl
        exact xe_end pg_92 rfl
      refine xe_sn pg_76 1 (fr' := (5, [(0, .ref 0), (1, .int 0), (2, .int p1), (3, .int p2)], [.int p1])) rfl ?_
      apply xe_callqx pg_76 94 [.int p1] 0 rfl (fun _ => rfl)
      · refine xe_sn pg_94 1 (fr' := (1, [(0, .int p1)], [.int p1])) rfl ?_
        apply xe_callq pg_94 100 [.int p1] (.inl (some (.int 0))) (4, [(0, .int p1)], [.int 0]) rfl (fun _ => rfl)
        · refine xe_sn pg_100 2 (fr' := (2, [(0, .int p1)], [.int 1, .int p1])) rfl ?_
          refine xe_t2 pg_100 14 rfl rfl (by show (p1).toInt < 1; omega) ?_
          refine xe_sn pg_100 1 (fr' := (15, [(0, .int p1)], [.int 0])) rfl ?_
          exact xe_end pg_100 rfl
        refine xe_sn pg_94 1 (fr' := (7, [(0, .int p1)], [])) rfl ?_
        exact xe_end pg_94 rfl
    refine xe_sn pg_163 1 (fr' := (13, [(0, .ref 0), (1, .int 0), (2, .int p1), (3, .int p2)], [.int 1])) rfl ?_
    exact xe_end pg_163 rfl
  refine And.intro ⟨rfl, rfl, rfl, rfl⟩ ?_
  apply And.intro
  · refine xe_sn pg_142 2 (fr' := (2, [(0, .ref 165), (1, .int 0), (2, .int p1), (3, .int p2)], [.int 0, .ref 165])) rfl ?_
    apply xe_callq pg_142 104 [.int 0] (.inl (some (.int 1))) (5, [(0, .ref 165), (1, .int 0), (2, .int p1), (3, .int p2)], [.int 1, .ref 165]) rfl (fun _ => rfl)
    · refine xe_sn pg_104 3 (fr' := (3, [(0, .int 0)], [.int 3, .int 0, .int 0])) rfl ?_
      apply xe_callq pg_104 103 [.int 0, .int 0, .int 3] (.inl (some (.int 1))) (6, [(0, .int 0)], [.int 1]) rfl (fun _ => rfl)
      · refine xe_sn pg_103 4 (fr' := (6, [(0, .int 0), (1, .int 0), (2, .int 3)], [.int 0])) rfl ?_
        refine xe_sn pg_103 4 (fr' := (15, [(0, .int 0), (1, .int 0), (2, .int 3)], [.int 1])) rfl ?_
        exact xe_end pg_103 rfl
      exact xe_end pg_104 rfl
    refine xe_sn pg_142 4 (fr' := (11, [(0, .ref 165), (1, .int 0), (2, .int p1), (3, .int p2)], [.int 3, .int 1, .int p1, .ref 165])) rfl ?_
    apply xe_callq pg_142 103 [.int p1, .int 1, .int 3] (.inl (some (.int 0))) (14, [(0, .ref 165), (1, .int 0), (2, .int p1), (3, .int p2)], [.int 0, .ref 165]) rfl (fun _ => rfl)
    · refine xe_sn pg_103 2 (fr' := (2, [(0, .int p1), (1, .int 1), (2, .int 3)], [.int 1, .int p1])) rfl ?_
      refine xe_t2 pg_103 14 rfl rfl (by show (p1).toInt < 1; omega) ?_
      refine xe_sn pg_103 1 (fr' := (15, [(0, .int p1), (1, .int 1), (2, .int 3)], [.int 0])) rfl ?_
      exact xe_end pg_103 rfl
    refine xe_sn pg_142 4 (fr' := (25, [(0, .ref 165), (1, .int 0), (2, .int p1), (3, .int p2)], [])) rfl ?_
    refine xe_sn pg_142 4 (fr' := (43, [(0, .ref 165), (1, .int 0), (2, .int p1), (3, .int p2)], [.int 0])) rfl ?_
    refine xe_sn pg_142 4 (fr' := (50, [(4, .int 0), (0, .ref 165), (1, .int 0), (2, .int p1), (3, .int p2)], [.int 1, .ref 165])) rfl ?_
    refine xe_sn pg_142 4 (fr' := (100, [(4, .int 0), (0, .ref 165), (1, .int 0), (2, .int p1), (3, .int p2)], [])) rfl ?_
    refine xe_sn pg_142 3 (fr' := (144, [(4, .int 0), (0, .ref 165), (1, .int 0), (2, .int p1), (3, .int p2)], [])) rfl ?_
    exact xe_end pg_142 rfl
  · exact ⟨⟨rfl, rfl, rfl, rfl⟩, Nat.le_of_ble_eq_true rfl, Nat.le_of_ble_eq_true rfl, rfl⟩

set_option maxRecDepth 100000 in
theorem lf_begin_3 (xs : Nat → Int32) (p1 : Int32) (p2 : Int32) (b1 : 3 < p1.toInt) : op_okv xs 163 142 [.ref 0, .int 0, .int p1, .int p2] [.ref 165, .int 0, .int p1, .int p2] := by
  refine ⟨1, ?_⟩
  apply Exists.intro
  apply Exists.intro
  apply And.intro
  · refine xe_sn pg_163 4 (fr' := (4, [(0, .ref 0), (1, .int 0), (2, .int p1), (3, .int p2)], [.int p2, .int p1, .int 0, .ref 0])) rfl ?_
    apply xe_callq pg_163 76 [.ref 0, .int 0, .int p1, .int p2] (.inr 0) (12, [(0, .ref 0), (1, .int 0), (2, .int p1), (3, .int p2)], []) rfl (fun _ => rfl)
    · refine xe_sn pg_76 1 (fr' := (1, [(0, .ref 0), (1, .int 0), (2, .int p1), (3, .int p2)], [.int 0])) rfl ?_
      apply xe_callq pg_76 92 [.int 0] (.inl none) (4, [(0, .ref 0), (1, .int 0), (2, .int p1), (3, .int p2)], []) rfl (fun _ => rfl)
      · refine xe_sn pg_92 2 (fr' := (2, [(0, .int 0)], [.int 4, .int 0])) rfl ?_
        apply xe_callq pg_92 95 [.int 0, .int 4] (.inl none) (5, [(0, .int 0)], []) rfl (fun _ => rfl)
        · refine xe_sn pg_95 4 (fr' := (6, [(0, .int 0), (1, .int 4)], [.int 4, .int 0])) rfl ?_
          refine xe_sn pg_95 1 (fr' := (17, [(0, .int 0), (1, .int 4)], [])) rfl ?_
          exact xe_end pg_95 rfl
        exact xe_end pg_92 rfl
      refine xe_sn pg_76 1 (fr' := (5, [(0, .ref 0), (1, .int 0), (2, .int p1), (3, .int p2)], [.int p1])) rfl ?_
      apply xe_callqx pg_76 94 [.int p1] 0 rfl (fun _ => rfl)
      · refine xe_sn pg_94 1 (fr' := (1, [(0, .int p1)], [.int p1])) rfl ?_
        apply xe_callq pg_94 100 [.int p1] (.inl (some (.int 0))) (4, [(0, .int p1)], [.int 0]) rfl (fun _ => rfl)
        · refine xe_sn pg_100 2 (fr' := (2, [(0, .int p1)], [.int 1, .int p1])) rfl ?_
          refine xe_f2 pg_100 14 rfl rfl (by show ¬ ((p1).toInt < 1); omega) ?_
          refine xe_sn pg_100 2 (fr' := (7, [(0, .int p1)], [.int 3, .int p1])) rfl ?_
          refine xe_t2 pg_100 14 rfl rfl (by show 3 < (p1).toInt; omega) ?_
          refine xe_sn pg_100 1 (fr' := (15, [(0, .int p1)], [.int 0])) rfl ?_
          exact xe_end pg_100 rfl
        refine xe_sn pg_94 1 (fr' := (7, [(0, .int p1)], [])) rfl ?_
        exact xe_end pg_94 rfl
    refine xe_sn pg_163 1 (fr' := (13, [(0, .ref 0), (1, .int 0), (2, .int p1), (3, .int p2)], [.int 1])) rfl ?_
    exact xe_end pg_163 rfl
  refine And.intro ⟨rfl, rfl, rfl, rfl⟩ ?_
  apply And.intro
  · refine xe_sn pg_142 2 (fr' := (2, [(0, .ref 165), (1, .int 0), (2, .int p1), (3, .int p2)], [.int 0, .ref 165])) rfl ?_
    apply xe_callq pg_142 104 [.int 0] (.inl (some (.int 1))) (5, [(0, .ref 165), (1, .int 0), (2, .int p1), (3, .int p2)], [.int 1, .ref 165]) rfl (fun _ => rfl)
    · refine xe_sn pg_104 3 (fr' := (3, [(0, .int 0)], [.int 3, .int 0, .int 0])) rfl ?_
      apply xe_callq pg_104 103 [.int 0, .int 0, .int 3] (.inl (some (.int 1))) (6, [(0, .int 0)], [.int 1]) rfl (fun _ => rfl)
      · refine xe_sn pg_103 4 (fr' := (6, [(0, .int 0), (1, .int 0), (2, .int 3)], [.int 0])) rfl ?_
        refine xe_sn pg_103 4 (fr' := (15, [(0, .int 0), (1, .int 0), (2, .int 3)], [.int 1])) rfl ?_
        exact xe_end pg_103 rfl
      exact xe_end pg_104 rfl
    refine xe_sn pg_142 4 (fr' := (11, [(0, .ref 165), (1, .int 0), (2, .int p1), (3, .int p2)], [.int 3, .int 1, .int p1, .ref 165])) rfl ?_
    apply xe_callq pg_142 103 [.int p1, .int 1, .int 3] (.inl (some (.int 0))) (14, [(0, .ref 165), (1, .int 0), (2, .int p1), (3, .int p2)], [.int 0, .ref 165]) rfl (fun _ => rfl)
    · refine xe_sn pg_103 2 (fr' := (2, [(0, .int p1), (1, .int 1), (2, .int 3)], [.int 1, .int p1])) rfl ?_
      refine xe_f2 pg_103 14 rfl rfl (by show ¬ ((p1).toInt < 1); omega) ?_
      refine xe_sn pg_103 2 (fr' := (7, [(0, .int p1), (1, .int 1), (2, .int 3)], [.int 3, .int p1])) rfl ?_
      refine xe_t2 pg_103 14 rfl rfl (by show 3 < (p1).toInt; omega) ?_
      refine xe_sn pg_103 1 (fr' := (15, [(0, .int p1), (1, .int 1), (2, .int 3)], [.int 0])) rfl ?_
      exact xe_end pg_103 rfl
    refine xe_sn pg_142 4 (fr' := (25, [(0, .ref 165), (1, .int 0), (2, .int p1), (3, .int p2)], [])) rfl ?_
    refine xe_sn pg_142 4 (fr' := (43, [(0, .ref 165), (1, .int 0), (2, .int p1), (3, .int p2)], [.int 0])) rfl ?_
    refine xe_sn pg_142 4 (fr' := (50, [(4, .int 0), (0, .ref 165), (1, .int 0), (2, .int p1), (3, .int p2)], [.int 1, .ref 165])) rfl ?_
    refine xe_sn pg_142 4 (fr' := (100, [(4, .int 0), (0, .ref 165), (1, .int 0), (2, .int p1), (3, .int p2)], [])) rfl ?_
    refine xe_sn pg_142 3 (fr' := (144, [(4, .int 0), (0, .ref 165), (1, .int 0), (2, .int p1), (3, .int p2)], [])) rfl ?_
    exact xe_end pg_142 rfl
  · exact ⟨⟨rfl, rfl, rfl, rfl⟩, Nat.le_of_ble_eq_true rfl, Nat.le_of_ble_eq_true rfl, rfl⟩

set_option maxRecDepth 100000 in
theorem lf_begin_4 (xs : Nat → Int32) (p1 : Int32) (p2 : Int32) (a1 : 1 ≤ p1.toInt) (b1 : p1.toInt ≤ 3) : op_okv xs 163 142 [.ref 0, .int 0, .int p1, .int p2] [.ref 165, .int 0, .int p1, .int p2] := by
  refine ⟨2, ?_⟩
  apply Exists.intro
  apply Exists.intro
  apply And.intro
  · refine xe_sn pg_163 4 (fr' := (4, [(0, .ref 0), (1, .int 0), (2, .int p1), (3, .int p2)], [.int p2, .int p1, .int 0, .ref 0])) rfl ?_
    apply xe_callq pg_163 76 [.ref 0, .int 0, .int p1, .int p2] (.inr 2) (16, [(0, .ref 0), (1, .int 0), (2, .int p1), (3, .int p2)], []) rfl (fun _ => rfl)
    · refine xe_sn pg_76 1 (fr' := (1, [(0, .ref 0), (1, .int 0), (2, .int p1), (3, .int p2)], [.int 0])) rfl ?_
      apply xe_callq pg_76 92 [.int 0] (.inl none) (4, [(0, .ref 0), (1, .int 0), (2, .int p1), (3, .int p2)], []) rfl (fun _ => rfl)
      · refine xe_sn pg_92 2 (fr' := (2, [(0, .int 0)], [.int 4, .int 0])) rfl ?_
        apply xe_callq pg_92 95 [.int 0, .int 4] (.inl none) (5, [(0, .int 0)], []) rfl (fun _ => rfl)
        · refine xe_sn pg_95 4 (fr' := (6, [(0, .int 0), (1, .int 4)], [.int 4, .int 0])) rfl ?_
          refine xe_sn pg_95 1 (fr' := (17, [(0, .int 0), (1, .int 4)], [])) rfl ?_
          exact xe_end pg_95 rfl
        exact xe_end pg_92 rfl
      refine xe_sn pg_76 1 (fr' := (5, [(0, .ref 0), (1, .int 0), (2, .int p1), (3, .int p2)], [.int p1])) rfl ?_
      apply xe_callq pg_76 94 [.int p1] (.inl none) (8, [(0, .ref 0), (1, .int 0), (2, .int p1), (3, .int p2)], []) rfl (fun _ => rfl)
      · refine xe_sn pg_94 1 (fr' := (1, [(0, .int p1)], [.int p1])) rfl ?_
        apply xe_callq pg_94 100 [.int p1] (.inl (some (.int 1))) (4, [(0, .int p1)], [.int 1]) rfl (fun _ => rfl)
        · refine xe_sn pg_100 2 (fr' := (2, [(0, .int p1)], [.int 1, .int p1])) rfl ?_
          refine xe_f2 pg_100 14 rfl rfl (by show ¬ ((p1).toInt < 1); omega) ?_
          refine xe_sn pg_100 2 (fr' := (7, [(0, .int p1)], [.int 3, .int p1])) rfl ?_
          refine xe_f2 pg_100 14 rfl rfl (by show ¬ (3 < (p1).toInt); omega) ?_
          refine xe_sn pg_100 2 (fr' := (15, [(0, .int p1)], [.int 1])) rfl ?_
          exact xe_end pg_100 rfl
        refine xe_sn pg_94 1 (fr' := (15, [(0, .int p1)], [])) rfl ?_
        exact xe_end pg_94 rfl
      refine xe_sn pg_76 4 (fr' := (14, [(0, .ref 0), (1, .int 0), (2, .int p1), (3, .int p2)], [.ref 121])) rfl ?_
      refine xe_sn pg_76 4 (fr' := (22, [(4, .ref 121), (0, .ref 0), (1, .int 0), (2, .int p1), (3, .int p2)], [.int 2, .int 0])) rfl ?_
      refine xe_sn pg_76 2 (fr' := (39, [(4, .ref 121), (0, .ref 0), (1, .int 0), (2, .int p1), (3, .int p2)], [.int 0])) rfl ?_
      apply xe_callqx pg_76 98 [.int 0] 2 rfl (fun _ => rfl)
      · refine xe_sn pg_98 2 (fr' := (4, [(0, .int 0)], [])) rfl ?_
        exact xe_end pg_98 rfl
    refine xe_sn pg_163 1 (fr' := (17, [(0, .ref 0), (1, .int 0), (2, .int p1), (3, .int p2)], [.int 2])) rfl ?_
    exact xe_end pg_163 rfl
  refine And.intro ⟨rfl, rfl, rfl, rfl⟩ ?_
  apply And.intro
  · refine xe_sn pg_142 2 (fr' := (2, [(0, .ref 165), (1, .int 0), (2, .int p1), (3, .int p2)], [.int 0, .ref 165])) rfl ?_
    apply xe_callq pg_142 104 [.int 0] (.inl (some (.int 1))) (5, [(0, .ref 165), (1, .int 0), (2, .int p1), (3, .int p2)], [.int 1, .ref 165]) rfl (fun _ => rfl)
    · refine xe_sn pg_104 3 (fr' := (3, [(0, .int 0)], [.int 3, .int 0, .int 0])) rfl ?_
      apply xe_callq pg_104 103 [.int 0, .int 0, .int 3] (.inl (some (.int 1))) (6, [(0, .int 0)], [.int 1]) rfl (fun _ => rfl)
      · refine xe_sn pg_103 4 (fr' := (6, [(0, .int 0), (1, .int 0), (2, .int 3)], [.int 0])) rfl ?_
        refine xe_sn pg_103 4 (fr' := (15, [(0, .int 0), (1, .int 0), (2, .int 3)], [.int 1])) rfl ?_
        exact xe_end pg_103 rfl
      exact xe_end pg_104 rfl
    refine xe_sn pg_142 4 (fr' := (11, [(0, .ref 165), (1, .int 0), (2, .int p1), (3, .int p2)], [.int 3, .int 1, .int p1, .ref 165])) rfl ?_
    apply xe_callq pg_142 103 [.int p1, .int 1, .int 3] (.inl (some (.int 1))) (14, [(0, .ref 165), (1, .int 0), (2, .int p1), (3, .int p2)], [.int 1, .ref 165]) rfl (fun _ => rfl)
    · refine xe_sn pg_103 2 (fr' := (2, [(0, .int p1), (1, .int 1), (2, .int 3)], [.int 1, .int p1])) rfl ?_
      refine xe_f2 pg_103 14 rfl rfl (by show ¬ ((p1).toInt < 1); omega) ?_
      refine xe_sn pg_103 2 (fr' := (7, [(0, .int p1), (1, .int 1), (2, .int 3)], [.int 3, .int p1])) rfl ?_
      refine xe_f2 pg_103 14 rfl rfl (by show ¬ (3 < (p1).toInt); omega) ?_
      refine xe_sn pg_103 2 (fr' := (15, [(0, .int p1), (1, .int 1), (2, .int 3)], [.int 1])) rfl ?_
      exact xe_end pg_103 rfl
    refine xe_sn pg_142 4 (fr' := (26, [(0, .ref 165), (1, .int 0), (2, .int p1), (3, .int p2)], [.ref 165])) rfl ?_
    refine xe_sn pg_142 4 (fr' := (34, [(0, .ref 165), (1, .int 0), (2, .int p1), (3, .int p2)], [.int 0, .int 3])) rfl ?_
    refine xe_sn pg_142 4 (fr' := (38, [(0, .ref 165), (1, .int 0), (2, .int p1), (3, .int p2)], [.int 1, .int ((0 : Int32) + p1)])) rfl ?_
    refine xe_sn pg_142 4 (fr' := (46, [(4, .int (((0 : Int32) + p1) - 1)), (0, .ref 165), (1, .int 0), (2, .int p1), (3, .int p2)], [.ref 165])) rfl ?_
    refine xe_sn pg_142 4 (fr' := (54, [(4, .int (((0 : Int32) + p1) - 1)), (0, .ref 165), (1, .int 0), (2, .int p1), (3, .int p2)], [.ref 165, .ref 165])) rfl ?_
    refine xe_sn pg_142 4 (fr' := (60, [(4, .int (((0 : Int32) + p1) - 1)), (0, .ref 165), (1, .int 0), (2, .int p1), (3, .int p2)], [.int 2, .int 0, .ref 165])) rfl ?_
    refine xe_sn pg_142 4 (fr' := (100, [(4, .int (((0 : Int32) + p1) - 1)), (0, .ref 165), (1, .int 0), (2, .int p1), (3, .int p2)], [])) rfl ?_
    refine xe_sn pg_142 3 (fr' := (144, [(4, .int (((0 : Int32) + p1) - 1)), (0, .ref 165), (1, .int 0), (2, .int p1), (3, .int p2)], [])) rfl ?_
    exact xe_end pg_142 rfl
  · exact ⟨⟨rfl, rfl, rfl, rfl⟩, Nat.le_of_ble_eq_true rfl, Nat.le_of_ble_eq_true rfl, rfl⟩

set_option maxRecDepth 100000 in
theorem lf_begin_5 (xs : Nat → Int32) (p1 : Int32) (p2 : Int32) (a1 : p1.toInt < 1) : op_okv xs 163 142 [.ref 0, .int 1, .int p1, .int p2] [.ref 165, .int 1, .int p1, .int p2] := by
  refine ⟨1, ?_⟩
  apply Exists.intro
  apply Exists.intro
  apply And.intro
  · refine xe_sn pg_163 4 (fr' := (4, [(0, .ref 0), (1, .int 1), (2, .int p1), (3, .int p2)], [.int p2, .int p1, .int 1, .ref 0])) rfl ?_
    apply xe_callq pg_163 76 [.ref 0, .int 1, .int p1, .int p2] (.inr 0) (12, [(0, .ref 0), (1, .int 1), (2, .int p1), (3, .int p2)], []) rfl (fun _ => rfl)
    · refine xe_sn pg_76 1 (fr' := (1, [(0, .ref 0), (1, .int 1), (2, .int p1), (3, .int p2)], [.int 1])) rfl ?_
      apply xe_callq pg_76 92 [.int 1] (.inl none) (4, [(0, .ref 0), (1, .int 1), (2, .int p1), (3, .int p2)], []) rfl (fun _ => rfl)
      · refine xe_sn pg_92 2 (fr' := (2, [(0, .int 1)], [.int 4, .int 1])) rfl ?_
        apply xe_callq pg_92 95 [.int 1, .int 4] (.inl none) (5, [(0, .int 1)], []) rfl (fun _ => rfl)
        · refine xe_sn pg_95 4 (fr' := (6, [(0, .int 1), (1, .int 4)], [.int 4, .int 1])) rfl ?_
          refine xe_sn pg_95 1 (fr' := (17, [(0, .int 1), (1, .int 4)], [])) rfl ?_
          exact xe_end pg_95 rfl
        exact xe_end pg_92 rfl
      refine xe_sn pg_76 1 (fr' := (5, [(0, .ref 0), (1, .int 1), (2, .int p1), (3, .int p2)], [.int p1])) rfl ?_
      apply xe_callqx pg_76 94 [.int p1] 0 rfl (fun _ => rfl)
      · refine xe_sn pg_94 1 (fr' := (1, [(0, .int p1)], [.int p1])) rfl ?_
        apply xe_callq pg_94 100 [.int p1] (.inl (some (.int 0))) (4, [(0, .int p1)], [.int 0]) rfl (fun _ => rfl)
        · refine xe_sn pg_100 2 (fr' := (2, [(0, .int p1)], [.int 1, .int p1])) rfl ?_
          refine xe_t2 pg_100 14 rfl rfl (by show (p1).toInt < 1; omega) ?_
          refine xe_sn pg_100 1 (fr' := (15, [(0, .int p1)], [.int 0])) rfl ?_
          exact xe_end pg_100 rfl
        refine xe_sn pg_94 1 (fr' := (7, [(0, .int p1)], [])) rfl ?_
        exact xe_end pg_94 rfl
    refine xe_sn pg_163 1 (fr' := (13, [(0, .ref 0), (1, .int 1), (2, .int p1), (3, .int p2)], [.int 1])) rfl ?_
    exact xe_end pg_163 rfl
  refine And.intro ⟨rfl, rfl, rfl, rfl⟩ ?_
  apply And.intro
  · refine xe_sn pg_142 2 (fr' := (2, [(0, .ref 165), (1, .int 1), (2, .int p1), (3, .int p2)], [.int 1, .ref 165])) rfl ?_
    apply xe_callq pg_142 104 [.int 1] (.inl (some (.int 1))) (5, [(0, .ref 165), (1, .int 1), (2, .int p1), (3, .int p2)], [.int 1, .ref 165]) rfl (fun _ => rfl)
    · refine xe_sn pg_104 3 (fr' := (3, [(0, .int 1)], [.int 3, .int 0, .int 1])) rfl ?_
      apply xe_callq pg_104 103 [.int 1, .int 0, .int 3] (.inl (some (.int 1))) (6, [(0, .int 1)], [.int 1]) rfl (fun _ => rfl)
      · refine xe_sn pg_103 4 (fr' := (6, [(0, .int 1), (1, .int 0), (2, .int 3)], [.int 1])) rfl ?_
        refine xe_sn pg_103 4 (fr' := (15, [(0, .int 1), (1, .int 0), (2, .int 3)], [.int 1])) rfl ?_
        exact xe_end pg_103 rfl
      exact xe_end pg_104 rfl
    refine xe_sn pg_142 4 (fr' := (11, [(0, .ref 165), (1, .int 1), (2, .int p1), (3, .int p2)], [.int 3, .int 1, .int p1, .ref 165])) rfl ?_
    apply xe_callq pg_142 103 [.int p1, .int 1, .int 3] (.inl (some (.int 0))) (14, [(0, .ref 165), (1, .int 1), (2, .int p1), (3, .int p2)], [.int 0, .ref 165]) rfl (fun _ => rfl)
    · refine xe_sn pg_103 2 (fr' := (2, [(0, .int p1), (1, .int 1), (2, .int 3)], [.int 1, .int p1])) rfl ?_
      refine xe_t2 pg_103 14 rfl rfl (by show (p1).toInt < 1; omega) ?_
      refine xe_sn pg_103 1 (fr' := (15, [(0, .int p1), (1, .int 1), (2, .int 3)], [.int 0])) rfl ?_
      exact xe_end pg_103 rfl
    refine xe_sn pg_142 4 (fr' := (25, [(0, .ref 165), (1, .int 1), (2, .int p1), (3, .int p2)], [])) rfl ?_
    refine xe_sn pg_142 4 (fr' := (43, [(0, .ref 165), (1, .int 1), (2, .int p1), (3, .int p2)], [.int 0])) rfl ?_
    refine xe_sn pg_142 4 (fr' := (50, [(4, .int 0), (0, .ref 165), (1, .int 1), (2, .int p1), (3, .int p2)], [.int 1, .ref 165])) rfl ?_
    refine xe_sn pg_142 4 (fr' := (100, [(4, .int 0), (0, .ref 165), (1, .int 1), (2, .int p1), (3, .int p2)], [])) rfl ?_
    refine xe_sn pg_142 3 (fr' := (144, [(4, .int 0), (0, .ref 165), (1, .int 1), (2, .int p1), (3, .int p2)], [])) rfl ?_
    exact xe_end pg_142 rfl
  · exact ⟨⟨rfl, rfl, rfl, rfl⟩, Nat.le_of_ble_eq_true rfl, Nat.le_of_ble_eq_true rfl, rfl⟩

set_option maxRecDepth 100000 in
theorem lf_begin_6 (xs : Nat → Int32) (p1 : Int32) (p2 : Int32) (b1 : 3 < p1.toInt) : op_okv xs 163 142 [.ref 0, .int 1, .int p1, .int p2] [.ref 165, .int 1, .int p1, .int p2] := by
  refine ⟨1, ?_⟩
  apply Exists.intro
  apply Exists.intro
  apply And.intro
  · refine xe_sn pg_163 4 (fr' := (4, [(0, .ref 0), (1, .int 1), (2, .int p1), (3, .int p2)], [.int p2, .int p1, .int 1, .ref 0])) rfl ?_
    apply xe_callq pg_163 76 [.ref 0, .int 1, .int p1, .int p2] (.inr 0) (12, [(0, .ref 0), (1, .int 1), (2, .int p1), (3, .int p2)], []) rfl (fun _ => rfl)
    · refine xe_sn pg_76 1 (fr' := (1, [(0, .ref 0), (1, .int 1), (2, .int p1), (3, .int p2)], [.int 1])) rfl ?_
      apply xe_callq pg_76 92 [.int 1] (.inl none) (4, [(0, .ref 0), (1, .int 1), (2, .int p1), (3, .int p2)], []) rfl (fun _ => rfl)
      · refine xe_sn pg_92 2 (fr' := (2, [(0, .int 1)], [.int 4, .int 1])) rfl ?_
        apply xe_callq pg_92 95 [.int 1, .int 4] (.inl none) (5, [(0, .int 1)], []) rfl (fun _ => rfl)
        · refine xe_sn pg_95 4 (fr' := (6, [(0, .int 1), (1, .int 4)], [.int 4, .int 1])) rfl ?_
          refine xe_sn pg_95 1 (fr' := (17, [(0, .int 1), (1, .int 4)], [])) rfl ?_
          exact xe_end pg_95 rfl
        exact xe_end pg_92 rfl
      refine xe_sn pg_76 1 (fr' := (5, [(0, .ref 0), (1, .int 1), (2, .int p1), (3, .int p2)], [.int p1])) rfl ?_
      apply xe_callqx pg_76 94 [.int p1] 0 rfl (fun _ => rfl)
      · refine xe_sn pg_94 1 (fr' := (1, [(0, .int p1)], [.int p1])) rfl ?_
        apply xe_callq pg_94 100 [.int p1] (.inl (some (.int 0))) (4, [(0, .int p1)], [.int 0]) rfl (fun _ => rfl)
        · refine xe_sn pg_100 2 (fr' := (2, [(0, .int p1)], [.int 1, .int p1])) rfl ?_
          refine xe_f2 pg_100 14 rfl rfl (by show ¬ ((p1).toInt < 1); omega) ?_
          refine xe_sn pg_100 2 (fr' := (7, [(0, .int p1)], [.int 3, .int p1])) rfl ?_
          refine xe_t2 pg_100 14 rfl rfl (by show 3 < (p1).toInt; omega) ?_
          refine xe_sn pg_100 1 (fr' := (15, [(0, .int p1)], [.int 0])) rfl ?_
          exact xe_end pg_100 rfl
        refine xe_sn pg_94 1 (fr' := (7, [(0, .int p1)], [])) rfl ?_
        exact xe_end pg_94 rfl
    refine xe_sn pg_163 1 (fr' := (13, [(0, .ref 0), (1, .int 1), (2, .int p1), (3, .int p2)], [.int 1])) rfl ?_
    exact xe_end pg_163 rfl
  refine And.intro ⟨rfl, rfl, rfl, rfl⟩ ?_
  apply And.intro
  · refine xe_sn pg_142 2 (fr' := (2, [(0, .ref 165), (1, .int 1), (2, .int p1), (3, .int p2)], [.int 1, .ref 165])) rfl ?_
    apply xe_callq pg_142 104 [.int 1] (.inl (some (.int 1))) (5, [(0, .ref 165), (1, .int 1), (2, .int p1), (3, .int p2)], [.int 1, .ref 165]) rfl (fun _ => rfl)
    · refine xe_sn pg_104 3 (fr' := (3, [(0, .int 1)], [.int 3, .int 0, .int 1])) rfl ?_
      apply xe_callq pg_104 103 [.int 1, .int 0, .int 3] (.inl (some (.int 1))) (6, [(0, .int 1)], [.int 1]) rfl (fun _ => rfl)
      · refine xe_sn pg_103 4 (fr' := (6, [(0, .int 1), (1, .int 0), (2, .int 3)], [.int 1])) rfl ?_
        refine xe_sn pg_103 4 (fr' := (15, [(0, .int 1), (1, .int 0), (2, .int 3)], [.int 1])) rfl ?_
        exact xe_end pg_103 rfl
      exact xe_end pg_104 rfl
    refine xe_sn pg_142 4 (fr' := (11, [(0, .ref 165), (1, .int 1), (2, .int p1), (3, .int p2)], [.int 3, .int 1, .int p1, .ref 165])) rfl ?_
    apply xe_callq pg_142 103 [.int p1, .int 1, .int 3] (.inl (some (.int 0))) (14, [(0, .ref 165), (1, .int 1), (2, .int p1), (3, .int p2)], [.int 0, .ref 165]) rfl (fun _ => rfl)
    · refine xe_sn pg_103 2 (fr' := (2, [(0, .int p1), (1, .int 1), (2, .int 3)], [.int 1, .int p1])) rfl ?_
      refine xe_f2 pg_103 14 rfl rfl (by show ¬ ((p1).toInt < 1); omega) ?_
      refine xe_sn pg_103 2 (fr' := (7, [(0, .int p1), (1, .int 1), (2, .int 3)], [.int 3, .int p1])) rfl ?_
      refine xe_t2 pg_103 14 rfl rfl (by show 3 < (p1).toInt; omega) ?_
      refine xe_sn pg_103 1 (fr' := (15, [(0, .int p1), (1, .int 1), (2, .int 3)], [.int 0])) rfl ?_
      exact xe_end pg_103 rfl
    refine xe_sn pg_142 4 (fr' := (25, [(0, .ref 165), (1, .int 1), (2, .int p1), (3, .int p2)], [])) rfl ?_
    refine xe_sn pg_142 4 (fr' := (43, [(0, .ref 165), (1, .int 1), (2, .int p1), (3, .int p2)], [.int 0])) rfl ?_
    refine xe_sn pg_142 4 (fr' := (50, [(4, .int 0), (0, .ref 165), (1, .int 1), (2, .int p1), (3, .int p2)], [.int 1, .ref 165])) rfl ?_
    refine xe_sn pg_142 4 (fr' := (100, [(4, .int 0), (0, .ref 165), (1, .int 1), (2, .int p1), (3, .int p2)], [])) rfl ?_
    refine xe_sn pg_142 3 (fr' := (144, [(4, .int 0), (0, .ref 165), (1, .int 1), (2, .int p1), (3, .int p2)], [])) rfl ?_
    exact xe_end pg_142 rfl
  · exact ⟨⟨rfl, rfl, rfl, rfl⟩, Nat.le_of_ble_eq_true rfl, Nat.le_of_ble_eq_true rfl, rfl⟩

set_option maxRecDepth 100000 in
theorem lf_begin_7 (xs : Nat → Int32) (p1 : Int32) (p2 : Int32) (a1 : 1 ≤ p1.toInt) (b1 : p1.toInt ≤ 3) : op_okv xs 163 142 [.ref 0, .int 1, .int p1, .int p2] [.ref 165, .int 1, .int p1, .int p2] := by
  refine ⟨2, ?_⟩
  apply Exists.intro
  apply Exists.intro
  apply And.intro
  · refine xe_sn pg_163 4 (fr' := (4, [(0, .ref 0), (1, .int 1), (2, .int p1), (3, .int p2)], [.int p2, .int p1, .int 1, .ref 0])) rfl ?_
    apply xe_callq pg_163 76 [.ref 0, .int 1, .int p1, .int p2] (.inr 2) (16, [(0, .ref 0), (1, .int 1), (2, .int p1), (3, .int p2)], []) rfl (fun _ => rfl)
    · refine xe_sn pg_76 1 (fr' := (1, [(0, .ref 0), (1, .int 1), (2, .int p1), (3, .int p2)], [.int 1])) rfl ?_
      apply xe_callq pg_76 92 [.int 1] (.inl none) (4, [(0, .ref 0), (1, .int 1), (2, .int p1), (3, .int p2)], []) rfl (fun _ => rfl)
      · refine xe_sn pg_92 2 (fr' := (2, [(0, .int 1)], [.int 4, .int 1])) rfl ?_
        apply xe_callq pg_92 95 [.int 1, .int 4] (.inl none) (5, [(0, .int 1)], []) rfl (fun _ => rfl)
        · refine xe_sn pg_95 4 (fr' := (6, [(0, .int 1), (1, .int 4)], [.int 4, .int 1])) rfl ?_
          refine xe_sn pg_95 1 (fr' := (17, [(0, .int 1), (1, .int 4)], [])) rfl ?_
          exact xe_end pg_95 rfl
        exact xe_end pg_92 rfl
      refine xe_sn pg_76 1 (fr' := (5, [(0, .ref 0), (1, .int 1), (2, .int p1), (3, .int p2)], [.int p1])) rfl ?_
      apply xe_callq pg_76 94 [.int p1] (.inl none) (8, [(0, .ref 0), (1, .int 1), (2, .int p1), (3, .int p2)], []) rfl (fun _ => rfl)
      · refine xe_sn pg_94 1 (fr' := (1, [(0, .int p1)], [.int p1])) rfl ?_
        apply xe_callq pg_94 100 [.int p1] (.inl (some (.int 1))) (4, [(0, .int p1)], [.int 1]) rfl (fun _ => rfl)
        · refine xe_sn pg_100 2 (fr' := (2, [(0, .int p1)], [.int 1, .int p1])) rfl ?_
          refine xe_f2 pg_100 14 rfl rfl (by show ¬ ((p1).toInt < 1); omega) ?_
          refine xe_sn pg_100 2 (fr' := (7, [(0, .int p1)], [.int 3, .int p1])) rfl ?_
          refine xe_f2 pg_100 14 rfl rfl (by show ¬ (3 < (p1).toInt); omega) ?_
          refine xe_sn pg_100 2 (fr' := (15, [(0, .int p1)], [.int 1])) rfl ?_
          exact xe_end pg_100 rfl
        refine xe_sn pg_94 1 (fr' := (15, [(0, .int p1)], [])) rfl ?_
        exact xe_end pg_94 rfl
      refine xe_sn pg_76 4 (fr' := (14, [(0, .ref 0), (1, .int 1), (2, .int p1), (3, .int p2)], [.ref 132])) rfl ?_
      refine xe_sn pg_76 4 (fr' := (22, [(4, .ref 132), (0, .ref 0), (1, .int 1), (2, .int p1), (3, .int p2)], [.int 2, .int 0])) rfl ?_
      refine xe_sn pg_76 2 (fr' := (39, [(4, .ref 132), (0, .ref 0), (1, .int 1), (2, .int p1), (3, .int p2)], [.int 0])) rfl ?_
      apply xe_callqx pg_76 98 [.int 0] 2 rfl (fun _ => rfl)
      · refine xe_sn pg_98 2 (fr' := (4, [(0, .int 0)], [])) rfl ?_
        exact xe_end pg_98 rfl
    refine xe_sn pg_163 1 (fr' := (17, [(0, .ref 0), (1, .int 1), (2, .int p1), (3, .int p2)], [.int 2])) rfl ?_
    exact xe_end pg_163 rfl
  refine And.intro ⟨rfl, rfl, rfl, rfl⟩ ?_
  apply And.intro
  · refine xe_sn pg_142 2 (fr' := (2, [(0, .ref 165), (1, .int 1), (2, .int p1), (3, .int p2)], [.int 1, .ref 165])) rfl ?_
    apply xe_callq pg_142 104 [.int 1] (.inl (some (.int 1))) (5, [(0, .ref 165), (1, .int 1), (2, .int p1), (3, .int p2)], [.int 1, .ref 165]) rfl (fun _ => rfl)
    · refine xe_sn pg_104 3 (fr' := (3, [(0, .int 1)], [.int 3, .int 0, .int 1])) rfl ?_
      apply xe_callq pg_104 103 [.int 1, .int 0, .int 3] (.inl (some (.int 1))) (6, [(0, .int 1)], [.int 1]) rfl (fun _ => rfl)
      · refine xe_sn pg_103 4 (fr' := (6, [(0, .int 1), (1, .int 0), (2, .int 3)], [.int 1])) rfl ?_
        refine xe_sn pg_103 4 (fr' := (15, [(0, .int 1), (1, .int 0), (2, .int 3)], [.int 1])) rfl ?_
        exact xe_end pg_103 rfl
      exact xe_end pg_104 rfl
    refine xe_sn pg_142 4 (fr' := (11, [(0, .ref 165), (1, .int 1), (2, .int p1), (3, .int p2)], [.int 3, .int 1, .int p1, .ref 165])) rfl ?_
    apply xe_callq pg_142 103 [.int p1, .int 1, .int 3] (.inl (some (.int 1))) (14, [(0, .ref 165), (1, .int 1), (2, .int p1), (3, .int p2)], [.int 1, .ref 165]) rfl (fun _ => rfl)
    · refine xe_sn pg_103 2 (fr' := (2, [(0, .int p1), (1, .int 1), (2, .int 3)], [.int 1, .int p1])) rfl ?_
      refine xe_f2 pg_103 14 rfl rfl (by show ¬ ((p1).toInt < 1); omega) ?_
      refine xe_sn pg_103 2 (fr' := (7, [(0, .int p1), (1, .int 1), (2, .int 3)], [.int 3, .int p1])) rfl ?_
      refine xe_f2 pg_103 14 rfl rfl (by show ¬ (3 < (p1).toInt); omega) ?_
      refine xe_sn pg_103 2 (fr' := (15, [(0, .int p1), (1, .int 1), (2, .int 3)], [.int 1])) rfl ?_
      exact xe_end pg_103 rfl
    refine xe_sn pg_142 4 (fr' := (26, [(0, .ref 165), (1, .int 1), (2, .int p1), (3, .int p2)], [.ref 165])) rfl ?_
    refine xe_sn pg_142 4 (fr' := (34, [(0, .ref 165), (1, .int 1), (2, .int p1), (3, .int p2)], [.int 1, .int 3])) rfl ?_
    refine xe_sn pg_142 4 (fr' := (38, [(0, .ref 165), (1, .int 1), (2, .int p1), (3, .int p2)], [.int 1, .int ((3 : Int32) + p1)])) rfl ?_
    refine xe_sn pg_142 4 (fr' := (46, [(4, .int (((3 : Int32) + p1) - 1)), (0, .ref 165), (1, .int 1), (2, .int p1), (3, .int p2)], [.ref 165])) rfl ?_
    refine xe_sn pg_142 4 (fr' := (54, [(4, .int (((3 : Int32) + p1) - 1)), (0, .ref 165), (1, .int 1), (2, .int p1), (3, .int p2)], [.ref 165, .ref 165])) rfl ?_
    refine xe_sn pg_142 4 (fr' := (60, [(4, .int (((3 : Int32) + p1) - 1)), (0, .ref 165), (1, .int 1), (2, .int p1), (3, .int p2)], [.int 2, .int 0, .ref 165])) rfl ?_
    refine xe_sn pg_142 4 (fr' := (100, [(4, .int (((3 : Int32) + p1) - 1)), (0, .ref 165), (1, .int 1), (2, .int p1), (3, .int p2)], [])) rfl ?_
    refine xe_sn pg_142 3 (fr' := (144, [(4, .int (((3 : Int32) + p1) - 1)), (0, .ref 165), (1, .int 1), (2, .int p1), (3, .int p2)], [])) rfl ?_
    exact xe_end pg_142 rfl
  · exact ⟨⟨rfl, rfl, rfl, rfl⟩, Nat.le_of_ble_eq_true rfl, Nat.le_of_ble_eq_true rfl, rfl⟩

set_option maxRecDepth 100000 in
theorem lf_begin_8 (xs : Nat → Int32) (p1 : Int32) (p2 : Int32) (a1 : p1.toInt < 1) : op_okv xs 163 142 [.ref 0, .int 2, .int p1, .int p2] [.ref 165, .int 2, .int p1, .int p2] := by
  refine ⟨1, ?_⟩
  apply Exists.intro
  apply Exists.intro
  apply And.intro
  · refine xe_sn pg_163 4 (fr' := (4, [(0, .ref 0), (1, .int 2), (2, .int p1), (3, .int p2)], [.int p2, .int p1, .int 2, .ref 0])) rfl ?_
    apply xe_callq pg_163 76 [.ref 0, .int 2, .int p1, .int p2] (.inr 0) (12, [(0, .ref 0), (1, .int 2), (2, .int p1), (3, .int p2)], []) rfl (fun _ => rfl)
    · refine xe_sn pg_76 1 (fr' := (1, [(0, .ref 0), (1, .int 2), (2, .int p1), (3, .int p2)], [.int 2])) rfl ?_
      apply xe_callq pg_76 92 [.int 2] (.inl none) (4, [(0, .ref 0), (1, .int 2), (2, .int p1), (3, .int p2)], []) rfl (fun _ => rfl)
      · refine xe_sn pg_92 2 (fr' := (2, [(0, .int 2)], [.int 4, .int 2])) rfl ?_
        apply xe_callq pg_92 95 [.int 2, .int 4] (.inl none) (5, [(0, .int 2)], []) rfl (fun _ => rfl)
        · refine xe_sn pg_95 4 (fr' := (6, [(0, .int 2), (1, .int 4)], [.int 4, .int 2])) rfl ?_
          refine xe_sn pg_95 1 (fr' := (17, [(0, .int 2), (1, .int 4)], [])) rfl ?_
          exact xe_end pg_95 rfl
        exact xe_end pg_92 rfl
      refine xe_sn pg_76 1 (fr' := (5, [(0, .ref 0), (1, .int 2), (2, .int p1), (3, .int p2)], [.int p1])) rfl ?_
      apply xe_callqx pg_76 94 [.int p1] 0 rfl (fun _ => rfl)
      · refine xe_sn pg_94 1 (fr' := (1, [(0, .int p1)], [.int p1])) rfl ?_
        apply xe_callq pg_94 100 [.int p1] (.inl (some (.int 0))) (4, [(0, .int p1)], [.int 0]) rfl (fun _ => rfl)
        · refine xe_sn pg_100 2 (fr' := (2, [(0, .int p1)], [.int 1, .int p1])) rfl ?_
          refine xe_t2 pg_100 14 rfl rfl (by show (p1).toInt < 1; omega) ?_
          refine xe_sn pg_100 1 (fr' := (15, [(0, .int p1)], [.int 0])) rfl ?_
          exact xe_end pg_100 rfl
        refine xe_sn pg_94 1 (fr' := (7, [(0, .int p1)], [])) rfl ?_
        exact xe_end pg_94 rfl
    refine xe_sn pg_163 1 (fr' := (13, [(0, .ref 0), (1, .int 2), (2, .int p1), (3, .int p2)], [.int 1])) rfl ?_
    exact xe_end pg_163 rfl
  refine And.intro ⟨rfl, rfl, rfl, rfl⟩ ?_
  apply And.intro
  · refine xe_sn pg_142 2 (fr' := (2, [(0, .ref 165), (1, .int 2), (2, .int p1), (3, .int p2)], [.int 2, .ref 165])) rfl ?_
    apply xe_callq pg_142 104 [.int 2] (.inl (some (.int 1))) (5, [(0, .ref 165), (1, .int 2), (2, .int p1), (3, .int p2)], [.int 1, .ref 165]) rfl (fun _ => rfl)
    · refine xe_sn pg_104 3 (fr' := (3, [(0, .int 2)], [.int 3, .int 0, .int 2])) rfl ?_
      apply xe_callq pg_104 103 [.int 2, .int 0, .int 3] (.inl (some (.int 1))) (6, [(0, .int 2)], [.int 1]) rfl (fun _ => rfl)
      · refine xe_sn pg_103 4 (fr' := (6, [(0, .int 2), (1, .int 0), (2, .int 3)], [.int 2])) rfl ?_
        refine xe_sn pg_103 4 (fr' := (15, [(0, .int 2), (1, .int 0), (2, .int 3)], [.int 1])) rfl ?_
        exact xe_end pg_103 rfl
      exact xe_end pg_104 rfl
    refine xe_sn pg_142 4 (fr' := (11, [(0, .ref 165), (1, .int 2), (2, .int p1), (3, .int p2)], [.int 3, .int 1, .int p1, .ref 165])) rfl ?_
    apply xe_callq pg_142 103 [.int p1, .int 1, .int 3] (.inl (some (.int 0))) (14, [(0, .ref 165), (1, .int 2), (2, .int p1), (3, .int p2)], [.int 0, .ref 165]) rfl (fun _ => rfl)
    · refine xe_sn pg_103 2 (fr' := (2, [(0, .int p1), (1, .int 1), (2, .int 3)], [.int 1, .int p1])) rfl ?_
      refine xe_t2 pg_103 14 rfl rfl (by show (p1).toInt < 1; omega) ?_
      refine xe_sn pg_103 1 (fr' := (15, [(0, .int p1), (1, .int 1), (2, .int 3)], [.int 0])) rfl ?_
      exact xe_end pg_103 rfl
    refine xe_sn pg_142 4 (fr' := (25, [(0, .ref 165), (1, .int 2), (2, .int p1), (3, .int p2)], [])) rfl ?_
    refine xe_sn pg_142 4 (fr' := (43, [(0, .ref 165), (1, .int 2), (2, .int p1), (3, .int p2)], [.int 0])) rfl ?_
    refine xe_sn pg_142 4 (fr' := (50, [(4, .int 0), (0, .ref 165), (1, .int 2), (2, .int p1), (3, .int p2)], [.int 1, .ref 165])) rfl ?_
    refine xe_sn pg_142 4 (fr' := (100, [(4, .int 0), (0, .ref 165), (1, .int 2), (2, .int p1), (3, .int p2)], [])) rfl ?_
    refine xe_sn pg_142 3 (fr' := (144, [(4, .int 0), (0, .ref 165), (1, .int 2), (2, .int p1), (3, .int p2)], [])) rfl ?_
    exact xe_end pg_142 rfl
  · exact ⟨⟨rfl, rfl, rfl, rfl⟩, Nat.le_of_ble_eq_true rfl, Nat.le_of_ble_eq_true rfl, rfl⟩

set_option maxRecDepth 100000 in
theorem lf_begin_9 (xs : Nat → Int32) (p1 : Int32) (p2 : Int32) (b1 : 3 < p1.toInt) : op_okv xs 163 142 [.ref 0, .int 2, .int p1, .int p2] [.ref 165, .int 2, .int p1, .int p2] := by
  refine ⟨1, ?_⟩
  apply Exists.intro
  apply Exists.intro
  apply And.intro
  · refine xe_sn pg_163 4 (fr' := (4, [(0, .ref 0), (1, .int 2), (2, .int p1), (3, .int p2)], [.int p2, .int p1, .int 2, .ref 0])) rfl ?_
    apply xe_callq pg_163 76 [.ref 0, .int 2, .int p1, .int p2] (.inr 0) (12, [(0, .ref 0), (1, .int 2), (2, .int p1), (3, .int p2)], []) rfl (fun _ => rfl)
    · refine xe_sn pg_76 1 (fr' := (1, [(0, .ref 0), (1, .int 2), (2, .int p1), (3, .int p2)], [.int 2])) rfl ?_
      apply xe_callq pg_76 92 [.int 2] (.inl none) (4, [(0, .ref 0), (1, .int 2), (2, .int p1), (3, .int p2)], []) rfl (fun _ => rfl)
      · refine xe_sn pg_92 2 (fr' := (2, [(0, .int 2)], [.int 4, .int 2])) rfl ?_
        apply xe_callq pg_92 95 [.int 2, .int 4] (.inl none) (5, [(0, .int 2)], []) rfl (fun _ => rfl)
        · refine xe_sn pg_95 4 (fr' := (6, [(0, .int 2), (1, .int 4)], [.int 4, .int 2])) rfl ?_
          refine xe_sn pg_95 1 (fr' := (17, [(0, .int 2), (1, .int 4)], [])) rfl ?_
          exact xe_end pg_95 rfl
        exact xe_end pg_92 rfl
      refine xe_sn pg_76 1 (fr' := (5, [(0, .ref 0), (1, .int 2), (2, .int p1), (3, .int p2)], [.int p1])) rfl ?_
      apply xe_callqx pg_76 94 [.int p1] 0 rfl (fun _ => rfl)
      · refine xe_sn pg_94 1 (fr' := (1, [(0, .int p1)], [.int p1])) rfl ?_
        apply xe_callq pg_94 100 [.int p1] (.inl (some (.int 0))) (4, [(0, .int p1)], [.int 0]) rfl (fun _ => rfl)
        · refine xe_sn pg_100 2 (fr' := (2, [(0, .int p1)], [.int 1, .int p1])) rfl ?_
          refine xe_f2 pg_100 14 rfl rfl (by show ¬ ((p1).toInt < 1); omega) ?_
          refine xe_sn pg_100 2 (fr' := (7, [(0, .int p1)], [.int 3, .int p1])) rfl ?_
          refine xe_t2 pg_100 14 rfl rfl (by show 3 < (p1).toInt; omega) ?_
          refine xe_sn pg_100 1 (fr' := (15, [(0, .int p1)], [.int 0])) rfl ?_
          exact xe_end pg_100 rfl
        refine xe_sn pg_94 1 (fr' := (7, [(0, .int p1)], [])) rfl ?_
        exact xe_end pg_94 rfl
    refine xe_sn pg_163 1 (fr' := (13, [(0, .ref 0), (1, .int 2), (2, .int p1), (3, .int p2)], [.int 1])) rfl ?_
    exact xe_end pg_163 rfl
  refine And.intro ⟨rfl, rfl, rfl, rfl⟩ ?_
  apply And.intro
  · refine xe_sn pg_142 2 (fr' := (2, [(0, .ref 165), (1, .int 2), (2, .int p1), (3, .int p2)], [.int 2, .ref 165])) rfl ?_
    apply xe_callq pg_142 104 [.int 2] (.inl (some (.int 1))) (5, [(0, .ref 165), (1, .int 2), (2, .int p1), (3, .int p2)], [.int 1, .ref 165]) rfl (fun _ => rfl)
    · refine xe_sn pg_104 3 (fr' := (3, [(0, .int 2)], [.int 3, .int 0, .int 2])) rfl ?_
      apply xe_callq pg_104 103 [.int 2, .int 0, .int 3] (.inl (some (.int 1))) (6, [(0, .int 2)], [.int 1]) rfl (fun _ => rfl)
      · refine xe_sn pg_103 4 (fr' := (6, [(0, .int 2), (1, .int 0), (2, .int 3)], [.int 2])) rfl ?_
        refine xe_sn pg_103 4 (fr' := (15, [(0, .int 2), (1, .int 0), (2, .int 3)], [.int 1])) rfl ?_
        exact xe_end pg_103 rfl
      exact xe_end pg_104 rfl
    refine xe_sn pg_142 4 (fr' := (11, [(0, .ref 165), (1, .int 2), (2, .int p1), (3, .int p2)], [.int 3, .int 1, .int p1, .ref 165])) rfl ?_
    apply xe_callq pg_142 103 [.int p1, .int 1, .int 3] (.inl (some (.int 0))) (14, [(0, .ref 165), (1, .int 2), (2, .int p1), (3, .int p2)], [.int 0, .ref 165]) rfl (fun _ => rfl)
    · refine xe_sn pg_103 2 (fr' := (2, [(0, .int p1), (1, .int 1), (2, .int 3)], [.int 1, .int p1])) rfl ?_
      refine xe_f2 pg_103 14 rfl rfl (by show ¬ ((p1).toInt < 1); omega) ?_
      refine xe_sn pg_103 2 (fr' := (7, [(0, .int p1), (1, .int 1), (2, .int 3)], [.int 3, .int p1])) rfl ?_
      refine xe_t2 pg_103 14 rfl rfl (by show 3 < (p1).toInt; omega) ?_
      refine xe_sn pg_103 1 (fr' := (15, [(0, .int p1), (1, .int 1), (2, .int 3)], [.int 0])) rfl ?_
      exact xe_end pg_103 rfl
    refine xe_sn pg_142 4 (fr' := (25, [(0, .ref 165), (1, .int 2), (2, .int p1), (3, .int p2)], [])) rfl ?_
    refine xe_sn pg_142 4 (fr' := (43, [(0, .ref 165), (1, .int 2), (2, .int p1), (3, .int p2)], [.int 0])) rfl ?_
    refine xe_sn pg_142 4 (fr' := (50, [(4, .int 0), (0, .ref 165), (1, .int 2), (2, .int p1), (3, .int p2)], [.int 1, .ref 165])) rfl ?_
    refine xe_sn pg_142 4 (fr' := (100, [(4, .int 0), (0, .ref 165), (1, .int 2), (2, .int p1), (3, .int p2)], [])) rfl ?_
    refine xe_sn pg_142 3 (fr' := (144, [(4, .int 0), (0, .ref 165), (1, .int 2), (2, .int p1), (3, .int p2)], [])) rfl ?_
    exact xe_end pg_142 rfl
  · exact ⟨⟨rfl, rfl, rfl, rfl⟩, Nat.le_of_ble_eq_true rfl, Nat.le_of_ble_eq_true rfl, rfl⟩

set_option maxRecDepth 100000 in
theorem lf_begin_10 (xs : Nat → Int32) (p1 : Int32) (p2 : Int32) (a1 : 1 ≤ p1.toInt) (b1 : p1.toInt ≤ 3) : op_okv xs 163 142 [.ref 0, .int 2, .int p1, .int p2] [.ref 165, .int 2, .int p1, .int p2] := by
  refine ⟨2, ?_⟩
  apply Exists.intro
  apply Exists.intro
  apply And.intro
  · refine xe_sn pg_163 4 (fr' := (4, [(0, .ref 0), (1, .int 2), (2, .int p1), (3, .int p2)], [.int p2, .int p1, .int 2, .ref 0])) rfl ?_
    apply xe_callq pg_163 76 [.ref 0, .int 2, .int p1, .int p2] (.inr 2) (16, [(0, .ref 0), (1, .int 2), (2, .int p1), (3, .int p2)], []) rfl (fun _ => rfl)
    · refine xe_sn pg_76 1 (fr' := (1, [(0, .ref 0), (1, .int 2), (2, .int p1), (3, .int p2)], [.int 2])) rfl ?_
      apply xe_callq pg_76 92 [.int 2] (.inl none) (4, [(0, .ref 0), (1, .int 2), (2, .int p1), (3, .int p2)], []) rfl (fun _ => rfl)
      · refine xe_sn pg_92 2 (fr' := (2, [(0, .int 2)], [.int 4, .int 2])) rfl ?_
        apply xe_callq pg_92 95 [.int 2, .int 4] (.inl none) (5, [(0, .int 2)], []) rfl (fun _ => rfl)
        · refine xe_sn pg_95 4 (fr' := (6, [(0, .int 2), (1, .int 4)], [.int 4, .int 2])) rfl ?_
          refine xe_sn pg_95 1 (fr' := (17, [(0, .int 2), (1, .int 4)], [])) rfl ?_
          exact xe_end pg_95 rfl
        exact xe_end pg_92 rfl
      refine xe_sn pg_76 1 (fr' := (5, [(0, .ref 0), (1, .int 2), (2, .int p1), (3, .int p2)], [.int p1])) rfl ?_
      apply xe_callq pg_76 94 [.int p1] (.inl none) (8, [(0, .ref 0), (1, .int 2), (2, .int p1), (3, .int p2)], []) rfl (fun _ => rfl)
      · refine xe_sn pg_94 1 (fr' := (1, [(0, .int p1)], [.int p1])) rfl ?_
        apply xe_callq pg_94 100 [.int p1] (.inl (some (.int 1))) (4, [(0, .int p1)], [.int 1]) rfl (fun _ => rfl)
        · refine xe_sn pg_100 2 (fr' := (2, [(0, .int p1)], [.int 1, .int p1])) rfl ?_
          refine xe_f2 pg_100 14 rfl rfl (by show ¬ ((p1).toInt < 1); omega) ?_
          refine xe_sn pg_100 2 (fr' := (7, [(0, .int p1)], [.int 3, .int p1])) rfl ?_
          refine xe_f2 pg_100 14 rfl rfl (by show ¬ (3 < (p1).toInt); omega) ?_
          refine xe_sn pg_100 2 (fr' := (15, [(0, .int p1)], [.int 1])) rfl ?_
          exact xe_end pg_100 rfl
        refine xe_sn pg_94 1 (fr' := (15, [(0, .int p1)], [])) rfl ?_
        exact xe_end pg_94 rfl
      refine xe_sn pg_76 4 (fr' := (14, [(0, .ref 0), (1, .int 2), (2, .int p1), (3, .int p2)], [.ref 143])) rfl ?_
      refine xe_sn pg_76 4 (fr' := (22, [(4, .ref 143), (0, .ref 0), (1, .int 2), (2, .int p1), (3, .int p2)], [.int 2, .int 0])) rfl ?_
      refine xe_sn pg_76 2 (fr' := (39, [(4, .ref 143), (0, .ref 0), (1, .int 2), (2, .int p1), (3, .int p2)], [.int 0])) rfl ?_
      apply xe_callqx pg_76 98 [.int 0] 2 rfl (fun _ => rfl)
      · refine xe_sn pg_98 2 (fr' := (4, [(0, .int 0)], [])) rfl ?_
        exact xe_end pg_98 rfl
    refine xe_sn pg_163 1 (fr' := (17, [(0, .ref 0), (1, .int 2), (2, .int p1), (3, .int p2)], [.int 2])) rfl ?_
    exact xe_end pg_163 rfl
  refine And.intro ⟨rfl, rfl, rfl, rfl⟩ ?_
  apply And.intro
  · refine xe_sn pg_142 2 (fr' := (2, [(0, .ref 165), (1, .int 2), (2, .int p1), (3, .int p2)], [.int 2, .ref 165])) rfl ?_
    apply xe_callq pg_142 104 [.int 2] (.inl (some (.int 1))) (5, [(0, .ref 165), (1, .int 2), (2, .int p1), (3, .int p2)], [.int 1, .ref 165]) rfl (fun _ => rfl)
    · refine xe_sn pg_104 3 (fr' := (3, [(0, .int 2)], [.int 3, .int 0, .int 2])) rfl ?_
      apply xe_callq pg_104 103 [.int 2, .int 0, .int 3] (.inl (some (.int 1))) (6, [(0, .int 2)], [.int 1]) rfl (fun _ => rfl)
      · refine xe_sn pg_103 4 (fr' := (6, [(0, .int 2), (1, .int 0), (2, .int 3)], [.int 2])) rfl ?_
        refine xe_sn pg_103 4 (fr' := (15, [(0, .int 2), (1, .int 0), (2, .int 3)], [.int 1])) rfl ?_
        exact xe_end pg_103 rfl
      exact xe_end pg_104 rfl
    refine xe_sn pg_142 4 (fr' := (11, [(0, .ref 165), (1, .int 2), (2, .int p1), (3, .int p2)], [.int 3, .int 1, .int p1, .ref 165])) rfl ?_
    apply xe_callq pg_142 103 [.int p1, .int 1, .int 3] (.inl (some (.int 1))) (14, [(0, .ref 165), (1, .int 2), (2, .int p1), (3, .int p2)], [.int 1, .ref 165]) rfl (fun _ => rfl)
    · refine xe_sn pg_103 2 (fr' := (2, [(0, .int p1), (1, .int 1), (2, .int 3)], [.int 1, .int p1])) rfl ?_
      refine xe_f2 pg_103 14 rfl rfl (by show ¬ ((p1).toInt < 1); omega) ?_
      refine xe_sn pg_103 2 (fr' := (7, [(0, .int p1), (1, .int 1), (2, .int 3)], [.int 3, .int p1])) rfl ?_
      refine xe_f2 pg_103 14 rfl rfl (by show ¬ (3 < (p1).toInt); omega) ?_
      refine xe_sn pg_103 2 (fr' := (15, [(0, .int p1), (1, .int 1), (2, .int 3)], [.int 1])) rfl ?_
      exact xe_end pg_103 rfl
    refine xe_sn pg_142 4 (fr' := (26, [(0, .ref 165), (1, .int 2), (2, .int p1), (3, .int p2)], [.ref 165])) rfl ?_
    refine xe_sn pg_142 4 (fr' := (34, [(0, .ref 165), (1, .int 2), (2, .int p1), (3, .int p2)], [.int 2, .int 3])) rfl ?_
    refine xe_sn pg_142 4 (fr' := (38, [(0, .ref 165), (1, .int 2), (2, .int p1), (3, .int p2)], [.int 1, .int ((6 : Int32) + p1)])) rfl ?_
    refine xe_sn pg_142 4 (fr' := (46, [(4, .int (((6 : Int32) + p1) - 1)), (0, .ref 165), (1, .int 2), (2, .int p1), (3, .int p2)], [.ref 165])) rfl ?_
    refine xe_sn pg_142 4 (fr' := (54, [(4, .int (((6 : Int32) + p1) - 1)), (0, .ref 165), (1, .int 2), (2, .int p1), (3, .int p2)], [.ref 165, .ref 165])) rfl ?_
    refine xe_sn pg_142 4 (fr' := (60, [(4, .int (((6 : Int32) + p1) - 1)), (0, .ref 165), (1, .int 2), (2, .int p1), (3, .int p2)], [.int 2, .int 0, .ref 165])) rfl ?_
    refine xe_sn pg_142 4 (fr' := (100, [(4, .int (((6 : Int32) + p1) - 1)), (0, .ref 165), (1, .int 2), (2, .int p1), (3, .int p2)], [])) rfl ?_
    refine xe_sn pg_142 3 (fr' := (144, [(4, .int (((6 : Int32) + p1) - 1)), (0, .ref 165), (1, .int 2), (2, .int p1), (3, .int p2)], [])) rfl ?_
    exact xe_end pg_142 rfl
  · exact ⟨⟨rfl, rfl, rfl, rfl⟩, Nat.le_of_ble_eq_true rfl, Nat.le_of_ble_eq_true rfl, rfl⟩

set_option maxRecDepth 100000 in
theorem lf_begin_11 (xs : Nat → Int32) (p1 : Int32) (p2 : Int32) (a1 : p1.toInt < 1) : op_okv xs 163 142 [.ref 0, .int 3, .int p1, .int p2] [.ref 165, .int 3, .int p1, .int p2] := by
  refine ⟨1, ?_⟩
  apply Exists.intro
  apply Exists.intro
  apply And.intro
  · refine xe_sn pg_163 4 (fr' := (4, [(0, .ref 0), (1, .int 3), (2, .int p1), (3, .int p2)], [.int p2, .int p1, .int 3, .ref 0])) rfl ?_
    apply xe_callq pg_163 76 [.ref 0, .int 3, .int p1, .int p2] (.inr 0) (12, [(0, .ref 0), (1, .int 3), (2, .int p1), (3, .int p2)], []) rfl (fun _ => rfl)
    · refine xe_sn pg_76 1 (fr' := (1, [(0, .ref 0), (1, .int 3), (2, .int p1), (3, .int p2)], [.int 3])) rfl ?_
      apply xe_callq pg_76 92 [.int 3] (.inl none) (4, [(0, .ref 0), (1, .int 3), (2, .int p1), (3, .int p2)], []) rfl (fun _ => rfl)
      · refine xe_sn pg_92 2 (fr' := (2, [(0, .int 3)], [.int 4, .int 3])) rfl ?_
        apply xe_callq pg_92 95 [.int 3, .int 4] (.inl none) (5, [(0, .int 3)], []) rfl (fun _ => rfl)
        · refine xe_sn pg_95 4 (fr' := (6, [(0, .int 3), (1, .int 4)], [.int 4, .int 3])) rfl ?_
          refine xe_sn pg_95 1 (fr' := (17, [(0, .int 3), (1, .int 4)], [])) rfl ?_
          exact xe_end pg_95 rfl
        exact xe_end pg_92 rfl
      refine xe_sn pg_76 1 (fr' := (5, [(0, .ref 0), (1, .int 3), (2, .int p1), (3, .int p2)], [.int p1])) rfl ?_
      apply xe_callqx pg_76 94 [.int p1] 0 rfl (fun _ => rfl)
      · refine xe_sn pg_94 1 (fr' := (1, [(0, .int p1)], [.int p1])) rfl ?_
        apply xe_callq pg_94 100 [.int p1] (.inl (some (.int 0))) (4, [(0, .int p1)], [.int 0]) rfl (fun _ => rfl)
        · refine xe_sn pg_100 2 (fr' := (2, [(0, .int p1)], [.int 1, .int p1])) rfl ?_
          refine xe_t2 pg_100 14 rfl rfl (by show (p1).toInt < 1; omega) ?_
          refine xe_sn pg_100 1 (fr' := (15, [(0, .int p1)], [.int 0])) rfl ?_
          exact xe_end pg_100 rfl
        refine xe_sn pg_94 1 (fr' := (7, [(0, .int p1)], [])) rfl ?_
        exact xe_end pg_94 rfl
    refine xe_sn pg_163 1 (fr' := (13, [(0, .ref 0), (1, .int 3), (2, .int p1), (3, .int p2)], [.int 1])) rfl ?_
    exact xe_end pg_163 rfl
  refine And.intro ⟨rfl, rfl, rfl, rfl⟩ ?_
  apply And.intro
  · refine xe_sn pg_142 2 (fr' := (2, [(0, .ref 165), (1, .int 3), (2, .int p1), (3, .int p2)], [.int 3, .ref 165])) rfl ?_
    apply xe_callq pg_142 104 [.int 3] (.inl (some (.int 1))) (5, [(0, .ref 165), (1, .int 3), (2, .int p1), (3, .int p2)], [.int 1, .ref 165]) rfl (fun _ => rfl)
    · refine xe_sn pg_104 3 (fr' := (3, [(0, .int 3)], [.int 3, .int 0, .int 3])) rfl ?_
      apply xe_callq pg_104 103 [.int 3, .int 0, .int 3] (.inl (some (.int 1))) (6, [(0, .int 3)], [.int 1]) rfl (fun _ => rfl)
      · refine xe_sn pg_103 4 (fr' := (6, [(0, .int 3), (1, .int 0), (2, .int 3)], [.int 3])) rfl ?_
        refine xe_sn pg_103 4 (fr' := (15, [(0, .int 3), (1, .int 0), (2, .int 3)], [.int 1])) rfl ?_
        exact xe_end pg_103 rfl
      exact xe_end pg_104 rfl
    refine xe_sn pg_142 4 (fr' := (11, [(0, .ref 165), (1, .int 3), (2, .int p1), (3, .int p2)], [.int 3, .int 1, .int p1, .ref 165])) rfl ?_
    apply xe_callq pg_142 103 [.int p1, .int 1, .int 3] (.inl (some (.int 0))) (14, [(0, .ref 165), (1, .int 3), (2, .int p1), (3, .int p2)], [.int 0, .ref 165]) rfl (fun _ => rfl)
    · refine xe_sn pg_103 2 (fr' := (2, [(0, .int p1), (1, .int 1), (2, .int 3)], [.int 1, .int p1])) rfl ?_
      refine xe_t2 pg_103 14 rfl rfl (by show (p1).toInt < 1; omega) ?_
      refine xe_sn pg_103 1 (fr' := (15, [(0, .int p1), (1, .int 1), (2, .int 3)], [.int 0])) rfl ?_
      exact xe_end pg_103 rfl
    refine xe_sn pg_142 4 (fr' := (25, [(0, .ref 165), (1, .int 3), (2, .int p1), (3, .int p2)], [])) rfl ?_
    refine xe_sn pg_142 4 (fr' := (43, [(0, .ref 165), (1, .int 3), (2, .int p1), (3, .int p2)], [.int 0])) rfl ?_
    refine xe_sn pg_142 4 (fr' := (50, [(4, .int 0), (0, .ref 165), (1, .int 3), (2, .int p1), (3, .int p2)], [.int 1, .ref 165])) rfl ?_
    refine xe_sn pg_142 4 (fr' := (100, [(4, .int 0), (0, .ref 165), (1, .int 3), (2, .int p1), (3, .int p2)], [])) rfl ?_
    refine xe_sn pg_142 3 (fr' := (144, [(4, .int 0), (0, .ref 165), (1, .int 3), (2, .int p1), (3, .int p2)], [])) rfl ?_
    exact xe_end pg_142 rfl
  · exact ⟨⟨rfl, rfl, rfl, rfl⟩, Nat.le_of_ble_eq_true rfl, Nat.le_of_ble_eq_true rfl, rfl⟩

set_option maxRecDepth 100000 in
theorem lf_begin_12 (xs : Nat → Int32) (p1 : Int32) (p2 : Int32) (b1 : 3 < p1.toInt) : op_okv xs 163 142 [.ref 0, .int 3, .int p1, .int p2] [.ref 165, .int 3, .int p1, .int p2] := by
  refine ⟨1, ?_⟩
  apply Exists.intro
  apply Exists.intro
  apply And.intro
  · refine xe_sn pg_163 4 (fr' := (4, [(0, .ref 0), (1, .int 3), (2, .int p1), (3, .int p2)], [.int p2, .int p1, .int 3, .ref 0])) rfl ?_
    apply xe_callq pg_163 76 [.ref 0, .int 3, .int p1, .int p2] (.inr 0) (12, [(0, .ref 0), (1, .int 3), (2, .int p1), (3, .int p2)], []) rfl (fun _ => rfl)
    · refine xe_sn pg_76 1 (fr' := (1, [(0, .ref 0), (1, .int 3), (2, .int p1), (3, .int p2)], [.int 3])) rfl ?_
      apply xe_callq pg_76 92 [.int 3] (.inl none) (4, [(0, .ref 0), (1, .int 3), (2, .int p1), (3, .int p2)], []) rfl (fun _ => rfl)
      · refine xe_sn pg_92 2 (fr' := (2, [(0, .int 3)], [.int 4, .int 3])) rfl ?_
        apply xe_callq pg_92 95 [.int 3, .int 4] (.inl none) (5, [(0, .int 3)], []) rfl (fun _ => rfl)
        · refine xe_sn pg_95 4 (fr' := (6, [(0, .int 3), (1, .int 4)], [.int 4, .int 3])) rfl ?_
          refine xe_sn pg_95 1 (fr' := (17, [(0, .int 3), (1, .int 4)], [])) rfl ?_
          exact xe_end pg_95 rfl
        exact xe_end pg_92 rfl
      refine xe_sn pg_76 1 (fr' := (5, [(0, .ref 0), (1, .int 3), (2, .int p1), (3, .int p2)], [.int p1])) rfl ?_
      apply xe_callqx pg_76 94 [.int p1] 0 rfl (fun _ => rfl)
      · refine xe_sn pg_94 1 (fr' := (1, [(0, .int p1)], [.int p1])) rfl ?_
        apply xe_callq pg_94 100 [.int p1] (.inl (some (.int 0))) (4, [(0, .int p1)], [.int 0]) rfl (fun _ => rfl)
        · refine xe_sn pg_100 2 (fr' := (2, [(0, .int p1)], [.int 1, .int p1])) rfl ?_
          refine xe_f2 pg_100 14 rfl rfl (by show ¬ ((p1).toInt < 1); omega) ?_
          refine xe_sn pg_100 2 (fr' := (7, [(0, .int p1)], [.int 3, .int p1])) rfl ?_
          refine xe_t2 pg_100 14 rfl rfl (by show 3 < (p1).toInt; omega) ?_
          refine xe_sn pg_100 1 (fr' := (15, [(0, .int p1)], [.int 0])) rfl ?_
          exact xe_end pg_100 rfl
        refine xe_sn pg_94 1 (fr' := (7, [(0, .int p1)], [])) rfl ?_
        exact xe_end pg_94 rfl
    refine xe_sn pg_163 1 (fr' := (13, [(0, .ref 0), (1, .int 3), (2, .int p1), (3, .int p2)], [.int 1])) rfl ?_
    exact xe_end pg_163 rfl
  refine And.intro ⟨rfl, rfl, rfl, rfl⟩ ?_
  apply And.intro
  · refine xe_sn pg_142 2 (fr' := (2, [(0, .ref 165), (1, .int 3), (2, .int p1), (3, .int p2)], [.int 3, .ref 165])) rfl ?_
    apply xe_callq pg_142 104 [.int 3] (.inl (some (.int 1))) (5, [(0, .ref 165), (1, .int 3), (2, .int p1), (3, .int p2)], [.int 1, .ref 165]) rfl (fun _ => rfl)
    · refine xe_sn pg_104 3 (fr' := (3, [(0, .int 3)], [.int 3, .int 0, .int 3])) rfl ?_
      apply xe_callq pg_104 103 [.int 3, .int 0, .int 3] (.inl (some (.int 1))) (6, [(0, .int 3)], [.int 1]) rfl (fun _ => rfl)
      · refine xe_sn pg_103 4 (fr' := (6, [(0, .int 3), (1, .int 0), (2, .int 3)], [.int 3])) rfl ?_
        refine xe_sn pg_103 4 (fr' := (15, [(0, .int 3), (1, .int 0), (2, .int 3)], [.int 1])) rfl ?_
        exact xe_end pg_103 rfl
      exact xe_end pg_104 rfl
    refine xe_sn pg_142 4 (fr' := (11, [(0, .ref 165), (1, .int 3), (2, .int p1), (3, .int p2)], [.int 3, .int 1, .int p1, .ref 165])) rfl ?_
    apply xe_callq pg_142 103 [.int p1, .int 1, .int 3] (.inl (some (.int 0))) (14, [(0, .ref 165), (1, .int 3), (2, .int p1), (3, .int p2)], [.int 0, .ref 165]) rfl (fun _ => rfl)
    · refine xe_sn pg_103 2 (fr' := (2, [(0, .int p1), (1, .int 1), (2, .int 3)], [.int 1, .int p1])) rfl ?_
      refine xe_f2 pg_103 14 rfl rfl (by show ¬ ((p1).toInt < 1); omega) ?_
      refine xe_sn pg_103 2 (fr' := (7, [(0, .int p1), (1, .int 1), (2, .int 3)], [.int 3, .int p1])) rfl ?_
      refine xe_t2 pg_103 14 rfl rfl (by show 3 < (p1).toInt; omega) ?_
      refine xe_sn pg_103 1 (fr' := (15, [(0, .int p1), (1, .int 1), (2, .int 3)], [.int 0])) rfl ?_
      exact xe_end pg_103 rfl
    refine xe_sn pg_142 4 (fr' := (25, [(0, .ref 165), (1, .int 3), (2, .int p1), (3, .int p2)], [])) rfl ?_
    refine xe_sn pg_142 4 (fr' := (43, [(0, .ref 165), (1, .int 3), (2, .int p1), (3, .int p2)], [.int 0])) rfl ?_
    refine xe_sn pg_142 4 (fr' := (50, [(4, .int 0), (0, .ref 165), (1, .int 3), (2, .int p1), (3, .int p2)], [.int 1, .ref 165])) rfl ?_
    refine xe_sn pg_142 4 (fr' := (100, [(4, .int 0), (0, .ref 165), (1, .int 3), (2, .int p1), (3, .int p2)], [])) rfl ?_
    refine xe_sn pg_142 3 (fr' := (144, [(4, .int 0), (0, .ref 165), (1, .int 3), (2, .int p1), (3, .int p2)], [])) rfl ?_
    exact xe_end pg_142 rfl
  · exact ⟨⟨rfl, rfl, rfl, rfl⟩, Nat.le_of_ble_eq_true rfl, Nat.le_of_ble_eq_true rfl, rfl⟩

set_option maxRecDepth 100000 in
theorem lf_begin_13 (xs : Nat → Int32) (p1 : Int32) (p2 : Int32) (a1 : 1 ≤ p1.toInt) (b1 : p1.toInt ≤ 3) : op_okv xs 163 142 [.ref 0, .int 3, .int p1, .int p2] [.ref 165, .int 3, .int p1, .int p2] := by
  refine ⟨2, ?_⟩
  apply Exists.intro
  apply Exists.intro
  apply And.intro
  · refine xe_sn pg_163 4 (fr' := (4, [(0, .ref 0), (1, .int 3), (2, .int p1), (3, .int p2)], [.int p2, .int p1, .int 3, .ref 0])) rfl ?_
    apply xe_callq pg_163 76 [.ref 0, .int 3, .int p1, .int p2] (.inr 2) (16, [(0, .ref 0), (1, .int 3), (2, .int p1), (3, .int p2)], []) rfl (fun _ => rfl)
    · refine xe_sn pg_76 1 (fr' := (1, [(0, .ref 0), (1, .int 3), (2, .int p1), (3, .int p2)], [.int 3])) rfl ?_
      apply xe_callq pg_76 92 [.int 3] (.inl none) (4, [(0, .ref 0), (1, .int 3), (2, .int p1), (3, .int p2)], []) rfl (fun _ => rfl)
      · refine xe_sn pg_92 2 (fr' := (2, [(0, .int 3)], [.int 4, .int 3])) rfl ?_
        apply xe_callq pg_92 95 [.int 3, .int 4] (.inl none) (5, [(0, .int 3)], []) rfl (fun _ => rfl)
        · refine xe_sn pg_95 4 (fr' := (6, [(0, .int 3), (1, .int 4)], [.int 4, .int 3])) rfl ?_
          refine xe_sn pg_95 1 (fr' := (17, [(0, .int 3), (1, .int 4)], [])) rfl ?_
          exact xe_end pg_95 rfl
        exact xe_end pg_92 rfl
      refine xe_sn pg_76 1 (fr' := (5, [(0, .ref 0), (1, .int 3), (2, .int p1), (3, .int p2)], [.int p1])) rfl ?_
      apply xe_callq pg_76 94 [.int p1] (.inl none) (8, [(0, .ref 0), (1, .int 3), (2, .int p1), (3, .int p2)], []) rfl (fun _ => rfl)
      · refine xe_sn pg_94 1 (fr' := (1, [(0, .int p1)], [.int p1])) rfl ?_
        apply xe_callq pg_94 100 [.int p1] (.inl (some (.int 1))) (4, [(0, .int p1)], [.int 1]) rfl (fun _ => rfl)
        · refine xe_sn pg_100 2 (fr' := (2, [(0, .int p1)], [.int 1, .int p1])) rfl ?_
          refine xe_f2 pg_100 14 rfl rfl (by show ¬ ((p1).toInt < 1); omega) ?_
          refine xe_sn pg_100 2 (fr' := (7, [(0, .int p1)], [.int 3, .int p1])) rfl ?_
          refine xe_f2 pg_100 14 rfl rfl (by show ¬ (3 < (p1).toInt); omega) ?_
          refine xe_sn pg_100 2 (fr' := (15, [(0, .int p1)], [.int 1])) rfl ?_
          exact xe_end pg_100 rfl
        refine xe_sn pg_94 1 (fr' := (15, [(0, .int p1)], [])) rfl ?_
        exact xe_end pg_94 rfl
      refine xe_sn pg_76 4 (fr' := (14, [(0, .ref 0), (1, .int 3), (2, .int p1), (3, .int p2)], [.ref 154])) rfl ?_
      refine xe_sn pg_76 4 (fr' := (22, [(4, .ref 154), (0, .ref 0), (1, .int 3), (2, .int p1), (3, .int p2)], [.int 2, .int 0])) rfl ?_
      refine xe_sn pg_76 2 (fr' := (39, [(4, .ref 154), (0, .ref 0), (1, .int 3), (2, .int p1), (3, .int p2)], [.int 0])) rfl ?_
      apply xe_callqx pg_76 98 [.int 0] 2 rfl (fun _ => rfl)
      · refine xe_sn pg_98 2 (fr' := (4, [(0, .int 0)], [])) rfl ?_
        exact xe_end pg_98 rfl
    refine xe_sn pg_163 1 (fr' := (17, [(0, .ref 0), (1, .int 3), (2, .int p1), (3, .int p2)], [.int 2])) rfl ?_
    exact xe_end pg_163 rfl
  refine And.intro ⟨rfl, rfl, rfl, rfl⟩ ?_
  apply And.intro
  · refine xe_sn pg_142 2 (fr' := (2, [(0, .ref 165), (1, .int 3), (2, .int p1), (3, .int p2)], [.int 3, .ref 165])) rfl ?_
    apply xe_callq pg_142 104 [.int 3] (.inl (some (.int 1))) (5, [(0, .ref 165), (1, .int 3), (2, .int p1), (3, .int p2)], [.int 1, .ref 165]) rfl (fun _ => rfl)
    · refine xe_sn pg_104 3 (fr' := (3, [(0, .int 3)], [.int 3, .int 0, .int 3])) rfl ?_
      apply xe_callq pg_104 103 [.int 3, .int 0, .int 3] (.inl (some (.int 1))) (6, [(0, .int 3)], [.int 1]) rfl (fun _ => rfl)
      · refine xe_sn pg_103 4 (fr' := (6, [(0, .int 3), (1, .int 0), (2, .int 3)], [.int 3])) rfl ?_
        refine xe_sn pg_103 4 (fr' := (15, [(0, .int 3), (1, .int 0), (2, .int 3)], [.int 1])) rfl ?_
        exact xe_end pg_103 rfl
      exact xe_end pg_104 rfl
    refine xe_sn pg_142 4 (fr' := (11, [(0, .ref 165), (1, .int 3), (2, .int p1), (3, .int p2)], [.int 3, .int 1, .int p1, .ref 165])) rfl ?_
    apply xe_callq pg_142 103 [.int p1, .int 1, .int 3] (.inl (some (.int 1))) (14, [(0, .ref 165), (1, .int 3), (2, .int p1), (3, .int p2)], [.int 1, .ref 165]) rfl (fun _ => rfl)
    · refine xe_sn pg_103 2 (fr' := (2, [(0, .int p1), (1, .int 1), (2, .int 3)], [.int 1, .int p1])) rfl ?_
      refine xe_f2 pg_103 14 rfl rfl (by show ¬ ((p1).toInt < 1); omega) ?_
      refine xe_sn pg_103 2 (fr' := (7, [(0, .int p1), (1, .int 1), (2, .int 3)], [.int 3, .int p1])) rfl ?_
      refine xe_f2 pg_103 14 rfl rfl (by show ¬ (3 < (p1).toInt); omega) ?_
      refine xe_sn pg_103 2 (fr' := (15, [(0, .int p1), (1, .int 1), (2, .int 3)], [.int 1])) rfl ?_
      exact xe_end pg_103 rfl
    refine xe_sn pg_142 4 (fr' := (26, [(0, .ref 165), (1, .int 3), (2, .int p1), (3, .int p2)], [.ref 165])) rfl ?_
    refine xe_sn pg_142 4 (fr' := (34, [(0, .ref 165), (1, .int 3), (2, .int p1), (3, .int p2)], [.int 3, .int 3])) rfl ?_
    refine xe_sn pg_142 4 (fr' := (38, [(0, .ref 165), (1, .int 3), (2, .int p1), (3, .int p2)], [.int 1, .int ((9 : Int32) + p1)])) rfl ?_
    refine xe_sn pg_142 4 (fr' := (46, [(4, .int (((9 : Int32) + p1) - 1)), (0, .ref 165), (1, .int 3), (2, .int p1), (3, .int p2)], [.ref 165])) rfl ?_
    refine xe_sn pg_142 4 (fr' := (54, [(4, .int (((9 : Int32) + p1) - 1)), (0, .ref 165), (1, .int 3), (2, .int p1), (3, .int p2)], [.ref 165, .ref 165])) rfl ?_
    refine xe_sn pg_142 4 (fr' := (60, [(4, .int (((9 : Int32) + p1) - 1)), (0, .ref 165), (1, .int 3), (2, .int p1), (3, .int p2)], [.int 2, .int 0, .ref 165])) rfl ?_
    refine xe_sn pg_142 4 (fr' := (100, [(4, .int (((9 : Int32) + p1) - 1)), (0, .ref 165), (1, .int 3), (2, .int p1), (3, .int p2)], [])) rfl ?_
    refine xe_sn pg_142 3 (fr' := (144, [(4, .int (((9 : Int32) + p1) - 1)), (0, .ref 165), (1, .int 3), (2, .int p1), (3, .int p2)], [])) rfl ?_
    exact xe_end pg_142 rfl
  · exact ⟨⟨rfl, rfl, rfl, rfl⟩, Nat.le_of_ble_eq_true rfl, Nat.le_of_ble_eq_true rfl, rfl⟩
theorem op_begin (xs : Nat → Int32) (p0 p1 p2 : Int32) : op_okv xs 163 142 [.ref 0, .int p0, .int p1, .int p2] [.ref 165, .int p0, .int p1, .int p2] := by
  by_cases a0 : p0.toInt < 0
  · exact lf_begin_0 xs p0 p1 p2 a0
  by_cases b0 : 3 < p0.toInt
  · exact lf_begin_1 xs p0 p1 p2 b0
  replace a0 : 0 ≤ p0.toInt := by omega
  replace b0 : p0.toInt ≤ 3 := by omega
  rcases (by omega : p0.toInt = 0 ∨ p0.toInt = 1 ∨ p0.toInt = 2 ∨ p0.toInt = 3) with q0 | q0 | q0 | q0
  · obtain rfl : p0 = 0 := Int32.toInt_inj.mp (q0.trans (by decide))
    by_cases a1 : p1.toInt < 1
    · exact lf_begin_2 xs p1 p2 a1
    by_cases b1 : 3 < p1.toInt
    · exact lf_begin_3 xs p1 p2 b1
    replace a1 : 1 ≤ p1.toInt := by omega
    replace b1 : p1.toInt ≤ 3 := by omega
    exact lf_begin_4 xs p1 p2 a1 b1
  · obtain rfl : p0 = 1 := Int32.toInt_inj.mp (q0.trans (by decide))
    by_cases a1 : p1.toInt < 1
    · exact lf_begin_5 xs p1 p2 a1
    by_cases b1 : 3 < p1.toInt
    · exact lf_begin_6 xs p1 p2 b1
    replace a1 : 1 ≤ p1.toInt := by omega
    replace b1 : p1.toInt ≤ 3 := by omega
    exact lf_begin_7 xs p1 p2 a1 b1
  · obtain rfl : p0 = 2 := Int32.toInt_inj.mp (q0.trans (by decide))
    by_cases a1 : p1.toInt < 1
    · exact lf_begin_8 xs p1 p2 a1
    by_cases b1 : 3 < p1.toInt
    · exact lf_begin_9 xs p1 p2 b1
    replace a1 : 1 ≤ p1.toInt := by omega
    replace b1 : p1.toInt ≤ 3 := by omega
    exact lf_begin_10 xs p1 p2 a1 b1
  · obtain rfl : p0 = 3 := Int32.toInt_inj.mp (q0.trans (by decide))
    by_cases a1 : p1.toInt < 1
    · exact lf_begin_11 xs p1 p2 a1
    by_cases b1 : 3 < p1.toInt
    · exact lf_begin_12 xs p1 p2 b1
    replace a1 : 1 ≤ p1.toInt := by omega
    replace b1 : p1.toInt ≤ 3 := by omega
    exact lf_begin_13 xs p1 p2 a1 b1

