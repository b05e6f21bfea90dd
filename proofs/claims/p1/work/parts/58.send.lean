set_option maxRecDepth 100000 in
theorem lf_send_0 (xs : Nat → Int32) (p0 : Int32) (p1 : Int32) (p2 : Int32) (p3 : Int32) (a0 : p0.toInt < 0) : op_ok xs 164 143 [.ref 0, .int p0, .int p1, .int p2, .int p3, .ref 189] [.ref 165, .int p0, .int p1, .int p2, .int p3] := by
  refine ⟨1, 0, ?_⟩
  apply Exists.intro
  apply Exists.intro
  apply And.intro
  · refine xe_sn pg_164 4 (fr' := (5, [(0, .ref 0), (1, .int p0), (2, .int p1), (3, .int p2), (4, .int p3), (5, .ref 189)], [.int p0, .ref 0, .int 0, .ref 189])) rfl ?_
    refine xe_sn pg_164 3 (fr' := (9, [(0, .ref 0), (1, .int p0), (2, .int p1), (3, .int p2), (4, .int p3), (5, .ref 189)], [.int p3, .int p2, .int p1, .int p0, .ref 0, .int 0, .ref 189])) rfl ?_
    apply xe_callq pg_164 77 [.ref 0, .int p0, .int p1, .int p2, .int p3] (.inr 0) (19, [(0, .ref 0), (1, .int p0), (2, .int p1), (3, .int p2), (4, .int p3), (5, .ref 189)], []) rfl (fun _ => rfl)
    · refine xe_sn pg_77 1 (fr' := (1, [(0, .ref 0), (1, .int p0), (2, .int p1), (3, .int p2), (4, .int p3)], [.int p0])) rfl ?_
      apply xe_callqx pg_77 92 [.int p0] 0 rfl (fun _ => rfl)
      · refine xe_sn pg_92 2 (fr' := (2, [(0, .int p0)], [.int 4, .int p0])) rfl ?_
        apply xe_callqx pg_92 95 [.int p0, .int 4] 0 rfl (fun _ => rfl)
        · refine xe_sn pg_95 1 (fr' := (1, [(0, .int p0), (1, .int 4)], [.int p0])) rfl ?_
          refine xe_t1 pg_95 9 rfl rfl (by show (p0).toInt < 0; omega) ?_
          exact xe_end pg_95 rfl
    refine xe_sn pg_164 1 (fr' := (20, [(0, .ref 0), (1, .int p0), (2, .int p1), (3, .int p2), (4, .int p3), (5, .ref 189)], [.int 1])) rfl ?_
    exact xe_end pg_164 rfl
  refine And.intro ⟨rfl, rfl, rfl, rfl⟩ ?_
  apply And.intro
  · refine xe_sn pg_143 2 (fr' := (2, [(0, .ref 165), (1, .int p0), (2, .int p1), (3, .int p2), (4, .int p3)], [.int p0, .ref 165])) rfl ?_
    apply xe_callq pg_143 104 [.int p0] (.inl (some (.int 0))) (5, [(0, .ref 165), (1, .int p0), (2, .int p1), (3, .int p2), (4, .int p3)], [.int 0, .ref 165]) rfl (fun _ => rfl)
    · refine xe_sn pg_104 3 (fr' := (3, [(0, .int p0)], [.int 3, .int 0, .int p0])) rfl ?_
      apply xe_callq pg_104 103 [.int p0, .int 0, .int 3] (.inl (some (.int 0))) (6, [(0, .int p0)], [.int 0]) rfl (fun _ => rfl)
      · refine xe_sn pg_103 2 (fr' := (2, [(0, .int p0), (1, .int 0), (2, .int 3)], [.int 0, .int p0])) rfl ?_
        refine xe_t2 pg_103 14 rfl rfl (by show (p0).toInt < 0; omega) ?_
        refine xe_sn pg_103 1 (fr' := (15, [(0, .int p0), (1, .int 0), (2, .int 3)], [.int 0])) rfl ?_
        exact xe_end pg_103 rfl
      exact xe_end pg_104 rfl
    refine xe_sn pg_143 4 (fr' := (51, [(0, .ref 165), (1, .int p0), (2, .int p1), (3, .int p2), (4, .int p3)], [])) rfl ?_
    refine xe_sn pg_143 4 (fr' := (69, [(0, .ref 165), (1, .int p0), (2, .int p1), (3, .int p2), (4, .int p3)], [.int 0])) rfl ?_
    refine xe_sn pg_143 4 (fr' := (76, [(5, .int 0), (0, .ref 165), (1, .int p0), (2, .int p1), (3, .int p2), (4, .int p3)], [.int 1, .ref 165])) rfl ?_
    refine xe_sn pg_143 4 (fr' := (111, [(5, .int 0), (0, .ref 165), (1, .int p0), (2, .int p1), (3, .int p2), (4, .int p3)], [])) rfl ?_
    refine xe_sn pg_143 4 (fr' := (119, [(5, .int 0), (0, .ref 165), (1, .int p0), (2, .int p1), (3, .int p2), (4, .int p3)], [.int 0])) rfl ?_
    exact xe_end pg_143 rfl
  · exact ⟨⟨rfl, rfl, rfl, rfl⟩, Nat.le_of_ble_eq_true rfl, Nat.le_of_ble_eq_true rfl, rfl, fun q => absurd q (by decide)⟩

set_option maxRecDepth 100000 in
theorem lf_send_1 (xs : Nat → Int32) (p0 : Int32) (p1 : Int32) (p2 : Int32) (p3 : Int32) (b0 : 3 < p0.toInt) : op_ok xs 164 143 [.ref 0, .int p0, .int p1, .int p2, .int p3, .ref 189] [.ref 165, .int p0, .int p1, .int p2, .int p3] := by
  refine ⟨1, 0, ?_⟩
  apply Exists.intro
  apply Exists.intro
  apply And.intro
  · refine xe_sn pg_164 4 (fr' := (5, [(0, .ref 0), (1, .int p0), (2, .int p1), (3, .int p2), (4, .int p3), (5, .ref 189)], [.int p0, .ref 0, .int 0, .ref 189])) rfl ?_
    refine xe_sn pg_164 3 (fr' := (9, [(0, .ref 0), (1, .int p0), (2, .int p1), (3, .int p2), (4, .int p3), (5, .ref 189)], [.int p3, .int p2, .int p1, .int p0, .ref 0, .int 0, .ref 189])) rfl ?_
    apply xe_callq pg_164 77 [.ref 0, .int p0, .int p1, .int p2, .int p3] (.inr 0) (19, [(0, .ref 0), (1, .int p0), (2, .int p1), (3, .int p2), (4, .int p3), (5, .ref 189)], []) rfl (fun _ => rfl)
    · refine xe_sn pg_77 1 (fr' := (1, [(0, .ref 0), (1, .int p0), (2, .int p1), (3, .int p2), (4, .int p3)], [.int p0])) rfl ?_
      apply xe_callqx pg_77 92 [.int p0] 0 rfl (fun _ => rfl)
      · refine xe_sn pg_92 2 (fr' := (2, [(0, .int p0)], [.int 4, .int p0])) rfl ?_
        apply xe_callqx pg_92 95 [.int p0, .int 4] 0 rfl (fun _ => rfl)
        · refine xe_sn pg_95 1 (fr' := (1, [(0, .int p0), (1, .int 4)], [.int p0])) rfl ?_
          refine xe_f1 pg_95 9 rfl rfl (by show ¬ ((p0).toInt < 0); omega) ?_
          refine xe_sn pg_95 2 (fr' := (6, [(0, .int p0), (1, .int 4)], [.int 4, .int p0])) rfl ?_
          refine xe_f2 pg_95 17 rfl rfl (by show ¬ ((p0).toInt < 4); omega) ?_
          exact xe_end pg_95 rfl
    refine xe_sn pg_164 1 (fr' := (20, [(0, .ref 0), (1, .int p0), (2, .int p1), (3, .int p2), (4, .int p3), (5, .ref 189)], [.int 1])) rfl ?_
    exact xe_end pg_164 rfl
  refine And.intro ⟨rfl, rfl, rfl, rfl⟩ ?_
  apply And.intro
  · refine xe_sn pg_143 2 (fr' := (2, [(0, .ref 165), (1, .int p0), (2, .int p1), (3, .int p2), (4, .int p3)], [.int p0, .ref 165])) rfl ?_
    apply xe_callq pg_143 104 [.int p0] (.inl (some (.int 0))) (5, [(0, .ref 165), (1, .int p0), (2, .int p1), (3, .int p2), (4, .int p3)], [.int 0, .ref 165]) rfl (fun _ => rfl)
    · refine xe_sn pg_104 3 (fr' := (3, [(0, .int p0)], [.int 3, .int 0, .int p0])) rfl ?_
      apply xe_callq pg_104 103 [.int p0, .int 0, .int 3] (.inl (some (.int 0))) (6, [(0, .int p0)], [.int 0]) rfl (fun _ => rfl)
      · refine xe_sn pg_103 2 (fr' := (2, [(0, .int p0), (1, .int 0), (2, .int 3)], [.int 0, .int p0])) rfl ?_
        refine xe_f2 pg_103 14 rfl rfl (by show ¬ ((p0).toInt < 0); omega) ?_
        refine xe_sn pg_103 2 (fr' := (7, [(0, .int p0), (1, .int 0), (2, .int 3)], [.int 3, .int p0])) rfl ?_
        refine xe_t2 pg_103 14 rfl rfl (by show 3 < (p0).toInt; omega) ?_
        refine xe_sn pg_103 1 (fr' := (15, [(0, .int p0), (1, .int 0), (2, .int 3)], [.int 0])) rfl ?_
        exact xe_end pg_103 rfl
      exact xe_end pg_104 rfl
    refine xe_sn pg_143 4 (fr' := (51, [(0, .ref 165), (1, .int p0), (2, .int p1), (3, .int p2), (4, .int p3)], [])) rfl ?_
    refine xe_sn pg_143 4 (fr' := (69, [(0, .ref 165), (1, .int p0), (2, .int p1), (3, .int p2), (4, .int p3)], [.int 0])) rfl ?_
    refine xe_sn pg_143 4 (fr' := (76, [(5, .int 0), (0, .ref 165), (1, .int p0), (2, .int p1), (3, .int p2), (4, .int p3)], [.int 1, .ref 165])) rfl ?_
    refine xe_sn pg_143 4 (fr' := (111, [(5, .int 0), (0, .ref 165), (1, .int p0), (2, .int p1), (3, .int p2), (4, .int p3)], [])) rfl ?_
    refine xe_sn pg_143 4 (fr' := (119, [(5, .int 0), (0, .ref 165), (1, .int p0), (2, .int p1), (3, .int p2), (4, .int p3)], [.int 0])) rfl ?_
    exact xe_end pg_143 rfl
  · exact ⟨⟨rfl, rfl, rfl, rfl⟩, Nat.le_of_ble_eq_true rfl, Nat.le_of_ble_eq_true rfl, rfl, fun q => absurd q (by decide)⟩

set_option maxRecDepth 100000 in
theorem lf_send_2 (xs : Nat → Int32) (p1 : Int32) (p2 : Int32) (p3 : Int32) (a1 : p1.toInt < 1) : op_ok xs 164 143 [.ref 0, .int 0, .int p1, .int p2, .int p3, .ref 189] [.ref 165, .int 0, .int p1, .int p2, .int p3] := by
  refine ⟨1, 0, ?_⟩
  apply Exists.intro
  apply Exists.intro
  apply And.intro
  · refine xe_sn pg_164 4 (fr' := (5, [(0, .ref 0), (1, .int 0), (2, .int p1), (3, .int p2), (4, .int p3), (5, .ref 189)], [.int 0, .ref 0, .int 0, .ref 189])) rfl ?_
    refine xe_sn pg_164 3 (fr' := (9, [(0, .ref 0), (1, .int 0), (2, .int p1), (3, .int p2), (4, .int p3), (5, .ref 189)], [.int p3, .int p2, .int p1, .int 0, .ref 0, .int 0, .ref 189])) rfl ?_
    apply xe_callq pg_164 77 [.ref 0, .int 0, .int p1, .int p2, .int p3] (.inr 0) (19, [(0, .ref 0), (1, .int 0), (2, .int p1), (3, .int p2), (4, .int p3), (5, .ref 189)], []) rfl (fun _ => rfl)
    · refine xe_sn pg_77 1 (fr' := (1, [(0, .ref 0), (1, .int 0), (2, .int p1), (3, .int p2), (4, .int p3)], [.int 0])) rfl ?_
      apply xe_callq pg_77 92 [.int 0] (.inl none) (4, [(0, .ref 0), (1, .int 0), (2, .int p1), (3, .int p2), (4, .int p3)], []) rfl (fun _ => rfl)
      · refine xe_sn pg_92 2 (fr' := (2, [(0, .int 0)], [.int 4, .int 0])) rfl ?_
        apply xe_callq pg_92 95 [.int 0, .int 4] (.inl none) (5, [(0, .int 0)], []) rfl (fun _ => rfl)
        · refine xe_sn pg_95 4 (fr' := (6, [(0, .int 0), (1, .int 4)], [.int 4, .int 0])) rfl ?_
          refine xe_sn pg_95 1 (fr' := (17, [(0, .int 0), (1, .int 4)], [])) rfl ?_
          exact xe_end pg_95 rfl
        exact xe_end pg_92 rfl
      refine xe_sn pg_77 1 (fr' := (5, [(0, .ref 0), (1, .int 0), (2, .int p1), (3, .int p2), (4, .int p3)], [.int p1])) rfl ?_
      apply xe_callqx pg_77 94 [.int p1] 0 rfl (fun _ => rfl)
      · refine xe_sn pg_94 1 (fr' := (1, [(0, .int p1)], [.int p1])) rfl ?_
        apply xe_callq pg_94 100 [.int p1] (.inl (some (.int 0))) (4, [(0, .int p1)], [.int 0]) rfl (fun _ => rfl)
        · refine xe_sn pg_100 2 (fr' := (2, [(0, .int p1)], [.int 1, .int p1])) rfl ?_
          refine xe_t2 pg_100 14 rfl rfl (by show (p1).toInt < 1; omega) ?_
          refine xe_sn pg_100 1 (fr' := (15, [(0, .int p1)], [.int 0])) rfl ?_
          exact xe_end pg_100 rfl
        refine xe_sn pg_94 1 (fr' := (7, [(0, .int p1)], [])) rfl ?_
        exact xe_end pg_94 rfl
    refine xe_sn pg_164 1 (fr' := (20, [(0, .ref 0), (1, .int 0), (2, .int p1), (3, .int p2), (4, .int p3), (5, .ref 189)], [.int 1])) rfl ?_
    exact xe_end pg_164 rfl
  refine And.intro ⟨rfl, rfl, rfl, rfl⟩ ?_
  apply And.intro
  · refine xe_sn pg_143 2 (fr' := (2, [(0, .ref 165), (1, .int 0), (2, .int p1), (3, .int p2), (4, .int p3)], [.int 0, .ref 165])) rfl ?_
    apply xe_callq pg_143 104 [.int 0] (.inl (some (.int 1))) (5, [(0, .ref 165), (1, .int 0), (2, .int p1), (3, .int p2), (4, .int p3)], [.int 1, .ref 165]) rfl (fun _ => rfl)
    · refine xe_sn pg_104 3 (fr' := (3, [(0, .int 0)], [.int 3, .int 0, .int 0])) rfl ?_
      apply xe_callq pg_104 103 [.int 0, .int 0, .int 3] (.inl (some (.int 1))) (6, [(0, .int 0)], [.int 1]) rfl (fun _ => rfl)
      · refine xe_sn pg_103 4 (fr' := (6, [(0, .int 0), (1, .int 0), (2, .int 3)], [.int 0])) rfl ?_
        refine xe_sn pg_103 4 (fr' := (15, [(0, .int 0), (1, .int 0), (2, .int 3)], [.int 1])) rfl ?_
        exact xe_end pg_103 rfl
      exact xe_end pg_104 rfl
    refine xe_sn pg_143 4 (fr' := (11, [(0, .ref 165), (1, .int 0), (2, .int p1), (3, .int p2), (4, .int p3)], [.int 3, .int 1, .int p1, .ref 165])) rfl ?_
    apply xe_callq pg_143 103 [.int p1, .int 1, .int 3] (.inl (some (.int 0))) (14, [(0, .ref 165), (1, .int 0), (2, .int p1), (3, .int p2), (4, .int p3)], [.int 0, .ref 165]) rfl (fun _ => rfl)
    · refine xe_sn pg_103 2 (fr' := (2, [(0, .int p1), (1, .int 1), (2, .int 3)], [.int 1, .int p1])) rfl ?_
      refine xe_t2 pg_103 14 rfl rfl (by show (p1).toInt < 1; omega) ?_
      refine xe_sn pg_103 1 (fr' := (15, [(0, .int p1), (1, .int 1), (2, .int 3)], [.int 0])) rfl ?_
      exact xe_end pg_103 rfl
    refine xe_sn pg_143 4 (fr' := (51, [(0, .ref 165), (1, .int 0), (2, .int p1), (3, .int p2), (4, .int p3)], [])) rfl ?_
    refine xe_sn pg_143 4 (fr' := (69, [(0, .ref 165), (1, .int 0), (2, .int p1), (3, .int p2), (4, .int p3)], [.int 0])) rfl ?_
    refine xe_sn pg_143 4 (fr' := (76, [(5, .int 0), (0, .ref 165), (1, .int 0), (2, .int p1), (3, .int p2), (4, .int p3)], [.int 1, .ref 165])) rfl ?_
    refine xe_sn pg_143 4 (fr' := (111, [(5, .int 0), (0, .ref 165), (1, .int 0), (2, .int p1), (3, .int p2), (4, .int p3)], [])) rfl ?_
    refine xe_sn pg_143 4 (fr' := (119, [(5, .int 0), (0, .ref 165), (1, .int 0), (2, .int p1), (3, .int p2), (4, .int p3)], [.int 0])) rfl ?_
    exact xe_end pg_143 rfl
  · exact ⟨⟨rfl, rfl, rfl, rfl⟩, Nat.le_of_ble_eq_true rfl, Nat.le_of_ble_eq_true rfl, rfl, fun q => absurd q (by decide)⟩

set_option maxRecDepth 100000 in
theorem lf_send_3 (xs : Nat → Int32) (p1 : Int32) (p2 : Int32) (p3 : Int32) (b1 : 3 < p1.toInt) : op_ok xs 164 143 [.ref 0, .int 0, .int p1, .int p2, .int p3, .ref 189] [.ref 165, .int 0, .int p1, .int p2, .int p3] := by
  refine ⟨1, 0, ?_⟩
  apply Exists.intro
  apply Exists.intro
  apply And.intro
  · refine xe_sn pg_164 4 (fr' := (5, [(0, .ref 0), (1, .int 0), (2, .int p1), (3, .int p2), (4, .int p3), (5, .ref 189)], [.int 0, .ref 0, .int 0, .ref 189])) rfl ?_
    refine xe_sn pg_164 3 (fr' := (9, [(0, .ref 0), (1, .int 0), (2, .int p1), (3, .int p2), (4, .int p3), (5, .ref 189)], [.int p3, .int p2, .int p1, .int 0, .ref 0, .int 0, .ref 189])) rfl ?_
    apply xe_callq pg_164 77 [.ref 0, .int 0, .int p1, .int p2, .int p3] (.inr 0) (19, [(0, .ref 0), (1, .int 0), (2, .int p1), (3, .int p2), (4, .int p3), (5, .ref 189)], []) rfl (fun _ => rfl)
    · refine xe_sn pg_77 1 (fr' := (1, [(0, .ref 0), (1, .int 0), (2, .int p1), (3, .int p2), (4, .int p3)], [.int 0])) rfl ?_
      apply xe_callq pg_77 92 [.int 0] (.inl none) (4, [(0, .ref 0), (1, .int 0), (2, .int p1), (3, .int p2), (4, .int p3)], []) rfl (fun _ => rfl)
      · refine xe_sn pg_92 2 (fr' := (2, [(0, .int 0)], [.int 4, .int 0])) rfl ?_
        apply xe_callq pg_92 95 [.int 0, .int 4] (.inl none) (5, [(0, .int 0)], []) rfl (fun _ => rfl)
        · refine xe_sn pg_95 4 (fr' := (6, [(0, .int 0), (1, .int 4)], [.int 4, .int 0])) rfl ?_
          refine xe_sn pg_95 1 (fr' := (17, [(0, .int 0), (1, .int 4)], [])) rfl ?_
          exact xe_end pg_95 rfl
        exact xe_end pg_92 rfl
      refine xe_sn pg_77 1 (fr' := (5, [(0, .ref 0), (1, .int 0), (2, .int p1), (3, .int p2), (4, .int p3)], [.int p1])) rfl ?_
      apply xe_callqx pg_77 94 [.int p1] 0 rfl (fun _ => rfl)
      · refine xe_sn pg_94 1 (fr' := (1, [(0, .int p1)], [.int p1])) rfl ?_
        apply xe_callq pg_94 100 [.int p1] (.inl (some (.int 0))) (4, [(0, .int p1)], [.int 0]) rfl (fun _ => rfl)
        · refine xe_sn pg_100 2 (fr' := (2, [(0, .int p1)], [.int 1, .int p1])) rfl ?_
          refine xe_f2 pg_100 14 rfl rfl (by show ¬ ((p1).toInt < 1); omega) ?_
          refine xe_sn pg_100 2 (fr' := (7, [(0, .int p1)], [.int 3, .int p1])) rfl ?_
          refine xe_t2 pg_100 14 rfl rfl (by show 3 < (p1).toInt; omega) ?_
          refine xe_sn pg_100 1 (fr' := (15, [(0, .int p1)], [.int 0])) rfl ?_
          exact xe_end pg_100 rfl
        refine xe_sn pg_94 1 (fr' := (7, [(0, .int p1)], [])) rfl ?_
        exact xe_end pg_94 rfl
    refine xe_sn pg_164 1 (fr' := (20, [(0, .ref 0), (1, .int 0), (2, .int p1), (3, .int p2), (4, .int p3), (5, .ref 189)], [.int 1])) rfl ?_
    exact xe_end pg_164 rfl
  refine And.intro ⟨rfl, rfl, rfl, rfl⟩ ?_
  apply And.intro
  · refine xe_sn pg_143 2 (fr' := (2, [(0, .ref 165), (1, .int 0), (2, .int p1), (3, .int p2), (4, .int p3)], [.int 0, .ref 165])) rfl ?_
    apply xe_callq pg_143 104 [.int 0] (.inl (some (.int 1))) (5, [(0, .ref 165), (1, .int 0), (2, .int p1), (3, .int p2), (4, .int p3)], [.int 1, .ref 165]) rfl (fun _ => rfl)
    · refine xe_sn pg_104 3 (fr' := (3, [(0, .int 0)], [.int 3, .int 0, .int 0])) rfl ?_
      apply xe_callq pg_104 103 [.int 0, .int 0, .int 3] (.inl (some (.int 1))) (6, [(0, .int 0)], [.int 1]) rfl (fun _ => rfl)
      · refine xe_sn pg_103 4 (fr' := (6, [(0, .int 0), (1, .int 0), (2, .int 3)], [.int 0])) rfl ?_
        refine xe_sn pg_103 4 (fr' := (15, [(0, .int 0), (1, .int 0), (2, .int 3)], [.int 1])) rfl ?_
        exact xe_end pg_103 rfl
      exact xe_end pg_104 rfl
    refine xe_sn pg_143 4 (fr' := (11, [(0, .ref 165), (1, .int 0), (2, .int p1), (3, .int p2), (4, .int p3)], [.int 3, .int 1, .int p1, .ref 165])) rfl ?_
    apply xe_callq pg_143 103 [.int p1, .int 1, .int 3] (.inl (some (.int 0))) (14, [(0, .ref 165), (1, .int 0), (2, .int p1), (3, .int p2), (4, .int p3)], [.int 0, .ref 165]) rfl (fun _ => rfl)
    · refine xe_sn pg_103 2 (fr' := (2, [(0, .int p1), (1, .int 1), (2, .int 3)], [.int 1, .int p1])) rfl ?_
      refine xe_f2 pg_103 14 rfl rfl (by show ¬ ((p1).toInt < 1); omega) ?_
      refine xe_sn pg_103 2 (fr' := (7, [(0, .int p1), (1, .int 1), (2, .int 3)], [.int 3, .int p1])) rfl ?_
      refine xe_t2 pg_103 14 rfl rfl (by show 3 < (p1).toInt; omega) ?_
      refine xe_sn pg_103 1 (fr' := (15, [(0, .int p1), (1, .int 1), (2, .int 3)], [.int 0])) rfl ?_
      exact xe_end pg_103 rfl
    refine xe_sn pg_143 4 (fr' := (51, [(0, .ref 165), (1, .int 0), (2, .int p1), (3, .int p2), (4, .int p3)], [])) rfl ?_
    refine xe_sn pg_143 4 (fr' := (69, [(0, .ref 165), (1, .int 0), (2, .int p1), (3, .int p2), (4, .int p3)], [.int 0])) rfl ?_
    refine xe_sn pg_143 4 (fr' := (76, [(5, .int 0), (0, .ref 165), (1, .int 0), (2, .int p1), (3, .int p2), (4, .int p3)], [.int 1, .ref 165])) rfl ?_
    refine xe_sn pg_143 4 (fr' := (111, [(5, .int 0), (0, .ref 165), (1, .int 0), (2, .int p1), (3, .int p2), (4, .int p3)], [])) rfl ?_
    refine xe_sn pg_143 4 (fr' := (119, [(5, .int 0), (0, .ref 165), (1, .int 0), (2, .int p1), (3, .int p2), (4, .int p3)], [.int 0])) rfl ?_
    exact xe_end pg_143 rfl
  · exact ⟨⟨rfl, rfl, rfl, rfl⟩, Nat.le_of_ble_eq_true rfl, Nat.le_of_ble_eq_true rfl, rfl, fun q => absurd q (by decide)⟩

set_option maxRecDepth 100000 in
theorem lf_send_4 (xs : Nat → Int32) (p2 : Int32) (p3 : Int32) (a2 : p2.toInt < 0) : op_ok xs 164 143 [.ref 0, .int 0, .int 1, .int p2, .int p3, .ref 189] [.ref 165, .int 0, .int 1, .int p2, .int p3] := by
  refine ⟨2, 0, ?_⟩
  apply Exists.intro
  apply Exists.intro
  apply And.intro
  · refine xe_sn pg_164 4 (fr' := (5, [(0, .ref 0), (1, .int 0), (2, .int 1), (3, .int p2), (4, .int p3), (5, .ref 189)], [.int 0, .ref 0, .int 0, .ref 189])) rfl ?_
    refine xe_sn pg_164 3 (fr' := (9, [(0, .ref 0), (1, .int 0), (2, .int 1), (3, .int p2), (4, .int p3), (5, .ref 189)], [.int p3, .int p2, .int 1, .int 0, .ref 0, .int 0, .ref 189])) rfl ?_
    apply xe_callq pg_164 77 [.ref 0, .int 0, .int 1, .int p2, .int p3] (.inr 1) (23, [(0, .ref 0), (1, .int 0), (2, .int 1), (3, .int p2), (4, .int p3), (5, .ref 189)], []) rfl (fun _ => rfl)
    · refine xe_sn pg_77 1 (fr' := (1, [(0, .ref 0), (1, .int 0), (2, .int 1), (3, .int p2), (4, .int p3)], [.int 0])) rfl ?_
      apply xe_callq pg_77 92 [.int 0] (.inl none) (4, [(0, .ref 0), (1, .int 0), (2, .int 1), (3, .int p2), (4, .int p3)], []) rfl (fun _ => rfl)
      · refine xe_sn pg_92 2 (fr' := (2, [(0, .int 0)], [.int 4, .int 0])) rfl ?_
        apply xe_callq pg_92 95 [.int 0, .int 4] (.inl none) (5, [(0, .int 0)], []) rfl (fun _ => rfl)
        · refine xe_sn pg_95 4 (fr' := (6, [(0, .int 0), (1, .int 4)], [.int 4, .int 0])) rfl ?_
          refine xe_sn pg_95 1 (fr' := (17, [(0, .int 0), (1, .int 4)], [])) rfl ?_
          exact xe_end pg_95 rfl
        exact xe_end pg_92 rfl
      refine xe_sn pg_77 1 (fr' := (5, [(0, .ref 0), (1, .int 0), (2, .int 1), (3, .int p2), (4, .int p3)], [.int 1])) rfl ?_
      apply xe_callq pg_77 94 [.int 1] (.inl none) (8, [(0, .ref 0), (1, .int 0), (2, .int 1), (3, .int p2), (4, .int p3)], []) rfl (fun _ => rfl)
      · refine xe_sn pg_94 1 (fr' := (1, [(0, .int 1)], [.int 1])) rfl ?_
        apply xe_callq pg_94 100 [.int 1] (.inl (some (.int 1))) (4, [(0, .int 1)], [.int 1]) rfl (fun _ => rfl)
        · refine xe_sn pg_100 4 (fr' := (6, [(0, .int 1)], [.int 1])) rfl ?_
          refine xe_sn pg_100 4 (fr' := (15, [(0, .int 1)], [.int 1])) rfl ?_
          exact xe_end pg_100 rfl
        refine xe_sn pg_94 1 (fr' := (15, [(0, .int 1)], [])) rfl ?_
        exact xe_end pg_94 rfl
      refine xe_sn pg_77 1 (fr' := (9, [(0, .ref 0), (1, .int 0), (2, .int 1), (3, .int p2), (4, .int p3)], [.int p2])) rfl ?_
      refine xe_t1 pg_77 22 rfl rfl (by show (p2).toInt < 0; omega) ?_
      refine xe_sn pg_77 1 (fr' := (23, [(0, .ref 0), (1, .int 0), (2, .int 1), (3, .int p2), (4, .int p3)], [.int 0])) rfl ?_
      apply xe_callqx pg_77 97 [.int 0] 1 rfl (fun _ => rfl)
      · refine xe_sn pg_97 2 (fr' := (4, [(0, .int 0)], [])) rfl ?_
        exact xe_end pg_97 rfl
    refine xe_sn pg_164 1 (fr' := (24, [(0, .ref 0), (1, .int 0), (2, .int 1), (3, .int p2), (4, .int p3), (5, .ref 189)], [.int 2])) rfl ?_
    exact xe_end pg_164 rfl
  refine And.intro ⟨rfl, rfl, rfl, rfl⟩ ?_
  apply And.intro
  · refine xe_sn pg_143 2 (fr' := (2, [(0, .ref 165), (1, .int 0), (2, .int 1), (3, .int p2), (4, .int p3)], [.int 0, .ref 165])) rfl ?_
    apply xe_callq pg_143 104 [.int 0] (.inl (some (.int 1))) (5, [(0, .ref 165), (1, .int 0), (2, .int 1), (3, .int p2), (4, .int p3)], [.int 1, .ref 165]) rfl (fun _ => rfl)
    · refine xe_sn pg_104 3 (fr' := (3, [(0, .int 0)], [.int 3, .int 0, .int 0])) rfl ?_
      apply xe_callq pg_104 103 [.int 0, .int 0, .int 3] (.inl (some (.int 1))) (6, [(0, .int 0)], [.int 1]) rfl (fun _ => rfl)
      · refine xe_sn pg_103 4 (fr' := (6, [(0, .int 0), (1, .int 0), (2, .int 3)], [.int 0])) rfl ?_
        refine xe_sn pg_103 4 (fr' := (15, [(0, .int 0), (1, .int 0), (2, .int 3)], [.int 1])) rfl ?_
        exact xe_end pg_103 rfl
      exact xe_end pg_104 rfl
    refine xe_sn pg_143 4 (fr' := (11, [(0, .ref 165), (1, .int 0), (2, .int 1), (3, .int p2), (4, .int p3)], [.int 3, .int 1, .int 1, .ref 165])) rfl ?_
    apply xe_callq pg_143 103 [.int 1, .int 1, .int 3] (.inl (some (.int 1))) (14, [(0, .ref 165), (1, .int 0), (2, .int 1), (3, .int p2), (4, .int p3)], [.int 1, .ref 165]) rfl (fun _ => rfl)
    · refine xe_sn pg_103 4 (fr' := (6, [(0, .int 1), (1, .int 1), (2, .int 3)], [.int 1])) rfl ?_
      refine xe_sn pg_103 4 (fr' := (15, [(0, .int 1), (1, .int 1), (2, .int 3)], [.int 1])) rfl ?_
      exact xe_end pg_103 rfl
    refine xe_sn pg_143 4 (fr' := (25, [(0, .ref 165), (1, .int 0), (2, .int 1), (3, .int p2), (4, .int p3)], [.int 7, .int 0, .int p2, .ref 165])) rfl ?_
    apply xe_callq pg_143 103 [.int p2, .int 0, .int 7] (.inl (some (.int 0))) (28, [(0, .ref 165), (1, .int 0), (2, .int 1), (3, .int p2), (4, .int p3)], [.int 0, .ref 165]) rfl (fun _ => rfl)
    · refine xe_sn pg_103 2 (fr' := (2, [(0, .int p2), (1, .int 0), (2, .int 7)], [.int 0, .int p2])) rfl ?_
      refine xe_t2 pg_103 14 rfl rfl (by show (p2).toInt < 0; omega) ?_
      refine xe_sn pg_103 1 (fr' := (15, [(0, .int p2), (1, .int 0), (2, .int 7)], [.int 0])) rfl ?_
      exact xe_end pg_103 rfl
    refine xe_sn pg_143 4 (fr' := (51, [(0, .ref 165), (1, .int 0), (2, .int 1), (3, .int p2), (4, .int p3)], [])) rfl ?_
    refine xe_sn pg_143 4 (fr' := (69, [(0, .ref 165), (1, .int 0), (2, .int 1), (3, .int p2), (4, .int p3)], [.int 0])) rfl ?_
    refine xe_sn pg_143 4 (fr' := (76, [(5, .int 0), (0, .ref 165), (1, .int 0), (2, .int 1), (3, .int p2), (4, .int p3)], [.int 2, .ref 165])) rfl ?_
    refine xe_sn pg_143 4 (fr' := (111, [(5, .int 0), (0, .ref 165), (1, .int 0), (2, .int 1), (3, .int p2), (4, .int p3)], [])) rfl ?_
    refine xe_sn pg_143 4 (fr' := (119, [(5, .int 0), (0, .ref 165), (1, .int 0), (2, .int 1), (3, .int p2), (4, .int p3)], [.int 0])) rfl ?_
    exact xe_end pg_143 rfl
  · exact ⟨⟨rfl, rfl, rfl, rfl⟩, Nat.le_of_ble_eq_true rfl, Nat.le_of_ble_eq_true rfl, rfl, fun q => absurd q (by decide)⟩

set_option maxRecDepth 100000 in
theorem lf_send_5 (xs : Nat → Int32) (p2 : Int32) (p3 : Int32) (b2 : 7 < p2.toInt) : op_ok xs 164 143 [.ref 0, .int 0, .int 1, .int p2, .int p3, .ref 189] [.ref 165, .int 0, .int 1, .int p2, .int p3] := by
  refine ⟨2, 0, ?_⟩
  apply Exists.intro
  apply Exists.intro
  apply And.intro
  · refine xe_sn pg_164 4 (fr' := (5, [(0, .ref 0), (1, .int 0), (2, .int 1), (3, .int p2), (4, .int p3), (5, .ref 189)], [.int 0, .ref 0, .int 0, .ref 189])) rfl ?_
    refine xe_sn pg_164 3 (fr' := (9, [(0, .ref 0), (1, .int 0), (2, .int 1), (3, .int p2), (4, .int p3), (5, .ref 189)], [.int p3, .int p2, .int 1, .int 0, .ref 0, .int 0, .ref 189])) rfl ?_
    apply xe_callq pg_164 77 [.ref 0, .int 0, .int 1, .int p2, .int p3] (.inr 1) (23, [(0, .ref 0), (1, .int 0), (2, .int 1), (3, .int p2), (4, .int p3), (5, .ref 189)], []) rfl (fun _ => rfl)
    · refine xe_sn pg_77 1 (fr' := (1, [(0, .ref 0), (1, .int 0), (2, .int 1), (3, .int p2), (4, .int p3)], [.int 0])) rfl ?_
      apply xe_callq pg_77 92 [.int 0] (.inl none) (4, [(0, .ref 0), (1, .int 0), (2, .int 1), (3, .int p2), (4, .int p3)], []) rfl (fun _ => rfl)
      · refine xe_sn pg_92 2 (fr' := (2, [(0, .int 0)], [.int 4, .int 0])) rfl ?_
        apply xe_callq pg_92 95 [.int 0, .int 4] (.inl none) (5, [(0, .int 0)], []) rfl (fun _ => rfl)
        · refine xe_sn pg_95 4 (fr' := (6, [(0, .int 0), (1, .int 4)], [.int 4, .int 0])) rfl ?_
          refine xe_sn pg_95 1 (fr' := (17, [(0, .int 0), (1, .int 4)], [])) rfl ?_
          exact xe_end pg_95 rfl
        exact xe_end pg_92 rfl
      refine xe_sn pg_77 1 (fr' := (5, [(0, .ref 0), (1, .int 0), (2, .int 1), (3, .int p2), (4, .int p3)], [.int 1])) rfl ?_
      apply xe_callq pg_77 94 [.int 1] (.inl none) (8, [(0, .ref 0), (1, .int 0), (2, .int 1), (3, .int p2), (4, .int p3)], []) rfl (fun _ => rfl)
      · refine xe_sn pg_94 1 (fr' := (1, [(0, .int 1)], [.int 1])) rfl ?_
        apply xe_callq pg_94 100 [.int 1] (.inl (some (.int 1))) (4, [(0, .int 1)], [.int 1]) rfl (fun _ => rfl)
        · refine xe_sn pg_100 4 (fr' := (6, [(0, .int 1)], [.int 1])) rfl ?_
          refine xe_sn pg_100 4 (fr' := (15, [(0, .int 1)], [.int 1])) rfl ?_
          exact xe_end pg_100 rfl
        refine xe_sn pg_94 1 (fr' := (15, [(0, .int 1)], [])) rfl ?_
        exact xe_end pg_94 rfl
      refine xe_sn pg_77 1 (fr' := (9, [(0, .ref 0), (1, .int 0), (2, .int 1), (3, .int p2), (4, .int p3)], [.int p2])) rfl ?_
      refine xe_f1 pg_77 22 rfl rfl (by show ¬ ((p2).toInt < 0); omega) ?_
      refine xe_sn pg_77 2 (fr' := (15, [(0, .ref 0), (1, .int 0), (2, .int 1), (3, .int p2), (4, .int p3)], [.int 7, .int p2])) rfl ?_
      refine xe_t2 pg_77 22 rfl rfl (by show 7 < (p2).toInt; omega) ?_
      refine xe_sn pg_77 1 (fr' := (23, [(0, .ref 0), (1, .int 0), (2, .int 1), (3, .int p2), (4, .int p3)], [.int 0])) rfl ?_
      apply xe_callqx pg_77 97 [.int 0] 1 rfl (fun _ => rfl)
      · refine xe_sn pg_97 2 (fr' := (4, [(0, .int 0)], [])) rfl ?_
        exact xe_end pg_97 rfl
    refine xe_sn pg_164 1 (fr' := (24, [(0, .ref 0), (1, .int 0), (2, .int 1), (3, .int p2), (4, .int p3), (5, .ref 189)], [.int 2])) rfl ?_
    exact xe_end pg_164 rfl
  refine And.intro ⟨rfl, rfl, rfl, rfl⟩ ?_
  apply And.intro
  · refine xe_sn pg_143 2 (fr' := (2, [(0, .ref 165), (1, .int 0), (2, .int 1), (3, .int p2), (4, .int p3)], [.int 0, .ref 165])) rfl ?_
    apply xe_callq pg_143 104 [.int 0] (.inl (some (.int 1))) (5, [(0, .ref 165), (1, .int 0), (2, .int 1), (3, .int p2), (4, .int p3)], [.int 1, .ref 165]) rfl (fun _ => rfl)
    · refine xe_sn pg_104 3 (fr' := (3, [(0, .int 0)], [.int 3, .int 0, .int 0])) rfl ?_
      apply xe_callq pg_104 103 [.int 0, .int 0, .int 3] (.inl (some (.int 1))) (6, [(0, .int 0)], [.int 1]) rfl (fun _ => rfl)
      · refine xe_sn pg_103 4 (fr' := (6, [(0, .int 0), (1, .int 0), (2, .int 3)], [.int 0])) rfl ?_
        refine xe_sn pg_103 4 (fr' := (15, [(0, .int 0), (1, .int 0), (2, .int 3)], [.int 1])) rfl ?_
        exact xe_end pg_103 rfl
      exact xe_end pg_104 rfl
    refine xe_sn pg_143 4 (fr' := (11, [(0, .ref 165), (1, .int 0), (2, .int 1), (3, .int p2), (4, .int p3)], [.int 3, .int 1, .int 1, .ref 165])) rfl ?_
    apply xe_callq pg_143 103 [.int 1, .int 1, .int 3] (.inl (some (.int 1))) (14, [(0, .ref 165), (1, .int 0), (2, .int 1), (3, .int p2), (4, .int p3)], [.int 1, .ref 165]) rfl (fun _ => rfl)
    · refine xe_sn pg_103 4 (fr' := (6, [(0, .int 1), (1, .int 1), (2, .int 3)], [.int 1])) rfl ?_
      refine xe_sn pg_103 4 (fr' := (15, [(0, .int 1), (1, .int 1), (2, .int 3)], [.int 1])) rfl ?_
      exact xe_end pg_103 rfl
    refine xe_sn pg_143 4 (fr' := (25, [(0, .ref 165), (1, .int 0), (2, .int 1), (3, .int p2), (4, .int p3)], [.int 7, .int 0, .int p2, .ref 165])) rfl ?_
    apply xe_callq pg_143 103 [.int p2, .int 0, .int 7] (.inl (some (.int 0))) (28, [(0, .ref 165), (1, .int 0), (2, .int 1), (3, .int p2), (4, .int p3)], [.int 0, .ref 165]) rfl (fun _ => rfl)
    · refine xe_sn pg_103 2 (fr' := (2, [(0, .int p2), (1, .int 0), (2, .int 7)], [.int 0, .int p2])) rfl ?_
      refine xe_f2 pg_103 14 rfl rfl (by show ¬ ((p2).toInt < 0); omega) ?_
      refine xe_sn pg_103 2 (fr' := (7, [(0, .int p2), (1, .int 0), (2, .int 7)], [.int 7, .int p2])) rfl ?_
      refine xe_t2 pg_103 14 rfl rfl (by show 7 < (p2).toInt; omega) ?_
      refine xe_sn pg_103 1 (fr' := (15, [(0, .int p2), (1, .int 0), (2, .int 7)], [.int 0])) rfl ?_
      exact xe_end pg_103 rfl
    refine xe_sn pg_143 4 (fr' := (51, [(0, .ref 165), (1, .int 0), (2, .int 1), (3, .int p2), (4, .int p3)], [])) rfl ?_
    refine xe_sn pg_143 4 (fr' := (69, [(0, .ref 165), (1, .int 0), (2, .int 1), (3, .int p2), (4, .int p3)], [.int 0])) rfl ?_
    refine xe_sn pg_143 4 (fr' := (76, [(5, .int 0), (0, .ref 165), (1, .int 0), (2, .int 1), (3, .int p2), (4, .int p3)], [.int 2, .ref 165])) rfl ?_
    refine xe_sn pg_143 4 (fr' := (111, [(5, .int 0), (0, .ref 165), (1, .int 0), (2, .int 1), (3, .int p2), (4, .int p3)], [])) rfl ?_
    refine xe_sn pg_143 4 (fr' := (119, [(5, .int 0), (0, .ref 165), (1, .int 0), (2, .int 1), (3, .int p2), (4, .int p3)], [.int 0])) rfl ?_
    exact xe_end pg_143 rfl
  · exact ⟨⟨rfl, rfl, rfl, rfl⟩, Nat.le_of_ble_eq_true rfl, Nat.le_of_ble_eq_true rfl, rfl, fun q => absurd q (by decide)⟩

set_option maxRecDepth 100000 in
theorem lf_send_6 (xs : Nat → Int32) (p2 : Int32) (p3 : Int32) (a2 : 0 ≤ p2.toInt) (b2 : p2.toInt ≤ 7) (a3 : p3.toInt < 0) : op_ok xs 164 143 [.ref 0, .int 0, .int 1, .int p2, .int p3, .ref 189] [.ref 165, .int 0, .int 1, .int p2, .int p3] := by
  refine ⟨2, 0, ?_⟩
  apply Exists.intro
  apply Exists.intro
  apply And.intro
  · refine xe_sn pg_164 4 (fr' := (5, [(0, .ref 0), (1, .int 0), (2, .int 1), (3, .int p2), (4, .int p3), (5, .ref 189)], [.int 0, .ref 0, .int 0, .ref 189])) rfl ?_
    refine xe_sn pg_164 3 (fr' := (9, [(0, .ref 0), (1, .int 0), (2, .int 1), (3, .int p2), (4, .int p3), (5, .ref 189)], [.int p3, .int p2, .int 1, .int 0, .ref 0, .int 0, .ref 189])) rfl ?_
    apply xe_callq pg_164 77 [.ref 0, .int 0, .int 1, .int p2, .int p3] (.inr 1) (23, [(0, .ref 0), (1, .int 0), (2, .int 1), (3, .int p2), (4, .int p3), (5, .ref 189)], []) rfl (fun _ => rfl)
    · refine xe_sn pg_77 1 (fr' := (1, [(0, .ref 0), (1, .int 0), (2, .int 1), (3, .int p2), (4, .int p3)], [.int 0])) rfl ?_
      apply xe_callq pg_77 92 [.int 0] (.inl none) (4, [(0, .ref 0), (1, .int 0), (2, .int 1), (3, .int p2), (4, .int p3)], []) rfl (fun _ => rfl)
      · refine xe_sn pg_92 2 (fr' := (2, [(0, .int 0)], [.int 4, .int 0])) rfl ?_
        apply xe_callq pg_92 95 [.int 0, .int 4] (.inl none) (5, [(0, .int 0)], []) rfl (fun _ => rfl)
        · refine xe_sn pg_95 4 (fr' := (6, [(0, .int 0), (1, .int 4)], [.int 4, .int 0])) rfl ?_
          refine xe_sn pg_95 1 (fr' := (17, [(0, .int 0), (1, .int 4)], [])) rfl ?_
          exact xe_end pg_95 rfl
        exact xe_end pg_92 rfl
      refine xe_sn pg_77 1 (fr' := (5, [(0, .ref 0), (1, .int 0), (2, .int 1), (3, .int p2), (4, .int p3)], [.int 1])) rfl ?_
      apply xe_callq pg_77 94 [.int 1] (.inl none) (8, [(0, .ref 0), (1, .int 0), (2, .int 1), (3, .int p2), (4, .int p3)], []) rfl (fun _ => rfl)
      · refine xe_sn pg_94 1 (fr' := (1, [(0, .int 1)], [.int 1])) rfl ?_
        apply xe_callq pg_94 100 [.int 1] (.inl (some (.int 1))) (4, [(0, .int 1)], [.int 1]) rfl (fun _ => rfl)
        · refine xe_sn pg_100 4 (fr' := (6, [(0, .int 1)], [.int 1])) rfl ?_
          refine xe_sn pg_100 4 (fr' := (15, [(0, .int 1)], [.int 1])) rfl ?_
          exact xe_end pg_100 rfl
        refine xe_sn pg_94 1 (fr' := (15, [(0, .int 1)], [])) rfl ?_
        exact xe_end pg_94 rfl
      refine xe_sn pg_77 1 (fr' := (9, [(0, .ref 0), (1, .int 0), (2, .int 1), (3, .int p2), (4, .int p3)], [.int p2])) rfl ?_
      refine xe_f1 pg_77 22 rfl rfl (by show ¬ ((p2).toInt < 0); omega) ?_
      refine xe_sn pg_77 2 (fr' := (15, [(0, .ref 0), (1, .int 0), (2, .int 1), (3, .int p2), (4, .int p3)], [.int 7, .int p2])) rfl ?_
      refine xe_f2 pg_77 22 rfl rfl (by show ¬ (7 < (p2).toInt); omega) ?_
      refine xe_sn pg_77 2 (fr' := (23, [(0, .ref 0), (1, .int 0), (2, .int 1), (3, .int p2), (4, .int p3)], [.int 1])) rfl ?_
      apply xe_callq pg_77 97 [.int 1] (.inl none) (26, [(0, .ref 0), (1, .int 0), (2, .int 1), (3, .int p2), (4, .int p3)], []) rfl (fun _ => rfl)
      · refine xe_sn pg_97 2 (fr' := (12, [(0, .int 1)], [])) rfl ?_
        exact xe_end pg_97 rfl
      refine xe_sn pg_77 1 (fr' := (28, [(0, .ref 0), (1, .int 0), (2, .int 1), (3, .int p2), (4, .int p3)], [.int p3])) rfl ?_
      apply xe_callq pg_77 99 [.int p3] (.inl (some (.int 0))) (31, [(0, .ref 0), (1, .int 0), (2, .int 1), (3, .int p2), (4, .int p3)], [.int 0]) rfl (fun _ => rfl)
      · refine xe_sn pg_99 1 (fr' := (1, [(0, .int p3)], [.int p3])) rfl ?_
        refine xe_t1 pg_99 15 rfl rfl (by show (p3).toInt < 0; omega) ?_
        refine xe_sn pg_99 1 (fr' := (16, [(0, .int p3)], [.int 0])) rfl ?_
        exact xe_end pg_99 rfl
      apply xe_callqx pg_77 97 [.int 0] 1 rfl (fun _ => rfl)
      · refine xe_sn pg_97 2 (fr' := (4, [(0, .int 0)], [])) rfl ?_
        exact xe_end pg_97 rfl
    refine xe_sn pg_164 1 (fr' := (24, [(0, .ref 0), (1, .int 0), (2, .int 1), (3, .int p2), (4, .int p3), (5, .ref 189)], [.int 2])) rfl ?_
    exact xe_end pg_164 rfl
  refine And.intro ⟨rfl, rfl, rfl, rfl⟩ ?_
  apply And.intro
  · refine xe_sn pg_143 2 (fr' := (2, [(0, .ref 165), (1, .int 0), (2, .int 1), (3, .int p2), (4, .int p3)], [.int 0, .ref 165])) rfl ?_
    apply xe_callq pg_143 104 [.int 0] (.inl (some (.int 1))) (5, [(0, .ref 165), (1, .int 0), (2, .int 1), (3, .int p2), (4, .int p3)], [.int 1, .ref 165]) rfl (fun _ => rfl)
    · refine xe_sn pg_104 3 (fr' := (3, [(0, .int 0)], [.int 3, .int 0, .int 0])) rfl ?_
      apply xe_callq pg_104 103 [.int 0, .int 0, .int 3] (.inl (some (.int 1))) (6, [(0, .int 0)], [.int 1]) rfl (fun _ => rfl)
      · refine xe_sn pg_103 4 (fr' := (6, [(0, .int 0), (1, .int 0), (2, .int 3)], [.int 0])) rfl ?_
        refine xe_sn pg_103 4 (fr' := (15, [(0, .int 0), (1, .int 0), (2, .int 3)], [.int 1])) rfl ?_
        exact xe_end pg_103 rfl
      exact xe_end pg_104 rfl
    refine xe_sn pg_143 4 (fr' := (11, [(0, .ref 165), (1, .int 0), (2, .int 1), (3, .int p2), (4, .int p3)], [.int 3, .int 1, .int 1, .ref 165])) rfl ?_
    apply xe_callq pg_143 103 [.int 1, .int 1, .int 3] (.inl (some (.int 1))) (14, [(0, .ref 165), (1, .int 0), (2, .int 1), (3, .int p2), (4, .int p3)], [.int 1, .ref 165]) rfl (fun _ => rfl)
    · refine xe_sn pg_103 4 (fr' := (6, [(0, .int 1), (1, .int 1), (2, .int 3)], [.int 1])) rfl ?_
      refine xe_sn pg_103 4 (fr' := (15, [(0, .int 1), (1, .int 1), (2, .int 3)], [.int 1])) rfl ?_
      exact xe_end pg_103 rfl
    refine xe_sn pg_143 4 (fr' := (25, [(0, .ref 165), (1, .int 0), (2, .int 1), (3, .int p2), (4, .int p3)], [.int 7, .int 0, .int p2, .ref 165])) rfl ?_
    apply xe_callq pg_143 103 [.int p2, .int 0, .int 7] (.inl (some (.int 1))) (28, [(0, .ref 165), (1, .int 0), (2, .int 1), (3, .int p2), (4, .int p3)], [.int 1, .ref 165]) rfl (fun _ => rfl)
    · refine xe_sn pg_103 2 (fr' := (2, [(0, .int p2), (1, .int 0), (2, .int 7)], [.int 0, .int p2])) rfl ?_
      refine xe_f2 pg_103 14 rfl rfl (by show ¬ ((p2).toInt < 0); omega) ?_
      refine xe_sn pg_103 2 (fr' := (7, [(0, .int p2), (1, .int 0), (2, .int 7)], [.int 7, .int p2])) rfl ?_
      refine xe_f2 pg_103 14 rfl rfl (by show ¬ (7 < (p2).toInt); omega) ?_
      refine xe_sn pg_103 2 (fr' := (15, [(0, .int p2), (1, .int 0), (2, .int 7)], [.int 1])) rfl ?_
      exact xe_end pg_103 rfl
    refine xe_sn pg_143 4 (fr' := (37, [(0, .ref 165), (1, .int 0), (2, .int 1), (3, .int p2), (4, .int p3)], [.int 255, .int 0, .int p3, .ref 165])) rfl ?_
    apply xe_callq pg_143 103 [.int p3, .int 0, .int 255] (.inl (some (.int 0))) (40, [(0, .ref 165), (1, .int 0), (2, .int 1), (3, .int p2), (4, .int p3)], [.int 0, .ref 165]) rfl (fun _ => rfl)
    · refine xe_sn pg_103 2 (fr' := (2, [(0, .int p3), (1, .int 0), (2, .int 255)], [.int 0, .int p3])) rfl ?_
      refine xe_t2 pg_103 14 rfl rfl (by show (p3).toInt < 0; omega) ?_
      refine xe_sn pg_103 1 (fr' := (15, [(0, .int p3), (1, .int 0), (2, .int 255)], [.int 0])) rfl ?_
      exact xe_end pg_103 rfl
    refine xe_sn pg_143 4 (fr' := (51, [(0, .ref 165), (1, .int 0), (2, .int 1), (3, .int p2), (4, .int p3)], [])) rfl ?_
    refine xe_sn pg_143 4 (fr' := (69, [(0, .ref 165), (1, .int 0), (2, .int 1), (3, .int p2), (4, .int p3)], [.int 0])) rfl ?_
    refine xe_sn pg_143 4 (fr' := (76, [(5, .int 0), (0, .ref 165), (1, .int 0), (2, .int 1), (3, .int p2), (4, .int p3)], [.int 2, .ref 165])) rfl ?_
    refine xe_sn pg_143 4 (fr' := (111, [(5, .int 0), (0, .ref 165), (1, .int 0), (2, .int 1), (3, .int p2), (4, .int p3)], [])) rfl ?_
    refine xe_sn pg_143 4 (fr' := (119, [(5, .int 0), (0, .ref 165), (1, .int 0), (2, .int 1), (3, .int p2), (4, .int p3)], [.int 0])) rfl ?_
    exact xe_end pg_143 rfl
  · exact ⟨⟨rfl, rfl, rfl, rfl⟩, Nat.le_of_ble_eq_true rfl, Nat.le_of_ble_eq_true rfl, rfl, fun q => absurd q (by decide)⟩

set_option maxRecDepth 100000 in
theorem lf_send_7 (xs : Nat → Int32) (p2 : Int32) (p3 : Int32) (a2 : 0 ≤ p2.toInt) (b2 : p2.toInt ≤ 7) (b3 : 255 < p3.toInt) : op_ok xs 164 143 [.ref 0, .int 0, .int 1, .int p2, .int p3, .ref 189] [.ref 165, .int 0, .int 1, .int p2, .int p3] := by
  refine ⟨2, 0, ?_⟩
  apply Exists.intro
  apply Exists.intro
  apply And.intro
  · refine xe_sn pg_164 4 (fr' := (5, [(0, .ref 0), (1, .int 0), (2, .int 1), (3, .int p2), (4, .int p3), (5, .ref 189)], [.int 0, .ref 0, .int 0, .ref 189])) rfl ?_
    refine xe_sn pg_164 3 (fr' := (9, [(0, .ref 0), (1, .int 0), (2, .int 1), (3, .int p2), (4, .int p3), (5, .ref 189)], [.int p3, .int p2, .int 1, .int 0, .ref 0, .int 0, .ref 189])) rfl ?_
    apply xe_callq pg_164 77 [.ref 0, .int 0, .int 1, .int p2, .int p3] (.inr 1) (23, [(0, .ref 0), (1, .int 0), (2, .int 1), (3, .int p2), (4, .int p3), (5, .ref 189)], []) rfl (fun _ => rfl)
    · refine xe_sn pg_77 1 (fr' := (1, [(0, .ref 0), (1, .int 0), (2, .int 1), (3, .int p2), (4, .int p3)], [.int 0])) rfl ?_
      apply xe_callq pg_77 92 [.int 0] (.inl none) (4, [(0, .ref 0), (1, .int 0), (2, .int 1), (3, .int p2), (4, .int p3)], []) rfl (fun _ => rfl)
      · refine xe_sn pg_92 2 (fr' := (2, [(0, .int 0)], [.int 4, .int 0])) rfl ?_
        apply xe_callq pg_92 95 [.int 0, .int 4] (.inl none) (5, [(0, .int 0)], []) rfl (fun _ => rfl)
        · refine xe_sn pg_95 4 (fr' := (6, [(0, .int 0), (1, .int 4)], [.int 4, .int 0])) rfl ?_
          refine xe_sn pg_95 1 (fr' := (17, [(0, .int 0), (1, .int 4)], [])) rfl ?_
          exact xe_end pg_95 rfl
        exact xe_end pg_92 rfl
      refine xe_sn pg_77 1 (fr' := (5, [(0, .ref 0), (1, .int 0), (2, .int 1), (3, .int p2), (4, .int p3)], [.int 1])) rfl ?_
      apply xe_callq pg_77 94 [.int 1] (.inl none) (8, [(0, .ref 0), (1, .int 0), (2, .int 1), (3, .int p2), (4, .int p3)], []) rfl (fun _ => rfl)
      · refine xe_sn pg_94 1 (fr' := (1, [(0, .int 1)], [.int 1])) rfl ?_
        apply xe_callq pg_94 100 [.int 1] (.inl (some (.int 1))) (4, [(0, .int 1)], [.int 1]) rfl (fun _ => rfl)
        · refine xe_sn pg_100 4 (fr' := (6, [(0, .int 1)], [.int 1])) rfl ?_
          refine xe_sn pg_100 4 (fr' := (15, [(0, .int 1)], [.int 1])) rfl ?_
          exact xe_end pg_100 rfl
        refine xe_sn pg_94 1 (fr' := (15, [(0, .int 1)], [])) rfl ?_
        exact xe_end pg_94 rfl
      refine xe_sn pg_77 1 (fr' := (9, [(0, .ref 0), (1, .int 0), (2, .int 1), (3, .int p2), (4, .int p3)], [.int p2])) rfl ?_
      refine xe_f1 pg_77 22 rfl rfl (by show ¬ ((p2).toInt < 0); omega) ?_
      refine xe_sn pg_77 2 (fr' := (15, [(0, .ref 0), (1, .int 0), (2, .int 1), (3, .int p2), (4, .int p3)], [.int 7, .int p2])) rfl ?_
      refine xe_f2 pg_77 22 rfl rfl (by show ¬ (7 < (p2).toInt); omega) ?_
      refine xe_sn pg_77 2 (fr' := (23, [(0, .ref 0), (1, .int 0), (2, .int 1), (3, .int p2), (4, .int p3)], [.int 1])) rfl ?_
      apply xe_callq pg_77 97 [.int 1] (.inl none) (26, [(0, .ref 0), (1, .int 0), (2, .int 1), (3, .int p2), (4, .int p3)], []) rfl (fun _ => rfl)
      · refine xe_sn pg_97 2 (fr' := (12, [(0, .int 1)], [])) rfl ?_
        exact xe_end pg_97 rfl
      refine xe_sn pg_77 1 (fr' := (28, [(0, .ref 0), (1, .int 0), (2, .int 1), (3, .int p2), (4, .int p3)], [.int p3])) rfl ?_
      apply xe_callq pg_77 99 [.int p3] (.inl (some (.int 0))) (31, [(0, .ref 0), (1, .int 0), (2, .int 1), (3, .int p2), (4, .int p3)], [.int 0]) rfl (fun _ => rfl)
      · refine xe_sn pg_99 1 (fr' := (1, [(0, .int p3)], [.int p3])) rfl ?_
        refine xe_f1 pg_99 15 rfl rfl (by show ¬ ((p3).toInt < 0); omega) ?_
        refine xe_sn pg_99 2 (fr' := (8, [(0, .int p3)], [.int 255, .int p3])) rfl ?_
        refine xe_t2 pg_99 15 rfl rfl (by show 255 < (p3).toInt; omega) ?_
        refine xe_sn pg_99 1 (fr' := (16, [(0, .int p3)], [.int 0])) rfl ?_
        exact xe_end pg_99 rfl
      apply xe_callqx pg_77 97 [.int 0] 1 rfl (fun _ => rfl)
      · refine xe_sn pg_97 2 (fr' := (4, [(0, .int 0)], [])) rfl ?_
        exact xe_end pg_97 rfl
    refine xe_sn pg_164 1 (fr' := (24, [(0, .ref 0), (1, .int 0), (2, .int 1), (3, .int p2), (4, .int p3), (5, .ref 189)], [.int 2])) rfl ?_
    exact xe_end pg_164 rfl
  refine And.intro ⟨rfl, rfl, rfl, rfl⟩ ?_
  apply And.intro
  · refine xe_sn pg_143 2 (fr' := (2, [(0, .ref 165), (1, .int 0), (2, .int 1), (3, .int p2), (4, .int p3)], [.int 0, .ref 165])) rfl ?_
    apply xe_callq pg_143 104 [.int 0] (.inl (some (.int 1))) (5, [(0, .ref 165), (1, .int 0), (2, .int 1), (3, .int p2), (4, .int p3)], [.int 1, .ref 165]) rfl (fun _ => rfl)
    · refine xe_sn pg_104 3 (fr' := (3, [(0, .int 0)], [.int 3, .int 0, .int 0])) rfl ?_
      apply xe_callq pg_104 103 [.int 0, .int 0, .int 3] (.inl (some (.int 1))) (6, [(0, .int 0)], [.int 1]) rfl (fun _ => rfl)
      · refine xe_sn pg_103 4 (fr' := (6, [(0, .int 0), (1, .int 0), (2, .int 3)], [.int 0])) rfl ?_
        refine xe_sn pg_103 4 (fr' := (15, [(0, .int 0), (1, .int 0), (2, .int 3)], [.int 1])) rfl ?_
        exact xe_end pg_103 rfl
      exact xe_end pg_104 rfl
    refine xe_sn pg_143 4 (fr' := (11, [(0, .ref 165), (1, .int 0), (2, .int 1), (3, .int p2), (4, .int p3)], [.int 3, .int 1, .int 1, .ref 165])) rfl ?_
    apply xe_callq pg_143 103 [.int 1, .int 1, .int 3] (.inl (some (.int 1))) (14, [(0, .ref 165), (1, .int 0), (2, .int 1), (3, .int p2), (4, .int p3)], [.int 1, .ref 165]) rfl (fun _ => rfl)
    · refine xe_sn pg_103 4 (fr' := (6, [(0, .int 1), (1, .int 1), (2, .int 3)], [.int 1])) rfl ?_
      refine xe_sn pg_103 4 (fr' := (15, [(0, .int 1), (1, .int 1), (2, .int 3)], [.int 1])) rfl ?_
      exact xe_end pg_103 rfl
    refine xe_sn pg_143 4 (fr' := (25, [(0, .ref 165), (1, .int 0), (2, .int 1), (3, .int p2), (4, .int p3)], [.int 7, .int 0, .int p2, .ref 165])) rfl ?_
    apply xe_callq pg_143 103 [.int p2, .int 0, .int 7] (.inl (some (.int 1))) (28, [(0, .ref 165), (1, .int 0), (2, .int 1), (3, .int p2), (4, .int p3)], [.int 1, .ref 165]) rfl (fun _ => rfl)
    · refine xe_sn pg_103 2 (fr' := (2, [(0, .int p2), (1, .int 0), (2, .int 7)], [.int 0, .int p2])) rfl ?_
      refine xe_f2 pg_103 14 rfl rfl (by show ¬ ((p2).toInt < 0); omega) ?_
      refine xe_sn pg_103 2 (fr' := (7, [(0, .int p2), (1, .int 0), (2, .int 7)], [.int 7, .int p2])) rfl ?_
      refine xe_f2 pg_103 14 rfl rfl (by show ¬ (7 < (p2).toInt); omega) ?_
      refine xe_sn pg_103 2 (fr' := (15, [(0, .int p2), (1, .int 0), (2, .int 7)], [.int 1])) rfl ?_
      exact xe_end pg_103 rfl
    refine xe_sn pg_143 4 (fr' := (37, [(0, .ref 165), (1, .int 0), (2, .int 1), (3, .int p2), (4, .int p3)], [.int 255, .int 0, .int p3, .ref 165])) rfl ?_
    apply xe_callq pg_143 103 [.int p3, .int 0, .int 255] (.inl (some (.int 0))) (40, [(0, .ref 165), (1, .int 0), (2, .int 1), (3, .int p2), (4, .int p3)], [.int 0, .ref 165]) rfl (fun _ => rfl)
    · refine xe_sn pg_103 2 (fr' := (2, [(0, .int p3), (1, .int 0), (2, .int 255)], [.int 0, .int p3])) rfl ?_
      refine xe_f2 pg_103 14 rfl rfl (by show ¬ ((p3).toInt < 0); omega) ?_
      refine xe_sn pg_103 2 (fr' := (7, [(0, .int p3), (1, .int 0), (2, .int 255)], [.int 255, .int p3])) rfl ?_
      refine xe_t2 pg_103 14 rfl rfl (by show 255 < (p3).toInt; omega) ?_
      refine xe_sn pg_103 1 (fr' := (15, [(0, .int p3), (1, .int 0), (2, .int 255)], [.int 0])) rfl ?_
      exact xe_end pg_103 rfl
    refine xe_sn pg_143 4 (fr' := (51, [(0, .ref 165), (1, .int 0), (2, .int 1), (3, .int p2), (4, .int p3)], [])) rfl ?_
    refine xe_sn pg_143 4 (fr' := (69, [(0, .ref 165), (1, .int 0), (2, .int 1), (3, .int p2), (4, .int p3)], [.int 0])) rfl ?_
    refine xe_sn pg_143 4 (fr' := (76, [(5, .int 0), (0, .ref 165), (1, .int 0), (2, .int 1), (3, .int p2), (4, .int p3)], [.int 2, .ref 165])) rfl ?_
    refine xe_sn pg_143 4 (fr' := (111, [(5, .int 0), (0, .ref 165), (1, .int 0), (2, .int 1), (3, .int p2), (4, .int p3)], [])) rfl ?_
    refine xe_sn pg_143 4 (fr' := (119, [(5, .int 0), (0, .ref 165), (1, .int 0), (2, .int 1), (3, .int p2), (4, .int p3)], [.int 0])) rfl ?_
    exact xe_end pg_143 rfl
  · exact ⟨⟨rfl, rfl, rfl, rfl⟩, Nat.le_of_ble_eq_true rfl, Nat.le_of_ble_eq_true rfl, rfl, fun q => absurd q (by decide)⟩

set_option maxRecDepth 100000 in
theorem lf_send_8 (xs : Nat → Int32) (p2 : Int32) (p3 : Int32) (a2 : 0 ≤ p2.toInt) (b2 : p2.toInt ≤ 7) (a3 : 0 ≤ p3.toInt) (b3 : p3.toInt ≤ 255) : op_ok xs 164 143 [.ref 0, .int 0, .int 1, .int p2, .int p3, .ref 189] [.ref 165, .int 0, .int 1, .int p2, .int p3] := by
  refine ⟨3, 0, ?_⟩
  apply Exists.intro
  apply Exists.intro
  apply And.intro
  · refine xe_sn pg_164 4 (fr' := (5, [(0, .ref 0), (1, .int 0), (2, .int 1), (3, .int p2), (4, .int p3), (5, .ref 189)], [.int 0, .ref 0, .int 0, .ref 189])) rfl ?_
    refine xe_sn pg_164 3 (fr' := (9, [(0, .ref 0), (1, .int 0), (2, .int 1), (3, .int p2), (4, .int p3), (5, .ref 189)], [.int p3, .int p2, .int 1, .int 0, .ref 0, .int 0, .ref 189])) rfl ?_
    apply xe_callq pg_164 77 [.ref 0, .int 0, .int 1, .int p2, .int p3] (.inr 2) (27, [(0, .ref 0), (1, .int 0), (2, .int 1), (3, .int p2), (4, .int p3), (5, .ref 189)], []) rfl (fun _ => rfl)
    · refine xe_sn pg_77 1 (fr' := (1, [(0, .ref 0), (1, .int 0), (2, .int 1), (3, .int p2), (4, .int p3)], [.int 0])) rfl ?_
      apply xe_callq pg_77 92 [.int 0] (.inl none) (4, [(0, .ref 0), (1, .int 0), (2, .int 1), (3, .int p2), (4, .int p3)], []) rfl (fun _ => rfl)
      · refine xe_sn pg_92 2 (fr' := (2, [(0, .int 0)], [.int 4, .int 0])) rfl ?_
        apply xe_callq pg_92 95 [.int 0, .int 4] (.inl none) (5, [(0, .int 0)], []) rfl (fun _ => rfl)
        · refine xe_sn pg_95 4 (fr' := (6, [(0, .int 0), (1, .int 4)], [.int 4, .int 0])) rfl ?_
          refine xe_sn pg_95 1 (fr' := (17, [(0, .int 0), (1, .int 4)], [])) rfl ?_
          exact xe_end pg_95 rfl
        exact xe_end pg_92 rfl
      refine xe_sn pg_77 1 (fr' := (5, [(0, .ref 0), (1, .int 0), (2, .int 1), (3, .int p2), (4, .int p3)], [.int 1])) rfl ?_
      apply xe_callq pg_77 94 [.int 1] (.inl none) (8, [(0, .ref 0), (1, .int 0), (2, .int 1), (3, .int p2), (4, .int p3)], []) rfl (fun _ => rfl)
      · refine xe_sn pg_94 1 (fr' := (1, [(0, .int 1)], [.int 1])) rfl ?_
        apply xe_callq pg_94 100 [.int 1] (.inl (some (.int 1))) (4, [(0, .int 1)], [.int 1]) rfl (fun _ => rfl)
        · refine xe_sn pg_100 4 (fr' := (6, [(0, .int 1)], [.int 1])) rfl ?_
          refine xe_sn pg_100 4 (fr' := (15, [(0, .int 1)], [.int 1])) rfl ?_
          exact xe_end pg_100 rfl
        refine xe_sn pg_94 1 (fr' := (15, [(0, .int 1)], [])) rfl ?_
        exact xe_end pg_94 rfl
      refine xe_sn pg_77 1 (fr' := (9, [(0, .ref 0), (1, .int 0), (2, .int 1), (3, .int p2), (4, .int p3)], [.int p2])) rfl ?_
      refine xe_f1 pg_77 22 rfl rfl (by show ¬ ((p2).toInt < 0); omega) ?_
      refine xe_sn pg_77 2 (fr' := (15, [(0, .ref 0), (1, .int 0), (2, .int 1), (3, .int p2), (4, .int p3)], [.int 7, .int p2])) rfl ?_
      refine xe_f2 pg_77 22 rfl rfl (by show ¬ (7 < (p2).toInt); omega) ?_
      refine xe_sn pg_77 2 (fr' := (23, [(0, .ref 0), (1, .int 0), (2, .int 1), (3, .int p2), (4, .int p3)], [.int 1])) rfl ?_
      apply xe_callq pg_77 97 [.int 1] (.inl none) (26, [(0, .ref 0), (1, .int 0), (2, .int 1), (3, .int p2), (4, .int p3)], []) rfl (fun _ => rfl)
      · refine xe_sn pg_97 2 (fr' := (12, [(0, .int 1)], [])) rfl ?_
        exact xe_end pg_97 rfl
      refine xe_sn pg_77 1 (fr' := (28, [(0, .ref 0), (1, .int 0), (2, .int 1), (3, .int p2), (4, .int p3)], [.int p3])) rfl ?_
      apply xe_callq pg_77 99 [.int p3] (.inl (some (.int 1))) (31, [(0, .ref 0), (1, .int 0), (2, .int 1), (3, .int p2), (4, .int p3)], [.int 1]) rfl (fun _ => rfl)
      · refine xe_sn pg_99 1 (fr' := (1, [(0, .int p3)], [.int p3])) rfl ?_
        refine xe_f1 pg_99 15 rfl rfl (by show ¬ ((p3).toInt < 0); omega) ?_
        refine xe_sn pg_99 2 (fr' := (8, [(0, .int p3)], [.int 255, .int p3])) rfl ?_
        refine xe_f2 pg_99 15 rfl rfl (by show ¬ (255 < (p3).toInt); omega) ?_
        refine xe_sn pg_99 2 (fr' := (16, [(0, .int p3)], [.int 1])) rfl ?_
        exact xe_end pg_99 rfl
      apply xe_callq pg_77 97 [.int 1] (.inl none) (34, [(0, .ref 0), (1, .int 0), (2, .int 1), (3, .int p2), (4, .int p3)], []) rfl (fun _ => rfl)
      · refine xe_sn pg_97 2 (fr' := (12, [(0, .int 1)], [])) rfl ?_
        exact xe_end pg_97 rfl
      refine xe_sn pg_77 4 (fr' := (40, [(0, .ref 0), (1, .int 0), (2, .int 1), (3, .int p2), (4, .int p3)], [.ref 121])) rfl ?_
      refine xe_sn pg_77 4 (fr' := (46, [(0, .ref 0), (1, .int 0), (2, .int 1), (3, .int p2), (4, .int p3)], [.int 0, .ref 127])) rfl ?_
      refine xe_sn pg_77 4 (fr' := (54, [(5, .ref 129), (0, .ref 0), (1, .int 0), (2, .int 1), (3, .int p2), (4, .int p3)], [.int 0])) rfl ?_
      refine xe_sn pg_77 3 (fr' := (71, [(5, .ref 129), (0, .ref 0), (1, .int 0), (2, .int 1), (3, .int p2), (4, .int p3)], [.int 0])) rfl ?_
      apply xe_callqx pg_77 98 [.int 0] 2 rfl (fun _ => rfl)
      · refine xe_sn pg_98 2 (fr' := (4, [(0, .int 0)], [])) rfl ?_
        exact xe_end pg_98 rfl
    refine xe_sn pg_164 1 (fr' := (28, [(0, .ref 0), (1, .int 0), (2, .int 1), (3, .int p2), (4, .int p3), (5, .ref 189)], [.int 3])) rfl ?_
    exact xe_end pg_164 rfl
  refine And.intro ⟨rfl, rfl, rfl, rfl⟩ ?_
  apply And.intro
  · refine xe_sn pg_143 2 (fr' := (2, [(0, .ref 165), (1, .int 0), (2, .int 1), (3, .int p2), (4, .int p3)], [.int 0, .ref 165])) rfl ?_
    apply xe_callq pg_143 104 [.int 0] (.inl (some (.int 1))) (5, [(0, .ref 165), (1, .int 0), (2, .int 1), (3, .int p2), (4, .int p3)], [.int 1, .ref 165]) rfl (fun _ => rfl)
    · refine xe_sn pg_104 3 (fr' := (3, [(0, .int 0)], [.int 3, .int 0, .int 0])) rfl ?_
      apply xe_callq pg_104 103 [.int 0, .int 0, .int 3] (.inl (some (.int 1))) (6, [(0, .int 0)], [.int 1]) rfl (fun _ => rfl)
      · refine xe_sn pg_103 4 (fr' := (6, [(0, .int 0), (1, .int 0), (2, .int 3)], [.int 0])) rfl ?_
        refine xe_sn pg_103 4 (fr' := (15, [(0, .int 0), (1, .int 0), (2, .int 3)], [.int 1])) rfl ?_
        exact xe_end pg_103 rfl
      exact xe_end pg_104 rfl
    refine xe_sn pg_143 4 (fr' := (11, [(0, .ref 165), (1, .int 0), (2, .int 1), (3, .int p2), (4, .int p3)], [.int 3, .int 1, .int 1, .ref 165])) rfl ?_
    apply xe_callq pg_143 103 [.int 1, .int 1, .int 3] (.inl (some (.int 1))) (14, [(0, .ref 165), (1, .int 0), (2, .int 1), (3, .int p2), (4, .int p3)], [.int 1, .ref 165]) rfl (fun _ => rfl)
    · refine xe_sn pg_103 4 (fr' := (6, [(0, .int 1), (1, .int 1), (2, .int 3)], [.int 1])) rfl ?_
      refine xe_sn pg_103 4 (fr' := (15, [(0, .int 1), (1, .int 1), (2, .int 3)], [.int 1])) rfl ?_
      exact xe_end pg_103 rfl
    refine xe_sn pg_143 4 (fr' := (25, [(0, .ref 165), (1, .int 0), (2, .int 1), (3, .int p2), (4, .int p3)], [.int 7, .int 0, .int p2, .ref 165])) rfl ?_
    apply xe_callq pg_143 103 [.int p2, .int 0, .int 7] (.inl (some (.int 1))) (28, [(0, .ref 165), (1, .int 0), (2, .int 1), (3, .int p2), (4, .int p3)], [.int 1, .ref 165]) rfl (fun _ => rfl)
    · refine xe_sn pg_103 2 (fr' := (2, [(0, .int p2), (1, .int 0), (2, .int 7)], [.int 0, .int p2])) rfl ?_
      refine xe_f2 pg_103 14 rfl rfl (by show ¬ ((p2).toInt < 0); omega) ?_
      refine xe_sn pg_103 2 (fr' := (7, [(0, .int p2), (1, .int 0), (2, .int 7)], [.int 7, .int p2])) rfl ?_
      refine xe_f2 pg_103 14 rfl rfl (by show ¬ (7 < (p2).toInt); omega) ?_
      refine xe_sn pg_103 2 (fr' := (15, [(0, .int p2), (1, .int 0), (2, .int 7)], [.int 1])) rfl ?_
      exact xe_end pg_103 rfl
    refine xe_sn pg_143 4 (fr' := (37, [(0, .ref 165), (1, .int 0), (2, .int 1), (3, .int p2), (4, .int p3)], [.int 255, .int 0, .int p3, .ref 165])) rfl ?_
    apply xe_callq pg_143 103 [.int p3, .int 0, .int 255] (.inl (some (.int 1))) (40, [(0, .ref 165), (1, .int 0), (2, .int 1), (3, .int p2), (4, .int p3)], [.int 1, .ref 165]) rfl (fun _ => rfl)
    · refine xe_sn pg_103 2 (fr' := (2, [(0, .int p3), (1, .int 0), (2, .int 255)], [.int 0, .int p3])) rfl ?_
      refine xe_f2 pg_103 14 rfl rfl (by show ¬ ((p3).toInt < 0); omega) ?_
      refine xe_sn pg_103 2 (fr' := (7, [(0, .int p3), (1, .int 0), (2, .int 255)], [.int 255, .int p3])) rfl ?_
      refine xe_f2 pg_103 14 rfl rfl (by show ¬ (255 < (p3).toInt); omega) ?_
      refine xe_sn pg_103 2 (fr' := (15, [(0, .int p3), (1, .int 0), (2, .int 255)], [.int 1])) rfl ?_
      exact xe_end pg_103 rfl
    refine xe_sn pg_143 4 (fr' := (52, [(0, .ref 165), (1, .int 0), (2, .int 1), (3, .int p2), (4, .int p3)], [.ref 165])) rfl ?_
    refine xe_sn pg_143 4 (fr' := (60, [(0, .ref 165), (1, .int 0), (2, .int 1), (3, .int p2), (4, .int p3)], [.int 0, .int 3])) rfl ?_
    refine xe_sn pg_143 4 (fr' := (64, [(0, .ref 165), (1, .int 0), (2, .int 1), (3, .int p2), (4, .int p3)], [.int 1, .int 1])) rfl ?_
    refine xe_sn pg_143 4 (fr' := (72, [(5, .int 0), (0, .ref 165), (1, .int 0), (2, .int 1), (3, .int p2), (4, .int p3)], [.ref 165])) rfl ?_
    refine xe_sn pg_143 4 (fr' := (80, [(5, .int 0), (0, .ref 165), (1, .int 0), (2, .int 1), (3, .int p2), (4, .int p3)], [.ref 165, .ref 165])) rfl ?_
    refine xe_sn pg_143 4 (fr' := (87, [(5, .int 0), (0, .ref 165), (1, .int 0), (2, .int 1), (3, .int p2), (4, .int p3)], [.int 2, .int 0, .ref 165])) rfl ?_
    refine xe_sn pg_143 4 (fr' := (111, [(5, .int 0), (0, .ref 165), (1, .int 0), (2, .int 1), (3, .int p2), (4, .int p3)], [])) rfl ?_
    refine xe_sn pg_143 4 (fr' := (119, [(5, .int 0), (0, .ref 165), (1, .int 0), (2, .int 1), (3, .int p2), (4, .int p3)], [.int 0])) rfl ?_
    exact xe_end pg_143 rfl
  · exact ⟨⟨rfl, rfl, rfl, rfl⟩, Nat.le_of_ble_eq_true rfl, Nat.le_of_ble_eq_true rfl, rfl, fun q => absurd q (by decide)⟩

set_option maxRecDepth 100000 in
theorem lf_send_9 (xs : Nat → Int32) (p2 : Int32) (p3 : Int32) (a2 : p2.toInt < 0) : op_ok xs 164 143 [.ref 0, .int 0, .int 2, .int p2, .int p3, .ref 189] [.ref 165, .int 0, .int 2, .int p2, .int p3] := by
  refine ⟨2, 0, ?_⟩
  apply Exists.intro
  apply Exists.intro
  apply And.intro
  · refine xe_sn pg_164 4 (fr' := (5, [(0, .ref 0), (1, .int 0), (2, .int 2), (3, .int p2), (4, .int p3), (5, .ref 189)], [.int 0, .ref 0, .int 0, .ref 189])) rfl ?_
    refine xe_sn pg_164 3 (fr' := (9, [(0, .ref 0), (1, .int 0), (2, .int 2), (3, .int p2), (4, .int p3), (5, .ref 189)], [.int p3, .int p2, .int 2, .int 0, .ref 0, .int 0, .ref 189])) rfl ?_
    apply xe_callq pg_164 77 [.ref 0, .int 0, .int 2, .int p2, .int p3] (.inr 1) (23, [(0, .ref 0), (1, .int 0), (2, .int 2), (3, .int p2), (4, .int p3), (5, .ref 189)], []) rfl (fun _ => rfl)
    · refine xe_sn pg_77 1 (fr' := (1, [(0, .ref 0), (1, .int 0), (2, .int 2), (3, .int p2), (4, .int p3)], [.int 0])) rfl ?_
      apply xe_callq pg_77 92 [.int 0] (.inl none) (4, [(0, .ref 0), (1, .int 0), (2, .int 2), (3, .int p2), (4, .int p3)], []) rfl (fun _ => rfl)
      · refine xe_sn pg_92 2 (fr' := (2, [(0, .int 0)], [.int 4, .int 0])) rfl ?_
        apply xe_callq pg_92 95 [.int 0, .int 4] (.inl none) (5, [(0, .int 0)], []) rfl (fun _ => rfl)
        · refine xe_sn pg_95 4 (fr' := (6, [(0, .int 0), (1, .int 4)], [.int 4, .int 0])) rfl ?_
          refine xe_sn pg_95 1 (fr' := (17, [(0, .int 0), (1, .int 4)], [])) rfl ?_
          exact xe_end pg_95 rfl
        exact xe_end pg_92 rfl
      refine xe_sn pg_77 1 (fr' := (5, [(0, .ref 0), (1, .int 0), (2, .int 2), (3, .int p2), (4, .int p3)], [.int 2])) rfl ?_
      apply xe_callq pg_77 94 [.int 2] (.inl none) (8, [(0, .ref 0), (1, .int 0), (2, .int 2), (3, .int p2), (4, .int p3)], []) rfl (fun _ => rfl)
      · refine xe_sn pg_94 1 (fr' := (1, [(0, .int 2)], [.int 2])) rfl ?_
        apply xe_callq pg_94 100 [.int 2] (.inl (some (.int 1))) (4, [(0, .int 2)], [.int 1]) rfl (fun _ => rfl)
        · refine xe_sn pg_100 4 (fr' := (6, [(0, .int 2)], [.int 2])) rfl ?_
          refine xe_sn pg_100 4 (fr' := (15, [(0, .int 2)], [.int 1])) rfl ?_
          exact xe_end pg_100 rfl
        refine xe_sn pg_94 1 (fr' := (15, [(0, .int 2)], [])) rfl ?_
        exact xe_end pg_94 rfl
      refine xe_sn pg_77 1 (fr' := (9, [(0, .ref 0), (1, .int 0), (2, .int 2), (3, .int p2), (4, .int p3)], [.int p2])) rfl ?_
      refine xe_t1 pg_77 22 rfl rfl (by show (p2).toInt < 0; omega) ?_
      refine xe_sn pg_77 1 (fr' := (23, [(0, .ref 0), (1, .int 0), (2, .int 2), (3, .int p2), (4, .int p3)], [.int 0])) rfl ?_
      apply xe_callqx pg_77 97 [.int 0] 1 rfl (fun _ => rfl)
      · refine xe_sn pg_97 2 (fr' := (4, [(0, .int 0)], [])) rfl ?_
        exact xe_end pg_97 rfl
    refine xe_sn pg_164 1 (fr' := (24, [(0, .ref 0), (1, .int 0), (2, .int 2), (3, .int p2), (4, .int p3), (5, .ref 189)], [.int 2])) rfl ?_
    exact xe_end pg_164 rfl
  refine And.intro ⟨rfl, rfl, rfl, rfl⟩ ?_
  apply And.intro
  · refine xe_sn pg_143 2 (fr' := (2, [(0, .ref 165), (1, .int 0), (2, .int 2), (3, .int p2), (4, .int p3)], [.int 0, .ref 165])) rfl ?_
    apply xe_callq pg_143 104 [.int 0] (.inl (some (.int 1))) (5, [(0, .ref 165), (1, .int 0), (2, .int 2), (3, .int p2), (4, .int p3)], [.int 1, .ref 165]) rfl (fun _ => rfl)
    · refine xe_sn pg_104 3 (fr' := (3, [(0, .int 0)], [.int 3, .int 0, .int 0])) rfl ?_
      apply xe_callq pg_104 103 [.int 0, .int 0, .int 3] (.inl (some (.int 1))) (6, [(0, .int 0)], [.int 1]) rfl (fun _ => rfl)
      · refine xe_sn pg_103 4 (fr' := (6, [(0, .int 0), (1, .int 0), (2, .int 3)], [.int 0])) rfl ?_
        refine xe_sn pg_103 4 (fr' := (15, [(0, .int 0), (1, .int 0), (2, .int 3)], [.int 1])) rfl ?_
        exact xe_end pg_103 rfl
      exact xe_end pg_104 rfl
    refine xe_sn pg_143 4 (fr' := (11, [(0, .ref 165), (1, .int 0), (2, .int 2), (3, .int p2), (4, .int p3)], [.int 3, .int 1, .int 2, .ref 165])) rfl ?_
    apply xe_callq pg_143 103 [.int 2, .int 1, .int 3] (.inl (some (.int 1))) (14, [(0, .ref 165), (1, .int 0), (2, .int 2), (3, .int p2), (4, .int p3)], [.int 1, .ref 165]) rfl (fun _ => rfl)
    · refine xe_sn pg_103 4 (fr' := (6, [(0, .int 2), (1, .int 1), (2, .int 3)], [.int 2])) rfl ?_
      refine xe_sn pg_103 4 (fr' := (15, [(0, .int 2), (1, .int 1), (2, .int 3)], [.int 1])) rfl ?_
      exact xe_end pg_103 rfl
    refine xe_sn pg_143 4 (fr' := (25, [(0, .ref 165), (1, .int 0), (2, .int 2), (3, .int p2), (4, .int p3)], [.int 7, .int 0, .int p2, .ref 165])) rfl ?_
    apply xe_callq pg_143 103 [.int p2, .int 0, .int 7] (.inl (some (.int 0))) (28, [(0, .ref 165), (1, .int 0), (2, .int 2), (3, .int p2), (4, .int p3)], [.int 0, .ref 165]) rfl (fun _ => rfl)
    · refine xe_sn pg_103 2 (fr' := (2, [(0, .int p2), (1, .int 0), (2, .int 7)], [.int 0, .int p2])) rfl ?_
      refine xe_t2 pg_103 14 rfl rfl (by show (p2).toInt < 0; omega) ?_
      refine xe_sn pg_103 1 (fr' := (15, [(0, .int p2), (1, .int 0), (2, .int 7)], [.int 0])) rfl ?_
      exact xe_end pg_103 rfl
    refine xe_sn pg_143 4 (fr' := (51, [(0, .ref 165), (1, .int 0), (2, .int 2), (3, .int p2), (4, .int p3)], [])) rfl ?_
    refine xe_sn pg_143 4 (fr' := (69, [(0, .ref 165), (1, .int 0), (2, .int 2), (3, .int p2), (4, .int p3)], [.int 0])) rfl ?_
    refine xe_sn pg_143 4 (fr' := (76, [(5, .int 0), (0, .ref 165), (1, .int 0), (2, .int 2), (3, .int p2), (4, .int p3)], [.int 2, .ref 165])) rfl ?_
    refine xe_sn pg_143 4 (fr' := (111, [(5, .int 0), (0, .ref 165), (1, .int 0), (2, .int 2), (3, .int p2), (4, .int p3)], [])) rfl ?_
    refine xe_sn pg_143 4 (fr' := (119, [(5, .int 0), (0, .ref 165), (1, .int 0), (2, .int 2), (3, .int p2), (4, .int p3)], [.int 0])) rfl ?_
    exact xe_end pg_143 rfl
  · exact ⟨⟨rfl, rfl, rfl, rfl⟩, Nat.le_of_ble_eq_true rfl, Nat.le_of_ble_eq_true rfl, rfl, fun q => absurd q (by decide)⟩

set_option maxRecDepth 100000 in
theorem lf_send_10 (xs : Nat → Int32) (p2 : Int32) (p3 : Int32) (b2 : 7 < p2.toInt) : op_ok xs 164 143 [.ref 0, .int 0, .int 2, .int p2, .int p3, .ref 189] [.ref 165, .int 0, .int 2, .int p2, .int p3] := by
  refine ⟨2, 0, ?_⟩
  apply Exists.intro
  apply Exists.intro
  apply And.intro
  · refine xe_sn pg_164 4 (fr' := (5, [(0, .ref 0), (1, .int 0), (2, .int 2), (3, .int p2), (4, .int p3), (5, .ref 189)], [.int 0, .ref 0, .int 0, .ref 189])) rfl ?_
    refine xe_sn pg_164 3 (fr' := (9, [(0, .ref 0), (1, .int 0), (2, .int 2), (3, .int p2), (4, .int p3), (5, .ref 189)], [.int p3, .int p2, .int 2, .int 0, .ref 0, .int 0, .ref 189])) rfl ?_
    apply xe_callq pg_164 77 [.ref 0, .int 0, .int 2, .int p2, .int p3] (.inr 1) (23, [(0, .ref 0), (1, .int 0), (2, .int 2), (3, .int p2), (4, .int p3), (5, .ref 189)], []) rfl (fun _ => rfl)
    · refine xe_sn pg_77 1 (fr' := (1, [(0, .ref 0), (1, .int 0), (2, .int 2), (3, .int p2), (4, .int p3)], [.int 0])) rfl ?_
      apply xe_callq pg_77 92 [.int 0] (.inl none) (4, [(0, .ref 0), (1, .int 0), (2, .int 2), (3, .int p2), (4, .int p3)], []) rfl (fun _ => rfl)
      · refine xe_sn pg_92 2 (fr' := (2, [(0, .int 0)], [.int 4, .int 0])) rfl ?_
        apply xe_callq pg_92 95 [.int 0, .int 4] (.inl none) (5, [(0, .int 0)], []) rfl (fun _ => rfl)
        · refine xe_sn pg_95 4 (fr' := (6, [(0, .int 0), (1, .int 4)], [.int 4, .int 0])) rfl ?_
          refine xe_sn pg_95 1 (fr' := (17, [(0, .int 0), (1, .int 4)], [])) rfl ?_
          exact xe_end pg_95 rfl
        exact xe_end pg_92 rfl
      refine xe_sn pg_77 1 (fr' := (5, [(0, .ref 0), (1, .int 0), (2, .int 2), (3, .int p2), (4, .int p3)], [.int 2])) rfl ?_
      apply xe_callq pg_77 94 [.int 2] (.inl none) (8, [(0, .ref 0), (1, .int 0), (2, .int 2), (3, .int p2), (4, .int p3)], []) rfl (fun _ => rfl)
      · refine xe_sn pg_94 1 (fr' := (1, [(0, .int 2)], [.int 2])) rfl ?_
        apply xe_callq pg_94 100 [.int 2] (.inl (some (.int 1))) (4, [(0, .int 2)], [.int 1]) rfl (fun _ => rfl)
        · refine xe_sn pg_100 4 (fr' := (6, [(0, .int 2)], [.int 2])) rfl ?_
          refine xe_sn pg_100 4 (fr' := (15, [(0, .int 2)], [.int 1])) rfl ?_
          exact xe_end pg_100 rfl
        refine xe_sn pg_94 1 (fr' := (15, [(0, .int 2)], [])) rfl ?_
        exact xe_end pg_94 rfl
      refine xe_sn pg_77 1 (fr' := (9, [(0, .ref 0), (1, .int 0), (2, .int 2), (3, .int p2), (4, .int p3)], [.int p2])) rfl ?_
      refine xe_f1 pg_77 22 rfl rfl (by show ¬ ((p2).toInt < 0); omega) ?_
      refine xe_sn pg_77 2 (fr' := (15, [(0, .ref 0), (1, .int 0), (2, .int 2), (3, .int p2), (4, .int p3)], [.int 7, .int p2])) rfl ?_
      refine xe_t2 pg_77 22 rfl rfl (by show 7 < (p2).toInt; omega) ?_
      refine xe_sn pg_77 1 (fr' := (23, [(0, .ref 0), (1, .int 0), (2, .int 2), (3, .int p2), (4, .int p3)], [.int 0])) rfl ?_
      apply xe_callqx pg_77 97 [.int 0] 1 rfl (fun _ => rfl)
      · refine xe_sn pg_97 2 (fr' := (4, [(0, .int 0)], [])) rfl ?_
        exact xe_end pg_97 rfl
    refine xe_sn pg_164 1 (fr' := (24, [(0, .ref 0), (1, .int 0), (2, .int 2), (3, .int p2), (4, .int p3), (5, .ref 189)], [.int 2])) rfl ?_
    exact xe_end pg_164 rfl
  refine And.intro ⟨rfl, rfl, rfl, rfl⟩ ?_
  apply And.intro
  · refine xe_sn pg_143 2 (fr' := (2, [(0, .ref 165), (1, .int 0), (2, .int 2), (3, .int p2), (4, .int p3)], [.int 0, .ref 165])) rfl ?_
    apply xe_callq pg_143 104 [.int 0] (.inl (some (.int 1))) (5, [(0, .ref 165), (1, .int 0), (2, .int 2), (3, .int p2), (4, .int p3)], [.int 1, .ref 165]) rfl (fun _ => rfl)
    · refine xe_sn pg_104 3 (fr' := (3, [(0, .int 0)], [.int 3, .int 0, .int 0])) rfl ?_
      apply xe_callq pg_104 103 [.int 0, .int 0, .int 3] (.inl (some (.int 1))) (6, [(0, .int 0)], [.int 1]) rfl (fun _ => rfl)
      · refine xe_sn pg_103 4 (fr' := (6, [(0, .int 0), (1, .int 0), (2, .int 3)], [.int 0])) rfl ?_
        refine xe_sn pg_103 4 (fr' := (15, [(0, .int 0), (1, .int 0), (2, .int 3)], [.int 1])) rfl ?_
        exact xe_end pg_103 rfl
      exact xe_end pg_104 rfl
    refine xe_sn pg_143 4 (fr' := (11, [(0, .ref 165), (1, .int 0), (2, .int 2), (3, .int p2), (4, .int p3)], [.int 3, .int 1, .int 2, .ref 165])) rfl ?_
    apply xe_callq pg_143 103 [.int 2, .int 1, .int 3] (.inl (some (.int 1))) (14, [(0, .ref 165), (1, .int 0), (2, .int 2), (3, .int p2), (4, .int p3)], [.int 1, .ref 165]) rfl (fun _ => rfl)
    · refine xe_sn pg_103 4 (fr' := (6, [(0, .int 2), (1, .int 1), (2, .int 3)], [.int 2])) rfl ?_
      refine xe_sn pg_103 4 (fr' := (15, [(0, .int 2), (1, .int 1), (2, .int 3)], [.int 1])) rfl ?_
      exact xe_end pg_103 rfl
    refine xe_sn pg_143 4 (fr' := (25, [(0, .ref 165), (1, .int 0), (2, .int 2), (3, .int p2), (4, .int p3)], [.int 7, .int 0, .int p2, .ref 165])) rfl ?_
    apply xe_callq pg_143 103 [.int p2, .int 0, .int 7] (.inl (some (.int 0))) (28, [(0, .ref 165), (1, .int 0), (2, .int 2), (3, .int p2), (4, .int p3)], [.int 0, .ref 165]) rfl (fun _ => rfl)
    · refine xe_sn pg_103 2 (fr' := (2, [(0, .int p2), (1, .int 0), (2, .int 7)], [.int 0, .int p2])) rfl ?_
      refine xe_f2 pg_103 14 rfl rfl (by show ¬ ((p2).toInt < 0); omega) ?_
      refine xe_sn pg_103 2 (fr' := (7, [(0, .int p2), (1, .int 0), (2, .int 7)], [.int 7, .int p2])) rfl ?_
      refine xe_t2 pg_103 14 rfl rfl (by show 7 < (p2).toInt; omega) ?_
      refine xe_sn pg_103 1 (fr' := (15, [(0, .int p2), (1, .int 0), (2, .int 7)], [.int 0])) rfl ?_
      exact xe_end pg_103 rfl
    refine xe_sn pg_143 4 (fr' := (51, [(0, .ref 165), (1, .int 0), (2, .int 2), (3, .int p2), (4, .int p3)], [])) rfl ?_
    refine xe_sn pg_143 4 (fr' := (69, [(0, .ref 165), (1, .int 0), (2, .int 2), (3, .int p2), (4, .int p3)], [.int 0])) rfl ?_
    refine xe_sn pg_143 4 (fr' := (76, [(5, .int 0), (0, .ref 165), (1, .int 0), (2, .int 2), (3, .int p2), (4, .int p3)], [.int 2, .ref 165])) rfl ?_
    refine xe_sn pg_143 4 (fr' := (111, [(5, .int 0), (0, .ref 165), (1, .int 0), (2, .int 2), (3, .int p2), (4, .int p3)], [])) rfl ?_
    refine xe_sn pg_143 4 (fr' := (119, [(5, .int 0), (0, .ref 165), (1, .int 0), (2, .int 2), (3, .int p2), (4, .int p3)], [.int 0])) rfl ?_
    exact xe_end pg_143 rfl
  · exact ⟨⟨rfl, rfl, rfl, rfl⟩, Nat.le_of_ble_eq_true rfl, Nat.le_of_ble_eq_true rfl, rfl, fun q => absurd q (by decide)⟩

set_option maxRecDepth 100000 in
theorem lf_send_11 (xs : Nat → Int32) (p2 : Int32) (p3 : Int32) (a2 : 0 ≤ p2.toInt) (b2 : p2.toInt ≤ 7) (a3 : p3.toInt < 0) : op_ok xs 164 143 [.ref 0, .int 0, .int 2, .int p2, .int p3, .ref 189] [.ref 165, .int 0, .int 2, .int p2, .int p3] := by
  refine ⟨2, 0, ?_⟩
  apply Exists.intro
  apply Exists.intro
  apply And.intro
  · refine xe_sn pg_164 4 (fr' := (5, [(0, .ref 0), (1, .int 0), (2, .int 2), (3, .int p2), (4, .int p3), (5, .ref 189)], [.int 0, .ref 0, .int 0, .ref 189])) rfl ?_
    refine xe_sn pg_164 3 (fr' := (9, [(0, .ref 0), (1, .int 0), (2, .int 2), (3, .int p2), (4, .int p3), (5, .ref 189)], [.int p3, .int p2, .int 2, .int 0, .ref 0, .int 0, .ref 189])) rfl ?_
    apply xe_callq pg_164 77 [.ref 0, .int 0, .int 2, .int p2, .int p3] (.inr 1) (23, [(0, .ref 0), (1, .int 0), (2, .int 2), (3, .int p2), (4, .int p3), (5, .ref 189)], []) rfl (fun _ => rfl)
    · refine xe_sn pg_77 1 (fr' := (1, [(0, .ref 0), (1, .int 0), (2, .int 2), (3, .int p2), (4, .int p3)], [.int 0])) rfl ?_
      apply xe_callq pg_77 92 [.int 0] (.inl none) (4, [(0, .ref 0), (1, .int 0), (2, .int 2), (3, .int p2), (4, .int p3)], []) rfl (fun _ => rfl)
      · refine xe_sn pg_92 2 (fr' := (2, [(0, .int 0)], [.int 4, .int 0])) rfl ?_
        apply xe_callq pg_92 95 [.int 0, .int 4] (.inl none) (5, [(0, .int 0)], []) rfl (fun _ => rfl)
        · refine xe_sn pg_95 4 (fr' := (6, [(0, .int 0), (1, .int 4)], [.int 4, .int 0])) rfl ?_
          refine xe_sn pg_95 1 (fr' := (17, [(0, .int 0), (1, .int 4)], [])) rfl ?_
          exact xe_end pg_95 rfl
        exact xe_end pg_92 rfl
      refine xe_sn pg_77 1 (fr' := (5, [(0, .ref 0), (1, .int 0), (2, .int 2), (3, .int p2), (4, .int p3)], [.int 2])) rfl ?_
      apply xe_callq pg_77 94 [.int 2] (.inl none) (8, [(0, .ref 0), (1, .int 0), (2, .int 2), (3, .int p2), (4, .int p3)], []) rfl (fun _ => rfl)
      · refine xe_sn pg_94 1 (fr' := (1, [(0, .int 2)], [.int 2])) rfl ?_
        apply xe_callq pg_94 100 [.int 2] (.inl (some (.int 1))) (4, [(0, .int 2)], [.int 1]) rfl (fun _ => rfl)
        · refine xe_sn pg_100 4 (fr' := (6, [(0, .int 2)], [.int 2])) rfl ?_
          refine xe_sn pg_100 4 (fr' := (15, [(0, .int 2)], [.int 1])) rfl ?_
          exact xe_end pg_100 rfl
        refine xe_sn pg_94 1 (fr' := (15, [(0, .int 2)], [])) rfl ?_
        exact xe_end pg_94 rfl
      refine xe_sn pg_77 1 (fr' := (9, [(0, .ref 0), (1, .int 0), (2, .int 2), (3, .int p2), (4, .int p3)], [.int p2])) rfl ?_
      refine xe_f1 pg_77 22 rfl rfl (by show ¬ ((p2).toInt < 0); omega) ?_
      refine xe_sn pg_77 2 (fr' := (15, [(0, .ref 0), (1, .int 0), (2, .int 2), (3, .int p2), (4, .int p3)], [.int 7, .int p2])) rfl ?_
      refine xe_f2 pg_77 22 rfl rfl (by show ¬ (7 < (p2).toInt); omega) ?_
      refine xe_sn pg_77 2 (fr' := (23, [(0, .ref 0), (1, .int 0), (2, .int 2), (3, .int p2), (4, .int p3)], [.int 1])) rfl ?_
      apply xe_callq pg_77 97 [.int 1] (.inl none) (26, [(0, .ref 0), (1, .int 0), (2, .int 2), (3, .int p2), (4, .int p3)], []) rfl (fun _ => rfl)
      · refine xe_sn pg_97 2 (fr' := (12, [(0, .int 1)], [])) rfl ?_
        exact xe_end pg_97 rfl
      refine xe_sn pg_77 1 (fr' := (28, [(0, .ref 0), (1, .int 0), (2, .int 2), (3, .int p2), (4, .int p3)], [.int p3])) rfl ?_
      apply xe_callq pg_77 99 [.int p3] (.inl (some (.int 0))) (31, [(0, .ref 0), (1, .int 0), (2, .int 2), (3, .int p2), (4, .int p3)], [.int 0]) rfl (fun _ => rfl)
      · refine xe_sn pg_99 1 (fr' := (1, [(0, .int p3)], [.int p3])) rfl ?_
        refine xe_t1 pg_99 15 rfl rfl (by show (p3).toInt < 0; omega) ?_
        refine xe_sn pg_99 1 (fr' := (16, [(0, .int p3)], [.int 0])) rfl ?_
        exact xe_end pg_99 rfl
      apply xe_callqx pg_77 97 [.int 0] 1 rfl (fun _ => rfl)
      · refine xe_sn pg_97 2 (fr' := (4, [(0, .int 0)], [])) rfl ?_
        exact xe_end pg_97 rfl
    refine xe_sn pg_164 1 (fr' := (24, [(0, .ref 0), (1, .int 0), (2, .int 2), (3, .int p2), (4, .int p3), (5, .ref 189)], [.int 2])) rfl ?_
    exact xe_end pg_164 rfl
  refine And.intro ⟨rfl, rfl, rfl, rfl⟩ ?_
  apply And.intro
  · refine xe_sn pg_143 2 (fr' := (2, [(0, .ref 165), (1, .int 0), (2, .int 2), (3, .int p2), (4, .int p3)], [.int 0, .ref 165])) rfl ?_
    apply xe_callq pg_143 104 [.int 0] (.inl (some (.int 1))) (5, [(0, .ref 165), (1, .int 0), (2, .int 2), (3, .int p2), (4, .int p3)], [.int 1, .ref 165]) rfl (fun _ => rfl)
    · refine xe_sn pg_104 3 (fr' := (3, [(0, .int 0)], [.int 3, .int 0, .int 0])) rfl ?_
      apply xe_callq pg_104 103 [.int 0, .int 0, .int 3] (.inl (some (.int 1))) (6, [(0, .int 0)], [.int 1]) rfl (fun _ => rfl)
      · refine xe_sn pg_103 4 (fr' := (6, [(0, .int 0), (1, .int 0), (2, .int 3)], [.int 0])) rfl ?_
        refine xe_sn pg_103 4 (fr' := (15, [(0, .int 0), (1, .int 0), (2, .int 3)], [.int 1])) rfl ?_
        exact xe_end pg_103 rfl
      exact xe_end pg_104 rfl
    refine xe_sn pg_143 4 (fr' := (11, [(0, .ref 165), (1, .int 0), (2, .int 2), (3, .int p2), (4, .int p3)], [.int 3, .int 1, .int 2, .ref 165])) rfl ?_
    apply xe_callq pg_143 103 [.int 2, .int 1, .int 3] (.inl (some (.int 1))) (14, [(0, .ref 165), (1, .int 0), (2, .int 2), (3, .int p2), (4, .int p3)], [.int 1, .ref 165]) rfl (fun _ => rfl)
    · refine xe_sn pg_103 4 (fr' := (6, [(0, .int 2), (1, .int 1), (2, .int 3)], [.int 2])) rfl ?_
      refine xe_sn pg_103 4 (fr' := (15, [(0, .int 2), (1, .int 1), (2, .int 3)], [.int 1])) rfl ?_
      exact xe_end pg_103 rfl
    refine xe_sn pg_143 4 (fr' := (25, [(0, .ref 165), (1, .int 0), (2, .int 2), (3, .int p2), (4, .int p3)], [.int 7, .int 0, .int p2, .ref 165])) rfl ?_
    apply xe_callq pg_143 103 [.int p2, .int 0, .int 7] (.inl (some (.int 1))) (28, [(0, .ref 165), (1, .int 0), (2, .int 2), (3, .int p2), (4, .int p3)], [.int 1, .ref 165]) rfl (fun _ => rfl)
    · refine xe_sn pg_103 2 (fr' := (2, [(0, .int p2), (1, .int 0), (2, .int 7)], [.int 0, .int p2])) rfl ?_
      refine xe_f2 pg_103 14 rfl rfl (by show ¬ ((p2).toInt < 0); omega) ?_
      refine xe_sn pg_103 2 (fr' := (7, [(0, .int p2), (1, .int 0), (2, .int 7)], [.int 7, .int p2])) rfl ?_
      refine xe_f2 pg_103 14 rfl rfl (by show ¬ (7 < (p2).toInt); omega) ?_
      refine xe_sn pg_103 2 (fr' := (15, [(0, .int p2), (1, .int 0), (2, .int 7)], [.int 1])) rfl ?_
      exact xe_end pg_103 rfl
    refine xe_sn pg_143 4 (fr' := (37, [(0, .ref 165), (1, .int 0), (2, .int 2), (3, .int p2), (4, .int p3)], [.int 255, .int 0, .int p3, .ref 165])) rfl ?_
    apply xe_callq pg_143 103 [.int p3, .int 0, .int 255] (.inl (some (.int 0))) (40, [(0, .ref 165), (1, .int 0), (2, .int 2), (3, .int p2), (4, .int p3)], [.int 0, .ref 165]) rfl (fun _ => rfl)
    · refine xe_sn pg_103 2 (fr' := (2, [(0, .int p3), (1, .int 0), (2, .int 255)], [.int 0, .int p3])) rfl ?_
      refine xe_t2 pg_103 14 rfl rfl (by show (p3).toInt < 0; omega) ?_
      refine xe_sn pg_103 1 (fr' := (15, [(0, .int p3), (1, .int 0), (2, .int 255)], [.int 0])) rfl ?_
      exact xe_end pg_103 rfl
    refine xe_sn pg_143 4 (fr' := (51, [(0, .ref 165), (1, .int 0), (2, .int 2), (3, .int p2), (4, .int p3)], [])) rfl ?_
    refine xe_sn pg_143 4 (fr' := (69, [(0, .ref 165), (1, .int 0), (2, .int 2), (3, .int p2), (4, .int p3)], [.int 0])) rfl ?_
    refine xe_sn pg_143 4 (fr' := (76, [(5, .int 0), (0, .ref 165), (1, .int 0), (2, .int 2), (3, .int p2), (4, .int p3)], [.int 2, .ref 165])) rfl ?_
    refine xe_sn pg_143 4 (fr' := (111, [(5, .int 0), (0, .ref 165), (1, .int 0), (2, .int 2), (3, .int p2), (4, .int p3)], [])) rfl ?_
    refine xe_sn pg_143 4 (fr' := (119, [(5, .int 0), (0, .ref 165), (1, .int 0), (2, .int 2), (3, .int p2), (4, .int p3)], [.int 0])) rfl ?_
    exact xe_end pg_143 rfl
  · exact ⟨⟨rfl, rfl, rfl, rfl⟩, Nat.le_of_ble_eq_true rfl, Nat.le_of_ble_eq_true rfl, rfl, fun q => absurd q (by decide)⟩

set_option maxRecDepth 100000 in
theorem lf_send_12 (xs : Nat → Int32) (p2 : Int32) (p3 : Int32) (a2 : 0 ≤ p2.toInt) (b2 : p2.toInt ≤ 7) (b3 : 255 < p3.toInt) : op_ok xs 164 143 [.ref 0, .int 0, .int 2, .int p2, .int p3, .ref 189] [.ref 165, .int 0, .int 2, .int p2, .int p3] := by
  refine ⟨2, 0, ?_⟩
  apply Exists.intro
  apply Exists.intro
  apply And.intro
  · refine xe_sn pg_164 4 (fr' := (5, [(0, .ref 0), (1, .int 0), (2, .int 2), (3, .int p2), (4, .int p3), (5, .ref 189)], [.int 0, .ref 0, .int 0, .ref 189])) rfl ?_
    refine xe_sn pg_164 3 (fr' := (9, [(0, .ref 0), (1, .int 0), (2, .int 2), (3, .int p2), (4, .int p3), (5, .ref 189)], [.int p3, .int p2, .int 2, .int 0, .ref 0, .int 0, .ref 189])) rfl ?_
    apply xe_callq pg_164 77 [.ref 0, .int 0, .int 2, .int p2, .int p3] (.inr 1) (23, [(0, .ref 0), (1, .int 0), (2, .int 2), (3, .int p2), (4, .int p3), (5, .ref 189)], []) rfl (fun _ => rfl)
    · refine xe_sn pg_77 1 (fr' := (1, [(0, .ref 0), (1, .int 0), (2, .int 2), (3, .int p2), (4, .int p3)], [.int 0])) rfl ?_
      apply xe_callq pg_77 92 [.int 0] (.inl none) (4, [(0, .ref 0), (1, .int 0), (2, .int 2), (3, .int p2), (4, .int p3)], []) rfl (fun _ => rfl)
      · refine xe_sn pg_92 2 (fr' := (2, [(0, .int 0)], [.int 4, .int 0])) rfl ?_
        apply xe_callq pg_92 95 [.int 0, .int 4] (.inl none) (5, [(0, .int 0)], []) rfl (fun _ => rfl)
        · refine xe_sn pg_95 4 (fr' := (6, [(0, .int 0), (1, .int 4)], [.int 4, .int 0])) rfl ?_
          refine xe_sn pg_95 1 (fr' := (17, [(0, .int 0), (1, .int 4)], [])) rfl ?_
          exact xe_end pg_95 rfl
        exact xe_end pg_92 rfl
      refine xe_sn pg_77 1 (fr' := (5, [(0, .ref 0), (1, .int 0), (2, .int 2), (3, .int p2), (4, .int p3)], [.int 2])) rfl ?_
      apply xe_callq pg_77 94 [.int 2] (.inl none) (8, [(0, .ref 0), (1, .int 0), (2, .int 2), (3, .int p2), (4, .int p3)], []) rfl (fun _ => rfl)
      · refine xe_sn pg_94 1 (fr' := (1, [(0, .int 2)], [.int 2])) rfl ?_
        apply xe_callq pg_94 100 [.int 2] (.inl (some (.int 1))) (4, [(0, .int 2)], [.int 1]) rfl (fun _ => rfl)
        · refine xe_sn pg_100 4 (fr' := (6, [(0, .int 2)], [.int 2])) rfl ?_
          refine xe_sn pg_100 4 (fr' := (15, [(0, .int 2)], [.int 1])) rfl ?_
          exact xe_end pg_100 rfl
        refine xe_sn pg_94 1 (fr' := (15, [(0, .int 2)], [])) rfl ?_
        exact xe_end pg_94 rfl
      refine xe_sn pg_77 1 (fr' := (9, [(0, .ref 0), (1, .int 0), (2, .int 2), (3, .int p2), (4, .int p3)], [.int p2])) rfl ?_
      refine xe_f1 pg_77 22 rfl rfl (by show ¬ ((p2).toInt < 0); omega) ?_
      refine xe_sn pg_77 2 (fr' := (15, [(0, .ref 0), (1, .int 0), (2, .int 2), (3, .int p2), (4, .int p3)], [.int 7, .int p2])) rfl ?_
      refine xe_f2 pg_77 22 rfl rfl (by show ¬ (7 < (p2).toInt); omega) ?_
      refine xe_sn pg_77 2 (fr' := (23, [(0, .ref 0), (1, .int 0), (2, .int 2), (3, .int p2), (4, .int p3)], [.int 1])) rfl ?_
      apply xe_callq pg_77 97 [.int 1] (.inl none) (26, [(0, .ref 0), (1, .int 0), (2, .int 2), (3, .int p2), (4, .int p3)], []) rfl (fun _ => rfl)
      · refine xe_sn pg_97 2 (fr' := (12, [(0, .int 1)], [])) rfl ?_
        exact xe_end pg_97 rfl
      refine xe_sn pg_77 1 (fr' := (28, [(0, .ref 0), (1, .int 0), (2, .int 2), (3, .int p2), (4, .int p3)], [.int p3])) rfl ?_
      apply xe_callq pg_77 99 [.int p3] (.inl (some (.int 0))) (31, [(0, .ref 0), (1, .int 0), (2, .int 2), (3, .int p2), (4, .int p3)], [.int 0]) rfl (fun _ => rfl)
      · refine xe_sn pg_99 1 (fr' := (1, [(0, .int p3)], [.int p3])) rfl ?_
        refine xe_f1 pg_99 15 rfl rfl (by show ¬ ((p3).toInt < 0); omega) ?_
        refine xe_sn pg_99 2 (fr' := (8, [(0, .int p3)], [.int 255, .int p3])) rfl ?_
        refine xe_t2 pg_99 15 rfl rfl (by show 255 < (p3).toInt; omega) ?_
        refine xe_sn pg_99 1 (fr' := (16, [(0, .int p3)], [.int 0])) rfl ?_
        exact xe_end pg_99 rfl
      apply xe_callqx pg_77 97 [.int 0] 1 rfl (fun _ => rfl)
      · refine xe_sn pg_97 2 (fr' := (4, [(0, .int 0)], [])) rfl ?_
        exact xe_end pg_97 rfl
    refine xe_sn pg_164 1 (fr' := (24, [(0, .ref 0), (1, .int 0), (2, .int 2), (3, .int p2), (4, .int p3), (5, .ref 189)], [.int 2])) rfl ?_
    exact xe_end pg_164 rfl
  refine And.intro ⟨rfl, rfl, rfl, rfl⟩ ?_
  apply And.intro
  · refine xe_sn pg_143 2 (fr' := (2, [(0, .ref 165), (1, .int 0), (2, .int 2), (3, .int p2), (4, .int p3)], [.int 0, .ref 165])) rfl ?_
    apply xe_callq pg_143 104 [.int 0] (.inl (some (.int 1))) (5, [(0, .ref 165), (1, .int 0), (2, .int 2), (3, .int p2), (4, .int p3)], [.int 1, .ref 165]) rfl (fun _ => rfl)
    · refine xe_sn pg_104 3 (fr' := (3, [(0, .int 0)], [.int 3, .int 0, .int 0])) rfl ?_
      apply xe_callq pg_104 103 [.int 0, .int 0, .int 3] (.inl (some (.int 1))) (6, [(0, .int 0)], [.int 1]) rfl (fun _ => rfl)
      · refine xe_sn pg_103 4 (fr' := (6, [(0, .int 0), (1, .int 0), (2, .int 3)], [.int 0])) rfl ?_
        refine xe_sn pg_103 4 (fr' := (15, [(0, .int 0), (1, .int 0), (2, .int 3)], [.int 1])) rfl ?_
        exact xe_end pg_103 rfl
      exact xe_end pg_104 rfl
    refine xe_sn pg_143 4 (fr' := (11, [(0, .ref 165), (1, .int 0), (2, .int 2), (3, .int p2), (4, .int p3)], [.int 3, .int 1, .int 2, .ref 165])) rfl ?_
    apply xe_callq pg_143 103 [.int 2, .int 1, .int 3] (.inl (some (.int 1))) (14, [(0, .ref 165), (1, .int 0), (2, .int 2), (3, .int p2), (4, .int p3)], [.int 1, .ref 165]) rfl (fun _ => rfl)
    · refine xe_sn pg_103 4 (fr' := (6, [(0, .int 2), (1, .int 1), (2, .int 3)], [.int 2])) rfl ?_
      refine xe_sn pg_103 4 (fr' := (15, [(0, .int 2), (1, .int 1), (2, .int 3)], [.int 1])) rfl ?_
      exact xe_end pg_103 rfl
    refine xe_sn pg_143 4 (fr' := (25, [(0, .ref 165), (1, .int 0), (2, .int 2), (3, .int p2), (4, .int p3)], [.int 7, .int 0, .int p2, .ref 165])) rfl ?_
    apply xe_callq pg_143 103 [.int p2, .int 0, .int 7] (.inl (some (.int 1))) (28, [(0, .ref 165), (1, .int 0), (2, .int 2), (3, .int p2), (4, .int p3)], [.int 1, .ref 165]) rfl (fun _ => rfl)
    · refine xe_sn pg_103 2 (fr' := (2, [(0, .int p2), (1, .int 0), (2, .int 7)], [.int 0, .int p2])) rfl ?_
      refine xe_f2 pg_103 14 rfl rfl (by show ¬ ((p2).toInt < 0); omega) ?_
      refine xe_sn pg_103 2 (fr' := (7, [(0, .int p2), (1, .int 0), (2, .int 7)], [.int 7, .int p2])) rfl ?_
      refine xe_f2 pg_103 14 rfl rfl (by show ¬ (7 < (p2).toInt); omega) ?_
      refine xe_sn pg_103 2 (fr' := (15, [(0, .int p2), (1, .int 0), (2, .int 7)], [.int 1])) rfl ?_
      exact xe_end pg_103 rfl
    refine xe_sn pg_143 4 (fr' := (37, [(0, .ref 165), (1, .int 0), (2, .int 2), (3, .int p2), (4, .int p3)], [.int 255, .int 0, .int p3, .ref 165])) rfl ?_
    apply xe_callq pg_143 103 [.int p3, .int 0, .int 255] (.inl (some (.int 0))) (40, [(0, .ref 165), (1, .int 0), (2, .int 2), (3, .int p2), (4, .int p3)], [.int 0, .ref 165]) rfl (fun _ => rfl)
    · refine xe_sn pg_103 2 (fr' := (2, [(0, .int p3), (1, .int 0), (2, .int 255)], [.int 0, .int p3])) rfl ?_
      refine xe_f2 pg_103 14 rfl rfl (by show ¬ ((p3).toInt < 0); omega) ?_
      refine xe_sn pg_103 2 (fr' := (7, [(0, .int p3), (1, .int 0), (2, .int 255)], [.int 255, .int p3])) rfl ?_
      refine xe_t2 pg_103 14 rfl rfl (by show 255 < (p3).toInt; omega) ?_
      refine xe_sn pg_103 1 (fr' := (15, [(0, .int p3), (1, .int 0), (2, .int 255)], [.int 0])) rfl ?_
      exact xe_end pg_103 rfl
    refine xe_sn pg_143 4 (fr' := (51, [(0, .ref 165), (1, .int 0), (2, .int 2), (3, .int p2), (4, .int p3)], [])) rfl ?_
    refine xe_sn pg_143 4 (fr' := (69, [(0, .ref 165), (1, .int 0), (2, .int 2), (3, .int p2), (4, .int p3)], [.int 0])) rfl ?_
    refine xe_sn pg_143 4 (fr' := (76, [(5, .int 0), (0, .ref 165), (1, .int 0), (2, .int 2), (3, .int p2), (4, .int p3)], [.int 2, .ref 165])) rfl ?_
    refine xe_sn pg_143 4 (fr' := (111, [(5, .int 0), (0, .ref 165), (1, .int 0), (2, .int 2), (3, .int p2), (4, .int p3)], [])) rfl ?_
    refine xe_sn pg_143 4 (fr' := (119, [(5, .int 0), (0, .ref 165), (1, .int 0), (2, .int 2), (3, .int p2), (4, .int p3)], [.int 0])) rfl ?_
    exact xe_end pg_143 rfl
  · exact ⟨⟨rfl, rfl, rfl, rfl⟩, Nat.le_of_ble_eq_true rfl, Nat.le_of_ble_eq_true rfl, rfl, fun q => absurd q (by decide)⟩

set_option maxRecDepth 100000 in
theorem lf_send_13 (xs : Nat → Int32) (p2 : Int32) (p3 : Int32) (a2 : 0 ≤ p2.toInt) (b2 : p2.toInt ≤ 7) (a3 : 0 ≤ p3.toInt) (b3 : p3.toInt ≤ 255) : op_ok xs 164 143 [.ref 0, .int 0, .int 2, .int p2, .int p3, .ref 189] [.ref 165, .int 0, .int 2, .int p2, .int p3] := by
  refine ⟨3, 0, ?_⟩
  apply Exists.intro
  apply Exists.intro
  apply And.intro
  · refine xe_sn pg_164 4 (fr' := (5, [(0, .ref 0), (1, .int 0), (2, .int 2), (3, .int p2), (4, .int p3), (5, .ref 189)], [.int 0, .ref 0, .int 0, .ref 189])) rfl ?_
    refine xe_sn pg_164 3 (fr' := (9, [(0, .ref 0), (1, .int 0), (2, .int 2), (3, .int p2), (4, .int p3), (5, .ref 189)], [.int p3, .int p2, .int 2, .int 0, .ref 0, .int 0, .ref 189])) rfl ?_
    apply xe_callq pg_164 77 [.ref 0, .int 0, .int 2, .int p2, .int p3] (.inr 2) (27, [(0, .ref 0), (1, .int 0), (2, .int 2), (3, .int p2), (4, .int p3), (5, .ref 189)], []) rfl (fun _ => rfl)
    · refine xe_sn pg_77 1 (fr' := (1, [(0, .ref 0), (1, .int 0), (2, .int 2), (3, .int p2), (4, .int p3)], [.int 0])) rfl ?_
      apply xe_callq pg_77 92 [.int 0] (.inl none) (4, [(0, .ref 0), (1, .int 0), (2, .int 2), (3, .int p2), (4, .int p3)], []) rfl (fun _ => rfl)
      · refine xe_sn pg_92 2 (fr' := (2, [(0, .int 0)], [.int 4, .int 0])) rfl ?_
        apply xe_callq pg_92 95 [.int 0, .int 4] (.inl none) (5, [(0, .int 0)], []) rfl (fun _ => rfl)
        · refine xe_sn pg_95 4 (fr' := (6, [(0, .int 0), (1, .int 4)], [.int 4, .int 0])) rfl ?_
          refine xe_sn pg_95 1 (fr' := (17, [(0, .int 0), (1, .int 4)], [])) rfl ?_
          exact xe_end pg_95 rfl
        exact xe_end pg_92 rfl
      refine xe_sn pg_77 1 (fr' := (5, [(0, .ref 0), (1, .int 0), (2, .int 2), (3, .int p2), (4, .int p3)], [.int 2])) rfl ?_
      apply xe_callq pg_77 94 [.int 2] (.inl none) (8, [(0, .ref 0), (1, .int 0), (2, .int 2), (3, .int p2), (4, .int p3)], []) rfl (fun _ => rfl)
      · refine xe_sn pg_94 1 (fr' := (1, [(0, .int 2)], [.int 2])) rfl ?_
        apply xe_callq pg_94 100 [.int 2] (.inl (some (.int 1))) (4, [(0, .int 2)], [.int 1]) rfl (fun _ => rfl)
        · refine xe_sn pg_100 4 (fr' := (6, [(0, .int 2)], [.int 2])) rfl ?_
          refine xe_sn pg_100 4 (fr' := (15, [(0, .int 2)], [.int 1])) rfl ?_
          exact xe_end pg_100 rfl
        refine xe_sn pg_94 1 (fr' := (15, [(0, .int 2)], [])) rfl ?_
        exact xe_end pg_94 rfl
      refine xe_sn pg_77 1 (fr' := (9, [(0, .ref 0), (1, .int 0), (2, .int 2), (3, .int p2), (4, .int p3)], [.int p2])) rfl ?_
      refine xe_f1 pg_77 22 rfl rfl (by show ¬ ((p2).toInt < 0); omega) ?_
      refine xe_sn pg_77 2 (fr' := (15, [(0, .ref 0), (1, .int 0), (2, .int 2), (3, .int p2), (4, .int p3)], [.int 7, .int p2])) rfl ?_
      refine xe_f2 pg_77 22 rfl rfl (by show ¬ (7 < (p2).toInt); omega) ?_
      refine xe_sn pg_77 2 (fr' := (23, [(0, .ref 0), (1, .int 0), (2, .int 2), (3, .int p2), (4, .int p3)], [.int 1])) rfl ?_
      apply xe_callq pg_77 97 [.int 1] (.inl none) (26, [(0, .ref 0), (1, .int 0), (2, .int 2), (3, .int p2), (4, .int p3)], []) rfl (fun _ => rfl)
      · refine xe_sn pg_97 2 (fr' := (12, [(0, .int 1)], [])) rfl ?_
        exact xe_end pg_97 rfl
      refine xe_sn pg_77 1 (fr' := (28, [(0, .ref 0), (1, .int 0), (2, .int 2), (3, .int p2), (4, .int p3)], [.int p3])) rfl ?_
      apply xe_callq pg_77 99 [.int p3] (.inl (some (.int 1))) (31, [(0, .ref 0), (1, .int 0), (2, .int 2), (3, .int p2), (4, .int p3)], [.int 1]) rfl (fun _ => rfl)
      · refine xe_sn pg_99 1 (fr' := (1, [(0, .int p3)], [.int p3])) rfl ?_
        refine xe_f1 pg_99 15 rfl rfl (by show ¬ ((p3).toInt < 0); omega) ?_
        refine xe_sn pg_99 2 (fr' := (8, [(0, .int p3)], [.int 255, .int p3])) rfl ?_
        refine xe_f2 pg_99 15 rfl rfl (by show ¬ (255 < (p3).toInt); omega) ?_
        refine xe_sn pg_99 2 (fr' := (16, [(0, .int p3)], [.int 1])) rfl ?_
        exact xe_end pg_99 rfl
      apply xe_callq pg_77 97 [.int 1] (.inl none) (34, [(0, .ref 0), (1, .int 0), (2, .int 2), (3, .int p2), (4, .int p3)], []) rfl (fun _ => rfl)
      · refine xe_sn pg_97 2 (fr' := (12, [(0, .int 1)], [])) rfl ?_
        exact xe_end pg_97 rfl
      refine xe_sn pg_77 4 (fr' := (40, [(0, .ref 0), (1, .int 0), (2, .int 2), (3, .int p2), (4, .int p3)], [.ref 121])) rfl ?_
      refine xe_sn pg_77 4 (fr' := (46, [(0, .ref 0), (1, .int 0), (2, .int 2), (3, .int p2), (4, .int p3)], [.int 1, .ref 127])) rfl ?_
      refine xe_sn pg_77 4 (fr' := (54, [(5, .ref 130), (0, .ref 0), (1, .int 0), (2, .int 2), (3, .int p2), (4, .int p3)], [.int 0])) rfl ?_
      refine xe_sn pg_77 3 (fr' := (71, [(5, .ref 130), (0, .ref 0), (1, .int 0), (2, .int 2), (3, .int p2), (4, .int p3)], [.int 0])) rfl ?_
      apply xe_callqx pg_77 98 [.int 0] 2 rfl (fun _ => rfl)
      · refine xe_sn pg_98 2 (fr' := (4, [(0, .int 0)], [])) rfl ?_
        exact xe_end pg_98 rfl
    refine xe_sn pg_164 1 (fr' := (28, [(0, .ref 0), (1, .int 0), (2, .int 2), (3, .int p2), (4, .int p3), (5, .ref 189)], [.int 3])) rfl ?_
    exact xe_end pg_164 rfl
  refine And.intro ⟨rfl, rfl, rfl, rfl⟩ ?_
  apply And.intro
  · refine xe_sn pg_143 2 (fr' := (2, [(0, .ref 165), (1, .int 0), (2, .int 2), (3, .int p2), (4, .int p3)], [.int 0, .ref 165])) rfl ?_
    apply xe_callq pg_143 104 [.int 0] (.inl (some (.int 1))) (5, [(0, .ref 165), (1, .int 0), (2, .int 2), (3, .int p2), (4, .int p3)], [.int 1, .ref 165]) rfl (fun _ => rfl)
    · refine xe_sn pg_104 3 (fr' := (3, [(0, .int 0)], [.int 3, .int 0, .int 0])) rfl ?_
      apply xe_callq pg_104 103 [.int 0, .int 0, .int 3] (.inl (some (.int 1))) (6, [(0, .int 0)], [.int 1]) rfl (fun _ => rfl)
      · refine xe_sn pg_103 4 (fr' := (6, [(0, .int 0), (1, .int 0), (2, .int 3)], [.int 0])) rfl ?_
        refine xe_sn pg_103 4 (fr' := (15, [(0, .int 0), (1, .int 0), (2, .int 3)], [.int 1])) rfl ?_
        exact xe_end pg_103 rfl
      exact xe_end pg_104 rfl
    refine xe_sn pg_143 4 (fr' := (11, [(0, .ref 165), (1, .int 0), (2, .int 2), (3, .int p2), (4, .int p3)], [.int 3, .int 1, .int 2, .ref 165])) rfl ?_
    apply xe_callq pg_143 103 [.int 2, .int 1, .int 3] (.inl (some (.int 1))) (14, [(0, .ref 165), (1, .int 0), (2, .int 2), (3, .int p2), (4, .int p3)], [.int 1, .ref 165]) rfl (fun _ => rfl)
    · refine xe_sn pg_103 4 (fr' := (6, [(0, .int 2), (1, .int 1), (2, .int 3)], [.int 2])) rfl ?_
      refine xe_sn pg_103 4 (fr' := (15, [(0, .int 2), (1, .int 1), (2, .int 3)], [.int 1])) rfl ?_
      exact xe_end pg_103 rfl
    refine xe_sn pg_143 4 (fr' := (25, [(0, .ref 165), (1, .int 0), (2, .int 2), (3, .int p2), (4, .int p3)], [.int 7, .int 0, .int p2, .ref 165])) rfl ?_
    apply xe_callq pg_143 103 [.int p2, .int 0, .int 7] (.inl (some (.int 1))) (28, [(0, .ref 165), (1, .int 0), (2, .int 2), (3, .int p2), (4, .int p3)], [.int 1, .ref 165]) rfl (fun _ => rfl)
    · refine xe_sn pg_103 2 (fr' := (2, [(0, .int p2), (1, .int 0), (2, .int 7)], [.int 0, .int p2])) rfl ?_
      refine xe_f2 pg_103 14 rfl rfl (by show ¬ ((p2).toInt < 0); omega) ?_
      refine xe_sn pg_103 2 (fr' := (7, [(0, .int p2), (1, .int 0), (2, .int 7)], [.int 7, .int p2])) rfl ?_
      refine xe_f2 pg_103 14 rfl rfl (by show ¬ (7 < (p2).toInt); omega) ?_
      refine xe_sn pg_103 2 (fr' := (15, [(0, .int p2), (1, .int 0), (2, .int 7)], [.int 1])) rfl ?_
      exact xe_end pg_103 rfl
    refine xe_sn pg_143 4 (fr' := (37, [(0, .ref 165), (1, .int 0), (2, .int 2), (3, .int p2), (4, .int p3)], [.int 255, .int 0, .int p3, .ref 165])) rfl ?_
    apply xe_callq pg_143 103 [.int p3, .int 0, .int 255] (.inl (some (.int 1))) (40, [(0, .ref 165), (1, .int 0), (2, .int 2), (3, .int p2), (4, .int p3)], [.int 1, .ref 165]) rfl (fun _ => rfl)
    · refine xe_sn pg_103 2 (fr' := (2, [(0, .int p3), (1, .int 0), (2, .int 255)], [.int 0, .int p3])) rfl ?_
      refine xe_f2 pg_103 14 rfl rfl (by show ¬ ((p3).toInt < 0); omega) ?_
      refine xe_sn pg_103 2 (fr' := (7, [(0, .int p3), (1, .int 0), (2, .int 255)], [.int 255, .int p3])) rfl ?_
      refine xe_f2 pg_103 14 rfl rfl (by show ¬ (255 < (p3).toInt); omega) ?_
      refine xe_sn pg_103 2 (fr' := (15, [(0, .int p3), (1, .int 0), (2, .int 255)], [.int 1])) rfl ?_
      exact xe_end pg_103 rfl
    refine xe_sn pg_143 4 (fr' := (52, [(0, .ref 165), (1, .int 0), (2, .int 2), (3, .int p2), (4, .int p3)], [.ref 165])) rfl ?_
    refine xe_sn pg_143 4 (fr' := (60, [(0, .ref 165), (1, .int 0), (2, .int 2), (3, .int p2), (4, .int p3)], [.int 0, .int 3])) rfl ?_
    refine xe_sn pg_143 4 (fr' := (64, [(0, .ref 165), (1, .int 0), (2, .int 2), (3, .int p2), (4, .int p3)], [.int 1, .int 2])) rfl ?_
    refine xe_sn pg_143 4 (fr' := (72, [(5, .int 1), (0, .ref 165), (1, .int 0), (2, .int 2), (3, .int p2), (4, .int p3)], [.ref 165])) rfl ?_
    refine xe_sn pg_143 4 (fr' := (80, [(5, .int 1), (0, .ref 165), (1, .int 0), (2, .int 2), (3, .int p2), (4, .int p3)], [.ref 165, .ref 165])) rfl ?_
    refine xe_sn pg_143 4 (fr' := (87, [(5, .int 1), (0, .ref 165), (1, .int 0), (2, .int 2), (3, .int p2), (4, .int p3)], [.int 2, .int 0, .ref 165])) rfl ?_
    refine xe_sn pg_143 4 (fr' := (111, [(5, .int 1), (0, .ref 165), (1, .int 0), (2, .int 2), (3, .int p2), (4, .int p3)], [])) rfl ?_
    refine xe_sn pg_143 4 (fr' := (119, [(5, .int 1), (0, .ref 165), (1, .int 0), (2, .int 2), (3, .int p2), (4, .int p3)], [.int 0])) rfl ?_
    exact xe_end pg_143 rfl
  · exact ⟨⟨rfl, rfl, rfl, rfl⟩, Nat.le_of_ble_eq_true rfl, Nat.le_of_ble_eq_true rfl, rfl, fun q => absurd q (by decide)⟩

set_option maxRecDepth 100000 in
theorem lf_send_14 (xs : Nat → Int32) (p2 : Int32) (p3 : Int32) (a2 : p2.toInt < 0) : op_ok xs 164 143 [.ref 0, .int 0, .int 3, .int p2, .int p3, .ref 189] [.ref 165, .int 0, .int 3, .int p2, .int p3] := by
  refine ⟨2, 0, ?_⟩
  apply Exists.intro
  apply Exists.intro
  apply And.intro
  · refine xe_sn pg_164 4 (fr' := (5, [(0, .ref 0), (1, .int 0), (2, .int 3), (3, .int p2), (4, .int p3), (5, .ref 189)], [.int 0, .ref 0, .int 0, .ref 189])) rfl ?_
    refine xe_sn pg_164 3 (fr' := (9, [(0, .ref 0), (1, .int 0), (2, .int 3), (3, .int p2), (4, .int p3), (5, .ref 189)], [.int p3, .int p2, .int 3, .int 0, .ref 0, .int 0, .ref 189])) rfl ?_
    apply xe_callq pg_164 77 [.ref 0, .int 0, .int 3, .int p2, .int p3] (.inr 1) (23, [(0, .ref 0), (1, .int 0), (2, .int 3), (3, .int p2), (4, .int p3), (5, .ref 189)], []) rfl (fun _ => rfl)
    · refine xe_sn pg_77 1 (fr' := (1, [(0, .ref 0), (1, .int 0), (2, .int 3), (3, .int p2), (4, .int p3)], [.int 0])) rfl ?_
      apply xe_callq pg_77 92 [.int 0] (.inl none) (4, [(0, .ref 0), (1, .int 0), (2, .int 3), (3, .int p2), (4, .int p3)], []) rfl (fun _ => rfl)
      · refine xe_sn pg_92 2 (fr' := (2, [(0, .int 0)], [.int 4, .int 0])) rfl ?_
        apply xe_callq pg_92 95 [.int 0, .int 4] (.inl none) (5, [(0, .int 0)], []) rfl (fun _ => rfl)
        · refine xe_sn pg_95 4 (fr' := (6, [(0, .int 0), (1, .int 4)], [.int 4, .int 0])) rfl ?_
          refine xe_sn pg_95 1 (fr' := (17, [(0, .int 0), (1, .int 4)], [])) rfl ?_
          exact xe_end pg_95 rfl
        exact xe_end pg_92 rfl
      refine xe_sn pg_77 1 (fr' := (5, [(0, .ref 0), (1, .int 0), (2, .int 3), (3, .int p2), (4, .int p3)], [.int 3])) rfl ?_
      apply xe_callq pg_77 94 [.int 3] (.inl none) (8, [(0, .ref 0), (1, .int 0), (2, .int 3), (3, .int p2), (4, .int p3)], []) rfl (fun _ => rfl)
      · refine xe_sn pg_94 1 (fr' := (1, [(0, .int 3)], [.int 3])) rfl ?_
        apply xe_callq pg_94 100 [.int 3] (.inl (some (.int 1))) (4, [(0, .int 3)], [.int 1]) rfl (fun _ => rfl)
        · refine xe_sn pg_100 4 (fr' := (6, [(0, .int 3)], [.int 3])) rfl ?_
          refine xe_sn pg_100 4 (fr' := (15, [(0, .int 3)], [.int 1])) rfl ?_
          exact xe_end pg_100 rfl
        refine xe_sn pg_94 1 (fr' := (15, [(0, .int 3)], [])) rfl ?_
        exact xe_end pg_94 rfl
      refine xe_sn pg_77 1 (fr' := (9, [(0, .ref 0), (1, .int 0), (2, .int 3), (3, .int p2), (4, .int p3)], [.int p2])) rfl ?_
      refine xe_t1 pg_77 22 rfl rfl (by show (p2).toInt < 0; omega) ?_
      refine xe_sn pg_77 1 (fr' := (23, [(0, .ref 0), (1, .int 0), (2, .int 3), (3, .int p2), (4, .int p3)], [.int 0])) rfl ?_
      apply xe_callqx pg_77 97 [.int 0] 1 rfl (fun _ => rfl)
      · refine xe_sn pg_97 2 (fr' := (4, [(0, .int 0)], [])) rfl ?_
        exact xe_end pg_97 rfl
    refine xe_sn pg_164 1 (fr' := (24, [(0, .ref 0), (1, .int 0), (2, .int 3), (3, .int p2), (4, .int p3), (5, .ref 189)], [.int 2])) rfl ?_
    exact xe_end pg_164 rfl
  refine And.intro ⟨rfl, rfl, rfl, rfl⟩ ?_
  apply And.intro
  · refine xe_sn pg_143 2 (fr' := (2, [(0, .ref 165), (1, .int 0), (2, .int 3), (3, .int p2), (4, .int p3)], [.int 0, .ref 165])) rfl ?_
    apply xe_callq pg_143 104 [.int 0] (.inl (some (.int 1))) (5, [(0, .ref 165), (1, .int 0), (2, .int 3), (3, .int p2), (4, .int p3)], [.int 1, .ref 165]) rfl (fun _ => rfl)
    · refine xe_sn pg_104 3 (fr' := (3, [(0, .int 0)], [.int 3, .int 0, .int 0])) rfl ?_
      apply xe_callq pg_104 103 [.int 0, .int 0, .int 3] (.inl (some (.int 1))) (6, [(0, .int 0)], [.int 1]) rfl (fun _ => rfl)
      · refine xe_sn pg_103 4 (fr' := (6, [(0, .int 0), (1, .int 0), (2, .int 3)], [.int 0])) rfl ?_
        refine xe_sn pg_103 4 (fr' := (15, [(0, .int 0), (1, .int 0), (2, .int 3)], [.int 1])) rfl ?_
        exact xe_end pg_103 rfl
      exact xe_end pg_104 rfl
    refine xe_sn pg_143 4 (fr' := (11, [(0, .ref 165), (1, .int 0), (2, .int 3), (3, .int p2), (4, .int p3)], [.int 3, .int 1, .int 3, .ref 165])) rfl ?_
    apply xe_callq pg_143 103 [.int 3, .int 1, .int 3] (.inl (some (.int 1))) (14, [(0, .ref 165), (1, .int 0), (2, .int 3), (3, .int p2), (4, .int p3)], [.int 1, .ref 165]) rfl (fun _ => rfl)
    · refine xe_sn pg_103 4 (fr' := (6, [(0, .int 3), (1, .int 1), (2, .int 3)], [.int 3])) rfl ?_
      refine xe_sn pg_103 4 (fr' := (15, [(0, .int 3), (1, .int 1), (2, .int 3)], [.int 1])) rfl ?_
      exact xe_end pg_103 rfl
    refine xe_sn pg_143 4 (fr' := (25, [(0, .ref 165), (1, .int 0), (2, .int 3), (3, .int p2), (4, .int p3)], [.int 7, .int 0, .int p2, .ref 165])) rfl ?_
    apply xe_callq pg_143 103 [.int p2, .int 0, .int 7] (.inl (some (.int 0))) (28, [(0, .ref 165), (1, .int 0), (2, .int 3), (3, .int p2), (4, .int p3)], [.int 0, .ref 165]) rfl (fun _ => rfl)
    · refine xe_sn pg_103 2 (fr' := (2, [(0, .int p2), (1, .int 0), (2, .int 7)], [.int 0, .int p2])) rfl ?_
      refine xe_t2 pg_103 14 rfl rfl (by show (p2).toInt < 0; omega) ?_
      refine xe_sn pg_103 1 (fr' := (15, [(0, .int p2), (1, .int 0), (2, .int 7)], [.int 0])) rfl ?_
      exact xe_end pg_103 rfl
    refine xe_sn pg_143 4 (fr' := (51, [(0, .ref 165), (1, .int 0), (2, .int 3), (3, .int p2), (4, .int p3)], [])) rfl ?_
    refine xe_sn pg_143 4 (fr' := (69, [(0, .ref 165), (1, .int 0), (2, .int 3), (3, .int p2), (4, .int p3)], [.int 0])) rfl ?_
    refine xe_sn pg_143 4 (fr' := (76, [(5, .int 0), (0, .ref 165), (1, .int 0), (2, .int 3), (3, .int p2), (4, .int p3)], [.int 2, .ref 165])) rfl ?_
    refine xe_sn pg_143 4 (fr' := (111, [(5, .int 0), (0, .ref 165), (1, .int 0), (2, .int 3), (3, .int p2), (4, .int p3)], [])) rfl ?_
    refine xe_sn pg_143 4 (fr' := (119, [(5, .int 0), (0, .ref 165), (1, .int 0), (2, .int 3), (3, .int p2), (4, .int p3)], [.int 0])) rfl ?_
    exact xe_end pg_143 rfl
  · exact ⟨⟨rfl, rfl, rfl, rfl⟩, Nat.le_of_ble_eq_true rfl, Nat.le_of_ble_eq_true rfl, rfl, fun q => absurd q (by decide)⟩

set_option maxRecDepth 100000 in
theorem lf_send_15 (xs : Nat → Int32) (p2 : Int32) (p3 : Int32) (b2 : 7 < p2.toInt) : op_ok xs 164 143 [.ref 0, .int 0, .int 3, .int p2, .int p3, .ref 189] [.ref 165, .int 0, .int 3, .int p2, .int p3] := by
  refine ⟨2, 0, ?_⟩
  apply Exists.intro
  apply Exists.intro
  apply And.intro
  · refine xe_sn pg_164 4 (fr' := (5, [(0, .ref 0), (1, .int 0), (2, .int 3), (3, .int p2), (4, .int p3), (5, .ref 189)], [.int 0, .ref 0, .int 0, .ref 189])) rfl ?_
    refine xe_sn pg_164 3 (fr' := (9, [(0, .ref 0), (1, .int 0), (2, .int 3), (3, .int p2), (4, .int p3), (5, .ref 189)], [.int p3, .int p2, .int 3, .int 0, .ref 0, .int 0, .ref 189])) rfl ?_
    apply xe_callq pg_164 77 [.ref 0, .int 0, .int 3, .int p2, .int p3] (.inr 1) (23, [(0, .ref 0), (1, .int 0), (2, .int 3), (3, .int p2), (4, .int p3), (5, .ref 189)], []) rfl (fun _ => rfl)
    · refine xe_sn pg_77 1 (fr' := (1, [(0, .ref 0), (1, .int 0), (2, .int 3), (3, .int p2), (4, .int p3)], [.int 0])) rfl ?_
      apply xe_callq pg_77 92 [.int 0] (.inl none) (4, [(0, .ref 0), (1, .int 0), (2, .int 3), (3, .int p2), (4, .int p3)], []) rfl (fun _ => rfl)
      · refine xe_sn pg_92 2 (fr' := (2, [(0, .int 0)], [.int 4, .int 0])) rfl ?_
        apply xe_callq pg_92 95 [.int 0, .int 4] (.inl none) (5, [(0, .int 0)], []) rfl (fun _ => rfl)
        · refine xe_sn pg_95 4 (fr' := (6, [(0, .int 0), (1, .int 4)], [.int 4, .int 0])) rfl ?_
          refine xe_sn pg_95 1 (fr' := (17, [(0, .int 0), (1, .int 4)], [])) rfl ?_
          exact xe_end pg_95 rfl
        exact xe_end pg_92 rfl
      refine xe_sn pg_77 1 (fr' := (5, [(0, .ref 0), (1, .int 0), (2, .int 3), (3, .int p2), (4, .int p3)], [.int 3])) rfl ?_
      apply xe_callq pg_77 94 [.int 3] (.inl none) (8, [(0, .ref 0), (1, .int 0), (2, .int 3), (3, .int p2), (4, .int p3)], []) rfl (fun _ => rfl)
      · refine xe_sn pg_94 1 (fr' := (1, [(0, .int 3)], [.int 3])) rfl ?_
        apply xe_callq pg_94 100 [.int 3] (.inl (some (.int 1))) (4, [(0, .int 3)], [.int 1]) rfl (fun _ => rfl)
        · refine xe_sn pg_100 4 (fr' := (6, [(0, .int 3)], [.int 3])) rfl ?_
          refine xe_sn pg_100 4 (fr' := (15, [(0, .int 3)], [.int 1])) rfl ?_
          exact xe_end pg_100 rfl
        refine xe_sn pg_94 1 (fr' := (15, [(0, .int 3)], [])) rfl ?_
        exact xe_end pg_94 rfl
      refine xe_sn pg_77 1 (fr' := (9, [(0, .ref 0), (1, .int 0), (2, .int 3), (3, .int p2), (4, .int p3)], [.int p2])) rfl ?_
      refine xe_f1 pg_77 22 rfl rfl (by show ¬ ((p2).toInt < 0); omega) ?_
      refine xe_sn pg_77 2 (fr' := (15, [(0, .ref 0), (1, .int 0), (2, .int 3), (3, .int p2), (4, .int p3)], [.int 7, .int p2])) rfl ?_
      refine xe_t2 pg_77 22 rfl rfl (by show 7 < (p2).toInt; omega) ?_
      refine xe_sn pg_77 1 (fr' := (23, [(0, .ref 0), (1, .int 0), (2, .int 3), (3, .int p2), (4, .int p3)], [.int 0])) rfl ?_
      apply xe_callqx pg_77 97 [.int 0] 1 rfl (fun _ => rfl)
      · refine xe_sn pg_97 2 (fr' := (4, [(0, .int 0)], [])) rfl ?_
        exact xe_end pg_97 rfl
    refine xe_sn pg_164 1 (fr' := (24, [(0, .ref 0), (1, .int 0), (2, .int 3), (3, .int p2), (4, .int p3), (5, .ref 189)], [.int 2])) rfl ?_
    exact xe_end pg_164 rfl
  refine And.intro ⟨rfl, rfl, rfl, rfl⟩ ?_
  apply And.intro
  · refine xe_sn pg_143 2 (fr' := (2, [(0, .ref 165), (1, .int 0), (2, .int 3), (3, .int p2), (4, .int p3)], [.int 0, .ref 165])) rfl ?_
    apply xe_callq pg_143 104 [.int 0] (.inl (some (.int 1))) (5, [(0, .ref 165), (1, .int 0), (2, .int 3), (3, .int p2), (4, .int p3)], [.int 1, .ref 165]) rfl (fun _ => rfl)
    · refine xe_sn pg_104 3 (fr' := (3, [(0, .int 0)], [.int 3, .int 0, .int 0])) rfl ?_
      apply xe_callq pg_104 103 [.int 0, .int 0, .int 3] (.inl (some (.int 1))) (6, [(0, .int 0)], [.int 1]) rfl (fun _ => rfl)
      · refine xe_sn pg_103 4 (fr' := (6, [(0, .int 0), (1, .int 0), (2, .int 3)], [.int 0])) rfl ?_
        refine xe_sn pg_103 4 (fr' := (15, [(0, .int 0), (1, .int 0), (2, .int 3)], [.int 1])) rfl ?_
        exact xe_end pg_103 rfl
      exact xe_end pg_104 rfl
    refine xe_sn pg_143 4 (fr' := (11, [(0, .ref 165), (1, .int 0), (2, .int 3), (3, .int p2), (4, .int p3)], [.int 3, .int 1, .int 3, .ref 165])) rfl ?_
    apply xe_callq pg_143 103 [.int 3, .int 1, .int 3] (.inl (some (.int 1))) (14, [(0, .ref 165), (1, .int 0), (2, .int 3), (3, .int p2), (4, .int p3)], [.int 1, .ref 165]) rfl (fun _ => rfl)
    · refine xe_sn pg_103 4 (fr' := (6, [(0, .int 3), (1, .int 1), (2, .int 3)], [.int 3])) rfl ?_
      refine xe_sn pg_103 4 (fr' := (15, [(0, .int 3), (1, .int 1), (2, .int 3)], [.int 1])) rfl ?_
      exact xe_end pg_103 rfl
    refine xe_sn pg_143 4 (fr' := (25, [(0, .ref 165), (1, .int 0), (2, .int 3), (3, .int p2), (4, .int p3)], [.int 7, .int 0, .int p2, .ref 165])) rfl ?_
    apply xe_callq pg_143 103 [.int p2, .int 0, .int 7] (.inl (some (.int 0))) (28, [(0, .ref 165), (1, .int 0), (2, .int 3), (3, .int p2), (4, .int p3)], [.int 0, .ref 165]) rfl (fun _ => rfl)
    · refine xe_sn pg_103 2 (fr' := (2, [(0, .int p2), (1, .int 0), (2, .int 7)], [.int 0, .int p2])) rfl ?_
      refine xe_f2 pg_103 14 rfl rfl (by show ¬ ((p2).toInt < 0); omega) ?_
      refine xe_sn pg_103 2 (fr' := (7, [(0, .int p2), (1, .int 0), (2, .int 7)], [.int 7, .int p2])) rfl ?_
      refine xe_t2 pg_103 14 rfl rfl (by show 7 < (p2).toInt; omega) ?_
      refine xe_sn pg_103 1 (fr' := (15, [(0, .int p2), (1, .int 0), (2, .int 7)], [.int 0])) rfl ?_
      exact xe_end pg_103 rfl
    refine xe_sn pg_143 4 (fr' := (51, [(0, .ref 165), (1, .int 0), (2, .int 3), (3, .int p2), (4, .int p3)], [])) rfl ?_
    refine xe_sn pg_143 4 (fr' := (69, [(0, .ref 165), (1, .int 0), (2, .int 3), (3, .int p2), (4, .int p3)], [.int 0])) rfl ?_
    refine xe_sn pg_143 4 (fr' := (76, [(5, .int 0), (0, .ref 165), (1, .int 0), (2, .int 3), (3, .int p2), (4, .int p3)], [.int 2, .ref 165])) rfl ?_
    refine xe_sn pg_143 4 (fr' := (111, [(5, .int 0), (0, .ref 165), (1, .int 0), (2, .int 3), (3, .int p2), (4, .int p3)], [])) rfl ?_
    refine xe_sn pg_143 4 (fr' := (119, [(5, .int 0), (0, .ref 165), (1, .int 0), (2, .int 3), (3, .int p2), (4, .int p3)], [.int 0])) rfl ?_
    exact xe_end pg_143 rfl
  · exact ⟨⟨rfl, rfl, rfl, rfl⟩, Nat.le_of_ble_eq_true rfl, Nat.le_of_ble_eq_true rfl, rfl, fun q => absurd q (by decide)⟩

set_option maxRecDepth 100000 in
theorem lf_send_16 (xs : Nat → Int32) (p2 : Int32) (p3 : Int32) (a2 : 0 ≤ p2.toInt) (b2 : p2.toInt ≤ 7) (a3 : p3.toInt < 0) : op_ok xs 164 143 [.ref 0, .int 0, .int 3, .int p2, .int p3, .ref 189] [.ref 165, .int 0, .int 3, .int p2, .int p3] := by
  refine ⟨2, 0, ?_⟩
  apply Exists.intro
  apply Exists.intro
  apply And.intro
  · refine xe_sn pg_164 4 (fr' := (5, [(0, .ref 0), (1, .int 0), (2, .int 3), (3, .int p2), (4, .int p3), (5, .ref 189)], [.int 0, .ref 0, .int 0, .ref 189])) rfl ?_
    refine xe_sn pg_164 3 (fr' := (9, [(0, .ref 0), (1, .int 0), (2, .int 3), (3, .int p2), (4, .int p3), (5, .ref 189)], [.int p3, .int p2, .int 3, .int 0, .ref 0, .int 0, .ref 189])) rfl ?_
    apply xe_callq pg_164 77 [.ref 0, .int 0, .int 3, .int p2, .int p3] (.inr 1) (23, [(0, .ref 0), (1, .int 0), (2, .int 3), (3, .int p2), (4, .int p3), (5, .ref 189)], []) rfl (fun _ => rfl)
    · refine xe_sn pg_77 1 (fr' := (1, [(0, .ref 0), (1, .int 0), (2, .int 3), (3, .int p2), (4, .int p3)], [.int 0])) rfl ?_
      apply xe_callq pg_77 92 [.int 0] (.inl none) (4, [(0, .ref 0), (1, .int 0), (2, .int 3), (3, .int p2), (4, .int p3)], []) rfl (fun _ => rfl)
      · refine xe_sn pg_92 2 (fr' := (2, [(0, .int 0)], [.int 4, .int 0])) rfl ?_
        apply xe_callq pg_92 95 [.int 0, .int 4] (.inl none) (5, [(0, .int 0)], []) rfl (fun _ => rfl)
        · refine xe_sn pg_95 4 (fr' := (6, [(0, .int 0), (1, .int 4)], [.int 4, .int 0])) rfl ?_
          refine xe_sn pg_95 1 (fr' := (17, [(0, .int 0), (1, .int 4)], [])) rfl ?_
          exact xe_end pg_95 rfl
        exact xe_end pg_92 rfl
      refine xe_sn pg_77 1 (fr' := (5, [(0, .ref 0), (1, .int 0), (2, .int 3), (3, .int p2), (4, .int p3)], [.int 3])) rfl ?_
      apply xe_callq pg_77 94 [.int 3] (.inl none) (8, [(0, .ref 0), (1, .int 0), (2, .int 3), (3, .int p2), (4, .int p3)], []) rfl (fun _ => rfl)
      · refine xe_sn pg_94 1 (fr' := (1, [(0, .int 3)], [.int 3])) rfl ?_
        apply xe_callq pg_94 100 [.int 3] (.inl (some (.int 1))) (4, [(0, .int 3)], [.int 1]) rfl (fun _ => rfl)
        · refine xe_sn pg_100 4 (fr' := (6, [(0, .int 3)], [.int 3])) rfl ?_
          refine xe_sn pg_100 4 (fr' := (15, [(0, .int 3)], [.int 1])) rfl ?_
          exact xe_end pg_100 rfl
        refine xe_sn pg_94 1 (fr' := (15, [(0, .int 3)], [])) rfl ?_
        exact xe_end pg_94 rfl
      refine xe_sn pg_77 1 (fr' := (9, [(0, .ref 0), (1, .int 0), (2, .int 3), (3, .int p2), (4, .int p3)], [.int p2])) rfl ?_
      refine xe_f1 pg_77 22 rfl rfl (by show ¬ ((p2).toInt < 0); omega) ?_
      refine xe_sn pg_77 2 (fr' := (15, [(0, .ref 0), (1, .int 0), (2, .int 3), (3, .int p2), (4, .int p3)], [.int 7, .int p2])) rfl ?_
      refine xe_f2 pg_77 22 rfl rfl (by show ¬ (7 < (p2).toInt); omega) ?_
      refine xe_sn pg_77 2 (fr' := (23, [(0, .ref 0), (1, .int 0), (2, .int 3), (3, .int p2), (4, .int p3)], [.int 1])) rfl ?_
      apply xe_callq pg_77 97 [.int 1] (.inl none) (26, [(0, .ref 0), (1, .int 0), (2, .int 3), (3, .int p2), (4, .int p3)], []) rfl (fun _ => rfl)
      · refine xe_sn pg_97 2 (fr' := (12, [(0, .int 1)], [])) rfl ?_
        exact xe_end pg_97 rfl
      refine xe_sn pg_77 1 (fr' := (28, [(0, .ref 0), (1, .int 0), (2, .int 3), (3, .int p2), (4, .int p3)], [.int p3])) rfl ?_
      apply xe_callq pg_77 99 [.int p3] (.inl (some (.int 0))) (31, [(0, .ref 0), (1, .int 0), (2, .int 3), (3, .int p2), (4, .int p3)], [.int 0]) rfl (fun _ => rfl)
      · refine xe_sn pg_99 1 (fr' := (1, [(0, .int p3)], [.int p3])) rfl ?_
        refine xe_t1 pg_99 15 rfl rfl (by show (p3).toInt < 0; omega) ?_
        refine xe_sn pg_99 1 (fr' := (16, [(0, .int p3)], [.int 0])) rfl ?_
        exact xe_end pg_99 rfl
      apply xe_callqx pg_77 97 [.int 0] 1 rfl (fun _ => rfl)
      · refine xe_sn pg_97 2 (fr' := (4, [(0, .int 0)], [])) rfl ?_
        exact xe_end pg_97 rfl
    refine xe_sn pg_164 1 (fr' := (24, [(0, .ref 0), (1, .int 0), (2, .int 3), (3, .int p2), (4, .int p3), (5, .ref 189)], [.int 2])) rfl ?_
    exact xe_end pg_164 rfl
  refine And.intro ⟨rfl, rfl, rfl, rfl⟩ ?_
  apply And.intro
  · refine xe_sn pg_143 2 (fr' := (2, [(0, .ref 165), (1, .int 0), (2, .int 3), (3, .int p2), (4, .int p3)], [.int 0, .ref 165])) rfl ?_
    apply xe_callq pg_143 104 [.int 0] (.inl (some (.int 1))) (5, [(0, .ref 165), (1, .int 0), (2, .int 3), (3, .int p2), (4, .int p3)], [.int 1, .ref 165]) rfl (fun _ => rfl)
    · refine xe_sn pg_104 3 (fr' := (3, [(0, .int 0)], [.int 3, .int 0, .int 0])) rfl ?_
      apply xe_callq pg_104 103 [.int 0, .int 0, .int 3] (.inl (some (.int 1))) (6, [(0, .int 0)], [.int 1]) rfl (fun _ => rfl)
      · refine xe_sn pg_103 4 (fr' := (6, [(0, .int 0), (1, .int 0), (2, .int 3)], [.int 0])) rfl ?_
        refine xe_sn pg_103 4 (fr' := (15, [(0, .int 0), (1, .int 0), (2, .int 3)], [.int 1])) rfl ?_
        exact xe_end pg_103 rfl
      exact xe_end pg_104 rfl
    refine xe_sn pg_143 4 (fr' := (11, [(0, .ref 165), (1, .int 0), (2, .int 3), (3, .int p2), (4, .int p3)], [.int 3, .int 1, .int 3, .ref 165])) rfl ?_
    apply xe_callq pg_143 103 [.int 3, .int 1, .int 3] (.inl (some (.int 1))) (14, [(0, .ref 165), (1, .int 0), (2, .int 3), (3, .int p2), (4, .int p3)], [.int 1, .ref 165]) rfl (fun _ => rfl)
    · refine xe_sn pg_103 4 (fr' := (6, [(0, .int 3), (1, .int 1), (2, .int 3)], [.int 3])) rfl ?_
      refine xe_sn pg_103 4 (fr' := (15, [(0, .int 3), (1, .int 1), (2, .int 3)], [.int 1])) rfl ?_
      exact xe_end pg_103 rfl
    refine xe_sn pg_143 4 (fr' := (25, [(0, .ref 165), (1, .int 0), (2, .int 3), (3, .int p2), (4, .int p3)], [.int 7, .int 0, .int p2, .ref 165])) rfl ?_
    apply xe_callq pg_143 103 [.int p2, .int 0, .int 7] (.inl (some (.int 1))) (28, [(0, .ref 165), (1, .int 0), (2, .int 3), (3, .int p2), (4, .int p3)], [.int 1, .ref 165]) rfl (fun _ => rfl)
    · refine xe_sn pg_103 2 (fr' := (2, [(0, .int p2), (1, .int 0), (2, .int 7)], [.int 0, .int p2])) rfl ?_
      refine xe_f2 pg_103 14 rfl rfl (by show ¬ ((p2).toInt < 0); omega) ?_
      refine xe_sn pg_103 2 (fr' := (7, [(0, .int p2), (1, .int 0), (2, .int 7)], [.int 7, .int p2])) rfl ?_
      refine xe_f2 pg_103 14 rfl rfl (by show ¬ (7 < (p2).toInt); omega) ?_
      refine xe_sn pg_103 2 (fr' := (15, [(0, .int p2), (1, .int 0), (2, .int 7)], [.int 1])) rfl ?_
      exact xe_end pg_103 rfl
    refine xe_sn pg_143 4 (fr' := (37, [(0, .ref 165), (1, .int 0), (2, .int 3), (3, .int p2), (4, .int p3)], [.int 255, .int 0, .int p3, .ref 165])) rfl ?_
    apply xe_callq pg_143 103 [.int p3, .int 0, .int 255] (.inl (some (.int 0))) (40, [(0, .ref 165), (1, .int 0), (2, .int 3), (3, .int p2), (4, .int p3)], [.int 0, .ref 165]) rfl (fun _ => rfl)
    · refine xe_sn pg_103 2 (fr' := (2, [(0, .int p3), (1, .int 0), (2, .int 255)], [.int 0, .int p3])) rfl ?_
      refine xe_t2 pg_103 14 rfl rfl (by show (p3).toInt < 0; omega) ?_
      refine xe_sn pg_103 1 (fr' := (15, [(0, .int p3), (1, .int 0), (2, .int 255)], [.int 0])) rfl ?_
      exact xe_end pg_103 rfl
    refine xe_sn pg_143 4 (fr' := (51, [(0, .ref 165), (1, .int 0), (2, .int 3), (3, .int p2), (4, .int p3)], [])) rfl ?_
    refine xe_sn pg_143 4 (fr' := (69, [(0, .ref 165), (1, .int 0), (2, .int 3), (3, .int p2), (4, .int p3)], [.int 0])) rfl ?_
    refine xe_sn pg_143 4 (fr' := (76, [(5, .int 0), (0, .ref 165), (1, .int 0), (2, .int 3), (3, .int p2), (4, .int p3)], [.int 2, .ref 165])) rfl ?_
    refine xe_sn pg_143 4 (fr' := (111, [(5, .int 0), (0, .ref 165), (1, .int 0), (2, .int 3), (3, .int p2), (4, .int p3)], [])) rfl ?_
    refine xe_sn pg_143 4 (fr' := (119, [(5, .int 0), (0, .ref 165), (1, .int 0), (2, .int 3), (3, .int p2), (4, .int p3)], [.int 0])) rfl ?_
    exact xe_end pg_143 rfl
  · exact ⟨⟨rfl, rfl, rfl, rfl⟩, Nat.le_of_ble_eq_true rfl, Nat.le_of_ble_eq_true rfl, rfl, fun q => absurd q (by decide)⟩

set_option maxRecDepth 100000 in
theorem lf_send_17 (xs : Nat → Int32) (p2 : Int32) (p3 : Int32) (a2 : 0 ≤ p2.toInt) (b2 : p2.toInt ≤ 7) (b3 : 255 < p3.toInt) : op_ok xs 164 143 [.ref 0, .int 0, .int 3, .int p2, .int p3, .ref 189] [.ref 165, .int 0, .int 3, .int p2, .int p3] := by
  refine ⟨2, 0, ?_⟩
  apply Exists.intro
  apply Exists.intro
  apply And.intro
  · refine xe_sn pg_164 4 (fr' := (5, [(0, .ref 0), (1, .int 0), (2, .int 3), (3, .int p2), (4, .int p3), (5, .ref 189)], [.int 0, .ref 0, .int 0, .ref 189])) rfl ?_
    refine xe_sn pg_164 3 (fr' := (9, [(0, .ref 0), (1, .int 0), (2, .int 3), (3, .int p2), (4, .int p3), (5, .ref 189)], [.int p3, .int p2, .int 3, .int 0, .ref 0, .int 0, .ref 189])) rfl ?_
    apply xe_callq pg_164 77 [.ref 0, .int 0, .int 3, .int p2, .int p3] (.inr 1) (23, [(0, .ref 0), (1, .int 0), (2, .int 3), (3, .int p2), (4, .int p3), (5, .ref 189)], []) rfl (fun _ => rfl)
    · refine xe_sn pg_77 1 (fr' := (1, [(0, .ref 0), (1, .int 0), (2, .int 3), (3, .int p2), (4, .int p3)], [.int 0])) rfl ?_
      apply xe_callq pg_77 92 [.int 0] (.inl none) (4, [(0, .ref 0), (1, .int 0), (2, .int 3), (3, .int p2), (4, .int p3)], []) rfl (fun _ => rfl)
      · refine xe_sn pg_92 2 (fr' := (2, [(0, .int 0)], [.int 4, .int 0])) rfl ?_
        apply xe_callq pg_92 95 [.int 0, .int 4] (.inl none) (5, [(0, .int 0)], []) rfl (fun _ => rfl)
        · refine xe_sn pg_95 4 (fr' := (6, [(0, .int 0), (1, .int 4)], [.int 4, .int 0])) rfl ?_
          refine xe_sn pg_95 1 (fr' := (17, [(0, .int 0), (1, .int 4)], [])) rfl ?_
          exact xe_end pg_95 rfl
        exact xe_end pg_92 rfl
      refine xe_sn pg_77 1 (fr' := (5, [(0, .ref 0), (1, .int 0), (2, .int 3), (3, .int p2), (4, .int p3)], [.int 3])) rfl ?_
      apply xe_callq pg_77 94 [.int 3] (.inl none) (8, [(0, .ref 0), (1, .int 0), (2, .int 3), (3, .int p2), (4, .int p3)], []) rfl (fun _ => rfl)
      · refine xe_sn pg_94 1 (fr' := (1, [(0, .int 3)], [.int 3])) rfl ?_
        apply xe_callq pg_94 100 [.int 3] (.inl (some (.int 1))) (4, [(0, .int 3)], [.int 1]) rfl (fun _ => rfl)
        · refine xe_sn pg_100 4 (fr' := (6, [(0, .int 3)], [.int 3])) rfl ?_
          refine xe_sn pg_100 4 (fr' := (15, [(0, .int 3)], [.int 1])) rfl ?_
          exact xe_end pg_100 rfl
        refine xe_sn pg_94 1 (fr' := (15, [(0, .int 3)], [])) rfl ?_
        exact xe_end pg_94 rfl
      refine xe_sn pg_77 1 (fr' := (9, [(0, .ref 0), (1, .int 0), (2, .int 3), (3, .int p2), (4, .int p3)], [.int p2])) rfl ?_
      refine xe_f1 pg_77 22 rfl rfl (by show ¬ ((p2).toInt < 0); omega) ?_
      refine xe_sn pg_77 2 (fr' := (15, [(0, .ref 0), (1, .int 0), (2, .int 3), (3, .int p2), (4, .int p3)], [.int 7, .int p2])) rfl ?_
      refine xe_f2 pg_77 22 rfl rfl (by show ¬ (7 < (p2).toInt); omega) ?_
      refine xe_sn pg_77 2 (fr' := (23, [(0, .ref 0), (1, .int 0), (2, .int 3), (3, .int p2), (4, .int p3)], [.int 1])) rfl ?_
      apply xe_callq pg_77 97 [.int 1] (.inl none) (26, [(0, .ref 0), (1, .int 0), (2, .int 3), (3, .int p2), (4, .int p3)], []) rfl (fun _ => rfl)
      · refine xe_sn pg_97 2 (fr' := (12, [(0, .int 1)], [])) rfl ?_
        exact xe_end pg_97 rfl
      refine xe_sn pg_77 1 (fr' := (28, [(0, .ref 0), (1, .int 0), (2, .int 3), (3, .int p2), (4, .int p3)], [.int p3])) rfl ?_
      apply xe_callq pg_77 99 [.int p3] (.inl (some (.int 0))) (31, [(0, .ref 0), (1, .int 0), (2, .int 3), (3, .int p2), (4, .int p3)], [.int 0]) rfl (fun _ => rfl)
      · refine xe_sn pg_99 1 (fr' := (1, [(0, .int p3)], [.int p3])) rfl ?_
        refine xe_f1 pg_99 15 rfl rfl (by show ¬ ((p3).toInt < 0); omega) ?_
        refine xe_sn pg_99 2 (fr' := (8, [(0, .int p3)], [.int 255, .int p3])) rfl ?_
        refine xe_t2 pg_99 15 rfl rfl (by show 255 < (p3).toInt; omega) ?_
        refine xe_sn pg_99 1 (fr' := (16, [(0, .int p3)], [.int 0])) rfl ?_
        exact xe_end pg_99 rfl
      apply xe_callqx pg_77 97 [.int 0] 1 rfl (fun _ => rfl)
      · refine xe_sn pg_97 2 (fr' := (4, [(0, .int 0)], [])) rfl ?_
        exact xe_end pg_97 rfl
    refine xe_sn pg_164 1 (fr' := (24, [(0, .ref 0), (1, .int 0), (2, .int 3), (3, .int p2), (4, .int p3), (5, .ref 189)], [.int 2])) rfl ?_
    exact xe_end pg_164 rfl
  refine And.intro ⟨rfl, rfl, rfl, rfl⟩ ?_
  apply And.intro
  · refine xe_sn pg_143 2 (fr' := (2, [(0, .ref 165), (1, .int 0), (2, .int 3), (3, .int p2), (4, .int p3)], [.int 0, .ref 165])) rfl ?_
    apply xe_callq pg_143 104 [.int 0] (.inl (some (.int 1))) (5, [(0, .ref 165), (1, .int 0), (2, .int 3), (3, .int p2), (4, .int p3)], [.int 1, .ref 165]) rfl (fun _ => rfl)
    · refine xe_sn pg_104 3 (fr' := (3, [(0, .int 0)], [.int 3, .int 0, .int 0])) rfl ?_
      apply xe_callq pg_104 103 [.int 0, .int 0, .int 3] (.inl (some (.int 1))) (6, [(0, .int 0)], [.int 1]) rfl (fun _ => rfl)
      · refine xe_sn pg_103 4 (fr' := (6, [(0, .int 0), (1, .int 0), (2, .int 3)], [.int 0])) rfl ?_
        refine xe_sn pg_103 4 (fr' := (15, [(0, .int 0), (1, .int 0), (2, .int 3)], [.int 1])) rfl ?_
        exact xe_end pg_103 rfl
      exact xe_end pg_104 rfl
    refine xe_sn pg_143 4 (fr' := (11, [(0, .ref 165), (1, .int 0), (2, .int 3), (3, .int p2), (4, .int p3)], [.int 3, .int 1, .int 3, .ref 165])) rfl ?_
    apply xe_callq pg_143 103 [.int 3, .int 1, .int 3] (.inl (some (.int 1))) (14, [(0, .ref 165), (1, .int 0), (2, .int 3), (3, .int p2), (4, .int p3)], [.int 1, .ref 165]) rfl (fun _ => rfl)
    · refine xe_sn pg_103 4 (fr' := (6, [(0, .int 3), (1, .int 1), (2, .int 3)], [.int 3])) rfl ?_
      refine xe_sn pg_103 4 (fr' := (15, [(0, .int 3), (1, .int 1), (2, .int 3)], [.int 1])) rfl ?_
      exact xe_end pg_103 rfl
    refine xe_sn pg_143 4 (fr' := (25, [(0, .ref 165), (1, .int 0), (2, .int 3), (3, .int p2), (4, .int p3)], [.int 7, .int 0, .int p2, .ref 165])) rfl ?_
    apply xe_callq pg_143 103 [.int p2, .int 0, .int 7] (.inl (some (.int 1))) (28, [(0, .ref 165), (1, .int 0), (2, .int 3), (3, .int p2), (4, .int p3)], [.int 1, .ref 165]) rfl (fun _ => rfl)
    · refine xe_sn pg_103 2 (fr' := (2, [(0, .int p2), (1, .int 0), (2, .int 7)], [.int 0, .int p2])) rfl ?_
      refine xe_f2 pg_103 14 rfl rfl (by show ¬ ((p2).toInt < 0); omega) ?_
      refine xe_sn pg_103 2 (fr' := (7, [(0, .int p2), (1, .int 0), (2, .int 7)], [.int 7, .int p2])) rfl ?_
      refine xe_f2 pg_103 14 rfl rfl (by show ¬ (7 < (p2).toInt); omega) ?_
      refine xe_sn pg_103 2 (fr' := (15, [(0, .int p2), (1, .int 0), (2, .int 7)], [.int 1])) rfl ?_
      exact xe_end pg_103 rfl
    refine xe_sn pg_143 4 (fr' := (37, [(0, .ref 165), (1, .int 0), (2, .int 3), (3, .int p2), (4, .int p3)], [.int 255, .int 0, .int p3, .ref 165])) rfl ?_
    apply xe_callq pg_143 103 [.int p3, .int 0, .int 255] (.inl (some (.int 0))) (40, [(0, .ref 165), (1, .int 0), (2, .int 3), (3, .int p2), (4, .int p3)], [.int 0, .ref 165]) rfl (fun _ => rfl)
    · refine xe_sn pg_103 2 (fr' := (2, [(0, .int p3), (1, .int 0), (2, .int 255)], [.int 0, .int p3])) rfl ?_
      refine xe_f2 pg_103 14 rfl rfl (by show ¬ ((p3).toInt < 0); omega) ?_
      refine xe_sn pg_103 2 (fr' := (7, [(0, .int p3), (1, .int 0), (2, .int 255)], [.int 255, .int p3])) rfl ?_
      refine xe_t2 pg_103 14 rfl rfl (by show 255 < (p3).toInt; omega) ?_
      refine xe_sn pg_103 1 (fr' := (15, [(0, .int p3), (1, .int 0), (2, .int 255)], [.int 0])) rfl ?_
      exact xe_end pg_103 rfl
    refine xe_sn pg_143 4 (fr' := (51, [(0, .ref 165), (1, .int 0), (2, .int 3), (3, .int p2), (4, .int p3)], [])) rfl ?_
    refine xe_sn pg_143 4 (fr' := (69, [(0, .ref 165), (1, .int 0), (2, .int 3), (3, .int p2), (4, .int p3)], [.int 0])) rfl ?_
    refine xe_sn pg_143 4 (fr' := (76, [(5, .int 0), (0, .ref 165), (1, .int 0), (2, .int 3), (3, .int p2), (4, .int p3)], [.int 2, .ref 165])) rfl ?_
    refine xe_sn pg_143 4 (fr' := (111, [(5, .int 0), (0, .ref 165), (1, .int 0), (2, .int 3), (3, .int p2), (4, .int p3)], [])) rfl ?_
    refine xe_sn pg_143 4 (fr' := (119, [(5, .int 0), (0, .ref 165), (1, .int 0), (2, .int 3), (3, .int p2), (4, .int p3)], [.int 0])) rfl ?_
    exact xe_end pg_143 rfl
  · exact ⟨⟨rfl, rfl, rfl, rfl⟩, Nat.le_of_ble_eq_true rfl, Nat.le_of_ble_eq_true rfl, rfl, fun q => absurd q (by decide)⟩

set_option maxRecDepth 100000 in
theorem lf_send_18 (xs : Nat → Int32) (p2 : Int32) (p3 : Int32) (a2 : 0 ≤ p2.toInt) (b2 : p2.toInt ≤ 7) (a3 : 0 ≤ p3.toInt) (b3 : p3.toInt ≤ 255) : op_ok xs 164 143 [.ref 0, .int 0, .int 3, .int p2, .int p3, .ref 189] [.ref 165, .int 0, .int 3, .int p2, .int p3] := by
  refine ⟨3, 0, ?_⟩
  apply Exists.intro
  apply Exists.intro
  apply And.intro
  · refine xe_sn pg_164 4 (fr' := (5, [(0, .ref 0), (1, .int 0), (2, .int 3), (3, .int p2), (4, .int p3), (5, .ref 189)], [.int 0, .ref 0, .int 0, .ref 189])) rfl ?_
    refine xe_sn pg_164 3 (fr' := (9, [(0, .ref 0), (1, .int 0), (2, .int 3), (3, .int p2), (4, .int p3), (5, .ref 189)], [.int p3, .int p2, .int 3, .int 0, .ref 0, .int 0, .ref 189])) rfl ?_
    apply xe_callq pg_164 77 [.ref 0, .int 0, .int 3, .int p2, .int p3] (.inr 2) (27, [(0, .ref 0), (1, .int 0), (2, .int 3), (3, .int p2), (4, .int p3), (5, .ref 189)], []) rfl (fun _ => rfl)
    · refine xe_sn pg_77 1 (fr' := (1, [(0, .ref 0), (1, .int 0), (2, .int 3), (3, .int p2), (4, .int p3)], [.int 0])) rfl ?_
      apply xe_callq pg_77 92 [.int 0] (.inl none) (4, [(0, .ref 0), (1, .int 0), (2, .int 3), (3, .int p2), (4, .int p3)], []) rfl (fun _ => rfl)
      · refine xe_sn pg_92 2 (fr' := (2, [(0, .int 0)], [.int 4, .int 0])) rfl ?_
        apply xe_callq pg_92 95 [.int 0, .int 4] (.inl none) (5, [(0, .int 0)], []) rfl (fun _ => rfl)
        · refine xe_sn pg_95 4 (fr' := (6, [(0, .int 0), (1, .int 4)], [.int 4, .int 0])) rfl ?_
          refine xe_sn pg_95 1 (fr' := (17, [(0, .int 0), (1, .int 4)], [])) rfl ?_
          exact xe_end pg_95 rfl
        exact xe_end pg_92 rfl
      refine xe_sn pg_77 1 (fr' := (5, [(0, .ref 0), (1, .int 0), (2, .int 3), (3, .int p2), (4, .int p3)], [.int 3])) rfl ?_
      apply xe_callq pg_77 94 [.int 3] (.inl none) (8, [(0, .ref 0), (1, .int 0), (2, .int 3), (3, .int p2), (4, .int p3)], []) rfl (fun _ => rfl)
      · refine xe_sn pg_94 1 (fr' := (1, [(0, .int 3)], [.int 3])) rfl ?_
        apply xe_callq pg_94 100 [.int 3] (.inl (some (.int 1))) (4, [(0, .int 3)], [.int 1]) rfl (fun _ => rfl)
        · refine xe_sn pg_100 4 (fr' := (6, [(0, .int 3)], [.int 3])) rfl ?_
          refine xe_sn pg_100 4 (fr' := (15, [(0, .int 3)], [.int 1])) rfl ?_
          exact xe_end pg_100 rfl
        refine xe_sn pg_94 1 (fr' := (15, [(0, .int 3)], [])) rfl ?_
        exact xe_end pg_94 rfl
      refine xe_sn pg_77 1 (fr' := (9, [(0, .ref 0), (1, .int 0), (2, .int 3), (3, .int p2), (4, .int p3)], [.int p2])) rfl ?_
      refine xe_f1 pg_77 22 rfl rfl (by show ¬ ((p2).toInt < 0); omega) ?_
      refine xe_sn pg_77 2 (fr' := (15, [(0, .ref 0), (1, .int 0), (2, .int 3), (3, .int p2), (4, .int p3)], [.int 7, .int p2])) rfl ?_
      refine xe_f2 pg_77 22 rfl rfl (by show ¬ (7 < (p2).toInt); omega) ?_
      refine xe_sn pg_77 2 (fr' := (23, [(0, .ref 0), (1, .int 0), (2, .int 3), (3, .int p2), (4, .int p3)], [.int 1])) rfl ?_
      apply xe_callq pg_77 97 [.int 1] (.inl none) (26, [(0, .ref 0), (1, .int 0), (2, .int 3), (3, .int p2), (4, .int p3)], []) rfl (fun _ => rfl)
      · refine xe_sn pg_97 2 (fr' := (12, [(0, .int 1)], [])) rfl ?_
        exact xe_end pg_97 rfl
      refine xe_sn pg_77 1 (fr' := (28, [(0, .ref 0), (1, .int 0), (2, .int 3), (3, .int p2), (4, .int p3)], [.int p3])) rfl ?_
      apply xe_callq pg_77 99 [.int p3] (.inl (some (.int 1))) (31, [(0, .ref 0), (1, .int 0), (2, .int 3), (3, .int p2), (4, .int p3)], [.int 1]) rfl (fun _ => rfl)
      · refine xe_sn pg_99 1 (fr' := (1, [(0, .int p3)], [.int p3])) rfl ?_
        refine xe_f1 pg_99 15 rfl rfl (by show ¬ ((p3).toInt < 0); omega) ?_
        refine xe_sn pg_99 2 (fr' := (8, [(0, .int p3)], [.int 255, .int p3])) rfl ?_
        refine xe_f2 pg_99 15 rfl rfl (by show ¬ (255 < (p3).toInt); omega) ?_
        refine xe_sn pg_99 2 (fr' := (16, [(0, .int p3)], [.int 1])) rfl ?_
        exact xe_end pg_99 rfl
      apply xe_callq pg_77 97 [.int 1] (.inl none) (34, [(0, .ref 0), (1, .int 0), (2, .int 3), (3, .int p2), (4, .int p3)], []) rfl (fun _ => rfl)
      · refine xe_sn pg_97 2 (fr' := (12, [(0, .int 1)], [])) rfl ?_
        exact xe_end pg_97 rfl
      refine xe_sn pg_77 4 (fr' := (40, [(0, .ref 0), (1, .int 0), (2, .int 3), (3, .int p2), (4, .int p3)], [.ref 121])) rfl ?_
      refine xe_sn pg_77 4 (fr' := (46, [(0, .ref 0), (1, .int 0), (2, .int 3), (3, .int p2), (4, .int p3)], [.int 2, .ref 127])) rfl ?_
      refine xe_sn pg_77 4 (fr' := (54, [(5, .ref 131), (0, .ref 0), (1, .int 0), (2, .int 3), (3, .int p2), (4, .int p3)], [.int 0])) rfl ?_
      refine xe_sn pg_77 3 (fr' := (71, [(5, .ref 131), (0, .ref 0), (1, .int 0), (2, .int 3), (3, .int p2), (4, .int p3)], [.int 0])) rfl ?_
      apply xe_callqx pg_77 98 [.int 0] 2 rfl (fun _ => rfl)
      · refine xe_sn pg_98 2 (fr' := (4, [(0, .int 0)], [])) rfl ?_
        exact xe_end pg_98 rfl
    refine xe_sn pg_164 1 (fr' := (28, [(0, .ref 0), (1, .int 0), (2, .int 3), (3, .int p2), (4, .int p3), (5, .ref 189)], [.int 3])) rfl ?_
    exact xe_end pg_164 rfl
  refine And.intro ⟨rfl, rfl, rfl, rfl⟩ ?_
  apply And.intro
  · refine xe_sn pg_143 2 (fr' := (2, [(0, .ref 165), (1, .int 0), (2, .int 3), (3, .int p2), (4, .int p3)], [.int 0, .ref 165])) rfl ?_
    apply xe_callq pg_143 104 [.int 0] (.inl (some (.int 1))) (5, [(0, .ref 165), (1, .int 0), (2, .int 3), (3, .int p2), (4, .int p3)], [.int 1, .ref 165]) rfl (fun _ => rfl)
    · refine xe_sn pg_104 3 (fr' := (3, [(0, .int 0)], [.int 3, .int 0, .int 0])) rfl ?_
      apply xe_callq pg_104 103 [.int 0, .int 0, .int 3] (.inl (some (.int 1))) (6, [(0, .int 0)], [.int 1]) rfl (fun _ => rfl)
      · refine xe_sn pg_103 4 (fr' := (6, [(0, .int 0), (1, .int 0), (2, .int 3)], [.int 0])) rfl ?_
        refine xe_sn pg_103 4 (fr' := (15, [(0, .int 0), (1, .int 0), (2, .int 3)], [.int 1])) rfl ?_
        exact xe_end pg_103 rfl
      exact xe_end pg_104 rfl
    refine xe_sn pg_143 4 (fr' := (11, [(0, .ref 165), (1, .int 0), (2, .int 3), (3, .int p2), (4, .int p3)], [.int 3, .int 1, .int 3, .ref 165])) rfl ?_
    apply xe_callq pg_143 103 [.int 3, .int 1, .int 3] (.inl (some (.int 1))) (14, [(0, .ref 165), (1, .int 0), (2, .int 3), (3, .int p2), (4, .int p3)], [.int 1, .ref 165]) rfl (fun _ => rfl)
    · refine xe_sn pg_103 4 (fr' := (6, [(0, .int 3), (1, .int 1), (2, .int 3)], [.int 3])) rfl ?_
      refine xe_sn pg_103 4 (fr' := (15, [(0, .int 3), (1, .int 1), (2, .int 3)], [.int 1])) rfl ?_
      exact xe_end pg_103 rfl
    refine xe_sn pg_143 4 (fr' := (25, [(0, .ref 165), (1, .int 0), (2, .int 3), (3, .int p2), (4, .int p3)], [.int 7, .int 0, .int p2, .ref 165])) rfl ?_
    apply xe_callq pg_143 103 [.int p2, .int 0, .int 7] (.inl (some (.int 1))) (28, [(0, .ref 165), (1, .int 0), (2, .int 3), (3, .int p2), (4, .int p3)], [.int 1, .ref 165]) rfl (fun _ => rfl)
    · refine xe_sn pg_103 2 (fr' := (2, [(0, .int p2), (1, .int 0), (2, .int 7)], [.int 0, .int p2])) rfl ?_
      refine xe_f2 pg_103 14 rfl rfl (by show ¬ ((p2).toInt < 0); omega) ?_
      refine xe_sn pg_103 2 (fr' := (7, [(0, .int p2), (1, .int 0), (2, .int 7)], [.int 7, .int p2])) rfl ?_
      refine xe_f2 pg_103 14 rfl rfl (by show ¬ (7 < (p2).toInt); omega) ?_
      refine xe_sn pg_103 2 (fr' := (15, [(0, .int p2), (1, .int 0), (2, .int 7)], [.int 1])) rfl ?_
      exact xe_end pg_103 rfl
    refine xe_sn pg_143 4 (fr' := (37, [(0, .ref 165), (1, .int 0), (2, .int 3), (3, .int p2), (4, .int p3)], [.int 255, .int 0, .int p3, .ref 165])) rfl ?_
    apply xe_callq pg_143 103 [.int p3, .int 0, .int 255] (.inl (some (.int 1))) (40, [(0, .ref 165), (1, .int 0), (2, .int 3), (3, .int p2), (4, .int p3)], [.int 1, .ref 165]) rfl (fun _ => rfl)
    · refine xe_sn pg_103 2 (fr' := (2, [(0, .int p3), (1, .int 0), (2, .int 255)], [.int 0, .int p3])) rfl ?_
      refine xe_f2 pg_103 14 rfl rfl (by show ¬ ((p3).toInt < 0); omega) ?_
      refine xe_sn pg_103 2 (fr' := (7, [(0, .int p3), (1, .int 0), (2, .int 255)], [.int 255, .int p3])) rfl ?_
      refine xe_f2 pg_103 14 rfl rfl (by show ¬ (255 < (p3).toInt); omega) ?_
      refine xe_sn pg_103 2 (fr' := (15, [(0, .int p3), (1, .int 0), (2, .int 255)], [.int 1])) rfl ?_
      exact xe_end pg_103 rfl
    refine xe_sn pg_143 4 (fr' := (52, [(0, .ref 165), (1, .int 0), (2, .int 3), (3, .int p2), (4, .int p3)], [.ref 165])) rfl ?_
    refine xe_sn pg_143 4 (fr' := (60, [(0, .ref 165), (1, .int 0), (2, .int 3), (3, .int p2), (4, .int p3)], [.int 0, .int 3])) rfl ?_
    refine xe_sn pg_143 4 (fr' := (64, [(0, .ref 165), (1, .int 0), (2, .int 3), (3, .int p2), (4, .int p3)], [.int 1, .int 3])) rfl ?_
    refine xe_sn pg_143 4 (fr' := (72, [(5, .int 2), (0, .ref 165), (1, .int 0), (2, .int 3), (3, .int p2), (4, .int p3)], [.ref 165])) rfl ?_
    refine xe_sn pg_143 4 (fr' := (80, [(5, .int 2), (0, .ref 165), (1, .int 0), (2, .int 3), (3, .int p2), (4, .int p3)], [.ref 165, .ref 165])) rfl ?_
    refine xe_sn pg_143 4 (fr' := (87, [(5, .int 2), (0, .ref 165), (1, .int 0), (2, .int 3), (3, .int p2), (4, .int p3)], [.int 2, .int 0, .ref 165])) rfl ?_
    refine xe_sn pg_143 4 (fr' := (111, [(5, .int 2), (0, .ref 165), (1, .int 0), (2, .int 3), (3, .int p2), (4, .int p3)], [])) rfl ?_
    refine xe_sn pg_143 4 (fr' := (119, [(5, .int 2), (0, .ref 165), (1, .int 0), (2, .int 3), (3, .int p2), (4, .int p3)], [.int 0])) rfl ?_
    exact xe_end pg_143 rfl
  · exact ⟨⟨rfl, rfl, rfl, rfl⟩, Nat.le_of_ble_eq_true rfl, Nat.le_of_ble_eq_true rfl, rfl, fun q => absurd q (by decide)⟩

set_option maxRecDepth 100000 in
theorem lf_send_19 (xs : Nat → Int32) (p1 : Int32) (p2 : Int32) (p3 : Int32) (a1 : p1.toInt < 1) : op_ok xs 164 143 [.ref 0, .int 1, .int p1, .int p2, .int p3, .ref 189] [.ref 165, .int 1, .int p1, .int p2, .int p3] := by
  refine ⟨1, 0, ?_⟩
  apply Exists.intro
  apply Exists.intro
  apply And.intro
  · refine xe_sn pg_164 4 (fr' := (5, [(0, .ref 0), (1, .int 1), (2, .int p1), (3, .int p2), (4, .int p3), (5, .ref 189)], [.int 1, .ref 0, .int 0, .ref 189])) rfl ?_
    refine xe_sn pg_164 3 (fr' := (9, [(0, .ref 0), (1, .int 1), (2, .int p1), (3, .int p2), (4, .int p3), (5, .ref 189)], [.int p3, .int p2, .int p1, .int 1, .ref 0, .int 0, .ref 189])) rfl ?_
    apply xe_callq pg_164 77 [.ref 0, .int 1, .int p1, .int p2, .int p3] (.inr 0) (19, [(0, .ref 0), (1, .int 1), (2, .int p1), (3, .int p2), (4, .int p3), (5, .ref 189)], []) rfl (fun _ => rfl)
    · refine xe_sn pg_77 1 (fr' := (1, [(0, .ref 0), (1, .int 1), (2, .int p1), (3, .int p2), (4, .int p3)], [.int 1])) rfl ?_
      apply xe_callq pg_77 92 [.int 1] (.inl none) (4, [(0, .ref 0), (1, .int 1), (2, .int p1), (3, .int p2), (4, .int p3)], []) rfl (fun _ => rfl)
      · refine xe_sn pg_92 2 (fr' := (2, [(0, .int 1)], [.int 4, .int 1])) rfl ?_
        apply xe_callq pg_92 95 [.int 1, .int 4] (.inl none) (5, [(0, .int 1)], []) rfl (fun _ => rfl)
        · refine xe_sn pg_95 4 (fr' := (6, [(0, .int 1), (1, .int 4)], [.int 4, .int 1])) rfl ?_
          refine xe_sn pg_95 1 (fr' := (17, [(0, .int 1), (1, .int 4)], [])) rfl ?_
          exact xe_end pg_95 rfl
        exact xe_end pg_92 rfl
      refine xe_sn pg_77 1 (fr' := (5, [(0, .ref 0), (1, .int 1), (2, .int p1), (3, .int p2), (4, .int p3)], [.int p1])) rfl ?_
      apply xe_callqx pg_77 94 [.int p1] 0 rfl (fun _ => rfl)
      · refine xe_sn pg_94 1 (fr' := (1, [(0, .int p1)], [.int p1])) rfl ?_
        apply xe_callq pg_94 100 [.int p1] (.inl (some (.int 0))) (4, [(0, .int p1)], [.int 0]) rfl (fun _ => rfl)
        · refine xe_sn pg_100 2 (fr' := (2, [(0, .int p1)], [.int 1, .int p1])) rfl ?_
          refine xe_t2 pg_100 14 rfl rfl (by show (p1).toInt < 1; omega) ?_
          refine xe_sn pg_100 1 (fr' := (15, [(0, .int p1)], [.int 0])) rfl ?_
          exact xe_end pg_100 rfl
        refine xe_sn pg_94 1 (fr' := (7, [(0, .int p1)], [])) rfl ?_
        exact xe_end pg_94 rfl
    refine xe_sn pg_164 1 (fr' := (20, [(0, .ref 0), (1, .int 1), (2, .int p1), (3, .int p2), (4, .int p3), (5, .ref 189)], [.int 1])) rfl ?_
    exact xe_end pg_164 rfl
  refine And.intro ⟨rfl, rfl, rfl, rfl⟩ ?_
  apply And.intro
  · refine xe_sn pg_143 2 (fr' := (2, [(0, .ref 165), (1, .int 1), (2, .int p1), (3, .int p2), (4, .int p3)], [.int 1, .ref 165])) rfl ?_
    apply xe_callq pg_143 104 [.int 1] (.inl (some (.int 1))) (5, [(0, .ref 165), (1, .int 1), (2, .int p1), (3, .int p2), (4, .int p3)], [.int 1, .ref 165]) rfl (fun _ => rfl)
    · refine xe_sn pg_104 3 (fr' := (3, [(0, .int 1)], [.int 3, .int 0, .int 1])) rfl ?_
      apply xe_callq pg_104 103 [.int 1, .int 0, .int 3] (.inl (some (.int 1))) (6, [(0, .int 1)], [.int 1]) rfl (fun _ => rfl)
      · refine xe_sn pg_103 4 (fr' := (6, [(0, .int 1), (1, .int 0), (2, .int 3)], [.int 1])) rfl ?_
        refine xe_sn pg_103 4 (fr' := (15, [(0, .int 1), (1, .int 0), (2, .int 3)], [.int 1])) rfl ?_
        exact xe_end pg_103 rfl
      exact xe_end pg_104 rfl
    refine xe_sn pg_143 4 (fr' := (11, [(0, .ref 165), (1, .int 1), (2, .int p1), (3, .int p2), (4, .int p3)], [.int 3, .int 1, .int p1, .ref 165])) rfl ?_
    apply xe_callq pg_143 103 [.int p1, .int 1, .int 3] (.inl (some (.int 0))) (14, [(0, .ref 165), (1, .int 1), (2, .int p1), (3, .int p2), (4, .int p3)], [.int 0, .ref 165]) rfl (fun _ => rfl)
    · refine xe_sn pg_103 2 (fr' := (2, [(0, .int p1), (1, .int 1), (2, .int 3)], [.int 1, .int p1])) rfl ?_
      refine xe_t2 pg_103 14 rfl rfl (by show (p1).toInt < 1; omega) ?_
      refine xe_sn pg_103 1 (fr' := (15, [(0, .int p1), (1, .int 1), (2, .int 3)], [.int 0])) rfl ?_
      exact xe_end pg_103 rfl
    refine xe_sn pg_143 4 (fr' := (51, [(0, .ref 165), (1, .int 1), (2, .int p1), (3, .int p2), (4, .int p3)], [])) rfl ?_
    refine xe_sn pg_143 4 (fr' := (69, [(0, .ref 165), (1, .int 1), (2, .int p1), (3, .int p2), (4, .int p3)], [.int 0])) rfl ?_
    refine xe_sn pg_143 4 (fr' := (76, [(5, .int 0), (0, .ref 165), (1, .int 1), (2, .int p1), (3, .int p2), (4, .int p3)], [.int 1, .ref 165])) rfl ?_
    refine xe_sn pg_143 4 (fr' := (111, [(5, .int 0), (0, .ref 165), (1, .int 1), (2, .int p1), (3, .int p2), (4, .int p3)], [])) rfl ?_
    refine xe_sn pg_143 4 (fr' := (119, [(5, .int 0), (0, .ref 165), (1, .int 1), (2, .int p1), (3, .int p2), (4, .int p3)], [.int 0])) rfl ?_
    exact xe_end pg_143 rfl
  · exact ⟨⟨rfl, rfl, rfl, rfl⟩, Nat.le_of_ble_eq_true rfl, Nat.le_of_ble_eq_true rfl, rfl, fun q => absurd q (by decide)⟩

set_option maxRecDepth 100000 in
theorem lf_send_20 (xs : Nat → Int32) (p1 : Int32) (p2 : Int32) (p3 : Int32) (b1 : 3 < p1.toInt) : op_ok xs 164 143 [.ref 0, .int 1, .int p1, .int p2, .int p3, .ref 189] [.ref 165, .int 1, .int p1, .int p2, .int p3] := by
  refine ⟨1, 0, ?_⟩
  apply Exists.intro
  apply Exists.intro
  apply And.intro
  · refine xe_sn pg_164 4 (fr' := (5, [(0, .ref 0), (1, .int 1), (2, .int p1), (3, .int p2), (4, .int p3), (5, .ref 189)], [.int 1, .ref 0, .int 0, .ref 189])) rfl ?_
    refine xe_sn pg_164 3 (fr' := (9, [(0, .ref 0), (1, .int 1), (2, .int p1), (3, .int p2), (4, .int p3), (5, .ref 189)], [.int p3, .int p2, .int p1, .int 1, .ref 0, .int 0, .ref 189])) rfl ?_
    apply xe_callq pg_164 77 [.ref 0, .int 1, .int p1, .int p2, .int p3] (.inr 0) (19, [(0, .ref 0), (1, .int 1), (2, .int p1), (3, .int p2), (4, .int p3), (5, .ref 189)], []) rfl (fun _ => rfl)
    · refine xe_sn pg_77 1 (fr' := (1, [(0, .ref 0), (1, .int 1), (2, .int p1), (3, .int p2), (4, .int p3)], [.int 1])) rfl ?_
      apply xe_callq pg_77 92 [.int 1] (.inl none) (4, [(0, .ref 0), (1, .int 1), (2, .int p1), (3, .int p2), (4, .int p3)], []) rfl (fun _ => rfl)
      · refine xe_sn pg_92 2 (fr' := (2, [(0, .int 1)], [.int 4, .int 1])) rfl ?_
        apply xe_callq pg_92 95 [.int 1, .int 4] (.inl none) (5, [(0, .int 1)], []) rfl (fun _ => rfl)
        · refine xe_sn pg_95 4 (fr' := (6, [(0, .int 1), (1, .int 4)], [.int 4, .int 1])) rfl ?_
          refine xe_sn pg_95 1 (fr' := (17, [(0, .int 1), (1, .int 4)], [])) rfl ?_
          exact xe_end pg_95 rfl
        exact xe_end pg_92 rfl
      refine xe_sn pg_77 1 (fr' := (5, [(0, .ref 0), (1, .int 1), (2, .int p1), (3, .int p2), (4, .int p3)], [.int p1])) rfl ?_
      apply xe_callqx pg_77 94 [.int p1] 0 rfl (fun _ => rfl)
      · refine xe_sn pg_94 1 (fr' := (1, [(0, .int p1)], [.int p1])) rfl ?_
        apply xe_callq pg_94 100 [.int p1] (.inl (some (.int 0))) (4, [(0, .int p1)], [.int 0]) rfl (fun _ => rfl)
        · refine xe_sn pg_100 2 (fr' := (2, [(0, .int p1)], [.int 1, .int p1])) rfl ?_
          refine xe_f2 pg_100 14 rfl rfl (by show ¬ ((p1).toInt < 1); omega) ?_
          refine xe_sn pg_100 2 (fr' := (7, [(0, .int p1)], [.int 3, .int p1])) rfl ?_
          refine xe_t2 pg_100 14 rfl rfl (by show 3 < (p1).toInt; omega) ?_
          refine xe_sn pg_100 1 (fr' := (15, [(0, .int p1)], [.int 0])) rfl ?_
          exact xe_end pg_100 rfl
        refine xe_sn pg_94 1 (fr' := (7, [(0, .int p1)], [])) rfl ?_
        exact xe_end pg_94 rfl
    refine xe_sn pg_164 1 (fr' := (20, [(0, .ref 0), (1, .int 1), (2, .int p1), (3, .int p2), (4, .int p3), (5, .ref 189)], [.int 1])) rfl ?_
    exact xe_end pg_164 rfl
  refine And.intro ⟨rfl, rfl, rfl, rfl⟩ ?_
  apply And.intro
  · refine xe_sn pg_143 2 (fr' := (2, [(0, .ref 165), (1, .int 1), (2, .int p1), (3, .int p2), (4, .int p3)], [.int 1, .ref 165])) rfl ?_
    apply xe_callq pg_143 104 [.int 1] (.inl (some (.int 1))) (5, [(0, .ref 165), (1, .int 1), (2, .int p1), (3, .int p2), (4, .int p3)], [.int 1, .ref 165]) rfl (fun _ => rfl)
    · refine xe_sn pg_104 3 (fr' := (3, [(0, .int 1)], [.int 3, .int 0, .int 1])) rfl ?_
      apply xe_callq pg_104 103 [.int 1, .int 0, .int 3] (.inl (some (.int 1))) (6, [(0, .int 1)], [.int 1]) rfl (fun _ => rfl)
      · refine xe_sn pg_103 4 (fr' := (6, [(0, .int 1), (1, .int 0), (2, .int 3)], [.int 1])) rfl ?_
        refine xe_sn pg_103 4 (fr' := (15, [(0, .int 1), (1, .int 0), (2, .int 3)], [.int 1])) rfl ?_
        exact xe_end pg_103 rfl
      exact xe_end pg_104 rfl
    refine xe_sn pg_143 4 (fr' := (11, [(0, .ref 165), (1, .int 1), (2, .int p1), (3, .int p2), (4, .int p3)], [.int 3, .int 1, .int p1, .ref 165])) rfl ?_
    apply xe_callq pg_143 103 [.int p1, .int 1, .int 3] (.inl (some (.int 0))) (14, [(0, .ref 165), (1, .int 1), (2, .int p1), (3, .int p2), (4, .int p3)], [.int 0, .ref 165]) rfl (fun _ => rfl)
    · refine xe_sn pg_103 2 (fr' := (2, [(0, .int p1), (1, .int 1), (2, .int 3)], [.int 1, .int p1])) rfl ?_
      refine xe_f2 pg_103 14 rfl rfl (by show ¬ ((p1).toInt < 1); omega) ?_
      refine xe_sn pg_103 2 (fr' := (7, [(0, .int p1), (1, .int 1), (2, .int 3)], [.int 3, .int p1])) rfl ?_
      refine xe_t2 pg_103 14 rfl rfl (by show 3 < (p1).toInt; omega) ?_
      refine xe_sn pg_103 1 (fr' := (15, [(0, .int p1), (1, .int 1), (2, .int 3)], [.int 0])) rfl ?_
      exact xe_end pg_103 rfl
    refine xe_sn pg_143 4 (fr' := (51, [(0, .ref 165), (1, .int 1), (2, .int p1), (3, .int p2), (4, .int p3)], [])) rfl ?_
    refine xe_sn pg_143 4 (fr' := (69, [(0, .ref 165), (1, .int 1), (2, .int p1), (3, .int p2), (4, .int p3)], [.int 0])) rfl ?_
    refine xe_sn pg_143 4 (fr' := (76, [(5, .int 0), (0, .ref 165), (1, .int 1), (2, .int p1), (3, .int p2), (4, .int p3)], [.int 1, .ref 165])) rfl ?_
    refine xe_sn pg_143 4 (fr' := (111, [(5, .int 0), (0, .ref 165), (1, .int 1), (2, .int p1), (3, .int p2), (4, .int p3)], [])) rfl ?_
    refine xe_sn pg_143 4 (fr' := (119, [(5, .int 0), (0, .ref 165), (1, .int 1), (2, .int p1), (3, .int p2), (4, .int p3)], [.int 0])) rfl ?_
    exact xe_end pg_143 rfl
  · exact ⟨⟨rfl, rfl, rfl, rfl⟩, Nat.le_of_ble_eq_true rfl, Nat.le_of_ble_eq_true rfl, rfl, fun q => absurd q (by decide)⟩

set_option maxRecDepth 100000 in
theorem lf_send_21 (xs : Nat → Int32) (p2 : Int32) (p3 : Int32) (a2 : p2.toInt < 0) : op_ok xs 164 143 [.ref 0, .int 1, .int 1, .int p2, .int p3, .ref 189] [.ref 165, .int 1, .int 1, .int p2, .int p3] := by
  refine ⟨2, 0, ?_⟩
  apply Exists.intro
  apply Exists.intro
  apply And.intro
  · refine xe_sn pg_164 4 (fr' := (5, [(0, .ref 0), (1, .int 1), (2, .int 1), (3, .int p2), (4, .int p3), (5, .ref 189)], [.int 1, .ref 0, .int 0, .ref 189])) rfl ?_
    refine xe_sn pg_164 3 (fr' := (9, [(0, .ref 0), (1, .int 1), (2, .int 1), (3, .int p2), (4, .int p3), (5, .ref 189)], [.int p3, .int p2, .int 1, .int 1, .ref 0, .int 0, .ref 189])) rfl ?_
    apply xe_callq pg_164 77 [.ref 0, .int 1, .int 1, .int p2, .int p3] (.inr 1) (23, [(0, .ref 0), (1, .int 1), (2, .int 1), (3, .int p2), (4, .int p3), (5, .ref 189)], []) rfl (fun _ => rfl)
    · refine xe_sn pg_77 1 (fr' := (1, [(0, .ref 0), (1, .int 1), (2, .int 1), (3, .int p2), (4, .int p3)], [.int 1])) rfl ?_
      apply xe_callq pg_77 92 [.int 1] (.inl none) (4, [(0, .ref 0), (1, .int 1), (2, .int 1), (3, .int p2), (4, .int p3)], []) rfl (fun _ => rfl)
      · refine xe_sn pg_92 2 (fr' := (2, [(0, .int 1)], [.int 4, .int 1])) rfl ?_
        apply xe_callq pg_92 95 [.int 1, .int 4] (.inl none) (5, [(0, .int 1)], []) rfl (fun _ => rfl)
        · refine xe_sn pg_95 4 (fr' := (6, [(0, .int 1), (1, .int 4)], [.int 4, .int 1])) rfl ?_
          refine xe_sn pg_95 1 (fr' := (17, [(0, .int 1), (1, .int 4)], [])) rfl ?_
          exact xe_end pg_95 rfl
        exact xe_end pg_92 rfl
      refine xe_sn pg_77 1 (fr' := (5, [(0, .ref 0), (1, .int 1), (2, .int 1), (3, .int p2), (4, .int p3)], [.int 1])) rfl ?_
      apply xe_callq pg_77 94 [.int 1] (.inl none) (8, [(0, .ref 0), (1, .int 1), (2, .int 1), (3, .int p2), (4, .int p3)], []) rfl (fun _ => rfl)
      · refine xe_sn pg_94 1 (fr' := (1, [(0, .int 1)], [.int 1])) rfl ?_
        apply xe_callq pg_94 100 [.int 1] (.inl (some (.int 1))) (4, [(0, .int 1)], [.int 1]) rfl (fun _ => rfl)
        · refine xe_sn pg_100 4 (fr' := (6, [(0, .int 1)], [.int 1])) rfl ?_
          refine xe_sn pg_100 4 (fr' := (15, [(0, .int 1)], [.int 1])) rfl ?_
          exact xe_end pg_100 rfl
        refine xe_sn pg_94 1 (fr' := (15, [(0, .int 1)], [])) rfl ?_
        exact xe_end pg_94 rfl
      refine xe_sn pg_77 1 (fr' := (9, [(0, .ref 0), (1, .int 1), (2, .int 1), (3, .int p2), (4, .int p3)], [.int p2])) rfl ?_
      refine xe_t1 pg_77 22 rfl rfl (by show (p2).toInt < 0; omega) ?_
      refine xe_sn pg_77 1 (fr' := (23, [(0, .ref 0), (1, .int 1), (2, .int 1), (3, .int p2), (4, .int p3)], [.int 0])) rfl ?_
      apply xe_callqx pg_77 97 [.int 0] 1 rfl (fun _ => rfl)
      · refine xe_sn pg_97 2 (fr' := (4, [(0, .int 0)], [])) rfl ?_
        exact xe_end pg_97 rfl
    refine xe_sn pg_164 1 (fr' := (24, [(0, .ref 0), (1, .int 1), (2, .int 1), (3, .int p2), (4, .int p3), (5, .ref 189)], [.int 2])) rfl ?_
    exact xe_end pg_164 rfl
  refine And.intro ⟨rfl, rfl, rfl, rfl⟩ ?_
  apply And.intro
  · refine xe_sn pg_143 2 (fr' := (2, [(0, .ref 165), (1, .int 1), (2, .int 1), (3, .int p2), (4, .int p3)], [.int 1, .ref 165])) rfl ?_
    apply xe_callq pg_143 104 [.int 1] (.inl (some (.int 1))) (5, [(0, .ref 165), (1, .int 1), (2, .int 1), (3, .int p2), (4, .int p3)], [.int 1, .ref 165]) rfl (fun _ => rfl)
    · refine xe_sn pg_104 3 (fr' := (3, [(0, .int 1)], [.int 3, .int 0, .int 1])) rfl ?_
      apply xe_callq pg_104 103 [.int 1, .int 0, .int 3] (.inl (some (.int 1))) (6, [(0, .int 1)], [.int 1]) rfl (fun _ => rfl)
      · refine xe_sn pg_103 4 (fr' := (6, [(0, .int 1), (1, .int 0), (2, .int 3)], [.int 1])) rfl ?_
        refine xe_sn pg_103 4 (fr' := (15, [(0, .int 1), (1, .int 0), (2, .int 3)], [.int 1])) rfl ?_
        exact xe_end pg_103 rfl
      exact xe_end pg_104 rfl
    refine xe_sn pg_143 4 (fr' := (11, [(0, .ref 165), (1, .int 1), (2, .int 1), (3, .int p2), (4, .int p3)], [.int 3, .int 1, .int 1, .ref 165])) rfl ?_
    apply xe_callq pg_143 103 [.int 1, .int 1, .int 3] (.inl (some (.int 1))) (14, [(0, .ref 165), (1, .int 1), (2, .int 1), (3, .int p2), (4, .int p3)], [.int 1, .ref 165]) rfl (fun _ => rfl)
    · refine xe_sn pg_103 4 (fr' := (6, [(0, .int 1), (1, .int 1), (2, .int 3)], [.int 1])) rfl ?_
      refine xe_sn pg_103 4 (fr' := (15, [(0, .int 1), (1, .int 1), (2, .int 3)], [.int 1])) rfl ?_
      exact xe_end pg_103 rfl
    refine xe_sn pg_143 4 (fr' := (25, [(0, .ref 165), (1, .int 1), (2, .int 1), (3, .int p2), (4, .int p3)], [.int 7, .int 0, .int p2, .ref 165])) rfl ?_
    apply xe_callq pg_143 103 [.int p2, .int 0, .int 7] (.inl (some (.int 0))) (28, [(0, .ref 165), (1, .int 1), (2, .int 1), (3, .int p2), (4, .int p3)], [.int 0, .ref 165]) rfl (fun _ => rfl)
    · refine xe_sn pg_103 2 (fr' := (2, [(0, .int p2), (1, .int 0), (2, .int 7)], [.int 0, .int p2])) rfl ?_
      refine xe_t2 pg_103 14 rfl rfl (by show (p2).toInt < 0; omega) ?_
      refine xe_sn pg_103 1 (fr' := (15, [(0, .int p2), (1, .int 0), (2, .int 7)], [.int 0])) rfl ?_
      exact xe_end pg_103 rfl
    refine xe_sn pg_143 4 (fr' := (51, [(0, .ref 165), (1, .int 1), (2, .int 1), (3, .int p2), (4, .int p3)], [])) rfl ?_
    refine xe_sn pg_143 4 (fr' := (69, [(0, .ref 165), (1, .int 1), (2, .int 1), (3, .int p2), (4, .int p3)], [.int 0])) rfl ?_
    refine xe_sn pg_143 4 (fr' := (76, [(5, .int 0), (0, .ref 165), (1, .int 1), (2, .int 1), (3, .int p2), (4, .int p3)], [.int 2, .ref 165])) rfl ?_
    refine xe_sn pg_143 4 (fr' := (111, [(5, .int 0), (0, .ref 165), (1, .int 1), (2, .int 1), (3, .int p2), (4, .int p3)], [])) rfl ?_
    refine xe_sn pg_143 4 (fr' := (119, [(5, .int 0), (0, .ref 165), (1, .int 1), (2, .int 1), (3, .int p2), (4, .int p3)], [.int 0])) rfl ?_
    exact xe_end pg_143 rfl
  · exact ⟨⟨rfl, rfl, rfl, rfl⟩, Nat.le_of_ble_eq_true rfl, Nat.le_of_ble_eq_true rfl, rfl, fun q => absurd q (by decide)⟩

set_option maxRecDepth 100000 in
theorem lf_send_22 (xs : Nat → Int32) (p2 : Int32) (p3 : Int32) (b2 : 7 < p2.toInt) : op_ok xs 164 143 [.ref 0, .int 1, .int 1, .int p2, .int p3, .ref 189] [.ref 165, .int 1, .int 1, .int p2, .int p3] := by
  refine ⟨2, 0, ?_⟩
  apply Exists.intro
  apply Exists.intro
  apply And.intro
  · refine xe_sn pg_164 4 (fr' := (5, [(0, .ref 0), (1, .int 1), (2, .int 1), (3, .int p2), (4, .int p3), (5, .ref 189)], [.int 1, .ref 0, .int 0, .ref 189])) rfl ?_
    refine xe_sn pg_164 3 (fr' := (9, [(0, .ref 0), (1, .int 1), (2, .int 1), (3, .int p2), (4, .int p3), (5, .ref 189)], [.int p3, .int p2, .int 1, .int 1, .ref 0, .int 0, .ref 189])) rfl ?_
    apply xe_callq pg_164 77 [.ref 0, .int 1, .int 1, .int p2, .int p3] (.inr 1) (23, [(0, .ref 0), (1, .int 1), (2, .int 1), (3, .int p2), (4, .int p3), (5, .ref 189)], []) rfl (fun _ => rfl)
    · refine xe_sn pg_77 1 (fr' := (1, [(0, .ref 0), (1, .int 1), (2, .int 1), (3, .int p2), (4, .int p3)], [.int 1])) rfl ?_
      apply xe_callq pg_77 92 [.int 1] (.inl none) (4, [(0, .ref 0), (1, .int 1), (2, .int 1), (3, .int p2), (4, .int p3)], []) rfl (fun _ => rfl)
      · refine xe_sn pg_92 2 (fr' := (2, [(0, .int 1)], [.int 4, .int 1])) rfl ?_
        apply xe_callq pg_92 95 [.int 1, .int 4] (.inl none) (5, [(0, .int 1)], []) rfl (fun _ => rfl)
        · refine xe_sn pg_95 4 (fr' := (6, [(0, .int 1), (1, .int 4)], [.int 4, .int 1])) rfl ?_
          refine xe_sn pg_95 1 (fr' := (17, [(0, .int 1), (1, .int 4)], [])) rfl ?_
          exact xe_end pg_95 rfl
        exact xe_end pg_92 rfl
      refine xe_sn pg_77 1 (fr' := (5, [(0, .ref 0), (1, .int 1), (2, .int 1), (3, .int p2), (4, .int p3)], [.int 1])) rfl ?_
      apply xe_callq pg_77 94 [.int 1] (.inl none) (8, [(0, .ref 0), (1, .int 1), (2, .int 1), (3, .int p2), (4, .int p3)], []) rfl (fun _ => rfl)
      · refine xe_sn pg_94 1 (fr' := (1, [(0, .int 1)], [.int 1])) rfl ?_
        apply xe_callq pg_94 100 [.int 1] (.inl (some (.int 1))) (4, [(0, .int 1)], [.int 1]) rfl (fun _ => rfl)
        · refine xe_sn pg_100 4 (fr' := (6, [(0, .int 1)], [.int 1])) rfl ?_
          refine xe_sn pg_100 4 (fr' := (15, [(0, .int 1)], [.int 1])) rfl ?_
          exact xe_end pg_100 rfl
        refine xe_sn pg_94 1 (fr' := (15, [(0, .int 1)], [])) rfl ?_
        exact xe_end pg_94 rfl
      refine xe_sn pg_77 1 (fr' := (9, [(0, .ref 0), (1, .int 1), (2, .int 1), (3, .int p2), (4, .int p3)], [.int p2])) rfl ?_
      refine xe_f1 pg_77 22 rfl rfl (by show ¬ ((p2).toInt < 0); omega) ?_
      refine xe_sn pg_77 2 (fr' := (15, [(0, .ref 0), (1, .int 1), (2, .int 1), (3, .int p2), (4, .int p3)], [.int 7, .int p2])) rfl ?_
      refine xe_t2 pg_77 22 rfl rfl (by show 7 < (p2).toInt; omega) ?_
      refine xe_sn pg_77 1 (fr' := (23, [(0, .ref 0), (1, .int 1), (2, .int 1), (3, .int p2), (4, .int p3)], [.int 0])) rfl ?_
      apply xe_callqx pg_77 97 [.int 0] 1 rfl (fun _ => rfl)
      · refine xe_sn pg_97 2 (fr' := (4, [(0, .int 0)], [])) rfl ?_
        exact xe_end pg_97 rfl
    refine xe_sn pg_164 1 (fr' := (24, [(0, .ref 0), (1, .int 1), (2, .int 1), (3, .int p2), (4, .int p3), (5, .ref 189)], [.int 2])) rfl ?_
    exact xe_end pg_164 rfl
  refine And.intro ⟨rfl, rfl, rfl, rfl⟩ ?_
  apply And.intro
  · refine xe_sn pg_143 2 (fr' := (2, [(0, .ref 165), (1, .int 1), (2, .int 1), (3, .int p2), (4, .int p3)], [.int 1, .ref 165])) rfl ?_
    apply xe_callq pg_143 104 [.int 1] (.inl (some (.int 1))) (5, [(0, .ref 165), (1, .int 1), (2, .int 1), (3, .int p2), (4, .int p3)], [.int 1, .ref 165]) rfl (fun _ => rfl)
    · refine xe_sn pg_104 3 (fr' := (3, [(0, .int 1)], [.int 3, .int 0, .int 1])) rfl ?_
      apply xe_callq pg_104 103 [.int 1, .int 0, .int 3] (.inl (some (.int 1))) (6, [(0, .int 1)], [.int 1]) rfl (fun _ => rfl)
      · refine xe_sn pg_103 4 (fr' := (6, [(0, .int 1), (1, .int 0), (2, .int 3)], [.int 1])) rfl ?_
        refine xe_sn pg_103 4 (fr' := (15, [(0, .int 1), (1, .int 0), (2, .int 3)], [.int 1])) rfl ?_
        exact xe_end pg_103 rfl
      exact xe_end pg_104 rfl
    refine xe_sn pg_143 4 (fr' := (11, [(0, .ref 165), (1, .int 1), (2, .int 1), (3, .int p2), (4, .int p3)], [.int 3, .int 1, .int 1, .ref 165])) rfl ?_
    apply xe_callq pg_143 103 [.int 1, .int 1, .int 3] (.inl (some (.int 1))) (14, [(0, .ref 165), (1, .int 1), (2, .int 1), (3, .int p2), (4, .int p3)], [.int 1, .ref 165]) rfl (fun _ => rfl)
    · refine xe_sn pg_103 4 (fr' := (6, [(0, .int 1), (1, .int 1), (2, .int 3)], [.int 1])) rfl ?_
      refine xe_sn pg_103 4 (fr' := (15, [(0, .int 1), (1, .int 1), (2, .int 3)], [.int 1])) rfl ?_
      exact xe_end pg_103 rfl
    refine xe_sn pg_143 4 (fr' := (25, [(0, .ref 165), (1, .int 1), (2, .int 1), (3, .int p2), (4, .int p3)], [.int 7, .int 0, .int p2, .ref 165])) rfl ?_
    apply xe_callq pg_143 103 [.int p2, .int 0, .int 7] (.inl (some (.int 0))) (28, [(0, .ref 165), (1, .int 1), (2, .int 1), (3, .int p2), (4, .int p3)], [.int 0, .ref 165]) rfl (fun _ => rfl)
    · refine xe_sn pg_103 2 (fr' := (2, [(0, .int p2), (1, .int 0), (2, .int 7)], [.int 0, .int p2])) rfl ?_
      refine xe_f2 pg_103 14 rfl rfl (by show ¬ ((p2).toInt < 0); omega) ?_
      refine xe_sn pg_103 2 (fr' := (7, [(0, .int p2), (1, .int 0), (2, .int 7)], [.int 7, .int p2])) rfl ?_
      refine xe_t2 pg_103 14 rfl rfl (by show 7 < (p2).toInt; omega) ?_
      refine xe_sn pg_103 1 (fr' := (15, [(0, .int p2), (1, .int 0), (2, .int 7)], [.int 0])) rfl ?_
      exact xe_end pg_103 rfl
    refine xe_sn pg_143 4 (fr' := (51, [(0, .ref 165), (1, .int 1), (2, .int 1), (3, .int p2), (4, .int p3)], [])) rfl ?_
    refine xe_sn pg_143 4 (fr' := (69, [(0, .ref 165), (1, .int 1), (2, .int 1), (3, .int p2), (4, .int p3)], [.int 0])) rfl ?_
    refine xe_sn pg_143 4 (fr' := (76, [(5, .int 0), (0, .ref 165), (1, .int 1), (2, .int 1), (3, .int p2), (4, .int p3)], [.int 2, .ref 165])) rfl ?_
    refine xe_sn pg_143 4 (fr' := (111, [(5, .int 0), (0, .ref 165), (1, .int 1), (2, .int 1), (3, .int p2), (4, .int p3)], [])) rfl ?_
    refine xe_sn pg_143 4 (fr' := (119, [(5, .int 0), (0, .ref 165), (1, .int 1), (2, .int 1), (3, .int p2), (4, .int p3)], [.int 0])) rfl ?_
    exact xe_end pg_143 rfl
  · exact ⟨⟨rfl, rfl, rfl, rfl⟩, Nat.le_of_ble_eq_true rfl, Nat.le_of_ble_eq_true rfl, rfl, fun q => absurd q (by decide)⟩

set_option maxRecDepth 100000 in
theorem lf_send_23 (xs : Nat → Int32) (p2 : Int32) (p3 : Int32) (a2 : 0 ≤ p2.toInt) (b2 : p2.toInt ≤ 7) (a3 : p3.toInt < 0) : op_ok xs 164 143 [.ref 0, .int 1, .int 1, .int p2, .int p3, .ref 189] [.ref 165, .int 1, .int 1, .int p2, .int p3] := by
  refine ⟨2, 0, ?_⟩
  apply Exists.intro
  apply Exists.intro
  apply And.intro
  · refine xe_sn pg_164 4 (fr' := (5, [(0, .ref 0), (1, .int 1), (2, .int 1), (3, .int p2), (4, .int p3), (5, .ref 189)], [.int 1, .ref 0, .int 0, .ref 189])) rfl ?_
    refine xe_sn pg_164 3 (fr' := (9, [(0, .ref 0), (1, .int 1), (2, .int 1), (3, .int p2), (4, .int p3), (5, .ref 189)], [.int p3, .int p2, .int 1, .int 1, .ref 0, .int 0, .ref 189])) rfl ?_
    apply xe_callq pg_164 77 [.ref 0, .int 1, .int 1, .int p2, .int p3] (.inr 1) (23, [(0, .ref 0), (1, .int 1), (2, .int 1), (3, .int p2), (4, .int p3), (5, .ref 189)], []) rfl (fun _ => rfl)
    · refine xe_sn pg_77 1 (fr' := (1, [(0, .ref 0), (1, .int 1), (2, .int 1), (3, .int p2), (4, .int p3)], [.int 1])) rfl ?_
      apply xe_callq pg_77 92 [.int 1] (.inl none) (4, [(0, .ref 0), (1, .int 1), (2, .int 1), (3, .int p2), (4, .int p3)], []) rfl (fun _ => rfl)
      · refine xe_sn pg_92 2 (fr' := (2, [(0, .int 1)], [.int 4, .int 1])) rfl ?_
        apply xe_callq pg_92 95 [.int 1, .int 4] (.inl none) (5, [(0, .int 1)], []) rfl (fun _ => rfl)
        · refine xe_sn pg_95 4 (fr' := (6, [(0, .int 1), (1, .int 4)], [.int 4, .int 1])) rfl ?_
          refine xe_sn pg_95 1 (fr' := (17, [(0, .int 1), (1, .int 4)], [])) rfl ?_
          exact xe_end pg_95 rfl
        exact xe_end pg_92 rfl
      refine xe_sn pg_77 1 (fr' := (5, [(0, .ref 0), (1, .int 1), (2, .int 1), (3, .int p2), (4, .int p3)], [.int 1])) rfl ?_
      apply xe_callq pg_77 94 [.int 1] (.inl none) (8, [(0, .ref 0), (1, .int 1), (2, .int 1), (3, .int p2), (4, .int p3)], []) rfl (fun _ => rfl)
      · refine xe_sn pg_94 1 (fr' := (1, [(0, .int 1)], [.int 1])) rfl ?_
        apply xe_callq pg_94 100 [.int 1] (.inl (some (.int 1))) (4, [(0, .int 1)], [.int 1]) rfl (fun _ => rfl)
        · refine xe_sn pg_100 4 (fr' := (6, [(0, .int 1)], [.int 1])) rfl ?_
          refine xe_sn pg_100 4 (fr' := (15, [(0, .int 1)], [.int 1])) rfl ?_
          exact xe_end pg_100 rfl
        refine xe_sn pg_94 1 (fr' := (15, [(0, .int 1)], [])) rfl ?_
        exact xe_end pg_94 rfl
      refine xe_sn pg_77 1 (fr' := (9, [(0, .ref 0), (1, .int 1), (2, .int 1), (3, .int p2), (4, .int p3)], [.int p2])) rfl ?_
      refine xe_f1 pg_77 22 rfl rfl (by show ¬ ((p2).toInt < 0); omega) ?_
      refine xe_sn pg_77 2 (fr' := (15, [(0, .ref 0), (1, .int 1), (2, .int 1), (3, .int p2), (4, .int p3)], [.int 7, .int p2])) rfl ?_
      refine xe_f2 pg_77 22 rfl rfl (by show ¬ (7 < (p2).toInt); omega) ?_
      refine xe_sn pg_77 2 (fr' := (23, [(0, .ref 0), (1, .int 1), (2, .int 1), (3, .int p2), (4, .int p3)], [.int 1])) rfl ?_
      apply xe_callq pg_77 97 [.int 1] (.inl none) (26, [(0, .ref 0), (1, .int 1), (2, .int 1), (3, .int p2), (4, .int p3)], []) rfl (fun _ => rfl)
      · refine xe_sn pg_97 2 (fr' := (12, [(0, .int 1)], [])) rfl ?_
        exact xe_end pg_97 rfl
      refine xe_sn pg_77 1 (fr' := (28, [(0, .ref 0), (1, .int 1), (2, .int 1), (3, .int p2), (4, .int p3)], [.int p3])) rfl ?_
      apply xe_callq pg_77 99 [.int p3] (.inl (some (.int 0))) (31, [(0, .ref 0), (1, .int 1), (2, .int 1), (3, .int p2), (4, .int p3)], [.int 0]) rfl (fun _ => rfl)
      · refine xe_sn pg_99 1 (fr' := (1, [(0, .int p3)], [.int p3])) rfl ?_
        refine xe_t1 pg_99 15 rfl rfl (by show (p3).toInt < 0; omega) ?_
        refine xe_sn pg_99 1 (fr' := (16, [(0, .int p3)], [.int 0])) rfl ?_
        exact xe_end pg_99 rfl
      apply xe_callqx pg_77 97 [.int 0] 1 rfl (fun _ => rfl)
      · refine xe_sn pg_97 2 (fr' := (4, [(0, .int 0)], [])) rfl ?_
        exact xe_end pg_97 rfl
    refine xe_sn pg_164 1 (fr' := (24, [(0, .ref 0), (1, .int 1), (2, .int 1), (3, .int p2), (4, .int p3), (5, .ref 189)], [.int 2])) rfl ?_
    exact xe_end pg_164 rfl
  refine And.intro ⟨rfl, rfl, rfl, rfl⟩ ?_
  apply And.intro
  · refine xe_sn pg_143 2 (fr' := (2, [(0, .ref 165), (1, .int 1), (2, .int 1), (3, .int p2), (4, .int p3)], [.int 1, .ref 165])) rfl ?_
    apply xe_callq pg_143 104 [.int 1] (.inl (some (.int 1))) (5, [(0, .ref 165), (1, .int 1), (2, .int 1), (3, .int p2), (4, .int p3)], [.int 1, .ref 165]) rfl (fun _ => rfl)
    · refine xe_sn pg_104 3 (fr' := (3, [(0, .int 1)], [.int 3, .int 0, .int 1])) rfl ?_
      apply xe_callq pg_104 103 [.int 1, .int 0, .int 3] (.inl (some (.int 1))) (6, [(0, .int 1)], [.int 1]) rfl (fun _ => rfl)
      · refine xe_sn pg_103 4 (fr' := (6, [(0, .int 1), (1, .int 0), (2, .int 3)], [.int 1])) rfl ?_
        refine xe_sn pg_103 4 (fr' := (15, [(0, .int 1), (1, .int 0), (2, .int 3)], [.int 1])) rfl ?_
        exact xe_end pg_103 rfl
      exact xe_end pg_104 rfl
    refine xe_sn pg_143 4 (fr' := (11, [(0, .ref 165), (1, .int 1), (2, .int 1), (3, .int p2), (4, .int p3)], [.int 3, .int 1, .int 1, .ref 165])) rfl ?_
    apply xe_callq pg_143 103 [.int 1, .int 1, .int 3] (.inl (some (.int 1))) (14, [(0, .ref 165), (1, .int 1), (2, .int 1), (3, .int p2), (4, .int p3)], [.int 1, .ref 165]) rfl (fun _ => rfl)
    · refine xe_sn pg_103 4 (fr' := (6, [(0, .int 1), (1, .int 1), (2, .int 3)], [.int 1])) rfl ?_
      refine xe_sn pg_103 4 (fr' := (15, [(0, .int 1), (1, .int 1), (2, .int 3)], [.int 1])) rfl ?_
      exact xe_end pg_103 rfl
    refine xe_sn pg_143 4 (fr' := (25, [(0, .ref 165), (1, .int 1), (2, .int 1), (3, .int p2), (4, .int p3)], [.int 7, .int 0, .int p2, .ref 165])) rfl ?_
    apply xe_callq pg_143 103 [.int p2, .int 0, .int 7] (.inl (some (.int 1))) (28, [(0, .ref 165), (1, .int 1), (2, .int 1), (3, .int p2), (4, .int p3)], [.int 1, .ref 165]) rfl (fun _ => rfl)
    · refine xe_sn pg_103 2 (fr' := (2, [(0, .int p2), (1, .int 0), (2, .int 7)], [.int 0, .int p2])) rfl ?_
      refine xe_f2 pg_103 14 rfl rfl (by show ¬ ((p2).toInt < 0); omega) ?_
      refine xe_sn pg_103 2 (fr' := (7, [(0, .int p2), (1, .int 0), (2, .int 7)], [.int 7, .int p2])) rfl ?_
      refine xe_f2 pg_103 14 rfl rfl (by show ¬ (7 < (p2).toInt); omega) ?_
      refine xe_sn pg_103 2 (fr' := (15, [(0, .int p2), (1, .int 0), (2, .int 7)], [.int 1])) rfl ?_
      exact xe_end pg_103 rfl
    refine xe_sn pg_143 4 (fr' := (37, [(0, .ref 165), (1, .int 1), (2, .int 1), (3, .int p2), (4, .int p3)], [.int 255, .int 0, .int p3, .ref 165])) rfl ?_
    apply xe_callq pg_143 103 [.int p3, .int 0, .int 255] (.inl (some (.int 0))) (40, [(0, .ref 165), (1, .int 1), (2, .int 1), (3, .int p2), (4, .int p3)], [.int 0, .ref 165]) rfl (fun _ => rfl)
    · refine xe_sn pg_103 2 (fr' := (2, [(0, .int p3), (1, .int 0), (2, .int 255)], [.int 0, .int p3])) rfl ?_
      refine xe_t2 pg_103 14 rfl rfl (by show (p3).toInt < 0; omega) ?_
      refine xe_sn pg_103 1 (fr' := (15, [(0, .int p3), (1, .int 0), (2, .int 255)], [.int 0])) rfl ?_
      exact xe_end pg_103 rfl
    refine xe_sn pg_143 4 (fr' := (51, [(0, .ref 165), (1, .int 1), (2, .int 1), (3, .int p2), (4, .int p3)], [])) rfl ?_
    refine xe_sn pg_143 4 (fr' := (69, [(0, .ref 165), (1, .int 1), (2, .int 1), (3, .int p2), (4, .int p3)], [.int 0])) rfl ?_
    refine xe_sn pg_143 4 (fr' := (76, [(5, .int 0), (0, .ref 165), (1, .int 1), (2, .int 1), (3, .int p2), (4, .int p3)], [.int 2, .ref 165])) rfl ?_
    refine xe_sn pg_143 4 (fr' := (111, [(5, .int 0), (0, .ref 165), (1, .int 1), (2, .int 1), (3, .int p2), (4, .int p3)], [])) rfl ?_
    refine xe_sn pg_143 4 (fr' := (119, [(5, .int 0), (0, .ref 165), (1, .int 1), (2, .int 1), (3, .int p2), (4, .int p3)], [.int 0])) rfl ?_
    exact xe_end pg_143 rfl
  · exact ⟨⟨rfl, rfl, rfl, rfl⟩, Nat.le_of_ble_eq_true rfl, Nat.le_of_ble_eq_true rfl, rfl, fun q => absurd q (by decide)⟩

set_option maxRecDepth 100000 in
theorem lf_send_24 (xs : Nat → Int32) (p2 : Int32) (p3 : Int32) (a2 : 0 ≤ p2.toInt) (b2 : p2.toInt ≤ 7) (b3 : 255 < p3.toInt) : op_ok xs 164 143 [.ref 0, .int 1, .int 1, .int p2, .int p3, .ref 189] [.ref 165, .int 1, .int 1, .int p2, .int p3] := by
  refine ⟨2, 0, ?_⟩
  apply Exists.intro
  apply Exists.intro
  apply And.intro
  · refine xe_sn pg_164 4 (fr' := (5, [(0, .ref 0), (1, .int 1), (2, .int 1), (3, .int p2), (4, .int p3), (5, .ref 189)], [.int 1, .ref 0, .int 0, .ref 189])) rfl ?_
    refine xe_sn pg_164 3 (fr' := (9, [(0, .ref 0), (1, .int 1), (2, .int 1), (3, .int p2), (4, .int p3), (5, .ref 189)], [.int p3, .int p2, .int 1, .int 1, .ref 0, .int 0, .ref 189])) rfl ?_
    apply xe_callq pg_164 77 [.ref 0, .int 1, .int 1, .int p2, .int p3] (.inr 1) (23, [(0, .ref 0), (1, .int 1), (2, .int 1), (3, .int p2), (4, .int p3), (5, .ref 189)], []) rfl (fun _ => rfl)
    · refine xe_sn pg_77 1 (fr' := (1, [(0, .ref 0), (1, .int 1), (2, .int 1), (3, .int p2), (4, .int p3)], [.int 1])) rfl ?_
      apply xe_callq pg_77 92 [.int 1] (.inl none) (4, [(0, .ref 0), (1, .int 1), (2, .int 1), (3, .int p2), (4, .int p3)], []) rfl (fun _ => rfl)
      · refine xe_sn pg_92 2 (fr' := (2, [(0, .int 1)], [.int 4, .int 1])) rfl ?_
        apply xe_callq pg_92 95 [.int 1, .int 4] (.inl none) (5, [(0, .int 1)], []) rfl (fun _ => rfl)
        · refine xe_sn pg_95 4 (fr' := (6, [(0, .int 1), (1, .int 4)], [.int 4, .int 1])) rfl ?_
          refine xe_sn pg_95 1 (fr' := (17, [(0, .int 1), (1, .int 4)], [])) rfl ?_
          exact xe_end pg_95 rfl
        exact xe_end pg_92 rfl
      refine xe_sn pg_77 1 (fr' := (5, [(0, .ref 0), (1, .int 1), (2, .int 1), (3, .int p2), (4, .int p3)], [.int 1])) rfl ?_
      apply xe_callq pg_77 94 [.int 1] (.inl none) (8, [(0, .ref 0), (1, .int 1), (2, .int 1), (3, .int p2), (4, .int p3)], []) rfl (fun _ => rfl)
      · refine xe_sn pg_94 1 (fr' := (1, [(0, .int 1)], [.int 1])) rfl ?_
        apply xe_callq pg_94 100 [.int 1] (.inl (some (.int 1))) (4, [(0, .int 1)], [.int 1]) rfl (fun _ => rfl)
        · refine xe_sn pg_100 4 (fr' := (6, [(0, .int 1)], [.int 1])) rfl ?_
          refine xe_sn pg_100 4 (fr' := (15, [(0, .int 1)], [.int 1])) rfl ?_
          exact xe_end pg_100 rfl
        refine xe_sn pg_94 1 (fr' := (15, [(0, .int 1)], [])) rfl ?_
        exact xe_end pg_94 rfl
      refine xe_sn pg_77 1 (fr' := (9, [(0, .ref 0), (1, .int 1), (2, .int 1), (3, .int p2), (4, .int p3)], [.int p2])) rfl ?_
      refine xe_f1 pg_77 22 rfl rfl (by show ¬ ((p2).toInt < 0); omega) ?_
      refine xe_sn pg_77 2 (fr' := (15, [(0, .ref 0), (1, .int 1), (2, .int 1), (3, .int p2), (4, .int p3)], [.int 7, .int p2])) rfl ?_
      refine xe_f2 pg_77 22 rfl rfl (by show ¬ (7 < (p2).toInt); omega) ?_
      refine xe_sn pg_77 2 (fr' := (23, [(0, .ref 0), (1, .int 1), (2, .int 1), (3, .int p2), (4, .int p3)], [.int 1])) rfl ?_
      apply xe_callq pg_77 97 [.int 1] (.inl none) (26, [(0, .ref 0), (1, .int 1), (2, .int 1), (3, .int p2), (4, .int p3)], []) rfl (fun _ => rfl)
      · refine xe_sn pg_97 2 (fr' := (12, [(0, .int 1)], [])) rfl ?_
        exact xe_end pg_97 rfl
      refine xe_sn pg_77 1 (fr' := (28, [(0, .ref 0), (1, .int 1), (2, .int 1), (3, .int p2), (4, .int p3)], [.int p3])) rfl ?_
      apply xe_callq pg_77 99 [.int p3] (.inl (some (.int 0))) (31, [(0, .ref 0), (1, .int 1), (2, .int 1), (3, .int p2), (4, .int p3)], [.int 0]) rfl (fun _ => rfl)
      · refine xe_sn pg_99 1 (fr' := (1, [(0, .int p3)], [.int p3])) rfl ?_
        refine xe_f1 pg_99 15 rfl rfl (by show ¬ ((p3).toInt < 0); omega) ?_
        refine xe_sn pg_99 2 (fr' := (8, [(0, .int p3)], [.int 255, .int p3])) rfl ?_
        refine xe_t2 pg_99 15 rfl rfl (by show 255 < (p3).toInt; omega) ?_
        refine xe_sn pg_99 1 (fr' := (16, [(0, .int p3)], [.int 0])) rfl ?_
        exact xe_end pg_99 rfl
      apply xe_callqx pg_77 97 [.int 0] 1 rfl (fun _ => rfl)
      · refine xe_sn pg_97 2 (fr' := (4, [(0, .int 0)], [])) rfl ?_
        exact xe_end pg_97 rfl
    refine xe_sn pg_164 1 (fr' := (24, [(0, .ref 0), (1, .int 1), (2, .int 1), (3, .int p2), (4, .int p3), (5, .ref 189)], [.int 2])) rfl ?_
    exact xe_end pg_164 rfl
  refine And.intro ⟨rfl, rfl, rfl, rfl⟩ ?_
  apply And.intro
  · refine xe_sn pg_143 2 (fr' := (2, [(0, .ref 165), (1, .int 1), (2, .int 1), (3, .int p2), (4, .int p3)], [.int 1, .ref 165])) rfl ?_
    apply xe_callq pg_143 104 [.int 1] (.inl (some (.int 1))) (5, [(0, .ref 165), (1, .int 1), (2, .int 1), (3, .int p2), (4, .int p3)], [.int 1, .ref 165]) rfl (fun _ => rfl)
    · refine xe_sn pg_104 3 (fr' := (3, [(0, .int 1)], [.int 3, .int 0, .int 1])) rfl ?_
      apply xe_callq pg_104 103 [.int 1, .int 0, .int 3] (.inl (some (.int 1))) (6, [(0, .int 1)], [.int 1]) rfl (fun _ => rfl)
      · refine xe_sn pg_103 4 (fr' := (6, [(0, .int 1), (1, .int 0), (2, .int 3)], [.int 1])) rfl ?_
        refine xe_sn pg_103 4 (fr' := (15, [(0, .int 1), (1, .int 0), (2, .int 3)], [.int 1])) rfl ?_
        exact xe_end pg_103 rfl
      exact xe_end pg_104 rfl
    refine xe_sn pg_143 4 (fr' := (11, [(0, .ref 165), (1, .int 1), (2, .int 1), (3, .int p2), (4, .int p3)], [.int 3, .int 1, .int 1, .ref 165])) rfl ?_
    apply xe_callq pg_143 103 [.int 1, .int 1, .int 3] (.inl (some (.int 1))) (14, [(0, .ref 165), (1, .int 1), (2, .int 1), (3, .int p2), (4, .int p3)], [.int 1, .ref 165]) rfl (fun _ => rfl)
    · refine xe_sn pg_103 4 (fr' := (6, [(0, .int 1), (1, .int 1), (2, .int 3)], [.int 1])) rfl ?_
      refine xe_sn pg_103 4 (fr' := (15, [(0, .int 1), (1, .int 1), (2, .int 3)], [.int 1])) rfl ?_
      exact xe_end pg_103 rfl
    refine xe_sn pg_143 4 (fr' := (25, [(0, .ref 165), (1, .int 1), (2, .int 1), (3, .int p2), (4, .int p3)], [.int 7, .int 0, .int p2, .ref 165])) rfl ?_
    apply xe_callq pg_143 103 [.int p2, .int 0, .int 7] (.inl (some (.int 1))) (28, [(0, .ref 165), (1, .int 1), (2, .int 1), (3, .int p2), (4, .int p3)], [.int 1, .ref 165]) rfl (fun _ => rfl)
    · refine xe_sn pg_103 2 (fr' := (2, [(0, .int p2), (1, .int 0), (2, .int 7)], [.int 0, .int p2])) rfl ?_
      refine xe_f2 pg_103 14 rfl rfl (by show ¬ ((p2).toInt < 0); omega) ?_
      refine xe_sn pg_103 2 (fr' := (7, [(0, .int p2), (1, .int 0), (2, .int 7)], [.int 7, .int p2])) rfl ?_
      refine xe_f2 pg_103 14 rfl rfl (by show ¬ (7 < (p2).toInt); omega) ?_
      refine xe_sn pg_103 2 (fr' := (15, [(0, .int p2), (1, .int 0), (2, .int 7)], [.int 1])) rfl ?_
      exact xe_end pg_103 rfl
    refine xe_sn pg_143 4 (fr' := (37, [(0, .ref 165), (1, .int 1), (2, .int 1), (3, .int p2), (4, .int p3)], [.int 255, .int 0, .int p3, .ref 165])) rfl ?_
    apply xe_callq pg_143 103 [.int p3, .int 0, .int 255] (.inl (some (.int 0))) (40, [(0, .ref 165), (1, .int 1), (2, .int 1), (3, .int p2), (4, .int p3)], [.int 0, .ref 165]) rfl (fun _ => rfl)
    · refine xe_sn pg_103 2 (fr' := (2, [(0, .int p3), (1, .int 0), (2, .int 255)], [.int 0, .int p3])) rfl ?_
      refine xe_f2 pg_103 14 rfl rfl (by show ¬ ((p3).toInt < 0); omega) ?_
      refine xe_sn pg_103 2 (fr' := (7, [(0, .int p3), (1, .int 0), (2, .int 255)], [.int 255, .int p3])) rfl ?_
      refine xe_t2 pg_103 14 rfl rfl (by show 255 < (p3).toInt; omega) ?_
      refine xe_sn pg_103 1 (fr' := (15, [(0, .int p3), (1, .int 0), (2, .int 255)], [.int 0])) rfl ?_
      exact xe_end pg_103 rfl
    refine xe_sn pg_143 4 (fr' := (51, [(0, .ref 165), (1, .int 1), (2, .int 1), (3, .int p2), (4, .int p3)], [])) rfl ?_
    refine xe_sn pg_143 4 (fr' := (69, [(0, .ref 165), (1, .int 1), (2, .int 1), (3, .int p2), (4, .int p3)], [.int 0])) rfl ?_
    refine xe_sn pg_143 4 (fr' := (76, [(5, .int 0), (0, .ref 165), (1, .int 1), (2, .int 1), (3, .int p2), (4, .int p3)], [.int 2, .ref 165])) rfl ?_
    refine xe_sn pg_143 4 (fr' := (111, [(5, .int 0), (0, .ref 165), (1, .int 1), (2, .int 1), (3, .int p2), (4, .int p3)], [])) rfl ?_
    refine xe_sn pg_143 4 (fr' := (119, [(5, .int 0), (0, .ref 165), (1, .int 1), (2, .int 1), (3, .int p2), (4, .int p3)], [.int 0])) rfl ?_
    exact xe_end pg_143 rfl
  · exact ⟨⟨rfl, rfl, rfl, rfl⟩, Nat.le_of_ble_eq_true rfl, Nat.le_of_ble_eq_true rfl, rfl, fun q => absurd q (by decide)⟩

set_option maxRecDepth 100000 in
theorem lf_send_25 (xs : Nat → Int32) (p2 : Int32) (p3 : Int32) (a2 : 0 ≤ p2.toInt) (b2 : p2.toInt ≤ 7) (a3 : 0 ≤ p3.toInt) (b3 : p3.toInt ≤ 255) : op_ok xs 164 143 [.ref 0, .int 1, .int 1, .int p2, .int p3, .ref 189] [.ref 165, .int 1, .int 1, .int p2, .int p3] := by
  refine ⟨3, 0, ?_⟩
  apply Exists.intro
  apply Exists.intro
  apply And.intro
  · refine xe_sn pg_164 4 (fr' := (5, [(0, .ref 0), (1, .int 1), (2, .int 1), (3, .int p2), (4, .int p3), (5, .ref 189)], [.int 1, .ref 0, .int 0, .ref 189])) rfl ?_
    refine xe_sn pg_164 3 (fr' := (9, [(0, .ref 0), (1, .int 1), (2, .int 1), (3, .int p2), (4, .int p3), (5, .ref 189)], [.int p3, .int p2, .int 1, .int 1, .ref 0, .int 0, .ref 189])) rfl ?_
    apply xe_callq pg_164 77 [.ref 0, .int 1, .int 1, .int p2, .int p3] (.inr 2) (27, [(0, .ref 0), (1, .int 1), (2, .int 1), (3, .int p2), (4, .int p3), (5, .ref 189)], []) rfl (fun _ => rfl)
    · refine xe_sn pg_77 1 (fr' := (1, [(0, .ref 0), (1, .int 1), (2, .int 1), (3, .int p2), (4, .int p3)], [.int 1])) rfl ?_
      apply xe_callq pg_77 92 [.int 1] (.inl none) (4, [(0, .ref 0), (1, .int 1), (2, .int 1), (3, .int p2), (4, .int p3)], []) rfl (fun _ => rfl)
      · refine xe_sn pg_92 2 (fr' := (2, [(0, .int 1)], [.int 4, .int 1])) rfl ?_
        apply xe_callq pg_92 95 [.int 1, .int 4] (.inl none) (5, [(0, .int 1)], []) rfl (fun _ => rfl)
        · refine xe_sn pg_95 4 (fr' := (6, [(0, .int 1), (1, .int 4)], [.int 4, .int 1])) rfl ?_
          refine xe_sn pg_95 1 (fr' := (17, [(0, .int 1), (1, .int 4)], [])) rfl ?_
          exact xe_end pg_95 rfl
        exact xe_end pg_92 rfl
      refine xe_sn pg_77 1 (fr' := (5, [(0, .ref 0), (1, .int 1), (2, .int 1), (3, .int p2), (4, .int p3)], [.int 1])) rfl ?_
      apply xe_callq pg_77 94 [.int 1] (.inl none) (8, [(0, .ref 0), (1, .int 1), (2, .int 1), (3, .int p2), (4, .int p3)], []) rfl (fun _ => rfl)
      · refine xe_sn pg_94 1 (fr' := (1, [(0, .int 1)], [.int 1])) rfl ?_
        apply xe_callq pg_94 100 [.int 1] (.inl (some (.int 1))) (4, [(0, .int 1)], [.int 1]) rfl (fun _ => rfl)
        · refine xe_sn pg_100 4 (fr' := (6, [(0, .int 1)], [.int 1])) rfl ?_
          refine xe_sn pg_100 4 (fr' := (15, [(0, .int 1)], [.int 1])) rfl ?_
          exact xe_end pg_100 rfl
        refine xe_sn pg_94 1 (fr' := (15, [(0, .int 1)], [])) rfl ?_
        exact xe_end pg_94 rfl
      refine xe_sn pg_77 1 (fr' := (9, [(0, .ref 0), (1, .int 1), (2, .int 1), (3, .int p2), (4, .int p3)], [.int p2])) rfl ?_
      refine xe_f1 pg_77 22 rfl rfl (by show ¬ ((p2).toInt < 0); omega) ?_
      refine xe_sn pg_77 2 (fr' := (15, [(0, .ref 0), (1, .int 1), (2, .int 1), (3, .int p2), (4, .int p3)], [.int 7, .int p2])) rfl ?_
      refine xe_f2 pg_77 22 rfl rfl (by show ¬ (7 < (p2).toInt); omega) ?_
      refine xe_sn pg_77 2 (fr' := (23, [(0, .ref 0), (1, .int 1), (2, .int 1), (3, .int p2), (4, .int p3)], [.int 1])) rfl ?_
      apply xe_callq pg_77 97 [.int 1] (.inl none) (26, [(0, .ref 0), (1, .int 1), (2, .int 1), (3, .int p2), (4, .int p3)], []) rfl (fun _ => rfl)
      · refine xe_sn pg_97 2 (fr' := (12, [(0, .int 1)], [])) rfl ?_
        exact xe_end pg_97 rfl
      refine xe_sn pg_77 1 (fr' := (28, [(0, .ref 0), (1, .int 1), (2, .int 1), (3, .int p2), (4, .int p3)], [.int p3])) rfl ?_
      apply xe_callq pg_77 99 [.int p3] (.inl (some (.int 1))) (31, [(0, .ref 0), (1, .int 1), (2, .int 1), (3, .int p2), (4, .int p3)], [.int 1]) rfl (fun _ => rfl)
      · refine xe_sn pg_99 1 (fr' := (1, [(0, .int p3)], [.int p3])) rfl ?_
        refine xe_f1 pg_99 15 rfl rfl (by show ¬ ((p3).toInt < 0); omega) ?_
        refine xe_sn pg_99 2 (fr' := (8, [(0, .int p3)], [.int 255, .int p3])) rfl ?_
        refine xe_f2 pg_99 15 rfl rfl (by show ¬ (255 < (p3).toInt); omega) ?_
        refine xe_sn pg_99 2 (fr' := (16, [(0, .int p3)], [.int 1])) rfl ?_
        exact xe_end pg_99 rfl
      apply xe_callq pg_77 97 [.int 1] (.inl none) (34, [(0, .ref 0), (1, .int 1), (2, .int 1), (3, .int p2), (4, .int p3)], []) rfl (fun _ => rfl)
      · refine xe_sn pg_97 2 (fr' := (12, [(0, .int 1)], [])) rfl ?_
        exact xe_end pg_97 rfl
      refine xe_sn pg_77 4 (fr' := (40, [(0, .ref 0), (1, .int 1), (2, .int 1), (3, .int p2), (4, .int p3)], [.ref 132])) rfl ?_
      refine xe_sn pg_77 4 (fr' := (46, [(0, .ref 0), (1, .int 1), (2, .int 1), (3, .int p2), (4, .int p3)], [.int 0, .ref 138])) rfl ?_
      refine xe_sn pg_77 4 (fr' := (54, [(5, .ref 140), (0, .ref 0), (1, .int 1), (2, .int 1), (3, .int p2), (4, .int p3)], [.int 0])) rfl ?_
      refine xe_sn pg_77 3 (fr' := (71, [(5, .ref 140), (0, .ref 0), (1, .int 1), (2, .int 1), (3, .int p2), (4, .int p3)], [.int 0])) rfl ?_
      apply xe_callqx pg_77 98 [.int 0] 2 rfl (fun _ => rfl)
      · refine xe_sn pg_98 2 (fr' := (4, [(0, .int 0)], [])) rfl ?_
        exact xe_end pg_98 rfl
    refine xe_sn pg_164 1 (fr' := (28, [(0, .ref 0), (1, .int 1), (2, .int 1), (3, .int p2), (4, .int p3), (5, .ref 189)], [.int 3])) rfl ?_
    exact xe_end pg_164 rfl
  refine And.intro ⟨rfl, rfl, rfl, rfl⟩ ?_
  apply And.intro
  · refine xe_sn pg_143 2 (fr' := (2, [(0, .ref 165), (1, .int 1), (2, .int 1), (3, .int p2), (4, .int p3)], [.int 1, .ref 165])) rfl ?_
    apply xe_callq pg_143 104 [.int 1] (.inl (some (.int 1))) (5, [(0, .ref 165), (1, .int 1), (2, .int 1), (3, .int p2), (4, .int p3)], [.int 1, .ref 165]) rfl (fun _ => rfl)
    · refine xe_sn pg_104 3 (fr' := (3, [(0, .int 1)], [.int 3, .int 0, .int 1])) rfl ?_
      apply xe_callq pg_104 103 [.int 1, .int 0, .int 3] (.inl (some (.int 1))) (6, [(0, .int 1)], [.int 1]) rfl (fun _ => rfl)
      · refine xe_sn pg_103 4 (fr' := (6, [(0, .int 1), (1, .int 0), (2, .int 3)], [.int 1])) rfl ?_
        refine xe_sn pg_103 4 (fr' := (15, [(0, .int 1), (1, .int 0), (2, .int 3)], [.int 1])) rfl ?_
        exact xe_end pg_103 rfl
      exact xe_end pg_104 rfl
    refine xe_sn pg_143 4 (fr' := (11, [(0, .ref 165), (1, .int 1), (2, .int 1), (3, .int p2), (4, .int p3)], [.int 3, .int 1, .int 1, .ref 165])) rfl ?_
    apply xe_callq pg_143 103 [.int 1, .int 1, .int 3] (.inl (some (.int 1))) (14, [(0, .ref 165), (1, .int 1), (2, .int 1), (3, .int p2), (4, .int p3)], [.int 1, .ref 165]) rfl (fun _ => rfl)
    · refine xe_sn pg_103 4 (fr' := (6, [(0, .int 1), (1, .int 1), (2, .int 3)], [.int 1])) rfl ?_
      refine xe_sn pg_103 4 (fr' := (15, [(0, .int 1), (1, .int 1), (2, .int 3)], [.int 1])) rfl ?_
      exact xe_end pg_103 rfl
    refine xe_sn pg_143 4 (fr' := (25, [(0, .ref 165), (1, .int 1), (2, .int 1), (3, .int p2), (4, .int p3)], [.int 7, .int 0, .int p2, .ref 165])) rfl ?_
    apply xe_callq pg_143 103 [.int p2, .int 0, .int 7] (.inl (some (.int 1))) (28, [(0, .ref 165), (1, .int 1), (2, .int 1), (3, .int p2), (4, .int p3)], [.int 1, .ref 165]) rfl (fun _ => rfl)
    · refine xe_sn pg_103 2 (fr' := (2, [(0, .int p2), (1, .int 0), (2, .int 7)], [.int 0, .int p2])) rfl ?_
      refine xe_f2 pg_103 14 rfl rfl (by show ¬ ((p2).toInt < 0); omega) ?_
      refine xe_sn pg_103 2 (fr' := (7, [(0, .int p2), (1, .int 0), (2, .int 7)], [.int 7, .int p2])) rfl ?_
      refine xe_f2 pg_103 14 rfl rfl (by show ¬ (7 < (p2).toInt); omega) ?_
      refine xe_sn pg_103 2 (fr' := (15, [(0, .int p2), (1, .int 0), (2, .int 7)], [.int 1])) rfl ?_
      exact xe_end pg_103 rfl
    refine xe_sn pg_143 4 (fr' := (37, [(0, .ref 165), (1, .int 1), (2, .int 1), (3, .int p2), (4, .int p3)], [.int 255, .int 0, .int p3, .ref 165])) rfl ?_
    apply xe_callq pg_143 103 [.int p3, .int 0, .int 255] (.inl (some (.int 1))) (40, [(0, .ref 165), (1, .int 1), (2, .int 1), (3, .int p2), (4, .int p3)], [.int 1, .ref 165]) rfl (fun _ => rfl)
    · refine xe_sn pg_103 2 (fr' := (2, [(0, .int p3), (1, .int 0), (2, .int 255)], [.int 0, .int p3])) rfl ?_
      refine xe_f2 pg_103 14 rfl rfl (by show ¬ ((p3).toInt < 0); omega) ?_
      refine xe_sn pg_103 2 (fr' := (7, [(0, .int p3), (1, .int 0), (2, .int 255)], [.int 255, .int p3])) rfl ?_
      refine xe_f2 pg_103 14 rfl rfl (by show ¬ (255 < (p3).toInt); omega) ?_
      refine xe_sn pg_103 2 (fr' := (15, [(0, .int p3), (1, .int 0), (2, .int 255)], [.int 1])) rfl ?_
      exact xe_end pg_103 rfl
    refine xe_sn pg_143 4 (fr' := (52, [(0, .ref 165), (1, .int 1), (2, .int 1), (3, .int p2), (4, .int p3)], [.ref 165])) rfl ?_
    refine xe_sn pg_143 4 (fr' := (60, [(0, .ref 165), (1, .int 1), (2, .int 1), (3, .int p2), (4, .int p3)], [.int 1, .int 3])) rfl ?_
    refine xe_sn pg_143 4 (fr' := (64, [(0, .ref 165), (1, .int 1), (2, .int 1), (3, .int p2), (4, .int p3)], [.int 1, .int 4])) rfl ?_
    refine xe_sn pg_143 4 (fr' := (72, [(5, .int 3), (0, .ref 165), (1, .int 1), (2, .int 1), (3, .int p2), (4, .int p3)], [.ref 165])) rfl ?_
    refine xe_sn pg_143 4 (fr' := (80, [(5, .int 3), (0, .ref 165), (1, .int 1), (2, .int 1), (3, .int p2), (4, .int p3)], [.ref 165, .ref 165])) rfl ?_
    refine xe_sn pg_143 4 (fr' := (87, [(5, .int 3), (0, .ref 165), (1, .int 1), (2, .int 1), (3, .int p2), (4, .int p3)], [.int 2, .int 0, .ref 165])) rfl ?_
    refine xe_sn pg_143 4 (fr' := (111, [(5, .int 3), (0, .ref 165), (1, .int 1), (2, .int 1), (3, .int p2), (4, .int p3)], [])) rfl ?_
    refine xe_sn pg_143 4 (fr' := (119, [(5, .int 3), (0, .ref 165), (1, .int 1), (2, .int 1), (3, .int p2), (4, .int p3)], [.int 0])) rfl ?_
    exact xe_end pg_143 rfl
  · exact ⟨⟨rfl, rfl, rfl, rfl⟩, Nat.le_of_ble_eq_true rfl, Nat.le_of_ble_eq_true rfl, rfl, fun q => absurd q (by decide)⟩

set_option maxRecDepth 100000 in
theorem lf_send_26 (xs : Nat → Int32) (p2 : Int32) (p3 : Int32) (a2 : p2.toInt < 0) : op_ok xs 164 143 [.ref 0, .int 1, .int 2, .int p2, .int p3, .ref 189] [.ref 165, .int 1, .int 2, .int p2, .int p3] := by
  refine ⟨2, 0, ?_⟩
  apply Exists.intro
  apply Exists.intro
  apply And.intro
  · refine xe_sn pg_164 4 (fr' := (5, [(0, .ref 0), (1, .int 1), (2, .int 2), (3, .int p2), (4, .int p3), (5, .ref 189)], [.int 1, .ref 0, .int 0, .ref 189])) rfl ?_
    refine xe_sn pg_164 3 (fr' := (9, [(0, .ref 0), (1, .int 1), (2, .int 2), (3, .int p2), (4, .int p3), (5, .ref 189)], [.int p3, .int p2, .int 2, .int 1, .ref 0, .int 0, .ref 189])) rfl ?_
    apply xe_callq pg_164 77 [.ref 0, .int 1, .int 2, .int p2, .int p3] (.inr 1) (23, [(0, .ref 0), (1, .int 1), (2, .int 2), (3, .int p2), (4, .int p3), (5, .ref 189)], []) rfl (fun _ => rfl)
    · refine xe_sn pg_77 1 (fr' := (1, [(0, .ref 0), (1, .int 1), (2, .int 2), (3, .int p2), (4, .int p3)], [.int 1])) rfl ?_
      apply xe_callq pg_77 92 [.int 1] (.inl none) (4, [(0, .ref 0), (1, .int 1), (2, .int 2), (3, .int p2), (4, .int p3)], []) rfl (fun _ => rfl)
      · refine xe_sn pg_92 2 (fr' := (2, [(0, .int 1)], [.int 4, .int 1])) rfl ?_
        apply xe_callq pg_92 95 [.int 1, .int 4] (.inl none) (5, [(0, .int 1)], []) rfl (fun _ => rfl)
        · refine xe_sn pg_95 4 (fr' := (6, [(0, .int 1), (1, .int 4)], [.int 4, .int 1])) rfl ?_
          refine xe_sn pg_95 1 (fr' := (17, [(0, .int 1), (1, .int 4)], [])) rfl ?_
          exact xe_end pg_95 rfl
        exact xe_end pg_92 rfl
      refine xe_sn pg_77 1 (fr' := (5, [(0, .ref 0), (1, .int 1), (2, .int 2), (3, .int p2), (4, .int p3)], [.int 2])) rfl ?_
      apply xe_callq pg_77 94 [.int 2] (.inl none) (8, [(0, .ref 0), (1, .int 1), (2, .int 2), (3, .int p2), (4, .int p3)], []) rfl (fun _ => rfl)
      · refine xe_sn pg_94 1 (fr' := (1, [(0, .int 2)], [.int 2])) rfl ?_
        apply xe_callq pg_94 100 [.int 2] (.inl (some (.int 1))) (4, [(0, .int 2)], [.int 1]) rfl (fun _ => rfl)
        · refine xe_sn pg_100 4 (fr' := (6, [(0, .int 2)], [.int 2])) rfl ?_
          refine xe_sn pg_100 4 (fr' := (15, [(0, .int 2)], [.int 1])) rfl ?_
          exact xe_end pg_100 rfl
        refine xe_sn pg_94 1 (fr' := (15, [(0, .int 2)], [])) rfl ?_
        exact xe_end pg_94 rfl
      refine xe_sn pg_77 1 (fr' := (9, [(0, .ref 0), (1, .int 1), (2, .int 2), (3, .int p2), (4, .int p3)], [.int p2])) rfl ?_
      refine xe_t1 pg_77 22 rfl rfl (by show (p2).toInt < 0; omega) ?_
      refine xe_sn pg_77 1 (fr' := (23, [(0, .ref 0), (1, .int 1), (2, .int 2), (3, .int p2), (4, .int p3)], [.int 0])) rfl ?_
      apply xe_callqx pg_77 97 [.int 0] 1 rfl (fun _ => rfl)
      · refine xe_sn pg_97 2 (fr' := (4, [(0, .int 0)], [])) rfl ?_
        exact xe_end pg_97 rfl
    refine xe_sn pg_164 1 (fr' := (24, [(0, .ref 0), (1, .int 1), (2, .int 2), (3, .int p2), (4, .int p3), (5, .ref 189)], [.int 2])) rfl ?_
    exact xe_end pg_164 rfl
  refine And.intro ⟨rfl, rfl, rfl, rfl⟩ ?_
  apply And.intro
  · refine xe_sn pg_143 2 (fr' := (2, [(0, .ref 165), (1, .int 1), (2, .int 2), (3, .int p2), (4, .int p3)], [.int 1, .ref 165])) rfl ?_
    apply xe_callq pg_143 104 [.int 1] (.inl (some (.int 1))) (5, [(0, .ref 165), (1, .int 1), (2, .int 2), (3, .int p2), (4, .int p3)], [.int 1, .ref 165]) rfl (fun _ => rfl)
    · refine xe_sn pg_104 3 (fr' := (3, [(0, .int 1)], [.int 3, .int 0, .int 1])) rfl ?_
      apply xe_callq pg_104 103 [.int 1, .int 0, .int 3] (.inl (some (.int 1))) (6, [(0, .int 1)], [.int 1]) rfl (fun _ => rfl)
      · refine xe_sn pg_103 4 (fr' := (6, [(0, .int 1), (1, .int 0), (2, .int 3)], [.int 1])) rfl ?_
        refine xe_sn pg_103 4 (fr' := (15, [(0, .int 1), (1, .int 0), (2, .int 3)], [.int 1])) rfl ?_
        exact xe_end pg_103 rfl
      exact xe_end pg_104 rfl
    refine xe_sn pg_143 4 (fr' := (11, [(0, .ref 165), (1, .int 1), (2, .int 2), (3, .int p2), (4, .int p3)], [.int 3, .int 1, .int 2, .ref 165])) rfl ?_
    apply xe_callq pg_143 103 [.int 2, .int 1, .int 3] (.inl (some (.int 1))) (14, [(0, .ref 165), (1, .int 1), (2, .int 2), (3, .int p2), (4, .int p3)], [.int 1, .ref 165]) rfl (fun _ => rfl)
    · refine xe_sn pg_103 4 (fr' := (6, [(0, .int 2), (1, .int 1), (2, .int 3)], [.int 2])) rfl ?_
      refine xe_sn pg_103 4 (fr' := (15, [(0, .int 2), (1, .int 1), (2, .int 3)], [.int 1])) rfl ?_
      exact xe_end pg_103 rfl
    refine xe_sn pg_143 4 (fr' := (25, [(0, .ref 165), (1, .int 1), (2, .int 2), (3, .int p2), (4, .int p3)], [.int 7, .int 0, .int p2, .ref 165])) rfl ?_
    apply xe_callq pg_143 103 [.int p2, .int 0, .int 7] (.inl (some (.int 0))) (28, [(0, .ref 165), (1, .int 1), (2, .int 2), (3, .int p2), (4, .int p3)], [.int 0, .ref 165]) rfl (fun _ => rfl)
    · refine xe_sn pg_103 2 (fr' := (2, [(0, .int p2), (1, .int 0), (2, .int 7)], [.int 0, .int p2])) rfl ?_
      refine xe_t2 pg_103 14 rfl rfl (by show (p2).toInt < 0; omega) ?_
      refine xe_sn pg_103 1 (fr' := (15, [(0, .int p2), (1, .int 0), (2, .int 7)], [.int 0])) rfl ?_
      exact xe_end pg_103 rfl
    refine xe_sn pg_143 4 (fr' := (51, [(0, .ref 165), (1, .int 1), (2, .int 2), (3, .int p2), (4, .int p3)], [])) rfl ?_
    refine xe_sn pg_143 4 (fr' := (69, [(0, .ref 165), (1, .int 1), (2, .int 2), (3, .int p2), (4, .int p3)], [.int 0])) rfl ?_
    refine xe_sn pg_143 4 (fr' := (76, [(5, .int 0), (0, .ref 165), (1, .int 1), (2, .int 2), (3, .int p2), (4, .int p3)], [.int 2, .ref 165])) rfl ?_
    refine xe_sn pg_143 4 (fr' := (111, [(5, .int 0), (0, .ref 165), (1, .int 1), (2, .int 2), (3, .int p2), (4, .int p3)], [])) rfl ?_
    refine xe_sn pg_143 4 (fr' := (119, [(5, .int 0), (0, .ref 165), (1, .int 1), (2, .int 2), (3, .int p2), (4, .int p3)], [.int 0])) rfl ?_
    exact xe_end pg_143 rfl
  · exact ⟨⟨rfl, rfl, rfl, rfl⟩, Nat.le_of_ble_eq_true rfl, Nat.le_of_ble_eq_true rfl, rfl, fun q => absurd q (by decide)⟩

set_option maxRecDepth 100000 in
theorem lf_send_27 (xs : Nat → Int32) (p2 : Int32) (p3 : Int32) (b2 : 7 < p2.toInt) : op_ok xs 164 143 [.ref 0, .int 1, .int 2, .int p2, .int p3, .ref 189] [.ref 165, .int 1, .int 2, .int p2, .int p3] := by
  refine ⟨2, 0, ?_⟩
  apply Exists.intro
  apply Exists.intro
  apply And.intro
  · refine xe_sn pg_164 4 (fr' := (5, [(0, .ref 0), (1, .int 1), (2, .int 2), (3, .int p2), (4, .int p3), (5, .ref 189)], [.int 1, .ref 0, .int 0, .ref 189])) rfl ?_
    refine xe_sn pg_164 3 (fr' := (9, [(0, .ref 0), (1, .int 1), (2, .int 2), (3, .int p2), (4, .int p3), (5, .ref 189)], [.int p3, .int p2, .int 2, .int 1, .ref 0, .int 0, .ref 189])) rfl ?_
    apply xe_callq pg_164 77 [.ref 0, .int 1, .int 2, .int p2, .int p3] (.inr 1) (23, [(0, .ref 0), (1, .int 1), (2, .int 2), (3, .int p2), (4, .int p3), (5, .ref 189)], []) rfl (fun _ => rfl)
    · refine xe_sn pg_77 1 (fr' := (1, [(0, .ref 0), (1, .int 1), (2, .int 2), (3, .int p2), (4, .int p3)], [.int 1])) rfl ?_
      apply xe_callq pg_77 92 [.int 1] (.inl none) (4, [(0, .ref 0), (1, .int 1), (2, .int 2), (3, .int p2), (4, .int p3)], []) rfl (fun _ => rfl)
      · refine xe_sn pg_92 2 (fr' := (2, [(0, .int 1)], [.int 4, .int 1])) rfl ?_
        apply xe_callq pg_92 95 [.int 1, .int 4] (.inl none) (5, [(0, .int 1)], []) rfl (fun _ => rfl)
        · refine xe_sn pg_95 4 (fr' := (6, [(0, .int 1), (1, .int 4)], [.int 4, .int 1])) rfl ?_
          refine xe_sn pg_95 1 (fr' := (17, [(0, .int 1), (1, .int 4)], [])) rfl ?_
          exact xe_end pg_95 rfl
        exact xe_end pg_92 rfl
      refine xe_sn pg_77 1 (fr' := (5, [(0, .ref 0), (1, .int 1), (2, .int 2), (3, .int p2), (4, .int p3)], [.int 2])) rfl ?_
      apply xe_callq pg_77 94 [.int 2] (.inl none) (8, [(0, .ref 0), (1, .int 1), (2, .int 2), (3, .int p2), (4, .int p3)], []) rfl (fun _ => rfl)
      · refine xe_sn pg_94 1 (fr' := (1, [(0, .int 2)], [.int 2])) rfl ?_
        apply xe_callq pg_94 100 [.int 2] (.inl (some (.int 1))) (4, [(0, .int 2)], [.int 1]) rfl (fun _ => rfl)
        · refine xe_sn pg_100 4 (fr' := (6, [(0, .int 2)], [.int 2])) rfl ?_
          refine xe_sn pg_100 4 (fr' := (15, [(0, .int 2)], [.int 1])) rfl ?_
          exact xe_end pg_100 rfl
        refine xe_sn pg_94 1 (fr' := (15, [(0, .int 2)], [])) rfl ?_
        exact xe_end pg_94 rfl
      refine xe_sn pg_77 1 (fr' := (9, [(0, .ref 0), (1, .int 1), (2, .int 2), (3, .int p2), (4, .int p3)], [.int p2])) rfl ?_
      refine xe_f1 pg_77 22 rfl rfl (by show ¬ ((p2).toInt < 0); omega) ?_
      refine xe_sn pg_77 2 (fr' := (15, [(0, .ref 0), (1, .int 1), (2, .int 2), (3, .int p2), (4, .int p3)], [.int 7, .int p2])) rfl ?_
      refine xe_t2 pg_77 22 rfl rfl (by show 7 < (p2).toInt; omega) ?_
      refine xe_sn pg_77 1 (fr' := (23, [(0, .ref 0), (1, .int 1), (2, .int 2), (3, .int p2), (4, .int p3)], [.int 0])) rfl ?_
      apply xe_callqx pg_77 97 [.int 0] 1 rfl (fun _ => rfl)
      · refine xe_sn pg_97 2 (fr' := (4, [(0, .int 0)], [])) rfl ?_
        exact xe_end pg_97 rfl
    refine xe_sn pg_164 1 (fr' := (24, [(0, .ref 0), (1, .int 1), (2, .int 2), (3, .int p2), (4, .int p3), (5, .ref 189)], [.int 2])) rfl ?_
    exact xe_end pg_164 rfl
  refine And.intro ⟨rfl, rfl, rfl, rfl⟩ ?_
  apply And.intro
  · refine xe_sn pg_143 2 (fr' := (2, [(0, .ref 165), (1, .int 1), (2, .int 2), (3, .int p2), (4, .int p3)], [.int 1, .ref 165])) rfl ?_
    apply xe_callq pg_143 104 [.int 1] (.inl (some (.int 1))) (5, [(0, .ref 165), (1, .int 1), (2, .int 2), (3, .int p2), (4, .int p3)], [.int 1, .ref 165]) rfl (fun _ => rfl)
    · refine xe_sn pg_104 3 (fr' := (3, [(0, .int 1)], [.int 3, .int 0, .int 1])) rfl ?_
      apply xe_callq pg_104 103 [.int 1, .int 0, .int 3] (.inl (some (.int 1))) (6, [(0, .int 1)], [.int 1]) rfl (fun _ => rfl)
      · refine xe_sn pg_103 4 (fr' := (6, [(0, .int 1), (1, .int 0), (2, .int 3)], [.int 1])) rfl ?_
        refine xe_sn pg_103 4 (fr' := (15, [(0, .int 1), (1, .int 0), (2, .int 3)], [.int 1])) rfl ?_
        exact xe_end pg_103 rfl
      exact xe_end pg_104 rfl
    refine xe_sn pg_143 4 (fr' := (11, [(0, .ref 165), (1, .int 1), (2, .int 2), (3, .int p2), (4, .int p3)], [.int 3, .int 1, .int 2, .ref 165])) rfl ?_
    apply xe_callq pg_143 103 [.int 2, .int 1, .int 3] (.inl (some (.int 1))) (14, [(0, .ref 165), (1, .int 1), (2, .int 2), (3, .int p2), (4, .int p3)], [.int 1, .ref 165]) rfl (fun _ => rfl)
    · refine xe_sn pg_103 4 (fr' := (6, [(0, .int 2), (1, .int 1), (2, .int 3)], [.int 2])) rfl ?_
      refine xe_sn pg_103 4 (fr' := (15, [(0, .int 2), (1, .int 1), (2, .int 3)], [.int 1])) rfl ?_
      exact xe_end pg_103 rfl
    refine xe_sn pg_143 4 (fr' := (25, [(0, .ref 165), (1, .int 1), (2, .int 2), (3, .int p2), (4, .int p3)], [.int 7, .int 0, .int p2, .ref 165])) rfl ?_
    apply xe_callq pg_143 103 [.int p2, .int 0, .int 7] (.inl (some (.int 0))) (28, [(0, .ref 165), (1, .int 1), (2, .int 2), (3, .int p2), (4, .int p3)], [.int 0, .ref 165]) rfl (fun _ => rfl)
    · refine xe_sn pg_103 2 (fr' := (2, [(0, .int p2), (1, .int 0), (2, .int 7)], [.int 0, .int p2])) rfl ?_
      refine xe_f2 pg_103 14 rfl rfl (by show ¬ ((p2).toInt < 0); omega) ?_
      refine xe_sn pg_103 2 (fr' := (7, [(0, .int p2), (1, .int 0), (2, .int 7)], [.int 7, .int p2])) rfl ?_
      refine xe_t2 pg_103 14 rfl rfl (by show 7 < (p2).toInt; omega) ?_
      refine xe_sn pg_103 1 (fr' := (15, [(0, .int p2), (1, .int 0), (2, .int 7)], [.int 0])) rfl ?_
      exact xe_end pg_103 rfl
    refine xe_sn pg_143 4 (fr' := (51, [(0, .ref 165), (1, .int 1), (2, .int 2), (3, .int p2), (4, .int p3)], [])) rfl ?_
    refine xe_sn pg_143 4 (fr' := (69, [(0, .ref 165), (1, .int 1), (2, .int 2), (3, .int p2), (4, .int p3)], [.int 0])) rfl ?_
    refine xe_sn pg_143 4 (fr' := (76, [(5, .int 0), (0, .ref 165), (1, .int 1), (2, .int 2), (3, .int p2), (4, .int p3)], [.int 2, .ref 165])) rfl ?_
    refine xe_sn pg_143 4 (fr' := (111, [(5, .int 0), (0, .ref 165), (1, .int 1), (2, .int 2), (3, .int p2), (4, .int p3)], [])) rfl ?_
    refine xe_sn pg_143 4 (fr' := (119, [(5, .int 0), (0, .ref 165), (1, .int 1), (2, .int 2), (3, .int p2), (4, .int p3)], [.int 0])) rfl ?_
    exact xe_end pg_143 rfl
  · exact ⟨⟨rfl, rfl, rfl, rfl⟩, Nat.le_of_ble_eq_true rfl, Nat.le_of_ble_eq_true rfl, rfl, fun q => absurd q (by decide)⟩

set_option maxRecDepth 100000 in
theorem lf_send_28 (xs : Nat → Int32) (p2 : Int32) (p3 : Int32) (a2 : 0 ≤ p2.toInt) (b2 : p2.toInt ≤ 7) (a3 : p3.toInt < 0) : op_ok xs 164 143 [.ref 0, .int 1, .int 2, .int p2, .int p3, .ref 189] [.ref 165, .int 1, .int 2, .int p2, .int p3] := by
  refine ⟨2, 0, ?_⟩
  apply Exists.intro
  apply Exists.intro
  apply And.intro
  · refine xe_sn pg_164 4 (fr' := (5, [(0, .ref 0), (1, .int 1), (2, .int 2), (3, .int p2), (4, .int p3), (5, .ref 189)], [.int 1, .ref 0, .int 0, .ref 189])) rfl ?_
    refine xe_sn pg_164 3 (fr' := (9, [(0, .ref 0), (1, .int 1), (2, .int 2), (3, .int p2), (4, .int p3), (5, .ref 189)], [.int p3, .int p2, .int 2, .int 1, .ref 0, .int 0, .ref 189])) rfl ?_
    apply xe_callq pg_164 77 [.ref 0, .int 1, .int 2, .int p2, .int p3] (.inr 1) (23, [(0, .ref 0), (1, .int 1), (2, .int 2), (3, .int p2), (4, .int p3), (5, .ref 189)], []) rfl (fun _ => rfl)
    · refine xe_sn pg_77 1 (fr' := (1, [(0, .ref 0), (1, .int 1), (2, .int 2), (3, .int p2), (4, .int p3)], [.int 1])) rfl ?_
      apply xe_callq pg_77 92 [.int 1] (.inl none) (4, [(0, .ref 0), (1, .int 1), (2, .int 2), (3, .int p2), (4, .int p3)], []) rfl (fun _ => rfl)
      · refine xe_sn pg_92 2 (fr' := (2, [(0, .int 1)], [.int 4, .int 1])) rfl ?_
        apply xe_callq pg_92 95 [.int 1, .int 4] (.inl none) (5, [(0, .int 1)], []) rfl (fun _ => rfl)
        · refine xe_sn pg_95 4 (fr' := (6, [(0, .int 1), (1, .int 4)], [.int 4, .int 1])) rfl ?_
          refine xe_sn pg_95 1 (fr' := (17, [(0, .int 1), (1, .int 4)], [])) rfl ?_
          exact xe_end pg_95 rfl
        exact xe_end pg_92 rfl
      refine xe_sn pg_77 1 (fr' := (5, [(0, .ref 0), (1, .int 1), (2, .int 2), (3, .int p2), (4, .int p3)], [.int 2])) rfl ?_
      apply xe_callq pg_77 94 [.int 2] (.inl none) (8, [(0, .ref 0), (1, .int 1), (2, .int 2), (3, .int p2), (4, .int p3)], []) rfl (fun _ => rfl)
      · refine xe_sn pg_94 1 (fr' := (1, [(0, .int 2)], [.int 2])) rfl ?_
        apply xe_callq pg_94 100 [.int 2] (.inl (some (.int 1))) (4, [(0, .int 2)], [.int 1]) rfl (fun _ => rfl)
        · refine xe_sn pg_100 4 (fr' := (6, [(0, .int 2)], [.int 2])) rfl ?_
          refine xe_sn pg_100 4 (fr' := (15, [(0, .int 2)], [.int 1])) rfl ?_
          exact xe_end pg_100 rfl
        refine xe_sn pg_94 1 (fr' := (15, [(0, .int 2)], [])) rfl ?_
        exact xe_end pg_94 rfl
      refine xe_sn pg_77 1 (fr' := (9, [(0, .ref 0), (1, .int 1), (2, .int 2), (3, .int p2), (4, .int p3)], [.int p2])) rfl ?_
      refine xe_f1 pg_77 22 rfl rfl (by show ¬ ((p2).toInt < 0); omega) ?_
      refine xe_sn pg_77 2 (fr' := (15, [(0, .ref 0), (1, .int 1), (2, .int 2), (3, .int p2), (4, .int p3)], [.int 7, .int p2])) rfl ?_
      refine xe_f2 pg_77 22 rfl rfl (by show ¬ (7 < (p2).toInt); omega) ?_
      refine xe_sn pg_77 2 (fr' := (23, [(0, .ref 0), (1, .int 1), (2, .int 2), (3, .int p2), (4, .int p3)], [.int 1])) rfl ?_
      apply xe_callq pg_77 97 [.int 1] (.inl none) (26, [(0, .ref 0), (1, .int 1), (2, .int 2), (3, .int p2), (4, .int p3)], []) rfl (fun _ => rfl)
      · refine xe_sn pg_97 2 (fr' := (12, [(0, .int 1)], [])) rfl ?_
        exact xe_end pg_97 rfl
      refine xe_sn pg_77 1 (fr' := (28, [(0, .ref 0), (1, .int 1), (2, .int 2), (3, .int p2), (4, .int p3)], [.int p3])) rfl ?_
      apply xe_callq pg_77 99 [.int p3] (.inl (some (.int 0))) (31, [(0, .ref 0), (1, .int 1), (2, .int 2), (3, .int p2), (4, .int p3)], [.int 0]) rfl (fun _ => rfl)
      · refine xe_sn pg_99 1 (fr' := (1, [(0, .int p3)], [.int p3])) rfl ?_
        refine xe_t1 pg_99 15 rfl rfl (by show (p3).toInt < 0; omega) ?_
        refine xe_sn pg_99 1 (fr' := (16, [(0, .int p3)], [.int 0])) rfl ?_
        exact xe_end pg_99 rfl
      apply xe_callqx pg_77 97 [.int 0] 1 rfl (fun _ => rfl)
      · refine xe_sn pg_97 2 (fr' := (4, [(0, .int 0)], [])) rfl ?_
        exact xe_end pg_97 rfl
    refine xe_sn pg_164 1 (fr' := (24, [(0, .ref 0), (1, .int 1), (2, .int 2), (3, .int p2), (4, .int p3), (5, .ref 189)], [.int 2])) rfl ?_
    exact xe_end pg_164 rfl
  refine And.intro ⟨rfl, rfl, rfl, rfl⟩ ?_
  apply And.intro
  · refine xe_sn pg_143 2 (fr' := (2, [(0, .ref 165), (1, .int 1), (2, .int 2), (3, .int p2), (4, .int p3)], [.int 1, .ref 165])) rfl ?_
    apply xe_callq pg_143 104 [.int 1] (.inl (some (.int 1))) (5, [(0, .ref 165), (1, .int 1), (2, .int 2), (3, .int p2), (4, .int p3)], [.int 1, .ref 165]) rfl (fun _ => rfl)
    · refine xe_sn pg_104 3 (fr' := (3, [(0, .int 1)], [.int 3, .int 0, .int 1])) rfl ?_
      apply xe_callq pg_104 103 [.int 1, .int 0, .int 3] (.inl (some (.int 1))) (6, [(0, .int 1)], [.int 1]) rfl (fun _ => rfl)
      · refine xe_sn pg_103 4 (fr' := (6, [(0, .int 1), (1, .int 0), (2, .int 3)], [.int 1])) rfl ?_
        refine xe_sn pg_103 4 (fr' := (15, [(0, .int 1), (1, .int 0), (2, .int 3)], [.int 1])) rfl ?_
        exact xe_end pg_103 rfl
      exact xe_end pg_104 rfl
    refine xe_sn pg_143 4 (fr' := (11, [(0, .ref 165), (1, .int 1), (2, .int 2), (3, .int p2), (4, .int p3)], [.int 3, .int 1, .int 2, .ref 165])) rfl ?_
    apply xe_callq pg_143 103 [.int 2, .int 1, .int 3] (.inl (some (.int 1))) (14, [(0, .ref 165), (1, .int 1), (2, .int 2), (3, .int p2), (4, .int p3)], [.int 1, .ref 165]) rfl (fun _ => rfl)
    · refine xe_sn pg_103 4 (fr' := (6, [(0, .int 2), (1, .int 1), (2, .int 3)], [.int 2])) rfl ?_
      refine xe_sn pg_103 4 (fr' := (15, [(0, .int 2), (1, .int 1), (2, .int 3)], [.int 1])) rfl ?_
      exact xe_end pg_103 rfl
    refine xe_sn pg_143 4 (fr' := (25, [(0, .ref 165), (1, .int 1), (2, .int 2), (3, .int p2), (4, .int p3)], [.int 7, .int 0, .int p2, .ref 165])) rfl ?_
    apply xe_callq pg_143 103 [.int p2, .int 0, .int 7] (.inl (some (.int 1))) (28, [(0, .ref 165), (1, .int 1), (2, .int 2), (3, .int p2), (4, .int p3)], [.int 1, .ref 165]) rfl (fun _ => rfl)
    · refine xe_sn pg_103 2 (fr' := (2, [(0, .int p2), (1, .int 0), (2, .int 7)], [.int 0, .int p2])) rfl ?_
      refine xe_f2 pg_103 14 rfl rfl (by show ¬ ((p2).toInt < 0); omega) ?_
      refine xe_sn pg_103 2 (fr' := (7, [(0, .int p2), (1, .int 0), (2, .int 7)], [.int 7, .int p2])) rfl ?_
      refine xe_f2 pg_103 14 rfl rfl (by show ¬ (7 < (p2).toInt); omega) ?_
      refine xe_sn pg_103 2 (fr' := (15, [(0, .int p2), (1, .int 0), (2, .int 7)], [.int 1])) rfl ?_
      exact xe_end pg_103 rfl
    refine xe_sn pg_143 4 (fr' := (37, [(0, .ref 165), (1, .int 1), (2, .int 2), (3, .int p2), (4, .int p3)], [.int 255, .int 0, .int p3, .ref 165])) rfl ?_
    apply xe_callq pg_143 103 [.int p3, .int 0, .int 255] (.inl (some (.int 0))) (40, [(0, .ref 165), (1, .int 1), (2, .int 2), (3, .int p2), (4, .int p3)], [.int 0, .ref 165]) rfl (fun _ => rfl)
    · refine xe_sn pg_103 2 (fr' := (2, [(0, .int p3), (1, .int 0), (2, .int 255)], [.int 0, .int p3])) rfl ?_
      refine xe_t2 pg_103 14 rfl rfl (by show (p3).toInt < 0; omega) ?_
      refine xe_sn pg_103 1 (fr' := (15, [(0, .int p3), (1, .int 0), (2, .int 255)], [.int 0])) rfl ?_
      exact xe_end pg_103 rfl
    refine xe_sn pg_143 4 (fr' := (51, [(0, .ref 165), (1, .int 1), (2, .int 2), (3, .int p2), (4, .int p3)], [])) rfl ?_
    refine xe_sn pg_143 4 (fr' := (69, [(0, .ref 165), (1, .int 1), (2, .int 2), (3, .int p2), (4, .int p3)], [.int 0])) rfl ?_
    refine xe_sn pg_143 4 (fr' := (76, [(5, .int 0), (0, .ref 165), (1, .int 1), (2, .int 2), (3, .int p2), (4, .int p3)], [.int 2, .ref 165])) rfl ?_
    refine xe_sn pg_143 4 (fr' := (111, [(5, .int 0), (0, .ref 165), (1, .int 1), (2, .int 2), (3, .int p2), (4, .int p3)], [])) rfl ?_
    refine xe_sn pg_143 4 (fr' := (119, [(5, .int 0), (0, .ref 165), (1, .int 1), (2, .int 2), (3, .int p2), (4, .int p3)], [.int 0])) rfl ?_
    exact xe_end pg_143 rfl
  · exact ⟨⟨rfl, rfl, rfl, rfl⟩, Nat.le_of_ble_eq_true rfl, Nat.le_of_ble_eq_true rfl, rfl, fun q => absurd q (by decide)⟩

set_option maxRecDepth 100000 in
theorem lf_send_29 (xs : Nat → Int32) (p2 : Int32) (p3 : Int32) (a2 : 0 ≤ p2.toInt) (b2 : p2.toInt ≤ 7) (b3 : 255 < p3.toInt) : op_ok xs 164 143 [.ref 0, .int 1, .int 2, .int p2, .int p3, .ref 189] [.ref 165, .int 1, .int 2, .int p2, .int p3] := by
  refine ⟨2, 0, ?_⟩
  apply Exists.intro
  apply Exists.intro
  apply And.intro
  · refine xe_sn pg_164 4 (fr' := (5, [(0, .ref 0), (1, .int 1), (2, .int 2), (3, .int p2), (4, .int p3), (5, .ref 189)], [.int 1, .ref 0, .int 0, .ref 189])) rfl ?_
    refine xe_sn pg_164 3 (fr' := (9, [(0, .ref 0), (1, .int 1), (2, .int 2), (3, .int p2), (4, .int p3), (5, .ref 189)], [.int p3, .int p2, .int 2, .int 1, .ref 0, .int 0, .ref 189])) rfl ?_
    apply xe_callq pg_164 77 [.ref 0, .int 1, .int 2, .int p2, .int p3] (.inr 1) (23, [(0, .ref 0), (1, .int 1), (2, .int 2), (3, .int p2), (4, .int p3), (5, .ref 189)], []) rfl (fun _ => rfl)
    · refine xe_sn pg_77 1 (fr' := (1, [(0, .ref 0), (1, .int 1), (2, .int 2), (3, .int p2), (4, .int p3)], [.int 1])) rfl ?_
      apply xe_callq pg_77 92 [.int 1] (.inl none) (4, [(0, .ref 0), (1, .int 1), (2, .int 2), (3, .int p2), (4, .int p3)], []) rfl (fun _ => rfl)
      · refine xe_sn pg_92 2 (fr' := (2, [(0, .int 1)], [.int 4, .int 1])) rfl ?_
        apply xe_callq pg_92 95 [.int 1, .int 4] (.inl none) (5, [(0, .int 1)], []) rfl (fun _ => rfl)
        · refine xe_sn pg_95 4 (fr' := (6, [(0, .int 1), (1, .int 4)], [.int 4, .int 1])) rfl ?_
          refine xe_sn pg_95 1 (fr' := (17, [(0, .int 1), (1, .int 4)], [])) rfl ?_
          exact xe_end pg_95 rfl
        exact xe_end pg_92 rfl
      refine xe_sn pg_77 1 (fr' := (5, [(0, .ref 0), (1, .int 1), (2, .int 2), (3, .int p2), (4, .int p3)], [.int 2])) rfl ?_
      apply xe_callq pg_77 94 [.int 2] (.inl none) (8, [(0, .ref 0), (1, .int 1), (2, .int 2), (3, .int p2), (4, .int p3)], []) rfl (fun _ => rfl)
      · refine xe_sn pg_94 1 (fr' := (1, [(0, .int 2)], [.int 2])) rfl ?_
        apply xe_callq pg_94 100 [.int 2] (.inl (some (.int 1))) (4, [(0, .int 2)], [.int 1]) rfl (fun _ => rfl)
        · refine xe_sn pg_100 4 (fr' := (6, [(0, .int 2)], [.int 2])) rfl ?_
          refine xe_sn pg_100 4 (fr' := (15, [(0, .int 2)], [.int 1])) rfl ?_
          exact xe_end pg_100 rfl
        refine xe_sn pg_94 1 (fr' := (15, [(0, .int 2)], [])) rfl ?_
        exact xe_end pg_94 rfl
      refine xe_sn pg_77 1 (fr' := (9, [(0, .ref 0), (1, .int 1), (2, .int 2), (3, .int p2), (4, .int p3)], [.int p2])) rfl ?_
      refine xe_f1 pg_77 22 rfl rfl (by show ¬ ((p2).toInt < 0); omega) ?_
      refine xe_sn pg_77 2 (fr' := (15, [(0, .ref 0), (1, .int 1), (2, .int 2), (3, .int p2), (4, .int p3)], [.int 7, .int p2])) rfl ?_
      refine xe_f2 pg_77 22 rfl rfl (by show ¬ (7 < (p2).toInt); omega) ?_
      refine xe_sn pg_77 2 (fr' := (23, [(0, .ref 0), (1, .int 1), (2, .int 2), (3, .int p2), (4, .int p3)], [.int 1])) rfl ?_
      apply xe_callq pg_77 97 [.int 1] (.inl none) (26, [(0, .ref 0), (1, .int 1), (2, .int 2), (3, .int p2), (4, .int p3)], []) rfl (fun _ => rfl)
      · refine xe_sn pg_97 2 (fr' := (12, [(0, .int 1)], [])) rfl ?_
        exact xe_end pg_97 rfl
      refine xe_sn pg_77 1 (fr' := (28, [(0, .ref 0), (1, .int 1), (2, .int 2), (3, .int p2), (4, .int p3)], [.int p3])) rfl ?_
      apply xe_callq pg_77 99 [.int p3] (.inl (some (.int 0))) (31, [(0, .ref 0), (1, .int 1), (2, .int 2), (3, .int p2), (4, .int p3)], [.int 0]) rfl (fun _ => rfl)
      · refine xe_sn pg_99 1 (fr' := (1, [(0, .int p3)], [.int p3])) rfl ?_
        refine xe_f1 pg_99 15 rfl rfl (by show ¬ ((p3).toInt < 0); omega) ?_
        refine xe_sn pg_99 2 (fr' := (8, [(0, .int p3)], [.int 255, .int p3])) rfl ?_
        refine xe_t2 pg_99 15 rfl rfl (by show 255 < (p3).toInt; omega) ?_
        refine xe_sn pg_99 1 (fr' := (16, [(0, .int p3)], [.int 0])) rfl ?_
        exact xe_end pg_99 rfl
      apply xe_callqx pg_77 97 [.int 0] 1 rfl (fun _ => rfl)
      · refine xe_sn pg_97 2 (fr' := (4, [(0, .int 0)], [])) rfl ?_
        exact xe_end pg_97 rfl
    refine xe_sn pg_164 1 (fr' := (24, [(0, .ref 0), (1, .int 1), (2, .int 2), (3, .int p2), (4, .int p3), (5, .ref 189)], [.int 2])) rfl ?_
    exact xe_end pg_164 rfl
  refine And.intro ⟨rfl, rfl, rfl, rfl⟩ ?_
  apply And.intro
  · refine xe_sn pg_143 2 (fr' := (2, [(0, .ref 165), (1, .int 1), (2, .int 2), (3, .int p2), (4, .int p3)], [.int 1, .ref 165])) rfl ?_
    apply xe_callq pg_143 104 [.int 1] (.inl (some (.int 1))) (5, [(0, .ref 165), (1, .int 1), (2, .int 2), (3, .int p2), (4, .int p3)], [.int 1, .ref 165]) rfl (fun _ => rfl)
    · refine xe_sn pg_104 3 (fr' := (3, [(0, .int 1)], [.int 3, .int 0, .int 1])) rfl ?_
      apply xe_callq pg_104 103 [.int 1, .int 0, .int 3] (.inl (some (.int 1))) (6, [(0, .int 1)], [.int 1]) rfl (fun _ => rfl)
      · refine xe_sn pg_103 4 (fr' := (6, [(0, .int 1), (1, .int 0), (2, .int 3)], [.int 1])) rfl ?_
        refine xe_sn pg_103 4 (fr' := (15, [(0, .int 1), (1, .int 0), (2, .int 3)], [.int 1])) rfl ?_
        exact xe_end pg_103 rfl
      exact xe_end pg_104 rfl
    refine xe_sn pg_143 4 (fr' := (11, [(0, .ref 165), (1, .int 1), (2, .int 2), (3, .int p2), (4, .int p3)], [.int 3, .int 1, .int 2, .ref 165])) rfl ?_
    apply xe_callq pg_143 103 [.int 2, .int 1, .int 3] (.inl (some (.int 1))) (14, [(0, .ref 165), (1, .int 1), (2, .int 2), (3, .int p2), (4, .int p3)], [.int 1, .ref 165]) rfl (fun _ => rfl)
    · refine xe_sn pg_103 4 (fr' := (6, [(0, .int 2), (1, .int 1), (2, .int 3)], [.int 2])) rfl ?_
      refine xe_sn pg_103 4 (fr' := (15, [(0, .int 2), (1, .int 1), (2, .int 3)], [.int 1])) rfl ?_
      exact xe_end pg_103 rfl
    refine xe_sn pg_143 4 (fr' := (25, [(0, .ref 165), (1, .int 1), (2, .int 2), (3, .int p2), (4, .int p3)], [.int 7, .int 0, .int p2, .ref 165])) rfl ?_
    apply xe_callq pg_143 103 [.int p2, .int 0, .int 7] (.inl (some (.int 1))) (28, [(0, .ref 165), (1, .int 1), (2, .int 2), (3, .int p2), (4, .int p3)], [.int 1, .ref 165]) rfl (fun _ => rfl)
    · refine xe_sn pg_103 2 (fr' := (2, [(0, .int p2), (1, .int 0), (2, .int 7)], [.int 0, .int p2])) rfl ?_
      refine xe_f2 pg_103 14 rfl rfl (by show ¬ ((p2).toInt < 0); omega) ?_
      refine xe_sn pg_103 2 (fr' := (7, [(0, .int p2), (1, .int 0), (2, .int 7)], [.int 7, .int p2])) rfl ?_
      refine xe_f2 pg_103 14 rfl rfl (by show ¬ (7 < (p2).toInt); omega) ?_
      refine xe_sn pg_103 2 (fr' := (15, [(0, .int p2), (1, .int 0), (2, .int 7)], [.int 1])) rfl ?_
      exact xe_end pg_103 rfl
    refine xe_sn pg_143 4 (fr' := (37, [(0, .ref 165), (1, .int 1), (2, .int 2), (3, .int p2), (4, .int p3)], [.int 255, .int 0, .int p3, .ref 165])) rfl ?_
    apply xe_callq pg_143 103 [.int p3, .int 0, .int 255] (.inl (some (.int 0))) (40, [(0, .ref 165), (1, .int 1), (2, .int 2), (3, .int p2), (4, .int p3)], [.int 0, .ref 165]) rfl (fun _ => rfl)
    · refine xe_sn pg_103 2 (fr' := (2, [(0, .int p3), (1, .int 0), (2, .int 255)], [.int 0, .int p3])) rfl ?_
      refine xe_f2 pg_103 14 rfl rfl (by show ¬ ((p3).toInt < 0); omega) ?_
      refine xe_sn pg_103 2 (fr' := (7, [(0, .int p3), (1, .int 0), (2, .int 255)], [.int 255, .int p3])) rfl ?_
      refine xe_t2 pg_103 14 rfl rfl (by show 255 < (p3).toInt; omega) ?_
      refine xe_sn pg_103 1 (fr' := (15, [(0, .int p3), (1, .int 0), (2, .int 255)], [.int 0])) rfl ?_
      exact xe_end pg_103 rfl
    refine xe_sn pg_143 4 (fr' := (51, [(0, .ref 165), (1, .int 1), (2, .int 2), (3, .int p2), (4, .int p3)], [])) rfl ?_
    refine xe_sn pg_143 4 (fr' := (69, [(0, .ref 165), (1, .int 1), (2, .int 2), (3, .int p2), (4, .int p3)], [.int 0])) rfl ?_
    refine xe_sn pg_143 4 (fr' := (76, [(5, .int 0), (0, .ref 165), (1, .int 1), (2, .int 2), (3, .int p2), (4, .int p3)], [.int 2, .ref 165])) rfl ?_
    refine xe_sn pg_143 4 (fr' := (111, [(5, .int 0), (0, .ref 165), (1, .int 1), (2, .int 2), (3, .int p2), (4, .int p3)], [])) rfl ?_
    refine xe_sn pg_143 4 (fr' := (119, [(5, .int 0), (0, .ref 165), (1, .int 1), (2, .int 2), (3, .int p2), (4, .int p3)], [.int 0])) rfl ?_
    exact xe_end pg_143 rfl
  · exact ⟨⟨rfl, rfl, rfl, rfl⟩, Nat.le_of_ble_eq_true rfl, Nat.le_of_ble_eq_true rfl, rfl, fun q => absurd q (by decide)⟩

set_option maxRecDepth 100000 in
theorem lf_send_30 (xs : Nat → Int32) (p2 : Int32) (p3 : Int32) (a2 : 0 ≤ p2.toInt) (b2 : p2.toInt ≤ 7) (a3 : 0 ≤ p3.toInt) (b3 : p3.toInt ≤ 255) : op_ok xs 164 143 [.ref 0, .int 1, .int 2, .int p2, .int p3, .ref 189] [.ref 165, .int 1, .int 2, .int p2, .int p3] := by
  refine ⟨3, 0, ?_⟩
  apply Exists.intro
  apply Exists.intro
  apply And.intro
  · refine xe_sn pg_164 4 (fr' := (5, [(0, .ref 0), (1, .int 1), (2, .int 2), (3, .int p2), (4, .int p3), (5, .ref 189)], [.int 1, .ref 0, .int 0, .ref 189])) rfl ?_
    refine xe_sn pg_164 3 (fr' := (9, [(0, .ref 0), (1, .int 1), (2, .int 2), (3, .int p2), (4, .int p3), (5, .ref 189)], [.int p3, .int p2, .int 2, .int 1, .ref 0, .int 0, .ref 189])) rfl ?_
    apply xe_callq pg_164 77 [.ref 0, .int 1, .int 2, .int p2, .int p3] (.inr 2) (27, [(0, .ref 0), (1, .int 1), (2, .int 2), (3, .int p2), (4, .int p3), (5, .ref 189)], []) rfl (fun _ => rfl)
    · refine xe_sn pg_77 1 (fr' := (1, [(0, .ref 0), (1, .int 1), (2, .int 2), (3, .int p2), (4, .int p3)], [.int 1])) rfl ?_
      apply xe_callq pg_77 92 [.int 1] (.inl none) (4, [(0, .ref 0), (1, .int 1), (2, .int 2), (3, .int p2), (4, .int p3)], []) rfl (fun _ => rfl)
      · refine xe_sn pg_92 2 (fr' := (2, [(0, .int 1)], [.int 4, .int 1])) rfl ?_
        apply xe_callq pg_92 95 [.int 1, .int 4] (.inl none) (5, [(0, .int 1)], []) rfl (fun _ => rfl)
        · refine xe_sn pg_95 4 (fr' := (6, [(0, .int 1), (1, .int 4)], [.int 4, .int 1])) rfl ?_
          refine xe_sn pg_95 1 (fr' := (17, [(0, .int 1), (1, .int 4)], [])) rfl ?_
          exact xe_end pg_95 rfl
        exact xe_end pg_92 rfl
      refine xe_sn pg_77 1 (fr' := (5, [(0, .ref 0), (1, .int 1), (2, .int 2), (3, .int p2), (4, .int p3)], [.int 2])) rfl ?_
      apply xe_callq pg_77 94 [.int 2] (.inl none) (8, [(0, .ref 0), (1, .int 1), (2, .int 2), (3, .int p2), (4, .int p3)], []) rfl (fun _ => rfl)
      · refine xe_sn pg_94 1 (fr' := (1, [(0, .int 2)], [.int 2])) rfl ?_
        apply xe_callq pg_94 100 [.int 2] (.inl (some (.int 1))) (4, [(0, .int 2)], [.int 1]) rfl (fun _ => rfl)
        · refine xe_sn pg_100 4 (fr' := (6, [(0, .int 2)], [.int 2])) rfl ?_
          refine xe_sn pg_100 4 (fr' := (15, [(0, .int 2)], [.int 1])) rfl ?_
          exact xe_end pg_100 rfl
        refine xe_sn pg_94 1 (fr' := (15, [(0, .int 2)], [])) rfl ?_
        exact xe_end pg_94 rfl
      refine xe_sn pg_77 1 (fr' := (9, [(0, .ref 0), (1, .int 1), (2, .int 2), (3, .int p2), (4, .int p3)], [.int p2])) rfl ?_
      refine xe_f1 pg_77 22 rfl rfl (by show ¬ ((p2).toInt < 0); omega) ?_
      refine xe_sn pg_77 2 (fr' := (15, [(0, .ref 0), (1, .int 1), (2, .int 2), (3, .int p2), (4, .int p3)], [.int 7, .int p2])) rfl ?_
      refine xe_f2 pg_77 22 rfl rfl (by show ¬ (7 < (p2).toInt); omega) ?_
      refine xe_sn pg_77 2 (fr' := (23, [(0, .ref 0), (1, .int 1), (2, .int 2), (3, .int p2), (4, .int p3)], [.int 1])) rfl ?_
      apply xe_callq pg_77 97 [.int 1] (.inl none) (26, [(0, .ref 0), (1, .int 1), (2, .int 2), (3, .int p2), (4, .int p3)], []) rfl (fun _ => rfl)
      · refine xe_sn pg_97 2 (fr' := (12, [(0, .int 1)], [])) rfl ?_
        exact xe_end pg_97 rfl
      refine xe_sn pg_77 1 (fr' := (28, [(0, .ref 0), (1, .int 1), (2, .int 2), (3, .int p2), (4, .int p3)], [.int p3])) rfl ?_
      apply xe_callq pg_77 99 [.int p3] (.inl (some (.int 1))) (31, [(0, .ref 0), (1, .int 1), (2, .int 2), (3, .int p2), (4, .int p3)], [.int 1]) rfl (fun _ => rfl)
      · refine xe_sn pg_99 1 (fr' := (1, [(0, .int p3)], [.int p3])) rfl ?_
        refine xe_f1 pg_99 15 rfl rfl (by show ¬ ((p3).toInt < 0); omega) ?_
        refine xe_sn pg_99 2 (fr' := (8, [(0, .int p3)], [.int 255, .int p3])) rfl ?_
        refine xe_f2 pg_99 15 rfl rfl (by show ¬ (255 < (p3).toInt); omega) ?_
        refine xe_sn pg_99 2 (fr' := (16, [(0, .int p3)], [.int 1])) rfl ?_
        exact xe_end pg_99 rfl
      apply xe_callq pg_77 97 [.int 1] (.inl none) (34, [(0, .ref 0), (1, .int 1), (2, .int 2), (3, .int p2), (4, .int p3)], []) rfl (fun _ => rfl)
      · refine xe_sn pg_97 2 (fr' := (12, [(0, .int 1)], [])) rfl ?_
        exact xe_end pg_97 rfl
      refine xe_sn pg_77 4 (fr' := (40, [(0, .ref 0), (1, .int 1), (2, .int 2), (3, .int p2), (4, .int p3)], [.ref 132])) rfl ?_
      refine xe_sn pg_77 4 (fr' := (46, [(0, .ref 0), (1, .int 1), (2, .int 2), (3, .int p2), (4, .int p3)], [.int 1, .ref 138])) rfl ?_
      refine xe_sn pg_77 4 (fr' := (54, [(5, .ref 141), (0, .ref 0), (1, .int 1), (2, .int 2), (3, .int p2), (4, .int p3)], [.int 0])) rfl ?_
      refine xe_sn pg_77 3 (fr' := (71, [(5, .ref 141), (0, .ref 0), (1, .int 1), (2, .int 2), (3, .int p2), (4, .int p3)], [.int 0])) rfl ?_
      apply xe_callqx pg_77 98 [.int 0] 2 rfl (fun _ => rfl)
      · refine xe_sn pg_98 2 (fr' := (4, [(0, .int 0)], [])) rfl ?_
        exact xe_end pg_98 rfl
    refine xe_sn pg_164 1 (fr' := (28, [(0, .ref 0), (1, .int 1), (2, .int 2), (3, .int p2), (4, .int p3), (5, .ref 189)], [.int 3])) rfl ?_
    exact xe_end pg_164 rfl
  refine And.intro ⟨rfl, rfl, rfl, rfl⟩ ?_
  apply And.intro
  · refine xe_sn pg_143 2 (fr' := (2, [(0, .ref 165), (1, .int 1), (2, .int 2), (3, .int p2), (4, .int p3)], [.int 1, .ref 165])) rfl ?_
    apply xe_callq pg_143 104 [.int 1] (.inl (some (.int 1))) (5, [(0, .ref 165), (1, .int 1), (2, .int 2), (3, .int p2), (4, .int p3)], [.int 1, .ref 165]) rfl (fun _ => rfl)
    · refine xe_sn pg_104 3 (fr' := (3, [(0, .int 1)], [.int 3, .int 0, .int 1])) rfl ?_
      apply xe_callq pg_104 103 [.int 1, .int 0, .int 3] (.inl (some (.int 1))) (6, [(0, .int 1)], [.int 1]) rfl (fun _ => rfl)
      · refine xe_sn pg_103 4 (fr' := (6, [(0, .int 1), (1, .int 0), (2, .int 3)], [.int 1])) rfl ?_
        refine xe_sn pg_103 4 (fr' := (15, [(0, .int 1), (1, .int 0), (2, .int 3)], [.int 1])) rfl ?_
        exact xe_end pg_103 rfl
      exact xe_end pg_104 rfl
    refine xe_sn pg_143 4 (fr' := (11, [(0, .ref 165), (1, .int 1), (2, .int 2), (3, .int p2), (4, .int p3)], [.int 3, .int 1, .int 2, .ref 165])) rfl ?_
    apply xe_callq pg_143 103 [.int 2, .int 1, .int 3] (.inl (some (.int 1))) (14, [(0, .ref 165), (1, .int 1), (2, .int 2), (3, .int p2), (4, .int p3)], [.int 1, .ref 165]) rfl (fun _ => rfl)
    · refine xe_sn pg_103 4 (fr' := (6, [(0, .int 2), (1, .int 1), (2, .int 3)], [.int 2])) rfl ?_
      refine xe_sn pg_103 4 (fr' := (15, [(0, .int 2), (1, .int 1), (2, .int 3)], [.int 1])) rfl ?_
      exact xe_end pg_103 rfl
    refine xe_sn pg_143 4 (fr' := (25, [(0, .ref 165), (1, .int 1), (2, .int 2), (3, .int p2), (4, .int p3)], [.int 7, .int 0, .int p2, .ref 165])) rfl ?_
    apply xe_callq pg_143 103 [.int p2, .int 0, .int 7] (.inl (some (.int 1))) (28, [(0, .ref 165), (1, .int 1), (2, .int 2), (3, .int p2), (4, .int p3)], [.int 1, .ref 165]) rfl (fun _ => rfl)
    · refine xe_sn pg_103 2 (fr' := (2, [(0, .int p2), (1, .int 0), (2, .int 7)], [.int 0, .int p2])) rfl ?_
      refine xe_f2 pg_103 14 rfl rfl (by show ¬ ((p2).toInt < 0); omega) ?_
      refine xe_sn pg_103 2 (fr' := (7, [(0, .int p2), (1, .int 0), (2, .int 7)], [.int 7, .int p2])) rfl ?_
      refine xe_f2 pg_103 14 rfl rfl (by show ¬ (7 < (p2).toInt); omega) ?_
      refine xe_sn pg_103 2 (fr' := (15, [(0, .int p2), (1, .int 0), (2, .int 7)], [.int 1])) rfl ?_
      exact xe_end pg_103 rfl
    refine xe_sn pg_143 4 (fr' := (37, [(0, .ref 165), (1, .int 1), (2, .int 2), (3, .int p2), (4, .int p3)], [.int 255, .int 0, .int p3, .ref 165])) rfl ?_
    apply xe_callq pg_143 103 [.int p3, .int 0, .int 255] (.inl (some (.int 1))) (40, [(0, .ref 165), (1, .int 1), (2, .int 2), (3, .int p2), (4, .int p3)], [.int 1, .ref 165]) rfl (fun _ => rfl)
    · refine xe_sn pg_103 2 (fr' := (2, [(0, .int p3), (1, .int 0), (2, .int 255)], [.int 0, .int p3])) rfl ?_
      refine xe_f2 pg_103 14 rfl rfl (by show ¬ ((p3).toInt < 0); omega) ?_
      refine xe_sn pg_103 2 (fr' := (7, [(0, .int p3), (1, .int 0), (2, .int 255)], [.int 255, .int p3])) rfl ?_
      refine xe_f2 pg_103 14 rfl rfl (by show ¬ (255 < (p3).toInt); omega) ?_
      refine xe_sn pg_103 2 (fr' := (15, [(0, .int p3), (1, .int 0), (2, .int 255)], [.int 1])) rfl ?_
      exact xe_end pg_103 rfl
    refine xe_sn pg_143 4 (fr' := (52, [(0, .ref 165), (1, .int 1), (2, .int 2), (3, .int p2), (4, .int p3)], [.ref 165])) rfl ?_
    refine xe_sn pg_143 4 (fr' := (60, [(0, .ref 165), (1, .int 1), (2, .int 2), (3, .int p2), (4, .int p3)], [.int 1, .int 3])) rfl ?_
    refine xe_sn pg_143 4 (fr' := (64, [(0, .ref 165), (1, .int 1), (2, .int 2), (3, .int p2), (4, .int p3)], [.int 1, .int 5])) rfl ?_
    refine xe_sn pg_143 4 (fr' := (72, [(5, .int 4), (0, .ref 165), (1, .int 1), (2, .int 2), (3, .int p2), (4, .int p3)], [.ref 165])) rfl ?_
    refine xe_sn pg_143 4 (fr' := (80, [(5, .int 4), (0, .ref 165), (1, .int 1), (2, .int 2), (3, .int p2), (4, .int p3)], [.ref 165, .ref 165])) rfl ?_
    refine xe_sn pg_143 4 (fr' := (87, [(5, .int 4), (0, .ref 165), (1, .int 1), (2, .int 2), (3, .int p2), (4, .int p3)], [.int 2, .int 0, .ref 165])) rfl ?_
    refine xe_sn pg_143 4 (fr' := (111, [(5, .int 4), (0, .ref 165), (1, .int 1), (2, .int 2), (3, .int p2), (4, .int p3)], [])) rfl ?_
    refine xe_sn pg_143 4 (fr' := (119, [(5, .int 4), (0, .ref 165), (1, .int 1), (2, .int 2), (3, .int p2), (4, .int p3)], [.int 0])) rfl ?_
    exact xe_end pg_143 rfl
  · exact ⟨⟨rfl, rfl, rfl, rfl⟩, Nat.le_of_ble_eq_true rfl, Nat.le_of_ble_eq_true rfl, rfl, fun q => absurd q (by decide)⟩

set_option maxRecDepth 100000 in
theorem lf_send_31 (xs : Nat → Int32) (p2 : Int32) (p3 : Int32) (a2 : p2.toInt < 0) : op_ok xs 164 143 [.ref 0, .int 1, .int 3, .int p2, .int p3, .ref 189] [.ref 165, .int 1, .int 3, .int p2, .int p3] := by
  refine ⟨2, 0, ?_⟩
  apply Exists.intro
  apply Exists.intro
  apply And.intro
  · refine xe_sn pg_164 4 (fr' := (5, [(0, .ref 0), (1, .int 1), (2, .int 3), (3, .int p2), (4, .int p3), (5, .ref 189)], [.int 1, .ref 0, .int 0, .ref 189])) rfl ?_
    refine xe_sn pg_164 3 (fr' := (9, [(0, .ref 0), (1, .int 1), (2, .int 3), (3, .int p2), (4, .int p3), (5, .ref 189)], [.int p3, .int p2, .int 3, .int 1, .ref 0, .int 0, .ref 189])) rfl ?_
    apply xe_callq pg_164 77 [.ref 0, .int 1, .int 3, .int p2, .int p3] (.inr 1) (23, [(0, .ref 0), (1, .int 1), (2, .int 3), (3, .int p2), (4, .int p3), (5, .ref 189)], []) rfl (fun _ => rfl)
    · refine xe_sn pg_77 1 (fr' := (1, [(0, .ref 0), (1, .int 1), (2, .int 3), (3, .int p2), (4, .int p3)], [.int 1])) rfl ?_
      apply xe_callq pg_77 92 [.int 1] (.inl none) (4, [(0, .ref 0), (1, .int 1), (2, .int 3), (3, .int p2), (4, .int p3)], []) rfl (fun _ => rfl)
      · refine xe_sn pg_92 2 (fr' := (2, [(0, .int 1)], [.int 4, .int 1])) rfl ?_
        apply xe_callq pg_92 95 [.int 1, .int 4] (.inl none) (5, [(0, .int 1)], []) rfl (fun _ => rfl)
        · refine xe_sn pg_95 4 (fr' := (6, [(0, .int 1), (1, .int 4)], [.int 4, .int 1])) rfl ?_
          refine xe_sn pg_95 1 (fr' := (17, [(0, .int 1), (1, .int 4)], [])) rfl ?_
          exact xe_end pg_95 rfl
        exact xe_end pg_92 rfl
      refine xe_sn pg_77 1 (fr' := (5, [(0, .ref 0), (1, .int 1), (2, .int 3), (3, .int p2), (4, .int p3)], [.int 3])) rfl ?_
      apply xe_callq pg_77 94 [.int 3] (.inl none) (8, [(0, .ref 0), (1, .int 1), (2, .int 3), (3, .int p2), (4, .int p3)], []) rfl (fun _ => rfl)
      · refine xe_sn pg_94 1 (fr' := (1, [(0, .int 3)], [.int 3])) rfl ?_
        apply xe_callq pg_94 100 [.int 3] (.inl (some (.int 1))) (4, [(0, .int 3)], [.int 1]) rfl (fun _ => rfl)
        · refine xe_sn pg_100 4 (fr' := (6, [(0, .int 3)], [.int 3])) rfl ?_
          refine xe_sn pg_100 4 (fr' := (15, [(0, .int 3)], [.int 1])) rfl ?_
          exact xe_end pg_100 rfl
        refine xe_sn pg_94 1 (fr' := (15, [(0, .int 3)], [])) rfl ?_
        exact xe_end pg_94 rfl
      refine xe_sn pg_77 1 (fr' := (9, [(0, .ref 0), (1, .int 1), (2, .int 3), (3, .int p2), (4, .int p3)], [.int p2])) rfl ?_
      refine xe_t1 pg_77 22 rfl rfl (by show (p2).toInt < 0; omega) ?_
      refine xe_sn pg_77 1 (fr' := (23, [(0, .ref 0), (1, .int 1), (2, .int 3), (3, .int p2), (4, .int p3)], [.int 0])) rfl ?_
      apply xe_callqx pg_77 97 [.int 0] 1 rfl (fun _ => rfl)
      · refine xe_sn pg_97 2 (fr' := (4, [(0, .int 0)], [])) rfl ?_
        exact xe_end pg_97 rfl
    refine xe_sn pg_164 1 (fr' := (24, [(0, .ref 0), (1, .int 1), (2, .int 3), (3, .int p2), (4, .int p3), (5, .ref 189)], [.int 2])) rfl ?_
    exact xe_end pg_164 rfl
  refine And.intro ⟨rfl, rfl, rfl, rfl⟩ ?_
  apply And.intro
  · refine xe_sn pg_143 2 (fr' := (2, [(0, .ref 165), (1, .int 1), (2, .int 3), (3, .int p2), (4, .int p3)], [.int 1, .ref 165])) rfl ?_
    apply xe_callq pg_143 104 [.int 1] (.inl (some (.int 1))) (5, [(0, .ref 165), (1, .int 1), (2, .int 3), (3, .int p2), (4, .int p3)], [.int 1, .ref 165]) rfl (fun _ => rfl)
    · refine xe_sn pg_104 3 (fr' := (3, [(0, .int 1)], [.int 3, .int 0, .int 1])) rfl ?_
      apply xe_callq pg_104 103 [.int 1, .int 0, .int 3] (.inl (some (.int 1))) (6, [(0, .int 1)], [.int 1]) rfl (fun _ => rfl)
      · refine xe_sn pg_103 4 (fr' := (6, [(0, .int 1), (1, .int 0), (2, .int 3)], [.int 1])) rfl ?_
        refine xe_sn pg_103 4 (fr' := (15, [(0, .int 1), (1, .int 0), (2, .int 3)], [.int 1])) rfl ?_
        exact xe_end pg_103 rfl
      exact xe_end pg_104 rfl
    refine xe_sn pg_143 4 (fr' := (11, [(0, .ref 165), (1, .int 1), (2, .int 3), (3, .int p2), (4, .int p3)], [.int 3, .int 1, .int 3, .ref 165])) rfl ?_
    apply xe_callq pg_143 103 [.int 3, .int 1, .int 3] (.inl (some (.int 1))) (14, [(0, .ref 165), (1, .int 1), (2, .int 3), (3, .int p2), (4, .int p3)], [.int 1, .ref 165]) rfl (fun _ => rfl)
    · refine xe_sn pg_103 4 (fr' := (6, [(0, .int 3), (1, .int 1), (2, .int 3)], [.int 3])) rfl ?_
      refine xe_sn pg_103 4 (fr' := (15, [(0, .int 3), (1, .int 1), (2, .int 3)], [.int 1])) rfl ?_
      exact xe_end pg_103 rfl
    refine xe_sn pg_143 4 (fr' := (25, [(0, .ref 165), (1, .int 1), (2, .int 3), (3, .int p2), (4, .int p3)], [.int 7, .int 0, .int p2, .ref 165])) rfl ?_
    apply xe_callq pg_143 103 [.int p2, .int 0, .int 7] (.inl (some (.int 0))) (28, [(0, .ref 165), (1, .int 1), (2, .int 3), (3, .int p2), (4, .int p3)], [.int 0, .ref 165]) rfl (fun _ => rfl)
    · refine xe_sn pg_103 2 (fr' := (2, [(0, .int p2), (1, .int 0), (2, .int 7)], [.int 0, .int p2])) rfl ?_
      refine xe_t2 pg_103 14 rfl rfl (by show (p2).toInt < 0; omega) ?_
      refine xe_sn pg_103 1 (fr' := (15, [(0, .int p2), (1, .int 0), (2, .int 7)], [.int 0])) rfl ?_
      exact xe_end pg_103 rfl
    refine xe_sn pg_143 4 (fr' := (51, [(0, .ref 165), (1, .int 1), (2, .int 3), (3, .int p2), (4, .int p3)], [])) rfl ?_
    refine xe_sn pg_143 4 (fr' := (69, [(0, .ref 165), (1, .int 1), (2, .int 3), (3, .int p2), (4, .int p3)], [.int 0])) rfl ?_
    refine xe_sn pg_143 4 (fr' := (76, [(5, .int 0), (0, .ref 165), (1, .int 1), (2, .int 3), (3, .int p2), (4, .int p3)], [.int 2, .ref 165])) rfl ?_
    refine xe_sn pg_143 4 (fr' := (111, [(5, .int 0), (0, .ref 165), (1, .int 1), (2, .int 3), (3, .int p2), (4, .int p3)], [])) rfl ?_
    refine xe_sn pg_143 4 (fr' := (119, [(5, .int 0), (0, .ref 165), (1, .int 1), (2, .int 3), (3, .int p2), (4, .int p3)], [.int 0])) rfl ?_
    exact xe_end pg_143 rfl
  · exact ⟨⟨rfl, rfl, rfl, rfl⟩, Nat.le_of_ble_eq_true rfl, Nat.le_of_ble_eq_true rfl, rfl, fun q => absurd q (by decide)⟩

set_option maxRecDepth 100000 in
theorem lf_send_32 (xs : Nat → Int32) (p2 : Int32) (p3 : Int32) (b2 : 7 < p2.toInt) : op_ok xs 164 143 [.ref 0, .int 1, .int 3, .int p2, .int p3, .ref 189] [.ref 165, .int 1, .int 3, .int p2, .int p3] := by
  refine ⟨2, 0, ?_⟩
  apply Exists.intro
  apply Exists.intro
  apply And.intro
  · refine xe_sn pg_164 4 (fr' := (5, [(0, .ref 0), (1, .int 1), (2, .int 3), (3, .int p2), (4, .int p3), (5, .ref 189)], [.int 1, .ref 0, .int 0, .ref 189])) rfl ?_
    refine xe_sn pg_164 3 (fr' := (9, [(0, .ref 0), (1, .int 1), (2, .int 3), (3, .int p2), (4, .int p3), (5, .ref 189)], [.int p3, .int p2, .int 3, .int 1, .ref 0, .int 0, .ref 189])) rfl ?_
    apply xe_callq pg_164 77 [.ref 0, .int 1, .int 3, .int p2, .int p3] (.inr 1) (23, [(0, .ref 0), (1, .int 1), (2, .int 3), (3, .int p2), (4, .int p3), (5, .ref 189)], []) rfl (fun _ => rfl)
    · refine xe_sn pg_77 1 (fr' := (1, [(0, .ref 0), (1, .int 1), (2, .int 3), (3, .int p2), (4, .int p3)], [.int 1])) rfl ?_
      apply xe_callq pg_77 92 [.int 1] (.inl none) (4, [(0, .ref 0), (1, .int 1), (2, .int 3), (3, .int p2), (4, .int p3)], []) rfl (fun _ => rfl)
      · refine xe_sn pg_92 2 (fr' := (2, [(0, .int 1)], [.int 4, .int 1])) rfl ?_
        apply xe_callq pg_92 95 [.int 1, .int 4] (.inl none) (5, [(0, .int 1)], []) rfl (fun _ => rfl)
        · refine xe_sn pg_95 4 (fr' := (6, [(0, .int 1), (1, .int 4)], [.int 4, .int 1])) rfl ?_
          refine xe_sn pg_95 1 (fr' := (17, [(0, .int 1), (1, .int 4)], [])) rfl ?_
          exact xe_end pg_95 rfl
        exact xe_end pg_92 rfl
      refine xe_sn pg_77 1 (fr' := (5, [(0, .ref 0), (1, .int 1), (2, .int 3), (3, .int p2), (4, .int p3)], [.int 3])) rfl ?_
      apply xe_callq pg_77 94 [.int 3] (.inl none) (8, [(0, .ref 0), (1, .int 1), (2, .int 3), (3, .int p2), (4, .int p3)], []) rfl (fun _ => rfl)
      · refine xe_sn pg_94 1 (fr' := (1, [(0, .int 3)], [.int 3])) rfl ?_
        apply xe_callq pg_94 100 [.int 3] (.inl (some (.int 1))) (4, [(0, .int 3)], [.int 1]) rfl (fun _ => rfl)
        · refine xe_sn pg_100 4 (fr' := (6, [(0, .int 3)], [.int 3])) rfl ?_
          refine xe_sn pg_100 4 (fr' := (15, [(0, .int 3)], [.int 1])) rfl ?_
          exact xe_end pg_100 rfl
        refine xe_sn pg_94 1 (fr' := (15, [(0, .int 3)], [])) rfl ?_
        exact xe_end pg_94 rfl
      refine xe_sn pg_77 1 (fr' := (9, [(0, .ref 0), (1, .int 1), (2, .int 3), (3, .int p2), (4, .int p3)], [.int p2])) rfl ?_
      refine xe_f1 pg_77 22 rfl rfl (by show ¬ ((p2).toInt < 0); omega) ?_
      refine xe_sn pg_77 2 (fr' := (15, [(0, .ref 0), (1, .int 1), (2, .int 3), (3, .int p2), (4, .int p3)], [.int 7, .int p2])) rfl ?_
      refine xe_t2 pg_77 22 rfl rfl (by show 7 < (p2).toInt; omega) ?_
      refine xe_sn pg_77 1 (fr' := (23, [(0, .ref 0), (1, .int 1), (2, .int 3), (3, .int p2), (4, .int p3)], [.int 0])) rfl ?_
      apply xe_callqx pg_77 97 [.int 0] 1 rfl (fun _ => rfl)
      · refine xe_sn pg_97 2 (fr' := (4, [(0, .int 0)], [])) rfl ?_
        exact xe_end pg_97 rfl
    refine xe_sn pg_164 1 (fr' := (24, [(0, .ref 0), (1, .int 1), (2, .int 3), (3, .int p2), (4, .int p3), (5, .ref 189)], [.int 2])) rfl ?_
    exact xe_end pg_164 rfl
  refine And.intro ⟨rfl, rfl, rfl, rfl⟩ ?_
  apply And.intro
  · refine xe_sn pg_143 2 (fr' := (2, [(0, .ref 165), (1, .int 1), (2, .int 3), (3, .int p2), (4, .int p3)], [.int 1, .ref 165])) rfl ?_
    apply xe_callq pg_143 104 [.int 1] (.inl (some (.int 1))) (5, [(0, .ref 165), (1, .int 1), (2, .int 3), (3, .int p2), (4, .int p3)], [.int 1, .ref 165]) rfl (fun _ => rfl)
    · refine xe_sn pg_104 3 (fr' := (3, [(0, .int 1)], [.int 3, .int 0, .int 1])) rfl ?_
      apply xe_callq pg_104 103 [.int 1, .int 0, .int 3] (.inl (some (.int 1))) (6, [(0, .int 1)], [.int 1]) rfl (fun _ => rfl)
      · refine xe_sn pg_103 4 (fr' := (6, [(0, .int 1), (1, .int 0), (2, .int 3)], [.int 1])) rfl ?_
        refine xe_sn pg_103 4 (fr' := (15, [(0, .int 1), (1, .int 0), (2, .int 3)], [.int 1])) rfl ?_
        exact xe_end pg_103 rfl
      exact xe_end pg_104 rfl
    refine xe_sn pg_143 4 (fr' := (11, [(0, .ref 165), (1, .int 1), (2, .int 3), (3, .int p2), (4, .int p3)], [.int 3, .int 1, .int 3, .ref 165])) rfl ?_
    apply xe_callq pg_143 103 [.int 3, .int 1, .int 3] (.inl (some (.int 1))) (14, [(0, .ref 165), (1, .int 1), (2, .int 3), (3, .int p2), (4, .int p3)], [.int 1, .ref 165]) rfl (fun _ => rfl)
    · refine xe_sn pg_103 4 (fr' := (6, [(0, .int 3), (1, .int 1), (2, .int 3)], [.int 3])) rfl ?_
      refine xe_sn pg_103 4 (fr' := (15, [(0, .int 3), (1, .int 1), (2, .int 3)], [.int 1])) rfl ?_
      exact xe_end pg_103 rfl
    refine xe_sn pg_143 4 (fr' := (25, [(0, .ref 165), (1, .int 1), (2, .int 3), (3, .int p2), (4, .int p3)], [.int 7, .int 0, .int p2, .ref 165])) rfl ?_
    apply xe_callq pg_143 103 [.int p2, .int 0, .int 7] (.inl (some (.int 0))) (28, [(0, .ref 165), (1, .int 1), (2, .int 3), (3, .int p2), (4, .int p3)], [.int 0, .ref 165]) rfl (fun _ => rfl)
    · refine xe_sn pg_103 2 (fr' := (2, [(0, .int p2), (1, .int 0), (2, .int 7)], [.int 0, .int p2])) rfl ?_
      refine xe_f2 pg_103 14 rfl rfl (by show ¬ ((p2).toInt < 0); omega) ?_
      refine xe_sn pg_103 2 (fr' := (7, [(0, .int p2), (1, .int 0), (2, .int 7)], [.int 7, .int p2])) rfl ?_
      refine xe_t2 pg_103 14 rfl rfl (by show 7 < (p2).toInt; omega) ?_
      refine xe_sn pg_103 1 (fr' := (15, [(0, .int p2), (1, .int 0), (2, .int 7)], [.int 0])) rfl ?_
      exact xe_end pg_103 rfl
    refine xe_sn pg_143 4 (fr' := (51, [(0, .ref 165), (1, .int 1), (2, .int 3), (3, .int p2), (4, .int p3)], [])) rfl ?_
    refine xe_sn pg_143 4 (fr' := (69, [(0, .ref 165), (1, .int 1), (2, .int 3), (3, .int p2), (4, .int p3)], [.int 0])) rfl ?_
    refine xe_sn pg_143 4 (fr' := (76, [(5, .int 0), (0, .ref 165), (1, .int 1), (2, .int 3), (3, .int p2), (4, .int p3)], [.int 2, .ref 165])) rfl ?_
    refine xe_sn pg_143 4 (fr' := (111, [(5, .int 0), (0, .ref 165), (1, .int 1), (2, .int 3), (3, .int p2), (4, .int p3)], [])) rfl ?_
    refine xe_sn pg_143 4 (fr' := (119, [(5, .int 0), (0, .ref 165), (1, .int 1), (2, .int 3), (3, .int p2), (4, .int p3)], [.int 0])) rfl ?_
    exact xe_end pg_143 rfl
  · exact ⟨⟨rfl, rfl, rfl, rfl⟩, Nat.le_of_ble_eq_true rfl, Nat.le_of_ble_eq_true rfl, rfl, fun q => absurd q (by decide)⟩

set_option maxRecDepth 100000 in
theorem lf_send_33 (xs : Nat → Int32) (p2 : Int32) (p3 : Int32) (a2 : 0 ≤ p2.toInt) (b2 : p2.toInt ≤ 7) (a3 : p3.toInt < 0) : op_ok xs 164 143 [.ref 0, .int 1, .int 3, .int p2, .int p3, .ref 189] [.ref 165, .int 1, .int 3, .int p2, .int p3] := by
  refine ⟨2, 0, ?_⟩
  apply Exists.intro
  apply Exists.intro
  apply And.intro
  · refine xe_sn pg_164 4 (fr' := (5, [(0, .ref 0), (1, .int 1), (2, .int 3), (3, .int p2), (4, .int p3), (5, .ref 189)], [.int 1, .ref 0, .int 0, .ref 189])) rfl ?_
    refine xe_sn pg_164 3 (fr' := (9, [(0, .ref 0), (1, .int 1), (2, .int 3), (3, .int p2), (4, .int p3), (5, .ref 189)], [.int p3, .int p2, .int 3, .int 1, .ref 0, .int 0, .ref 189])) rfl ?_
    apply xe_callq pg_164 77 [.ref 0, .int 1, .int 3, .int p2, .int p3] (.inr 1) (23, [(0, .ref 0), (1, .int 1), (2, .int 3), (3, .int p2), (4, .int p3), (5, .ref 189)], []) rfl (fun _ => rfl)
    · refine xe_sn pg_77 1 (fr' := (1, [(0, .ref 0), (1, .int 1), (2, .int 3), (3, .int p2), (4, .int p3)], [.int 1])) rfl ?_
      apply xe_callq pg_77 92 [.int 1] (.inl none) (4, [(0, .ref 0), (1, .int 1), (2, .int 3), (3, .int p2), (4, .int p3)], []) rfl (fun _ => rfl)
      · refine xe_sn pg_92 2 (fr' := (2, [(0, .int 1)], [.int 4, .int 1])) rfl ?_
        apply xe_callq pg_92 95 [.int 1, .int 4] (.inl none) (5, [(0, .int 1)], []) rfl (fun _ => rfl)
        · refine xe_sn pg_95 4 (fr' := (6, [(0, .int 1), (1, .int 4)], [.int 4, .int 1])) rfl ?_
          refine xe_sn pg_95 1 (fr' := (17, [(0, .int 1), (1, .int 4)], [])) rfl ?_
          exact xe_end pg_95 rfl
        exact xe_end pg_92 rfl
      refine xe_sn pg_77 1 (fr' := (5, [(0, .ref 0), (1, .int 1), (2, .int 3), (3, .int p2), (4, .int p3)], [.int 3])) rfl ?_
      apply xe_callq pg_77 94 [.int 3] (.inl none) (8, [(0, .ref 0), (1, .int 1), (2, .int 3), (3, .int p2), (4, .int p3)], []) rfl (fun _ => rfl)
      · refine xe_sn pg_94 1 (fr' := (1, [(0, .int 3)], [.int 3])) rfl ?_
        apply xe_callq pg_94 100 [.int 3] (.inl (some (.int 1))) (4, [(0, .int 3)], [.int 1]) rfl (fun _ => rfl)
        · refine xe_sn pg_100 4 (fr' := (6, [(0, .int 3)], [.int 3])) rfl ?_
          refine xe_sn pg_100 4 (fr' := (15, [(0, .int 3)], [.int 1])) rfl ?_
          exact xe_end pg_100 rfl
        refine xe_sn pg_94 1 (fr' := (15, [(0, .int 3)], [])) rfl ?_
        exact xe_end pg_94 rfl
      refine xe_sn pg_77 1 (fr' := (9, [(0, .ref 0), (1, .int 1), (2, .int 3), (3, .int p2), (4, .int p3)], [.int p2])) rfl ?_
      refine xe_f1 pg_77 22 rfl rfl (by show ¬ ((p2).toInt < 0); omega) ?_
      refine xe_sn pg_77 2 (fr' := (15, [(0, .ref 0), (1, .int 1), (2, .int 3), (3, .int p2), (4, .int p3)], [.int 7, .int p2])) rfl ?_
      refine xe_f2 pg_77 22 rfl rfl (by show ¬ (7 < (p2).toInt); omega) ?_
      refine xe_sn pg_77 2 (fr' := (23, [(0, .ref 0), (1, .int 1), (2, .int 3), (3, .int p2), (4, .int p3)], [.int 1])) rfl ?_
      apply xe_callq pg_77 97 [.int 1] (.inl none) (26, [(0, .ref 0), (1, .int 1), (2, .int 3), (3, .int p2), (4, .int p3)], []) rfl (fun _ => rfl)
      · refine xe_sn pg_97 2 (fr' := (12, [(0, .int 1)], [])) rfl ?_
        exact xe_end pg_97 rfl
      refine xe_sn pg_77 1 (fr' := (28, [(0, .ref 0), (1, .int 1), (2, .int 3), (3, .int p2), (4, .int p3)], [.int p3])) rfl ?_
      apply xe_callq pg_77 99 [.int p3] (.inl (some (.int 0))) (31, [(0, .ref 0), (1, .int 1), (2, .int 3), (3, .int p2), (4, .int p3)], [.int 0]) rfl (fun _ => rfl)
      · refine xe_sn pg_99 1 (fr' := (1, [(0, .int p3)], [.int p3])) rfl ?_
        refine xe_t1 pg_99 15 rfl rfl (by show (p3).toInt < 0; omega) ?_
        refine xe_sn pg_99 1 (fr' := (16, [(0, .int p3)], [.int 0])) rfl ?_
        exact xe_end pg_99 rfl
      apply xe_callqx pg_77 97 [.int 0] 1 rfl (fun _ => rfl)
      · refine xe_sn pg_97 2 (fr' := (4, [(0, .int 0)], [])) rfl ?_
        exact xe_end pg_97 rfl
    refine xe_sn pg_164 1 (fr' := (24, [(0, .ref 0), (1, .int 1), (2, .int 3), (3, .int p2), (4, .int p3), (5, .ref 189)], [.int 2])) rfl ?_
    exact xe_end pg_164 rfl
  refine And.intro ⟨rfl, rfl, rfl, rfl⟩ ?_
  apply And.intro
  · refine xe_sn pg_143 2 (fr' := (2, [(0, .ref 165), (1, .int 1), (2, .int 3), (3, .int p2), (4, .int p3)], [.int 1, .ref 165])) rfl ?_
    apply xe_callq pg_143 104 [.int 1] (.inl (some (.int 1))) (5, [(0, .ref 165), (1, .int 1), (2, .int 3), (3, .int p2), (4, .int p3)], [.int 1, .ref 165]) rfl (fun _ => rfl)
    · refine xe_sn pg_104 3 (fr' := (3, [(0, .int 1)], [.int 3, .int 0, .int 1])) rfl ?_
      apply xe_callq pg_104 103 [.int 1, .int 0, .int 3] (.inl (some (.int 1))) (6, [(0, .int 1)], [.int 1]) rfl (fun _ => rfl)
      · refine xe_sn pg_103 4 (fr' := (6, [(0, .int 1), (1, .int 0), (2, .int 3)], [.int 1])) rfl ?_
        refine xe_sn pg_103 4 (fr' := (15, [(0, .int 1), (1, .int 0), (2, .int 3)], [.int 1])) rfl ?_
        exact xe_end pg_103 rfl
      exact xe_end pg_104 rfl
    refine xe_sn pg_143 4 (fr' := (11, [(0, .ref 165), (1, .int 1), (2, .int 3), (3, .int p2), (4, .int p3)], [.int 3, .int 1, .int 3, .ref 165])) rfl ?_
    apply xe_callq pg_143 103 [.int 3, .int 1, .int 3] (.inl (some (.int 1))) (14, [(0, .ref 165), (1, .int 1), (2, .int 3), (3, .int p2), (4, .int p3)], [.int 1, .ref 165]) rfl (fun _ => rfl)
    · refine xe_sn pg_103 4 (fr' := (6, [(0, .int 3), (1, .int 1), (2, .int 3)], [.int 3])) rfl ?_
      refine xe_sn pg_103 4 (fr' := (15, [(0, .int 3), (1, .int 1), (2, .int 3)], [.int 1])) rfl ?_
      exact xe_end pg_103 rfl
    refine xe_sn pg_143 4 (fr' := (25, [(0, .ref 165), (1, .int 1), (2, .int 3), (3, .int p2), (4, .int p3)], [.int 7, .int 0, .int p2, .ref 165])) rfl ?_
    apply xe_callq pg_143 103 [.int p2, .int 0, .int 7] (.inl (some (.int 1))) (28, [(0, .ref 165), (1, .int 1), (2, .int 3), (3, .int p2), (4, .int p3)], [.int 1, .ref 165]) rfl (fun _ => rfl)
    · refine xe_sn pg_103 2 (fr' := (2, [(0, .int p2), (1, .int 0), (2, .int 7)], [.int 0, .int p2])) rfl ?_
      refine xe_f2 pg_103 14 rfl rfl (by show ¬ ((p2).toInt < 0); omega) ?_
      refine xe_sn pg_103 2 (fr' := (7, [(0, .int p2), (1, .int 0), (2, .int 7)], [.int 7, .int p2])) rfl ?_
      refine xe_f2 pg_103 14 rfl rfl (by show ¬ (7 < (p2).toInt); omega) ?_
      refine xe_sn pg_103 2 (fr' := (15, [(0, .int p2), (1, .int 0), (2, .int 7)], [.int 1])) rfl ?_
      exact xe_end pg_103 rfl
    refine xe_sn pg_143 4 (fr' := (37, [(0, .ref 165), (1, .int 1), (2, .int 3), (3, .int p2), (4, .int p3)], [.int 255, .int 0, .int p3, .ref 165])) rfl ?_
    apply xe_callq pg_143 103 [.int p3, .int 0, .int 255] (.inl (some (.int 0))) (40, [(0, .ref 165), (1, .int 1), (2, .int 3), (3, .int p2), (4, .int p3)], [.int 0, .ref 165]) rfl (fun _ => rfl)
    · refine xe_sn pg_103 2 (fr' := (2, [(0, .int p3), (1, .int 0), (2, .int 255)], [.int 0, .int p3])) rfl ?_
      refine xe_t2 pg_103 14 rfl rfl (by show (p3).toInt < 0; omega) ?_
      refine xe_sn pg_103 1 (fr' := (15, [(0, .int p3), (1, .int 0), (2, .int 255)], [.int 0])) rfl ?_
      exact xe_end pg_103 rfl
    refine xe_sn pg_143 4 (fr' := (51, [(0, .ref 165), (1, .int 1), (2, .int 3), (3, .int p2), (4, .int p3)], [])) rfl ?_
    refine xe_sn pg_143 4 (fr' := (69, [(0, .ref 165), (1, .int 1), (2, .int 3), (3, .int p2), (4, .int p3)], [.int 0])) rfl ?_
    refine xe_sn pg_143 4 (fr' := (76, [(5, .int 0), (0, .ref 165), (1, .int 1), (2, .int 3), (3, .int p2), (4, .int p3)], [.int 2, .ref 165])) rfl ?_
    refine xe_sn pg_143 4 (fr' := (111, [(5, .int 0), (0, .ref 165), (1, .int 1), (2, .int 3), (3, .int p2), (4, .int p3)], [])) rfl ?_
    refine xe_sn pg_143 4 (fr' := (119, [(5, .int 0), (0, .ref 165), (1, .int 1), (2, .int 3), (3, .int p2), (4, .int p3)], [.int 0])) rfl ?_
    exact xe_end pg_143 rfl
  · exact ⟨⟨rfl, rfl, rfl, rfl⟩, Nat.le_of_ble_eq_true rfl, Nat.le_of_ble_eq_true rfl, rfl, fun q => absurd q (by decide)⟩

set_option maxRecDepth 100000 in
theorem lf_send_34 (xs : Nat → Int32) (p2 : Int32) (p3 : Int32) (a2 : 0 ≤ p2.toInt) (b2 : p2.toInt ≤ 7) (b3 : 255 < p3.toInt) : op_ok xs 164 143 [.ref 0, .int 1, .int 3, .int p2, .int p3, .ref 189] [.ref 165, .int 1, .int 3, .int p2, .int p3] := by
  refine ⟨2, 0, ?_⟩
  apply Exists.intro
  apply Exists.intro
  apply And.intro
  · refine xe_sn pg_164 4 (fr' := (5, [(0, .ref 0), (1, .int 1), (2, .int 3), (3, .int p2), (4, .int p3), (5, .ref 189)], [.int 1, .ref 0, .int 0, .ref 189])) rfl ?_
    refine xe_sn pg_164 3 (fr' := (9, [(0, .ref 0), (1, .int 1), (2, .int 3), (3, .int p2), (4, .int p3), (5, .ref 189)], [.int p3, .int p2, .int 3, .int 1, .ref 0, .int 0, .ref 189])) rfl ?_
    apply xe_callq pg_164 77 [.ref 0, .int 1, .int 3, .int p2, .int p3] (.inr 1) (23, [(0, .ref 0), (1, .int 1), (2, .int 3), (3, .int p2), (4, .int p3), (5, .ref 189)], []) rfl (fun _ => rfl)
    · refine xe_sn pg_77 1 (fr' := (1, [(0, .ref 0), (1, .int 1), (2, .int 3), (3, .int p2), (4, .int p3)], [.int 1])) rfl ?_
      apply xe_callq pg_77 92 [.int 1] (.inl none) (4, [(0, .ref 0), (1, .int 1), (2, .int 3), (3, .int p2), (4, .int p3)], []) rfl (fun _ => rfl)
      · refine xe_sn pg_92 2 (fr' := (2, [(0, .int 1)], [.int 4, .int 1])) rfl ?_
        apply xe_callq pg_92 95 [.int 1, .int 4] (.inl none) (5, [(0, .int 1)], []) rfl (fun _ => rfl)
        · refine xe_sn pg_95 4 (fr' := (6, [(0, .int 1), (1, .int 4)], [.int 4, .int 1])) rfl ?_
          refine xe_sn pg_95 1 (fr' := (17, [(0, .int 1), (1, .int 4)], [])) rfl ?_
          exact xe_end pg_95 rfl
        exact xe_end pg_92 rfl
      refine xe_sn pg_77 1 (fr' := (5, [(0, .ref 0), (1, .int 1), (2, .int 3), (3, .int p2), (4, .int p3)], [.int 3])) rfl ?_
      apply xe_callq pg_77 94 [.int 3] (.inl none) (8, [(0, .ref 0), (1, .int 1), (2, .int 3), (3, .int p2), (4, .int p3)], []) rfl (fun _ => rfl)
      · refine xe_sn pg_94 1 (fr' := (1, [(0, .int 3)], [.int 3])) rfl ?_
        apply xe_callq pg_94 100 [.int 3] (.inl (some (.int 1))) (4, [(0, .int 3)], [.int 1]) rfl (fun _ => rfl)
        · refine xe_sn pg_100 4 (fr' := (6, [(0, .int 3)], [.int 3])) rfl ?_
          refine xe_sn pg_100 4 (fr' := (15, [(0, .int 3)], [.int 1])) rfl ?_
          exact xe_end pg_100 rfl
        refine xe_sn pg_94 1 (fr' := (15, [(0, .int 3)], [])) rfl ?_
        exact xe_end pg_94 rfl
      refine xe_sn pg_77 1 (fr' := (9, [(0, .ref 0), (1, .int 1), (2, .int 3), (3, .int p2), (4, .int p3)], [.int p2])) rfl ?_
      refine xe_f1 pg_77 22 rfl rfl (by show ¬ ((p2).toInt < 0); omega) ?_
      refine xe_sn pg_77 2 (fr' := (15, [(0, .ref 0), (1, .int 1), (2, .int 3), (3, .int p2), (4, .int p3)], [.int 7, .int p2])) rfl ?_
      refine xe_f2 pg_77 22 rfl rfl (by show ¬ (7 < (p2).toInt); omega) ?_
      refine xe_sn pg_77 2 (fr' := (23, [(0, .ref 0), (1, .int 1), (2, .int 3), (3, .int p2), (4, .int p3)], [.int 1])) rfl ?_
      apply xe_callq pg_77 97 [.int 1] (.inl none) (26, [(0, .ref 0), (1, .int 1), (2, .int 3), (3, .int p2), (4, .int p3)], []) rfl (fun _ => rfl)
      · refine xe_sn pg_97 2 (fr' := (12, [(0, .int 1)], [])) rfl ?_
        exact xe_end pg_97 rfl
      refine xe_sn pg_77 1 (fr' := (28, [(0, .ref 0), (1, .int 1), (2, .int 3), (3, .int p2), (4, .int p3)], [.int p3])) rfl ?_
      apply xe_callq pg_77 99 [.int p3] (.inl (some (.int 0))) (31, [(0, .ref 0), (1, .int 1), (2, .int 3), (3, .int p2), (4, .int p3)], [.int 0]) rfl (fun _ => rfl)
      · refine xe_sn pg_99 1 (fr' := (1, [(0, .int p3)], [.int p3])) rfl ?_
        refine xe_f1 pg_99 15 rfl rfl (by show ¬ ((p3).toInt < 0); omega) ?_
        refine xe_sn pg_99 2 (fr' := (8, [(0, .int p3)], [.int 255, .int p3])) rfl ?_
        refine xe_t2 pg_99 15 rfl rfl (by show 255 < (p3).toInt; omega) ?_
        refine xe_sn pg_99 1 (fr' := (16, [(0, .int p3)], [.int 0])) rfl ?_
        exact xe_end pg_99 rfl
      apply xe_callqx pg_77 97 [.int 0] 1 rfl (fun _ => rfl)
      · refine xe_sn pg_97 2 (fr' := (4, [(0, .int 0)], [])) rfl ?_
        exact xe_end pg_97 rfl
    refine xe_sn pg_164 1 (fr' := (24, [(0, .ref 0), (1, .int 1), (2, .int 3), (3, .int p2), (4, .int p3), (5, .ref 189)], [.int 2])) rfl ?_
    exact xe_end pg_164 rfl
  refine And.intro ⟨rfl, rfl, rfl, rfl⟩ ?_
  apply And.intro
  · refine xe_sn pg_143 2 (fr' := (2, [(0, .ref 165), (1, .int 1), (2, .int 3), (3, .int p2), (4, .int p3)], [.int 1, .ref 165])) rfl ?_
    apply xe_callq pg_143 104 [.int 1] (.inl (some (.int 1))) (5, [(0, .ref 165), (1, .int 1), (2, .int 3), (3, .int p2), (4, .int p3)], [.int 1, .ref 165]) rfl (fun _ => rfl)
    · refine xe_sn pg_104 3 (fr' := (3, [(0, .int 1)], [.int 3, .int 0, .int 1])) rfl ?_
      apply xe_callq pg_104 103 [.int 1, .int 0, .int 3] (.inl (some (.int 1))) (6, [(0, .int 1)], [.int 1]) rfl (fun _ => rfl)
      · refine xe_sn pg_103 4 (fr' := (6, [(0, .int 1), (1, .int 0), (2, .int 3)], [.int 1])) rfl ?_
        refine xe_sn pg_103 4 (fr' := (15, [(0, .int 1), (1, .int 0), (2, .int 3)], [.int 1])) rfl ?_
        exact xe_end pg_103 rfl
      exact xe_end pg_104 rfl
    refine xe_sn pg_143 4 (fr' := (11, [(0, .ref 165), (1, .int 1), (2, .int 3), (3, .int p2), (4, .int p3)], [.int 3, .int 1, .int 3, .ref 165])) rfl ?_
    apply xe_callq pg_143 103 [.int 3, .int 1, .int 3] (.inl (some (.int 1))) (14, [(0, .ref 165), (1, .int 1), (2, .int 3), (3, .int p2), (4, .int p3)], [.int 1, .ref 165]) rfl (fun _ => rfl)
    · refine xe_sn pg_103 4 (fr' := (6, [(0, .int 3), (1, .int 1), (2, .int 3)], [.int 3])) rfl ?_
      refine xe_sn pg_103 4 (fr' := (15, [(0, .int 3), (1, .int 1), (2, .int 3)], [.int 1])) rfl ?_
      exact xe_end pg_103 rfl
    refine xe_sn pg_143 4 (fr' := (25, [(0, .ref 165), (1, .int 1), (2, .int 3), (3, .int p2), (4, .int p3)], [.int 7, .int 0, .int p2, .ref 165])) rfl ?_
    apply xe_callq pg_143 103 [.int p2, .int 0, .int 7] (.inl (some (.int 1))) (28, [(0, .ref 165), (1, .int 1), (2, .int 3), (3, .int p2), (4, .int p3)], [.int 1, .ref 165]) rfl (fun _ => rfl)
    · refine xe_sn pg_103 2 (fr' := (2, [(0, .int p2), (1, .int 0), (2, .int 7)], [.int 0, .int p2])) rfl ?_
      refine xe_f2 pg_103 14 rfl rfl (by show ¬ ((p2).toInt < 0); omega) ?_
      refine xe_sn pg_103 2 (fr' := (7, [(0, .int p2), (1, .int 0), (2, .int 7)], [.int 7, .int p2])) rfl ?_
      refine xe_f2 pg_103 14 rfl rfl (by show ¬ (7 < (p2).toInt); omega) ?_
      refine xe_sn pg_103 2 (fr' := (15, [(0, .int p2), (1, .int 0), (2, .int 7)], [.int 1])) rfl ?_
      exact xe_end pg_103 rfl
    refine xe_sn pg_143 4 (fr' := (37, [(0, .ref 165), (1, .int 1), (2, .int 3), (3, .int p2), (4, .int p3)], [.int 255, .int 0, .int p3, .ref 165])) rfl ?_
    apply xe_callq pg_143 103 [.int p3, .int 0, .int 255] (.inl (some (.int 0))) (40, [(0, .ref 165), (1, .int 1), (2, .int 3), (3, .int p2), (4, .int p3)], [.int 0, .ref 165]) rfl (fun _ => rfl)
    · refine xe_sn pg_103 2 (fr' := (2, [(0, .int p3), (1, .int 0), (2, .int 255)], [.int 0, .int p3])) rfl ?_
      refine xe_f2 pg_103 14 rfl rfl (by show ¬ ((p3).toInt < 0); omega) ?_
      refine xe_sn pg_103 2 (fr' := (7, [(0, .int p3), (1, .int 0), (2, .int 255)], [.int 255, .int p3])) rfl ?_
      refine xe_t2 pg_103 14 rfl rfl (by show 255 < (p3).toInt; omega) ?_
      refine xe_sn pg_103 1 (fr' := (15, [(0, .int p3), (1, .int 0), (2, .int 255)], [.int 0])) rfl ?_
      exact xe_end pg_103 rfl
    refine xe_sn pg_143 4 (fr' := (51, [(0, .ref 165), (1, .int 1), (2, .int 3), (3, .int p2), (4, .int p3)], [])) rfl ?_
    refine xe_sn pg_143 4 (fr' := (69, [(0, .ref 165), (1, .int 1), (2, .int 3), (3, .int p2), (4, .int p3)], [.int 0])) rfl ?_
    refine xe_sn pg_143 4 (fr' := (76, [(5, .int 0), (0, .ref 165), (1, .int 1), (2, .int 3), (3, .int p2), (4, .int p3)], [.int 2, .ref 165])) rfl ?_
    refine xe_sn pg_143 4 (fr' := (111, [(5, .int 0), (0, .ref 165), (1, .int 1), (2, .int 3), (3, .int p2), (4, .int p3)], [])) rfl ?_
    refine xe_sn pg_143 4 (fr' := (119, [(5, .int 0), (0, .ref 165), (1, .int 1), (2, .int 3), (3, .int p2), (4, .int p3)], [.int 0])) rfl ?_
    exact xe_end pg_143 rfl
  · exact ⟨⟨rfl, rfl, rfl, rfl⟩, Nat.le_of_ble_eq_true rfl, Nat.le_of_ble_eq_true rfl, rfl, fun q => absurd q (by decide)⟩

set_option maxRecDepth 100000 in
theorem lf_send_35 (xs : Nat → Int32) (p2 : Int32) (p3 : Int32) (a2 : 0 ≤ p2.toInt) (b2 : p2.toInt ≤ 7) (a3 : 0 ≤ p3.toInt) (b3 : p3.toInt ≤ 255) : op_ok xs 164 143 [.ref 0, .int 1, .int 3, .int p2, .int p3, .ref 189] [.ref 165, .int 1, .int 3, .int p2, .int p3] := by
  refine ⟨3, 0, ?_⟩
  apply Exists.intro
  apply Exists.intro
  apply And.intro
  · refine xe_sn pg_164 4 (fr' := (5, [(0, .ref 0), (1, .int 1), (2, .int 3), (3, .int p2), (4, .int p3), (5, .ref 189)], [.int 1, .ref 0, .int 0, .ref 189])) rfl ?_
    refine xe_sn pg_164 3 (fr' := (9, [(0, .ref 0), (1, .int 1), (2, .int 3), (3, .int p2), (4, .int p3), (5, .ref 189)], [.int p3, .int p2, .int 3, .int 1, .ref 0, .int 0, .ref 189])) rfl ?_
    apply xe_callq pg_164 77 [.ref 0, .int 1, .int 3, .int p2, .int p3] (.inr 2) (27, [(0, .ref 0), (1, .int 1), (2, .int 3), (3, .int p2), (4, .int p3), (5, .ref 189)], []) rfl (fun _ => rfl)
    · refine xe_sn pg_77 1 (fr' := (1, [(0, .ref 0), (1, .int 1), (2, .int 3), (3, .int p2), (4, .int p3)], [.int 1])) rfl ?_
      apply xe_callq pg_77 92 [.int 1] (.inl none) (4, [(0, .ref 0), (1, .int 1), (2, .int 3), (3, .int p2), (4, .int p3)], []) rfl (fun _ => rfl)
      · refine xe_sn pg_92 2 (fr' := (2, [(0, .int 1)], [.int 4, .int 1])) rfl ?_
        apply xe_callq pg_92 95 [.int 1, .int 4] (.inl none) (5, [(0, .int 1)], []) rfl (fun _ => rfl)
        · refine xe_sn pg_95 4 (fr' := (6, [(0, .int 1), (1, .int 4)], [.int 4, .int 1])) rfl ?_
          refine xe_sn pg_95 1 (fr' := (17, [(0, .int 1), (1, .int 4)], [])) rfl ?_
          exact xe_end pg_95 rfl
        exact xe_end pg_92 rfl
      refine xe_sn pg_77 1 (fr' := (5, [(0, .ref 0), (1, .int 1), (2, .int 3), (3, .int p2), (4, .int p3)], [.int 3])) rfl ?_
      apply xe_callq pg_77 94 [.int 3] (.inl none) (8, [(0, .ref 0), (1, .int 1), (2, .int 3), (3, .int p2), (4, .int p3)], []) rfl (fun _ => rfl)
      · refine xe_sn pg_94 1 (fr' := (1, [(0, .int 3)], [.int 3])) rfl ?_
        apply xe_callq pg_94 100 [.int 3] (.inl (some (.int 1))) (4, [(0, .int 3)], [.int 1]) rfl (fun _ => rfl)
        · refine xe_sn pg_100 4 (fr' := (6, [(0, .int 3)], [.int 3])) rfl ?_
          refine xe_sn pg_100 4 (fr' := (15, [(0, .int 3)], [.int 1])) rfl ?_
          exact xe_end pg_100 rfl
        refine xe_sn pg_94 1 (fr' := (15, [(0, .int 3)], [])) rfl ?_
        exact xe_end pg_94 rfl
      refine xe_sn pg_77 1 (fr' := (9, [(0, .ref 0), (1, .int 1), (2, .int 3), (3, .int p2), (4, .int p3)], [.int p2])) rfl ?_
      refine xe_f1 pg_77 22 rfl rfl (by show ¬ ((p2).toInt < 0); omega) ?_
      refine xe_sn pg_77 2 (fr' := (15, [(0, .ref 0), (1, .int 1), (2, .int 3), (3, .int p2), (4, .int p3)], [.int 7, .int p2])) rfl ?_
      refine xe_f2 pg_77 22 rfl rfl (by show ¬ (7 < (p2).toInt); omega) ?_
      refine xe_sn pg_77 2 (fr' := (23, [(0, .ref 0), (1, .int 1), (2, .int 3), (3, .int p2), (4, .int p3)], [.int 1])) rfl ?_
      apply xe_callq pg_77 97 [.int 1] (.inl none) (26, [(0, .ref 0), (1, .int 1), (2, .int 3), (3, .int p2), (4, .int p3)], []) rfl (fun _ => rfl)
      · refine xe_sn pg_97 2 (fr' := (12, [(0, .int 1)], [])) rfl ?_
        exact xe_end pg_97 rfl
      refine xe_sn pg_77 1 (fr' := (28, [(0, .ref 0), (1, .int 1), (2, .int 3), (3, .int p2), (4, .int p3)], [.int p3])) rfl ?_
      apply xe_callq pg_77 99 [.int p3] (.inl (some (.int 1))) (31, [(0, .ref 0), (1, .int 1), (2, .int 3), (3, .int p2), (4, .int p3)], [.int 1]) rfl (fun _ => rfl)
      · refine xe_sn pg_99 1 (fr' := (1, [(0, .int p3)], [.int p3])) rfl ?_
        refine xe_f1 pg_99 15 rfl rfl (by show ¬ ((p3).toInt < 0); omega) ?_
        refine xe_sn pg_99 2 (fr' := (8, [(0, .int p3)], [.int 255, .int p3])) rfl ?_
        refine xe_f2 pg_99 15 rfl rfl (by show ¬ (255 < (p3).toInt); omega) ?_
        refine xe_sn pg_99 2 (fr' := (16, [(0, .int p3)], [.int 1])) rfl ?_
        exact xe_end pg_99 rfl
      apply xe_callq pg_77 97 [.int 1] (.inl none) (34, [(0, .ref 0), (1, .int 1), (2, .int 3), (3, .int p2), (4, .int p3)], []) rfl (fun _ => rfl)
      · refine xe_sn pg_97 2 (fr' := (12, [(0, .int 1)], [])) rfl ?_
        exact xe_end pg_97 rfl
      refine xe_sn pg_77 4 (fr' := (40, [(0, .ref 0), (1, .int 1), (2, .int 3), (3, .int p2), (4, .int p3)], [.ref 132])) rfl ?_
      refine xe_sn pg_77 4 (fr' := (46, [(0, .ref 0), (1, .int 1), (2, .int 3), (3, .int p2), (4, .int p3)], [.int 2, .ref 138])) rfl ?_
      refine xe_sn pg_77 4 (fr' := (54, [(5, .ref 142), (0, .ref 0), (1, .int 1), (2, .int 3), (3, .int p2), (4, .int p3)], [.int 0])) rfl ?_
      refine xe_sn pg_77 3 (fr' := (71, [(5, .ref 142), (0, .ref 0), (1, .int 1), (2, .int 3), (3, .int p2), (4, .int p3)], [.int 0])) rfl ?_
      apply xe_callqx pg_77 98 [.int 0] 2 rfl (fun _ => rfl)
      · refine xe_sn pg_98 2 (fr' := (4, [(0, .int 0)], [])) rfl ?_
        exact xe_end pg_98 rfl
    refine xe_sn pg_164 1 (fr' := (28, [(0, .ref 0), (1, .int 1), (2, .int 3), (3, .int p2), (4, .int p3), (5, .ref 189)], [.int 3])) rfl ?_
    exact xe_end pg_164 rfl
  refine And.intro ⟨rfl, rfl, rfl, rfl⟩ ?_
  apply And.intro
  · refine xe_sn pg_143 2 (fr' := (2, [(0, .ref 165), (1, .int 1), (2, .int 3), (3, .int p2), (4, .int p3)], [.int 1, .ref 165])) rfl ?_
    apply xe_callq pg_143 104 [.int 1] (.inl (some (.int 1))) (5, [(0, .ref 165), (1, .int 1), (2, .int 3), (3, .int p2), (4, .int p3)], [.int 1, .ref 165]) rfl (fun _ => rfl)
    · refine xe_sn pg_104 3 (fr' := (3, [(0, .int 1)], [.int 3, .int 0, .int 1])) rfl ?_
      apply xe_callq pg_104 103 [.int 1, .int 0, .int 3] (.inl (some (.int 1))) (6, [(0, .int 1)], [.int 1]) rfl (fun _ => rfl)
      · refine xe_sn pg_103 4 (fr' := (6, [(0, .int 1), (1, .int 0), (2, .int 3)], [.int 1])) rfl ?_
        refine xe_sn pg_103 4 (fr' := (15, [(0, .int 1), (1, .int 0), (2, .int 3)], [.int 1])) rfl ?_
        exact xe_end pg_103 rfl
      exact xe_end pg_104 rfl
    refine xe_sn pg_143 4 (fr' := (11, [(0, .ref 165), (1, .int 1), (2, .int 3), (3, .int p2), (4, .int p3)], [.int 3, .int 1, .int 3, .ref 165])) rfl ?_
    apply xe_callq pg_143 103 [.int 3, .int 1, .int 3] (.inl (some (.int 1))) (14, [(0, .ref 165), (1, .int 1), (2, .int 3), (3, .int p2), (4, .int p3)], [.int 1, .ref 165]) rfl (fun _ => rfl)
    · refine xe_sn pg_103 4 (fr' := (6, [(0, .int 3), (1, .int 1), (2, .int 3)], [.int 3])) rfl ?_
      refine xe_sn pg_103 4 (fr' := (15, [(0, .int 3), (1, .int 1), (2, .int 3)], [.int 1])) rfl ?_
      exact xe_end pg_103 rfl
    refine xe_sn pg_143 4 (fr' := (25, [(0, .ref 165), (1, .int 1), (2, .int 3), (3, .int p2), (4, .int p3)], [.int 7, .int 0, .int p2, .ref 165])) rfl ?_
    apply xe_callq pg_143 103 [.int p2, .int 0, .int 7] (.inl (some (.int 1))) (28, [(0, .ref 165), (1, .int 1), (2, .int 3), (3, .int p2), (4, .int p3)], [.int 1, .ref 165]) rfl (fun _ => rfl)
    · refine xe_sn pg_103 2 (fr' := (2, [(0, .int p2), (1, .int 0), (2, .int 7)], [.int 0, .int p2])) rfl ?_
      refine xe_f2 pg_103 14 rfl rfl (by show ¬ ((p2).toInt < 0); omega) ?_
      refine xe_sn pg_103 2 (fr' := (7, [(0, .int p2), (1, .int 0), (2, .int 7)], [.int 7, .int p2])) rfl ?_
      refine xe_f2 pg_103 14 rfl rfl (by show ¬ (7 < (p2).toInt); omega) ?_
      refine xe_sn pg_103 2 (fr' := (15, [(0, .int p2), (1, .int 0), (2, .int 7)], [.int 1])) rfl ?_
      exact xe_end pg_103 rfl
    refine xe_sn pg_143 4 (fr' := (37, [(0, .ref 165), (1, .int 1), (2, .int 3), (3, .int p2), (4, .int p3)], [.int 255, .int 0, .int p3, .ref 165])) rfl ?_
    apply xe_callq pg_143 103 [.int p3, .int 0, .int 255] (.inl (some (.int 1))) (40, [(0, .ref 165), (1, .int 1), (2, .int 3), (3, .int p2), (4, .int p3)], [.int 1, .ref 165]) rfl (fun _ => rfl)
    · refine xe_sn pg_103 2 (fr' := (2, [(0, .int p3), (1, .int 0), (2, .int 255)], [.int 0, .int p3])) rfl ?_
      refine xe_f2 pg_103 14 rfl rfl (by show ¬ ((p3).toInt < 0); omega) ?_
      refine xe_sn pg_103 2 (fr' := (7, [(0, .int p3), (1, .int 0), (2, .int 255)], [.int 255, .int p3])) rfl ?_
      refine xe_f2 pg_103 14 rfl rfl (by show ¬ (255 < (p3).toInt); omega) ?_
      refine xe_sn pg_103 2 (fr' := (15, [(0, .int p3), (1, .int 0), (2, .int 255)], [.int 1])) rfl ?_
      exact xe_end pg_103 rfl
    refine xe_sn pg_143 4 (fr' := (52, [(0, .ref 165), (1, .int 1), (2, .int 3), (3, .int p2), (4, .int p3)], [.ref 165])) rfl ?_
    refine xe_sn pg_143 4 (fr' := (60, [(0, .ref 165), (1, .int 1), (2, .int 3), (3, .int p2), (4, .int p3)], [.int 1, .int 3])) rfl ?_
    refine xe_sn pg_143 4 (fr' := (64, [(0, .ref 165), (1, .int 1), (2, .int 3), (3, .int p2), (4, .int p3)], [.int 1, .int 6])) rfl ?_
    refine xe_sn pg_143 4 (fr' := (72, [(5, .int 5), (0, .ref 165), (1, .int 1), (2, .int 3), (3, .int p2), (4, .int p3)], [.ref 165])) rfl ?_
    refine xe_sn pg_143 4 (fr' := (80, [(5, .int 5), (0, .ref 165), (1, .int 1), (2, .int 3), (3, .int p2), (4, .int p3)], [.ref 165, .ref 165])) rfl ?_
    refine xe_sn pg_143 4 (fr' := (87, [(5, .int 5), (0, .ref 165), (1, .int 1), (2, .int 3), (3, .int p2), (4, .int p3)], [.int 2, .int 0, .ref 165])) rfl ?_
    refine xe_sn pg_143 4 (fr' := (111, [(5, .int 5), (0, .ref 165), (1, .int 1), (2, .int 3), (3, .int p2), (4, .int p3)], [])) rfl ?_
    refine xe_sn pg_143 4 (fr' := (119, [(5, .int 5), (0, .ref 165), (1, .int 1), (2, .int 3), (3, .int p2), (4, .int p3)], [.int 0])) rfl ?_
    exact xe_end pg_143 rfl
  · exact ⟨⟨rfl, rfl, rfl, rfl⟩, Nat.le_of_ble_eq_true rfl, Nat.le_of_ble_eq_true rfl, rfl, fun q => absurd q (by decide)⟩

set_option maxRecDepth 100000 in
theorem lf_send_36 (xs : Nat → Int32) (p1 : Int32) (p2 : Int32) (p3 : Int32) (a1 : p1.toInt < 1) : op_ok xs 164 143 [.ref 0, .int 2, .int p1, .int p2, .int p3, .ref 189] [.ref 165, .int 2, .int p1, .int p2, .int p3] := by
  refine ⟨1, 0, ?_⟩
  apply Exists.intro
  apply Exists.intro
  apply And.intro
  · refine xe_sn pg_164 4 (fr' := (5, [(0, .ref 0), (1, .int 2), (2, .int p1), (3, .int p2), (4, .int p3), (5, .ref 189)], [.int 2, .ref 0, .int 0, .ref 189])) rfl ?_
    refine xe_sn pg_164 3 (fr' := (9, [(0, .ref 0), (1, .int 2), (2, .int p1), (3, .int p2), (4, .int p3), (5, .ref 189)], [.int p3, .int p2, .int p1, .int 2, .ref 0, .int 0, .ref 189])) rfl ?_
    apply xe_callq pg_164 77 [.ref 0, .int 2, .int p1, .int p2, .int p3] (.inr 0) (19, [(0, .ref 0), (1, .int 2), (2, .int p1), (3, .int p2), (4, .int p3), (5, .ref 189)], []) rfl (fun _ => rfl)
    · refine xe_sn pg_77 1 (fr' := (1, [(0, .ref 0), (1, .int 2), (2, .int p1), (3, .int p2), (4, .int p3)], [.int 2])) rfl ?_
      apply xe_callq pg_77 92 [.int 2] (.inl none) (4, [(0, .ref 0), (1, .int 2), (2, .int p1), (3, .int p2), (4, .int p3)], []) rfl (fun _ => rfl)
      · refine xe_sn pg_92 2 (fr' := (2, [(0, .int 2)], [.int 4, .int 2])) rfl ?_
        apply xe_callq pg_92 95 [.int 2, .int 4] (.inl none) (5, [(0, .int 2)], []) rfl (fun _ => rfl)
        · refine xe_sn pg_95 4 (fr' := (6, [(0, .int 2), (1, .int 4)], [.int 4, .int 2])) rfl ?_
          refine xe_sn pg_95 1 (fr' := (17, [(0, .int 2), (1, .int 4)], [])) rfl ?_
          exact xe_end pg_95 rfl
        exact xe_end pg_92 rfl
      refine xe_sn pg_77 1 (fr' := (5, [(0, .ref 0), (1, .int 2), (2, .int p1), (3, .int p2), (4, .int p3)], [.int p1])) rfl ?_
      apply xe_callqx pg_77 94 [.int p1] 0 rfl (fun _ => rfl)
      · refine xe_sn pg_94 1 (fr' := (1, [(0, .int p1)], [.int p1])) rfl ?_
        apply xe_callq pg_94 100 [.int p1] (.inl (some (.int 0))) (4, [(0, .int p1)], [.int 0]) rfl (fun _ => rfl)
        · refine xe_sn pg_100 2 (fr' := (2, [(0, .int p1)], [.int 1, .int p1])) rfl ?_
          refine xe_t2 pg_100 14 rfl rfl (by show (p1).toInt < 1; omega) ?_
          refine xe_sn pg_100 1 (fr' := (15, [(0, .int p1)], [.int 0])) rfl ?_
          exact xe_end pg_100 rfl
        refine xe_sn pg_94 1 (fr' := (7, [(0, .int p1)], [])) rfl ?_
        exact xe_end pg_94 rfl
    refine xe_sn pg_164 1 (fr' := (20, [(0, .ref 0), (1, .int 2), (2, .int p1), (3, .int p2), (4, .int p3), (5, .ref 189)], [.int 1])) rfl ?_
    exact xe_end pg_164 rfl
  refine And.intro ⟨rfl, rfl, rfl, rfl⟩ ?_
  apply And.intro
  · refine xe_sn pg_143 2 (fr' := (2, [(0, .ref 165), (1, .int 2), (2, .int p1), (3, .int p2), (4, .int p3)], [.int 2, .ref 165])) rfl ?_
    apply xe_callq pg_143 104 [.int 2] (.inl (some (.int 1))) (5, [(0, .ref 165), (1, .int 2), (2, .int p1), (3, .int p2), (4, .int p3)], [.int 1, .ref 165]) rfl (fun _ => rfl)
    · refine xe_sn pg_104 3 (fr' := (3, [(0, .int 2)], [.int 3, .int 0, .int 2])) rfl ?_
      apply xe_callq pg_104 103 [.int 2, .int 0, .int 3] (.inl (some (.int 1))) (6, [(0, .int 2)], [.int 1]) rfl (fun _ => rfl)
      · refine xe_sn pg_103 4 (fr' := (6, [(0, .int 2), (1, .int 0), (2, .int 3)], [.int 2])) rfl ?_
        refine xe_sn pg_103 4 (fr' := (15, [(0, .int 2), (1, .int 0), (2, .int 3)], [.int 1])) rfl ?_
        exact xe_end pg_103 rfl
      exact xe_end pg_104 rfl
    refine xe_sn pg_143 4 (fr' := (11, [(0, .ref 165), (1, .int 2), (2, .int p1), (3, .int p2), (4, .int p3)], [.int 3, .int 1, .int p1, .ref 165])) rfl ?_
    apply xe_callq pg_143 103 [.int p1, .int 1, .int 3] (.inl (some (.int 0))) (14, [(0, .ref 165), (1, .int 2), (2, .int p1), (3, .int p2), (4, .int p3)], [.int 0, .ref 165]) rfl (fun _ => rfl)
    · refine xe_sn pg_103 2 (fr' := (2, [(0, .int p1), (1, .int 1), (2, .int 3)], [.int 1, .int p1])) rfl ?_
      refine xe_t2 pg_103 14 rfl rfl (by show (p1).toInt < 1; omega) ?_
      refine xe_sn pg_103 1 (fr' := (15, [(0, .int p1), (1, .int 1), (2, .int 3)], [.int 0])) rfl ?_
      exact xe_end pg_103 rfl
    refine xe_sn pg_143 4 (fr' := (51, [(0, .ref 165), (1, .int 2), (2, .int p1), (3, .int p2), (4, .int p3)], [])) rfl ?_
    refine xe_sn pg_143 4 (fr' := (69, [(0, .ref 165), (1, .int 2), (2, .int p1), (3, .int p2), (4, .int p3)], [.int 0])) rfl ?_
    refine xe_sn pg_143 4 (fr' := (76, [(5, .int 0), (0, .ref 165), (1, .int 2), (2, .int p1), (3, .int p2), (4, .int p3)], [.int 1, .ref 165])) rfl ?_
    refine xe_sn pg_143 4 (fr' := (111, [(5, .int 0), (0, .ref 165), (1, .int 2), (2, .int p1), (3, .int p2), (4, .int p3)], [])) rfl ?_
    refine xe_sn pg_143 4 (fr' := (119, [(5, .int 0), (0, .ref 165), (1, .int 2), (2, .int p1), (3, .int p2), (4, .int p3)], [.int 0])) rfl ?_
    exact xe_end pg_143 rfl
  · exact ⟨⟨rfl, rfl, rfl, rfl⟩, Nat.le_of_ble_eq_true rfl, Nat.le_of_ble_eq_true rfl, rfl, fun q => absurd q (by decide)⟩

set_option maxRecDepth 100000 in
theorem lf_send_37 (xs : Nat → Int32) (p1 : Int32) (p2 : Int32) (p3 : Int32) (b1 : 3 < p1.toInt) : op_ok xs 164 143 [.ref 0, .int 2, .int p1, .int p2, .int p3, .ref 189] [.ref 165, .int 2, .int p1, .int p2, .int p3] := by
  refine ⟨1, 0, ?_⟩
  apply Exists.intro
  apply Exists.intro
  apply And.intro
  · refine xe_sn pg_164 4 (fr' := (5, [(0, .ref 0), (1, .int 2), (2, .int p1), (3, .int p2), (4, .int p3), (5, .ref 189)], [.int 2, .ref 0, .int 0, .ref 189])) rfl ?_
    refine xe_sn pg_164 3 (fr' := (9, [(0, .ref 0), (1, .int 2), (2, .int p1), (3, .int p2), (4, .int p3), (5, .ref 189)], [.int p3, .int p2, .int p1, .int 2, .ref 0, .int 0, .ref 189])) rfl ?_
    apply xe_callq pg_164 77 [.ref 0, .int 2, .int p1, .int p2, .int p3] (.inr 0) (19, [(0, .ref 0), (1, .int 2), (2, .int p1), (3, .int p2), (4, .int p3), (5, .ref 189)], []) rfl (fun _ => rfl)
    · refine xe_sn pg_77 1 (fr' := (1, [(0, .ref 0), (1, .int 2), (2, .int p1), (3, .int p2), (4, .int p3)], [.int 2])) rfl ?_
      apply xe_callq pg_77 92 [.int 2] (.inl none) (4, [(0, .ref 0), (1, .int 2), (2, .int p1), (3, .int p2), (4, .int p3)], []) rfl (fun _ => rfl)
      · refine xe_sn pg_92 2 (fr' := (2, [(0, .int 2)], [.int 4, .int 2])) rfl ?_
        apply xe_callq pg_92 95 [.int 2, .int 4] (.inl none) (5, [(0, .int 2)], []) rfl (fun _ => rfl)
        · refine xe_sn pg_95 4 (fr' := (6, [(0, .int 2), (1, .int 4)], [.int 4, .int 2])) rfl ?_
          refine xe_sn pg_95 1 (fr' := (17, [(0, .int 2), (1, .int 4)], [])) rfl ?_
          exact xe_end pg_95 rfl
        exact xe_end pg_92 rfl
      refine xe_sn pg_77 1 (fr' := (5, [(0, .ref 0), (1, .int 2), (2, .int p1), (3, .int p2), (4, .int p3)], [.int p1])) rfl ?_
      apply xe_callqx pg_77 94 [.int p1] 0 rfl (fun _ => rfl)
      · refine xe_sn pg_94 1 (fr' := (1, [(0, .int p1)], [.int p1])) rfl ?_
        apply xe_callq pg_94 100 [.int p1] (.inl (some (.int 0))) (4, [(0, .int p1)], [.int 0]) rfl (fun _ => rfl)
        · refine xe_sn pg_100 2 (fr' := (2, [(0, .int p1)], [.int 1, .int p1])) rfl ?_
          refine xe_f2 pg_100 14 rfl rfl (by show ¬ ((p1).toInt < 1); omega) ?_
          refine xe_sn pg_100 2 (fr' := (7, [(0, .int p1)], [.int 3, .int p1])) rfl ?_
          refine xe_t2 pg_100 14 rfl rfl (by show 3 < (p1).toInt; omega) ?_
          refine xe_sn pg_100 1 (fr' := (15, [(0, .int p1)], [.int 0])) rfl ?_
          exact xe_end pg_100 rfl
        refine xe_sn pg_94 1 (fr' := (7, [(0, .int p1)], [])) rfl ?_
        exact xe_end pg_94 rfl
    refine xe_sn pg_164 1 (fr' := (20, [(0, .ref 0), (1, .int 2), (2, .int p1), (3, .int p2), (4, .int p3), (5, .ref 189)], [.int 1])) rfl ?_
    exact xe_end pg_164 rfl
  refine And.intro ⟨rfl, rfl, rfl, rfl⟩ ?_
  apply And.intro
  · refine xe_sn pg_143 2 (fr' := (2, [(0, .ref 165), (1, .int 2), (2, .int p1), (3, .int p2), (4, .int p3)], [.int 2, .ref 165])) rfl ?_
    apply xe_callq pg_143 104 [.int 2] (.inl (some (.int 1))) (5, [(0, .ref 165), (1, .int 2), (2, .int p1), (3, .int p2), (4, .int p3)], [.int 1, .ref 165]) rfl (fun _ => rfl)
    · refine xe_sn pg_104 3 (fr' := (3, [(0, .int 2)], [.int 3, .int 0, .int 2])) rfl ?_
      apply xe_callq pg_104 103 [.int 2, .int 0, .int 3] (.inl (some (.int 1))) (6, [(0, .int 2)], [.int 1]) rfl (fun _ => rfl)
      · refine xe_sn pg_103 4 (fr' := (6, [(0, .int 2), (1, .int 0), (2, .int 3)], [.int 2])) rfl ?_
        refine xe_sn pg_103 4 (fr' := (15, [(0, .int 2), (1, .int 0), (2, .int 3)], [.int 1])) rfl ?_
        exact xe_end pg_103 rfl
      exact xe_end pg_104 rfl
    refine xe_sn pg_143 4 (fr' := (11, [(0, .ref 165), (1, .int 2), (2, .int p1), (3, .int p2), (4, .int p3)], [.int 3, .int 1, .int p1, .ref 165])) rfl ?_
    apply xe_callq pg_143 103 [.int p1, .int 1, .int 3] (.inl (some (.int 0))) (14, [(0, .ref 165), (1, .int 2), (2, .int p1), (3, .int p2), (4, .int p3)], [.int 0, .ref 165]) rfl (fun _ => rfl)
    · refine xe_sn pg_103 2 (fr' := (2, [(0, .int p1), (1, .int 1), (2, .int 3)], [.int 1, .int p1])) rfl ?_
      refine xe_f2 pg_103 14 rfl rfl (by show ¬ ((p1).toInt < 1); omega) ?_
      refine xe_sn pg_103 2 (fr' := (7, [(0, .int p1), (1, .int 1), (2, .int 3)], [.int 3, .int p1])) rfl ?_
      refine xe_t2 pg_103 14 rfl rfl (by show 3 < (p1).toInt; omega) ?_
      refine xe_sn pg_103 1 (fr' := (15, [(0, .int p1), (1, .int 1), (2, .int 3)], [.int 0])) rfl ?_
      exact xe_end pg_103 rfl
    refine xe_sn pg_143 4 (fr' := (51, [(0, .ref 165), (1, .int 2), (2, .int p1), (3, .int p2), (4, .int p3)], [])) rfl ?_
    refine xe_sn pg_143 4 (fr' := (69, [(0, .ref 165), (1, .int 2), (2, .int p1), (3, .int p2), (4, .int p3)], [.int 0])) rfl ?_
    refine xe_sn pg_143 4 (fr' := (76, [(5, .int 0), (0, .ref 165), (1, .int 2), (2, .int p1), (3, .int p2), (4, .int p3)], [.int 1, .ref 165])) rfl ?_
    refine xe_sn pg_143 4 (fr' := (111, [(5, .int 0), (0, .ref 165), (1, .int 2), (2, .int p1), (3, .int p2), (4, .int p3)], [])) rfl ?_
    refine xe_sn pg_143 4 (fr' := (119, [(5, .int 0), (0, .ref 165), (1, .int 2), (2, .int p1), (3, .int p2), (4, .int p3)], [.int 0])) rfl ?_
    exact xe_end pg_143 rfl
  · exact ⟨⟨rfl, rfl, rfl, rfl⟩, Nat.le_of_ble_eq_true rfl, Nat.le_of_ble_eq_true rfl, rfl, fun q => absurd q (by decide)⟩

set_option maxRecDepth 100000 in
theorem lf_send_38 (xs : Nat → Int32) (p2 : Int32) (p3 : Int32) (a2 : p2.toInt < 0) : op_ok xs 164 143 [.ref 0, .int 2, .int 1, .int p2, .int p3, .ref 189] [.ref 165, .int 2, .int 1, .int p2, .int p3] := by
  refine ⟨2, 0, ?_⟩
  apply Exists.intro
  apply Exists.intro
  apply And.intro
  · refine xe_sn pg_164 4 (fr' := (5, [(0, .ref 0), (1, .int 2), (2, .int 1), (3, .int p2), (4, .int p3), (5, .ref 189)], [.int 2, .ref 0, .int 0, .ref 189])) rfl ?_
    refine xe_sn pg_164 3 (fr' := (9, [(0, .ref 0), (1, .int 2), (2, .int 1), (3, .int p2), (4, .int p3), (5, .ref 189)], [.int p3, .int p2, .int 1, .int 2, .ref 0, .int 0, .ref 189])) rfl ?_
    apply xe_callq pg_164 77 [.ref 0, .int 2, .int 1, .int p2, .int p3] (.inr 1) (23, [(0, .ref 0), (1, .int 2), (2, .int 1), (3, .int p2), (4, .int p3), (5, .ref 189)], []) rfl (fun _ => rfl)
    · refine xe_sn pg_77 1 (fr' := (1, [(0, .ref 0), (1, .int 2), (2, .int 1), (3, .int p2), (4, .int p3)], [.int 2])) rfl ?_
      apply xe_callq pg_77 92 [.int 2] (.inl none) (4, [(0, .ref 0), (1, .int 2), (2, .int 1), (3, .int p2), (4, .int p3)], []) rfl (fun _ => rfl)
      · refine xe_sn pg_92 2 (fr' := (2, [(0, .int 2)], [.int 4, .int 2])) rfl ?_
        apply xe_callq pg_92 95 [.int 2, .int 4] (.inl none) (5, [(0, .int 2)], []) rfl (fun _ => rfl)
        · refine xe_sn pg_95 4 (fr' := (6, [(0, .int 2), (1, .int 4)], [.int 4, .int 2])) rfl ?_
          refine xe_sn pg_95 1 (fr' := (17, [(0, .int 2), (1, .int 4)], [])) rfl ?_
          exact xe_end pg_95 rfl
        exact xe_end pg_92 rfl
      refine xe_sn pg_77 1 (fr' := (5, [(0, .ref 0), (1, .int 2), (2, .int 1), (3, .int p2), (4, .int p3)], [.int 1])) rfl ?_
      apply xe_callq pg_77 94 [.int 1] (.inl none) (8, [(0, .ref 0), (1, .int 2), (2, .int 1), (3, .int p2), (4, .int p3)], []) rfl (fun _ => rfl)
      · refine xe_sn pg_94 1 (fr' := (1, [(0, .int 1)], [.int 1])) rfl ?_
        apply xe_callq pg_94 100 [.int 1] (.inl (some (.int 1))) (4, [(0, .int 1)], [.int 1]) rfl (fun _ => rfl)
        · refine xe_sn pg_100 4 (fr' := (6, [(0, .int 1)], [.int 1])) rfl ?_
          refine xe_sn pg_100 4 (fr' := (15, [(0, .int 1)], [.int 1])) rfl ?_
          exact xe_end pg_100 rfl
        refine xe_sn pg_94 1 (fr' := (15, [(0, .int 1)], [])) rfl ?_
        exact xe_end pg_94 rfl
      refine xe_sn pg_77 1 (fr' := (9, [(0, .ref 0), (1, .int 2), (2, .int 1), (3, .int p2), (4, .int p3)], [.int p2])) rfl ?_
      refine xe_t1 pg_77 22 rfl rfl (by show (p2).toInt < 0; omega) ?_
      refine xe_sn pg_77 1 (fr' := (23, [(0, .ref 0), (1, .int 2), (2, .int 1), (3, .int p2), (4, .int p3)], [.int 0])) rfl ?_
      apply xe_callqx pg_77 97 [.int 0] 1 rfl (fun _ => rfl)
      · refine xe_sn pg_97 2 (fr' := (4, [(0, .int 0)], [])) rfl ?_
        exact xe_end pg_97 rfl
    refine xe_sn pg_164 1 (fr' := (24, [(0, .ref 0), (1, .int 2), (2, .int 1), (3, .int p2), (4, .int p3), (5, .ref 189)], [.int 2])) rfl ?_
    exact xe_end pg_164 rfl
  refine And.intro ⟨rfl, rfl, rfl, rfl⟩ ?_
  apply And.intro
  · refine xe_sn pg_143 2 (fr' := (2, [(0, .ref 165), (1, .int 2), (2, .int 1), (3, .int p2), (4, .int p3)], [.int 2, .ref 165])) rfl ?_
    apply xe_callq pg_143 104 [.int 2] (.inl (some (.int 1))) (5, [(0, .ref 165), (1, .int 2), (2, .int 1), (3, .int p2), (4, .int p3)], [.int 1, .ref 165]) rfl (fun _ => rfl)
    · refine xe_sn pg_104 3 (fr' := (3, [(0, .int 2)], [.int 3, .int 0, .int 2])) rfl ?_
      apply xe_callq pg_104 103 [.int 2, .int 0, .int 3] (.inl (some (.int 1))) (6, [(0, .int 2)], [.int 1]) rfl (fun _ => rfl)
      · refine xe_sn pg_103 4 (fr' := (6, [(0, .int 2), (1, .int 0), (2, .int 3)], [.int 2])) rfl ?_
        refine xe_sn pg_103 4 (fr' := (15, [(0, .int 2), (1, .int 0), (2, .int 3)], [.int 1])) rfl ?_
        exact xe_end pg_103 rfl
      exact xe_end pg_104 rfl
    refine xe_sn pg_143 4 (fr' := (11, [(0, .ref 165), (1, .int 2), (2, .int 1), (3, .int p2), (4, .int p3)], [.int 3, .int 1, .int 1, .ref 165])) rfl ?_
    apply xe_callq pg_143 103 [.int 1, .int 1, .int 3] (.inl (some (.int 1))) (14, [(0, .ref 165), (1, .int 2), (2, .int 1), (3, .int p2), (4, .int p3)], [.int 1, .ref 165]) rfl (fun _ => rfl)
    · refine xe_sn pg_103 4 (fr' := (6, [(0, .int 1), (1, .int 1), (2, .int 3)], [.int 1])) rfl ?_
      refine xe_sn pg_103 4 (fr' := (15, [(0, .int 1), (1, .int 1), (2, .int 3)], [.int 1])) rfl ?_
      exact xe_end pg_103 rfl
    refine xe_sn pg_143 4 (fr' := (25, [(0, .ref 165), (1, .int 2), (2, .int 1), (3, .int p2), (4, .int p3)], [.int 7, .int 0, .int p2, .ref 165])) rfl ?_
    apply xe_callq pg_143 103 [.int p2, .int 0, .int 7] (.inl (some (.int 0))) (28, [(0, .ref 165), (1, .int 2), (2, .int 1), (3, .int p2), (4, .int p3)], [.int 0, .ref 165]) rfl (fun _ => rfl)
    · refine xe_sn pg_103 2 (fr' := (2, [(0, .int p2), (1, .int 0), (2, .int 7)], [.int 0, .int p2])) rfl ?_
      refine xe_t2 pg_103 14 rfl rfl (by show (p2).toInt < 0; omega) ?_
      refine xe_sn pg_103 1 (fr' := (15, [(0, .int p2), (1, .int 0), (2, .int 7)], [.int 0])) rfl ?_
      exact xe_end pg_103 rfl
    refine xe_sn pg_143 4 (fr' := (51, [(0, .ref 165), (1, .int 2), (2, .int 1), (3, .int p2), (4, .int p3)], [])) rfl ?_
    refine xe_sn pg_143 4 (fr' := (69, [(0, .ref 165), (1, .int 2), (2, .int 1), (3, .int p2), (4, .int p3)], [.int 0])) rfl ?_
    refine xe_sn pg_143 4 (fr' := (76, [(5, .int 0), (0, .ref 165), (1, .int 2), (2, .int 1), (3, .int p2), (4, .int p3)], [.int 2, .ref 165])) rfl ?_
    refine xe_sn pg_143 4 (fr' := (111, [(5, .int 0), (0, .ref 165), (1, .int 2), (2, .int 1), (3, .int p2), (4, .int p3)], [])) rfl ?_
    refine xe_sn pg_143 4 (fr' := (119, [(5, .int 0), (0, .ref 165), (1, .int 2), (2, .int 1), (3, .int p2), (4, .int p3)], [.int 0])) rfl ?_
    exact xe_end pg_143 rfl
  · exact ⟨⟨rfl, rfl, rfl, rfl⟩, Nat.le_of_ble_eq_true rfl, Nat.le_of_ble_eq_true rfl, rfl, fun q => absurd q (by decide)⟩

set_option maxRecDepth 100000 in
theorem lf_send_39 (xs : Nat → Int32) (p2 : Int32) (p3 : Int32) (b2 : 7 < p2.toInt) : op_ok xs 164 143 [.ref 0, .int 2, .int 1, .int p2, .int p3, .ref 189] [.ref 165, .int 2, .int 1, .int p2, .int p3] := by
  refine ⟨2, 0, ?_⟩
  apply Exists.intro
  apply Exists.intro
  apply And.intro
  · refine xe_sn pg_164 4 (fr' := (5, [(0, .ref 0), (1, .int 2), (2, .int 1), (3, .int p2), (4, .int p3), (5, .ref 189)], [.int 2, .ref 0, .int 0, .ref 189])) rfl ?_
    refine xe_sn pg_164 3 (fr' := (9, [(0, .ref 0), (1, .int 2), (2, .int 1), (3, .int p2), (4, .int p3), (5, .ref 189)], [.int p3, .int p2, .int 1, .int 2, .ref 0, .int 0, .ref 189])) rfl ?_
    apply xe_callq pg_164 77 [.ref 0, .int 2, .int 1, .int p2, .int p3] (.inr 1) (23, [(0, .ref 0), (1, .int 2), (2, .int 1), (3, .int p2), (4, .int p3), (5, .ref 189)], []) rfl (fun _ => rfl)
    · refine xe_sn pg_77 1 (fr' := (1, [(0, .ref 0), (1, .int 2), (2, .int 1), (3, .int p2), (4, .int p3)], [.int 2])) rfl ?_
      apply xe_callq pg_77 92 [.int 2] (.inl none) (4, [(0, .ref 0), (1, .int 2), (2, .int 1), (3, .int p2), (4, .int p3)], []) rfl (fun _ => rfl)
      · refine xe_sn pg_92 2 (fr' := (2, [(0, .int 2)], [.int 4, .int 2])) rfl ?_
        apply xe_callq pg_92 95 [.int 2, .int 4] (.inl none) (5, [(0, .int 2)], []) rfl (fun _ => rfl)
        · refine xe_sn pg_95 4 (fr' := (6, [(0, .int 2), (1, .int 4)], [.int 4, .int 2])) rfl ?_
          refine xe_sn pg_95 1 (fr' := (17, [(0, .int 2), (1, .int 4)], [])) rfl ?_
          exact xe_end pg_95 rfl
        exact xe_end pg_92 rfl
      refine xe_sn pg_77 1 (fr' := (5, [(0, .ref 0), (1, .int 2), (2, .int 1), (3, .int p2), (4, .int p3)], [.int 1])) rfl ?_
      apply xe_callq pg_77 94 [.int 1] (.inl none) (8, [(0, .ref 0), (1, .int 2), (2, .int 1), (3, .int p2), (4, .int p3)], []) rfl (fun _ => rfl)
      · refine xe_sn pg_94 1 (fr' := (1, [(0, .int 1)], [.int 1])) rfl ?_
        apply xe_callq pg_94 100 [.int 1] (.inl (some (.int 1))) (4, [(0, .int 1)], [.int 1]) rfl (fun _ => rfl)
        · refine xe_sn pg_100 4 (fr' := (6, [(0, .int 1)], [.int 1])) rfl ?_
          refine xe_sn pg_100 4 (fr' := (15, [(0, .int 1)], [.int 1])) rfl ?_
          exact xe_end pg_100 rfl
        refine xe_sn pg_94 1 (fr' := (15, [(0, .int 1)], [])) rfl ?_
        exact xe_end pg_94 rfl
      refine xe_sn pg_77 1 (fr' := (9, [(0, .ref 0), (1, .int 2), (2, .int 1), (3, .int p2), (4, .int p3)], [.int p2])) rfl ?_
      refine xe_f1 pg_77 22 rfl rfl (by show ¬ ((p2).toInt < 0); omega) ?_
      refine xe_sn pg_77 2 (fr' := (15, [(0, .ref 0), (1, .int 2), (2, .int 1), (3, .int p2), (4, .int p3)], [.int 7, .int p2])) rfl ?_
      refine xe_t2 pg_77 22 rfl rfl (by show 7 < (p2).toInt; omega) ?_
      refine xe_sn pg_77 1 (fr' := (23, [(0, .ref 0), (1, .int 2), (2, .int 1), (3, .int p2), (4, .int p3)], [.int 0])) rfl ?_
      apply xe_callqx pg_77 97 [.int 0] 1 rfl (fun _ => rfl)
      · refine xe_sn pg_97 2 (fr' := (4, [(0, .int 0)], [])) rfl ?_
        exact xe_end pg_97 rfl
    refine xe_sn pg_164 1 (fr' := (24, [(0, .ref 0), (1, .int 2), (2, .int 1), (3, .int p2), (4, .int p3), (5, .ref 189)], [.int 2])) rfl ?_
    exact xe_end pg_164 rfl
  refine And.intro ⟨rfl, rfl, rfl, rfl⟩ ?_
  apply And.intro
  · refine xe_sn pg_143 2 (fr' := (2, [(0, .ref 165), (1, .int 2), (2, .int 1), (3, .int p2), (4, .int p3)], [.int 2, .ref 165])) rfl ?_
    apply xe_callq pg_143 104 [.int 2] (.inl (some (.int 1))) (5, [(0, .ref 165), (1, .int 2), (2, .int 1), (3, .int p2), (4, .int p3)], [.int 1, .ref 165]) rfl (fun _ => rfl)
    · refine xe_sn pg_104 3 (fr' := (3, [(0, .int 2)], [.int 3, .int 0, .int 2])) rfl ?_
      apply xe_callq pg_104 103 [.int 2, .int 0, .int 3] (.inl (some (.int 1))) (6, [(0, .int 2)], [.int 1]) rfl (fun _ => rfl)
      · refine xe_sn pg_103 4 (fr' := (6, [(0, .int 2), (1, .int 0), (2, .int 3)], [.int 2])) rfl ?_
        refine xe_sn pg_103 4 (fr' := (15, [(0, .int 2), (1, .int 0), (2, .int 3)], [.int 1])) rfl ?_
        exact xe_end pg_103 rfl
      exact xe_end pg_104 rfl
    refine xe_sn pg_143 4 (fr' := (11, [(0, .ref 165), (1, .int 2), (2, .int 1), (3, .int p2), (4, .int p3)], [.int 3, .int 1, .int 1, .ref 165])) rfl ?_
    apply xe_callq pg_143 103 [.int 1, .int 1, .int 3] (.inl (some (.int 1))) (14, [(0, .ref 165), (1, .int 2), (2, .int 1), (3, .int p2), (4, .int p3)], [.int 1, .ref 165]) rfl (fun _ => rfl)
    · refine xe_sn pg_103 4 (fr' := (6, [(0, .int 1), (1, .int 1), (2, .int 3)], [.int 1])) rfl ?_
      refine xe_sn pg_103 4 (fr' := (15, [(0, .int 1), (1, .int 1), (2, .int 3)], [.int 1])) rfl ?_
      exact xe_end pg_103 rfl
    refine xe_sn pg_143 4 (fr' := (25, [(0, .ref 165), (1, .int 2), (2, .int 1), (3, .int p2), (4, .int p3)], [.int 7, .int 0, .int p2, .ref 165])) rfl ?_
    apply xe_callq pg_143 103 [.int p2, .int 0, .int 7] (.inl (some (.int 0))) (28, [(0, .ref 165), (1, .int 2), (2, .int 1), (3, .int p2), (4, .int p3)], [.int 0, .ref 165]) rfl (fun _ => rfl)
    · refine xe_sn pg_103 2 (fr' := (2, [(0, .int p2), (1, .int 0), (2, .int 7)], [.int 0, .int p2])) rfl ?_
      refine xe_f2 pg_103 14 rfl rfl (by show ¬ ((p2).toInt < 0); omega) ?_
      refine xe_sn pg_103 2 (fr' := (7, [(0, .int p2), (1, .int 0), (2, .int 7)], [.int 7, .int p2])) rfl ?_
      refine xe_t2 pg_103 14 rfl rfl (by show 7 < (p2).toInt; omega) ?_
      refine xe_sn pg_103 1 (fr' := (15, [(0, .int p2), (1, .int 0), (2, .int 7)], [.int 0])) rfl ?_
      exact xe_end pg_103 rfl
    refine xe_sn pg_143 4 (fr' := (51, [(0, .ref 165), (1, .int 2), (2, .int 1), (3, .int p2), (4, .int p3)], [])) rfl ?_
    refine xe_sn pg_143 4 (fr' := (69, [(0, .ref 165), (1, .int 2), (2, .int 1), (3, .int p2), (4, .int p3)], [.int 0])) rfl ?_
    refine xe_sn pg_143 4 (fr' := (76, [(5, .int 0), (0, .ref 165), (1, .int 2), (2, .int 1), (3, .int p2), (4, .int p3)], [.int 2, .ref 165])) rfl ?_
    refine xe_sn pg_143 4 (fr' := (111, [(5, .int 0), (0, .ref 165), (1, .int 2), (2, .int 1), (3, .int p2), (4, .int p3)], [])) rfl ?_
    refine xe_sn pg_143 4 (fr' := (119, [(5, .int 0), (0, .ref 165), (1, .int 2), (2, .int 1), (3, .int p2), (4, .int p3)], [.int 0])) rfl ?_
    exact xe_end pg_143 rfl
  · exact ⟨⟨rfl, rfl, rfl, rfl⟩, Nat.le_of_ble_eq_true rfl, Nat.le_of_ble_eq_true rfl, rfl, fun q => absurd q (by decide)⟩

set_option maxRecDepth 100000 in
theorem lf_send_40 (xs : Nat → Int32) (p2 : Int32) (p3 : Int32) (a2 : 0 ≤ p2.toInt) (b2 : p2.toInt ≤ 7) (a3 : p3.toInt < 0) : op_ok xs 164 143 [.ref 0, .int 2, .int 1, .int p2, .int p3, .ref 189] [.ref 165, .int 2, .int 1, .int p2, .int p3] := by
  refine ⟨2, 0, ?_⟩
  apply Exists.intro
  apply Exists.intro
  apply And.intro
  · refine xe_sn pg_164 4 (fr' := (5, [(0, .ref 0), (1, .int 2), (2, .int 1), (3, .int p2), (4, .int p3), (5, .ref 189)], [.int 2, .ref 0, .int 0, .ref 189])) rfl ?_
    refine xe_sn pg_164 3 (fr' := (9, [(0, .ref 0), (1, .int 2), (2, .int 1), (3, .int p2), (4, .int p3), (5, .ref 189)], [.int p3, .int p2, .int 1, .int 2, .ref 0, .int 0, .ref 189])) rfl ?_
    apply xe_callq pg_164 77 [.ref 0, .int 2, .int 1, .int p2, .int p3] (.inr 1) (23, [(0, .ref 0), (1, .int 2), (2, .int 1), (3, .int p2), (4, .int p3), (5, .ref 189)], []) rfl (fun _ => rfl)
    · refine xe_sn pg_77 1 (fr' := (1, [(0, .ref 0), (1, .int 2), (2, .int 1), (3, .int p2), (4, .int p3)], [.int 2])) rfl ?_
      apply xe_callq pg_77 92 [.int 2] (.inl none) (4, [(0, .ref 0), (1, .int 2), (2, .int 1), (3, .int p2), (4, .int p3)], []) rfl (fun _ => rfl)
      · refine xe_sn pg_92 2 (fr' := (2, [(0, .int 2)], [.int 4, .int 2])) rfl ?_
        apply xe_callq pg_92 95 [.int 2, .int 4] (.inl none) (5, [(0, .int 2)], []) rfl (fun _ => rfl)
        · refine xe_sn pg_95 4 (fr' := (6, [(0, .int 2), (1, .int 4)], [.int 4, .int 2])) rfl ?_
          refine xe_sn pg_95 1 (fr' := (17, [(0, .int 2), (1, .int 4)], [])) rfl ?_
          exact xe_end pg_95 rfl
        exact xe_end pg_92 rfl
      refine xe_sn pg_77 1 (fr' := (5, [(0, .ref 0), (1, .int 2), (2, .int 1), (3, .int p2), (4, .int p3)], [.int 1])) rfl ?_
      apply xe_callq pg_77 94 [.int 1] (.inl none) (8, [(0, .ref 0), (1, .int 2), (2, .int 1), (3, .int p2), (4, .int p3)], []) rfl (fun _ => rfl)
      · refine xe_sn pg_94 1 (fr' := (1, [(0, .int 1)], [.int 1])) rfl ?_
        apply xe_callq pg_94 100 [.int 1] (.inl (some (.int 1))) (4, [(0, .int 1)], [.int 1]) rfl (fun _ => rfl)
        · refine xe_sn pg_100 4 (fr' := (6, [(0, .int 1)], [.int 1])) rfl ?_
          refine xe_sn pg_100 4 (fr' := (15, [(0, .int 1)], [.int 1])) rfl ?_
          exact xe_end pg_100 rfl
        refine xe_sn pg_94 1 (fr' := (15, [(0, .int 1)], [])) rfl ?_
        exact xe_end pg_94 rfl
      refine xe_sn pg_77 1 (fr' := (9, [(0, .ref 0), (1, .int 2), (2, .int 1), (3, .int p2), (4, .int p3)], [.int p2])) rfl ?_
      refine xe_f1 pg_77 22 rfl rfl (by show ¬ ((p2).toInt < 0); omega) ?_
      refine xe_sn pg_77 2 (fr' := (15, [(0, .ref 0), (1, .int 2), (2, .int 1), (3, .int p2), (4, .int p3)], [.int 7, .int p2])) rfl ?_
      refine xe_f2 pg_77 22 rfl rfl (by show ¬ (7 < (p2).toInt); omega) ?_
      refine xe_sn pg_77 2 (fr' := (23, [(0, .ref 0), (1, .int 2), (2, .int 1), (3, .int p2), (4, .int p3)], [.int 1])) rfl ?_
      apply xe_callq pg_77 97 [.int 1] (.inl none) (26, [(0, .ref 0), (1, .int 2), (2, .int 1), (3, .int p2), (4, .int p3)], []) rfl (fun _ => rfl)
      · refine xe_sn pg_97 2 (fr' := (12, [(0, .int 1)], [])) rfl ?_
        exact xe_end pg_97 rfl
      refine xe_sn pg_77 1 (fr' := (28, [(0, .ref 0), (1, .int 2), (2, .int 1), (3, .int p2), (4, .int p3)], [.int p3])) rfl ?_
      apply xe_callq pg_77 99 [.int p3] (.inl (some (.int 0))) (31, [(0, .ref 0), (1, .int 2), (2, .int 1), (3, .int p2), (4, .int p3)], [.int 0]) rfl (fun _ => rfl)
      · refine xe_sn pg_99 1 (fr' := (1, [(0, .int p3)], [.int p3])) rfl ?_
        refine xe_t1 pg_99 15 rfl rfl (by show (p3).toInt < 0; omega) ?_
        refine xe_sn pg_99 1 (fr' := (16, [(0, .int p3)], [.int 0])) rfl ?_
        exact xe_end pg_99 rfl
      apply xe_callqx pg_77 97 [.int 0] 1 rfl (fun _ => rfl)
      · refine xe_sn pg_97 2 (fr' := (4, [(0, .int 0)], [])) rfl ?_
        exact xe_end pg_97 rfl
    refine xe_sn pg_164 1 (fr' := (24, [(0, .ref 0), (1, .int 2), (2, .int 1), (3, .int p2), (4, .int p3), (5, .ref 189)], [.int 2])) rfl ?_
    exact xe_end pg_164 rfl
  refine And.intro ⟨rfl, rfl, rfl, rfl⟩ ?_
  apply And.intro
  · refine xe_sn pg_143 2 (fr' := (2, [(0, .ref 165), (1, .int 2), (2, .int 1), (3, .int p2), (4, .int p3)], [.int 2, .ref 165])) rfl ?_
    apply xe_callq pg_143 104 [.int 2] (.inl (some (.int 1))) (5, [(0, .ref 165), (1, .int 2), (2, .int 1), (3, .int p2), (4, .int p3)], [.int 1, .ref 165]) rfl (fun _ => rfl)
    · refine xe_sn pg_104 3 (fr' := (3, [(0, .int 2)], [.int 3, .int 0, .int 2])) rfl ?_
      apply xe_callq pg_104 103 [.int 2, .int 0, .int 3] (.inl (some (.int 1))) (6, [(0, .int 2)], [.int 1]) rfl (fun _ => rfl)
      · refine xe_sn pg_103 4 (fr' := (6, [(0, .int 2), (1, .int 0), (2, .int 3)], [.int 2])) rfl ?_
        refine xe_sn pg_103 4 (fr' := (15, [(0, .int 2), (1, .int 0), (2, .int 3)], [.int 1])) rfl ?_
        exact xe_end pg_103 rfl
      exact xe_end pg_104 rfl
    refine xe_sn pg_143 4 (fr' := (11, [(0, .ref 165), (1, .int 2), (2, .int 1), (3, .int p2), (4, .int p3)], [.int 3, .int 1, .int 1, .ref 165])) rfl ?_
    apply xe_callq pg_143 103 [.int 1, .int 1, .int 3] (.inl (some (.int 1))) (14, [(0, .ref 165), (1, .int 2), (2, .int 1), (3, .int p2), (4, .int p3)], [.int 1, .ref 165]) rfl (fun _ => rfl)
    · refine xe_sn pg_103 4 (fr' := (6, [(0, .int 1), (1, .int 1), (2, .int 3)], [.int 1])) rfl ?_
      refine xe_sn pg_103 4 (fr' := (15, [(0, .int 1), (1, .int 1), (2, .int 3)], [.int 1])) rfl ?_
      exact xe_end pg_103 rfl
    refine xe_sn pg_143 4 (fr' := (25, [(0, .ref 165), (1, .int 2), (2, .int 1), (3, .int p2), (4, .int p3)], [.int 7, .int 0, .int p2, .ref 165])) rfl ?_
    apply xe_callq pg_143 103 [.int p2, .int 0, .int 7] (.inl (some (.int 1))) (28, [(0, .ref 165), (1, .int 2), (2, .int 1), (3, .int p2), (4, .int p3)], [.int 1, .ref 165]) rfl (fun _ => rfl)
    · refine xe_sn pg_103 2 (fr' := (2, [(0, .int p2), (1, .int 0), (2, .int 7)], [.int 0, .int p2])) rfl ?_
      refine xe_f2 pg_103 14 rfl rfl (by show ¬ ((p2).toInt < 0); omega) ?_
      refine xe_sn pg_103 2 (fr' := (7, [(0, .int p2), (1, .int 0), (2, .int 7)], [.int 7, .int p2])) rfl ?_
      refine xe_f2 pg_103 14 rfl rfl (by show ¬ (7 < (p2).toInt); omega) ?_
      refine xe_sn pg_103 2 (fr' := (15, [(0, .int p2), (1, .int 0), (2, .int 7)], [.int 1])) rfl ?_
      exact xe_end pg_103 rfl
    refine xe_sn pg_143 4 (fr' := (37, [(0, .ref 165), (1, .int 2), (2, .int 1), (3, .int p2), (4, .int p3)], [.int 255, .int 0, .int p3, .ref 165])) rfl ?_
    apply xe_callq pg_143 103 [.int p3, .int 0, .int 255] (.inl (some (.int 0))) (40, [(0, .ref 165), (1, .int 2), (2, .int 1), (3, .int p2), (4, .int p3)], [.int 0, .ref 165]) rfl (fun _ => rfl)
    · refine xe_sn pg_103 2 (fr' := (2, [(0, .int p3), (1, .int 0), (2, .int 255)], [.int 0, .int p3])) rfl ?_
      refine xe_t2 pg_103 14 rfl rfl (by show (p3).toInt < 0; omega) ?_
      refine xe_sn pg_103 1 (fr' := (15, [(0, .int p3), (1, .int 0), (2, .int 255)], [.int 0])) rfl ?_
      exact xe_end pg_103 rfl
    refine xe_sn pg_143 4 (fr' := (51, [(0, .ref 165), (1, .int 2), (2, .int 1), (3, .int p2), (4, .int p3)], [])) rfl ?_
    refine xe_sn pg_143 4 (fr' := (69, [(0, .ref 165), (1, .int 2), (2, .int 1), (3, .int p2), (4, .int p3)], [.int 0])) rfl ?_
    refine xe_sn pg_143 4 (fr' := (76, [(5, .int 0), (0, .ref 165), (1, .int 2), (2, .int 1), (3, .int p2), (4, .int p3)], [.int 2, .ref 165])) rfl ?_
    refine xe_sn pg_143 4 (fr' := (111, [(5, .int 0), (0, .ref 165), (1, .int 2), (2, .int 1), (3, .int p2), (4, .int p3)], [])) rfl ?_
    refine xe_sn pg_143 4 (fr' := (119, [(5, .int 0), (0, .ref 165), (1, .int 2), (2, .int 1), (3, .int p2), (4, .int p3)], [.int 0])) rfl ?_
    exact xe_end pg_143 rfl
  · exact ⟨⟨rfl, rfl, rfl, rfl⟩, Nat.le_of_ble_eq_true rfl, Nat.le_of_ble_eq_true rfl, rfl, fun q => absurd q (by decide)⟩

set_option maxRecDepth 100000 in
theorem lf_send_41 (xs : Nat → Int32) (p2 : Int32) (p3 : Int32) (a2 : 0 ≤ p2.toInt) (b2 : p2.toInt ≤ 7) (b3 : 255 < p3.toInt) : op_ok xs 164 143 [.ref 0, .int 2, .int 1, .int p2, .int p3, .ref 189] [.ref 165, .int 2, .int 1, .int p2, .int p3] := by
  refine ⟨2, 0, ?_⟩
  apply Exists.intro
  apply Exists.intro
  apply And.intro
  · refine xe_sn pg_164 4 (fr' := (5, [(0, .ref 0), (1, .int 2), (2, .int 1), (3, .int p2), (4, .int p3), (5, .ref 189)], [.int 2, .ref 0, .int 0, .ref 189])) rfl ?_
    refine xe_sn pg_164 3 (fr' := (9, [(0, .ref 0), (1, .int 2), (2, .int 1), (3, .int p2), (4, .int p3), (5, .ref 189)], [.int p3, .int p2, .int 1, .int 2, .ref 0, .int 0, .ref 189])) rfl ?_
    apply xe_callq pg_164 77 [.ref 0, .int 2, .int 1, .int p2, .int p3] (.inr 1) (23, [(0, .ref 0), (1, .int 2), (2, .int 1), (3, .int p2), (4, .int p3), (5, .ref 189)], []) rfl (fun _ => rfl)
    · refine xe_sn pg_77 1 (fr' := (1, [(0, .ref 0), (1, .int 2), (2, .int 1), (3, .int p2), (4, .int p3)], [.int 2])) rfl ?_
      apply xe_callq pg_77 92 [.int 2] (.inl none) (4, [(0, .ref 0), (1, .int 2), (2, .int 1), (3, .int p2), (4, .int p3)], []) rfl (fun _ => rfl)
      · refine xe_sn pg_92 2 (fr' := (2, [(0, .int 2)], [.int 4, .int 2])) rfl ?_
        apply xe_callq pg_92 95 [.int 2, .int 4] (.inl none) (5, [(0, .int 2)], []) rfl (fun _ => rfl)
        · refine xe_sn pg_95 4 (fr' := (6, [(0, .int 2), (1, .int 4)], [.int 4, .int 2])) rfl ?_
          refine xe_sn pg_95 1 (fr' := (17, [(0, .int 2), (1, .int 4)], [])) rfl ?_
          exact xe_end pg_95 rfl
        exact xe_end pg_92 rfl
      refine xe_sn pg_77 1 (fr' := (5, [(0, .ref 0), (1, .int 2), (2, .int 1), (3, .int p2), (4, .int p3)], [.int 1])) rfl ?_
      apply xe_callq pg_77 94 [.int 1] (.inl none) (8, [(0, .ref 0), (1, .int 2), (2, .int 1), (3, .int p2), (4, .int p3)], []) rfl (fun _ => rfl)
      · refine xe_sn pg_94 1 (fr' := (1, [(0, .int 1)], [.int 1])) rfl ?_
        apply xe_callq pg_94 100 [.int 1] (.inl (some (.int 1))) (4, [(0, .int 1)], [.int 1]) rfl (fun _ => rfl)
        · refine xe_sn pg_100 4 (fr' := (6, [(0, .int 1)], [.int 1])) rfl ?_
          refine xe_sn pg_100 4 (fr' := (15, [(0, .int 1)], [.int 1])) rfl ?_
          exact xe_end pg_100 rfl
        refine xe_sn pg_94 1 (fr' := (15, [(0, .int 1)], [])) rfl ?_
        exact xe_end pg_94 rfl
      refine xe_sn pg_77 1 (fr' := (9, [(0, .ref 0), (1, .int 2), (2, .int 1), (3, .int p2), (4, .int p3)], [.int p2])) rfl ?_
      refine xe_f1 pg_77 22 rfl rfl (by show ¬ ((p2).toInt < 0); omega) ?_
      refine xe_sn pg_77 2 (fr' := (15, [(0, .ref 0), (1, .int 2), (2, .int 1), (3, .int p2), (4, .int p3)], [.int 7, .int p2])) rfl ?_
      refine xe_f2 pg_77 22 rfl rfl (by show ¬ (7 < (p2).toInt); omega) ?_
      refine xe_sn pg_77 2 (fr' := (23, [(0, .ref 0), (1, .int 2), (2, .int 1), (3, .int p2), (4, .int p3)], [.int 1])) rfl ?_
      apply xe_callq pg_77 97 [.int 1] (.inl none) (26, [(0, .ref 0), (1, .int 2), (2, .int 1), (3, .int p2), (4, .int p3)], []) rfl (fun _ => rfl)
      · refine xe_sn pg_97 2 (fr' := (12, [(0, .int 1)], [])) rfl ?_
        exact xe_end pg_97 rfl
      refine xe_sn pg_77 1 (fr' := (28, [(0, .ref 0), (1, .int 2), (2, .int 1), (3, .int p2), (4, .int p3)], [.int p3])) rfl ?_
      apply xe_callq pg_77 99 [.int p3] (.inl (some (.int 0))) (31, [(0, .ref 0), (1, .int 2), (2, .int 1), (3, .int p2), (4, .int p3)], [.int 0]) rfl (fun _ => rfl)
      · refine xe_sn pg_99 1 (fr' := (1, [(0, .int p3)], [.int p3])) rfl ?_
        refine xe_f1 pg_99 15 rfl rfl (by show ¬ ((p3).toInt < 0); omega) ?_
        refine xe_sn pg_99 2 (fr' := (8, [(0, .int p3)], [.int 255, .int p3])) rfl ?_
        refine xe_t2 pg_99 15 rfl rfl (by show 255 < (p3).toInt; omega) ?_
        refine xe_sn pg_99 1 (fr' := (16, [(0, .int p3)], [.int 0])) rfl ?_
        exact xe_end pg_99 rfl
      apply xe_callqx pg_77 97 [.int 0] 1 rfl (fun _ => rfl)
      · refine xe_sn pg_97 2 (fr' := (4, [(0, .int 0)], [])) rfl ?_
        exact xe_end pg_97 rfl
    refine xe_sn pg_164 1 (fr' := (24, [(0, .ref 0), (1, .int 2), (2, .int 1), (3, .int p2), (4, .int p3), (5, .ref 189)], [.int 2])) rfl ?_
    exact xe_end pg_164 rfl
  refine And.intro ⟨rfl, rfl, rfl, rfl⟩ ?_
  apply And.intro
  · refine xe_sn pg_143 2 (fr' := (2, [(0, .ref 165), (1, .int 2), (2, .int 1), (3, .int p2), (4, .int p3)], [.int 2, .ref 165])) rfl ?_
    apply xe_callq pg_143 104 [.int 2] (.inl (some (.int 1))) (5, [(0, .ref 165), (1, .int 2), (2, .int 1), (3, .int p2), (4, .int p3)], [.int 1, .ref 165]) rfl (fun _ => rfl)
    · refine xe_sn pg_104 3 (fr' := (3, [(0, .int 2)], [.int 3, .int 0, .int 2])) rfl ?_
      apply xe_callq pg_104 103 [.int 2, .int 0, .int 3] (.inl (some (.int 1))) (6, [(0, .int 2)], [.int 1]) rfl (fun _ => rfl)
      · refine xe_sn pg_103 4 (fr' := (6, [(0, .int 2), (1, .int 0), (2, .int 3)], [.int 2])) rfl ?_
        refine xe_sn pg_103 4 (fr' := (15, [(0, .int 2), (1, .int 0), (2, .int 3)], [.int 1])) rfl ?_
        exact xe_end pg_103 rfl
      exact xe_end pg_104 rfl
    refine xe_sn pg_143 4 (fr' := (11, [(0, .ref 165), (1, .int 2), (2, .int 1), (3, .int p2), (4, .int p3)], [.int 3, .int 1, .int 1, .ref 165])) rfl ?_
    apply xe_callq pg_143 103 [.int 1, .int 1, .int 3] (.inl (some (.int 1))) (14, [(0, .ref 165), (1, .int 2), (2, .int 1), (3, .int p2), (4, .int p3)], [.int 1, .ref 165]) rfl (fun _ => rfl)
    · refine xe_sn pg_103 4 (fr' := (6, [(0, .int 1), (1, .int 1), (2, .int 3)], [.int 1])) rfl ?_
      refine xe_sn pg_103 4 (fr' := (15, [(0, .int 1), (1, .int 1), (2, .int 3)], [.int 1])) rfl ?_
      exact xe_end pg_103 rfl
    refine xe_sn pg_143 4 (fr' := (25, [(0, .ref 165), (1, .int 2), (2, .int 1), (3, .int p2), (4, .int p3)], [.int 7, .int 0, .int p2, .ref 165])) rfl ?_
    apply xe_callq pg_143 103 [.int p2, .int 0, .int 7] (.inl (some (.int 1))) (28, [(0, .ref 165), (1, .int 2), (2, .int 1), (3, .int p2), (4, .int p3)], [.int 1, .ref 165]) rfl (fun _ => rfl)
    · refine xe_sn pg_103 2 (fr' := (2, [(0, .int p2), (1, .int 0), (2, .int 7)], [.int 0, .int p2])) rfl ?_
      refine xe_f2 pg_103 14 rfl rfl (by show ¬ ((p2).toInt < 0); omega) ?_
      refine xe_sn pg_103 2 (fr' := (7, [(0, .int p2), (1, .int 0), (2, .int 7)], [.int 7, .int p2])) rfl ?_
      refine xe_f2 pg_103 14 rfl rfl (by show ¬ (7 < (p2).toInt); omega) ?_
      refine xe_sn pg_103 2 (fr' := (15, [(0, .int p2), (1, .int 0), (2, .int 7)], [.int 1])) rfl ?_
      exact xe_end pg_103 rfl
    refine xe_sn pg_143 4 (fr' := (37, [(0, .ref 165), (1, .int 2), (2, .int 1), (3, .int p2), (4, .int p3)], [.int 255, .int 0, .int p3, .ref 165])) rfl ?_
    apply xe_callq pg_143 103 [.int p3, .int 0, .int 255] (.inl (some (.int 0))) (40, [(0, .ref 165), (1, .int 2), (2, .int 1), (3, .int p2), (4, .int p3)], [.int 0, .ref 165]) rfl (fun _ => rfl)
    · refine xe_sn pg_103 2 (fr' := (2, [(0, .int p3), (1, .int 0), (2, .int 255)], [.int 0, .int p3])) rfl ?_
      refine xe_f2 pg_103 14 rfl rfl (by show ¬ ((p3).toInt < 0); omega) ?_
      refine xe_sn pg_103 2 (fr' := (7, [(0, .int p3), (1, .int 0), (2, .int 255)], [.int 255, .int p3])) rfl ?_
      refine xe_t2 pg_103 14 rfl rfl (by show 255 < (p3).toInt; omega) ?_
      refine xe_sn pg_103 1 (fr' := (15, [(0, .int p3), (1, .int 0), (2, .int 255)], [.int 0])) rfl ?_
      exact xe_end pg_103 rfl
    refine xe_sn pg_143 4 (fr' := (51, [(0, .ref 165), (1, .int 2), (2, .int 1), (3, .int p2), (4, .int p3)], [])) rfl ?_
    refine xe_sn pg_143 4 (fr' := (69, [(0, .ref 165), (1, .int 2), (2, .int 1), (3, .int p2), (4, .int p3)], [.int 0])) rfl ?_
    refine xe_sn pg_143 4 (fr' := (76, [(5, .int 0), (0, .ref 165), (1, .int 2), (2, .int 1), (3, .int p2), (4, .int p3)], [.int 2, .ref 165])) rfl ?_
    refine xe_sn pg_143 4 (fr' := (111, [(5, .int 0), (0, .ref 165), (1, .int 2), (2, .int 1), (3, .int p2), (4, .int p3)], [])) rfl ?_
    refine xe_sn pg_143 4 (fr' := (119, [(5, .int 0), (0, .ref 165), (1, .int 2), (2, .int 1), (3, .int p2), (4, .int p3)], [.int 0])) rfl ?_
    exact xe_end pg_143 rfl
  · exact ⟨⟨rfl, rfl, rfl, rfl⟩, Nat.le_of_ble_eq_true rfl, Nat.le_of_ble_eq_true rfl, rfl, fun q => absurd q (by decide)⟩

set_option maxRecDepth 100000 in
theorem lf_send_42 (xs : Nat → Int32) (p2 : Int32) (p3 : Int32) (a2 : 0 ≤ p2.toInt) (b2 : p2.toInt ≤ 7) (a3 : 0 ≤ p3.toInt) (b3 : p3.toInt ≤ 255) : op_ok xs 164 143 [.ref 0, .int 2, .int 1, .int p2, .int p3, .ref 189] [.ref 165, .int 2, .int 1, .int p2, .int p3] := by
  refine ⟨3, 0, ?_⟩
  apply Exists.intro
  apply Exists.intro
  apply And.intro
  · refine xe_sn pg_164 4 (fr' := (5, [(0, .ref 0), (1, .int 2), (2, .int 1), (3, .int p2), (4, .int p3), (5, .ref 189)], [.int 2, .ref 0, .int 0, .ref 189])) rfl ?_
    refine xe_sn pg_164 3 (fr' := (9, [(0, .ref 0), (1, .int 2), (2, .int 1), (3, .int p2), (4, .int p3), (5, .ref 189)], [.int p3, .int p2, .int 1, .int 2, .ref 0, .int 0, .ref 189])) rfl ?_
    apply xe_callq pg_164 77 [.ref 0, .int 2, .int 1, .int p2, .int p3] (.inr 2) (27, [(0, .ref 0), (1, .int 2), (2, .int 1), (3, .int p2), (4, .int p3), (5, .ref 189)], []) rfl (fun _ => rfl)
    · refine xe_sn pg_77 1 (fr' := (1, [(0, .ref 0), (1, .int 2), (2, .int 1), (3, .int p2), (4, .int p3)], [.int 2])) rfl ?_
      apply xe_callq pg_77 92 [.int 2] (.inl none) (4, [(0, .ref 0), (1, .int 2), (2, .int 1), (3, .int p2), (4, .int p3)], []) rfl (fun _ => rfl)
      · refine xe_sn pg_92 2 (fr' := (2, [(0, .int 2)], [.int 4, .int 2])) rfl ?_
        apply xe_callq pg_92 95 [.int 2, .int 4] (.inl none) (5, [(0, .int 2)], []) rfl (fun _ => rfl)
        · refine xe_sn pg_95 4 (fr' := (6, [(0, .int 2), (1, .int 4)], [.int 4, .int 2])) rfl ?_
          refine xe_sn pg_95 1 (fr' := (17, [(0, .int 2), (1, .int 4)], [])) rfl ?_
          exact xe_end pg_95 rfl
        exact xe_end pg_92 rfl
      refine xe_sn pg_77 1 (fr' := (5, [(0, .ref 0), (1, .int 2), (2, .int 1), (3, .int p2), (4, .int p3)], [.int 1])) rfl ?_
      apply xe_callq pg_77 94 [.int 1] (.inl none) (8, [(0, .ref 0), (1, .int 2), (2, .int 1), (3, .int p2), (4, .int p3)], []) rfl (fun _ => rfl)
      · refine xe_sn pg_94 1 (fr' := (1, [(0, .int 1)], [.int 1])) rfl ?_
        apply xe_callq pg_94 100 [.int 1] (.inl (some (.int 1))) (4, [(0, .int 1)], [.int 1]) rfl (fun _ => rfl)
        · refine xe_sn pg_100 4 (fr' := (6, [(0, .int 1)], [.int 1])) rfl ?_
          refine xe_sn pg_100 4 (fr' := (15, [(0, .int 1)], [.int 1])) rfl ?_
          exact xe_end pg_100 rfl
        refine xe_sn pg_94 1 (fr' := (15, [(0, .int 1)], [])) rfl ?_
        exact xe_end pg_94 rfl
      refine xe_sn pg_77 1 (fr' := (9, [(0, .ref 0), (1, .int 2), (2, .int 1), (3, .int p2), (4, .int p3)], [.int p2])) rfl ?_
      refine xe_f1 pg_77 22 rfl rfl (by show ¬ ((p2).toInt < 0); omega) ?_
      refine xe_sn pg_77 2 (fr' := (15, [(0, .ref 0), (1, .int 2), (2, .int 1), (3, .int p2), (4, .int p3)], [.int 7, .int p2])) rfl ?_
      refine xe_f2 pg_77 22 rfl rfl (by show ¬ (7 < (p2).toInt); omega) ?_
      refine xe_sn pg_77 2 (fr' := (23, [(0, .ref 0), (1, .int 2), (2, .int 1), (3, .int p2), (4, .int p3)], [.int 1])) rfl ?_
      apply xe_callq pg_77 97 [.int 1] (.inl none) (26, [(0, .ref 0), (1, .int 2), (2, .int 1), (3, .int p2), (4, .int p3)], []) rfl (fun _ => rfl)
      · refine xe_sn pg_97 2 (fr' := (12, [(0, .int 1)], [])) rfl ?_
        exact xe_end pg_97 rfl
      refine xe_sn pg_77 1 (fr' := (28, [(0, .ref 0), (1, .int 2), (2, .int 1), (3, .int p2), (4, .int p3)], [.int p3])) rfl ?_
      apply xe_callq pg_77 99 [.int p3] (.inl (some (.int 1))) (31, [(0, .ref 0), (1, .int 2), (2, .int 1), (3, .int p2), (4, .int p3)], [.int 1]) rfl (fun _ => rfl)
      · refine xe_sn pg_99 1 (fr' := (1, [(0, .int p3)], [.int p3])) rfl ?_
        refine xe_f1 pg_99 15 rfl rfl (by show ¬ ((p3).toInt < 0); omega) ?_
        refine xe_sn pg_99 2 (fr' := (8, [(0, .int p3)], [.int 255, .int p3])) rfl ?_
        refine xe_f2 pg_99 15 rfl rfl (by show ¬ (255 < (p3).toInt); omega) ?_
        refine xe_sn pg_99 2 (fr' := (16, [(0, .int p3)], [.int 1])) rfl ?_
        exact xe_end pg_99 rfl
      apply xe_callq pg_77 97 [.int 1] (.inl none) (34, [(0, .ref 0), (1, .int 2), (2, .int 1), (3, .int p2), (4, .int p3)], []) rfl (fun _ => rfl)
      · refine xe_sn pg_97 2 (fr' := (12, [(0, .int 1)], [])) rfl ?_
        exact xe_end pg_97 rfl
      refine xe_sn pg_77 4 (fr' := (40, [(0, .ref 0), (1, .int 2), (2, .int 1), (3, .int p2), (4, .int p3)], [.ref 143])) rfl ?_
      refine xe_sn pg_77 4 (fr' := (46, [(0, .ref 0), (1, .int 2), (2, .int 1), (3, .int p2), (4, .int p3)], [.int 0, .ref 149])) rfl ?_
      refine xe_sn pg_77 4 (fr' := (54, [(5, .ref 151), (0, .ref 0), (1, .int 2), (2, .int 1), (3, .int p2), (4, .int p3)], [.int 0])) rfl ?_
      refine xe_sn pg_77 3 (fr' := (71, [(5, .ref 151), (0, .ref 0), (1, .int 2), (2, .int 1), (3, .int p2), (4, .int p3)], [.int 0])) rfl ?_
      apply xe_callqx pg_77 98 [.int 0] 2 rfl (fun _ => rfl)
      · refine xe_sn pg_98 2 (fr' := (4, [(0, .int 0)], [])) rfl ?_
        exact xe_end pg_98 rfl
    refine xe_sn pg_164 1 (fr' := (28, [(0, .ref 0), (1, .int 2), (2, .int 1), (3, .int p2), (4, .int p3), (5, .ref 189)], [.int 3])) rfl ?_
    exact xe_end pg_164 rfl
  refine And.intro ⟨rfl, rfl, rfl, rfl⟩ ?_
  apply And.intro
  · refine xe_sn pg_143 2 (fr' := (2, [(0, .ref 165), (1, .int 2), (2, .int 1), (3, .int p2), (4, .int p3)], [.int 2, .ref 165])) rfl ?_
    apply xe_callq pg_143 104 [.int 2] (.inl (some (.int 1))) (5, [(0, .ref 165), (1, .int 2), (2, .int 1), (3, .int p2), (4, .int p3)], [.int 1, .ref 165]) rfl (fun _ => rfl)
    · refine xe_sn pg_104 3 (fr' := (3, [(0, .int 2)], [.int 3, .int 0, .int 2])) rfl ?_
      apply xe_callq pg_104 103 [.int 2, .int 0, .int 3] (.inl (some (.int 1))) (6, [(0, .int 2)], [.int 1]) rfl (fun _ => rfl)
      · refine xe_sn pg_103 4 (fr' := (6, [(0, .int 2), (1, .int 0), (2, .int 3)], [.int 2])) rfl ?_
        refine xe_sn pg_103 4 (fr' := (15, [(0, .int 2), (1, .int 0), (2, .int 3)], [.int 1])) rfl ?_
        exact xe_end pg_103 rfl
      exact xe_end pg_104 rfl
    refine xe_sn pg_143 4 (fr' := (11, [(0, .ref 165), (1, .int 2), (2, .int 1), (3, .int p2), (4, .int p3)], [.int 3, .int 1, .int 1, .ref 165])) rfl ?_
    apply xe_callq pg_143 103 [.int 1, .int 1, .int 3] (.inl (some (.int 1))) (14, [(0, .ref 165), (1, .int 2), (2, .int 1), (3, .int p2), (4, .int p3)], [.int 1, .ref 165]) rfl (fun _ => rfl)
    · refine xe_sn pg_103 4 (fr' := (6, [(0, .int 1), (1, .int 1), (2, .int 3)], [.int 1])) rfl ?_
      refine xe_sn pg_103 4 (fr' := (15, [(0, .int 1), (1, .int 1), (2, .int 3)], [.int 1])) rfl ?_
      exact xe_end pg_103 rfl
    refine xe_sn pg_143 4 (fr' := (25, [(0, .ref 165), (1, .int 2), (2, .int 1), (3, .int p2), (4, .int p3)], [.int 7, .int 0, .int p2, .ref 165])) rfl ?_
    apply xe_callq pg_143 103 [.int p2, .int 0, .int 7] (.inl (some (.int 1))) (28, [(0, .ref 165), (1, .int 2), (2, .int 1), (3, .int p2), (4, .int p3)], [.int 1, .ref 165]) rfl (fun _ => rfl)
    · refine xe_sn pg_103 2 (fr' := (2, [(0, .int p2), (1, .int 0), (2, .int 7)], [.int 0, .int p2])) rfl ?_
      refine xe_f2 pg_103 14 rfl rfl (by show ¬ ((p2).toInt < 0); omega) ?_
      refine xe_sn pg_103 2 (fr' := (7, [(0, .int p2), (1, .int 0), (2, .int 7)], [.int 7, .int p2])) rfl ?_
      refine xe_f2 pg_103 14 rfl rfl (by show ¬ (7 < (p2).toInt); omega) ?_
      refine xe_sn pg_103 2 (fr' := (15, [(0, .int p2), (1, .int 0), (2, .int 7)], [.int 1])) rfl ?_
      exact xe_end pg_103 rfl
    refine xe_sn pg_143 4 (fr' := (37, [(0, .ref 165), (1, .int 2), (2, .int 1), (3, .int p2), (4, .int p3)], [.int 255, .int 0, .int p3, .ref 165])) rfl ?_
    apply xe_callq pg_143 103 [.int p3, .int 0, .int 255] (.inl (some (.int 1))) (40, [(0, .ref 165), (1, .int 2), (2, .int 1), (3, .int p2), (4, .int p3)], [.int 1, .ref 165]) rfl (fun _ => rfl)
    · refine xe_sn pg_103 2 (fr' := (2, [(0, .int p3), (1, .int 0), (2, .int 255)], [.int 0, .int p3])) rfl ?_
      refine xe_f2 pg_103 14 rfl rfl (by show ¬ ((p3).toInt < 0); omega) ?_
      refine xe_sn pg_103 2 (fr' := (7, [(0, .int p3), (1, .int 0), (2, .int 255)], [.int 255, .int p3])) rfl ?_
      refine xe_f2 pg_103 14 rfl rfl (by show ¬ (255 < (p3).toInt); omega) ?_
      refine xe_sn pg_103 2 (fr' := (15, [(0, .int p3), (1, .int 0), (2, .int 255)], [.int 1])) rfl ?_
      exact xe_end pg_103 rfl
    refine xe_sn pg_143 4 (fr' := (52, [(0, .ref 165), (1, .int 2), (2, .int 1), (3, .int p2), (4, .int p3)], [.ref 165])) rfl ?_
    refine xe_sn pg_143 4 (fr' := (60, [(0, .ref 165), (1, .int 2), (2, .int 1), (3, .int p2), (4, .int p3)], [.int 2, .int 3])) rfl ?_
    refine xe_sn pg_143 4 (fr' := (64, [(0, .ref 165), (1, .int 2), (2, .int 1), (3, .int p2), (4, .int p3)], [.int 1, .int 7])) rfl ?_
    refine xe_sn pg_143 4 (fr' := (72, [(5, .int 6), (0, .ref 165), (1, .int 2), (2, .int 1), (3, .int p2), (4, .int p3)], [.ref 165])) rfl ?_
    refine xe_sn pg_143 4 (fr' := (80, [(5, .int 6), (0, .ref 165), (1, .int 2), (2, .int 1), (3, .int p2), (4, .int p3)], [.ref 165, .ref 165])) rfl ?_
    refine xe_sn pg_143 4 (fr' := (87, [(5, .int 6), (0, .ref 165), (1, .int 2), (2, .int 1), (3, .int p2), (4, .int p3)], [.int 2, .int 0, .ref 165])) rfl ?_
    refine xe_sn pg_143 4 (fr' := (111, [(5, .int 6), (0, .ref 165), (1, .int 2), (2, .int 1), (3, .int p2), (4, .int p3)], [])) rfl ?_
    refine xe_sn pg_143 4 (fr' := (119, [(5, .int 6), (0, .ref 165), (1, .int 2), (2, .int 1), (3, .int p2), (4, .int p3)], [.int 0])) rfl ?_
    exact xe_end pg_143 rfl
  · exact ⟨⟨rfl, rfl, rfl, rfl⟩, Nat.le_of_ble_eq_true rfl, Nat.le_of_ble_eq_true rfl, rfl, fun q => absurd q (by decide)⟩

set_option maxRecDepth 100000 in
theorem lf_send_43 (xs : Nat → Int32) (p2 : Int32) (p3 : Int32) (a2 : p2.toInt < 0) : op_ok xs 164 143 [.ref 0, .int 2, .int 2, .int p2, .int p3, .ref 189] [.ref 165, .int 2, .int 2, .int p2, .int p3] := by
  refine ⟨2, 0, ?_⟩
  apply Exists.intro
  apply Exists.intro
  apply And.intro
  · refine xe_sn pg_164 4 (fr' := (5, [(0, .ref 0), (1, .int 2), (2, .int 2), (3, .int p2), (4, .int p3), (5, .ref 189)], [.int 2, .ref 0, .int 0, .ref 189])) rfl ?_
    refine xe_sn pg_164 3 (fr' := (9, [(0, .ref 0), (1, .int 2), (2, .int 2), (3, .int p2), (4, .int p3), (5, .ref 189)], [.int p3, .int p2, .int 2, .int 2, .ref 0, .int 0, .ref 189])) rfl ?_
    apply xe_callq pg_164 77 [.ref 0, .int 2, .int 2, .int p2, .int p3] (.inr 1) (23, [(0, .ref 0), (1, .int 2), (2, .int 2), (3, .int p2), (4, .int p3), (5, .ref 189)], []) rfl (fun _ => rfl)
    · refine xe_sn pg_77 1 (fr' := (1, [(0, .ref 0), (1, .int 2), (2, .int 2), (3, .int p2), (4, .int p3)], [.int 2])) rfl ?_
      apply xe_callq pg_77 92 [.int 2] (.inl none) (4, [(0, .ref 0), (1, .int 2), (2, .int 2), (3, .int p2), (4, .int p3)], []) rfl (fun _ => rfl)
      · refine xe_sn pg_92 2 (fr' := (2, [(0, .int 2)], [.int 4, .int 2])) rfl ?_
        apply xe_callq pg_92 95 [.int 2, .int 4] (.inl none) (5, [(0, .int 2)], []) rfl (fun _ => rfl)
        · refine xe_sn pg_95 4 (fr' := (6, [(0, .int 2), (1, .int 4)], [.int 4, .int 2])) rfl ?_
          refine xe_sn pg_95 1 (fr' := (17, [(0, .int 2), (1, .int 4)], [])) rfl ?_
          exact xe_end pg_95 rfl
        exact xe_end pg_92 rfl
      refine xe_sn pg_77 1 (fr' := (5, [(0, .ref 0), (1, .int 2), (2, .int 2), (3, .int p2), (4, .int p3)], [.int 2])) rfl ?_
      apply xe_callq pg_77 94 [.int 2] (.inl none) (8, [(0, .ref 0), (1, .int 2), (2, .int 2), (3, .int p2), (4, .int p3)], []) rfl (fun _ => rfl)
      · refine xe_sn pg_94 1 (fr' := (1, [(0, .int 2)], [.int 2])) rfl ?_
        apply xe_callq pg_94 100 [.int 2] (.inl (some (.int 1))) (4, [(0, .int 2)], [.int 1]) rfl (fun _ => rfl)
        · refine xe_sn pg_100 4 (fr' := (6, [(0, .int 2)], [.int 2])) rfl ?_
          refine xe_sn pg_100 4 (fr' := (15, [(0, .int 2)], [.int 1])) rfl ?_
          exact xe_end pg_100 rfl
        refine xe_sn pg_94 1 (fr' := (15, [(0, .int 2)], [])) rfl ?_
        exact xe_end pg_94 rfl
      refine xe_sn pg_77 1 (fr' := (9, [(0, .ref 0), (1, .int 2), (2, .int 2), (3, .int p2), (4, .int p3)], [.int p2])) rfl ?_
      refine xe_t1 pg_77 22 rfl rfl (by show (p2).toInt < 0; omega) ?_
      refine xe_sn pg_77 1 (fr' := (23, [(0, .ref 0), (1, .int 2), (2, .int 2), (3, .int p2), (4, .int p3)], [.int 0])) rfl ?_
      apply xe_callqx pg_77 97 [.int 0] 1 rfl (fun _ => rfl)
      · refine xe_sn pg_97 2 (fr' := (4, [(0, .int 0)], [])) rfl ?_
        exact xe_end pg_97 rfl
    refine xe_sn pg_164 1 (fr' := (24, [(0, .ref 0), (1, .int 2), (2, .int 2), (3, .int p2), (4, .int p3), (5, .ref 189)], [.int 2])) rfl ?_
    exact xe_end pg_164 rfl
  refine And.intro ⟨rfl, rfl, rfl, rfl⟩ ?_
  apply And.intro
  · refine xe_sn pg_143 2 (fr' := (2, [(0, .ref 165), (1, .int 2), (2, .int 2), (3, .int p2), (4, .int p3)], [.int 2, .ref 165])) rfl ?_
    apply xe_callq pg_143 104 [.int 2] (.inl (some (.int 1))) (5, [(0, .ref 165), (1, .int 2), (2, .int 2), (3, .int p2), (4, .int p3)], [.int 1, .ref 165]) rfl (fun _ => rfl)
    · refine xe_sn pg_104 3 (fr' := (3, [(0, .int 2)], [.int 3, .int 0, .int 2])) rfl ?_
      apply xe_callq pg_104 103 [.int 2, .int 0, .int 3] (.inl (some (.int 1))) (6, [(0, .int 2)], [.int 1]) rfl (fun _ => rfl)
      · refine xe_sn pg_103 4 (fr' := (6, [(0, .int 2), (1, .int 0), (2, .int 3)], [.int 2])) rfl ?_
        refine xe_sn pg_103 4 (fr' := (15, [(0, .int 2), (1, .int 0), (2, .int 3)], [.int 1])) rfl ?_
        exact xe_end pg_103 rfl
      exact xe_end pg_104 rfl
    refine xe_sn pg_143 4 (fr' := (11, [(0, .ref 165), (1, .int 2), (2, .int 2), (3, .int p2), (4, .int p3)], [.int 3, .int 1, .int 2, .ref 165])) rfl ?_
    apply xe_callq pg_143 103 [.int 2, .int 1, .int 3] (.inl (some (.int 1))) (14, [(0, .ref 165), (1, .int 2), (2, .int 2), (3, .int p2), (4, .int p3)], [.int 1, .ref 165]) rfl (fun _ => rfl)
    · refine xe_sn pg_103 4 (fr' := (6, [(0, .int 2), (1, .int 1), (2, .int 3)], [.int 2])) rfl ?_
      refine xe_sn pg_103 4 (fr' := (15, [(0, .int 2), (1, .int 1), (2, .int 3)], [.int 1])) rfl ?_
      exact xe_end pg_103 rfl
    refine xe_sn pg_143 4 (fr' := (25, [(0, .ref 165), (1, .int 2), (2, .int 2), (3, .int p2), (4, .int p3)], [.int 7, .int 0, .int p2, .ref 165])) rfl ?_
    apply xe_callq pg_143 103 [.int p2, .int 0, .int 7] (.inl (some (.int 0))) (28, [(0, .ref 165), (1, .int 2), (2, .int 2), (3, .int p2), (4, .int p3)], [.int 0, .ref 165]) rfl (fun _ => rfl)
    · refine xe_sn pg_103 2 (fr' := (2, [(0, .int p2), (1, .int 0), (2, .int 7)], [.int 0, .int p2])) rfl ?_
      refine xe_t2 pg_103 14 rfl rfl (by show (p2).toInt < 0; omega) ?_
      refine xe_sn pg_103 1 (fr' := (15, [(0, .int p2), (1, .int 0), (2, .int 7)], [.int 0])) rfl ?_
      exact xe_end pg_103 rfl
    refine xe_sn pg_143 4 (fr' := (51, [(0, .ref 165), (1, .int 2), (2, .int 2), (3, .int p2), (4, .int p3)], [])) rfl ?_
    refine xe_sn pg_143 4 (fr' := (69, [(0, .ref 165), (1, .int 2), (2, .int 2), (3, .int p2), (4, .int p3)], [.int 0])) rfl ?_
    refine xe_sn pg_143 4 (fr' := (76, [(5, .int 0), (0, .ref 165), (1, .int 2), (2, .int 2), (3, .int p2), (4, .int p3)], [.int 2, .ref 165])) rfl ?_
    refine xe_sn pg_143 4 (fr' := (111, [(5, .int 0), (0, .ref 165), (1, .int 2), (2, .int 2), (3, .int p2), (4, .int p3)], [])) rfl ?_
    refine xe_sn pg_143 4 (fr' := (119, [(5, .int 0), (0, .ref 165), (1, .int 2), (2, .int 2), (3, .int p2), (4, .int p3)], [.int 0])) rfl ?_
    exact xe_end pg_143 rfl
  · exact ⟨⟨rfl, rfl, rfl, rfl⟩, Nat.le_of_ble_eq_true rfl, Nat.le_of_ble_eq_true rfl, rfl, fun q => absurd q (by decide)⟩

set_option maxRecDepth 100000 in
theorem lf_send_44 (xs : Nat → Int32) (p2 : Int32) (p3 : Int32) (b2 : 7 < p2.toInt) : op_ok xs 164 143 [.ref 0, .int 2, .int 2, .int p2, .int p3, .ref 189] [.ref 165, .int 2, .int 2, .int p2, .int p3] := by
  refine ⟨2, 0, ?_⟩
  apply Exists.intro
  apply Exists.intro
  apply And.intro
  · refine xe_sn pg_164 4 (fr' := (5, [(0, .ref 0), (1, .int 2), (2, .int 2), (3, .int p2), (4, .int p3), (5, .ref 189)], [.int 2, .ref 0, .int 0, .ref 189])) rfl ?_
    refine xe_sn pg_164 3 (fr' := (9, [(0, .ref 0), (1, .int 2), (2, .int 2), (3, .int p2), (4, .int p3), (5, .ref 189)], [.int p3, .int p2, .int 2, .int 2, .ref 0, .int 0, .ref 189])) rfl ?_
    apply xe_callq pg_164 77 [.ref 0, .int 2, .int 2, .int p2, .int p3] (.inr 1) (23, [(0, .ref 0), (1, .int 2), (2, .int 2), (3, .int p2), (4, .int p3), (5, .ref 189)], []) rfl (fun _ => rfl)
    · refine xe_sn pg_77 1 (fr' := (1, [(0, .ref 0), (1, .int 2), (2, .int 2), (3, .int p2), (4, .int p3)], [.int 2])) rfl ?_
      apply xe_callq pg_77 92 [.int 2] (.inl none) (4, [(0, .ref 0), (1, .int 2), (2, .int 2), (3, .int p2), (4, .int p3)], []) rfl (fun _ => rfl)
      · refine xe_sn pg_92 2 (fr' := (2, [(0, .int 2)], [.int 4, .int 2])) rfl ?_
        apply xe_callq pg_92 95 [.int 2, .int 4] (.inl none) (5, [(0, .int 2)], []) rfl (fun _ => rfl)
        · refine xe_sn pg_95 4 (fr' := (6, [(0, .int 2), (1, .int 4)], [.int 4, .int 2])) rfl ?_
          refine xe_sn pg_95 1 (fr' := (17, [(0, .int 2), (1, .int 4)], [])) rfl ?_
          exact xe_end pg_95 rfl
        exact xe_end pg_92 rfl
      refine xe_sn pg_77 1 (fr' := (5, [(0, .ref 0), (1, .int 2), (2, .int 2), (3, .int p2), (4, .int p3)], [.int 2])) rfl ?_
      apply xe_callq pg_77 94 [.int 2] (.inl none) (8, [(0, .ref 0), (1, .int 2), (2, .int 2), (3, .int p2), (4, .int p3)], []) rfl (fun _ => rfl)
      · refine xe_sn pg_94 1 (fr' := (1, [(0, .int 2)], [.int 2])) rfl ?_
        apply xe_callq pg_94 100 [.int 2] (.inl (some (.int 1))) (4, [(0, .int 2)], [.int 1]) rfl (fun _ => rfl)
        · refine xe_sn pg_100 4 (fr' := (6, [(0, .int 2)], [.int 2])) rfl ?_
          refine xe_sn pg_100 4 (fr' := (15, [(0, .int 2)], [.int 1])) rfl ?_
          exact xe_end pg_100 rfl
        refine xe_sn pg_94 1 (fr' := (15, [(0, .int 2)], [])) rfl ?_
        exact xe_end pg_94 rfl
      refine xe_sn pg_77 1 (fr' := (9, [(0, .ref 0), (1, .int 2), (2, .int 2), (3, .int p2), (4, .int p3)], [.int p2])) rfl ?_
      refine xe_f1 pg_77 22 rfl rfl (by show ¬ ((p2).toInt < 0); omega) ?_
      refine xe_sn pg_77 2 (fr' := (15, [(0, .ref 0), (1, .int 2), (2, .int 2), (3, .int p2), (4, .int p3)], [.int 7, .int p2])) rfl ?_
      refine xe_t2 pg_77 22 rfl rfl (by show 7 < (p2).toInt; omega) ?_
      refine xe_sn pg_77 1 (fr' := (23, [(0, .ref 0), (1, .int 2), (2, .int 2), (3, .int p2), (4, .int p3)], [.int 0])) rfl ?_
      apply xe_callqx pg_77 97 [.int 0] 1 rfl (fun _ => rfl)
      · refine xe_sn pg_97 2 (fr' := (4, [(0, .int 0)], [])) rfl ?_
        exact xe_end pg_97 rfl
    refine xe_sn pg_164 1 (fr' := (24, [(0, .ref 0), (1, .int 2), (2, .int 2), (3, .int p2), (4, .int p3), (5, .ref 189)], [.int 2])) rfl ?_
    exact xe_end pg_164 rfl
  refine And.intro ⟨rfl, rfl, rfl, rfl⟩ ?_
  apply And.intro
  · refine xe_sn pg_143 2 (fr' := (2, [(0, .ref 165), (1, .int 2), (2, .int 2), (3, .int p2), (4, .int p3)], [.int 2, .ref 165])) rfl ?_
    apply xe_callq pg_143 104 [.int 2] (.inl (some (.int 1))) (5, [(0, .ref 165), (1, .int 2), (2, .int 2), (3, .int p2), (4, .int p3)], [.int 1, .ref 165]) rfl (fun _ => rfl)
    · refine xe_sn pg_104 3 (fr' := (3, [(0, .int 2)], [.int 3, .int 0, .int 2])) rfl ?_
      apply xe_callq pg_104 103 [.int 2, .int 0, .int 3] (.inl (some (.int 1))) (6, [(0, .int 2)], [.int 1]) rfl (fun _ => rfl)
      · refine xe_sn pg_103 4 (fr' := (6, [(0, .int 2), (1, .int 0), (2, .int 3)], [.int 2])) rfl ?_
        refine xe_sn pg_103 4 (fr' := (15, [(0, .int 2), (1, .int 0), (2, .int 3)], [.int 1])) rfl ?_
        exact xe_end pg_103 rfl
      exact xe_end pg_104 rfl
    refine xe_sn pg_143 4 (fr' := (11, [(0, .ref 165), (1, .int 2), (2, .int 2), (3, .int p2), (4, .int p3)], [.int 3, .int 1, .int 2, .ref 165])) rfl ?_
    apply xe_callq pg_143 103 [.int 2, .int 1, .int 3] (.inl (some (.int 1))) (14, [(0, .ref 165), (1, .int 2), (2, .int 2), (3, .int p2), (4, .int p3)], [.int 1, .ref 165]) rfl (fun _ => rfl)
    · refine xe_sn pg_103 4 (fr' := (6, [(0, .int 2), (1, .int 1), (2, .int 3)], [.int 2])) rfl ?_
      refine xe_sn pg_103 4 (fr' := (15, [(0, .int 2), (1, .int 1), (2, .int 3)], [.int 1])) rfl ?_
      exact xe_end pg_103 rfl
    refine xe_sn pg_143 4 (fr' := (25, [(0, .ref 165), (1, .int 2), (2, .int 2), (3, .int p2), (4, .int p3)], [.int 7, .int 0, .int p2, .ref 165])) rfl ?_
    apply xe_callq pg_143 103 [.int p2, .int 0, .int 7] (.inl (some (.int 0))) (28, [(0, .ref 165), (1, .int 2), (2, .int 2), (3, .int p2), (4, .int p3)], [.int 0, .ref 165]) rfl (fun _ => rfl)
    · refine xe_sn pg_103 2 (fr' := (2, [(0, .int p2), (1, .int 0), (2, .int 7)], [.int 0, .int p2])) rfl ?_
      refine xe_f2 pg_103 14 rfl rfl (by show ¬ ((p2).toInt < 0); omega) ?_
      refine xe_sn pg_103 2 (fr' := (7, [(0, .int p2), (1, .int 0), (2, .int 7)], [.int 7, .int p2])) rfl ?_
      refine xe_t2 pg_103 14 rfl rfl (by show 7 < (p2).toInt; omega) ?_
      refine xe_sn pg_103 1 (fr' := (15, [(0, .int p2), (1, .int 0), (2, .int 7)], [.int 0])) rfl ?_
      exact xe_end pg_103 rfl
    refine xe_sn pg_143 4 (fr' := (51, [(0, .ref 165), (1, .int 2), (2, .int 2), (3, .int p2), (4, .int p3)], [])) rfl ?_
    refine xe_sn pg_143 4 (fr' := (69, [(0, .ref 165), (1, .int 2), (2, .int 2), (3, .int p2), (4, .int p3)], [.int 0])) rfl ?_
    refine xe_sn pg_143 4 (fr' := (76, [(5, .int 0), (0, .ref 165), (1, .int 2), (2, .int 2), (3, .int p2), (4, .int p3)], [.int 2, .ref 165])) rfl ?_
    refine xe_sn pg_143 4 (fr' := (111, [(5, .int 0), (0, .ref 165), (1, .int 2), (2, .int 2), (3, .int p2), (4, .int p3)], [])) rfl ?_
    refine xe_sn pg_143 4 (fr' := (119, [(5, .int 0), (0, .ref 165), (1, .int 2), (2, .int 2), (3, .int p2), (4, .int p3)], [.int 0])) rfl ?_
    exact xe_end pg_143 rfl
  · exact ⟨⟨rfl, rfl, rfl, rfl⟩, Nat.le_of_ble_eq_true rfl, Nat.le_of_ble_eq_true rfl, rfl, fun q => absurd q (by decide)⟩

set_option maxRecDepth 100000 in
theorem lf_send_45 (xs : Nat → Int32) (p2 : Int32) (p3 : Int32) (a2 : 0 ≤ p2.toInt) (b2 : p2.toInt ≤ 7) (a3 : p3.toInt < 0) : op_ok xs 164 143 [.ref 0, .int 2, .int 2, .int p2, .int p3, .ref 189] [.ref 165, .int 2, .int 2, .int p2, .int p3] := by
  refine ⟨2, 0, ?_⟩
  apply Exists.intro
  apply Exists.intro
  apply And.intro
  · refine xe_sn pg_164 4 (fr' := (5, [(0, .ref 0), (1, .int 2), (2, .int 2), (3, .int p2), (4, .int p3), (5, .ref 189)], [.int 2, .ref 0, .int 0, .ref 189])) rfl ?_
    refine xe_sn pg_164 3 (fr' := (9, [(0, .ref 0), (1, .int 2), (2, .int 2), (3, .int p2), (4, .int p3), (5, .ref 189)], [.int p3, .int p2, .int 2, .int 2, .ref 0, .int 0, .ref 189])) rfl ?_
    apply xe_callq pg_164 77 [.ref 0, .int 2, .int 2, .int p2, .int p3] (.inr 1) (23, [(0, .ref 0), (1, .int 2), (2, .int 2), (3, .int p2), (4, .int p3), (5, .ref 189)], []) rfl (fun _ => rfl)
    · refine xe_sn pg_77 1 (fr' := (1, [(0, .ref 0), (1, .int 2), (2, .int 2), (3, .int p2), (4, .int p3)], [.int 2])) rfl ?_
      apply xe_callq pg_77 92 [.int 2] (.inl none) (4, [(0, .ref 0), (1, .int 2), (2, .int 2), (3, .int p2), (4, .int p3)], []) rfl (fun _ => rfl)
      · refine xe_sn pg_92 2 (fr' := (2, [(0, .int 2)], [.int 4, .int 2])) rfl ?_
        apply xe_callq pg_92 95 [.int 2, .int 4] (.inl none) (5, [(0, .int 2)], []) rfl (fun _ => rfl)
        · refine xe_sn pg_95 4 (fr' := (6, [(0, .int 2), (1, .int 4)], [.int 4, .int 2])) rfl ?_
          refine xe_sn pg_95 1 (fr' := (17, [(0, .int 2), (1, .int 4)], [])) rfl ?_
          exact xe_end pg_95 rfl
        exact xe_end pg_92 rfl
      refine xe_sn pg_77 1 (fr' := (5, [(0, .ref 0), (1, .int 2), (2, .int 2), (3, .int p2), (4, .int p3)], [.int 2])) rfl ?_
      apply xe_callq pg_77 94 [.int 2] (.inl none) (8, [(0, .ref 0), (1, .int 2), (2, .int 2), (3, .int p2), (4, .int p3)], []) rfl (fun _ => rfl)
      · refine xe_sn pg_94 1 (fr' := (1, [(0, .int 2)], [.int 2])) rfl ?_
        apply xe_callq pg_94 100 [.int 2] (.inl (some (.int 1))) (4, [(0, .int 2)], [.int 1]) rfl (fun _ => rfl)
        · refine xe_sn pg_100 4 (fr' := (6, [(0, .int 2)], [.int 2])) rfl ?_
          refine xe_sn pg_100 4 (fr' := (15, [(0, .int 2)], [.int 1])) rfl ?_
          exact xe_end pg_100 rfl
        refine xe_sn pg_94 1 (fr' := (15, [(0, .int 2)], [])) rfl ?_
        exact xe_end pg_94 rfl
      refine xe_sn pg_77 1 (fr' := (9, [(0, .ref 0), (1, .int 2), (2, .int 2), (3, .int p2), (4, .int p3)], [.int p2])) rfl ?_
      refine xe_f1 pg_77 22 rfl rfl (by show ¬ ((p2).toInt < 0); omega) ?_
      refine xe_sn pg_77 2 (fr' := (15, [(0, .ref 0), (1, .int 2), (2, .int 2), (3, .int p2), (4, .int p3)], [.int 7, .int p2])) rfl ?_
      refine xe_f2 pg_77 22 rfl rfl (by show ¬ (7 < (p2).toInt); omega) ?_
      refine xe_sn pg_77 2 (fr' := (23, [(0, .ref 0), (1, .int 2), (2, .int 2), (3, .int p2), (4, .int p3)], [.int 1])) rfl ?_
      apply xe_callq pg_77 97 [.int 1] (.inl none) (26, [(0, .ref 0), (1, .int 2), (2, .int 2), (3, .int p2), (4, .int p3)], []) rfl (fun _ => rfl)
      · refine xe_sn pg_97 2 (fr' := (12, [(0, .int 1)], [])) rfl ?_
        exact xe_end pg_97 rfl
      refine xe_sn pg_77 1 (fr' := (28, [(0, .ref 0), (1, .int 2), (2, .int 2), (3, .int p2), (4, .int p3)], [.int p3])) rfl ?_
      apply xe_callq pg_77 99 [.int p3] (.inl (some (.int 0))) (31, [(0, .ref 0), (1, .int 2), (2, .int 2), (3, .int p2), (4, .int p3)], [.int 0]) rfl (fun _ => rfl)
      · refine xe_sn pg_99 1 (fr' := (1, [(0, .int p3)], [.int p3])) rfl ?_
        refine xe_t1 pg_99 15 rfl rfl (by show (p3).toInt < 0; omega) ?_
        refine xe_sn pg_99 1 (fr' := (16, [(0, .int p3)], [.int 0])) rfl ?_
        exact xe_end pg_99 rfl
      apply xe_callqx pg_77 97 [.int 0] 1 rfl (fun _ => rfl)
      · refine xe_sn pg_97 2 (fr' := (4, [(0, .int 0)], [])) rfl ?_
        exact xe_end pg_97 rfl
    refine xe_sn pg_164 1 (fr' := (24, [(0, .ref 0), (1, .int 2), (2, .int 2), (3, .int p2), (4, .int p3), (5, .ref 189)], [.int 2])) rfl ?_
    exact xe_end pg_164 rfl
  refine And.intro ⟨rfl, rfl, rfl, rfl⟩ ?_
  apply And.intro
  · refine xe_sn pg_143 2 (fr' := (2, [(0, .ref 165), (1, .int 2), (2, .int 2), (3, .int p2), (4, .int p3)], [.int 2, .ref 165])) rfl ?_
    apply xe_callq pg_143 104 [.int 2] (.inl (some (.int 1))) (5, [(0, .ref 165), (1, .int 2), (2, .int 2), (3, .int p2), (4, .int p3)], [.int 1, .ref 165]) rfl (fun _ => rfl)
    · refine xe_sn pg_104 3 (fr' := (3, [(0, .int 2)], [.int 3, .int 0, .int 2])) rfl ?_
      apply xe_callq pg_104 103 [.int 2, .int 0, .int 3] (.inl (some (.int 1))) (6, [(0, .int 2)], [.int 1]) rfl (fun _ => rfl)
      · refine xe_sn pg_103 4 (fr' := (6, [(0, .int 2), (1, .int 0), (2, .int 3)], [.int 2])) rfl ?_
        refine xe_sn pg_103 4 (fr' := (15, [(0, .int 2), (1, .int 0), (2, .int 3)], [.int 1])) rfl ?_
        exact xe_end pg_103 rfl
      exact xe_end pg_104 rfl
    refine xe_sn pg_143 4 (fr' := (11, [(0, .ref 165), (1, .int 2), (2, .int 2), (3, .int p2), (4, .int p3)], [.int 3, .int 1, .int 2, .ref 165])) rfl ?_
    apply xe_callq pg_143 103 [.int 2, .int 1, .int 3] (.inl (some (.int 1))) (14, [(0, .ref 165), (1, .int 2), (2, .int 2), (3, .int p2), (4, .int p3)], [.int 1, .ref 165]) rfl (fun _ => rfl)
    · refine xe_sn pg_103 4 (fr' := (6, [(0, .int 2), (1, .int 1), (2, .int 3)], [.int 2])) rfl ?_
      refine xe_sn pg_103 4 (fr' := (15, [(0, .int 2), (1, .int 1), (2, .int 3)], [.int 1])) rfl ?_
      exact xe_end pg_103 rfl
    refine xe_sn pg_143 4 (fr' := (25, [(0, .ref 165), (1, .int 2), (2, .int 2), (3, .int p2), (4, .int p3)], [.int 7, .int 0, .int p2, .ref 165])) rfl ?_
    apply xe_callq pg_143 103 [.int p2, .int 0, .int 7] (.inl (some (.int 1))) (28, [(0, .ref 165), (1, .int 2), (2, .int 2), (3, .int p2), (4, .int p3)], [.int 1, .ref 165]) rfl (fun _ => rfl)
    · refine xe_sn pg_103 2 (fr' := (2, [(0, .int p2), (1, .int 0), (2, .int 7)], [.int 0, .int p2])) rfl ?_
      refine xe_f2 pg_103 14 rfl rfl (by show ¬ ((p2).toInt < 0); omega) ?_
      refine xe_sn pg_103 2 (fr' := (7, [(0, .int p2), (1, .int 0), (2, .int 7)], [.int 7, .int p2])) rfl ?_
      refine xe_f2 pg_103 14 rfl rfl (by show ¬ (7 < (p2).toInt); omega) ?_
      refine xe_sn pg_103 2 (fr' := (15, [(0, .int p2), (1, .int 0), (2, .int 7)], [.int 1])) rfl ?_
      exact xe_end pg_103 rfl
    refine xe_sn pg_143 4 (fr' := (37, [(0, .ref 165), (1, .int 2), (2, .int 2), (3, .int p2), (4, .int p3)], [.int 255, .int 0, .int p3, .ref 165])) rfl ?_
    apply xe_callq pg_143 103 [.int p3, .int 0, .int 255] (.inl (some (.int 0))) (40, [(0, .ref 165), (1, .int 2), (2, .int 2), (3, .int p2), (4, .int p3)], [.int 0, .ref 165]) rfl (fun _ => rfl)
    · refine xe_sn pg_103 2 (fr' := (2, [(0, .int p3), (1, .int 0), (2, .int 255)], [.int 0, .int p3])) rfl ?_
      refine xe_t2 pg_103 14 rfl rfl (by show (p3).toInt < 0; omega) ?_
      refine xe_sn pg_103 1 (fr' := (15, [(0, .int p3), (1, .int 0), (2, .int 255)], [.int 0])) rfl ?_
      exact xe_end pg_103 rfl
    refine xe_sn pg_143 4 (fr' := (51, [(0, .ref 165), (1, .int 2), (2, .int 2), (3, .int p2), (4, .int p3)], [])) rfl ?_
    refine xe_sn pg_143 4 (fr' := (69, [(0, .ref 165), (1, .int 2), (2, .int 2), (3, .int p2), (4, .int p3)], [.int 0])) rfl ?_
    refine xe_sn pg_143 4 (fr' := (76, [(5, .int 0), (0, .ref 165), (1, .int 2), (2, .int 2), (3, .int p2), (4, .int p3)], [.int 2, .ref 165])) rfl ?_
    refine xe_sn pg_143 4 (fr' := (111, [(5, .int 0), (0, .ref 165), (1, .int 2), (2, .int 2), (3, .int p2), (4, .int p3)], [])) rfl ?_
    refine xe_sn pg_143 4 (fr' := (119, [(5, .int 0), (0, .ref 165), (1, .int 2), (2, .int 2), (3, .int p2), (4, .int p3)], [.int 0])) rfl ?_
    exact xe_end pg_143 rfl
  · exact ⟨⟨rfl, rfl, rfl, rfl⟩, Nat.le_of_ble_eq_true rfl, Nat.le_of_ble_eq_true rfl, rfl, fun q => absurd q (by decide)⟩

set_option maxRecDepth 100000 in
theorem lf_send_46 (xs : Nat → Int32) (p2 : Int32) (p3 : Int32) (a2 : 0 ≤ p2.toInt) (b2 : p2.toInt ≤ 7) (b3 : 255 < p3.toInt) : op_ok xs 164 143 [.ref 0, .int 2, .int 2, .int p2, .int p3, .ref 189] [.ref 165, .int 2, .int 2, .int p2, .int p3] := by
  refine ⟨2, 0, ?_⟩
  apply Exists.intro
  apply Exists.intro
  apply And.intro
  · refine xe_sn pg_164 4 (fr' := (5, [(0, .ref 0), (1, .int 2), (2, .int 2), (3, .int p2), (4, .int p3), (5, .ref 189)], [.int 2, .ref 0, .int 0, .ref 189])) rfl ?_
    refine xe_sn pg_164 3 (fr' := (9, [(0, .ref 0), (1, .int 2), (2, .int 2), (3, .int p2), (4, .int p3), (5, .ref 189)], [.int p3, .int p2, .int 2, .int 2, .ref 0, .int 0, .ref 189])) rfl ?_
    apply xe_callq pg_164 77 [.ref 0, .int 2, .int 2, .int p2, .int p3] (.inr 1) (23, [(0, .ref 0), (1, .int 2), (2, .int 2), (3, .int p2), (4, .int p3), (5, .ref 189)], []) rfl (fun _ => rfl)
    · refine xe_sn pg_77 1 (fr' := (1, [(0, .ref 0), (1, .int 2), (2, .int 2), (3, .int p2), (4, .int p3)], [.int 2])) rfl ?_
      apply xe_callq pg_77 92 [.int 2] (.inl none) (4, [(0, .ref 0), (1, .int 2), (2, .int 2), (3, .int p2), (4, .int p3)], []) rfl (fun _ => rfl)
      · refine xe_sn pg_92 2 (fr' := (2, [(0, .int 2)], [.int 4, .int 2])) rfl ?_
        apply xe_callq pg_92 95 [.int 2, .int 4] (.inl none) (5, [(0, .int 2)], []) rfl (fun _ => rfl)
        · refine xe_sn pg_95 4 (fr' := (6, [(0, .int 2), (1, .int 4)], [.int 4, .int 2])) rfl ?_
          refine xe_sn pg_95 1 (fr' := (17, [(0, .int 2), (1, .int 4)], [])) rfl ?_
          exact xe_end pg_95 rfl
        exact xe_end pg_92 rfl
      refine xe_sn pg_77 1 (fr' := (5, [(0, .ref 0), (1, .int 2), (2, .int 2), (3, .int p2), (4, .int p3)], [.int 2])) rfl ?_
      apply xe_callq pg_77 94 [.int 2] (.inl none) (8, [(0, .ref 0), (1, .int 2), (2, .int 2), (3, .int p2), (4, .int p3)], []) rfl (fun _ => rfl)
      · refine xe_sn pg_94 1 (fr' := (1, [(0, .int 2)], [.int 2])) rfl ?_
        apply xe_callq pg_94 100 [.int 2] (.inl (some (.int 1))) (4, [(0, .int 2)], [.int 1]) rfl (fun _ => rfl)
        · refine xe_sn pg_100 4 (fr' := (6, [(0, .int 2)], [.int 2])) rfl ?_
          refine xe_sn pg_100 4 (fr' := (15, [(0, .int 2)], [.int 1])) rfl ?_
          exact xe_end pg_100 rfl
        refine xe_sn pg_94 1 (fr' := (15, [(0, .int 2)], [])) rfl ?_
        exact xe_end pg_94 rfl
      refine xe_sn pg_77 1 (fr' := (9, [(0, .ref 0), (1, .int 2), (2, .int 2), (3, .int p2), (4, .int p3)], [.int p2])) rfl ?_
      refine xe_f1 pg_77 22 rfl rfl (by show ¬ ((p2).toInt < 0); omega) ?_
      refine xe_sn pg_77 2 (fr' := (15, [(0, .ref 0), (1, .int 2), (2, .int 2), (3, .int p2), (4, .int p3)], [.int 7, .int p2])) rfl ?_
      refine xe_f2 pg_77 22 rfl rfl (by show ¬ (7 < (p2).toInt); omega) ?_
      refine xe_sn pg_77 2 (fr' := (23, [(0, .ref 0), (1, .int 2), (2, .int 2), (3, .int p2), (4, .int p3)], [.int 1])) rfl ?_
      apply xe_callq pg_77 97 [.int 1] (.inl none) (26, [(0, .ref 0), (1, .int 2), (2, .int 2), (3, .int p2), (4, .int p3)], []) rfl (fun _ => rfl)
      · refine xe_sn pg_97 2 (fr' := (12, [(0, .int 1)], [])) rfl ?_
        exact xe_end pg_97 rfl
      refine xe_sn pg_77 1 (fr' := (28, [(0, .ref 0), (1, .int 2), (2, .int 2), (3, .int p2), (4, .int p3)], [.int p3])) rfl ?_
      apply xe_callq pg_77 99 [.int p3] (.inl (some (.int 0))) (31, [(0, .ref 0), (1, .int 2), (2, .int 2), (3, .int p2), (4, .int p3)], [.int 0]) rfl (fun _ => rfl)
      · refine xe_sn pg_99 1 (fr' := (1, [(0, .int p3)], [.int p3])) rfl ?_
        refine xe_f1 pg_99 15 rfl rfl (by show ¬ ((p3).toInt < 0); omega) ?_
        refine xe_sn pg_99 2 (fr' := (8, [(0, .int p3)], [.int 255, .int p3])) rfl ?_
        refine xe_t2 pg_99 15 rfl rfl (by show 255 < (p3).toInt; omega) ?_
        refine xe_sn pg_99 1 (fr' := (16, [(0, .int p3)], [.int 0])) rfl ?_
        exact xe_end pg_99 rfl
      apply xe_callqx pg_77 97 [.int 0] 1 rfl (fun _ => rfl)
      · refine xe_sn pg_97 2 (fr' := (4, [(0, .int 0)], [])) rfl ?_
        exact xe_end pg_97 rfl
    refine xe_sn pg_164 1 (fr' := (24, [(0, .ref 0), (1, .int 2), (2, .int 2), (3, .int p2), (4, .int p3), (5, .ref 189)], [.int 2])) rfl ?_
    exact xe_end pg_164 rfl
  refine And.intro ⟨rfl, rfl, rfl, rfl⟩ ?_
  apply And.intro
  · refine xe_sn pg_143 2 (fr' := (2, [(0, .ref 165), (1, .int 2), (2, .int 2), (3, .int p2), (4, .int p3)], [.int 2, .ref 165])) rfl ?_
    apply xe_callq pg_143 104 [.int 2] (.inl (some (.int 1))) (5, [(0, .ref 165), (1, .int 2), (2, .int 2), (3, .int p2), (4, .int p3)], [.int 1, .ref 165]) rfl (fun _ => rfl)
    · refine xe_sn pg_104 3 (fr' := (3, [(0, .int 2)], [.int 3, .int 0, .int 2])) rfl ?_
      apply xe_callq pg_104 103 [.int 2, .int 0, .int 3] (.inl (some (.int 1))) (6, [(0, .int 2)], [.int 1]) rfl (fun _ => rfl)
      · refine xe_sn pg_103 4 (fr' := (6, [(0, .int 2), (1, .int 0), (2, .int 3)], [.int 2])) rfl ?_
        refine xe_sn pg_103 4 (fr' := (15, [(0, .int 2), (1, .int 0), (2, .int 3)], [.int 1])) rfl ?_
        exact xe_end pg_103 rfl
      exact xe_end pg_104 rfl
    refine xe_sn pg_143 4 (fr' := (11, [(0, .ref 165), (1, .int 2), (2, .int 2), (3, .int p2), (4, .int p3)], [.int 3, .int 1, .int 2, .ref 165])) rfl ?_
    apply xe_callq pg_143 103 [.int 2, .int 1, .int 3] (.inl (some (.int 1))) (14, [(0, .ref 165), (1, .int 2), (2, .int 2), (3, .int p2), (4, .int p3)], [.int 1, .ref 165]) rfl (fun _ => rfl)
    · refine xe_sn pg_103 4 (fr' := (6, [(0, .int 2), (1, .int 1), (2, .int 3)], [.int 2])) rfl ?_
      refine xe_sn pg_103 4 (fr' := (15, [(0, .int 2), (1, .int 1), (2, .int 3)], [.int 1])) rfl ?_
      exact xe_end pg_103 rfl
    refine xe_sn pg_143 4 (fr' := (25, [(0, .ref 165), (1, .int 2), (2, .int 2), (3, .int p2), (4, .int p3)], [.int 7, .int 0, .int p2, .ref 165])) rfl ?_
    apply xe_callq pg_143 103 [.int p2, .int 0, .int 7] (.inl (some (.int 1))) (28, [(0, .ref 165), (1, .int 2), (2, .int 2), (3, .int p2), (4, .int p3)], [.int 1, .ref 165]) rfl (fun _ => rfl)
    · refine xe_sn pg_103 2 (fr' := (2, [(0, .int p2), (1, .int 0), (2, .int 7)], [.int 0, .int p2])) rfl ?_
      refine xe_f2 pg_103 14 rfl rfl (by show ¬ ((p2).toInt < 0); omega) ?_
      refine xe_sn pg_103 2 (fr' := (7, [(0, .int p2), (1, .int 0), (2, .int 7)], [.int 7, .int p2])) rfl ?_
      refine xe_f2 pg_103 14 rfl rfl (by show ¬ (7 < (p2).toInt); omega) ?_
      refine xe_sn pg_103 2 (fr' := (15, [(0, .int p2), (1, .int 0), (2, .int 7)], [.int 1])) rfl ?_
      exact xe_end pg_103 rfl
    refine xe_sn pg_143 4 (fr' := (37, [(0, .ref 165), (1, .int 2), (2, .int 2), (3, .int p2), (4, .int p3)], [.int 255, .int 0, .int p3, .ref 165])) rfl ?_
    apply xe_callq pg_143 103 [.int p3, .int 0, .int 255] (.inl (some (.int 0))) (40, [(0, .ref 165), (1, .int 2), (2, .int 2), (3, .int p2), (4, .int p3)], [.int 0, .ref 165]) rfl (fun _ => rfl)
    · refine xe_sn pg_103 2 (fr' := (2, [(0, .int p3), (1, .int 0), (2, .int 255)], [.int 0, .int p3])) rfl ?_
      refine xe_f2 pg_103 14 rfl rfl (by show ¬ ((p3).toInt < 0); omega) ?_
      refine xe_sn pg_103 2 (fr' := (7, [(0, .int p3), (1, .int 0), (2, .int 255)], [.int 255, .int p3])) rfl ?_
      refine xe_t2 pg_103 14 rfl rfl (by show 255 < (p3).toInt; omega) ?_
      refine xe_sn pg_103 1 (fr' := (15, [(0, .int p3), (1, .int 0), (2, .int 255)], [.int 0])) rfl ?_
      exact xe_end pg_103 rfl
    refine xe_sn pg_143 4 (fr' := (51, [(0, .ref 165), (1, .int 2), (2, .int 2), (3, .int p2), (4, .int p3)], [])) rfl ?_
    refine xe_sn pg_143 4 (fr' := (69, [(0, .ref 165), (1, .int 2), (2, .int 2), (3, .int p2), (4, .int p3)], [.int 0])) rfl ?_
    refine xe_sn pg_143 4 (fr' := (76, [(5, .int 0), (0, .ref 165), (1, .int 2), (2, .int 2), (3, .int p2), (4, .int p3)], [.int 2, .ref 165])) rfl ?_
    refine xe_sn pg_143 4 (fr' := (111, [(5, .int 0), (0, .ref 165), (1, .int 2), (2, .int 2), (3, .int p2), (4, .int p3)], [])) rfl ?_
    refine xe_sn pg_143 4 (fr' := (119, [(5, .int 0), (0, .ref 165), (1, .int 2), (2, .int 2), (3, .int p2), (4, .int p3)], [.int 0])) rfl ?_
    exact xe_end pg_143 rfl
  · exact ⟨⟨rfl, rfl, rfl, rfl⟩, Nat.le_of_ble_eq_true rfl, Nat.le_of_ble_eq_true rfl, rfl, fun q => absurd q (by decide)⟩

set_option maxRecDepth 100000 in
theorem lf_send_47 (xs : Nat → Int32) (p2 : Int32) (p3 : Int32) (a2 : 0 ≤ p2.toInt) (b2 : p2.toInt ≤ 7) (a3 : 0 ≤ p3.toInt) (b3 : p3.toInt ≤ 255) : op_ok xs 164 143 [.ref 0, .int 2, .int 2, .int p2, .int p3, .ref 189] [.ref 165, .int 2, .int 2, .int p2, .int p3] := by
  refine ⟨3, 0, ?_⟩
  apply Exists.intro
  apply Exists.intro
  apply And.intro
  · refine xe_sn pg_164 4 (fr' := (5, [(0, .ref 0), (1, .int 2), (2, .int 2), (3, .int p2), (4, .int p3), (5, .ref 189)], [.int 2, .ref 0, .int 0, .ref 189])) rfl ?_
    refine xe_sn pg_164 3 (fr' := (9, [(0, .ref 0), (1, .int 2), (2, .int 2), (3, .int p2), (4, .int p3), (5, .ref 189)], [.int p3, .int p2, .int 2, .int 2, .ref 0, .int 0, .ref 189])) rfl ?_
    apply xe_callq pg_164 77 [.ref 0, .int 2, .int 2, .int p2, .int p3] (.inr 2) (27, [(0, .ref 0), (1, .int 2), (2, .int 2), (3, .int p2), (4, .int p3), (5, .ref 189)], []) rfl (fun _ => rfl)
    · refine xe_sn pg_77 1 (fr' := (1, [(0, .ref 0), (1, .int 2), (2, .int 2), (3, .int p2), (4, .int p3)], [.int 2])) rfl ?_
      apply xe_callq pg_77 92 [.int 2] (.inl none) (4, [(0, .ref 0), (1, .int 2), (2, .int 2), (3, .int p2), (4, .int p3)], []) rfl (fun _ => rfl)
      · refine xe_sn pg_92 2 (fr' := (2, [(0, .int 2)], [.int 4, .int 2])) rfl ?_
        apply xe_callq pg_92 95 [.int 2, .int 4] (.inl none) (5, [(0, .int 2)], []) rfl (fun _ => rfl)
        · refine xe_sn pg_95 4 (fr' := (6, [(0, .int 2), (1, .int 4)], [.int 4, .int 2])) rfl ?_
          refine xe_sn pg_95 1 (fr' := (17, [(0, .int 2), (1, .int 4)], [])) rfl ?_
          exact xe_end pg_95 rfl
        exact xe_end pg_92 rfl
      refine xe_sn pg_77 1 (fr' := (5, [(0, .ref 0), (1, .int 2), (2, .int 2), (3, .int p2), (4, .int p3)], [.int 2])) rfl ?_
      apply xe_callq pg_77 94 [.int 2] (.inl none) (8, [(0, .ref 0), (1, .int 2), (2, .int 2), (3, .int p2), (4, .int p3)], []) rfl (fun _ => rfl)
      · refine xe_sn pg_94 1 (fr' := (1, [(0, .int 2)], [.int 2])) rfl ?_
        apply xe_callq pg_94 100 [.int 2] (.inl (some (.int 1))) (4, [(0, .int 2)], [.int 1]) rfl (fun _ => rfl)
        · refine xe_sn pg_100 4 (fr' := (6, [(0, .int 2)], [.int 2])) rfl ?_
          refine xe_sn pg_100 4 (fr' := (15, [(0, .int 2)], [.int 1])) rfl ?_
          exact xe_end pg_100 rfl
        refine xe_sn pg_94 1 (fr' := (15, [(0, .int 2)], [])) rfl ?_
        exact xe_end pg_94 rfl
      refine xe_sn pg_77 1 (fr' := (9, [(0, .ref 0), (1, .int 2), (2, .int 2), (3, .int p2), (4, .int p3)], [.int p2])) rfl ?_
      refine xe_f1 pg_77 22 rfl rfl (by show ¬ ((p2).toInt < 0); omega) ?_
      refine xe_sn pg_77 2 (fr' := (15, [(0, .ref 0), (1, .int 2), (2, .int 2), (3, .int p2), (4, .int p3)], [.int 7, .int p2])) rfl ?_
      refine xe_f2 pg_77 22 rfl rfl (by show ¬ (7 < (p2).toInt); omega) ?_
      refine xe_sn pg_77 2 (fr' := (23, [(0, .ref 0), (1, .int 2), (2, .int 2), (3, .int p2), (4, .int p3)], [.int 1])) rfl ?_
      apply xe_callq pg_77 97 [.int 1] (.inl none) (26, [(0, .ref 0), (1, .int 2), (2, .int 2), (3, .int p2), (4, .int p3)], []) rfl (fun _ => rfl)
      · refine xe_sn pg_97 2 (fr' := (12, [(0, .int 1)], [])) rfl ?_
        exact xe_end pg_97 rfl
      refine xe_sn pg_77 1 (fr' := (28, [(0, .ref 0), (1, .int 2), (2, .int 2), (3, .int p2), (4, .int p3)], [.int p3])) rfl ?_
      apply xe_callq pg_77 99 [.int p3] (.inl (some (.int 1))) (31, [(0, .ref 0), (1, .int 2), (2, .int 2), (3, .int p2), (4, .int p3)], [.int 1]) rfl (fun _ => rfl)
      · refine xe_sn pg_99 1 (fr' := (1, [(0, .int p3)], [.int p3])) rfl ?_
        refine xe_f1 pg_99 15 rfl rfl (by show ¬ ((p3).toInt < 0); omega) ?_
        refine xe_sn pg_99 2 (fr' := (8, [(0, .int p3)], [.int 255, .int p3])) rfl ?_
        refine xe_f2 pg_99 15 rfl rfl (by show ¬ (255 < (p3).toInt); omega) ?_
        refine xe_sn pg_99 2 (fr' := (16, [(0, .int p3)], [.int 1])) rfl ?_
        exact xe_end pg_99 rfl
      apply xe_callq pg_77 97 [.int 1] (.inl none) (34, [(0, .ref 0), (1, .int 2), (2, .int 2), (3, .int p2), (4, .int p3)], []) rfl (fun _ => rfl)
      · refine xe_sn pg_97 2 (fr' := (12, [(0, .int 1)], [])) rfl ?_
        exact xe_end pg_97 rfl
      refine xe_sn pg_77 4 (fr' := (40, [(0, .ref 0), (1, .int 2), (2, .int 2), (3, .int p2), (4, .int p3)], [.ref 143])) rfl ?_
      refine xe_sn pg_77 4 (fr' := (46, [(0, .ref 0), (1, .int 2), (2, .int 2), (3, .int p2), (4, .int p3)], [.int 1, .ref 149])) rfl ?_
      refine xe_sn pg_77 4 (fr' := (54, [(5, .ref 152), (0, .ref 0), (1, .int 2), (2, .int 2), (3, .int p2), (4, .int p3)], [.int 0])) rfl ?_
      refine xe_sn pg_77 3 (fr' := (71, [(5, .ref 152), (0, .ref 0), (1, .int 2), (2, .int 2), (3, .int p2), (4, .int p3)], [.int 0])) rfl ?_
      apply xe_callqx pg_77 98 [.int 0] 2 rfl (fun _ => rfl)
      · refine xe_sn pg_98 2 (fr' := (4, [(0, .int 0)], [])) rfl ?_
        exact xe_end pg_98 rfl
    refine xe_sn pg_164 1 (fr' := (28, [(0, .ref 0), (1, .int 2), (2, .int 2), (3, .int p2), (4, .int p3), (5, .ref 189)], [.int 3])) rfl ?_
    exact xe_end pg_164 rfl
  refine And.intro ⟨rfl, rfl, rfl, rfl⟩ ?_
  apply And.intro
  · refine xe_sn pg_143 2 (fr' := (2, [(0, .ref 165), (1, .int 2), (2, .int 2), (3, .int p2), (4, .int p3)], [.int 2, .ref 165])) rfl ?_
    apply xe_callq pg_143 104 [.int 2] (.inl (some (.int 1))) (5, [(0, .ref 165), (1, .int 2), (2, .int 2), (3, .int p2), (4, .int p3)], [.int 1, .ref 165]) rfl (fun _ => rfl)
    · refine xe_sn pg_104 3 (fr' := (3, [(0, .int 2)], [.int 3, .int 0, .int 2])) rfl ?_
      apply xe_callq pg_104 103 [.int 2, .int 0, .int 3] (.inl (some (.int 1))) (6, [(0, .int 2)], [.int 1]) rfl (fun _ => rfl)
      · refine xe_sn pg_103 4 (fr' := (6, [(0, .int 2), (1, .int 0), (2, .int 3)], [.int 2])) rfl ?_
        refine xe_sn pg_103 4 (fr' := (15, [(0, .int 2), (1, .int 0), (2, .int 3)], [.int 1])) rfl ?_
        exact xe_end pg_103 rfl
      exact xe_end pg_104 rfl
    refine xe_sn pg_143 4 (fr' := (11, [(0, .ref 165), (1, .int 2), (2, .int 2), (3, .int p2), (4, .int p3)], [.int 3, .int 1, .int 2, .ref 165])) rfl ?_
    apply xe_callq pg_143 103 [.int 2, .int 1, .int 3] (.inl (some (.int 1))) (14, [(0, .ref 165), (1, .int 2), (2, .int 2), (3, .int p2), (4, .int p3)], [.int 1, .ref 165]) rfl (fun _ => rfl)
    · refine xe_sn pg_103 4 (fr' := (6, [(0, .int 2), (1, .int 1), (2, .int 3)], [.int 2])) rfl ?_
      refine xe_sn pg_103 4 (fr' := (15, [(0, .int 2), (1, .int 1), (2, .int 3)], [.int 1])) rfl ?_
      exact xe_end pg_103 rfl
    refine xe_sn pg_143 4 (fr' := (25, [(0, .ref 165), (1, .int 2), (2, .int 2), (3, .int p2), (4, .int p3)], [.int 7, .int 0, .int p2, .ref 165])) rfl ?_
    apply xe_callq pg_143 103 [.int p2, .int 0, .int 7] (.inl (some (.int 1))) (28, [(0, .ref 165), (1, .int 2), (2, .int 2), (3, .int p2), (4, .int p3)], [.int 1, .ref 165]) rfl (fun _ => rfl)
    · refine xe_sn pg_103 2 (fr' := (2, [(0, .int p2), (1, .int 0), (2, .int 7)], [.int 0, .int p2])) rfl ?_
      refine xe_f2 pg_103 14 rfl rfl (by show ¬ ((p2).toInt < 0); omega) ?_
      refine xe_sn pg_103 2 (fr' := (7, [(0, .int p2), (1, .int 0), (2, .int 7)], [.int 7, .int p2])) rfl ?_
      refine xe_f2 pg_103 14 rfl rfl (by show ¬ (7 < (p2).toInt); omega) ?_
      refine xe_sn pg_103 2 (fr' := (15, [(0, .int p2), (1, .int 0), (2, .int 7)], [.int 1])) rfl ?_
      exact xe_end pg_103 rfl
    refine xe_sn pg_143 4 (fr' := (37, [(0, .ref 165), (1, .int 2), (2, .int 2), (3, .int p2), (4, .int p3)], [.int 255, .int 0, .int p3, .ref 165])) rfl ?_
    apply xe_callq pg_143 103 [.int p3, .int 0, .int 255] (.inl (some (.int 1))) (40, [(0, .ref 165), (1, .int 2), (2, .int 2), (3, .int p2), (4, .int p3)], [.int 1, .ref 165]) rfl (fun _ => rfl)
    · refine xe_sn pg_103 2 (fr' := (2, [(0, .int p3), (1, .int 0), (2, .int 255)], [.int 0, .int p3])) rfl ?_
      refine xe_f2 pg_103 14 rfl rfl (by show ¬ ((p3).toInt < 0); omega) ?_
      refine xe_sn pg_103 2 (fr' := (7, [(0, .int p3), (1, .int 0), (2, .int 255)], [.int 255, .int p3])) rfl ?_
      refine xe_f2 pg_103 14 rfl rfl (by show ¬ (255 < (p3).toInt); omega) ?_
      refine xe_sn pg_103 2 (fr' := (15, [(0, .int p3), (1, .int 0), (2, .int 255)], [.int 1])) rfl ?_
      exact xe_end pg_103 rfl
    refine xe_sn pg_143 4 (fr' := (52, [(0, .ref 165), (1, .int 2), (2, .int 2), (3, .int p2), (4, .int p3)], [.ref 165])) rfl ?_
    refine xe_sn pg_143 4 (fr' := (60, [(0, .ref 165), (1, .int 2), (2, .int 2), (3, .int p2), (4, .int p3)], [.int 2, .int 3])) rfl ?_
    refine xe_sn pg_143 4 (fr' := (64, [(0, .ref 165), (1, .int 2), (2, .int 2), (3, .int p2), (4, .int p3)], [.int 1, .int 8])) rfl ?_
    refine xe_sn pg_143 4 (fr' := (72, [(5, .int 7), (0, .ref 165), (1, .int 2), (2, .int 2), (3, .int p2), (4, .int p3)], [.ref 165])) rfl ?_
    refine xe_sn pg_143 4 (fr' := (80, [(5, .int 7), (0, .ref 165), (1, .int 2), (2, .int 2), (3, .int p2), (4, .int p3)], [.ref 165, .ref 165])) rfl ?_
    refine xe_sn pg_143 4 (fr' := (87, [(5, .int 7), (0, .ref 165), (1, .int 2), (2, .int 2), (3, .int p2), (4, .int p3)], [.int 2, .int 0, .ref 165])) rfl ?_
    refine xe_sn pg_143 4 (fr' := (111, [(5, .int 7), (0, .ref 165), (1, .int 2), (2, .int 2), (3, .int p2), (4, .int p3)], [])) rfl ?_
    refine xe_sn pg_143 4 (fr' := (119, [(5, .int 7), (0, .ref 165), (1, .int 2), (2, .int 2), (3, .int p2), (4, .int p3)], [.int 0])) rfl ?_
    exact xe_end pg_143 rfl
  · exact ⟨⟨rfl, rfl, rfl, rfl⟩, Nat.le_of_ble_eq_true rfl, Nat.le_of_ble_eq_true rfl, rfl, fun q => absurd q (by decide)⟩

set_option maxRecDepth 100000 in
theorem lf_send_48 (xs : Nat → Int32) (p2 : Int32) (p3 : Int32) (a2 : p2.toInt < 0) : op_ok xs 164 143 [.ref 0, .int 2, .int 3, .int p2, .int p3, .ref 189] [.ref 165, .int 2, .int 3, .int p2, .int p3] := by
  refine ⟨2, 0, ?_⟩
  apply Exists.intro
  apply Exists.intro
  apply And.intro
  · refine xe_sn pg_164 4 (fr' := (5, [(0, .ref 0), (1, .int 2), (2, .int 3), (3, .int p2), (4, .int p3), (5, .ref 189)], [.int 2, .ref 0, .int 0, .ref 189])) rfl ?_
    refine xe_sn pg_164 3 (fr' := (9, [(0, .ref 0), (1, .int 2), (2, .int 3), (3, .int p2), (4, .int p3), (5, .ref 189)], [.int p3, .int p2, .int 3, .int 2, .ref 0, .int 0, .ref 189])) rfl ?_
    apply xe_callq pg_164 77 [.ref 0, .int 2, .int 3, .int p2, .int p3] (.inr 1) (23, [(0, .ref 0), (1, .int 2), (2, .int 3), (3, .int p2), (4, .int p3), (5, .ref 189)], []) rfl (fun _ => rfl)
    · refine xe_sn pg_77 1 (fr' := (1, [(0, .ref 0), (1, .int 2), (2, .int 3), (3, .int p2), (4, .int p3)], [.int 2])) rfl ?_
      apply xe_callq pg_77 92 [.int 2] (.inl none) (4, [(0, .ref 0), (1, .int 2), (2, .int 3), (3, .int p2), (4, .int p3)], []) rfl (fun _ => rfl)
      · refine xe_sn pg_92 2 (fr' := (2, [(0, .int 2)], [.int 4, .int 2])) rfl ?_
        apply xe_callq pg_92 95 [.int 2, .int 4] (.inl none) (5, [(0, .int 2)], []) rfl (fun _ => rfl)
        · refine xe_sn pg_95 4 (fr' := (6, [(0, .int 2), (1, .int 4)], [.int 4, .int 2])) rfl ?_
          refine xe_sn pg_95 1 (fr' := (17, [(0, .int 2), (1, .int 4)], [])) rfl ?_
          exact xe_end pg_95 rfl
        exact xe_end pg_92 rfl
      refine xe_sn pg_77 1 (fr' := (5, [(0, .ref 0), (1, .int 2), (2, .int 3), (3, .int p2), (4, .int p3)], [.int 3])) rfl ?_
      apply xe_callq pg_77 94 [.int 3] (.inl none) (8, [(0, .ref 0), (1, .int 2), (2, .int 3), (3, .int p2), (4, .int p3)], []) rfl (fun _ => rfl)
      · refine xe_sn pg_94 1 (fr' := (1, [(0, .int 3)], [.int 3])) rfl ?_
        apply xe_callq pg_94 100 [.int 3] (.inl (some (.int 1))) (4, [(0, .int 3)], [.int 1]) rfl (fun _ => rfl)
        · refine xe_sn pg_100 4 (fr' := (6, [(0, .int 3)], [.int 3])) rfl ?_
          refine xe_sn pg_100 4 (fr' := (15, [(0, .int 3)], [.int 1])) rfl ?_
          exact xe_end pg_100 rfl
        refine xe_sn pg_94 1 (fr' := (15, [(0, .int 3)], [])) rfl ?_
        exact xe_end pg_94 rfl
      refine xe_sn pg_77 1 (fr' := (9, [(0, .ref 0), (1, .int 2), (2, .int 3), (3, .int p2), (4, .int p3)], [.int p2])) rfl ?_
      refine xe_t1 pg_77 22 rfl rfl (by show (p2).toInt < 0; omega) ?_
      refine xe_sn pg_77 1 (fr' := (23, [(0, .ref 0), (1, .int 2), (2, .int 3), (3, .int p2), (4, .int p3)], [.int 0])) rfl ?_
      apply xe_callqx pg_77 97 [.int 0] 1 rfl (fun _ => rfl)
      · refine xe_sn pg_97 2 (fr' := (4, [(0, .int 0)], [])) rfl ?_
        exact xe_end pg_97 rfl
    refine xe_sn pg_164 1 (fr' := (24, [(0, .ref 0), (1, .int 2), (2, .int 3), (3, .int p2), (4, .int p3), (5, .ref 189)], [.int 2])) rfl ?_
    exact xe_end pg_164 rfl
  refine And.intro ⟨rfl, rfl, rfl, rfl⟩ ?_
  apply And.intro
  · refine xe_sn pg_143 2 (fr' := (2, [(0, .ref 165), (1, .int 2), (2, .int 3), (3, .int p2), (4, .int p3)], [.int 2, .ref 165])) rfl ?_
    apply xe_callq pg_143 104 [.int 2] (.inl (some (.int 1))) (5, [(0, .ref 165), (1, .int 2), (2, .int 3), (3, .int p2), (4, .int p3)], [.int 1, .ref 165]) rfl (fun _ => rfl)
    · refine xe_sn pg_104 3 (fr' := (3, [(0, .int 2)], [.int 3, .int 0, .int 2])) rfl ?_
      apply xe_callq pg_104 103 [.int 2, .int 0, .int 3] (.inl (some (.int 1))) (6, [(0, .int 2)], [.int 1]) rfl (fun _ => rfl)
      · refine xe_sn pg_103 4 (fr' := (6, [(0, .int 2), (1, .int 0), (2, .int 3)], [.int 2])) rfl ?_
        refine xe_sn pg_103 4 (fr' := (15, [(0, .int 2), (1, .int 0), (2, .int 3)], [.int 1])) rfl ?_
        exact xe_end pg_103 rfl
      exact xe_end pg_104 rfl
    refine xe_sn pg_143 4 (fr' := (11, [(0, .ref 165), (1, .int 2), (2, .int 3), (3, .int p2), (4, .int p3)], [.int 3, .int 1, .int 3, .ref 165])) rfl ?_
    apply xe_callq pg_143 103 [.int 3, .int 1, .int 3] (.inl (some (.int 1))) (14, [(0, .ref 165), (1, .int 2), (2, .int 3), (3, .int p2), (4, .int p3)], [.int 1, .ref 165]) rfl (fun _ => rfl)
    · refine xe_sn pg_103 4 (fr' := (6, [(0, .int 3), (1, .int 1), (2, .int 3)], [.int 3])) rfl ?_
      refine xe_sn pg_103 4 (fr' := (15, [(0, .int 3), (1, .int 1), (2, .int 3)], [.int 1])) rfl ?_
      exact xe_end pg_103 rfl
    refine xe_sn pg_143 4 (fr' := (25, [(0, .ref 165), (1, .int 2), (2, .int 3), (3, .int p2), (4, .int p3)], [.int 7, .int 0, .int p2, .ref 165])) rfl ?_
    apply xe_callq pg_143 103 [.int p2, .int 0, .int 7] (.inl (some (.int 0))) (28, [(0, .ref 165), (1, .int 2), (2, .int 3), (3, .int p2), (4, .int p3)], [.int 0, .ref 165]) rfl (fun _ => rfl)
    · refine xe_sn pg_103 2 (fr' := (2, [(0, .int p2), (1, .int 0), (2, .int 7)], [.int 0, .int p2])) rfl ?_
      refine xe_t2 pg_103 14 rfl rfl (by show (p2).toInt < 0; omega) ?_
      refine xe_sn pg_103 1 (fr' := (15, [(0, .int p2), (1, .int 0), (2, .int 7)], [.int 0])) rfl ?_
      exact xe_end pg_103 rfl
    refine xe_sn pg_143 4 (fr' := (51, [(0, .ref 165), (1, .int 2), (2, .int 3), (3, .int p2), (4, .int p3)], [])) rfl ?_
    refine xe_sn pg_143 4 (fr' := (69, [(0, .ref 165), (1, .int 2), (2, .int 3), (3, .int p2), (4, .int p3)], [.int 0])) rfl ?_
    refine xe_sn pg_143 4 (fr' := (76, [(5, .int 0), (0, .ref 165), (1, .int 2), (2, .int 3), (3, .int p2), (4, .int p3)], [.int 2, .ref 165])) rfl ?_
    refine xe_sn pg_143 4 (fr' := (111, [(5, .int 0), (0, .ref 165), (1, .int 2), (2, .int 3), (3, .int p2), (4, .int p3)], [])) rfl ?_
    refine xe_sn pg_143 4 (fr' := (119, [(5, .int 0), (0, .ref 165), (1, .int 2), (2, .int 3), (3, .int p2), (4, .int p3)], [.int 0])) rfl ?_
    exact xe_end pg_143 rfl
  · exact ⟨⟨rfl, rfl, rfl, rfl⟩, Nat.le_of_ble_eq_true rfl, Nat.le_of_ble_eq_true rfl, rfl, fun q => absurd q (by decide)⟩

set_option maxRecDepth 100000 in
theorem lf_send_49 (xs : Nat → Int32) (p2 : Int32) (p3 : Int32) (b2 : 7 < p2.toInt) : op_ok xs 164 143 [.ref 0, .int 2, .int 3, .int p2, .int p3, .ref 189] [.ref 165, .int 2, .int 3, .int p2, .int p3] := by
  refine ⟨2, 0, ?_⟩
  apply Exists.intro
  apply Exists.intro
  apply And.intro
  · refine xe_sn pg_164 4 (fr' := (5, [(0, .ref 0), (1, .int 2), (2, .int 3), (3, .int p2), (4, .int p3), (5, .ref 189)], [.int 2, .ref 0, .int 0, .ref 189])) rfl ?_
    refine xe_sn pg_164 3 (fr' := (9, [(0, .ref 0), (1, .int 2), (2, .int 3), (3, .int p2), (4, .int p3), (5, .ref 189)], [.int p3, .int p2, .int 3, .int 2, .ref 0, .int 0, .ref 189])) rfl ?_
    apply xe_callq pg_164 77 [.ref 0, .int 2, .int 3, .int p2, .int p3] (.inr 1) (23, [(0, .ref 0), (1, .int 2), (2, .int 3), (3, .int p2), (4, .int p3), (5, .ref 189)], []) rfl (fun _ => rfl)
    · refine xe_sn pg_77 1 (fr' := (1, [(0, .ref 0), (1, .int 2), (2, .int 3), (3, .int p2), (4, .int p3)], [.int 2])) rfl ?_
      apply xe_callq pg_77 92 [.int 2] (.inl none) (4, [(0, .ref 0), (1, .int 2), (2, .int 3), (3, .int p2), (4, .int p3)], []) rfl (fun _ => rfl)
      · refine xe_sn pg_92 2 (fr' := (2, [(0, .int 2)], [.int 4, .int 2])) rfl ?_
        apply xe_callq pg_92 95 [.int 2, .int 4] (.inl none) (5, [(0, .int 2)], []) rfl (fun _ => rfl)
        · refine xe_sn pg_95 4 (fr' := (6, [(0, .int 2), (1, .int 4)], [.int 4, .int 2])) rfl ?_
          refine xe_sn pg_95 1 (fr' := (17, [(0, .int 2), (1, .int 4)], [])) rfl ?_
          exact xe_end pg_95 rfl
        exact xe_end pg_92 rfl
      refine xe_sn pg_77 1 (fr' := (5, [(0, .ref 0), (1, .int 2), (2, .int 3), (3, .int p2), (4, .int p3)], [.int 3])) rfl ?_
      apply xe_callq pg_77 94 [.int 3] (.inl none) (8, [(0, .ref 0), (1, .int 2), (2, .int 3), (3, .int p2), (4, .int p3)], []) rfl (fun _ => rfl)
      · refine xe_sn pg_94 1 (fr' := (1, [(0, .int 3)], [.int 3])) rfl ?_
        apply xe_callq pg_94 100 [.int 3] (.inl (some (.int 1))) (4, [(0, .int 3)], [.int 1]) rfl (fun _ => rfl)
        · refine xe_sn pg_100 4 (fr' := (6, [(0, .int 3)], [.int 3])) rfl ?_
          refine xe_sn pg_100 4 (fr' := (15, [(0, .int 3)], [.int 1])) rfl ?_
          exact xe_end pg_100 rfl
        refine xe_sn pg_94 1 (fr' := (15, [(0, .int 3)], [])) rfl ?_
        exact xe_end pg_94 rfl
      refine xe_sn pg_77 1 (fr' := (9, [(0, .ref 0), (1, .int 2), (2, .int 3), (3, .int p2), (4, .int p3)], [.int p2])) rfl ?_
      refine xe_f1 pg_77 22 rfl rfl (by show ¬ ((p2).toInt < 0); omega) ?_
      refine xe_sn pg_77 2 (fr' := (15, [(0, .ref 0), (1, .int 2), (2, .int 3), (3, .int p2), (4, .int p3)], [.int 7, .int p2])) rfl ?_
      refine xe_t2 pg_77 22 rfl rfl (by show 7 < (p2).toInt; omega) ?_
      refine xe_sn pg_77 1 (fr' := (23, [(0, .ref 0), (1, .int 2), (2, .int 3), (3, .int p2), (4, .int p3)], [.int 0])) rfl ?_
      apply xe_callqx pg_77 97 [.int 0] 1 rfl (fun _ => rfl)
      · refine xe_sn pg_97 2 (fr' := (4, [(0, .int 0)], [])) rfl ?_
        exact xe_end pg_97 rfl
    refine xe_sn pg_164 1 (fr' := (24, [(0, .ref 0), (1, .int 2), (2, .int 3), (3, .int p2), (4, .int p3), (5, .ref 189)], [.int 2])) rfl ?_
    exact xe_end pg_164 rfl
  refine And.intro ⟨rfl, rfl, rfl, rfl⟩ ?_
  apply And.intro
  · refine xe_sn pg_143 2 (fr' := (2, [(0, .ref 165), (1, .int 2), (2, .int 3), (3, .int p2), (4, .int p3)], [.int 2, .ref 165])) rfl ?_
    apply xe_callq pg_143 104 [.int 2] (.inl (some (.int 1))) (5, [(0, .ref 165), (1, .int 2), (2, .int 3), (3, .int p2), (4, .int p3)], [.int 1, .ref 165]) rfl (fun _ => rfl)
    · refine xe_sn pg_104 3 (fr' := (3, [(0, .int 2)], [.int 3, .int 0, .int 2])) rfl ?_
      apply xe_callq pg_104 103 [.int 2, .int 0, .int 3] (.inl (some (.int 1))) (6, [(0, .int 2)], [.int 1]) rfl (fun _ => rfl)
      · refine xe_sn pg_103 4 (fr' := (6, [(0, .int 2), (1, .int 0), (2, .int 3)], [.int 2])) rfl ?_
        refine xe_sn pg_103 4 (fr' := (15, [(0, .int 2), (1, .int 0), (2, .int 3)], [.int 1])) rfl ?_
        exact xe_end pg_103 rfl
      exact xe_end pg_104 rfl
    refine xe_sn pg_143 4 (fr' := (11, [(0, .ref 165), (1, .int 2), (2, .int 3), (3, .int p2), (4, .int p3)], [.int 3, .int 1, .int 3, .ref 165])) rfl ?_
    apply xe_callq pg_143 103 [.int 3, .int 1, .int 3] (.inl (some (.int 1))) (14, [(0, .ref 165), (1, .int 2), (2, .int 3), (3, .int p2), (4, .int p3)], [.int 1, .ref 165]) rfl (fun _ => rfl)
    · refine xe_sn pg_103 4 (fr' := (6, [(0, .int 3), (1, .int 1), (2, .int 3)], [.int 3])) rfl ?_
      refine xe_sn pg_103 4 (fr' := (15, [(0, .int 3), (1, .int 1), (2, .int 3)], [.int 1])) rfl ?_
      exact xe_end pg_103 rfl
    refine xe_sn pg_143 4 (fr' := (25, [(0, .ref 165), (1, .int 2), (2, .int 3), (3, .int p2), (4, .int p3)], [.int 7, .int 0, .int p2, .ref 165])) rfl ?_
    apply xe_callq pg_143 103 [.int p2, .int 0, .int 7] (.inl (some (.int 0))) (28, [(0, .ref 165), (1, .int 2), (2, .int 3), (3, .int p2), (4, .int p3)], [.int 0, .ref 165]) rfl (fun _ => rfl)
    · refine xe_sn pg_103 2 (fr' := (2, [(0, .int p2), (1, .int 0), (2, .int 7)], [.int 0, .int p2])) rfl ?_
      refine xe_f2 pg_103 14 rfl rfl (by show ¬ ((p2).toInt < 0); omega) ?_
      refine xe_sn pg_103 2 (fr' := (7, [(0, .int p2), (1, .int 0), (2, .int 7)], [.int 7, .int p2])) rfl ?_
      refine xe_t2 pg_103 14 rfl rfl (by show 7 < (p2).toInt; omega) ?_
      refine xe_sn pg_103 1 (fr' := (15, [(0, .int p2), (1, .int 0), (2, .int 7)], [.int 0])) rfl ?_
      exact xe_end pg_103 rfl
    refine xe_sn pg_143 4 (fr' := (51, [(0, .ref 165), (1, .int 2), (2, .int 3), (3, .int p2), (4, .int p3)], [])) rfl ?_
    refine xe_sn pg_143 4 (fr' := (69, [(0, .ref 165), (1, .int 2), (2, .int 3), (3, .int p2), (4, .int p3)], [.int 0])) rfl ?_
    refine xe_sn pg_143 4 (fr' := (76, [(5, .int 0), (0, .ref 165), (1, .int 2), (2, .int 3), (3, .int p2), (4, .int p3)], [.int 2, .ref 165])) rfl ?_
    refine xe_sn pg_143 4 (fr' := (111, [(5, .int 0), (0, .ref 165), (1, .int 2), (2, .int 3), (3, .int p2), (4, .int p3)], [])) rfl ?_
    refine xe_sn pg_143 4 (fr' := (119, [(5, .int 0), (0, .ref 165), (1, .int 2), (2, .int 3), (3, .int p2), (4, .int p3)], [.int 0])) rfl ?_
    exact xe_end pg_143 rfl
  · exact ⟨⟨rfl, rfl, rfl, rfl⟩, Nat.le_of_ble_eq_true rfl, Nat.le_of_ble_eq_true rfl, rfl, fun q => absurd q (by decide)⟩

set_option maxRecDepth 100000 in
theorem lf_send_50 (xs : Nat → Int32) (p2 : Int32) (p3 : Int32) (a2 : 0 ≤ p2.toInt) (b2 : p2.toInt ≤ 7) (a3 : p3.toInt < 0) : op_ok xs 164 143 [.ref 0, .int 2, .int 3, .int p2, .int p3, .ref 189] [.ref 165, .int 2, .int 3, .int p2, .int p3] := by
  refine ⟨2, 0, ?_⟩
  apply Exists.intro
  apply Exists.intro
  apply And.intro
  · refine xe_sn pg_164 4 (fr' := (5, [(0, .ref 0), (1, .int 2), (2, .int 3), (3, .int p2), (4, .int p3), (5, .ref 189)], [.int 2, .ref 0, .int 0, .ref 189])) rfl ?_
    refine xe_sn pg_164 3 (fr' := (9, [(0, .ref 0), (1, .int 2), (2, .int 3), (3, .int p2), (4, .int p3), (5, .ref 189)], [.int p3, .int p2, .int 3, .int 2, .ref 0, .int 0, .ref 189])) rfl ?_
    apply xe_callq pg_164 77 [.ref 0, .int 2, .int 3, .int p2, .int p3] (.inr 1) (23, [(0, .ref 0), (1, .int 2), (2, .int 3), (3, .int p2), (4, .int p3), (5, .ref 189)], []) rfl (fun _ => rfl)
    · refine xe_sn pg_77 1 (fr' := (1, [(0, .ref 0), (1, .int 2), (2, .int 3), (3, .int p2), (4, .int p3)], [.int 2])) rfl ?_
      apply xe_callq pg_77 92 [.int 2] (.inl none) (4, [(0, .ref 0), (1, .int 2), (2, .int 3), (3, .int p2), (4, .int p3)], []) rfl (fun _ => rfl)
      · refine xe_sn pg_92 2 (fr' := (2, [(0, .int 2)], [.int 4, .int 2])) rfl ?_
        apply xe_callq pg_92 95 [.int 2, .int 4] (.inl none) (5, [(0, .int 2)], []) rfl (fun _ => rfl)
        · refine xe_sn pg_95 4 (fr' := (6, [(0, .int 2), (1, .int 4)], [.int 4, .int 2])) rfl ?_
          refine xe_sn pg_95 1 (fr' := (17, [(0, .int 2), (1, .int 4)], [])) rfl ?_
          exact xe_end pg_95 rfl
        exact xe_end pg_92 rfl
      refine xe_sn pg_77 1 (fr' := (5, [(0, .ref 0), (1, .int 2), (2, .int 3), (3, .int p2), (4, .int p3)], [.int 3])) rfl ?_
      apply xe_callq pg_77 94 [.int 3] (.inl none) (8, [(0, .ref 0), (1, .int 2), (2, .int 3), (3, .int p2), (4, .int p3)], []) rfl (fun _ => rfl)
      · refine xe_sn pg_94 1 (fr' := (1, [(0, .int 3)], [.int 3])) rfl ?_
        apply xe_callq pg_94 100 [.int 3] (.inl (some (.int 1))) (4, [(0, .int 3)], [.int 1]) rfl (fun _ => rfl)
        · refine xe_sn pg_100 4 (fr' := (6, [(0, .int 3)], [.int 3])) rfl ?_
          refine xe_sn pg_100 4 (fr' := (15, [(0, .int 3)], [.int 1])) rfl ?_
          exact xe_end pg_100 rfl
        refine xe_sn pg_94 1 (fr' := (15, [(0, .int 3)], [])) rfl ?_
        exact xe_end pg_94 rfl
      refine xe_sn pg_77 1 (fr' := (9, [(0, .ref 0), (1, .int 2), (2, .int 3), (3, .int p2), (4, .int p3)], [.int p2])) rfl ?_
      refine xe_f1 pg_77 22 rfl rfl (by show ¬ ((p2).toInt < 0); omega) ?_
      refine xe_sn pg_77 2 (fr' := (15, [(0, .ref 0), (1, .int 2), (2, .int 3), (3, .int p2), (4, .int p3)], [.int 7, .int p2])) rfl ?_
      refine xe_f2 pg_77 22 rfl rfl (by show ¬ (7 < (p2).toInt); omega) ?_
      refine xe_sn pg_77 2 (fr' := (23, [(0, .ref 0), (1, .int 2), (2, .int 3), (3, .int p2), (4, .int p3)], [.int 1])) rfl ?_
      apply xe_callq pg_77 97 [.int 1] (.inl none) (26, [(0, .ref 0), (1, .int 2), (2, .int 3), (3, .int p2), (4, .int p3)], []) rfl (fun _ => rfl)
      · refine xe_sn pg_97 2 (fr' := (12, [(0, .int 1)], [])) rfl ?_
        exact xe_end pg_97 rfl
      refine xe_sn pg_77 1 (fr' := (28, [(0, .ref 0), (1, .int 2), (2, .int 3), (3, .int p2), (4, .int p3)], [.int p3])) rfl ?_
      apply xe_callq pg_77 99 [.int p3] (.inl (some (.int 0))) (31, [(0, .ref 0), (1, .int 2), (2, .int 3), (3, .int p2), (4, .int p3)], [.int 0]) rfl (fun _ => rfl)
      · refine xe_sn pg_99 1 (fr' := (1, [(0, .int p3)], [.int p3])) rfl ?_
        refine xe_t1 pg_99 15 rfl rfl (by show (p3).toInt < 0; omega) ?_
        refine xe_sn pg_99 1 (fr' := (16, [(0, .int p3)], [.int 0])) rfl ?_
        exact xe_end pg_99 rfl
      apply xe_callqx pg_77 97 [.int 0] 1 rfl (fun _ => rfl)
      · refine xe_sn pg_97 2 (fr' := (4, [(0, .int 0)], [])) rfl ?_
        exact xe_end pg_97 rfl
    refine xe_sn pg_164 1 (fr' := (24, [(0, .ref 0), (1, .int 2), (2, .int 3), (3, .int p2), (4, .int p3), (5, .ref 189)], [.int 2])) rfl ?_
    exact xe_end pg_164 rfl
  refine And.intro ⟨rfl, rfl, rfl, rfl⟩ ?_
  apply And.intro
  · refine xe_sn pg_143 2 (fr' := (2, [(0, .ref 165), (1, .int 2), (2, .int 3), (3, .int p2), (4, .int p3)], [.int 2, .ref 165])) rfl ?_
    apply xe_callq pg_143 104 [.int 2] (.inl (some (.int 1))) (5, [(0, .ref 165), (1, .int 2), (2, .int 3), (3, .int p2), (4, .int p3)], [.int 1, .ref 165]) rfl (fun _ => rfl)
    · refine xe_sn pg_104 3 (fr' := (3, [(0, .int 2)], [.int 3, .int 0, .int 2])) rfl ?_
      apply xe_callq pg_104 103 [.int 2, .int 0, .int 3] (.inl (some (.int 1))) (6, [(0, .int 2)], [.int 1]) rfl (fun _ => rfl)
      · refine xe_sn pg_103 4 (fr' := (6, [(0, .int 2), (1, .int 0), (2, .int 3)], [.int 2])) rfl ?_
        refine xe_sn pg_103 4 (fr' := (15, [(0, .int 2), (1, .int 0), (2, .int 3)], [.int 1])) rfl ?_
        exact xe_end pg_103 rfl
      exact xe_end pg_104 rfl
    refine xe_sn pg_143 4 (fr' := (11, [(0, .ref 165), (1, .int 2), (2, .int 3), (3, .int p2), (4, .int p3)], [.int 3, .int 1, .int 3, .ref 165])) rfl ?_
    apply xe_callq pg_143 103 [.int 3, .int 1, .int 3] (.inl (some (.int 1))) (14, [(0, .ref 165), (1, .int 2), (2, .int 3), (3, .int p2), (4, .int p3)], [.int 1, .ref 165]) rfl (fun _ => rfl)
    · refine xe_sn pg_103 4 (fr' := (6, [(0, .int 3), (1, .int 1), (2, .int 3)], [.int 3])) rfl ?_
      refine xe_sn pg_103 4 (fr' := (15, [(0, .int 3), (1, .int 1), (2, .int 3)], [.int 1])) rfl ?_
      exact xe_end pg_103 rfl
    refine xe_sn pg_143 4 (fr' := (25, [(0, .ref 165), (1, .int 2), (2, .int 3), (3, .int p2), (4, .int p3)], [.int 7, .int 0, .int p2, .ref 165])) rfl ?_
    apply xe_callq pg_143 103 [.int p2, .int 0, .int 7] (.inl (some (.int 1))) (28, [(0, .ref 165), (1, .int 2), (2, .int 3), (3, .int p2), (4, .int p3)], [.int 1, .ref 165]) rfl (fun _ => rfl)
    · refine xe_sn pg_103 2 (fr' := (2, [(0, .int p2), (1, .int 0), (2, .int 7)], [.int 0, .int p2])) rfl ?_
      refine xe_f2 pg_103 14 rfl rfl (by show ¬ ((p2).toInt < 0); omega) ?_
      refine xe_sn pg_103 2 (fr' := (7, [(0, .int p2), (1, .int 0), (2, .int 7)], [.int 7, .int p2])) rfl ?_
      refine xe_f2 pg_103 14 rfl rfl (by show ¬ (7 < (p2).toInt); omega) ?_
      refine xe_sn pg_103 2 (fr' := (15, [(0, .int p2), (1, .int 0), (2, .int 7)], [.int 1])) rfl ?_
      exact xe_end pg_103 rfl
    refine xe_sn pg_143 4 (fr' := (37, [(0, .ref 165), (1, .int 2), (2, .int 3), (3, .int p2), (4, .int p3)], [.int 255, .int 0, .int p3, .ref 165])) rfl ?_
    apply xe_callq pg_143 103 [.int p3, .int 0, .int 255] (.inl (some (.int 0))) (40, [(0, .ref 165), (1, .int 2), (2, .int 3), (3, .int p2), (4, .int p3)], [.int 0, .ref 165]) rfl (fun _ => rfl)
    · refine xe_sn pg_103 2 (fr' := (2, [(0, .int p3), (1, .int 0), (2, .int 255)], [.int 0, .int p3])) rfl ?_
      refine xe_t2 pg_103 14 rfl rfl (by show (p3).toInt < 0; omega) ?_
      refine xe_sn pg_103 1 (fr' := (15, [(0, .int p3), (1, .int 0), (2, .int 255)], [.int 0])) rfl ?_
      exact xe_end pg_103 rfl
    refine xe_sn pg_143 4 (fr' := (51, [(0, .ref 165), (1, .int 2), (2, .int 3), (3, .int p2), (4, .int p3)], [])) rfl ?_
    refine xe_sn pg_143 4 (fr' := (69, [(0, .ref 165), (1, .int 2), (2, .int 3), (3, .int p2), (4, .int p3)], [.int 0])) rfl ?_
    refine xe_sn pg_143 4 (fr' := (76, [(5, .int 0), (0, .ref 165), (1, .int 2), (2, .int 3), (3, .int p2), (4, .int p3)], [.int 2, .ref 165])) rfl ?_
    refine xe_sn pg_143 4 (fr' := (111, [(5, .int 0), (0, .ref 165), (1, .int 2), (2, .int 3), (3, .int p2), (4, .int p3)], [])) rfl ?_
    refine xe_sn pg_143 4 (fr' := (119, [(5, .int 0), (0, .ref 165), (1, .int 2), (2, .int 3), (3, .int p2), (4, .int p3)], [.int 0])) rfl ?_
    exact xe_end pg_143 rfl
  · exact ⟨⟨rfl, rfl, rfl, rfl⟩, Nat.le_of_ble_eq_true rfl, Nat.le_of_ble_eq_true rfl, rfl, fun q => absurd q (by decide)⟩

set_option maxRecDepth 100000 in
theorem lf_send_51 (xs : Nat → Int32) (p2 : Int32) (p3 : Int32) (a2 : 0 ≤ p2.toInt) (b2 : p2.toInt ≤ 7) (b3 : 255 < p3.toInt) : op_ok xs 164 143 [.ref 0, .int 2, .int 3, .int p2, .int p3, .ref 189] [.ref 165, .int 2, .int 3, .int p2, .int p3] := by
  refine ⟨2, 0, ?_⟩
  apply Exists.intro
  apply Exists.intro
  apply And.intro
  · refine xe_sn pg_164 4 (fr' := (5, [(0, .ref 0), (1, .int 2), (2, .int 3), (3, .int p2), (4, .int p3), (5, .ref 189)], [.int 2, .ref 0, .int 0, .ref 189])) rfl ?_
    refine xe_sn pg_164 3 (fr' := (9, [(0, .ref 0), (1, .int 2), (2, .int 3), (3, .int p2), (4, .int p3), (5, .ref 189)], [.int p3, .int p2, .int 3, .int 2, .ref 0, .int 0, .ref 189])) rfl ?_
    apply xe_callq pg_164 77 [.ref 0, .int 2, .int 3, .int p2, .int p3] (.inr 1) (23, [(0, .ref 0), (1, .int 2), (2, .int 3), (3, .int p2), (4, .int p3), (5, .ref 189)], []) rfl (fun _ => rfl)
    · refine xe_sn pg_77 1 (fr' := (1, [(0, .ref 0), (1, .int 2), (2, .int 3), (3, .int p2), (4, .int p3)], [.int 2])) rfl ?_
      apply xe_callq pg_77 92 [.int 2] (.inl none) (4, [(0, .ref 0), (1, .int 2), (2, .int 3), (3, .int p2), (4, .int p3)], []) rfl (fun _ => rfl)
      · refine xe_sn pg_92 2 (fr' := (2, [(0, .int 2)], [.int 4, .int 2])) rfl ?_
        apply xe_callq pg_92 95 [.int 2, .int 4] (.inl none) (5, [(0, .int 2)], []) rfl (fun _ => rfl)
        · refine xe_sn pg_95 4 (fr' := (6, [(0, .int 2), (1, .int 4)], [.int 4, .int 2])) rfl ?_
          refine xe_sn pg_95 1 (fr' := (17, [(0, .int 2), (1, .int 4)], [])) rfl ?_
          exact xe_end pg_95 rfl
        exact xe_end pg_92 rfl
      refine xe_sn pg_77 1 (fr' := (5, [(0, .ref 0), (1, .int 2), (2, .int 3), (3, .int p2), (4, .int p3)], [.int 3])) rfl ?_
      apply xe_callq pg_77 94 [.int 3] (.inl none) (8, [(0, .ref 0), (1, .int 2), (2, .int 3), (3, .int p2), (4, .int p3)], []) rfl (fun _ => rfl)
      · refine xe_sn pg_94 1 (fr' := (1, [(0, .int 3)], [.int 3])) rfl ?_
        apply xe_callq pg_94 100 [.int 3] (.inl (some (.int 1))) (4, [(0, .int 3)], [.int 1]) rfl (fun _ => rfl)
        · refine xe_sn pg_100 4 (fr' := (6, [(0, .int 3)], [.int 3])) rfl ?_
          refine xe_sn pg_100 4 (fr' := (15, [(0, .int 3)], [.int 1])) rfl ?_
          exact xe_end pg_100 rfl
        refine xe_sn pg_94 1 (fr' := (15, [(0, .int 3)], [])) rfl ?_
        exact xe_end pg_94 rfl
      refine xe_sn pg_77 1 (fr' := (9, [(0, .ref 0), (1, .int 2), (2, .int 3), (3, .int p2), (4, .int p3)], [.int p2])) rfl ?_
      refine xe_f1 pg_77 22 rfl rfl (by show ¬ ((p2).toInt < 0); omega) ?_
      refine xe_sn pg_77 2 (fr' := (15, [(0, .ref 0), (1, .int 2), (2, .int 3), (3, .int p2), (4, .int p3)], [.int 7, .int p2])) rfl ?_
      refine xe_f2 pg_77 22 rfl rfl (by show ¬ (7 < (p2).toInt); omega) ?_
      refine xe_sn pg_77 2 (fr' := (23, [(0, .ref 0), (1, .int 2), (2, .int 3), (3, .int p2), (4, .int p3)], [.int 1])) rfl ?_
      apply xe_callq pg_77 97 [.int 1] (.inl none) (26, [(0, .ref 0), (1, .int 2), (2, .int 3), (3, .int p2), (4, .int p3)], []) rfl (fun _ => rfl)
      · refine xe_sn pg_97 2 (fr' := (12, [(0, .int 1)], [])) rfl ?_
        exact xe_end pg_97 rfl
      refine xe_sn pg_77 1 (fr' := (28, [(0, .ref 0), (1, .int 2), (2, .int 3), (3, .int p2), (4, .int p3)], [.int p3])) rfl ?_
      apply xe_callq pg_77 99 [.int p3] (.inl (some (.int 0))) (31, [(0, .ref 0), (1, .int 2), (2, .int 3), (3, .int p2), (4, .int p3)], [.int 0]) rfl (fun _ => rfl)
      · refine xe_sn pg_99 1 (fr' := (1, [(0, .int p3)], [.int p3])) rfl ?_
        refine xe_f1 pg_99 15 rfl rfl (by show ¬ ((p3).toInt < 0); omega) ?_
        refine xe_sn pg_99 2 (fr' := (8, [(0, .int p3)], [.int 255, .int p3])) rfl ?_
        refine xe_t2 pg_99 15 rfl rfl (by show 255 < (p3).toInt; omega) ?_
        refine xe_sn pg_99 1 (fr' := (16, [(0, .int p3)], [.int 0])) rfl ?_
        exact xe_end pg_99 rfl
      apply xe_callqx pg_77 97 [.int 0] 1 rfl (fun _ => rfl)
      · refine xe_sn pg_97 2 (fr' := (4, [(0, .int 0)], [])) rfl ?_
        exact xe_end pg_97 rfl
    refine xe_sn pg_164 1 (fr' := (24, [(0, .ref 0), (1, .int 2), (2, .int 3), (3, .int p2), (4, .int p3), (5, .ref 189)], [.int 2])) rfl ?_
    exact xe_end pg_164 rfl
  refine And.intro ⟨rfl, rfl, rfl, rfl⟩ ?_
  apply And.intro
  · refine xe_sn pg_143 2 (fr' := (2, [(0, .ref 165), (1, .int 2), (2, .int 3), (3, .int p2), (4, .int p3)], [.int 2, .ref 165])) rfl ?_
    apply xe_callq pg_143 104 [.int 2] (.inl (some (.int 1))) (5, [(0, .ref 165), (1, .int 2), (2, .int 3), (3, .int p2), (4, .int p3)], [.int 1, .ref 165]) rfl (fun _ => rfl)
    · refine xe_sn pg_104 3 (fr' := (3, [(0, .int 2)], [.int 3, .int 0, .int 2])) rfl ?_
      apply xe_callq pg_104 103 [.int 2, .int 0, .int 3] (.inl (some (.int 1))) (6, [(0, .int 2)], [.int 1]) rfl (fun _ => rfl)
      · refine xe_sn pg_103 4 (fr' := (6, [(0, .int 2), (1, .int 0), (2, .int 3)], [.int 2])) rfl ?_
        refine xe_sn pg_103 4 (fr' := (15, [(0, .int 2), (1, .int 0), (2, .int 3)], [.int 1])) rfl ?_
        exact xe_end pg_103 rfl
      exact xe_end pg_104 rfl
    refine xe_sn pg_143 4 (fr' := (11, [(0, .ref 165), (1, .int 2), (2, .int 3), (3, .int p2), (4, .int p3)], [.int 3, .int 1, .int 3, .ref 165])) rfl ?_
    apply xe_callq pg_143 103 [.int 3, .int 1, .int 3] (.inl (some (.int 1))) (14, [(0, .ref 165), (1, .int 2), (2, .int 3), (3, .int p2), (4, .int p3)], [.int 1, .ref 165]) rfl (fun _ => rfl)
    · refine xe_sn pg_103 4 (fr' := (6, [(0, .int 3), (1, .int 1), (2, .int 3)], [.int 3])) rfl ?_
      refine xe_sn pg_103 4 (fr' := (15, [(0, .int 3), (1, .int 1), (2, .int 3)], [.int 1])) rfl ?_
      exact xe_end pg_103 rfl
    refine xe_sn pg_143 4 (fr' := (25, [(0, .ref 165), (1, .int 2), (2, .int 3), (3, .int p2), (4, .int p3)], [.int 7, .int 0, .int p2, .ref 165])) rfl ?_
    apply xe_callq pg_143 103 [.int p2, .int 0, .int 7] (.inl (some (.int 1))) (28, [(0, .ref 165), (1, .int 2), (2, .int 3), (3, .int p2), (4, .int p3)], [.int 1, .ref 165]) rfl (fun _ => rfl)
    · refine xe_sn pg_103 2 (fr' := (2, [(0, .int p2), (1, .int 0), (2, .int 7)], [.int 0, .int p2])) rfl ?_
      refine xe_f2 pg_103 14 rfl rfl (by show ¬ ((p2).toInt < 0); omega) ?_
      refine xe_sn pg_103 2 (fr' := (7, [(0, .int p2), (1, .int 0), (2, .int 7)], [.int 7, .int p2])) rfl ?_
      refine xe_f2 pg_103 14 rfl rfl (by show ¬ (7 < (p2).toInt); omega) ?_
      refine xe_sn pg_103 2 (fr' := (15, [(0, .int p2), (1, .int 0), (2, .int 7)], [.int 1])) rfl ?_
      exact xe_end pg_103 rfl
    refine xe_sn pg_143 4 (fr' := (37, [(0, .ref 165), (1, .int 2), (2, .int 3), (3, .int p2), (4, .int p3)], [.int 255, .int 0, .int p3, .ref 165])) rfl ?_
    apply xe_callq pg_143 103 [.int p3, .int 0, .int 255] (.inl (some (.int 0))) (40, [(0, .ref 165), (1, .int 2), (2, .int 3), (3, .int p2), (4, .int p3)], [.int 0, .ref 165]) rfl (fun _ => rfl)
    · refine xe_sn pg_103 2 (fr' := (2, [(0, .int p3), (1, .int 0), (2, .int 255)], [.int 0, .int p3])) rfl ?_
      refine xe_f2 pg_103 14 rfl rfl (by show ¬ ((p3).toInt < 0); omega) ?_
      refine xe_sn pg_103 2 (fr' := (7, [(0, .int p3), (1, .int 0), (2, .int 255)], [.int 255, .int p3])) rfl ?_
      refine xe_t2 pg_103 14 rfl rfl (by show 255 < (p3).toInt; omega) ?_
      refine xe_sn pg_103 1 (fr' := (15, [(0, .int p3), (1, .int 0), (2, .int 255)], [.int 0])) rfl ?_
      exact xe_end pg_103 rfl
    refine xe_sn pg_143 4 (fr' := (51, [(0, .ref 165), (1, .int 2), (2, .int 3), (3, .int p2), (4, .int p3)], [])) rfl ?_
    refine xe_sn pg_143 4 (fr' := (69, [(0, .ref 165), (1, .int 2), (2, .int 3), (3, .int p2), (4, .int p3)], [.int 0])) rfl ?_
    refine xe_sn pg_143 4 (fr' := (76, [(5, .int 0), (0, .ref 165), (1, .int 2), (2, .int 3), (3, .int p2), (4, .int p3)], [.int 2, .ref 165])) rfl ?_
    refine xe_sn pg_143 4 (fr' := (111, [(5, .int 0), (0, .ref 165), (1, .int 2), (2, .int 3), (3, .int p2), (4, .int p3)], [])) rfl ?_
    refine xe_sn pg_143 4 (fr' := (119, [(5, .int 0), (0, .ref 165), (1, .int 2), (2, .int 3), (3, .int p2), (4, .int p3)], [.int 0])) rfl ?_
    exact xe_end pg_143 rfl
  · exact ⟨⟨rfl, rfl, rfl, rfl⟩, Nat.le_of_ble_eq_true rfl, Nat.le_of_ble_eq_true rfl, rfl, fun q => absurd q (by decide)⟩

set_option maxRecDepth 100000 in
theorem lf_send_52 (xs : Nat → Int32) (p2 : Int32) (p3 : Int32) (a2 : 0 ≤ p2.toInt) (b2 : p2.toInt ≤ 7) (a3 : 0 ≤ p3.toInt) (b3 : p3.toInt ≤ 255) : op_ok xs 164 143 [.ref 0, .int 2, .int 3, .int p2, .int p3, .ref 189] [.ref 165, .int 2, .int 3, .int p2, .int p3] := by
  refine ⟨3, 0, ?_⟩
  apply Exists.intro
  apply Exists.intro
  apply And.intro
  · refine xe_sn pg_164 4 (fr' := (5, [(0, .ref 0), (1, .int 2), (2, .int 3), (3, .int p2), (4, .int p3), (5, .ref 189)], [.int 2, .ref 0, .int 0, .ref 189])) rfl ?_
    refine xe_sn pg_164 3 (fr' := (9, [(0, .ref 0), (1, .int 2), (2, .int 3), (3, .int p2), (4, .int p3), (5, .ref 189)], [.int p3, .int p2, .int 3, .int 2, .ref 0, .int 0, .ref 189])) rfl ?_
    apply xe_callq pg_164 77 [.ref 0, .int 2, .int 3, .int p2, .int p3] (.inr 2) (27, [(0, .ref 0), (1, .int 2), (2, .int 3), (3, .int p2), (4, .int p3), (5, .ref 189)], []) rfl (fun _ => rfl)
    · refine xe_sn pg_77 1 (fr' := (1, [(0, .ref 0), (1, .int 2), (2, .int 3), (3, .int p2), (4, .int p3)], [.int 2])) rfl ?_
      apply xe_callq pg_77 92 [.int 2] (.inl none) (4, [(0, .ref 0), (1, .int 2), (2, .int 3), (3, .int p2), (4, .int p3)], []) rfl (fun _ => rfl)
      · refine xe_sn pg_92 2 (fr' := (2, [(0, .int 2)], [.int 4, .int 2])) rfl ?_
        apply xe_callq pg_92 95 [.int 2, .int 4] (.inl none) (5, [(0, .int 2)], []) rfl (fun _ => rfl)
        · refine xe_sn pg_95 4 (fr' := (6, [(0, .int 2), (1, .int 4)], [.int 4, .int 2])) rfl ?_
          refine xe_sn pg_95 1 (fr' := (17, [(0, .int 2), (1, .int 4)], [])) rfl ?_
          exact xe_end pg_95 rfl
        exact xe_end pg_92 rfl
      refine xe_sn pg_77 1 (fr' := (5, [(0, .ref 0), (1, .int 2), (2, .int 3), (3, .int p2), (4, .int p3)], [.int 3])) rfl ?_
      apply xe_callq pg_77 94 [.int 3] (.inl none) (8, [(0, .ref 0), (1, .int 2), (2, .int 3), (3, .int p2), (4, .int p3)], []) rfl (fun _ => rfl)
      · refine xe_sn pg_94 1 (fr' := (1, [(0, .int 3)], [.int 3])) rfl ?_
        apply xe_callq pg_94 100 [.int 3] (.inl (some (.int 1))) (4, [(0, .int 3)], [.int 1]) rfl (fun _ => rfl)
        · refine xe_sn pg_100 4 (fr' := (6, [(0, .int 3)], [.int 3])) rfl ?_
          refine xe_sn pg_100 4 (fr' := (15, [(0, .int 3)], [.int 1])) rfl ?_
          exact xe_end pg_100 rfl
        refine xe_sn pg_94 1 (fr' := (15, [(0, .int 3)], [])) rfl ?_
        exact xe_end pg_94 rfl
      refine xe_sn pg_77 1 (fr' := (9, [(0, .ref 0), (1, .int 2), (2, .int 3), (3, .int p2), (4, .int p3)], [.int p2])) rfl ?_
      refine xe_f1 pg_77 22 rfl rfl (by show ¬ ((p2).toInt < 0); omega) ?_
      refine xe_sn pg_77 2 (fr' := (15, [(0, .ref 0), (1, .int 2), (2, .int 3), (3, .int p2), (4, .int p3)], [.int 7, .int p2])) rfl ?_
      refine xe_f2 pg_77 22 rfl rfl (by show ¬ (7 < (p2).toInt); omega) ?_
      refine xe_sn pg_77 2 (fr' := (23, [(0, .ref 0), (1, .int 2), (2, .int 3), (3, .int p2), (4, .int p3)], [.int 1])) rfl ?_
      apply xe_callq pg_77 97 [.int 1] (.inl none) (26, [(0, .ref 0), (1, .int 2), (2, .int 3), (3, .int p2), (4, .int p3)], []) rfl (fun _ => rfl)
      · refine xe_sn pg_97 2 (fr' := (12, [(0, .int 1)], [])) rfl ?_
        exact xe_end pg_97 rfl
      refine xe_sn pg_77 1 (fr' := (28, [(0, .ref 0), (1, .int 2), (2, .int 3), (3, .int p2), (4, .int p3)], [.int p3])) rfl ?_
      apply xe_callq pg_77 99 [.int p3] (.inl (some (.int 1))) (31, [(0, .ref 0), (1, .int 2), (2, .int 3), (3, .int p2), (4, .int p3)], [.int 1]) rfl (fun _ => rfl)
      · refine xe_sn pg_99 1 (fr' := (1, [(0, .int p3)], [.int p3])) rfl ?_
        refine xe_f1 pg_99 15 rfl rfl (by show ¬ ((p3).toInt < 0); omega) ?_
        refine xe_sn pg_99 2 (fr' := (8, [(0, .int p3)], [.int 255, .int p3])) rfl ?_
        refine xe_f2 pg_99 15 rfl rfl (by show ¬ (255 < (p3).toInt); omega) ?_
        refine xe_sn pg_99 2 (fr' := (16, [(0, .int p3)], [.int 1])) rfl ?_
        exact xe_end pg_99 rfl
      apply xe_callq pg_77 97 [.int 1] (.inl none) (34, [(0, .ref 0), (1, .int 2), (2, .int 3), (3, .int p2), (4, .int p3)], []) rfl (fun _ => rfl)
      · refine xe_sn pg_97 2 (fr' := (12, [(0, .int 1)], [])) rfl ?_
        exact xe_end pg_97 rfl
      refine xe_sn pg_77 4 (fr' := (40, [(0, .ref 0), (1, .int 2), (2, .int 3), (3, .int p2), (4, .int p3)], [.ref 143])) rfl ?_
      refine xe_sn pg_77 4 (fr' := (46, [(0, .ref 0), (1, .int 2), (2, .int 3), (3, .int p2), (4, .int p3)], [.int 2, .ref 149])) rfl ?_
      refine xe_sn pg_77 4 (fr' := (54, [(5, .ref 153), (0, .ref 0), (1, .int 2), (2, .int 3), (3, .int p2), (4, .int p3)], [.int 0])) rfl ?_
      refine xe_sn pg_77 3 (fr' := (71, [(5, .ref 153), (0, .ref 0), (1, .int 2), (2, .int 3), (3, .int p2), (4, .int p3)], [.int 0])) rfl ?_
      apply xe_callqx pg_77 98 [.int 0] 2 rfl (fun _ => rfl)
      · refine xe_sn pg_98 2 (fr' := (4, [(0, .int 0)], [])) rfl ?_
        exact xe_end pg_98 rfl
    refine xe_sn pg_164 1 (fr' := (28, [(0, .ref 0), (1, .int 2), (2, .int 3), (3, .int p2), (4, .int p3), (5, .ref 189)], [.int 3])) rfl ?_
    exact xe_end pg_164 rfl
  refine And.intro ⟨rfl, rfl, rfl, rfl⟩ ?_
  apply And.intro
  · refine xe_sn pg_143 2 (fr' := (2, [(0, .ref 165), (1, .int 2), (2, .int 3), (3, .int p2), (4, .int p3)], [.int 2, .ref 165])) rfl ?_
    apply xe_callq pg_143 104 [.int 2] (.inl (some (.int 1))) (5, [(0, .ref 165), (1, .int 2), (2, .int 3), (3, .int p2), (4, .int p3)], [.int 1, .ref 165]) rfl (fun _ => rfl)
    · refine xe_sn pg_104 3 (fr' := (3, [(0, .int 2)], [.int 3, .int 0, .int 2])) rfl ?_
      apply xe_callq pg_104 103 [.int 2, .int 0, .int 3] (.inl (some (.int 1))) (6, [(0, .int 2)], [.int 1]) rfl (fun _ => rfl)
      · refine xe_sn pg_103 4 (fr' := (6, [(0, .int 2), (1, .int 0), (2, .int 3)], [.int 2])) rfl ?_
        refine xe_sn pg_103 4 (fr' := (15, [(0, .int 2), (1, .int 0), (2, .int 3)], [.int 1])) rfl ?_
        exact xe_end pg_103 rfl
      exact xe_end pg_104 rfl
    refine xe_sn pg_143 4 (fr' := (11, [(0, .ref 165), (1, .int 2), (2, .int 3), (3, .int p2), (4, .int p3)], [.int 3, .int 1, .int 3, .ref 165])) rfl ?_
    apply xe_callq pg_143 103 [.int 3, .int 1, .int 3] (.inl (some (.int 1))) (14, [(0, .ref 165), (1, .int 2), (2, .int 3), (3, .int p2), (4, .int p3)], [.int 1, .ref 165]) rfl (fun _ => rfl)
    · refine xe_sn pg_103 4 (fr' := (6, [(0, .int 3), (1, .int 1), (2, .int 3)], [.int 3])) rfl ?_
      refine xe_sn pg_103 4 (fr' := (15, [(0, .int 3), (1, .int 1), (2, .int 3)], [.int 1])) rfl ?_
      exact xe_end pg_103 rfl
    refine xe_sn pg_143 4 (fr' := (25, [(0, .ref 165), (1, .int 2), (2, .int 3), (3, .int p2), (4, .int p3)], [.int 7, .int 0, .int p2, .ref 165])) rfl ?_
    apply xe_callq pg_143 103 [.int p2, .int 0, .int 7] (.inl (some (.int 1))) (28, [(0, .ref 165), (1, .int 2), (2, .int 3), (3, .int p2), (4, .int p3)], [.int 1, .ref 165]) rfl (fun _ => rfl)
    · refine xe_sn pg_103 2 (fr' := (2, [(0, .int p2), (1, .int 0), (2, .int 7)], [.int 0, .int p2])) rfl ?_
      refine xe_f2 pg_103 14 rfl rfl (by show ¬ ((p2).toInt < 0); omega) ?_
      refine xe_sn pg_103 2 (fr' := (7, [(0, .int p2), (1, .int 0), (2, .int 7)], [.int 7, .int p2])) rfl ?_
      refine xe_f2 pg_103 14 rfl rfl (by show ¬ (7 < (p2).toInt); omega) ?_
      refine xe_sn pg_103 2 (fr' := (15, [(0, .int p2), (1, .int 0), (2, .int 7)], [.int 1])) rfl ?_
      exact xe_end pg_103 rfl
    refine xe_sn pg_143 4 (fr' := (37, [(0, .ref 165), (1, .int 2), (2, .int 3), (3, .int p2), (4, .int p3)], [.int 255, .int 0, .int p3, .ref 165])) rfl ?_
    apply xe_callq pg_143 103 [.int p3, .int 0, .int 255] (.inl (some (.int 1))) (40, [(0, .ref 165), (1, .int 2), (2, .int 3), (3, .int p2), (4, .int p3)], [.int 1, .ref 165]) rfl (fun _ => rfl)
    · refine xe_sn pg_103 2 (fr' := (2, [(0, .int p3), (1, .int 0), (2, .int 255)], [.int 0, .int p3])) rfl ?_
      refine xe_f2 pg_103 14 rfl rfl (by show ¬ ((p3).toInt < 0); omega) ?_
      refine xe_sn pg_103 2 (fr' := (7, [(0, .int p3), (1, .int 0), (2, .int 255)], [.int 255, .int p3])) rfl ?_
      refine xe_f2 pg_103 14 rfl rfl (by show ¬ (255 < (p3).toInt); omega) ?_
      refine xe_sn pg_103 2 (fr' := (15, [(0, .int p3), (1, .int 0), (2, .int 255)], [.int 1])) rfl ?_
      exact xe_end pg_103 rfl
    refine xe_sn pg_143 4 (fr' := (52, [(0, .ref 165), (1, .int 2), (2, .int 3), (3, .int p2), (4, .int p3)], [.ref 165])) rfl ?_
    refine xe_sn pg_143 4 (fr' := (60, [(0, .ref 165), (1, .int 2), (2, .int 3), (3, .int p2), (4, .int p3)], [.int 2, .int 3])) rfl ?_
    refine xe_sn pg_143 4 (fr' := (64, [(0, .ref 165), (1, .int 2), (2, .int 3), (3, .int p2), (4, .int p3)], [.int 1, .int 9])) rfl ?_
    refine xe_sn pg_143 4 (fr' := (72, [(5, .int 8), (0, .ref 165), (1, .int 2), (2, .int 3), (3, .int p2), (4, .int p3)], [.ref 165])) rfl ?_
    refine xe_sn pg_143 4 (fr' := (80, [(5, .int 8), (0, .ref 165), (1, .int 2), (2, .int 3), (3, .int p2), (4, .int p3)], [.ref 165, .ref 165])) rfl ?_
    refine xe_sn pg_143 4 (fr' := (87, [(5, .int 8), (0, .ref 165), (1, .int 2), (2, .int 3), (3, .int p2), (4, .int p3)], [.int 2, .int 0, .ref 165])) rfl ?_
    refine xe_sn pg_143 4 (fr' := (111, [(5, .int 8), (0, .ref 165), (1, .int 2), (2, .int 3), (3, .int p2), (4, .int p3)], [])) rfl ?_
    refine xe_sn pg_143 4 (fr' := (119, [(5, .int 8), (0, .ref 165), (1, .int 2), (2, .int 3), (3, .int p2), (4, .int p3)], [.int 0])) rfl ?_
    exact xe_end pg_143 rfl
  · exact ⟨⟨rfl, rfl, rfl, rfl⟩, Nat.le_of_ble_eq_true rfl, Nat.le_of_ble_eq_true rfl, rfl, fun q => absurd q (by decide)⟩

set_option maxRecDepth 100000 in
theorem lf_send_53 (xs : Nat → Int32) (p1 : Int32) (p2 : Int32) (p3 : Int32) (a1 : p1.toInt < 1) : op_ok xs 164 143 [.ref 0, .int 3, .int p1, .int p2, .int p3, .ref 189] [.ref 165, .int 3, .int p1, .int p2, .int p3] := by
  refine ⟨1, 0, ?_⟩
  apply Exists.intro
  apply Exists.intro
  apply And.intro
  · refine xe_sn pg_164 4 (fr' := (5, [(0, .ref 0), (1, .int 3), (2, .int p1), (3, .int p2), (4, .int p3), (5, .ref 189)], [.int 3, .ref 0, .int 0, .ref 189])) rfl ?_
    refine xe_sn pg_164 3 (fr' := (9, [(0, .ref 0), (1, .int 3), (2, .int p1), (3, .int p2), (4, .int p3), (5, .ref 189)], [.int p3, .int p2, .int p1, .int 3, .ref 0, .int 0, .ref 189])) rfl ?_
    apply xe_callq pg_164 77 [.ref 0, .int 3, .int p1, .int p2, .int p3] (.inr 0) (19, [(0, .ref 0), (1, .int 3), (2, .int p1), (3, .int p2), (4, .int p3), (5, .ref 189)], []) rfl (fun _ => rfl)
    · refine xe_sn pg_77 1 (fr' := (1, [(0, .ref 0), (1, .int 3), (2, .int p1), (3, .int p2), (4, .int p3)], [.int 3])) rfl ?_
      apply xe_callq pg_77 92 [.int 3] (.inl none) (4, [(0, .ref 0), (1, .int 3), (2, .int p1), (3, .int p2), (4, .int p3)], []) rfl (fun _ => rfl)
      · refine xe_sn pg_92 2 (fr' := (2, [(0, .int 3)], [.int 4, .int 3])) rfl ?_
        apply xe_callq pg_92 95 [.int 3, .int 4] (.inl none) (5, [(0, .int 3)], []) rfl (fun _ => rfl)
        · refine xe_sn pg_95 4 (fr' := (6, [(0, .int 3), (1, .int 4)], [.int 4, .int 3])) rfl ?_
          refine xe_sn pg_95 1 (fr' := (17, [(0, .int 3), (1, .int 4)], [])) rfl ?_
          exact xe_end pg_95 rfl
        exact xe_end pg_92 rfl
      refine xe_sn pg_77 1 (fr' := (5, [(0, .ref 0), (1, .int 3), (2, .int p1), (3, .int p2), (4, .int p3)], [.int p1])) rfl ?_
      apply xe_callqx pg_77 94 [.int p1] 0 rfl (fun _ => rfl)
      · refine xe_sn pg_94 1 (fr' := (1, [(0, .int p1)], [.int p1])) rfl ?_
        apply xe_callq pg_94 100 [.int p1] (.inl (some (.int 0))) (4, [(0, .int p1)], [.int 0]) rfl (fun _ => rfl)
        · refine xe_sn pg_100 2 (fr' := (2, [(0, .int p1)], [.int 1, .int p1])) rfl ?_
          refine xe_t2 pg_100 14 rfl rfl (by show (p1).toInt < 1; omega) ?_
          refine xe_sn pg_100 1 (fr' := (15, [(0, .int p1)], [.int 0])) rfl ?_
          exact xe_end pg_100 rfl
        refine xe_sn pg_94 1 (fr' := (7, [(0, .int p1)], [])) rfl ?_
        exact xe_end pg_94 rfl
    refine xe_sn pg_164 1 (fr' := (20, [(0, .ref 0), (1, .int 3), (2, .int p1), (3, .int p2), (4, .int p3), (5, .ref 189)], [.int 1])) rfl ?_
    exact xe_end pg_164 rfl
  refine And.intro ⟨rfl, rfl, rfl, rfl⟩ ?_
  apply And.intro
  · refine xe_sn pg_143 2 (fr' := (2, [(0, .ref 165), (1, .int 3), (2, .int p1), (3, .int p2), (4, .int p3)], [.int 3, .ref 165])) rfl ?_
    apply xe_callq pg_143 104 [.int 3] (.inl (some (.int 1))) (5, [(0, .ref 165), (1, .int 3), (2, .int p1), (3, .int p2), (4, .int p3)], [.int 1, .ref 165]) rfl (fun _ => rfl)
    · refine xe_sn pg_104 3 (fr' := (3, [(0, .int 3)], [.int 3, .int 0, .int 3])) rfl ?_
      apply xe_callq pg_104 103 [.int 3, .int 0, .int 3] (.inl (some (.int 1))) (6, [(0, .int 3)], [.int 1]) rfl (fun _ => rfl)
      · refine xe_sn pg_103 4 (fr' := (6, [(0, .int 3), (1, .int 0), (2, .int 3)], [.int 3])) rfl ?_
        refine xe_sn pg_103 4 (fr' := (15, [(0, .int 3), (1, .int 0), (2, .int 3)], [.int 1])) rfl ?_
        exact xe_end pg_103 rfl
      exact xe_end pg_104 rfl
    refine xe_sn pg_143 4 (fr' := (11, [(0, .ref 165), (1, .int 3), (2, .int p1), (3, .int p2), (4, .int p3)], [.int 3, .int 1, .int p1, .ref 165])) rfl ?_
    apply xe_callq pg_143 103 [.int p1, .int 1, .int 3] (.inl (some (.int 0))) (14, [(0, .ref 165), (1, .int 3), (2, .int p1), (3, .int p2), (4, .int p3)], [.int 0, .ref 165]) rfl (fun _ => rfl)
    · refine xe_sn pg_103 2 (fr' := (2, [(0, .int p1), (1, .int 1), (2, .int 3)], [.int 1, .int p1])) rfl ?_
      refine xe_t2 pg_103 14 rfl rfl (by show (p1).toInt < 1; omega) ?_
      refine xe_sn pg_103 1 (fr' := (15, [(0, .int p1), (1, .int 1), (2, .int 3)], [.int 0])) rfl ?_
      exact xe_end pg_103 rfl
    refine xe_sn pg_143 4 (fr' := (51, [(0, .ref 165), (1, .int 3), (2, .int p1), (3, .int p2), (4, .int p3)], [])) rfl ?_
    refine xe_sn pg_143 4 (fr' := (69, [(0, .ref 165), (1, .int 3), (2, .int p1), (3, .int p2), (4, .int p3)], [.int 0])) rfl ?_
    refine xe_sn pg_143 4 (fr' := (76, [(5, .int 0), (0, .ref 165), (1, .int 3), (2, .int p1), (3, .int p2), (4, .int p3)], [.int 1, .ref 165])) rfl ?_
    refine xe_sn pg_143 4 (fr' := (111, [(5, .int 0), (0, .ref 165), (1, .int 3), (2, .int p1), (3, .int p2), (4, .int p3)], [])) rfl ?_
    refine xe_sn pg_143 4 (fr' := (119, [(5, .int 0), (0, .ref 165), (1, .int 3), (2, .int p1), (3, .int p2), (4, .int p3)], [.int 0])) rfl ?_
    exact xe_end pg_143 rfl
  · exact ⟨⟨rfl, rfl, rfl, rfl⟩, Nat.le_of_ble_eq_true rfl, Nat.le_of_ble_eq_true rfl, rfl, fun q => absurd q (by decide)⟩

set_option maxRecDepth 100000 in
theorem lf_send_54 (xs : Nat → Int32) (p1 : Int32) (p2 : Int32) (p3 : Int32) (b1 : 3 < p1.toInt) : op_ok xs 164 143 [.ref 0, .int 3, .int p1, .int p2, .int p3, .ref 189] [.ref 165, .int 3, .int p1, .int p2, .int p3] := by
  refine ⟨1, 0, ?_⟩
  apply Exists.intro
  apply Exists.intro
  apply And.intro
  · refine xe_sn pg_164 4 (fr' := (5, [(0, .ref 0), (1, .int 3), (2, .int p1), (3, .int p2), (4, .int p3), (5, .ref 189)], [.int 3, .ref 0, .int 0, .ref 189])) rfl ?_
    refine xe_sn pg_164 3 (fr' := (9, [(0, .ref 0), (1, .int 3), (2, .int p1), (3, .int p2), (4, .int p3), (5, .ref 189)], [.int p3, .int p2, .int p1, .int 3, .ref 0, .int 0, .ref 189])) rfl ?_
    apply xe_callq pg_164 77 [.ref 0, .int 3, .int p1, .int p2, .int p3] (.inr 0) (19, [(0, .ref 0), (1, .int 3), (2, .int p1), (3, .int p2), (4, .int p3), (5, .ref 189)], []) rfl (fun _ => rfl)
    · refine xe_sn pg_77 1 (fr' := (1, [(0, .ref 0), (1, .int 3), (2, .int p1), (3, .int p2), (4, .int p3)], [.int 3])) rfl ?_
      apply xe_callq pg_77 92 [.int 3] (.inl none) (4, [(0, .ref 0), (1, .int 3), (2, .int p1), (3, .int p2), (4, .int p3)], []) rfl (fun _ => rfl)
      · refine xe_sn pg_92 2 (fr' := (2, [(0, .int 3)], [.int 4, .int 3])) rfl ?_
        apply xe_callq pg_92 95 [.int 3, .int 4] (.inl none) (5, [(0, .int 3)], []) rfl (fun _ => rfl)
        · refine xe_sn pg_95 4 (fr' := (6, [(0, .int 3), (1, .int 4)], [.int 4, .int 3])) rfl ?_
          refine xe_sn pg_95 1 (fr' := (17, [(0, .int 3), (1, .int 4)], [])) rfl ?_
          exact xe_end pg_95 rfl
        exact xe_end pg_92 rfl
      refine xe_sn pg_77 1 (fr' := (5, [(0, .ref 0), (1, .int 3), (2, .int p1), (3, .int p2), (4, .int p3)], [.int p1])) rfl ?_
      apply xe_callqx pg_77 94 [.int p1] 0 rfl (fun _ => rfl)
      · refine xe_sn pg_94 1 (fr' := (1, [(0, .int p1)], [.int p1])) rfl ?_
        apply xe_callq pg_94 100 [.int p1] (.inl (some (.int 0))) (4, [(0, .int p1)], [.int 0]) rfl (fun _ => rfl)
        · refine xe_sn pg_100 2 (fr' := (2, [(0, .int p1)], [.int 1, .int p1])) rfl ?_
          refine xe_f2 pg_100 14 rfl rfl (by show ¬ ((p1).toInt < 1); omega) ?_
          refine xe_sn pg_100 2 (fr' := (7, [(0, .int p1)], [.int 3, .int p1])) rfl ?_
          refine xe_t2 pg_100 14 rfl rfl (by show 3 < (p1).toInt; omega) ?_
          refine xe_sn pg_100 1 (fr' := (15, [(0, .int p1)], [.int 0])) rfl ?_
          exact xe_end pg_100 rfl
        refine xe_sn pg_94 1 (fr' := (7, [(0, .int p1)], [])) rfl ?_
        exact xe_end pg_94 rfl
    refine xe_sn pg_164 1 (fr' := (20, [(0, .ref 0), (1, .int 3), (2, .int p1), (3, .int p2), (4, .int p3), (5, .ref 189)], [.int 1])) rfl ?_
    exact xe_end pg_164 rfl
  refine And.intro ⟨rfl, rfl, rfl, rfl⟩ ?_
  apply And.intro
  · refine xe_sn pg_143 2 (fr' := (2, [(0, .ref 165), (1, .int 3), (2, .int p1), (3, .int p2), (4, .int p3)], [.int 3, .ref 165])) rfl ?_
    apply xe_callq pg_143 104 [.int 3] (.inl (some (.int 1))) (5, [(0, .ref 165), (1, .int 3), (2, .int p1), (3, .int p2), (4, .int p3)], [.int 1, .ref 165]) rfl (fun _ => rfl)
    · refine xe_sn pg_104 3 (fr' := (3, [(0, .int 3)], [.int 3, .int 0, .int 3])) rfl ?_
      apply xe_callq pg_104 103 [.int 3, .int 0, .int 3] (.inl (some (.int 1))) (6, [(0, .int 3)], [.int 1]) rfl (fun _ => rfl)
      · refine xe_sn pg_103 4 (fr' := (6, [(0, .int 3), (1, .int 0), (2, .int 3)], [.int 3])) rfl ?_
        refine xe_sn pg_103 4 (fr' := (15, [(0, .int 3), (1, .int 0), (2, .int 3)], [.int 1])) rfl ?_
        exact xe_end pg_103 rfl
      exact xe_end pg_104 rfl
    refine xe_sn pg_143 4 (fr' := (11, [(0, .ref 165), (1, .int 3), (2, .int p1), (3, .int p2), (4, .int p3)], [.int 3, .int 1, .int p1, .ref 165])) rfl ?_
    apply xe_callq pg_143 103 [.int p1, .int 1, .int 3] (.inl (some (.int 0))) (14, [(0, .ref 165), (1, .int 3), (2, .int p1), (3, .int p2), (4, .int p3)], [.int 0, .ref 165]) rfl (fun _ => rfl)
    · refine xe_sn pg_103 2 (fr' := (2, [(0, .int p1), (1, .int 1), (2, .int 3)], [.int 1, .int p1])) rfl ?_
      refine xe_f2 pg_103 14 rfl rfl (by show ¬ ((p1).toInt < 1); omega) ?_
      refine xe_sn pg_103 2 (fr' := (7, [(0, .int p1), (1, .int 1), (2, .int 3)], [.int 3, .int p1])) rfl ?_
      refine xe_t2 pg_103 14 rfl rfl (by show 3 < (p1).toInt; omega) ?_
      refine xe_sn pg_103 1 (fr' := (15, [(0, .int p1), (1, .int 1), (2, .int 3)], [.int 0])) rfl ?_
      exact xe_end pg_103 rfl
    refine xe_sn pg_143 4 (fr' := (51, [(0, .ref 165), (1, .int 3), (2, .int p1), (3, .int p2), (4, .int p3)], [])) rfl ?_
    refine xe_sn pg_143 4 (fr' := (69, [(0, .ref 165), (1, .int 3), (2, .int p1), (3, .int p2), (4, .int p3)], [.int 0])) rfl ?_
    refine xe_sn pg_143 4 (fr' := (76, [(5, .int 0), (0, .ref 165), (1, .int 3), (2, .int p1), (3, .int p2), (4, .int p3)], [.int 1, .ref 165])) rfl ?_
    refine xe_sn pg_143 4 (fr' := (111, [(5, .int 0), (0, .ref 165), (1, .int 3), (2, .int p1), (3, .int p2), (4, .int p3)], [])) rfl ?_
    refine xe_sn pg_143 4 (fr' := (119, [(5, .int 0), (0, .ref 165), (1, .int 3), (2, .int p1), (3, .int p2), (4, .int p3)], [.int 0])) rfl ?_
    exact xe_end pg_143 rfl
  · exact ⟨⟨rfl, rfl, rfl, rfl⟩, Nat.le_of_ble_eq_true rfl, Nat.le_of_ble_eq_true rfl, rfl, fun q => absurd q (by decide)⟩

set_option maxRecDepth 100000 in
theorem lf_send_55 (xs : Nat → Int32) (p2 : Int32) (p3 : Int32) (a2 : p2.toInt < 0) : op_ok xs 164 143 [.ref 0, .int 3, .int 1, .int p2, .int p3, .ref 189] [.ref 165, .int 3, .int 1, .int p2, .int p3] := by
  refine ⟨2, 0, ?_⟩
  apply Exists.intro
  apply Exists.intro
  apply And.intro
  · refine xe_sn pg_164 4 (fr' := (5, [(0, .ref 0), (1, .int 3), (2, .int 1), (3, .int p2), (4, .int p3), (5, .ref 189)], [.int 3, .ref 0, .int 0, .ref 189])) rfl ?_
    refine xe_sn pg_164 3 (fr' := (9, [(0, .ref 0), (1, .int 3), (2, .int 1), (3, .int p2), (4, .int p3), (5, .ref 189)], [.int p3, .int p2, .int 1, .int 3, .ref 0, .int 0, .ref 189])) rfl ?_
    apply xe_callq pg_164 77 [.ref 0, .int 3, .int 1, .int p2, .int p3] (.inr 1) (23, [(0, .ref 0), (1, .int 3), (2, .int 1), (3, .int p2), (4, .int p3), (5, .ref 189)], []) rfl (fun _ => rfl)
    · refine xe_sn pg_77 1 (fr' := (1, [(0, .ref 0), (1, .int 3), (2, .int 1), (3, .int p2), (4, .int p3)], [.int 3])) rfl ?_
      apply xe_callq pg_77 92 [.int 3] (.inl none) (4, [(0, .ref 0), (1, .int 3), (2, .int 1), (3, .int p2), (4, .int p3)], []) rfl (fun _ => rfl)
      · refine xe_sn pg_92 2 (fr' := (2, [(0, .int 3)], [.int 4, .int 3])) rfl ?_
        apply xe_callq pg_92 95 [.int 3, .int 4] (.inl none) (5, [(0, .int 3)], []) rfl (fun _ => rfl)
        · refine xe_sn pg_95 4 (fr' := (6, [(0, .int 3), (1, .int 4)], [.int 4, .int 3])) rfl ?_
          refine xe_sn pg_95 1 (fr' := (17, [(0, .int 3), (1, .int 4)], [])) rfl ?_
          exact xe_end pg_95 rfl
        exact xe_end pg_92 rfl
      refine xe_sn pg_77 1 (fr' := (5, [(0, .ref 0), (1, .int 3), (2, .int 1), (3, .int p2), (4, .int p3)], [.int 1])) rfl ?_
      apply xe_callq pg_77 94 [.int 1] (.inl none) (8, [(0, .ref 0), (1, .int 3), (2, .int 1), (3, .int p2), (4, .int p3)], []) rfl (fun _ => rfl)
      · refine xe_sn pg_94 1 (fr' := (1, [(0, .int 1)], [.int 1])) rfl ?_
        apply xe_callq pg_94 100 [.int 1] (.inl (some (.int 1))) (4, [(0, .int 1)], [.int 1]) rfl (fun _ => rfl)
        · refine xe_sn pg_100 4 (fr' := (6, [(0, .int 1)], [.int 1])) rfl ?_
          refine xe_sn pg_100 4 (fr' := (15, [(0, .int 1)], [.int 1])) rfl ?_
          exact xe_end pg_100 rfl
        refine xe_sn pg_94 1 (fr' := (15, [(0, .int 1)], [])) rfl ?_
        exact xe_end pg_94 rfl
      refine xe_sn pg_77 1 (fr' := (9, [(0, .ref 0), (1, .int 3), (2, .int 1), (3, .int p2), (4, .int p3)], [.int p2])) rfl ?_
      refine xe_t1 pg_77 22 rfl rfl (by show (p2).toInt < 0; omega) ?_
      refine xe_sn pg_77 1 (fr' := (23, [(0, .ref 0), (1, .int 3), (2, .int 1), (3, .int p2), (4, .int p3)], [.int 0])) rfl ?_
      apply xe_callqx pg_77 97 [.int 0] 1 rfl (fun _ => rfl)
      · refine xe_sn pg_97 2 (fr' := (4, [(0, .int 0)], [])) rfl ?_
        exact xe_end pg_97 rfl
    refine xe_sn pg_164 1 (fr' := (24, [(0, .ref 0), (1, .int 3), (2, .int 1), (3, .int p2), (4, .int p3), (5, .ref 189)], [.int 2])) rfl ?_
    exact xe_end pg_164 rfl
  refine And.intro ⟨rfl, rfl, rfl, rfl⟩ ?_
  apply And.intro
  · refine xe_sn pg_143 2 (fr' := (2, [(0, .ref 165), (1, .int 3), (2, .int 1), (3, .int p2), (4, .int p3)], [.int 3, .ref 165])) rfl ?_
    apply xe_callq pg_143 104 [.int 3] (.inl (some (.int 1))) (5, [(0, .ref 165), (1, .int 3), (2, .int 1), (3, .int p2), (4, .int p3)], [.int 1, .ref 165]) rfl (fun _ => rfl)
    · refine xe_sn pg_104 3 (fr' := (3, [(0, .int 3)], [.int 3, .int 0, .int 3])) rfl ?_
      apply xe_callq pg_104 103 [.int 3, .int 0, .int 3] (.inl (some (.int 1))) (6, [(0, .int 3)], [.int 1]) rfl (fun _ => rfl)
      · refine xe_sn pg_103 4 (fr' := (6, [(0, .int 3), (1, .int 0), (2, .int 3)], [.int 3])) rfl ?_
        refine xe_sn pg_103 4 (fr' := (15, [(0, .int 3), (1, .int 0), (2, .int 3)], [.int 1])) rfl ?_
        exact xe_end pg_103 rfl
      exact xe_end pg_104 rfl
    refine xe_sn pg_143 4 (fr' := (11, [(0, .ref 165), (1, .int 3), (2, .int 1), (3, .int p2), (4, .int p3)], [.int 3, .int 1, .int 1, .ref 165])) rfl ?_
    apply xe_callq pg_143 103 [.int 1, .int 1, .int 3] (.inl (some (.int 1))) (14, [(0, .ref 165), (1, .int 3), (2, .int 1), (3, .int p2), (4, .int p3)], [.int 1, .ref 165]) rfl (fun _ => rfl)
    · refine xe_sn pg_103 4 (fr' := (6, [(0, .int 1), (1, .int 1), (2, .int 3)], [.int 1])) rfl ?_
      refine xe_sn pg_103 4 (fr' := (15, [(0, .int 1), (1, .int 1), (2, .int 3)], [.int 1])) rfl ?_
      exact xe_end pg_103 rfl
    refine xe_sn pg_143 4 (fr' := (25, [(0, .ref 165), (1, .int 3), (2, .int 1), (3, .int p2), (4, .int p3)], [.int 7, .int 0, .int p2, .ref 165])) rfl ?_
    apply xe_callq pg_143 103 [.int p2, .int 0, .int 7] (.inl (some (.int 0))) (28, [(0, .ref 165), (1, .int 3), (2, .int 1), (3, .int p2), (4, .int p3)], [.int 0, .ref 165]) rfl (fun _ => rfl)
    · refine xe_sn pg_103 2 (fr' := (2, [(0, .int p2), (1, .int 0), (2, .int 7)], [.int 0, .int p2])) rfl ?_
      refine xe_t2 pg_103 14 rfl rfl (by show (p2).toInt < 0; omega) ?_
      refine xe_sn pg_103 1 (fr' := (15, [(0, .int p2), (1, .int 0), (2, .int 7)], [.int 0])) rfl ?_
      exact xe_end pg_103 rfl
    refine xe_sn pg_143 4 (fr' := (51, [(0, .ref 165), (1, .int 3), (2, .int 1), (3, .int p2), (4, .int p3)], [])) rfl ?_
    refine xe_sn pg_143 4 (fr' := (69, [(0, .ref 165), (1, .int 3), (2, .int 1), (3, .int p2), (4, .int p3)], [.int 0])) rfl ?_
    refine xe_sn pg_143 4 (fr' := (76, [(5, .int 0), (0, .ref 165), (1, .int 3), (2, .int 1), (3, .int p2), (4, .int p3)], [.int 2, .ref 165])) rfl ?_
    refine xe_sn pg_143 4 (fr' := (111, [(5, .int 0), (0, .ref 165), (1, .int 3), (2, .int 1), (3, .int p2), (4, .int p3)], [])) rfl ?_
    refine xe_sn pg_143 4 (fr' := (119, [(5, .int 0), (0, .ref 165), (1, .int 3), (2, .int 1), (3, .int p2), (4, .int p3)], [.int 0])) rfl ?_
    exact xe_end pg_143 rfl
  · exact ⟨⟨rfl, rfl, rfl, rfl⟩, Nat.le_of_ble_eq_true rfl, Nat.le_of_ble_eq_true rfl, rfl, fun q => absurd q (by decide)⟩

set_option maxRecDepth 100000 in
theorem lf_send_56 (xs : Nat → Int32) (p2 : Int32) (p3 : Int32) (b2 : 7 < p2.toInt) : op_ok xs 164 143 [.ref 0, .int 3, .int 1, .int p2, .int p3, .ref 189] [.ref 165, .int 3, .int 1, .int p2, .int p3] := by
  refine ⟨2, 0, ?_⟩
  apply Exists.intro
  apply Exists.intro
  apply And.intro
  · refine xe_sn pg_164 4 (fr' := (5, [(0, .ref 0), (1, .int 3), (2, .int 1), (3, .int p2), (4, .int p3), (5, .ref 189)], [.int 3, .ref 0, .int 0, .ref 189])) rfl ?_
    refine xe_sn pg_164 3 (fr' := (9, [(0, .ref 0), (1, .int 3), (2, .int 1), (3, .int p2), (4, .int p3), (5, .ref 189)], [.int p3, .int p2, .int 1, .int 3, .ref 0, .int 0, .ref 189])) rfl ?_
    apply xe_callq pg_164 77 [.ref 0, .int 3, .int 1, .int p2, .int p3] (.inr 1) (23, [(0, .ref 0), (1, .int 3), (2, .int 1), (3, .int p2), (4, .int p3), (5, .ref 189)], []) rfl (fun _ => rfl)
    · refine xe_sn pg_77 1 (fr' := (1, [(0, .ref 0), (1, .int 3), (2, .int 1), (3, .int p2), (4, .int p3)], [.int 3])) rfl ?_
      apply xe_callq pg_77 92 [.int 3] (.inl none) (4, [(0, .ref 0), (1, .int 3), (2, .int 1), (3, .int p2), (4, .int p3)], []) rfl (fun _ => rfl)
      · refine xe_sn pg_92 2 (fr' := (2, [(0, .int 3)], [.int 4, .int 3])) rfl ?_
        apply xe_callq pg_92 95 [.int 3, .int 4] (.inl none) (5, [(0, .int 3)], []) rfl (fun _ => rfl)
        · refine xe_sn pg_95 4 (fr' := (6, [(0, .int 3), (1, .int 4)], [.int 4, .int 3])) rfl ?_
          refine xe_sn pg_95 1 (fr' := (17, [(0, .int 3), (1, .int 4)], [])) rfl ?_
          exact xe_end pg_95 rfl
        exact xe_end pg_92 rfl
      refine xe_sn pg_77 1 (fr' := (5, [(0, .ref 0), (1, .int 3), (2, .int 1), (3, .int p2), (4, .int p3)], [.int 1])) rfl ?_
      apply xe_callq pg_77 94 [.int 1] (.inl none) (8, [(0, .ref 0), (1, .int 3), (2, .int 1), (3, .int p2), (4, .int p3)], []) rfl (fun _ => rfl)
      · refine xe_sn pg_94 1 (fr' := (1, [(0, .int 1)], [.int 1])) rfl ?_
        apply xe_callq pg_94 100 [.int 1] (.inl (some (.int 1))) (4, [(0, .int 1)], [.int 1]) rfl (fun _ => rfl)
        · refine xe_sn pg_100 4 (fr' := (6, [(0, .int 1)], [.int 1])) rfl ?_
          refine xe_sn pg_100 4 (fr' := (15, [(0, .int 1)], [.int 1])) rfl ?_
          exact xe_end pg_100 rfl
        refine xe_sn pg_94 1 (fr' := (15, [(0, .int 1)], [])) rfl ?_
        exact xe_end pg_94 rfl
      refine xe_sn pg_77 1 (fr' := (9, [(0, .ref 0), (1, .int 3), (2, .int 1), (3, .int p2), (4, .int p3)], [.int p2])) rfl ?_
      refine xe_f1 pg_77 22 rfl rfl (by show ¬ ((p2).toInt < 0); omega) ?_
      refine xe_sn pg_77 2 (fr' := (15, [(0, .ref 0), (1, .int 3), (2, .int 1), (3, .int p2), (4, .int p3)], [.int 7, .int p2])) rfl ?_
      refine xe_t2 pg_77 22 rfl rfl (by show 7 < (p2).toInt; omega) ?_
      refine xe_sn pg_77 1 (fr' := (23, [(0, .ref 0), (1, .int 3), (2, .int 1), (3, .int p2), (4, .int p3)], [.int 0])) rfl ?_
      apply xe_callqx pg_77 97 [.int 0] 1 rfl (fun _ => rfl)
      · refine xe_sn pg_97 2 (fr' := (4, [(0, .int 0)], [])) rfl ?_
        exact xe_end pg_97 rfl
    refine xe_sn pg_164 1 (fr' := (24, [(0, .ref 0), (1, .int 3), (2, .int 1), (3, .int p2), (4, .int p3), (5, .ref 189)], [.int 2])) rfl ?_
    exact xe_end pg_164 rfl
  refine And.intro ⟨rfl, rfl, rfl, rfl⟩ ?_
  apply And.intro
  · refine xe_sn pg_143 2 (fr' := (2, [(0, .ref 165), (1, .int 3), (2, .int 1), (3, .int p2), (4, .int p3)], [.int 3, .ref 165])) rfl ?_
    apply xe_callq pg_143 104 [.int 3] (.inl (some (.int 1))) (5, [(0, .ref 165), (1, .int 3), (2, .int 1), (3, .int p2), (4, .int p3)], [.int 1, .ref 165]) rfl (fun _ => rfl)
    · refine xe_sn pg_104 3 (fr' := (3, [(0, .int 3)], [.int 3, .int 0, .int 3])) rfl ?_
      apply xe_callq pg_104 103 [.int 3, .int 0, .int 3] (.inl (some (.int 1))) (6, [(0, .int 3)], [.int 1]) rfl (fun _ => rfl)
      · refine xe_sn pg_103 4 (fr' := (6, [(0, .int 3), (1, .int 0), (2, .int 3)], [.int 3])) rfl ?_
        refine xe_sn pg_103 4 (fr' := (15, [(0, .int 3), (1, .int 0), (2, .int 3)], [.int 1])) rfl ?_
        exact xe_end pg_103 rfl
      exact xe_end pg_104 rfl
    refine xe_sn pg_143 4 (fr' := (11, [(0, .ref 165), (1, .int 3), (2, .int 1), (3, .int p2), (4, .int p3)], [.int 3, .int 1, .int 1, .ref 165])) rfl ?_
    apply xe_callq pg_143 103 [.int 1, .int 1, .int 3] (.inl (some (.int 1))) (14, [(0, .ref 165), (1, .int 3), (2, .int 1), (3, .int p2), (4, .int p3)], [.int 1, .ref 165]) rfl (fun _ => rfl)
    · refine xe_sn pg_103 4 (fr' := (6, [(0, .int 1), (1, .int 1), (2, .int 3)], [.int 1])) rfl ?_
      refine xe_sn pg_103 4 (fr' := (15, [(0, .int 1), (1, .int 1), (2, .int 3)], [.int 1])) rfl ?_
      exact xe_end pg_103 rfl
    refine xe_sn pg_143 4 (fr' := (25, [(0, .ref 165), (1, .int 3), (2, .int 1), (3, .int p2), (4, .int p3)], [.int 7, .int 0, .int p2, .ref 165])) rfl ?_
    apply xe_callq pg_143 103 [.int p2, .int 0, .int 7] (.inl (some (.int 0))) (28, [(0, .ref 165), (1, .int 3), (2, .int 1), (3, .int p2), (4, .int p3)], [.int 0, .ref 165]) rfl (fun _ => rfl)
    · refine xe_sn pg_103 2 (fr' := (2, [(0, .int p2), (1, .int 0), (2, .int 7)], [.int 0, .int p2])) rfl ?_
      refine xe_f2 pg_103 14 rfl rfl (by show ¬ ((p2).toInt < 0); omega) ?_
      refine xe_sn pg_103 2 (fr' := (7, [(0, .int p2), (1, .int 0), (2, .int 7)], [.int 7, .int p2])) rfl ?_
      refine xe_t2 pg_103 14 rfl rfl (by show 7 < (p2).toInt; omega) ?_
      refine xe_sn pg_103 1 (fr' := (15, [(0, .int p2), (1, .int 0), (2, .int 7)], [.int 0])) rfl ?_
      exact xe_end pg_103 rfl
    refine xe_sn pg_143 4 (fr' := (51, [(0, .ref 165), (1, .int 3), (2, .int 1), (3, .int p2), (4, .int p3)], [])) rfl ?_
    refine xe_sn pg_143 4 (fr' := (69, [(0, .ref 165), (1, .int 3), (2, .int 1), (3, .int p2), (4, .int p3)], [.int 0])) rfl ?_
    refine xe_sn pg_143 4 (fr' := (76, [(5, .int 0), (0, .ref 165), (1, .int 3), (2, .int 1), (3, .int p2), (4, .int p3)], [.int 2, .ref 165])) rfl ?_
    refine xe_sn pg_143 4 (fr' := (111, [(5, .int 0), (0, .ref 165), (1, .int 3), (2, .int 1), (3, .int p2), (4, .int p3)], [])) rfl ?_
    refine xe_sn pg_143 4 (fr' := (119, [(5, .int 0), (0, .ref 165), (1, .int 3), (2, .int 1), (3, .int p2), (4, .int p3)], [.int 0])) rfl ?_
    exact xe_end pg_143 rfl
  · exact ⟨⟨rfl, rfl, rfl, rfl⟩, Nat.le_of_ble_eq_true rfl, Nat.le_of_ble_eq_true rfl, rfl, fun q => absurd q (by decide)⟩

set_option maxRecDepth 100000 in
theorem lf_send_57 (xs : Nat → Int32) (p2 : Int32) (p3 : Int32) (a2 : 0 ≤ p2.toInt) (b2 : p2.toInt ≤ 7) (a3 : p3.toInt < 0) : op_ok xs 164 143 [.ref 0, .int 3, .int 1, .int p2, .int p3, .ref 189] [.ref 165, .int 3, .int 1, .int p2, .int p3] := by
  refine ⟨2, 0, ?_⟩
  apply Exists.intro
  apply Exists.intro
  apply And.intro
  · refine xe_sn pg_164 4 (fr' := (5, [(0, .ref 0), (1, .int 3), (2, .int 1), (3, .int p2), (4, .int p3), (5, .ref 189)], [.int 3, .ref 0, .int 0, .ref 189])) rfl ?_
    refine xe_sn pg_164 3 (fr' := (9, [(0, .ref 0), (1, .int 3), (2, .int 1), (3, .int p2), (4, .int p3), (5, .ref 189)], [.int p3, .int p2, .int 1, .int 3, .ref 0, .int 0, .ref 189])) rfl ?_
    apply xe_callq pg_164 77 [.ref 0, .int 3, .int 1, .int p2, .int p3] (.inr 1) (23, [(0, .ref 0), (1, .int 3), (2, .int 1), (3, .int p2), (4, .int p3), (5, .ref 189)], []) rfl (fun _ => rfl)
    · refine xe_sn pg_77 1 (fr' := (1, [(0, .ref 0), (1, .int 3), (2, .int 1), (3, .int p2), (4, .int p3)], [.int 3])) rfl ?_
      apply xe_callq pg_77 92 [.int 3] (.inl none) (4, [(0, .ref 0), (1, .int 3), (2, .int 1), (3, .int p2), (4, .int p3)], []) rfl (fun _ => rfl)
      · refine xe_sn pg_92 2 (fr' := (2, [(0, .int 3)], [.int 4, .int 3])) rfl ?_
        apply xe_callq pg_92 95 [.int 3, .int 4] (.inl none) (5, [(0, .int 3)], []) rfl (fun _ => rfl)
        · refine xe_sn pg_95 4 (fr' := (6, [(0, .int 3), (1, .int 4)], [.int 4, .int 3])) rfl ?_
          refine xe_sn pg_95 1 (fr' := (17, [(0, .int 3), (1, .int 4)], [])) rfl ?_
          exact xe_end pg_95 rfl
        exact xe_end pg_92 rfl
      refine xe_sn pg_77 1 (fr' := (5, [(0, .ref 0), (1, .int 3), (2, .int 1), (3, .int p2), (4, .int p3)], [.int 1])) rfl ?_
      apply xe_callq pg_77 94 [.int 1] (.inl none) (8, [(0, .ref 0), (1, .int 3), (2, .int 1), (3, .int p2), (4, .int p3)], []) rfl (fun _ => rfl)
      · refine xe_sn pg_94 1 (fr' := (1, [(0, .int 1)], [.int 1])) rfl ?_
        apply xe_callq pg_94 100 [.int 1] (.inl (some (.int 1))) (4, [(0, .int 1)], [.int 1]) rfl (fun _ => rfl)
        · refine xe_sn pg_100 4 (fr' := (6, [(0, .int 1)], [.int 1])) rfl ?_
          refine xe_sn pg_100 4 (fr' := (15, [(0, .int 1)], [.int 1])) rfl ?_
          exact xe_end pg_100 rfl
        refine xe_sn pg_94 1 (fr' := (15, [(0, .int 1)], [])) rfl ?_
        exact xe_end pg_94 rfl
      refine xe_sn pg_77 1 (fr' := (9, [(0, .ref 0), (1, .int 3), (2, .int 1), (3, .int p2), (4, .int p3)], [.int p2])) rfl ?_
      refine xe_f1 pg_77 22 rfl rfl (by show ¬ ((p2).toInt < 0); omega) ?_
      refine xe_sn pg_77 2 (fr' := (15, [(0, .ref 0), (1, .int 3), (2, .int 1), (3, .int p2), (4, .int p3)], [.int 7, .int p2])) rfl ?_
      refine xe_f2 pg_77 22 rfl rfl (by show ¬ (7 < (p2).toInt); omega) ?_
      refine xe_sn pg_77 2 (fr' := (23, [(0, .ref 0), (1, .int 3), (2, .int 1), (3, .int p2), (4, .int p3)], [.int 1])) rfl ?_
      apply xe_callq pg_77 97 [.int 1] (.inl none) (26, [(0, .ref 0), (1, .int 3), (2, .int 1), (3, .int p2), (4, .int p3)], []) rfl (fun _ => rfl)
      · refine xe_sn pg_97 2 (fr' := (12, [(0, .int 1)], [])) rfl ?_
        exact xe_end pg_97 rfl
      refine xe_sn pg_77 1 (fr' := (28, [(0, .ref 0), (1, .int 3), (2, .int 1), (3, .int p2), (4, .int p3)], [.int p3])) rfl ?_
      apply xe_callq pg_77 99 [.int p3] (.inl (some (.int 0))) (31, [(0, .ref 0), (1, .int 3), (2, .int 1), (3, .int p2), (4, .int p3)], [.int 0]) rfl (fun _ => rfl)
      · refine xe_sn pg_99 1 (fr' := (1, [(0, .int p3)], [.int p3])) rfl ?_
        refine xe_t1 pg_99 15 rfl rfl (by show (p3).toInt < 0; omega) ?_
        refine xe_sn pg_99 1 (fr' := (16, [(0, .int p3)], [.int 0])) rfl ?_
        exact xe_end pg_99 rfl
      apply xe_callqx pg_77 97 [.int 0] 1 rfl (fun _ => rfl)
      · refine xe_sn pg_97 2 (fr' := (4, [(0, .int 0)], [])) rfl ?_
        exact xe_end pg_97 rfl
    refine xe_sn pg_164 1 (fr' := (24, [(0, .ref 0), (1, .int 3), (2, .int 1), (3, .int p2), (4, .int p3), (5, .ref 189)], [.int 2])) rfl ?_
    exact xe_end pg_164 rfl
  refine And.intro ⟨rfl, rfl, rfl, rfl⟩ ?_
  apply And.intro
  · refine xe_sn pg_143 2 (fr' := (2, [(0, .ref 165), (1, .int 3), (2, .int 1), (3, .int p2), (4, .int p3)], [.int 3, .ref 165])) rfl ?_
    apply xe_callq pg_143 104 [.int 3] (.inl (some (.int 1))) (5, [(0, .ref 165), (1, .int 3), (2, .int 1), (3, .int p2), (4, .int p3)], [.int 1, .ref 165]) rfl (fun _ => rfl)
    · refine xe_sn pg_104 3 (fr' := (3, [(0, .int 3)], [.int 3, .int 0, .int 3])) rfl ?_
      apply xe_callq pg_104 103 [.int 3, .int 0, .int 3] (.inl (some (.int 1))) (6, [(0, .int 3)], [.int 1]) rfl (fun _ => rfl)
      · refine xe_sn pg_103 4 (fr' := (6, [(0, .int 3), (1, .int 0), (2, .int 3)], [.int 3])) rfl ?_
        refine xe_sn pg_103 4 (fr' := (15, [(0, .int 3), (1, .int 0), (2, .int 3)], [.int 1])) rfl ?_
        exact xe_end pg_103 rfl
      exact xe_end pg_104 rfl
    refine xe_sn pg_143 4 (fr' := (11, [(0, .ref 165), (1, .int 3), (2, .int 1), (3, .int p2), (4, .int p3)], [.int 3, .int 1, .int 1, .ref 165])) rfl ?_
    apply xe_callq pg_143 103 [.int 1, .int 1, .int 3] (.inl (some (.int 1))) (14, [(0, .ref 165), (1, .int 3), (2, .int 1), (3, .int p2), (4, .int p3)], [.int 1, .ref 165]) rfl (fun _ => rfl)
    · refine xe_sn pg_103 4 (fr' := (6, [(0, .int 1), (1, .int 1), (2, .int 3)], [.int 1])) rfl ?_
      refine xe_sn pg_103 4 (fr' := (15, [(0, .int 1), (1, .int 1), (2, .int 3)], [.int 1])) rfl ?_
      exact xe_end pg_103 rfl
    refine xe_sn pg_143 4 (fr' := (25, [(0, .ref 165), (1, .int 3), (2, .int 1), (3, .int p2), (4, .int p3)], [.int 7, .int 0, .int p2, .ref 165])) rfl ?_
    apply xe_callq pg_143 103 [.int p2, .int 0, .int 7] (.inl (some (.int 1))) (28, [(0, .ref 165), (1, .int 3), (2, .int 1), (3, .int p2), (4, .int p3)], [.int 1, .ref 165]) rfl (fun _ => rfl)
    · refine xe_sn pg_103 2 (fr' := (2, [(0, .int p2), (1, .int 0), (2, .int 7)], [.int 0, .int p2])) rfl ?_
      refine xe_f2 pg_103 14 rfl rfl (by show ¬ ((p2).toInt < 0); omega) ?_
      refine xe_sn pg_103 2 (fr' := (7, [(0, .int p2), (1, .int 0), (2, .int 7)], [.int 7, .int p2])) rfl ?_
      refine xe_f2 pg_103 14 rfl rfl (by show ¬ (7 < (p2).toInt); omega) ?_
      refine xe_sn pg_103 2 (fr' := (15, [(0, .int p2), (1, .int 0), (2, .int 7)], [.int 1])) rfl ?_
      exact xe_end pg_103 rfl
    refine xe_sn pg_143 4 (fr' := (37, [(0, .ref 165), (1, .int 3), (2, .int 1), (3, .int p2), (4, .int p3)], [.int 255, .int 0, .int p3, .ref 165])) rfl ?_
    apply xe_callq pg_143 103 [.int p3, .int 0, .int 255] (.inl (some (.int 0))) (40, [(0, .ref 165), (1, .int 3), (2, .int 1), (3, .int p2), (4, .int p3)], [.int 0, .ref 165]) rfl (fun _ => rfl)
    · refine xe_sn pg_103 2 (fr' := (2, [(0, .int p3), (1, .int 0), (2, .int 255)], [.int 0, .int p3])) rfl ?_
      refine xe_t2 pg_103 14 rfl rfl (by show (p3).toInt < 0; omega) ?_
      refine xe_sn pg_103 1 (fr' := (15, [(0, .int p3), (1, .int 0), (2, .int 255)], [.int 0])) rfl ?_
      exact xe_end pg_103 rfl
    refine xe_sn pg_143 4 (fr' := (51, [(0, .ref 165), (1, .int 3), (2, .int 1), (3, .int p2), (4, .int p3)], [])) rfl ?_
    refine xe_sn pg_143 4 (fr' := (69, [(0, .ref 165), (1, .int 3), (2, .int 1), (3, .int p2), (4, .int p3)], [.int 0])) rfl ?_
    refine xe_sn pg_143 4 (fr' := (76, [(5, .int 0), (0, .ref 165), (1, .int 3), (2, .int 1), (3, .int p2), (4, .int p3)], [.int 2, .ref 165])) rfl ?_
    refine xe_sn pg_143 4 (fr' := (111, [(5, .int 0), (0, .ref 165), (1, .int 3), (2, .int 1), (3, .int p2), (4, .int p3)], [])) rfl ?_
    refine xe_sn pg_143 4 (fr' := (119, [(5, .int 0), (0, .ref 165), (1, .int 3), (2, .int 1), (3, .int p2), (4, .int p3)], [.int 0])) rfl ?_
    exact xe_end pg_143 rfl
  · exact ⟨⟨rfl, rfl, rfl, rfl⟩, Nat.le_of_ble_eq_true rfl, Nat.le_of_ble_eq_true rfl, rfl, fun q => absurd q (by decide)⟩

set_option maxRecDepth 100000 in
theorem lf_send_58 (xs : Nat → Int32) (p2 : Int32) (p3 : Int32) (a2 : 0 ≤ p2.toInt) (b2 : p2.toInt ≤ 7) (b3 : 255 < p3.toInt) : op_ok xs 164 143 [.ref 0, .int 3, .int 1, .int p2, .int p3, .ref 189] [.ref 165, .int 3, .int 1, .int p2, .int p3] := by
  refine ⟨2, 0, ?_⟩
  apply Exists.intro
  apply Exists.intro
  apply And.intro
  · refine xe_sn pg_164 4 (fr' := (5, [(0, .ref 0), (1, .int 3), (2, .int 1), (3, .int p2), (4, .int p3), (5, .ref 189)], [.int 3, .ref 0, .int 0, .ref 189])) rfl ?_
    refine xe_sn pg_164 3 (fr' := (9, [(0, .ref 0), (1, .int 3), (2, .int 1), (3, .int p2), (4, .int p3), (5, .ref 189)], [.int p3, .int p2, .int 1, .int 3, .ref 0, .int 0, .ref 189])) rfl ?_
    apply xe_callq pg_164 77 [.ref 0, .int 3, .int 1, .int p2, .int p3] (.inr 1) (23, [(0, .ref 0), (1, .int 3), (2, .int 1), (3, .int p2), (4, .int p3), (5, .ref 189)], []) rfl (fun _ => rfl)
    · refine xe_sn pg_77 1 (fr' := (1, [(0, .ref 0), (1, .int 3), (2, .int 1), (3, .int p2), (4, .int p3)], [.int 3])) rfl ?_
      apply xe_callq pg_77 92 [.int 3] (.inl none) (4, [(0, .ref 0), (1, .int 3), (2, .int 1), (3, .int p2), (4, .int p3)], []) rfl (fun _ => rfl)
      · refine xe_sn pg_92 2 (fr' := (2, [(0, .int 3)], [.int 4, .int 3])) rfl ?_
        apply xe_callq pg_92 95 [.int 3, .int 4] (.inl none) (5, [(0, .int 3)], []) rfl (fun _ => rfl)
        · refine xe_sn pg_95 4 (fr' := (6, [(0, .int 3), (1, .int 4)], [.int 4, .int 3])) rfl ?_
          refine xe_sn pg_95 1 (fr' := (17, [(0, .int 3), (1, .int 4)], [])) rfl ?_
          exact xe_end pg_95 rfl
        exact xe_end pg_92 rfl
      refine xe_sn pg_77 1 (fr' := (5, [(0, .ref 0), (1, .int 3), (2, .int 1), (3, .int p2), (4, .int p3)], [.int 1])) rfl ?_
      apply xe_callq pg_77 94 [.int 1] (.inl none) (8, [(0, .ref 0), (1, .int 3), (2, .int 1), (3, .int p2), (4, .int p3)], []) rfl (fun _ => rfl)
      · refine xe_sn pg_94 1 (fr' := (1, [(0, .int 1)], [.int 1])) rfl ?_
        apply xe_callq pg_94 100 [.int 1] (.inl (some (.int 1))) (4, [(0, .int 1)], [.int 1]) rfl (fun _ => rfl)
        · refine xe_sn pg_100 4 (fr' := (6, [(0, .int 1)], [.int 1])) rfl ?_
          refine xe_sn pg_100 4 (fr' := (15, [(0, .int 1)], [.int 1])) rfl ?_
          exact xe_end pg_100 rfl
        refine xe_sn pg_94 1 (fr' := (15, [(0, .int 1)], [])) rfl ?_
        exact xe_end pg_94 rfl
      refine xe_sn pg_77 1 (fr' := (9, [(0, .ref 0), (1, .int 3), (2, .int 1), (3, .int p2), (4, .int p3)], [.int p2])) rfl ?_
      refine xe_f1 pg_77 22 rfl rfl (by show ¬ ((p2).toInt < 0); omega) ?_
      refine xe_sn pg_77 2 (fr' := (15, [(0, .ref 0), (1, .int 3), (2, .int 1), (3, .int p2), (4, .int p3)], [.int 7, .int p2])) rfl ?_
      refine xe_f2 pg_77 22 rfl rfl (by show ¬ (7 < (p2).toInt); omega) ?_
      refine xe_sn pg_77 2 (fr' := (23, [(0, .ref 0), (1, .int 3), (2, .int 1), (3, .int p2), (4, .int p3)], [.int 1])) rfl ?_
      apply xe_callq pg_77 97 [.int 1] (.inl none) (26, [(0, .ref 0), (1, .int 3), (2, .int 1), (3, .int p2), (4, .int p3)], []) rfl (fun _ => rfl)
      · refine xe_sn pg_97 2 (fr' := (12, [(0, .int 1)], [])) rfl ?_
        exact xe_end pg_97 rfl
      refine xe_sn pg_77 1 (fr' := (28, [(0, .ref 0), (1, .int 3), (2, .int 1), (3, .int p2), (4, .int p3)], [.int p3])) rfl ?_
      apply xe_callq pg_77 99 [.int p3] (.inl (some (.int 0))) (31, [(0, .ref 0), (1, .int 3), (2, .int 1), (3, .int p2), (4, .int p3)], [.int 0]) rfl (fun _ => rfl)
      · refine xe_sn pg_99 1 (fr' := (1, [(0, .int p3)], [.int p3])) rfl ?_
        refine xe_f1 pg_99 15 rfl rfl (by show ¬ ((p3).toInt < 0); omega) ?_
        refine xe_sn pg_99 2 (fr' := (8, [(0, .int p3)], [.int 255, .int p3])) rfl ?_
        refine xe_t2 pg_99 15 rfl rfl (by show 255 < (p3).toInt; omega) ?_
        refine xe_sn pg_99 1 (fr' := (16, [(0, .int p3)], [.int 0])) rfl ?_
        exact xe_end pg_99 rfl
      apply xe_callqx pg_77 97 [.int 0] 1 rfl (fun _ => rfl)
      · refine xe_sn pg_97 2 (fr' := (4, [(0, .int 0)], [])) rfl ?_
        exact xe_end pg_97 rfl
    refine xe_sn pg_164 1 (fr' := (24, [(0, .ref 0), (1, .int 3), (2, .int 1), (3, .int p2), (4, .int p3), (5, .ref 189)], [.int 2])) rfl ?_
    exact xe_end pg_164 rfl
  refine And.intro ⟨rfl, rfl, rfl, rfl⟩ ?_
  apply And.intro
  · refine xe_sn pg_143 2 (fr' := (2, [(0, .ref 165), (1, .int 3), (2, .int 1), (3, .int p2), (4, .int p3)], [.int 3, .ref 165])) rfl ?_
    apply xe_callq pg_143 104 [.int 3] (.inl (some (.int 1))) (5, [(0, .ref 165), (1, .int 3), (2, .int 1), (3, .int p2), (4, .int p3)], [.int 1, .ref 165]) rfl (fun _ => rfl)
    · refine xe_sn pg_104 3 (fr' := (3, [(0, .int 3)], [.int 3, .int 0, .int 3])) rfl ?_
      apply xe_callq pg_104 103 [.int 3, .int 0, .int 3] (.inl (some (.int 1))) (6, [(0, .int 3)], [.int 1]) rfl (fun _ => rfl)
      · refine xe_sn pg_103 4 (fr' := (6, [(0, .int 3), (1, .int 0), (2, .int 3)], [.int 3])) rfl ?_
        refine xe_sn pg_103 4 (fr' := (15, [(0, .int 3), (1, .int 0), (2, .int 3)], [.int 1])) rfl ?_
        exact xe_end pg_103 rfl
      exact xe_end pg_104 rfl
    refine xe_sn pg_143 4 (fr' := (11, [(0, .ref 165), (1, .int 3), (2, .int 1), (3, .int p2), (4, .int p3)], [.int 3, .int 1, .int 1, .ref 165])) rfl ?_
    apply xe_callq pg_143 103 [.int 1, .int 1, .int 3] (.inl (some (.int 1))) (14, [(0, .ref 165), (1, .int 3), (2, .int 1), (3, .int p2), (4, .int p3)], [.int 1, .ref 165]) rfl (fun _ => rfl)
    · refine xe_sn pg_103 4 (fr' := (6, [(0, .int 1), (1, .int 1), (2, .int 3)], [.int 1])) rfl ?_
      refine xe_sn pg_103 4 (fr' := (15, [(0, .int 1), (1, .int 1), (2, .int 3)], [.int 1])) rfl ?_
      exact xe_end pg_103 rfl
    refine xe_sn pg_143 4 (fr' := (25, [(0, .ref 165), (1, .int 3), (2, .int 1), (3, .int p2), (4, .int p3)], [.int 7, .int 0, .int p2, .ref 165])) rfl ?_
    apply xe_callq pg_143 103 [.int p2, .int 0, .int 7] (.inl (some (.int 1))) (28, [(0, .ref 165), (1, .int 3), (2, .int 1), (3, .int p2), (4, .int p3)], [.int 1, .ref 165]) rfl (fun _ => rfl)
    · refine xe_sn pg_103 2 (fr' := (2, [(0, .int p2), (1, .int 0), (2, .int 7)], [.int 0, .int p2])) rfl ?_
      refine xe_f2 pg_103 14 rfl rfl (by show ¬ ((p2).toInt < 0); omega) ?_
      refine xe_sn pg_103 2 (fr' := (7, [(0, .int p2), (1, .int 0), (2, .int 7)], [.int 7, .int p2])) rfl ?_
      refine xe_f2 pg_103 14 rfl rfl (by show ¬ (7 < (p2).toInt); omega) ?_
      refine xe_sn pg_103 2 (fr' := (15, [(0, .int p2), (1, .int 0), (2, .int 7)], [.int 1])) rfl ?_
      exact xe_end pg_103 rfl
    refine xe_sn pg_143 4 (fr' := (37, [(0, .ref 165), (1, .int 3), (2, .int 1), (3, .int p2), (4, .int p3)], [.int 255, .int 0, .int p3, .ref 165])) rfl ?_
    apply xe_callq pg_143 103 [.int p3, .int 0, .int 255] (.inl (some (.int 0))) (40, [(0, .ref 165), (1, .int 3), (2, .int 1), (3, .int p2), (4, .int p3)], [.int 0, .ref 165]) rfl (fun _ => rfl)
    · refine xe_sn pg_103 2 (fr' := (2, [(0, .int p3), (1, .int 0), (2, .int 255)], [.int 0, .int p3])) rfl ?_
      refine xe_f2 pg_103 14 rfl rfl (by show ¬ ((p3).toInt < 0); omega) ?_
      refine xe_sn pg_103 2 (fr' := (7, [(0, .int p3), (1, .int 0), (2, .int 255)], [.int 255, .int p3])) rfl ?_
      refine xe_t2 pg_103 14 rfl rfl (by show 255 < (p3).toInt; omega) ?_
      refine xe_sn pg_103 1 (fr' := (15, [(0, .int p3), (1, .int 0), (2, .int 255)], [.int 0])) rfl ?_
      exact xe_end pg_103 rfl
    refine xe_sn pg_143 4 (fr' := (51, [(0, .ref 165), (1, .int 3), (2, .int 1), (3, .int p2), (4, .int p3)], [])) rfl ?_
    refine xe_sn pg_143 4 (fr' := (69, [(0, .ref 165), (1, .int 3), (2, .int 1), (3, .int p2), (4, .int p3)], [.int 0])) rfl ?_
    refine xe_sn pg_143 4 (fr' := (76, [(5, .int 0), (0, .ref 165), (1, .int 3), (2, .int 1), (3, .int p2), (4, .int p3)], [.int 2, .ref 165])) rfl ?_
    refine xe_sn pg_143 4 (fr' := (111, [(5, .int 0), (0, .ref 165), (1, .int 3), (2, .int 1), (3, .int p2), (4, .int p3)], [])) rfl ?_
    refine xe_sn pg_143 4 (fr' := (119, [(5, .int 0), (0, .ref 165), (1, .int 3), (2, .int 1), (3, .int p2), (4, .int p3)], [.int 0])) rfl ?_
    exact xe_end pg_143 rfl
  · exact ⟨⟨rfl, rfl, rfl, rfl⟩, Nat.le_of_ble_eq_true rfl, Nat.le_of_ble_eq_true rfl, rfl, fun q => absurd q (by decide)⟩

set_option maxRecDepth 100000 in
theorem lf_send_59 (xs : Nat → Int32) (p2 : Int32) (p3 : Int32) (a2 : 0 ≤ p2.toInt) (b2 : p2.toInt ≤ 7) (a3 : 0 ≤ p3.toInt) (b3 : p3.toInt ≤ 255) : op_ok xs 164 143 [.ref 0, .int 3, .int 1, .int p2, .int p3, .ref 189] [.ref 165, .int 3, .int 1, .int p2, .int p3] := by
  refine ⟨3, 0, ?_⟩
  apply Exists.intro
  apply Exists.intro
  apply And.intro
  · refine xe_sn pg_164 4 (fr' := (5, [(0, .ref 0), (1, .int 3), (2, .int 1), (3, .int p2), (4, .int p3), (5, .ref 189)], [.int 3, .ref 0, .int 0, .ref 189])) rfl ?_
    refine xe_sn pg_164 3 (fr' := (9, [(0, .ref 0), (1, .int 3), (2, .int 1), (3, .int p2), (4, .int p3), (5, .ref 189)], [.int p3, .int p2, .int 1, .int 3, .ref 0, .int 0, .ref 189])) rfl ?_
    apply xe_callq pg_164 77 [.ref 0, .int 3, .int 1, .int p2, .int p3] (.inr 2) (27, [(0, .ref 0), (1, .int 3), (2, .int 1), (3, .int p2), (4, .int p3), (5, .ref 189)], []) rfl (fun _ => rfl)
    · refine xe_sn pg_77 1 (fr' := (1, [(0, .ref 0), (1, .int 3), (2, .int 1), (3, .int p2), (4, .int p3)], [.int 3])) rfl ?_
      apply xe_callq pg_77 92 [.int 3] (.inl none) (4, [(0, .ref 0), (1, .int 3), (2, .int 1), (3, .int p2), (4, .int p3)], []) rfl (fun _ => rfl)
      · refine xe_sn pg_92 2 (fr' := (2, [(0, .int 3)], [.int 4, .int 3])) rfl ?_
        apply xe_callq pg_92 95 [.int 3, .int 4] (.inl none) (5, [(0, .int 3)], []) rfl (fun _ => rfl)
        · refine xe_sn pg_95 4 (fr' := (6, [(0, .int 3), (1, .int 4)], [.int 4, .int 3])) rfl ?_
          refine xe_sn pg_95 1 (fr' := (17, [(0, .int 3), (1, .int 4)], [])) rfl ?_
          exact xe_end pg_95 rfl
        exact xe_end pg_92 rfl
      refine xe_sn pg_77 1 (fr' := (5, [(0, .ref 0), (1, .int 3), (2, .int 1), (3, .int p2), (4, .int p3)], [.int 1])) rfl ?_
      apply xe_callq pg_77 94 [.int 1] (.inl none) (8, [(0, .ref 0), (1, .int 3), (2, .int 1), (3, .int p2), (4, .int p3)], []) rfl (fun _ => rfl)
      · refine xe_sn pg_94 1 (fr' := (1, [(0, .int 1)], [.int 1])) rfl ?_
        apply xe_callq pg_94 100 [.int 1] (.inl (some (.int 1))) (4, [(0, .int 1)], [.int 1]) rfl (fun _ => rfl)
        · refine xe_sn pg_100 4 (fr' := (6, [(0, .int 1)], [.int 1])) rfl ?_
          refine xe_sn pg_100 4 (fr' := (15, [(0, .int 1)], [.int 1])) rfl ?_
          exact xe_end pg_100 rfl
        refine xe_sn pg_94 1 (fr' := (15, [(0, .int 1)], [])) rfl ?_
        exact xe_end pg_94 rfl
      refine xe_sn pg_77 1 (fr' := (9, [(0, .ref 0), (1, .int 3), (2, .int 1), (3, .int p2), (4, .int p3)], [.int p2])) rfl ?_
      refine xe_f1 pg_77 22 rfl rfl (by show ¬ ((p2).toInt < 0); omega) ?_
      refine xe_sn pg_77 2 (fr' := (15, [(0, .ref 0), (1, .int 3), (2, .int 1), (3, .int p2), (4, .int p3)], [.int 7, .int p2])) rfl ?_
      refine xe_f2 pg_77 22 rfl rfl (by show ¬ (7 < (p2).toInt); omega) ?_
      refine xe_sn pg_77 2 (fr' := (23, [(0, .ref 0), (1, .int 3), (2, .int 1), (3, .int p2), (4, .int p3)], [.int 1])) rfl ?_
      apply xe_callq pg_77 97 [.int 1] (.inl none) (26, [(0, .ref 0), (1, .int 3), (2, .int 1), (3, .int p2), (4, .int p3)], []) rfl (fun _ => rfl)
      · refine xe_sn pg_97 2 (fr' := (12, [(0, .int 1)], [])) rfl ?_
        exact xe_end pg_97 rfl
      refine xe_sn pg_77 1 (fr' := (28, [(0, .ref 0), (1, .int 3), (2, .int 1), (3, .int p2), (4, .int p3)], [.int p3])) rfl ?_
      apply xe_callq pg_77 99 [.int p3] (.inl (some (.int 1))) (31, [(0, .ref 0), (1, .int 3), (2, .int 1), (3, .int p2), (4, .int p3)], [.int 1]) rfl (fun _ => rfl)
      · refine xe_sn pg_99 1 (fr' := (1, [(0, .int p3)], [.int p3])) rfl ?_
        refine xe_f1 pg_99 15 rfl rfl (by show ¬ ((p3).toInt < 0); omega) ?_
        refine xe_sn pg_99 2 (fr' := (8, [(0, .int p3)], [.int 255, .int p3])) rfl ?_
        refine xe_f2 pg_99 15 rfl rfl (by show ¬ (255 < (p3).toInt); omega) ?_
        refine xe_sn pg_99 2 (fr' := (16, [(0, .int p3)], [.int 1])) rfl ?_
        exact xe_end pg_99 rfl
      apply xe_callq pg_77 97 [.int 1] (.inl none) (34, [(0, .ref 0), (1, .int 3), (2, .int 1), (3, .int p2), (4, .int p3)], []) rfl (fun _ => rfl)
      · refine xe_sn pg_97 2 (fr' := (12, [(0, .int 1)], [])) rfl ?_
        exact xe_end pg_97 rfl
      refine xe_sn pg_77 4 (fr' := (40, [(0, .ref 0), (1, .int 3), (2, .int 1), (3, .int p2), (4, .int p3)], [.ref 154])) rfl ?_
      refine xe_sn pg_77 4 (fr' := (46, [(0, .ref 0), (1, .int 3), (2, .int 1), (3, .int p2), (4, .int p3)], [.int 0, .ref 160])) rfl ?_
      refine xe_sn pg_77 4 (fr' := (54, [(5, .ref 162), (0, .ref 0), (1, .int 3), (2, .int 1), (3, .int p2), (4, .int p3)], [.int 0])) rfl ?_
      refine xe_sn pg_77 3 (fr' := (71, [(5, .ref 162), (0, .ref 0), (1, .int 3), (2, .int 1), (3, .int p2), (4, .int p3)], [.int 0])) rfl ?_
      apply xe_callqx pg_77 98 [.int 0] 2 rfl (fun _ => rfl)
      · refine xe_sn pg_98 2 (fr' := (4, [(0, .int 0)], [])) rfl ?_
        exact xe_end pg_98 rfl
    refine xe_sn pg_164 1 (fr' := (28, [(0, .ref 0), (1, .int 3), (2, .int 1), (3, .int p2), (4, .int p3), (5, .ref 189)], [.int 3])) rfl ?_
    exact xe_end pg_164 rfl
  refine And.intro ⟨rfl, rfl, rfl, rfl⟩ ?_
  apply And.intro
  · refine xe_sn pg_143 2 (fr' := (2, [(0, .ref 165), (1, .int 3), (2, .int 1), (3, .int p2), (4, .int p3)], [.int 3, .ref 165])) rfl ?_
    apply xe_callq pg_143 104 [.int 3] (.inl (some (.int 1))) (5, [(0, .ref 165), (1, .int 3), (2, .int 1), (3, .int p2), (4, .int p3)], [.int 1, .ref 165]) rfl (fun _ => rfl)
    · refine xe_sn pg_104 3 (fr' := (3, [(0, .int 3)], [.int 3, .int 0, .int 3])) rfl ?_
      apply xe_callq pg_104 103 [.int 3, .int 0, .int 3] (.inl (some (.int 1))) (6, [(0, .int 3)], [.int 1]) rfl (fun _ => rfl)
      · refine xe_sn pg_103 4 (fr' := (6, [(0, .int 3), (1, .int 0), (2, .int 3)], [.int 3])) rfl ?_
        refine xe_sn pg_103 4 (fr' := (15, [(0, .int 3), (1, .int 0), (2, .int 3)], [.int 1])) rfl ?_
        exact xe_end pg_103 rfl
      exact xe_end pg_104 rfl
    refine xe_sn pg_143 4 (fr' := (11, [(0, .ref 165), (1, .int 3), (2, .int 1), (3, .int p2), (4, .int p3)], [.int 3, .int 1, .int 1, .ref 165])) rfl ?_
    apply xe_callq pg_143 103 [.int 1, .int 1, .int 3] (.inl (some (.int 1))) (14, [(0, .ref 165), (1, .int 3), (2, .int 1), (3, .int p2), (4, .int p3)], [.int 1, .ref 165]) rfl (fun _ => rfl)
    · refine xe_sn pg_103 4 (fr' := (6, [(0, .int 1), (1, .int 1), (2, .int 3)], [.int 1])) rfl ?_
      refine xe_sn pg_103 4 (fr' := (15, [(0, .int 1), (1, .int 1), (2, .int 3)], [.int 1])) rfl ?_
      exact xe_end pg_103 rfl
    refine xe_sn pg_143 4 (fr' := (25, [(0, .ref 165), (1, .int 3), (2, .int 1), (3, .int p2), (4, .int p3)], [.int 7, .int 0, .int p2, .ref 165])) rfl ?_
    apply xe_callq pg_143 103 [.int p2, .int 0, .int 7] (.inl (some (.int 1))) (28, [(0, .ref 165), (1, .int 3), (2, .int 1), (3, .int p2), (4, .int p3)], [.int 1, .ref 165]) rfl (fun _ => rfl)
    · refine xe_sn pg_103 2 (fr' := (2, [(0, .int p2), (1, .int 0), (2, .int 7)], [.int 0, .int p2])) rfl ?_
      refine xe_f2 pg_103 14 rfl rfl (by show ¬ ((p2).toInt < 0); omega) ?_
      refine xe_sn pg_103 2 (fr' := (7, [(0, .int p2), (1, .int 0), (2, .int 7)], [.int 7, .int p2])) rfl ?_
      refine xe_f2 pg_103 14 rfl rfl (by show ¬ (7 < (p2).toInt); omega) ?_
      refine xe_sn pg_103 2 (fr' := (15, [(0, .int p2), (1, .int 0), (2, .int 7)], [.int 1])) rfl ?_
      exact xe_end pg_103 rfl
    refine xe_sn pg_143 4 (fr' := (37, [(0, .ref 165), (1, .int 3), (2, .int 1), (3, .int p2), (4, .int p3)], [.int 255, .int 0, .int p3, .ref 165])) rfl ?_
    apply xe_callq pg_143 103 [.int p3, .int 0, .int 255] (.inl (some (.int 1))) (40, [(0, .ref 165), (1, .int 3), (2, .int 1), (3, .int p2), (4, .int p3)], [.int 1, .ref 165]) rfl (fun _ => rfl)
    · refine xe_sn pg_103 2 (fr' := (2, [(0, .int p3), (1, .int 0), (2, .int 255)], [.int 0, .int p3])) rfl ?_
      refine xe_f2 pg_103 14 rfl rfl (by show ¬ ((p3).toInt < 0); omega) ?_
      refine xe_sn pg_103 2 (fr' := (7, [(0, .int p3), (1, .int 0), (2, .int 255)], [.int 255, .int p3])) rfl ?_
      refine xe_f2 pg_103 14 rfl rfl (by show ¬ (255 < (p3).toInt); omega) ?_
      refine xe_sn pg_103 2 (fr' := (15, [(0, .int p3), (1, .int 0), (2, .int 255)], [.int 1])) rfl ?_
      exact xe_end pg_103 rfl
    refine xe_sn pg_143 4 (fr' := (52, [(0, .ref 165), (1, .int 3), (2, .int 1), (3, .int p2), (4, .int p3)], [.ref 165])) rfl ?_
    refine xe_sn pg_143 4 (fr' := (60, [(0, .ref 165), (1, .int 3), (2, .int 1), (3, .int p2), (4, .int p3)], [.int 3, .int 3])) rfl ?_
    refine xe_sn pg_143 4 (fr' := (64, [(0, .ref 165), (1, .int 3), (2, .int 1), (3, .int p2), (4, .int p3)], [.int 1, .int 10])) rfl ?_
    refine xe_sn pg_143 4 (fr' := (72, [(5, .int 9), (0, .ref 165), (1, .int 3), (2, .int 1), (3, .int p2), (4, .int p3)], [.ref 165])) rfl ?_
    refine xe_sn pg_143 4 (fr' := (80, [(5, .int 9), (0, .ref 165), (1, .int 3), (2, .int 1), (3, .int p2), (4, .int p3)], [.ref 165, .ref 165])) rfl ?_
    refine xe_sn pg_143 4 (fr' := (87, [(5, .int 9), (0, .ref 165), (1, .int 3), (2, .int 1), (3, .int p2), (4, .int p3)], [.int 2, .int 0, .ref 165])) rfl ?_
    refine xe_sn pg_143 4 (fr' := (111, [(5, .int 9), (0, .ref 165), (1, .int 3), (2, .int 1), (3, .int p2), (4, .int p3)], [])) rfl ?_
    refine xe_sn pg_143 4 (fr' := (119, [(5, .int 9), (0, .ref 165), (1, .int 3), (2, .int 1), (3, .int p2), (4, .int p3)], [.int 0])) rfl ?_
    exact xe_end pg_143 rfl
  · exact ⟨⟨rfl, rfl, rfl, rfl⟩, Nat.le_of_ble_eq_true rfl, Nat.le_of_ble_eq_true rfl, rfl, fun q => absurd q (by decide)⟩

set_option maxRecDepth 100000 in
theorem lf_send_60 (xs : Nat → Int32) (p2 : Int32) (p3 : Int32) (a2 : p2.toInt < 0) : op_ok xs 164 143 [.ref 0, .int 3, .int 2, .int p2, .int p3, .ref 189] [.ref 165, .int 3, .int 2, .int p2, .int p3] := by
  refine ⟨2, 0, ?_⟩
  apply Exists.intro
  apply Exists.intro
  apply And.intro
  · refine xe_sn pg_164 4 (fr' := (5, [(0, .ref 0), (1, .int 3), (2, .int 2), (3, .int p2), (4, .int p3), (5, .ref 189)], [.int 3, .ref 0, .int 0, .ref 189])) rfl ?_
    refine xe_sn pg_164 3 (fr' := (9, [(0, .ref 0), (1, .int 3), (2, .int 2), (3, .int p2), (4, .int p3), (5, .ref 189)], [.int p3, .int p2, .int 2, .int 3, .ref 0, .int 0, .ref 189])) rfl ?_
    apply xe_callq pg_164 77 [.ref 0, .int 3, .int 2, .int p2, .int p3] (.inr 1) (23, [(0, .ref 0), (1, .int 3), (2, .int 2), (3, .int p2), (4, .int p3), (5, .ref 189)], []) rfl (fun _ => rfl)
    · refine xe_sn pg_77 1 (fr' := (1, [(0, .ref 0), (1, .int 3), (2, .int 2), (3, .int p2), (4, .int p3)], [.int 3])) rfl ?_
      apply xe_callq pg_77 92 [.int 3] (.inl none) (4, [(0, .ref 0), (1, .int 3), (2, .int 2), (3, .int p2), (4, .int p3)], []) rfl (fun _ => rfl)
      · refine xe_sn pg_92 2 (fr' := (2, [(0, .int 3)], [.int 4, .int 3])) rfl ?_
        apply xe_callq pg_92 95 [.int 3, .int 4] (.inl none) (5, [(0, .int 3)], []) rfl (fun _ => rfl)
        · refine xe_sn pg_95 4 (fr' := (6, [(0, .int 3), (1, .int 4)], [.int 4, .int 3])) rfl ?_
          refine xe_sn pg_95 1 (fr' := (17, [(0, .int 3), (1, .int 4)], [])) rfl ?_
          exact xe_end pg_95 rfl
        exact xe_end pg_92 rfl
      refine xe_sn pg_77 1 (fr' := (5, [(0, .ref 0), (1, .int 3), (2, .int 2), (3, .int p2), (4, .int p3)], [.int 2])) rfl ?_
      apply xe_callq pg_77 94 [.int 2] (.inl none) (8, [(0, .ref 0), (1, .int 3), (2, .int 2), (3, .int p2), (4, .int p3)], []) rfl (fun _ => rfl)
      · refine xe_sn pg_94 1 (fr' := (1, [(0, .int 2)], [.int 2])) rfl ?_
        apply xe_callq pg_94 100 [.int 2] (.inl (some (.int 1))) (4, [(0, .int 2)], [.int 1]) rfl (fun _ => rfl)
        · refine xe_sn pg_100 4 (fr' := (6, [(0, .int 2)], [.int 2])) rfl ?_
          refine xe_sn pg_100 4 (fr' := (15, [(0, .int 2)], [.int 1])) rfl ?_
          exact xe_end pg_100 rfl
        refine xe_sn pg_94 1 (fr' := (15, [(0, .int 2)], [])) rfl ?_
        exact xe_end pg_94 rfl
      refine xe_sn pg_77 1 (fr' := (9, [(0, .ref 0), (1, .int 3), (2, .int 2), (3, .int p2), (4, .int p3)], [.int p2])) rfl ?_
      refine xe_t1 pg_77 22 rfl rfl (by show (p2).toInt < 0; omega) ?_
      refine xe_sn pg_77 1 (fr' := (23, [(0, .ref 0), (1, .int 3), (2, .int 2), (3, .int p2), (4, .int p3)], [.int 0])) rfl ?_
      apply xe_callqx pg_77 97 [.int 0] 1 rfl (fun _ => rfl)
      · refine xe_sn pg_97 2 (fr' := (4, [(0, .int 0)], [])) rfl ?_
        exact xe_end pg_97 rfl
    refine xe_sn pg_164 1 (fr' := (24, [(0, .ref 0), (1, .int 3), (2, .int 2), (3, .int p2), (4, .int p3), (5, .ref 189)], [.int 2])) rfl ?_
    exact xe_end pg_164 rfl
  refine And.intro ⟨rfl, rfl, rfl, rfl⟩ ?_
  apply And.intro
  · refine xe_sn pg_143 2 (fr' := (2, [(0, .ref 165), (1, .int 3), (2, .int 2), (3, .int p2), (4, .int p3)], [.int 3, .ref 165])) rfl ?_
    apply xe_callq pg_143 104 [.int 3] (.inl (some (.int 1))) (5, [(0, .ref 165), (1, .int 3), (2, .int 2), (3, .int p2), (4, .int p3)], [.int 1, .ref 165]) rfl (fun _ => rfl)
    · refine xe_sn pg_104 3 (fr' := (3, [(0, .int 3)], [.int 3, .int 0, .int 3])) rfl ?_
      apply xe_callq pg_104 103 [.int 3, .int 0, .int 3] (.inl (some (.int 1))) (6, [(0, .int 3)], [.int 1]) rfl (fun _ => rfl)
      · refine xe_sn pg_103 4 (fr' := (6, [(0, .int 3), (1, .int 0), (2, .int 3)], [.int 3])) rfl ?_
        refine xe_sn pg_103 4 (fr' := (15, [(0, .int 3), (1, .int 0), (2, .int 3)], [.int 1])) rfl ?_
        exact xe_end pg_103 rfl
      exact xe_end pg_104 rfl
    refine xe_sn pg_143 4 (fr' := (11, [(0, .ref 165), (1, .int 3), (2, .int 2), (3, .int p2), (4, .int p3)], [.int 3, .int 1, .int 2, .ref 165])) rfl ?_
    apply xe_callq pg_143 103 [.int 2, .int 1, .int 3] (.inl (some (.int 1))) (14, [(0, .ref 165), (1, .int 3), (2, .int 2), (3, .int p2), (4, .int p3)], [.int 1, .ref 165]) rfl (fun _ => rfl)
    · refine xe_sn pg_103 4 (fr' := (6, [(0, .int 2), (1, .int 1), (2, .int 3)], [.int 2])) rfl ?_
      refine xe_sn pg_103 4 (fr' := (15, [(0, .int 2), (1, .int 1), (2, .int 3)], [.int 1])) rfl ?_
      exact xe_end pg_103 rfl
    refine xe_sn pg_143 4 (fr' := (25, [(0, .ref 165), (1, .int 3), (2, .int 2), (3, .int p2), (4, .int p3)], [.int 7, .int 0, .int p2, .ref 165])) rfl ?_
    apply xe_callq pg_143 103 [.int p2, .int 0, .int 7] (.inl (some (.int 0))) (28, [(0, .ref 165), (1, .int 3), (2, .int 2), (3, .int p2), (4, .int p3)], [.int 0, .ref 165]) rfl (fun _ => rfl)
    · refine xe_sn pg_103 2 (fr' := (2, [(0, .int p2), (1, .int 0), (2, .int 7)], [.int 0, .int p2])) rfl ?_
      refine xe_t2 pg_103 14 rfl rfl (by show (p2).toInt < 0; omega) ?_
      refine xe_sn pg_103 1 (fr' := (15, [(0, .int p2), (1, .int 0), (2, .int 7)], [.int 0])) rfl ?_
      exact xe_end pg_103 rfl
    refine xe_sn pg_143 4 (fr' := (51, [(0, .ref 165), (1, .int 3), (2, .int 2), (3, .int p2), (4, .int p3)], [])) rfl ?_
    refine xe_sn pg_143 4 (fr' := (69, [(0, .ref 165), (1, .int 3), (2, .int 2), (3, .int p2), (4, .int p3)], [.int 0])) rfl ?_
    refine xe_sn pg_143 4 (fr' := (76, [(5, .int 0), (0, .ref 165), (1, .int 3), (2, .int 2), (3, .int p2), (4, .int p3)], [.int 2, .ref 165])) rfl ?_
    refine xe_sn pg_143 4 (fr' := (111, [(5, .int 0), (0, .ref 165), (1, .int 3), (2, .int 2), (3, .int p2), (4, .int p3)], [])) rfl ?_
    refine xe_sn pg_143 4 (fr' := (119, [(5, .int 0), (0, .ref 165), (1, .int 3), (2, .int 2), (3, .int p2), (4, .int p3)], [.int 0])) rfl ?_
    exact xe_end pg_143 rfl
  · exact ⟨⟨rfl, rfl, rfl, rfl⟩, Nat.le_of_ble_eq_true rfl, Nat.le_of_ble_eq_true rfl, rfl, fun q => absurd q (by decide)⟩

set_option maxRecDepth 100000 in
theorem lf_send_61 (xs : Nat → Int32) (p2 : Int32) (p3 : Int32) (b2 : 7 < p2.toInt) : op_ok xs 164 143 [.ref 0, .int 3, .int 2, .int p2, .int p3, .ref 189] [.ref 165, .int 3, .int 2, .int p2, .int p3] := by
  refine ⟨2, 0, ?_⟩
  apply Exists.intro
  apply Exists.intro
  apply And.intro
  · refine xe_sn pg_164 4 (fr' := (5, [(0, .ref 0), (1, .int 3), (2, .int 2), (3, .int p2), (4, .int p3), (5, .ref 189)], [.int 3, .ref 0, .int 0, .ref 189])) rfl ?_
    refine xe_sn pg_164 3 (fr' := (9, [(0, .ref 0), (1, .int 3), (2, .int 2), (3, .int p2), (4, .int p3), (5, .ref 189)], [.int p3, .int p2, .int 2, .int 3, .ref 0, .int 0, .ref 189])) rfl ?_
    apply xe_callq pg_164 77 [.ref 0, .int 3, .int 2, .int p2, .int p3] (.inr 1) (23, [(0, .ref 0), (1, .int 3), (2, .int 2), (3, .int p2), (4, .int p3), (5, .ref 189)], []) rfl (fun _ => rfl)
    · refine xe_sn pg_77 1 (fr' := (1, [(0, .ref 0), (1, .int 3), (2, .int 2), (3, .int p2), (4, .int p3)], [.int 3])) rfl ?_
      apply xe_callq pg_77 92 [.int 3] (.inl none) (4, [(0, .ref 0), (1, .int 3), (2, .int 2), (3, .int p2), (4, .int p3)], []) rfl (fun _ => rfl)
      · refine xe_sn pg_92 2 (fr' := (2, [(0, .int 3)], [.int 4, .int 3])) rfl ?_
        apply xe_callq pg_92 95 [.int 3, .int 4] (.inl none) (5, [(0, .int 3)], []) rfl (fun _ => rfl)
        · refine xe_sn pg_95 4 (fr' := (6, [(0, .int 3), (1, .int 4)], [.int 4, .int 3])) rfl ?_
          refine xe_sn pg_95 1 (fr' := (17, [(0, .int 3), (1, .int 4)], [])) rfl ?_
          exact xe_end pg_95 rfl
        exact xe_end pg_92 rfl
      refine xe_sn pg_77 1 (fr' := (5, [(0, .ref 0), (1, .int 3), (2, .int 2), (3, .int p2), (4, .int p3)], [.int 2])) rfl ?_
      apply xe_callq pg_77 94 [.int 2] (.inl none) (8, [(0, .ref 0), (1, .int 3), (2, .int 2), (3, .int p2), (4, .int p3)], []) rfl (fun _ => rfl)
      · refine xe_sn pg_94 1 (fr' := (1, [(0, .int 2)], [.int 2])) rfl ?_
        apply xe_callq pg_94 100 [.int 2] (.inl (some (.int 1))) (4, [(0, .int 2)], [.int 1]) rfl (fun _ => rfl)
        · refine xe_sn pg_100 4 (fr' := (6, [(0, .int 2)], [.int 2])) rfl ?_
          refine xe_sn pg_100 4 (fr' := (15, [(0, .int 2)], [.int 1])) rfl ?_
          exact xe_end pg_100 rfl
        refine xe_sn pg_94 1 (fr' := (15, [(0, .int 2)], [])) rfl ?_
        exact xe_end pg_94 rfl
      refine xe_sn pg_77 1 (fr' := (9, [(0, .ref 0), (1, .int 3), (2, .int 2), (3, .int p2), (4, .int p3)], [.int p2])) rfl ?_
      refine xe_f1 pg_77 22 rfl rfl (by show ¬ ((p2).toInt < 0); omega) ?_
      refine xe_sn pg_77 2 (fr' := (15, [(0, .ref 0), (1, .int 3), (2, .int 2), (3, .int p2), (4, .int p3)], [.int 7, .int p2])) rfl ?_
      refine xe_t2 pg_77 22 rfl rfl (by show 7 < (p2).toInt; omega) ?_
      refine xe_sn pg_77 1 (fr' := (23, [(0, .ref 0), (1, .int 3), (2, .int 2), (3, .int p2), (4, .int p3)], [.int 0])) rfl ?_
      apply xe_callqx pg_77 97 [.int 0] 1 rfl (fun _ => rfl)
      · refine xe_sn pg_97 2 (fr' := (4, [(0, .int 0)], [])) rfl ?_
        exact xe_end pg_97 rfl
    refine xe_sn pg_164 1 (fr' := (24, [(0, .ref 0), (1, .int 3), (2, .int 2), (3, .int p2), (4, .int p3), (5, .ref 189)], [.int 2])) rfl ?_
    exact xe_end pg_164 rfl
  refine And.intro ⟨rfl, rfl, rfl, rfl⟩ ?_
  apply And.intro
  · refine xe_sn pg_143 2 (fr' := (2, [(0, .ref 165), (1, .int 3), (2, .int 2), (3, .int p2), (4, .int p3)], [.int 3, .ref 165])) rfl ?_
    apply xe_callq pg_143 104 [.int 3] (.inl (some (.int 1))) (5, [(0, .ref 165), (1, .int 3), (2, .int 2), (3, .int p2), (4, .int p3)], [.int 1, .ref 165]) rfl (fun _ => rfl)
    · refine xe_sn pg_104 3 (fr' := (3, [(0, .int 3)], [.int 3, .int 0, .int 3])) rfl ?_
      apply xe_callq pg_104 103 [.int 3, .int 0, .int 3] (.inl (some (.int 1))) (6, [(0, .int 3)], [.int 1]) rfl (fun _ => rfl)
      · refine xe_sn pg_103 4 (fr' := (6, [(0, .int 3), (1, .int 0), (2, .int 3)], [.int 3])) rfl ?_
        refine xe_sn pg_103 4 (fr' := (15, [(0, .int 3), (1, .int 0), (2, .int 3)], [.int 1])) rfl ?_
        exact xe_end pg_103 rfl
      exact xe_end pg_104 rfl
    refine xe_sn pg_143 4 (fr' := (11, [(0, .ref 165), (1, .int 3), (2, .int 2), (3, .int p2), (4, .int p3)], [.int 3, .int 1, .int 2, .ref 165])) rfl ?_
    apply xe_callq pg_143 103 [.int 2, .int 1, .int 3] (.inl (some (.int 1))) (14, [(0, .ref 165), (1, .int 3), (2, .int 2), (3, .int p2), (4, .int p3)], [.int 1, .ref 165]) rfl (fun _ => rfl)
    · refine xe_sn pg_103 4 (fr' := (6, [(0, .int 2), (1, .int 1), (2, .int 3)], [.int 2])) rfl ?_
      refine xe_sn pg_103 4 (fr' := (15, [(0, .int 2), (1, .int 1), (2, .int 3)], [.int 1])) rfl ?_
      exact xe_end pg_103 rfl
    refine xe_sn pg_143 4 (fr' := (25, [(0, .ref 165), (1, .int 3), (2, .int 2), (3, .int p2), (4, .int p3)], [.int 7, .int 0, .int p2, .ref 165])) rfl ?_
    apply xe_callq pg_143 103 [.int p2, .int 0, .int 7] (.inl (some (.int 0))) (28, [(0, .ref 165), (1, .int 3), (2, .int 2), (3, .int p2), (4, .int p3)], [.int 0, .ref 165]) rfl (fun _ => rfl)
    · refine xe_sn pg_103 2 (fr' := (2, [(0, .int p2), (1, .int 0), (2, .int 7)], [.int 0, .int p2])) rfl ?_
      refine xe_f2 pg_103 14 rfl rfl (by show ¬ ((p2).toInt < 0); omega) ?_
      refine xe_sn pg_103 2 (fr' := (7, [(0, .int p2), (1, .int 0), (2, .int 7)], [.int 7, .int p2])) rfl ?_
      refine xe_t2 pg_103 14 rfl rfl (by show 7 < (p2).toInt; omega) ?_
      refine xe_sn pg_103 1 (fr' := (15, [(0, .int p2), (1, .int 0), (2, .int 7)], [.int 0])) rfl ?_
      exact xe_end pg_103 rfl
    refine xe_sn pg_143 4 (fr' := (51, [(0, .ref 165), (1, .int 3), (2, .int 2), (3, .int p2), (4, .int p3)], [])) rfl ?_
    refine xe_sn pg_143 4 (fr' := (69, [(0, .ref 165), (1, .int 3), (2, .int 2), (3, .int p2), (4, .int p3)], [.int 0])) rfl ?_
    refine xe_sn pg_143 4 (fr' := (76, [(5, .int 0), (0, .ref 165), (1, .int 3), (2, .int 2), (3, .int p2), (4, .int p3)], [.int 2, .ref 165])) rfl ?_
    refine xe_sn pg_143 4 (fr' := (111, [(5, .int 0), (0, .ref 165), (1, .int 3), (2, .int 2), (3, .int p2), (4, .int p3)], [])) rfl ?_
    refine xe_sn pg_143 4 (fr' := (119, [(5, .int 0), (0, .ref 165), (1, .int 3), (2, .int 2), (3, .int p2), (4, .int p3)], [.int 0])) rfl ?_
    exact xe_end pg_143 rfl
  · exact ⟨⟨rfl, rfl, rfl, rfl⟩, Nat.le_of_ble_eq_true rfl, Nat.le_of_ble_eq_true rfl, rfl, fun q => absurd q (by decide)⟩

set_option maxRecDepth 100000 in
theorem lf_send_62 (xs : Nat → Int32) (p2 : Int32) (p3 : Int32) (a2 : 0 ≤ p2.toInt) (b2 : p2.toInt ≤ 7) (a3 : p3.toInt < 0) : op_ok xs 164 143 [.ref 0, .int 3, .int 2, .int p2, .int p3, .ref 189] [.ref 165, .int 3, .int 2, .int p2, .int p3] := by
  refine ⟨2, 0, ?_⟩
  apply Exists.intro
  apply Exists.intro
  apply And.intro
  · refine xe_sn pg_164 4 (fr' := (5, [(0, .ref 0), (1, .int 3), (2, .int 2), (3, .int p2), (4, .int p3), (5, .ref 189)], [.int 3, .ref 0, .int 0, .ref 189])) rfl ?_
    refine xe_sn pg_164 3 (fr' := (9, [(0, .ref 0), (1, .int 3), (2, .int 2), (3, .int p2), (4, .int p3), (5, .ref 189)], [.int p3, .int p2, .int 2, .int 3, .ref 0, .int 0, .ref 189])) rfl ?_
    apply xe_callq pg_164 77 [.ref 0, .int 3, .int 2, .int p2, .int p3] (.inr 1) (23, [(0, .ref 0), (1, .int 3), (2, .int 2), (3, .int p2), (4, .int p3), (5, .ref 189)], []) rfl (fun _ => rfl)
    · refine xe_sn pg_77 1 (fr' := (1, [(0, .ref 0), (1, .int 3), (2, .int 2), (3, .int p2), (4, .int p3)], [.int 3])) rfl ?_
      apply xe_callq pg_77 92 [.int 3] (.inl none) (4, [(0, .ref 0), (1, .int 3), (2, .int 2), (3, .int p2), (4, .int p3)], []) rfl (fun _ => rfl)
      · refine xe_sn pg_92 2 (fr' := (2, [(0, .int 3)], [.int 4, .int 3])) rfl ?_
        apply xe_callq pg_92 95 [.int 3, .int 4] (.inl none) (5, [(0, .int 3)], []) rfl (fun _ => rfl)
        · refine xe_sn pg_95 4 (fr' := (6, [(0, .int 3), (1, .int 4)], [.int 4, .int 3])) rfl ?_
          refine xe_sn pg_95 1 (fr' := (17, [(0, .int 3), (1, .int 4)], [])) rfl ?_
          exact xe_end pg_95 rfl
        exact xe_end pg_92 rfl
      refine xe_sn pg_77 1 (fr' := (5, [(0, .ref 0), (1, .int 3), (2, .int 2), (3, .int p2), (4, .int p3)], [.int 2])) rfl ?_
      apply xe_callq pg_77 94 [.int 2] (.inl none) (8, [(0, .ref 0), (1, .int 3), (2, .int 2), (3, .int p2), (4, .int p3)], []) rfl (fun _ => rfl)
      · refine xe_sn pg_94 1 (fr' := (1, [(0, .int 2)], [.int 2])) rfl ?_
        apply xe_callq pg_94 100 [.int 2] (.inl (some (.int 1))) (4, [(0, .int 2)], [.int 1]) rfl (fun _ => rfl)
        · refine xe_sn pg_100 4 (fr' := (6, [(0, .int 2)], [.int 2])) rfl ?_
          refine xe_sn pg_100 4 (fr' := (15, [(0, .int 2)], [.int 1])) rfl ?_
          exact xe_end pg_100 rfl
        refine xe_sn pg_94 1 (fr' := (15, [(0, .int 2)], [])) rfl ?_
        exact xe_end pg_94 rfl
      refine xe_sn pg_77 1 (fr' := (9, [(0, .ref 0), (1, .int 3), (2, .int 2), (3, .int p2), (4, .int p3)], [.int p2])) rfl ?_
      refine xe_f1 pg_77 22 rfl rfl (by show ¬ ((p2).toInt < 0); omega) ?_
      refine xe_sn pg_77 2 (fr' := (15, [(0, .ref 0), (1, .int 3), (2, .int 2), (3, .int p2), (4, .int p3)], [.int 7, .int p2])) rfl ?_
      refine xe_f2 pg_77 22 rfl rfl (by show ¬ (7 < (p2).toInt); omega) ?_
      refine xe_sn pg_77 2 (fr' := (23, [(0, .ref 0), (1, .int 3), (2, .int 2), (3, .int p2), (4, .int p3)], [.int 1])) rfl ?_
      apply xe_callq pg_77 97 [.int 1] (.inl none) (26, [(0, .ref 0), (1, .int 3), (2, .int 2), (3, .int p2), (4, .int p3)], []) rfl (fun _ => rfl)
      · refine xe_sn pg_97 2 (fr' := (12, [(0, .int 1)], [])) rfl ?_
        exact xe_end pg_97 rfl
      refine xe_sn pg_77 1 (fr' := (28, [(0, .ref 0), (1, .int 3), (2, .int 2), (3, .int p2), (4, .int p3)], [.int p3])) rfl ?_
      apply xe_callq pg_77 99 [.int p3] (.inl (some (.int 0))) (31, [(0, .ref 0), (1, .int 3), (2, .int 2), (3, .int p2), (4, .int p3)], [.int 0]) rfl (fun _ => rfl)
      · refine xe_sn pg_99 1 (fr' := (1, [(0, .int p3)], [.int p3])) rfl ?_
        refine xe_t1 pg_99 15 rfl rfl (by show (p3).toInt < 0; omega) ?_
        refine xe_sn pg_99 1 (fr' := (16, [(0, .int p3)], [.int 0])) rfl ?_
        exact xe_end pg_99 rfl
      apply xe_callqx pg_77 97 [.int 0] 1 rfl (fun _ => rfl)
      · refine xe_sn pg_97 2 (fr' := (4, [(0, .int 0)], [])) rfl ?_
        exact xe_end pg_97 rfl
    refine xe_sn pg_164 1 (fr' := (24, [(0, .ref 0), (1, .int 3), (2, .int 2), (3, .int p2), (4, .int p3), (5, .ref 189)], [.int 2])) rfl ?_
    exact xe_end pg_164 rfl
  refine And.intro ⟨rfl, rfl, rfl, rfl⟩ ?_
  apply And.intro
  · refine xe_sn pg_143 2 (fr' := (2, [(0, .ref 165), (1, .int 3), (2, .int 2), (3, .int p2), (4, .int p3)], [.int 3, .ref 165])) rfl ?_
    apply xe_callq pg_143 104 [.int 3] (.inl (some (.int 1))) (5, [(0, .ref 165), (1, .int 3), (2, .int 2), (3, .int p2), (4, .int p3)], [.int 1, .ref 165]) rfl (fun _ => rfl)
    · refine xe_sn pg_104 3 (fr' := (3, [(0, .int 3)], [.int 3, .int 0, .int 3])) rfl ?_
      apply xe_callq pg_104 103 [.int 3, .int 0, .int 3] (.inl (some (.int 1))) (6, [(0, .int 3)], [.int 1]) rfl (fun _ => rfl)
      · refine xe_sn pg_103 4 (fr' := (6, [(0, .int 3), (1, .int 0), (2, .int 3)], [.int 3])) rfl ?_
        refine xe_sn pg_103 4 (fr' := (15, [(0, .int 3), (1, .int 0), (2, .int 3)], [.int 1])) rfl ?_
        exact xe_end pg_103 rfl
      exact xe_end pg_104 rfl
    refine xe_sn pg_143 4 (fr' := (11, [(0, .ref 165), (1, .int 3), (2, .int 2), (3, .int p2), (4, .int p3)], [.int 3, .int 1, .int 2, .ref 165])) rfl ?_
    apply xe_callq pg_143 103 [.int 2, .int 1, .int 3] (.inl (some (.int 1))) (14, [(0, .ref 165), (1, .int 3), (2, .int 2), (3, .int p2), (4, .int p3)], [.int 1, .ref 165]) rfl (fun _ => rfl)
    · refine xe_sn pg_103 4 (fr' := (6, [(0, .int 2), (1, .int 1), (2, .int 3)], [.int 2])) rfl ?_
      refine xe_sn pg_103 4 (fr' := (15, [(0, .int 2), (1, .int 1), (2, .int 3)], [.int 1])) rfl ?_
      exact xe_end pg_103 rfl
    refine xe_sn pg_143 4 (fr' := (25, [(0, .ref 165), (1, .int 3), (2, .int 2), (3, .int p2), (4, .int p3)], [.int 7, .int 0, .int p2, .ref 165])) rfl ?_
    apply xe_callq pg_143 103 [.int p2, .int 0, .int 7] (.inl (some (.int 1))) (28, [(0, .ref 165), (1, .int 3), (2, .int 2), (3, .int p2), (4, .int p3)], [.int 1, .ref 165]) rfl (fun _ => rfl)
    · refine xe_sn pg_103 2 (fr' := (2, [(0, .int p2), (1, .int 0), (2, .int 7)], [.int 0, .int p2])) rfl ?_
      refine xe_f2 pg_103 14 rfl rfl (by show ¬ ((p2).toInt < 0); omega) ?_
      refine xe_sn pg_103 2 (fr' := (7, [(0, .int p2), (1, .int 0), (2, .int 7)], [.int 7, .int p2])) rfl ?_
      refine xe_f2 pg_103 14 rfl rfl (by show ¬ (7 < (p2).toInt); omega) ?_
      refine xe_sn pg_103 2 (fr' := (15, [(0, .int p2), (1, .int 0), (2, .int 7)], [.int 1])) rfl ?_
      exact xe_end pg_103 rfl
    refine xe_sn pg_143 4 (fr' := (37, [(0, .ref 165), (1, .int 3), (2, .int 2), (3, .int p2), (4, .int p3)], [.int 255, .int 0, .int p3, .ref 165])) rfl ?_
    apply xe_callq pg_143 103 [.int p3, .int 0, .int 255] (.inl (some (.int 0))) (40, [(0, .ref 165), (1, .int 3), (2, .int 2), (3, .int p2), (4, .int p3)], [.int 0, .ref 165]) rfl (fun _ => rfl)
    · refine xe_sn pg_103 2 (fr' := (2, [(0, .int p3), (1, .int 0), (2, .int 255)], [.int 0, .int p3])) rfl ?_
      refine xe_t2 pg_103 14 rfl rfl (by show (p3).toInt < 0; omega) ?_
      refine xe_sn pg_103 1 (fr' := (15, [(0, .int p3), (1, .int 0), (2, .int 255)], [.int 0])) rfl ?_
      exact xe_end pg_103 rfl
    refine xe_sn pg_143 4 (fr' := (51, [(0, .ref 165), (1, .int 3), (2, .int 2), (3, .int p2), (4, .int p3)], [])) rfl ?_
    refine xe_sn pg_143 4 (fr' := (69, [(0, .ref 165), (1, .int 3), (2, .int 2), (3, .int p2), (4, .int p3)], [.int 0])) rfl ?_
    refine xe_sn pg_143 4 (fr' := (76, [(5, .int 0), (0, .ref 165), (1, .int 3), (2, .int 2), (3, .int p2), (4, .int p3)], [.int 2, .ref 165])) rfl ?_
    refine xe_sn pg_143 4 (fr' := (111, [(5, .int 0), (0, .ref 165), (1, .int 3), (2, .int 2), (3, .int p2), (4, .int p3)], [])) rfl ?_
    refine xe_sn pg_143 4 (fr' := (119, [(5, .int 0), (0, .ref 165), (1, .int 3), (2, .int 2), (3, .int p2), (4, .int p3)], [.int 0])) rfl ?_
    exact xe_end pg_143 rfl
  · exact ⟨⟨rfl, rfl, rfl, rfl⟩, Nat.le_of_ble_eq_true rfl, Nat.le_of_ble_eq_true rfl, rfl, fun q => absurd q (by decide)⟩

set_option maxRecDepth 100000 in
theorem lf_send_63 (xs : Nat → Int32) (p2 : Int32) (p3 : Int32) (a2 : 0 ≤ p2.toInt) (b2 : p2.toInt ≤ 7) (b3 : 255 < p3.toInt) : op_ok xs 164 143 [.ref 0, .int 3, .int 2, .int p2, .int p3, .ref 189] [.ref 165, .int 3, .int 2, .int p2, .int p3] := by
  refine ⟨2, 0, ?_⟩
  apply Exists.intro
  apply Exists.intro
  apply And.intro
  · refine xe_sn pg_164 4 (fr' := (5, [(0, .ref 0), (1, .int 3), (2, .int 2), (3, .int p2), (4, .int p3), (5, .ref 189)], [.int 3, .ref 0, .int 0, .ref 189])) rfl ?_
    refine xe_sn pg_164 3 (fr' := (9, [(0, .ref 0), (1, .int 3), (2, .int 2), (3, .int p2), (4, .int p3), (5, .ref 189)], [.int p3, .int p2, .int 2, .int 3, .ref 0, .int 0, .ref 189])) rfl ?_
    apply xe_callq pg_164 77 [.ref 0, .int 3, .int 2, .int p2, .int p3] (.inr 1) (23, [(0, .ref 0), (1, .int 3), (2, .int 2), (3, .int p2), (4, .int p3), (5, .ref 189)], []) rfl (fun _ => rfl)
    · refine xe_sn pg_77 1 (fr' := (1, [(0, .ref 0), (1, .int 3), (2, .int 2), (3, .int p2), (4, .int p3)], [.int 3])) rfl ?_
      apply xe_callq pg_77 92 [.int 3] (.inl none) (4, [(0, .ref 0), (1, .int 3), (2, .int 2), (3, .int p2), (4, .int p3)], []) rfl (fun _ => rfl)
      · refine xe_sn pg_92 2 (fr' := (2, [(0, .int 3)], [.int 4, .int 3])) rfl ?_
        apply xe_callq pg_92 95 [.int 3, .int 4] (.inl none) (5, [(0, .int 3)], []) rfl (fun _ => rfl)
        · refine xe_sn pg_95 4 (fr' := (6, [(0, .int 3), (1, .int 4)], [.int 4, .int 3])) rfl ?_
          refine xe_sn pg_95 1 (fr' := (17, [(0, .int 3), (1, .int 4)], [])) rfl ?_
          exact xe_end pg_95 rfl
        exact xe_end pg_92 rfl
      refine xe_sn pg_77 1 (fr' := (5, [(0, .ref 0), (1, .int 3), (2, .int 2), (3, .int p2), (4, .int p3)], [.int 2])) rfl ?_
      apply xe_callq pg_77 94 [.int 2] (.inl none) (8, [(0, .ref 0), (1, .int 3), (2, .int 2), (3, .int p2), (4, .int p3)], []) rfl (fun _ => rfl)
      · refine xe_sn pg_94 1 (fr' := (1, [(0, .int 2)], [.int 2])) rfl ?_
        apply xe_callq pg_94 100 [.int 2] (.inl (some (.int 1))) (4, [(0, .int 2)], [.int 1]) rfl (fun _ => rfl)
        · refine xe_sn pg_100 4 (fr' := (6, [(0, .int 2)], [.int 2])) rfl ?_
          refine xe_sn pg_100 4 (fr' := (15, [(0, .int 2)], [.int 1])) rfl ?_
          exact xe_end pg_100 rfl
        refine xe_sn pg_94 1 (fr' := (15, [(0, .int 2)], [])) rfl ?_
        exact xe_end pg_94 rfl
      refine xe_sn pg_77 1 (fr' := (9, [(0, .ref 0), (1, .int 3), (2, .int 2), (3, .int p2), (4, .int p3)], [.int p2])) rfl ?_
      refine xe_f1 pg_77 22 rfl rfl (by show ¬ ((p2).toInt < 0); omega) ?_
      refine xe_sn pg_77 2 (fr' := (15, [(0, .ref 0), (1, .int 3), (2, .int 2), (3, .int p2), (4, .int p3)], [.int 7, .int p2])) rfl ?_
      refine xe_f2 pg_77 22 rfl rfl (by show ¬ (7 < (p2).toInt); omega) ?_
      refine xe_sn pg_77 2 (fr' := (23, [(0, .ref 0), (1, .int 3), (2, .int 2), (3, .int p2), (4, .int p3)], [.int 1])) rfl ?_
      apply xe_callq pg_77 97 [.int 1] (.inl none) (26, [(0, .ref 0), (1, .int 3), (2, .int 2), (3, .int p2), (4, .int p3)], []) rfl (fun _ => rfl)
      · refine xe_sn pg_97 2 (fr' := (12, [(0, .int 1)], [])) rfl ?_
        exact xe_end pg_97 rfl
      refine xe_sn pg_77 1 (fr' := (28, [(0, .ref 0), (1, .int 3), (2, .int 2), (3, .int p2), (4, .int p3)], [.int p3])) rfl ?_
      apply xe_callq pg_77 99 [.int p3] (.inl (some (.int 0))) (31, [(0, .ref 0), (1, .int 3), (2, .int 2), (3, .int p2), (4, .int p3)], [.int 0]) rfl (fun _ => rfl)
      · refine xe_sn pg_99 1 (fr' := (1, [(0, .int p3)], [.int p3])) rfl ?_
        refine xe_f1 pg_99 15 rfl rfl (by show ¬ ((p3).toInt < 0); omega) ?_
        refine xe_sn pg_99 2 (fr' := (8, [(0, .int p3)], [.int 255, .int p3])) rfl ?_
        refine xe_t2 pg_99 15 rfl rfl (by show 255 < (p3).toInt; omega) ?_
        refine xe_sn pg_99 1 (fr' := (16, [(0, .int p3)], [.int 0])) rfl ?_
        exact xe_end pg_99 rfl
      apply xe_callqx pg_77 97 [.int 0] 1 rfl (fun _ => rfl)
      · refine xe_sn pg_97 2 (fr' := (4, [(0, .int 0)], [])) rfl ?_
        exact xe_end pg_97 rfl
    refine xe_sn pg_164 1 (fr' := (24, [(0, .ref 0), (1, .int 3), (2, .int 2), (3, .int p2), (4, .int p3), (5, .ref 189)], [.int 2])) rfl ?_
    exact xe_end pg_164 rfl
  refine And.intro ⟨rfl, rfl, rfl, rfl⟩ ?_
  apply And.intro
  · refine xe_sn pg_143 2 (fr' := (2, [(0, .ref 165), (1, .int 3), (2, .int 2), (3, .int p2), (4, .int p3)], [.int 3, .ref 165])) rfl ?_
    apply xe_callq pg_143 104 [.int 3] (.inl (some (.int 1))) (5, [(0, .ref 165), (1, .int 3), (2, .int 2), (3, .int p2), (4, .int p3)], [.int 1, .ref 165]) rfl (fun _ => rfl)
    · refine xe_sn pg_104 3 (fr' := (3, [(0, .int 3)], [.int 3, .int 0, .int 3])) rfl ?_
      apply xe_callq pg_104 103 [.int 3, .int 0, .int 3] (.inl (some (.int 1))) (6, [(0, .int 3)], [.int 1]) rfl (fun _ => rfl)
      · refine xe_sn pg_103 4 (fr' := (6, [(0, .int 3), (1, .int 0), (2, .int 3)], [.int 3])) rfl ?_
        refine xe_sn pg_103 4 (fr' := (15, [(0, .int 3), (1, .int 0), (2, .int 3)], [.int 1])) rfl ?_
        exact xe_end pg_103 rfl
      exact xe_end pg_104 rfl
    refine xe_sn pg_143 4 (fr' := (11, [(0, .ref 165), (1, .int 3), (2, .int 2), (3, .int p2), (4, .int p3)], [.int 3, .int 1, .int 2, .ref 165])) rfl ?_
    apply xe_callq pg_143 103 [.int 2, .int 1, .int 3] (.inl (some (.int 1))) (14, [(0, .ref 165), (1, .int 3), (2, .int 2), (3, .int p2), (4, .int p3)], [.int 1, .ref 165]) rfl (fun _ => rfl)
    · refine xe_sn pg_103 4 (fr' := (6, [(0, .int 2), (1, .int 1), (2, .int 3)], [.int 2])) rfl ?_
      refine xe_sn pg_103 4 (fr' := (15, [(0, .int 2), (1, .int 1), (2, .int 3)], [.int 1])) rfl ?_
      exact xe_end pg_103 rfl
    refine xe_sn pg_143 4 (fr' := (25, [(0, .ref 165), (1, .int 3), (2, .int 2), (3, .int p2), (4, .int p3)], [.int 7, .int 0, .int p2, .ref 165])) rfl ?_
    apply xe_callq pg_143 103 [.int p2, .int 0, .int 7] (.inl (some (.int 1))) (28, [(0, .ref 165), (1, .int 3), (2, .int 2), (3, .int p2), (4, .int p3)], [.int 1, .ref 165]) rfl (fun _ => rfl)
    · refine xe_sn pg_103 2 (fr' := (2, [(0, .int p2), (1, .int 0), (2, .int 7)], [.int 0, .int p2])) rfl ?_
      refine xe_f2 pg_103 14 rfl rfl (by show ¬ ((p2).toInt < 0); omega) ?_
      refine xe_sn pg_103 2 (fr' := (7, [(0, .int p2), (1, .int 0), (2, .int 7)], [.int 7, .int p2])) rfl ?_
      refine xe_f2 pg_103 14 rfl rfl (by show ¬ (7 < (p2).toInt); omega) ?_
      refine xe_sn pg_103 2 (fr' := (15, [(0, .int p2), (1, .int 0), (2, .int 7)], [.int 1])) rfl ?_
      exact xe_end pg_103 rfl
    refine xe_sn pg_143 4 (fr' := (37, [(0, .ref 165), (1, .int 3), (2, .int 2), (3, .int p2), (4, .int p3)], [.int 255, .int 0, .int p3, .ref 165])) rfl ?_
    apply xe_callq pg_143 103 [.int p3, .int 0, .int 255] (.inl (some (.int 0))) (40, [(0, .ref 165), (1, .int 3), (2, .int 2), (3, .int p2), (4, .int p3)], [.int 0, .ref 165]) rfl (fun _ => rfl)
    · refine xe_sn pg_103 2 (fr' := (2, [(0, .int p3), (1, .int 0), (2, .int 255)], [.int 0, .int p3])) rfl ?_
      refine xe_f2 pg_103 14 rfl rfl (by show ¬ ((p3).toInt < 0); omega) ?_
      refine xe_sn pg_103 2 (fr' := (7, [(0, .int p3), (1, .int 0), (2, .int 255)], [.int 255, .int p3])) rfl ?_
      refine xe_t2 pg_103 14 rfl rfl (by show 255 < (p3).toInt; omega) ?_
      refine xe_sn pg_103 1 (fr' := (15, [(0, .int p3), (1, .int 0), (2, .int 255)], [.int 0])) rfl ?_
      exact xe_end pg_103 rfl
    refine xe_sn pg_143 4 (fr' := (51, [(0, .ref 165), (1, .int 3), (2, .int 2), (3, .int p2), (4, .int p3)], [])) rfl ?_
    refine xe_sn pg_143 4 (fr' := (69, [(0, .ref 165), (1, .int 3), (2, .int 2), (3, .int p2), (4, .int p3)], [.int 0])) rfl ?_
    refine xe_sn pg_143 4 (fr' := (76, [(5, .int 0), (0, .ref 165), (1, .int 3), (2, .int 2), (3, .int p2), (4, .int p3)], [.int 2, .ref 165])) rfl ?_
    refine xe_sn pg_143 4 (fr' := (111, [(5, .int 0), (0, .ref 165), (1, .int 3), (2, .int 2), (3, .int p2), (4, .int p3)], [])) rfl ?_
    refine xe_sn pg_143 4 (fr' := (119, [(5, .int 0), (0, .ref 165), (1, .int 3), (2, .int 2), (3, .int p2), (4, .int p3)], [.int 0])) rfl ?_
    exact xe_end pg_143 rfl
  · exact ⟨⟨rfl, rfl, rfl, rfl⟩, Nat.le_of_ble_eq_true rfl, Nat.le_of_ble_eq_true rfl, rfl, fun q => absurd q (by decide)⟩

set_option maxRecDepth 100000 in
theorem lf_send_64 (xs : Nat → Int32) (p2 : Int32) (p3 : Int32) (a2 : 0 ≤ p2.toInt) (b2 : p2.toInt ≤ 7) (a3 : 0 ≤ p3.toInt) (b3 : p3.toInt ≤ 255) : op_ok xs 164 143 [.ref 0, .int 3, .int 2, .int p2, .int p3, .ref 189] [.ref 165, .int 3, .int 2, .int p2, .int p3] := by
  refine ⟨3, 0, ?_⟩
  apply Exists.intro
  apply Exists.intro
  apply And.intro
  · refine xe_sn pg_164 4 (fr' := (5, [(0, .ref 0), (1, .int 3), (2, .int 2), (3, .int p2), (4, .int p3), (5, .ref 189)], [.int 3, .ref 0, .int 0, .ref 189])) rfl ?_
    refine xe_sn pg_164 3 (fr' := (9, [(0, .ref 0), (1, .int 3), (2, .int 2), (3, .int p2), (4, .int p3), (5, .ref 189)], [.int p3, .int p2, .int 2, .int 3, .ref 0, .int 0, .ref 189])) rfl ?_
    apply xe_callq pg_164 77 [.ref 0, .int 3, .int 2, .int p2, .int p3] (.inr 2) (27, [(0, .ref 0), (1, .int 3), (2, .int 2), (3, .int p2), (4, .int p3), (5, .ref 189)], []) rfl (fun _ => rfl)
    · refine xe_sn pg_77 1 (fr' := (1, [(0, .ref 0), (1, .int 3), (2, .int 2), (3, .int p2), (4, .int p3)], [.int 3])) rfl ?_
      apply xe_callq pg_77 92 [.int 3] (.inl none) (4, [(0, .ref 0), (1, .int 3), (2, .int 2), (3, .int p2), (4, .int p3)], []) rfl (fun _ => rfl)
      · refine xe_sn pg_92 2 (fr' := (2, [(0, .int 3)], [.int 4, .int 3])) rfl ?_
        apply xe_callq pg_92 95 [.int 3, .int 4] (.inl none) (5, [(0, .int 3)], []) rfl (fun _ => rfl)
        · refine xe_sn pg_95 4 (fr' := (6, [(0, .int 3), (1, .int 4)], [.int 4, .int 3])) rfl ?_
          refine xe_sn pg_95 1 (fr' := (17, [(0, .int 3), (1, .int 4)], [])) rfl ?_
          exact xe_end pg_95 rfl
        exact xe_end pg_92 rfl
      refine xe_sn pg_77 1 (fr' := (5, [(0, .ref 0), (1, .int 3), (2, .int 2), (3, .int p2), (4, .int p3)], [.int 2])) rfl ?_
      apply xe_callq pg_77 94 [.int 2] (.inl none) (8, [(0, .ref 0), (1, .int 3), (2, .int 2), (3, .int p2), (4, .int p3)], []) rfl (fun _ => rfl)
      · refine xe_sn pg_94 1 (fr' := (1, [(0, .int 2)], [.int 2])) rfl ?_
        apply xe_callq pg_94 100 [.int 2] (.inl (some (.int 1))) (4, [(0, .int 2)], [.int 1]) rfl (fun _ => rfl)
        · refine xe_sn pg_100 4 (fr' := (6, [(0, .int 2)], [.int 2])) rfl ?_
          refine xe_sn pg_100 4 (fr' := (15, [(0, .int 2)], [.int 1])) rfl ?_
          exact xe_end pg_100 rfl
        refine xe_sn pg_94 1 (fr' := (15, [(0, .int 2)], [])) rfl ?_
        exact xe_end pg_94 rfl
      refine xe_sn pg_77 1 (fr' := (9, [(0, .ref 0), (1, .int 3), (2, .int 2), (3, .int p2), (4, .int p3)], [.int p2])) rfl ?_
      refine xe_f1 pg_77 22 rfl rfl (by show ¬ ((p2).toInt < 0); omega) ?_
      refine xe_sn pg_77 2 (fr' := (15, [(0, .ref 0), (1, .int 3), (2, .int 2), (3, .int p2), (4, .int p3)], [.int 7, .int p2])) rfl ?_
      refine xe_f2 pg_77 22 rfl rfl (by show ¬ (7 < (p2).toInt); omega) ?_
      refine xe_sn pg_77 2 (fr' := (23, [(0, .ref 0), (1, .int 3), (2, .int 2), (3, .int p2), (4, .int p3)], [.int 1])) rfl ?_
      apply xe_callq pg_77 97 [.int 1] (.inl none) (26, [(0, .ref 0), (1, .int 3), (2, .int 2), (3, .int p2), (4, .int p3)], []) rfl (fun _ => rfl)
      · refine xe_sn pg_97 2 (fr' := (12, [(0, .int 1)], [])) rfl ?_
        exact xe_end pg_97 rfl
      refine xe_sn pg_77 1 (fr' := (28, [(0, .ref 0), (1, .int 3), (2, .int 2), (3, .int p2), (4, .int p3)], [.int p3])) rfl ?_
      apply xe_callq pg_77 99 [.int p3] (.inl (some (.int 1))) (31, [(0, .ref 0), (1, .int 3), (2, .int 2), (3, .int p2), (4, .int p3)], [.int 1]) rfl (fun _ => rfl)
      · refine xe_sn pg_99 1 (fr' := (1, [(0, .int p3)], [.int p3])) rfl ?_
        refine xe_f1 pg_99 15 rfl rfl (by show ¬ ((p3).toInt < 0); omega) ?_
        refine xe_sn pg_99 2 (fr' := (8, [(0, .int p3)], [.int 255, .int p3])) rfl ?_
        refine xe_f2 pg_99 15 rfl rfl (by show ¬ (255 < (p3).toInt); omega) ?_
        refine xe_sn pg_99 2 (fr' := (16, [(0, .int p3)], [.int 1])) rfl ?_
        exact xe_end pg_99 rfl
      apply xe_callq pg_77 97 [.int 1] (.inl none) (34, [(0, .ref 0), (1, .int 3), (2, .int 2), (3, .int p2), (4, .int p3)], []) rfl (fun _ => rfl)
      · refine xe_sn pg_97 2 (fr' := (12, [(0, .int 1)], [])) rfl ?_
        exact xe_end pg_97 rfl
      refine xe_sn pg_77 4 (fr' := (40, [(0, .ref 0), (1, .int 3), (2, .int 2), (3, .int p2), (4, .int p3)], [.ref 154])) rfl ?_
      refine xe_sn pg_77 4 (fr' := (46, [(0, .ref 0), (1, .int 3), (2, .int 2), (3, .int p2), (4, .int p3)], [.int 1, .ref 160])) rfl ?_
      refine xe_sn pg_77 4 (fr' := (54, [(5, .ref 163), (0, .ref 0), (1, .int 3), (2, .int 2), (3, .int p2), (4, .int p3)], [.int 0])) rfl ?_
      refine xe_sn pg_77 3 (fr' := (71, [(5, .ref 163), (0, .ref 0), (1, .int 3), (2, .int 2), (3, .int p2), (4, .int p3)], [.int 0])) rfl ?_
      apply xe_callqx pg_77 98 [.int 0] 2 rfl (fun _ => rfl)
      · refine xe_sn pg_98 2 (fr' := (4, [(0, .int 0)], [])) rfl ?_
        exact xe_end pg_98 rfl
    refine xe_sn pg_164 1 (fr' := (28, [(0, .ref 0), (1, .int 3), (2, .int 2), (3, .int p2), (4, .int p3), (5, .ref 189)], [.int 3])) rfl ?_
    exact xe_end pg_164 rfl
  refine And.intro ⟨rfl, rfl, rfl, rfl⟩ ?_
  apply And.intro
  · refine xe_sn pg_143 2 (fr' := (2, [(0, .ref 165), (1, .int 3), (2, .int 2), (3, .int p2), (4, .int p3)], [.int 3, .ref 165])) rfl ?_
    apply xe_callq pg_143 104 [.int 3] (.inl (some (.int 1))) (5, [(0, .ref 165), (1, .int 3), (2, .int 2), (3, .int p2), (4, .int p3)], [.int 1, .ref 165]) rfl (fun _ => rfl)
    · refine xe_sn pg_104 3 (fr' := (3, [(0, .int 3)], [.int 3, .int 0, .int 3])) rfl ?_
      apply xe_callq pg_104 103 [.int 3, .int 0, .int 3] (.inl (some (.int 1))) (6, [(0, .int 3)], [.int 1]) rfl (fun _ => rfl)
      · refine xe_sn pg_103 4 (fr' := (6, [(0, .int 3), (1, .int 0), (2, .int 3)], [.int 3])) rfl ?_
        refine xe_sn pg_103 4 (fr' := (15, [(0, .int 3), (1, .int 0), (2, .int 3)], [.int 1])) rfl ?_
        exact xe_end pg_103 rfl
      exact xe_end pg_104 rfl
    refine xe_sn pg_143 4 (fr' := (11, [(0, .ref 165), (1, .int 3), (2, .int 2), (3, .int p2), (4, .int p3)], [.int 3, .int 1, .int 2, .ref 165])) rfl ?_
    apply xe_callq pg_143 103 [.int 2, .int 1, .int 3] (.inl (some (.int 1))) (14, [(0, .ref 165), (1, .int 3), (2, .int 2), (3, .int p2), (4, .int p3)], [.int 1, .ref 165]) rfl (fun _ => rfl)
    · refine xe_sn pg_103 4 (fr' := (6, [(0, .int 2), (1, .int 1), (2, .int 3)], [.int 2])) rfl ?_
      refine xe_sn pg_103 4 (fr' := (15, [(0, .int 2), (1, .int 1), (2, .int 3)], [.int 1])) rfl ?_
      exact xe_end pg_103 rfl
    refine xe_sn pg_143 4 (fr' := (25, [(0, .ref 165), (1, .int 3), (2, .int 2), (3, .int p2), (4, .int p3)], [.int 7, .int 0, .int p2, .ref 165])) rfl ?_
    apply xe_callq pg_143 103 [.int p2, .int 0, .int 7] (.inl (some (.int 1))) (28, [(0, .ref 165), (1, .int 3), (2, .int 2), (3, .int p2), (4, .int p3)], [.int 1, .ref 165]) rfl (fun _ => rfl)
    · refine xe_sn pg_103 2 (fr' := (2, [(0, .int p2), (1, .int 0), (2, .int 7)], [.int 0, .int p2])) rfl ?_
      refine xe_f2 pg_103 14 rfl rfl (by show ¬ ((p2).toInt < 0); omega) ?_
      refine xe_sn pg_103 2 (fr' := (7, [(0, .int p2), (1, .int 0), (2, .int 7)], [.int 7, .int p2])) rfl ?_
      refine xe_f2 pg_103 14 rfl rfl (by show ¬ (7 < (p2).toInt); omega) ?_
      refine xe_sn pg_103 2 (fr' := (15, [(0, .int p2), (1, .int 0), (2, .int 7)], [.int 1])) rfl ?_
      exact xe_end pg_103 rfl
    refine xe_sn pg_143 4 (fr' := (37, [(0, .ref 165), (1, .int 3), (2, .int 2), (3, .int p2), (4, .int p3)], [.int 255, .int 0, .int p3, .ref 165])) rfl ?_
    apply xe_callq pg_143 103 [.int p3, .int 0, .int 255] (.inl (some (.int 1))) (40, [(0, .ref 165), (1, .int 3), (2, .int 2), (3, .int p2), (4, .int p3)], [.int 1, .ref 165]) rfl (fun _ => rfl)
    · refine xe_sn pg_103 2 (fr' := (2, [(0, .int p3), (1, .int 0), (2, .int 255)], [.int 0, .int p3])) rfl ?_
      refine xe_f2 pg_103 14 rfl rfl (by show ¬ ((p3).toInt < 0); omega) ?_
      refine xe_sn pg_103 2 (fr' := (7, [(0, .int p3), (1, .int 0), (2, .int 255)], [.int 255, .int p3])) rfl ?_
      refine xe_f2 pg_103 14 rfl rfl (by show ¬ (255 < (p3).toInt); omega) ?_
      refine xe_sn pg_103 2 (fr' := (15, [(0, .int p3), (1, .int 0), (2, .int 255)], [.int 1])) rfl ?_
      exact xe_end pg_103 rfl
    refine xe_sn pg_143 4 (fr' := (52, [(0, .ref 165), (1, .int 3), (2, .int 2), (3, .int p2), (4, .int p3)], [.ref 165])) rfl ?_
    refine xe_sn pg_143 4 (fr' := (60, [(0, .ref 165), (1, .int 3), (2, .int 2), (3, .int p2), (4, .int p3)], [.int 3, .int 3])) rfl ?_
    refine xe_sn pg_143 4 (fr' := (64, [(0, .ref 165), (1, .int 3), (2, .int 2), (3, .int p2), (4, .int p3)], [.int 1, .int 11])) rfl ?_
    refine xe_sn pg_143 4 (fr' := (72, [(5, .int 10), (0, .ref 165), (1, .int 3), (2, .int 2), (3, .int p2), (4, .int p3)], [.ref 165])) rfl ?_
    refine xe_sn pg_143 4 (fr' := (80, [(5, .int 10), (0, .ref 165), (1, .int 3), (2, .int 2), (3, .int p2), (4, .int p3)], [.ref 165, .ref 165])) rfl ?_
    refine xe_sn pg_143 4 (fr' := (87, [(5, .int 10), (0, .ref 165), (1, .int 3), (2, .int 2), (3, .int p2), (4, .int p3)], [.int 2, .int 0, .ref 165])) rfl ?_
    refine xe_sn pg_143 4 (fr' := (111, [(5, .int 10), (0, .ref 165), (1, .int 3), (2, .int 2), (3, .int p2), (4, .int p3)], [])) rfl ?_
    refine xe_sn pg_143 4 (fr' := (119, [(5, .int 10), (0, .ref 165), (1, .int 3), (2, .int 2), (3, .int p2), (4, .int p3)], [.int 0])) rfl ?_
    exact xe_end pg_143 rfl
  · exact ⟨⟨rfl, rfl, rfl, rfl⟩, Nat.le_of_ble_eq_true rfl, Nat.le_of_ble_eq_true rfl, rfl, fun q => absurd q (by decide)⟩

set_option maxRecDepth 100000 in
theorem lf_send_65 (xs : Nat → Int32) (p2 : Int32) (p3 : Int32) (a2 : p2.toInt < 0) : op_ok xs 164 143 [.ref 0, .int 3, .int 3, .int p2, .int p3, .ref 189] [.ref 165, .int 3, .int 3, .int p2, .int p3] := by
  refine ⟨2, 0, ?_⟩
  apply Exists.intro
  apply Exists.intro
  apply And.intro
  · refine xe_sn pg_164 4 (fr' := (5, [(0, .ref 0), (1, .int 3), (2, .int 3), (3, .int p2), (4, .int p3), (5, .ref 189)], [.int 3, .ref 0, .int 0, .ref 189])) rfl ?_
    refine xe_sn pg_164 3 (fr' := (9, [(0, .ref 0), (1, .int 3), (2, .int 3), (3, .int p2), (4, .int p3), (5, .ref 189)], [.int p3, .int p2, .int 3, .int 3, .ref 0, .int 0, .ref 189])) rfl ?_
    apply xe_callq pg_164 77 [.ref 0, .int 3, .int 3, .int p2, .int p3] (.inr 1) (23, [(0, .ref 0), (1, .int 3), (2, .int 3), (3, .int p2), (4, .int p3), (5, .ref 189)], []) rfl (fun _ => rfl)
    · refine xe_sn pg_77 1 (fr' := (1, [(0, .ref 0), (1, .int 3), (2, .int 3), (3, .int p2), (4, .int p3)], [.int 3])) rfl ?_
      apply xe_callq pg_77 92 [.int 3] (.inl none) (4, [(0, .ref 0), (1, .int 3), (2, .int 3), (3, .int p2), (4, .int p3)], []) rfl (fun _ => rfl)
      · refine xe_sn pg_92 2 (fr' := (2, [(0, .int 3)], [.int 4, .int 3])) rfl ?_
        apply xe_callq pg_92 95 [.int 3, .int 4] (.inl none) (5, [(0, .int 3)], []) rfl (fun _ => rfl)
        · refine xe_sn pg_95 4 (fr' := (6, [(0, .int 3), (1, .int 4)], [.int 4, .int 3])) rfl ?_
          refine xe_sn pg_95 1 (fr' := (17, [(0, .int 3), (1, .int 4)], [])) rfl ?_
          exact xe_end pg_95 rfl
        exact xe_end pg_92 rfl
      refine xe_sn pg_77 1 (fr' := (5, [(0, .ref 0), (1, .int 3), (2, .int 3), (3, .int p2), (4, .int p3)], [.int 3])) rfl ?_
      apply xe_callq pg_77 94 [.int 3] (.inl none) (8, [(0, .ref 0), (1, .int 3), (2, .int 3), (3, .int p2), (4, .int p3)], []) rfl (fun _ => rfl)
      · refine xe_sn pg_94 1 (fr' := (1, [(0, .int 3)], [.int 3])) rfl ?_
        apply xe_callq pg_94 100 [.int 3] (.inl (some (.int 1))) (4, [(0, .int 3)], [.int 1]) rfl (fun _ => rfl)
        · refine xe_sn pg_100 4 (fr' := (6, [(0, .int 3)], [.int 3])) rfl ?_
          refine xe_sn pg_100 4 (fr' := (15, [(0, .int 3)], [.int 1])) rfl ?_
          exact xe_end pg_100 rfl
        refine xe_sn pg_94 1 (fr' := (15, [(0, .int 3)], [])) rfl ?_
        exact xe_end pg_94 rfl
      refine xe_sn pg_77 1 (fr' := (9, [(0, .ref 0), (1, .int 3), (2, .int 3), (3, .int p2), (4, .int p3)], [.int p2])) rfl ?_
      refine xe_t1 pg_77 22 rfl rfl (by show (p2).toInt < 0; omega) ?_
      refine xe_sn pg_77 1 (fr' := (23, [(0, .ref 0), (1, .int 3), (2, .int 3), (3, .int p2), (4, .int p3)], [.int 0])) rfl ?_
      apply xe_callqx pg_77 97 [.int 0] 1 rfl (fun _ => rfl)
      · refine xe_sn pg_97 2 (fr' := (4, [(0, .int 0)], [])) rfl ?_
        exact xe_end pg_97 rfl
    refine xe_sn pg_164 1 (fr' := (24, [(0, .ref 0), (1, .int 3), (2, .int 3), (3, .int p2), (4, .int p3), (5, .ref 189)], [.int 2])) rfl ?_
    exact xe_end pg_164 rfl
  refine And.intro ⟨rfl, rfl, rfl, rfl⟩ ?_
  apply And.intro
  · refine xe_sn pg_143 2 (fr' := (2, [(0, .ref 165), (1, .int 3), (2, .int 3), (3, .int p2), (4, .int p3)], [.int 3, .ref 165])) rfl ?_
    apply xe_callq pg_143 104 [.int 3] (.inl (some (.int 1))) (5, [(0, .ref 165), (1, .int 3), (2, .int 3), (3, .int p2), (4, .int p3)], [.int 1, .ref 165]) rfl (fun _ => rfl)
    · refine xe_sn pg_104 3 (fr' := (3, [(0, .int 3)], [.int 3, .int 0, .int 3])) rfl ?_
      apply xe_callq pg_104 103 [.int 3, .int 0, .int 3] (.inl (some (.int 1))) (6, [(0, .int 3)], [.int 1]) rfl (fun _ => rfl)
      · refine xe_sn pg_103 4 (fr' := (6, [(0, .int 3), (1, .int 0), (2, .int 3)], [.int 3])) rfl ?_
        refine xe_sn pg_103 4 (fr' := (15, [(0, .int 3), (1, .int 0), (2, .int 3)], [.int 1])) rfl ?_
        exact xe_end pg_103 rfl
      exact xe_end pg_104 rfl
    refine xe_sn pg_143 4 (fr' := (11, [(0, .ref 165), (1, .int 3), (2, .int 3), (3, .int p2), (4, .int p3)], [.int 3, .int 1, .int 3, .ref 165])) rfl ?_
    apply xe_callq pg_143 103 [.int 3, .int 1, .int 3] (.inl (some (.int 1))) (14, [(0, .ref 165), (1, .int 3), (2, .int 3), (3, .int p2), (4, .int p3)], [.int 1, .ref 165]) rfl (fun _ => rfl)
    · refine xe_sn pg_103 4 (fr' := (6, [(0, .int 3), (1, .int 1), (2, .int 3)], [.int 3])) rfl ?_
      refine xe_sn pg_103 4 (fr' := (15, [(0, .int 3), (1, .int 1), (2, .int 3)], [.int 1])) rfl ?_
      exact xe_end pg_103 rfl
    refine xe_sn pg_143 4 (fr' := (25, [(0, .ref 165), (1, .int 3), (2, .int 3), (3, .int p2), (4, .int p3)], [.int 7, .int 0, .int p2, .ref 165])) rfl ?_
    apply xe_callq pg_143 103 [.int p2, .int 0, .int 7] (.inl (some (.int 0))) (28, [(0, .ref 165), (1, .int 3), (2, .int 3), (3, .int p2), (4, .int p3)], [.int 0, .ref 165]) rfl (fun _ => rfl)
    · refine xe_sn pg_103 2 (fr' := (2, [(0, .int p2), (1, .int 0), (2, .int 7)], [.int 0, .int p2])) rfl ?_
      refine xe_t2 pg_103 14 rfl rfl (by show (p2).toInt < 0; omega) ?_
      refine xe_sn pg_103 1 (fr' := (15, [(0, .int p2), (1, .int 0), (2, .int 7)], [.int 0])) rfl ?_
      exact xe_end pg_103 rfl
    refine xe_sn pg_143 4 (fr' := (51, [(0, .ref 165), (1, .int 3), (2, .int 3), (3, .int p2), (4, .int p3)], [])) rfl ?_
    refine xe_sn pg_143 4 (fr' := (69, [(0, .ref 165), (1, .int 3), (2, .int 3), (3, .int p2), (4, .int p3)], [.int 0])) rfl ?_
    refine xe_sn pg_143 4 (fr' := (76, [(5, .int 0), (0, .ref 165), (1, .int 3), (2, .int 3), (3, .int p2), (4, .int p3)], [.int 2, .ref 165])) rfl ?_
    refine xe_sn pg_143 4 (fr' := (111, [(5, .int 0), (0, .ref 165), (1, .int 3), (2, .int 3), (3, .int p2), (4, .int p3)], [])) rfl ?_
    refine xe_sn pg_143 4 (fr' := (119, [(5, .int 0), (0, .ref 165), (1, .int 3), (2, .int 3), (3, .int p2), (4, .int p3)], [.int 0])) rfl ?_
    exact xe_end pg_143 rfl
  · exact ⟨⟨rfl, rfl, rfl, rfl⟩, Nat.le_of_ble_eq_true rfl, Nat.le_of_ble_eq_true rfl, rfl, fun q => absurd q (by decide)⟩

set_option maxRecDepth 100000 in
theorem lf_send_66 (xs : Nat → Int32) (p2 : Int32) (p3 : Int32) (b2 : 7 < p2.toInt) : op_ok xs 164 143 [.ref 0, .int 3, .int 3, .int p2, .int p3, .ref 189] [.ref 165, .int 3, .int 3, .int p2, .int p3] := by
  refine ⟨2, 0, ?_⟩
  apply Exists.intro
  apply Exists.intro
  apply And.intro
  · refine xe_sn pg_164 4 (fr' := (5, [(0, .ref 0), (1, .int 3), (2, .int 3), (3, .int p2), (4, .int p3), (5, .ref 189)], [.int 3, .ref 0, .int 0, .ref 189])) rfl ?_
    refine xe_sn pg_164 3 (fr' := (9, [(0, .ref 0), (1, .int 3), (2, .int 3), (3, .int p2), (4, .int p3), (5, .ref 189)], [.int p3, .int p2, .int 3, .int 3, .ref 0, .int 0, .ref 189])) rfl ?_
    apply xe_callq pg_164 77 [.ref 0, .int 3, .int 3, .int p2, .int p3] (.inr 1) (23, [(0, .ref 0), (1, .int 3), (2, .int 3), (3, .int p2), (4, .int p3), (5, .ref 189)], []) rfl (fun _ => rfl)
    · refine xe_sn pg_77 1 (fr' := (1, [(0, .ref 0), (1, .int 3), (2, .int 3), (3, .int p2), (4, .int p3)], [.int 3])) rfl ?_
      apply xe_callq pg_77 92 [.int 3] (.inl none) (4, [(0, .ref 0), (1, .int 3), (2, .int 3), (3, .int p2), (4, .int p3)], []) rfl (fun _ => rfl)
      · refine xe_sn pg_92 2 (fr' := (2, [(0, .int 3)], [.int 4, .int 3])) rfl ?_
        apply xe_callq pg_92 95 [.int 3, .int 4] (.inl none) (5, [(0, .int 3)], []) rfl (fun _ => rfl)
        · refine xe_sn pg_95 4 (fr' := (6, [(0, .int 3), (1, .int 4)], [.int 4, .int 3])) rfl ?_
          refine xe_sn pg_95 1 (fr' := (17, [(0, .int 3), (1, .int 4)], [])) rfl ?_
          exact xe_end pg_95 rfl
        exact xe_end pg_92 rfl
      refine xe_sn pg_77 1 (fr' := (5, [(0, .ref 0), (1, .int 3), (2, .int 3), (3, .int p2), (4, .int p3)], [.int 3])) rfl ?_
      apply xe_callq pg_77 94 [.int 3] (.inl none) (8, [(0, .ref 0), (1, .int 3), (2, .int 3), (3, .int p2), (4, .int p3)], []) rfl (fun _ => rfl)
      · refine xe_sn pg_94 1 (fr' := (1, [(0, .int 3)], [.int 3])) rfl ?_
        apply xe_callq pg_94 100 [.int 3] (.inl (some (.int 1))) (4, [(0, .int 3)], [.int 1]) rfl (fun _ => rfl)
        · refine xe_sn pg_100 4 (fr' := (6, [(0, .int 3)], [.int 3])) rfl ?_
          refine xe_sn pg_100 4 (fr' := (15, [(0, .int 3)], [.int 1])) rfl ?_
          exact xe_end pg_100 rfl
        refine xe_sn pg_94 1 (fr' := (15, [(0, .int 3)], [])) rfl ?_
        exact xe_end pg_94 rfl
      refine xe_sn pg_77 1 (fr' := (9, [(0, .ref 0), (1, .int 3), (2, .int 3), (3, .int p2), (4, .int p3)], [.int p2])) rfl ?_
      refine xe_f1 pg_77 22 rfl rfl (by show ¬ ((p2).toInt < 0); omega) ?_
      refine xe_sn pg_77 2 (fr' := (15, [(0, .ref 0), (1, .int 3), (2, .int 3), (3, .int p2), (4, .int p3)], [.int 7, .int p2])) rfl ?_
      refine xe_t2 pg_77 22 rfl rfl (by show 7 < (p2).toInt; omega) ?_
      refine xe_sn pg_77 1 (fr' := (23, [(0, .ref 0), (1, .int 3), (2, .int 3), (3, .int p2), (4, .int p3)], [.int 0])) rfl ?_
      apply xe_callqx pg_77 97 [.int 0] 1 rfl (fun _ => rfl)
      · refine xe_sn pg_97 2 (fr' := (4, [(0, .int 0)], [])) rfl ?_
        exact xe_end pg_97 rfl
    refine xe_sn pg_164 1 (fr' := (24, [(0, .ref 0), (1, .int 3), (2, .int 3), (3, .int p2), (4, .int p3), (5, .ref 189)], [.int 2])) rfl ?_
    exact xe_end pg_164 rfl
  refine And.intro ⟨rfl, rfl, rfl, rfl⟩ ?_
  apply And.intro
  · refine xe_sn pg_143 2 (fr' := (2, [(0, .ref 165), (1, .int 3), (2, .int 3), (3, .int p2), (4, .int p3)], [.int 3, .ref 165])) rfl ?_
    apply xe_callq pg_143 104 [.int 3] (.inl (some (.int 1))) (5, [(0, .ref 165), (1, .int 3), (2, .int 3), (3, .int p2), (4, .int p3)], [.int 1, .ref 165]) rfl (fun _ => rfl)
    · refine xe_sn pg_104 3 (fr' := (3, [(0, .int 3)], [.int 3, .int 0, .int 3])) rfl ?_
      apply xe_callq pg_104 103 [.int 3, .int 0, .int 3] (.inl (some (.int 1))) (6, [(0, .int 3)], [.int 1]) rfl (fun _ => rfl)
      · refine xe_sn pg_103 4 (fr' := (6, [(0, .int 3), (1, .int 0), (2, .int 3)], [.int 3])) rfl ?_
        refine xe_sn pg_103 4 (fr' := (15, [(0, .int 3), (1, .int 0), (2, .int 3)], [.int 1])) rfl ?_
        exact xe_end pg_103 rfl
      exact xe_end pg_104 rfl
    refine xe_sn pg_143 4 (fr' := (11, [(0, .ref 165), (1, .int 3), (2, .int 3), (3, .int p2), (4, .int p3)], [.int 3, .int 1, .int 3, .ref 165])) rfl ?_
    apply xe_callq pg_143 103 [.int 3, .int 1, .int 3] (.inl (some (.int 1))) (14, [(0, .ref 165), (1, .int 3), (2, .int 3), (3, .int p2), (4, .int p3)], [.int 1, .ref 165]) rfl (fun _ => rfl)
    · refine xe_sn pg_103 4 (fr' := (6, [(0, .int 3), (1, .int 1), (2, .int 3)], [.int 3])) rfl ?_
      refine xe_sn pg_103 4 (fr' := (15, [(0, .int 3), (1, .int 1), (2, .int 3)], [.int 1])) rfl ?_
      exact xe_end pg_103 rfl
    refine xe_sn pg_143 4 (fr' := (25, [(0, .ref 165), (1, .int 3), (2, .int 3), (3, .int p2), (4, .int p3)], [.int 7, .int 0, .int p2, .ref 165])) rfl ?_
    apply xe_callq pg_143 103 [.int p2, .int 0, .int 7] (.inl (some (.int 0))) (28, [(0, .ref 165), (1, .int 3), (2, .int 3), (3, .int p2), (4, .int p3)], [.int 0, .ref 165]) rfl (fun _ => rfl)
    · refine xe_sn pg_103 2 (fr' := (2, [(0, .int p2), (1, .int 0), (2, .int 7)], [.int 0, .int p2])) rfl ?_
      refine xe_f2 pg_103 14 rfl rfl (by show ¬ ((p2).toInt < 0); omega) ?_
      refine xe_sn pg_103 2 (fr' := (7, [(0, .int p2), (1, .int 0), (2, .int 7)], [.int 7, .int p2])) rfl ?_
      refine xe_t2 pg_103 14 rfl rfl (by show 7 < (p2).toInt; omega) ?_
      refine xe_sn pg_103 1 (fr' := (15, [(0, .int p2), (1, .int 0), (2, .int 7)], [.int 0])) rfl ?_
      exact xe_end pg_103 rfl
    refine xe_sn pg_143 4 (fr' := (51, [(0, .ref 165), (1, .int 3), (2, .int 3), (3, .int p2), (4, .int p3)], [])) rfl ?_
    refine xe_sn pg_143 4 (fr' := (69, [(0, .ref 165), (1, .int 3), (2, .int 3), (3, .int p2), (4, .int p3)], [.int 0])) rfl ?_
    refine xe_sn pg_143 4 (fr' := (76, [(5, .int 0), (0, .ref 165), (1, .int 3), (2, .int 3), (3, .int p2), (4, .int p3)], [.int 2, .ref 165])) rfl ?_
    refine xe_sn pg_143 4 (fr' := (111, [(5, .int 0), (0, .ref 165), (1, .int 3), (2, .int 3), (3, .int p2), (4, .int p3)], [])) rfl ?_
    refine xe_sn pg_143 4 (fr' := (119, [(5, .int 0), (0, .ref 165), (1, .int 3), (2, .int 3), (3, .int p2), (4, .int p3)], [.int 0])) rfl ?_
    exact xe_end pg_143 rfl
  · exact ⟨⟨rfl, rfl, rfl, rfl⟩, Nat.le_of_ble_eq_true rfl, Nat.le_of_ble_eq_true rfl, rfl, fun q => absurd q (by decide)⟩

set_option maxRecDepth 100000 in
theorem lf_send_67 (xs : Nat → Int32) (p2 : Int32) (p3 : Int32) (a2 : 0 ≤ p2.toInt) (b2 : p2.toInt ≤ 7) (a3 : p3.toInt < 0) : op_ok xs 164 143 [.ref 0, .int 3, .int 3, .int p2, .int p3, .ref 189] [.ref 165, .int 3, .int 3, .int p2, .int p3] := by
  refine ⟨2, 0, ?_⟩
  apply Exists.intro
  apply Exists.intro
  apply And.intro
  · refine xe_sn pg_164 4 (fr' := (5, [(0, .ref 0), (1, .int 3), (2, .int 3), (3, .int p2), (4, .int p3), (5, .ref 189)], [.int 3, .ref 0, .int 0, .ref 189])) rfl ?_
    refine xe_sn pg_164 3 (fr' := (9, [(0, .ref 0), (1, .int 3), (2, .int 3), (3, .int p2), (4, .int p3), (5, .ref 189)], [.int p3, .int p2, .int 3, .int 3, .ref 0, .int 0, .ref 189])) rfl ?_
    apply xe_callq pg_164 77 [.ref 0, .int 3, .int 3, .int p2, .int p3] (.inr 1) (23, [(0, .ref 0), (1, .int 3), (2, .int 3), (3, .int p2), (4, .int p3), (5, .ref 189)], []) rfl (fun _ => rfl)
    · refine xe_sn pg_77 1 (fr' := (1, [(0, .ref 0), (1, .int 3), (2, .int 3), (3, .int p2), (4, .int p3)], [.int 3])) rfl ?_
      apply xe_callq pg_77 92 [.int 3] (.inl none) (4, [(0, .ref 0), (1, .int 3), (2, .int 3), (3, .int p2), (4, .int p3)], []) rfl (fun _ => rfl)
      · refine xe_sn pg_92 2 (fr' := (2, [(0, .int 3)], [.int 4, .int 3])) rfl ?_
        apply xe_callq pg_92 95 [.int 3, .int 4] (.inl none) (5, [(0, .int 3)], []) rfl (fun _ => rfl)
        · refine xe_sn pg_95 4 (fr' := (6, [(0, .int 3), (1, .int 4)], [.int 4, .int 3])) rfl ?_
          refine xe_sn pg_95 1 (fr' := (17, [(0, .int 3), (1, .int 4)], [])) rfl ?_
          exact xe_end pg_95 rfl
        exact xe_end pg_92 rfl
      refine xe_sn pg_77 1 (fr' := (5, [(0, .ref 0), (1, .int 3), (2, .int 3), (3, .int p2), (4, .int p3)], [.int 3])) rfl ?_
      apply xe_callq pg_77 94 [.int 3] (.inl none) (8, [(0, .ref 0), (1, .int 3), (2, .int 3), (3, .int p2), (4, .int p3)], []) rfl (fun _ => rfl)
      · refine xe_sn pg_94 1 (fr' := (1, [(0, .int 3)], [.int 3])) rfl ?_
        apply xe_callq pg_94 100 [.int 3] (.inl (some (.int 1))) (4, [(0, .int 3)], [.int 1]) rfl (fun _ => rfl)
        · refine xe_sn pg_100 4 (fr' := (6, [(0, .int 3)], [.int 3])) rfl ?_
          refine xe_sn pg_100 4 (fr' := (15, [(0, .int 3)], [.int 1])) rfl ?_
          exact xe_end pg_100 rfl
        refine xe_sn pg_94 1 (fr' := (15, [(0, .int 3)], [])) rfl ?_
        exact xe_end pg_94 rfl
      refine xe_sn pg_77 1 (fr' := (9, [(0, .ref 0), (1, .int 3), (2, .int 3), (3, .int p2), (4, .int p3)], [.int p2])) rfl ?_
      refine xe_f1 pg_77 22 rfl rfl (by show ¬ ((p2).toInt < 0); omega) ?_
      refine xe_sn pg_77 2 (fr' := (15, [(0, .ref 0), (1, .int 3), (2, .int 3), (3, .int p2), (4, .int p3)], [.int 7, .int p2])) rfl ?_
      refine xe_f2 pg_77 22 rfl rfl (by show ¬ (7 < (p2).toInt); omega) ?_
      refine xe_sn pg_77 2 (fr' := (23, [(0, .ref 0), (1, .int 3), (2, .int 3), (3, .int p2), (4, .int p3)], [.int 1])) rfl ?_
      apply xe_callq pg_77 97 [.int 1] (.inl none) (26, [(0, .ref 0), (1, .int 3), (2, .int 3), (3, .int p2), (4, .int p3)], []) rfl (fun _ => rfl)
      · refine xe_sn pg_97 2 (fr' := (12, [(0, .int 1)], [])) rfl ?_
        exact xe_end pg_97 rfl
      refine xe_sn pg_77 1 (fr' := (28, [(0, .ref 0), (1, .int 3), (2, .int 3), (3, .int p2), (4, .int p3)], [.int p3])) rfl ?_
      apply xe_callq pg_77 99 [.int p3] (.inl (some (.int 0))) (31, [(0, .ref 0), (1, .int 3), (2, .int 3), (3, .int p2), (4, .int p3)], [.int 0]) rfl (fun _ => rfl)
      · refine xe_sn pg_99 1 (fr' := (1, [(0, .int p3)], [.int p3])) rfl ?_
        refine xe_t1 pg_99 15 rfl rfl (by show (p3).toInt < 0; omega) ?_
        refine xe_sn pg_99 1 (fr' := (16, [(0, .int p3)], [.int 0])) rfl ?_
        exact xe_end pg_99 rfl
      apply xe_callqx pg_77 97 [.int 0] 1 rfl (fun _ => rfl)
      · refine xe_sn pg_97 2 (fr' := (4, [(0, .int 0)], [])) rfl ?_
        exact xe_end pg_97 rfl
    refine xe_sn pg_164 1 (fr' := (24, [(0, .ref 0), (1, .int 3), (2, .int 3), (3, .int p2), (4, .int p3), (5, .ref 189)], [.int 2])) rfl ?_
    exact xe_end pg_164 rfl
  refine And.intro ⟨rfl, rfl, rfl, rfl⟩ ?_
  apply And.intro
  · refine xe_sn pg_143 2 (fr' := (2, [(0, .ref 165), (1, .int 3), (2, .int 3), (3, .int p2), (4, .int p3)], [.int 3, .ref 165])) rfl ?_
    apply xe_callq pg_143 104 [.int 3] (.inl (some (.int 1))) (5, [(0, .ref 165), (1, .int 3), (2, .int 3), (3, .int p2), (4, .int p3)], [.int 1, .ref 165]) rfl (fun _ => rfl)
    · refine xe_sn pg_104 3 (fr' := (3, [(0, .int 3)], [.int 3, .int 0, .int 3])) rfl ?_
      apply xe_callq pg_104 103 [.int 3, .int 0, .int 3] (.inl (some (.int 1))) (6, [(0, .int 3)], [.int 1]) rfl (fun _ => rfl)
      · refine xe_sn pg_103 4 (fr' := (6, [(0, .int 3), (1, .int 0), (2, .int 3)], [.int 3])) rfl ?_
        refine xe_sn pg_103 4 (fr' := (15, [(0, .int 3), (1, .int 0), (2, .int 3)], [.int 1])) rfl ?_
        exact xe_end pg_103 rfl
      exact xe_end pg_104 rfl
    refine xe_sn pg_143 4 (fr' := (11, [(0, .ref 165), (1, .int 3), (2, .int 3), (3, .int p2), (4, .int p3)], [.int 3, .int 1, .int 3, .ref 165])) rfl ?_
    apply xe_callq pg_143 103 [.int 3, .int 1, .int 3] (.inl (some (.int 1))) (14, [(0, .ref 165), (1, .int 3), (2, .int 3), (3, .int p2), (4, .int p3)], [.int 1, .ref 165]) rfl (fun _ => rfl)
    · refine xe_sn pg_103 4 (fr' := (6, [(0, .int 3), (1, .int 1), (2, .int 3)], [.int 3])) rfl ?_
      refine xe_sn pg_103 4 (fr' := (15, [(0, .int 3), (1, .int 1), (2, .int 3)], [.int 1])) rfl ?_
      exact xe_end pg_103 rfl
    refine xe_sn pg_143 4 (fr' := (25, [(0, .ref 165), (1, .int 3), (2, .int 3), (3, .int p2), (4, .int p3)], [.int 7, .int 0, .int p2, .ref 165])) rfl ?_
    apply xe_callq pg_143 103 [.int p2, .int 0, .int 7] (.inl (some (.int 1))) (28, [(0, .ref 165), (1, .int 3), (2, .int 3), (3, .int p2), (4, .int p3)], [.int 1, .ref 165]) rfl (fun _ => rfl)
    · refine xe_sn pg_103 2 (fr' := (2, [(0, .int p2), (1, .int 0), (2, .int 7)], [.int 0, .int p2])) rfl ?_
      refine xe_f2 pg_103 14 rfl rfl (by show ¬ ((p2).toInt < 0); omega) ?_
      refine xe_sn pg_103 2 (fr' := (7, [(0, .int p2), (1, .int 0), (2, .int 7)], [.int 7, .int p2])) rfl ?_
      refine xe_f2 pg_103 14 rfl rfl (by show ¬ (7 < (p2).toInt); omega) ?_
      refine xe_sn pg_103 2 (fr' := (15, [(0, .int p2), (1, .int 0), (2, .int 7)], [.int 1])) rfl ?_
      exact xe_end pg_103 rfl
    refine xe_sn pg_143 4 (fr' := (37, [(0, .ref 165), (1, .int 3), (2, .int 3), (3, .int p2), (4, .int p3)], [.int 255, .int 0, .int p3, .ref 165])) rfl ?_
    apply xe_callq pg_143 103 [.int p3, .int 0, .int 255] (.inl (some (.int 0))) (40, [(0, .ref 165), (1, .int 3), (2, .int 3), (3, .int p2), (4, .int p3)], [.int 0, .ref 165]) rfl (fun _ => rfl)
    · refine xe_sn pg_103 2 (fr' := (2, [(0, .int p3), (1, .int 0), (2, .int 255)], [.int 0, .int p3])) rfl ?_
      refine xe_t2 pg_103 14 rfl rfl (by show (p3).toInt < 0; omega) ?_
      refine xe_sn pg_103 1 (fr' := (15, [(0, .int p3), (1, .int 0), (2, .int 255)], [.int 0])) rfl ?_
      exact xe_end pg_103 rfl
    refine xe_sn pg_143 4 (fr' := (51, [(0, .ref 165), (1, .int 3), (2, .int 3), (3, .int p2), (4, .int p3)], [])) rfl ?_
    refine xe_sn pg_143 4 (fr' := (69, [(0, .ref 165), (1, .int 3), (2, .int 3), (3, .int p2), (4, .int p3)], [.int 0])) rfl ?_
    refine xe_sn pg_143 4 (fr' := (76, [(5, .int 0), (0, .ref 165), (1, .int 3), (2, .int 3), (3, .int p2), (4, .int p3)], [.int 2, .ref 165])) rfl ?_
    refine xe_sn pg_143 4 (fr' := (111, [(5, .int 0), (0, .ref 165), (1, .int 3), (2, .int 3), (3, .int p2), (4, .int p3)], [])) rfl ?_
    refine xe_sn pg_143 4 (fr' := (119, [(5, .int 0), (0, .ref 165), (1, .int 3), (2, .int 3), (3, .int p2), (4, .int p3)], [.int 0])) rfl ?_
    exact xe_end pg_143 rfl
  · exact ⟨⟨rfl, rfl, rfl, rfl⟩, Nat.le_of_ble_eq_true rfl, Nat.le_of_ble_eq_true rfl, rfl, fun q => absurd q (by decide)⟩

set_option maxRecDepth 100000 in
theorem lf_send_68 (xs : Nat → Int32) (p2 : Int32) (p3 : Int32) (a2 : 0 ≤ p2.toInt) (b2 : p2.toInt ≤ 7) (b3 : 255 < p3.toInt) : op_ok xs 164 143 [.ref 0, .int 3, .int 3, .int p2, .int p3, .ref 189] [.ref 165, .int 3, .int 3, .int p2, .int p3] := by
  refine ⟨2, 0, ?_⟩
  apply Exists.intro
  apply Exists.intro
  apply And.intro
  · refine xe_sn pg_164 4 (fr' := (5, [(0, .ref 0), (1, .int 3), (2, .int 3), (3, .int p2), (4, .int p3), (5, .ref 189)], [.int 3, .ref 0, .int 0, .ref 189])) rfl ?_
    refine xe_sn pg_164 3 (fr' := (9, [(0, .ref 0), (1, .int 3), (2, .int 3), (3, .int p2), (4, .int p3), (5, .ref 189)], [.int p3, .int p2, .int 3, .int 3, .ref 0, .int 0, .ref 189])) rfl ?_
    apply xe_callq pg_164 77 [.ref 0, .int 3, .int 3, .int p2, .int p3] (.inr 1) (23, [(0, .ref 0), (1, .int 3), (2, .int 3), (3, .int p2), (4, .int p3), (5, .ref 189)], []) rfl (fun _ => rfl)
    · refine xe_sn pg_77 1 (fr' := (1, [(0, .ref 0), (1, .int 3), (2, .int 3), (3, .int p2), (4, .int p3)], [.int 3])) rfl ?_
      apply xe_callq pg_77 92 [.int 3] (.inl none) (4, [(0, .ref 0), (1, .int 3), (2, .int 3), (3, .int p2), (4, .int p3)], []) rfl (fun _ => rfl)
      · refine xe_sn pg_92 2 (fr' := (2, [(0, .int 3)], [.int 4, .int 3])) rfl ?_
        apply xe_callq pg_92 95 [.int 3, .int 4] (.inl none) (5, [(0, .int 3)], []) rfl (fun _ => rfl)
        · refine xe_sn pg_95 4 (fr' := (6, [(0, .int 3), (1, .int 4)], [.int 4, .int 3])) rfl ?_
          refine xe_sn pg_95 1 (fr' := (17, [(0, .int 3), (1, .int 4)], [])) rfl ?_
          exact xe_end pg_95 rfl
        exact xe_end pg_92 rfl
      refine xe_sn pg_77 1 (fr' := (5, [(0, .ref 0), (1, .int 3), (2, .int 3), (3, .int p2), (4, .int p3)], [.int 3])) rfl ?_
      apply xe_callq pg_77 94 [.int 3] (.inl none) (8, [(0, .ref 0), (1, .int 3), (2, .int 3), (3, .int p2), (4, .int p3)], []) rfl (fun _ => rfl)
      · refine xe_sn pg_94 1 (fr' := (1, [(0, .int 3)], [.int 3])) rfl ?_
        apply xe_callq pg_94 100 [.int 3] (.inl (some (.int 1))) (4, [(0, .int 3)], [.int 1]) rfl (fun _ => rfl)
        · refine xe_sn pg_100 4 (fr' := (6, [(0, .int 3)], [.int 3])) rfl ?_
          refine xe_sn pg_100 4 (fr' := (15, [(0, .int 3)], [.int 1])) rfl ?_
          exact xe_end pg_100 rfl
        refine xe_sn pg_94 1 (fr' := (15, [(0, .int 3)], [])) rfl ?_
        exact xe_end pg_94 rfl
      refine xe_sn pg_77 1 (fr' := (9, [(0, .ref 0), (1, .int 3), (2, .int 3), (3, .int p2), (4, .int p3)], [.int p2])) rfl ?_
      refine xe_f1 pg_77 22 rfl rfl (by show ¬ ((p2).toInt < 0); omega) ?_
      refine xe_sn pg_77 2 (fr' := (15, [(0, .ref 0), (1, .int 3), (2, .int 3), (3, .int p2), (4, .int p3)], [.int 7, .int p2])) rfl ?_
      refine xe_f2 pg_77 22 rfl rfl (by show ¬ (7 < (p2).toInt); omega) ?_
      refine xe_sn pg_77 2 (fr' := (23, [(0, .ref 0), (1, .int 3), (2, .int 3), (3, .int p2), (4, .int p3)], [.int 1])) rfl ?_
      apply xe_callq pg_77 97 [.int 1] (.inl none) (26, [(0, .ref 0), (1, .int 3), (2, .int 3), (3, .int p2), (4, .int p3)], []) rfl (fun _ => rfl)
      · refine xe_sn pg_97 2 (fr' := (12, [(0, .int 1)], [])) rfl ?_
        exact xe_end pg_97 rfl
      refine xe_sn pg_77 1 (fr' := (28, [(0, .ref 0), (1, .int 3), (2, .int 3), (3, .int p2), (4, .int p3)], [.int p3])) rfl ?_
      apply xe_callq pg_77 99 [.int p3] (.inl (some (.int 0))) (31, [(0, .ref 0), (1, .int 3), (2, .int 3), (3, .int p2), (4, .int p3)], [.int 0]) rfl (fun _ => rfl)
      · refine xe_sn pg_99 1 (fr' := (1, [(0, .int p3)], [.int p3])) rfl ?_
        refine xe_f1 pg_99 15 rfl rfl (by show ¬ ((p3).toInt < 0); omega) ?_
        refine xe_sn pg_99 2 (fr' := (8, [(0, .int p3)], [.int 255, .int p3])) rfl ?_
        refine xe_t2 pg_99 15 rfl rfl (by show 255 < (p3).toInt; omega) ?_
        refine xe_sn pg_99 1 (fr' := (16, [(0, .int p3)], [.int 0])) rfl ?_
        exact xe_end pg_99 rfl
      apply xe_callqx pg_77 97 [.int 0] 1 rfl (fun _ => rfl)
      · refine xe_sn pg_97 2 (fr' := (4, [(0, .int 0)], [])) rfl ?_
        exact xe_end pg_97 rfl
    refine xe_sn pg_164 1 (fr' := (24, [(0, .ref 0), (1, .int 3), (2, .int 3), (3, .int p2), (4, .int p3), (5, .ref 189)], [.int 2])) rfl ?_
    exact xe_end pg_164 rfl
  refine And.intro ⟨rfl, rfl, rfl, rfl⟩ ?_
  apply And.intro
  · refine xe_sn pg_143 2 (fr' := (2, [(0, .ref 165), (1, .int 3), (2, .int 3), (3, .int p2), (4, .int p3)], [.int 3, .ref 165])) rfl ?_
    apply xe_callq pg_143 104 [.int 3] (.inl (some (.int 1))) (5, [(0, .ref 165), (1, .int 3), (2, .int 3), (3, .int p2), (4, .int p3)], [.int 1, .ref 165]) rfl (fun _ => rfl)
    · refine xe_sn pg_104 3 (fr' := (3, [(0, .int 3)], [.int 3, .int 0, .int 3])) rfl ?_
      apply xe_callq pg_104 103 [.int 3, .int 0, .int 3] (.inl (some (.int 1))) (6, [(0, .int 3)], [.int 1]) rfl (fun _ => rfl)
      · refine xe_sn pg_103 4 (fr' := (6, [(0, .int 3), (1, .int 0), (2, .int 3)], [.int 3])) rfl ?_
        refine xe_sn pg_103 4 (fr' := (15, [(0, .int 3), (1, .int 0), (2, .int 3)], [.int 1])) rfl ?_
        exact xe_end pg_103 rfl
      exact xe_end pg_104 rfl
    refine xe_sn pg_143 4 (fr' := (11, [(0, .ref 165), (1, .int 3), (2, .int 3), (3, .int p2), (4, .int p3)], [.int 3, .int 1, .int 3, .ref 165])) rfl ?_
    apply xe_callq pg_143 103 [.int 3, .int 1, .int 3] (.inl (some (.int 1))) (14, [(0, .ref 165), (1, .int 3), (2, .int 3), (3, .int p2), (4, .int p3)], [.int 1, .ref 165]) rfl (fun _ => rfl)
    · refine xe_sn pg_103 4 (fr' := (6, [(0, .int 3), (1, .int 1), (2, .int 3)], [.int 3])) rfl ?_
      refine xe_sn pg_103 4 (fr' := (15, [(0, .int 3), (1, .int 1), (2, .int 3)], [.int 1])) rfl ?_
      exact xe_end pg_103 rfl
    refine xe_sn pg_143 4 (fr' := (25, [(0, .ref 165), (1, .int 3), (2, .int 3), (3, .int p2), (4, .int p3)], [.int 7, .int 0, .int p2, .ref 165])) rfl ?_
    apply xe_callq pg_143 103 [.int p2, .int 0, .int 7] (.inl (some (.int 1))) (28, [(0, .ref 165), (1, .int 3), (2, .int 3), (3, .int p2), (4, .int p3)], [.int 1, .ref 165]) rfl (fun _ => rfl)
    · refine xe_sn pg_103 2 (fr' := (2, [(0, .int p2), (1, .int 0), (2, .int 7)], [.int 0, .int p2])) rfl ?_
      refine xe_f2 pg_103 14 rfl rfl (by show ¬ ((p2).toInt < 0); omega) ?_
      refine xe_sn pg_103 2 (fr' := (7, [(0, .int p2), (1, .int 0), (2, .int 7)], [.int 7, .int p2])) rfl ?_
      refine xe_f2 pg_103 14 rfl rfl (by show ¬ (7 < (p2).toInt); omega) ?_
      refine xe_sn pg_103 2 (fr' := (15, [(0, .int p2), (1, .int 0), (2, .int 7)], [.int 1])) rfl ?_
      exact xe_end pg_103 rfl
    refine xe_sn pg_143 4 (fr' := (37, [(0, .ref 165), (1, .int 3), (2, .int 3), (3, .int p2), (4, .int p3)], [.int 255, .int 0, .int p3, .ref 165])) rfl ?_
    apply xe_callq pg_143 103 [.int p3, .int 0, .int 255] (.inl (some (.int 0))) (40, [(0, .ref 165), (1, .int 3), (2, .int 3), (3, .int p2), (4, .int p3)], [.int 0, .ref 165]) rfl (fun _ => rfl)
    · refine xe_sn pg_103 2 (fr' := (2, [(0, .int p3), (1, .int 0), (2, .int 255)], [.int 0, .int p3])) rfl ?_
      refine xe_f2 pg_103 14 rfl rfl (by show ¬ ((p3).toInt < 0); omega) ?_
      refine xe_sn pg_103 2 (fr' := (7, [(0, .int p3), (1, .int 0), (2, .int 255)], [.int 255, .int p3])) rfl ?_
      refine xe_t2 pg_103 14 rfl rfl (by show 255 < (p3).toInt; omega) ?_
      refine xe_sn pg_103 1 (fr' := (15, [(0, .int p3), (1, .int 0), (2, .int 255)], [.int 0])) rfl ?_
      exact xe_end pg_103 rfl
    refine xe_sn pg_143 4 (fr' := (51, [(0, .ref 165), (1, .int 3), (2, .int 3), (3, .int p2), (4, .int p3)], [])) rfl ?_
    refine xe_sn pg_143 4 (fr' := (69, [(0, .ref 165), (1, .int 3), (2, .int 3), (3, .int p2), (4, .int p3)], [.int 0])) rfl ?_
    refine xe_sn pg_143 4 (fr' := (76, [(5, .int 0), (0, .ref 165), (1, .int 3), (2, .int 3), (3, .int p2), (4, .int p3)], [.int 2, .ref 165])) rfl ?_
    refine xe_sn pg_143 4 (fr' := (111, [(5, .int 0), (0, .ref 165), (1, .int 3), (2, .int 3), (3, .int p2), (4, .int p3)], [])) rfl ?_
    refine xe_sn pg_143 4 (fr' := (119, [(5, .int 0), (0, .ref 165), (1, .int 3), (2, .int 3), (3, .int p2), (4, .int p3)], [.int 0])) rfl ?_
    exact xe_end pg_143 rfl
  · exact ⟨⟨rfl, rfl, rfl, rfl⟩, Nat.le_of_ble_eq_true rfl, Nat.le_of_ble_eq_true rfl, rfl, fun q => absurd q (by decide)⟩

set_option maxRecDepth 100000 in
theorem lf_send_69 (xs : Nat → Int32) (p2 : Int32) (p3 : Int32) (a2 : 0 ≤ p2.toInt) (b2 : p2.toInt ≤ 7) (a3 : 0 ≤ p3.toInt) (b3 : p3.toInt ≤ 255) : op_ok xs 164 143 [.ref 0, .int 3, .int 3, .int p2, .int p3, .ref 189] [.ref 165, .int 3, .int 3, .int p2, .int p3] := by
  refine ⟨3, 0, ?_⟩
  apply Exists.intro
  apply Exists.intro
  apply And.intro
  · refine xe_sn pg_164 4 (fr' := (5, [(0, .ref 0), (1, .int 3), (2, .int 3), (3, .int p2), (4, .int p3), (5, .ref 189)], [.int 3, .ref 0, .int 0, .ref 189])) rfl ?_
    refine xe_sn pg_164 3 (fr' := (9, [(0, .ref 0), (1, .int 3), (2, .int 3), (3, .int p2), (4, .int p3), (5, .ref 189)], [.int p3, .int p2, .int 3, .int 3, .ref 0, .int 0, .ref 189])) rfl ?_
    apply xe_callq pg_164 77 [.ref 0, .int 3, .int 3, .int p2, .int p3] (.inr 2) (27, [(0, .ref 0), (1, .int 3), (2, .int 3), (3, .int p2), (4, .int p3), (5, .ref 189)], []) rfl (fun _ => rfl)
    · refine xe_sn pg_77 1 (fr' := (1, [(0, .ref 0), (1, .int 3), (2, .int 3), (3, .int p2), (4, .int p3)], [.int 3])) rfl ?_
      apply xe_callq pg_77 92 [.int 3] (.inl none) (4, [(0, .ref 0), (1, .int 3), (2, .int 3), (3, .int p2), (4, .int p3)], []) rfl (fun _ => rfl)
      · refine xe_sn pg_92 2 (fr' := (2, [(0, .int 3)], [.int 4, .int 3])) rfl ?_
        apply xe_callq pg_92 95 [.int 3, .int 4] (.inl none) (5, [(0, .int 3)], []) rfl (fun _ => rfl)
        · refine xe_sn pg_95 4 (fr' := (6, [(0, .int 3), (1, .int 4)], [.int 4, .int 3])) rfl ?_
          refine xe_sn pg_95 1 (fr' := (17, [(0, .int 3), (1, .int 4)], [])) rfl ?_
          exact xe_end pg_95 rfl
        exact xe_end pg_92 rfl
      refine xe_sn pg_77 1 (fr' := (5, [(0, .ref 0), (1, .int 3), (2, .int 3), (3, .int p2), (4, .int p3)], [.int 3])) rfl ?_
      apply xe_callq pg_77 94 [.int 3] (.inl none) (8, [(0, .ref 0), (1, .int 3), (2, .int 3), (3, .int p2), (4, .int p3)], []) rfl (fun _ => rfl)
      · refine xe_sn pg_94 1 (fr' := (1, [(0, .int 3)], [.int 3])) rfl ?_
        apply xe_callq pg_94 100 [.int 3] (.inl (some (.int 1))) (4, [(0, .int 3)], [.int 1]) rfl (fun _ => rfl)
        · refine xe_sn pg_100 4 (fr' := (6, [(0, .int 3)], [.int 3])) rfl ?_
          refine xe_sn pg_100 4 (fr' := (15, [(0, .int 3)], [.int 1])) rfl ?_
          exact xe_end pg_100 rfl
        refine xe_sn pg_94 1 (fr' := (15, [(0, .int 3)], [])) rfl ?_
        exact xe_end pg_94 rfl
      refine xe_sn pg_77 1 (fr' := (9, [(0, .ref 0), (1, .int 3), (2, .int 3), (3, .int p2), (4, .int p3)], [.int p2])) rfl ?_
      refine xe_f1 pg_77 22 rfl rfl (by show ¬ ((p2).toInt < 0); omega) ?_
      refine xe_sn pg_77 2 (fr' := (15, [(0, .ref 0), (1, .int 3), (2, .int 3), (3, .int p2), (4, .int p3)], [.int 7, .int p2])) rfl ?_
      refine xe_f2 pg_77 22 rfl rfl (by show ¬ (7 < (p2).toInt); omega) ?_
      refine xe_sn pg_77 2 (fr' := (23, [(0, .ref 0), (1, .int 3), (2, .int 3), (3, .int p2), (4, .int p3)], [.int 1])) rfl ?_
      apply xe_callq pg_77 97 [.int 1] (.inl none) (26, [(0, .ref 0), (1, .int 3), (2, .int 3), (3, .int p2), (4, .int p3)], []) rfl (fun _ => rfl)
      · refine xe_sn pg_97 2 (fr' := (12, [(0, .int 1)], [])) rfl ?_
        exact xe_end pg_97 rfl
      refine xe_sn pg_77 1 (fr' := (28, [(0, .ref 0), (1, .int 3), (2, .int 3), (3, .int p2), (4, .int p3)], [.int p3])) rfl ?_
      apply xe_callq pg_77 99 [.int p3] (.inl (some (.int 1))) (31, [(0, .ref 0), (1, .int 3), (2, .int 3), (3, .int p2), (4, .int p3)], [.int 1]) rfl (fun _ => rfl)
      · refine xe_sn pg_99 1 (fr' := (1, [(0, .int p3)], [.int p3])) rfl ?_
        refine xe_f1 pg_99 15 rfl rfl (by show ¬ ((p3).toInt < 0); omega) ?_
        refine xe_sn pg_99 2 (fr' := (8, [(0, .int p3)], [.int 255, .int p3])) rfl ?_
        refine xe_f2 pg_99 15 rfl rfl (by show ¬ (255 < (p3).toInt); omega) ?_
        refine xe_sn pg_99 2 (fr' := (16, [(0, .int p3)], [.int 1])) rfl ?_
        exact xe_end pg_99 rfl
      apply xe_callq pg_77 97 [.int 1] (.inl none) (34, [(0, .ref 0), (1, .int 3), (2, .int 3), (3, .int p2), (4, .int p3)], []) rfl (fun _ => rfl)
      · refine xe_sn pg_97 2 (fr' := (12, [(0, .int 1)], [])) rfl ?_
        exact xe_end pg_97 rfl
      refine xe_sn pg_77 4 (fr' := (40, [(0, .ref 0), (1, .int 3), (2, .int 3), (3, .int p2), (4, .int p3)], [.ref 154])) rfl ?_
      refine xe_sn pg_77 4 (fr' := (46, [(0, .ref 0), (1, .int 3), (2, .int 3), (3, .int p2), (4, .int p3)], [.int 2, .ref 160])) rfl ?_
      refine xe_sn pg_77 4 (fr' := (54, [(5, .ref 164), (0, .ref 0), (1, .int 3), (2, .int 3), (3, .int p2), (4, .int p3)], [.int 0])) rfl ?_
      refine xe_sn pg_77 3 (fr' := (71, [(5, .ref 164), (0, .ref 0), (1, .int 3), (2, .int 3), (3, .int p2), (4, .int p3)], [.int 0])) rfl ?_
      apply xe_callqx pg_77 98 [.int 0] 2 rfl (fun _ => rfl)
      · refine xe_sn pg_98 2 (fr' := (4, [(0, .int 0)], [])) rfl ?_
        exact xe_end pg_98 rfl
    refine xe_sn pg_164 1 (fr' := (28, [(0, .ref 0), (1, .int 3), (2, .int 3), (3, .int p2), (4, .int p3), (5, .ref 189)], [.int 3])) rfl ?_
    exact xe_end pg_164 rfl
  refine And.intro ⟨rfl, rfl, rfl, rfl⟩ ?_
  apply And.intro
  · refine xe_sn pg_143 2 (fr' := (2, [(0, .ref 165), (1, .int 3), (2, .int 3), (3, .int p2), (4, .int p3)], [.int 3, .ref 165])) rfl ?_
    apply xe_callq pg_143 104 [.int 3] (.inl (some (.int 1))) (5, [(0, .ref 165), (1, .int 3), (2, .int 3), (3, .int p2), (4, .int p3)], [.int 1, .ref 165]) rfl (fun _ => rfl)
    · refine xe_sn pg_104 3 (fr' := (3, [(0, .int 3)], [.int 3, .int 0, .int 3])) rfl ?_
      apply xe_callq pg_104 103 [.int 3, .int 0, .int 3] (.inl (some (.int 1))) (6, [(0, .int 3)], [.int 1]) rfl (fun _ => rfl)
      · refine xe_sn pg_103 4 (fr' := (6, [(0, .int 3), (1, .int 0), (2, .int 3)], [.int 3])) rfl ?_
        refine xe_sn pg_103 4 (fr' := (15, [(0, .int 3), (1, .int 0), (2, .int 3)], [.int 1])) rfl ?_
        exact xe_end pg_103 rfl
      exact xe_end pg_104 rfl
    refine xe_sn pg_143 4 (fr' := (11, [(0, .ref 165), (1, .int 3), (2, .int 3), (3, .int p2), (4, .int p3)], [.int 3, .int 1, .int 3, .ref 165])) rfl ?_
    apply xe_callq pg_143 103 [.int 3, .int 1, .int 3] (.inl (some (.int 1))) (14, [(0, .ref 165), (1, .int 3), (2, .int 3), (3, .int p2), (4, .int p3)], [.int 1, .ref 165]) rfl (fun _ => rfl)
    · refine xe_sn pg_103 4 (fr' := (6, [(0, .int 3), (1, .int 1), (2, .int 3)], [.int 3])) rfl ?_
      refine xe_sn pg_103 4 (fr' := (15, [(0, .int 3), (1, .int 1), (2, .int 3)], [.int 1])) rfl ?_
      exact xe_end pg_103 rfl
    refine xe_sn pg_143 4 (fr' := (25, [(0, .ref 165), (1, .int 3), (2, .int 3), (3, .int p2), (4, .int p3)], [.int 7, .int 0, .int p2, .ref 165])) rfl ?_
    apply xe_callq pg_143 103 [.int p2, .int 0, .int 7] (.inl (some (.int 1))) (28, [(0, .ref 165), (1, .int 3), (2, .int 3), (3, .int p2), (4, .int p3)], [.int 1, .ref 165]) rfl (fun _ => rfl)
    · refine xe_sn pg_103 2 (fr' := (2, [(0, .int p2), (1, .int 0), (2, .int 7)], [.int 0, .int p2])) rfl ?_
      refine xe_f2 pg_103 14 rfl rfl (by show ¬ ((p2).toInt < 0); omega) ?_
      refine xe_sn pg_103 2 (fr' := (7, [(0, .int p2), (1, .int 0), (2, .int 7)], [.int 7, .int p2])) rfl ?_
      refine xe_f2 pg_103 14 rfl rfl (by show ¬ (7 < (p2).toInt); omega) ?_
      refine xe_sn pg_103 2 (fr' := (15, [(0, .int p2), (1, .int 0), (2, .int 7)], [.int 1])) rfl ?_
      exact xe_end pg_103 rfl
    refine xe_sn pg_143 4 (fr' := (37, [(0, .ref 165), (1, .int 3), (2, .int 3), (3, .int p2), (4, .int p3)], [.int 255, .int 0, .int p3, .ref 165])) rfl ?_
    apply xe_callq pg_143 103 [.int p3, .int 0, .int 255] (.inl (some (.int 1))) (40, [(0, .ref 165), (1, .int 3), (2, .int 3), (3, .int p2), (4, .int p3)], [.int 1, .ref 165]) rfl (fun _ => rfl)
    · refine xe_sn pg_103 2 (fr' := (2, [(0, .int p3), (1, .int 0), (2, .int 255)], [.int 0, .int p3])) rfl ?_
      refine xe_f2 pg_103 14 rfl rfl (by show ¬ ((p3).toInt < 0); omega) ?_
      refine xe_sn pg_103 2 (fr' := (7, [(0, .int p3), (1, .int 0), (2, .int 255)], [.int 255, .int p3])) rfl ?_
      refine xe_f2 pg_103 14 rfl rfl (by show ¬ (255 < (p3).toInt); omega) ?_
      refine xe_sn pg_103 2 (fr' := (15, [(0, .int p3), (1, .int 0), (2, .int 255)], [.int 1])) rfl ?_
      exact xe_end pg_103 rfl
    refine xe_sn pg_143 4 (fr' := (52, [(0, .ref 165), (1, .int 3), (2, .int 3), (3, .int p2), (4, .int p3)], [.ref 165])) rfl ?_
    refine xe_sn pg_143 4 (fr' := (60, [(0, .ref 165), (1, .int 3), (2, .int 3), (3, .int p2), (4, .int p3)], [.int 3, .int 3])) rfl ?_
    refine xe_sn pg_143 4 (fr' := (64, [(0, .ref 165), (1, .int 3), (2, .int 3), (3, .int p2), (4, .int p3)], [.int 1, .int 12])) rfl ?_
    refine xe_sn pg_143 4 (fr' := (72, [(5, .int 11), (0, .ref 165), (1, .int 3), (2, .int 3), (3, .int p2), (4, .int p3)], [.ref 165])) rfl ?_
    refine xe_sn pg_143 4 (fr' := (80, [(5, .int 11), (0, .ref 165), (1, .int 3), (2, .int 3), (3, .int p2), (4, .int p3)], [.ref 165, .ref 165])) rfl ?_
    refine xe_sn pg_143 4 (fr' := (87, [(5, .int 11), (0, .ref 165), (1, .int 3), (2, .int 3), (3, .int p2), (4, .int p3)], [.int 2, .int 0, .ref 165])) rfl ?_
    refine xe_sn pg_143 4 (fr' := (111, [(5, .int 11), (0, .ref 165), (1, .int 3), (2, .int 3), (3, .int p2), (4, .int p3)], [])) rfl ?_
    refine xe_sn pg_143 4 (fr' := (119, [(5, .int 11), (0, .ref 165), (1, .int 3), (2, .int 3), (3, .int p2), (4, .int p3)], [.int 0])) rfl ?_
    exact xe_end pg_143 rfl
  · exact ⟨⟨rfl, rfl, rfl, rfl⟩, Nat.le_of_ble_eq_true rfl, Nat.le_of_ble_eq_true rfl, rfl, fun q => absurd q (by decide)⟩
theorem op_send (xs : Nat → Int32) (p0 p1 p2 p3 : Int32) : op_ok xs 164 143 [.ref 0, .int p0, .int p1, .int p2, .int p3, .ref 189] [.ref 165, .int p0, .int p1, .int p2, .int p3] := by
  by_cases a0 : p0.toInt < 0
  · exact lf_send_0 xs p0 p1 p2 p3 a0
  by_cases b0 : 3 < p0.toInt
  · exact lf_send_1 xs p0 p1 p2 p3 b0
  replace a0 : 0 ≤ p0.toInt := by omega
  replace b0 : p0.toInt ≤ 3 := by omega
  rcases (by omega : p0.toInt = 0 ∨ p0.toInt = 1 ∨ p0.toInt = 2 ∨ p0.toInt = 3) with q0 | q0 | q0 | q0
  · obtain rfl : p0 = 0 := Int32.toInt_inj.mp (q0.trans (by decide))
    by_cases a1 : p1.toInt < 1
    · exact lf_send_2 xs p1 p2 p3 a1
    by_cases b1 : 3 < p1.toInt
    · exact lf_send_3 xs p1 p2 p3 b1
    replace a1 : 1 ≤ p1.toInt := by omega
    replace b1 : p1.toInt ≤ 3 := by omega
    rcases (by omega : p1.toInt = 1 ∨ p1.toInt = 2 ∨ p1.toInt = 3) with q1 | q1 | q1
    · obtain rfl : p1 = 1 := Int32.toInt_inj.mp (q1.trans (by decide))
      by_cases a2 : p2.toInt < 0
      · exact lf_send_4 xs p2 p3 a2
      by_cases b2 : 7 < p2.toInt
      · exact lf_send_5 xs p2 p3 b2
      replace a2 : 0 ≤ p2.toInt := by omega
      replace b2 : p2.toInt ≤ 7 := by omega
      by_cases a3 : p3.toInt < 0
      · exact lf_send_6 xs p2 p3 a2 b2 a3
      by_cases b3 : 255 < p3.toInt
      · exact lf_send_7 xs p2 p3 a2 b2 b3
      replace a3 : 0 ≤ p3.toInt := by omega
      replace b3 : p3.toInt ≤ 255 := by omega
      exact lf_send_8 xs p2 p3 a2 b2 a3 b3
    · obtain rfl : p1 = 2 := Int32.toInt_inj.mp (q1.trans (by decide))
      by_cases a2 : p2.toInt < 0
      · exact lf_send_9 xs p2 p3 a2
      by_cases b2 : 7 < p2.toInt
      · exact lf_send_10 xs p2 p3 b2
      replace a2 : 0 ≤ p2.toInt := by omega
      replace b2 : p2.toInt ≤ 7 := by omega
      by_cases a3 : p3.toInt < 0
      · exact lf_send_11 xs p2 p3 a2 b2 a3
      by_cases b3 : 255 < p3.toInt
      · exact lf_send_12 xs p2 p3 a2 b2 b3
      replace a3 : 0 ≤ p3.toInt := by omega
      replace b3 : p3.toInt ≤ 255 := by omega
      exact lf_send_13 xs p2 p3 a2 b2 a3 b3
    · obtain rfl : p1 = 3 := Int32.toInt_inj.mp (q1.trans (by decide))
      by_cases a2 : p2.toInt < 0
      · exact lf_send_14 xs p2 p3 a2
      by_cases b2 : 7 < p2.toInt
      · exact lf_send_15 xs p2 p3 b2
      replace a2 : 0 ≤ p2.toInt := by omega
      replace b2 : p2.toInt ≤ 7 := by omega
      by_cases a3 : p3.toInt < 0
      · exact lf_send_16 xs p2 p3 a2 b2 a3
      by_cases b3 : 255 < p3.toInt
      · exact lf_send_17 xs p2 p3 a2 b2 b3
      replace a3 : 0 ≤ p3.toInt := by omega
      replace b3 : p3.toInt ≤ 255 := by omega
      exact lf_send_18 xs p2 p3 a2 b2 a3 b3
  · obtain rfl : p0 = 1 := Int32.toInt_inj.mp (q0.trans (by decide))
    by_cases a1 : p1.toInt < 1
    · exact lf_send_19 xs p1 p2 p3 a1
    by_cases b1 : 3 < p1.toInt
    · exact lf_send_20 xs p1 p2 p3 b1
    replace a1 : 1 ≤ p1.toInt := by omega
    replace b1 : p1.toInt ≤ 3 := by omega
    rcases (by omega : p1.toInt = 1 ∨ p1.toInt = 2 ∨ p1.toInt = 3) with q1 | q1 | q1
    · obtain rfl : p1 = 1 := Int32.toInt_inj.mp (q1.trans (by decide))
      by_cases a2 : p2.toInt < 0
      · exact lf_send_21 xs p2 p3 a2
      by_cases b2 : 7 < p2.toInt
      · exact lf_send_22 xs p2 p3 b2
      replace a2 : 0 ≤ p2.toInt := by omega
      replace b2 : p2.toInt ≤ 7 := by omega
      by_cases a3 : p3.toInt < 0
      · exact lf_send_23 xs p2 p3 a2 b2 a3
      by_cases b3 : 255 < p3.toInt
      · exact lf_send_24 xs p2 p3 a2 b2 b3
      replace a3 : 0 ≤ p3.toInt := by omega
      replace b3 : p3.toInt ≤ 255 := by omega
      exact lf_send_25 xs p2 p3 a2 b2 a3 b3
    · obtain rfl : p1 = 2 := Int32.toInt_inj.mp (q1.trans (by decide))
      by_cases a2 : p2.toInt < 0
      · exact lf_send_26 xs p2 p3 a2
      by_cases b2 : 7 < p2.toInt
      · exact lf_send_27 xs p2 p3 b2
      replace a2 : 0 ≤ p2.toInt := by omega
      replace b2 : p2.toInt ≤ 7 := by omega
      by_cases a3 : p3.toInt < 0
      · exact lf_send_28 xs p2 p3 a2 b2 a3
      by_cases b3 : 255 < p3.toInt
      · exact lf_send_29 xs p2 p3 a2 b2 b3
      replace a3 : 0 ≤ p3.toInt := by omega
      replace b3 : p3.toInt ≤ 255 := by omega
      exact lf_send_30 xs p2 p3 a2 b2 a3 b3
    · obtain rfl : p1 = 3 := Int32.toInt_inj.mp (q1.trans (by decide))
      by_cases a2 : p2.toInt < 0
      · exact lf_send_31 xs p2 p3 a2
      by_cases b2 : 7 < p2.toInt
      · exact lf_send_32 xs p2 p3 b2
      replace a2 : 0 ≤ p2.toInt := by omega
      replace b2 : p2.toInt ≤ 7 := by omega
      by_cases a3 : p3.toInt < 0
      · exact lf_send_33 xs p2 p3 a2 b2 a3
      by_cases b3 : 255 < p3.toInt
      · exact lf_send_34 xs p2 p3 a2 b2 b3
      replace a3 : 0 ≤ p3.toInt := by omega
      replace b3 : p3.toInt ≤ 255 := by omega
      exact lf_send_35 xs p2 p3 a2 b2 a3 b3
  · obtain rfl : p0 = 2 := Int32.toInt_inj.mp (q0.trans (by decide))
    by_cases a1 : p1.toInt < 1
    · exact lf_send_36 xs p1 p2 p3 a1
    by_cases b1 : 3 < p1.toInt
    · exact lf_send_37 xs p1 p2 p3 b1
    replace a1 : 1 ≤ p1.toInt := by omega
    replace b1 : p1.toInt ≤ 3 := by omega
    rcases (by omega : p1.toInt = 1 ∨ p1.toInt = 2 ∨ p1.toInt = 3) with q1 | q1 | q1
    · obtain rfl : p1 = 1 := Int32.toInt_inj.mp (q1.trans (by decide))
      by_cases a2 : p2.toInt < 0
      · exact lf_send_38 xs p2 p3 a2
      by_cases b2 : 7 < p2.toInt
      · exact lf_send_39 xs p2 p3 b2
      replace a2 : 0 ≤ p2.toInt := by omega
      replace b2 : p2.toInt ≤ 7 := by omega
      by_cases a3 : p3.toInt < 0
      · exact lf_send_40 xs p2 p3 a2 b2 a3
      by_cases b3 : 255 < p3.toInt
      · exact lf_send_41 xs p2 p3 a2 b2 b3
      replace a3 : 0 ≤ p3.toInt := by omega
      replace b3 : p3.toInt ≤ 255 := by omega
      exact lf_send_42 xs p2 p3 a2 b2 a3 b3
    · obtain rfl : p1 = 2 := Int32.toInt_inj.mp (q1.trans (by decide))
      by_cases a2 : p2.toInt < 0
      · exact lf_send_43 xs p2 p3 a2
      by_cases b2 : 7 < p2.toInt
      · exact lf_send_44 xs p2 p3 b2
      replace a2 : 0 ≤ p2.toInt := by omega
      replace b2 : p2.toInt ≤ 7 := by omega
      by_cases a3 : p3.toInt < 0
      · exact lf_send_45 xs p2 p3 a2 b2 a3
      by_cases b3 : 255 < p3.toInt
      · exact lf_send_46 xs p2 p3 a2 b2 b3
      replace a3 : 0 ≤ p3.toInt := by omega
      replace b3 : p3.toInt ≤ 255 := by omega
      exact lf_send_47 xs p2 p3 a2 b2 a3 b3
    · obtain rfl : p1 = 3 := Int32.toInt_inj.mp (q1.trans (by decide))
      by_cases a2 : p2.toInt < 0
      · exact lf_send_48 xs p2 p3 a2
      by_cases b2 : 7 < p2.toInt
      · exact lf_send_49 xs p2 p3 b2
      replace a2 : 0 ≤ p2.toInt := by omega
      replace b2 : p2.toInt ≤ 7 := by omega
      by_cases a3 : p3.toInt < 0
      · exact lf_send_50 xs p2 p3 a2 b2 a3
      by_cases b3 : 255 < p3.toInt
      · exact lf_send_51 xs p2 p3 a2 b2 b3
      replace a3 : 0 ≤ p3.toInt := by omega
      replace b3 : p3.toInt ≤ 255 := by omega
      exact lf_send_52 xs p2 p3 a2 b2 a3 b3
  · obtain rfl : p0 = 3 := Int32.toInt_inj.mp (q0.trans (by decide))
    by_cases a1 : p1.toInt < 1
    · exact lf_send_53 xs p1 p2 p3 a1
    by_cases b1 : 3 < p1.toInt
    · exact lf_send_54 xs p1 p2 p3 b1
    replace a1 : 1 ≤ p1.toInt := by omega
    replace b1 : p1.toInt ≤ 3 := by omega
    rcases (by omega : p1.toInt = 1 ∨ p1.toInt = 2 ∨ p1.toInt = 3) with q1 | q1 | q1
    · obtain rfl : p1 = 1 := Int32.toInt_inj.mp (q1.trans (by decide))
      by_cases a2 : p2.toInt < 0
      · exact lf_send_55 xs p2 p3 a2
      by_cases b2 : 7 < p2.toInt
      · exact lf_send_56 xs p2 p3 b2
      replace a2 : 0 ≤ p2.toInt := by omega
      replace b2 : p2.toInt ≤ 7 := by omega
      by_cases a3 : p3.toInt < 0
      · exact lf_send_57 xs p2 p3 a2 b2 a3
      by_cases b3 : 255 < p3.toInt
      · exact lf_send_58 xs p2 p3 a2 b2 b3
      replace a3 : 0 ≤ p3.toInt := by omega
      replace b3 : p3.toInt ≤ 255 := by omega
      exact lf_send_59 xs p2 p3 a2 b2 a3 b3
    · obtain rfl : p1 = 2 := Int32.toInt_inj.mp (q1.trans (by decide))
      by_cases a2 : p2.toInt < 0
      · exact lf_send_60 xs p2 p3 a2
      by_cases b2 : 7 < p2.toInt
      · exact lf_send_61 xs p2 p3 b2
      replace a2 : 0 ≤ p2.toInt := by omega
      replace b2 : p2.toInt ≤ 7 := by omega
      by_cases a3 : p3.toInt < 0
      · exact lf_send_62 xs p2 p3 a2 b2 a3
      by_cases b3 : 255 < p3.toInt
      · exact lf_send_63 xs p2 p3 a2 b2 b3
      replace a3 : 0 ≤ p3.toInt := by omega
      replace b3 : p3.toInt ≤ 255 := by omega
      exact lf_send_64 xs p2 p3 a2 b2 a3 b3
    · obtain rfl : p1 = 3 := Int32.toInt_inj.mp (q1.trans (by decide))
      by_cases a2 : p2.toInt < 0
      · exact lf_send_65 xs p2 p3 a2
      by_cases b2 : 7 < p2.toInt
      · exact lf_send_66 xs p2 p3 b2
      replace a2 : 0 ≤ p2.toInt := by omega
      replace b2 : p2.toInt ≤ 7 := by omega
      by_cases a3 : p3.toInt < 0
      · exact lf_send_67 xs p2 p3 a2 b2 a3
      by_cases b3 : 255 < p3.toInt
      · exact lf_send_68 xs p2 p3 a2 b2 b3
      replace a3 : 0 ≤ p3.toInt := by omega
      replace b3 : p3.toInt ≤ 255 := by omega
      exact lf_send_69 xs p2 p3 a2 b2 a3 b3

