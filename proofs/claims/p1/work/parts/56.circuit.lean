set_option maxRecDepth 100000 in
theorem lf_circuit_0 (xs : Nat → Int32) (p0 : Int32) (p1 : Int32) (a0 : p0.toInt < 0) : op_ok xs 172 153 [.ref 0, .int p0, .int p1, .ref 189] [.ref 165, .int p0, .int p1] := by
  refine ⟨1, 0, ?_⟩
  apply Exists.intro
  apply Exists.intro
  apply And.intro
  · refine xe_sn pg_172 4 (fr' := (4, [(0, .ref 0), (1, .int p0), (2, .int p1), (3, .ref 189)], [.int p0, .ref 0, .int 0, .ref 189])) rfl ?_
    refine xe_sn pg_172 1 (fr' := (5, [(0, .ref 0), (1, .int p0), (2, .int p1), (3, .ref 189)], [.int p1, .int p0, .ref 0, .int 0, .ref 189])) rfl ?_
    apply xe_callq pg_172 85 [.ref 0, .int p0, .int p1] (.inr 0) (15, [(0, .ref 0), (1, .int p0), (2, .int p1), (3, .ref 189)], []) rfl (fun _ => rfl)
    · refine xe_sn pg_85 1 (fr' := (1, [(0, .ref 0), (1, .int p0), (2, .int p1)], [.int p0])) rfl ?_
      apply xe_callqx pg_85 92 [.int p0] 0 rfl (fun _ => rfl)
      · refine xe_sn pg_92 2 (fr' := (2, [(0, .int p0)], [.int 4, .int p0])) rfl ?_
        apply xe_callqx pg_92 95 [.int p0, .int 4] 0 rfl (fun _ => rfl)
        · refine xe_sn pg_95 1 (fr' := (1, [(0, .int p0), (1, .int 4)], [.int p0])) rfl ?_
          refine xe_t1 pg_95 9 rfl rfl (by show (p0).toInt < 0; omega) ?_
          exact xe_end pg_95 rfl
    refine xe_sn pg_172 1 (fr' := (16, [(0, .ref 0), (1, .int p0), (2, .int p1), (3, .ref 189)], [.int 1])) rfl ?_
    exact xe_end pg_172 rfl
  refine And.intro ⟨rfl, rfl, rfl, rfl⟩ ?_
  apply And.intro
  · refine xe_sn pg_153 2 (fr' := (2, [(0, .ref 165), (1, .int p0), (2, .int p1)], [.int p0, .ref 165])) rfl ?_
    apply xe_callq pg_153 104 [.int p0] (.inl (some (.int 0))) (5, [(0, .ref 165), (1, .int p0), (2, .int p1)], [.int 0, .ref 165]) rfl (fun _ => rfl)
    · refine xe_sn pg_104 3 (fr' := (3, [(0, .int p0)], [.int 3, .int 0, .int p0])) rfl ?_
      apply xe_callq pg_104 103 [.int p0, .int 0, .int 3] (.inl (some (.int 0))) (6, [(0, .int p0)], [.int 0]) rfl (fun _ => rfl)
      · refine xe_sn pg_103 2 (fr' := (2, [(0, .int p0), (1, .int 0), (2, .int 3)], [.int 0, .int p0])) rfl ?_
        refine xe_t2 pg_103 14 rfl rfl (by show (p0).toInt < 0; omega) ?_
        refine xe_sn pg_103 1 (fr' := (15, [(0, .int p0), (1, .int 0), (2, .int 3)], [.int 0])) rfl ?_
        exact xe_end pg_103 rfl
      exact xe_end pg_104 rfl
    refine xe_sn pg_153 2 (fr' := (23, [(0, .ref 165), (1, .int p0), (2, .int p1)], [.int 0, .ref 165])) rfl ?_
    apply xe_callq pg_153 151 [.ref 165, .int 0] (.inl (some (.int 1))) (26, [(0, .ref 165), (1, .int p0), (2, .int p1)], [.int 1]) rfl (fun _ => rfl)
    · refine xe_sn pg_151 4 (fr' := (10, [(0, .ref 165), (1, .int 0)], [.int 1, .ref 165])) rfl ?_
      refine xe_sn pg_151 4 (fr' := (18, [(0, .ref 165), (1, .int 0)], [.int 1])) rfl ?_
      refine xe_sn pg_151 1 (fr' := (22, [(0, .ref 165), (1, .int 0)], [.int 1])) rfl ?_
      exact xe_end pg_151 rfl
    refine xe_sn pg_153 2 (fr' := (30, [(0, .ref 165), (1, .int p0), (2, .int p1)], [.int 0])) rfl ?_
    exact xe_end pg_153 rfl
  · exact ⟨⟨rfl, rfl, rfl, rfl⟩, Nat.le_of_ble_eq_true rfl, Nat.le_of_ble_eq_true rfl, rfl, fun q => absurd q (by decide)⟩

set_option maxRecDepth 100000 in
theorem lf_circuit_1 (xs : Nat → Int32) (p0 : Int32) (p1 : Int32) (b0 : 3 < p0.toInt) : op_ok xs 172 153 [.ref 0, .int p0, .int p1, .ref 189] [.ref 165, .int p0, .int p1] := by
  refine ⟨1, 0, ?_⟩
  apply Exists.intro
  apply Exists.intro
  apply And.intro
  · refine xe_sn pg_172 4 (fr' := (4, [(0, .ref 0), (1, .int p0), (2, .int p1), (3, .ref 189)], [.int p0, .ref 0, .int 0, .ref 189])) rfl ?_
    refine xe_sn pg_172 1 (fr' := (5, [(0, .ref 0), (1, .int p0), (2, .int p1), (3, .ref 189)], [.int p1, .int p0, .ref 0, .int 0, .ref 189])) rfl ?_
    apply xe_callq pg_172 85 [.ref 0, .int p0, .int p1] (.inr 0) (15, [(0, .ref 0), (1, .int p0), (2, .int p1), (3, .ref 189)], []) rfl (fun _ => rfl)
    · refine xe_sn pg_85 1 (fr' := (1, [(0, .ref 0), (1, .int p0), (2, .int p1)], [.int p0])) rfl ?_
      apply xe_callqx pg_85 92 [.int p0] 0 rfl (fun _ => rfl)
      · refine xe_sn pg_92 2 (fr' := (2, [(0, .int p0)], [.int 4, .int p0])) rfl ?_
        apply xe_callqx pg_92 95 [.int p0, .int 4] 0 rfl (fun _ => rfl)
        · refine xe_sn pg_95 1 (fr' := (1, [(0, .int p0), (1, .int 4)], [.int p0])) rfl ?_
          refine xe_f1 pg_95 9 rfl rfl (by show ¬ ((p0).toInt < 0); omega) ?_
          refine xe_sn pg_95 2 (fr' := (6, [(0, .int p0), (1, .int 4)], [.int 4, .int p0])) rfl ?_
          refine xe_f2 pg_95 17 rfl rfl (by show ¬ ((p0).toInt < 4); omega) ?_
          exact xe_end pg_95 rfl
    refine xe_sn pg_172 1 (fr' := (16, [(0, .ref 0), (1, .int p0), (2, .int p1), (3, .ref 189)], [.int 1])) rfl ?_
    exact xe_end pg_172 rfl
  refine And.intro ⟨rfl, rfl, rfl, rfl⟩ ?_
  apply And.intro
  · refine xe_sn pg_153 2 (fr' := (2, [(0, .ref 165), (1, .int p0), (2, .int p1)], [.int p0, .ref 165])) rfl ?_
    apply xe_callq pg_153 104 [.int p0] (.inl (some (.int 0))) (5, [(0, .ref 165), (1, .int p0), (2, .int p1)], [.int 0, .ref 165]) rfl (fun _ => rfl)
    · refine xe_sn pg_104 3 (fr' := (3, [(0, .int p0)], [.int 3, .int 0, .int p0])) rfl ?_
      apply xe_callq pg_104 103 [.int p0, .int 0, .int 3] (.inl (some (.int 0))) (6, [(0, .int p0)], [.int 0]) rfl (fun _ => rfl)
      · refine xe_sn pg_103 2 (fr' := (2, [(0, .int p0), (1, .int 0), (2, .int 3)], [.int 0, .int p0])) rfl ?_
        refine xe_f2 pg_103 14 rfl rfl (by show ¬ ((p0).toInt < 0); omega) ?_
        refine xe_sn pg_103 2 (fr' := (7, [(0, .int p0), (1, .int 0), (2, .int 3)], [.int 3, .int p0])) rfl ?_
        refine xe_t2 pg_103 14 rfl rfl (by show 3 < (p0).toInt; omega) ?_
        refine xe_sn pg_103 1 (fr' := (15, [(0, .int p0), (1, .int 0), (2, .int 3)], [.int 0])) rfl ?_
        exact xe_end pg_103 rfl
      exact xe_end pg_104 rfl
    refine xe_sn pg_153 2 (fr' := (23, [(0, .ref 165), (1, .int p0), (2, .int p1)], [.int 0, .ref 165])) rfl ?_
    apply xe_callq pg_153 151 [.ref 165, .int 0] (.inl (some (.int 1))) (26, [(0, .ref 165), (1, .int p0), (2, .int p1)], [.int 1]) rfl (fun _ => rfl)
    · refine xe_sn pg_151 4 (fr' := (10, [(0, .ref 165), (1, .int 0)], [.int 1, .ref 165])) rfl ?_
      refine xe_sn pg_151 4 (fr' := (18, [(0, .ref 165), (1, .int 0)], [.int 1])) rfl ?_
      refine xe_sn pg_151 1 (fr' := (22, [(0, .ref 165), (1, .int 0)], [.int 1])) rfl ?_
      exact xe_end pg_151 rfl
    refine xe_sn pg_153 2 (fr' := (30, [(0, .ref 165), (1, .int p0), (2, .int p1)], [.int 0])) rfl ?_
    exact xe_end pg_153 rfl
  · exact ⟨⟨rfl, rfl, rfl, rfl⟩, Nat.le_of_ble_eq_true rfl, Nat.le_of_ble_eq_true rfl, rfl, fun q => absurd q (by decide)⟩

set_option maxRecDepth 100000 in
theorem lf_circuit_2 (xs : Nat → Int32) (p1 : Int32) (a1 : p1.toInt < 0) : op_ok xs 172 153 [.ref 0, .int 0, .int p1, .ref 189] [.ref 165, .int 0, .int p1] := by
  refine ⟨1, 0, ?_⟩
  apply Exists.intro
  apply Exists.intro
  apply And.intro
  · refine xe_sn pg_172 4 (fr' := (4, [(0, .ref 0), (1, .int 0), (2, .int p1), (3, .ref 189)], [.int 0, .ref 0, .int 0, .ref 189])) rfl ?_
    refine xe_sn pg_172 1 (fr' := (5, [(0, .ref 0), (1, .int 0), (2, .int p1), (3, .ref 189)], [.int p1, .int 0, .ref 0, .int 0, .ref 189])) rfl ?_
    apply xe_callq pg_172 85 [.ref 0, .int 0, .int p1] (.inr 0) (15, [(0, .ref 0), (1, .int 0), (2, .int p1), (3, .ref 189)], []) rfl (fun _ => rfl)
    · refine xe_sn pg_85 1 (fr' := (1, [(0, .ref 0), (1, .int 0), (2, .int p1)], [.int 0])) rfl ?_
      apply xe_callq pg_85 92 [.int 0] (.inl none) (4, [(0, .ref 0), (1, .int 0), (2, .int p1)], []) rfl (fun _ => rfl)
      · refine xe_sn pg_92 2 (fr' := (2, [(0, .int 0)], [.int 4, .int 0])) rfl ?_
        apply xe_callq pg_92 95 [.int 0, .int 4] (.inl none) (5, [(0, .int 0)], []) rfl (fun _ => rfl)
        · refine xe_sn pg_95 4 (fr' := (6, [(0, .int 0), (1, .int 4)], [.int 4, .int 0])) rfl ?_
          refine xe_sn pg_95 1 (fr' := (17, [(0, .int 0), (1, .int 4)], [])) rfl ?_
          exact xe_end pg_95 rfl
        exact xe_end pg_92 rfl
      refine xe_sn pg_85 2 (fr' := (7, [(0, .ref 0), (1, .int 0), (2, .int p1)], [.int 12, .int p1])) rfl ?_
      apply xe_callqx pg_85 95 [.int p1, .int 12] 0 rfl (fun _ => rfl)
      · refine xe_sn pg_95 1 (fr' := (1, [(0, .int p1), (1, .int 12)], [.int p1])) rfl ?_
        refine xe_t1 pg_95 9 rfl rfl (by show (p1).toInt < 0; omega) ?_
        exact xe_end pg_95 rfl
    refine xe_sn pg_172 1 (fr' := (16, [(0, .ref 0), (1, .int 0), (2, .int p1), (3, .ref 189)], [.int 1])) rfl ?_
    exact xe_end pg_172 rfl
  refine And.intro ⟨rfl, rfl, rfl, rfl⟩ ?_
  apply And.intro
  · refine xe_sn pg_153 2 (fr' := (2, [(0, .ref 165), (1, .int 0), (2, .int p1)], [.int 0, .ref 165])) rfl ?_
    apply xe_callq pg_153 104 [.int 0] (.inl (some (.int 1))) (5, [(0, .ref 165), (1, .int 0), (2, .int p1)], [.int 1, .ref 165]) rfl (fun _ => rfl)
    · refine xe_sn pg_104 3 (fr' := (3, [(0, .int 0)], [.int 3, .int 0, .int 0])) rfl ?_
      apply xe_callq pg_104 103 [.int 0, .int 0, .int 3] (.inl (some (.int 1))) (6, [(0, .int 0)], [.int 1]) rfl (fun _ => rfl)
      · refine xe_sn pg_103 4 (fr' := (6, [(0, .int 0), (1, .int 0), (2, .int 3)], [.int 0])) rfl ?_
        refine xe_sn pg_103 4 (fr' := (15, [(0, .int 0), (1, .int 0), (2, .int 3)], [.int 1])) rfl ?_
        exact xe_end pg_103 rfl
      exact xe_end pg_104 rfl
    refine xe_sn pg_153 4 (fr' := (12, [(0, .ref 165), (1, .int 0), (2, .int p1)], [.int 11, .int 0, .int p1, .ref 165])) rfl ?_
    apply xe_callq pg_153 103 [.int p1, .int 0, .int 11] (.inl (some (.int 0))) (15, [(0, .ref 165), (1, .int 0), (2, .int p1)], [.int 0, .ref 165]) rfl (fun _ => rfl)
    · refine xe_sn pg_103 2 (fr' := (2, [(0, .int p1), (1, .int 0), (2, .int 11)], [.int 0, .int p1])) rfl ?_
      refine xe_t2 pg_103 14 rfl rfl (by show (p1).toInt < 0; omega) ?_
      refine xe_sn pg_103 1 (fr' := (15, [(0, .int p1), (1, .int 0), (2, .int 11)], [.int 0])) rfl ?_
      exact xe_end pg_103 rfl
    refine xe_sn pg_153 2 (fr' := (23, [(0, .ref 165), (1, .int 0), (2, .int p1)], [.int 0, .ref 165])) rfl ?_
    apply xe_callq pg_153 151 [.ref 165, .int 0] (.inl (some (.int 1))) (26, [(0, .ref 165), (1, .int 0), (2, .int p1)], [.int 1]) rfl (fun _ => rfl)
    · refine xe_sn pg_151 4 (fr' := (10, [(0, .ref 165), (1, .int 0)], [.int 1, .ref 165])) rfl ?_
      refine xe_sn pg_151 4 (fr' := (18, [(0, .ref 165), (1, .int 0)], [.int 1])) rfl ?_
      refine xe_sn pg_151 1 (fr' := (22, [(0, .ref 165), (1, .int 0)], [.int 1])) rfl ?_
      exact xe_end pg_151 rfl
    refine xe_sn pg_153 2 (fr' := (30, [(0, .ref 165), (1, .int 0), (2, .int p1)], [.int 0])) rfl ?_
    exact xe_end pg_153 rfl
  · exact ⟨⟨rfl, rfl, rfl, rfl⟩, Nat.le_of_ble_eq_true rfl, Nat.le_of_ble_eq_true rfl, rfl, fun q => absurd q (by decide)⟩

set_option maxRecDepth 100000 in
theorem lf_circuit_3 (xs : Nat → Int32) (p1 : Int32) (b1 : 11 < p1.toInt) : op_ok xs 172 153 [.ref 0, .int 0, .int p1, .ref 189] [.ref 165, .int 0, .int p1] := by
  refine ⟨1, 0, ?_⟩
  apply Exists.intro
  apply Exists.intro
  apply And.intro
  · refine xe_sn pg_172 4 (fr' := (4, [(0, .ref 0), (1, .int 0), (2, .int p1), (3, .ref 189)], [.int 0, .ref 0, .int 0, .ref 189])) rfl ?_
    refine xe_sn pg_172 1 (fr' := (5, [(0, .ref 0), (1, .int 0), (2, .int p1), (3, .ref 189)], [.int p1, .int 0, .ref 0, .int 0, .ref 189])) rfl ?_
    apply xe_callq pg_172 85 [.ref 0, .int 0, .int p1] (.inr 0) (15, [(0, .ref 0), (1, .int 0), (2, .int p1), (3, .ref 189)], []) rfl (fun _ => rfl)
    · refine xe_sn pg_85 1 (fr' := (1, [(0, .ref 0), (1, .int 0), (2, .int p1)], [.int 0])) rfl ?_
      apply xe_callq pg_85 92 [.int 0] (.inl none) (4, [(0, .ref 0), (1, .int 0), (2, .int p1)], []) rfl (fun _ => rfl)
      · refine xe_sn pg_92 2 (fr' := (2, [(0, .int 0)], [.int 4, .int 0])) rfl ?_
        apply xe_callq pg_92 95 [.int 0, .int 4] (.inl none) (5, [(0, .int 0)], []) rfl (fun _ => rfl)
        · refine xe_sn pg_95 4 (fr' := (6, [(0, .int 0), (1, .int 4)], [.int 4, .int 0])) rfl ?_
          refine xe_sn pg_95 1 (fr' := (17, [(0, .int 0), (1, .int 4)], [])) rfl ?_
          exact xe_end pg_95 rfl
        exact xe_end pg_92 rfl
      refine xe_sn pg_85 2 (fr' := (7, [(0, .ref 0), (1, .int 0), (2, .int p1)], [.int 12, .int p1])) rfl ?_
      apply xe_callqx pg_85 95 [.int p1, .int 12] 0 rfl (fun _ => rfl)
      · refine xe_sn pg_95 1 (fr' := (1, [(0, .int p1), (1, .int 12)], [.int p1])) rfl ?_
        refine xe_f1 pg_95 9 rfl rfl (by show ¬ ((p1).toInt < 0); omega) ?_
        refine xe_sn pg_95 2 (fr' := (6, [(0, .int p1), (1, .int 12)], [.int 12, .int p1])) rfl ?_
        refine xe_f2 pg_95 17 rfl rfl (by show ¬ ((p1).toInt < 12); omega) ?_
        exact xe_end pg_95 rfl
    refine xe_sn pg_172 1 (fr' := (16, [(0, .ref 0), (1, .int 0), (2, .int p1), (3, .ref 189)], [.int 1])) rfl ?_
    exact xe_end pg_172 rfl
  refine And.intro ⟨rfl, rfl, rfl, rfl⟩ ?_
  apply And.intro
  · refine xe_sn pg_153 2 (fr' := (2, [(0, .ref 165), (1, .int 0), (2, .int p1)], [.int 0, .ref 165])) rfl ?_
    apply xe_callq pg_153 104 [.int 0] (.inl (some (.int 1))) (5, [(0, .ref 165), (1, .int 0), (2, .int p1)], [.int 1, .ref 165]) rfl (fun _ => rfl)
    · refine xe_sn pg_104 3 (fr' := (3, [(0, .int 0)], [.int 3, .int 0, .int 0])) rfl ?_
      apply xe_callq pg_104 103 [.int 0, .int 0, .int 3] (.inl (some (.int 1))) (6, [(0, .int 0)], [.int 1]) rfl (fun _ => rfl)
      · refine xe_sn pg_103 4 (fr' := (6, [(0, .int 0), (1, .int 0), (2, .int 3)], [.int 0])) rfl ?_
        refine xe_sn pg_103 4 (fr' := (15, [(0, .int 0), (1, .int 0), (2, .int 3)], [.int 1])) rfl ?_
        exact xe_end pg_103 rfl
      exact xe_end pg_104 rfl
    refine xe_sn pg_153 4 (fr' := (12, [(0, .ref 165), (1, .int 0), (2, .int p1)], [.int 11, .int 0, .int p1, .ref 165])) rfl ?_
    apply xe_callq pg_153 103 [.int p1, .int 0, .int 11] (.inl (some (.int 0))) (15, [(0, .ref 165), (1, .int 0), (2, .int p1)], [.int 0, .ref 165]) rfl (fun _ => rfl)
    · refine xe_sn pg_103 2 (fr' := (2, [(0, .int p1), (1, .int 0), (2, .int 11)], [.int 0, .int p1])) rfl ?_
      refine xe_f2 pg_103 14 rfl rfl (by show ¬ ((p1).toInt < 0); omega) ?_
      refine xe_sn pg_103 2 (fr' := (7, [(0, .int p1), (1, .int 0), (2, .int 11)], [.int 11, .int p1])) rfl ?_
      refine xe_t2 pg_103 14 rfl rfl (by show 11 < (p1).toInt; omega) ?_
      refine xe_sn pg_103 1 (fr' := (15, [(0, .int p1), (1, .int 0), (2, .int 11)], [.int 0])) rfl ?_
      exact xe_end pg_103 rfl
    refine xe_sn pg_153 2 (fr' := (23, [(0, .ref 165), (1, .int 0), (2, .int p1)], [.int 0, .ref 165])) rfl ?_
    apply xe_callq pg_153 151 [.ref 165, .int 0] (.inl (some (.int 1))) (26, [(0, .ref 165), (1, .int 0), (2, .int p1)], [.int 1]) rfl (fun _ => rfl)
    · refine xe_sn pg_151 4 (fr' := (10, [(0, .ref 165), (1, .int 0)], [.int 1, .ref 165])) rfl ?_
      refine xe_sn pg_151 4 (fr' := (18, [(0, .ref 165), (1, .int 0)], [.int 1])) rfl ?_
      refine xe_sn pg_151 1 (fr' := (22, [(0, .ref 165), (1, .int 0)], [.int 1])) rfl ?_
      exact xe_end pg_151 rfl
    refine xe_sn pg_153 2 (fr' := (30, [(0, .ref 165), (1, .int 0), (2, .int p1)], [.int 0])) rfl ?_
    exact xe_end pg_153 rfl
  · exact ⟨⟨rfl, rfl, rfl, rfl⟩, Nat.le_of_ble_eq_true rfl, Nat.le_of_ble_eq_true rfl, rfl, fun q => absurd q (by decide)⟩

set_option maxRecDepth 100000 in
theorem lf_circuit_4 (xs : Nat → Int32) : op_ok xs 172 153 [.ref 0, .int 0, .int 0, .ref 189] [.ref 165, .int 0, .int 0] := by
  refine ⟨0, 0, ?_⟩
  apply Exists.intro
  apply Exists.intro
  apply And.intro
  · refine xe_sn pg_172 4 (fr' := (4, [(0, .ref 0), (1, .int 0), (2, .int 0), (3, .ref 189)], [.int 0, .ref 0, .int 0, .ref 189])) rfl ?_
    refine xe_sn pg_172 1 (fr' := (5, [(0, .ref 0), (1, .int 0), (2, .int 0), (3, .ref 189)], [.int 0, .int 0, .ref 0, .int 0, .ref 189])) rfl ?_
    apply xe_callq pg_172 85 [.ref 0, .int 0, .int 0] (.inl (some (.int 0))) (8, [(0, .ref 0), (1, .int 0), (2, .int 0), (3, .ref 189)], [.int 0, .int 0, .ref 189]) rfl (fun _ => rfl)
    · refine xe_sn pg_85 1 (fr' := (1, [(0, .ref 0), (1, .int 0), (2, .int 0)], [.int 0])) rfl ?_
      apply xe_callq pg_85 92 [.int 0] (.inl none) (4, [(0, .ref 0), (1, .int 0), (2, .int 0)], []) rfl (fun _ => rfl)
      · refine xe_sn pg_92 2 (fr' := (2, [(0, .int 0)], [.int 4, .int 0])) rfl ?_
        apply xe_callq pg_92 95 [.int 0, .int 4] (.inl none) (5, [(0, .int 0)], []) rfl (fun _ => rfl)
        · refine xe_sn pg_95 4 (fr' := (6, [(0, .int 0), (1, .int 4)], [.int 4, .int 0])) rfl ?_
          refine xe_sn pg_95 1 (fr' := (17, [(0, .int 0), (1, .int 4)], [])) rfl ?_
          exact xe_end pg_95 rfl
        exact xe_end pg_92 rfl
      refine xe_sn pg_85 2 (fr' := (7, [(0, .ref 0), (1, .int 0), (2, .int 0)], [.int 12, .int 0])) rfl ?_
      apply xe_callq pg_85 95 [.int 0, .int 12] (.inl none) (10, [(0, .ref 0), (1, .int 0), (2, .int 0)], []) rfl (fun _ => rfl)
      · refine xe_sn pg_95 4 (fr' := (6, [(0, .int 0), (1, .int 12)], [.int 12, .int 0])) rfl ?_
        refine xe_sn pg_95 1 (fr' := (17, [(0, .int 0), (1, .int 12)], [])) rfl ?_
        exact xe_end pg_95 rfl
      refine xe_sn pg_85 4 (fr' := (16, [(0, .ref 0), (1, .int 0), (2, .int 0)], [.ref 121])) rfl ?_
      refine xe_sn pg_85 4 (fr' := (69, [(3, .ref 121), (0, .ref 0), (1, .int 0), (2, .int 0)], [.ref 121])) rfl ?_
      refine xe_sn pg_85 1 (fr' := (72, [(3, .ref 121), (0, .ref 0), (1, .int 0), (2, .int 0)], [.int 0])) rfl ?_
      exact xe_end pg_85 rfl
    refine xe_sn pg_172 4 (fr' := (18, [(0, .ref 0), (1, .int 0), (2, .int 0), (3, .ref 189)], [.int 0])) rfl ?_
    exact xe_end pg_172 rfl
  refine And.intro ⟨rfl, rfl, rfl, rfl⟩ ?_
  apply And.intro
  · refine xe_sn pg_153 2 (fr' := (2, [(0, .ref 165), (1, .int 0), (2, .int 0)], [.int 0, .ref 165])) rfl ?_
    apply xe_callq pg_153 104 [.int 0] (.inl (some (.int 1))) (5, [(0, .ref 165), (1, .int 0), (2, .int 0)], [.int 1, .ref 165]) rfl (fun _ => rfl)
    · refine xe_sn pg_104 3 (fr' := (3, [(0, .int 0)], [.int 3, .int 0, .int 0])) rfl ?_
      apply xe_callq pg_104 103 [.int 0, .int 0, .int 3] (.inl (some (.int 1))) (6, [(0, .int 0)], [.int 1]) rfl (fun _ => rfl)
      · refine xe_sn pg_103 4 (fr' := (6, [(0, .int 0), (1, .int 0), (2, .int 3)], [.int 0])) rfl ?_
        refine xe_sn pg_103 4 (fr' := (15, [(0, .int 0), (1, .int 0), (2, .int 3)], [.int 1])) rfl ?_
        exact xe_end pg_103 rfl
      exact xe_end pg_104 rfl
    refine xe_sn pg_153 4 (fr' := (12, [(0, .ref 165), (1, .int 0), (2, .int 0)], [.int 11, .int 0, .int 0, .ref 165])) rfl ?_
    apply xe_callq pg_153 103 [.int 0, .int 0, .int 11] (.inl (some (.int 1))) (15, [(0, .ref 165), (1, .int 0), (2, .int 0)], [.int 1, .ref 165]) rfl (fun _ => rfl)
    · refine xe_sn pg_103 4 (fr' := (6, [(0, .int 0), (1, .int 0), (2, .int 11)], [.int 0])) rfl ?_
      refine xe_sn pg_103 4 (fr' := (15, [(0, .int 0), (1, .int 0), (2, .int 11)], [.int 1])) rfl ?_
      exact xe_end pg_103 rfl
    refine xe_sn pg_153 3 (fr' := (23, [(0, .ref 165), (1, .int 0), (2, .int 0)], [.int 1, .ref 165])) rfl ?_
    apply xe_callq pg_153 151 [.ref 165, .int 1] (.inl (some (.int 0))) (26, [(0, .ref 165), (1, .int 0), (2, .int 0)], [.int 0]) rfl (fun _ => rfl)
    · refine xe_sn pg_151 4 (fr' := (6, [(0, .ref 165), (1, .int 1)], [.int 0, .ref 165])) rfl ?_
      refine xe_sn pg_151 4 (fr' := (21, [(0, .ref 165), (1, .int 1)], [])) rfl ?_
      refine xe_sn pg_151 1 (fr' := (22, [(0, .ref 165), (1, .int 1)], [.int 0])) rfl ?_
      exact xe_end pg_151 rfl
    refine xe_sn pg_153 4 (fr' := (36, [(0, .ref 165), (1, .int 0), (2, .int 0)], [])) rfl ?_
    refine xe_sn pg_153 4 (fr' := (44, [(0, .ref 165), (1, .int 0), (2, .int 0)], [.ref 167])) rfl ?_
    refine xe_sn pg_153 3 (fr' := (55, [(0, .ref 165), (1, .int 0), (2, .int 0)], [.int 0])) rfl ?_
    exact xe_end pg_153 rfl
  · exact ⟨⟨rfl, rfl, rfl, rfl⟩, Nat.le_of_ble_eq_true rfl, Nat.le_of_ble_eq_true rfl, rfl, fun _ => rfl⟩

set_option maxRecDepth 100000 in
theorem lf_circuit_5 (xs : Nat → Int32) : op_ok xs 172 153 [.ref 0, .int 0, .int 1, .ref 189] [.ref 165, .int 0, .int 1] := by
  refine ⟨0, 0, ?_⟩
  apply Exists.intro
  apply Exists.intro
  apply And.intro
  · refine xe_sn pg_172 4 (fr' := (4, [(0, .ref 0), (1, .int 0), (2, .int 1), (3, .ref 189)], [.int 0, .ref 0, .int 0, .ref 189])) rfl ?_
    refine xe_sn pg_172 1 (fr' := (5, [(0, .ref 0), (1, .int 0), (2, .int 1), (3, .ref 189)], [.int 1, .int 0, .ref 0, .int 0, .ref 189])) rfl ?_
    apply xe_callq pg_172 85 [.ref 0, .int 0, .int 1] (.inl (some (.int 0))) (8, [(0, .ref 0), (1, .int 0), (2, .int 1), (3, .ref 189)], [.int 0, .int 0, .ref 189]) rfl (fun _ => rfl)
    · refine xe_sn pg_85 1 (fr' := (1, [(0, .ref 0), (1, .int 0), (2, .int 1)], [.int 0])) rfl ?_
      apply xe_callq pg_85 92 [.int 0] (.inl none) (4, [(0, .ref 0), (1, .int 0), (2, .int 1)], []) rfl (fun _ => rfl)
      · refine xe_sn pg_92 2 (fr' := (2, [(0, .int 0)], [.int 4, .int 0])) rfl ?_
        apply xe_callq pg_92 95 [.int 0, .int 4] (.inl none) (5, [(0, .int 0)], []) rfl (fun _ => rfl)
        · refine xe_sn pg_95 4 (fr' := (6, [(0, .int 0), (1, .int 4)], [.int 4, .int 0])) rfl ?_
          refine xe_sn pg_95 1 (fr' := (17, [(0, .int 0), (1, .int 4)], [])) rfl ?_
          exact xe_end pg_95 rfl
        exact xe_end pg_92 rfl
      refine xe_sn pg_85 2 (fr' := (7, [(0, .ref 0), (1, .int 0), (2, .int 1)], [.int 12, .int 1])) rfl ?_
      apply xe_callq pg_85 95 [.int 1, .int 12] (.inl none) (10, [(0, .ref 0), (1, .int 0), (2, .int 1)], []) rfl (fun _ => rfl)
      · refine xe_sn pg_95 4 (fr' := (6, [(0, .int 1), (1, .int 12)], [.int 12, .int 1])) rfl ?_
        refine xe_sn pg_95 1 (fr' := (17, [(0, .int 1), (1, .int 12)], [])) rfl ?_
        exact xe_end pg_95 rfl
      refine xe_sn pg_85 4 (fr' := (16, [(0, .ref 0), (1, .int 0), (2, .int 1)], [.ref 121])) rfl ?_
      refine xe_sn pg_85 4 (fr' := (74, [(3, .ref 121), (0, .ref 0), (1, .int 0), (2, .int 1)], [.ref 121])) rfl ?_
      refine xe_sn pg_85 1 (fr' := (77, [(3, .ref 121), (0, .ref 0), (1, .int 0), (2, .int 1)], [.int 0])) rfl ?_
      exact xe_end pg_85 rfl
    refine xe_sn pg_172 4 (fr' := (18, [(0, .ref 0), (1, .int 0), (2, .int 1), (3, .ref 189)], [.int 0])) rfl ?_
    exact xe_end pg_172 rfl
  refine And.intro ⟨rfl, rfl, rfl, rfl⟩ ?_
  apply And.intro
  · refine xe_sn pg_153 2 (fr' := (2, [(0, .ref 165), (1, .int 0), (2, .int 1)], [.int 0, .ref 165])) rfl ?_
    apply xe_callq pg_153 104 [.int 0] (.inl (some (.int 1))) (5, [(0, .ref 165), (1, .int 0), (2, .int 1)], [.int 1, .ref 165]) rfl (fun _ => rfl)
    · refine xe_sn pg_104 3 (fr' := (3, [(0, .int 0)], [.int 3, .int 0, .int 0])) rfl ?_
      apply xe_callq pg_104 103 [.int 0, .int 0, .int 3] (.inl (some (.int 1))) (6, [(0, .int 0)], [.int 1]) rfl (fun _ => rfl)
      · refine xe_sn pg_103 4 (fr' := (6, [(0, .int 0), (1, .int 0), (2, .int 3)], [.int 0])) rfl ?_
        refine xe_sn pg_103 4 (fr' := (15, [(0, .int 0), (1, .int 0), (2, .int 3)], [.int 1])) rfl ?_
        exact xe_end pg_103 rfl
      exact xe_end pg_104 rfl
    refine xe_sn pg_153 4 (fr' := (12, [(0, .ref 165), (1, .int 0), (2, .int 1)], [.int 11, .int 0, .int 1, .ref 165])) rfl ?_
    apply xe_callq pg_153 103 [.int 1, .int 0, .int 11] (.inl (some (.int 1))) (15, [(0, .ref 165), (1, .int 0), (2, .int 1)], [.int 1, .ref 165]) rfl (fun _ => rfl)
    · refine xe_sn pg_103 4 (fr' := (6, [(0, .int 1), (1, .int 0), (2, .int 11)], [.int 1])) rfl ?_
      refine xe_sn pg_103 4 (fr' := (15, [(0, .int 1), (1, .int 0), (2, .int 11)], [.int 1])) rfl ?_
      exact xe_end pg_103 rfl
    refine xe_sn pg_153 3 (fr' := (23, [(0, .ref 165), (1, .int 0), (2, .int 1)], [.int 1, .ref 165])) rfl ?_
    apply xe_callq pg_153 151 [.ref 165, .int 1] (.inl (some (.int 0))) (26, [(0, .ref 165), (1, .int 0), (2, .int 1)], [.int 0]) rfl (fun _ => rfl)
    · refine xe_sn pg_151 4 (fr' := (6, [(0, .ref 165), (1, .int 1)], [.int 0, .ref 165])) rfl ?_
      refine xe_sn pg_151 4 (fr' := (21, [(0, .ref 165), (1, .int 1)], [])) rfl ?_
      refine xe_sn pg_151 1 (fr' := (22, [(0, .ref 165), (1, .int 1)], [.int 0])) rfl ?_
      exact xe_end pg_151 rfl
    refine xe_sn pg_153 4 (fr' := (36, [(0, .ref 165), (1, .int 0), (2, .int 1)], [])) rfl ?_
    refine xe_sn pg_153 4 (fr' := (53, [(0, .ref 165), (1, .int 0), (2, .int 1)], [.ref 168])) rfl ?_
    refine xe_sn pg_153 2 (fr' := (55, [(0, .ref 165), (1, .int 0), (2, .int 1)], [.int 0])) rfl ?_
    exact xe_end pg_153 rfl
  · exact ⟨⟨rfl, rfl, rfl, rfl⟩, Nat.le_of_ble_eq_true rfl, Nat.le_of_ble_eq_true rfl, rfl, fun _ => rfl⟩

set_option maxRecDepth 100000 in
theorem lf_circuit_6 (xs : Nat → Int32) : op_ok xs 172 153 [.ref 0, .int 0, .int 2, .ref 189] [.ref 165, .int 0, .int 2] := by
  refine ⟨0, (-1), ?_⟩
  apply Exists.intro
  apply Exists.intro
  apply And.intro
  · refine xe_sn pg_172 4 (fr' := (4, [(0, .ref 0), (1, .int 0), (2, .int 2), (3, .ref 189)], [.int 0, .ref 0, .int 0, .ref 189])) rfl ?_
    refine xe_sn pg_172 1 (fr' := (5, [(0, .ref 0), (1, .int 0), (2, .int 2), (3, .ref 189)], [.int 2, .int 0, .ref 0, .int 0, .ref 189])) rfl ?_
    apply xe_callq pg_172 85 [.ref 0, .int 0, .int 2] (.inl (some (.int (-1)))) (8, [(0, .ref 0), (1, .int 0), (2, .int 2), (3, .ref 189)], [.int (-1), .int 0, .ref 189]) rfl (fun _ => rfl)
    · refine xe_sn pg_85 1 (fr' := (1, [(0, .ref 0), (1, .int 0), (2, .int 2)], [.int 0])) rfl ?_
      apply xe_callq pg_85 92 [.int 0] (.inl none) (4, [(0, .ref 0), (1, .int 0), (2, .int 2)], []) rfl (fun _ => rfl)
      · refine xe_sn pg_92 2 (fr' := (2, [(0, .int 0)], [.int 4, .int 0])) rfl ?_
        apply xe_callq pg_92 95 [.int 0, .int 4] (.inl none) (5, [(0, .int 0)], []) rfl (fun _ => rfl)
        · refine xe_sn pg_95 4 (fr' := (6, [(0, .int 0), (1, .int 4)], [.int 4, .int 0])) rfl ?_
          refine xe_sn pg_95 1 (fr' := (17, [(0, .int 0), (1, .int 4)], [])) rfl ?_
          exact xe_end pg_95 rfl
        exact xe_end pg_92 rfl
      refine xe_sn pg_85 2 (fr' := (7, [(0, .ref 0), (1, .int 0), (2, .int 2)], [.int 12, .int 2])) rfl ?_
      apply xe_callq pg_85 95 [.int 2, .int 12] (.inl none) (10, [(0, .ref 0), (1, .int 0), (2, .int 2)], []) rfl (fun _ => rfl)
      · refine xe_sn pg_95 4 (fr' := (6, [(0, .int 2), (1, .int 12)], [.int 12, .int 2])) rfl ?_
        refine xe_sn pg_95 1 (fr' := (17, [(0, .int 2), (1, .int 12)], [])) rfl ?_
        exact xe_end pg_95 rfl
      refine xe_sn pg_85 4 (fr' := (16, [(0, .ref 0), (1, .int 0), (2, .int 2)], [.ref 121])) rfl ?_
      refine xe_sn pg_85 4 (fr' := (79, [(3, .ref 121), (0, .ref 0), (1, .int 0), (2, .int 2)], [.ref 121])) rfl ?_
      refine xe_sn pg_85 3 (fr' := (82, [(3, .ref 121), (0, .ref 0), (1, .int 0), (2, .int 2)], [.int 0, .ref 121])) rfl ?_
      apply xe_callq pg_85 17 [.ref 121, .int 0] (.inl (some (.int 0))) (85, [(3, .ref 121), (0, .ref 0), (1, .int 0), (2, .int 2)], [.int 0]) rfl (fun _ => rfl)
      · refine xe_sn pg_17 4 (fr' := (6, [(0, .ref 121), (1, .int 0)], [.ref 121, .int 0])) rfl ?_
        refine xe_sn pg_17 3 (fr' := (17, [(0, .ref 121), (1, .int 0)], [.int 0])) rfl ?_
        exact xe_end pg_17 rfl
      refine xe_sn pg_85 2 (fr' := (100, [(3, .ref 121), (0, .ref 0), (1, .int 0), (2, .int 2)], [.int (-1)])) rfl ?_
      exact xe_end pg_85 rfl
    refine xe_sn pg_172 4 (fr' := (18, [(0, .ref 0), (1, .int 0), (2, .int 2), (3, .ref 189)], [.int 0])) rfl ?_
    exact xe_end pg_172 rfl
  refine And.intro ⟨rfl, rfl, rfl, rfl⟩ ?_
  apply And.intro
  · refine xe_sn pg_153 2 (fr' := (2, [(0, .ref 165), (1, .int 0), (2, .int 2)], [.int 0, .ref 165])) rfl ?_
    apply xe_callq pg_153 104 [.int 0] (.inl (some (.int 1))) (5, [(0, .ref 165), (1, .int 0), (2, .int 2)], [.int 1, .ref 165]) rfl (fun _ => rfl)
    · refine xe_sn pg_104 3 (fr' := (3, [(0, .int 0)], [.int 3, .int 0, .int 0])) rfl ?_
      apply xe_callq pg_104 103 [.int 0, .int 0, .int 3] (.inl (some (.int 1))) (6, [(0, .int 0)], [.int 1]) rfl (fun _ => rfl)
      · refine xe_sn pg_103 4 (fr' := (6, [(0, .int 0), (1, .int 0), (2, .int 3)], [.int 0])) rfl ?_
        refine xe_sn pg_103 4 (fr' := (15, [(0, .int 0), (1, .int 0), (2, .int 3)], [.int 1])) rfl ?_
        exact xe_end pg_103 rfl
      exact xe_end pg_104 rfl
    refine xe_sn pg_153 4 (fr' := (12, [(0, .ref 165), (1, .int 0), (2, .int 2)], [.int 11, .int 0, .int 2, .ref 165])) rfl ?_
    apply xe_callq pg_153 103 [.int 2, .int 0, .int 11] (.inl (some (.int 1))) (15, [(0, .ref 165), (1, .int 0), (2, .int 2)], [.int 1, .ref 165]) rfl (fun _ => rfl)
    · refine xe_sn pg_103 4 (fr' := (6, [(0, .int 2), (1, .int 0), (2, .int 11)], [.int 2])) rfl ?_
      refine xe_sn pg_103 4 (fr' := (15, [(0, .int 2), (1, .int 0), (2, .int 11)], [.int 1])) rfl ?_
      exact xe_end pg_103 rfl
    refine xe_sn pg_153 3 (fr' := (23, [(0, .ref 165), (1, .int 0), (2, .int 2)], [.int 1, .ref 165])) rfl ?_
    apply xe_callq pg_153 151 [.ref 165, .int 1] (.inl (some (.int 0))) (26, [(0, .ref 165), (1, .int 0), (2, .int 2)], [.int 0]) rfl (fun _ => rfl)
    · refine xe_sn pg_151 4 (fr' := (6, [(0, .ref 165), (1, .int 1)], [.int 0, .ref 165])) rfl ?_
      refine xe_sn pg_151 4 (fr' := (21, [(0, .ref 165), (1, .int 1)], [])) rfl ?_
      refine xe_sn pg_151 1 (fr' := (22, [(0, .ref 165), (1, .int 1)], [.int 0])) rfl ?_
      exact xe_end pg_151 rfl
    refine xe_sn pg_153 4 (fr' := (56, [(0, .ref 165), (1, .int 0), (2, .int 2)], [])) rfl ?_
    refine xe_sn pg_153 4 (fr' := (62, [(0, .ref 165), (1, .int 0), (2, .int 2)], [.int 2])) rfl ?_
    refine xe_sn pg_153 4 (fr' := (68, [(0, .ref 165), (1, .int 0), (2, .int 2)], [.ref 168, .int 0])) rfl ?_
    refine xe_sn pg_153 4 (fr' := (89, [(0, .ref 165), (1, .int 0), (2, .int 2)], [.int (-1)])) rfl ?_
    exact xe_end pg_153 rfl
  · exact ⟨⟨rfl, rfl, rfl, rfl⟩, Nat.le_of_ble_eq_true rfl, Nat.le_of_ble_eq_true rfl, rfl, fun _ => rfl⟩

set_option maxRecDepth 100000 in
theorem lf_circuit_7 (xs : Nat → Int32) : op_ok xs 172 153 [.ref 0, .int 0, .int 3, .ref 189] [.ref 165, .int 0, .int 3] := by
  refine ⟨0, (-1), ?_⟩
  apply Exists.intro
  apply Exists.intro
  apply And.intro
  · refine xe_sn pg_172 4 (fr' := (4, [(0, .ref 0), (1, .int 0), (2, .int 3), (3, .ref 189)], [.int 0, .ref 0, .int 0, .ref 189])) rfl ?_
    refine xe_sn pg_172 1 (fr' := (5, [(0, .ref 0), (1, .int 0), (2, .int 3), (3, .ref 189)], [.int 3, .int 0, .ref 0, .int 0, .ref 189])) rfl ?_
    apply xe_callq pg_172 85 [.ref 0, .int 0, .int 3] (.inl (some (.int (-1)))) (8, [(0, .ref 0), (1, .int 0), (2, .int 3), (3, .ref 189)], [.int (-1), .int 0, .ref 189]) rfl (fun _ => rfl)
    · refine xe_sn pg_85 1 (fr' := (1, [(0, .ref 0), (1, .int 0), (2, .int 3)], [.int 0])) rfl ?_
      apply xe_callq pg_85 92 [.int 0] (.inl none) (4, [(0, .ref 0), (1, .int 0), (2, .int 3)], []) rfl (fun _ => rfl)
      · refine xe_sn pg_92 2 (fr' := (2, [(0, .int 0)], [.int 4, .int 0])) rfl ?_
        apply xe_callq pg_92 95 [.int 0, .int 4] (.inl none) (5, [(0, .int 0)], []) rfl (fun _ => rfl)
        · refine xe_sn pg_95 4 (fr' := (6, [(0, .int 0), (1, .int 4)], [.int 4, .int 0])) rfl ?_
          refine xe_sn pg_95 1 (fr' := (17, [(0, .int 0), (1, .int 4)], [])) rfl ?_
          exact xe_end pg_95 rfl
        exact xe_end pg_92 rfl
      refine xe_sn pg_85 2 (fr' := (7, [(0, .ref 0), (1, .int 0), (2, .int 3)], [.int 12, .int 3])) rfl ?_
      apply xe_callq pg_85 95 [.int 3, .int 12] (.inl none) (10, [(0, .ref 0), (1, .int 0), (2, .int 3)], []) rfl (fun _ => rfl)
      · refine xe_sn pg_95 4 (fr' := (6, [(0, .int 3), (1, .int 12)], [.int 12, .int 3])) rfl ?_
        refine xe_sn pg_95 1 (fr' := (17, [(0, .int 3), (1, .int 12)], [])) rfl ?_
        exact xe_end pg_95 rfl
      refine xe_sn pg_85 4 (fr' := (16, [(0, .ref 0), (1, .int 0), (2, .int 3)], [.ref 121])) rfl ?_
      refine xe_sn pg_85 4 (fr' := (79, [(3, .ref 121), (0, .ref 0), (1, .int 0), (2, .int 3)], [.ref 121])) rfl ?_
      refine xe_sn pg_85 3 (fr' := (82, [(3, .ref 121), (0, .ref 0), (1, .int 0), (2, .int 3)], [.int 1, .ref 121])) rfl ?_
      apply xe_callq pg_85 17 [.ref 121, .int 1] (.inl (some (.int 0))) (85, [(3, .ref 121), (0, .ref 0), (1, .int 0), (2, .int 3)], [.int 0]) rfl (fun _ => rfl)
      · refine xe_sn pg_17 4 (fr' := (6, [(0, .ref 121), (1, .int 1)], [.ref 121, .int 1])) rfl ?_
        refine xe_sn pg_17 3 (fr' := (17, [(0, .ref 121), (1, .int 1)], [.int 0])) rfl ?_
        exact xe_end pg_17 rfl
      refine xe_sn pg_85 2 (fr' := (100, [(3, .ref 121), (0, .ref 0), (1, .int 0), (2, .int 3)], [.int (-1)])) rfl ?_
      exact xe_end pg_85 rfl
    refine xe_sn pg_172 4 (fr' := (18, [(0, .ref 0), (1, .int 0), (2, .int 3), (3, .ref 189)], [.int 0])) rfl ?_
    exact xe_end pg_172 rfl
  refine And.intro ⟨rfl, rfl, rfl, rfl⟩ ?_
  apply And.intro
  · refine xe_sn pg_153 2 (fr' := (2, [(0, .ref 165), (1, .int 0), (2, .int 3)], [.int 0, .ref 165])) rfl ?_
    apply xe_callq pg_153 104 [.int 0] (.inl (some (.int 1))) (5, [(0, .ref 165), (1, .int 0), (2, .int 3)], [.int 1, .ref 165]) rfl (fun _ => rfl)
    · refine xe_sn pg_104 3 (fr' := (3, [(0, .int 0)], [.int 3, .int 0, .int 0])) rfl ?_
      apply xe_callq pg_104 103 [.int 0, .int 0, .int 3] (.inl (some (.int 1))) (6, [(0, .int 0)], [.int 1]) rfl (fun _ => rfl)
      · refine xe_sn pg_103 4 (fr' := (6, [(0, .int 0), (1, .int 0), (2, .int 3)], [.int 0])) rfl ?_
        refine xe_sn pg_103 4 (fr' := (15, [(0, .int 0), (1, .int 0), (2, .int 3)], [.int 1])) rfl ?_
        exact xe_end pg_103 rfl
      exact xe_end pg_104 rfl
    refine xe_sn pg_153 4 (fr' := (12, [(0, .ref 165), (1, .int 0), (2, .int 3)], [.int 11, .int 0, .int 3, .ref 165])) rfl ?_
    apply xe_callq pg_153 103 [.int 3, .int 0, .int 11] (.inl (some (.int 1))) (15, [(0, .ref 165), (1, .int 0), (2, .int 3)], [.int 1, .ref 165]) rfl (fun _ => rfl)
    · refine xe_sn pg_103 4 (fr' := (6, [(0, .int 3), (1, .int 0), (2, .int 11)], [.int 3])) rfl ?_
      refine xe_sn pg_103 4 (fr' := (15, [(0, .int 3), (1, .int 0), (2, .int 11)], [.int 1])) rfl ?_
      exact xe_end pg_103 rfl
    refine xe_sn pg_153 3 (fr' := (23, [(0, .ref 165), (1, .int 0), (2, .int 3)], [.int 1, .ref 165])) rfl ?_
    apply xe_callq pg_153 151 [.ref 165, .int 1] (.inl (some (.int 0))) (26, [(0, .ref 165), (1, .int 0), (2, .int 3)], [.int 0]) rfl (fun _ => rfl)
    · refine xe_sn pg_151 4 (fr' := (6, [(0, .ref 165), (1, .int 1)], [.int 0, .ref 165])) rfl ?_
      refine xe_sn pg_151 4 (fr' := (21, [(0, .ref 165), (1, .int 1)], [])) rfl ?_
      refine xe_sn pg_151 1 (fr' := (22, [(0, .ref 165), (1, .int 1)], [.int 0])) rfl ?_
      exact xe_end pg_151 rfl
    refine xe_sn pg_153 4 (fr' := (56, [(0, .ref 165), (1, .int 0), (2, .int 3)], [])) rfl ?_
    refine xe_sn pg_153 4 (fr' := (62, [(0, .ref 165), (1, .int 0), (2, .int 3)], [.int 3])) rfl ?_
    refine xe_sn pg_153 4 (fr' := (68, [(0, .ref 165), (1, .int 0), (2, .int 3)], [.ref 168, .int 1])) rfl ?_
    refine xe_sn pg_153 4 (fr' := (89, [(0, .ref 165), (1, .int 0), (2, .int 3)], [.int (-1)])) rfl ?_
    exact xe_end pg_153 rfl
  · exact ⟨⟨rfl, rfl, rfl, rfl⟩, Nat.le_of_ble_eq_true rfl, Nat.le_of_ble_eq_true rfl, rfl, fun _ => rfl⟩

set_option maxRecDepth 100000 in
theorem lf_circuit_8 (xs : Nat → Int32) : op_ok xs 172 153 [.ref 0, .int 0, .int 4, .ref 189] [.ref 165, .int 0, .int 4] := by
  refine ⟨0, (-1), ?_⟩
  apply Exists.intro
  apply Exists.intro
  apply And.intro
  · refine xe_sn pg_172 4 (fr' := (4, [(0, .ref 0), (1, .int 0), (2, .int 4), (3, .ref 189)], [.int 0, .ref 0, .int 0, .ref 189])) rfl ?_
    refine xe_sn pg_172 1 (fr' := (5, [(0, .ref 0), (1, .int 0), (2, .int 4), (3, .ref 189)], [.int 4, .int 0, .ref 0, .int 0, .ref 189])) rfl ?_
    apply xe_callq pg_172 85 [.ref 0, .int 0, .int 4] (.inl (some (.int (-1)))) (8, [(0, .ref 0), (1, .int 0), (2, .int 4), (3, .ref 189)], [.int (-1), .int 0, .ref 189]) rfl (fun _ => rfl)
    · refine xe_sn pg_85 1 (fr' := (1, [(0, .ref 0), (1, .int 0), (2, .int 4)], [.int 0])) rfl ?_
      apply xe_callq pg_85 92 [.int 0] (.inl none) (4, [(0, .ref 0), (1, .int 0), (2, .int 4)], []) rfl (fun _ => rfl)
      · refine xe_sn pg_92 2 (fr' := (2, [(0, .int 0)], [.int 4, .int 0])) rfl ?_
        apply xe_callq pg_92 95 [.int 0, .int 4] (.inl none) (5, [(0, .int 0)], []) rfl (fun _ => rfl)
        · refine xe_sn pg_95 4 (fr' := (6, [(0, .int 0), (1, .int 4)], [.int 4, .int 0])) rfl ?_
          refine xe_sn pg_95 1 (fr' := (17, [(0, .int 0), (1, .int 4)], [])) rfl ?_
          exact xe_end pg_95 rfl
        exact xe_end pg_92 rfl
      refine xe_sn pg_85 2 (fr' := (7, [(0, .ref 0), (1, .int 0), (2, .int 4)], [.int 12, .int 4])) rfl ?_
      apply xe_callq pg_85 95 [.int 4, .int 12] (.inl none) (10, [(0, .ref 0), (1, .int 0), (2, .int 4)], []) rfl (fun _ => rfl)
      · refine xe_sn pg_95 4 (fr' := (6, [(0, .int 4), (1, .int 12)], [.int 12, .int 4])) rfl ?_
        refine xe_sn pg_95 1 (fr' := (17, [(0, .int 4), (1, .int 12)], [])) rfl ?_
        exact xe_end pg_95 rfl
      refine xe_sn pg_85 4 (fr' := (16, [(0, .ref 0), (1, .int 0), (2, .int 4)], [.ref 121])) rfl ?_
      refine xe_sn pg_85 4 (fr' := (79, [(3, .ref 121), (0, .ref 0), (1, .int 0), (2, .int 4)], [.ref 121])) rfl ?_
      refine xe_sn pg_85 3 (fr' := (82, [(3, .ref 121), (0, .ref 0), (1, .int 0), (2, .int 4)], [.int 2, .ref 121])) rfl ?_
      apply xe_callq pg_85 17 [.ref 121, .int 2] (.inl (some (.int 0))) (85, [(3, .ref 121), (0, .ref 0), (1, .int 0), (2, .int 4)], [.int 0]) rfl (fun _ => rfl)
      · refine xe_sn pg_17 4 (fr' := (6, [(0, .ref 121), (1, .int 2)], [.ref 121, .int 2])) rfl ?_
        refine xe_sn pg_17 3 (fr' := (17, [(0, .ref 121), (1, .int 2)], [.int 0])) rfl ?_
        exact xe_end pg_17 rfl
      refine xe_sn pg_85 2 (fr' := (100, [(3, .ref 121), (0, .ref 0), (1, .int 0), (2, .int 4)], [.int (-1)])) rfl ?_
      exact xe_end pg_85 rfl
    refine xe_sn pg_172 4 (fr' := (18, [(0, .ref 0), (1, .int 0), (2, .int 4), (3, .ref 189)], [.int 0])) rfl ?_
    exact xe_end pg_172 rfl
  refine And.intro ⟨rfl, rfl, rfl, rfl⟩ ?_
  apply And.intro
  · refine xe_sn pg_153 2 (fr' := (2, [(0, .ref 165), (1, .int 0), (2, .int 4)], [.int 0, .ref 165])) rfl ?_
    apply xe_callq pg_153 104 [.int 0] (.inl (some (.int 1))) (5, [(0, .ref 165), (1, .int 0), (2, .int 4)], [.int 1, .ref 165]) rfl (fun _ => rfl)
    · refine xe_sn pg_104 3 (fr' := (3, [(0, .int 0)], [.int 3, .int 0, .int 0])) rfl ?_
      apply xe_callq pg_104 103 [.int 0, .int 0, .int 3] (.inl (some (.int 1))) (6, [(0, .int 0)], [.int 1]) rfl (fun _ => rfl)
      · refine xe_sn pg_103 4 (fr' := (6, [(0, .int 0), (1, .int 0), (2, .int 3)], [.int 0])) rfl ?_
        refine xe_sn pg_103 4 (fr' := (15, [(0, .int 0), (1, .int 0), (2, .int 3)], [.int 1])) rfl ?_
        exact xe_end pg_103 rfl
      exact xe_end pg_104 rfl
    refine xe_sn pg_153 4 (fr' := (12, [(0, .ref 165), (1, .int 0), (2, .int 4)], [.int 11, .int 0, .int 4, .ref 165])) rfl ?_
    apply xe_callq pg_153 103 [.int 4, .int 0, .int 11] (.inl (some (.int 1))) (15, [(0, .ref 165), (1, .int 0), (2, .int 4)], [.int 1, .ref 165]) rfl (fun _ => rfl)
    · refine xe_sn pg_103 4 (fr' := (6, [(0, .int 4), (1, .int 0), (2, .int 11)], [.int 4])) rfl ?_
      refine xe_sn pg_103 4 (fr' := (15, [(0, .int 4), (1, .int 0), (2, .int 11)], [.int 1])) rfl ?_
      exact xe_end pg_103 rfl
    refine xe_sn pg_153 3 (fr' := (23, [(0, .ref 165), (1, .int 0), (2, .int 4)], [.int 1, .ref 165])) rfl ?_
    apply xe_callq pg_153 151 [.ref 165, .int 1] (.inl (some (.int 0))) (26, [(0, .ref 165), (1, .int 0), (2, .int 4)], [.int 0]) rfl (fun _ => rfl)
    · refine xe_sn pg_151 4 (fr' := (6, [(0, .ref 165), (1, .int 1)], [.int 0, .ref 165])) rfl ?_
      refine xe_sn pg_151 4 (fr' := (21, [(0, .ref 165), (1, .int 1)], [])) rfl ?_
      refine xe_sn pg_151 1 (fr' := (22, [(0, .ref 165), (1, .int 1)], [.int 0])) rfl ?_
      exact xe_end pg_151 rfl
    refine xe_sn pg_153 4 (fr' := (56, [(0, .ref 165), (1, .int 0), (2, .int 4)], [])) rfl ?_
    refine xe_sn pg_153 4 (fr' := (62, [(0, .ref 165), (1, .int 0), (2, .int 4)], [.int 4])) rfl ?_
    refine xe_sn pg_153 4 (fr' := (68, [(0, .ref 165), (1, .int 0), (2, .int 4)], [.ref 168, .int 2])) rfl ?_
    refine xe_sn pg_153 4 (fr' := (89, [(0, .ref 165), (1, .int 0), (2, .int 4)], [.int (-1)])) rfl ?_
    exact xe_end pg_153 rfl
  · exact ⟨⟨rfl, rfl, rfl, rfl⟩, Nat.le_of_ble_eq_true rfl, Nat.le_of_ble_eq_true rfl, rfl, fun _ => rfl⟩

set_option maxRecDepth 100000 in
theorem lf_circuit_9 (xs : Nat → Int32) : op_ok xs 172 153 [.ref 0, .int 0, .int 5, .ref 189] [.ref 165, .int 0, .int 5] := by
  refine ⟨0, (-1), ?_⟩
  apply Exists.intro
  apply Exists.intro
  apply And.intro
  · refine xe_sn pg_172 4 (fr' := (4, [(0, .ref 0), (1, .int 0), (2, .int 5), (3, .ref 189)], [.int 0, .ref 0, .int 0, .ref 189])) rfl ?_
    refine xe_sn pg_172 1 (fr' := (5, [(0, .ref 0), (1, .int 0), (2, .int 5), (3, .ref 189)], [.int 5, .int 0, .ref 0, .int 0, .ref 189])) rfl ?_
    apply xe_callq pg_172 85 [.ref 0, .int 0, .int 5] (.inl (some (.int (-1)))) (8, [(0, .ref 0), (1, .int 0), (2, .int 5), (3, .ref 189)], [.int (-1), .int 0, .ref 189]) rfl (fun _ => rfl)
    · refine xe_sn pg_85 1 (fr' := (1, [(0, .ref 0), (1, .int 0), (2, .int 5)], [.int 0])) rfl ?_
      apply xe_callq pg_85 92 [.int 0] (.inl none) (4, [(0, .ref 0), (1, .int 0), (2, .int 5)], []) rfl (fun _ => rfl)
      · refine xe_sn pg_92 2 (fr' := (2, [(0, .int 0)], [.int 4, .int 0])) rfl ?_
        apply xe_callq pg_92 95 [.int 0, .int 4] (.inl none) (5, [(0, .int 0)], []) rfl (fun _ => rfl)
        · refine xe_sn pg_95 4 (fr' := (6, [(0, .int 0), (1, .int 4)], [.int 4, .int 0])) rfl ?_
          refine xe_sn pg_95 1 (fr' := (17, [(0, .int 0), (1, .int 4)], [])) rfl ?_
          exact xe_end pg_95 rfl
        exact xe_end pg_92 rfl
      refine xe_sn pg_85 2 (fr' := (7, [(0, .ref 0), (1, .int 0), (2, .int 5)], [.int 12, .int 5])) rfl ?_
      apply xe_callq pg_85 95 [.int 5, .int 12] (.inl none) (10, [(0, .ref 0), (1, .int 0), (2, .int 5)], []) rfl (fun _ => rfl)
      · refine xe_sn pg_95 4 (fr' := (6, [(0, .int 5), (1, .int 12)], [.int 12, .int 5])) rfl ?_
        refine xe_sn pg_95 1 (fr' := (17, [(0, .int 5), (1, .int 12)], [])) rfl ?_
        exact xe_end pg_95 rfl
      refine xe_sn pg_85 4 (fr' := (16, [(0, .ref 0), (1, .int 0), (2, .int 5)], [.ref 121])) rfl ?_
      refine xe_sn pg_85 4 (fr' := (102, [(3, .ref 121), (0, .ref 0), (1, .int 0), (2, .int 5)], [.ref 121])) rfl ?_
      refine xe_sn pg_85 1 (fr' := (105, [(3, .ref 121), (0, .ref 0), (1, .int 0), (2, .int 5)], [.int (-1)])) rfl ?_
      exact xe_end pg_85 rfl
    refine xe_sn pg_172 4 (fr' := (18, [(0, .ref 0), (1, .int 0), (2, .int 5), (3, .ref 189)], [.int 0])) rfl ?_
    exact xe_end pg_172 rfl
  refine And.intro ⟨rfl, rfl, rfl, rfl⟩ ?_
  apply And.intro
  · refine xe_sn pg_153 2 (fr' := (2, [(0, .ref 165), (1, .int 0), (2, .int 5)], [.int 0, .ref 165])) rfl ?_
    apply xe_callq pg_153 104 [.int 0] (.inl (some (.int 1))) (5, [(0, .ref 165), (1, .int 0), (2, .int 5)], [.int 1, .ref 165]) rfl (fun _ => rfl)
    · refine xe_sn pg_104 3 (fr' := (3, [(0, .int 0)], [.int 3, .int 0, .int 0])) rfl ?_
      apply xe_callq pg_104 103 [.int 0, .int 0, .int 3] (.inl (some (.int 1))) (6, [(0, .int 0)], [.int 1]) rfl (fun _ => rfl)
      · refine xe_sn pg_103 4 (fr' := (6, [(0, .int 0), (1, .int 0), (2, .int 3)], [.int 0])) rfl ?_
        refine xe_sn pg_103 4 (fr' := (15, [(0, .int 0), (1, .int 0), (2, .int 3)], [.int 1])) rfl ?_
        exact xe_end pg_103 rfl
      exact xe_end pg_104 rfl
    refine xe_sn pg_153 4 (fr' := (12, [(0, .ref 165), (1, .int 0), (2, .int 5)], [.int 11, .int 0, .int 5, .ref 165])) rfl ?_
    apply xe_callq pg_153 103 [.int 5, .int 0, .int 11] (.inl (some (.int 1))) (15, [(0, .ref 165), (1, .int 0), (2, .int 5)], [.int 1, .ref 165]) rfl (fun _ => rfl)
    · refine xe_sn pg_103 4 (fr' := (6, [(0, .int 5), (1, .int 0), (2, .int 11)], [.int 5])) rfl ?_
      refine xe_sn pg_103 4 (fr' := (15, [(0, .int 5), (1, .int 0), (2, .int 11)], [.int 1])) rfl ?_
      exact xe_end pg_103 rfl
    refine xe_sn pg_153 3 (fr' := (23, [(0, .ref 165), (1, .int 0), (2, .int 5)], [.int 1, .ref 165])) rfl ?_
    apply xe_callq pg_153 151 [.ref 165, .int 1] (.inl (some (.int 0))) (26, [(0, .ref 165), (1, .int 0), (2, .int 5)], [.int 0]) rfl (fun _ => rfl)
    · refine xe_sn pg_151 4 (fr' := (6, [(0, .ref 165), (1, .int 1)], [.int 0, .ref 165])) rfl ?_
      refine xe_sn pg_151 4 (fr' := (21, [(0, .ref 165), (1, .int 1)], [])) rfl ?_
      refine xe_sn pg_151 1 (fr' := (22, [(0, .ref 165), (1, .int 1)], [.int 0])) rfl ?_
      exact xe_end pg_151 rfl
    refine xe_sn pg_153 4 (fr' := (56, [(0, .ref 165), (1, .int 0), (2, .int 5)], [])) rfl ?_
    refine xe_sn pg_153 4 (fr' := (91, [(0, .ref 165), (1, .int 0), (2, .int 5)], [.int 5])) rfl ?_
    refine xe_sn pg_153 4 (fr' := (99, [(0, .ref 165), (1, .int 0), (2, .int 5)], [.ref 171])) rfl ?_
    refine xe_sn pg_153 3 (fr' := (139, [(0, .ref 165), (1, .int 0), (2, .int 5)], [.int (-1)])) rfl ?_
    exact xe_end pg_153 rfl
  · exact ⟨⟨rfl, rfl, rfl, rfl⟩, Nat.le_of_ble_eq_true rfl, Nat.le_of_ble_eq_true rfl, rfl, fun _ => rfl⟩

set_option maxRecDepth 100000 in
theorem lf_circuit_10 (xs : Nat → Int32) : op_ok xs 172 153 [.ref 0, .int 0, .int 6, .ref 189] [.ref 165, .int 0, .int 6] := by
  refine ⟨0, 0, ?_⟩
  apply Exists.intro
  apply Exists.intro
  apply And.intro
  · refine xe_sn pg_172 4 (fr' := (4, [(0, .ref 0), (1, .int 0), (2, .int 6), (3, .ref 189)], [.int 0, .ref 0, .int 0, .ref 189])) rfl ?_
    refine xe_sn pg_172 1 (fr' := (5, [(0, .ref 0), (1, .int 0), (2, .int 6), (3, .ref 189)], [.int 6, .int 0, .ref 0, .int 0, .ref 189])) rfl ?_
    apply xe_callq pg_172 85 [.ref 0, .int 0, .int 6] (.inl (some (.int 0))) (8, [(0, .ref 0), (1, .int 0), (2, .int 6), (3, .ref 189)], [.int 0, .int 0, .ref 189]) rfl (fun _ => rfl)
    · refine xe_sn pg_85 1 (fr' := (1, [(0, .ref 0), (1, .int 0), (2, .int 6)], [.int 0])) rfl ?_
      apply xe_callq pg_85 92 [.int 0] (.inl none) (4, [(0, .ref 0), (1, .int 0), (2, .int 6)], []) rfl (fun _ => rfl)
      · refine xe_sn pg_92 2 (fr' := (2, [(0, .int 0)], [.int 4, .int 0])) rfl ?_
        apply xe_callq pg_92 95 [.int 0, .int 4] (.inl none) (5, [(0, .int 0)], []) rfl (fun _ => rfl)
        · refine xe_sn pg_95 4 (fr' := (6, [(0, .int 0), (1, .int 4)], [.int 4, .int 0])) rfl ?_
          refine xe_sn pg_95 1 (fr' := (17, [(0, .int 0), (1, .int 4)], [])) rfl ?_
          exact xe_end pg_95 rfl
        exact xe_end pg_92 rfl
      refine xe_sn pg_85 2 (fr' := (7, [(0, .ref 0), (1, .int 0), (2, .int 6)], [.int 12, .int 6])) rfl ?_
      apply xe_callq pg_85 95 [.int 6, .int 12] (.inl none) (10, [(0, .ref 0), (1, .int 0), (2, .int 6)], []) rfl (fun _ => rfl)
      · refine xe_sn pg_95 4 (fr' := (6, [(0, .int 6), (1, .int 12)], [.int 12, .int 6])) rfl ?_
        refine xe_sn pg_95 1 (fr' := (17, [(0, .int 6), (1, .int 12)], [])) rfl ?_
        exact xe_end pg_95 rfl
      refine xe_sn pg_85 4 (fr' := (16, [(0, .ref 0), (1, .int 0), (2, .int 6)], [.ref 121])) rfl ?_
      refine xe_sn pg_85 4 (fr' := (107, [(3, .ref 121), (0, .ref 0), (1, .int 0), (2, .int 6)], [.ref 121])) rfl ?_
      refine xe_sn pg_85 4 (fr' := (114, [(3, .ref 121), (0, .ref 0), (1, .int 0), (2, .int 6)], [.int 0, .ref 127])) rfl ?_
      refine xe_sn pg_85 2 (fr' := (118, [(3, .ref 121), (0, .ref 0), (1, .int 0), (2, .int 6)], [.int 0])) rfl ?_
      exact xe_end pg_85 rfl
    refine xe_sn pg_172 4 (fr' := (18, [(0, .ref 0), (1, .int 0), (2, .int 6), (3, .ref 189)], [.int 0])) rfl ?_
    exact xe_end pg_172 rfl
  refine And.intro ⟨rfl, rfl, rfl, rfl⟩ ?_
  apply And.intro
  · refine xe_sn pg_153 2 (fr' := (2, [(0, .ref 165), (1, .int 0), (2, .int 6)], [.int 0, .ref 165])) rfl ?_
    apply xe_callq pg_153 104 [.int 0] (.inl (some (.int 1))) (5, [(0, .ref 165), (1, .int 0), (2, .int 6)], [.int 1, .ref 165]) rfl (fun _ => rfl)
    · refine xe_sn pg_104 3 (fr' := (3, [(0, .int 0)], [.int 3, .int 0, .int 0])) rfl ?_
      apply xe_callq pg_104 103 [.int 0, .int 0, .int 3] (.inl (some (.int 1))) (6, [(0, .int 0)], [.int 1]) rfl (fun _ => rfl)
      · refine xe_sn pg_103 4 (fr' := (6, [(0, .int 0), (1, .int 0), (2, .int 3)], [.int 0])) rfl ?_
        refine xe_sn pg_103 4 (fr' := (15, [(0, .int 0), (1, .int 0), (2, .int 3)], [.int 1])) rfl ?_
        exact xe_end pg_103 rfl
      exact xe_end pg_104 rfl
    refine xe_sn pg_153 4 (fr' := (12, [(0, .ref 165), (1, .int 0), (2, .int 6)], [.int 11, .int 0, .int 6, .ref 165])) rfl ?_
    apply xe_callq pg_153 103 [.int 6, .int 0, .int 11] (.inl (some (.int 1))) (15, [(0, .ref 165), (1, .int 0), (2, .int 6)], [.int 1, .ref 165]) rfl (fun _ => rfl)
    · refine xe_sn pg_103 4 (fr' := (6, [(0, .int 6), (1, .int 0), (2, .int 11)], [.int 6])) rfl ?_
      refine xe_sn pg_103 4 (fr' := (15, [(0, .int 6), (1, .int 0), (2, .int 11)], [.int 1])) rfl ?_
      exact xe_end pg_103 rfl
    refine xe_sn pg_153 3 (fr' := (23, [(0, .ref 165), (1, .int 0), (2, .int 6)], [.int 1, .ref 165])) rfl ?_
    apply xe_callq pg_153 151 [.ref 165, .int 1] (.inl (some (.int 0))) (26, [(0, .ref 165), (1, .int 0), (2, .int 6)], [.int 0]) rfl (fun _ => rfl)
    · refine xe_sn pg_151 4 (fr' := (6, [(0, .ref 165), (1, .int 1)], [.int 0, .ref 165])) rfl ?_
      refine xe_sn pg_151 4 (fr' := (21, [(0, .ref 165), (1, .int 1)], [])) rfl ?_
      refine xe_sn pg_151 1 (fr' := (22, [(0, .ref 165), (1, .int 1)], [.int 0])) rfl ?_
      exact xe_end pg_151 rfl
    refine xe_sn pg_153 4 (fr' := (56, [(0, .ref 165), (1, .int 0), (2, .int 6)], [])) rfl ?_
    refine xe_sn pg_153 4 (fr' := (91, [(0, .ref 165), (1, .int 0), (2, .int 6)], [.int 6])) rfl ?_
    refine xe_sn pg_153 4 (fr' := (107, [(0, .ref 165), (1, .int 0), (2, .int 6)], [.int 9, .int 6])) rfl ?_
    refine xe_sn pg_153 4 (fr' := (115, [(0, .ref 165), (1, .int 0), (2, .int 6)], [.int 3, .ref 173])) rfl ?_
    refine xe_sn pg_153 4 (fr' := (119, [(0, .ref 165), (1, .int 0), (2, .int 6)], [.int 6, .ref 173])) rfl ?_
    refine xe_sn pg_153 4 (fr' := (139, [(0, .ref 165), (1, .int 0), (2, .int 6)], [.int 0])) rfl ?_
    exact xe_end pg_153 rfl
  · exact ⟨⟨rfl, rfl, rfl, rfl⟩, Nat.le_of_ble_eq_true rfl, Nat.le_of_ble_eq_true rfl, rfl, fun _ => rfl⟩

set_option maxRecDepth 100000 in
theorem lf_circuit_11 (xs : Nat → Int32) : op_ok xs 172 153 [.ref 0, .int 0, .int 7, .ref 189] [.ref 165, .int 0, .int 7] := by
  refine ⟨0, 0, ?_⟩
  apply Exists.intro
  apply Exists.intro
  apply And.intro
  · refine xe_sn pg_172 4 (fr' := (4, [(0, .ref 0), (1, .int 0), (2, .int 7), (3, .ref 189)], [.int 0, .ref 0, .int 0, .ref 189])) rfl ?_
    refine xe_sn pg_172 1 (fr' := (5, [(0, .ref 0), (1, .int 0), (2, .int 7), (3, .ref 189)], [.int 7, .int 0, .ref 0, .int 0, .ref 189])) rfl ?_
    apply xe_callq pg_172 85 [.ref 0, .int 0, .int 7] (.inl (some (.int 0))) (8, [(0, .ref 0), (1, .int 0), (2, .int 7), (3, .ref 189)], [.int 0, .int 0, .ref 189]) rfl (fun _ => rfl)
    · refine xe_sn pg_85 1 (fr' := (1, [(0, .ref 0), (1, .int 0), (2, .int 7)], [.int 0])) rfl ?_
      apply xe_callq pg_85 92 [.int 0] (.inl none) (4, [(0, .ref 0), (1, .int 0), (2, .int 7)], []) rfl (fun _ => rfl)
      · refine xe_sn pg_92 2 (fr' := (2, [(0, .int 0)], [.int 4, .int 0])) rfl ?_
        apply xe_callq pg_92 95 [.int 0, .int 4] (.inl none) (5, [(0, .int 0)], []) rfl (fun _ => rfl)
        · refine xe_sn pg_95 4 (fr' := (6, [(0, .int 0), (1, .int 4)], [.int 4, .int 0])) rfl ?_
          refine xe_sn pg_95 1 (fr' := (17, [(0, .int 0), (1, .int 4)], [])) rfl ?_
          exact xe_end pg_95 rfl
        exact xe_end pg_92 rfl
      refine xe_sn pg_85 2 (fr' := (7, [(0, .ref 0), (1, .int 0), (2, .int 7)], [.int 12, .int 7])) rfl ?_
      apply xe_callq pg_85 95 [.int 7, .int 12] (.inl none) (10, [(0, .ref 0), (1, .int 0), (2, .int 7)], []) rfl (fun _ => rfl)
      · refine xe_sn pg_95 4 (fr' := (6, [(0, .int 7), (1, .int 12)], [.int 12, .int 7])) rfl ?_
        refine xe_sn pg_95 1 (fr' := (17, [(0, .int 7), (1, .int 12)], [])) rfl ?_
        exact xe_end pg_95 rfl
      refine xe_sn pg_85 4 (fr' := (16, [(0, .ref 0), (1, .int 0), (2, .int 7)], [.ref 121])) rfl ?_
      refine xe_sn pg_85 4 (fr' := (107, [(3, .ref 121), (0, .ref 0), (1, .int 0), (2, .int 7)], [.ref 121])) rfl ?_
      refine xe_sn pg_85 4 (fr' := (114, [(3, .ref 121), (0, .ref 0), (1, .int 0), (2, .int 7)], [.int 1, .ref 127])) rfl ?_
      refine xe_sn pg_85 2 (fr' := (118, [(3, .ref 121), (0, .ref 0), (1, .int 0), (2, .int 7)], [.int 0])) rfl ?_
      exact xe_end pg_85 rfl
    refine xe_sn pg_172 4 (fr' := (18, [(0, .ref 0), (1, .int 0), (2, .int 7), (3, .ref 189)], [.int 0])) rfl ?_
    exact xe_end pg_172 rfl
  refine And.intro ⟨rfl, rfl, rfl, rfl⟩ ?_
  apply And.intro
  · refine xe_sn pg_153 2 (fr' := (2, [(0, .ref 165), (1, .int 0), (2, .int 7)], [.int 0, .ref 165])) rfl ?_
    apply xe_callq pg_153 104 [.int 0] (.inl (some (.int 1))) (5, [(0, .ref 165), (1, .int 0), (2, .int 7)], [.int 1, .ref 165]) rfl (fun _ => rfl)
    · refine xe_sn pg_104 3 (fr' := (3, [(0, .int 0)], [.int 3, .int 0, .int 0])) rfl ?_
      apply xe_callq pg_104 103 [.int 0, .int 0, .int 3] (.inl (some (.int 1))) (6, [(0, .int 0)], [.int 1]) rfl (fun _ => rfl)
      · refine xe_sn pg_103 4 (fr' := (6, [(0, .int 0), (1, .int 0), (2, .int 3)], [.int 0])) rfl ?_
        refine xe_sn pg_103 4 (fr' := (15, [(0, .int 0), (1, .int 0), (2, .int 3)], [.int 1])) rfl ?_
        exact xe_end pg_103 rfl
      exact xe_end pg_104 rfl
    refine xe_sn pg_153 4 (fr' := (12, [(0, .ref 165), (1, .int 0), (2, .int 7)], [.int 11, .int 0, .int 7, .ref 165])) rfl ?_
    apply xe_callq pg_153 103 [.int 7, .int 0, .int 11] (.inl (some (.int 1))) (15, [(0, .ref 165), (1, .int 0), (2, .int 7)], [.int 1, .ref 165]) rfl (fun _ => rfl)
    · refine xe_sn pg_103 4 (fr' := (6, [(0, .int 7), (1, .int 0), (2, .int 11)], [.int 7])) rfl ?_
      refine xe_sn pg_103 4 (fr' := (15, [(0, .int 7), (1, .int 0), (2, .int 11)], [.int 1])) rfl ?_
      exact xe_end pg_103 rfl
    refine xe_sn pg_153 3 (fr' := (23, [(0, .ref 165), (1, .int 0), (2, .int 7)], [.int 1, .ref 165])) rfl ?_
    apply xe_callq pg_153 151 [.ref 165, .int 1] (.inl (some (.int 0))) (26, [(0, .ref 165), (1, .int 0), (2, .int 7)], [.int 0]) rfl (fun _ => rfl)
    · refine xe_sn pg_151 4 (fr' := (6, [(0, .ref 165), (1, .int 1)], [.int 0, .ref 165])) rfl ?_
      refine xe_sn pg_151 4 (fr' := (21, [(0, .ref 165), (1, .int 1)], [])) rfl ?_
      refine xe_sn pg_151 1 (fr' := (22, [(0, .ref 165), (1, .int 1)], [.int 0])) rfl ?_
      exact xe_end pg_151 rfl
    refine xe_sn pg_153 4 (fr' := (56, [(0, .ref 165), (1, .int 0), (2, .int 7)], [])) rfl ?_
    refine xe_sn pg_153 4 (fr' := (91, [(0, .ref 165), (1, .int 0), (2, .int 7)], [.int 7])) rfl ?_
    refine xe_sn pg_153 4 (fr' := (107, [(0, .ref 165), (1, .int 0), (2, .int 7)], [.int 9, .int 7])) rfl ?_
    refine xe_sn pg_153 4 (fr' := (115, [(0, .ref 165), (1, .int 0), (2, .int 7)], [.int 3, .ref 173])) rfl ?_
    refine xe_sn pg_153 4 (fr' := (119, [(0, .ref 165), (1, .int 0), (2, .int 7)], [.int 7, .ref 173])) rfl ?_
    refine xe_sn pg_153 4 (fr' := (139, [(0, .ref 165), (1, .int 0), (2, .int 7)], [.int 0])) rfl ?_
    exact xe_end pg_153 rfl
  · exact ⟨⟨rfl, rfl, rfl, rfl⟩, Nat.le_of_ble_eq_true rfl, Nat.le_of_ble_eq_true rfl, rfl, fun _ => rfl⟩

set_option maxRecDepth 100000 in
theorem lf_circuit_12 (xs : Nat → Int32) : op_ok xs 172 153 [.ref 0, .int 0, .int 8, .ref 189] [.ref 165, .int 0, .int 8] := by
  refine ⟨0, 0, ?_⟩
  apply Exists.intro
  apply Exists.intro
  apply And.intro
  · refine xe_sn pg_172 4 (fr' := (4, [(0, .ref 0), (1, .int 0), (2, .int 8), (3, .ref 189)], [.int 0, .ref 0, .int 0, .ref 189])) rfl ?_
    refine xe_sn pg_172 1 (fr' := (5, [(0, .ref 0), (1, .int 0), (2, .int 8), (3, .ref 189)], [.int 8, .int 0, .ref 0, .int 0, .ref 189])) rfl ?_
    apply xe_callq pg_172 85 [.ref 0, .int 0, .int 8] (.inl (some (.int 0))) (8, [(0, .ref 0), (1, .int 0), (2, .int 8), (3, .ref 189)], [.int 0, .int 0, .ref 189]) rfl (fun _ => rfl)
    · refine xe_sn pg_85 1 (fr' := (1, [(0, .ref 0), (1, .int 0), (2, .int 8)], [.int 0])) rfl ?_
      apply xe_callq pg_85 92 [.int 0] (.inl none) (4, [(0, .ref 0), (1, .int 0), (2, .int 8)], []) rfl (fun _ => rfl)
      · refine xe_sn pg_92 2 (fr' := (2, [(0, .int 0)], [.int 4, .int 0])) rfl ?_
        apply xe_callq pg_92 95 [.int 0, .int 4] (.inl none) (5, [(0, .int 0)], []) rfl (fun _ => rfl)
        · refine xe_sn pg_95 4 (fr' := (6, [(0, .int 0), (1, .int 4)], [.int 4, .int 0])) rfl ?_
          refine xe_sn pg_95 1 (fr' := (17, [(0, .int 0), (1, .int 4)], [])) rfl ?_
          exact xe_end pg_95 rfl
        exact xe_end pg_92 rfl
      refine xe_sn pg_85 2 (fr' := (7, [(0, .ref 0), (1, .int 0), (2, .int 8)], [.int 12, .int 8])) rfl ?_
      apply xe_callq pg_85 95 [.int 8, .int 12] (.inl none) (10, [(0, .ref 0), (1, .int 0), (2, .int 8)], []) rfl (fun _ => rfl)
      · refine xe_sn pg_95 4 (fr' := (6, [(0, .int 8), (1, .int 12)], [.int 12, .int 8])) rfl ?_
        refine xe_sn pg_95 1 (fr' := (17, [(0, .int 8), (1, .int 12)], [])) rfl ?_
        exact xe_end pg_95 rfl
      refine xe_sn pg_85 4 (fr' := (16, [(0, .ref 0), (1, .int 0), (2, .int 8)], [.ref 121])) rfl ?_
      refine xe_sn pg_85 4 (fr' := (107, [(3, .ref 121), (0, .ref 0), (1, .int 0), (2, .int 8)], [.ref 121])) rfl ?_
      refine xe_sn pg_85 4 (fr' := (114, [(3, .ref 121), (0, .ref 0), (1, .int 0), (2, .int 8)], [.int 2, .ref 127])) rfl ?_
      refine xe_sn pg_85 2 (fr' := (118, [(3, .ref 121), (0, .ref 0), (1, .int 0), (2, .int 8)], [.int 0])) rfl ?_
      exact xe_end pg_85 rfl
    refine xe_sn pg_172 4 (fr' := (18, [(0, .ref 0), (1, .int 0), (2, .int 8), (3, .ref 189)], [.int 0])) rfl ?_
    exact xe_end pg_172 rfl
  refine And.intro ⟨rfl, rfl, rfl, rfl⟩ ?_
  apply And.intro
  · refine xe_sn pg_153 2 (fr' := (2, [(0, .ref 165), (1, .int 0), (2, .int 8)], [.int 0, .ref 165])) rfl ?_
    apply xe_callq pg_153 104 [.int 0] (.inl (some (.int 1))) (5, [(0, .ref 165), (1, .int 0), (2, .int 8)], [.int 1, .ref 165]) rfl (fun _ => rfl)
    · refine xe_sn pg_104 3 (fr' := (3, [(0, .int 0)], [.int 3, .int 0, .int 0])) rfl ?_
      apply xe_callq pg_104 103 [.int 0, .int 0, .int 3] (.inl (some (.int 1))) (6, [(0, .int 0)], [.int 1]) rfl (fun _ => rfl)
      · refine xe_sn pg_103 4 (fr' := (6, [(0, .int 0), (1, .int 0), (2, .int 3)], [.int 0])) rfl ?_
        refine xe_sn pg_103 4 (fr' := (15, [(0, .int 0), (1, .int 0), (2, .int 3)], [.int 1])) rfl ?_
        exact xe_end pg_103 rfl
      exact xe_end pg_104 rfl
    refine xe_sn pg_153 4 (fr' := (12, [(0, .ref 165), (1, .int 0), (2, .int 8)], [.int 11, .int 0, .int 8, .ref 165])) rfl ?_
    apply xe_callq pg_153 103 [.int 8, .int 0, .int 11] (.inl (some (.int 1))) (15, [(0, .ref 165), (1, .int 0), (2, .int 8)], [.int 1, .ref 165]) rfl (fun _ => rfl)
    · refine xe_sn pg_103 4 (fr' := (6, [(0, .int 8), (1, .int 0), (2, .int 11)], [.int 8])) rfl ?_
      refine xe_sn pg_103 4 (fr' := (15, [(0, .int 8), (1, .int 0), (2, .int 11)], [.int 1])) rfl ?_
      exact xe_end pg_103 rfl
    refine xe_sn pg_153 3 (fr' := (23, [(0, .ref 165), (1, .int 0), (2, .int 8)], [.int 1, .ref 165])) rfl ?_
    apply xe_callq pg_153 151 [.ref 165, .int 1] (.inl (some (.int 0))) (26, [(0, .ref 165), (1, .int 0), (2, .int 8)], [.int 0]) rfl (fun _ => rfl)
    · refine xe_sn pg_151 4 (fr' := (6, [(0, .ref 165), (1, .int 1)], [.int 0, .ref 165])) rfl ?_
      refine xe_sn pg_151 4 (fr' := (21, [(0, .ref 165), (1, .int 1)], [])) rfl ?_
      refine xe_sn pg_151 1 (fr' := (22, [(0, .ref 165), (1, .int 1)], [.int 0])) rfl ?_
      exact xe_end pg_151 rfl
    refine xe_sn pg_153 4 (fr' := (56, [(0, .ref 165), (1, .int 0), (2, .int 8)], [])) rfl ?_
    refine xe_sn pg_153 4 (fr' := (91, [(0, .ref 165), (1, .int 0), (2, .int 8)], [.int 8])) rfl ?_
    refine xe_sn pg_153 4 (fr' := (107, [(0, .ref 165), (1, .int 0), (2, .int 8)], [.int 9, .int 8])) rfl ?_
    refine xe_sn pg_153 4 (fr' := (115, [(0, .ref 165), (1, .int 0), (2, .int 8)], [.int 3, .ref 173])) rfl ?_
    refine xe_sn pg_153 4 (fr' := (119, [(0, .ref 165), (1, .int 0), (2, .int 8)], [.int 8, .ref 173])) rfl ?_
    refine xe_sn pg_153 4 (fr' := (139, [(0, .ref 165), (1, .int 0), (2, .int 8)], [.int 0])) rfl ?_
    exact xe_end pg_153 rfl
  · exact ⟨⟨rfl, rfl, rfl, rfl⟩, Nat.le_of_ble_eq_true rfl, Nat.le_of_ble_eq_true rfl, rfl, fun _ => rfl⟩

set_option maxRecDepth 100000 in
theorem lf_circuit_13 (xs : Nat → Int32) : op_ok xs 172 153 [.ref 0, .int 0, .int 9, .ref 189] [.ref 165, .int 0, .int 9] := by
  refine ⟨0, 0, ?_⟩
  apply Exists.intro
  apply Exists.intro
  apply And.intro
  · refine xe_sn pg_172 4 (fr' := (4, [(0, .ref 0), (1, .int 0), (2, .int 9), (3, .ref 189)], [.int 0, .ref 0, .int 0, .ref 189])) rfl ?_
    refine xe_sn pg_172 1 (fr' := (5, [(0, .ref 0), (1, .int 0), (2, .int 9), (3, .ref 189)], [.int 9, .int 0, .ref 0, .int 0, .ref 189])) rfl ?_
    apply xe_callq pg_172 85 [.ref 0, .int 0, .int 9] (.inl (some (.int 0))) (8, [(0, .ref 0), (1, .int 0), (2, .int 9), (3, .ref 189)], [.int 0, .int 0, .ref 189]) rfl (fun _ => rfl)
    · refine xe_sn pg_85 1 (fr' := (1, [(0, .ref 0), (1, .int 0), (2, .int 9)], [.int 0])) rfl ?_
      apply xe_callq pg_85 92 [.int 0] (.inl none) (4, [(0, .ref 0), (1, .int 0), (2, .int 9)], []) rfl (fun _ => rfl)
      · refine xe_sn pg_92 2 (fr' := (2, [(0, .int 0)], [.int 4, .int 0])) rfl ?_
        apply xe_callq pg_92 95 [.int 0, .int 4] (.inl none) (5, [(0, .int 0)], []) rfl (fun _ => rfl)
        · refine xe_sn pg_95 4 (fr' := (6, [(0, .int 0), (1, .int 4)], [.int 4, .int 0])) rfl ?_
          refine xe_sn pg_95 1 (fr' := (17, [(0, .int 0), (1, .int 4)], [])) rfl ?_
          exact xe_end pg_95 rfl
        exact xe_end pg_92 rfl
      refine xe_sn pg_85 2 (fr' := (7, [(0, .ref 0), (1, .int 0), (2, .int 9)], [.int 12, .int 9])) rfl ?_
      apply xe_callq pg_85 95 [.int 9, .int 12] (.inl none) (10, [(0, .ref 0), (1, .int 0), (2, .int 9)], []) rfl (fun _ => rfl)
      · refine xe_sn pg_95 4 (fr' := (6, [(0, .int 9), (1, .int 12)], [.int 12, .int 9])) rfl ?_
        refine xe_sn pg_95 1 (fr' := (17, [(0, .int 9), (1, .int 12)], [])) rfl ?_
        exact xe_end pg_95 rfl
      refine xe_sn pg_85 4 (fr' := (16, [(0, .ref 0), (1, .int 0), (2, .int 9)], [.ref 121])) rfl ?_
      refine xe_sn pg_85 4 (fr' := (120, [(3, .ref 121), (0, .ref 0), (1, .int 0), (2, .int 9)], [.ref 121])) rfl ?_
      refine xe_sn pg_85 4 (fr' := (127, [(3, .ref 121), (0, .ref 0), (1, .int 0), (2, .int 9)], [.int 0, .ref 127])) rfl ?_
      refine xe_sn pg_85 2 (fr' := (131, [(3, .ref 121), (0, .ref 0), (1, .int 0), (2, .int 9)], [.int 0])) rfl ?_
      exact xe_end pg_85 rfl
    refine xe_sn pg_172 4 (fr' := (18, [(0, .ref 0), (1, .int 0), (2, .int 9), (3, .ref 189)], [.int 0])) rfl ?_
    exact xe_end pg_172 rfl
  refine And.intro ⟨rfl, rfl, rfl, rfl⟩ ?_
  apply And.intro
  · refine xe_sn pg_153 2 (fr' := (2, [(0, .ref 165), (1, .int 0), (2, .int 9)], [.int 0, .ref 165])) rfl ?_
    apply xe_callq pg_153 104 [.int 0] (.inl (some (.int 1))) (5, [(0, .ref 165), (1, .int 0), (2, .int 9)], [.int 1, .ref 165]) rfl (fun _ => rfl)
    · refine xe_sn pg_104 3 (fr' := (3, [(0, .int 0)], [.int 3, .int 0, .int 0])) rfl ?_
      apply xe_callq pg_104 103 [.int 0, .int 0, .int 3] (.inl (some (.int 1))) (6, [(0, .int 0)], [.int 1]) rfl (fun _ => rfl)
      · refine xe_sn pg_103 4 (fr' := (6, [(0, .int 0), (1, .int 0), (2, .int 3)], [.int 0])) rfl ?_
        refine xe_sn pg_103 4 (fr' := (15, [(0, .int 0), (1, .int 0), (2, .int 3)], [.int 1])) rfl ?_
        exact xe_end pg_103 rfl
      exact xe_end pg_104 rfl
    refine xe_sn pg_153 4 (fr' := (12, [(0, .ref 165), (1, .int 0), (2, .int 9)], [.int 11, .int 0, .int 9, .ref 165])) rfl ?_
    apply xe_callq pg_153 103 [.int 9, .int 0, .int 11] (.inl (some (.int 1))) (15, [(0, .ref 165), (1, .int 0), (2, .int 9)], [.int 1, .ref 165]) rfl (fun _ => rfl)
    · refine xe_sn pg_103 4 (fr' := (6, [(0, .int 9), (1, .int 0), (2, .int 11)], [.int 9])) rfl ?_
      refine xe_sn pg_103 4 (fr' := (15, [(0, .int 9), (1, .int 0), (2, .int 11)], [.int 1])) rfl ?_
      exact xe_end pg_103 rfl
    refine xe_sn pg_153 3 (fr' := (23, [(0, .ref 165), (1, .int 0), (2, .int 9)], [.int 1, .ref 165])) rfl ?_
    apply xe_callq pg_153 151 [.ref 165, .int 1] (.inl (some (.int 0))) (26, [(0, .ref 165), (1, .int 0), (2, .int 9)], [.int 0]) rfl (fun _ => rfl)
    · refine xe_sn pg_151 4 (fr' := (6, [(0, .ref 165), (1, .int 1)], [.int 0, .ref 165])) rfl ?_
      refine xe_sn pg_151 4 (fr' := (21, [(0, .ref 165), (1, .int 1)], [])) rfl ?_
      refine xe_sn pg_151 1 (fr' := (22, [(0, .ref 165), (1, .int 1)], [.int 0])) rfl ?_
      exact xe_end pg_151 rfl
    refine xe_sn pg_153 4 (fr' := (56, [(0, .ref 165), (1, .int 0), (2, .int 9)], [])) rfl ?_
    refine xe_sn pg_153 4 (fr' := (91, [(0, .ref 165), (1, .int 0), (2, .int 9)], [.int 9])) rfl ?_
    refine xe_sn pg_153 4 (fr' := (107, [(0, .ref 165), (1, .int 0), (2, .int 9)], [.int 9, .int 9])) rfl ?_
    refine xe_sn pg_153 4 (fr' := (131, [(0, .ref 165), (1, .int 0), (2, .int 9)], [.int 3, .ref 175])) rfl ?_
    refine xe_sn pg_153 4 (fr' := (135, [(0, .ref 165), (1, .int 0), (2, .int 9)], [.int 9, .ref 175])) rfl ?_
    refine xe_sn pg_153 3 (fr' := (139, [(0, .ref 165), (1, .int 0), (2, .int 9)], [.int 0])) rfl ?_
    exact xe_end pg_153 rfl
  · exact ⟨⟨rfl, rfl, rfl, rfl⟩, Nat.le_of_ble_eq_true rfl, Nat.le_of_ble_eq_true rfl, rfl, fun _ => rfl⟩

set_option maxRecDepth 100000 in
theorem lf_circuit_14 (xs : Nat → Int32) : op_ok xs 172 153 [.ref 0, .int 0, .int 10, .ref 189] [.ref 165, .int 0, .int 10] := by
  refine ⟨0, 0, ?_⟩
  apply Exists.intro
  apply Exists.intro
  apply And.intro
  · refine xe_sn pg_172 4 (fr' := (4, [(0, .ref 0), (1, .int 0), (2, .int 10), (3, .ref 189)], [.int 0, .ref 0, .int 0, .ref 189])) rfl ?_
    refine xe_sn pg_172 1 (fr' := (5, [(0, .ref 0), (1, .int 0), (2, .int 10), (3, .ref 189)], [.int 10, .int 0, .ref 0, .int 0, .ref 189])) rfl ?_
    apply xe_callq pg_172 85 [.ref 0, .int 0, .int 10] (.inl (some (.int 0))) (8, [(0, .ref 0), (1, .int 0), (2, .int 10), (3, .ref 189)], [.int 0, .int 0, .ref 189]) rfl (fun _ => rfl)
    · refine xe_sn pg_85 1 (fr' := (1, [(0, .ref 0), (1, .int 0), (2, .int 10)], [.int 0])) rfl ?_
      apply xe_callq pg_85 92 [.int 0] (.inl none) (4, [(0, .ref 0), (1, .int 0), (2, .int 10)], []) rfl (fun _ => rfl)
      · refine xe_sn pg_92 2 (fr' := (2, [(0, .int 0)], [.int 4, .int 0])) rfl ?_
        apply xe_callq pg_92 95 [.int 0, .int 4] (.inl none) (5, [(0, .int 0)], []) rfl (fun _ => rfl)
        · refine xe_sn pg_95 4 (fr' := (6, [(0, .int 0), (1, .int 4)], [.int 4, .int 0])) rfl ?_
          refine xe_sn pg_95 1 (fr' := (17, [(0, .int 0), (1, .int 4)], [])) rfl ?_
          exact xe_end pg_95 rfl
        exact xe_end pg_92 rfl
      refine xe_sn pg_85 2 (fr' := (7, [(0, .ref 0), (1, .int 0), (2, .int 10)], [.int 12, .int 10])) rfl ?_
      apply xe_callq pg_85 95 [.int 10, .int 12] (.inl none) (10, [(0, .ref 0), (1, .int 0), (2, .int 10)], []) rfl (fun _ => rfl)
      · refine xe_sn pg_95 4 (fr' := (6, [(0, .int 10), (1, .int 12)], [.int 12, .int 10])) rfl ?_
        refine xe_sn pg_95 1 (fr' := (17, [(0, .int 10), (1, .int 12)], [])) rfl ?_
        exact xe_end pg_95 rfl
      refine xe_sn pg_85 4 (fr' := (16, [(0, .ref 0), (1, .int 0), (2, .int 10)], [.ref 121])) rfl ?_
      refine xe_sn pg_85 4 (fr' := (120, [(3, .ref 121), (0, .ref 0), (1, .int 0), (2, .int 10)], [.ref 121])) rfl ?_
      refine xe_sn pg_85 4 (fr' := (127, [(3, .ref 121), (0, .ref 0), (1, .int 0), (2, .int 10)], [.int 1, .ref 127])) rfl ?_
      refine xe_sn pg_85 2 (fr' := (131, [(3, .ref 121), (0, .ref 0), (1, .int 0), (2, .int 10)], [.int 0])) rfl ?_
      exact xe_end pg_85 rfl
    refine xe_sn pg_172 4 (fr' := (18, [(0, .ref 0), (1, .int 0), (2, .int 10), (3, .ref 189)], [.int 0])) rfl ?_
    exact xe_end pg_172 rfl
  refine And.intro ⟨rfl, rfl, rfl, rfl⟩ ?_
  apply And.intro
  · refine xe_sn pg_153 2 (fr' := (2, [(0, .ref 165), (1, .int 0), (2, .int 10)], [.int 0, .ref 165])) rfl ?_
    apply xe_callq pg_153 104 [.int 0] (.inl (some (.int 1))) (5, [(0, .ref 165), (1, .int 0), (2, .int 10)], [.int 1, .ref 165]) rfl (fun _ => rfl)
    · refine xe_sn pg_104 3 (fr' := (3, [(0, .int 0)], [.int 3, .int 0, .int 0])) rfl ?_
      apply xe_callq pg_104 103 [.int 0, .int 0, .int 3] (.inl (some (.int 1))) (6, [(0, .int 0)], [.int 1]) rfl (fun _ => rfl)
      · refine xe_sn pg_103 4 (fr' := (6, [(0, .int 0), (1, .int 0), (2, .int 3)], [.int 0])) rfl ?_
        refine xe_sn pg_103 4 (fr' := (15, [(0, .int 0), (1, .int 0), (2, .int 3)], [.int 1])) rfl ?_
        exact xe_end pg_103 rfl
      exact xe_end pg_104 rfl
    refine xe_sn pg_153 4 (fr' := (12, [(0, .ref 165), (1, .int 0), (2, .int 10)], [.int 11, .int 0, .int 10, .ref 165])) rfl ?_
    apply xe_callq pg_153 103 [.int 10, .int 0, .int 11] (.inl (some (.int 1))) (15, [(0, .ref 165), (1, .int 0), (2, .int 10)], [.int 1, .ref 165]) rfl (fun _ => rfl)
    · refine xe_sn pg_103 4 (fr' := (6, [(0, .int 10), (1, .int 0), (2, .int 11)], [.int 10])) rfl ?_
      refine xe_sn pg_103 4 (fr' := (15, [(0, .int 10), (1, .int 0), (2, .int 11)], [.int 1])) rfl ?_
      exact xe_end pg_103 rfl
    refine xe_sn pg_153 3 (fr' := (23, [(0, .ref 165), (1, .int 0), (2, .int 10)], [.int 1, .ref 165])) rfl ?_
    apply xe_callq pg_153 151 [.ref 165, .int 1] (.inl (some (.int 0))) (26, [(0, .ref 165), (1, .int 0), (2, .int 10)], [.int 0]) rfl (fun _ => rfl)
    · refine xe_sn pg_151 4 (fr' := (6, [(0, .ref 165), (1, .int 1)], [.int 0, .ref 165])) rfl ?_
      refine xe_sn pg_151 4 (fr' := (21, [(0, .ref 165), (1, .int 1)], [])) rfl ?_
      refine xe_sn pg_151 1 (fr' := (22, [(0, .ref 165), (1, .int 1)], [.int 0])) rfl ?_
      exact xe_end pg_151 rfl
    refine xe_sn pg_153 4 (fr' := (56, [(0, .ref 165), (1, .int 0), (2, .int 10)], [])) rfl ?_
    refine xe_sn pg_153 4 (fr' := (91, [(0, .ref 165), (1, .int 0), (2, .int 10)], [.int 10])) rfl ?_
    refine xe_sn pg_153 4 (fr' := (107, [(0, .ref 165), (1, .int 0), (2, .int 10)], [.int 9, .int 10])) rfl ?_
    refine xe_sn pg_153 4 (fr' := (131, [(0, .ref 165), (1, .int 0), (2, .int 10)], [.int 3, .ref 175])) rfl ?_
    refine xe_sn pg_153 4 (fr' := (135, [(0, .ref 165), (1, .int 0), (2, .int 10)], [.int 10, .ref 175])) rfl ?_
    refine xe_sn pg_153 3 (fr' := (139, [(0, .ref 165), (1, .int 0), (2, .int 10)], [.int 0])) rfl ?_
    exact xe_end pg_153 rfl
  · exact ⟨⟨rfl, rfl, rfl, rfl⟩, Nat.le_of_ble_eq_true rfl, Nat.le_of_ble_eq_true rfl, rfl, fun _ => rfl⟩

set_option maxRecDepth 100000 in
theorem lf_circuit_15 (xs : Nat → Int32) : op_ok xs 172 153 [.ref 0, .int 0, .int 11, .ref 189] [.ref 165, .int 0, .int 11] := by
  refine ⟨0, 0, ?_⟩
  apply Exists.intro
  apply Exists.intro
  apply And.intro
  · refine xe_sn pg_172 4 (fr' := (4, [(0, .ref 0), (1, .int 0), (2, .int 11), (3, .ref 189)], [.int 0, .ref 0, .int 0, .ref 189])) rfl ?_
    refine xe_sn pg_172 1 (fr' := (5, [(0, .ref 0), (1, .int 0), (2, .int 11), (3, .ref 189)], [.int 11, .int 0, .ref 0, .int 0, .ref 189])) rfl ?_
    apply xe_callq pg_172 85 [.ref 0, .int 0, .int 11] (.inl (some (.int 0))) (8, [(0, .ref 0), (1, .int 0), (2, .int 11), (3, .ref 189)], [.int 0, .int 0, .ref 189]) rfl (fun _ => rfl)
    · refine xe_sn pg_85 1 (fr' := (1, [(0, .ref 0), (1, .int 0), (2, .int 11)], [.int 0])) rfl ?_
      apply xe_callq pg_85 92 [.int 0] (.inl none) (4, [(0, .ref 0), (1, .int 0), (2, .int 11)], []) rfl (fun _ => rfl)
      · refine xe_sn pg_92 2 (fr' := (2, [(0, .int 0)], [.int 4, .int 0])) rfl ?_
        apply xe_callq pg_92 95 [.int 0, .int 4] (.inl none) (5, [(0, .int 0)], []) rfl (fun _ => rfl)
        · refine xe_sn pg_95 4 (fr' := (6, [(0, .int 0), (1, .int 4)], [.int 4, .int 0])) rfl ?_
          refine xe_sn pg_95 1 (fr' := (17, [(0, .int 0), (1, .int 4)], [])) rfl ?_
          exact xe_end pg_95 rfl
        exact xe_end pg_92 rfl
      refine xe_sn pg_85 2 (fr' := (7, [(0, .ref 0), (1, .int 0), (2, .int 11)], [.int 12, .int 11])) rfl ?_
      apply xe_callq pg_85 95 [.int 11, .int 12] (.inl none) (10, [(0, .ref 0), (1, .int 0), (2, .int 11)], []) rfl (fun _ => rfl)
      · refine xe_sn pg_95 4 (fr' := (6, [(0, .int 11), (1, .int 12)], [.int 12, .int 11])) rfl ?_
        refine xe_sn pg_95 1 (fr' := (17, [(0, .int 11), (1, .int 12)], [])) rfl ?_
        exact xe_end pg_95 rfl
      refine xe_sn pg_85 4 (fr' := (16, [(0, .ref 0), (1, .int 0), (2, .int 11)], [.ref 121])) rfl ?_
      refine xe_sn pg_85 4 (fr' := (120, [(3, .ref 121), (0, .ref 0), (1, .int 0), (2, .int 11)], [.ref 121])) rfl ?_
      refine xe_sn pg_85 4 (fr' := (127, [(3, .ref 121), (0, .ref 0), (1, .int 0), (2, .int 11)], [.int 2, .ref 127])) rfl ?_
      refine xe_sn pg_85 2 (fr' := (131, [(3, .ref 121), (0, .ref 0), (1, .int 0), (2, .int 11)], [.int 0])) rfl ?_
      exact xe_end pg_85 rfl
    refine xe_sn pg_172 4 (fr' := (18, [(0, .ref 0), (1, .int 0), (2, .int 11), (3, .ref 189)], [.int 0])) rfl ?_
    exact xe_end pg_172 rfl
  refine And.intro ⟨rfl, rfl, rfl, rfl⟩ ?_
  apply And.intro
  · refine xe_sn pg_153 2 (fr' := (2, [(0, .ref 165), (1, .int 0), (2, .int 11)], [.int 0, .ref 165])) rfl ?_
    apply xe_callq pg_153 104 [.int 0] (.inl (some (.int 1))) (5, [(0, .ref 165), (1, .int 0), (2, .int 11)], [.int 1, .ref 165]) rfl (fun _ => rfl)
    · refine xe_sn pg_104 3 (fr' := (3, [(0, .int 0)], [.int 3, .int 0, .int 0])) rfl ?_
      apply xe_callq pg_104 103 [.int 0, .int 0, .int 3] (.inl (some (.int 1))) (6, [(0, .int 0)], [.int 1]) rfl (fun _ => rfl)
      · refine xe_sn pg_103 4 (fr' := (6, [(0, .int 0), (1, .int 0), (2, .int 3)], [.int 0])) rfl ?_
        refine xe_sn pg_103 4 (fr' := (15, [(0, .int 0), (1, .int 0), (2, .int 3)], [.int 1])) rfl ?_
        exact xe_end pg_103 rfl
      exact xe_end pg_104 rfl
    refine xe_sn pg_153 4 (fr' := (12, [(0, .ref 165), (1, .int 0), (2, .int 11)], [.int 11, .int 0, .int 11, .ref 165])) rfl ?_
    apply xe_callq pg_153 103 [.int 11, .int 0, .int 11] (.inl (some (.int 1))) (15, [(0, .ref 165), (1, .int 0), (2, .int 11)], [.int 1, .ref 165]) rfl (fun _ => rfl)
    · refine xe_sn pg_103 4 (fr' := (6, [(0, .int 11), (1, .int 0), (2, .int 11)], [.int 11])) rfl ?_
      refine xe_sn pg_103 4 (fr' := (15, [(0, .int 11), (1, .int 0), (2, .int 11)], [.int 1])) rfl ?_
      exact xe_end pg_103 rfl
    refine xe_sn pg_153 3 (fr' := (23, [(0, .ref 165), (1, .int 0), (2, .int 11)], [.int 1, .ref 165])) rfl ?_
    apply xe_callq pg_153 151 [.ref 165, .int 1] (.inl (some (.int 0))) (26, [(0, .ref 165), (1, .int 0), (2, .int 11)], [.int 0]) rfl (fun _ => rfl)
    · refine xe_sn pg_151 4 (fr' := (6, [(0, .ref 165), (1, .int 1)], [.int 0, .ref 165])) rfl ?_
      refine xe_sn pg_151 4 (fr' := (21, [(0, .ref 165), (1, .int 1)], [])) rfl ?_
      refine xe_sn pg_151 1 (fr' := (22, [(0, .ref 165), (1, .int 1)], [.int 0])) rfl ?_
      exact xe_end pg_151 rfl
    refine xe_sn pg_153 4 (fr' := (56, [(0, .ref 165), (1, .int 0), (2, .int 11)], [])) rfl ?_
    refine xe_sn pg_153 4 (fr' := (91, [(0, .ref 165), (1, .int 0), (2, .int 11)], [.int 11])) rfl ?_
    refine xe_sn pg_153 4 (fr' := (107, [(0, .ref 165), (1, .int 0), (2, .int 11)], [.int 9, .int 11])) rfl ?_
    refine xe_sn pg_153 4 (fr' := (131, [(0, .ref 165), (1, .int 0), (2, .int 11)], [.int 3, .ref 175])) rfl ?_
    refine xe_sn pg_153 4 (fr' := (135, [(0, .ref 165), (1, .int 0), (2, .int 11)], [.int 11, .ref 175])) rfl ?_
    refine xe_sn pg_153 3 (fr' := (139, [(0, .ref 165), (1, .int 0), (2, .int 11)], [.int 0])) rfl ?_
    exact xe_end pg_153 rfl
  · exact ⟨⟨rfl, rfl, rfl, rfl⟩, Nat.le_of_ble_eq_true rfl, Nat.le_of_ble_eq_true rfl, rfl, fun _ => rfl⟩

set_option maxRecDepth 100000 in
theorem lf_circuit_16 (xs : Nat → Int32) (p1 : Int32) (a1 : p1.toInt < 0) : op_ok xs 172 153 [.ref 0, .int 1, .int p1, .ref 189] [.ref 165, .int 1, .int p1] := by
  refine ⟨1, 0, ?_⟩
  apply Exists.intro
  apply Exists.intro
  apply And.intro
  · refine xe_sn pg_172 4 (fr' := (4, [(0, .ref 0), (1, .int 1), (2, .int p1), (3, .ref 189)], [.int 1, .ref 0, .int 0, .ref 189])) rfl ?_
    refine xe_sn pg_172 1 (fr' := (5, [(0, .ref 0), (1, .int 1), (2, .int p1), (3, .ref 189)], [.int p1, .int 1, .ref 0, .int 0, .ref 189])) rfl ?_
    apply xe_callq pg_172 85 [.ref 0, .int 1, .int p1] (.inr 0) (15, [(0, .ref 0), (1, .int 1), (2, .int p1), (3, .ref 189)], []) rfl (fun _ => rfl)
    · refine xe_sn pg_85 1 (fr' := (1, [(0, .ref 0), (1, .int 1), (2, .int p1)], [.int 1])) rfl ?_
      apply xe_callq pg_85 92 [.int 1] (.inl none) (4, [(0, .ref 0), (1, .int 1), (2, .int p1)], []) rfl (fun _ => rfl)
      · refine xe_sn pg_92 2 (fr' := (2, [(0, .int 1)], [.int 4, .int 1])) rfl ?_
        apply xe_callq pg_92 95 [.int 1, .int 4] (.inl none) (5, [(0, .int 1)], []) rfl (fun _ => rfl)
        · refine xe_sn pg_95 4 (fr' := (6, [(0, .int 1), (1, .int 4)], [.int 4, .int 1])) rfl ?_
          refine xe_sn pg_95 1 (fr' := (17, [(0, .int 1), (1, .int 4)], [])) rfl ?_
          exact xe_end pg_95 rfl
        exact xe_end pg_92 rfl
      refine xe_sn pg_85 2 (fr' := (7, [(0, .ref 0), (1, .int 1), (2, .int p1)], [.int 12, .int p1])) rfl ?_
      apply xe_callqx pg_85 95 [.int p1, .int 12] 0 rfl (fun _ => rfl)
      · refine xe_sn pg_95 1 (fr' := (1, [(0, .int p1), (1, .int 12)], [.int p1])) rfl ?_
        refine xe_t1 pg_95 9 rfl rfl (by show (p1).toInt < 0; omega) ?_
        exact xe_end pg_95 rfl
    refine xe_sn pg_172 1 (fr' := (16, [(0, .ref 0), (1, .int 1), (2, .int p1), (3, .ref 189)], [.int 1])) rfl ?_
    exact xe_end pg_172 rfl
  refine And.intro ⟨rfl, rfl, rfl, rfl⟩ ?_
  apply And.intro
  · refine xe_sn pg_153 2 (fr' := (2, [(0, .ref 165), (1, .int 1), (2, .int p1)], [.int 1, .ref 165])) rfl ?_
    apply xe_callq pg_153 104 [.int 1] (.inl (some (.int 1))) (5, [(0, .ref 165), (1, .int 1), (2, .int p1)], [.int 1, .ref 165]) rfl (fun _ => rfl)
    · refine xe_sn pg_104 3 (fr' := (3, [(0, .int 1)], [.int 3, .int 0, .int 1])) rfl ?_
      apply xe_callq pg_104 103 [.int 1, .int 0, .int 3] (.inl (some (.int 1))) (6, [(0, .int 1)], [.int 1]) rfl (fun _ => rfl)
      · refine xe_sn pg_103 4 (fr' := (6, [(0, .int 1), (1, .int 0), (2, .int 3)], [.int 1])) rfl ?_
        refine xe_sn pg_103 4 (fr' := (15, [(0, .int 1), (1, .int 0), (2, .int 3)], [.int 1])) rfl ?_
        exact xe_end pg_103 rfl
      exact xe_end pg_104 rfl
    refine xe_sn pg_153 4 (fr' := (12, [(0, .ref 165), (1, .int 1), (2, .int p1)], [.int 11, .int 0, .int p1, .ref 165])) rfl ?_
    apply xe_callq pg_153 103 [.int p1, .int 0, .int 11] (.inl (some (.int 0))) (15, [(0, .ref 165), (1, .int 1), (2, .int p1)], [.int 0, .ref 165]) rfl (fun _ => rfl)
    · refine xe_sn pg_103 2 (fr' := (2, [(0, .int p1), (1, .int 0), (2, .int 11)], [.int 0, .int p1])) rfl ?_
      refine xe_t2 pg_103 14 rfl rfl (by show (p1).toInt < 0; omega) ?_
      refine xe_sn pg_103 1 (fr' := (15, [(0, .int p1), (1, .int 0), (2, .int 11)], [.int 0])) rfl ?_
      exact xe_end pg_103 rfl
    refine xe_sn pg_153 2 (fr' := (23, [(0, .ref 165), (1, .int 1), (2, .int p1)], [.int 0, .ref 165])) rfl ?_
    apply xe_callq pg_153 151 [.ref 165, .int 0] (.inl (some (.int 1))) (26, [(0, .ref 165), (1, .int 1), (2, .int p1)], [.int 1]) rfl (fun _ => rfl)
    · refine xe_sn pg_151 4 (fr' := (10, [(0, .ref 165), (1, .int 0)], [.int 1, .ref 165])) rfl ?_
      refine xe_sn pg_151 4 (fr' := (18, [(0, .ref 165), (1, .int 0)], [.int 1])) rfl ?_
      refine xe_sn pg_151 1 (fr' := (22, [(0, .ref 165), (1, .int 0)], [.int 1])) rfl ?_
      exact xe_end pg_151 rfl
    refine xe_sn pg_153 2 (fr' := (30, [(0, .ref 165), (1, .int 1), (2, .int p1)], [.int 0])) rfl ?_
    exact xe_end pg_153 rfl
  · exact ⟨⟨rfl, rfl, rfl, rfl⟩, Nat.le_of_ble_eq_true rfl, Nat.le_of_ble_eq_true rfl, rfl, fun q => absurd q (by decide)⟩

set_option maxRecDepth 100000 in
theorem lf_circuit_17 (xs : Nat → Int32) (p1 : Int32) (b1 : 11 < p1.toInt) : op_ok xs 172 153 [.ref 0, .int 1, .int p1, .ref 189] [.ref 165, .int 1, .int p1] := by
  refine ⟨1, 0, ?_⟩
  apply Exists.intro
  apply Exists.intro
  apply And.intro
  · refine xe_sn pg_172 4 (fr' := (4, [(0, .ref 0), (1, .int 1), (2, .int p1), (3, .ref 189)], [.int 1, .ref 0, .int 0, .ref 189])) rfl ?_
    refine xe_sn pg_172 1 (fr' := (5, [(0, .ref 0), (1, .int 1), (2, .int p1), (3, .ref 189)], [.int p1, .int 1, .ref 0, .int 0, .ref 189])) rfl ?_
    apply xe_callq pg_172 85 [.ref 0, .int 1, .int p1] (.inr 0) (15, [(0, .ref 0), (1, .int 1), (2, .int p1), (3, .ref 189)], []) rfl (fun _ => rfl)
    · refine xe_sn pg_85 1 (fr' := (1, [(0, .ref 0), (1, .int 1), (2, .int p1)], [.int 1])) rfl ?_
      apply xe_callq pg_85 92 [.int 1] (.inl none) (4, [(0, .ref 0), (1, .int 1), (2, .int p1)], []) rfl (fun _ => rfl)
      · refine xe_sn pg_92 2 (fr' := (2, [(0, .int 1)], [.int 4, .int 1])) rfl ?_
        apply xe_callq pg_92 95 [.int 1, .int 4] (.inl none) (5, [(0, .int 1)], []) rfl (fun _ => rfl)
        · refine xe_sn pg_95 4 (fr' := (6, [(0, .int 1), (1, .int 4)], [.int 4, .int 1])) rfl ?_
          refine xe_sn pg_95 1 (fr' := (17, [(0, .int 1), (1, .int 4)], [])) rfl ?_
          exact xe_end pg_95 rfl
        exact xe_end pg_92 rfl
      refine xe_sn pg_85 2 (fr' := (7, [(0, .ref 0), (1, .int 1), (2, .int p1)], [.int 12, .int p1])) rfl ?_
      apply xe_callqx pg_85 95 [.int p1, .int 12] 0 rfl (fun _ => rfl)
      · refine xe_sn pg_95 1 (fr' := (1, [(0, .int p1), (1, .int 12)], [.int p1])) rfl ?_
        refine xe_f1 pg_95 9 rfl rfl (by show ¬ ((p1).toInt < 0); omega) ?_
        refine xe_sn pg_95 2 (fr' := (6, [(0, .int p1), (1, .int 12)], [.int 12, .int p1])) rfl ?_
        refine xe_f2 pg_95 17 rfl rfl (by show ¬ ((p1).toInt < 12); omega) ?_
        exact xe_end pg_95 rfl
    refine xe_sn pg_172 1 (fr' := (16, [(0, .ref 0), (1, .int 1), (2, .int p1), (3, .ref 189)], [.int 1])) rfl ?_
    exact xe_end pg_172 rfl
  refine And.intro ⟨rfl, rfl, rfl, rfl⟩ ?_
  apply And.intro
  · refine xe_sn pg_153 2 (fr' := (2, [(0, .ref 165), (1, .int 1), (2, .int p1)], [.int 1, .ref 165])) rfl ?_
    apply xe_callq pg_153 104 [.int 1] (.inl (some (.int 1))) (5, [(0, .ref 165), (1, .int 1), (2, .int p1)], [.int 1, .ref 165]) rfl (fun _ => rfl)
    · refine xe_sn pg_104 3 (fr' := (3, [(0, .int 1)], [.int 3, .int 0, .int 1])) rfl ?_
      apply xe_callq pg_104 103 [.int 1, .int 0, .int 3] (.inl (some (.int 1))) (6, [(0, .int 1)], [.int 1]) rfl (fun _ => rfl)
      · refine xe_sn pg_103 4 (fr' := (6, [(0, .int 1), (1, .int 0), (2, .int 3)], [.int 1])) rfl ?_
        refine xe_sn pg_103 4 (fr' := (15, [(0, .int 1), (1, .int 0), (2, .int 3)], [.int 1])) rfl ?_
        exact xe_end pg_103 rfl
      exact xe_end pg_104 rfl
    refine xe_sn pg_153 4 (fr' := (12, [(0, .ref 165), (1, .int 1), (2, .int p1)], [.int 11, .int 0, .int p1, .ref 165])) rfl ?_
    apply xe_callq pg_153 103 [.int p1, .int 0, .int 11] (.inl (some (.int 0))) (15, [(0, .ref 165), (1, .int 1), (2, .int p1)], [.int 0, .ref 165]) rfl (fun _ => rfl)
    · refine xe_sn pg_103 2 (fr' := (2, [(0, .int p1), (1, .int 0), (2, .int 11)], [.int 0, .int p1])) rfl ?_
      refine xe_f2 pg_103 14 rfl rfl (by show ¬ ((p1).toInt < 0); omega) ?_
      refine xe_sn pg_103 2 (fr' := (7, [(0, .int p1), (1, .int 0), (2, .int 11)], [.int 11, .int p1])) rfl ?_
      refine xe_t2 pg_103 14 rfl rfl (by show 11 < (p1).toInt; omega) ?_
      refine xe_sn pg_103 1 (fr' := (15, [(0, .int p1), (1, .int 0), (2, .int 11)], [.int 0])) rfl ?_
      exact xe_end pg_103 rfl
    refine xe_sn pg_153 2 (fr' := (23, [(0, .ref 165), (1, .int 1), (2, .int p1)], [.int 0, .ref 165])) rfl ?_
    apply xe_callq pg_153 151 [.ref 165, .int 0] (.inl (some (.int 1))) (26, [(0, .ref 165), (1, .int 1), (2, .int p1)], [.int 1]) rfl (fun _ => rfl)
    · refine xe_sn pg_151 4 (fr' := (10, [(0, .ref 165), (1, .int 0)], [.int 1, .ref 165])) rfl ?_
      refine xe_sn pg_151 4 (fr' := (18, [(0, .ref 165), (1, .int 0)], [.int 1])) rfl ?_
      refine xe_sn pg_151 1 (fr' := (22, [(0, .ref 165), (1, .int 0)], [.int 1])) rfl ?_
      exact xe_end pg_151 rfl
    refine xe_sn pg_153 2 (fr' := (30, [(0, .ref 165), (1, .int 1), (2, .int p1)], [.int 0])) rfl ?_
    exact xe_end pg_153 rfl
  · exact ⟨⟨rfl, rfl, rfl, rfl⟩, Nat.le_of_ble_eq_true rfl, Nat.le_of_ble_eq_true rfl, rfl, fun q => absurd q (by decide)⟩

set_option maxRecDepth 100000 in
theorem lf_circuit_18 (xs : Nat → Int32) : op_ok xs 172 153 [.ref 0, .int 1, .int 0, .ref 189] [.ref 165, .int 1, .int 0] := by
  refine ⟨0, 0, ?_⟩
  apply Exists.intro
  apply Exists.intro
  apply And.intro
  · refine xe_sn pg_172 4 (fr' := (4, [(0, .ref 0), (1, .int 1), (2, .int 0), (3, .ref 189)], [.int 1, .ref 0, .int 0, .ref 189])) rfl ?_
    refine xe_sn pg_172 1 (fr' := (5, [(0, .ref 0), (1, .int 1), (2, .int 0), (3, .ref 189)], [.int 0, .int 1, .ref 0, .int 0, .ref 189])) rfl ?_
    apply xe_callq pg_172 85 [.ref 0, .int 1, .int 0] (.inl (some (.int 0))) (8, [(0, .ref 0), (1, .int 1), (2, .int 0), (3, .ref 189)], [.int 0, .int 0, .ref 189]) rfl (fun _ => rfl)
    · refine xe_sn pg_85 1 (fr' := (1, [(0, .ref 0), (1, .int 1), (2, .int 0)], [.int 1])) rfl ?_
      apply xe_callq pg_85 92 [.int 1] (.inl none) (4, [(0, .ref 0), (1, .int 1), (2, .int 0)], []) rfl (fun _ => rfl)
      · refine xe_sn pg_92 2 (fr' := (2, [(0, .int 1)], [.int 4, .int 1])) rfl ?_
        apply xe_callq pg_92 95 [.int 1, .int 4] (.inl none) (5, [(0, .int 1)], []) rfl (fun _ => rfl)
        · refine xe_sn pg_95 4 (fr' := (6, [(0, .int 1), (1, .int 4)], [.int 4, .int 1])) rfl ?_
          refine xe_sn pg_95 1 (fr' := (17, [(0, .int 1), (1, .int 4)], [])) rfl ?_
          exact xe_end pg_95 rfl
        exact xe_end pg_92 rfl
      refine xe_sn pg_85 2 (fr' := (7, [(0, .ref 0), (1, .int 1), (2, .int 0)], [.int 12, .int 0])) rfl ?_
      apply xe_callq pg_85 95 [.int 0, .int 12] (.inl none) (10, [(0, .ref 0), (1, .int 1), (2, .int 0)], []) rfl (fun _ => rfl)
      · refine xe_sn pg_95 4 (fr' := (6, [(0, .int 0), (1, .int 12)], [.int 12, .int 0])) rfl ?_
        refine xe_sn pg_95 1 (fr' := (17, [(0, .int 0), (1, .int 12)], [])) rfl ?_
        exact xe_end pg_95 rfl
      refine xe_sn pg_85 4 (fr' := (16, [(0, .ref 0), (1, .int 1), (2, .int 0)], [.ref 132])) rfl ?_
      refine xe_sn pg_85 4 (fr' := (69, [(3, .ref 132), (0, .ref 0), (1, .int 1), (2, .int 0)], [.ref 132])) rfl ?_
      refine xe_sn pg_85 1 (fr' := (72, [(3, .ref 132), (0, .ref 0), (1, .int 1), (2, .int 0)], [.int 0])) rfl ?_
      exact xe_end pg_85 rfl
    refine xe_sn pg_172 4 (fr' := (18, [(0, .ref 0), (1, .int 1), (2, .int 0), (3, .ref 189)], [.int 0])) rfl ?_
    exact xe_end pg_172 rfl
  refine And.intro ⟨rfl, rfl, rfl, rfl⟩ ?_
  apply And.intro
  · refine xe_sn pg_153 2 (fr' := (2, [(0, .ref 165), (1, .int 1), (2, .int 0)], [.int 1, .ref 165])) rfl ?_
    apply xe_callq pg_153 104 [.int 1] (.inl (some (.int 1))) (5, [(0, .ref 165), (1, .int 1), (2, .int 0)], [.int 1, .ref 165]) rfl (fun _ => rfl)
    · refine xe_sn pg_104 3 (fr' := (3, [(0, .int 1)], [.int 3, .int 0, .int 1])) rfl ?_
      apply xe_callq pg_104 103 [.int 1, .int 0, .int 3] (.inl (some (.int 1))) (6, [(0, .int 1)], [.int 1]) rfl (fun _ => rfl)
      · refine xe_sn pg_103 4 (fr' := (6, [(0, .int 1), (1, .int 0), (2, .int 3)], [.int 1])) rfl ?_
        refine xe_sn pg_103 4 (fr' := (15, [(0, .int 1), (1, .int 0), (2, .int 3)], [.int 1])) rfl ?_
        exact xe_end pg_103 rfl
      exact xe_end pg_104 rfl
    refine xe_sn pg_153 4 (fr' := (12, [(0, .ref 165), (1, .int 1), (2, .int 0)], [.int 11, .int 0, .int 0, .ref 165])) rfl ?_
    apply xe_callq pg_153 103 [.int 0, .int 0, .int 11] (.inl (some (.int 1))) (15, [(0, .ref 165), (1, .int 1), (2, .int 0)], [.int 1, .ref 165]) rfl (fun _ => rfl)
    · refine xe_sn pg_103 4 (fr' := (6, [(0, .int 0), (1, .int 0), (2, .int 11)], [.int 0])) rfl ?_
      refine xe_sn pg_103 4 (fr' := (15, [(0, .int 0), (1, .int 0), (2, .int 11)], [.int 1])) rfl ?_
      exact xe_end pg_103 rfl
    refine xe_sn pg_153 3 (fr' := (23, [(0, .ref 165), (1, .int 1), (2, .int 0)], [.int 1, .ref 165])) rfl ?_
    apply xe_callq pg_153 151 [.ref 165, .int 1] (.inl (some (.int 0))) (26, [(0, .ref 165), (1, .int 1), (2, .int 0)], [.int 0]) rfl (fun _ => rfl)
    · refine xe_sn pg_151 4 (fr' := (6, [(0, .ref 165), (1, .int 1)], [.int 0, .ref 165])) rfl ?_
      refine xe_sn pg_151 4 (fr' := (21, [(0, .ref 165), (1, .int 1)], [])) rfl ?_
      refine xe_sn pg_151 1 (fr' := (22, [(0, .ref 165), (1, .int 1)], [.int 0])) rfl ?_
      exact xe_end pg_151 rfl
    refine xe_sn pg_153 4 (fr' := (36, [(0, .ref 165), (1, .int 1), (2, .int 0)], [])) rfl ?_
    refine xe_sn pg_153 4 (fr' := (44, [(0, .ref 165), (1, .int 1), (2, .int 0)], [.ref 167])) rfl ?_
    refine xe_sn pg_153 3 (fr' := (55, [(0, .ref 165), (1, .int 1), (2, .int 0)], [.int 0])) rfl ?_
    exact xe_end pg_153 rfl
  · exact ⟨⟨rfl, rfl, rfl, rfl⟩, Nat.le_of_ble_eq_true rfl, Nat.le_of_ble_eq_true rfl, rfl, fun _ => rfl⟩

set_option maxRecDepth 100000 in
theorem lf_circuit_19 (xs : Nat → Int32) : op_ok xs 172 153 [.ref 0, .int 1, .int 1, .ref 189] [.ref 165, .int 1, .int 1] := by
  refine ⟨0, 0, ?_⟩
  apply Exists.intro
  apply Exists.intro
  apply And.intro
  · refine xe_sn pg_172 4 (fr' := (4, [(0, .ref 0), (1, .int 1), (2, .int 1), (3, .ref 189)], [.int 1, .ref 0, .int 0, .ref 189])) rfl ?_
    refine xe_sn pg_172 1 (fr' := (5, [(0, .ref 0), (1, .int 1), (2, .int 1), (3, .ref 189)], [.int 1, .int 1, .ref 0, .int 0, .ref 189])) rfl ?_
    apply xe_callq pg_172 85 [.ref 0, .int 1, .int 1] (.inl (some (.int 0))) (8, [(0, .ref 0), (1, .int 1), (2, .int 1), (3, .ref 189)], [.int 0, .int 0, .ref 189]) rfl (fun _ => rfl)
    · refine xe_sn pg_85 1 (fr' := (1, [(0, .ref 0), (1, .int 1), (2, .int 1)], [.int 1])) rfl ?_
      apply xe_callq pg_85 92 [.int 1] (.inl none) (4, [(0, .ref 0), (1, .int 1), (2, .int 1)], []) rfl (fun _ => rfl)
      · refine xe_sn pg_92 2 (fr' := (2, [(0, .int 1)], [.int 4, .int 1])) rfl ?_
        apply xe_callq pg_92 95 [.int 1, .int 4] (.inl none) (5, [(0, .int 1)], []) rfl (fun _ => rfl)
        · refine xe_sn pg_95 4 (fr' := (6, [(0, .int 1), (1, .int 4)], [.int 4, .int 1])) rfl ?_
          refine xe_sn pg_95 1 (fr' := (17, [(0, .int 1), (1, .int 4)], [])) rfl ?_
          exact xe_end pg_95 rfl
        exact xe_end pg_92 rfl
      refine xe_sn pg_85 2 (fr' := (7, [(0, .ref 0), (1, .int 1), (2, .int 1)], [.int 12, .int 1])) rfl ?_
      apply xe_callq pg_85 95 [.int 1, .int 12] (.inl none) (10, [(0, .ref 0), (1, .int 1), (2, .int 1)], []) rfl (fun _ => rfl)
      · refine xe_sn pg_95 4 (fr' := (6, [(0, .int 1), (1, .int 12)], [.int 12, .int 1])) rfl ?_
        refine xe_sn pg_95 1 (fr' := (17, [(0, .int 1), (1, .int 12)], [])) rfl ?_
        exact xe_end pg_95 rfl
      refine xe_sn pg_85 4 (fr' := (16, [(0, .ref 0), (1, .int 1), (2, .int 1)], [.ref 132])) rfl ?_
      refine xe_sn pg_85 4 (fr' := (74, [(3, .ref 132), (0, .ref 0), (1, .int 1), (2, .int 1)], [.ref 132])) rfl ?_
      refine xe_sn pg_85 1 (fr' := (77, [(3, .ref 132), (0, .ref 0), (1, .int 1), (2, .int 1)], [.int 0])) rfl ?_
      exact xe_end pg_85 rfl
    refine xe_sn pg_172 4 (fr' := (18, [(0, .ref 0), (1, .int 1), (2, .int 1), (3, .ref 189)], [.int 0])) rfl ?_
    exact xe_end pg_172 rfl
  refine And.intro ⟨rfl, rfl, rfl, rfl⟩ ?_
  apply And.intro
  · refine xe_sn pg_153 2 (fr' := (2, [(0, .ref 165), (1, .int 1), (2, .int 1)], [.int 1, .ref 165])) rfl ?_
    apply xe_callq pg_153 104 [.int 1] (.inl (some (.int 1))) (5, [(0, .ref 165), (1, .int 1), (2, .int 1)], [.int 1, .ref 165]) rfl (fun _ => rfl)
    · refine xe_sn pg_104 3 (fr' := (3, [(0, .int 1)], [.int 3, .int 0, .int 1])) rfl ?_
      apply xe_callq pg_104 103 [.int 1, .int 0, .int 3] (.inl (some (.int 1))) (6, [(0, .int 1)], [.int 1]) rfl (fun _ => rfl)
      · refine xe_sn pg_103 4 (fr' := (6, [(0, .int 1), (1, .int 0), (2, .int 3)], [.int 1])) rfl ?_
        refine xe_sn pg_103 4 (fr' := (15, [(0, .int 1), (1, .int 0), (2, .int 3)], [.int 1])) rfl ?_
        exact xe_end pg_103 rfl
      exact xe_end pg_104 rfl
    refine xe_sn pg_153 4 (fr' := (12, [(0, .ref 165), (1, .int 1), (2, .int 1)], [.int 11, .int 0, .int 1, .ref 165])) rfl ?_
    apply xe_callq pg_153 103 [.int 1, .int 0, .int 11] (.inl (some (.int 1))) (15, [(0, .ref 165), (1, .int 1), (2, .int 1)], [.int 1, .ref 165]) rfl (fun _ => rfl)
    · refine xe_sn pg_103 4 (fr' := (6, [(0, .int 1), (1, .int 0), (2, .int 11)], [.int 1])) rfl ?_
      refine xe_sn pg_103 4 (fr' := (15, [(0, .int 1), (1, .int 0), (2, .int 11)], [.int 1])) rfl ?_
      exact xe_end pg_103 rfl
    refine xe_sn pg_153 3 (fr' := (23, [(0, .ref 165), (1, .int 1), (2, .int 1)], [.int 1, .ref 165])) rfl ?_
    apply xe_callq pg_153 151 [.ref 165, .int 1] (.inl (some (.int 0))) (26, [(0, .ref 165), (1, .int 1), (2, .int 1)], [.int 0]) rfl (fun _ => rfl)
    · refine xe_sn pg_151 4 (fr' := (6, [(0, .ref 165), (1, .int 1)], [.int 0, .ref 165])) rfl ?_
      refine xe_sn pg_151 4 (fr' := (21, [(0, .ref 165), (1, .int 1)], [])) rfl ?_
      refine xe_sn pg_151 1 (fr' := (22, [(0, .ref 165), (1, .int 1)], [.int 0])) rfl ?_
      exact xe_end pg_151 rfl
    refine xe_sn pg_153 4 (fr' := (36, [(0, .ref 165), (1, .int 1), (2, .int 1)], [])) rfl ?_
    refine xe_sn pg_153 4 (fr' := (53, [(0, .ref 165), (1, .int 1), (2, .int 1)], [.ref 168])) rfl ?_
    refine xe_sn pg_153 2 (fr' := (55, [(0, .ref 165), (1, .int 1), (2, .int 1)], [.int 0])) rfl ?_
    exact xe_end pg_153 rfl
  · exact ⟨⟨rfl, rfl, rfl, rfl⟩, Nat.le_of_ble_eq_true rfl, Nat.le_of_ble_eq_true rfl, rfl, fun _ => rfl⟩

set_option maxRecDepth 100000 in
theorem lf_circuit_20 (xs : Nat → Int32) : op_ok xs 172 153 [.ref 0, .int 1, .int 2, .ref 189] [.ref 165, .int 1, .int 2] := by
  refine ⟨0, (-1), ?_⟩
  apply Exists.intro
  apply Exists.intro
  apply And.intro
  · refine xe_sn pg_172 4 (fr' := (4, [(0, .ref 0), (1, .int 1), (2, .int 2), (3, .ref 189)], [.int 1, .ref 0, .int 0, .ref 189])) rfl ?_
    refine xe_sn pg_172 1 (fr' := (5, [(0, .ref 0), (1, .int 1), (2, .int 2), (3, .ref 189)], [.int 2, .int 1, .ref 0, .int 0, .ref 189])) rfl ?_
    apply xe_callq pg_172 85 [.ref 0, .int 1, .int 2] (.inl (some (.int (-1)))) (8, [(0, .ref 0), (1, .int 1), (2, .int 2), (3, .ref 189)], [.int (-1), .int 0, .ref 189]) rfl (fun _ => rfl)
    · refine xe_sn pg_85 1 (fr' := (1, [(0, .ref 0), (1, .int 1), (2, .int 2)], [.int 1])) rfl ?_
      apply xe_callq pg_85 92 [.int 1] (.inl none) (4, [(0, .ref 0), (1, .int 1), (2, .int 2)], []) rfl (fun _ => rfl)
      · refine xe_sn pg_92 2 (fr' := (2, [(0, .int 1)], [.int 4, .int 1])) rfl ?_
        apply xe_callq pg_92 95 [.int 1, .int 4] (.inl none) (5, [(0, .int 1)], []) rfl (fun _ => rfl)
        · refine xe_sn pg_95 4 (fr' := (6, [(0, .int 1), (1, .int 4)], [.int 4, .int 1])) rfl ?_
          refine xe_sn pg_95 1 (fr' := (17, [(0, .int 1), (1, .int 4)], [])) rfl ?_
          exact xe_end pg_95 rfl
        exact xe_end pg_92 rfl
      refine xe_sn pg_85 2 (fr' := (7, [(0, .ref 0), (1, .int 1), (2, .int 2)], [.int 12, .int 2])) rfl ?_
      apply xe_callq pg_85 95 [.int 2, .int 12] (.inl none) (10, [(0, .ref 0), (1, .int 1), (2, .int 2)], []) rfl (fun _ => rfl)
      · refine xe_sn pg_95 4 (fr' := (6, [(0, .int 2), (1, .int 12)], [.int 12, .int 2])) rfl ?_
        refine xe_sn pg_95 1 (fr' := (17, [(0, .int 2), (1, .int 12)], [])) rfl ?_
        exact xe_end pg_95 rfl
      refine xe_sn pg_85 4 (fr' := (16, [(0, .ref 0), (1, .int 1), (2, .int 2)], [.ref 132])) rfl ?_
      refine xe_sn pg_85 4 (fr' := (79, [(3, .ref 132), (0, .ref 0), (1, .int 1), (2, .int 2)], [.ref 132])) rfl ?_
      refine xe_sn pg_85 3 (fr' := (82, [(3, .ref 132), (0, .ref 0), (1, .int 1), (2, .int 2)], [.int 0, .ref 132])) rfl ?_
      apply xe_callq pg_85 17 [.ref 132, .int 0] (.inl (some (.int 0))) (85, [(3, .ref 132), (0, .ref 0), (1, .int 1), (2, .int 2)], [.int 0]) rfl (fun _ => rfl)
      · refine xe_sn pg_17 4 (fr' := (6, [(0, .ref 132), (1, .int 0)], [.ref 132, .int 0])) rfl ?_
        refine xe_sn pg_17 3 (fr' := (17, [(0, .ref 132), (1, .int 0)], [.int 0])) rfl ?_
        exact xe_end pg_17 rfl
      refine xe_sn pg_85 2 (fr' := (100, [(3, .ref 132), (0, .ref 0), (1, .int 1), (2, .int 2)], [.int (-1)])) rfl ?_
      exact xe_end pg_85 rfl
    refine xe_sn pg_172 4 (fr' := (18, [(0, .ref 0), (1, .int 1), (2, .int 2), (3, .ref 189)], [.int 0])) rfl ?_
    exact xe_end pg_172 rfl
  refine And.intro ⟨rfl, rfl, rfl, rfl⟩ ?_
  apply And.intro
  · refine xe_sn pg_153 2 (fr' := (2, [(0, .ref 165), (1, .int 1), (2, .int 2)], [.int 1, .ref 165])) rfl ?_
    apply xe_callq pg_153 104 [.int 1] (.inl (some (.int 1))) (5, [(0, .ref 165), (1, .int 1), (2, .int 2)], [.int 1, .ref 165]) rfl (fun _ => rfl)
    · refine xe_sn pg_104 3 (fr' := (3, [(0, .int 1)], [.int 3, .int 0, .int 1])) rfl ?_
      apply xe_callq pg_104 103 [.int 1, .int 0, .int 3] (.inl (some (.int 1))) (6, [(0, .int 1)], [.int 1]) rfl (fun _ => rfl)
      · refine xe_sn pg_103 4 (fr' := (6, [(0, .int 1), (1, .int 0), (2, .int 3)], [.int 1])) rfl ?_
        refine xe_sn pg_103 4 (fr' := (15, [(0, .int 1), (1, .int 0), (2, .int 3)], [.int 1])) rfl ?_
        exact xe_end pg_103 rfl
      exact xe_end pg_104 rfl
    refine xe_sn pg_153 4 (fr' := (12, [(0, .ref 165), (1, .int 1), (2, .int 2)], [.int 11, .int 0, .int 2, .ref 165])) rfl ?_
    apply xe_callq pg_153 103 [.int 2, .int 0, .int 11] (.inl (some (.int 1))) (15, [(0, .ref 165), (1, .int 1), (2, .int 2)], [.int 1, .ref 165]) rfl (fun _ => rfl)
    · refine xe_sn pg_103 4 (fr' := (6, [(0, .int 2), (1, .int 0), (2, .int 11)], [.int 2])) rfl ?_
      refine xe_sn pg_103 4 (fr' := (15, [(0, .int 2), (1, .int 0), (2, .int 11)], [.int 1])) rfl ?_
      exact xe_end pg_103 rfl
    refine xe_sn pg_153 3 (fr' := (23, [(0, .ref 165), (1, .int 1), (2, .int 2)], [.int 1, .ref 165])) rfl ?_
    apply xe_callq pg_153 151 [.ref 165, .int 1] (.inl (some (.int 0))) (26, [(0, .ref 165), (1, .int 1), (2, .int 2)], [.int 0]) rfl (fun _ => rfl)
    · refine xe_sn pg_151 4 (fr' := (6, [(0, .ref 165), (1, .int 1)], [.int 0, .ref 165])) rfl ?_
      refine xe_sn pg_151 4 (fr' := (21, [(0, .ref 165), (1, .int 1)], [])) rfl ?_
      refine xe_sn pg_151 1 (fr' := (22, [(0, .ref 165), (1, .int 1)], [.int 0])) rfl ?_
      exact xe_end pg_151 rfl
    refine xe_sn pg_153 4 (fr' := (56, [(0, .ref 165), (1, .int 1), (2, .int 2)], [])) rfl ?_
    refine xe_sn pg_153 4 (fr' := (62, [(0, .ref 165), (1, .int 1), (2, .int 2)], [.int 2])) rfl ?_
    refine xe_sn pg_153 4 (fr' := (68, [(0, .ref 165), (1, .int 1), (2, .int 2)], [.ref 168, .int 0])) rfl ?_
    refine xe_sn pg_153 4 (fr' := (89, [(0, .ref 165), (1, .int 1), (2, .int 2)], [.int (-1)])) rfl ?_
    exact xe_end pg_153 rfl
  · exact ⟨⟨rfl, rfl, rfl, rfl⟩, Nat.le_of_ble_eq_true rfl, Nat.le_of_ble_eq_true rfl, rfl, fun _ => rfl⟩

set_option maxRecDepth 100000 in
theorem lf_circuit_21 (xs : Nat → Int32) : op_ok xs 172 153 [.ref 0, .int 1, .int 3, .ref 189] [.ref 165, .int 1, .int 3] := by
  refine ⟨0, (-1), ?_⟩
  apply Exists.intro
  apply Exists.intro
  apply And.intro
  · refine xe_sn pg_172 4 (fr' := (4, [(0, .ref 0), (1, .int 1), (2, .int 3), (3, .ref 189)], [.int 1, .ref 0, .int 0, .ref 189])) rfl ?_
    refine xe_sn pg_172 1 (fr' := (5, [(0, .ref 0), (1, .int 1), (2, .int 3), (3, .ref 189)], [.int 3, .int 1, .ref 0, .int 0, .ref 189])) rfl ?_
    apply xe_callq pg_172 85 [.ref 0, .int 1, .int 3] (.inl (some (.int (-1)))) (8, [(0, .ref 0), (1, .int 1), (2, .int 3), (3, .ref 189)], [.int (-1), .int 0, .ref 189]) rfl (fun _ => rfl)
    · refine xe_sn pg_85 1 (fr' := (1, [(0, .ref 0), (1, .int 1), (2, .int 3)], [.int 1])) rfl ?_
      apply xe_callq pg_85 92 [.int 1] (.inl none) (4, [(0, .ref 0), (1, .int 1), (2, .int 3)], []) rfl (fun _ => rfl)
      · refine xe_sn pg_92 2 (fr' := (2, [(0, .int 1)], [.int 4, .int 1])) rfl ?_
        apply xe_callq pg_92 95 [.int 1, .int 4] (.inl none) (5, [(0, .int 1)], []) rfl (fun _ => rfl)
        · refine xe_sn pg_95 4 (fr' := (6, [(0, .int 1), (1, .int 4)], [.int 4, .int 1])) rfl ?_
          refine xe_sn pg_95 1 (fr' := (17, [(0, .int 1), (1, .int 4)], [])) rfl ?_
          exact xe_end pg_95 rfl
        exact xe_end pg_92 rfl
      refine xe_sn pg_85 2 (fr' := (7, [(0, .ref 0), (1, .int 1), (2, .int 3)], [.int 12, .int 3])) rfl ?_
      apply xe_callq pg_85 95 [.int 3, .int 12] (.inl none) (10, [(0, .ref 0), (1, .int 1), (2, .int 3)], []) rfl (fun _ => rfl)
      · refine xe_sn pg_95 4 (fr' := (6, [(0, .int 3), (1, .int 12)], [.int 12, .int 3])) rfl ?_
        refine xe_sn pg_95 1 (fr' := (17, [(0, .int 3), (1, .int 12)], [])) rfl ?_
        exact xe_end pg_95 rfl
      refine xe_sn pg_85 4 (fr' := (16, [(0, .ref 0), (1, .int 1), (2, .int 3)], [.ref 132])) rfl ?_
      refine xe_sn pg_85 4 (fr' := (79, [(3, .ref 132), (0, .ref 0), (1, .int 1), (2, .int 3)], [.ref 132])) rfl ?_
      refine xe_sn pg_85 3 (fr' := (82, [(3, .ref 132), (0, .ref 0), (1, .int 1), (2, .int 3)], [.int 1, .ref 132])) rfl ?_
      apply xe_callq pg_85 17 [.ref 132, .int 1] (.inl (some (.int 0))) (85, [(3, .ref 132), (0, .ref 0), (1, .int 1), (2, .int 3)], [.int 0]) rfl (fun _ => rfl)
      · refine xe_sn pg_17 4 (fr' := (6, [(0, .ref 132), (1, .int 1)], [.ref 132, .int 1])) rfl ?_
        refine xe_sn pg_17 3 (fr' := (17, [(0, .ref 132), (1, .int 1)], [.int 0])) rfl ?_
        exact xe_end pg_17 rfl
      refine xe_sn pg_85 2 (fr' := (100, [(3, .ref 132), (0, .ref 0), (1, .int 1), (2, .int 3)], [.int (-1)])) rfl ?_
      exact xe_end pg_85 rfl
    refine xe_sn pg_172 4 (fr' := (18, [(0, .ref 0), (1, .int 1), (2, .int 3), (3, .ref 189)], [.int 0])) rfl ?_
    exact xe_end pg_172 rfl
  refine And.intro ⟨rfl, rfl, rfl, rfl⟩ ?_
  apply And.intro
  · refine xe_sn pg_153 2 (fr' := (2, [(0, .ref 165), (1, .int 1), (2, .int 3)], [.int 1, .ref 165])) rfl ?_
    apply xe_callq pg_153 104 [.int 1] (.inl (some (.int 1))) (5, [(0, .ref 165), (1, .int 1), (2, .int 3)], [.int 1, .ref 165]) rfl (fun _ => rfl)
    · refine xe_sn pg_104 3 (fr' := (3, [(0, .int 1)], [.int 3, .int 0, .int 1])) rfl ?_
      apply xe_callq pg_104 103 [.int 1, .int 0, .int 3] (.inl (some (.int 1))) (6, [(0, .int 1)], [.int 1]) rfl (fun _ => rfl)
      · refine xe_sn pg_103 4 (fr' := (6, [(0, .int 1), (1, .int 0), (2, .int 3)], [.int 1])) rfl ?_
        refine xe_sn pg_103 4 (fr' := (15, [(0, .int 1), (1, .int 0), (2, .int 3)], [.int 1])) rfl ?_
        exact xe_end pg_103 rfl
      exact xe_end pg_104 rfl
    refine xe_sn pg_153 4 (fr' := (12, [(0, .ref 165), (1, .int 1), (2, .int 3)], [.int 11, .int 0, .int 3, .ref 165])) rfl ?_
    apply xe_callq pg_153 103 [.int 3, .int 0, .int 11] (.inl (some (.int 1))) (15, [(0, .ref 165), (1, .int 1), (2, .int 3)], [.int 1, .ref 165]) rfl (fun _ => rfl)
    · refine xe_sn pg_103 4 (fr' := (6, [(0, .int 3), (1, .int 0), (2, .int 11)], [.int 3])) rfl ?_
      refine xe_sn pg_103 4 (fr' := (15, [(0, .int 3), (1, .int 0), (2, .int 11)], [.int 1])) rfl ?_
      exact xe_end pg_103 rfl
    refine xe_sn pg_153 3 (fr' := (23, [(0, .ref 165), (1, .int 1), (2, .int 3)], [.int 1, .ref 165])) rfl ?_
    apply xe_callq pg_153 151 [.ref 165, .int 1] (.inl (some (.int 0))) (26, [(0, .ref 165), (1, .int 1), (2, .int 3)], [.int 0]) rfl (fun _ => rfl)
    · refine xe_sn pg_151 4 (fr' := (6, [(0, .ref 165), (1, .int 1)], [.int 0, .ref 165])) rfl ?_
      refine xe_sn pg_151 4 (fr' := (21, [(0, .ref 165), (1, .int 1)], [])) rfl ?_
      refine xe_sn pg_151 1 (fr' := (22, [(0, .ref 165), (1, .int 1)], [.int 0])) rfl ?_
      exact xe_end pg_151 rfl
    refine xe_sn pg_153 4 (fr' := (56, [(0, .ref 165), (1, .int 1), (2, .int 3)], [])) rfl ?_
    refine xe_sn pg_153 4 (fr' := (62, [(0, .ref 165), (1, .int 1), (2, .int 3)], [.int 3])) rfl ?_
    refine xe_sn pg_153 4 (fr' := (68, [(0, .ref 165), (1, .int 1), (2, .int 3)], [.ref 168, .int 1])) rfl ?_
    refine xe_sn pg_153 4 (fr' := (89, [(0, .ref 165), (1, .int 1), (2, .int 3)], [.int (-1)])) rfl ?_
    exact xe_end pg_153 rfl
  · exact ⟨⟨rfl, rfl, rfl, rfl⟩, Nat.le_of_ble_eq_true rfl, Nat.le_of_ble_eq_true rfl, rfl, fun _ => rfl⟩

set_option maxRecDepth 100000 in
theorem lf_circuit_22 (xs : Nat → Int32) : op_ok xs 172 153 [.ref 0, .int 1, .int 4, .ref 189] [.ref 165, .int 1, .int 4] := by
  refine ⟨0, (-1), ?_⟩
  apply Exists.intro
  apply Exists.intro
  apply And.intro
  · refine xe_sn pg_172 4 (fr' := (4, [(0, .ref 0), (1, .int 1), (2, .int 4), (3, .ref 189)], [.int 1, .ref 0, .int 0, .ref 189])) rfl ?_
    refine xe_sn pg_172 1 (fr' := (5, [(0, .ref 0), (1, .int 1), (2, .int 4), (3, .ref 189)], [.int 4, .int 1, .ref 0, .int 0, .ref 189])) rfl ?_
    apply xe_callq pg_172 85 [.ref 0, .int 1, .int 4] (.inl (some (.int (-1)))) (8, [(0, .ref 0), (1, .int 1), (2, .int 4), (3, .ref 189)], [.int (-1), .int 0, .ref 189]) rfl (fun _ => rfl)
    · refine xe_sn pg_85 1 (fr' := (1, [(0, .ref 0), (1, .int 1), (2, .int 4)], [.int 1])) rfl ?_
      apply xe_callq pg_85 92 [.int 1] (.inl none) (4, [(0, .ref 0), (1, .int 1), (2, .int 4)], []) rfl (fun _ => rfl)
      · refine xe_sn pg_92 2 (fr' := (2, [(0, .int 1)], [.int 4, .int 1])) rfl ?_
        apply xe_callq pg_92 95 [.int 1, .int 4] (.inl none) (5, [(0, .int 1)], []) rfl (fun _ => rfl)
        · refine xe_sn pg_95 4 (fr' := (6, [(0, .int 1), (1, .int 4)], [.int 4, .int 1])) rfl ?_
          refine xe_sn pg_95 1 (fr' := (17, [(0, .int 1), (1, .int 4)], [])) rfl ?_
          exact xe_end pg_95 rfl
        exact xe_end pg_92 rfl
      refine xe_sn pg_85 2 (fr' := (7, [(0, .ref 0), (1, .int 1), (2, .int 4)], [.int 12, .int 4])) rfl ?_
      apply xe_callq pg_85 95 [.int 4, .int 12] (.inl none) (10, [(0, .ref 0), (1, .int 1), (2, .int 4)], []) rfl (fun _ => rfl)
      · refine xe_sn pg_95 4 (fr' := (6, [(0, .int 4), (1, .int 12)], [.int 12, .int 4])) rfl ?_
        refine xe_sn pg_95 1 (fr' := (17, [(0, .int 4), (1, .int 12)], [])) rfl ?_
        exact xe_end pg_95 rfl
      refine xe_sn pg_85 4 (fr' := (16, [(0, .ref 0), (1, .int 1), (2, .int 4)], [.ref 132])) rfl ?_
      refine xe_sn pg_85 4 (fr' := (79, [(3, .ref 132), (0, .ref 0), (1, .int 1), (2, .int 4)], [.ref 132])) rfl ?_
      refine xe_sn pg_85 3 (fr' := (82, [(3, .ref 132), (0, .ref 0), (1, .int 1), (2, .int 4)], [.int 2, .ref 132])) rfl ?_
      apply xe_callq pg_85 17 [.ref 132, .int 2] (.inl (some (.int 0))) (85, [(3, .ref 132), (0, .ref 0), (1, .int 1), (2, .int 4)], [.int 0]) rfl (fun _ => rfl)
      · refine xe_sn pg_17 4 (fr' := (6, [(0, .ref 132), (1, .int 2)], [.ref 132, .int 2])) rfl ?_
        refine xe_sn pg_17 3 (fr' := (17, [(0, .ref 132), (1, .int 2)], [.int 0])) rfl ?_
        exact xe_end pg_17 rfl
      refine xe_sn pg_85 2 (fr' := (100, [(3, .ref 132), (0, .ref 0), (1, .int 1), (2, .int 4)], [.int (-1)])) rfl ?_
      exact xe_end pg_85 rfl
    refine xe_sn pg_172 4 (fr' := (18, [(0, .ref 0), (1, .int 1), (2, .int 4), (3, .ref 189)], [.int 0])) rfl ?_
    exact xe_end pg_172 rfl
  refine And.intro ⟨rfl, rfl, rfl, rfl⟩ ?_
  apply And.intro
  · refine xe_sn pg_153 2 (fr' := (2, [(0, .ref 165), (1, .int 1), (2, .int 4)], [.int 1, .ref 165])) rfl ?_
    apply xe_callq pg_153 104 [.int 1] (.inl (some (.int 1))) (5, [(0, .ref 165), (1, .int 1), (2, .int 4)], [.int 1, .ref 165]) rfl (fun _ => rfl)
    · refine xe_sn pg_104 3 (fr' := (3, [(0, .int 1)], [.int 3, .int 0, .int 1])) rfl ?_
      apply xe_callq pg_104 103 [.int 1, .int 0, .int 3] (.inl (some (.int 1))) (6, [(0, .int 1)], [.int 1]) rfl (fun _ => rfl)
      · refine xe_sn pg_103 4 (fr' := (6, [(0, .int 1), (1, .int 0), (2, .int 3)], [.int 1])) rfl ?_
        refine xe_sn pg_103 4 (fr' := (15, [(0, .int 1), (1, .int 0), (2, .int 3)], [.int 1])) rfl ?_
        exact xe_end pg_103 rfl
      exact xe_end pg_104 rfl
    refine xe_sn pg_153 4 (fr' := (12, [(0, .ref 165), (1, .int 1), (2, .int 4)], [.int 11, .int 0, .int 4, .ref 165])) rfl ?_
    apply xe_callq pg_153 103 [.int 4, .int 0, .int 11] (.inl (some (.int 1))) (15, [(0, .ref 165), (1, .int 1), (2, .int 4)], [.int 1, .ref 165]) rfl (fun _ => rfl)
    · refine xe_sn pg_103 4 (fr' := (6, [(0, .int 4), (1, .int 0), (2, .int 11)], [.int 4])) rfl ?_
      refine xe_sn pg_103 4 (fr' := (15, [(0, .int 4), (1, .int 0), (2, .int 11)], [.int 1])) rfl ?_
      exact xe_end pg_103 rfl
    refine xe_sn pg_153 3 (fr' := (23, [(0, .ref 165), (1, .int 1), (2, .int 4)], [.int 1, .ref 165])) rfl ?_
    apply xe_callq pg_153 151 [.ref 165, .int 1] (.inl (some (.int 0))) (26, [(0, .ref 165), (1, .int 1), (2, .int 4)], [.int 0]) rfl (fun _ => rfl)
    · refine xe_sn pg_151 4 (fr' := (6, [(0, .ref 165), (1, .int 1)], [.int 0, .ref 165])) rfl ?_
      refine xe_sn pg_151 4 (fr' := (21, [(0, .ref 165), (1, .int 1)], [])) rfl ?_
      refine xe_sn pg_151 1 (fr' := (22, [(0, .ref 165), (1, .int 1)], [.int 0])) rfl ?_
      exact xe_end pg_151 rfl
    refine xe_sn pg_153 4 (fr' := (56, [(0, .ref 165), (1, .int 1), (2, .int 4)], [])) rfl ?_
    refine xe_sn pg_153 4 (fr' := (62, [(0, .ref 165), (1, .int 1), (2, .int 4)], [.int 4])) rfl ?_
    refine xe_sn pg_153 4 (fr' := (68, [(0, .ref 165), (1, .int 1), (2, .int 4)], [.ref 168, .int 2])) rfl ?_
    refine xe_sn pg_153 4 (fr' := (89, [(0, .ref 165), (1, .int 1), (2, .int 4)], [.int (-1)])) rfl ?_
    exact xe_end pg_153 rfl
  · exact ⟨⟨rfl, rfl, rfl, rfl⟩, Nat.le_of_ble_eq_true rfl, Nat.le_of_ble_eq_true rfl, rfl, fun _ => rfl⟩

set_option maxRecDepth 100000 in
theorem lf_circuit_23 (xs : Nat → Int32) : op_ok xs 172 153 [.ref 0, .int 1, .int 5, .ref 189] [.ref 165, .int 1, .int 5] := by
  refine ⟨0, (-1), ?_⟩
  apply Exists.intro
  apply Exists.intro
  apply And.intro
  · refine xe_sn pg_172 4 (fr' := (4, [(0, .ref 0), (1, .int 1), (2, .int 5), (3, .ref 189)], [.int 1, .ref 0, .int 0, .ref 189])) rfl ?_
    refine xe_sn pg_172 1 (fr' := (5, [(0, .ref 0), (1, .int 1), (2, .int 5), (3, .ref 189)], [.int 5, .int 1, .ref 0, .int 0, .ref 189])) rfl ?_
    apply xe_callq pg_172 85 [.ref 0, .int 1, .int 5] (.inl (some (.int (-1)))) (8, [(0, .ref 0), (1, .int 1), (2, .int 5), (3, .ref 189)], [.int (-1), .int 0, .ref 189]) rfl (fun _ => rfl)
    · refine xe_sn pg_85 1 (fr' := (1, [(0, .ref 0), (1, .int 1), (2, .int 5)], [.int 1])) rfl ?_
      apply xe_callq pg_85 92 [.int 1] (.inl none) (4, [(0, .ref 0), (1, .int 1), (2, .int 5)], []) rfl (fun _ => rfl)
      · refine xe_sn pg_92 2 (fr' := (2, [(0, .int 1)], [.int 4, .int 1])) rfl ?_
        apply xe_callq pg_92 95 [.int 1, .int 4] (.inl none) (5, [(0, .int 1)], []) rfl (fun _ => rfl)
        · refine xe_sn pg_95 4 (fr' := (6, [(0, .int 1), (1, .int 4)], [.int 4, .int 1])) rfl ?_
          refine xe_sn pg_95 1 (fr' := (17, [(0, .int 1), (1, .int 4)], [])) rfl ?_
          exact xe_end pg_95 rfl
        exact xe_end pg_92 rfl
      refine xe_sn pg_85 2 (fr' := (7, [(0, .ref 0), (1, .int 1), (2, .int 5)], [.int 12, .int 5])) rfl ?_
      apply xe_callq pg_85 95 [.int 5, .int 12] (.inl none) (10, [(0, .ref 0), (1, .int 1), (2, .int 5)], []) rfl (fun _ => rfl)
      · refine xe_sn pg_95 4 (fr' := (6, [(0, .int 5), (1, .int 12)], [.int 12, .int 5])) rfl ?_
        refine xe_sn pg_95 1 (fr' := (17, [(0, .int 5), (1, .int 12)], [])) rfl ?_
        exact xe_end pg_95 rfl
      refine xe_sn pg_85 4 (fr' := (16, [(0, .ref 0), (1, .int 1), (2, .int 5)], [.ref 132])) rfl ?_
      refine xe_sn pg_85 4 (fr' := (102, [(3, .ref 132), (0, .ref 0), (1, .int 1), (2, .int 5)], [.ref 132])) rfl ?_
      refine xe_sn pg_85 1 (fr' := (105, [(3, .ref 132), (0, .ref 0), (1, .int 1), (2, .int 5)], [.int (-1)])) rfl ?_
      exact xe_end pg_85 rfl
    refine xe_sn pg_172 4 (fr' := (18, [(0, .ref 0), (1, .int 1), (2, .int 5), (3, .ref 189)], [.int 0])) rfl ?_
    exact xe_end pg_172 rfl
  refine And.intro ⟨rfl, rfl, rfl, rfl⟩ ?_
  apply And.intro
  · refine xe_sn pg_153 2 (fr' := (2, [(0, .ref 165), (1, .int 1), (2, .int 5)], [.int 1, .ref 165])) rfl ?_
    apply xe_callq pg_153 104 [.int 1] (.inl (some (.int 1))) (5, [(0, .ref 165), (1, .int 1), (2, .int 5)], [.int 1, .ref 165]) rfl (fun _ => rfl)
    · refine xe_sn pg_104 3 (fr' := (3, [(0, .int 1)], [.int 3, .int 0, .int 1])) rfl ?_
      apply xe_callq pg_104 103 [.int 1, .int 0, .int 3] (.inl (some (.int 1))) (6, [(0, .int 1)], [.int 1]) rfl (fun _ => rfl)
      · refine xe_sn pg_103 4 (fr' := (6, [(0, .int 1), (1, .int 0), (2, .int 3)], [.int 1])) rfl ?_
        refine xe_sn pg_103 4 (fr' := (15, [(0, .int 1), (1, .int 0), (2, .int 3)], [.int 1])) rfl ?_
        exact xe_end pg_103 rfl
      exact xe_end pg_104 rfl
    refine xe_sn pg_153 4 (fr' := (12, [(0, .ref 165), (1, .int 1), (2, .int 5)], [.int 11, .int 0, .int 5, .ref 165])) rfl ?_
    apply xe_callq pg_153 103 [.int 5, .int 0, .int 11] (.inl (some (.int 1))) (15, [(0, .ref 165), (1, .int 1), (2, .int 5)], [.int 1, .ref 165]) rfl (fun _ => rfl)
    · refine xe_sn pg_103 4 (fr' := (6, [(0, .int 5), (1, .int 0), (2, .int 11)], [.int 5])) rfl ?_
      refine xe_sn pg_103 4 (fr' := (15, [(0, .int 5), (1, .int 0), (2, .int 11)], [.int 1])) rfl ?_
      exact xe_end pg_103 rfl
    refine xe_sn pg_153 3 (fr' := (23, [(0, .ref 165), (1, .int 1), (2, .int 5)], [.int 1, .ref 165])) rfl ?_
    apply xe_callq pg_153 151 [.ref 165, .int 1] (.inl (some (.int 0))) (26, [(0, .ref 165), (1, .int 1), (2, .int 5)], [.int 0]) rfl (fun _ => rfl)
    · refine xe_sn pg_151 4 (fr' := (6, [(0, .ref 165), (1, .int 1)], [.int 0, .ref 165])) rfl ?_
      refine xe_sn pg_151 4 (fr' := (21, [(0, .ref 165), (1, .int 1)], [])) rfl ?_
      refine xe_sn pg_151 1 (fr' := (22, [(0, .ref 165), (1, .int 1)], [.int 0])) rfl ?_
      exact xe_end pg_151 rfl
    refine xe_sn pg_153 4 (fr' := (56, [(0, .ref 165), (1, .int 1), (2, .int 5)], [])) rfl ?_
    refine xe_sn pg_153 4 (fr' := (91, [(0, .ref 165), (1, .int 1), (2, .int 5)], [.int 5])) rfl ?_
    refine xe_sn pg_153 4 (fr' := (99, [(0, .ref 165), (1, .int 1), (2, .int 5)], [.ref 171])) rfl ?_
    refine xe_sn pg_153 3 (fr' := (139, [(0, .ref 165), (1, .int 1), (2, .int 5)], [.int (-1)])) rfl ?_
    exact xe_end pg_153 rfl
  · exact ⟨⟨rfl, rfl, rfl, rfl⟩, Nat.le_of_ble_eq_true rfl, Nat.le_of_ble_eq_true rfl, rfl, fun _ => rfl⟩

set_option maxRecDepth 100000 in
theorem lf_circuit_24 (xs : Nat → Int32) : op_ok xs 172 153 [.ref 0, .int 1, .int 6, .ref 189] [.ref 165, .int 1, .int 6] := by
  refine ⟨0, 0, ?_⟩
  apply Exists.intro
  apply Exists.intro
  apply And.intro
  · refine xe_sn pg_172 4 (fr' := (4, [(0, .ref 0), (1, .int 1), (2, .int 6), (3, .ref 189)], [.int 1, .ref 0, .int 0, .ref 189])) rfl ?_
    refine xe_sn pg_172 1 (fr' := (5, [(0, .ref 0), (1, .int 1), (2, .int 6), (3, .ref 189)], [.int 6, .int 1, .ref 0, .int 0, .ref 189])) rfl ?_
    apply xe_callq pg_172 85 [.ref 0, .int 1, .int 6] (.inl (some (.int 0))) (8, [(0, .ref 0), (1, .int 1), (2, .int 6), (3, .ref 189)], [.int 0, .int 0, .ref 189]) rfl (fun _ => rfl)
    · refine xe_sn pg_85 1 (fr' := (1, [(0, .ref 0), (1, .int 1), (2, .int 6)], [.int 1])) rfl ?_
      apply xe_callq pg_85 92 [.int 1] (.inl none) (4, [(0, .ref 0), (1, .int 1), (2, .int 6)], []) rfl (fun _ => rfl)
      · refine xe_sn pg_92 2 (fr' := (2, [(0, .int 1)], [.int 4, .int 1])) rfl ?_
        apply xe_callq pg_92 95 [.int 1, .int 4] (.inl none) (5, [(0, .int 1)], []) rfl (fun _ => rfl)
        · refine xe_sn pg_95 4 (fr' := (6, [(0, .int 1), (1, .int 4)], [.int 4, .int 1])) rfl ?_
          refine xe_sn pg_95 1 (fr' := (17, [(0, .int 1), (1, .int 4)], [])) rfl ?_
          exact xe_end pg_95 rfl
        exact xe_end pg_92 rfl
      refine xe_sn pg_85 2 (fr' := (7, [(0, .ref 0), (1, .int 1), (2, .int 6)], [.int 12, .int 6])) rfl ?_
      apply xe_callq pg_85 95 [.int 6, .int 12] (.inl none) (10, [(0, .ref 0), (1, .int 1), (2, .int 6)], []) rfl (fun _ => rfl)
      · refine xe_sn pg_95 4 (fr' := (6, [(0, .int 6), (1, .int 12)], [.int 12, .int 6])) rfl ?_
        refine xe_sn pg_95 1 (fr' := (17, [(0, .int 6), (1, .int 12)], [])) rfl ?_
        exact xe_end pg_95 rfl
      refine xe_sn pg_85 4 (fr' := (16, [(0, .ref 0), (1, .int 1), (2, .int 6)], [.ref 132])) rfl ?_
      refine xe_sn pg_85 4 (fr' := (107, [(3, .ref 132), (0, .ref 0), (1, .int 1), (2, .int 6)], [.ref 132])) rfl ?_
      refine xe_sn pg_85 4 (fr' := (114, [(3, .ref 132), (0, .ref 0), (1, .int 1), (2, .int 6)], [.int 0, .ref 138])) rfl ?_
      refine xe_sn pg_85 2 (fr' := (118, [(3, .ref 132), (0, .ref 0), (1, .int 1), (2, .int 6)], [.int 0])) rfl ?_
      exact xe_end pg_85 rfl
    refine xe_sn pg_172 4 (fr' := (18, [(0, .ref 0), (1, .int 1), (2, .int 6), (3, .ref 189)], [.int 0])) rfl ?_
    exact xe_end pg_172 rfl
  refine And.intro ⟨rfl, rfl, rfl, rfl⟩ ?_
  apply And.intro
  · refine xe_sn pg_153 2 (fr' := (2, [(0, .ref 165), (1, .int 1), (2, .int 6)], [.int 1, .ref 165])) rfl ?_
    apply xe_callq pg_153 104 [.int 1] (.inl (some (.int 1))) (5, [(0, .ref 165), (1, .int 1), (2, .int 6)], [.int 1, .ref 165]) rfl (fun _ => rfl)
    · refine xe_sn pg_104 3 (fr' := (3, [(0, .int 1)], [.int 3, .int 0, .int 1])) rfl ?_
      apply xe_callq pg_104 103 [.int 1, .int 0, .int 3] (.inl (some (.int 1))) (6, [(0, .int 1)], [.int 1]) rfl (fun _ => rfl)
      · refine xe_sn pg_103 4 (fr' := (6, [(0, .int 1), (1, .int 0), (2, .int 3)], [.int 1])) rfl ?_
        refine xe_sn pg_103 4 (fr' := (15, [(0, .int 1), (1, .int 0), (2, .int 3)], [.int 1])) rfl ?_
        exact xe_end pg_103 rfl
      exact xe_end pg_104 rfl
    refine xe_sn pg_153 4 (fr' := (12, [(0, .ref 165), (1, .int 1), (2, .int 6)], [.int 11, .int 0, .int 6, .ref 165])) rfl ?_
    apply xe_callq pg_153 103 [.int 6, .int 0, .int 11] (.inl (some (.int 1))) (15, [(0, .ref 165), (1, .int 1), (2, .int 6)], [.int 1, .ref 165]) rfl (fun _ => rfl)
    · refine xe_sn pg_103 4 (fr' := (6, [(0, .int 6), (1, .int 0), (2, .int 11)], [.int 6])) rfl ?_
      refine xe_sn pg_103 4 (fr' := (15, [(0, .int 6), (1, .int 0), (2, .int 11)], [.int 1])) rfl ?_
      exact xe_end pg_103 rfl
    refine xe_sn pg_153 3 (fr' := (23, [(0, .ref 165), (1, .int 1), (2, .int 6)], [.int 1, .ref 165])) rfl ?_
    apply xe_callq pg_153 151 [.ref 165, .int 1] (.inl (some (.int 0))) (26, [(0, .ref 165), (1, .int 1), (2, .int 6)], [.int 0]) rfl (fun _ => rfl)
    · refine xe_sn pg_151 4 (fr' := (6, [(0, .ref 165), (1, .int 1)], [.int 0, .ref 165])) rfl ?_
      refine xe_sn pg_151 4 (fr' := (21, [(0, .ref 165), (1, .int 1)], [])) rfl ?_
      refine xe_sn pg_151 1 (fr' := (22, [(0, .ref 165), (1, .int 1)], [.int 0])) rfl ?_
      exact xe_end pg_151 rfl
    refine xe_sn pg_153 4 (fr' := (56, [(0, .ref 165), (1, .int 1), (2, .int 6)], [])) rfl ?_
    refine xe_sn pg_153 4 (fr' := (91, [(0, .ref 165), (1, .int 1), (2, .int 6)], [.int 6])) rfl ?_
    refine xe_sn pg_153 4 (fr' := (107, [(0, .ref 165), (1, .int 1), (2, .int 6)], [.int 9, .int 6])) rfl ?_
    refine xe_sn pg_153 4 (fr' := (115, [(0, .ref 165), (1, .int 1), (2, .int 6)], [.int 3, .ref 173])) rfl ?_
    refine xe_sn pg_153 4 (fr' := (119, [(0, .ref 165), (1, .int 1), (2, .int 6)], [.int 9, .ref 173])) rfl ?_
    refine xe_sn pg_153 4 (fr' := (139, [(0, .ref 165), (1, .int 1), (2, .int 6)], [.int 0])) rfl ?_
    exact xe_end pg_153 rfl
  · exact ⟨⟨rfl, rfl, rfl, rfl⟩, Nat.le_of_ble_eq_true rfl, Nat.le_of_ble_eq_true rfl, rfl, fun _ => rfl⟩

set_option maxRecDepth 100000 in
theorem lf_circuit_25 (xs : Nat → Int32) : op_ok xs 172 153 [.ref 0, .int 1, .int 7, .ref 189] [.ref 165, .int 1, .int 7] := by
  refine ⟨0, 0, ?_⟩
  apply Exists.intro
  apply Exists.intro
  apply And.intro
  · refine xe_sn pg_172 4 (fr' := (4, [(0, .ref 0), (1, .int 1), (2, .int 7), (3, .ref 189)], [.int 1, .ref 0, .int 0, .ref 189])) rfl ?_
    refine xe_sn pg_172 1 (fr' := (5, [(0, .ref 0), (1, .int 1), (2, .int 7), (3, .ref 189)], [.int 7, .int 1, .ref 0, .int 0, .ref 189])) rfl ?_
    apply xe_callq pg_172 85 [.ref 0, .int 1, .int 7] (.inl (some (.int 0))) (8, [(0, .ref 0), (1, .int 1), (2, .int 7), (3, .ref 189)], [.int 0, .int 0, .ref 189]) rfl (fun _ => rfl)
    · refine xe_sn pg_85 1 (fr' := (1, [(0, .ref 0), (1, .int 1), (2, .int 7)], [.int 1])) rfl ?_
      apply xe_callq pg_85 92 [.int 1] (.inl none) (4, [(0, .ref 0), (1, .int 1), (2, .int 7)], []) rfl (fun _ => rfl)
      · refine xe_sn pg_92 2 (fr' := (2, [(0, .int 1)], [.int 4, .int 1])) rfl ?_
        apply xe_callq pg_92 95 [.int 1, .int 4] (.inl none) (5, [(0, .int 1)], []) rfl (fun _ => rfl)
        · refine xe_sn pg_95 4 (fr' := (6, [(0, .int 1), (1, .int 4)], [.int 4, .int 1])) rfl ?_
          refine xe_sn pg_95 1 (fr' := (17, [(0, .int 1), (1, .int 4)], [])) rfl ?_
          exact xe_end pg_95 rfl
        exact xe_end pg_92 rfl
      refine xe_sn pg_85 2 (fr' := (7, [(0, .ref 0), (1, .int 1), (2, .int 7)], [.int 12, .int 7])) rfl ?_
      apply xe_callq pg_85 95 [.int 7, .int 12] (.inl none) (10, [(0, .ref 0), (1, .int 1), (2, .int 7)], []) rfl (fun _ => rfl)
      · refine xe_sn pg_95 4 (fr' := (6, [(0, .int 7), (1, .int 12)], [.int 12, .int 7])) rfl ?_
        refine xe_sn pg_95 1 (fr' := (17, [(0, .int 7), (1, .int 12)], [])) rfl ?_
        exact xe_end pg_95 rfl
      refine xe_sn pg_85 4 (fr' := (16, [(0, .ref 0), (1, .int 1), (2, .int 7)], [.ref 132])) rfl ?_
      refine xe_sn pg_85 4 (fr' := (107, [(3, .ref 132), (0, .ref 0), (1, .int 1), (2, .int 7)], [.ref 132])) rfl ?_
      refine xe_sn pg_85 4 (fr' := (114, [(3, .ref 132), (0, .ref 0), (1, .int 1), (2, .int 7)], [.int 1, .ref 138])) rfl ?_
      refine xe_sn pg_85 2 (fr' := (118, [(3, .ref 132), (0, .ref 0), (1, .int 1), (2, .int 7)], [.int 0])) rfl ?_
      exact xe_end pg_85 rfl
    refine xe_sn pg_172 4 (fr' := (18, [(0, .ref 0), (1, .int 1), (2, .int 7), (3, .ref 189)], [.int 0])) rfl ?_
    exact xe_end pg_172 rfl
  refine And.intro ⟨rfl, rfl, rfl, rfl⟩ ?_
  apply And.intro
  · refine xe_sn pg_153 2 (fr' := (2, [(0, .ref 165), (1, .int 1), (2, .int 7)], [.int 1, .ref 165])) rfl ?_
    apply xe_callq pg_153 104 [.int 1] (.inl (some (.int 1))) (5, [(0, .ref 165), (1, .int 1), (2, .int 7)], [.int 1, .ref 165]) rfl (fun _ => rfl)
    · refine xe_sn pg_104 3 (fr' := (3, [(0, .int 1)], [.int 3, .int 0, .int 1])) rfl ?_
      apply xe_callq pg_104 103 [.int 1, .int 0, .int 3] (.inl (some (.int 1))) (6, [(0, .int 1)], [.int 1]) rfl (fun _ => rfl)
      · refine xe_sn pg_103 4 (fr' := (6, [(0, .int 1), (1, .int 0), (2, .int 3)], [.int 1])) rfl ?_
        refine xe_sn pg_103 4 (fr' := (15, [(0, .int 1), (1, .int 0), (2, .int 3)], [.int 1])) rfl ?_
        exact xe_end pg_103 rfl
      exact xe_end pg_104 rfl
    refine xe_sn pg_153 4 (fr' := (12, [(0, .ref 165), (1, .int 1), (2, .int 7)], [.int 11, .int 0, .int 7, .ref 165])) rfl ?_
    apply xe_callq pg_153 103 [.int 7, .int 0, .int 11] (.inl (some (.int 1))) (15, [(0, .ref 165), (1, .int 1), (2, .int 7)], [.int 1, .ref 165]) rfl (fun _ => rfl)
    · refine xe_sn pg_103 4 (fr' := (6, [(0, .int 7), (1, .int 0), (2, .int 11)], [.int 7])) rfl ?_
      refine xe_sn pg_103 4 (fr' := (15, [(0, .int 7), (1, .int 0), (2, .int 11)], [.int 1])) rfl ?_
      exact xe_end pg_103 rfl
    refine xe_sn pg_153 3 (fr' := (23, [(0, .ref 165), (1, .int 1), (2, .int 7)], [.int 1, .ref 165])) rfl ?_
    apply xe_callq pg_153 151 [.ref 165, .int 1] (.inl (some (.int 0))) (26, [(0, .ref 165), (1, .int 1), (2, .int 7)], [.int 0]) rfl (fun _ => rfl)
    · refine xe_sn pg_151 4 (fr' := (6, [(0, .ref 165), (1, .int 1)], [.int 0, .ref 165])) rfl ?_
      refine xe_sn pg_151 4 (fr' := (21, [(0, .ref 165), (1, .int 1)], [])) rfl ?_
      refine xe_sn pg_151 1 (fr' := (22, [(0, .ref 165), (1, .int 1)], [.int 0])) rfl ?_
      exact xe_end pg_151 rfl
    refine xe_sn pg_153 4 (fr' := (56, [(0, .ref 165), (1, .int 1), (2, .int 7)], [])) rfl ?_
    refine xe_sn pg_153 4 (fr' := (91, [(0, .ref 165), (1, .int 1), (2, .int 7)], [.int 7])) rfl ?_
    refine xe_sn pg_153 4 (fr' := (107, [(0, .ref 165), (1, .int 1), (2, .int 7)], [.int 9, .int 7])) rfl ?_
    refine xe_sn pg_153 4 (fr' := (115, [(0, .ref 165), (1, .int 1), (2, .int 7)], [.int 3, .ref 173])) rfl ?_
    refine xe_sn pg_153 4 (fr' := (119, [(0, .ref 165), (1, .int 1), (2, .int 7)], [.int 10, .ref 173])) rfl ?_
    refine xe_sn pg_153 4 (fr' := (139, [(0, .ref 165), (1, .int 1), (2, .int 7)], [.int 0])) rfl ?_
    exact xe_end pg_153 rfl
  · exact ⟨⟨rfl, rfl, rfl, rfl⟩, Nat.le_of_ble_eq_true rfl, Nat.le_of_ble_eq_true rfl, rfl, fun _ => rfl⟩

set_option maxRecDepth 100000 in
theorem lf_circuit_26 (xs : Nat → Int32) : op_ok xs 172 153 [.ref 0, .int 1, .int 8, .ref 189] [.ref 165, .int 1, .int 8] := by
  refine ⟨0, 0, ?_⟩
  apply Exists.intro
  apply Exists.intro
  apply And.intro
  · refine xe_sn pg_172 4 (fr' := (4, [(0, .ref 0), (1, .int 1), (2, .int 8), (3, .ref 189)], [.int 1, .ref 0, .int 0, .ref 189])) rfl ?_
    refine xe_sn pg_172 1 (fr' := (5, [(0, .ref 0), (1, .int 1), (2, .int 8), (3, .ref 189)], [.int 8, .int 1, .ref 0, .int 0, .ref 189])) rfl ?_
    apply xe_callq pg_172 85 [.ref 0, .int 1, .int 8] (.inl (some (.int 0))) (8, [(0, .ref 0), (1, .int 1), (2, .int 8), (3, .ref 189)], [.int 0, .int 0, .ref 189]) rfl (fun _ => rfl)
    · refine xe_sn pg_85 1 (fr' := (1, [(0, .ref 0), (1, .int 1), (2, .int 8)], [.int 1])) rfl ?_
      apply xe_callq pg_85 92 [.int 1] (.inl none) (4, [(0, .ref 0), (1, .int 1), (2, .int 8)], []) rfl (fun _ => rfl)
      · refine xe_sn pg_92 2 (fr' := (2, [(0, .int 1)], [.int 4, .int 1])) rfl ?_
        apply xe_callq pg_92 95 [.int 1, .int 4] (.inl none) (5, [(0, .int 1)], []) rfl (fun _ => rfl)
        · refine xe_sn pg_95 4 (fr' := (6, [(0, .int 1), (1, .int 4)], [.int 4, .int 1])) rfl ?_
          refine xe_sn pg_95 1 (fr' := (17, [(0, .int 1), (1, .int 4)], [])) rfl ?_
          exact xe_end pg_95 rfl
        exact xe_end pg_92 rfl
      refine xe_sn pg_85 2 (fr' := (7, [(0, .ref 0), (1, .int 1), (2, .int 8)], [.int 12, .int 8])) rfl ?_
      apply xe_callq pg_85 95 [.int 8, .int 12] (.inl none) (10, [(0, .ref 0), (1, .int 1), (2, .int 8)], []) rfl (fun _ => rfl)
      · refine xe_sn pg_95 4 (fr' := (6, [(0, .int 8), (1, .int 12)], [.int 12, .int 8])) rfl ?_
        refine xe_sn pg_95 1 (fr' := (17, [(0, .int 8), (1, .int 12)], [])) rfl ?_
        exact xe_end pg_95 rfl
      refine xe_sn pg_85 4 (fr' := (16, [(0, .ref 0), (1, .int 1), (2, .int 8)], [.ref 132])) rfl ?_
      refine xe_sn pg_85 4 (fr' := (107, [(3, .ref 132), (0, .ref 0), (1, .int 1), (2, .int 8)], [.ref 132])) rfl ?_
      refine xe_sn pg_85 4 (fr' := (114, [(3, .ref 132), (0, .ref 0), (1, .int 1), (2, .int 8)], [.int 2, .ref 138])) rfl ?_
      refine xe_sn pg_85 2 (fr' := (118, [(3, .ref 132), (0, .ref 0), (1, .int 1), (2, .int 8)], [.int 0])) rfl ?_
      exact xe_end pg_85 rfl
    refine xe_sn pg_172 4 (fr' := (18, [(0, .ref 0), (1, .int 1), (2, .int 8), (3, .ref 189)], [.int 0])) rfl ?_
    exact xe_end pg_172 rfl
  refine And.intro ⟨rfl, rfl, rfl, rfl⟩ ?_
  apply And.intro
  · refine xe_sn pg_153 2 (fr' := (2, [(0, .ref 165), (1, .int 1), (2, .int 8)], [.int 1, .ref 165])) rfl ?_
    apply xe_callq pg_153 104 [.int 1] (.inl (some (.int 1))) (5, [(0, .ref 165), (1, .int 1), (2, .int 8)], [.int 1, .ref 165]) rfl (fun _ => rfl)
    · refine xe_sn pg_104 3 (fr' := (3, [(0, .int 1)], [.int 3, .int 0, .int 1])) rfl ?_
      apply xe_callq pg_104 103 [.int 1, .int 0, .int 3] (.inl (some (.int 1))) (6, [(0, .int 1)], [.int 1]) rfl (fun _ => rfl)
      · refine xe_sn pg_103 4 (fr' := (6, [(0, .int 1), (1, .int 0), (2, .int 3)], [.int 1])) rfl ?_
        refine xe_sn pg_103 4 (fr' := (15, [(0, .int 1), (1, .int 0), (2, .int 3)], [.int 1])) rfl ?_
        exact xe_end pg_103 rfl
      exact xe_end pg_104 rfl
    refine xe_sn pg_153 4 (fr' := (12, [(0, .ref 165), (1, .int 1), (2, .int 8)], [.int 11, .int 0, .int 8, .ref 165])) rfl ?_
    apply xe_callq pg_153 103 [.int 8, .int 0, .int 11] (.inl (some (.int 1))) (15, [(0, .ref 165), (1, .int 1), (2, .int 8)], [.int 1, .ref 165]) rfl (fun _ => rfl)
    · refine xe_sn pg_103 4 (fr' := (6, [(0, .int 8), (1, .int 0), (2, .int 11)], [.int 8])) rfl ?_
      refine xe_sn pg_103 4 (fr' := (15, [(0, .int 8), (1, .int 0), (2, .int 11)], [.int 1])) rfl ?_
      exact xe_end pg_103 rfl
    refine xe_sn pg_153 3 (fr' := (23, [(0, .ref 165), (1, .int 1), (2, .int 8)], [.int 1, .ref 165])) rfl ?_
    apply xe_callq pg_153 151 [.ref 165, .int 1] (.inl (some (.int 0))) (26, [(0, .ref 165), (1, .int 1), (2, .int 8)], [.int 0]) rfl (fun _ => rfl)
    · refine xe_sn pg_151 4 (fr' := (6, [(0, .ref 165), (1, .int 1)], [.int 0, .ref 165])) rfl ?_
      refine xe_sn pg_151 4 (fr' := (21, [(0, .ref 165), (1, .int 1)], [])) rfl ?_
      refine xe_sn pg_151 1 (fr' := (22, [(0, .ref 165), (1, .int 1)], [.int 0])) rfl ?_
      exact xe_end pg_151 rfl
    refine xe_sn pg_153 4 (fr' := (56, [(0, .ref 165), (1, .int 1), (2, .int 8)], [])) rfl ?_
    refine xe_sn pg_153 4 (fr' := (91, [(0, .ref 165), (1, .int 1), (2, .int 8)], [.int 8])) rfl ?_
    refine xe_sn pg_153 4 (fr' := (107, [(0, .ref 165), (1, .int 1), (2, .int 8)], [.int 9, .int 8])) rfl ?_
    refine xe_sn pg_153 4 (fr' := (115, [(0, .ref 165), (1, .int 1), (2, .int 8)], [.int 3, .ref 173])) rfl ?_
    refine xe_sn pg_153 4 (fr' := (119, [(0, .ref 165), (1, .int 1), (2, .int 8)], [.int 11, .ref 173])) rfl ?_
    refine xe_sn pg_153 4 (fr' := (139, [(0, .ref 165), (1, .int 1), (2, .int 8)], [.int 0])) rfl ?_
    exact xe_end pg_153 rfl
  · exact ⟨⟨rfl, rfl, rfl, rfl⟩, Nat.le_of_ble_eq_true rfl, Nat.le_of_ble_eq_true rfl, rfl, fun _ => rfl⟩

set_option maxRecDepth 100000 in
theorem lf_circuit_27 (xs : Nat → Int32) : op_ok xs 172 153 [.ref 0, .int 1, .int 9, .ref 189] [.ref 165, .int 1, .int 9] := by
  refine ⟨0, 0, ?_⟩
  apply Exists.intro
  apply Exists.intro
  apply And.intro
  · refine xe_sn pg_172 4 (fr' := (4, [(0, .ref 0), (1, .int 1), (2, .int 9), (3, .ref 189)], [.int 1, .ref 0, .int 0, .ref 189])) rfl ?_
    refine xe_sn pg_172 1 (fr' := (5, [(0, .ref 0), (1, .int 1), (2, .int 9), (3, .ref 189)], [.int 9, .int 1, .ref 0, .int 0, .ref 189])) rfl ?_
    apply xe_callq pg_172 85 [.ref 0, .int 1, .int 9] (.inl (some (.int 0))) (8, [(0, .ref 0), (1, .int 1), (2, .int 9), (3, .ref 189)], [.int 0, .int 0, .ref 189]) rfl (fun _ => rfl)
    · refine xe_sn pg_85 1 (fr' := (1, [(0, .ref 0), (1, .int 1), (2, .int 9)], [.int 1])) rfl ?_
      apply xe_callq pg_85 92 [.int 1] (.inl none) (4, [(0, .ref 0), (1, .int 1), (2, .int 9)], []) rfl (fun _ => rfl)
      · refine xe_sn pg_92 2 (fr' := (2, [(0, .int 1)], [.int 4, .int 1])) rfl ?_
        apply xe_callq pg_92 95 [.int 1, .int 4] (.inl none) (5, [(0, .int 1)], []) rfl (fun _ => rfl)
        · refine xe_sn pg_95 4 (fr' := (6, [(0, .int 1), (1, .int 4)], [.int 4, .int 1])) rfl ?_
          refine xe_sn pg_95 1 (fr' := (17, [(0, .int 1), (1, .int 4)], [])) rfl ?_
          exact xe_end pg_95 rfl
        exact xe_end pg_92 rfl
      refine xe_sn pg_85 2 (fr' := (7, [(0, .ref 0), (1, .int 1), (2, .int 9)], [.int 12, .int 9])) rfl ?_
      apply xe_callq pg_85 95 [.int 9, .int 12] (.inl none) (10, [(0, .ref 0), (1, .int 1), (2, .int 9)], []) rfl (fun _ => rfl)
      · refine xe_sn pg_95 4 (fr' := (6, [(0, .int 9), (1, .int 12)], [.int 12, .int 9])) rfl ?_
        refine xe_sn pg_95 1 (fr' := (17, [(0, .int 9), (1, .int 12)], [])) rfl ?_
        exact xe_end pg_95 rfl
      refine xe_sn pg_85 4 (fr' := (16, [(0, .ref 0), (1, .int 1), (2, .int 9)], [.ref 132])) rfl ?_
      refine xe_sn pg_85 4 (fr' := (120, [(3, .ref 132), (0, .ref 0), (1, .int 1), (2, .int 9)], [.ref 132])) rfl ?_
      refine xe_sn pg_85 4 (fr' := (127, [(3, .ref 132), (0, .ref 0), (1, .int 1), (2, .int 9)], [.int 0, .ref 138])) rfl ?_
      refine xe_sn pg_85 2 (fr' := (131, [(3, .ref 132), (0, .ref 0), (1, .int 1), (2, .int 9)], [.int 0])) rfl ?_
      exact xe_end pg_85 rfl
    refine xe_sn pg_172 4 (fr' := (18, [(0, .ref 0), (1, .int 1), (2, .int 9), (3, .ref 189)], [.int 0])) rfl ?_
    exact xe_end pg_172 rfl
  refine And.intro ⟨rfl, rfl, rfl, rfl⟩ ?_
  apply And.intro
  · refine xe_sn pg_153 2 (fr' := (2, [(0, .ref 165), (1, .int 1), (2, .int 9)], [.int 1, .ref 165])) rfl ?_
    apply xe_callq pg_153 104 [.int 1] (.inl (some (.int 1))) (5, [(0, .ref 165), (1, .int 1), (2, .int 9)], [.int 1, .ref 165]) rfl (fun _ => rfl)
    · refine xe_sn pg_104 3 (fr' := (3, [(0, .int 1)], [.int 3, .int 0, .int 1])) rfl ?_
      apply xe_callq pg_104 103 [.int 1, .int 0, .int 3] (.inl (some (.int 1))) (6, [(0, .int 1)], [.int 1]) rfl (fun _ => rfl)
      · refine xe_sn pg_103 4 (fr' := (6, [(0, .int 1), (1, .int 0), (2, .int 3)], [.int 1])) rfl ?_
        refine xe_sn pg_103 4 (fr' := (15, [(0, .int 1), (1, .int 0), (2, .int 3)], [.int 1])) rfl ?_
        exact xe_end pg_103 rfl
      exact xe_end pg_104 rfl
    refine xe_sn pg_153 4 (fr' := (12, [(0, .ref 165), (1, .int 1), (2, .int 9)], [.int 11, .int 0, .int 9, .ref 165])) rfl ?_
    apply xe_callq pg_153 103 [.int 9, .int 0, .int 11] (.inl (some (.int 1))) (15, [(0, .ref 165), (1, .int 1), (2, .int 9)], [.int 1, .ref 165]) rfl (fun _ => rfl)
    · refine xe_sn pg_103 4 (fr' := (6, [(0, .int 9), (1, .int 0), (2, .int 11)], [.int 9])) rfl ?_
      refine xe_sn pg_103 4 (fr' := (15, [(0, .int 9), (1, .int 0), (2, .int 11)], [.int 1])) rfl ?_
      exact xe_end pg_103 rfl
    refine xe_sn pg_153 3 (fr' := (23, [(0, .ref 165), (1, .int 1), (2, .int 9)], [.int 1, .ref 165])) rfl ?_
    apply xe_callq pg_153 151 [.ref 165, .int 1] (.inl (some (.int 0))) (26, [(0, .ref 165), (1, .int 1), (2, .int 9)], [.int 0]) rfl (fun _ => rfl)
    · refine xe_sn pg_151 4 (fr' := (6, [(0, .ref 165), (1, .int 1)], [.int 0, .ref 165])) rfl ?_
      refine xe_sn pg_151 4 (fr' := (21, [(0, .ref 165), (1, .int 1)], [])) rfl ?_
      refine xe_sn pg_151 1 (fr' := (22, [(0, .ref 165), (1, .int 1)], [.int 0])) rfl ?_
      exact xe_end pg_151 rfl
    refine xe_sn pg_153 4 (fr' := (56, [(0, .ref 165), (1, .int 1), (2, .int 9)], [])) rfl ?_
    refine xe_sn pg_153 4 (fr' := (91, [(0, .ref 165), (1, .int 1), (2, .int 9)], [.int 9])) rfl ?_
    refine xe_sn pg_153 4 (fr' := (107, [(0, .ref 165), (1, .int 1), (2, .int 9)], [.int 9, .int 9])) rfl ?_
    refine xe_sn pg_153 4 (fr' := (131, [(0, .ref 165), (1, .int 1), (2, .int 9)], [.int 3, .ref 175])) rfl ?_
    refine xe_sn pg_153 4 (fr' := (135, [(0, .ref 165), (1, .int 1), (2, .int 9)], [.int 12, .ref 175])) rfl ?_
    refine xe_sn pg_153 3 (fr' := (139, [(0, .ref 165), (1, .int 1), (2, .int 9)], [.int 0])) rfl ?_
    exact xe_end pg_153 rfl
  · exact ⟨⟨rfl, rfl, rfl, rfl⟩, Nat.le_of_ble_eq_true rfl, Nat.le_of_ble_eq_true rfl, rfl, fun _ => rfl⟩

set_option maxRecDepth 100000 in
theorem lf_circuit_28 (xs : Nat → Int32) : op_ok xs 172 153 [.ref 0, .int 1, .int 10, .ref 189] [.ref 165, .int 1, .int 10] := by
  refine ⟨0, 0, ?_⟩
  apply Exists.intro
  apply Exists.intro
  apply And.intro
  · refine xe_sn pg_172 4 (fr' := (4, [(0, .ref 0), (1, .int 1), (2, .int 10), (3, .ref 189)], [.int 1, .ref 0, .int 0, .ref 189])) rfl ?_
    refine xe_sn pg_172 1 (fr' := (5, [(0, .ref 0), (1, .int 1), (2, .int 10), (3, .ref 189)], [.int 10, .int 1, .ref 0, .int 0, .ref 189])) rfl ?_
    apply xe_callq pg_172 85 [.ref 0, .int 1, .int 10] (.inl (some (.int 0))) (8, [(0, .ref 0), (1, .int 1), (2, .int 10), (3, .ref 189)], [.int 0, .int 0, .ref 189]) rfl (fun _ => rfl)
    · refine xe_sn pg_85 1 (fr' := (1, [(0, .ref 0), (1, .int 1), (2, .int 10)], [.int 1])) rfl ?_
      apply xe_callq pg_85 92 [.int 1] (.inl none) (4, [(0, .ref 0), (1, .int 1), (2, .int 10)], []) rfl (fun _ => rfl)
      · refine xe_sn pg_92 2 (fr' := (2, [(0, .int 1)], [.int 4, .int 1])) rfl ?_
        apply xe_callq pg_92 95 [.int 1, .int 4] (.inl none) (5, [(0, .int 1)], []) rfl (fun _ => rfl)
        · refine xe_sn pg_95 4 (fr' := (6, [(0, .int 1), (1, .int 4)], [.int 4, .int 1])) rfl ?_
          refine xe_sn pg_95 1 (fr' := (17, [(0, .int 1), (1, .int 4)], [])) rfl ?_
          exact xe_end pg_95 rfl
        exact xe_end pg_92 rfl
      refine xe_sn pg_85 2 (fr' := (7, [(0, .ref 0), (1, .int 1), (2, .int 10)], [.int 12, .int 10])) rfl ?_
      apply xe_callq pg_85 95 [.int 10, .int 12] (.inl none) (10, [(0, .ref 0), (1, .int 1), (2, .int 10)], []) rfl (fun _ => rfl)
      · refine xe_sn pg_95 4 (fr' := (6, [(0, .int 10), (1, .int 12)], [.int 12, .int 10])) rfl ?_
        refine xe_sn pg_95 1 (fr' := (17, [(0, .int 10), (1, .int 12)], [])) rfl ?_
        exact xe_end pg_95 rfl
      refine xe_sn pg_85 4 (fr' := (16, [(0, .ref 0), (1, .int 1), (2, .int 10)], [.ref 132])) rfl ?_
      refine xe_sn pg_85 4 (fr' := (120, [(3, .ref 132), (0, .ref 0), (1, .int 1), (2, .int 10)], [.ref 132])) rfl ?_
      refine xe_sn pg_85 4 (fr' := (127, [(3, .ref 132), (0, .ref 0), (1, .int 1), (2, .int 10)], [.int 1, .ref 138])) rfl ?_
      refine xe_sn pg_85 2 (fr' := (131, [(3, .ref 132), (0, .ref 0), (1, .int 1), (2, .int 10)], [.int 0])) rfl ?_
      exact xe_end pg_85 rfl
    refine xe_sn pg_172 4 (fr' := (18, [(0, .ref 0), (1, .int 1), (2, .int 10), (3, .ref 189)], [.int 0])) rfl ?_
    exact xe_end pg_172 rfl
  refine And.intro ⟨rfl, rfl, rfl, rfl⟩ ?_
  apply And.intro
  · refine xe_sn pg_153 2 (fr' := (2, [(0, .ref 165), (1, .int 1), (2, .int 10)], [.int 1, .ref 165])) rfl ?_
    apply xe_callq pg_153 104 [.int 1] (.inl (some (.int 1))) (5, [(0, .ref 165), (1, .int 1), (2, .int 10)], [.int 1, .ref 165]) rfl (fun _ => rfl)
    · refine xe_sn pg_104 3 (fr' := (3, [(0, .int 1)], [.int 3, .int 0, .int 1])) rfl ?_
      apply xe_callq pg_104 103 [.int 1, .int 0, .int 3] (.inl (some (.int 1))) (6, [(0, .int 1)], [.int 1]) rfl (fun _ => rfl)
      · refine xe_sn pg_103 4 (fr' := (6, [(0, .int 1), (1, .int 0), (2, .int 3)], [.int 1])) rfl ?_
        refine xe_sn pg_103 4 (fr' := (15, [(0, .int 1), (1, .int 0), (2, .int 3)], [.int 1])) rfl ?_
        exact xe_end pg_103 rfl
      exact xe_end pg_104 rfl
    refine xe_sn pg_153 4 (fr' := (12, [(0, .ref 165), (1, .int 1), (2, .int 10)], [.int 11, .int 0, .int 10, .ref 165])) rfl ?_
    apply xe_callq pg_153 103 [.int 10, .int 0, .int 11] (.inl (some (.int 1))) (15, [(0, .ref 165), (1, .int 1), (2, .int 10)], [.int 1, .ref 165]) rfl (fun _ => rfl)
    · refine xe_sn pg_103 4 (fr' := (6, [(0, .int 10), (1, .int 0), (2, .int 11)], [.int 10])) rfl ?_
      refine xe_sn pg_103 4 (fr' := (15, [(0, .int 10), (1, .int 0), (2, .int 11)], [.int 1])) rfl ?_
      exact xe_end pg_103 rfl
    refine xe_sn pg_153 3 (fr' := (23, [(0, .ref 165), (1, .int 1), (2, .int 10)], [.int 1, .ref 165])) rfl ?_
    apply xe_callq pg_153 151 [.ref 165, .int 1] (.inl (some (.int 0))) (26, [(0, .ref 165), (1, .int 1), (2, .int 10)], [.int 0]) rfl (fun _ => rfl)
    · refine xe_sn pg_151 4 (fr' := (6, [(0, .ref 165), (1, .int 1)], [.int 0, .ref 165])) rfl ?_
      refine xe_sn pg_151 4 (fr' := (21, [(0, .ref 165), (1, .int 1)], [])) rfl ?_
      refine xe_sn pg_151 1 (fr' := (22, [(0, .ref 165), (1, .int 1)], [.int 0])) rfl ?_
      exact xe_end pg_151 rfl
    refine xe_sn pg_153 4 (fr' := (56, [(0, .ref 165), (1, .int 1), (2, .int 10)], [])) rfl ?_
    refine xe_sn pg_153 4 (fr' := (91, [(0, .ref 165), (1, .int 1), (2, .int 10)], [.int 10])) rfl ?_
    refine xe_sn pg_153 4 (fr' := (107, [(0, .ref 165), (1, .int 1), (2, .int 10)], [.int 9, .int 10])) rfl ?_
    refine xe_sn pg_153 4 (fr' := (131, [(0, .ref 165), (1, .int 1), (2, .int 10)], [.int 3, .ref 175])) rfl ?_
    refine xe_sn pg_153 4 (fr' := (135, [(0, .ref 165), (1, .int 1), (2, .int 10)], [.int 13, .ref 175])) rfl ?_
    refine xe_sn pg_153 3 (fr' := (139, [(0, .ref 165), (1, .int 1), (2, .int 10)], [.int 0])) rfl ?_
    exact xe_end pg_153 rfl
  · exact ⟨⟨rfl, rfl, rfl, rfl⟩, Nat.le_of_ble_eq_true rfl, Nat.le_of_ble_eq_true rfl, rfl, fun _ => rfl⟩

set_option maxRecDepth 100000 in
theorem lf_circuit_29 (xs : Nat → Int32) : op_ok xs 172 153 [.ref 0, .int 1, .int 11, .ref 189] [.ref 165, .int 1, .int 11] := by
  refine ⟨0, 0, ?_⟩
  apply Exists.intro
  apply Exists.intro
  apply And.intro
  · refine xe_sn pg_172 4 (fr' := (4, [(0, .ref 0), (1, .int 1), (2, .int 11), (3, .ref 189)], [.int 1, .ref 0, .int 0, .ref 189])) rfl ?_
    refine xe_sn pg_172 1 (fr' := (5, [(0, .ref 0), (1, .int 1), (2, .int 11), (3, .ref 189)], [.int 11, .int 1, .ref 0, .int 0, .ref 189])) rfl ?_
    apply xe_callq pg_172 85 [.ref 0, .int 1, .int 11] (.inl (some (.int 0))) (8, [(0, .ref 0), (1, .int 1), (2, .int 11), (3, .ref 189)], [.int 0, .int 0, .ref 189]) rfl (fun _ => rfl)
    · refine xe_sn pg_85 1 (fr' := (1, [(0, .ref 0), (1, .int 1), (2, .int 11)], [.int 1])) rfl ?_
      apply xe_callq pg_85 92 [.int 1] (.inl none) (4, [(0, .ref 0), (1, .int 1), (2, .int 11)], []) rfl (fun _ => rfl)
      · refine xe_sn pg_92 2 (fr' := (2, [(0, .int 1)], [.int 4, .int 1])) rfl ?_
        apply xe_callq pg_92 95 [.int 1, .int 4] (.inl none) (5, [(0, .int 1)], []) rfl (fun _ => rfl)
        · refine xe_sn pg_95 4 (fr' := (6, [(0, .int 1), (1, .int 4)], [.int 4, .int 1])) rfl ?_
          refine xe_sn pg_95 1 (fr' := (17, [(0, .int 1), (1, .int 4)], [])) rfl ?_
          exact xe_end pg_95 rfl
        exact xe_end pg_92 rfl
      refine xe_sn pg_85 2 (fr' := (7, [(0, .ref 0), (1, .int 1), (2, .int 11)], [.int 12, .int 11])) rfl ?_
      apply xe_callq pg_85 95 [.int 11, .int 12] (.inl none) (10, [(0, .ref 0), (1, .int 1), (2, .int 11)], []) rfl (fun _ => rfl)
      · refine xe_sn pg_95 4 (fr' := (6, [(0, .int 11), (1, .int 12)], [.int 12, .int 11])) rfl ?_
        refine xe_sn pg_95 1 (fr' := (17, [(0, .int 11), (1, .int 12)], [])) rfl ?_
        exact xe_end pg_95 rfl
      refine xe_sn pg_85 4 (fr' := (16, [(0, .ref 0), (1, .int 1), (2, .int 11)], [.ref 132])) rfl ?_
      refine xe_sn pg_85 4 (fr' := (120, [(3, .ref 132), (0, .ref 0), (1, .int 1), (2, .int 11)], [.ref 132])) rfl ?_
      refine xe_sn pg_85 4 (fr' := (127, [(3, .ref 132), (0, .ref 0), (1, .int 1), (2, .int 11)], [.int 2, .ref 138])) rfl ?_
      refine xe_sn pg_85 2 (fr' := (131, [(3, .ref 132), (0, .ref 0), (1, .int 1), (2, .int 11)], [.int 0])) rfl ?_
      exact xe_end pg_85 rfl
    refine xe_sn pg_172 4 (fr' := (18, [(0, .ref 0), (1, .int 1), (2, .int 11), (3, .ref 189)], [.int 0])) rfl ?_
    exact xe_end pg_172 rfl
  refine And.intro ⟨rfl, rfl, rfl, rfl⟩ ?_
  apply And.intro
  · refine xe_sn pg_153 2 (fr' := (2, [(0, .ref 165), (1, .int 1), (2, .int 11)], [.int 1, .ref 165])) rfl ?_
    apply xe_callq pg_153 104 [.int 1] (.inl (some (.int 1))) (5, [(0, .ref 165), (1, .int 1), (2, .int 11)], [.int 1, .ref 165]) rfl (fun _ => rfl)
    · refine xe_sn pg_104 3 (fr' := (3, [(0, .int 1)], [.int 3, .int 0, .int 1])) rfl ?_
      apply xe_callq pg_104 103 [.int 1, .int 0, .int 3] (.inl (some (.int 1))) (6, [(0, .int 1)], [.int 1]) rfl (fun _ => rfl)
      · refine xe_sn pg_103 4 (fr' := (6, [(0, .int 1), (1, .int 0), (2, .int 3)], [.int 1])) rfl ?_
        refine xe_sn pg_103 4 (fr' := (15, [(0, .int 1), (1, .int 0), (2, .int 3)], [.int 1])) rfl ?_
        exact xe_end pg_103 rfl
      exact xe_end pg_104 rfl
    refine xe_sn pg_153 4 (fr' := (12, [(0, .ref 165), (1, .int 1), (2, .int 11)], [.int 11, .int 0, .int 11, .ref 165])) rfl ?_
    apply xe_callq pg_153 103 [.int 11, .int 0, .int 11] (.inl (some (.int 1))) (15, [(0, .ref 165), (1, .int 1), (2, .int 11)], [.int 1, .ref 165]) rfl (fun _ => rfl)
    · refine xe_sn pg_103 4 (fr' := (6, [(0, .int 11), (1, .int 0), (2, .int 11)], [.int 11])) rfl ?_
      refine xe_sn pg_103 4 (fr' := (15, [(0, .int 11), (1, .int 0), (2, .int 11)], [.int 1])) rfl ?_
      exact xe_end pg_103 rfl
    refine xe_sn pg_153 3 (fr' := (23, [(0, .ref 165), (1, .int 1), (2, .int 11)], [.int 1, .ref 165])) rfl ?_
    apply xe_callq pg_153 151 [.ref 165, .int 1] (.inl (some (.int 0))) (26, [(0, .ref 165), (1, .int 1), (2, .int 11)], [.int 0]) rfl (fun _ => rfl)
    · refine xe_sn pg_151 4 (fr' := (6, [(0, .ref 165), (1, .int 1)], [.int 0, .ref 165])) rfl ?_
      refine xe_sn pg_151 4 (fr' := (21, [(0, .ref 165), (1, .int 1)], [])) rfl ?_
      refine xe_sn pg_151 1 (fr' := (22, [(0, .ref 165), (1, .int 1)], [.int 0])) rfl ?_
      exact xe_end pg_151 rfl
    refine xe_sn pg_153 4 (fr' := (56, [(0, .ref 165), (1, .int 1), (2, .int 11)], [])) rfl ?_
    refine xe_sn pg_153 4 (fr' := (91, [(0, .ref 165), (1, .int 1), (2, .int 11)], [.int 11])) rfl ?_
    refine xe_sn pg_153 4 (fr' := (107, [(0, .ref 165), (1, .int 1), (2, .int 11)], [.int 9, .int 11])) rfl ?_
    refine xe_sn pg_153 4 (fr' := (131, [(0, .ref 165), (1, .int 1), (2, .int 11)], [.int 3, .ref 175])) rfl ?_
    refine xe_sn pg_153 4 (fr' := (135, [(0, .ref 165), (1, .int 1), (2, .int 11)], [.int 14, .ref 175])) rfl ?_
    refine xe_sn pg_153 3 (fr' := (139, [(0, .ref 165), (1, .int 1), (2, .int 11)], [.int 0])) rfl ?_
    exact xe_end pg_153 rfl
  · exact ⟨⟨rfl, rfl, rfl, rfl⟩, Nat.le_of_ble_eq_true rfl, Nat.le_of_ble_eq_true rfl, rfl, fun _ => rfl⟩

set_option maxRecDepth 100000 in
theorem lf_circuit_30 (xs : Nat → Int32) (p1 : Int32) (a1 : p1.toInt < 0) : op_ok xs 172 153 [.ref 0, .int 2, .int p1, .ref 189] [.ref 165, .int 2, .int p1] := by
  refine ⟨1, 0, ?_⟩
  apply Exists.intro
  apply Exists.intro
  apply And.intro
  · refine xe_sn pg_172 4 (fr' := (4, [(0, .ref 0), (1, .int 2), (2, .int p1), (3, .ref 189)], [.int 2, .ref 0, .int 0, .ref 189])) rfl ?_
    refine xe_sn pg_172 1 (fr' := (5, [(0, .ref 0), (1, .int 2), (2, .int p1), (3, .ref 189)], [.int p1, .int 2, .ref 0, .int 0, .ref 189])) rfl ?_
    apply xe_callq pg_172 85 [.ref 0, .int 2, .int p1] (.inr 0) (15, [(0, .ref 0), (1, .int 2), (2, .int p1), (3, .ref 189)], []) rfl (fun _ => rfl)
    · refine xe_sn pg_85 1 (fr' := (1, [(0, .ref 0), (1, .int 2), (2, .int p1)], [.int 2])) rfl ?_
      apply xe_callq pg_85 92 [.int 2] (.inl none) (4, [(0, .ref 0), (1, .int 2), (2, .int p1)], []) rfl (fun _ => rfl)
      · refine xe_sn pg_92 2 (fr' := (2, [(0, .int 2)], [.int 4, .int 2])) rfl ?_
        apply xe_callq pg_92 95 [.int 2, .int 4] (.inl none) (5, [(0, .int 2)], []) rfl (fun _ => rfl)
        · refine xe_sn pg_95 4 (fr' := (6, [(0, .int 2), (1, .int 4)], [.int 4, .int 2])) rfl ?_
          refine xe_sn pg_95 1 (fr' := (17, [(0, .int 2), (1, .int 4)], [])) rfl ?_
          exact xe_end pg_95 rfl
        exact xe_end pg_92 rfl
      refine xe_sn pg_85 2 (fr' := (7, [(0, .ref 0), (1, .int 2), (2, .int p1)], [.int 12, .int p1])) rfl ?_
      apply xe_callqx pg_85 95 [.int p1, .int 12] 0 rfl (fun _ => rfl)
      · refine xe_sn pg_95 1 (fr' := (1, [(0, .int p1), (1, .int 12)], [.int p1])) rfl ?_
        refine xe_t1 pg_95 9 rfl rfl (by show (p1).toInt < 0; omega) ?_
        exact xe_end pg_95 rfl
    refine xe_sn pg_172 1 (fr' := (16, [(0, .ref 0), (1, .int 2), (2, .int p1), (3, .ref 189)], [.int 1])) rfl ?_
    exact xe_end pg_172 rfl
  refine And.intro ⟨rfl, rfl, rfl, rfl⟩ ?_
  apply And.intro
  · refine xe_sn pg_153 2 (fr' := (2, [(0, .ref 165), (1, .int 2), (2, .int p1)], [.int 2, .ref 165])) rfl ?_
    apply xe_callq pg_153 104 [.int 2] (.inl (some (.int 1))) (5, [(0, .ref 165), (1, .int 2), (2, .int p1)], [.int 1, .ref 165]) rfl (fun _ => rfl)
    · refine xe_sn pg_104 3 (fr' := (3, [(0, .int 2)], [.int 3, .int 0, .int 2])) rfl ?_
      apply xe_callq pg_104 103 [.int 2, .int 0, .int 3] (.inl (some (.int 1))) (6, [(0, .int 2)], [.int 1]) rfl (fun _ => rfl)
      · refine xe_sn pg_103 4 (fr' := (6, [(0, .int 2), (1, .int 0), (2, .int 3)], [.int 2])) rfl ?_
        refine xe_sn pg_103 4 (fr' := (15, [(0, .int 2), (1, .int 0), (2, .int 3)], [.int 1])) rfl ?_
        exact xe_end pg_103 rfl
      exact xe_end pg_104 rfl
    refine xe_sn pg_153 4 (fr' := (12, [(0, .ref 165), (1, .int 2), (2, .int p1)], [.int 11, .int 0, .int p1, .ref 165])) rfl ?_
    apply xe_callq pg_153 103 [.int p1, .int 0, .int 11] (.inl (some (.int 0))) (15, [(0, .ref 165), (1, .int 2), (2, .int p1)], [.int 0, .ref 165]) rfl (fun _ => rfl)
    · refine xe_sn pg_103 2 (fr' := (2, [(0, .int p1), (1, .int 0), (2, .int 11)], [.int 0, .int p1])) rfl ?_
      refine xe_t2 pg_103 14 rfl rfl (by show (p1).toInt < 0; omega) ?_
      refine xe_sn pg_103 1 (fr' := (15, [(0, .int p1), (1, .int 0), (2, .int 11)], [.int 0])) rfl ?_
      exact xe_end pg_103 rfl
    refine xe_sn pg_153 2 (fr' := (23, [(0, .ref 165), (1, .int 2), (2, .int p1)], [.int 0, .ref 165])) rfl ?_
    apply xe_callq pg_153 151 [.ref 165, .int 0] (.inl (some (.int 1))) (26, [(0, .ref 165), (1, .int 2), (2, .int p1)], [.int 1]) rfl (fun _ => rfl)
    · refine xe_sn pg_151 4 (fr' := (10, [(0, .ref 165), (1, .int 0)], [.int 1, .ref 165])) rfl ?_
      refine xe_sn pg_151 4 (fr' := (18, [(0, .ref 165), (1, .int 0)], [.int 1])) rfl ?_
      refine xe_sn pg_151 1 (fr' := (22, [(0, .ref 165), (1, .int 0)], [.int 1])) rfl ?_
      exact xe_end pg_151 rfl
    refine xe_sn pg_153 2 (fr' := (30, [(0, .ref 165), (1, .int 2), (2, .int p1)], [.int 0])) rfl ?_
    exact xe_end pg_153 rfl
  · exact ⟨⟨rfl, rfl, rfl, rfl⟩, Nat.le_of_ble_eq_true rfl, Nat.le_of_ble_eq_true rfl, rfl, fun q => absurd q (by decide)⟩

set_option maxRecDepth 100000 in
theorem lf_circuit_31 (xs : Nat → Int32) (p1 : Int32) (b1 : 11 < p1.toInt) : op_ok xs 172 153 [.ref 0, .int 2, .int p1, .ref 189] [.ref 165, .int 2, .int p1] := by
  refine ⟨1, 0, ?_⟩
  apply Exists.intro
  apply Exists.intro
  apply And.intro
  · refine xe_sn pg_172 4 (fr' := (4, [(0, .ref 0), (1, .int 2), (2, .int p1), (3, .ref 189)], [.int 2, .ref 0, .int 0, .ref 189])) rfl ?_
    refine xe_sn pg_172 1 (fr' := (5, [(0, .ref 0), (1, .int 2), (2, .int p1), (3, .ref 189)], [.int p1, .int 2, .ref 0, .int 0, .ref 189])) rfl ?_
    apply xe_callq pg_172 85 [.ref 0, .int 2, .int p1] (.inr 0) (15, [(0, .ref 0), (1, .int 2), (2, .int p1), (3, .ref 189)], []) rfl (fun _ => rfl)
    · refine xe_sn pg_85 1 (fr' := (1, [(0, .ref 0), (1, .int 2), (2, .int p1)], [.int 2])) rfl ?_
      apply xe_callq pg_85 92 [.int 2] (.inl none) (4, [(0, .ref 0), (1, .int 2), (2, .int p1)], []) rfl (fun _ => rfl)
      · refine xe_sn pg_92 2 (fr' := (2, [(0, .int 2)], [.int 4, .int 2])) rfl ?_
        apply xe_callq pg_92 95 [.int 2, .int 4] (.inl none) (5, [(0, .int 2)], []) rfl (fun _ => rfl)
        · refine xe_sn pg_95 4 (fr' := (6, [(0, .int 2), (1, .int 4)], [.int 4, .int 2])) rfl ?_
          refine xe_sn pg_95 1 (fr' := (17, [(0, .int 2), (1, .int 4)], [])) rfl ?_
          exact xe_end pg_95 rfl
        exact xe_end pg_92 rfl
      refine xe_sn pg_85 2 (fr' := (7, [(0, .ref 0), (1, .int 2), (2, .int p1)], [.int 12, .int p1])) rfl ?_
      apply xe_callqx pg_85 95 [.int p1, .int 12] 0 rfl (fun _ => rfl)
      · refine xe_sn pg_95 1 (fr' := (1, [(0, .int p1), (1, .int 12)], [.int p1])) rfl ?_
        refine xe_f1 pg_95 9 rfl rfl (by show ¬ ((p1).toInt < 0); omega) ?_
        refine xe_sn pg_95 2 (fr' := (6, [(0, .int p1), (1, .int 12)], [.int 12, .int p1])) rfl ?_
        refine xe_f2 pg_95 17 rfl rfl (by show ¬ ((p1).toInt < 12); omega) ?_
        exact xe_end pg_95 rfl
    refine xe_sn pg_172 1 (fr' := (16, [(0, .ref 0), (1, .int 2), (2, .int p1), (3, .ref 189)], [.int 1])) rfl ?_
    exact xe_end pg_172 rfl
  refine And.intro ⟨rfl, rfl, rfl, rfl⟩ ?_
  apply And.intro
  · refine xe_sn pg_153 2 (fr' := (2, [(0, .ref 165), (1, .int 2), (2, .int p1)], [.int 2, .ref 165])) rfl ?_
    apply xe_callq pg_153 104 [.int 2] (.inl (some (.int 1))) (5, [(0, .ref 165), (1, .int 2), (2, .int p1)], [.int 1, .ref 165]) rfl (fun _ => rfl)
    · refine xe_sn pg_104 3 (fr' := (3, [(0, .int 2)], [.int 3, .int 0, .int 2])) rfl ?_
      apply xe_callq pg_104 103 [.int 2, .int 0, .int 3] (.inl (some (.int 1))) (6, [(0, .int 2)], [.int 1]) rfl (fun _ => rfl)
      · refine xe_sn pg_103 4 (fr' := (6, [(0, .int 2), (1, .int 0), (2, .int 3)], [.int 2])) rfl ?_
        refine xe_sn pg_103 4 (fr' := (15, [(0, .int 2), (1, .int 0), (2, .int 3)], [.int 1])) rfl ?_
        exact xe_end pg_103 rfl
      exact xe_end pg_104 rfl
    refine xe_sn pg_153 4 (fr' := (12, [(0, .ref 165), (1, .int 2), (2, .int p1)], [.int 11, .int 0, .int p1, .ref 165])) rfl ?_
    apply xe_callq pg_153 103 [.int p1, .int 0, .int 11] (.inl (some (.int 0))) (15, [(0, .ref 165), (1, .int 2), (2, .int p1)], [.int 0, .ref 165]) rfl (fun _ => rfl)
    · refine xe_sn pg_103 2 (fr' := (2, [(0, .int p1), (1, .int 0), (2, .int 11)], [.int 0, .int p1])) rfl ?_
      refine xe_f2 pg_103 14 rfl rfl (by show ¬ ((p1).toInt < 0); omega) ?_
      refine xe_sn pg_103 2 (fr' := (7, [(0, .int p1), (1, .int 0), (2, .int 11)], [.int 11, .int p1])) rfl ?_
      refine xe_t2 pg_103 14 rfl rfl (by show 11 < (p1).toInt; omega) ?_
      refine xe_sn pg_103 1 (fr' := (15, [(0, .int p1), (1, .int 0), (2, .int 11)], [.int 0])) rfl ?_
      exact xe_end pg_103 rfl
    refine xe_sn pg_153 2 (fr' := (23, [(0, .ref 165), (1, .int 2), (2, .int p1)], [.int 0, .ref 165])) rfl ?_
    apply xe_callq pg_153 151 [.ref 165, .int 0] (.inl (some (.int 1))) (26, [(0, .ref 165), (1, .int 2), (2, .int p1)], [.int 1]) rfl (fun _ => rfl)
    · refine xe_sn pg_151 4 (fr' := (10, [(0, .ref 165), (1, .int 0)], [.int 1, .ref 165])) rfl ?_
      refine xe_sn pg_151 4 (fr' := (18, [(0, .ref 165), (1, .int 0)], [.int 1])) rfl ?_
      refine xe_sn pg_151 1 (fr' := (22, [(0, .ref 165), (1, .int 0)], [.int 1])) rfl ?_
      exact xe_end pg_151 rfl
    refine xe_sn pg_153 2 (fr' := (30, [(0, .ref 165), (1, .int 2), (2, .int p1)], [.int 0])) rfl ?_
    exact xe_end pg_153 rfl
  · exact ⟨⟨rfl, rfl, rfl, rfl⟩, Nat.le_of_ble_eq_true rfl, Nat.le_of_ble_eq_true rfl, rfl, fun q => absurd q (by decide)⟩

set_option maxRecDepth 100000 in
theorem lf_circuit_32 (xs : Nat → Int32) : op_ok xs 172 153 [.ref 0, .int 2, .int 0, .ref 189] [.ref 165, .int 2, .int 0] := by
  refine ⟨0, 0, ?_⟩
  apply Exists.intro
  apply Exists.intro
  apply And.intro
  · refine xe_sn pg_172 4 (fr' := (4, [(0, .ref 0), (1, .int 2), (2, .int 0), (3, .ref 189)], [.int 2, .ref 0, .int 0, .ref 189])) rfl ?_
    refine xe_sn pg_172 1 (fr' := (5, [(0, .ref 0), (1, .int 2), (2, .int 0), (3, .ref 189)], [.int 0, .int 2, .ref 0, .int 0, .ref 189])) rfl ?_
    apply xe_callq pg_172 85 [.ref 0, .int 2, .int 0] (.inl (some (.int 0))) (8, [(0, .ref 0), (1, .int 2), (2, .int 0), (3, .ref 189)], [.int 0, .int 0, .ref 189]) rfl (fun _ => rfl)
    · refine xe_sn pg_85 1 (fr' := (1, [(0, .ref 0), (1, .int 2), (2, .int 0)], [.int 2])) rfl ?_
      apply xe_callq pg_85 92 [.int 2] (.inl none) (4, [(0, .ref 0), (1, .int 2), (2, .int 0)], []) rfl (fun _ => rfl)
      · refine xe_sn pg_92 2 (fr' := (2, [(0, .int 2)], [.int 4, .int 2])) rfl ?_
        apply xe_callq pg_92 95 [.int 2, .int 4] (.inl none) (5, [(0, .int 2)], []) rfl (fun _ => rfl)
        · refine xe_sn pg_95 4 (fr' := (6, [(0, .int 2), (1, .int 4)], [.int 4, .int 2])) rfl ?_
          refine xe_sn pg_95 1 (fr' := (17, [(0, .int 2), (1, .int 4)], [])) rfl ?_
          exact xe_end pg_95 rfl
        exact xe_end pg_92 rfl
      refine xe_sn pg_85 2 (fr' := (7, [(0, .ref 0), (1, .int 2), (2, .int 0)], [.int 12, .int 0])) rfl ?_
      apply xe_callq pg_85 95 [.int 0, .int 12] (.inl none) (10, [(0, .ref 0), (1, .int 2), (2, .int 0)], []) rfl (fun _ => rfl)
      · refine xe_sn pg_95 4 (fr' := (6, [(0, .int 0), (1, .int 12)], [.int 12, .int 0])) rfl ?_
        refine xe_sn pg_95 1 (fr' := (17, [(0, .int 0), (1, .int 12)], [])) rfl ?_
        exact xe_end pg_95 rfl
      refine xe_sn pg_85 4 (fr' := (16, [(0, .ref 0), (1, .int 2), (2, .int 0)], [.ref 143])) rfl ?_
      refine xe_sn pg_85 4 (fr' := (69, [(3, .ref 143), (0, .ref 0), (1, .int 2), (2, .int 0)], [.ref 143])) rfl ?_
      refine xe_sn pg_85 1 (fr' := (72, [(3, .ref 143), (0, .ref 0), (1, .int 2), (2, .int 0)], [.int 0])) rfl ?_
      exact xe_end pg_85 rfl
    refine xe_sn pg_172 4 (fr' := (18, [(0, .ref 0), (1, .int 2), (2, .int 0), (3, .ref 189)], [.int 0])) rfl ?_
    exact xe_end pg_172 rfl
  refine And.intro ⟨rfl, rfl, rfl, rfl⟩ ?_
  apply And.intro
  · refine xe_sn pg_153 2 (fr' := (2, [(0, .ref 165), (1, .int 2), (2, .int 0)], [.int 2, .ref 165])) rfl ?_
    apply xe_callq pg_153 104 [.int 2] (.inl (some (.int 1))) (5, [(0, .ref 165), (1, .int 2), (2, .int 0)], [.int 1, .ref 165]) rfl (fun _ => rfl)
    · refine xe_sn pg_104 3 (fr' := (3, [(0, .int 2)], [.int 3, .int 0, .int 2])) rfl ?_
      apply xe_callq pg_104 103 [.int 2, .int 0, .int 3] (.inl (some (.int 1))) (6, [(0, .int 2)], [.int 1]) rfl (fun _ => rfl)
      · refine xe_sn pg_103 4 (fr' := (6, [(0, .int 2), (1, .int 0), (2, .int 3)], [.int 2])) rfl ?_
        refine xe_sn pg_103 4 (fr' := (15, [(0, .int 2), (1, .int 0), (2, .int 3)], [.int 1])) rfl ?_
        exact xe_end pg_103 rfl
      exact xe_end pg_104 rfl
    refine xe_sn pg_153 4 (fr' := (12, [(0, .ref 165), (1, .int 2), (2, .int 0)], [.int 11, .int 0, .int 0, .ref 165])) rfl ?_
    apply xe_callq pg_153 103 [.int 0, .int 0, .int 11] (.inl (some (.int 1))) (15, [(0, .ref 165), (1, .int 2), (2, .int 0)], [.int 1, .ref 165]) rfl (fun _ => rfl)
    · refine xe_sn pg_103 4 (fr' := (6, [(0, .int 0), (1, .int 0), (2, .int 11)], [.int 0])) rfl ?_
      refine xe_sn pg_103 4 (fr' := (15, [(0, .int 0), (1, .int 0), (2, .int 11)], [.int 1])) rfl ?_
      exact xe_end pg_103 rfl
    refine xe_sn pg_153 3 (fr' := (23, [(0, .ref 165), (1, .int 2), (2, .int 0)], [.int 1, .ref 165])) rfl ?_
    apply xe_callq pg_153 151 [.ref 165, .int 1] (.inl (some (.int 0))) (26, [(0, .ref 165), (1, .int 2), (2, .int 0)], [.int 0]) rfl (fun _ => rfl)
    · refine xe_sn pg_151 4 (fr' := (6, [(0, .ref 165), (1, .int 1)], [.int 0, .ref 165])) rfl ?_
      refine xe_sn pg_151 4 (fr' := (21, [(0, .ref 165), (1, .int 1)], [])) rfl ?_
      refine xe_sn pg_151 1 (fr' := (22, [(0, .ref 165), (1, .int 1)], [.int 0])) rfl ?_
      exact xe_end pg_151 rfl
    refine xe_sn pg_153 4 (fr' := (36, [(0, .ref 165), (1, .int 2), (2, .int 0)], [])) rfl ?_
    refine xe_sn pg_153 4 (fr' := (44, [(0, .ref 165), (1, .int 2), (2, .int 0)], [.ref 167])) rfl ?_
    refine xe_sn pg_153 3 (fr' := (55, [(0, .ref 165), (1, .int 2), (2, .int 0)], [.int 0])) rfl ?_
    exact xe_end pg_153 rfl
  · exact ⟨⟨rfl, rfl, rfl, rfl⟩, Nat.le_of_ble_eq_true rfl, Nat.le_of_ble_eq_true rfl, rfl, fun _ => rfl⟩

set_option maxRecDepth 100000 in
theorem lf_circuit_33 (xs : Nat → Int32) : op_ok xs 172 153 [.ref 0, .int 2, .int 1, .ref 189] [.ref 165, .int 2, .int 1] := by
  refine ⟨0, 0, ?_⟩
  apply Exists.intro
  apply Exists.intro
  apply And.intro
  · refine xe_sn pg_172 4 (fr' := (4, [(0, .ref 0), (1, .int 2), (2, .int 1), (3, .ref 189)], [.int 2, .ref 0, .int 0, .ref 189])) rfl ?_
    refine xe_sn pg_172 1 (fr' := (5, [(0, .ref 0), (1, .int 2), (2, .int 1), (3, .ref 189)], [.int 1, .int 2, .ref 0, .int 0, .ref 189])) rfl ?_
    apply xe_callq pg_172 85 [.ref 0, .int 2, .int 1] (.inl (some (.int 0))) (8, [(0, .ref 0), (1, .int 2), (2, .int 1), (3, .ref 189)], [.int 0, .int 0, .ref 189]) rfl (fun _ => rfl)
    · refine xe_sn pg_85 1 (fr' := (1, [(0, .ref 0), (1, .int 2), (2, .int 1)], [.int 2])) rfl ?_
      apply xe_callq pg_85 92 [.int 2] (.inl none) (4, [(0, .ref 0), (1, .int 2), (2, .int 1)], []) rfl (fun _ => rfl)
      · refine xe_sn pg_92 2 (fr' := (2, [(0, .int 2)], [.int 4, .int 2])) rfl ?_
        apply xe_callq pg_92 95 [.int 2, .int 4] (.inl none) (5, [(0, .int 2)], []) rfl (fun _ => rfl)
        · refine xe_sn pg_95 4 (fr' := (6, [(0, .int 2), (1, .int 4)], [.int 4, .int 2])) rfl ?_
          refine xe_sn pg_95 1 (fr' := (17, [(0, .int 2), (1, .int 4)], [])) rfl ?_
          exact xe_end pg_95 rfl
        exact xe_end pg_92 rfl
      refine xe_sn pg_85 2 (fr' := (7, [(0, .ref 0), (1, .int 2), (2, .int 1)], [.int 12, .int 1])) rfl ?_
      apply xe_callq pg_85 95 [.int 1, .int 12] (.inl none) (10, [(0, .ref 0), (1, .int 2), (2, .int 1)], []) rfl (fun _ => rfl)
      · refine xe_sn pg_95 4 (fr' := (6, [(0, .int 1), (1, .int 12)], [.int 12, .int 1])) rfl ?_
        refine xe_sn pg_95 1 (fr' := (17, [(0, .int 1), (1, .int 12)], [])) rfl ?_
        exact xe_end pg_95 rfl
      refine xe_sn pg_85 4 (fr' := (16, [(0, .ref 0), (1, .int 2), (2, .int 1)], [.ref 143])) rfl ?_
      refine xe_sn pg_85 4 (fr' := (74, [(3, .ref 143), (0, .ref 0), (1, .int 2), (2, .int 1)], [.ref 143])) rfl ?_
      refine xe_sn pg_85 1 (fr' := (77, [(3, .ref 143), (0, .ref 0), (1, .int 2), (2, .int 1)], [.int 0])) rfl ?_
      exact xe_end pg_85 rfl
    refine xe_sn pg_172 4 (fr' := (18, [(0, .ref 0), (1, .int 2), (2, .int 1), (3, .ref 189)], [.int 0])) rfl ?_
    exact xe_end pg_172 rfl
  refine And.intro ⟨rfl, rfl, rfl, rfl⟩ ?_
  apply And.intro
  · refine xe_sn pg_153 2 (fr' := (2, [(0, .ref 165), (1, .int 2), (2, .int 1)], [.int 2, .ref 165])) rfl ?_
    apply xe_callq pg_153 104 [.int 2] (.inl (some (.int 1))) (5, [(0, .ref 165), (1, .int 2), (2, .int 1)], [.int 1, .ref 165]) rfl (fun _ => rfl)
    · refine xe_sn pg_104 3 (fr' := (3, [(0, .int 2)], [.int 3, .int 0, .int 2])) rfl ?_
      apply xe_callq pg_104 103 [.int 2, .int 0, .int 3] (.inl (some (.int 1))) (6, [(0, .int 2)], [.int 1]) rfl (fun _ => rfl)
      · refine xe_sn pg_103 4 (fr' := (6, [(0, .int 2), (1, .int 0), (2, .int 3)], [.int 2])) rfl ?_
        refine xe_sn pg_103 4 (fr' := (15, [(0, .int 2), (1, .int 0), (2, .int 3)], [.int 1])) rfl ?_
        exact xe_end pg_103 rfl
      exact xe_end pg_104 rfl
    refine xe_sn pg_153 4 (fr' := (12, [(0, .ref 165), (1, .int 2), (2, .int 1)], [.int 11, .int 0, .int 1, .ref 165])) rfl ?_
    apply xe_callq pg_153 103 [.int 1, .int 0, .int 11] (.inl (some (.int 1))) (15, [(0, .ref 165), (1, .int 2), (2, .int 1)], [.int 1, .ref 165]) rfl (fun _ => rfl)
    · refine xe_sn pg_103 4 (fr' := (6, [(0, .int 1), (1, .int 0), (2, .int 11)], [.int 1])) rfl ?_
      refine xe_sn pg_103 4 (fr' := (15, [(0, .int 1), (1, .int 0), (2, .int 11)], [.int 1])) rfl ?_
      exact xe_end pg_103 rfl
    refine xe_sn pg_153 3 (fr' := (23, [(0, .ref 165), (1, .int 2), (2, .int 1)], [.int 1, .ref 165])) rfl ?_
    apply xe_callq pg_153 151 [.ref 165, .int 1] (.inl (some (.int 0))) (26, [(0, .ref 165), (1, .int 2), (2, .int 1)], [.int 0]) rfl (fun _ => rfl)
    · refine xe_sn pg_151 4 (fr' := (6, [(0, .ref 165), (1, .int 1)], [.int 0, .ref 165])) rfl ?_
      refine xe_sn pg_151 4 (fr' := (21, [(0, .ref 165), (1, .int 1)], [])) rfl ?_
      refine xe_sn pg_151 1 (fr' := (22, [(0, .ref 165), (1, .int 1)], [.int 0])) rfl ?_
      exact xe_end pg_151 rfl
    refine xe_sn pg_153 4 (fr' := (36, [(0, .ref 165), (1, .int 2), (2, .int 1)], [])) rfl ?_
    refine xe_sn pg_153 4 (fr' := (53, [(0, .ref 165), (1, .int 2), (2, .int 1)], [.ref 168])) rfl ?_
    refine xe_sn pg_153 2 (fr' := (55, [(0, .ref 165), (1, .int 2), (2, .int 1)], [.int 0])) rfl ?_
    exact xe_end pg_153 rfl
  · exact ⟨⟨rfl, rfl, rfl, rfl⟩, Nat.le_of_ble_eq_true rfl, Nat.le_of_ble_eq_true rfl, rfl, fun _ => rfl⟩

set_option maxRecDepth 100000 in
theorem lf_circuit_34 (xs : Nat → Int32) : op_ok xs 172 153 [.ref 0, .int 2, .int 2, .ref 189] [.ref 165, .int 2, .int 2] := by
  refine ⟨0, (-1), ?_⟩
  apply Exists.intro
  apply Exists.intro
  apply And.intro
  · refine xe_sn pg_172 4 (fr' := (4, [(0, .ref 0), (1, .int 2), (2, .int 2), (3, .ref 189)], [.int 2, .ref 0, .int 0, .ref 189])) rfl ?_
    refine xe_sn pg_172 1 (fr' := (5, [(0, .ref 0), (1, .int 2), (2, .int 2), (3, .ref 189)], [.int 2, .int 2, .ref 0, .int 0, .ref 189])) rfl ?_
    apply xe_callq pg_172 85 [.ref 0, .int 2, .int 2] (.inl (some (.int (-1)))) (8, [(0, .ref 0), (1, .int 2), (2, .int 2), (3, .ref 189)], [.int (-1), .int 0, .ref 189]) rfl (fun _ => rfl)
    · refine xe_sn pg_85 1 (fr' := (1, [(0, .ref 0), (1, .int 2), (2, .int 2)], [.int 2])) rfl ?_
      apply xe_callq pg_85 92 [.int 2] (.inl none) (4, [(0, .ref 0), (1, .int 2), (2, .int 2)], []) rfl (fun _ => rfl)
      · refine xe_sn pg_92 2 (fr' := (2, [(0, .int 2)], [.int 4, .int 2])) rfl ?_
        apply xe_callq pg_92 95 [.int 2, .int 4] (.inl none) (5, [(0, .int 2)], []) rfl (fun _ => rfl)
        · refine xe_sn pg_95 4 (fr' := (6, [(0, .int 2), (1, .int 4)], [.int 4, .int 2])) rfl ?_
          refine xe_sn pg_95 1 (fr' := (17, [(0, .int 2), (1, .int 4)], [])) rfl ?_
          exact xe_end pg_95 rfl
        exact xe_end pg_92 rfl
      refine xe_sn pg_85 2 (fr' := (7, [(0, .ref 0), (1, .int 2), (2, .int 2)], [.int 12, .int 2])) rfl ?_
      apply xe_callq pg_85 95 [.int 2, .int 12] (.inl none) (10, [(0, .ref 0), (1, .int 2), (2, .int 2)], []) rfl (fun _ => rfl)
      · refine xe_sn pg_95 4 (fr' := (6, [(0, .int 2), (1, .int 12)], [.int 12, .int 2])) rfl ?_
        refine xe_sn pg_95 1 (fr' := (17, [(0, .int 2), (1, .int 12)], [])) rfl ?_
        exact xe_end pg_95 rfl
      refine xe_sn pg_85 4 (fr' := (16, [(0, .ref 0), (1, .int 2), (2, .int 2)], [.ref 143])) rfl ?_
      refine xe_sn pg_85 4 (fr' := (79, [(3, .ref 143), (0, .ref 0), (1, .int 2), (2, .int 2)], [.ref 143])) rfl ?_
      refine xe_sn pg_85 3 (fr' := (82, [(3, .ref 143), (0, .ref 0), (1, .int 2), (2, .int 2)], [.int 0, .ref 143])) rfl ?_
      apply xe_callq pg_85 17 [.ref 143, .int 0] (.inl (some (.int 0))) (85, [(3, .ref 143), (0, .ref 0), (1, .int 2), (2, .int 2)], [.int 0]) rfl (fun _ => rfl)
      · refine xe_sn pg_17 4 (fr' := (6, [(0, .ref 143), (1, .int 0)], [.ref 143, .int 0])) rfl ?_
        refine xe_sn pg_17 3 (fr' := (17, [(0, .ref 143), (1, .int 0)], [.int 0])) rfl ?_
        exact xe_end pg_17 rfl
      refine xe_sn pg_85 2 (fr' := (100, [(3, .ref 143), (0, .ref 0), (1, .int 2), (2, .int 2)], [.int (-1)])) rfl ?_
      exact xe_end pg_85 rfl
    refine xe_sn pg_172 4 (fr' := (18, [(0, .ref 0), (1, .int 2), (2, .int 2), (3, .ref 189)], [.int 0])) rfl ?_
    exact xe_end pg_172 rfl
  refine And.intro ⟨rfl, rfl, rfl, rfl⟩ ?_
  apply And.intro
  · refine xe_sn pg_153 2 (fr' := (2, [(0, .ref 165), (1, .int 2), (2, .int 2)], [.int 2, .ref 165])) rfl ?_
    apply xe_callq pg_153 104 [.int 2] (.inl (some (.int 1))) (5, [(0, .ref 165), (1, .int 2), (2, .int 2)], [.int 1, .ref 165]) rfl (fun _ => rfl)
    · refine xe_sn pg_104 3 (fr' := (3, [(0, .int 2)], [.int 3, .int 0, .int 2])) rfl ?_
      apply xe_callq pg_104 103 [.int 2, .int 0, .int 3] (.inl (some (.int 1))) (6, [(0, .int 2)], [.int 1]) rfl (fun _ => rfl)
      · refine xe_sn pg_103 4 (fr' := (6, [(0, .int 2), (1, .int 0), (2, .int 3)], [.int 2])) rfl ?_
        refine xe_sn pg_103 4 (fr' := (15, [(0, .int 2), (1, .int 0), (2, .int 3)], [.int 1])) rfl ?_
        exact xe_end pg_103 rfl
      exact xe_end pg_104 rfl
    refine xe_sn pg_153 4 (fr' := (12, [(0, .ref 165), (1, .int 2), (2, .int 2)], [.int 11, .int 0, .int 2, .ref 165])) rfl ?_
    apply xe_callq pg_153 103 [.int 2, .int 0, .int 11] (.inl (some (.int 1))) (15, [(0, .ref 165), (1, .int 2), (2, .int 2)], [.int 1, .ref 165]) rfl (fun _ => rfl)
    · refine xe_sn pg_103 4 (fr' := (6, [(0, .int 2), (1, .int 0), (2, .int 11)], [.int 2])) rfl ?_
      refine xe_sn pg_103 4 (fr' := (15, [(0, .int 2), (1, .int 0), (2, .int 11)], [.int 1])) rfl ?_
      exact xe_end pg_103 rfl
    refine xe_sn pg_153 3 (fr' := (23, [(0, .ref 165), (1, .int 2), (2, .int 2)], [.int 1, .ref 165])) rfl ?_
    apply xe_callq pg_153 151 [.ref 165, .int 1] (.inl (some (.int 0))) (26, [(0, .ref 165), (1, .int 2), (2, .int 2)], [.int 0]) rfl (fun _ => rfl)
    · refine xe_sn pg_151 4 (fr' := (6, [(0, .ref 165), (1, .int 1)], [.int 0, .ref 165])) rfl ?_
      refine xe_sn pg_151 4 (fr' := (21, [(0, .ref 165), (1, .int 1)], [])) rfl ?_
      refine xe_sn pg_151 1 (fr' := (22, [(0, .ref 165), (1, .int 1)], [.int 0])) rfl ?_
      exact xe_end pg_151 rfl
    refine xe_sn pg_153 4 (fr' := (56, [(0, .ref 165), (1, .int 2), (2, .int 2)], [])) rfl ?_
    refine xe_sn pg_153 4 (fr' := (62, [(0, .ref 165), (1, .int 2), (2, .int 2)], [.int 2])) rfl ?_
    refine xe_sn pg_153 4 (fr' := (68, [(0, .ref 165), (1, .int 2), (2, .int 2)], [.ref 168, .int 0])) rfl ?_
    refine xe_sn pg_153 4 (fr' := (89, [(0, .ref 165), (1, .int 2), (2, .int 2)], [.int (-1)])) rfl ?_
    exact xe_end pg_153 rfl
  · exact ⟨⟨rfl, rfl, rfl, rfl⟩, Nat.le_of_ble_eq_true rfl, Nat.le_of_ble_eq_true rfl, rfl, fun _ => rfl⟩

set_option maxRecDepth 100000 in
theorem lf_circuit_35 (xs : Nat → Int32) : op_ok xs 172 153 [.ref 0, .int 2, .int 3, .ref 189] [.ref 165, .int 2, .int 3] := by
  refine ⟨0, (-1), ?_⟩
  apply Exists.intro
  apply Exists.intro
  apply And.intro
  · refine xe_sn pg_172 4 (fr' := (4, [(0, .ref 0), (1, .int 2), (2, .int 3), (3, .ref 189)], [.int 2, .ref 0, .int 0, .ref 189])) rfl ?_
    refine xe_sn pg_172 1 (fr' := (5, [(0, .ref 0), (1, .int 2), (2, .int 3), (3, .ref 189)], [.int 3, .int 2, .ref 0, .int 0, .ref 189])) rfl ?_
    apply xe_callq pg_172 85 [.ref 0, .int 2, .int 3] (.inl (some (.int (-1)))) (8, [(0, .ref 0), (1, .int 2), (2, .int 3), (3, .ref 189)], [.int (-1), .int 0, .ref 189]) rfl (fun _ => rfl)
    · refine xe_sn pg_85 1 (fr' := (1, [(0, .ref 0), (1, .int 2), (2, .int 3)], [.int 2])) rfl ?_
      apply xe_callq pg_85 92 [.int 2] (.inl none) (4, [(0, .ref 0), (1, .int 2), (2, .int 3)], []) rfl (fun _ => rfl)
      · refine xe_sn pg_92 2 (fr' := (2, [(0, .int 2)], [.int 4, .int 2])) rfl ?_
        apply xe_callq pg_92 95 [.int 2, .int 4] (.inl none) (5, [(0, .int 2)], []) rfl (fun _ => rfl)
        · refine xe_sn pg_95 4 (fr' := (6, [(0, .int 2), (1, .int 4)], [.int 4, .int 2])) rfl ?_
          refine xe_sn pg_95 1 (fr' := (17, [(0, .int 2), (1, .int 4)], [])) rfl ?_
          exact xe_end pg_95 rfl
        exact xe_end pg_92 rfl
      refine xe_sn pg_85 2 (fr' := (7, [(0, .ref 0), (1, .int 2), (2, .int 3)], [.int 12, .int 3])) rfl ?_
      apply xe_callq pg_85 95 [.int 3, .int 12] (.inl none) (10, [(0, .ref 0), (1, .int 2), (2, .int 3)], []) rfl (fun _ => rfl)
      · refine xe_sn pg_95 4 (fr' := (6, [(0, .int 3), (1, .int 12)], [.int 12, .int 3])) rfl ?_
        refine xe_sn pg_95 1 (fr' := (17, [(0, .int 3), (1, .int 12)], [])) rfl ?_
        exact xe_end pg_95 rfl
      refine xe_sn pg_85 4 (fr' := (16, [(0, .ref 0), (1, .int 2), (2, .int 3)], [.ref 143])) rfl ?_
      refine xe_sn pg_85 4 (fr' := (79, [(3, .ref 143), (0, .ref 0), (1, .int 2), (2, .int 3)], [.ref 143])) rfl ?_
      refine xe_sn pg_85 3 (fr' := (82, [(3, .ref 143), (0, .ref 0), (1, .int 2), (2, .int 3)], [.int 1, .ref 143])) rfl ?_
      apply xe_callq pg_85 17 [.ref 143, .int 1] (.inl (some (.int 0))) (85, [(3, .ref 143), (0, .ref 0), (1, .int 2), (2, .int 3)], [.int 0]) rfl (fun _ => rfl)
      · refine xe_sn pg_17 4 (fr' := (6, [(0, .ref 143), (1, .int 1)], [.ref 143, .int 1])) rfl ?_
        refine xe_sn pg_17 3 (fr' := (17, [(0, .ref 143), (1, .int 1)], [.int 0])) rfl ?_
        exact xe_end pg_17 rfl
      refine xe_sn pg_85 2 (fr' := (100, [(3, .ref 143), (0, .ref 0), (1, .int 2), (2, .int 3)], [.int (-1)])) rfl ?_
      exact xe_end pg_85 rfl
    refine xe_sn pg_172 4 (fr' := (18, [(0, .ref 0), (1, .int 2), (2, .int 3), (3, .ref 189)], [.int 0])) rfl ?_
    exact xe_end pg_172 rfl
  refine And.intro ⟨rfl, rfl, rfl, rfl⟩ ?_
  apply And.intro
  · refine xe_sn pg_153 2 (fr' := (2, [(0, .ref 165), (1, .int 2), (2, .int 3)], [.int 2, .ref 165])) rfl ?_
    apply xe_callq pg_153 104 [.int 2] (.inl (some (.int 1))) (5, [(0, .ref 165), (1, .int 2), (2, .int 3)], [.int 1, .ref 165]) rfl (fun _ => rfl)
    · refine xe_sn pg_104 3 (fr' := (3, [(0, .int 2)], [.int 3, .int 0, .int 2])) rfl ?_
      apply xe_callq pg_104 103 [.int 2, .int 0, .int 3] (.inl (some (.int 1))) (6, [(0, .int 2)], [.int 1]) rfl (fun _ => rfl)
      · refine xe_sn pg_103 4 (fr' := (6, [(0, .int 2), (1, .int 0), (2, .int 3)], [.int 2])) rfl ?_
        refine xe_sn pg_103 4 (fr' := (15, [(0, .int 2), (1, .int 0), (2, .int 3)], [.int 1])) rfl ?_
        exact xe_end pg_103 rfl
      exact xe_end pg_104 rfl
    refine xe_sn pg_153 4 (fr' := (12, [(0, .ref 165), (1, .int 2), (2, .int 3)], [.int 11, .int 0, .int 3, .ref 165])) rfl ?_
    apply xe_callq pg_153 103 [.int 3, .int 0, .int 11] (.inl (some (.int 1))) (15, [(0, .ref 165), (1, .int 2), (2, .int 3)], [.int 1, .ref 165]) rfl (fun _ => rfl)
    · refine xe_sn pg_103 4 (fr' := (6, [(0, .int 3), (1, .int 0), (2, .int 11)], [.int 3])) rfl ?_
      refine xe_sn pg_103 4 (fr' := (15, [(0, .int 3), (1, .int 0), (2, .int 11)], [.int 1])) rfl ?_
      exact xe_end pg_103 rfl
    refine xe_sn pg_153 3 (fr' := (23, [(0, .ref 165), (1, .int 2), (2, .int 3)], [.int 1, .ref 165])) rfl ?_
    apply xe_callq pg_153 151 [.ref 165, .int 1] (.inl (some (.int 0))) (26, [(0, .ref 165), (1, .int 2), (2, .int 3)], [.int 0]) rfl (fun _ => rfl)
    · refine xe_sn pg_151 4 (fr' := (6, [(0, .ref 165), (1, .int 1)], [.int 0, .ref 165])) rfl ?_
      refine xe_sn pg_151 4 (fr' := (21, [(0, .ref 165), (1, .int 1)], [])) rfl ?_
      refine xe_sn pg_151 1 (fr' := (22, [(0, .ref 165), (1, .int 1)], [.int 0])) rfl ?_
      exact xe_end pg_151 rfl
    refine xe_sn pg_153 4 (fr' := (56, [(0, .ref 165), (1, .int 2), (2, .int 3)], [])) rfl ?_
    refine xe_sn pg_153 4 (fr' := (62, [(0, .ref 165), (1, .int 2), (2, .int 3)], [.int 3])) rfl ?_
    refine xe_sn pg_153 4 (fr' := (68, [(0, .ref 165), (1, .int 2), (2, .int 3)], [.ref 168, .int 1])) rfl ?_
    refine xe_sn pg_153 4 (fr' := (89, [(0, .ref 165), (1, .int 2), (2, .int 3)], [.int (-1)])) rfl ?_
    exact xe_end pg_153 rfl
  · exact ⟨⟨rfl, rfl, rfl, rfl⟩, Nat.le_of_ble_eq_true rfl, Nat.le_of_ble_eq_true rfl, rfl, fun _ => rfl⟩

set_option maxRecDepth 100000 in
theorem lf_circuit_36 (xs : Nat → Int32) : op_ok xs 172 153 [.ref 0, .int 2, .int 4, .ref 189] [.ref 165, .int 2, .int 4] := by
  refine ⟨0, (-1), ?_⟩
  apply Exists.intro
  apply Exists.intro
  apply And.intro
  · refine xe_sn pg_172 4 (fr' := (4, [(0, .ref 0), (1, .int 2), (2, .int 4), (3, .ref 189)], [.int 2, .ref 0, .int 0, .ref 189])) rfl ?_
    refine xe_sn pg_172 1 (fr' := (5, [(0, .ref 0), (1, .int 2), (2, .int 4), (3, .ref 189)], [.int 4, .int 2, .ref 0, .int 0, .ref 189])) rfl ?_
    apply xe_callq pg_172 85 [.ref 0, .int 2, .int 4] (.inl (some (.int (-1)))) (8, [(0, .ref 0), (1, .int 2), (2, .int 4), (3, .ref 189)], [.int (-1), .int 0, .ref 189]) rfl (fun _ => rfl)
    · refine xe_sn pg_85 1 (fr' := (1, [(0, .ref 0), (1, .int 2), (2, .int 4)], [.int 2])) rfl ?_
      apply xe_callq pg_85 92 [.int 2] (.inl none) (4, [(0, .ref 0), (1, .int 2), (2, .int 4)], []) rfl (fun _ => rfl)
      · refine xe_sn pg_92 2 (fr' := (2, [(0, .int 2)], [.int 4, .int 2])) rfl ?_
        apply xe_callq pg_92 95 [.int 2, .int 4] (.inl none) (5, [(0, .int 2)], []) rfl (fun _ => rfl)
        · refine xe_sn pg_95 4 (fr' := (6, [(0, .int 2), (1, .int 4)], [.int 4, .int 2])) rfl ?_
          refine xe_sn pg_95 1 (fr' := (17, [(0, .int 2), (1, .int 4)], [])) rfl ?_
          exact xe_end pg_95 rfl
        exact xe_end pg_92 rfl
      refine xe_sn pg_85 2 (fr' := (7, [(0, .ref 0), (1, .int 2), (2, .int 4)], [.int 12, .int 4])) rfl ?_
      apply xe_callq pg_85 95 [.int 4, .int 12] (.inl none) (10, [(0, .ref 0), (1, .int 2), (2, .int 4)], []) rfl (fun _ => rfl)
      · refine xe_sn pg_95 4 (fr' := (6, [(0, .int 4), (1, .int 12)], [.int 12, .int 4])) rfl ?_
        refine xe_sn pg_95 1 (fr' := (17, [(0, .int 4), (1, .int 12)], [])) rfl ?_
        exact xe_end pg_95 rfl
      refine xe_sn pg_85 4 (fr' := (16, [(0, .ref 0), (1, .int 2), (2, .int 4)], [.ref 143])) rfl ?_
      refine xe_sn pg_85 4 (fr' := (79, [(3, .ref 143), (0, .ref 0), (1, .int 2), (2, .int 4)], [.ref 143])) rfl ?_
      refine xe_sn pg_85 3 (fr' := (82, [(3, .ref 143), (0, .ref 0), (1, .int 2), (2, .int 4)], [.int 2, .ref 143])) rfl ?_
      apply xe_callq pg_85 17 [.ref 143, .int 2] (.inl (some (.int 0))) (85, [(3, .ref 143), (0, .ref 0), (1, .int 2), (2, .int 4)], [.int 0]) rfl (fun _ => rfl)
      · refine xe_sn pg_17 4 (fr' := (6, [(0, .ref 143), (1, .int 2)], [.ref 143, .int 2])) rfl ?_
        refine xe_sn pg_17 3 (fr' := (17, [(0, .ref 143), (1, .int 2)], [.int 0])) rfl ?_
        exact xe_end pg_17 rfl
      refine xe_sn pg_85 2 (fr' := (100, [(3, .ref 143), (0, .ref 0), (1, .int 2), (2, .int 4)], [.int (-1)])) rfl ?_
      exact xe_end pg_85 rfl
    refine xe_sn pg_172 4 (fr' := (18, [(0, .ref 0), (1, .int 2), (2, .int 4), (3, .ref 189)], [.int 0])) rfl ?_
    exact xe_end pg_172 rfl
  refine And.intro ⟨rfl, rfl, rfl, rfl⟩ ?_
  apply And.intro
  · refine xe_sn pg_153 2 (fr' := (2, [(0, .ref 165), (1, .int 2), (2, .int 4)], [.int 2, .ref 165])) rfl ?_
    apply xe_callq pg_153 104 [.int 2] (.inl (some (.int 1))) (5, [(0, .ref 165), (1, .int 2), (2, .int 4)], [.int 1, .ref 165]) rfl (fun _ => rfl)
    · refine xe_sn pg_104 3 (fr' := (3, [(0, .int 2)], [.int 3, .int 0, .int 2])) rfl ?_
      apply xe_callq pg_104 103 [.int 2, .int 0, .int 3] (.inl (some (.int 1))) (6, [(0, .int 2)], [.int 1]) rfl (fun _ => rfl)
      · refine xe_sn pg_103 4 (fr' := (6, [(0, .int 2), (1, .int 0), (2, .int 3)], [.int 2])) rfl ?_
        refine xe_sn pg_103 4 (fr' := (15, [(0, .int 2), (1, .int 0), (2, .int 3)], [.int 1])) rfl ?_
        exact xe_end pg_103 rfl
      exact xe_end pg_104 rfl
    refine xe_sn pg_153 4 (fr' := (12, [(0, .ref 165), (1, .int 2), (2, .int 4)], [.int 11, .int 0, .int 4, .ref 165])) rfl ?_
    apply xe_callq pg_153 103 [.int 4, .int 0, .int 11] (.inl (some (.int 1))) (15, [(0, .ref 165), (1, .int 2), (2, .int 4)], [.int 1, .ref 165]) rfl (fun _ => rfl)
    · refine xe_sn pg_103 4 (fr' := (6, [(0, .int 4), (1, .int 0), (2, .int 11)], [.int 4])) rfl ?_
      refine xe_sn pg_103 4 (fr' := (15, [(0, .int 4), (1, .int 0), (2, .int 11)], [.int 1])) rfl ?_
      exact xe_end pg_103 rfl
    refine xe_sn pg_153 3 (fr' := (23, [(0, .ref 165), (1, .int 2), (2, .int 4)], [.int 1, .ref 165])) rfl ?_
    apply xe_callq pg_153 151 [.ref 165, .int 1] (.inl (some (.int 0))) (26, [(0, .ref 165), (1, .int 2), (2, .int 4)], [.int 0]) rfl (fun _ => rfl)
    · refine xe_sn pg_151 4 (fr' := (6, [(0, .ref 165), (1, .int 1)], [.int 0, .ref 165])) rfl ?_
      refine xe_sn pg_151 4 (fr' := (21, [(0, .ref 165), (1, .int 1)], [])) rfl ?_
      refine xe_sn pg_151 1 (fr' := (22, [(0, .ref 165), (1, .int 1)], [.int 0])) rfl ?_
      exact xe_end pg_151 rfl
    refine xe_sn pg_153 4 (fr' := (56, [(0, .ref 165), (1, .int 2), (2, .int 4)], [])) rfl ?_
    refine xe_sn pg_153 4 (fr' := (62, [(0, .ref 165), (1, .int 2), (2, .int 4)], [.int 4])) rfl ?_
    refine xe_sn pg_153 4 (fr' := (68, [(0, .ref 165), (1, .int 2), (2, .int 4)], [.ref 168, .int 2])) rfl ?_
    refine xe_sn pg_153 4 (fr' := (89, [(0, .ref 165), (1, .int 2), (2, .int 4)], [.int (-1)])) rfl ?_
    exact xe_end pg_153 rfl
  · exact ⟨⟨rfl, rfl, rfl, rfl⟩, Nat.le_of_ble_eq_true rfl, Nat.le_of_ble_eq_true rfl, rfl, fun _ => rfl⟩

set_option maxRecDepth 100000 in
theorem lf_circuit_37 (xs : Nat → Int32) : op_ok xs 172 153 [.ref 0, .int 2, .int 5, .ref 189] [.ref 165, .int 2, .int 5] := by
  refine ⟨0, (-1), ?_⟩
  apply Exists.intro
  apply Exists.intro
  apply And.intro
  · refine xe_sn pg_172 4 (fr' := (4, [(0, .ref 0), (1, .int 2), (2, .int 5), (3, .ref 189)], [.int 2, .ref 0, .int 0, .ref 189])) rfl ?_
    refine xe_sn pg_172 1 (fr' := (5, [(0, .ref 0), (1, .int 2), (2, .int 5), (3, .ref 189)], [.int 5, .int 2, .ref 0, .int 0, .ref 189])) rfl ?_
    apply xe_callq pg_172 85 [.ref 0, .int 2, .int 5] (.inl (some (.int (-1)))) (8, [(0, .ref 0), (1, .int 2), (2, .int 5), (3, .ref 189)], [.int (-1), .int 0, .ref 189]) rfl (fun _ => rfl)
    · refine xe_sn pg_85 1 (fr' := (1, [(0, .ref 0), (1, .int 2), (2, .int 5)], [.int 2])) rfl ?_
      apply xe_callq pg_85 92 [.int 2] (.inl none) (4, [(0, .ref 0), (1, .int 2), (2, .int 5)], []) rfl (fun _ => rfl)
      · refine xe_sn pg_92 2 (fr' := (2, [(0, .int 2)], [.int 4, .int 2])) rfl ?_
        apply xe_callq pg_92 95 [.int 2, .int 4] (.inl none) (5, [(0, .int 2)], []) rfl (fun _ => rfl)
        · refine xe_sn pg_95 4 (fr' := (6, [(0, .int 2), (1, .int 4)], [.int 4, .int 2])) rfl ?_
          refine xe_sn pg_95 1 (fr' := (17, [(0, .int 2), (1, .int 4)], [])) rfl ?_
          exact xe_end pg_95 rfl
        exact xe_end pg_92 rfl
      refine xe_sn pg_85 2 (fr' := (7, [(0, .ref 0), (1, .int 2), (2, .int 5)], [.int 12, .int 5])) rfl ?_
      apply xe_callq pg_85 95 [.int 5, .int 12] (.inl none) (10, [(0, .ref 0), (1, .int 2), (2, .int 5)], []) rfl (fun _ => rfl)
      · refine xe_sn pg_95 4 (fr' := (6, [(0, .int 5), (1, .int 12)], [.int 12, .int 5])) rfl ?_
        refine xe_sn pg_95 1 (fr' := (17, [(0, .int 5), (1, .int 12)], [])) rfl ?_
        exact xe_end pg_95 rfl
      refine xe_sn pg_85 4 (fr' := (16, [(0, .ref 0), (1, .int 2), (2, .int 5)], [.ref 143])) rfl ?_
      refine xe_sn pg_85 4 (fr' := (102, [(3, .ref 143), (0, .ref 0), (1, .int 2), (2, .int 5)], [.ref 143])) rfl ?_
      refine xe_sn pg_85 1 (fr' := (105, [(3, .ref 143), (0, .ref 0), (1, .int 2), (2, .int 5)], [.int (-1)])) rfl ?_
      exact xe_end pg_85 rfl
    refine xe_sn pg_172 4 (fr' := (18, [(0, .ref 0), (1, .int 2), (2, .int 5), (3, .ref 189)], [.int 0])) rfl ?_
    exact xe_end pg_172 rfl
  refine And.intro ⟨rfl, rfl, rfl, rfl⟩ ?_
  apply And.intro
  · refine xe_sn pg_153 2 (fr' := (2, [(0, .ref 165), (1, .int 2), (2, .int 5)], [.int 2, .ref 165])) rfl ?_
    apply xe_callq pg_153 104 [.int 2] (.inl (some (.int 1))) (5, [(0, .ref 165), (1, .int 2), (2, .int 5)], [.int 1, .ref 165]) rfl (fun _ => rfl)
    · refine xe_sn pg_104 3 (fr' := (3, [(0, .int 2)], [.int 3, .int 0, .int 2])) rfl ?_
      apply xe_callq pg_104 103 [.int 2, .int 0, .int 3] (.inl (some (.int 1))) (6, [(0, .int 2)], [.int 1]) rfl (fun _ => rfl)
      · refine xe_sn pg_103 4 (fr' := (6, [(0, .int 2), (1, .int 0), (2, .int 3)], [.int 2])) rfl ?_
        refine xe_sn pg_103 4 (fr' := (15, [(0, .int 2), (1, .int 0), (2, .int 3)], [.int 1])) rfl ?_
        exact xe_end pg_103 rfl
      exact xe_end pg_104 rfl
    refine xe_sn pg_153 4 (fr' := (12, [(0, .ref 165), (1, .int 2), (2, .int 5)], [.int 11, .int 0, .int 5, .ref 165])) rfl ?_
    apply xe_callq pg_153 103 [.int 5, .int 0, .int 11] (.inl (some (.int 1))) (15, [(0, .ref 165), (1, .int 2), (2, .int 5)], [.int 1, .ref 165]) rfl (fun _ => rfl)
    · refine xe_sn pg_103 4 (fr' := (6, [(0, .int 5), (1, .int 0), (2, .int 11)], [.int 5])) rfl ?_
      refine xe_sn pg_103 4 (fr' := (15, [(0, .int 5), (1, .int 0), (2, .int 11)], [.int 1])) rfl ?_
      exact xe_end pg_103 rfl
    refine xe_sn pg_153 3 (fr' := (23, [(0, .ref 165), (1, .int 2), (2, .int 5)], [.int 1, .ref 165])) rfl ?_
    apply xe_callq pg_153 151 [.ref 165, .int 1] (.inl (some (.int 0))) (26, [(0, .ref 165), (1, .int 2), (2, .int 5)], [.int 0]) rfl (fun _ => rfl)
    · refine xe_sn pg_151 4 (fr' := (6, [(0, .ref 165), (1, .int 1)], [.int 0, .ref 165])) rfl ?_
      refine xe_sn pg_151 4 (fr' := (21, [(0, .ref 165), (1, .int 1)], [])) rfl ?_
      refine xe_sn pg_151 1 (fr' := (22, [(0, .ref 165), (1, .int 1)], [.int 0])) rfl ?_
      exact xe_end pg_151 rfl
    refine xe_sn pg_153 4 (fr' := (56, [(0, .ref 165), (1, .int 2), (2, .int 5)], [])) rfl ?_
    refine xe_sn pg_153 4 (fr' := (91, [(0, .ref 165), (1, .int 2), (2, .int 5)], [.int 5])) rfl ?_
    refine xe_sn pg_153 4 (fr' := (99, [(0, .ref 165), (1, .int 2), (2, .int 5)], [.ref 171])) rfl ?_
    refine xe_sn pg_153 3 (fr' := (139, [(0, .ref 165), (1, .int 2), (2, .int 5)], [.int (-1)])) rfl ?_
    exact xe_end pg_153 rfl
  · exact ⟨⟨rfl, rfl, rfl, rfl⟩, Nat.le_of_ble_eq_true rfl, Nat.le_of_ble_eq_true rfl, rfl, fun _ => rfl⟩

set_option maxRecDepth 100000 in
theorem lf_circuit_38 (xs : Nat → Int32) : op_ok xs 172 153 [.ref 0, .int 2, .int 6, .ref 189] [.ref 165, .int 2, .int 6] := by
  refine ⟨0, 0, ?_⟩
  apply Exists.intro
  apply Exists.intro
  apply And.intro
  · refine xe_sn pg_172 4 (fr' := (4, [(0, .ref 0), (1, .int 2), (2, .int 6), (3, .ref 189)], [.int 2, .ref 0, .int 0, .ref 189])) rfl ?_
    refine xe_sn pg_172 1 (fr' := (5, [(0, .ref 0), (1, .int 2), (2, .int 6), (3, .ref 189)], [.int 6, .int 2, .ref 0, .int 0, .ref 189])) rfl ?_
    apply xe_callq pg_172 85 [.ref 0, .int 2, .int 6] (.inl (some (.int 0))) (8, [(0, .ref 0), (1, .int 2), (2, .int 6), (3, .ref 189)], [.int 0, .int 0, .ref 189]) rfl (fun _ => rfl)
    · refine xe_sn pg_85 1 (fr' := (1, [(0, .ref 0), (1, .int 2), (2, .int 6)], [.int 2])) rfl ?_
      apply xe_callq pg_85 92 [.int 2] (.inl none) (4, [(0, .ref 0), (1, .int 2), (2, .int 6)], []) rfl (fun _ => rfl)
      · refine xe_sn pg_92 2 (fr' := (2, [(0, .int 2)], [.int 4, .int 2])) rfl ?_
        apply xe_callq pg_92 95 [.int 2, .int 4] (.inl none) (5, [(0, .int 2)], []) rfl (fun _ => rfl)
        · refine xe_sn pg_95 4 (fr' := (6, [(0, .int 2), (1, .int 4)], [.int 4, .int 2])) rfl ?_
          refine xe_sn pg_95 1 (fr' := (17, [(0, .int 2), (1, .int 4)], [])) rfl ?_
          exact xe_end pg_95 rfl
        exact xe_end pg_92 rfl
      refine xe_sn pg_85 2 (fr' := (7, [(0, .ref 0), (1, .int 2), (2, .int 6)], [.int 12, .int 6])) rfl ?_
      apply xe_callq pg_85 95 [.int 6, .int 12] (.inl none) (10, [(0, .ref 0), (1, .int 2), (2, .int 6)], []) rfl (fun _ => rfl)
      · refine xe_sn pg_95 4 (fr' := (6, [(0, .int 6), (1, .int 12)], [.int 12, .int 6])) rfl ?_
        refine xe_sn pg_95 1 (fr' := (17, [(0, .int 6), (1, .int 12)], [])) rfl ?_
        exact xe_end pg_95 rfl
      refine xe_sn pg_85 4 (fr' := (16, [(0, .ref 0), (1, .int 2), (2, .int 6)], [.ref 143])) rfl ?_
      refine xe_sn pg_85 4 (fr' := (107, [(3, .ref 143), (0, .ref 0), (1, .int 2), (2, .int 6)], [.ref 143])) rfl ?_
      refine xe_sn pg_85 4 (fr' := (114, [(3, .ref 143), (0, .ref 0), (1, .int 2), (2, .int 6)], [.int 0, .ref 149])) rfl ?_
      refine xe_sn pg_85 2 (fr' := (118, [(3, .ref 143), (0, .ref 0), (1, .int 2), (2, .int 6)], [.int 0])) rfl ?_
      exact xe_end pg_85 rfl
    refine xe_sn pg_172 4 (fr' := (18, [(0, .ref 0), (1, .int 2), (2, .int 6), (3, .ref 189)], [.int 0])) rfl ?_
    exact xe_end pg_172 rfl
  refine And.intro ⟨rfl, rfl, rfl, rfl⟩ ?_
  apply And.intro
  · refine xe_sn pg_153 2 (fr' := (2, [(0, .ref 165), (1, .int 2), (2, .int 6)], [.int 2, .ref 165])) rfl ?_
    apply xe_callq pg_153 104 [.int 2] (.inl (some (.int 1))) (5, [(0, .ref 165), (1, .int 2), (2, .int 6)], [.int 1, .ref 165]) rfl (fun _ => rfl)
    · refine xe_sn pg_104 3 (fr' := (3, [(0, .int 2)], [.int 3, .int 0, .int 2])) rfl ?_
      apply xe_callq pg_104 103 [.int 2, .int 0, .int 3] (.inl (some (.int 1))) (6, [(0, .int 2)], [.int 1]) rfl (fun _ => rfl)
      · refine xe_sn pg_103 4 (fr' := (6, [(0, .int 2), (1, .int 0), (2, .int 3)], [.int 2])) rfl ?_
        refine xe_sn pg_103 4 (fr' := (15, [(0, .int 2), (1, .int 0), (2, .int 3)], [.int 1])) rfl ?_
        exact xe_end pg_103 rfl
      exact xe_end pg_104 rfl
    refine xe_sn pg_153 4 (fr' := (12, [(0, .ref 165), (1, .int 2), (2, .int 6)], [.int 11, .int 0, .int 6, .ref 165])) rfl ?_
    apply xe_callq pg_153 103 [.int 6, .int 0, .int 11] (.inl (some (.int 1))) (15, [(0, .ref 165), (1, .int 2), (2, .int 6)], [.int 1, .ref 165]) rfl (fun _ => rfl)
    · refine xe_sn pg_103 4 (fr' := (6, [(0, .int 6), (1, .int 0), (2, .int 11)], [.int 6])) rfl ?_
      refine xe_sn pg_103 4 (fr' := (15, [(0, .int 6), (1, .int 0), (2, .int 11)], [.int 1])) rfl ?_
      exact xe_end pg_103 rfl
    refine xe_sn pg_153 3 (fr' := (23, [(0, .ref 165), (1, .int 2), (2, .int 6)], [.int 1, .ref 165])) rfl ?_
    apply xe_callq pg_153 151 [.ref 165, .int 1] (.inl (some (.int 0))) (26, [(0, .ref 165), (1, .int 2), (2, .int 6)], [.int 0]) rfl (fun _ => rfl)
    · refine xe_sn pg_151 4 (fr' := (6, [(0, .ref 165), (1, .int 1)], [.int 0, .ref 165])) rfl ?_
      refine xe_sn pg_151 4 (fr' := (21, [(0, .ref 165), (1, .int 1)], [])) rfl ?_
      refine xe_sn pg_151 1 (fr' := (22, [(0, .ref 165), (1, .int 1)], [.int 0])) rfl ?_
      exact xe_end pg_151 rfl
    refine xe_sn pg_153 4 (fr' := (56, [(0, .ref 165), (1, .int 2), (2, .int 6)], [])) rfl ?_
    refine xe_sn pg_153 4 (fr' := (91, [(0, .ref 165), (1, .int 2), (2, .int 6)], [.int 6])) rfl ?_
    refine xe_sn pg_153 4 (fr' := (107, [(0, .ref 165), (1, .int 2), (2, .int 6)], [.int 9, .int 6])) rfl ?_
    refine xe_sn pg_153 4 (fr' := (115, [(0, .ref 165), (1, .int 2), (2, .int 6)], [.int 3, .ref 173])) rfl ?_
    refine xe_sn pg_153 4 (fr' := (119, [(0, .ref 165), (1, .int 2), (2, .int 6)], [.int 12, .ref 173])) rfl ?_
    refine xe_sn pg_153 4 (fr' := (139, [(0, .ref 165), (1, .int 2), (2, .int 6)], [.int 0])) rfl ?_
    exact xe_end pg_153 rfl
  · exact ⟨⟨rfl, rfl, rfl, rfl⟩, Nat.le_of_ble_eq_true rfl, Nat.le_of_ble_eq_true rfl, rfl, fun _ => rfl⟩

set_option maxRecDepth 100000 in
theorem lf_circuit_39 (xs : Nat → Int32) : op_ok xs 172 153 [.ref 0, .int 2, .int 7, .ref 189] [.ref 165, .int 2, .int 7] := by
  refine ⟨0, 0, ?_⟩
  apply Exists.intro
  apply Exists.intro
  apply And.intro
  · refine xe_sn pg_172 4 (fr' := (4, [(0, .ref 0), (1, .int 2), (2, .int 7), (3, .ref 189)], [.int 2, .ref 0, .int 0, .ref 189])) rfl ?_
    refine xe_sn pg_172 1 (fr' := (5, [(0, .ref 0), (1, .int 2), (2, .int 7), (3, .ref 189)], [.int 7, .int 2, .ref 0, .int 0, .ref 189])) rfl ?_
    apply xe_callq pg_172 85 [.ref 0, .int 2, .int 7] (.inl (some (.int 0))) (8, [(0, .ref 0), (1, .int 2), (2, .int 7), (3, .ref 189)], [.int 0, .int 0, .ref 189]) rfl (fun _ => rfl)
    · refine xe_sn pg_85 1 (fr' := (1, [(0, .ref 0), (1, .int 2), (2, .int 7)], [.int 2])) rfl ?_
      apply xe_callq pg_85 92 [.int 2] (.inl none) (4, [(0, .ref 0), (1, .int 2), (2, .int 7)], []) rfl (fun _ => rfl)
      · refine xe_sn pg_92 2 (fr' := (2, [(0, .int 2)], [.int 4, .int 2])) rfl ?_
        apply xe_callq pg_92 95 [.int 2, .int 4] (.inl none) (5, [(0, .int 2)], []) rfl (fun _ => rfl)
        · refine xe_sn pg_95 4 (fr' := (6, [(0, .int 2), (1, .int 4)], [.int 4, .int 2])) rfl ?_
          refine xe_sn pg_95 1 (fr' := (17, [(0, .int 2), (1, .int 4)], [])) rfl ?_
          exact xe_end pg_95 rfl
        exact xe_end pg_92 rfl
      refine xe_sn pg_85 2 (fr' := (7, [(0, .ref 0), (1, .int 2), (2, .int 7)], [.int 12, .int 7])) rfl ?_
      apply xe_callq pg_85 95 [.int 7, .int 12] (.inl none) (10, [(0, .ref 0), (1, .int 2), (2, .int 7)], []) rfl (fun _ => rfl)
      · refine xe_sn pg_95 4 (fr' := (6, [(0, .int 7), (1, .int 12)], [.int 12, .int 7])) rfl ?_
        refine xe_sn pg_95 1 (fr' := (17, [(0, .int 7), (1, .int 12)], [])) rfl ?_
        exact xe_end pg_95 rfl
      refine xe_sn pg_85 4 (fr' := (16, [(0, .ref 0), (1, .int 2), (2, .int 7)], [.ref 143])) rfl ?_
      refine xe_sn pg_85 4 (fr' := (107, [(3, .ref 143), (0, .ref 0), (1, .int 2), (2, .int 7)], [.ref 143])) rfl ?_
      refine xe_sn pg_85 4 (fr' := (114, [(3, .ref 143), (0, .ref 0), (1, .int 2), (2, .int 7)], [.int 1, .ref 149])) rfl ?_
      refine xe_sn pg_85 2 (fr' := (118, [(3, .ref 143), (0, .ref 0), (1, .int 2), (2, .int 7)], [.int 0])) rfl ?_
      exact xe_end pg_85 rfl
    refine xe_sn pg_172 4 (fr' := (18, [(0, .ref 0), (1, .int 2), (2, .int 7), (3, .ref 189)], [.int 0])) rfl ?_
    exact xe_end pg_172 rfl
  refine And.intro ⟨rfl, rfl, rfl, rfl⟩ ?_
  apply And.intro
  · refine xe_sn pg_153 2 (fr' := (2, [(0, .ref 165), (1, .int 2), (2, .int 7)], [.int 2, .ref 165])) rfl ?_
    apply xe_callq pg_153 104 [.int 2] (.inl (some (.int 1))) (5, [(0, .ref 165), (1, .int 2), (2, .int 7)], [.int 1, .ref 165]) rfl (fun _ => rfl)
    · refine xe_sn pg_104 3 (fr' := (3, [(0, .int 2)], [.int 3, .int 0, .int 2])) rfl ?_
      apply xe_callq pg_104 103 [.int 2, .int 0, .int 3] (.inl (some (.int 1))) (6, [(0, .int 2)], [.int 1]) rfl (fun _ => rfl)
      · refine xe_sn pg_103 4 (fr' := (6, [(0, .int 2), (1, .int 0), (2, .int 3)], [.int 2])) rfl ?_
        refine xe_sn pg_103 4 (fr' := (15, [(0, .int 2), (1, .int 0), (2, .int 3)], [.int 1])) rfl ?_
        exact xe_end pg_103 rfl
      exact xe_end pg_104 rfl
    refine xe_sn pg_153 4 (fr' := (12, [(0, .ref 165), (1, .int 2), (2, .int 7)], [.int 11, .int 0, .int 7, .ref 165])) rfl ?_
    apply xe_callq pg_153 103 [.int 7, .int 0, .int 11] (.inl (some (.int 1))) (15, [(0, .ref 165), (1, .int 2), (2, .int 7)], [.int 1, .ref 165]) rfl (fun _ => rfl)
    · refine xe_sn pg_103 4 (fr' := (6, [(0, .int 7), (1, .int 0), (2, .int 11)], [.int 7])) rfl ?_
      refine xe_sn pg_103 4 (fr' := (15, [(0, .int 7), (1, .int 0), (2, .int 11)], [.int 1])) rfl ?_
      exact xe_end pg_103 rfl
    refine xe_sn pg_153 3 (fr' := (23, [(0, .ref 165), (1, .int 2), (2, .int 7)], [.int 1, .ref 165])) rfl ?_
    apply xe_callq pg_153 151 [.ref 165, .int 1] (.inl (some (.int 0))) (26, [(0, .ref 165), (1, .int 2), (2, .int 7)], [.int 0]) rfl (fun _ => rfl)
    · refine xe_sn pg_151 4 (fr' := (6, [(0, .ref 165), (1, .int 1)], [.int 0, .ref 165])) rfl ?_
      refine xe_sn pg_151 4 (fr' := (21, [(0, .ref 165), (1, .int 1)], [])) rfl ?_
      refine xe_sn pg_151 1 (fr' := (22, [(0, .ref 165), (1, .int 1)], [.int 0])) rfl ?_
      exact xe_end pg_151 rfl
    refine xe_sn pg_153 4 (fr' := (56, [(0, .ref 165), (1, .int 2), (2, .int 7)], [])) rfl ?_
    refine xe_sn pg_153 4 (fr' := (91, [(0, .ref 165), (1, .int 2), (2, .int 7)], [.int 7])) rfl ?_
    refine xe_sn pg_153 4 (fr' := (107, [(0, .ref 165), (1, .int 2), (2, .int 7)], [.int 9, .int 7])) rfl ?_
    refine xe_sn pg_153 4 (fr' := (115, [(0, .ref 165), (1, .int 2), (2, .int 7)], [.int 3, .ref 173])) rfl ?_
    refine xe_sn pg_153 4 (fr' := (119, [(0, .ref 165), (1, .int 2), (2, .int 7)], [.int 13, .ref 173])) rfl ?_
    refine xe_sn pg_153 4 (fr' := (139, [(0, .ref 165), (1, .int 2), (2, .int 7)], [.int 0])) rfl ?_
    exact xe_end pg_153 rfl
  · exact ⟨⟨rfl, rfl, rfl, rfl⟩, Nat.le_of_ble_eq_true rfl, Nat.le_of_ble_eq_true rfl, rfl, fun _ => rfl⟩

set_option maxRecDepth 100000 in
theorem lf_circuit_40 (xs : Nat → Int32) : op_ok xs 172 153 [.ref 0, .int 2, .int 8, .ref 189] [.ref 165, .int 2, .int 8] := by
  refine ⟨0, 0, ?_⟩
  apply Exists.intro
  apply Exists.intro
  apply And.intro
  · refine xe_sn pg_172 4 (fr' := (4, [(0, .ref 0), (1, .int 2), (2, .int 8), (3, .ref 189)], [.int 2, .ref 0, .int 0, .ref 189])) rfl ?_
    refine xe_sn pg_172 1 (fr' := (5, [(0, .ref 0), (1, .int 2), (2, .int 8), (3, .ref 189)], [.int 8, .int 2, .ref 0, .int 0, .ref 189])) rfl ?_
    apply xe_callq pg_172 85 [.ref 0, .int 2, .int 8] (.inl (some (.int 0))) (8, [(0, .ref 0), (1, .int 2), (2, .int 8), (3, .ref 189)], [.int 0, .int 0, .ref 189]) rfl (fun _ => rfl)
    · refine xe_sn pg_85 1 (fr' := (1, [(0, .ref 0), (1, .int 2), (2, .int 8)], [.int 2])) rfl ?_
      apply xe_callq pg_85 92 [.int 2] (.inl none) (4, [(0, .ref 0), (1, .int 2), (2, .int 8)], []) rfl (fun _ => rfl)
      · refine xe_sn pg_92 2 (fr' := (2, [(0, .int 2)], [.int 4, .int 2])) rfl ?_
        apply xe_callq pg_92 95 [.int 2, .int 4] (.inl none) (5, [(0, .int 2)], []) rfl (fun _ => rfl)
        · refine xe_sn pg_95 4 (fr' := (6, [(0, .int 2), (1, .int 4)], [.int 4, .int 2])) rfl ?_
          refine xe_sn pg_95 1 (fr' := (17, [(0, .int 2), (1, .int 4)], [])) rfl ?_
          exact xe_end pg_95 rfl
        exact xe_end pg_92 rfl
      refine xe_sn pg_85 2 (fr' := (7, [(0, .ref 0), (1, .int 2), (2, .int 8)], [.int 12, .int 8])) rfl ?_
      apply xe_callq pg_85 95 [.int 8, .int 12] (.inl none) (10, [(0, .ref 0), (1, .int 2), (2, .int 8)], []) rfl (fun _ => rfl)
      · refine xe_sn pg_95 4 (fr' := (6, [(0, .int 8), (1, .int 12)], [.int 12, .int 8])) rfl ?_
        refine xe_sn pg_95 1 (fr' := (17, [(0, .int 8), (1, .int 12)], [])) rfl ?_
        exact xe_end pg_95 rfl
      refine xe_sn pg_85 4 (fr' := (16, [(0, .ref 0), (1, .int 2), (2, .int 8)], [.ref 143])) rfl ?_
      refine xe_sn pg_85 4 (fr' := (107, [(3, .ref 143), (0, .ref 0), (1, .int 2), (2, .int 8)], [.ref 143])) rfl ?_
      refine xe_sn pg_85 4 (fr' := (114, [(3, .ref 143), (0, .ref 0), (1, .int 2), (2, .int 8)], [.int 2, .ref 149])) rfl ?_
      refine xe_sn pg_85 2 (fr' := (118, [(3, .ref 143), (0, .ref 0), (1, .int 2), (2, .int 8)], [.int 0])) rfl ?_
      exact xe_end pg_85 rfl
    refine xe_sn pg_172 4 (fr' := (18, [(0, .ref 0), (1, .int 2), (2, .int 8), (3, .ref 189)], [.int 0])) rfl ?_
    exact xe_end pg_172 rfl
  refine And.intro ⟨rfl, rfl, rfl, rfl⟩ ?_
  apply And.intro
  · refine xe_sn pg_153 2 (fr' := (2, [(0, .ref 165), (1, .int 2), (2, .int 8)], [.int 2, .ref 165])) rfl ?_
    apply xe_callq pg_153 104 [.int 2] (.inl (some (.int 1))) (5, [(0, .ref 165), (1, .int 2), (2, .int 8)], [.int 1, .ref 165]) rfl (fun _ => rfl)
    · refine xe_sn pg_104 3 (fr' := (3, [(0, .int 2)], [.int 3, .int 0, .int 2])) rfl ?_
      apply xe_callq pg_104 103 [.int 2, .int 0, .int 3] (.inl (some (.int 1))) (6, [(0, .int 2)], [.int 1]) rfl (fun _ => rfl)
      · refine xe_sn pg_103 4 (fr' := (6, [(0, .int 2), (1, .int 0), (2, .int 3)], [.int 2])) rfl ?_
        refine xe_sn pg_103 4 (fr' := (15, [(0, .int 2), (1, .int 0), (2, .int 3)], [.int 1])) rfl ?_
        exact xe_end pg_103 rfl
      exact xe_end pg_104 rfl
    refine xe_sn pg_153 4 (fr' := (12, [(0, .ref 165), (1, .int 2), (2, .int 8)], [.int 11, .int 0, .int 8, .ref 165])) rfl ?_
    apply xe_callq pg_153 103 [.int 8, .int 0, .int 11] (.inl (some (.int 1))) (15, [(0, .ref 165), (1, .int 2), (2, .int 8)], [.int 1, .ref 165]) rfl (fun _ => rfl)
    · refine xe_sn pg_103 4 (fr' := (6, [(0, .int 8), (1, .int 0), (2, .int 11)], [.int 8])) rfl ?_
      refine xe_sn pg_103 4 (fr' := (15, [(0, .int 8), (1, .int 0), (2, .int 11)], [.int 1])) rfl ?_
      exact xe_end pg_103 rfl
    refine xe_sn pg_153 3 (fr' := (23, [(0, .ref 165), (1, .int 2), (2, .int 8)], [.int 1, .ref 165])) rfl ?_
    apply xe_callq pg_153 151 [.ref 165, .int 1] (.inl (some (.int 0))) (26, [(0, .ref 165), (1, .int 2), (2, .int 8)], [.int 0]) rfl (fun _ => rfl)
    · refine xe_sn pg_151 4 (fr' := (6, [(0, .ref 165), (1, .int 1)], [.int 0, .ref 165])) rfl ?_
      refine xe_sn pg_151 4 (fr' := (21, [(0, .ref 165), (1, .int 1)], [])) rfl ?_
      refine xe_sn pg_151 1 (fr' := (22, [(0, .ref 165), (1, .int 1)], [.int 0])) rfl ?_
      exact xe_end pg_151 rfl
    refine xe_sn pg_153 4 (fr' := (56, [(0, .ref 165), (1, .int 2), (2, .int 8)], [])) rfl ?_
    refine xe_sn pg_153 4 (fr' := (91, [(0, .ref 165), (1, .int 2), (2, .int 8)], [.int 8])) rfl ?_
    refine xe_sn pg_153 4 (fr' := (107, [(0, .ref 165), (1, .int 2), (2, .int 8)], [.int 9, .int 8])) rfl ?_
    refine xe_sn pg_153 4 (fr' := (115, [(0, .ref 165), (1, .int 2), (2, .int 8)], [.int 3, .ref 173])) rfl ?_
    refine xe_sn pg_153 4 (fr' := (119, [(0, .ref 165), (1, .int 2), (2, .int 8)], [.int 14, .ref 173])) rfl ?_
    refine xe_sn pg_153 4 (fr' := (139, [(0, .ref 165), (1, .int 2), (2, .int 8)], [.int 0])) rfl ?_
    exact xe_end pg_153 rfl
  · exact ⟨⟨rfl, rfl, rfl, rfl⟩, Nat.le_of_ble_eq_true rfl, Nat.le_of_ble_eq_true rfl, rfl, fun _ => rfl⟩

set_option maxRecDepth 100000 in
theorem lf_circuit_41 (xs : Nat → Int32) : op_ok xs 172 153 [.ref 0, .int 2, .int 9, .ref 189] [.ref 165, .int 2, .int 9] := by
  refine ⟨0, 0, ?_⟩
  apply Exists.intro
  apply Exists.intro
  apply And.intro
  · refine xe_sn pg_172 4 (fr' := (4, [(0, .ref 0), (1, .int 2), (2, .int 9), (3, .ref 189)], [.int 2, .ref 0, .int 0, .ref 189])) rfl ?_
    refine xe_sn pg_172 1 (fr' := (5, [(0, .ref 0), (1, .int 2), (2, .int 9), (3, .ref 189)], [.int 9, .int 2, .ref 0, .int 0, .ref 189])) rfl ?_
    apply xe_callq pg_172 85 [.ref 0, .int 2, .int 9] (.inl (some (.int 0))) (8, [(0, .ref 0), (1, .int 2), (2, .int 9), (3, .ref 189)], [.int 0, .int 0, .ref 189]) rfl (fun _ => rfl)
    · refine xe_sn pg_85 1 (fr' := (1, [(0, .ref 0), (1, .int 2), (2, .int 9)], [.int 2])) rfl ?_
      apply xe_callq pg_85 92 [.int 2] (.inl none) (4, [(0, .ref 0), (1, .int 2), (2, .int 9)], []) rfl (fun _ => rfl)
      · refine xe_sn pg_92 2 (fr' := (2, [(0, .int 2)], [.int 4, .int 2])) rfl ?_
        apply xe_callq pg_92 95 [.int 2, .int 4] (.inl none) (5, [(0, .int 2)], []) rfl (fun _ => rfl)
        · refine xe_sn pg_95 4 (fr' := (6, [(0, .int 2), (1, .int 4)], [.int 4, .int 2])) rfl ?_
          refine xe_sn pg_95 1 (fr' := (17, [(0, .int 2), (1, .int 4)], [])) rfl ?_
          exact xe_end pg_95 rfl
        exact xe_end pg_92 rfl
      refine xe_sn pg_85 2 (fr' := (7, [(0, .ref 0), (1, .int 2), (2, .int 9)], [.int 12, .int 9])) rfl ?_
      apply xe_callq pg_85 95 [.int 9, .int 12] (.inl none) (10, [(0, .ref 0), (1, .int 2), (2, .int 9)], []) rfl (fun _ => rfl)
      · refine xe_sn pg_95 4 (fr' := (6, [(0, .int 9), (1, .int 12)], [.int 12, .int 9])) rfl ?_
        refine xe_sn pg_95 1 (fr' := (17, [(0, .int 9), (1, .int 12)], [])) rfl ?_
        exact xe_end pg_95 rfl
      refine xe_sn pg_85 4 (fr' := (16, [(0, .ref 0), (1, .int 2), (2, .int 9)], [.ref 143])) rfl ?_
      refine xe_sn pg_85 4 (fr' := (120, [(3, .ref 143), (0, .ref 0), (1, .int 2), (2, .int 9)], [.ref 143])) rfl ?_
      refine xe_sn pg_85 4 (fr' := (127, [(3, .ref 143), (0, .ref 0), (1, .int 2), (2, .int 9)], [.int 0, .ref 149])) rfl ?_
      refine xe_sn pg_85 2 (fr' := (131, [(3, .ref 143), (0, .ref 0), (1, .int 2), (2, .int 9)], [.int 0])) rfl ?_
      exact xe_end pg_85 rfl
    refine xe_sn pg_172 4 (fr' := (18, [(0, .ref 0), (1, .int 2), (2, .int 9), (3, .ref 189)], [.int 0])) rfl ?_
    exact xe_end pg_172 rfl
  refine And.intro ⟨rfl, rfl, rfl, rfl⟩ ?_
  apply And.intro
  · refine xe_sn pg_153 2 (fr' := (2, [(0, .ref 165), (1, .int 2), (2, .int 9)], [.int 2, .ref 165])) rfl ?_
    apply xe_callq pg_153 104 [.int 2] (.inl (some (.int 1))) (5, [(0, .ref 165), (1, .int 2), (2, .int 9)], [.int 1, .ref 165]) rfl (fun _ => rfl)
    · refine xe_sn pg_104 3 (fr' := (3, [(0, .int 2)], [.int 3, .int 0, .int 2])) rfl ?_
      apply xe_callq pg_104 103 [.int 2, .int 0, .int 3] (.inl (some (.int 1))) (6, [(0, .int 2)], [.int 1]) rfl (fun _ => rfl)
      · refine xe_sn pg_103 4 (fr' := (6, [(0, .int 2), (1, .int 0), (2, .int 3)], [.int 2])) rfl ?_
        refine xe_sn pg_103 4 (fr' := (15, [(0, .int 2), (1, .int 0), (2, .int 3)], [.int 1])) rfl ?_
        exact xe_end pg_103 rfl
      exact xe_end pg_104 rfl
    refine xe_sn pg_153 4 (fr' := (12, [(0, .ref 165), (1, .int 2), (2, .int 9)], [.int 11, .int 0, .int 9, .ref 165])) rfl ?_
    apply xe_callq pg_153 103 [.int 9, .int 0, .int 11] (.inl (some (.int 1))) (15, [(0, .ref 165), (1, .int 2), (2, .int 9)], [.int 1, .ref 165]) rfl (fun _ => rfl)
    · refine xe_sn pg_103 4 (fr' := (6, [(0, .int 9), (1, .int 0), (2, .int 11)], [.int 9])) rfl ?_
      refine xe_sn pg_103 4 (fr' := (15, [(0, .int 9), (1, .int 0), (2, .int 11)], [.int 1])) rfl ?_
      exact xe_end pg_103 rfl
    refine xe_sn pg_153 3 (fr' := (23, [(0, .ref 165), (1, .int 2), (2, .int 9)], [.int 1, .ref 165])) rfl ?_
    apply xe_callq pg_153 151 [.ref 165, .int 1] (.inl (some (.int 0))) (26, [(0, .ref 165), (1, .int 2), (2, .int 9)], [.int 0]) rfl (fun _ => rfl)
    · refine xe_sn pg_151 4 (fr' := (6, [(0, .ref 165), (1, .int 1)], [.int 0, .ref 165])) rfl ?_
      refine xe_sn pg_151 4 (fr' := (21, [(0, .ref 165), (1, .int 1)], [])) rfl ?_
      refine xe_sn pg_151 1 (fr' := (22, [(0, .ref 165), (1, .int 1)], [.int 0])) rfl ?_
      exact xe_end pg_151 rfl
    refine xe_sn pg_153 4 (fr' := (56, [(0, .ref 165), (1, .int 2), (2, .int 9)], [])) rfl ?_
    refine xe_sn pg_153 4 (fr' := (91, [(0, .ref 165), (1, .int 2), (2, .int 9)], [.int 9])) rfl ?_
    refine xe_sn pg_153 4 (fr' := (107, [(0, .ref 165), (1, .int 2), (2, .int 9)], [.int 9, .int 9])) rfl ?_
    refine xe_sn pg_153 4 (fr' := (131, [(0, .ref 165), (1, .int 2), (2, .int 9)], [.int 3, .ref 175])) rfl ?_
    refine xe_sn pg_153 4 (fr' := (135, [(0, .ref 165), (1, .int 2), (2, .int 9)], [.int 15, .ref 175])) rfl ?_
    refine xe_sn pg_153 3 (fr' := (139, [(0, .ref 165), (1, .int 2), (2, .int 9)], [.int 0])) rfl ?_
    exact xe_end pg_153 rfl
  · exact ⟨⟨rfl, rfl, rfl, rfl⟩, Nat.le_of_ble_eq_true rfl, Nat.le_of_ble_eq_true rfl, rfl, fun _ => rfl⟩

set_option maxRecDepth 100000 in
theorem lf_circuit_42 (xs : Nat → Int32) : op_ok xs 172 153 [.ref 0, .int 2, .int 10, .ref 189] [.ref 165, .int 2, .int 10] := by
  refine ⟨0, 0, ?_⟩
  apply Exists.intro
  apply Exists.intro
  apply And.intro
  · refine xe_sn pg_172 4 (fr' := (4, [(0, .ref 0), (1, .int 2), (2, .int 10), (3, .ref 189)], [.int 2, .ref 0, .int 0, .ref 189])) rfl ?_
    refine xe_sn pg_172 1 (fr' := (5, [(0, .ref 0), (1, .int 2), (2, .int 10), (3, .ref 189)], [.int 10, .int 2, .ref 0, .int 0, .ref 189])) rfl ?_
    apply xe_callq pg_172 85 [.ref 0, .int 2, .int 10] (.inl (some (.int 0))) (8, [(0, .ref 0), (1, .int 2), (2, .int 10), (3, .ref 189)], [.int 0, .int 0, .ref 189]) rfl (fun _ => rfl)
    · refine xe_sn pg_85 1 (fr' := (1, [(0, .ref 0), (1, .int 2), (2, .int 10)], [.int 2])) rfl ?_
      apply xe_callq pg_85 92 [.int 2] (.inl none) (4, [(0, .ref 0), (1, .int 2), (2, .int 10)], []) rfl (fun _ => rfl)
      · refine xe_sn pg_92 2 (fr' := (2, [(0, .int 2)], [.int 4, .int 2])) rfl ?_
        apply xe_callq pg_92 95 [.int 2, .int 4] (.inl none) (5, [(0, .int 2)], []) rfl (fun _ => rfl)
        · refine xe_sn pg_95 4 (fr' := (6, [(0, .int 2), (1, .int 4)], [.int 4, .int 2])) rfl ?_
          refine xe_sn pg_95 1 (fr' := (17, [(0, .int 2), (1, .int 4)], [])) rfl ?_
          exact xe_end pg_95 rfl
        exact xe_end pg_92 rfl
      refine xe_sn pg_85 2 (fr' := (7, [(0, .ref 0), (1, .int 2), (2, .int 10)], [.int 12, .int 10])) rfl ?_
      apply xe_callq pg_85 95 [.int 10, .int 12] (.inl none) (10, [(0, .ref 0), (1, .int 2), (2, .int 10)], []) rfl (fun _ => rfl)
      · refine xe_sn pg_95 4 (fr' := (6, [(0, .int 10), (1, .int 12)], [.int 12, .int 10])) rfl ?_
        refine xe_sn pg_95 1 (fr' := (17, [(0, .int 10), (1, .int 12)], [])) rfl ?_
        exact xe_end pg_95 rfl
      refine xe_sn pg_85 4 (fr' := (16, [(0, .ref 0), (1, .int 2), (2, .int 10)], [.ref 143])) rfl ?_
      refine xe_sn pg_85 4 (fr' := (120, [(3, .ref 143), (0, .ref 0), (1, .int 2), (2, .int 10)], [.ref 143])) rfl ?_
      refine xe_sn pg_85 4 (fr' := (127, [(3, .ref 143), (0, .ref 0), (1, .int 2), (2, .int 10)], [.int 1, .ref 149])) rfl ?_
      refine xe_sn pg_85 2 (fr' := (131, [(3, .ref 143), (0, .ref 0), (1, .int 2), (2, .int 10)], [.int 0])) rfl ?_
      exact xe_end pg_85 rfl
    refine xe_sn pg_172 4 (fr' := (18, [(0, .ref 0), (1, .int 2), (2, .int 10), (3, .ref 189)], [.int 0])) rfl ?_
    exact xe_end pg_172 rfl
  refine And.intro ⟨rfl, rfl, rfl, rfl⟩ ?_
  apply And.intro
  · refine xe_sn pg_153 2 (fr' := (2, [(0, .ref 165), (1, .int 2), (2, .int 10)], [.int 2, .ref 165])) rfl ?_
    apply xe_callq pg_153 104 [.int 2] (.inl (some (.int 1))) (5, [(0, .ref 165), (1, .int 2), (2, .int 10)], [.int 1, .ref 165]) rfl (fun _ => rfl)
    · refine xe_sn pg_104 3 (fr' := (3, [(0, .int 2)], [.int 3, .int 0, .int 2])) rfl ?_
      apply xe_callq pg_104 103 [.int 2, .int 0, .int 3] (.inl (some (.int 1))) (6, [(0, .int 2)], [.int 1]) rfl (fun _ => rfl)
      · refine xe_sn pg_103 4 (fr' := (6, [(0, .int 2), (1, .int 0), (2, .int 3)], [.int 2])) rfl ?_
        refine xe_sn pg_103 4 (fr' := (15, [(0, .int 2), (1, .int 0), (2, .int 3)], [.int 1])) rfl ?_
        exact xe_end pg_103 rfl
      exact xe_end pg_104 rfl
    refine xe_sn pg_153 4 (fr' := (12, [(0, .ref 165), (1, .int 2), (2, .int 10)], [.int 11, .int 0, .int 10, .ref 165])) rfl ?_
    apply xe_callq pg_153 103 [.int 10, .int 0, .int 11] (.inl (some (.int 1))) (15, [(0, .ref 165), (1, .int 2), (2, .int 10)], [.int 1, .ref 165]) rfl (fun _ => rfl)
    · refine xe_sn pg_103 4 (fr' := (6, [(0, .int 10), (1, .int 0), (2, .int 11)], [.int 10])) rfl ?_
      refine xe_sn pg_103 4 (fr' := (15, [(0, .int 10), (1, .int 0), (2, .int 11)], [.int 1])) rfl ?_
      exact xe_end pg_103 rfl
    refine xe_sn pg_153 3 (fr' := (23, [(0, .ref 165), (1, .int 2), (2, .int 10)], [.int 1, .ref 165])) rfl ?_
    apply xe_callq pg_153 151 [.ref 165, .int 1] (.inl (some (.int 0))) (26, [(0, .ref 165), (1, .int 2), (2, .int 10)], [.int 0]) rfl (fun _ => rfl)
    · refine xe_sn pg_151 4 (fr' := (6, [(0, .ref 165), (1, .int 1)], [.int 0, .ref 165])) rfl ?_
      refine xe_sn pg_151 4 (fr' := (21, [(0, .ref 165), (1, .int 1)], [])) rfl ?_
      refine xe_sn pg_151 1 (fr' := (22, [(0, .ref 165), (1, .int 1)], [.int 0])) rfl ?_
      exact xe_end pg_151 rfl
    refine xe_sn pg_153 4 (fr' := (56, [(0, .ref 165), (1, .int 2), (2, .int 10)], [])) rfl ?_
    refine xe_sn pg_153 4 (fr' := (91, [(0, .ref 165), (1, .int 2), (2, .int 10)], [.int 10])) rfl ?_
    refine xe_sn pg_153 4 (fr' := (107, [(0, .ref 165), (1, .int 2), (2, .int 10)], [.int 9, .int 10])) rfl ?_
    refine xe_sn pg_153 4 (fr' := (131, [(0, .ref 165), (1, .int 2), (2, .int 10)], [.int 3, .ref 175])) rfl ?_
    refine xe_sn pg_153 4 (fr' := (135, [(0, .ref 165), (1, .int 2), (2, .int 10)], [.int 16, .ref 175])) rfl ?_
    refine xe_sn pg_153 3 (fr' := (139, [(0, .ref 165), (1, .int 2), (2, .int 10)], [.int 0])) rfl ?_
    exact xe_end pg_153 rfl
  · exact ⟨⟨rfl, rfl, rfl, rfl⟩, Nat.le_of_ble_eq_true rfl, Nat.le_of_ble_eq_true rfl, rfl, fun _ => rfl⟩

set_option maxRecDepth 100000 in
theorem lf_circuit_43 (xs : Nat → Int32) : op_ok xs 172 153 [.ref 0, .int 2, .int 11, .ref 189] [.ref 165, .int 2, .int 11] := by
  refine ⟨0, 0, ?_⟩
  apply Exists.intro
  apply Exists.intro
  apply And.intro
  · refine xe_sn pg_172 4 (fr' := (4, [(0, .ref 0), (1, .int 2), (2, .int 11), (3, .ref 189)], [.int 2, .ref 0, .int 0, .ref 189])) rfl ?_
    refine xe_sn pg_172 1 (fr' := (5, [(0, .ref 0), (1, .int 2), (2, .int 11), (3, .ref 189)], [.int 11, .int 2, .ref 0, .int 0, .ref 189])) rfl ?_
    apply xe_callq pg_172 85 [.ref 0, .int 2, .int 11] (.inl (some (.int 0))) (8, [(0, .ref 0), (1, .int 2), (2, .int 11), (3, .ref 189)], [.int 0, .int 0, .ref 189]) rfl (fun _ => rfl)
    · refine xe_sn pg_85 1 (fr' := (1, [(0, .ref 0), (1, .int 2), (2, .int 11)], [.int 2])) rfl ?_
      apply xe_callq pg_85 92 [.int 2] (.inl none) (4, [(0, .ref 0), (1, .int 2), (2, .int 11)], []) rfl (fun _ => rfl)
      · refine xe_sn pg_92 2 (fr' := (2, [(0, .int 2)], [.int 4, .int 2])) rfl ?_
        apply xe_callq pg_92 95 [.int 2, .int 4] (.inl none) (5, [(0, .int 2)], []) rfl (fun _ => rfl)
        · refine xe_sn pg_95 4 (fr' := (6, [(0, .int 2), (1, .int 4)], [.int 4, .int 2])) rfl ?_
          refine xe_sn pg_95 1 (fr' := (17, [(0, .int 2), (1, .int 4)], [])) rfl ?_
          exact xe_end pg_95 rfl
        exact xe_end pg_92 rfl
      refine xe_sn pg_85 2 (fr' := (7, [(0, .ref 0), (1, .int 2), (2, .int 11)], [.int 12, .int 11])) rfl ?_
      apply xe_callq pg_85 95 [.int 11, .int 12] (.inl none) (10, [(0, .ref 0), (1, .int 2), (2, .int 11)], []) rfl (fun _ => rfl)
      · refine xe_sn pg_95 4 (fr' := (6, [(0, .int 11), (1, .int 12)], [.int 12, .int 11])) rfl ?_
        refine xe_sn pg_95 1 (fr' := (17, [(0, .int 11), (1, .int 12)], [])) rfl ?_
        exact xe_end pg_95 rfl
      refine xe_sn pg_85 4 (fr' := (16, [(0, .ref 0), (1, .int 2), (2, .int 11)], [.ref 143])) rfl ?_
      refine xe_sn pg_85 4 (fr' := (120, [(3, .ref 143), (0, .ref 0), (1, .int 2), (2, .int 11)], [.ref 143])) rfl ?_
      refine xe_sn pg_85 4 (fr' := (127, [(3, .ref 143), (0, .ref 0), (1, .int 2), (2, .int 11)], [.int 2, .ref 149])) rfl ?_
      refine xe_sn pg_85 2 (fr' := (131, [(3, .ref 143), (0, .ref 0), (1, .int 2), (2, .int 11)], [.int 0])) rfl ?_
      exact xe_end pg_85 rfl
    refine xe_sn pg_172 4 (fr' := (18, [(0, .ref 0), (1, .int 2), (2, .int 11), (3, .ref 189)], [.int 0])) rfl ?_
    exact xe_end pg_172 rfl
  refine And.intro ⟨rfl, rfl, rfl, rfl⟩ ?_
  apply And.intro
  · refine xe_sn pg_153 2 (fr' := (2, [(0, .ref 165), (1, .int 2), (2, .int 11)], [.int 2, .ref 165])) rfl ?_
    apply xe_callq pg_153 104 [.int 2] (.inl (some (.int 1))) (5, [(0, .ref 165), (1, .int 2), (2, .int 11)], [.int 1, .ref 165]) rfl (fun _ => rfl)
    · refine xe_sn pg_104 3 (fr' := (3, [(0, .int 2)], [.int 3, .int 0, .int 2])) rfl ?_
      apply xe_callq pg_104 103 [.int 2, .int 0, .int 3] (.inl (some (.int 1))) (6, [(0, .int 2)], [.int 1]) rfl (fun _ => rfl)
      · refine xe_sn pg_103 4 (fr' := (6, [(0, .int 2), (1, .int 0), (2, .int 3)], [.int 2])) rfl ?_
        refine xe_sn pg_103 4 (fr' := (15, [(0, .int 2), (1, .int 0), (2, .int 3)], [.int 1])) rfl ?_
        exact xe_end pg_103 rfl
      exact xe_end pg_104 rfl
    refine xe_sn pg_153 4 (fr' := (12, [(0, .ref 165), (1, .int 2), (2, .int 11)], [.int 11, .int 0, .int 11, .ref 165])) rfl ?_
    apply xe_callq pg_153 103 [.int 11, .int 0, .int 11] (.inl (some (.int 1))) (15, [(0, .ref 165), (1, .int 2), (2, .int 11)], [.int 1, .ref 165]) rfl (fun _ => rfl)
    · refine xe_sn pg_103 4 (fr' := (6, [(0, .int 11), (1, .int 0), (2, .int 11)], [.int 11])) rfl ?_
      refine xe_sn pg_103 4 (fr' := (15, [(0, .int 11), (1, .int 0), (2, .int 11)], [.int 1])) rfl ?_
      exact xe_end pg_103 rfl
    refine xe_sn pg_153 3 (fr' := (23, [(0, .ref 165), (1, .int 2), (2, .int 11)], [.int 1, .ref 165])) rfl ?_
    apply xe_callq pg_153 151 [.ref 165, .int 1] (.inl (some (.int 0))) (26, [(0, .ref 165), (1, .int 2), (2, .int 11)], [.int 0]) rfl (fun _ => rfl)
    · refine xe_sn pg_151 4 (fr' := (6, [(0, .ref 165), (1, .int 1)], [.int 0, .ref 165])) rfl ?_
      refine xe_sn pg_151 4 (fr' := (21, [(0, .ref 165), (1, .int 1)], [])) rfl ?_
      refine xe_sn pg_151 1 (fr' := (22, [(0, .ref 165), (1, .int 1)], [.int 0])) rfl ?_
      exact xe_end pg_151 rfl
    refine xe_sn pg_153 4 (fr' := (56, [(0, .ref 165), (1, .int 2), (2, .int 11)], [])) rfl ?_
    refine xe_sn pg_153 4 (fr' := (91, [(0, .ref 165), (1, .int 2), (2, .int 11)], [.int 11])) rfl ?_
    refine xe_sn pg_153 4 (fr' := (107, [(0, .ref 165), (1, .int 2), (2, .int 11)], [.int 9, .int 11])) rfl ?_
    refine xe_sn pg_153 4 (fr' := (131, [(0, .ref 165), (1, .int 2), (2, .int 11)], [.int 3, .ref 175])) rfl ?_
    refine xe_sn pg_153 4 (fr' := (135, [(0, .ref 165), (1, .int 2), (2, .int 11)], [.int 17, .ref 175])) rfl ?_
    refine xe_sn pg_153 3 (fr' := (139, [(0, .ref 165), (1, .int 2), (2, .int 11)], [.int 0])) rfl ?_
    exact xe_end pg_153 rfl
  · exact ⟨⟨rfl, rfl, rfl, rfl⟩, Nat.le_of_ble_eq_true rfl, Nat.le_of_ble_eq_true rfl, rfl, fun _ => rfl⟩

set_option maxRecDepth 100000 in
theorem lf_circuit_44 (xs : Nat → Int32) (p1 : Int32) (a1 : p1.toInt < 0) : op_ok xs 172 153 [.ref 0, .int 3, .int p1, .ref 189] [.ref 165, .int 3, .int p1] := by
  refine ⟨1, 0, ?_⟩
  apply Exists.intro
  apply Exists.intro
  apply And.intro
  · refine xe_sn pg_172 4 (fr' := (4, [(0, .ref 0), (1, .int 3), (2, .int p1), (3, .ref 189)], [.int 3, .ref 0, .int 0, .ref 189])) rfl ?_
    refine xe_sn pg_172 1 (fr' := (5, [(0, .ref 0), (1, .int 3), (2, .int p1), (3, .ref 189)], [.int p1, .int 3, .ref 0, .int 0, .ref 189])) rfl ?_
    apply xe_callq pg_172 85 [.ref 0, .int 3, .int p1] (.inr 0) (15, [(0, .ref 0), (1, .int 3), (2, .int p1), (3, .ref 189)], []) rfl (fun _ => rfl)
    · refine xe_sn pg_85 1 (fr' := (1, [(0, .ref 0), (1, .int 3), (2, .int p1)], [.int 3])) rfl ?_
      apply xe_callq pg_85 92 [.int 3] (.inl none) (4, [(0, .ref 0), (1, .int 3), (2, .int p1)], []) rfl (fun _ => rfl)
      · refine xe_sn pg_92 2 (fr' := (2, [(0, .int 3)], [.int 4, .int 3])) rfl ?_
        apply xe_callq pg_92 95 [.int 3, .int 4] (.inl none) (5, [(0, .int 3)], []) rfl (fun _ => rfl)
        · refine xe_sn pg_95 4 (fr' := (6, [(0, .int 3), (1, .int 4)], [.int 4, .int 3])) rfl ?_
          refine xe_sn pg_95 1 (fr' := (17, [(0, .int 3), (1, .int 4)], [])) rfl ?_
          exact xe_end pg_95 rfl
        exact xe_end pg_92 rfl
      refine xe_sn pg_85 2 (fr' := (7, [(0, .ref 0), (1, .int 3), (2, .int p1)], [.int 12, .int p1])) rfl ?_
      apply xe_callqx pg_85 95 [.int p1, .int 12] 0 rfl (fun _ => rfl)
      · refine xe_sn pg_95 1 (fr' := (1, [(0, .int p1), (1, .int 12)], [.int p1])) rfl ?_
        refine xe_t1 pg_95 9 rfl rfl (by show (p1).toInt < 0; omega) ?_
        exact xe_end pg_95 rfl
    refine xe_sn pg_172 1 (fr' := (16, [(0, .ref 0), (1, .int 3), (2, .int p1), (3, .ref 189)], [.int 1])) rfl ?_
    exact xe_end pg_172 rfl
  refine And.intro ⟨rfl, rfl, rfl, rfl⟩ ?_
  apply And.intro
  · refine xe_sn pg_153 2 (fr' := (2, [(0, .ref 165), (1, .int 3), (2, .int p1)], [.int 3, .ref 165])) rfl ?_
    apply xe_callq pg_153 104 [.int 3] (.inl (some (.int 1))) (5, [(0, .ref 165), (1, .int 3), (2, .int p1)], [.int 1, .ref 165]) rfl (fun _ => rfl)
    · refine xe_sn pg_104 3 (fr' := (3, [(0, .int 3)], [.int 3, .int 0, .int 3])) rfl ?_
      apply xe_callq pg_104 103 [.int 3, .int 0, .int 3] (.inl (some (.int 1))) (6, [(0, .int 3)], [.int 1]) rfl (fun _ => rfl)
      · refine xe_sn pg_103 4 (fr' := (6, [(0, .int 3), (1, .int 0), (2, .int 3)], [.int 3])) rfl ?_
        refine xe_sn pg_103 4 (fr' := (15, [(0, .int 3), (1, .int 0), (2, .int 3)], [.int 1])) rfl ?_
        exact xe_end pg_103 rfl
      exact xe_end pg_104 rfl
    refine xe_sn pg_153 4 (fr' := (12, [(0, .ref 165), (1, .int 3), (2, .int p1)], [.int 11, .int 0, .int p1, .ref 165])) rfl ?_
    apply xe_callq pg_153 103 [.int p1, .int 0, .int 11] (.inl (some (.int 0))) (15, [(0, .ref 165), (1, .int 3), (2, .int p1)], [.int 0, .ref 165]) rfl (fun _ => rfl)
    · refine xe_sn pg_103 2 (fr' := (2, [(0, .int p1), (1, .int 0), (2, .int 11)], [.int 0, .int p1])) rfl ?_
      refine xe_t2 pg_103 14 rfl rfl (by show (p1).toInt < 0; omega) ?_
      refine xe_sn pg_103 1 (fr' := (15, [(0, .int p1), (1, .int 0), (2, .int 11)], [.int 0])) rfl ?_
      exact xe_end pg_103 rfl
    refine xe_sn pg_153 2 (fr' := (23, [(0, .ref 165), (1, .int 3), (2, .int p1)], [.int 0, .ref 165])) rfl ?_
    apply xe_callq pg_153 151 [.ref 165, .int 0] (.inl (some (.int 1))) (26, [(0, .ref 165), (1, .int 3), (2, .int p1)], [.int 1]) rfl (fun _ => rfl)
    · refine xe_sn pg_151 4 (fr' := (10, [(0, .ref 165), (1, .int 0)], [.int 1, .ref 165])) rfl ?_
      refine xe_sn pg_151 4 (fr' := (18, [(0, .ref 165), (1, .int 0)], [.int 1])) rfl ?_
      refine xe_sn pg_151 1 (fr' := (22, [(0, .ref 165), (1, .int 0)], [.int 1])) rfl ?_
      exact xe_end pg_151 rfl
    refine xe_sn pg_153 2 (fr' := (30, [(0, .ref 165), (1, .int 3), (2, .int p1)], [.int 0])) rfl ?_
    exact xe_end pg_153 rfl
  · exact ⟨⟨rfl, rfl, rfl, rfl⟩, Nat.le_of_ble_eq_true rfl, Nat.le_of_ble_eq_true rfl, rfl, fun q => absurd q (by decide)⟩

set_option maxRecDepth 100000 in
theorem lf_circuit_45 (xs : Nat → Int32) (p1 : Int32) (b1 : 11 < p1.toInt) : op_ok xs 172 153 [.ref 0, .int 3, .int p1, .ref 189] [.ref 165, .int 3, .int p1] := by
  refine ⟨1, 0, ?_⟩
  apply Exists.intro
  apply Exists.intro
  apply And.intro
  · refine xe_sn pg_172 4 (fr' := (4, [(0, .ref 0), (1, .int 3), (2, .int p1), (3, .ref 189)], [.int 3, .ref 0, .int 0, .ref 189])) rfl ?_
    refine xe_sn pg_172 1 (fr' := (5, [(0, .ref 0), (1, .int 3), (2, .int p1), (3, .ref 189)], [.int p1, .int 3, .ref 0, .int 0, .ref 189])) rfl ?_
    apply xe_callq pg_172 85 [.ref 0, .int 3, .int p1] (.inr 0) (15, [(0, .ref 0), (1, .int 3), (2, .int p1), (3, .ref 189)], []) rfl (fun _ => rfl)
    · refine xe_sn pg_85 1 (fr' := (1, [(0, .ref 0), (1, .int 3), (2, .int p1)], [.int 3])) rfl ?_
      apply xe_callq pg_85 92 [.int 3] (.inl none) (4, [(0, .ref 0), (1, .int 3), (2, .int p1)], []) rfl (fun _ => rfl)
      · refine xe_sn pg_92 2 (fr' := (2, [(0, .int 3)], [.int 4, .int 3])) rfl ?_
        apply xe_callq pg_92 95 [.int 3, .int 4] (.inl none) (5, [(0, .int 3)], []) rfl (fun _ => rfl)
        · refine xe_sn pg_95 4 (fr' := (6, [(0, .int 3), (1, .int 4)], [.int 4, .int 3])) rfl ?_
          refine xe_sn pg_95 1 (fr' := (17, [(0, .int 3), (1, .int 4)], [])) rfl ?_
          exact xe_end pg_95 rfl
        exact xe_end pg_92 rfl
      refine xe_sn pg_85 2 (fr' := (7, [(0, .ref 0), (1, .int 3), (2, .int p1)], [.int 12, .int p1])) rfl ?_
      apply xe_callqx pg_85 95 [.int p1, .int 12] 0 rfl (fun _ => rfl)
      · refine xe_sn pg_95 1 (fr' := (1, [(0, .int p1), (1, .int 12)], [.int p1])) rfl ?_
        refine xe_f1 pg_95 9 rfl rfl (by show ¬ ((p1).toInt < 0); omega) ?_
        refine xe_sn pg_95 2 (fr' := (6, [(0, .int p1), (1, .int 12)], [.int 12, .int p1])) rfl ?_
        refine xe_f2 pg_95 17 rfl rfl (by show ¬ ((p1).toInt < 12); omega) ?_
        exact xe_end pg_95 rfl
    refine xe_sn pg_172 1 (fr' := (16, [(0, .ref 0), (1, .int 3), (2, .int p1), (3, .ref 189)], [.int 1])) rfl ?_
    exact xe_end pg_172 rfl
  refine And.intro ⟨rfl, rfl, rfl, rfl⟩ ?_
  apply And.intro
  · refine xe_sn pg_153 2 (fr' := (2, [(0, .ref 165), (1, .int 3), (2, .int p1)], [.int 3, .ref 165])) rfl ?_
    apply xe_callq pg_153 104 [.int 3] (.inl (some (.int 1))) (5, [(0, .ref 165), (1, .int 3), (2, .int p1)], [.int 1, .ref 165]) rfl (fun _ => rfl)
    · refine xe_sn pg_104 3 (fr' := (3, [(0, .int 3)], [.int 3, .int 0, .int 3])) rfl ?_
      apply xe_callq pg_104 103 [.int 3, .int 0, .int 3] (.inl (some (.int 1))) (6, [(0, .int 3)], [.int 1]) rfl (fun _ => rfl)
      · refine xe_sn pg_103 4 (fr' := (6, [(0, .int 3), (1, .int 0), (2, .int 3)], [.int 3])) rfl ?_
        refine xe_sn pg_103 4 (fr' := (15, [(0, .int 3), (1, .int 0), (2, .int 3)], [.int 1])) rfl ?_
        exact xe_end pg_103 rfl
      exact xe_end pg_104 rfl
    refine xe_sn pg_153 4 (fr' := (12, [(0, .ref 165), (1, .int 3), (2, .int p1)], [.int 11, .int 0, .int p1, .ref 165])) rfl ?_
    apply xe_callq pg_153 103 [.int p1, .int 0, .int 11] (.inl (some (.int 0))) (15, [(0, .ref 165), (1, .int 3), (2, .int p1)], [.int 0, .ref 165]) rfl (fun _ => rfl)
    · refine xe_sn pg_103 2 (fr' := (2, [(0, .int p1), (1, .int 0), (2, .int 11)], [.int 0, .int p1])) rfl ?_
      refine xe_f2 pg_103 14 rfl rfl (by show ¬ ((p1).toInt < 0); omega) ?_
      refine xe_sn pg_103 2 (fr' := (7, [(0, .int p1), (1, .int 0), (2, .int 11)], [.int 11, .int p1])) rfl ?_
      refine xe_t2 pg_103 14 rfl rfl (by show 11 < (p1).toInt; omega) ?_
      refine xe_sn pg_103 1 (fr' := (15, [(0, .int p1), (1, .int 0), (2, .int 11)], [.int 0])) rfl ?_
      exact xe_end pg_103 rfl
    refine xe_sn pg_153 2 (fr' := (23, [(0, .ref 165), (1, .int 3), (2, .int p1)], [.int 0, .ref 165])) rfl ?_
    apply xe_callq pg_153 151 [.ref 165, .int 0] (.inl (some (.int 1))) (26, [(0, .ref 165), (1, .int 3), (2, .int p1)], [.int 1]) rfl (fun _ => rfl)
    · refine xe_sn pg_151 4 (fr' := (10, [(0, .ref 165), (1, .int 0)], [.int 1, .ref 165])) rfl ?_
      refine xe_sn pg_151 4 (fr' := (18, [(0, .ref 165), (1, .int 0)], [.int 1])) rfl ?_
      refine xe_sn pg_151 1 (fr' := (22, [(0, .ref 165), (1, .int 0)], [.int 1])) rfl ?_
      exact xe_end pg_151 rfl
    refine xe_sn pg_153 2 (fr' := (30, [(0, .ref 165), (1, .int 3), (2, .int p1)], [.int 0])) rfl ?_
    exact xe_end pg_153 rfl
  · exact ⟨⟨rfl, rfl, rfl, rfl⟩, Nat.le_of_ble_eq_true rfl, Nat.le_of_ble_eq_true rfl, rfl, fun q => absurd q (by decide)⟩

set_option maxRecDepth 100000 in
theorem lf_circuit_46 (xs : Nat → Int32) : op_ok xs 172 153 [.ref 0, .int 3, .int 0, .ref 189] [.ref 165, .int 3, .int 0] := by
  refine ⟨0, 0, ?_⟩
  apply Exists.intro
  apply Exists.intro
  apply And.intro
  · refine xe_sn pg_172 4 (fr' := (4, [(0, .ref 0), (1, .int 3), (2, .int 0), (3, .ref 189)], [.int 3, .ref 0, .int 0, .ref 189])) rfl ?_
    refine xe_sn pg_172 1 (fr' := (5, [(0, .ref 0), (1, .int 3), (2, .int 0), (3, .ref 189)], [.int 0, .int 3, .ref 0, .int 0, .ref 189])) rfl ?_
    apply xe_callq pg_172 85 [.ref 0, .int 3, .int 0] (.inl (some (.int 0))) (8, [(0, .ref 0), (1, .int 3), (2, .int 0), (3, .ref 189)], [.int 0, .int 0, .ref 189]) rfl (fun _ => rfl)
    · refine xe_sn pg_85 1 (fr' := (1, [(0, .ref 0), (1, .int 3), (2, .int 0)], [.int 3])) rfl ?_
      apply xe_callq pg_85 92 [.int 3] (.inl none) (4, [(0, .ref 0), (1, .int 3), (2, .int 0)], []) rfl (fun _ => rfl)
      · refine xe_sn pg_92 2 (fr' := (2, [(0, .int 3)], [.int 4, .int 3])) rfl ?_
        apply xe_callq pg_92 95 [.int 3, .int 4] (.inl none) (5, [(0, .int 3)], []) rfl (fun _ => rfl)
        · refine xe_sn pg_95 4 (fr' := (6, [(0, .int 3), (1, .int 4)], [.int 4, .int 3])) rfl ?_
          refine xe_sn pg_95 1 (fr' := (17, [(0, .int 3), (1, .int 4)], [])) rfl ?_
          exact xe_end pg_95 rfl
        exact xe_end pg_92 rfl
      refine xe_sn pg_85 2 (fr' := (7, [(0, .ref 0), (1, .int 3), (2, .int 0)], [.int 12, .int 0])) rfl ?_
      apply xe_callq pg_85 95 [.int 0, .int 12] (.inl none) (10, [(0, .ref 0), (1, .int 3), (2, .int 0)], []) rfl (fun _ => rfl)
      · refine xe_sn pg_95 4 (fr' := (6, [(0, .int 0), (1, .int 12)], [.int 12, .int 0])) rfl ?_
        refine xe_sn pg_95 1 (fr' := (17, [(0, .int 0), (1, .int 12)], [])) rfl ?_
        exact xe_end pg_95 rfl
      refine xe_sn pg_85 4 (fr' := (16, [(0, .ref 0), (1, .int 3), (2, .int 0)], [.ref 154])) rfl ?_
      refine xe_sn pg_85 4 (fr' := (69, [(3, .ref 154), (0, .ref 0), (1, .int 3), (2, .int 0)], [.ref 154])) rfl ?_
      refine xe_sn pg_85 1 (fr' := (72, [(3, .ref 154), (0, .ref 0), (1, .int 3), (2, .int 0)], [.int 0])) rfl ?_
      exact xe_end pg_85 rfl
    refine xe_sn pg_172 4 (fr' := (18, [(0, .ref 0), (1, .int 3), (2, .int 0), (3, .ref 189)], [.int 0])) rfl ?_
    exact xe_end pg_172 rfl
  refine And.intro ⟨rfl, rfl, rfl, rfl⟩ ?_
  apply And.intro
  · refine xe_sn pg_153 2 (fr' := (2, [(0, .ref 165), (1, .int 3), (2, .int 0)], [.int 3, .ref 165])) rfl ?_
    apply xe_callq pg_153 104 [.int 3] (.inl (some (.int 1))) (5, [(0, .ref 165), (1, .int 3), (2, .int 0)], [.int 1, .ref 165]) rfl (fun _ => rfl)
    · refine xe_sn pg_104 3 (fr' := (3, [(0, .int 3)], [.int 3, .int 0, .int 3])) rfl ?_
      apply xe_callq pg_104 103 [.int 3, .int 0, .int 3] (.inl (some (.int 1))) (6, [(0, .int 3)], [.int 1]) rfl (fun _ => rfl)
      · refine xe_sn pg_103 4 (fr' := (6, [(0, .int 3), (1, .int 0), (2, .int 3)], [.int 3])) rfl ?_
        refine xe_sn pg_103 4 (fr' := (15, [(0, .int 3), (1, .int 0), (2, .int 3)], [.int 1])) rfl ?_
        exact xe_end pg_103 rfl
      exact xe_end pg_104 rfl
    refine xe_sn pg_153 4 (fr' := (12, [(0, .ref 165), (1, .int 3), (2, .int 0)], [.int 11, .int 0, .int 0, .ref 165])) rfl ?_
    apply xe_callq pg_153 103 [.int 0, .int 0, .int 11] (.inl (some (.int 1))) (15, [(0, .ref 165), (1, .int 3), (2, .int 0)], [.int 1, .ref 165]) rfl (fun _ => rfl)
    · refine xe_sn pg_103 4 (fr' := (6, [(0, .int 0), (1, .int 0), (2, .int 11)], [.int 0])) rfl ?_
      refine xe_sn pg_103 4 (fr' := (15, [(0, .int 0), (1, .int 0), (2, .int 11)], [.int 1])) rfl ?_
      exact xe_end pg_103 rfl
    refine xe_sn pg_153 3 (fr' := (23, [(0, .ref 165), (1, .int 3), (2, .int 0)], [.int 1, .ref 165])) rfl ?_
    apply xe_callq pg_153 151 [.ref 165, .int 1] (.inl (some (.int 0))) (26, [(0, .ref 165), (1, .int 3), (2, .int 0)], [.int 0]) rfl (fun _ => rfl)
    · refine xe_sn pg_151 4 (fr' := (6, [(0, .ref 165), (1, .int 1)], [.int 0, .ref 165])) rfl ?_
      refine xe_sn pg_151 4 (fr' := (21, [(0, .ref 165), (1, .int 1)], [])) rfl ?_
      refine xe_sn pg_151 1 (fr' := (22, [(0, .ref 165), (1, .int 1)], [.int 0])) rfl ?_
      exact xe_end pg_151 rfl
    refine xe_sn pg_153 4 (fr' := (36, [(0, .ref 165), (1, .int 3), (2, .int 0)], [])) rfl ?_
    refine xe_sn pg_153 4 (fr' := (44, [(0, .ref 165), (1, .int 3), (2, .int 0)], [.ref 167])) rfl ?_
    refine xe_sn pg_153 3 (fr' := (55, [(0, .ref 165), (1, .int 3), (2, .int 0)], [.int 0])) rfl ?_
    exact xe_end pg_153 rfl
  · exact ⟨⟨rfl, rfl, rfl, rfl⟩, Nat.le_of_ble_eq_true rfl, Nat.le_of_ble_eq_true rfl, rfl, fun _ => rfl⟩

set_option maxRecDepth 100000 in
theorem lf_circuit_47 (xs : Nat → Int32) : op_ok xs 172 153 [.ref 0, .int 3, .int 1, .ref 189] [.ref 165, .int 3, .int 1] := by
  refine ⟨0, 0, ?_⟩
  apply Exists.intro
  apply Exists.intro
  apply And.intro
  · refine xe_sn pg_172 4 (fr' := (4, [(0, .ref 0), (1, .int 3), (2, .int 1), (3, .ref 189)], [.int 3, .ref 0, .int 0, .ref 189])) rfl ?_
    refine xe_sn pg_172 1 (fr' := (5, [(0, .ref 0), (1, .int 3), (2, .int 1), (3, .ref 189)], [.int 1, .int 3, .ref 0, .int 0, .ref 189])) rfl ?_
    apply xe_callq pg_172 85 [.ref 0, .int 3, .int 1] (.inl (some (.int 0))) (8, [(0, .ref 0), (1, .int 3), (2, .int 1), (3, .ref 189)], [.int 0, .int 0, .ref 189]) rfl (fun _ => rfl)
    · refine xe_sn pg_85 1 (fr' := (1, [(0, .ref 0), (1, .int 3), (2, .int 1)], [.int 3])) rfl ?_
      apply xe_callq pg_85 92 [.int 3] (.inl none) (4, [(0, .ref 0), (1, .int 3), (2, .int 1)], []) rfl (fun _ => rfl)
      · refine xe_sn pg_92 2 (fr' := (2, [(0, .int 3)], [.int 4, .int 3])) rfl ?_
        apply xe_callq pg_92 95 [.int 3, .int 4] (.inl none) (5, [(0, .int 3)], []) rfl (fun _ => rfl)
        · refine xe_sn pg_95 4 (fr' := (6, [(0, .int 3), (1, .int 4)], [.int 4, .int 3])) rfl ?_
          refine xe_sn pg_95 1 (fr' := (17, [(0, .int 3), (1, .int 4)], [])) rfl ?_
          exact xe_end pg_95 rfl
        exact xe_end pg_92 rfl
      refine xe_sn pg_85 2 (fr' := (7, [(0, .ref 0), (1, .int 3), (2, .int 1)], [.int 12, .int 1])) rfl ?_
      apply xe_callq pg_85 95 [.int 1, .int 12] (.inl none) (10, [(0, .ref 0), (1, .int 3), (2, .int 1)], []) rfl (fun _ => rfl)
      · refine xe_sn pg_95 4 (fr' := (6, [(0, .int 1), (1, .int 12)], [.int 12, .int 1])) rfl ?_
        refine xe_sn pg_95 1 (fr' := (17, [(0, .int 1), (1, .int 12)], [])) rfl ?_
        exact xe_end pg_95 rfl
      refine xe_sn pg_85 4 (fr' := (16, [(0, .ref 0), (1, .int 3), (2, .int 1)], [.ref 154])) rfl ?_
      refine xe_sn pg_85 4 (fr' := (74, [(3, .ref 154), (0, .ref 0), (1, .int 3), (2, .int 1)], [.ref 154])) rfl ?_
      refine xe_sn pg_85 1 (fr' := (77, [(3, .ref 154), (0, .ref 0), (1, .int 3), (2, .int 1)], [.int 0])) rfl ?_
      exact xe_end pg_85 rfl
    refine xe_sn pg_172 4 (fr' := (18, [(0, .ref 0), (1, .int 3), (2, .int 1), (3, .ref 189)], [.int 0])) rfl ?_
    exact xe_end pg_172 rfl
  refine And.intro ⟨rfl, rfl, rfl, rfl⟩ ?_
  apply And.intro
  · refine xe_sn pg_153 2 (fr' := (2, [(0, .ref 165), (1, .int 3), (2, .int 1)], [.int 3, .ref 165])) rfl ?_
    apply xe_callq pg_153 104 [.int 3] (.inl (some (.int 1))) (5, [(0, .ref 165), (1, .int 3), (2, .int 1)], [.int 1, .ref 165]) rfl (fun _ => rfl)
    · refine xe_sn pg_104 3 (fr' := (3, [(0, .int 3)], [.int 3, .int 0, .int 3])) rfl ?_
      apply xe_callq pg_104 103 [.int 3, .int 0, .int 3] (.inl (some (.int 1))) (6, [(0, .int 3)], [.int 1]) rfl (fun _ => rfl)
      · refine xe_sn pg_103 4 (fr' := (6, [(0, .int 3), (1, .int 0), (2, .int 3)], [.int 3])) rfl ?_
        refine xe_sn pg_103 4 (fr' := (15, [(0, .int 3), (1, .int 0), (2, .int 3)], [.int 1])) rfl ?_
        exact xe_end pg_103 rfl
      exact xe_end pg_104 rfl
    refine xe_sn pg_153 4 (fr' := (12, [(0, .ref 165), (1, .int 3), (2, .int 1)], [.int 11, .int 0, .int 1, .ref 165])) rfl ?_
    apply xe_callq pg_153 103 [.int 1, .int 0, .int 11] (.inl (some (.int 1))) (15, [(0, .ref 165), (1, .int 3), (2, .int 1)], [.int 1, .ref 165]) rfl (fun _ => rfl)
    · refine xe_sn pg_103 4 (fr' := (6, [(0, .int 1), (1, .int 0), (2, .int 11)], [.int 1])) rfl ?_
      refine xe_sn pg_103 4 (fr' := (15, [(0, .int 1), (1, .int 0), (2, .int 11)], [.int 1])) rfl ?_
      exact xe_end pg_103 rfl
    refine xe_sn pg_153 3 (fr' := (23, [(0, .ref 165), (1, .int 3), (2, .int 1)], [.int 1, .ref 165])) rfl ?_
    apply xe_callq pg_153 151 [.ref 165, .int 1] (.inl (some (.int 0))) (26, [(0, .ref 165), (1, .int 3), (2, .int 1)], [.int 0]) rfl (fun _ => rfl)
    · refine xe_sn pg_151 4 (fr' := (6, [(0, .ref 165), (1, .int 1)], [.int 0, .ref 165])) rfl ?_
      refine xe_sn pg_151 4 (fr' := (21, [(0, .ref 165), (1, .int 1)], [])) rfl ?_
      refine xe_sn pg_151 1 (fr' := (22, [(0, .ref 165), (1, .int 1)], [.int 0])) rfl ?_
      exact xe_end pg_151 rfl
    refine xe_sn pg_153 4 (fr' := (36, [(0, .ref 165), (1, .int 3), (2, .int 1)], [])) rfl ?_
    refine xe_sn pg_153 4 (fr' := (53, [(0, .ref 165), (1, .int 3), (2, .int 1)], [.ref 168])) rfl ?_
    refine xe_sn pg_153 2 (fr' := (55, [(0, .ref 165), (1, .int 3), (2, .int 1)], [.int 0])) rfl ?_
    exact xe_end pg_153 rfl
  · exact ⟨⟨rfl, rfl, rfl, rfl⟩, Nat.le_of_ble_eq_true rfl, Nat.le_of_ble_eq_true rfl, rfl, fun _ => rfl⟩

set_option maxRecDepth 100000 in
theorem lf_circuit_48 (xs : Nat → Int32) : op_ok xs 172 153 [.ref 0, .int 3, .int 2, .ref 189] [.ref 165, .int 3, .int 2] := by
  refine ⟨0, (-1), ?_⟩
  apply Exists.intro
  apply Exists.intro
  apply And.intro
  · refine xe_sn pg_172 4 (fr' := (4, [(0, .ref 0), (1, .int 3), (2, .int 2), (3, .ref 189)], [.int 3, .ref 0, .int 0, .ref 189])) rfl ?_
    refine xe_sn pg_172 1 (fr' := (5, [(0, .ref 0), (1, .int 3), (2, .int 2), (3, .ref 189)], [.int 2, .int 3, .ref 0, .int 0, .ref 189])) rfl ?_
    apply xe_callq pg_172 85 [.ref 0, .int 3, .int 2] (.inl (some (.int (-1)))) (8, [(0, .ref 0), (1, .int 3), (2, .int 2), (3, .ref 189)], [.int (-1), .int 0, .ref 189]) rfl (fun _ => rfl)
    · refine xe_sn pg_85 1 (fr' := (1, [(0, .ref 0), (1, .int 3), (2, .int 2)], [.int 3])) rfl ?_
      apply xe_callq pg_85 92 [.int 3] (.inl none) (4, [(0, .ref 0), (1, .int 3), (2, .int 2)], []) rfl (fun _ => rfl)
      · refine xe_sn pg_92 2 (fr' := (2, [(0, .int 3)], [.int 4, .int 3])) rfl ?_
        apply xe_callq pg_92 95 [.int 3, .int 4] (.inl none) (5, [(0, .int 3)], []) rfl (fun _ => rfl)
        · refine xe_sn pg_95 4 (fr' := (6, [(0, .int 3), (1, .int 4)], [.int 4, .int 3])) rfl ?_
          refine xe_sn pg_95 1 (fr' := (17, [(0, .int 3), (1, .int 4)], [])) rfl ?_
          exact xe_end pg_95 rfl
        exact xe_end pg_92 rfl
      refine xe_sn pg_85 2 (fr' := (7, [(0, .ref 0), (1, .int 3), (2, .int 2)], [.int 12, .int 2])) rfl ?_
      apply xe_callq pg_85 95 [.int 2, .int 12] (.inl none) (10, [(0, .ref 0), (1, .int 3), (2, .int 2)], []) rfl (fun _ => rfl)
      · refine xe_sn pg_95 4 (fr' := (6, [(0, .int 2), (1, .int 12)], [.int 12, .int 2])) rfl ?_
        refine xe_sn pg_95 1 (fr' := (17, [(0, .int 2), (1, .int 12)], [])) rfl ?_
        exact xe_end pg_95 rfl
      refine xe_sn pg_85 4 (fr' := (16, [(0, .ref 0), (1, .int 3), (2, .int 2)], [.ref 154])) rfl ?_
      refine xe_sn pg_85 4 (fr' := (79, [(3, .ref 154), (0, .ref 0), (1, .int 3), (2, .int 2)], [.ref 154])) rfl ?_
      refine xe_sn pg_85 3 (fr' := (82, [(3, .ref 154), (0, .ref 0), (1, .int 3), (2, .int 2)], [.int 0, .ref 154])) rfl ?_
      apply xe_callq pg_85 17 [.ref 154, .int 0] (.inl (some (.int 0))) (85, [(3, .ref 154), (0, .ref 0), (1, .int 3), (2, .int 2)], [.int 0]) rfl (fun _ => rfl)
      · refine xe_sn pg_17 4 (fr' := (6, [(0, .ref 154), (1, .int 0)], [.ref 154, .int 0])) rfl ?_
        refine xe_sn pg_17 3 (fr' := (17, [(0, .ref 154), (1, .int 0)], [.int 0])) rfl ?_
        exact xe_end pg_17 rfl
      refine xe_sn pg_85 2 (fr' := (100, [(3, .ref 154), (0, .ref 0), (1, .int 3), (2, .int 2)], [.int (-1)])) rfl ?_
      exact xe_end pg_85 rfl
    refine xe_sn pg_172 4 (fr' := (18, [(0, .ref 0), (1, .int 3), (2, .int 2), (3, .ref 189)], [.int 0])) rfl ?_
    exact xe_end pg_172 rfl
  refine And.intro ⟨rfl, rfl, rfl, rfl⟩ ?_
  apply And.intro
  · refine xe_sn pg_153 2 (fr' := (2, [(0, .ref 165), (1, .int 3), (2, .int 2)], [.int 3, .ref 165])) rfl ?_
    apply xe_callq pg_153 104 [.int 3] (.inl (some (.int 1))) (5, [(0, .ref 165), (1, .int 3), (2, .int 2)], [.int 1, .ref 165]) rfl (fun _ => rfl)
    · refine xe_sn pg_104 3 (fr' := (3, [(0, .int 3)], [.int 3, .int 0, .int 3])) rfl ?_
      apply xe_callq pg_104 103 [.int 3, .int 0, .int 3] (.inl (some (.int 1))) (6, [(0, .int 3)], [.int 1]) rfl (fun _ => rfl)
      · refine xe_sn pg_103 4 (fr' := (6, [(0, .int 3), (1, .int 0), (2, .int 3)], [.int 3])) rfl ?_
        refine xe_sn pg_103 4 (fr' := (15, [(0, .int 3), (1, .int 0), (2, .int 3)], [.int 1])) rfl ?_
        exact xe_end pg_103 rfl
      exact xe_end pg_104 rfl
    refine xe_sn pg_153 4 (fr' := (12, [(0, .ref 165), (1, .int 3), (2, .int 2)], [.int 11, .int 0, .int 2, .ref 165])) rfl ?_
    apply xe_callq pg_153 103 [.int 2, .int 0, .int 11] (.inl (some (.int 1))) (15, [(0, .ref 165), (1, .int 3), (2, .int 2)], [.int 1, .ref 165]) rfl (fun _ => rfl)
    · refine xe_sn pg_103 4 (fr' := (6, [(0, .int 2), (1, .int 0), (2, .int 11)], [.int 2])) rfl ?_
      refine xe_sn pg_103 4 (fr' := (15, [(0, .int 2), (1, .int 0), (2, .int 11)], [.int 1])) rfl ?_
      exact xe_end pg_103 rfl
    refine xe_sn pg_153 3 (fr' := (23, [(0, .ref 165), (1, .int 3), (2, .int 2)], [.int 1, .ref 165])) rfl ?_
    apply xe_callq pg_153 151 [.ref 165, .int 1] (.inl (some (.int 0))) (26, [(0, .ref 165), (1, .int 3), (2, .int 2)], [.int 0]) rfl (fun _ => rfl)
    · refine xe_sn pg_151 4 (fr' := (6, [(0, .ref 165), (1, .int 1)], [.int 0, .ref 165])) rfl ?_
      refine xe_sn pg_151 4 (fr' := (21, [(0, .ref 165), (1, .int 1)], [])) rfl ?_
      refine xe_sn pg_151 1 (fr' := (22, [(0, .ref 165), (1, .int 1)], [.int 0])) rfl ?_
      exact xe_end pg_151 rfl
    refine xe_sn pg_153 4 (fr' := (56, [(0, .ref 165), (1, .int 3), (2, .int 2)], [])) rfl ?_
    refine xe_sn pg_153 4 (fr' := (62, [(0, .ref 165), (1, .int 3), (2, .int 2)], [.int 2])) rfl ?_
    refine xe_sn pg_153 4 (fr' := (68, [(0, .ref 165), (1, .int 3), (2, .int 2)], [.ref 168, .int 0])) rfl ?_
    refine xe_sn pg_153 4 (fr' := (89, [(0, .ref 165), (1, .int 3), (2, .int 2)], [.int (-1)])) rfl ?_
    exact xe_end pg_153 rfl
  · exact ⟨⟨rfl, rfl, rfl, rfl⟩, Nat.le_of_ble_eq_true rfl, Nat.le_of_ble_eq_true rfl, rfl, fun _ => rfl⟩

set_option maxRecDepth 100000 in
theorem lf_circuit_49 (xs : Nat → Int32) : op_ok xs 172 153 [.ref 0, .int 3, .int 3, .ref 189] [.ref 165, .int 3, .int 3] := by
  refine ⟨0, (-1), ?_⟩
  apply Exists.intro
  apply Exists.intro
  apply And.intro
  · refine xe_sn pg_172 4 (fr' := (4, [(0, .ref 0), (1, .int 3), (2, .int 3), (3, .ref 189)], [.int 3, .ref 0, .int 0, .ref 189])) rfl ?_
    refine xe_sn pg_172 1 (fr' := (5, [(0, .ref 0), (1, .int 3), (2, .int 3), (3, .ref 189)], [.int 3, .int 3, .ref 0, .int 0, .ref 189])) rfl ?_
    apply xe_callq pg_172 85 [.ref 0, .int 3, .int 3] (.inl (some (.int (-1)))) (8, [(0, .ref 0), (1, .int 3), (2, .int 3), (3, .ref 189)], [.int (-1), .int 0, .ref 189]) rfl (fun _ => rfl)
    · refine xe_sn pg_85 1 (fr' := (1, [(0, .ref 0), (1, .int 3), (2, .int 3)], [.int 3])) rfl ?_
      apply xe_callq pg_85 92 [.int 3] (.inl none) (4, [(0, .ref 0), (1, .int 3), (2, .int 3)], []) rfl (fun _ => rfl)
      · refine xe_sn pg_92 2 (fr' := (2, [(0, .int 3)], [.int 4, .int 3])) rfl ?_
        apply xe_callq pg_92 95 [.int 3, .int 4] (.inl none) (5, [(0, .int 3)], []) rfl (fun _ => rfl)
        · refine xe_sn pg_95 4 (fr' := (6, [(0, .int 3), (1, .int 4)], [.int 4, .int 3])) rfl ?_
          refine xe_sn pg_95 1 (fr' := (17, [(0, .int 3), (1, .int 4)], [])) rfl ?_
          exact xe_end pg_95 rfl
        exact xe_end pg_92 rfl
      refine xe_sn pg_85 2 (fr' := (7, [(0, .ref 0), (1, .int 3), (2, .int 3)], [.int 12, .int 3])) rfl ?_
      apply xe_callq pg_85 95 [.int 3, .int 12] (.inl none) (10, [(0, .ref 0), (1, .int 3), (2, .int 3)], []) rfl (fun _ => rfl)
      · refine xe_sn pg_95 4 (fr' := (6, [(0, .int 3), (1, .int 12)], [.int 12, .int 3])) rfl ?_
        refine xe_sn pg_95 1 (fr' := (17, [(0, .int 3), (1, .int 12)], [])) rfl ?_
        exact xe_end pg_95 rfl
      refine xe_sn pg_85 4 (fr' := (16, [(0, .ref 0), (1, .int 3), (2, .int 3)], [.ref 154])) rfl ?_
      refine xe_sn pg_85 4 (fr' := (79, [(3, .ref 154), (0, .ref 0), (1, .int 3), (2, .int 3)], [.ref 154])) rfl ?_
      refine xe_sn pg_85 3 (fr' := (82, [(3, .ref 154), (0, .ref 0), (1, .int 3), (2, .int 3)], [.int 1, .ref 154])) rfl ?_
      apply xe_callq pg_85 17 [.ref 154, .int 1] (.inl (some (.int 0))) (85, [(3, .ref 154), (0, .ref 0), (1, .int 3), (2, .int 3)], [.int 0]) rfl (fun _ => rfl)
      · refine xe_sn pg_17 4 (fr' := (6, [(0, .ref 154), (1, .int 1)], [.ref 154, .int 1])) rfl ?_
        refine xe_sn pg_17 3 (fr' := (17, [(0, .ref 154), (1, .int 1)], [.int 0])) rfl ?_
        exact xe_end pg_17 rfl
      refine xe_sn pg_85 2 (fr' := (100, [(3, .ref 154), (0, .ref 0), (1, .int 3), (2, .int 3)], [.int (-1)])) rfl ?_
      exact xe_end pg_85 rfl
    refine xe_sn pg_172 4 (fr' := (18, [(0, .ref 0), (1, .int 3), (2, .int 3), (3, .ref 189)], [.int 0])) rfl ?_
    exact xe_end pg_172 rfl
  refine And.intro ⟨rfl, rfl, rfl, rfl⟩ ?_
  apply And.intro
  · refine xe_sn pg_153 2 (fr' := (2, [(0, .ref 165), (1, .int 3), (2, .int 3)], [.int 3, .ref 165])) rfl ?_
    apply xe_callq pg_153 104 [.int 3] (.inl (some (.int 1))) (5, [(0, .ref 165), (1, .int 3), (2, .int 3)], [.int 1, .ref 165]) rfl (fun _ => rfl)
    · refine xe_sn pg_104 3 (fr' := (3, [(0, .int 3)], [.int 3, .int 0, .int 3])) rfl ?_
      apply xe_callq pg_104 103 [.int 3, .int 0, .int 3] (.inl (some (.int 1))) (6, [(0, .int 3)], [.int 1]) rfl (fun _ => rfl)
      · refine xe_sn pg_103 4 (fr' := (6, [(0, .int 3), (1, .int 0), (2, .int 3)], [.int 3])) rfl ?_
        refine xe_sn pg_103 4 (fr' := (15, [(0, .int 3), (1, .int 0), (2, .int 3)], [.int 1])) rfl ?_
        exact xe_end pg_103 rfl
      exact xe_end pg_104 rfl
    refine xe_sn pg_153 4 (fr' := (12, [(0, .ref 165), (1, .int 3), (2, .int 3)], [.int 11, .int 0, .int 3, .ref 165])) rfl ?_
    apply xe_callq pg_153 103 [.int 3, .int 0, .int 11] (.inl (some (.int 1))) (15, [(0, .ref 165), (1, .int 3), (2, .int 3)], [.int 1, .ref 165]) rfl (fun _ => rfl)
    · refine xe_sn pg_103 4 (fr' := (6, [(0, .int 3), (1, .int 0), (2, .int 11)], [.int 3])) rfl ?_
      refine xe_sn pg_103 4 (fr' := (15, [(0, .int 3), (1, .int 0), (2, .int 11)], [.int 1])) rfl ?_
      exact xe_end pg_103 rfl
    refine xe_sn pg_153 3 (fr' := (23, [(0, .ref 165), (1, .int 3), (2, .int 3)], [.int 1, .ref 165])) rfl ?_
    apply xe_callq pg_153 151 [.ref 165, .int 1] (.inl (some (.int 0))) (26, [(0, .ref 165), (1, .int 3), (2, .int 3)], [.int 0]) rfl (fun _ => rfl)
    · refine xe_sn pg_151 4 (fr' := (6, [(0, .ref 165), (1, .int 1)], [.int 0, .ref 165])) rfl ?_
      refine xe_sn pg_151 4 (fr' := (21, [(0, .ref 165), (1, .int 1)], [])) rfl ?_
      refine xe_sn pg_151 1 (fr' := (22, [(0, .ref 165), (1, .int 1)], [.int 0])) rfl ?_
      exact xe_end pg_151 rfl
    refine xe_sn pg_153 4 (fr' := (56, [(0, .ref 165), (1, .int 3), (2, .int 3)], [])) rfl ?_
    refine xe_sn pg_153 4 (fr' := (62, [(0, .ref 165), (1, .int 3), (2, .int 3)], [.int 3])) rfl ?_
    refine xe_sn pg_153 4 (fr' := (68, [(0, .ref 165), (1, .int 3), (2, .int 3)], [.ref 168, .int 1])) rfl ?_
    refine xe_sn pg_153 4 (fr' := (89, [(0, .ref 165), (1, .int 3), (2, .int 3)], [.int (-1)])) rfl ?_
    exact xe_end pg_153 rfl
  · exact ⟨⟨rfl, rfl, rfl, rfl⟩, Nat.le_of_ble_eq_true rfl, Nat.le_of_ble_eq_true rfl, rfl, fun _ => rfl⟩

set_option maxRecDepth 100000 in
theorem lf_circuit_50 (xs : Nat → Int32) : op_ok xs 172 153 [.ref 0, .int 3, .int 4, .ref 189] [.ref 165, .int 3, .int 4] := by
  refine ⟨0, (-1), ?_⟩
  apply Exists.intro
  apply Exists.intro
  apply And.intro
  · refine xe_sn pg_172 4 (fr' := (4, [(0, .ref 0), (1, .int 3), (2, .int 4), (3, .ref 189)], [.int 3, .ref 0, .int 0, .ref 189])) rfl ?_
    refine xe_sn pg_172 1 (fr' := (5, [(0, .ref 0), (1, .int 3), (2, .int 4), (3, .ref 189)], [.int 4, .int 3, .ref 0, .int 0, .ref 189])) rfl ?_
    apply xe_callq pg_172 85 [.ref 0, .int 3, .int 4] (.inl (some (.int (-1)))) (8, [(0, .ref 0), (1, .int 3), (2, .int 4), (3, .ref 189)], [.int (-1), .int 0, .ref 189]) rfl (fun _ => rfl)
    · refine xe_sn pg_85 1 (fr' := (1, [(0, .ref 0), (1, .int 3), (2, .int 4)], [.int 3])) rfl ?_
      apply xe_callq pg_85 92 [.int 3] (.inl none) (4, [(0, .ref 0), (1, .int 3), (2, .int 4)], []) rfl (fun _ => rfl)
      · refine xe_sn pg_92 2 (fr' := (2, [(0, .int 3)], [.int 4, .int 3])) rfl ?_
        apply xe_callq pg_92 95 [.int 3, .int 4] (.inl none) (5, [(0, .int 3)], []) rfl (fun _ => rfl)
        · refine xe_sn pg_95 4 (fr' := (6, [(0, .int 3), (1, .int 4)], [.int 4, .int 3])) rfl ?_
          refine xe_sn pg_95 1 (fr' := (17, [(0, .int 3), (1, .int 4)], [])) rfl ?_
          exact xe_end pg_95 rfl
        exact xe_end pg_92 rfl
      refine xe_sn pg_85 2 (fr' := (7, [(0, .ref 0), (1, .int 3), (2, .int 4)], [.int 12, .int 4])) rfl ?_
      apply xe_callq pg_85 95 [.int 4, .int 12] (.inl none) (10, [(0, .ref 0), (1, .int 3), (2, .int 4)], []) rfl (fun _ => rfl)
      · refine xe_sn pg_95 4 (fr' := (6, [(0, .int 4), (1, .int 12)], [.int 12, .int 4])) rfl ?_
        refine xe_sn pg_95 1 (fr' := (17, [(0, .int 4), (1, .int 12)], [])) rfl ?_
        exact xe_end pg_95 rfl
      refine xe_sn pg_85 4 (fr' := (16, [(0, .ref 0), (1, .int 3), (2, .int 4)], [.ref 154])) rfl ?_
      refine xe_sn pg_85 4 (fr' := (79, [(3, .ref 154), (0, .ref 0), (1, .int 3), (2, .int 4)], [.ref 154])) rfl ?_
      refine xe_sn pg_85 3 (fr' := (82, [(3, .ref 154), (0, .ref 0), (1, .int 3), (2, .int 4)], [.int 2, .ref 154])) rfl ?_
      apply xe_callq pg_85 17 [.ref 154, .int 2] (.inl (some (.int 0))) (85, [(3, .ref 154), (0, .ref 0), (1, .int 3), (2, .int 4)], [.int 0]) rfl (fun _ => rfl)
      · refine xe_sn pg_17 4 (fr' := (6, [(0, .ref 154), (1, .int 2)], [.ref 154, .int 2])) rfl ?_
        refine xe_sn pg_17 3 (fr' := (17, [(0, .ref 154), (1, .int 2)], [.int 0])) rfl ?_
        exact xe_end pg_17 rfl
      refine xe_sn pg_85 2 (fr' := (100, [(3, .ref 154), (0, .ref 0), (1, .int 3), (2, .int 4)], [.int (-1)])) rfl ?_
      exact xe_end pg_85 rfl
    refine xe_sn pg_172 4 (fr' := (18, [(0, .ref 0), (1, .int 3), (2, .int 4), (3, .ref 189)], [.int 0])) rfl ?_
    exact xe_end pg_172 rfl
  refine And.intro ⟨rfl, rfl, rfl, rfl⟩ ?_
  apply And.intro
  · refine xe_sn pg_153 2 (fr' := (2, [(0, .ref 165), (1, .int 3), (2, .int 4)], [.int 3, .ref 165])) rfl ?_
    apply xe_callq pg_153 104 [.int 3] (.inl (some (.int 1))) (5, [(0, .ref 165), (1, .int 3), (2, .int 4)], [.int 1, .ref 165]) rfl (fun _ => rfl)
    · refine xe_sn pg_104 3 (fr' := (3, [(0, .int 3)], [.int 3, .int 0, .int 3])) rfl ?_
      apply xe_callq pg_104 103 [.int 3, .int 0, .int 3] (.inl (some (.int 1))) (6, [(0, .int 3)], [.int 1]) rfl (fun _ => rfl)
      · refine xe_sn pg_103 4 (fr' := (6, [(0, .int 3), (1, .int 0), (2, .int 3)], [.int 3])) rfl ?_
        refine xe_sn pg_103 4 (fr' := (15, [(0, .int 3), (1, .int 0), (2, .int 3)], [.int 1])) rfl ?_
        exact xe_end pg_103 rfl
      exact xe_end pg_104 rfl
    refine xe_sn pg_153 4 (fr' := (12, [(0, .ref 165), (1, .int 3), (2, .int 4)], [.int 11, .int 0, .int 4, .ref 165])) rfl ?_
    apply xe_callq pg_153 103 [.int 4, .int 0, .int 11] (.inl (some (.int 1))) (15, [(0, .ref 165), (1, .int 3), (2, .int 4)], [.int 1, .ref 165]) rfl (fun _ => rfl)
    · refine xe_sn pg_103 4 (fr' := (6, [(0, .int 4), (1, .int 0), (2, .int 11)], [.int 4])) rfl ?_
      refine xe_sn pg_103 4 (fr' := (15, [(0, .int 4), (1, .int 0), (2, .int 11)], [.int 1])) rfl ?_
      exact xe_end pg_103 rfl
    refine xe_sn pg_153 3 (fr' := (23, [(0, .ref 165), (1, .int 3), (2, .int 4)], [.int 1, .ref 165])) rfl ?_
    apply xe_callq pg_153 151 [.ref 165, .int 1] (.inl (some (.int 0))) (26, [(0, .ref 165), (1, .int 3), (2, .int 4)], [.int 0]) rfl (fun _ => rfl)
    · refine xe_sn pg_151 4 (fr' := (6, [(0, .ref 165), (1, .int 1)], [.int 0, .ref 165])) rfl ?_
      refine xe_sn pg_151 4 (fr' := (21, [(0, .ref 165), (1, .int 1)], [])) rfl ?_
      refine xe_sn pg_151 1 (fr' := (22, [(0, .ref 165), (1, .int 1)], [.int 0])) rfl ?_
      exact xe_end pg_151 rfl
    refine xe_sn pg_153 4 (fr' := (56, [(0, .ref 165), (1, .int 3), (2, .int 4)], [])) rfl ?_
    refine xe_sn pg_153 4 (fr' := (62, [(0, .ref 165), (1, .int 3), (2, .int 4)], [.int 4])) rfl ?_
    refine xe_sn pg_153 4 (fr' := (68, [(0, .ref 165), (1, .int 3), (2, .int 4)], [.ref 168, .int 2])) rfl ?_
    refine xe_sn pg_153 4 (fr' := (89, [(0, .ref 165), (1, .int 3), (2, .int 4)], [.int (-1)])) rfl ?_
    exact xe_end pg_153 rfl
  · exact ⟨⟨rfl, rfl, rfl, rfl⟩, Nat.le_of_ble_eq_true rfl, Nat.le_of_ble_eq_true rfl, rfl, fun _ => rfl⟩

set_option maxRecDepth 100000 in
theorem lf_circuit_51 (xs : Nat → Int32) : op_ok xs 172 153 [.ref 0, .int 3, .int 5, .ref 189] [.ref 165, .int 3, .int 5] := by
  refine ⟨0, (-1), ?_⟩
  apply Exists.intro
  apply Exists.intro
  apply And.intro
  · refine xe_sn pg_172 4 (fr' := (4, [(0, .ref 0), (1, .int 3), (2, .int 5), (3, .ref 189)], [.int 3, .ref 0, .int 0, .ref 189])) rfl ?_
    refine xe_sn pg_172 1 (fr' := (5, [(0, .ref 0), (1, .int 3), (2, .int 5), (3, .ref 189)], [.int 5, .int 3, .ref 0, .int 0, .ref 189])) rfl ?_
    apply xe_callq pg_172 85 [.ref 0, .int 3, .int 5] (.inl (some (.int (-1)))) (8, [(0, .ref 0), (1, .int 3), (2, .int 5), (3, .ref 189)], [.int (-1), .int 0, .ref 189]) rfl (fun _ => rfl)
    · refine xe_sn pg_85 1 (fr' := (1, [(0, .ref 0), (1, .int 3), (2, .int 5)], [.int 3])) rfl ?_
      apply xe_callq pg_85 92 [.int 3] (.inl none) (4, [(0, .ref 0), (1, .int 3), (2, .int 5)], []) rfl (fun _ => rfl)
      · refine xe_sn pg_92 2 (fr' := (2, [(0, .int 3)], [.int 4, .int 3])) rfl ?_
        apply xe_callq pg_92 95 [.int 3, .int 4] (.inl none) (5, [(0, .int 3)], []) rfl (fun _ => rfl)
        · refine xe_sn pg_95 4 (fr' := (6, [(0, .int 3), (1, .int 4)], [.int 4, .int 3])) rfl ?_
          refine xe_sn pg_95 1 (fr' := (17, [(0, .int 3), (1, .int 4)], [])) rfl ?_
          exact xe_end pg_95 rfl
        exact xe_end pg_92 rfl
      refine xe_sn pg_85 2 (fr' := (7, [(0, .ref 0), (1, .int 3), (2, .int 5)], [.int 12, .int 5])) rfl ?_
      apply xe_callq pg_85 95 [.int 5, .int 12] (.inl none) (10, [(0, .ref 0), (1, .int 3), (2, .int 5)], []) rfl (fun _ => rfl)
      · refine xe_sn pg_95 4 (fr' := (6, [(0, .int 5), (1, .int 12)], [.int 12, .int 5])) rfl ?_
        refine xe_sn pg_95 1 (fr' := (17, [(0, .int 5), (1, .int 12)], [])) rfl ?_
        exact xe_end pg_95 rfl
      refine xe_sn pg_85 4 (fr' := (16, [(0, .ref 0), (1, .int 3), (2, .int 5)], [.ref 154])) rfl ?_
      refine xe_sn pg_85 4 (fr' := (102, [(3, .ref 154), (0, .ref 0), (1, .int 3), (2, .int 5)], [.ref 154])) rfl ?_
      refine xe_sn pg_85 1 (fr' := (105, [(3, .ref 154), (0, .ref 0), (1, .int 3), (2, .int 5)], [.int (-1)])) rfl ?_
      exact xe_end pg_85 rfl
    refine xe_sn pg_172 4 (fr' := (18, [(0, .ref 0), (1, .int 3), (2, .int 5), (3, .ref 189)], [.int 0])) rfl ?_
    exact xe_end pg_172 rfl
  refine And.intro ⟨rfl, rfl, rfl, rfl⟩ ?_
  apply And.intro
  · refine xe_sn pg_153 2 (fr' := (2, [(0, .ref 165), (1, .int 3), (2, .int 5)], [.int 3, .ref 165])) rfl ?_
    apply xe_callq pg_153 104 [.int 3] (.inl (some (.int 1))) (5, [(0, .ref 165), (1, .int 3), (2, .int 5)], [.int 1, .ref 165]) rfl (fun _ => rfl)
    · refine xe_sn pg_104 3 (fr' := (3, [(0, .int 3)], [.int 3, .int 0, .int 3])) rfl ?_
      apply xe_callq pg_104 103 [.int 3, .int 0, .int 3] (.inl (some (.int 1))) (6, [(0, .int 3)], [.int 1]) rfl (fun _ => rfl)
      · refine xe_sn pg_103 4 (fr' := (6, [(0, .int 3), (1, .int 0), (2, .int 3)], [.int 3])) rfl ?_
        refine xe_sn pg_103 4 (fr' := (15, [(0, .int 3), (1, .int 0), (2, .int 3)], [.int 1])) rfl ?_
        exact xe_end pg_103 rfl
      exact xe_end pg_104 rfl
    refine xe_sn pg_153 4 (fr' := (12, [(0, .ref 165), (1, .int 3), (2, .int 5)], [.int 11, .int 0, .int 5, .ref 165])) rfl ?_
    apply xe_callq pg_153 103 [.int 5, .int 0, .int 11] (.inl (some (.int 1))) (15, [(0, .ref 165), (1, .int 3), (2, .int 5)], [.int 1, .ref 165]) rfl (fun _ => rfl)
    · refine xe_sn pg_103 4 (fr' := (6, [(0, .int 5), (1, .int 0), (2, .int 11)], [.int 5])) rfl ?_
      refine xe_sn pg_103 4 (fr' := (15, [(0, .int 5), (1, .int 0), (2, .int 11)], [.int 1])) rfl ?_
      exact xe_end pg_103 rfl
    refine xe_sn pg_153 3 (fr' := (23, [(0, .ref 165), (1, .int 3), (2, .int 5)], [.int 1, .ref 165])) rfl ?_
    apply xe_callq pg_153 151 [.ref 165, .int 1] (.inl (some (.int 0))) (26, [(0, .ref 165), (1, .int 3), (2, .int 5)], [.int 0]) rfl (fun _ => rfl)
    · refine xe_sn pg_151 4 (fr' := (6, [(0, .ref 165), (1, .int 1)], [.int 0, .ref 165])) rfl ?_
      refine xe_sn pg_151 4 (fr' := (21, [(0, .ref 165), (1, .int 1)], [])) rfl ?_
      refine xe_sn pg_151 1 (fr' := (22, [(0, .ref 165), (1, .int 1)], [.int 0])) rfl ?_
      exact xe_end pg_151 rfl
    refine xe_sn pg_153 4 (fr' := (56, [(0, .ref 165), (1, .int 3), (2, .int 5)], [])) rfl ?_
    refine xe_sn pg_153 4 (fr' := (91, [(0, .ref 165), (1, .int 3), (2, .int 5)], [.int 5])) rfl ?_
    refine xe_sn pg_153 4 (fr' := (99, [(0, .ref 165), (1, .int 3), (2, .int 5)], [.ref 171])) rfl ?_
    refine xe_sn pg_153 3 (fr' := (139, [(0, .ref 165), (1, .int 3), (2, .int 5)], [.int (-1)])) rfl ?_
    exact xe_end pg_153 rfl
  · exact ⟨⟨rfl, rfl, rfl, rfl⟩, Nat.le_of_ble_eq_true rfl, Nat.le_of_ble_eq_true rfl, rfl, fun _ => rfl⟩

set_option maxRecDepth 100000 in
theorem lf_circuit_52 (xs : Nat → Int32) : op_ok xs 172 153 [.ref 0, .int 3, .int 6, .ref 189] [.ref 165, .int 3, .int 6] := by
  refine ⟨0, 0, ?_⟩
  apply Exists.intro
  apply Exists.intro
  apply And.intro
  · refine xe_sn pg_172 4 (fr' := (4, [(0, .ref 0), (1, .int 3), (2, .int 6), (3, .ref 189)], [.int 3, .ref 0, .int 0, .ref 189])) rfl ?_
    refine xe_sn pg_172 1 (fr' := (5, [(0, .ref 0), (1, .int 3), (2, .int 6), (3, .ref 189)], [.int 6, .int 3, .ref 0, .int 0, .ref 189])) rfl ?_
    apply xe_callq pg_172 85 [.ref 0, .int 3, .int 6] (.inl (some (.int 0))) (8, [(0, .ref 0), (1, .int 3), (2, .int 6), (3, .ref 189)], [.int 0, .int 0, .ref 189]) rfl (fun _ => rfl)
    · refine xe_sn pg_85 1 (fr' := (1, [(0, .ref 0), (1, .int 3), (2, .int 6)], [.int 3])) rfl ?_
      apply xe_callq pg_85 92 [.int 3] (.inl none) (4, [(0, .ref 0), (1, .int 3), (2, .int 6)], []) rfl (fun _ => rfl)
      · refine xe_sn pg_92 2 (fr' := (2, [(0, .int 3)], [.int 4, .int 3])) rfl ?_
        apply xe_callq pg_92 95 [.int 3, .int 4] (.inl none) (5, [(0, .int 3)], []) rfl (fun _ => rfl)
        · refine xe_sn pg_95 4 (fr' := (6, [(0, .int 3), (1, .int 4)], [.int 4, .int 3])) rfl ?_
          refine xe_sn pg_95 1 (fr' := (17, [(0, .int 3), (1, .int 4)], [])) rfl ?_
          exact xe_end pg_95 rfl
        exact xe_end pg_92 rfl
      refine xe_sn pg_85 2 (fr' := (7, [(0, .ref 0), (1, .int 3), (2, .int 6)], [.int 12, .int 6])) rfl ?_
      apply xe_callq pg_85 95 [.int 6, .int 12] (.inl none) (10, [(0, .ref 0), (1, .int 3), (2, .int 6)], []) rfl (fun _ => rfl)
      · refine xe_sn pg_95 4 (fr' := (6, [(0, .int 6), (1, .int 12)], [.int 12, .int 6])) rfl ?_
        refine xe_sn pg_95 1 (fr' := (17, [(0, .int 6), (1, .int 12)], [])) rfl ?_
        exact xe_end pg_95 rfl
      refine xe_sn pg_85 4 (fr' := (16, [(0, .ref 0), (1, .int 3), (2, .int 6)], [.ref 154])) rfl ?_
      refine xe_sn pg_85 4 (fr' := (107, [(3, .ref 154), (0, .ref 0), (1, .int 3), (2, .int 6)], [.ref 154])) rfl ?_
      refine xe_sn pg_85 4 (fr' := (114, [(3, .ref 154), (0, .ref 0), (1, .int 3), (2, .int 6)], [.int 0, .ref 160])) rfl ?_
      refine xe_sn pg_85 2 (fr' := (118, [(3, .ref 154), (0, .ref 0), (1, .int 3), (2, .int 6)], [.int 0])) rfl ?_
      exact xe_end pg_85 rfl
    refine xe_sn pg_172 4 (fr' := (18, [(0, .ref 0), (1, .int 3), (2, .int 6), (3, .ref 189)], [.int 0])) rfl ?_
    exact xe_end pg_172 rfl
  refine And.intro ⟨rfl, rfl, rfl, rfl⟩ ?_
  apply And.intro
  · refine xe_sn pg_153 2 (fr' := (2, [(0, .ref 165), (1, .int 3), (2, .int 6)], [.int 3, .ref 165])) rfl ?_
    apply xe_callq pg_153 104 [.int 3] (.inl (some (.int 1))) (5, [(0, .ref 165), (1, .int 3), (2, .int 6)], [.int 1, .ref 165]) rfl (fun _ => rfl)
    · refine xe_sn pg_104 3 (fr' := (3, [(0, .int 3)], [.int 3, .int 0, .int 3])) rfl ?_
      apply xe_callq pg_104 103 [.int 3, .int 0, .int 3] (.inl (some (.int 1))) (6, [(0, .int 3)], [.int 1]) rfl (fun _ => rfl)
      · refine xe_sn pg_103 4 (fr' := (6, [(0, .int 3), (1, .int 0), (2, .int 3)], [.int 3])) rfl ?_
        refine xe_sn pg_103 4 (fr' := (15, [(0, .int 3), (1, .int 0), (2, .int 3)], [.int 1])) rfl ?_
        exact xe_end pg_103 rfl
      exact xe_end pg_104 rfl
    refine xe_sn pg_153 4 (fr' := (12, [(0, .ref 165), (1, .int 3), (2, .int 6)], [.int 11, .int 0, .int 6, .ref 165])) rfl ?_
    apply xe_callq pg_153 103 [.int 6, .int 0, .int 11] (.inl (some (.int 1))) (15, [(0, .ref 165), (1, .int 3), (2, .int 6)], [.int 1, .ref 165]) rfl (fun _ => rfl)
    · refine xe_sn pg_103 4 (fr' := (6, [(0, .int 6), (1, .int 0), (2, .int 11)], [.int 6])) rfl ?_
      refine xe_sn pg_103 4 (fr' := (15, [(0, .int 6), (1, .int 0), (2, .int 11)], [.int 1])) rfl ?_
      exact xe_end pg_103 rfl
    refine xe_sn pg_153 3 (fr' := (23, [(0, .ref 165), (1, .int 3), (2, .int 6)], [.int 1, .ref 165])) rfl ?_
    apply xe_callq pg_153 151 [.ref 165, .int 1] (.inl (some (.int 0))) (26, [(0, .ref 165), (1, .int 3), (2, .int 6)], [.int 0]) rfl (fun _ => rfl)
    · refine xe_sn pg_151 4 (fr' := (6, [(0, .ref 165), (1, .int 1)], [.int 0, .ref 165])) rfl ?_
      refine xe_sn pg_151 4 (fr' := (21, [(0, .ref 165), (1, .int 1)], [])) rfl ?_
      refine xe_sn pg_151 1 (fr' := (22, [(0, .ref 165), (1, .int 1)], [.int 0])) rfl ?_
      exact xe_end pg_151 rfl
    refine xe_sn pg_153 4 (fr' := (56, [(0, .ref 165), (1, .int 3), (2, .int 6)], [])) rfl ?_
    refine xe_sn pg_153 4 (fr' := (91, [(0, .ref 165), (1, .int 3), (2, .int 6)], [.int 6])) rfl ?_
    refine xe_sn pg_153 4 (fr' := (107, [(0, .ref 165), (1, .int 3), (2, .int 6)], [.int 9, .int 6])) rfl ?_
    refine xe_sn pg_153 4 (fr' := (115, [(0, .ref 165), (1, .int 3), (2, .int 6)], [.int 3, .ref 173])) rfl ?_
    refine xe_sn pg_153 4 (fr' := (119, [(0, .ref 165), (1, .int 3), (2, .int 6)], [.int 15, .ref 173])) rfl ?_
    refine xe_sn pg_153 4 (fr' := (139, [(0, .ref 165), (1, .int 3), (2, .int 6)], [.int 0])) rfl ?_
    exact xe_end pg_153 rfl
  · exact ⟨⟨rfl, rfl, rfl, rfl⟩, Nat.le_of_ble_eq_true rfl, Nat.le_of_ble_eq_true rfl, rfl, fun _ => rfl⟩

set_option maxRecDepth 100000 in
theorem lf_circuit_53 (xs : Nat → Int32) : op_ok xs 172 153 [.ref 0, .int 3, .int 7, .ref 189] [.ref 165, .int 3, .int 7] := by
  refine ⟨0, 0, ?_⟩
  apply Exists.intro
  apply Exists.intro
  apply And.intro
  · refine xe_sn pg_172 4 (fr' := (4, [(0, .ref 0), (1, .int 3), (2, .int 7), (3, .ref 189)], [.int 3, .ref 0, .int 0, .ref 189])) rfl ?_
    refine xe_sn pg_172 1 (fr' := (5, [(0, .ref 0), (1, .int 3), (2, .int 7), (3, .ref 189)], [.int 7, .int 3, .ref 0, .int 0, .ref 189])) rfl ?_
    apply xe_callq pg_172 85 [.ref 0, .int 3, .int 7] (.inl (some (.int 0))) (8, [(0, .ref 0), (1, .int 3), (2, .int 7), (3, .ref 189)], [.int 0, .int 0, .ref 189]) rfl (fun _ => rfl)
    · refine xe_sn pg_85 1 (fr' := (1, [(0, .ref 0), (1, .int 3), (2, .int 7)], [.int 3])) rfl ?_
      apply xe_callq pg_85 92 [.int 3] (.inl none) (4, [(0, .ref 0), (1, .int 3), (2, .int 7)], []) rfl (fun _ => rfl)
      · refine xe_sn pg_92 2 (fr' := (2, [(0, .int 3)], [.int 4, .int 3])) rfl ?_
        apply xe_callq pg_92 95 [.int 3, .int 4] (.inl none) (5, [(0, .int 3)], []) rfl (fun _ => rfl)
        · refine xe_sn pg_95 4 (fr' := (6, [(0, .int 3), (1, .int 4)], [.int 4, .int 3])) rfl ?_
          refine xe_sn pg_95 1 (fr' := (17, [(0, .int 3), (1, .int 4)], [])) rfl ?_
          exact xe_end pg_95 rfl
        exact xe_end pg_92 rfl
      refine xe_sn pg_85 2 (fr' := (7, [(0, .ref 0), (1, .int 3), (2, .int 7)], [.int 12, .int 7])) rfl ?_
      apply xe_callq pg_85 95 [.int 7, .int 12] (.inl none) (10, [(0, .ref 0), (1, .int 3), (2, .int 7)], []) rfl (fun _ => rfl)
      · refine xe_sn pg_95 4 (fr' := (6, [(0, .int 7), (1, .int 12)], [.int 12, .int 7])) rfl ?_
        refine xe_sn pg_95 1 (fr' := (17, [(0, .int 7), (1, .int 12)], [])) rfl ?_
        exact xe_end pg_95 rfl
      refine xe_sn pg_85 4 (fr' := (16, [(0, .ref 0), (1, .int 3), (2, .int 7)], [.ref 154])) rfl ?_
      refine xe_sn pg_85 4 (fr' := (107, [(3, .ref 154), (0, .ref 0), (1, .int 3), (2, .int 7)], [.ref 154])) rfl ?_
      refine xe_sn pg_85 4 (fr' := (114, [(3, .ref 154), (0, .ref 0), (1, .int 3), (2, .int 7)], [.int 1, .ref 160])) rfl ?_
      refine xe_sn pg_85 2 (fr' := (118, [(3, .ref 154), (0, .ref 0), (1, .int 3), (2, .int 7)], [.int 0])) rfl ?_
      exact xe_end pg_85 rfl
    refine xe_sn pg_172 4 (fr' := (18, [(0, .ref 0), (1, .int 3), (2, .int 7), (3, .ref 189)], [.int 0])) rfl ?_
    exact xe_end pg_172 rfl
  refine And.intro ⟨rfl, rfl, rfl, rfl⟩ ?_
  apply And.intro
  · refine xe_sn pg_153 2 (fr' := (2, [(0, .ref 165), (1, .int 3), (2, .int 7)], [.int 3, .ref 165])) rfl ?_
    apply xe_callq pg_153 104 [.int 3] (.inl (some (.int 1))) (5, [(0, .ref 165), (1, .int 3), (2, .int 7)], [.int 1, .ref 165]) rfl (fun _ => rfl)
    · refine xe_sn pg_104 3 (fr' := (3, [(0, .int 3)], [.int 3, .int 0, .int 3])) rfl ?_
      apply xe_callq pg_104 103 [.int 3, .int 0, .int 3] (.inl (some (.int 1))) (6, [(0, .int 3)], [.int 1]) rfl (fun _ => rfl)
      · refine xe_sn pg_103 4 (fr' := (6, [(0, .int 3), (1, .int 0), (2, .int 3)], [.int 3])) rfl ?_
        refine xe_sn pg_103 4 (fr' := (15, [(0, .int 3), (1, .int 0), (2, .int 3)], [.int 1])) rfl ?_
        exact xe_end pg_103 rfl
      exact xe_end pg_104 rfl
    refine xe_sn pg_153 4 (fr' := (12, [(0, .ref 165), (1, .int 3), (2, .int 7)], [.int 11, .int 0, .int 7, .ref 165])) rfl ?_
    apply xe_callq pg_153 103 [.int 7, .int 0, .int 11] (.inl (some (.int 1))) (15, [(0, .ref 165), (1, .int 3), (2, .int 7)], [.int 1, .ref 165]) rfl (fun _ => rfl)
    · refine xe_sn pg_103 4 (fr' := (6, [(0, .int 7), (1, .int 0), (2, .int 11)], [.int 7])) rfl ?_
      refine xe_sn pg_103 4 (fr' := (15, [(0, .int 7), (1, .int 0), (2, .int 11)], [.int 1])) rfl ?_
      exact xe_end pg_103 rfl
    refine xe_sn pg_153 3 (fr' := (23, [(0, .ref 165), (1, .int 3), (2, .int 7)], [.int 1, .ref 165])) rfl ?_
    apply xe_callq pg_153 151 [.ref 165, .int 1] (.inl (some (.int 0))) (26, [(0, .ref 165), (1, .int 3), (2, .int 7)], [.int 0]) rfl (fun _ => rfl)
    · refine xe_sn pg_151 4 (fr' := (6, [(0, .ref 165), (1, .int 1)], [.int 0, .ref 165])) rfl ?_
      refine xe_sn pg_151 4 (fr' := (21, [(0, .ref 165), (1, .int 1)], [])) rfl ?_
      refine xe_sn pg_151 1 (fr' := (22, [(0, .ref 165), (1, .int 1)], [.int 0])) rfl ?_
      exact xe_end pg_151 rfl
    refine xe_sn pg_153 4 (fr' := (56, [(0, .ref 165), (1, .int 3), (2, .int 7)], [])) rfl ?_
    refine xe_sn pg_153 4 (fr' := (91, [(0, .ref 165), (1, .int 3), (2, .int 7)], [.int 7])) rfl ?_
    refine xe_sn pg_153 4 (fr' := (107, [(0, .ref 165), (1, .int 3), (2, .int 7)], [.int 9, .int 7])) rfl ?_
    refine xe_sn pg_153 4 (fr' := (115, [(0, .ref 165), (1, .int 3), (2, .int 7)], [.int 3, .ref 173])) rfl ?_
    refine xe_sn pg_153 4 (fr' := (119, [(0, .ref 165), (1, .int 3), (2, .int 7)], [.int 16, .ref 173])) rfl ?_
    refine xe_sn pg_153 4 (fr' := (139, [(0, .ref 165), (1, .int 3), (2, .int 7)], [.int 0])) rfl ?_
    exact xe_end pg_153 rfl
  · exact ⟨⟨rfl, rfl, rfl, rfl⟩, Nat.le_of_ble_eq_true rfl, Nat.le_of_ble_eq_true rfl, rfl, fun _ => rfl⟩

set_option maxRecDepth 100000 in
theorem lf_circuit_54 (xs : Nat → Int32) : op_ok xs 172 153 [.ref 0, .int 3, .int 8, .ref 189] [.ref 165, .int 3, .int 8] := by
  refine ⟨0, 0, ?_⟩
  apply Exists.intro
  apply Exists.intro
  apply And.intro
  · refine xe_sn pg_172 4 (fr' := (4, [(0, .ref 0), (1, .int 3), (2, .int 8), (3, .ref 189)], [.int 3, .ref 0, .int 0, .ref 189])) rfl ?_
    refine xe_sn pg_172 1 (fr' := (5, [(0, .ref 0), (1, .int 3), (2, .int 8), (3, .ref 189)], [.int 8, .int 3, .ref 0, .int 0, .ref 189])) rfl ?_
    apply xe_callq pg_172 85 [.ref 0, .int 3, .int 8] (.inl (some (.int 0))) (8, [(0, .ref 0), (1, .int 3), (2, .int 8), (3, .ref 189)], [.int 0, .int 0, .ref 189]) rfl (fun _ => rfl)
    · refine xe_sn pg_85 1 (fr' := (1, [(0, .ref 0), (1, .int 3), (2, .int 8)], [.int 3])) rfl ?_
      apply xe_callq pg_85 92 [.int 3] (.inl none) (4, [(0, .ref 0), (1, .int 3), (2, .int 8)], []) rfl (fun _ => rfl)
      · refine xe_sn pg_92 2 (fr' := (2, [(0, .int 3)], [.int 4, .int 3])) rfl ?_
        apply xe_callq pg_92 95 [.int 3, .int 4] (.inl none) (5, [(0, .int 3)], []) rfl (fun _ => rfl)
        · refine xe_sn pg_95 4 (fr' := (6, [(0, .int 3), (1, .int 4)], [.int 4, .int 3])) rfl ?_
          refine xe_sn pg_95 1 (fr' := (17, [(0, .int 3), (1, .int 4)], [])) rfl ?_
          exact xe_end pg_95 rfl
        exact xe_end pg_92 rfl
      refine xe_sn pg_85 2 (fr' := (7, [(0, .ref 0), (1, .int 3), (2, .int 8)], [.int 12, .int 8])) rfl ?_
      apply xe_callq pg_85 95 [.int 8, .int 12] (.inl none) (10, [(0, .ref 0), (1, .int 3), (2, .int 8)], []) rfl (fun _ => rfl)
      · refine xe_sn pg_95 4 (fr' := (6, [(0, .int 8), (1, .int 12)], [.int 12, .int 8])) rfl ?_
        refine xe_sn pg_95 1 (fr' := (17, [(0, .int 8), (1, .int 12)], [])) rfl ?_
        exact xe_end pg_95 rfl
      refine xe_sn pg_85 4 (fr' := (16, [(0, .ref 0), (1, .int 3), (2, .int 8)], [.ref 154])) rfl ?_
      refine xe_sn pg_85 4 (fr' := (107, [(3, .ref 154), (0, .ref 0), (1, .int 3), (2, .int 8)], [.ref 154])) rfl ?_
      refine xe_sn pg_85 4 (fr' := (114, [(3, .ref 154), (0, .ref 0), (1, .int 3), (2, .int 8)], [.int 2, .ref 160])) rfl ?_
      refine xe_sn pg_85 2 (fr' := (118, [(3, .ref 154), (0, .ref 0), (1, .int 3), (2, .int 8)], [.int 0])) rfl ?_
      exact xe_end pg_85 rfl
    refine xe_sn pg_172 4 (fr' := (18, [(0, .ref 0), (1, .int 3), (2, .int 8), (3, .ref 189)], [.int 0])) rfl ?_
    exact xe_end pg_172 rfl
  refine And.intro ⟨rfl, rfl, rfl, rfl⟩ ?_
  apply And.intro
  · refine xe_sn pg_153 2 (fr' := (2, [(0, .ref 165), (1, .int 3), (2, .int 8)], [.int 3, .ref 165])) rfl ?_
    apply xe_callq pg_153 104 [.int 3] (.inl (some (.int 1))) (5, [(0, .ref 165), (1, .int 3), (2, .int 8)], [.int 1, .ref 165]) rfl (fun _ => rfl)
    · refine xe_sn pg_104 3 (fr' := (3, [(0, .int 3)], [.int 3, .int 0, .int 3])) rfl ?_
      apply xe_callq pg_104 103 [.int 3, .int 0, .int 3] (.inl (some (.int 1))) (6, [(0, .int 3)], [.int 1]) rfl (fun _ => rfl)
      · refine xe_sn pg_103 4 (fr' := (6, [(0, .int 3), (1, .int 0), (2, .int 3)], [.int 3])) rfl ?_
        refine xe_sn pg_103 4 (fr' := (15, [(0, .int 3), (1, .int 0), (2, .int 3)], [.int 1])) rfl ?_
        exact xe_end pg_103 rfl
      exact xe_end pg_104 rfl
    refine xe_sn pg_153 4 (fr' := (12, [(0, .ref 165), (1, .int 3), (2, .int 8)], [.int 11, .int 0, .int 8, .ref 165])) rfl ?_
    apply xe_callq pg_153 103 [.int 8, .int 0, .int 11] (.inl (some (.int 1))) (15, [(0, .ref 165), (1, .int 3), (2, .int 8)], [.int 1, .ref 165]) rfl (fun _ => rfl)
    · refine xe_sn pg_103 4 (fr' := (6, [(0, .int 8), (1, .int 0), (2, .int 11)], [.int 8])) rfl ?_
      refine xe_sn pg_103 4 (fr' := (15, [(0, .int 8), (1, .int 0), (2, .int 11)], [.int 1])) rfl ?_
      exact xe_end pg_103 rfl
    refine xe_sn pg_153 3 (fr' := (23, [(0, .ref 165), (1, .int 3), (2, .int 8)], [.int 1, .ref 165])) rfl ?_
    apply xe_callq pg_153 151 [.ref 165, .int 1] (.inl (some (.int 0))) (26, [(0, .ref 165), (1, .int 3), (2, .int 8)], [.int 0]) rfl (fun _ => rfl)
    · refine xe_sn pg_151 4 (fr' := (6, [(0, .ref 165), (1, .int 1)], [.int 0, .ref 165])) rfl ?_
      refine xe_sn pg_151 4 (fr' := (21, [(0, .ref 165), (1, .int 1)], [])) rfl ?_
      refine xe_sn pg_151 1 (fr' := (22, [(0, .ref 165), (1, .int 1)], [.int 0])) rfl ?_
      exact xe_end pg_151 rfl
    refine xe_sn pg_153 4 (fr' := (56, [(0, .ref 165), (1, .int 3), (2, .int 8)], [])) rfl ?_
    refine xe_sn pg_153 4 (fr' := (91, [(0, .ref 165), (1, .int 3), (2, .int 8)], [.int 8])) rfl ?_
    refine xe_sn pg_153 4 (fr' := (107, [(0, .ref 165), (1, .int 3), (2, .int 8)], [.int 9, .int 8])) rfl ?_
    refine xe_sn pg_153 4 (fr' := (115, [(0, .ref 165), (1, .int 3), (2, .int 8)], [.int 3, .ref 173])) rfl ?_
    refine xe_sn pg_153 4 (fr' := (119, [(0, .ref 165), (1, .int 3), (2, .int 8)], [.int 17, .ref 173])) rfl ?_
    refine xe_sn pg_153 4 (fr' := (139, [(0, .ref 165), (1, .int 3), (2, .int 8)], [.int 0])) rfl ?_
    exact xe_end pg_153 rfl
  · exact ⟨⟨rfl, rfl, rfl, rfl⟩, Nat.le_of_ble_eq_true rfl, Nat.le_of_ble_eq_true rfl, rfl, fun _ => rfl⟩

set_option maxRecDepth 100000 in
theorem lf_circuit_55 (xs : Nat → Int32) : op_ok xs 172 153 [.ref 0, .int 3, .int 9, .ref 189] [.ref 165, .int 3, .int 9] := by
  refine ⟨0, 0, ?_⟩
  apply Exists.intro
  apply Exists.intro
  apply And.intro
  · refine xe_sn pg_172 4 (fr' := (4, [(0, .ref 0), (1, .int 3), (2, .int 9), (3, .ref 189)], [.int 3, .ref 0, .int 0, .ref 189])) rfl ?_
    refine xe_sn pg_172 1 (fr' := (5, [(0, .ref 0), (1, .int 3), (2, .int 9), (3, .ref 189)], [.int 9, .int 3, .ref 0, .int 0, .ref 189])) rfl ?_
    apply xe_callq pg_172 85 [.ref 0, .int 3, .int 9] (.inl (some (.int 0))) (8, [(0, .ref 0), (1, .int 3), (2, .int 9), (3, .ref 189)], [.int 0, .int 0, .ref 189]) rfl (fun _ => rfl)
    · refine xe_sn pg_85 1 (fr' := (1, [(0, .ref 0), (1, .int 3), (2, .int 9)], [.int 3])) rfl ?_
      apply xe_callq pg_85 92 [.int 3] (.inl none) (4, [(0, .ref 0), (1, .int 3), (2, .int 9)], []) rfl (fun _ => rfl)
      · refine xe_sn pg_92 2 (fr' := (2, [(0, .int 3)], [.int 4, .int 3])) rfl ?_
        apply xe_callq pg_92 95 [.int 3, .int 4] (.inl none) (5, [(0, .int 3)], []) rfl (fun _ => rfl)
        · refine xe_sn pg_95 4 (fr' := (6, [(0, .int 3), (1, .int 4)], [.int 4, .int 3])) rfl ?_
          refine xe_sn pg_95 1 (fr' := (17, [(0, .int 3), (1, .int 4)], [])) rfl ?_
          exact xe_end pg_95 rfl
        exact xe_end pg_92 rfl
      refine xe_sn pg_85 2 (fr' := (7, [(0, .ref 0), (1, .int 3), (2, .int 9)], [.int 12, .int 9])) rfl ?_
      apply xe_callq pg_85 95 [.int 9, .int 12] (.inl none) (10, [(0, .ref 0), (1, .int 3), (2, .int 9)], []) rfl (fun _ => rfl)
      · refine xe_sn pg_95 4 (fr' := (6, [(0, .int 9), (1, .int 12)], [.int 12, .int 9])) rfl ?_
        refine xe_sn pg_95 1 (fr' := (17, [(0, .int 9), (1, .int 12)], [])) rfl ?_
        exact xe_end pg_95 rfl
      refine xe_sn pg_85 4 (fr' := (16, [(0, .ref 0), (1, .int 3), (2, .int 9)], [.ref 154])) rfl ?_
      refine xe_sn pg_85 4 (fr' := (120, [(3, .ref 154), (0, .ref 0), (1, .int 3), (2, .int 9)], [.ref 154])) rfl ?_
      refine xe_sn pg_85 4 (fr' := (127, [(3, .ref 154), (0, .ref 0), (1, .int 3), (2, .int 9)], [.int 0, .ref 160])) rfl ?_
      refine xe_sn pg_85 2 (fr' := (131, [(3, .ref 154), (0, .ref 0), (1, .int 3), (2, .int 9)], [.int 0])) rfl ?_
      exact xe_end pg_85 rfl
    refine xe_sn pg_172 4 (fr' := (18, [(0, .ref 0), (1, .int 3), (2, .int 9), (3, .ref 189)], [.int 0])) rfl ?_
    exact xe_end pg_172 rfl
  refine And.intro ⟨rfl, rfl, rfl, rfl⟩ ?_
  apply And.intro
  · refine xe_sn pg_153 2 (fr' := (2, [(0, .ref 165), (1, .int 3), (2, .int 9)], [.int 3, .ref 165])) rfl ?_
    apply xe_callq pg_153 104 [.int 3] (.inl (some (.int 1))) (5, [(0, .ref 165), (1, .int 3), (2, .int 9)], [.int 1, .ref 165]) rfl (fun _ => rfl)
    · refine xe_sn pg_104 3 (fr' := (3, [(0, .int 3)], [.int 3, .int 0, .int 3])) rfl ?_
      apply xe_callq pg_104 103 [.int 3, .int 0, .int 3] (.inl (some (.int 1))) (6, [(0, .int 3)], [.int 1]) rfl (fun _ => rfl)
      · refine xe_sn pg_103 4 (fr' := (6, [(0, .int 3), (1, .int 0), (2, .int 3)], [.int 3])) rfl ?_
        refine xe_sn pg_103 4 (fr' := (15, [(0, .int 3), (1, .int 0), (2, .int 3)], [.int 1])) rfl ?_
        exact xe_end pg_103 rfl
      exact xe_end pg_104 rfl
    refine xe_sn pg_153 4 (fr' := (12, [(0, .ref 165), (1, .int 3), (2, .int 9)], [.int 11, .int 0, .int 9, .ref 165])) rfl ?_
    apply xe_callq pg_153 103 [.int 9, .int 0, .int 11] (.inl (some (.int 1))) (15, [(0, .ref 165), (1, .int 3), (2, .int 9)], [.int 1, .ref 165]) rfl (fun _ => rfl)
    · refine xe_sn pg_103 4 (fr' := (6, [(0, .int 9), (1, .int 0), (2, .int 11)], [.int 9])) rfl ?_
      refine xe_sn pg_103 4 (fr' := (15, [(0, .int 9), (1, .int 0), (2, .int 11)], [.int 1])) rfl ?_
      exact xe_end pg_103 rfl
    refine xe_sn pg_153 3 (fr' := (23, [(0, .ref 165), (1, .int 3), (2, .int 9)], [.int 1, .ref 165])) rfl ?_
    apply xe_callq pg_153 151 [.ref 165, .int 1] (.inl (some (.int 0))) (26, [(0, .ref 165), (1, .int 3), (2, .int 9)], [.int 0]) rfl (fun _ => rfl)
    · refine xe_sn pg_151 4 (fr' := (6, [(0, .ref 165), (1, .int 1)], [.int 0, .ref 165])) rfl ?_
      refine xe_sn pg_151 4 (fr' := (21, [(0, .ref 165), (1, .int 1)], [])) rfl ?_
      refine xe_sn pg_151 1 (fr' := (22, [(0, .ref 165), (1, .int 1)], [.int 0])) rfl ?_
      exact xe_end pg_151 rfl
    refine xe_sn pg_153 4 (fr' := (56, [(0, .ref 165), (1, .int 3), (2, .int 9)], [])) rfl ?_
    refine xe_sn pg_153 4 (fr' := (91, [(0, .ref 165), (1, .int 3), (2, .int 9)], [.int 9])) rfl ?_
    refine xe_sn pg_153 4 (fr' := (107, [(0, .ref 165), (1, .int 3), (2, .int 9)], [.int 9, .int 9])) rfl ?_
    refine xe_sn pg_153 4 (fr' := (131, [(0, .ref 165), (1, .int 3), (2, .int 9)], [.int 3, .ref 175])) rfl ?_
    refine xe_sn pg_153 4 (fr' := (135, [(0, .ref 165), (1, .int 3), (2, .int 9)], [.int 18, .ref 175])) rfl ?_
    refine xe_sn pg_153 3 (fr' := (139, [(0, .ref 165), (1, .int 3), (2, .int 9)], [.int 0])) rfl ?_
    exact xe_end pg_153 rfl
  · exact ⟨⟨rfl, rfl, rfl, rfl⟩, Nat.le_of_ble_eq_true rfl, Nat.le_of_ble_eq_true rfl, rfl, fun _ => rfl⟩

set_option maxRecDepth 100000 in
theorem lf_circuit_56 (xs : Nat → Int32) : op_ok xs 172 153 [.ref 0, .int 3, .int 10, .ref 189] [.ref 165, .int 3, .int 10] := by
  refine ⟨0, 0, ?_⟩
  apply Exists.intro
  apply Exists.intro
  apply And.intro
  · refine xe_sn pg_172 4 (fr' := (4, [(0, .ref 0), (1, .int 3), (2, .int 10), (3, .ref 189)], [.int 3, .ref 0, .int 0, .ref 189])) rfl ?_
    refine xe_sn pg_172 1 (fr' := (5, [(0, .ref 0), (1, .int 3), (2, .int 10), (3, .ref 189)], [.int 10, .int 3, .ref 0, .int 0, .ref 189])) rfl ?_
    apply xe_callq pg_172 85 [.ref 0, .int 3, .int 10] (.inl (some (.int 0))) (8, [(0, .ref 0), (1, .int 3), (2, .int 10), (3, .ref 189)], [.int 0, .int 0, .ref 189]) rfl (fun _ => rfl)
    · refine xe_sn pg_85 1 (fr' := (1, [(0, .ref 0), (1, .int 3), (2, .int 10)], [.int 3])) rfl ?_
      apply xe_callq pg_85 92 [.int 3] (.inl none) (4, [(0, .ref 0), (1, .int 3), (2, .int 10)], []) rfl (fun _ => rfl)
      · refine xe_sn pg_92 2 (fr' := (2, [(0, .int 3)], [.int 4, .int 3])) rfl ?_
        apply xe_callq pg_92 95 [.int 3, .int 4] (.inl none) (5, [(0, .int 3)], []) rfl (fun _ => rfl)
        · refine xe_sn pg_95 4 (fr' := (6, [(0, .int 3), (1, .int 4)], [.int 4, .int 3])) rfl ?_
          refine xe_sn pg_95 1 (fr' := (17, [(0, .int 3), (1, .int 4)], [])) rfl ?_
          exact xe_end pg_95 rfl
        exact xe_end pg_92 rfl
      refine xe_sn pg_85 2 (fr' := (7, [(0, .ref 0), (1, .int 3), (2, .int 10)], [.int 12, .int 10])) rfl ?_
      apply xe_callq pg_85 95 [.int 10, .int 12] (.inl none) (10, [(0, .ref 0), (1, .int 3), (2, .int 10)], []) rfl (fun _ => rfl)
      · refine xe_sn pg_95 4 (fr' := (6, [(0, .int 10), (1, .int 12)], [.int 12, .int 10])) rfl ?_
        refine xe_sn pg_95 1 (fr' := (17, [(0, .int 10), (1, .int 12)], [])) rfl ?_
        exact xe_end pg_95 rfl
      refine xe_sn pg_85 4 (fr' := (16, [(0, .ref 0), (1, .int 3), (2, .int 10)], [.ref 154])) rfl ?_
      refine xe_sn pg_85 4 (fr' := (120, [(3, .ref 154), (0, .ref 0), (1, .int 3), (2, .int 10)], [.ref 154])) rfl ?_
      refine xe_sn pg_85 4 (fr' := (127, [(3, .ref 154), (0, .ref 0), (1, .int 3), (2, .int 10)], [.int 1, .ref 160])) rfl ?_
      refine xe_sn pg_85 2 (fr' := (131, [(3, .ref 154), (0, .ref 0), (1, .int 3), (2, .int 10)], [.int 0])) rfl ?_
      exact xe_end pg_85 rfl
    refine xe_sn pg_172 4 (fr' := (18, [(0, .ref 0), (1, .int 3), (2, .int 10), (3, .ref 189)], [.int 0])) rfl ?_
    exact xe_end pg_172 rfl
  refine And.intro ⟨rfl, rfl, rfl, rfl⟩ ?_
  apply And.intro
  · refine xe_sn pg_153 2 (fr' := (2, [(0, .ref 165), (1, .int 3), (2, .int 10)], [.int 3, .ref 165])) rfl ?_
    apply xe_callq pg_153 104 [.int 3] (.inl (some (.int 1))) (5, [(0, .ref 165), (1, .int 3), (2, .int 10)], [.int 1, .ref 165]) rfl (fun _ => rfl)
    · refine xe_sn pg_104 3 (fr' := (3, [(0, .int 3)], [.int 3, .int 0, .int 3])) rfl ?_
      apply xe_callq pg_104 103 [.int 3, .int 0, .int 3] (.inl (some (.int 1))) (6, [(0, .int 3)], [.int 1]) rfl (fun _ => rfl)
      · refine xe_sn pg_103 4 (fr' := (6, [(0, .int 3), (1, .int 0), (2, .int 3)], [.int 3])) rfl ?_
        refine xe_sn pg_103 4 (fr' := (15, [(0, .int 3), (1, .int 0), (2, .int 3)], [.int 1])) rfl ?_
        exact xe_end pg_103 rfl
      exact xe_end pg_104 rfl
    refine xe_sn pg_153 4 (fr' := (12, [(0, .ref 165), (1, .int 3), (2, .int 10)], [.int 11, .int 0, .int 10, .ref 165])) rfl ?_
    apply xe_callq pg_153 103 [.int 10, .int 0, .int 11] (.inl (some (.int 1))) (15, [(0, .ref 165), (1, .int 3), (2, .int 10)], [.int 1, .ref 165]) rfl (fun _ => rfl)
    · refine xe_sn pg_103 4 (fr' := (6, [(0, .int 10), (1, .int 0), (2, .int 11)], [.int 10])) rfl ?_
      refine xe_sn pg_103 4 (fr' := (15, [(0, .int 10), (1, .int 0), (2, .int 11)], [.int 1])) rfl ?_
      exact xe_end pg_103 rfl
    refine xe_sn pg_153 3 (fr' := (23, [(0, .ref 165), (1, .int 3), (2, .int 10)], [.int 1, .ref 165])) rfl ?_
    apply xe_callq pg_153 151 [.ref 165, .int 1] (.inl (some (.int 0))) (26, [(0, .ref 165), (1, .int 3), (2, .int 10)], [.int 0]) rfl (fun _ => rfl)
    · refine xe_sn pg_151 4 (fr' := (6, [(0, .ref 165), (1, .int 1)], [.int 0, .ref 165])) rfl ?_
      refine xe_sn pg_151 4 (fr' := (21, [(0, .ref 165), (1, .int 1)], [])) rfl ?_
      refine xe_sn pg_151 1 (fr' := (22, [(0, .ref 165), (1, .int 1)], [.int 0])) rfl ?_
      exact xe_end pg_151 rfl
    refine xe_sn pg_153 4 (fr' := (56, [(0, .ref 165), (1, .int 3), (2, .int 10)], [])) rfl ?_
    refine xe_sn pg_153 4 (fr' := (91, [(0, .ref 165), (1, .int 3), (2, .int 10)], [.int 10])) rfl ?_
    refine xe_sn pg_153 4 (fr' := (107, [(0, .ref 165), (1, .int 3), (2, .int 10)], [.int 9, .int 10])) rfl ?_
    refine xe_sn pg_153 4 (fr' := (131, [(0, .ref 165), (1, .int 3), (2, .int 10)], [.int 3, .ref 175])) rfl ?_
    refine xe_sn pg_153 4 (fr' := (135, [(0, .ref 165), (1, .int 3), (2, .int 10)], [.int 19, .ref 175])) rfl ?_
    refine xe_sn pg_153 3 (fr' := (139, [(0, .ref 165), (1, .int 3), (2, .int 10)], [.int 0])) rfl ?_
    exact xe_end pg_153 rfl
  · exact ⟨⟨rfl, rfl, rfl, rfl⟩, Nat.le_of_ble_eq_true rfl, Nat.le_of_ble_eq_true rfl, rfl, fun _ => rfl⟩

set_option maxRecDepth 100000 in
theorem lf_circuit_57 (xs : Nat → Int32) : op_ok xs 172 153 [.ref 0, .int 3, .int 11, .ref 189] [.ref 165, .int 3, .int 11] := by
  refine ⟨0, 0, ?_⟩
  apply Exists.intro
  apply Exists.intro
  apply And.intro
  · refine xe_sn pg_172 4 (fr' := (4, [(0, .ref 0), (1, .int 3), (2, .int 11), (3, .ref 189)], [.int 3, .ref 0, .int 0, .ref 189])) rfl ?_
    refine xe_sn pg_172 1 (fr' := (5, [(0, .ref 0), (1, .int 3), (2, .int 11), (3, .ref 189)], [.int 11, .int 3, .ref 0, .int 0, .ref 189])) rfl ?_
    apply xe_callq pg_172 85 [.ref 0, .int 3, .int 11] (.inl (some (.int 0))) (8, [(0, .ref 0), (1, .int 3), (2, .int 11), (3, .ref 189)], [.int 0, .int 0, .ref 189]) rfl (fun _ => rfl)
    · refine xe_sn pg_85 1 (fr' := (1, [(0, .ref 0), (1, .int 3), (2, .int 11)], [.int 3])) rfl ?_
      apply xe_callq pg_85 92 [.int 3] (.inl none) (4, [(0, .ref 0), (1, .int 3), (2, .int 11)], []) rfl (fun _ => rfl)
      · refine xe_sn pg_92 2 (fr' := (2, [(0, .int 3)], [.int 4, .int 3])) rfl ?_
        apply xe_callq pg_92 95 [.int 3, .int 4] (.inl none) (5, [(0, .int 3)], []) rfl (fun _ => rfl)
        · refine xe_sn pg_95 4 (fr' := (6, [(0, .int 3), (1, .int 4)], [.int 4, .int 3])) rfl ?_
          refine xe_sn pg_95 1 (fr' := (17, [(0, .int 3), (1, .int 4)], [])) rfl ?_
          exact xe_end pg_95 rfl
        exact xe_end pg_92 rfl
      refine xe_sn pg_85 2 (fr' := (7, [(0, .ref 0), (1, .int 3), (2, .int 11)], [.int 12, .int 11])) rfl ?_
      apply xe_callq pg_85 95 [.int 11, .int 12] (.inl none) (10, [(0, .ref 0), (1, .int 3), (2, .int 11)], []) rfl (fun _ => rfl)
      · refine xe_sn pg_95 4 (fr' := (6, [(0, .int 11), (1, .int 12)], [.int 12, .int 11])) rfl ?_
        refine xe_sn pg_95 1 (fr' := (17, [(0, .int 11), (1, .int 12)], [])) rfl ?_
        exact xe_end pg_95 rfl
      refine xe_sn pg_85 4 (fr' := (16, [(0, .ref 0), (1, .int 3), (2, .int 11)], [.ref 154])) rfl ?_
      refine xe_sn pg_85 4 (fr' := (120, [(3, .ref 154), (0, .ref 0), (1, .int 3), (2, .int 11)], [.ref 154])) rfl ?_
      refine xe_sn pg_85 4 (fr' := (127, [(3, .ref 154), (0, .ref 0), (1, .int 3), (2, .int 11)], [.int 2, .ref 160])) rfl ?_
      refine xe_sn pg_85 2 (fr' := (131, [(3, .ref 154), (0, .ref 0), (1, .int 3), (2, .int 11)], [.int 0])) rfl ?_
      exact xe_end pg_85 rfl
    refine xe_sn pg_172 4 (fr' := (18, [(0, .ref 0), (1, .int 3), (2, .int 11), (3, .ref 189)], [.int 0])) rfl ?_
    exact xe_end pg_172 rfl
  refine And.intro ⟨rfl, rfl, rfl, rfl⟩ ?_
  apply And.intro
  · refine xe_sn pg_153 2 (fr' := (2, [(0, .ref 165), (1, .int 3), (2, .int 11)], [.int 3, .ref 165])) rfl ?_
    apply xe_callq pg_153 104 [.int 3] (.inl (some (.int 1))) (5, [(0, .ref 165), (1, .int 3), (2, .int 11)], [.int 1, .ref 165]) rfl (fun _ => rfl)
    · refine xe_sn pg_104 3 (fr' := (3, [(0, .int 3)], [.int 3, .int 0, .int 3])) rfl ?_
      apply xe_callq pg_104 103 [.int 3, .int 0, .int 3] (.inl (some (.int 1))) (6, [(0, .int 3)], [.int 1]) rfl (fun _ => rfl)
      · refine xe_sn pg_103 4 (fr' := (6, [(0, .int 3), (1, .int 0), (2, .int 3)], [.int 3])) rfl ?_
        refine xe_sn pg_103 4 (fr' := (15, [(0, .int 3), (1, .int 0), (2, .int 3)], [.int 1])) rfl ?_
        exact xe_end pg_103 rfl
      exact xe_end pg_104 rfl
    refine xe_sn pg_153 4 (fr' := (12, [(0, .ref 165), (1, .int 3), (2, .int 11)], [.int 11, .int 0, .int 11, .ref 165])) rfl ?_
    apply xe_callq pg_153 103 [.int 11, .int 0, .int 11] (.inl (some (.int 1))) (15, [(0, .ref 165), (1, .int 3), (2, .int 11)], [.int 1, .ref 165]) rfl (fun _ => rfl)
    · refine xe_sn pg_103 4 (fr' := (6, [(0, .int 11), (1, .int 0), (2, .int 11)], [.int 11])) rfl ?_
      refine xe_sn pg_103 4 (fr' := (15, [(0, .int 11), (1, .int 0), (2, .int 11)], [.int 1])) rfl ?_
      exact xe_end pg_103 rfl
    refine xe_sn pg_153 3 (fr' := (23, [(0, .ref 165), (1, .int 3), (2, .int 11)], [.int 1, .ref 165])) rfl ?_
    apply xe_callq pg_153 151 [.ref 165, .int 1] (.inl (some (.int 0))) (26, [(0, .ref 165), (1, .int 3), (2, .int 11)], [.int 0]) rfl (fun _ => rfl)
    · refine xe_sn pg_151 4 (fr' := (6, [(0, .ref 165), (1, .int 1)], [.int 0, .ref 165])) rfl ?_
      refine xe_sn pg_151 4 (fr' := (21, [(0, .ref 165), (1, .int 1)], [])) rfl ?_
      refine xe_sn pg_151 1 (fr' := (22, [(0, .ref 165), (1, .int 1)], [.int 0])) rfl ?_
      exact xe_end pg_151 rfl
    refine xe_sn pg_153 4 (fr' := (56, [(0, .ref 165), (1, .int 3), (2, .int 11)], [])) rfl ?_
    refine xe_sn pg_153 4 (fr' := (91, [(0, .ref 165), (1, .int 3), (2, .int 11)], [.int 11])) rfl ?_
    refine xe_sn pg_153 4 (fr' := (107, [(0, .ref 165), (1, .int 3), (2, .int 11)], [.int 9, .int 11])) rfl ?_
    refine xe_sn pg_153 4 (fr' := (131, [(0, .ref 165), (1, .int 3), (2, .int 11)], [.int 3, .ref 175])) rfl ?_
    refine xe_sn pg_153 4 (fr' := (135, [(0, .ref 165), (1, .int 3), (2, .int 11)], [.int 20, .ref 175])) rfl ?_
    refine xe_sn pg_153 3 (fr' := (139, [(0, .ref 165), (1, .int 3), (2, .int 11)], [.int 0])) rfl ?_
    exact xe_end pg_153 rfl
  · exact ⟨⟨rfl, rfl, rfl, rfl⟩, Nat.le_of_ble_eq_true rfl, Nat.le_of_ble_eq_true rfl, rfl, fun _ => rfl⟩
theorem op_circuit (xs : Nat → Int32) (p0 p1 : Int32) : op_ok xs 172 153 [.ref 0, .int p0, .int p1, .ref 189] [.ref 165, .int p0, .int p1] := by
  by_cases a0 : p0.toInt < 0
  · exact lf_circuit_0 xs p0 p1 a0
  by_cases b0 : 3 < p0.toInt
  · exact lf_circuit_1 xs p0 p1 b0
  replace a0 : 0 ≤ p0.toInt := by omega
  replace b0 : p0.toInt ≤ 3 := by omega
  rcases (by omega : p0.toInt = 0 ∨ p0.toInt = 1 ∨ p0.toInt = 2 ∨ p0.toInt = 3) with q0 | q0 | q0 | q0
  · obtain rfl : p0 = 0 := Int32.toInt_inj.mp (q0.trans (by decide))
    by_cases a1 : p1.toInt < 0
    · exact lf_circuit_2 xs p1 a1
    by_cases b1 : 11 < p1.toInt
    · exact lf_circuit_3 xs p1 b1
    replace a1 : 0 ≤ p1.toInt := by omega
    replace b1 : p1.toInt ≤ 11 := by omega
    rcases (by omega : p1.toInt = 0 ∨ p1.toInt = 1 ∨ p1.toInt = 2 ∨ p1.toInt = 3 ∨ p1.toInt = 4 ∨ p1.toInt = 5 ∨ p1.toInt = 6 ∨ p1.toInt = 7 ∨ p1.toInt = 8 ∨ p1.toInt = 9 ∨ p1.toInt = 10 ∨ p1.toInt = 11) with q1 | q1 | q1 | q1 | q1 | q1 | q1 | q1 | q1 | q1 | q1 | q1
    · obtain rfl : p1 = 0 := Int32.toInt_inj.mp (q1.trans (by decide))
      exact lf_circuit_4 xs 
    · obtain rfl : p1 = 1 := Int32.toInt_inj.mp (q1.trans (by decide))
      exact lf_circuit_5 xs 
    · obtain rfl : p1 = 2 := Int32.toInt_inj.mp (q1.trans (by decide))
      exact lf_circuit_6 xs 
    · obtain rfl : p1 = 3 := Int32.toInt_inj.mp (q1.trans (by decide))
      exact lf_circuit_7 xs 
    · obtain rfl : p1 = 4 := Int32.toInt_inj.mp (q1.trans (by decide))
      exact lf_circuit_8 xs 
    · obtain rfl : p1 = 5 := Int32.toInt_inj.mp (q1.trans (by decide))
      exact lf_circuit_9 xs 
    · obtain rfl : p1 = 6 := Int32.toInt_inj.mp (q1.trans (by decide))
      exact lf_circuit_10 xs 
    · obtain rfl : p1 = 7 := Int32.toInt_inj.mp (q1.trans (by decide))
      exact lf_circuit_11 xs 
    · obtain rfl : p1 = 8 := Int32.toInt_inj.mp (q1.trans (by decide))
      exact lf_circuit_12 xs 
    · obtain rfl : p1 = 9 := Int32.toInt_inj.mp (q1.trans (by decide))
      exact lf_circuit_13 xs 
    · obtain rfl : p1 = 10 := Int32.toInt_inj.mp (q1.trans (by decide))
      exact lf_circuit_14 xs 
    · obtain rfl : p1 = 11 := Int32.toInt_inj.mp (q1.trans (by decide))
      exact lf_circuit_15 xs 
  · obtain rfl : p0 = 1 := Int32.toInt_inj.mp (q0.trans (by decide))
    by_cases a1 : p1.toInt < 0
    · exact lf_circuit_16 xs p1 a1
    by_cases b1 : 11 < p1.toInt
    · exact lf_circuit_17 xs p1 b1
    replace a1 : 0 ≤ p1.toInt := by omega
    replace b1 : p1.toInt ≤ 11 := by omega
    rcases (by omega : p1.toInt = 0 ∨ p1.toInt = 1 ∨ p1.toInt = 2 ∨ p1.toInt = 3 ∨ p1.toInt = 4 ∨ p1.toInt = 5 ∨ p1.toInt = 6 ∨ p1.toInt = 7 ∨ p1.toInt = 8 ∨ p1.toInt = 9 ∨ p1.toInt = 10 ∨ p1.toInt = 11) with q1 | q1 | q1 | q1 | q1 | q1 | q1 | q1 | q1 | q1 | q1 | q1
    · obtain rfl : p1 = 0 := Int32.toInt_inj.mp (q1.trans (by decide))
      exact lf_circuit_18 xs 
    · obtain rfl : p1 = 1 := Int32.toInt_inj.mp (q1.trans (by decide))
      exact lf_circuit_19 xs 
    · obtain rfl : p1 = 2 := Int32.toInt_inj.mp (q1.trans (by decide))
      exact lf_circuit_20 xs 
    · obtain rfl : p1 = 3 := Int32.toInt_inj.mp (q1.trans (by decide))
      exact lf_circuit_21 xs 
    · obtain rfl : p1 = 4 := Int32.toInt_inj.mp (q1.trans (by decide))
      exact lf_circuit_22 xs 
    · obtain rfl : p1 = 5 := Int32.toInt_inj.mp (q1.trans (by decide))
      exact lf_circuit_23 xs 
    · obtain rfl : p1 = 6 := Int32.toInt_inj.mp (q1.trans (by decide))
      exact lf_circuit_24 xs 
    · obtain rfl : p1 = 7 := Int32.toInt_inj.mp (q1.trans (by decide))
      exact lf_circuit_25 xs 
    · obtain rfl : p1 = 8 := Int32.toInt_inj.mp (q1.trans (by decide))
      exact lf_circuit_26 xs 
    · obtain rfl : p1 = 9 := Int32.toInt_inj.mp (q1.trans (by decide))
      exact lf_circuit_27 xs 
    · obtain rfl : p1 = 10 := Int32.toInt_inj.mp (q1.trans (by decide))
      exact lf_circuit_28 xs 
    · obtain rfl : p1 = 11 := Int32.toInt_inj.mp (q1.trans (by decide))
      exact lf_circuit_29 xs 
  · obtain rfl : p0 = 2 := Int32.toInt_inj.mp (q0.trans (by decide))
    by_cases a1 : p1.toInt < 0
    · exact lf_circuit_30 xs p1 a1
    by_cases b1 : 11 < p1.toInt
    · exact lf_circuit_31 xs p1 b1
    replace a1 : 0 ≤ p1.toInt := by omega
    replace b1 : p1.toInt ≤ 11 := by omega
    rcases (by omega : p1.toInt = 0 ∨ p1.toInt = 1 ∨ p1.toInt = 2 ∨ p1.toInt = 3 ∨ p1.toInt = 4 ∨ p1.toInt = 5 ∨ p1.toInt = 6 ∨ p1.toInt = 7 ∨ p1.toInt = 8 ∨ p1.toInt = 9 ∨ p1.toInt = 10 ∨ p1.toInt = 11) with q1 | q1 | q1 | q1 | q1 | q1 | q1 | q1 | q1 | q1 | q1 | q1
    · obtain rfl : p1 = 0 := Int32.toInt_inj.mp (q1.trans (by decide))
      exact lf_circuit_32 xs 
    · obtain rfl : p1 = 1 := Int32.toInt_inj.mp (q1.trans (by decide))
      exact lf_circuit_33 xs 
    · obtain rfl : p1 = 2 := Int32.toInt_inj.mp (q1.trans (by decide))
      exact lf_circuit_34 xs 
    · obtain rfl : p1 = 3 := Int32.toInt_inj.mp (q1.trans (by decide))
      exact lf_circuit_35 xs 
    · obtain rfl : p1 = 4 := Int32.toInt_inj.mp (q1.trans (by decide))
      exact lf_circuit_36 xs 
    · obtain rfl : p1 = 5 := Int32.toInt_inj.mp (q1.trans (by decide))
      exact lf_circuit_37 xs 
    · obtain rfl : p1 = 6 := Int32.toInt_inj.mp (q1.trans (by decide))
      exact lf_circuit_38 xs 
    · obtain rfl : p1 = 7 := Int32.toInt_inj.mp (q1.trans (by decide))
      exact lf_circuit_39 xs 
    · obtain rfl : p1 = 8 := Int32.toInt_inj.mp (q1.trans (by decide))
      exact lf_circuit_40 xs 
    · obtain rfl : p1 = 9 := Int32.toInt_inj.mp (q1.trans (by decide))
      exact lf_circuit_41 xs 
    · obtain rfl : p1 = 10 := Int32.toInt_inj.mp (q1.trans (by decide))
      exact lf_circuit_42 xs 
    · obtain rfl : p1 = 11 := Int32.toInt_inj.mp (q1.trans (by decide))
      exact lf_circuit_43 xs 
  · obtain rfl : p0 = 3 := Int32.toInt_inj.mp (q0.trans (by decide))
    by_cases a1 : p1.toInt < 0
    · exact lf_circuit_44 xs p1 a1
    by_cases b1 : 11 < p1.toInt
    · exact lf_circuit_45 xs p1 b1
    replace a1 : 0 ≤ p1.toInt := by omega
    replace b1 : p1.toInt ≤ 11 := by omega
    rcases (by omega : p1.toInt = 0 ∨ p1.toInt = 1 ∨ p1.toInt = 2 ∨ p1.toInt = 3 ∨ p1.toInt = 4 ∨ p1.toInt = 5 ∨ p1.toInt = 6 ∨ p1.toInt = 7 ∨ p1.toInt = 8 ∨ p1.toInt = 9 ∨ p1.toInt = 10 ∨ p1.toInt = 11) with q1 | q1 | q1 | q1 | q1 | q1 | q1 | q1 | q1 | q1 | q1 | q1
    · obtain rfl : p1 = 0 := Int32.toInt_inj.mp (q1.trans (by decide))
      exact lf_circuit_46 xs 
    · obtain rfl : p1 = 1 := Int32.toInt_inj.mp (q1.trans (by decide))
      exact lf_circuit_47 xs 
    · obtain rfl : p1 = 2 := Int32.toInt_inj.mp (q1.trans (by decide))
      exact lf_circuit_48 xs 
    · obtain rfl : p1 = 3 := Int32.toInt_inj.mp (q1.trans (by decide))
      exact lf_circuit_49 xs 
    · obtain rfl : p1 = 4 := Int32.toInt_inj.mp (q1.trans (by decide))
      exact lf_circuit_50 xs 
    · obtain rfl : p1 = 5 := Int32.toInt_inj.mp (q1.trans (by decide))
      exact lf_circuit_51 xs 
    · obtain rfl : p1 = 6 := Int32.toInt_inj.mp (q1.trans (by decide))
      exact lf_circuit_52 xs 
    · obtain rfl : p1 = 7 := Int32.toInt_inj.mp (q1.trans (by decide))
      exact lf_circuit_53 xs 
    · obtain rfl : p1 = 8 := Int32.toInt_inj.mp (q1.trans (by decide))
      exact lf_circuit_54 xs 
    · obtain rfl : p1 = 9 := Int32.toInt_inj.mp (q1.trans (by decide))
      exact lf_circuit_55 xs 
    · obtain rfl : p1 = 10 := Int32.toInt_inj.mp (q1.trans (by decide))
      exact lf_circuit_56 xs 
    · obtain rfl : p1 = 11 := Int32.toInt_inj.mp (q1.trans (by decide))
      exact lf_circuit_57 xs 

