set_option maxRecDepth 100000 in
theorem lf_damage_0 (xs : Nat → Int32) (p0 : Int32) (p1 : Int32) (p2 : Int32) (a0 : p0.toInt < 0) : op_ok xs 169 149 [.ref 0, .int p0, .int p1, .int p2, .ref 189] [.ref 165, .int p0, .int p1, .int p2] := by
  refine ⟨1, 0, ?_⟩
  apply Exists.intro
  apply Exists.intro
  apply And.intro
  · refine xe_sn pg_169 4 (fr' := (5, [(0, .ref 0), (1, .int p0), (2, .int p1), (3, .int p2), (4, .ref 189)], [.int p0, .ref 0, .int 0, .ref 189])) rfl ?_
    refine xe_sn pg_169 2 (fr' := (7, [(0, .ref 0), (1, .int p0), (2, .int p1), (3, .int p2), (4, .ref 189)], [.int p2, .int p1, .int p0, .ref 0, .int 0, .ref 189])) rfl ?_
    apply xe_callq pg_169 82 [.ref 0, .int p0, .int p1, .int p2] (.inr 0) (17, [(0, .ref 0), (1, .int p0), (2, .int p1), (3, .int p2), (4, .ref 189)], []) rfl (fun _ => rfl)
    · refine xe_sn pg_82 4 (fr' := (8, [(0, .ref 0), (1, .int p0), (2, .int p1), (3, .int p2)], [.int 0, .int p0])) rfl ?_
      apply xe_callqx pg_82 95 [.int p0, .int 0] 0 rfl (fun _ => rfl)
      · refine xe_sn pg_95 1 (fr' := (1, [(0, .int p0), (1, .int 0)], [.int p0])) rfl ?_
        refine xe_t1 pg_95 9 rfl rfl (by show (p0).toInt < 0; omega) ?_
        exact xe_end pg_95 rfl
    refine xe_sn pg_169 1 (fr' := (18, [(0, .ref 0), (1, .int p0), (2, .int p1), (3, .int p2), (4, .ref 189)], [.int 1])) rfl ?_
    exact xe_end pg_169 rfl
  refine And.intro ⟨rfl, rfl, rfl, rfl⟩ ?_
  apply And.intro
  · refine xe_sn pg_149 4 (fr' := (4, [(0, .ref 165), (1, .int p0), (2, .int p1), (3, .int p2)], [.ref 165, .int 0, .int p0, .ref 165])) rfl ?_
    refine xe_sn pg_149 3 (fr' := (9, [(0, .ref 165), (1, .int p0), (2, .int p1), (3, .int p2)], [.int (-1), .int 0, .int p0, .ref 165])) rfl ?_
    apply xe_callq pg_149 103 [.int p0, .int 0, .int (-1)] (.inl (some (.int 0))) (12, [(0, .ref 165), (1, .int p0), (2, .int p1), (3, .int p2)], [.int 0, .ref 165]) rfl (fun _ => rfl)
    · refine xe_sn pg_103 2 (fr' := (2, [(0, .int p0), (1, .int 0), (2, .int (-1))], [.int 0, .int p0])) rfl ?_
      refine xe_t2 pg_103 14 rfl rfl (by show (p0).toInt < 0; omega) ?_
      refine xe_sn pg_103 1 (fr' := (15, [(0, .int p0), (1, .int 0), (2, .int (-1))], [.int 0])) rfl ?_
      exact xe_end pg_103 rfl
    refine xe_sn pg_149 4 (fr' := (48, [(0, .ref 165), (1, .int p0), (2, .int p1), (3, .int p2)], [])) rfl ?_
    refine xe_sn pg_149 4 (fr' := (56, [(0, .ref 165), (1, .int p0), (2, .int p1), (3, .int p2)], [.int 0])) rfl ?_
    exact xe_end pg_149 rfl
  · exact ⟨⟨rfl, rfl, rfl, rfl⟩, Nat.le_of_ble_eq_true rfl, Nat.le_of_ble_eq_true rfl, rfl, fun q => absurd q (by decide)⟩

set_option maxRecDepth 100000 in
theorem lf_damage_1 (xs : Nat → Int32) (p0 : Int32) (p1 : Int32) (p2 : Int32) (a0 : 0 ≤ p0.toInt) : op_ok xs 169 149 [.ref 0, .int p0, .int p1, .int p2, .ref 189] [.ref 165, .int p0, .int p1, .int p2] := by
  refine ⟨1, 0, ?_⟩
  apply Exists.intro
  apply Exists.intro
  apply And.intro
  · refine xe_sn pg_169 4 (fr' := (5, [(0, .ref 0), (1, .int p0), (2, .int p1), (3, .int p2), (4, .ref 189)], [.int p0, .ref 0, .int 0, .ref 189])) rfl ?_
    refine xe_sn pg_169 2 (fr' := (7, [(0, .ref 0), (1, .int p0), (2, .int p1), (3, .int p2), (4, .ref 189)], [.int p2, .int p1, .int p0, .ref 0, .int 0, .ref 189])) rfl ?_
    apply xe_callq pg_169 82 [.ref 0, .int p0, .int p1, .int p2] (.inr 0) (17, [(0, .ref 0), (1, .int p0), (2, .int p1), (3, .int p2), (4, .ref 189)], []) rfl (fun _ => rfl)
    · refine xe_sn pg_82 4 (fr' := (8, [(0, .ref 0), (1, .int p0), (2, .int p1), (3, .int p2)], [.int 0, .int p0])) rfl ?_
      apply xe_callqx pg_82 95 [.int p0, .int 0] 0 rfl (fun _ => rfl)
      · refine xe_sn pg_95 1 (fr' := (1, [(0, .int p0), (1, .int 0)], [.int p0])) rfl ?_
        refine xe_f1 pg_95 9 rfl rfl (by show ¬ ((p0).toInt < 0); omega) ?_
        refine xe_sn pg_95 2 (fr' := (6, [(0, .int p0), (1, .int 0)], [.int 0, .int p0])) rfl ?_
        refine xe_f2 pg_95 17 rfl rfl (by show ¬ ((p0).toInt < 0); omega) ?_
        exact xe_end pg_95 rfl
    refine xe_sn pg_169 1 (fr' := (18, [(0, .ref 0), (1, .int p0), (2, .int p1), (3, .int p2), (4, .ref 189)], [.int 1])) rfl ?_
    exact xe_end pg_169 rfl
  refine And.intro ⟨rfl, rfl, rfl, rfl⟩ ?_
  apply And.intro
  · refine xe_sn pg_149 4 (fr' := (4, [(0, .ref 165), (1, .int p0), (2, .int p1), (3, .int p2)], [.ref 165, .int 0, .int p0, .ref 165])) rfl ?_
    refine xe_sn pg_149 3 (fr' := (9, [(0, .ref 165), (1, .int p0), (2, .int p1), (3, .int p2)], [.int (-1), .int 0, .int p0, .ref 165])) rfl ?_
    apply xe_callq pg_149 103 [.int p0, .int 0, .int (-1)] (.inl (some (.int 0))) (12, [(0, .ref 165), (1, .int p0), (2, .int p1), (3, .int p2)], [.int 0, .ref 165]) rfl (fun _ => rfl)
    · refine xe_sn pg_103 2 (fr' := (2, [(0, .int p0), (1, .int 0), (2, .int (-1))], [.int 0, .int p0])) rfl ?_
      refine xe_f2 pg_103 14 rfl rfl (by show ¬ ((p0).toInt < 0); omega) ?_
      refine xe_sn pg_103 2 (fr' := (7, [(0, .int p0), (1, .int 0), (2, .int (-1))], [.int (-1), .int p0])) rfl ?_
      refine xe_t2 pg_103 14 rfl rfl (by show -1 < (p0).toInt; omega) ?_
      refine xe_sn pg_103 1 (fr' := (15, [(0, .int p0), (1, .int 0), (2, .int (-1))], [.int 0])) rfl ?_
      exact xe_end pg_103 rfl
    refine xe_sn pg_149 4 (fr' := (48, [(0, .ref 165), (1, .int p0), (2, .int p1), (3, .int p2)], [])) rfl ?_
    refine xe_sn pg_149 4 (fr' := (56, [(0, .ref 165), (1, .int p0), (2, .int p1), (3, .int p2)], [.int 0])) rfl ?_
    exact xe_end pg_149 rfl
  · exact ⟨⟨rfl, rfl, rfl, rfl⟩, Nat.le_of_ble_eq_true rfl, Nat.le_of_ble_eq_true rfl, rfl, fun q => absurd q (by decide)⟩
theorem op_damage (xs : Nat → Int32) (p0 p1 p2 : Int32) : op_ok xs 169 149 [.ref 0, .int p0, .int p1, .int p2, .ref 189] [.ref 165, .int p0, .int p1, .int p2] := by
  by_cases a0 : p0.toInt < 0
  · exact lf_damage_0 xs p0 p1 p2 a0
  · replace a0 : 0 ≤ p0.toInt := by omega
    exact lf_damage_1 xs p0 p1 p2 a0

set_option maxRecDepth 100000 in
theorem lf_lose_0 (xs : Nat → Int32) (p0 : Int32) (a0 : p0.toInt < 0) : op_ok xs 170 150 [.ref 0, .int p0, .ref 189] [.ref 165, .int p0] := by
  refine ⟨1, 0, ?_⟩
  apply Exists.intro
  apply Exists.intro
  apply And.intro
  · refine xe_sn pg_170 4 (fr' := (4, [(0, .ref 0), (1, .int p0), (2, .ref 189)], [.int p0, .ref 0, .int 0, .ref 189])) rfl ?_
    apply xe_callq pg_170 83 [.ref 0, .int p0] (.inr 0) (13, [(0, .ref 0), (1, .int p0), (2, .ref 189)], []) rfl (fun _ => rfl)
    · refine xe_sn pg_83 4 (fr' := (8, [(0, .ref 0), (1, .int p0)], [.int 0, .int p0])) rfl ?_
      apply xe_callqx pg_83 95 [.int p0, .int 0] 0 rfl (fun _ => rfl)
      · refine xe_sn pg_95 1 (fr' := (1, [(0, .int p0), (1, .int 0)], [.int p0])) rfl ?_
        refine xe_t1 pg_95 9 rfl rfl (by show (p0).toInt < 0; omega) ?_
        exact xe_end pg_95 rfl
    refine xe_sn pg_170 1 (fr' := (14, [(0, .ref 0), (1, .int p0), (2, .ref 189)], [.int 1])) rfl ?_
    exact xe_end pg_170 rfl
  refine And.intro ⟨rfl, rfl, rfl, rfl⟩ ?_
  apply And.intro
  · refine xe_sn pg_150 4 (fr' := (4, [(0, .ref 165), (1, .int p0)], [.ref 165, .int 0, .int p0, .ref 165])) rfl ?_
    refine xe_sn pg_150 3 (fr' := (9, [(0, .ref 165), (1, .int p0)], [.int (-1), .int 0, .int p0, .ref 165])) rfl ?_
    apply xe_callq pg_150 103 [.int p0, .int 0, .int (-1)] (.inl (some (.int 0))) (12, [(0, .ref 165), (1, .int p0)], [.int 0, .ref 165]) rfl (fun _ => rfl)
    · refine xe_sn pg_103 2 (fr' := (2, [(0, .int p0), (1, .int 0), (2, .int (-1))], [.int 0, .int p0])) rfl ?_
      refine xe_t2 pg_103 14 rfl rfl (by show (p0).toInt < 0; omega) ?_
      refine xe_sn pg_103 1 (fr' := (15, [(0, .int p0), (1, .int 0), (2, .int (-1))], [.int 0])) rfl ?_
      exact xe_end pg_103 rfl
    refine xe_sn pg_150 4 (fr' := (24, [(0, .ref 165), (1, .int p0)], [.ref 165])) rfl ?_
    refine xe_sn pg_150 3 (fr' := (31, [(0, .ref 165), (1, .int p0)], [.int 0])) rfl ?_
    exact xe_end pg_150 rfl
  · exact ⟨⟨rfl, rfl, rfl, rfl⟩, Nat.le_of_ble_eq_true rfl, Nat.le_of_ble_eq_true rfl, rfl, fun q => absurd q (by decide)⟩

set_option maxRecDepth 100000 in
theorem lf_lose_1 (xs : Nat → Int32) (p0 : Int32) (a0 : 0 ≤ p0.toInt) : op_ok xs 170 150 [.ref 0, .int p0, .ref 189] [.ref 165, .int p0] := by
  refine ⟨1, 0, ?_⟩
  apply Exists.intro
  apply Exists.intro
  apply And.intro
  · refine xe_sn pg_170 4 (fr' := (4, [(0, .ref 0), (1, .int p0), (2, .ref 189)], [.int p0, .ref 0, .int 0, .ref 189])) rfl ?_
    apply xe_callq pg_170 83 [.ref 0, .int p0] (.inr 0) (13, [(0, .ref 0), (1, .int p0), (2, .ref 189)], []) rfl (fun _ => rfl)
    · refine xe_sn pg_83 4 (fr' := (8, [(0, .ref 0), (1, .int p0)], [.int 0, .int p0])) rfl ?_
      apply xe_callqx pg_83 95 [.int p0, .int 0] 0 rfl (fun _ => rfl)
      · refine xe_sn pg_95 1 (fr' := (1, [(0, .int p0), (1, .int 0)], [.int p0])) rfl ?_
        refine xe_f1 pg_95 9 rfl rfl (by show ¬ ((p0).toInt < 0); omega) ?_
        refine xe_sn pg_95 2 (fr' := (6, [(0, .int p0), (1, .int 0)], [.int 0, .int p0])) rfl ?_
        refine xe_f2 pg_95 17 rfl rfl (by show ¬ ((p0).toInt < 0); omega) ?_
        exact xe_end pg_95 rfl
    refine xe_sn pg_170 1 (fr' := (14, [(0, .ref 0), (1, .int p0), (2, .ref 189)], [.int 1])) rfl ?_
    exact xe_end pg_170 rfl
  refine And.intro ⟨rfl, rfl, rfl, rfl⟩ ?_
  apply And.intro
  · refine xe_sn pg_150 4 (fr' := (4, [(0, .ref 165), (1, .int p0)], [.ref 165, .int 0, .int p0, .ref 165])) rfl ?_
    refine xe_sn pg_150 3 (fr' := (9, [(0, .ref 165), (1, .int p0)], [.int (-1), .int 0, .int p0, .ref 165])) rfl ?_
    apply xe_callq pg_150 103 [.int p0, .int 0, .int (-1)] (.inl (some (.int 0))) (12, [(0, .ref 165), (1, .int p0)], [.int 0, .ref 165]) rfl (fun _ => rfl)
    · refine xe_sn pg_103 2 (fr' := (2, [(0, .int p0), (1, .int 0), (2, .int (-1))], [.int 0, .int p0])) rfl ?_
      refine xe_f2 pg_103 14 rfl rfl (by show ¬ ((p0).toInt < 0); omega) ?_
      refine xe_sn pg_103 2 (fr' := (7, [(0, .int p0), (1, .int 0), (2, .int (-1))], [.int (-1), .int p0])) rfl ?_
      refine xe_t2 pg_103 14 rfl rfl (by show -1 < (p0).toInt; omega) ?_
      refine xe_sn pg_103 1 (fr' := (15, [(0, .int p0), (1, .int 0), (2, .int (-1))], [.int 0])) rfl ?_
      exact xe_end pg_103 rfl
    refine xe_sn pg_150 4 (fr' := (24, [(0, .ref 165), (1, .int p0)], [.ref 165])) rfl ?_
    refine xe_sn pg_150 3 (fr' := (31, [(0, .ref 165), (1, .int p0)], [.int 0])) rfl ?_
    exact xe_end pg_150 rfl
  · exact ⟨⟨rfl, rfl, rfl, rfl⟩, Nat.le_of_ble_eq_true rfl, Nat.le_of_ble_eq_true rfl, rfl, fun q => absurd q (by decide)⟩
theorem op_lose (xs : Nat → Int32) (p0 : Int32) : op_ok xs 170 150 [.ref 0, .int p0, .ref 189] [.ref 165, .int p0] := by
  by_cases a0 : p0.toInt < 0
  · exact lf_lose_0 xs p0 a0
  · replace a0 : 0 ≤ p0.toInt := by omega
    exact lf_lose_1 xs p0 a0

set_option maxRecDepth 100000 in
theorem lf_cell_0 (xs : Nat → Int32) (p0 : Int32) (p1 : Int32) (a0 : p0.toInt < 0) : op_ok xs 171 152 [.ref 0, .int p0, .int p1, .ref 189] [.ref 165, .int p0, .int p1] := by
  refine ⟨1, 0, ?_⟩
  apply Exists.intro
  apply Exists.intro
  apply And.intro
  · refine xe_sn pg_171 4 (fr' := (4, [(0, .ref 0), (1, .int p0), (2, .int p1), (3, .ref 189)], [.int p0, .ref 0, .int 0, .ref 189])) rfl ?_
    refine xe_sn pg_171 1 (fr' := (5, [(0, .ref 0), (1, .int p0), (2, .int p1), (3, .ref 189)], [.int p1, .int p0, .ref 0, .int 0, .ref 189])) rfl ?_
    apply xe_callq pg_171 84 [.ref 0, .int p0, .int p1] (.inr 0) (15, [(0, .ref 0), (1, .int p0), (2, .int p1), (3, .ref 189)], []) rfl (fun _ => rfl)
    · refine xe_sn pg_84 4 (fr' := (8, [(0, .ref 0), (1, .int p0), (2, .int p1)], [.int 0, .int p0])) rfl ?_
      apply xe_callqx pg_84 95 [.int p0, .int 0] 0 rfl (fun _ => rfl)
      · refine xe_sn pg_95 1 (fr' := (1, [(0, .int p0), (1, .int 0)], [.int p0])) rfl ?_
        refine xe_t1 pg_95 9 rfl rfl (by show (p0).toInt < 0; omega) ?_
        exact xe_end pg_95 rfl
    refine xe_sn pg_171 1 (fr' := (16, [(0, .ref 0), (1, .int p0), (2, .int p1), (3, .ref 189)], [.int 1])) rfl ?_
    exact xe_end pg_171 rfl
  refine And.intro ⟨rfl, rfl, rfl, rfl⟩ ?_
  apply And.intro
  · refine xe_sn pg_152 4 (fr' := (4, [(0, .ref 165), (1, .int p0), (2, .int p1)], [.ref 165, .int 0, .int p0, .ref 165])) rfl ?_
    refine xe_sn pg_152 3 (fr' := (9, [(0, .ref 165), (1, .int p0), (2, .int p1)], [.int (-1), .int 0, .int p0, .ref 165])) rfl ?_
    apply xe_callq pg_152 103 [.int p0, .int 0, .int (-1)] (.inl (some (.int 0))) (12, [(0, .ref 165), (1, .int p0), (2, .int p1)], [.int 0, .ref 165]) rfl (fun _ => rfl)
    · refine xe_sn pg_103 2 (fr' := (2, [(0, .int p0), (1, .int 0), (2, .int (-1))], [.int 0, .int p0])) rfl ?_
      refine xe_t2 pg_103 14 rfl rfl (by show (p0).toInt < 0; omega) ?_
      refine xe_sn pg_103 1 (fr' := (15, [(0, .int p0), (1, .int 0), (2, .int (-1))], [.int 0])) rfl ?_
      exact xe_end pg_103 rfl
    refine xe_sn pg_152 2 (fr' := (30, [(0, .ref 165), (1, .int p0), (2, .int p1)], [.int 0, .ref 165])) rfl ?_
    apply xe_callq pg_152 151 [.ref 165, .int 0] (.inl (some (.int 1))) (33, [(0, .ref 165), (1, .int p0), (2, .int p1)], [.int 1]) rfl (fun _ => rfl)
    · refine xe_sn pg_151 4 (fr' := (10, [(0, .ref 165), (1, .int 0)], [.int 1, .ref 165])) rfl ?_
      refine xe_sn pg_151 4 (fr' := (18, [(0, .ref 165), (1, .int 0)], [.int 1])) rfl ?_
      refine xe_sn pg_151 1 (fr' := (22, [(0, .ref 165), (1, .int 0)], [.int 1])) rfl ?_
      exact xe_end pg_151 rfl
    refine xe_sn pg_152 3 (fr' := (51, [(0, .ref 165), (1, .int p0), (2, .int p1)], [.int 0])) rfl ?_
    exact xe_end pg_152 rfl
  · exact ⟨⟨rfl, rfl, rfl, rfl⟩, Nat.le_of_ble_eq_true rfl, Nat.le_of_ble_eq_true rfl, rfl, fun q => absurd q (by decide)⟩

set_option maxRecDepth 100000 in
theorem lf_cell_1 (xs : Nat → Int32) (p0 : Int32) (p1 : Int32) (a0 : 0 ≤ p0.toInt) : op_ok xs 171 152 [.ref 0, .int p0, .int p1, .ref 189] [.ref 165, .int p0, .int p1] := by
  refine ⟨1, 0, ?_⟩
  apply Exists.intro
  apply Exists.intro
  apply And.intro
  · refine xe_sn pg_171 4 (fr' := (4, [(0, .ref 0), (1, .int p0), (2, .int p1), (3, .ref 189)], [.int p0, .ref 0, .int 0, .ref 189])) rfl ?_
    refine xe_sn pg_171 1 (fr' := (5, [(0, .ref 0), (1, .int p0), (2, .int p1), (3, .ref 189)], [.int p1, .int p0, .ref 0, .int 0, .ref 189])) rfl ?_
    apply xe_callq pg_171 84 [.ref 0, .int p0, .int p1] (.inr 0) (15, [(0, .ref 0), (1, .int p0), (2, .int p1), (3, .ref 189)], []) rfl (fun _ => rfl)
    · refine xe_sn pg_84 4 (fr' := (8, [(0, .ref 0), (1, .int p0), (2, .int p1)], [.int 0, .int p0])) rfl ?_
      apply xe_callqx pg_84 95 [.int p0, .int 0] 0 rfl (fun _ => rfl)
      · refine xe_sn pg_95 1 (fr' := (1, [(0, .int p0), (1, .int 0)], [.int p0])) rfl ?_
        refine xe_f1 pg_95 9 rfl rfl (by show ¬ ((p0).toInt < 0); omega) ?_
        refine xe_sn pg_95 2 (fr' := (6, [(0, .int p0), (1, .int 0)], [.int 0, .int p0])) rfl ?_
        refine xe_f2 pg_95 17 rfl rfl (by show ¬ ((p0).toInt < 0); omega) ?_
        exact xe_end pg_95 rfl
    refine xe_sn pg_171 1 (fr' := (16, [(0, .ref 0), (1, .int p0), (2, .int p1), (3, .ref 189)], [.int 1])) rfl ?_
    exact xe_end pg_171 rfl
  refine And.intro ⟨rfl, rfl, rfl, rfl⟩ ?_
  apply And.intro
  · refine xe_sn pg_152 4 (fr' := (4, [(0, .ref 165), (1, .int p0), (2, .int p1)], [.ref 165, .int 0, .int p0, .ref 165])) rfl ?_
    refine xe_sn pg_152 3 (fr' := (9, [(0, .ref 165), (1, .int p0), (2, .int p1)], [.int (-1), .int 0, .int p0, .ref 165])) rfl ?_
    apply xe_callq pg_152 103 [.int p0, .int 0, .int (-1)] (.inl (some (.int 0))) (12, [(0, .ref 165), (1, .int p0), (2, .int p1)], [.int 0, .ref 165]) rfl (fun _ => rfl)
    · refine xe_sn pg_103 2 (fr' := (2, [(0, .int p0), (1, .int 0), (2, .int (-1))], [.int 0, .int p0])) rfl ?_
      refine xe_f2 pg_103 14 rfl rfl (by show ¬ ((p0).toInt < 0); omega) ?_
      refine xe_sn pg_103 2 (fr' := (7, [(0, .int p0), (1, .int 0), (2, .int (-1))], [.int (-1), .int p0])) rfl ?_
      refine xe_t2 pg_103 14 rfl rfl (by show -1 < (p0).toInt; omega) ?_
      refine xe_sn pg_103 1 (fr' := (15, [(0, .int p0), (1, .int 0), (2, .int (-1))], [.int 0])) rfl ?_
      exact xe_end pg_103 rfl
    refine xe_sn pg_152 2 (fr' := (30, [(0, .ref 165), (1, .int p0), (2, .int p1)], [.int 0, .ref 165])) rfl ?_
    apply xe_callq pg_152 151 [.ref 165, .int 0] (.inl (some (.int 1))) (33, [(0, .ref 165), (1, .int p0), (2, .int p1)], [.int 1]) rfl (fun _ => rfl)
    · refine xe_sn pg_151 4 (fr' := (10, [(0, .ref 165), (1, .int 0)], [.int 1, .ref 165])) rfl ?_
      refine xe_sn pg_151 4 (fr' := (18, [(0, .ref 165), (1, .int 0)], [.int 1])) rfl ?_
      refine xe_sn pg_151 1 (fr' := (22, [(0, .ref 165), (1, .int 0)], [.int 1])) rfl ?_
      exact xe_end pg_151 rfl
    refine xe_sn pg_152 3 (fr' := (51, [(0, .ref 165), (1, .int p0), (2, .int p1)], [.int 0])) rfl ?_
    exact xe_end pg_152 rfl
  · exact ⟨⟨rfl, rfl, rfl, rfl⟩, Nat.le_of_ble_eq_true rfl, Nat.le_of_ble_eq_true rfl, rfl, fun q => absurd q (by decide)⟩
theorem op_cell (xs : Nat → Int32) (p0 p1 : Int32) : op_ok xs 171 152 [.ref 0, .int p0, .int p1, .ref 189] [.ref 165, .int p0, .int p1] := by
  by_cases a0 : p0.toInt < 0
  · exact lf_cell_0 xs p0 p1 a0
  · replace a0 : 0 ≤ p0.toInt := by omega
    exact lf_cell_1 xs p0 p1 a0

set_option maxRecDepth 100000 in
theorem lf_deliver_0 (xs : Nat → Int32) (p0 : Int32) (a0 : p0.toInt < 1) : op_ok xs 168 148 [.ref 0, .int p0, .ref 189] [.ref 165, .int p0] := by
  refine ⟨1, 0, ?_⟩
  apply Exists.intro
  apply Exists.intro
  apply And.intro
  · refine xe_sn pg_168 4 (fr' := (4, [(0, .ref 0), (1, .int p0), (2, .ref 189)], [.int p0, .ref 0, .int 0, .ref 189])) rfl ?_
    apply xe_callq pg_168 81 [.ref 0, .int p0] (.inr 1) (13, [(0, .ref 0), (1, .int p0), (2, .ref 189)], []) rfl (fun _ => rfl)
    · refine xe_sn pg_81 2 (fr' := (2, [(0, .ref 0), (1, .int p0)], [.int 1, .int p0])) rfl ?_
      refine xe_t2 pg_81 15 rfl rfl (by show (p0).toInt < 1; omega) ?_
      refine xe_sn pg_81 1 (fr' := (16, [(0, .ref 0), (1, .int p0)], [.int 0])) rfl ?_
      apply xe_callqx pg_81 97 [.int 0] 1 rfl (fun _ => rfl)
      · refine xe_sn pg_97 2 (fr' := (4, [(0, .int 0)], [])) rfl ?_
        exact xe_end pg_97 rfl
    refine xe_sn pg_168 1 (fr' := (14, [(0, .ref 0), (1, .int p0), (2, .ref 189)], [.int 1])) rfl ?_
    exact xe_end pg_168 rfl
  refine And.intro ⟨rfl, rfl, rfl, rfl⟩ ?_
  apply And.intro
  · refine xe_sn pg_148 4 (fr' := (5, [(0, .ref 165), (1, .int p0)], [.int 100, .int 1, .int p0, .ref 165])) rfl ?_
    apply xe_callq pg_148 103 [.int p0, .int 1, .int 100] (.inl (some (.int 0))) (8, [(0, .ref 165), (1, .int p0)], [.int 0, .ref 165]) rfl (fun _ => rfl)
    · refine xe_sn pg_103 2 (fr' := (2, [(0, .int p0), (1, .int 1), (2, .int 100)], [.int 1, .int p0])) rfl ?_
      refine xe_t2 pg_103 14 rfl rfl (by show (p0).toInt < 1; omega) ?_
      refine xe_sn pg_103 1 (fr' := (15, [(0, .int p0), (1, .int 1), (2, .int 100)], [.int 0])) rfl ?_
      exact xe_end pg_103 rfl
    refine xe_sn pg_148 4 (fr' := (20, [(0, .ref 165), (1, .int p0)], [.int 0])) rfl ?_
    refine xe_sn pg_148 4 (fr' := (163, [(2, .int 0), (0, .ref 165), (1, .int p0)], [])) rfl ?_
    refine xe_sn pg_148 1 (fr' := (164, [(2, .int 0), (0, .ref 165), (1, .int p0)], [.int 0])) rfl ?_
    exact xe_end pg_148 rfl
  · exact ⟨⟨rfl, rfl, rfl, rfl⟩, Nat.le_of_ble_eq_true rfl, Nat.le_of_ble_eq_true rfl, rfl, fun q => absurd q (by decide)⟩

set_option maxRecDepth 100000 in
theorem lf_deliver_1 (xs : Nat → Int32) (p0 : Int32) (b0 : 100 < p0.toInt) : op_ok xs 168 148 [.ref 0, .int p0, .ref 189] [.ref 165, .int p0] := by
  refine ⟨1, 0, ?_⟩
  apply Exists.intro
  apply Exists.intro
  apply And.intro
  · refine xe_sn pg_168 4 (fr' := (4, [(0, .ref 0), (1, .int p0), (2, .ref 189)], [.int p0, .ref 0, .int 0, .ref 189])) rfl ?_
    apply xe_callq pg_168 81 [.ref 0, .int p0] (.inr 1) (13, [(0, .ref 0), (1, .int p0), (2, .ref 189)], []) rfl (fun _ => rfl)
    · refine xe_sn pg_81 2 (fr' := (2, [(0, .ref 0), (1, .int p0)], [.int 1, .int p0])) rfl ?_
      refine xe_f2 pg_81 15 rfl rfl (by show ¬ ((p0).toInt < 1); omega) ?_
      refine xe_sn pg_81 2 (fr' := (8, [(0, .ref 0), (1, .int p0)], [.int 100, .int p0])) rfl ?_
      refine xe_t2 pg_81 15 rfl rfl (by show 100 < (p0).toInt; omega) ?_
      refine xe_sn pg_81 1 (fr' := (16, [(0, .ref 0), (1, .int p0)], [.int 0])) rfl ?_
      apply xe_callqx pg_81 97 [.int 0] 1 rfl (fun _ => rfl)
      · refine xe_sn pg_97 2 (fr' := (4, [(0, .int 0)], [])) rfl ?_
        exact xe_end pg_97 rfl
    refine xe_sn pg_168 1 (fr' := (14, [(0, .ref 0), (1, .int p0), (2, .ref 189)], [.int 1])) rfl ?_
    exact xe_end pg_168 rfl
  refine And.intro ⟨rfl, rfl, rfl, rfl⟩ ?_
  apply And.intro
  · refine xe_sn pg_148 4 (fr' := (5, [(0, .ref 165), (1, .int p0)], [.int 100, .int 1, .int p0, .ref 165])) rfl ?_
    apply xe_callq pg_148 103 [.int p0, .int 1, .int 100] (.inl (some (.int 0))) (8, [(0, .ref 165), (1, .int p0)], [.int 0, .ref 165]) rfl (fun _ => rfl)
    · refine xe_sn pg_103 2 (fr' := (2, [(0, .int p0), (1, .int 1), (2, .int 100)], [.int 1, .int p0])) rfl ?_
      refine xe_f2 pg_103 14 rfl rfl (by show ¬ ((p0).toInt < 1); omega) ?_
      refine xe_sn pg_103 2 (fr' := (7, [(0, .int p0), (1, .int 1), (2, .int 100)], [.int 100, .int p0])) rfl ?_
      refine xe_t2 pg_103 14 rfl rfl (by show 100 < (p0).toInt; omega) ?_
      refine xe_sn pg_103 1 (fr' := (15, [(0, .int p0), (1, .int 1), (2, .int 100)], [.int 0])) rfl ?_
      exact xe_end pg_103 rfl
    refine xe_sn pg_148 4 (fr' := (20, [(0, .ref 165), (1, .int p0)], [.int 0])) rfl ?_
    refine xe_sn pg_148 4 (fr' := (163, [(2, .int 0), (0, .ref 165), (1, .int p0)], [])) rfl ?_
    refine xe_sn pg_148 1 (fr' := (164, [(2, .int 0), (0, .ref 165), (1, .int p0)], [.int 0])) rfl ?_
    exact xe_end pg_148 rfl
  · exact ⟨⟨rfl, rfl, rfl, rfl⟩, Nat.le_of_ble_eq_true rfl, Nat.le_of_ble_eq_true rfl, rfl, fun q => absurd q (by decide)⟩

set_option maxRecDepth 100000 in
theorem lf_deliver_2 (xs : Nat → Int32) (p0 : Int32) (a0 : 1 ≤ p0.toInt) (b0 : p0.toInt ≤ 100) : op_ok xs 168 148 [.ref 0, .int p0, .ref 189] [.ref 165, .int p0] := by
  refine ⟨0, 0, ?_⟩
  apply Exists.intro
  apply Exists.intro
  apply And.intro
  · refine xe_sn pg_168 4 (fr' := (4, [(0, .ref 0), (1, .int p0), (2, .ref 189)], [.int p0, .ref 0, .int 0, .ref 189])) rfl ?_
    apply xe_callq pg_168 81 [.ref 0, .int p0] (.inl (some (.int 0))) (7, [(0, .ref 0), (1, .int p0), (2, .ref 189)], [.int 0, .int 0, .ref 189]) rfl (fun _ => rfl)
    · refine xe_sn pg_81 2 (fr' := (2, [(0, .ref 0), (1, .int p0)], [.int 1, .int p0])) rfl ?_
      refine xe_f2 pg_81 15 rfl rfl (by show ¬ ((p0).toInt < 1); omega) ?_
      refine xe_sn pg_81 2 (fr' := (8, [(0, .ref 0), (1, .int p0)], [.int 100, .int p0])) rfl ?_
      refine xe_f2 pg_81 15 rfl rfl (by show ¬ (100 < (p0).toInt); omega) ?_
      refine xe_sn pg_81 2 (fr' := (16, [(0, .ref 0), (1, .int p0)], [.int 1])) rfl ?_
      apply xe_callq pg_81 97 [.int 1] (.inl none) (19, [(0, .ref 0), (1, .int p0)], []) rfl (fun _ => rfl)
      · refine xe_sn pg_97 2 (fr' := (12, [(0, .int 1)], [])) rfl ?_
        exact xe_end pg_97 rfl
      refine xe_sn pg_81 4 (fr' := (23, [(2, .int 0), (0, .ref 0), (1, .int p0)], [.int p0, .int 0])) rfl ?_
      refine xe_f2 pg_81 116 rfl rfl (by show ¬ ((p0).toInt ≤ 0); omega) ?_
      refine xe_sn pg_81 4 (fr' := (116, [(2, .int 0), (0, .ref 0), (1, .int p0)], [])) rfl ?_
      refine xe_sn pg_81 1 (fr' := (117, [(2, .int 0), (0, .ref 0), (1, .int p0)], [.int 0])) rfl ?_
      exact xe_end pg_81 rfl
    refine xe_sn pg_168 4 (fr' := (16, [(0, .ref 0), (1, .int p0), (2, .ref 189)], [.int 0])) rfl ?_
    exact xe_end pg_168 rfl
  refine And.intro ⟨rfl, rfl, rfl, rfl⟩ ?_
  apply And.intro
  · refine xe_sn pg_148 4 (fr' := (5, [(0, .ref 165), (1, .int p0)], [.int 100, .int 1, .int p0, .ref 165])) rfl ?_
    apply xe_callq pg_148 103 [.int p0, .int 1, .int 100] (.inl (some (.int 1))) (8, [(0, .ref 165), (1, .int p0)], [.int 1, .ref 165]) rfl (fun _ => rfl)
    · refine xe_sn pg_103 2 (fr' := (2, [(0, .int p0), (1, .int 1), (2, .int 100)], [.int 1, .int p0])) rfl ?_
      refine xe_f2 pg_103 14 rfl rfl (by show ¬ ((p0).toInt < 1); omega) ?_
      refine xe_sn pg_103 2 (fr' := (7, [(0, .int p0), (1, .int 1), (2, .int 100)], [.int 100, .int p0])) rfl ?_
      refine xe_f2 pg_103 14 rfl rfl (by show ¬ (100 < (p0).toInt); omega) ?_
      refine xe_sn pg_103 2 (fr' := (15, [(0, .int p0), (1, .int 1), (2, .int 100)], [.int 1])) rfl ?_
      exact xe_end pg_103 rfl
    refine xe_sn pg_148 4 (fr' := (19, [(0, .ref 165), (1, .int p0)], [])) rfl ?_
    refine xe_sn pg_148 4 (fr' := (25, [(2, .int 0), (0, .ref 165), (1, .int p0)], [.int 0])) rfl ?_
    refine xe_sn pg_148 3 (fr' := (30, [(2, .int 0), (0, .ref 165), (1, .int p0)], [.int p0, .int 0])) rfl ?_
    refine xe_f2 pg_148 163 rfl rfl (by show ¬ ((p0).toInt ≤ 0); omega) ?_
    refine xe_sn pg_148 4 (fr' := (164, [(2, .int 0), (0, .ref 165), (1, .int p0)], [.int 0])) rfl ?_
    exact xe_end pg_148 rfl
  · exact ⟨⟨rfl, rfl, rfl, rfl⟩, Nat.le_of_ble_eq_true rfl, Nat.le_of_ble_eq_true rfl, rfl, fun _ => rfl⟩
theorem op_deliver (xs : Nat → Int32) (p0 : Int32) : op_ok xs 168 148 [.ref 0, .int p0, .ref 189] [.ref 165, .int p0] := by
  by_cases a0 : p0.toInt < 1
  · exact lf_deliver_0 xs p0 a0
  by_cases b0 : 100 < p0.toInt
  · exact lf_deliver_1 xs p0 b0
  replace a0 : 1 ≤ p0.toInt := by omega
  replace b0 : p0.toInt ≤ 100 := by omega
  exact lf_deliver_2 xs p0 a0 b0

set_option maxRecDepth 100000 in
theorem lf_truncate_0 (xs : Nat → Int32) (p0 : Int32) (p1 : Int32) (a0 : p0.toInt < 0) : op_ok xs 166 146 [.ref 0, .int p0, .int p1, .ref 189] [.ref 165, .int p0, .int p1] := by
  refine ⟨1, 0, ?_⟩
  apply Exists.intro
  apply Exists.intro
  apply And.intro
  · refine xe_sn pg_166 4 (fr' := (4, [(0, .ref 0), (1, .int p0), (2, .int p1), (3, .ref 189)], [.int p0, .ref 0, .int 0, .ref 189])) rfl ?_
    refine xe_sn pg_166 1 (fr' := (5, [(0, .ref 0), (1, .int p0), (2, .int p1), (3, .ref 189)], [.int p1, .int p0, .ref 0, .int 0, .ref 189])) rfl ?_
    apply xe_callq pg_166 79 [.ref 0, .int p0, .int p1] (.inr 0) (15, [(0, .ref 0), (1, .int p0), (2, .int p1), (3, .ref 189)], []) rfl (fun _ => rfl)
    · refine xe_sn pg_79 1 (fr' := (1, [(0, .ref 0), (1, .int p0), (2, .int p1)], [.int p0])) rfl ?_
      apply xe_callqx pg_79 92 [.int p0] 0 rfl (fun _ => rfl)
      · refine xe_sn pg_92 2 (fr' := (2, [(0, .int p0)], [.int 4, .int p0])) rfl ?_
        apply xe_callqx pg_92 95 [.int p0, .int 4] 0 rfl (fun _ => rfl)
        · refine xe_sn pg_95 1 (fr' := (1, [(0, .int p0), (1, .int 4)], [.int p0])) rfl ?_
          refine xe_t1 pg_95 9 rfl rfl (by show (p0).toInt < 0; omega) ?_
          exact xe_end pg_95 rfl
    refine xe_sn pg_166 1 (fr' := (16, [(0, .ref 0), (1, .int p0), (2, .int p1), (3, .ref 189)], [.int 1])) rfl ?_
    exact xe_end pg_166 rfl
  refine And.intro ⟨rfl, rfl, rfl, rfl⟩ ?_
  apply And.intro
  · refine xe_sn pg_146 2 (fr' := (2, [(0, .ref 165), (1, .int p0), (2, .int p1)], [.int p0, .ref 165])) rfl ?_
    apply xe_callq pg_146 104 [.int p0] (.inl (some (.int 0))) (5, [(0, .ref 165), (1, .int p0), (2, .int p1)], [.int 0, .ref 165]) rfl (fun _ => rfl)
    · refine xe_sn pg_104 3 (fr' := (3, [(0, .int p0)], [.int 3, .int 0, .int p0])) rfl ?_
      apply xe_callq pg_104 103 [.int p0, .int 0, .int 3] (.inl (some (.int 0))) (6, [(0, .int p0)], [.int 0]) rfl (fun _ => rfl)
      · refine xe_sn pg_103 2 (fr' := (2, [(0, .int p0), (1, .int 0), (2, .int 3)], [.int 0, .int p0])) rfl ?_
        refine xe_t2 pg_103 14 rfl rfl (by show (p0).toInt < 0; omega) ?_
        refine xe_sn pg_103 1 (fr' := (15, [(0, .int p0), (1, .int 0), (2, .int 3)], [.int 0])) rfl ?_
        exact xe_end pg_103 rfl
      exact xe_end pg_104 rfl
    refine xe_sn pg_146 4 (fr' := (44, [(0, .ref 165), (1, .int p0), (2, .int p1)], [])) rfl ?_
    refine xe_sn pg_146 4 (fr' := (52, [(0, .ref 165), (1, .int p0), (2, .int p1)], [.int 0])) rfl ?_
    exact xe_end pg_146 rfl
  · exact ⟨⟨rfl, rfl, rfl, rfl⟩, Nat.le_of_ble_eq_true rfl, Nat.le_of_ble_eq_true rfl, rfl, fun q => absurd q (by decide)⟩

set_option maxRecDepth 100000 in
theorem lf_truncate_1 (xs : Nat → Int32) (p0 : Int32) (p1 : Int32) (b0 : 3 < p0.toInt) : op_ok xs 166 146 [.ref 0, .int p0, .int p1, .ref 189] [.ref 165, .int p0, .int p1] := by
  refine ⟨1, 0, ?_⟩
  apply Exists.intro
  apply Exists.intro
  apply And.intro
  · refine xe_sn pg_166 4 (fr' := (4, [(0, .ref 0), (1, .int p0), (2, .int p1), (3, .ref 189)], [.int p0, .ref 0, .int 0, .ref 189])) rfl ?_
    refine xe_sn pg_166 1 (fr' := (5, [(0, .ref 0), (1, .int p0), (2, .int p1), (3, .ref 189)], [.int p1, .int p0, .ref 0, .int 0, .ref 189])) rfl ?_
    apply xe_callq pg_166 79 [.ref 0, .int p0, .int p1] (.inr 0) (15, [(0, .ref 0), (1, .int p0), (2, .int p1), (3, .ref 189)], []) rfl (fun _ => rfl)
    · refine xe_sn pg_79 1 (fr' := (1, [(0, .ref 0), (1, .int p0), (2, .int p1)], [.int p0])) rfl ?_
      apply xe_callqx pg_79 92 [.int p0] 0 rfl (fun _ => rfl)
      · refine xe_sn pg_92 2 (fr' := (2, [(0, .int p0)], [.int 4, .int p0])) rfl ?_
        apply xe_callqx pg_92 95 [.int p0, .int 4] 0 rfl (fun _ => rfl)
        · refine xe_sn pg_95 1 (fr' := (1, [(0, .int p0), (1, .int 4)], [.int p0])) rfl ?_
          refine xe_f1 pg_95 9 rfl rfl (by show ¬ ((p0).toInt < 0); omega) ?_
          refine xe_sn pg_95 2 (fr' := (6, [(0, .int p0), (1, .int 4)], [.int 4, .int p0])) rfl ?_
          refine xe_f2 pg_95 17 rfl rfl (by show ¬ ((p0).toInt < 4); omega) ?_
          exact xe_end pg_95 rfl
    refine xe_sn pg_166 1 (fr' := (16, [(0, .ref 0), (1, .int p0), (2, .int p1), (3, .ref 189)], [.int 1])) rfl ?_
    exact xe_end pg_166 rfl
  refine And.intro ⟨rfl, rfl, rfl, rfl⟩ ?_
  apply And.intro
  · refine xe_sn pg_146 2 (fr' := (2, [(0, .ref 165), (1, .int p0), (2, .int p1)], [.int p0, .ref 165])) rfl ?_
    apply xe_callq pg_146 104 [.int p0] (.inl (some (.int 0))) (5, [(0, .ref 165), (1, .int p0), (2, .int p1)], [.int 0, .ref 165]) rfl (fun _ => rfl)
    · refine xe_sn pg_104 3 (fr' := (3, [(0, .int p0)], [.int 3, .int 0, .int p0])) rfl ?_
      apply xe_callq pg_104 103 [.int p0, .int 0, .int 3] (.inl (some (.int 0))) (6, [(0, .int p0)], [.int 0]) rfl (fun _ => rfl)
      · refine xe_sn pg_103 2 (fr' := (2, [(0, .int p0), (1, .int 0), (2, .int 3)], [.int 0, .int p0])) rfl ?_
        refine xe_f2 pg_103 14 rfl rfl (by show ¬ ((p0).toInt < 0); omega) ?_
        refine xe_sn pg_103 2 (fr' := (7, [(0, .int p0), (1, .int 0), (2, .int 3)], [.int 3, .int p0])) rfl ?_
        refine xe_t2 pg_103 14 rfl rfl (by show 3 < (p0).toInt; omega) ?_
        refine xe_sn pg_103 1 (fr' := (15, [(0, .int p0), (1, .int 0), (2, .int 3)], [.int 0])) rfl ?_
        exact xe_end pg_103 rfl
      exact xe_end pg_104 rfl
    refine xe_sn pg_146 4 (fr' := (44, [(0, .ref 165), (1, .int p0), (2, .int p1)], [])) rfl ?_
    refine xe_sn pg_146 4 (fr' := (52, [(0, .ref 165), (1, .int p0), (2, .int p1)], [.int 0])) rfl ?_
    exact xe_end pg_146 rfl
  · exact ⟨⟨rfl, rfl, rfl, rfl⟩, Nat.le_of_ble_eq_true rfl, Nat.le_of_ble_eq_true rfl, rfl, fun q => absurd q (by decide)⟩

set_option maxRecDepth 100000 in
theorem lf_truncate_2 (xs : Nat → Int32) (p1 : Int32) : op_ok xs 166 146 [.ref 0, .int 0, .int p1, .ref 189] [.ref 165, .int 0, .int p1] := by
  refine ⟨2, 0, ?_⟩
  apply Exists.intro
  apply Exists.intro
  apply And.intro
  · refine xe_sn pg_166 4 (fr' := (4, [(0, .ref 0), (1, .int 0), (2, .int p1), (3, .ref 189)], [.int 0, .ref 0, .int 0, .ref 189])) rfl ?_
    refine xe_sn pg_166 1 (fr' := (5, [(0, .ref 0), (1, .int 0), (2, .int p1), (3, .ref 189)], [.int p1, .int 0, .ref 0, .int 0, .ref 189])) rfl ?_
    apply xe_callq pg_166 79 [.ref 0, .int 0, .int p1] (.inr 2) (19, [(0, .ref 0), (1, .int 0), (2, .int p1), (3, .ref 189)], []) rfl (fun _ => rfl)
    · refine xe_sn pg_79 1 (fr' := (1, [(0, .ref 0), (1, .int 0), (2, .int p1)], [.int 0])) rfl ?_
      apply xe_callq pg_79 92 [.int 0] (.inl none) (4, [(0, .ref 0), (1, .int 0), (2, .int p1)], []) rfl (fun _ => rfl)
      · refine xe_sn pg_92 2 (fr' := (2, [(0, .int 0)], [.int 4, .int 0])) rfl ?_
        apply xe_callq pg_92 95 [.int 0, .int 4] (.inl none) (5, [(0, .int 0)], []) rfl (fun _ => rfl)
        · refine xe_sn pg_95 4 (fr' := (6, [(0, .int 0), (1, .int 4)], [.int 4, .int 0])) rfl ?_
          refine xe_sn pg_95 1 (fr' := (17, [(0, .int 0), (1, .int 4)], [])) rfl ?_
          exact xe_end pg_95 rfl
        exact xe_end pg_92 rfl
      refine xe_sn pg_79 4 (fr' := (10, [(0, .ref 0), (1, .int 0), (2, .int p1)], [.ref 121])) rfl ?_
      refine xe_sn pg_79 2 (fr' := (12, [(3, .ref 121), (0, .ref 0), (1, .int 0), (2, .int p1)], [.ref 121])) rfl ?_
      apply xe_callq pg_79 16 [.ref 121] (.inl (some (.int 0))) (15, [(3, .ref 121), (0, .ref 0), (1, .int 0), (2, .int p1)], [.int 0]) rfl (fun _ => rfl)
      · refine xe_sn pg_16 4 (fr' := (8, [(0, .ref 121)], [])) rfl ?_
        refine xe_sn pg_16 4 (fr' := (20, [(0, .ref 121)], [])) rfl ?_
        refine xe_sn pg_16 1 (fr' := (21, [(0, .ref 121)], [.int 0])) rfl ?_
        exact xe_end pg_16 rfl
      refine xe_sn pg_79 2 (fr' := (31, [(3, .ref 121), (0, .ref 0), (1, .int 0), (2, .int p1)], [.int 0])) rfl ?_
      apply xe_callqx pg_79 98 [.int 0] 2 rfl (fun _ => rfl)
      · refine xe_sn pg_98 2 (fr' := (4, [(0, .int 0)], [])) rfl ?_
        exact xe_end pg_98 rfl
    refine xe_sn pg_166 1 (fr' := (20, [(0, .ref 0), (1, .int 0), (2, .int p1), (3, .ref 189)], [.int 2])) rfl ?_
    exact xe_end pg_166 rfl
  refine And.intro ⟨rfl, rfl, rfl, rfl⟩ ?_
  apply And.intro
  · refine xe_sn pg_146 2 (fr' := (2, [(0, .ref 165), (1, .int 0), (2, .int p1)], [.int 0, .ref 165])) rfl ?_
    apply xe_callq pg_146 104 [.int 0] (.inl (some (.int 1))) (5, [(0, .ref 165), (1, .int 0), (2, .int p1)], [.int 1, .ref 165]) rfl (fun _ => rfl)
    · refine xe_sn pg_104 3 (fr' := (3, [(0, .int 0)], [.int 3, .int 0, .int 0])) rfl ?_
      apply xe_callq pg_104 103 [.int 0, .int 0, .int 3] (.inl (some (.int 1))) (6, [(0, .int 0)], [.int 1]) rfl (fun _ => rfl)
      · refine xe_sn pg_103 4 (fr' := (6, [(0, .int 0), (1, .int 0), (2, .int 3)], [.int 0])) rfl ?_
        refine xe_sn pg_103 4 (fr' := (15, [(0, .int 0), (1, .int 0), (2, .int 3)], [.int 1])) rfl ?_
        exact xe_end pg_103 rfl
      exact xe_end pg_104 rfl
    refine xe_sn pg_146 3 (fr' := (14, [(0, .ref 165), (1, .int 0), (2, .int p1)], [.int 0, .ref 165, .ref 165])) rfl ?_
    apply xe_callq pg_146 145 [.ref 165, .int 0] (.inl (some (.int 0))) (17, [(0, .ref 165), (1, .int 0), (2, .int p1)], [.int 0, .ref 165]) rfl (fun _ => rfl)
    · refine xe_sn pg_145 4 (fr' := (6, [(0, .ref 165), (1, .int 0)], [.int 0])) rfl ?_
      refine xe_sn pg_145 4 (fr' := (14, [(0, .ref 165), (1, .int 0)], [.ref 167])) rfl ?_
      refine xe_sn pg_145 4 (fr' := (24, [(0, .ref 165), (1, .int 0)], [])) rfl ?_
      refine xe_sn pg_145 1 (fr' := (25, [(0, .ref 165), (1, .int 0)], [.int 0])) rfl ?_
      exact xe_end pg_145 rfl
    refine xe_sn pg_146 4 (fr' := (44, [(0, .ref 165), (1, .int 0), (2, .int p1)], [])) rfl ?_
    refine xe_sn pg_146 4 (fr' := (52, [(0, .ref 165), (1, .int 0), (2, .int p1)], [.int 0])) rfl ?_
    exact xe_end pg_146 rfl
  · exact ⟨⟨rfl, rfl, rfl, rfl⟩, Nat.le_of_ble_eq_true rfl, Nat.le_of_ble_eq_true rfl, rfl, fun q => absurd q (by decide)⟩

set_option maxRecDepth 100000 in
theorem lf_truncate_3 (xs : Nat → Int32) (p1 : Int32) : op_ok xs 166 146 [.ref 0, .int 1, .int p1, .ref 189] [.ref 165, .int 1, .int p1] := by
  refine ⟨2, 0, ?_⟩
  apply Exists.intro
  apply Exists.intro
  apply And.intro
  · refine xe_sn pg_166 4 (fr' := (4, [(0, .ref 0), (1, .int 1), (2, .int p1), (3, .ref 189)], [.int 1, .ref 0, .int 0, .ref 189])) rfl ?_
    refine xe_sn pg_166 1 (fr' := (5, [(0, .ref 0), (1, .int 1), (2, .int p1), (3, .ref 189)], [.int p1, .int 1, .ref 0, .int 0, .ref 189])) rfl ?_
    apply xe_callq pg_166 79 [.ref 0, .int 1, .int p1] (.inr 2) (19, [(0, .ref 0), (1, .int 1), (2, .int p1), (3, .ref 189)], []) rfl (fun _ => rfl)
    · refine xe_sn pg_79 1 (fr' := (1, [(0, .ref 0), (1, .int 1), (2, .int p1)], [.int 1])) rfl ?_
      apply xe_callq pg_79 92 [.int 1] (.inl none) (4, [(0, .ref 0), (1, .int 1), (2, .int p1)], []) rfl (fun _ => rfl)
      · refine xe_sn pg_92 2 (fr' := (2, [(0, .int 1)], [.int 4, .int 1])) rfl ?_
        apply xe_callq pg_92 95 [.int 1, .int 4] (.inl none) (5, [(0, .int 1)], []) rfl (fun _ => rfl)
        · refine xe_sn pg_95 4 (fr' := (6, [(0, .int 1), (1, .int 4)], [.int 4, .int 1])) rfl ?_
          refine xe_sn pg_95 1 (fr' := (17, [(0, .int 1), (1, .int 4)], [])) rfl ?_
          exact xe_end pg_95 rfl
        exact xe_end pg_92 rfl
      refine xe_sn pg_79 4 (fr' := (10, [(0, .ref 0), (1, .int 1), (2, .int p1)], [.ref 132])) rfl ?_
      refine xe_sn pg_79 2 (fr' := (12, [(3, .ref 132), (0, .ref 0), (1, .int 1), (2, .int p1)], [.ref 132])) rfl ?_
      apply xe_callq pg_79 16 [.ref 132] (.inl (some (.int 0))) (15, [(3, .ref 132), (0, .ref 0), (1, .int 1), (2, .int p1)], [.int 0]) rfl (fun _ => rfl)
      · refine xe_sn pg_16 4 (fr' := (8, [(0, .ref 132)], [])) rfl ?_
        refine xe_sn pg_16 4 (fr' := (20, [(0, .ref 132)], [])) rfl ?_
        refine xe_sn pg_16 1 (fr' := (21, [(0, .ref 132)], [.int 0])) rfl ?_
        exact xe_end pg_16 rfl
      refine xe_sn pg_79 2 (fr' := (31, [(3, .ref 132), (0, .ref 0), (1, .int 1), (2, .int p1)], [.int 0])) rfl ?_
      apply xe_callqx pg_79 98 [.int 0] 2 rfl (fun _ => rfl)
      · refine xe_sn pg_98 2 (fr' := (4, [(0, .int 0)], [])) rfl ?_
        exact xe_end pg_98 rfl
    refine xe_sn pg_166 1 (fr' := (20, [(0, .ref 0), (1, .int 1), (2, .int p1), (3, .ref 189)], [.int 2])) rfl ?_
    exact xe_end pg_166 rfl
  refine And.intro ⟨rfl, rfl, rfl, rfl⟩ ?_
  apply And.intro
  · refine xe_sn pg_146 2 (fr' := (2, [(0, .ref 165), (1, .int 1), (2, .int p1)], [.int 1, .ref 165])) rfl ?_
    apply xe_callq pg_146 104 [.int 1] (.inl (some (.int 1))) (5, [(0, .ref 165), (1, .int 1), (2, .int p1)], [.int 1, .ref 165]) rfl (fun _ => rfl)
    · refine xe_sn pg_104 3 (fr' := (3, [(0, .int 1)], [.int 3, .int 0, .int 1])) rfl ?_
      apply xe_callq pg_104 103 [.int 1, .int 0, .int 3] (.inl (some (.int 1))) (6, [(0, .int 1)], [.int 1]) rfl (fun _ => rfl)
      · refine xe_sn pg_103 4 (fr' := (6, [(0, .int 1), (1, .int 0), (2, .int 3)], [.int 1])) rfl ?_
        refine xe_sn pg_103 4 (fr' := (15, [(0, .int 1), (1, .int 0), (2, .int 3)], [.int 1])) rfl ?_
        exact xe_end pg_103 rfl
      exact xe_end pg_104 rfl
    refine xe_sn pg_146 3 (fr' := (14, [(0, .ref 165), (1, .int 1), (2, .int p1)], [.int 1, .ref 165, .ref 165])) rfl ?_
    apply xe_callq pg_146 145 [.ref 165, .int 1] (.inl (some (.int 0))) (17, [(0, .ref 165), (1, .int 1), (2, .int p1)], [.int 0, .ref 165]) rfl (fun _ => rfl)
    · refine xe_sn pg_145 4 (fr' := (6, [(0, .ref 165), (1, .int 1)], [.int 0])) rfl ?_
      refine xe_sn pg_145 4 (fr' := (14, [(0, .ref 165), (1, .int 1)], [.ref 167])) rfl ?_
      refine xe_sn pg_145 4 (fr' := (24, [(0, .ref 165), (1, .int 1)], [])) rfl ?_
      refine xe_sn pg_145 1 (fr' := (25, [(0, .ref 165), (1, .int 1)], [.int 0])) rfl ?_
      exact xe_end pg_145 rfl
    refine xe_sn pg_146 4 (fr' := (44, [(0, .ref 165), (1, .int 1), (2, .int p1)], [])) rfl ?_
    refine xe_sn pg_146 4 (fr' := (52, [(0, .ref 165), (1, .int 1), (2, .int p1)], [.int 0])) rfl ?_
    exact xe_end pg_146 rfl
  · exact ⟨⟨rfl, rfl, rfl, rfl⟩, Nat.le_of_ble_eq_true rfl, Nat.le_of_ble_eq_true rfl, rfl, fun q => absurd q (by decide)⟩

set_option maxRecDepth 100000 in
theorem lf_truncate_4 (xs : Nat → Int32) (p1 : Int32) : op_ok xs 166 146 [.ref 0, .int 2, .int p1, .ref 189] [.ref 165, .int 2, .int p1] := by
  refine ⟨2, 0, ?_⟩
  apply Exists.intro
  apply Exists.intro
  apply And.intro
  · refine xe_sn pg_166 4 (fr' := (4, [(0, .ref 0), (1, .int 2), (2, .int p1), (3, .ref 189)], [.int 2, .ref 0, .int 0, .ref 189])) rfl ?_
    refine xe_sn pg_166 1 (fr' := (5, [(0, .ref 0), (1, .int 2), (2, .int p1), (3, .ref 189)], [.int p1, .int 2, .ref 0, .int 0, .ref 189])) rfl ?_
    apply xe_callq pg_166 79 [.ref 0, .int 2, .int p1] (.inr 2) (19, [(0, .ref 0), (1, .int 2), (2, .int p1), (3, .ref 189)], []) rfl (fun _ => rfl)
    · refine xe_sn pg_79 1 (fr' := (1, [(0, .ref 0), (1, .int 2), (2, .int p1)], [.int 2])) rfl ?_
      apply xe_callq pg_79 92 [.int 2] (.inl none) (4, [(0, .ref 0), (1, .int 2), (2, .int p1)], []) rfl (fun _ => rfl)
      · refine xe_sn pg_92 2 (fr' := (2, [(0, .int 2)], [.int 4, .int 2])) rfl ?_
        apply xe_callq pg_92 95 [.int 2, .int 4] (.inl none) (5, [(0, .int 2)], []) rfl (fun _ => rfl)
        · refine xe_sn pg_95 4 (fr' := (6, [(0, .int 2), (1, .int 4)], [.int 4, .int 2])) rfl ?_
          refine xe_sn pg_95 1 (fr' := (17, [(0, .int 2), (1, .int 4)], [])) rfl ?_
          exact xe_end pg_95 rfl
        exact xe_end pg_92 rfl
      refine xe_sn pg_79 4 (fr' := (10, [(0, .ref 0), (1, .int 2), (2, .int p1)], [.ref 143])) rfl ?_
      refine xe_sn pg_79 2 (fr' := (12, [(3, .ref 143), (0, .ref 0), (1, .int 2), (2, .int p1)], [.ref 143])) rfl ?_
      apply xe_callq pg_79 16 [.ref 143] (.inl (some (.int 0))) (15, [(3, .ref 143), (0, .ref 0), (1, .int 2), (2, .int p1)], [.int 0]) rfl (fun _ => rfl)
      · refine xe_sn pg_16 4 (fr' := (8, [(0, .ref 143)], [])) rfl ?_
        refine xe_sn pg_16 4 (fr' := (20, [(0, .ref 143)], [])) rfl ?_
        refine xe_sn pg_16 1 (fr' := (21, [(0, .ref 143)], [.int 0])) rfl ?_
        exact xe_end pg_16 rfl
      refine xe_sn pg_79 2 (fr' := (31, [(3, .ref 143), (0, .ref 0), (1, .int 2), (2, .int p1)], [.int 0])) rfl ?_
      apply xe_callqx pg_79 98 [.int 0] 2 rfl (fun _ => rfl)
      · refine xe_sn pg_98 2 (fr' := (4, [(0, .int 0)], [])) rfl ?_
        exact xe_end pg_98 rfl
    refine xe_sn pg_166 1 (fr' := (20, [(0, .ref 0), (1, .int 2), (2, .int p1), (3, .ref 189)], [.int 2])) rfl ?_
    exact xe_end pg_166 rfl
  refine And.intro ⟨rfl, rfl, rfl, rfl⟩ ?_
  apply And.intro
  · refine xe_sn pg_146 2 (fr' := (2, [(0, .ref 165), (1, .int 2), (2, .int p1)], [.int 2, .ref 165])) rfl ?_
    apply xe_callq pg_146 104 [.int 2] (.inl (some (.int 1))) (5, [(0, .ref 165), (1, .int 2), (2, .int p1)], [.int 1, .ref 165]) rfl (fun _ => rfl)
    · refine xe_sn pg_104 3 (fr' := (3, [(0, .int 2)], [.int 3, .int 0, .int 2])) rfl ?_
      apply xe_callq pg_104 103 [.int 2, .int 0, .int 3] (.inl (some (.int 1))) (6, [(0, .int 2)], [.int 1]) rfl (fun _ => rfl)
      · refine xe_sn pg_103 4 (fr' := (6, [(0, .int 2), (1, .int 0), (2, .int 3)], [.int 2])) rfl ?_
        refine xe_sn pg_103 4 (fr' := (15, [(0, .int 2), (1, .int 0), (2, .int 3)], [.int 1])) rfl ?_
        exact xe_end pg_103 rfl
      exact xe_end pg_104 rfl
    refine xe_sn pg_146 3 (fr' := (14, [(0, .ref 165), (1, .int 2), (2, .int p1)], [.int 2, .ref 165, .ref 165])) rfl ?_
    apply xe_callq pg_146 145 [.ref 165, .int 2] (.inl (some (.int 0))) (17, [(0, .ref 165), (1, .int 2), (2, .int p1)], [.int 0, .ref 165]) rfl (fun _ => rfl)
    · refine xe_sn pg_145 4 (fr' := (6, [(0, .ref 165), (1, .int 2)], [.int 0])) rfl ?_
      refine xe_sn pg_145 4 (fr' := (14, [(0, .ref 165), (1, .int 2)], [.ref 167])) rfl ?_
      refine xe_sn pg_145 4 (fr' := (24, [(0, .ref 165), (1, .int 2)], [])) rfl ?_
      refine xe_sn pg_145 1 (fr' := (25, [(0, .ref 165), (1, .int 2)], [.int 0])) rfl ?_
      exact xe_end pg_145 rfl
    refine xe_sn pg_146 4 (fr' := (44, [(0, .ref 165), (1, .int 2), (2, .int p1)], [])) rfl ?_
    refine xe_sn pg_146 4 (fr' := (52, [(0, .ref 165), (1, .int 2), (2, .int p1)], [.int 0])) rfl ?_
    exact xe_end pg_146 rfl
  · exact ⟨⟨rfl, rfl, rfl, rfl⟩, Nat.le_of_ble_eq_true rfl, Nat.le_of_ble_eq_true rfl, rfl, fun q => absurd q (by decide)⟩

set_option maxRecDepth 100000 in
theorem lf_truncate_5 (xs : Nat → Int32) (p1 : Int32) : op_ok xs 166 146 [.ref 0, .int 3, .int p1, .ref 189] [.ref 165, .int 3, .int p1] := by
  refine ⟨2, 0, ?_⟩
  apply Exists.intro
  apply Exists.intro
  apply And.intro
  · refine xe_sn pg_166 4 (fr' := (4, [(0, .ref 0), (1, .int 3), (2, .int p1), (3, .ref 189)], [.int 3, .ref 0, .int 0, .ref 189])) rfl ?_
    refine xe_sn pg_166 1 (fr' := (5, [(0, .ref 0), (1, .int 3), (2, .int p1), (3, .ref 189)], [.int p1, .int 3, .ref 0, .int 0, .ref 189])) rfl ?_
    apply xe_callq pg_166 79 [.ref 0, .int 3, .int p1] (.inr 2) (19, [(0, .ref 0), (1, .int 3), (2, .int p1), (3, .ref 189)], []) rfl (fun _ => rfl)
    · refine xe_sn pg_79 1 (fr' := (1, [(0, .ref 0), (1, .int 3), (2, .int p1)], [.int 3])) rfl ?_
      apply xe_callq pg_79 92 [.int 3] (.inl none) (4, [(0, .ref 0), (1, .int 3), (2, .int p1)], []) rfl (fun _ => rfl)
      · refine xe_sn pg_92 2 (fr' := (2, [(0, .int 3)], [.int 4, .int 3])) rfl ?_
        apply xe_callq pg_92 95 [.int 3, .int 4] (.inl none) (5, [(0, .int 3)], []) rfl (fun _ => rfl)
        · refine xe_sn pg_95 4 (fr' := (6, [(0, .int 3), (1, .int 4)], [.int 4, .int 3])) rfl ?_
          refine xe_sn pg_95 1 (fr' := (17, [(0, .int 3), (1, .int 4)], [])) rfl ?_
          exact xe_end pg_95 rfl
        exact xe_end pg_92 rfl
      refine xe_sn pg_79 4 (fr' := (10, [(0, .ref 0), (1, .int 3), (2, .int p1)], [.ref 154])) rfl ?_
      refine xe_sn pg_79 2 (fr' := (12, [(3, .ref 154), (0, .ref 0), (1, .int 3), (2, .int p1)], [.ref 154])) rfl ?_
      apply xe_callq pg_79 16 [.ref 154] (.inl (some (.int 0))) (15, [(3, .ref 154), (0, .ref 0), (1, .int 3), (2, .int p1)], [.int 0]) rfl (fun _ => rfl)
      · refine xe_sn pg_16 4 (fr' := (8, [(0, .ref 154)], [])) rfl ?_
        refine xe_sn pg_16 4 (fr' := (20, [(0, .ref 154)], [])) rfl ?_
        refine xe_sn pg_16 1 (fr' := (21, [(0, .ref 154)], [.int 0])) rfl ?_
        exact xe_end pg_16 rfl
      refine xe_sn pg_79 2 (fr' := (31, [(3, .ref 154), (0, .ref 0), (1, .int 3), (2, .int p1)], [.int 0])) rfl ?_
      apply xe_callqx pg_79 98 [.int 0] 2 rfl (fun _ => rfl)
      · refine xe_sn pg_98 2 (fr' := (4, [(0, .int 0)], [])) rfl ?_
        exact xe_end pg_98 rfl
    refine xe_sn pg_166 1 (fr' := (20, [(0, .ref 0), (1, .int 3), (2, .int p1), (3, .ref 189)], [.int 2])) rfl ?_
    exact xe_end pg_166 rfl
  refine And.intro ⟨rfl, rfl, rfl, rfl⟩ ?_
  apply And.intro
  · refine xe_sn pg_146 2 (fr' := (2, [(0, .ref 165), (1, .int 3), (2, .int p1)], [.int 3, .ref 165])) rfl ?_
    apply xe_callq pg_146 104 [.int 3] (.inl (some (.int 1))) (5, [(0, .ref 165), (1, .int 3), (2, .int p1)], [.int 1, .ref 165]) rfl (fun _ => rfl)
    · refine xe_sn pg_104 3 (fr' := (3, [(0, .int 3)], [.int 3, .int 0, .int 3])) rfl ?_
      apply xe_callq pg_104 103 [.int 3, .int 0, .int 3] (.inl (some (.int 1))) (6, [(0, .int 3)], [.int 1]) rfl (fun _ => rfl)
      · refine xe_sn pg_103 4 (fr' := (6, [(0, .int 3), (1, .int 0), (2, .int 3)], [.int 3])) rfl ?_
        refine xe_sn pg_103 4 (fr' := (15, [(0, .int 3), (1, .int 0), (2, .int 3)], [.int 1])) rfl ?_
        exact xe_end pg_103 rfl
      exact xe_end pg_104 rfl
    refine xe_sn pg_146 3 (fr' := (14, [(0, .ref 165), (1, .int 3), (2, .int p1)], [.int 3, .ref 165, .ref 165])) rfl ?_
    apply xe_callq pg_146 145 [.ref 165, .int 3] (.inl (some (.int 0))) (17, [(0, .ref 165), (1, .int 3), (2, .int p1)], [.int 0, .ref 165]) rfl (fun _ => rfl)
    · refine xe_sn pg_145 4 (fr' := (6, [(0, .ref 165), (1, .int 3)], [.int 0])) rfl ?_
      refine xe_sn pg_145 4 (fr' := (14, [(0, .ref 165), (1, .int 3)], [.ref 167])) rfl ?_
      refine xe_sn pg_145 4 (fr' := (24, [(0, .ref 165), (1, .int 3)], [])) rfl ?_
      refine xe_sn pg_145 1 (fr' := (25, [(0, .ref 165), (1, .int 3)], [.int 0])) rfl ?_
      exact xe_end pg_145 rfl
    refine xe_sn pg_146 4 (fr' := (44, [(0, .ref 165), (1, .int 3), (2, .int p1)], [])) rfl ?_
    refine xe_sn pg_146 4 (fr' := (52, [(0, .ref 165), (1, .int 3), (2, .int p1)], [.int 0])) rfl ?_
    exact xe_end pg_146 rfl
  · exact ⟨⟨rfl, rfl, rfl, rfl⟩, Nat.le_of_ble_eq_true rfl, Nat.le_of_ble_eq_true rfl, rfl, fun q => absurd q (by decide)⟩
theorem op_truncate (xs : Nat → Int32) (p0 p1 : Int32) : op_ok xs 166 146 [.ref 0, .int p0, .int p1, .ref 189] [.ref 165, .int p0, .int p1] := by
  by_cases a0 : p0.toInt < 0
  · exact lf_truncate_0 xs p0 p1 a0
  by_cases b0 : 3 < p0.toInt
  · exact lf_truncate_1 xs p0 p1 b0
  replace a0 : 0 ≤ p0.toInt := by omega
  replace b0 : p0.toInt ≤ 3 := by omega
  rcases (by omega : p0.toInt = 0 ∨ p0.toInt = 1 ∨ p0.toInt = 2 ∨ p0.toInt = 3) with q0 | q0 | q0 | q0
  · obtain rfl : p0 = 0 := Int32.toInt_inj.mp (q0.trans (by decide))
    exact lf_truncate_2 xs p1
  · obtain rfl : p0 = 1 := Int32.toInt_inj.mp (q0.trans (by decide))
    exact lf_truncate_3 xs p1
  · obtain rfl : p0 = 2 := Int32.toInt_inj.mp (q0.trans (by decide))
    exact lf_truncate_4 xs p1
  · obtain rfl : p0 = 3 := Int32.toInt_inj.mp (q0.trans (by decide))
    exact lf_truncate_5 xs p1

set_option maxRecDepth 100000 in
theorem lf_close_0 (xs : Nat → Int32) (p0 : Int32) (a0 : p0.toInt < 0) : op_okv xs 167 147 [.ref 0, .int p0] [.ref 165, .int p0] := by
  refine ⟨1, ?_⟩
  apply Exists.intro
  apply Exists.intro
  apply And.intro
  · refine xe_sn pg_167 2 (fr' := (2, [(0, .ref 0), (1, .int p0)], [.int p0, .ref 0])) rfl ?_
    apply xe_callq pg_167 80 [.ref 0, .int p0] (.inr 0) (9, [(0, .ref 0), (1, .int p0)], []) rfl (fun _ => rfl)
    · refine xe_sn pg_80 1 (fr' := (1, [(0, .ref 0), (1, .int p0)], [.int p0])) rfl ?_
      apply xe_callqx pg_80 92 [.int p0] 0 rfl (fun _ => rfl)
      · refine xe_sn pg_92 2 (fr' := (2, [(0, .int p0)], [.int 4, .int p0])) rfl ?_
        apply xe_callqx pg_92 95 [.int p0, .int 4] 0 rfl (fun _ => rfl)
        · refine xe_sn pg_95 1 (fr' := (1, [(0, .int p0), (1, .int 4)], [.int p0])) rfl ?_
          refine xe_t1 pg_95 9 rfl rfl (by show (p0).toInt < 0; omega) ?_
          exact xe_end pg_95 rfl
    refine xe_sn pg_167 1 (fr' := (10, [(0, .ref 0), (1, .int p0)], [.int 1])) rfl ?_
    exact xe_end pg_167 rfl
  refine And.intro ⟨rfl, rfl, rfl, rfl⟩ ?_
  apply And.intro
  · refine xe_sn pg_147 2 (fr' := (2, [(0, .ref 165), (1, .int p0)], [.int p0, .ref 165])) rfl ?_
    apply xe_callq pg_147 104 [.int p0] (.inl (some (.int 0))) (5, [(0, .ref 165), (1, .int p0)], [.int 0, .ref 165]) rfl (fun _ => rfl)
    · refine xe_sn pg_104 3 (fr' := (3, [(0, .int p0)], [.int 3, .int 0, .int p0])) rfl ?_
      apply xe_callq pg_104 103 [.int p0, .int 0, .int 3] (.inl (some (.int 0))) (6, [(0, .int p0)], [.int 0]) rfl (fun _ => rfl)
      · refine xe_sn pg_103 2 (fr' := (2, [(0, .int p0), (1, .int 0), (2, .int 3)], [.int 0, .int p0])) rfl ?_
        refine xe_t2 pg_103 14 rfl rfl (by show (p0).toInt < 0; omega) ?_
        refine xe_sn pg_103 1 (fr' := (15, [(0, .int p0), (1, .int 0), (2, .int 3)], [.int 0])) rfl ?_
        exact xe_end pg_103 rfl
      exact xe_end pg_104 rfl
    refine xe_sn pg_147 4 (fr' := (28, [(0, .ref 165), (1, .int p0)], [])) rfl ?_
    refine xe_sn pg_147 3 (fr' := (40, [(0, .ref 165), (1, .int p0)], [])) rfl ?_
    exact xe_end pg_147 rfl
  · exact ⟨⟨rfl, rfl, rfl, rfl⟩, Nat.le_of_ble_eq_true rfl, Nat.le_of_ble_eq_true rfl, rfl⟩

set_option maxRecDepth 100000 in
theorem lf_close_1 (xs : Nat → Int32) (p0 : Int32) (b0 : 3 < p0.toInt) : op_okv xs 167 147 [.ref 0, .int p0] [.ref 165, .int p0] := by
  refine ⟨1, ?_⟩
  apply Exists.intro
  apply Exists.intro
  apply And.intro
  · refine xe_sn pg_167 2 (fr' := (2, [(0, .ref 0), (1, .int p0)], [.int p0, .ref 0])) rfl ?_
    apply xe_callq pg_167 80 [.ref 0, .int p0] (.inr 0) (9, [(0, .ref 0), (1, .int p0)], []) rfl (fun _ => rfl)
    · refine xe_sn pg_80 1 (fr' := (1, [(0, .ref 0), (1, .int p0)], [.int p0])) rfl ?_
      apply xe_callqx pg_80 92 [.int p0] 0 rfl (fun _ => rfl)
      · refine xe_sn pg_92 2 (fr' := (2, [(0, .int p0)], [.int 4, .int p0])) rfl ?_
        apply xe_callqx pg_92 95 [.int p0, .int 4] 0 rfl (fun _ => rfl)
        · refine xe_sn pg_95 1 (fr' := (1, [(0, .int p0), (1, .int 4)], [.int p0])) rfl ?_
          refine xe_f1 pg_95 9 rfl rfl (by show ¬ ((p0).toInt < 0); omega) ?_
          refine xe_sn pg_95 2 (fr' := (6, [(0, .int p0), (1, .int 4)], [.int 4, .int p0])) rfl ?_
          refine xe_f2 pg_95 17 rfl rfl (by show ¬ ((p0).toInt < 4); omega) ?_
          exact xe_end pg_95 rfl
    refine xe_sn pg_167 1 (fr' := (10, [(0, .ref 0), (1, .int p0)], [.int 1])) rfl ?_
    exact xe_end pg_167 rfl
  refine And.intro ⟨rfl, rfl, rfl, rfl⟩ ?_
  apply And.intro
  · refine xe_sn pg_147 2 (fr' := (2, [(0, .ref 165), (1, .int p0)], [.int p0, .ref 165])) rfl ?_
    apply xe_callq pg_147 104 [.int p0] (.inl (some (.int 0))) (5, [(0, .ref 165), (1, .int p0)], [.int 0, .ref 165]) rfl (fun _ => rfl)
    · refine xe_sn pg_104 3 (fr' := (3, [(0, .int p0)], [.int 3, .int 0, .int p0])) rfl ?_
      apply xe_callq pg_104 103 [.int p0, .int 0, .int 3] (.inl (some (.int 0))) (6, [(0, .int p0)], [.int 0]) rfl (fun _ => rfl)
      · refine xe_sn pg_103 2 (fr' := (2, [(0, .int p0), (1, .int 0), (2, .int 3)], [.int 0, .int p0])) rfl ?_
        refine xe_f2 pg_103 14 rfl rfl (by show ¬ ((p0).toInt < 0); omega) ?_
        refine xe_sn pg_103 2 (fr' := (7, [(0, .int p0), (1, .int 0), (2, .int 3)], [.int 3, .int p0])) rfl ?_
        refine xe_t2 pg_103 14 rfl rfl (by show 3 < (p0).toInt; omega) ?_
        refine xe_sn pg_103 1 (fr' := (15, [(0, .int p0), (1, .int 0), (2, .int 3)], [.int 0])) rfl ?_
        exact xe_end pg_103 rfl
      exact xe_end pg_104 rfl
    refine xe_sn pg_147 4 (fr' := (28, [(0, .ref 165), (1, .int p0)], [])) rfl ?_
    refine xe_sn pg_147 3 (fr' := (40, [(0, .ref 165), (1, .int p0)], [])) rfl ?_
    exact xe_end pg_147 rfl
  · exact ⟨⟨rfl, rfl, rfl, rfl⟩, Nat.le_of_ble_eq_true rfl, Nat.le_of_ble_eq_true rfl, rfl⟩

set_option maxRecDepth 100000 in
theorem lf_close_2 (xs : Nat → Int32) : op_okv xs 167 147 [.ref 0, .int 0] [.ref 165, .int 0] := by
  refine ⟨2, ?_⟩
  apply Exists.intro
  apply Exists.intro
  apply And.intro
  · refine xe_sn pg_167 2 (fr' := (2, [(0, .ref 0), (1, .int 0)], [.int 0, .ref 0])) rfl ?_
    apply xe_callq pg_167 80 [.ref 0, .int 0] (.inr 2) (12, [(0, .ref 0), (1, .int 0)], []) rfl (fun _ => rfl)
    · refine xe_sn pg_80 1 (fr' := (1, [(0, .ref 0), (1, .int 0)], [.int 0])) rfl ?_
      apply xe_callq pg_80 92 [.int 0] (.inl none) (4, [(0, .ref 0), (1, .int 0)], []) rfl (fun _ => rfl)
      · refine xe_sn pg_92 2 (fr' := (2, [(0, .int 0)], [.int 4, .int 0])) rfl ?_
        apply xe_callq pg_92 95 [.int 0, .int 4] (.inl none) (5, [(0, .int 0)], []) rfl (fun _ => rfl)
        · refine xe_sn pg_95 4 (fr' := (6, [(0, .int 0), (1, .int 4)], [.int 4, .int 0])) rfl ?_
          refine xe_sn pg_95 1 (fr' := (17, [(0, .int 0), (1, .int 4)], [])) rfl ?_
          exact xe_end pg_95 rfl
        exact xe_end pg_92 rfl
      refine xe_sn pg_80 4 (fr' := (10, [(0, .ref 0), (1, .int 0)], [.ref 121])) rfl ?_
      apply xe_callq pg_80 16 [.ref 121] (.inl (some (.int 0))) (13, [(0, .ref 0), (1, .int 0)], [.int 0]) rfl (fun _ => rfl)
      · refine xe_sn pg_16 4 (fr' := (8, [(0, .ref 121)], [])) rfl ?_
        refine xe_sn pg_16 4 (fr' := (20, [(0, .ref 121)], [])) rfl ?_
        refine xe_sn pg_16 1 (fr' := (21, [(0, .ref 121)], [.int 0])) rfl ?_
        exact xe_end pg_16 rfl
      apply xe_callqx pg_80 98 [.int 0] 2 rfl (fun _ => rfl)
      · refine xe_sn pg_98 2 (fr' := (4, [(0, .int 0)], [])) rfl ?_
        exact xe_end pg_98 rfl
    refine xe_sn pg_167 1 (fr' := (13, [(0, .ref 0), (1, .int 0)], [.int 2])) rfl ?_
    exact xe_end pg_167 rfl
  refine And.intro ⟨rfl, rfl, rfl, rfl⟩ ?_
  apply And.intro
  · refine xe_sn pg_147 2 (fr' := (2, [(0, .ref 165), (1, .int 0)], [.int 0, .ref 165])) rfl ?_
    apply xe_callq pg_147 104 [.int 0] (.inl (some (.int 1))) (5, [(0, .ref 165), (1, .int 0)], [.int 1, .ref 165]) rfl (fun _ => rfl)
    · refine xe_sn pg_104 3 (fr' := (3, [(0, .int 0)], [.int 3, .int 0, .int 0])) rfl ?_
      apply xe_callq pg_104 103 [.int 0, .int 0, .int 3] (.inl (some (.int 1))) (6, [(0, .int 0)], [.int 1]) rfl (fun _ => rfl)
      · refine xe_sn pg_103 4 (fr' := (6, [(0, .int 0), (1, .int 0), (2, .int 3)], [.int 0])) rfl ?_
        refine xe_sn pg_103 4 (fr' := (15, [(0, .int 0), (1, .int 0), (2, .int 3)], [.int 1])) rfl ?_
        exact xe_end pg_103 rfl
      exact xe_end pg_104 rfl
    refine xe_sn pg_147 3 (fr' := (14, [(0, .ref 165), (1, .int 0)], [.int 0, .ref 165, .ref 165])) rfl ?_
    apply xe_callq pg_147 145 [.ref 165, .int 0] (.inl (some (.int 0))) (17, [(0, .ref 165), (1, .int 0)], [.int 0, .ref 165]) rfl (fun _ => rfl)
    · refine xe_sn pg_145 4 (fr' := (6, [(0, .ref 165), (1, .int 0)], [.int 0])) rfl ?_
      refine xe_sn pg_145 4 (fr' := (14, [(0, .ref 165), (1, .int 0)], [.ref 167])) rfl ?_
      refine xe_sn pg_145 4 (fr' := (24, [(0, .ref 165), (1, .int 0)], [])) rfl ?_
      refine xe_sn pg_145 1 (fr' := (25, [(0, .ref 165), (1, .int 0)], [.int 0])) rfl ?_
      exact xe_end pg_145 rfl
    refine xe_sn pg_147 4 (fr' := (28, [(0, .ref 165), (1, .int 0)], [])) rfl ?_
    refine xe_sn pg_147 3 (fr' := (40, [(0, .ref 165), (1, .int 0)], [])) rfl ?_
    exact xe_end pg_147 rfl
  · exact ⟨⟨rfl, rfl, rfl, rfl⟩, Nat.le_of_ble_eq_true rfl, Nat.le_of_ble_eq_true rfl, rfl⟩

set_option maxRecDepth 100000 in
theorem lf_close_3 (xs : Nat → Int32) : op_okv xs 167 147 [.ref 0, .int 1] [.ref 165, .int 1] := by
  refine ⟨2, ?_⟩
  apply Exists.intro
  apply Exists.intro
  apply And.intro
  · refine xe_sn pg_167 2 (fr' := (2, [(0, .ref 0), (1, .int 1)], [.int 1, .ref 0])) rfl ?_
    apply xe_callq pg_167 80 [.ref 0, .int 1] (.inr 2) (12, [(0, .ref 0), (1, .int 1)], []) rfl (fun _ => rfl)
    · refine xe_sn pg_80 1 (fr' := (1, [(0, .ref 0), (1, .int 1)], [.int 1])) rfl ?_
      apply xe_callq pg_80 92 [.int 1] (.inl none) (4, [(0, .ref 0), (1, .int 1)], []) rfl (fun _ => rfl)
      · refine xe_sn pg_92 2 (fr' := (2, [(0, .int 1)], [.int 4, .int 1])) rfl ?_
        apply xe_callq pg_92 95 [.int 1, .int 4] (.inl none) (5, [(0, .int 1)], []) rfl (fun _ => rfl)
        · refine xe_sn pg_95 4 (fr' := (6, [(0, .int 1), (1, .int 4)], [.int 4, .int 1])) rfl ?_
          refine xe_sn pg_95 1 (fr' := (17, [(0, .int 1), (1, .int 4)], [])) rfl ?_
          exact xe_end pg_95 rfl
        exact xe_end pg_92 rfl
      refine xe_sn pg_80 4 (fr' := (10, [(0, .ref 0), (1, .int 1)], [.ref 132])) rfl ?_
      apply xe_callq pg_80 16 [.ref 132] (.inl (some (.int 0))) (13, [(0, .ref 0), (1, .int 1)], [.int 0]) rfl (fun _ => rfl)
      · refine xe_sn pg_16 4 (fr' := (8, [(0, .ref 132)], [])) rfl ?_
        refine xe_sn pg_16 4 (fr' := (20, [(0, .ref 132)], [])) rfl ?_
        refine xe_sn pg_16 1 (fr' := (21, [(0, .ref 132)], [.int 0])) rfl ?_
        exact xe_end pg_16 rfl
      apply xe_callqx pg_80 98 [.int 0] 2 rfl (fun _ => rfl)
      · refine xe_sn pg_98 2 (fr' := (4, [(0, .int 0)], [])) rfl ?_
        exact xe_end pg_98 rfl
    refine xe_sn pg_167 1 (fr' := (13, [(0, .ref 0), (1, .int 1)], [.int 2])) rfl ?_
    exact xe_end pg_167 rfl
  refine And.intro ⟨rfl, rfl, rfl, rfl⟩ ?_
  apply And.intro
  · refine xe_sn pg_147 2 (fr' := (2, [(0, .ref 165), (1, .int 1)], [.int 1, .ref 165])) rfl ?_
    apply xe_callq pg_147 104 [.int 1] (.inl (some (.int 1))) (5, [(0, .ref 165), (1, .int 1)], [.int 1, .ref 165]) rfl (fun _ => rfl)
    · refine xe_sn pg_104 3 (fr' := (3, [(0, .int 1)], [.int 3, .int 0, .int 1])) rfl ?_
      apply xe_callq pg_104 103 [.int 1, .int 0, .int 3] (.inl (some (.int 1))) (6, [(0, .int 1)], [.int 1]) rfl (fun _ => rfl)
      · refine xe_sn pg_103 4 (fr' := (6, [(0, .int 1), (1, .int 0), (2, .int 3)], [.int 1])) rfl ?_
        refine xe_sn pg_103 4 (fr' := (15, [(0, .int 1), (1, .int 0), (2, .int 3)], [.int 1])) rfl ?_
        exact xe_end pg_103 rfl
      exact xe_end pg_104 rfl
    refine xe_sn pg_147 3 (fr' := (14, [(0, .ref 165), (1, .int 1)], [.int 1, .ref 165, .ref 165])) rfl ?_
    apply xe_callq pg_147 145 [.ref 165, .int 1] (.inl (some (.int 0))) (17, [(0, .ref 165), (1, .int 1)], [.int 0, .ref 165]) rfl (fun _ => rfl)
    · refine xe_sn pg_145 4 (fr' := (6, [(0, .ref 165), (1, .int 1)], [.int 0])) rfl ?_
      refine xe_sn pg_145 4 (fr' := (14, [(0, .ref 165), (1, .int 1)], [.ref 167])) rfl ?_
      refine xe_sn pg_145 4 (fr' := (24, [(0, .ref 165), (1, .int 1)], [])) rfl ?_
      refine xe_sn pg_145 1 (fr' := (25, [(0, .ref 165), (1, .int 1)], [.int 0])) rfl ?_
      exact xe_end pg_145 rfl
    refine xe_sn pg_147 4 (fr' := (28, [(0, .ref 165), (1, .int 1)], [])) rfl ?_
    refine xe_sn pg_147 3 (fr' := (40, [(0, .ref 165), (1, .int 1)], [])) rfl ?_
    exact xe_end pg_147 rfl
  · exact ⟨⟨rfl, rfl, rfl, rfl⟩, Nat.le_of_ble_eq_true rfl, Nat.le_of_ble_eq_true rfl, rfl⟩

set_option maxRecDepth 100000 in
theorem lf_close_4 (xs : Nat → Int32) : op_okv xs 167 147 [.ref 0, .int 2] [.ref 165, .int 2] := by
  refine ⟨2, ?_⟩
  apply Exists.intro
  apply Exists.intro
  apply And.intro
  · refine xe_sn pg_167 2 (fr' := (2, [(0, .ref 0), (1, .int 2)], [.int 2, .ref 0])) rfl ?_
    apply xe_callq pg_167 80 [.ref 0, .int 2] (.inr 2) (12, [(0, .ref 0), (1, .int 2)], []) rfl (fun _ => rfl)
    · refine xe_sn pg_80 1 (fr' := (1, [(0, .ref 0), (1, .int 2)], [.int 2])) rfl ?_
      apply xe_callq pg_80 92 [.int 2] (.inl none) (4, [(0, .ref 0), (1, .int 2)], []) rfl (fun _ => rfl)
      · refine xe_sn pg_92 2 (fr' := (2, [(0, .int 2)], [.int 4, .int 2])) rfl ?_
        apply xe_callq pg_92 95 [.int 2, .int 4] (.inl none) (5, [(0, .int 2)], []) rfl (fun _ => rfl)
        · refine xe_sn pg_95 4 (fr' := (6, [(0, .int 2), (1, .int 4)], [.int 4, .int 2])) rfl ?_
          refine xe_sn pg_95 1 (fr' := (17, [(0, .int 2), (1, .int 4)], [])) rfl ?_
          exact xe_end pg_95 rfl
        exact xe_end pg_92 rfl
      refine xe_sn pg_80 4 (fr' := (10, [(0, .ref 0), (1, .int 2)], [.ref 143])) rfl ?_
      apply xe_callq pg_80 16 [.ref 143] (.inl (some (.int 0))) (13, [(0, .ref 0), (1, .int 2)], [.int 0]) rfl (fun _ => rfl)
      · refine xe_sn pg_16 4 (fr' := (8, [(0, .ref 143)], [])) rfl ?_
        refine xe_sn pg_16 4 (fr' := (20, [(0, .ref 143)], [])) rfl ?_
        refine xe_sn pg_16 1 (fr' := (21, [(0, .ref 143)], [.int 0])) rfl ?_
        exact xe_end pg_16 rfl
      apply xe_callqx pg_80 98 [.int 0] 2 rfl (fun _ => rfl)
      · refine xe_sn pg_98 2 (fr' := (4, [(0, .int 0)], [])) rfl ?_
        exact xe_end pg_98 rfl
    refine xe_sn pg_167 1 (fr' := (13, [(0, .ref 0), (1, .int 2)], [.int 2])) rfl ?_
    exact xe_end pg_167 rfl
  refine And.intro ⟨rfl, rfl, rfl, rfl⟩ ?_
  apply And.intro
  · refine xe_sn pg_147 2 (fr' := (2, [(0, .ref 165), (1, .int 2)], [.int 2, .ref 165])) rfl ?_
    apply xe_callq pg_147 104 [.int 2] (.inl (some (.int 1))) (5, [(0, .ref 165), (1, .int 2)], [.int 1, .ref 165]) rfl (fun _ => rfl)
    · refine xe_sn pg_104 3 (fr' := (3, [(0, .int 2)], [.int 3, .int 0, .int 2])) rfl ?_
      apply xe_callq pg_104 103 [.int 2, .int 0, .int 3] (.inl (some (.int 1))) (6, [(0, .int 2)], [.int 1]) rfl (fun _ => rfl)
      · refine xe_sn pg_103 4 (fr' := (6, [(0, .int 2), (1, .int 0), (2, .int 3)], [.int 2])) rfl ?_
        refine xe_sn pg_103 4 (fr' := (15, [(0, .int 2), (1, .int 0), (2, .int 3)], [.int 1])) rfl ?_
        exact xe_end pg_103 rfl
      exact xe_end pg_104 rfl
    refine xe_sn pg_147 3 (fr' := (14, [(0, .ref 165), (1, .int 2)], [.int 2, .ref 165, .ref 165])) rfl ?_
    apply xe_callq pg_147 145 [.ref 165, .int 2] (.inl (some (.int 0))) (17, [(0, .ref 165), (1, .int 2)], [.int 0, .ref 165]) rfl (fun _ => rfl)
    · refine xe_sn pg_145 4 (fr' := (6, [(0, .ref 165), (1, .int 2)], [.int 0])) rfl ?_
      refine xe_sn pg_145 4 (fr' := (14, [(0, .ref 165), (1, .int 2)], [.ref 167])) rfl ?_
      refine xe_sn pg_145 4 (fr' := (24, [(0, .ref 165), (1, .int 2)], [])) rfl ?_
      refine xe_sn pg_145 1 (fr' := (25, [(0, .ref 165), (1, .int 2)], [.int 0])) rfl ?_
      exact xe_end pg_145 rfl
    refine xe_sn pg_147 4 (fr' := (28, [(0, .ref 165), (1, .int 2)], [])) rfl ?_
    refine xe_sn pg_147 3 (fr' := (40, [(0, .ref 165), (1, .int 2)], [])) rfl ?_
    exact xe_end pg_147 rfl
  · exact ⟨⟨rfl, rfl, rfl, rfl⟩, Nat.le_of_ble_eq_true rfl, Nat.le_of_ble_eq_true rfl, rfl⟩

set_option maxRecDepth 100000 in
theorem lf_close_5 (xs : Nat → Int32) : op_okv xs 167 147 [.ref 0, .int 3] [.ref 165, .int 3] := by
  refine ⟨2, ?_⟩
  apply Exists.intro
  apply Exists.intro
  apply And.intro
  · refine xe_sn pg_167 2 (fr' := (2, [(0, .ref 0), (1, .int 3)], [.int 3, .ref 0])) rfl ?_
    apply xe_callq pg_167 80 [.ref 0, .int 3] (.inr 2) (12, [(0, .ref 0), (1, .int 3)], []) rfl (fun _ => rfl)
    · refine xe_sn pg_80 1 (fr' := (1, [(0, .ref 0), (1, .int 3)], [.int 3])) rfl ?_
      apply xe_callq pg_80 92 [.int 3] (.inl none) (4, [(0, .ref 0), (1, .int 3)], []) rfl (fun _ => rfl)
      · refine xe_sn pg_92 2 (fr' := (2, [(0, .int 3)], [.int 4, .int 3])) rfl ?_
        apply xe_callq pg_92 95 [.int 3, .int 4] (.inl none) (5, [(0, .int 3)], []) rfl (fun _ => rfl)
        · refine xe_sn pg_95 4 (fr' := (6, [(0, .int 3), (1, .int 4)], [.int 4, .int 3])) rfl ?_
          refine xe_sn pg_95 1 (fr' := (17, [(0, .int 3), (1, .int 4)], [])) rfl ?_
          exact xe_end pg_95 rfl
        exact xe_end pg_92 rfl
      refine xe_sn pg_80 4 (fr' := (10, [(0, .ref 0), (1, .int 3)], [.ref 154])) rfl ?_
      apply xe_callq pg_80 16 [.ref 154] (.inl (some (.int 0))) (13, [(0, .ref 0), (1, .int 3)], [.int 0]) rfl (fun _ => rfl)
      · refine xe_sn pg_16 4 (fr' := (8, [(0, .ref 154)], [])) rfl ?_
        refine xe_sn pg_16 4 (fr' := (20, [(0, .ref 154)], [])) rfl ?_
        refine xe_sn pg_16 1 (fr' := (21, [(0, .ref 154)], [.int 0])) rfl ?_
        exact xe_end pg_16 rfl
      apply xe_callqx pg_80 98 [.int 0] 2 rfl (fun _ => rfl)
      · refine xe_sn pg_98 2 (fr' := (4, [(0, .int 0)], [])) rfl ?_
        exact xe_end pg_98 rfl
    refine xe_sn pg_167 1 (fr' := (13, [(0, .ref 0), (1, .int 3)], [.int 2])) rfl ?_
    exact xe_end pg_167 rfl
  refine And.intro ⟨rfl, rfl, rfl, rfl⟩ ?_
  apply And.intro
  · refine xe_sn pg_147 2 (fr' := (2, [(0, .ref 165), (1, .int 3)], [.int 3, .ref 165])) rfl ?_
    apply xe_callq pg_147 104 [.int 3] (.inl (some (.int 1))) (5, [(0, .ref 165), (1, .int 3)], [.int 1, .ref 165]) rfl (fun _ => rfl)
    · refine xe_sn pg_104 3 (fr' := (3, [(0, .int 3)], [.int 3, .int 0, .int 3])) rfl ?_
      apply xe_callq pg_104 103 [.int 3, .int 0, .int 3] (.inl (some (.int 1))) (6, [(0, .int 3)], [.int 1]) rfl (fun _ => rfl)
      · refine xe_sn pg_103 4 (fr' := (6, [(0, .int 3), (1, .int 0), (2, .int 3)], [.int 3])) rfl ?_
        refine xe_sn pg_103 4 (fr' := (15, [(0, .int 3), (1, .int 0), (2, .int 3)], [.int 1])) rfl ?_
        exact xe_end pg_103 rfl
      exact xe_end pg_104 rfl
    refine xe_sn pg_147 3 (fr' := (14, [(0, .ref 165), (1, .int 3)], [.int 3, .ref 165, .ref 165])) rfl ?_
    apply xe_callq pg_147 145 [.ref 165, .int 3] (.inl (some (.int 0))) (17, [(0, .ref 165), (1, .int 3)], [.int 0, .ref 165]) rfl (fun _ => rfl)
    · refine xe_sn pg_145 4 (fr' := (6, [(0, .ref 165), (1, .int 3)], [.int 0])) rfl ?_
      refine xe_sn pg_145 4 (fr' := (14, [(0, .ref 165), (1, .int 3)], [.ref 167])) rfl ?_
      refine xe_sn pg_145 4 (fr' := (24, [(0, .ref 165), (1, .int 3)], [])) rfl ?_
      refine xe_sn pg_145 1 (fr' := (25, [(0, .ref 165), (1, .int 3)], [.int 0])) rfl ?_
      exact xe_end pg_145 rfl
    refine xe_sn pg_147 4 (fr' := (28, [(0, .ref 165), (1, .int 3)], [])) rfl ?_
    refine xe_sn pg_147 3 (fr' := (40, [(0, .ref 165), (1, .int 3)], [])) rfl ?_
    exact xe_end pg_147 rfl
  · exact ⟨⟨rfl, rfl, rfl, rfl⟩, Nat.le_of_ble_eq_true rfl, Nat.le_of_ble_eq_true rfl, rfl⟩
theorem op_close (xs : Nat → Int32) (p0 : Int32) : op_okv xs 167 147 [.ref 0, .int p0] [.ref 165, .int p0] := by
  by_cases a0 : p0.toInt < 0
  · exact lf_close_0 xs p0 a0
  by_cases b0 : 3 < p0.toInt
  · exact lf_close_1 xs p0 b0
  replace a0 : 0 ≤ p0.toInt := by omega
  replace b0 : p0.toInt ≤ 3 := by omega
  rcases (by omega : p0.toInt = 0 ∨ p0.toInt = 1 ∨ p0.toInt = 2 ∨ p0.toInt = 3) with q0 | q0 | q0 | q0
  · obtain rfl : p0 = 0 := Int32.toInt_inj.mp (q0.trans (by decide))
    exact lf_close_2 xs 
  · obtain rfl : p0 = 1 := Int32.toInt_inj.mp (q0.trans (by decide))
    exact lf_close_3 xs 
  · obtain rfl : p0 = 2 := Int32.toInt_inj.mp (q0.trans (by decide))
    exact lf_close_4 xs 
  · obtain rfl : p0 = 3 := Int32.toInt_inj.mp (q0.trans (by decide))
    exact lf_close_5 xs 

set_option maxRecDepth 100000 in
theorem lf_key_0 (xs : Nat → Int32) (p0 : Int32) (p1 : Int32) (p2 : Int32) (a0 : p0.toInt < 0) : op_ok xs 173 154 [.ref 0, .int p0, .int p1, .int p2, .ref 189] [.ref 165, .int p0, .int p1, .int p2] := by
  refine ⟨1, 0, ?_⟩
  apply Exists.intro
  apply Exists.intro
  apply And.intro
  · refine xe_sn pg_173 4 (fr' := (5, [(0, .ref 0), (1, .int p0), (2, .int p1), (3, .int p2), (4, .ref 189)], [.int p0, .ref 0, .int 0, .ref 189])) rfl ?_
    refine xe_sn pg_173 2 (fr' := (7, [(0, .ref 0), (1, .int p0), (2, .int p1), (3, .int p2), (4, .ref 189)], [.int p2, .int p1, .int p0, .ref 0, .int 0, .ref 189])) rfl ?_
    apply xe_callq pg_173 86 [.ref 0, .int p0, .int p1, .int p2] (.inr 0) (17, [(0, .ref 0), (1, .int p0), (2, .int p1), (3, .int p2), (4, .ref 189)], []) rfl (fun _ => rfl)
    · refine xe_sn pg_86 1 (fr' := (1, [(0, .ref 0), (1, .int p0), (2, .int p1), (3, .int p2)], [.int p0])) rfl ?_
      apply xe_callqx pg_86 92 [.int p0] 0 rfl (fun _ => rfl)
      · refine xe_sn pg_92 2 (fr' := (2, [(0, .int p0)], [.int 4, .int p0])) rfl ?_
        apply xe_callqx pg_92 95 [.int p0, .int 4] 0 rfl (fun _ => rfl)
        · refine xe_sn pg_95 1 (fr' := (1, [(0, .int p0), (1, .int 4)], [.int p0])) rfl ?_
          refine xe_t1 pg_95 9 rfl rfl (by show (p0).toInt < 0; omega) ?_
          exact xe_end pg_95 rfl
    refine xe_sn pg_173 1 (fr' := (18, [(0, .ref 0), (1, .int p0), (2, .int p1), (3, .int p2), (4, .ref 189)], [.int 1])) rfl ?_
    exact xe_end pg_173 rfl
  refine And.intro ⟨rfl, rfl, rfl, rfl⟩ ?_
  apply And.intro
  · refine xe_sn pg_154 2 (fr' := (2, [(0, .ref 165), (1, .int p0), (2, .int p1), (3, .int p2)], [.int p0, .ref 165])) rfl ?_
    apply xe_callq pg_154 104 [.int p0] (.inl (some (.int 0))) (5, [(0, .ref 165), (1, .int p0), (2, .int p1), (3, .int p2)], [.int 0, .ref 165]) rfl (fun _ => rfl)
    · refine xe_sn pg_104 3 (fr' := (3, [(0, .int p0)], [.int 3, .int 0, .int p0])) rfl ?_
      apply xe_callq pg_104 103 [.int p0, .int 0, .int 3] (.inl (some (.int 0))) (6, [(0, .int p0)], [.int 0]) rfl (fun _ => rfl)
      · refine xe_sn pg_103 2 (fr' := (2, [(0, .int p0), (1, .int 0), (2, .int 3)], [.int 0, .int p0])) rfl ?_
        refine xe_t2 pg_103 14 rfl rfl (by show (p0).toInt < 0; omega) ?_
        refine xe_sn pg_103 1 (fr' := (15, [(0, .int p0), (1, .int 0), (2, .int 3)], [.int 0])) rfl ?_
        exact xe_end pg_103 rfl
      exact xe_end pg_104 rfl
    refine xe_sn pg_154 2 (fr' := (49, [(0, .ref 165), (1, .int p0), (2, .int p1), (3, .int p2)], [.int 0, .ref 165])) rfl ?_
    apply xe_callq pg_154 151 [.ref 165, .int 0] (.inl (some (.int 1))) (52, [(0, .ref 165), (1, .int p0), (2, .int p1), (3, .int p2)], [.int 1]) rfl (fun _ => rfl)
    · refine xe_sn pg_151 4 (fr' := (10, [(0, .ref 165), (1, .int 0)], [.int 1, .ref 165])) rfl ?_
      refine xe_sn pg_151 4 (fr' := (18, [(0, .ref 165), (1, .int 0)], [.int 1])) rfl ?_
      refine xe_sn pg_151 1 (fr' := (22, [(0, .ref 165), (1, .int 0)], [.int 1])) rfl ?_
      exact xe_end pg_151 rfl
    refine xe_sn pg_154 3 (fr' := (74, [(0, .ref 165), (1, .int p0), (2, .int p1), (3, .int p2)], [.int 0])) rfl ?_
    exact xe_end pg_154 rfl
  · exact ⟨⟨rfl, rfl, rfl, rfl⟩, Nat.le_of_ble_eq_true rfl, Nat.le_of_ble_eq_true rfl, rfl, fun q => absurd q (by decide)⟩

set_option maxRecDepth 100000 in
theorem lf_key_1 (xs : Nat → Int32) (p0 : Int32) (p1 : Int32) (p2 : Int32) (b0 : 3 < p0.toInt) : op_ok xs 173 154 [.ref 0, .int p0, .int p1, .int p2, .ref 189] [.ref 165, .int p0, .int p1, .int p2] := by
  refine ⟨1, 0, ?_⟩
  apply Exists.intro
  apply Exists.intro
  apply And.intro
  · refine xe_sn pg_173 4 (fr' := (5, [(0, .ref 0), (1, .int p0), (2, .int p1), (3, .int p2), (4, .ref 189)], [.int p0, .ref 0, .int 0, .ref 189])) rfl ?_
    refine xe_sn pg_173 2 (fr' := (7, [(0, .ref 0), (1, .int p0), (2, .int p1), (3, .int p2), (4, .ref 189)], [.int p2, .int p1, .int p0, .ref 0, .int 0, .ref 189])) rfl ?_
    apply xe_callq pg_173 86 [.ref 0, .int p0, .int p1, .int p2] (.inr 0) (17, [(0, .ref 0), (1, .int p0), (2, .int p1), (3, .int p2), (4, .ref 189)], []) rfl (fun _ => rfl)
    · refine xe_sn pg_86 1 (fr' := (1, [(0, .ref 0), (1, .int p0), (2, .int p1), (3, .int p2)], [.int p0])) rfl ?_
      apply xe_callqx pg_86 92 [.int p0] 0 rfl (fun _ => rfl)
      · refine xe_sn pg_92 2 (fr' := (2, [(0, .int p0)], [.int 4, .int p0])) rfl ?_
        apply xe_callqx pg_92 95 [.int p0, .int 4] 0 rfl (fun _ => rfl)
        · refine xe_sn pg_95 1 (fr' := (1, [(0, .int p0), (1, .int 4)], [.int p0])) rfl ?_
          refine xe_f1 pg_95 9 rfl rfl (by show ¬ ((p0).toInt < 0); omega) ?_
          refine xe_sn pg_95 2 (fr' := (6, [(0, .int p0), (1, .int 4)], [.int 4, .int p0])) rfl ?_
          refine xe_f2 pg_95 17 rfl rfl (by show ¬ ((p0).toInt < 4); omega) ?_
          exact xe_end pg_95 rfl
    refine xe_sn pg_173 1 (fr' := (18, [(0, .ref 0), (1, .int p0), (2, .int p1), (3, .int p2), (4, .ref 189)], [.int 1])) rfl ?_
    exact xe_end pg_173 rfl
  refine And.intro ⟨rfl, rfl, rfl, rfl⟩ ?_
  apply And.intro
  · refine xe_sn pg_154 2 (fr' := (2, [(0, .ref 165), (1, .int p0), (2, .int p1), (3, .int p2)], [.int p0, .ref 165])) rfl ?_
    apply xe_callq pg_154 104 [.int p0] (.inl (some (.int 0))) (5, [(0, .ref 165), (1, .int p0), (2, .int p1), (3, .int p2)], [.int 0, .ref 165]) rfl (fun _ => rfl)
    · refine xe_sn pg_104 3 (fr' := (3, [(0, .int p0)], [.int 3, .int 0, .int p0])) rfl ?_
      apply xe_callq pg_104 103 [.int p0, .int 0, .int 3] (.inl (some (.int 0))) (6, [(0, .int p0)], [.int 0]) rfl (fun _ => rfl)
      · refine xe_sn pg_103 2 (fr' := (2, [(0, .int p0), (1, .int 0), (2, .int 3)], [.int 0, .int p0])) rfl ?_
        refine xe_f2 pg_103 14 rfl rfl (by show ¬ ((p0).toInt < 0); omega) ?_
        refine xe_sn pg_103 2 (fr' := (7, [(0, .int p0), (1, .int 0), (2, .int 3)], [.int 3, .int p0])) rfl ?_
        refine xe_t2 pg_103 14 rfl rfl (by show 3 < (p0).toInt; omega) ?_
        refine xe_sn pg_103 1 (fr' := (15, [(0, .int p0), (1, .int 0), (2, .int 3)], [.int 0])) rfl ?_
        exact xe_end pg_103 rfl
      exact xe_end pg_104 rfl
    refine xe_sn pg_154 2 (fr' := (49, [(0, .ref 165), (1, .int p0), (2, .int p1), (3, .int p2)], [.int 0, .ref 165])) rfl ?_
    apply xe_callq pg_154 151 [.ref 165, .int 0] (.inl (some (.int 1))) (52, [(0, .ref 165), (1, .int p0), (2, .int p1), (3, .int p2)], [.int 1]) rfl (fun _ => rfl)
    · refine xe_sn pg_151 4 (fr' := (10, [(0, .ref 165), (1, .int 0)], [.int 1, .ref 165])) rfl ?_
      refine xe_sn pg_151 4 (fr' := (18, [(0, .ref 165), (1, .int 0)], [.int 1])) rfl ?_
      refine xe_sn pg_151 1 (fr' := (22, [(0, .ref 165), (1, .int 0)], [.int 1])) rfl ?_
      exact xe_end pg_151 rfl
    refine xe_sn pg_154 3 (fr' := (74, [(0, .ref 165), (1, .int p0), (2, .int p1), (3, .int p2)], [.int 0])) rfl ?_
    exact xe_end pg_154 rfl
  · exact ⟨⟨rfl, rfl, rfl, rfl⟩, Nat.le_of_ble_eq_true rfl, Nat.le_of_ble_eq_true rfl, rfl, fun q => absurd q (by decide)⟩

set_option maxRecDepth 100000 in
theorem lf_key_2 (xs : Nat → Int32) (p1 : Int32) (p2 : Int32) (a1 : p1.toInt < 0) : op_ok xs 173 154 [.ref 0, .int 0, .int p1, .int p2, .ref 189] [.ref 165, .int 0, .int p1, .int p2] := by
  refine ⟨1, 0, ?_⟩
  apply Exists.intro
  apply Exists.intro
  apply And.intro
  · refine xe_sn pg_173 4 (fr' := (5, [(0, .ref 0), (1, .int 0), (2, .int p1), (3, .int p2), (4, .ref 189)], [.int 0, .ref 0, .int 0, .ref 189])) rfl ?_
    refine xe_sn pg_173 2 (fr' := (7, [(0, .ref 0), (1, .int 0), (2, .int p1), (3, .int p2), (4, .ref 189)], [.int p2, .int p1, .int 0, .ref 0, .int 0, .ref 189])) rfl ?_
    apply xe_callq pg_173 86 [.ref 0, .int 0, .int p1, .int p2] (.inr 0) (17, [(0, .ref 0), (1, .int 0), (2, .int p1), (3, .int p2), (4, .ref 189)], []) rfl (fun _ => rfl)
    · refine xe_sn pg_86 1 (fr' := (1, [(0, .ref 0), (1, .int 0), (2, .int p1), (3, .int p2)], [.int 0])) rfl ?_
      apply xe_callq pg_86 92 [.int 0] (.inl none) (4, [(0, .ref 0), (1, .int 0), (2, .int p1), (3, .int p2)], []) rfl (fun _ => rfl)
      · refine xe_sn pg_92 2 (fr' := (2, [(0, .int 0)], [.int 4, .int 0])) rfl ?_
        apply xe_callq pg_92 95 [.int 0, .int 4] (.inl none) (5, [(0, .int 0)], []) rfl (fun _ => rfl)
        · refine xe_sn pg_95 4 (fr' := (6, [(0, .int 0), (1, .int 4)], [.int 4, .int 0])) rfl ?_
          refine xe_sn pg_95 1 (fr' := (17, [(0, .int 0), (1, .int 4)], [])) rfl ?_
          exact xe_end pg_95 rfl
        exact xe_end pg_92 rfl
      refine xe_sn pg_86 4 (fr' := (10, [(0, .ref 0), (1, .int 0), (2, .int p1), (3, .int p2)], [.int 0, .ref 120, .int p1])) rfl ?_
      refine xe_sn pg_86 2 (fr' := (14, [(0, .ref 0), (1, .int 0), (2, .int p1), (3, .int p2)], [.int 0, .int p1])) rfl ?_
      apply xe_callqx pg_86 95 [.int p1, .int 0] 0 rfl (fun _ => rfl)
      · refine xe_sn pg_95 1 (fr' := (1, [(0, .int p1), (1, .int 0)], [.int p1])) rfl ?_
        refine xe_t1 pg_95 9 rfl rfl (by show (p1).toInt < 0; omega) ?_
        exact xe_end pg_95 rfl
    refine xe_sn pg_173 1 (fr' := (18, [(0, .ref 0), (1, .int 0), (2, .int p1), (3, .int p2), (4, .ref 189)], [.int 1])) rfl ?_
    exact xe_end pg_173 rfl
  refine And.intro ⟨rfl, rfl, rfl, rfl⟩ ?_
  apply And.intro
  · refine xe_sn pg_154 2 (fr' := (2, [(0, .ref 165), (1, .int 0), (2, .int p1), (3, .int p2)], [.int 0, .ref 165])) rfl ?_
    apply xe_callq pg_154 104 [.int 0] (.inl (some (.int 1))) (5, [(0, .ref 165), (1, .int 0), (2, .int p1), (3, .int p2)], [.int 1, .ref 165]) rfl (fun _ => rfl)
    · refine xe_sn pg_104 3 (fr' := (3, [(0, .int 0)], [.int 3, .int 0, .int 0])) rfl ?_
      apply xe_callq pg_104 103 [.int 0, .int 0, .int 3] (.inl (some (.int 1))) (6, [(0, .int 0)], [.int 1]) rfl (fun _ => rfl)
      · refine xe_sn pg_103 4 (fr' := (6, [(0, .int 0), (1, .int 0), (2, .int 3)], [.int 0])) rfl ?_
        refine xe_sn pg_103 4 (fr' := (15, [(0, .int 0), (1, .int 0), (2, .int 3)], [.int 1])) rfl ?_
        exact xe_end pg_103 rfl
      exact xe_end pg_104 rfl
    refine xe_sn pg_154 4 (fr' := (11, [(0, .ref 165), (1, .int 0), (2, .int p1), (3, .int p2)], [.ref 165, .int 0, .int p1, .ref 165])) rfl ?_
    refine xe_sn pg_154 2 (fr' := (15, [(0, .ref 165), (1, .int 0), (2, .int p1), (3, .int p2)], [.int 0, .ref 168, .int 0, .int p1, .ref 165])) rfl ?_
    apply xe_callq pg_154 104 [.int 0] (.inl (some (.int 1))) (18, [(0, .ref 165), (1, .int 0), (2, .int p1), (3, .int p2)], [.int 1, .ref 168, .int 0, .int p1, .ref 165]) rfl (fun _ => rfl)
    · refine xe_sn pg_104 3 (fr' := (3, [(0, .int 0)], [.int 3, .int 0, .int 0])) rfl ?_
      apply xe_callq pg_104 103 [.int 0, .int 0, .int 3] (.inl (some (.int 1))) (6, [(0, .int 0)], [.int 1]) rfl (fun _ => rfl)
      · refine xe_sn pg_103 4 (fr' := (6, [(0, .int 0), (1, .int 0), (2, .int 3)], [.int 0])) rfl ?_
        refine xe_sn pg_103 4 (fr' := (15, [(0, .int 0), (1, .int 0), (2, .int 3)], [.int 1])) rfl ?_
        exact xe_end pg_103 rfl
      exact xe_end pg_104 rfl
    refine xe_sn pg_154 4 (fr' := (27, [(0, .ref 165), (1, .int 0), (2, .int p1), (3, .int p2)], [.int 0, .int 0, .int p1, .ref 165])) rfl ?_
    refine xe_sn pg_154 2 (fr' := (29, [(0, .ref 165), (1, .int 0), (2, .int p1), (3, .int p2)], [.int (-1), .int 0, .int p1, .ref 165])) rfl ?_
    apply xe_callq pg_154 103 [.int p1, .int 0, .int (-1)] (.inl (some (.int 0))) (32, [(0, .ref 165), (1, .int 0), (2, .int p1), (3, .int p2)], [.int 0, .ref 165]) rfl (fun _ => rfl)
    · refine xe_sn pg_103 2 (fr' := (2, [(0, .int p1), (1, .int 0), (2, .int (-1))], [.int 0, .int p1])) rfl ?_
      refine xe_t2 pg_103 14 rfl rfl (by show (p1).toInt < 0; omega) ?_
      refine xe_sn pg_103 1 (fr' := (15, [(0, .int p1), (1, .int 0), (2, .int (-1))], [.int 0])) rfl ?_
      exact xe_end pg_103 rfl
    refine xe_sn pg_154 2 (fr' := (49, [(0, .ref 165), (1, .int 0), (2, .int p1), (3, .int p2)], [.int 0, .ref 165])) rfl ?_
    apply xe_callq pg_154 151 [.ref 165, .int 0] (.inl (some (.int 1))) (52, [(0, .ref 165), (1, .int 0), (2, .int p1), (3, .int p2)], [.int 1]) rfl (fun _ => rfl)
    · refine xe_sn pg_151 4 (fr' := (10, [(0, .ref 165), (1, .int 0)], [.int 1, .ref 165])) rfl ?_
      refine xe_sn pg_151 4 (fr' := (18, [(0, .ref 165), (1, .int 0)], [.int 1])) rfl ?_
      refine xe_sn pg_151 1 (fr' := (22, [(0, .ref 165), (1, .int 0)], [.int 1])) rfl ?_
      exact xe_end pg_151 rfl
    refine xe_sn pg_154 3 (fr' := (74, [(0, .ref 165), (1, .int 0), (2, .int p1), (3, .int p2)], [.int 0])) rfl ?_
    exact xe_end pg_154 rfl
  · exact ⟨⟨rfl, rfl, rfl, rfl⟩, Nat.le_of_ble_eq_true rfl, Nat.le_of_ble_eq_true rfl, rfl, fun q => absurd q (by decide)⟩

set_option maxRecDepth 100000 in
theorem lf_key_3 (xs : Nat → Int32) (p1 : Int32) (p2 : Int32) (a1 : 0 ≤ p1.toInt) : op_ok xs 173 154 [.ref 0, .int 0, .int p1, .int p2, .ref 189] [.ref 165, .int 0, .int p1, .int p2] := by
  refine ⟨1, 0, ?_⟩
  apply Exists.intro
  apply Exists.intro
  apply And.intro
  · refine xe_sn pg_173 4 (fr' := (5, [(0, .ref 0), (1, .int 0), (2, .int p1), (3, .int p2), (4, .ref 189)], [.int 0, .ref 0, .int 0, .ref 189])) rfl ?_
    refine xe_sn pg_173 2 (fr' := (7, [(0, .ref 0), (1, .int 0), (2, .int p1), (3, .int p2), (4, .ref 189)], [.int p2, .int p1, .int 0, .ref 0, .int 0, .ref 189])) rfl ?_
    apply xe_callq pg_173 86 [.ref 0, .int 0, .int p1, .int p2] (.inr 0) (17, [(0, .ref 0), (1, .int 0), (2, .int p1), (3, .int p2), (4, .ref 189)], []) rfl (fun _ => rfl)
    · refine xe_sn pg_86 1 (fr' := (1, [(0, .ref 0), (1, .int 0), (2, .int p1), (3, .int p2)], [.int 0])) rfl ?_
      apply xe_callq pg_86 92 [.int 0] (.inl none) (4, [(0, .ref 0), (1, .int 0), (2, .int p1), (3, .int p2)], []) rfl (fun _ => rfl)
      · refine xe_sn pg_92 2 (fr' := (2, [(0, .int 0)], [.int 4, .int 0])) rfl ?_
        apply xe_callq pg_92 95 [.int 0, .int 4] (.inl none) (5, [(0, .int 0)], []) rfl (fun _ => rfl)
        · refine xe_sn pg_95 4 (fr' := (6, [(0, .int 0), (1, .int 4)], [.int 4, .int 0])) rfl ?_
          refine xe_sn pg_95 1 (fr' := (17, [(0, .int 0), (1, .int 4)], [])) rfl ?_
          exact xe_end pg_95 rfl
        exact xe_end pg_92 rfl
      refine xe_sn pg_86 4 (fr' := (10, [(0, .ref 0), (1, .int 0), (2, .int p1), (3, .int p2)], [.int 0, .ref 120, .int p1])) rfl ?_
      refine xe_sn pg_86 2 (fr' := (14, [(0, .ref 0), (1, .int 0), (2, .int p1), (3, .int p2)], [.int 0, .int p1])) rfl ?_
      apply xe_callqx pg_86 95 [.int p1, .int 0] 0 rfl (fun _ => rfl)
      · refine xe_sn pg_95 1 (fr' := (1, [(0, .int p1), (1, .int 0)], [.int p1])) rfl ?_
        refine xe_f1 pg_95 9 rfl rfl (by show ¬ ((p1).toInt < 0); omega) ?_
        refine xe_sn pg_95 2 (fr' := (6, [(0, .int p1), (1, .int 0)], [.int 0, .int p1])) rfl ?_
        refine xe_f2 pg_95 17 rfl rfl (by show ¬ ((p1).toInt < 0); omega) ?_
        exact xe_end pg_95 rfl
    refine xe_sn pg_173 1 (fr' := (18, [(0, .ref 0), (1, .int 0), (2, .int p1), (3, .int p2), (4, .ref 189)], [.int 1])) rfl ?_
    exact xe_end pg_173 rfl
  refine And.intro ⟨rfl, rfl, rfl, rfl⟩ ?_
  apply And.intro
  · refine xe_sn pg_154 2 (fr' := (2, [(0, .ref 165), (1, .int 0), (2, .int p1), (3, .int p2)], [.int 0, .ref 165])) rfl ?_
    apply xe_callq pg_154 104 [.int 0] (.inl (some (.int 1))) (5, [(0, .ref 165), (1, .int 0), (2, .int p1), (3, .int p2)], [.int 1, .ref 165]) rfl (fun _ => rfl)
    · refine xe_sn pg_104 3 (fr' := (3, [(0, .int 0)], [.int 3, .int 0, .int 0])) rfl ?_
      apply xe_callq pg_104 103 [.int 0, .int 0, .int 3] (.inl (some (.int 1))) (6, [(0, .int 0)], [.int 1]) rfl (fun _ => rfl)
      · refine xe_sn pg_103 4 (fr' := (6, [(0, .int 0), (1, .int 0), (2, .int 3)], [.int 0])) rfl ?_
        refine xe_sn pg_103 4 (fr' := (15, [(0, .int 0), (1, .int 0), (2, .int 3)], [.int 1])) rfl ?_
        exact xe_end pg_103 rfl
      exact xe_end pg_104 rfl
    refine xe_sn pg_154 4 (fr' := (11, [(0, .ref 165), (1, .int 0), (2, .int p1), (3, .int p2)], [.ref 165, .int 0, .int p1, .ref 165])) rfl ?_
    refine xe_sn pg_154 2 (fr' := (15, [(0, .ref 165), (1, .int 0), (2, .int p1), (3, .int p2)], [.int 0, .ref 168, .int 0, .int p1, .ref 165])) rfl ?_
    apply xe_callq pg_154 104 [.int 0] (.inl (some (.int 1))) (18, [(0, .ref 165), (1, .int 0), (2, .int p1), (3, .int p2)], [.int 1, .ref 168, .int 0, .int p1, .ref 165]) rfl (fun _ => rfl)
    · refine xe_sn pg_104 3 (fr' := (3, [(0, .int 0)], [.int 3, .int 0, .int 0])) rfl ?_
      apply xe_callq pg_104 103 [.int 0, .int 0, .int 3] (.inl (some (.int 1))) (6, [(0, .int 0)], [.int 1]) rfl (fun _ => rfl)
      · refine xe_sn pg_103 4 (fr' := (6, [(0, .int 0), (1, .int 0), (2, .int 3)], [.int 0])) rfl ?_
        refine xe_sn pg_103 4 (fr' := (15, [(0, .int 0), (1, .int 0), (2, .int 3)], [.int 1])) rfl ?_
        exact xe_end pg_103 rfl
      exact xe_end pg_104 rfl
    refine xe_sn pg_154 4 (fr' := (27, [(0, .ref 165), (1, .int 0), (2, .int p1), (3, .int p2)], [.int 0, .int 0, .int p1, .ref 165])) rfl ?_
    refine xe_sn pg_154 2 (fr' := (29, [(0, .ref 165), (1, .int 0), (2, .int p1), (3, .int p2)], [.int (-1), .int 0, .int p1, .ref 165])) rfl ?_
    apply xe_callq pg_154 103 [.int p1, .int 0, .int (-1)] (.inl (some (.int 0))) (32, [(0, .ref 165), (1, .int 0), (2, .int p1), (3, .int p2)], [.int 0, .ref 165]) rfl (fun _ => rfl)
    · refine xe_sn pg_103 2 (fr' := (2, [(0, .int p1), (1, .int 0), (2, .int (-1))], [.int 0, .int p1])) rfl ?_
      refine xe_f2 pg_103 14 rfl rfl (by show ¬ ((p1).toInt < 0); omega) ?_
      refine xe_sn pg_103 2 (fr' := (7, [(0, .int p1), (1, .int 0), (2, .int (-1))], [.int (-1), .int p1])) rfl ?_
      refine xe_t2 pg_103 14 rfl rfl (by show -1 < (p1).toInt; omega) ?_
      refine xe_sn pg_103 1 (fr' := (15, [(0, .int p1), (1, .int 0), (2, .int (-1))], [.int 0])) rfl ?_
      exact xe_end pg_103 rfl
    refine xe_sn pg_154 2 (fr' := (49, [(0, .ref 165), (1, .int 0), (2, .int p1), (3, .int p2)], [.int 0, .ref 165])) rfl ?_
    apply xe_callq pg_154 151 [.ref 165, .int 0] (.inl (some (.int 1))) (52, [(0, .ref 165), (1, .int 0), (2, .int p1), (3, .int p2)], [.int 1]) rfl (fun _ => rfl)
    · refine xe_sn pg_151 4 (fr' := (10, [(0, .ref 165), (1, .int 0)], [.int 1, .ref 165])) rfl ?_
      refine xe_sn pg_151 4 (fr' := (18, [(0, .ref 165), (1, .int 0)], [.int 1])) rfl ?_
      refine xe_sn pg_151 1 (fr' := (22, [(0, .ref 165), (1, .int 0)], [.int 1])) rfl ?_
      exact xe_end pg_151 rfl
    refine xe_sn pg_154 3 (fr' := (74, [(0, .ref 165), (1, .int 0), (2, .int p1), (3, .int p2)], [.int 0])) rfl ?_
    exact xe_end pg_154 rfl
  · exact ⟨⟨rfl, rfl, rfl, rfl⟩, Nat.le_of_ble_eq_true rfl, Nat.le_of_ble_eq_true rfl, rfl, fun q => absurd q (by decide)⟩

set_option maxRecDepth 100000 in
theorem lf_key_4 (xs : Nat → Int32) (p1 : Int32) (p2 : Int32) (a1 : p1.toInt < 0) : op_ok xs 173 154 [.ref 0, .int 1, .int p1, .int p2, .ref 189] [.ref 165, .int 1, .int p1, .int p2] := by
  refine ⟨1, 0, ?_⟩
  apply Exists.intro
  apply Exists.intro
  apply And.intro
  · refine xe_sn pg_173 4 (fr' := (5, [(0, .ref 0), (1, .int 1), (2, .int p1), (3, .int p2), (4, .ref 189)], [.int 1, .ref 0, .int 0, .ref 189])) rfl ?_
    refine xe_sn pg_173 2 (fr' := (7, [(0, .ref 0), (1, .int 1), (2, .int p1), (3, .int p2), (4, .ref 189)], [.int p2, .int p1, .int 1, .ref 0, .int 0, .ref 189])) rfl ?_
    apply xe_callq pg_173 86 [.ref 0, .int 1, .int p1, .int p2] (.inr 0) (17, [(0, .ref 0), (1, .int 1), (2, .int p1), (3, .int p2), (4, .ref 189)], []) rfl (fun _ => rfl)
    · refine xe_sn pg_86 1 (fr' := (1, [(0, .ref 0), (1, .int 1), (2, .int p1), (3, .int p2)], [.int 1])) rfl ?_
      apply xe_callq pg_86 92 [.int 1] (.inl none) (4, [(0, .ref 0), (1, .int 1), (2, .int p1), (3, .int p2)], []) rfl (fun _ => rfl)
      · refine xe_sn pg_92 2 (fr' := (2, [(0, .int 1)], [.int 4, .int 1])) rfl ?_
        apply xe_callq pg_92 95 [.int 1, .int 4] (.inl none) (5, [(0, .int 1)], []) rfl (fun _ => rfl)
        · refine xe_sn pg_95 4 (fr' := (6, [(0, .int 1), (1, .int 4)], [.int 4, .int 1])) rfl ?_
          refine xe_sn pg_95 1 (fr' := (17, [(0, .int 1), (1, .int 4)], [])) rfl ?_
          exact xe_end pg_95 rfl
        exact xe_end pg_92 rfl
      refine xe_sn pg_86 4 (fr' := (10, [(0, .ref 0), (1, .int 1), (2, .int p1), (3, .int p2)], [.int 1, .ref 120, .int p1])) rfl ?_
      refine xe_sn pg_86 2 (fr' := (14, [(0, .ref 0), (1, .int 1), (2, .int p1), (3, .int p2)], [.int 0, .int p1])) rfl ?_
      apply xe_callqx pg_86 95 [.int p1, .int 0] 0 rfl (fun _ => rfl)
      · refine xe_sn pg_95 1 (fr' := (1, [(0, .int p1), (1, .int 0)], [.int p1])) rfl ?_
        refine xe_t1 pg_95 9 rfl rfl (by show (p1).toInt < 0; omega) ?_
        exact xe_end pg_95 rfl
    refine xe_sn pg_173 1 (fr' := (18, [(0, .ref 0), (1, .int 1), (2, .int p1), (3, .int p2), (4, .ref 189)], [.int 1])) rfl ?_
    exact xe_end pg_173 rfl
  refine And.intro ⟨rfl, rfl, rfl, rfl⟩ ?_
  apply And.intro
  · refine xe_sn pg_154 2 (fr' := (2, [(0, .ref 165), (1, .int 1), (2, .int p1), (3, .int p2)], [.int 1, .ref 165])) rfl ?_
    apply xe_callq pg_154 104 [.int 1] (.inl (some (.int 1))) (5, [(0, .ref 165), (1, .int 1), (2, .int p1), (3, .int p2)], [.int 1, .ref 165]) rfl (fun _ => rfl)
    · refine xe_sn pg_104 3 (fr' := (3, [(0, .int 1)], [.int 3, .int 0, .int 1])) rfl ?_
      apply xe_callq pg_104 103 [.int 1, .int 0, .int 3] (.inl (some (.int 1))) (6, [(0, .int 1)], [.int 1]) rfl (fun _ => rfl)
      · refine xe_sn pg_103 4 (fr' := (6, [(0, .int 1), (1, .int 0), (2, .int 3)], [.int 1])) rfl ?_
        refine xe_sn pg_103 4 (fr' := (15, [(0, .int 1), (1, .int 0), (2, .int 3)], [.int 1])) rfl ?_
        exact xe_end pg_103 rfl
      exact xe_end pg_104 rfl
    refine xe_sn pg_154 4 (fr' := (11, [(0, .ref 165), (1, .int 1), (2, .int p1), (3, .int p2)], [.ref 165, .int 0, .int p1, .ref 165])) rfl ?_
    refine xe_sn pg_154 2 (fr' := (15, [(0, .ref 165), (1, .int 1), (2, .int p1), (3, .int p2)], [.int 1, .ref 168, .int 0, .int p1, .ref 165])) rfl ?_
    apply xe_callq pg_154 104 [.int 1] (.inl (some (.int 1))) (18, [(0, .ref 165), (1, .int 1), (2, .int p1), (3, .int p2)], [.int 1, .ref 168, .int 0, .int p1, .ref 165]) rfl (fun _ => rfl)
    · refine xe_sn pg_104 3 (fr' := (3, [(0, .int 1)], [.int 3, .int 0, .int 1])) rfl ?_
      apply xe_callq pg_104 103 [.int 1, .int 0, .int 3] (.inl (some (.int 1))) (6, [(0, .int 1)], [.int 1]) rfl (fun _ => rfl)
      · refine xe_sn pg_103 4 (fr' := (6, [(0, .int 1), (1, .int 0), (2, .int 3)], [.int 1])) rfl ?_
        refine xe_sn pg_103 4 (fr' := (15, [(0, .int 1), (1, .int 0), (2, .int 3)], [.int 1])) rfl ?_
        exact xe_end pg_103 rfl
      exact xe_end pg_104 rfl
    refine xe_sn pg_154 4 (fr' := (27, [(0, .ref 165), (1, .int 1), (2, .int p1), (3, .int p2)], [.int 0, .int 0, .int p1, .ref 165])) rfl ?_
    refine xe_sn pg_154 2 (fr' := (29, [(0, .ref 165), (1, .int 1), (2, .int p1), (3, .int p2)], [.int (-1), .int 0, .int p1, .ref 165])) rfl ?_
    apply xe_callq pg_154 103 [.int p1, .int 0, .int (-1)] (.inl (some (.int 0))) (32, [(0, .ref 165), (1, .int 1), (2, .int p1), (3, .int p2)], [.int 0, .ref 165]) rfl (fun _ => rfl)
    · refine xe_sn pg_103 2 (fr' := (2, [(0, .int p1), (1, .int 0), (2, .int (-1))], [.int 0, .int p1])) rfl ?_
      refine xe_t2 pg_103 14 rfl rfl (by show (p1).toInt < 0; omega) ?_
      refine xe_sn pg_103 1 (fr' := (15, [(0, .int p1), (1, .int 0), (2, .int (-1))], [.int 0])) rfl ?_
      exact xe_end pg_103 rfl
    refine xe_sn pg_154 2 (fr' := (49, [(0, .ref 165), (1, .int 1), (2, .int p1), (3, .int p2)], [.int 0, .ref 165])) rfl ?_
    apply xe_callq pg_154 151 [.ref 165, .int 0] (.inl (some (.int 1))) (52, [(0, .ref 165), (1, .int 1), (2, .int p1), (3, .int p2)], [.int 1]) rfl (fun _ => rfl)
    · refine xe_sn pg_151 4 (fr' := (10, [(0, .ref 165), (1, .int 0)], [.int 1, .ref 165])) rfl ?_
      refine xe_sn pg_151 4 (fr' := (18, [(0, .ref 165), (1, .int 0)], [.int 1])) rfl ?_
      refine xe_sn pg_151 1 (fr' := (22, [(0, .ref 165), (1, .int 0)], [.int 1])) rfl ?_
      exact xe_end pg_151 rfl
    refine xe_sn pg_154 3 (fr' := (74, [(0, .ref 165), (1, .int 1), (2, .int p1), (3, .int p2)], [.int 0])) rfl ?_
    exact xe_end pg_154 rfl
  · exact ⟨⟨rfl, rfl, rfl, rfl⟩, Nat.le_of_ble_eq_true rfl, Nat.le_of_ble_eq_true rfl, rfl, fun q => absurd q (by decide)⟩

set_option maxRecDepth 100000 in
theorem lf_key_5 (xs : Nat → Int32) (p1 : Int32) (p2 : Int32) (a1 : 0 ≤ p1.toInt) : op_ok xs 173 154 [.ref 0, .int 1, .int p1, .int p2, .ref 189] [.ref 165, .int 1, .int p1, .int p2] := by
  refine ⟨1, 0, ?_⟩
  apply Exists.intro
  apply Exists.intro
  apply And.intro
  · refine xe_sn pg_173 4 (fr' := (5, [(0, .ref 0), (1, .int 1), (2, .int p1), (3, .int p2), (4, .ref 189)], [.int 1, .ref 0, .int 0, .ref 189])) rfl ?_
    refine xe_sn pg_173 2 (fr' := (7, [(0, .ref 0), (1, .int 1), (2, .int p1), (3, .int p2), (4, .ref 189)], [.int p2, .int p1, .int 1, .ref 0, .int 0, .ref 189])) rfl ?_
    apply xe_callq pg_173 86 [.ref 0, .int 1, .int p1, .int p2] (.inr 0) (17, [(0, .ref 0), (1, .int 1), (2, .int p1), (3, .int p2), (4, .ref 189)], []) rfl (fun _ => rfl)
    · refine xe_sn pg_86 1 (fr' := (1, [(0, .ref 0), (1, .int 1), (2, .int p1), (3, .int p2)], [.int 1])) rfl ?_
      apply xe_callq pg_86 92 [.int 1] (.inl none) (4, [(0, .ref 0), (1, .int 1), (2, .int p1), (3, .int p2)], []) rfl (fun _ => rfl)
      · refine xe_sn pg_92 2 (fr' := (2, [(0, .int 1)], [.int 4, .int 1])) rfl ?_
        apply xe_callq pg_92 95 [.int 1, .int 4] (.inl none) (5, [(0, .int 1)], []) rfl (fun _ => rfl)
        · refine xe_sn pg_95 4 (fr' := (6, [(0, .int 1), (1, .int 4)], [.int 4, .int 1])) rfl ?_
          refine xe_sn pg_95 1 (fr' := (17, [(0, .int 1), (1, .int 4)], [])) rfl ?_
          exact xe_end pg_95 rfl
        exact xe_end pg_92 rfl
      refine xe_sn pg_86 4 (fr' := (10, [(0, .ref 0), (1, .int 1), (2, .int p1), (3, .int p2)], [.int 1, .ref 120, .int p1])) rfl ?_
      refine xe_sn pg_86 2 (fr' := (14, [(0, .ref 0), (1, .int 1), (2, .int p1), (3, .int p2)], [.int 0, .int p1])) rfl ?_
      apply xe_callqx pg_86 95 [.int p1, .int 0] 0 rfl (fun _ => rfl)
      · refine xe_sn pg_95 1 (fr' := (1, [(0, .int p1), (1, .int 0)], [.int p1])) rfl ?_
        refine xe_f1 pg_95 9 rfl rfl (by show ¬ ((p1).toInt < 0); omega) ?_
        refine xe_sn pg_95 2 (fr' := (6, [(0, .int p1), (1, .int 0)], [.int 0, .int p1])) rfl ?_
        refine xe_f2 pg_95 17 rfl rfl (by show ¬ ((p1).toInt < 0); omega) ?_
        exact xe_end pg_95 rfl
    refine xe_sn pg_173 1 (fr' := (18, [(0, .ref 0), (1, .int 1), (2, .int p1), (3, .int p2), (4, .ref 189)], [.int 1])) rfl ?_
    exact xe_end pg_173 rfl
  refine And.intro ⟨rfl, rfl, rfl, rfl⟩ ?_
  apply And.intro
  · refine xe_sn pg_154 2 (fr' := (2, [(0, .ref 165), (1, .int 1), (2, .int p1), (3, .int p2)], [.int 1, .ref 165])) rfl ?_
    apply xe_callq pg_154 104 [.int 1] (.inl (some (.int 1))) (5, [(0, .ref 165), (1, .int 1), (2, .int p1), (3, .int p2)], [.int 1, .ref 165]) rfl (fun _ => rfl)
    · refine xe_sn pg_104 3 (fr' := (3, [(0, .int 1)], [.int 3, .int 0, .int 1])) rfl ?_
      apply xe_callq pg_104 103 [.int 1, .int 0, .int 3] (.inl (some (.int 1))) (6, [(0, .int 1)], [.int 1]) rfl (fun _ => rfl)
      · refine xe_sn pg_103 4 (fr' := (6, [(0, .int 1), (1, .int 0), (2, .int 3)], [.int 1])) rfl ?_
        refine xe_sn pg_103 4 (fr' := (15, [(0, .int 1), (1, .int 0), (2, .int 3)], [.int 1])) rfl ?_
        exact xe_end pg_103 rfl
      exact xe_end pg_104 rfl
    refine xe_sn pg_154 4 (fr' := (11, [(0, .ref 165), (1, .int 1), (2, .int p1), (3, .int p2)], [.ref 165, .int 0, .int p1, .ref 165])) rfl ?_
    refine xe_sn pg_154 2 (fr' := (15, [(0, .ref 165), (1, .int 1), (2, .int p1), (3, .int p2)], [.int 1, .ref 168, .int 0, .int p1, .ref 165])) rfl ?_
    apply xe_callq pg_154 104 [.int 1] (.inl (some (.int 1))) (18, [(0, .ref 165), (1, .int 1), (2, .int p1), (3, .int p2)], [.int 1, .ref 168, .int 0, .int p1, .ref 165]) rfl (fun _ => rfl)
    · refine xe_sn pg_104 3 (fr' := (3, [(0, .int 1)], [.int 3, .int 0, .int 1])) rfl ?_
      apply xe_callq pg_104 103 [.int 1, .int 0, .int 3] (.inl (some (.int 1))) (6, [(0, .int 1)], [.int 1]) rfl (fun _ => rfl)
      · refine xe_sn pg_103 4 (fr' := (6, [(0, .int 1), (1, .int 0), (2, .int 3)], [.int 1])) rfl ?_
        refine xe_sn pg_103 4 (fr' := (15, [(0, .int 1), (1, .int 0), (2, .int 3)], [.int 1])) rfl ?_
        exact xe_end pg_103 rfl
      exact xe_end pg_104 rfl
    refine xe_sn pg_154 4 (fr' := (27, [(0, .ref 165), (1, .int 1), (2, .int p1), (3, .int p2)], [.int 0, .int 0, .int p1, .ref 165])) rfl ?_
    refine xe_sn pg_154 2 (fr' := (29, [(0, .ref 165), (1, .int 1), (2, .int p1), (3, .int p2)], [.int (-1), .int 0, .int p1, .ref 165])) rfl ?_
    apply xe_callq pg_154 103 [.int p1, .int 0, .int (-1)] (.inl (some (.int 0))) (32, [(0, .ref 165), (1, .int 1), (2, .int p1), (3, .int p2)], [.int 0, .ref 165]) rfl (fun _ => rfl)
    · refine xe_sn pg_103 2 (fr' := (2, [(0, .int p1), (1, .int 0), (2, .int (-1))], [.int 0, .int p1])) rfl ?_
      refine xe_f2 pg_103 14 rfl rfl (by show ¬ ((p1).toInt < 0); omega) ?_
      refine xe_sn pg_103 2 (fr' := (7, [(0, .int p1), (1, .int 0), (2, .int (-1))], [.int (-1), .int p1])) rfl ?_
      refine xe_t2 pg_103 14 rfl rfl (by show -1 < (p1).toInt; omega) ?_
      refine xe_sn pg_103 1 (fr' := (15, [(0, .int p1), (1, .int 0), (2, .int (-1))], [.int 0])) rfl ?_
      exact xe_end pg_103 rfl
    refine xe_sn pg_154 2 (fr' := (49, [(0, .ref 165), (1, .int 1), (2, .int p1), (3, .int p2)], [.int 0, .ref 165])) rfl ?_
    apply xe_callq pg_154 151 [.ref 165, .int 0] (.inl (some (.int 1))) (52, [(0, .ref 165), (1, .int 1), (2, .int p1), (3, .int p2)], [.int 1]) rfl (fun _ => rfl)
    · refine xe_sn pg_151 4 (fr' := (10, [(0, .ref 165), (1, .int 0)], [.int 1, .ref 165])) rfl ?_
      refine xe_sn pg_151 4 (fr' := (18, [(0, .ref 165), (1, .int 0)], [.int 1])) rfl ?_
      refine xe_sn pg_151 1 (fr' := (22, [(0, .ref 165), (1, .int 0)], [.int 1])) rfl ?_
      exact xe_end pg_151 rfl
    refine xe_sn pg_154 3 (fr' := (74, [(0, .ref 165), (1, .int 1), (2, .int p1), (3, .int p2)], [.int 0])) rfl ?_
    exact xe_end pg_154 rfl
  · exact ⟨⟨rfl, rfl, rfl, rfl⟩, Nat.le_of_ble_eq_true rfl, Nat.le_of_ble_eq_true rfl, rfl, fun q => absurd q (by decide)⟩

set_option maxRecDepth 100000 in
theorem lf_key_6 (xs : Nat → Int32) (p1 : Int32) (p2 : Int32) (a1 : p1.toInt < 0) : op_ok xs 173 154 [.ref 0, .int 2, .int p1, .int p2, .ref 189] [.ref 165, .int 2, .int p1, .int p2] := by
  refine ⟨1, 0, ?_⟩
  apply Exists.intro
  apply Exists.intro
  apply And.intro
  · refine xe_sn pg_173 4 (fr' := (5, [(0, .ref 0), (1, .int 2), (2, .int p1), (3, .int p2), (4, .ref 189)], [.int 2, .ref 0, .int 0, .ref 189])) rfl ?_
    refine xe_sn pg_173 2 (fr' := (7, [(0, .ref 0), (1, .int 2), (2, .int p1), (3, .int p2), (4, .ref 189)], [.int p2, .int p1, .int 2, .ref 0, .int 0, .ref 189])) rfl ?_
    apply xe_callq pg_173 86 [.ref 0, .int 2, .int p1, .int p2] (.inr 0) (17, [(0, .ref 0), (1, .int 2), (2, .int p1), (3, .int p2), (4, .ref 189)], []) rfl (fun _ => rfl)
    · refine xe_sn pg_86 1 (fr' := (1, [(0, .ref 0), (1, .int 2), (2, .int p1), (3, .int p2)], [.int 2])) rfl ?_
      apply xe_callq pg_86 92 [.int 2] (.inl none) (4, [(0, .ref 0), (1, .int 2), (2, .int p1), (3, .int p2)], []) rfl (fun _ => rfl)
      · refine xe_sn pg_92 2 (fr' := (2, [(0, .int 2)], [.int 4, .int 2])) rfl ?_
        apply xe_callq pg_92 95 [.int 2, .int 4] (.inl none) (5, [(0, .int 2)], []) rfl (fun _ => rfl)
        · refine xe_sn pg_95 4 (fr' := (6, [(0, .int 2), (1, .int 4)], [.int 4, .int 2])) rfl ?_
          refine xe_sn pg_95 1 (fr' := (17, [(0, .int 2), (1, .int 4)], [])) rfl ?_
          exact xe_end pg_95 rfl
        exact xe_end pg_92 rfl
      refine xe_sn pg_86 4 (fr' := (10, [(0, .ref 0), (1, .int 2), (2, .int p1), (3, .int p2)], [.int 2, .ref 120, .int p1])) rfl ?_
      refine xe_sn pg_86 2 (fr' := (14, [(0, .ref 0), (1, .int 2), (2, .int p1), (3, .int p2)], [.int 0, .int p1])) rfl ?_
      apply xe_callqx pg_86 95 [.int p1, .int 0] 0 rfl (fun _ => rfl)
      · refine xe_sn pg_95 1 (fr' := (1, [(0, .int p1), (1, .int 0)], [.int p1])) rfl ?_
        refine xe_t1 pg_95 9 rfl rfl (by show (p1).toInt < 0; omega) ?_
        exact xe_end pg_95 rfl
    refine xe_sn pg_173 1 (fr' := (18, [(0, .ref 0), (1, .int 2), (2, .int p1), (3, .int p2), (4, .ref 189)], [.int 1])) rfl ?_
    exact xe_end pg_173 rfl
  refine And.intro ⟨rfl, rfl, rfl, rfl⟩ ?_
  apply And.intro
  · refine xe_sn pg_154 2 (fr' := (2, [(0, .ref 165), (1, .int 2), (2, .int p1), (3, .int p2)], [.int 2, .ref 165])) rfl ?_
    apply xe_callq pg_154 104 [.int 2] (.inl (some (.int 1))) (5, [(0, .ref 165), (1, .int 2), (2, .int p1), (3, .int p2)], [.int 1, .ref 165]) rfl (fun _ => rfl)
    · refine xe_sn pg_104 3 (fr' := (3, [(0, .int 2)], [.int 3, .int 0, .int 2])) rfl ?_
      apply xe_callq pg_104 103 [.int 2, .int 0, .int 3] (.inl (some (.int 1))) (6, [(0, .int 2)], [.int 1]) rfl (fun _ => rfl)
      · refine xe_sn pg_103 4 (fr' := (6, [(0, .int 2), (1, .int 0), (2, .int 3)], [.int 2])) rfl ?_
        refine xe_sn pg_103 4 (fr' := (15, [(0, .int 2), (1, .int 0), (2, .int 3)], [.int 1])) rfl ?_
        exact xe_end pg_103 rfl
      exact xe_end pg_104 rfl
    refine xe_sn pg_154 4 (fr' := (11, [(0, .ref 165), (1, .int 2), (2, .int p1), (3, .int p2)], [.ref 165, .int 0, .int p1, .ref 165])) rfl ?_
    refine xe_sn pg_154 2 (fr' := (15, [(0, .ref 165), (1, .int 2), (2, .int p1), (3, .int p2)], [.int 2, .ref 168, .int 0, .int p1, .ref 165])) rfl ?_
    apply xe_callq pg_154 104 [.int 2] (.inl (some (.int 1))) (18, [(0, .ref 165), (1, .int 2), (2, .int p1), (3, .int p2)], [.int 1, .ref 168, .int 0, .int p1, .ref 165]) rfl (fun _ => rfl)
    · refine xe_sn pg_104 3 (fr' := (3, [(0, .int 2)], [.int 3, .int 0, .int 2])) rfl ?_
      apply xe_callq pg_104 103 [.int 2, .int 0, .int 3] (.inl (some (.int 1))) (6, [(0, .int 2)], [.int 1]) rfl (fun _ => rfl)
      · refine xe_sn pg_103 4 (fr' := (6, [(0, .int 2), (1, .int 0), (2, .int 3)], [.int 2])) rfl ?_
        refine xe_sn pg_103 4 (fr' := (15, [(0, .int 2), (1, .int 0), (2, .int 3)], [.int 1])) rfl ?_
        exact xe_end pg_103 rfl
      exact xe_end pg_104 rfl
    refine xe_sn pg_154 4 (fr' := (27, [(0, .ref 165), (1, .int 2), (2, .int p1), (3, .int p2)], [.int 0, .int 0, .int p1, .ref 165])) rfl ?_
    refine xe_sn pg_154 2 (fr' := (29, [(0, .ref 165), (1, .int 2), (2, .int p1), (3, .int p2)], [.int (-1), .int 0, .int p1, .ref 165])) rfl ?_
    apply xe_callq pg_154 103 [.int p1, .int 0, .int (-1)] (.inl (some (.int 0))) (32, [(0, .ref 165), (1, .int 2), (2, .int p1), (3, .int p2)], [.int 0, .ref 165]) rfl (fun _ => rfl)
    · refine xe_sn pg_103 2 (fr' := (2, [(0, .int p1), (1, .int 0), (2, .int (-1))], [.int 0, .int p1])) rfl ?_
      refine xe_t2 pg_103 14 rfl rfl (by show (p1).toInt < 0; omega) ?_
      refine xe_sn pg_103 1 (fr' := (15, [(0, .int p1), (1, .int 0), (2, .int (-1))], [.int 0])) rfl ?_
      exact xe_end pg_103 rfl
    refine xe_sn pg_154 2 (fr' := (49, [(0, .ref 165), (1, .int 2), (2, .int p1), (3, .int p2)], [.int 0, .ref 165])) rfl ?_
    apply xe_callq pg_154 151 [.ref 165, .int 0] (.inl (some (.int 1))) (52, [(0, .ref 165), (1, .int 2), (2, .int p1), (3, .int p2)], [.int 1]) rfl (fun _ => rfl)
    · refine xe_sn pg_151 4 (fr' := (10, [(0, .ref 165), (1, .int 0)], [.int 1, .ref 165])) rfl ?_
      refine xe_sn pg_151 4 (fr' := (18, [(0, .ref 165), (1, .int 0)], [.int 1])) rfl ?_
      refine xe_sn pg_151 1 (fr' := (22, [(0, .ref 165), (1, .int 0)], [.int 1])) rfl ?_
      exact xe_end pg_151 rfl
    refine xe_sn pg_154 3 (fr' := (74, [(0, .ref 165), (1, .int 2), (2, .int p1), (3, .int p2)], [.int 0])) rfl ?_
    exact xe_end pg_154 rfl
  · exact ⟨⟨rfl, rfl, rfl, rfl⟩, Nat.le_of_ble_eq_true rfl, Nat.le_of_ble_eq_true rfl, rfl, fun q => absurd q (by decide)⟩

set_option maxRecDepth 100000 in
theorem lf_key_7 (xs : Nat → Int32) (p1 : Int32) (p2 : Int32) (a1 : 0 ≤ p1.toInt) : op_ok xs 173 154 [.ref 0, .int 2, .int p1, .int p2, .ref 189] [.ref 165, .int 2, .int p1, .int p2] := by
  refine ⟨1, 0, ?_⟩
  apply Exists.intro
  apply Exists.intro
  apply And.intro
  · refine xe_sn pg_173 4 (fr' := (5, [(0, .ref 0), (1, .int 2), (2, .int p1), (3, .int p2), (4, .ref 189)], [.int 2, .ref 0, .int 0, .ref 189])) rfl ?_
    refine xe_sn pg_173 2 (fr' := (7, [(0, .ref 0), (1, .int 2), (2, .int p1), (3, .int p2), (4, .ref 189)], [.int p2, .int p1, .int 2, .ref 0, .int 0, .ref 189])) rfl ?_
    apply xe_callq pg_173 86 [.ref 0, .int 2, .int p1, .int p2] (.inr 0) (17, [(0, .ref 0), (1, .int 2), (2, .int p1), (3, .int p2), (4, .ref 189)], []) rfl (fun _ => rfl)
    · refine xe_sn pg_86 1 (fr' := (1, [(0, .ref 0), (1, .int 2), (2, .int p1), (3, .int p2)], [.int 2])) rfl ?_
      apply xe_callq pg_86 92 [.int 2] (.inl none) (4, [(0, .ref 0), (1, .int 2), (2, .int p1), (3, .int p2)], []) rfl (fun _ => rfl)
      · refine xe_sn pg_92 2 (fr' := (2, [(0, .int 2)], [.int 4, .int 2])) rfl ?_
        apply xe_callq pg_92 95 [.int 2, .int 4] (.inl none) (5, [(0, .int 2)], []) rfl (fun _ => rfl)
        · refine xe_sn pg_95 4 (fr' := (6, [(0, .int 2), (1, .int 4)], [.int 4, .int 2])) rfl ?_
          refine xe_sn pg_95 1 (fr' := (17, [(0, .int 2), (1, .int 4)], [])) rfl ?_
          exact xe_end pg_95 rfl
        exact xe_end pg_92 rfl
      refine xe_sn pg_86 4 (fr' := (10, [(0, .ref 0), (1, .int 2), (2, .int p1), (3, .int p2)], [.int 2, .ref 120, .int p1])) rfl ?_
      refine xe_sn pg_86 2 (fr' := (14, [(0, .ref 0), (1, .int 2), (2, .int p1), (3, .int p2)], [.int 0, .int p1])) rfl ?_
      apply xe_callqx pg_86 95 [.int p1, .int 0] 0 rfl (fun _ => rfl)
      · refine xe_sn pg_95 1 (fr' := (1, [(0, .int p1), (1, .int 0)], [.int p1])) rfl ?_
        refine xe_f1 pg_95 9 rfl rfl (by show ¬ ((p1).toInt < 0); omega) ?_
        refine xe_sn pg_95 2 (fr' := (6, [(0, .int p1), (1, .int 0)], [.int 0, .int p1])) rfl ?_
        refine xe_f2 pg_95 17 rfl rfl (by show ¬ ((p1).toInt < 0); omega) ?_
        exact xe_end pg_95 rfl
    refine xe_sn pg_173 1 (fr' := (18, [(0, .ref 0), (1, .int 2), (2, .int p1), (3, .int p2), (4, .ref 189)], [.int 1])) rfl ?_
    exact xe_end pg_173 rfl
  refine And.intro ⟨rfl, rfl, rfl, rfl⟩ ?_
  apply And.intro
  · refine xe_sn pg_154 2 (fr' := (2, [(0, .ref 165), (1, .int 2), (2, .int p1), (3, .int p2)], [.int 2, .ref 165])) rfl ?_
    apply xe_callq pg_154 104 [.int 2] (.inl (some (.int 1))) (5, [(0, .ref 165), (1, .int 2), (2, .int p1), (3, .int p2)], [.int 1, .ref 165]) rfl (fun _ => rfl)
    · refine xe_sn pg_104 3 (fr' := (3, [(0, .int 2)], [.int 3, .int 0, .int 2])) rfl ?_
      apply xe_callq pg_104 103 [.int 2, .int 0, .int 3] (.inl (some (.int 1))) (6, [(0, .int 2)], [.int 1]) rfl (fun _ => rfl)
      · refine xe_sn pg_103 4 (fr' := (6, [(0, .int 2), (1, .int 0), (2, .int 3)], [.int 2])) rfl ?_
        refine xe_sn pg_103 4 (fr' := (15, [(0, .int 2), (1, .int 0), (2, .int 3)], [.int 1])) rfl ?_
        exact xe_end pg_103 rfl
      exact xe_end pg_104 rfl
    refine xe_sn pg_154 4 (fr' := (11, [(0, .ref 165), (1, .int 2), (2, .int p1), (3, .int p2)], [.ref 165, .int 0, .int p1, .ref 165])) rfl ?_
    refine xe_sn pg_154 2 (fr' := (15, [(0, .ref 165), (1, .int 2), (2, .int p1), (3, .int p2)], [.int 2, .ref 168, .int 0, .int p1, .ref 165])) rfl ?_
    apply xe_callq pg_154 104 [.int 2] (.inl (some (.int 1))) (18, [(0, .ref 165), (1, .int 2), (2, .int p1), (3, .int p2)], [.int 1, .ref 168, .int 0, .int p1, .ref 165]) rfl (fun _ => rfl)
    · refine xe_sn pg_104 3 (fr' := (3, [(0, .int 2)], [.int 3, .int 0, .int 2])) rfl ?_
      apply xe_callq pg_104 103 [.int 2, .int 0, .int 3] (.inl (some (.int 1))) (6, [(0, .int 2)], [.int 1]) rfl (fun _ => rfl)
      · refine xe_sn pg_103 4 (fr' := (6, [(0, .int 2), (1, .int 0), (2, .int 3)], [.int 2])) rfl ?_
        refine xe_sn pg_103 4 (fr' := (15, [(0, .int 2), (1, .int 0), (2, .int 3)], [.int 1])) rfl ?_
        exact xe_end pg_103 rfl
      exact xe_end pg_104 rfl
    refine xe_sn pg_154 4 (fr' := (27, [(0, .ref 165), (1, .int 2), (2, .int p1), (3, .int p2)], [.int 0, .int 0, .int p1, .ref 165])) rfl ?_
    refine xe_sn pg_154 2 (fr' := (29, [(0, .ref 165), (1, .int 2), (2, .int p1), (3, .int p2)], [.int (-1), .int 0, .int p1, .ref 165])) rfl ?_
    apply xe_callq pg_154 103 [.int p1, .int 0, .int (-1)] (.inl (some (.int 0))) (32, [(0, .ref 165), (1, .int 2), (2, .int p1), (3, .int p2)], [.int 0, .ref 165]) rfl (fun _ => rfl)
    · refine xe_sn pg_103 2 (fr' := (2, [(0, .int p1), (1, .int 0), (2, .int (-1))], [.int 0, .int p1])) rfl ?_
      refine xe_f2 pg_103 14 rfl rfl (by show ¬ ((p1).toInt < 0); omega) ?_
      refine xe_sn pg_103 2 (fr' := (7, [(0, .int p1), (1, .int 0), (2, .int (-1))], [.int (-1), .int p1])) rfl ?_
      refine xe_t2 pg_103 14 rfl rfl (by show -1 < (p1).toInt; omega) ?_
      refine xe_sn pg_103 1 (fr' := (15, [(0, .int p1), (1, .int 0), (2, .int (-1))], [.int 0])) rfl ?_
      exact xe_end pg_103 rfl
    refine xe_sn pg_154 2 (fr' := (49, [(0, .ref 165), (1, .int 2), (2, .int p1), (3, .int p2)], [.int 0, .ref 165])) rfl ?_
    apply xe_callq pg_154 151 [.ref 165, .int 0] (.inl (some (.int 1))) (52, [(0, .ref 165), (1, .int 2), (2, .int p1), (3, .int p2)], [.int 1]) rfl (fun _ => rfl)
    · refine xe_sn pg_151 4 (fr' := (10, [(0, .ref 165), (1, .int 0)], [.int 1, .ref 165])) rfl ?_
      refine xe_sn pg_151 4 (fr' := (18, [(0, .ref 165), (1, .int 0)], [.int 1])) rfl ?_
      refine xe_sn pg_151 1 (fr' := (22, [(0, .ref 165), (1, .int 0)], [.int 1])) rfl ?_
      exact xe_end pg_151 rfl
    refine xe_sn pg_154 3 (fr' := (74, [(0, .ref 165), (1, .int 2), (2, .int p1), (3, .int p2)], [.int 0])) rfl ?_
    exact xe_end pg_154 rfl
  · exact ⟨⟨rfl, rfl, rfl, rfl⟩, Nat.le_of_ble_eq_true rfl, Nat.le_of_ble_eq_true rfl, rfl, fun q => absurd q (by decide)⟩

set_option maxRecDepth 100000 in
theorem lf_key_8 (xs : Nat → Int32) (p1 : Int32) (p2 : Int32) (a1 : p1.toInt < 0) : op_ok xs 173 154 [.ref 0, .int 3, .int p1, .int p2, .ref 189] [.ref 165, .int 3, .int p1, .int p2] := by
  refine ⟨1, 0, ?_⟩
  apply Exists.intro
  apply Exists.intro
  apply And.intro
  · refine xe_sn pg_173 4 (fr' := (5, [(0, .ref 0), (1, .int 3), (2, .int p1), (3, .int p2), (4, .ref 189)], [.int 3, .ref 0, .int 0, .ref 189])) rfl ?_
    refine xe_sn pg_173 2 (fr' := (7, [(0, .ref 0), (1, .int 3), (2, .int p1), (3, .int p2), (4, .ref 189)], [.int p2, .int p1, .int 3, .ref 0, .int 0, .ref 189])) rfl ?_
    apply xe_callq pg_173 86 [.ref 0, .int 3, .int p1, .int p2] (.inr 0) (17, [(0, .ref 0), (1, .int 3), (2, .int p1), (3, .int p2), (4, .ref 189)], []) rfl (fun _ => rfl)
    · refine xe_sn pg_86 1 (fr' := (1, [(0, .ref 0), (1, .int 3), (2, .int p1), (3, .int p2)], [.int 3])) rfl ?_
      apply xe_callq pg_86 92 [.int 3] (.inl none) (4, [(0, .ref 0), (1, .int 3), (2, .int p1), (3, .int p2)], []) rfl (fun _ => rfl)
      · refine xe_sn pg_92 2 (fr' := (2, [(0, .int 3)], [.int 4, .int 3])) rfl ?_
        apply xe_callq pg_92 95 [.int 3, .int 4] (.inl none) (5, [(0, .int 3)], []) rfl (fun _ => rfl)
        · refine xe_sn pg_95 4 (fr' := (6, [(0, .int 3), (1, .int 4)], [.int 4, .int 3])) rfl ?_
          refine xe_sn pg_95 1 (fr' := (17, [(0, .int 3), (1, .int 4)], [])) rfl ?_
          exact xe_end pg_95 rfl
        exact xe_end pg_92 rfl
      refine xe_sn pg_86 4 (fr' := (10, [(0, .ref 0), (1, .int 3), (2, .int p1), (3, .int p2)], [.int 3, .ref 120, .int p1])) rfl ?_
      refine xe_sn pg_86 2 (fr' := (14, [(0, .ref 0), (1, .int 3), (2, .int p1), (3, .int p2)], [.int 0, .int p1])) rfl ?_
      apply xe_callqx pg_86 95 [.int p1, .int 0] 0 rfl (fun _ => rfl)
      · refine xe_sn pg_95 1 (fr' := (1, [(0, .int p1), (1, .int 0)], [.int p1])) rfl ?_
        refine xe_t1 pg_95 9 rfl rfl (by show (p1).toInt < 0; omega) ?_
        exact xe_end pg_95 rfl
    refine xe_sn pg_173 1 (fr' := (18, [(0, .ref 0), (1, .int 3), (2, .int p1), (3, .int p2), (4, .ref 189)], [.int 1])) rfl ?_
    exact xe_end pg_173 rfl
  refine And.intro ⟨rfl, rfl, rfl, rfl⟩ ?_
  apply And.intro
  · refine xe_sn pg_154 2 (fr' := (2, [(0, .ref 165), (1, .int 3), (2, .int p1), (3, .int p2)], [.int 3, .ref 165])) rfl ?_
    apply xe_callq pg_154 104 [.int 3] (.inl (some (.int 1))) (5, [(0, .ref 165), (1, .int 3), (2, .int p1), (3, .int p2)], [.int 1, .ref 165]) rfl (fun _ => rfl)
    · refine xe_sn pg_104 3 (fr' := (3, [(0, .int 3)], [.int 3, .int 0, .int 3])) rfl ?_
      apply xe_callq pg_104 103 [.int 3, .int 0, .int 3] (.inl (some (.int 1))) (6, [(0, .int 3)], [.int 1]) rfl (fun _ => rfl)
      · refine xe_sn pg_103 4 (fr' := (6, [(0, .int 3), (1, .int 0), (2, .int 3)], [.int 3])) rfl ?_
        refine xe_sn pg_103 4 (fr' := (15, [(0, .int 3), (1, .int 0), (2, .int 3)], [.int 1])) rfl ?_
        exact xe_end pg_103 rfl
      exact xe_end pg_104 rfl
    refine xe_sn pg_154 4 (fr' := (11, [(0, .ref 165), (1, .int 3), (2, .int p1), (3, .int p2)], [.ref 165, .int 0, .int p1, .ref 165])) rfl ?_
    refine xe_sn pg_154 2 (fr' := (15, [(0, .ref 165), (1, .int 3), (2, .int p1), (3, .int p2)], [.int 3, .ref 168, .int 0, .int p1, .ref 165])) rfl ?_
    apply xe_callq pg_154 104 [.int 3] (.inl (some (.int 1))) (18, [(0, .ref 165), (1, .int 3), (2, .int p1), (3, .int p2)], [.int 1, .ref 168, .int 0, .int p1, .ref 165]) rfl (fun _ => rfl)
    · refine xe_sn pg_104 3 (fr' := (3, [(0, .int 3)], [.int 3, .int 0, .int 3])) rfl ?_
      apply xe_callq pg_104 103 [.int 3, .int 0, .int 3] (.inl (some (.int 1))) (6, [(0, .int 3)], [.int 1]) rfl (fun _ => rfl)
      · refine xe_sn pg_103 4 (fr' := (6, [(0, .int 3), (1, .int 0), (2, .int 3)], [.int 3])) rfl ?_
        refine xe_sn pg_103 4 (fr' := (15, [(0, .int 3), (1, .int 0), (2, .int 3)], [.int 1])) rfl ?_
        exact xe_end pg_103 rfl
      exact xe_end pg_104 rfl
    refine xe_sn pg_154 4 (fr' := (27, [(0, .ref 165), (1, .int 3), (2, .int p1), (3, .int p2)], [.int 0, .int 0, .int p1, .ref 165])) rfl ?_
    refine xe_sn pg_154 2 (fr' := (29, [(0, .ref 165), (1, .int 3), (2, .int p1), (3, .int p2)], [.int (-1), .int 0, .int p1, .ref 165])) rfl ?_
    apply xe_callq pg_154 103 [.int p1, .int 0, .int (-1)] (.inl (some (.int 0))) (32, [(0, .ref 165), (1, .int 3), (2, .int p1), (3, .int p2)], [.int 0, .ref 165]) rfl (fun _ => rfl)
    · refine xe_sn pg_103 2 (fr' := (2, [(0, .int p1), (1, .int 0), (2, .int (-1))], [.int 0, .int p1])) rfl ?_
      refine xe_t2 pg_103 14 rfl rfl (by show (p1).toInt < 0; omega) ?_
      refine xe_sn pg_103 1 (fr' := (15, [(0, .int p1), (1, .int 0), (2, .int (-1))], [.int 0])) rfl ?_
      exact xe_end pg_103 rfl
    refine xe_sn pg_154 2 (fr' := (49, [(0, .ref 165), (1, .int 3), (2, .int p1), (3, .int p2)], [.int 0, .ref 165])) rfl ?_
    apply xe_callq pg_154 151 [.ref 165, .int 0] (.inl (some (.int 1))) (52, [(0, .ref 165), (1, .int 3), (2, .int p1), (3, .int p2)], [.int 1]) rfl (fun _ => rfl)
    · refine xe_sn pg_151 4 (fr' := (10, [(0, .ref 165), (1, .int 0)], [.int 1, .ref 165])) rfl ?_
      refine xe_sn pg_151 4 (fr' := (18, [(0, .ref 165), (1, .int 0)], [.int 1])) rfl ?_
      refine xe_sn pg_151 1 (fr' := (22, [(0, .ref 165), (1, .int 0)], [.int 1])) rfl ?_
      exact xe_end pg_151 rfl
    refine xe_sn pg_154 3 (fr' := (74, [(0, .ref 165), (1, .int 3), (2, .int p1), (3, .int p2)], [.int 0])) rfl ?_
    exact xe_end pg_154 rfl
  · exact ⟨⟨rfl, rfl, rfl, rfl⟩, Nat.le_of_ble_eq_true rfl, Nat.le_of_ble_eq_true rfl, rfl, fun q => absurd q (by decide)⟩

set_option maxRecDepth 100000 in
theorem lf_key_9 (xs : Nat → Int32) (p1 : Int32) (p2 : Int32) (a1 : 0 ≤ p1.toInt) : op_ok xs 173 154 [.ref 0, .int 3, .int p1, .int p2, .ref 189] [.ref 165, .int 3, .int p1, .int p2] := by
  refine ⟨1, 0, ?_⟩
  apply Exists.intro
  apply Exists.intro
  apply And.intro
  · refine xe_sn pg_173 4 (fr' := (5, [(0, .ref 0), (1, .int 3), (2, .int p1), (3, .int p2), (4, .ref 189)], [.int 3, .ref 0, .int 0, .ref 189])) rfl ?_
    refine xe_sn pg_173 2 (fr' := (7, [(0, .ref 0), (1, .int 3), (2, .int p1), (3, .int p2), (4, .ref 189)], [.int p2, .int p1, .int 3, .ref 0, .int 0, .ref 189])) rfl ?_
    apply xe_callq pg_173 86 [.ref 0, .int 3, .int p1, .int p2] (.inr 0) (17, [(0, .ref 0), (1, .int 3), (2, .int p1), (3, .int p2), (4, .ref 189)], []) rfl (fun _ => rfl)
    · refine xe_sn pg_86 1 (fr' := (1, [(0, .ref 0), (1, .int 3), (2, .int p1), (3, .int p2)], [.int 3])) rfl ?_
      apply xe_callq pg_86 92 [.int 3] (.inl none) (4, [(0, .ref 0), (1, .int 3), (2, .int p1), (3, .int p2)], []) rfl (fun _ => rfl)
      · refine xe_sn pg_92 2 (fr' := (2, [(0, .int 3)], [.int 4, .int 3])) rfl ?_
        apply xe_callq pg_92 95 [.int 3, .int 4] (.inl none) (5, [(0, .int 3)], []) rfl (fun _ => rfl)
        · refine xe_sn pg_95 4 (fr' := (6, [(0, .int 3), (1, .int 4)], [.int 4, .int 3])) rfl ?_
          refine xe_sn pg_95 1 (fr' := (17, [(0, .int 3), (1, .int 4)], [])) rfl ?_
          exact xe_end pg_95 rfl
        exact xe_end pg_92 rfl
      refine xe_sn pg_86 4 (fr' := (10, [(0, .ref 0), (1, .int 3), (2, .int p1), (3, .int p2)], [.int 3, .ref 120, .int p1])) rfl ?_
      refine xe_sn pg_86 2 (fr' := (14, [(0, .ref 0), (1, .int 3), (2, .int p1), (3, .int p2)], [.int 0, .int p1])) rfl ?_
      apply xe_callqx pg_86 95 [.int p1, .int 0] 0 rfl (fun _ => rfl)
      · refine xe_sn pg_95 1 (fr' := (1, [(0, .int p1), (1, .int 0)], [.int p1])) rfl ?_
        refine xe_f1 pg_95 9 rfl rfl (by show ¬ ((p1).toInt < 0); omega) ?_
        refine xe_sn pg_95 2 (fr' := (6, [(0, .int p1), (1, .int 0)], [.int 0, .int p1])) rfl ?_
        refine xe_f2 pg_95 17 rfl rfl (by show ¬ ((p1).toInt < 0); omega) ?_
        exact xe_end pg_95 rfl
    refine xe_sn pg_173 1 (fr' := (18, [(0, .ref 0), (1, .int 3), (2, .int p1), (3, .int p2), (4, .ref 189)], [.int 1])) rfl ?_
    exact xe_end pg_173 rfl
  refine And.intro ⟨rfl, rfl, rfl, rfl⟩ ?_
  apply And.intro
  · refine xe_sn pg_154 2 (fr' := (2, [(0, .ref 165), (1, .int 3), (2, .int p1), (3, .int p2)], [.int 3, .ref 165])) rfl ?_
    apply xe_callq pg_154 104 [.int 3] (.inl (some (.int 1))) (5, [(0, .ref 165), (1, .int 3), (2, .int p1), (3, .int p2)], [.int 1, .ref 165]) rfl (fun _ => rfl)
    · refine xe_sn pg_104 3 (fr' := (3, [(0, .int 3)], [.int 3, .int 0, .int 3])) rfl ?_
      apply xe_callq pg_104 103 [.int 3, .int 0, .int 3] (.inl (some (.int 1))) (6, [(0, .int 3)], [.int 1]) rfl (fun _ => rfl)
      · refine xe_sn pg_103 4 (fr' := (6, [(0, .int 3), (1, .int 0), (2, .int 3)], [.int 3])) rfl ?_
        refine xe_sn pg_103 4 (fr' := (15, [(0, .int 3), (1, .int 0), (2, .int 3)], [.int 1])) rfl ?_
        exact xe_end pg_103 rfl
      exact xe_end pg_104 rfl
    refine xe_sn pg_154 4 (fr' := (11, [(0, .ref 165), (1, .int 3), (2, .int p1), (3, .int p2)], [.ref 165, .int 0, .int p1, .ref 165])) rfl ?_
    refine xe_sn pg_154 2 (fr' := (15, [(0, .ref 165), (1, .int 3), (2, .int p1), (3, .int p2)], [.int 3, .ref 168, .int 0, .int p1, .ref 165])) rfl ?_
    apply xe_callq pg_154 104 [.int 3] (.inl (some (.int 1))) (18, [(0, .ref 165), (1, .int 3), (2, .int p1), (3, .int p2)], [.int 1, .ref 168, .int 0, .int p1, .ref 165]) rfl (fun _ => rfl)
    · refine xe_sn pg_104 3 (fr' := (3, [(0, .int 3)], [.int 3, .int 0, .int 3])) rfl ?_
      apply xe_callq pg_104 103 [.int 3, .int 0, .int 3] (.inl (some (.int 1))) (6, [(0, .int 3)], [.int 1]) rfl (fun _ => rfl)
      · refine xe_sn pg_103 4 (fr' := (6, [(0, .int 3), (1, .int 0), (2, .int 3)], [.int 3])) rfl ?_
        refine xe_sn pg_103 4 (fr' := (15, [(0, .int 3), (1, .int 0), (2, .int 3)], [.int 1])) rfl ?_
        exact xe_end pg_103 rfl
      exact xe_end pg_104 rfl
    refine xe_sn pg_154 4 (fr' := (27, [(0, .ref 165), (1, .int 3), (2, .int p1), (3, .int p2)], [.int 0, .int 0, .int p1, .ref 165])) rfl ?_
    refine xe_sn pg_154 2 (fr' := (29, [(0, .ref 165), (1, .int 3), (2, .int p1), (3, .int p2)], [.int (-1), .int 0, .int p1, .ref 165])) rfl ?_
    apply xe_callq pg_154 103 [.int p1, .int 0, .int (-1)] (.inl (some (.int 0))) (32, [(0, .ref 165), (1, .int 3), (2, .int p1), (3, .int p2)], [.int 0, .ref 165]) rfl (fun _ => rfl)
    · refine xe_sn pg_103 2 (fr' := (2, [(0, .int p1), (1, .int 0), (2, .int (-1))], [.int 0, .int p1])) rfl ?_
      refine xe_f2 pg_103 14 rfl rfl (by show ¬ ((p1).toInt < 0); omega) ?_
      refine xe_sn pg_103 2 (fr' := (7, [(0, .int p1), (1, .int 0), (2, .int (-1))], [.int (-1), .int p1])) rfl ?_
      refine xe_t2 pg_103 14 rfl rfl (by show -1 < (p1).toInt; omega) ?_
      refine xe_sn pg_103 1 (fr' := (15, [(0, .int p1), (1, .int 0), (2, .int (-1))], [.int 0])) rfl ?_
      exact xe_end pg_103 rfl
    refine xe_sn pg_154 2 (fr' := (49, [(0, .ref 165), (1, .int 3), (2, .int p1), (3, .int p2)], [.int 0, .ref 165])) rfl ?_
    apply xe_callq pg_154 151 [.ref 165, .int 0] (.inl (some (.int 1))) (52, [(0, .ref 165), (1, .int 3), (2, .int p1), (3, .int p2)], [.int 1]) rfl (fun _ => rfl)
    · refine xe_sn pg_151 4 (fr' := (10, [(0, .ref 165), (1, .int 0)], [.int 1, .ref 165])) rfl ?_
      refine xe_sn pg_151 4 (fr' := (18, [(0, .ref 165), (1, .int 0)], [.int 1])) rfl ?_
      refine xe_sn pg_151 1 (fr' := (22, [(0, .ref 165), (1, .int 0)], [.int 1])) rfl ?_
      exact xe_end pg_151 rfl
    refine xe_sn pg_154 3 (fr' := (74, [(0, .ref 165), (1, .int 3), (2, .int p1), (3, .int p2)], [.int 0])) rfl ?_
    exact xe_end pg_154 rfl
  · exact ⟨⟨rfl, rfl, rfl, rfl⟩, Nat.le_of_ble_eq_true rfl, Nat.le_of_ble_eq_true rfl, rfl, fun q => absurd q (by decide)⟩
theorem op_key (xs : Nat → Int32) (p0 p1 p2 : Int32) : op_ok xs 173 154 [.ref 0, .int p0, .int p1, .int p2, .ref 189] [.ref 165, .int p0, .int p1, .int p2] := by
  by_cases a0 : p0.toInt < 0
  · exact lf_key_0 xs p0 p1 p2 a0
  by_cases b0 : 3 < p0.toInt
  · exact lf_key_1 xs p0 p1 p2 b0
  replace a0 : 0 ≤ p0.toInt := by omega
  replace b0 : p0.toInt ≤ 3 := by omega
  rcases (by omega : p0.toInt = 0 ∨ p0.toInt = 1 ∨ p0.toInt = 2 ∨ p0.toInt = 3) with q0 | q0 | q0 | q0
  · obtain rfl : p0 = 0 := Int32.toInt_inj.mp (q0.trans (by decide))
    by_cases a1 : p1.toInt < 0
    · exact lf_key_2 xs p1 p2 a1
    · replace a1 : 0 ≤ p1.toInt := by omega
      exact lf_key_3 xs p1 p2 a1
  · obtain rfl : p0 = 1 := Int32.toInt_inj.mp (q0.trans (by decide))
    by_cases a1 : p1.toInt < 0
    · exact lf_key_4 xs p1 p2 a1
    · replace a1 : 0 ≤ p1.toInt := by omega
      exact lf_key_5 xs p1 p2 a1
  · obtain rfl : p0 = 2 := Int32.toInt_inj.mp (q0.trans (by decide))
    by_cases a1 : p1.toInt < 0
    · exact lf_key_6 xs p1 p2 a1
    · replace a1 : 0 ≤ p1.toInt := by omega
      exact lf_key_7 xs p1 p2 a1
  · obtain rfl : p0 = 3 := Int32.toInt_inj.mp (q0.trans (by decide))
    by_cases a1 : p1.toInt < 0
    · exact lf_key_8 xs p1 p2 a1
    · replace a1 : 0 ≤ p1.toInt := by omega
      exact lf_key_9 xs p1 p2 a1

set_option maxRecDepth 100000 in
theorem lf_data_0 (xs : Nat → Int32) (p0 : Int32) (p1 : Int32) (a0 : p0.toInt < 0) : op_ok xs 175 156 [.ref 0, .int p0, .int p1, .ref 189] [.ref 165, .int p0, .int p1] := by
  refine ⟨1, 0, ?_⟩
  apply Exists.intro
  apply Exists.intro
  apply And.intro
  · refine xe_sn pg_175 4 (fr' := (4, [(0, .ref 0), (1, .int p0), (2, .int p1), (3, .ref 189)], [.int p0, .ref 0, .int 0, .ref 189])) rfl ?_
    refine xe_sn pg_175 1 (fr' := (5, [(0, .ref 0), (1, .int p0), (2, .int p1), (3, .ref 189)], [.int p1, .int p0, .ref 0, .int 0, .ref 189])) rfl ?_
    apply xe_callq pg_175 88 [.ref 0, .int p0, .int p1] (.inr 0) (15, [(0, .ref 0), (1, .int p0), (2, .int p1), (3, .ref 189)], []) rfl (fun _ => rfl)
    · refine xe_sn pg_88 1 (fr' := (1, [(0, .ref 0), (1, .int p0), (2, .int p1)], [.int p0])) rfl ?_
      apply xe_callqx pg_88 92 [.int p0] 0 rfl (fun _ => rfl)
      · refine xe_sn pg_92 2 (fr' := (2, [(0, .int p0)], [.int 4, .int p0])) rfl ?_
        apply xe_callqx pg_92 95 [.int p0, .int 4] 0 rfl (fun _ => rfl)
        · refine xe_sn pg_95 1 (fr' := (1, [(0, .int p0), (1, .int 4)], [.int p0])) rfl ?_
          refine xe_t1 pg_95 9 rfl rfl (by show (p0).toInt < 0; omega) ?_
          exact xe_end pg_95 rfl
    refine xe_sn pg_175 1 (fr' := (16, [(0, .ref 0), (1, .int p0), (2, .int p1), (3, .ref 189)], [.int 1])) rfl ?_
    exact xe_end pg_175 rfl
  refine And.intro ⟨rfl, rfl, rfl, rfl⟩ ?_
  apply And.intro
  · refine xe_sn pg_156 2 (fr' := (2, [(0, .ref 165), (1, .int p0), (2, .int p1)], [.int p0, .ref 165])) rfl ?_
    apply xe_callq pg_156 104 [.int p0] (.inl (some (.int 0))) (5, [(0, .ref 165), (1, .int p0), (2, .int p1)], [.int 0, .ref 165]) rfl (fun _ => rfl)
    · refine xe_sn pg_104 3 (fr' := (3, [(0, .int p0)], [.int 3, .int 0, .int p0])) rfl ?_
      apply xe_callq pg_104 103 [.int p0, .int 0, .int 3] (.inl (some (.int 0))) (6, [(0, .int p0)], [.int 0]) rfl (fun _ => rfl)
      · refine xe_sn pg_103 2 (fr' := (2, [(0, .int p0), (1, .int 0), (2, .int 3)], [.int 0, .int p0])) rfl ?_
        refine xe_t2 pg_103 14 rfl rfl (by show (p0).toInt < 0; omega) ?_
        refine xe_sn pg_103 1 (fr' := (15, [(0, .int p0), (1, .int 0), (2, .int 3)], [.int 0])) rfl ?_
        exact xe_end pg_103 rfl
      exact xe_end pg_104 rfl
    apply xe_callq pg_156 151 [.ref 165, .int 0] (.inl (some (.int 1))) (8, [(0, .ref 165), (1, .int p0), (2, .int p1)], [.int 1]) rfl (fun _ => rfl)
    · refine xe_sn pg_151 4 (fr' := (10, [(0, .ref 165), (1, .int 0)], [.int 1, .ref 165])) rfl ?_
      refine xe_sn pg_151 4 (fr' := (18, [(0, .ref 165), (1, .int 0)], [.int 1])) rfl ?_
      refine xe_sn pg_151 1 (fr' := (22, [(0, .ref 165), (1, .int 0)], [.int 1])) rfl ?_
      exact xe_end pg_151 rfl
    refine xe_sn pg_156 2 (fr' := (12, [(0, .ref 165), (1, .int p0), (2, .int p1)], [.int 0])) rfl ?_
    exact xe_end pg_156 rfl
  · exact ⟨⟨rfl, rfl, rfl, rfl⟩, Nat.le_of_ble_eq_true rfl, Nat.le_of_ble_eq_true rfl, rfl, fun q => absurd q (by decide)⟩

set_option maxRecDepth 100000 in
theorem lf_data_1 (xs : Nat → Int32) (p0 : Int32) (p1 : Int32) (b0 : 3 < p0.toInt) : op_ok xs 175 156 [.ref 0, .int p0, .int p1, .ref 189] [.ref 165, .int p0, .int p1] := by
  refine ⟨1, 0, ?_⟩
  apply Exists.intro
  apply Exists.intro
  apply And.intro
  · refine xe_sn pg_175 4 (fr' := (4, [(0, .ref 0), (1, .int p0), (2, .int p1), (3, .ref 189)], [.int p0, .ref 0, .int 0, .ref 189])) rfl ?_
    refine xe_sn pg_175 1 (fr' := (5, [(0, .ref 0), (1, .int p0), (2, .int p1), (3, .ref 189)], [.int p1, .int p0, .ref 0, .int 0, .ref 189])) rfl ?_
    apply xe_callq pg_175 88 [.ref 0, .int p0, .int p1] (.inr 0) (15, [(0, .ref 0), (1, .int p0), (2, .int p1), (3, .ref 189)], []) rfl (fun _ => rfl)
    · refine xe_sn pg_88 1 (fr' := (1, [(0, .ref 0), (1, .int p0), (2, .int p1)], [.int p0])) rfl ?_
      apply xe_callqx pg_88 92 [.int p0] 0 rfl (fun _ => rfl)
      · refine xe_sn pg_92 2 (fr' := (2, [(0, .int p0)], [.int 4, .int p0])) rfl ?_
        apply xe_callqx pg_92 95 [.int p0, .int 4] 0 rfl (fun _ => rfl)
        · refine xe_sn pg_95 1 (fr' := (1, [(0, .int p0), (1, .int 4)], [.int p0])) rfl ?_
          refine xe_f1 pg_95 9 rfl rfl (by show ¬ ((p0).toInt < 0); omega) ?_
          refine xe_sn pg_95 2 (fr' := (6, [(0, .int p0), (1, .int 4)], [.int 4, .int p0])) rfl ?_
          refine xe_f2 pg_95 17 rfl rfl (by show ¬ ((p0).toInt < 4); omega) ?_
          exact xe_end pg_95 rfl
    refine xe_sn pg_175 1 (fr' := (16, [(0, .ref 0), (1, .int p0), (2, .int p1), (3, .ref 189)], [.int 1])) rfl ?_
    exact xe_end pg_175 rfl
  refine And.intro ⟨rfl, rfl, rfl, rfl⟩ ?_
  apply And.intro
  · refine xe_sn pg_156 2 (fr' := (2, [(0, .ref 165), (1, .int p0), (2, .int p1)], [.int p0, .ref 165])) rfl ?_
    apply xe_callq pg_156 104 [.int p0] (.inl (some (.int 0))) (5, [(0, .ref 165), (1, .int p0), (2, .int p1)], [.int 0, .ref 165]) rfl (fun _ => rfl)
    · refine xe_sn pg_104 3 (fr' := (3, [(0, .int p0)], [.int 3, .int 0, .int p0])) rfl ?_
      apply xe_callq pg_104 103 [.int p0, .int 0, .int 3] (.inl (some (.int 0))) (6, [(0, .int p0)], [.int 0]) rfl (fun _ => rfl)
      · refine xe_sn pg_103 2 (fr' := (2, [(0, .int p0), (1, .int 0), (2, .int 3)], [.int 0, .int p0])) rfl ?_
        refine xe_f2 pg_103 14 rfl rfl (by show ¬ ((p0).toInt < 0); omega) ?_
        refine xe_sn pg_103 2 (fr' := (7, [(0, .int p0), (1, .int 0), (2, .int 3)], [.int 3, .int p0])) rfl ?_
        refine xe_t2 pg_103 14 rfl rfl (by show 3 < (p0).toInt; omega) ?_
        refine xe_sn pg_103 1 (fr' := (15, [(0, .int p0), (1, .int 0), (2, .int 3)], [.int 0])) rfl ?_
        exact xe_end pg_103 rfl
      exact xe_end pg_104 rfl
    apply xe_callq pg_156 151 [.ref 165, .int 0] (.inl (some (.int 1))) (8, [(0, .ref 165), (1, .int p0), (2, .int p1)], [.int 1]) rfl (fun _ => rfl)
    · refine xe_sn pg_151 4 (fr' := (10, [(0, .ref 165), (1, .int 0)], [.int 1, .ref 165])) rfl ?_
      refine xe_sn pg_151 4 (fr' := (18, [(0, .ref 165), (1, .int 0)], [.int 1])) rfl ?_
      refine xe_sn pg_151 1 (fr' := (22, [(0, .ref 165), (1, .int 0)], [.int 1])) rfl ?_
      exact xe_end pg_151 rfl
    refine xe_sn pg_156 2 (fr' := (12, [(0, .ref 165), (1, .int p0), (2, .int p1)], [.int 0])) rfl ?_
    exact xe_end pg_156 rfl
  · exact ⟨⟨rfl, rfl, rfl, rfl⟩, Nat.le_of_ble_eq_true rfl, Nat.le_of_ble_eq_true rfl, rfl, fun q => absurd q (by decide)⟩

set_option maxRecDepth 100000 in
theorem lf_data_2 (xs : Nat → Int32) (p1 : Int32) (a1 : p1.toInt < 0) : op_ok xs 175 156 [.ref 0, .int 0, .int p1, .ref 189] [.ref 165, .int 0, .int p1] := by
  refine ⟨0, (-1), ?_⟩
  apply Exists.intro
  apply Exists.intro
  apply And.intro
  · refine xe_sn pg_175 4 (fr' := (4, [(0, .ref 0), (1, .int 0), (2, .int p1), (3, .ref 189)], [.int 0, .ref 0, .int 0, .ref 189])) rfl ?_
    refine xe_sn pg_175 1 (fr' := (5, [(0, .ref 0), (1, .int 0), (2, .int p1), (3, .ref 189)], [.int p1, .int 0, .ref 0, .int 0, .ref 189])) rfl ?_
    apply xe_callq pg_175 88 [.ref 0, .int 0, .int p1] (.inl (some (.int (-1)))) (8, [(0, .ref 0), (1, .int 0), (2, .int p1), (3, .ref 189)], [.int (-1), .int 0, .ref 189]) rfl (fun _ => rfl)
    · refine xe_sn pg_88 1 (fr' := (1, [(0, .ref 0), (1, .int 0), (2, .int p1)], [.int 0])) rfl ?_
      apply xe_callq pg_88 92 [.int 0] (.inl none) (4, [(0, .ref 0), (1, .int 0), (2, .int p1)], []) rfl (fun _ => rfl)
      · refine xe_sn pg_92 2 (fr' := (2, [(0, .int 0)], [.int 4, .int 0])) rfl ?_
        apply xe_callq pg_92 95 [.int 0, .int 4] (.inl none) (5, [(0, .int 0)], []) rfl (fun _ => rfl)
        · refine xe_sn pg_95 4 (fr' := (6, [(0, .int 0), (1, .int 4)], [.int 4, .int 0])) rfl ?_
          refine xe_sn pg_95 1 (fr' := (17, [(0, .int 0), (1, .int 4)], [])) rfl ?_
          exact xe_end pg_95 rfl
        exact xe_end pg_92 rfl
      refine xe_sn pg_88 4 (fr' := (10, [(0, .ref 0), (1, .int 0), (2, .int p1)], [.ref 121])) rfl ?_
      refine xe_sn pg_88 2 (fr' := (12, [(3, .ref 121), (0, .ref 0), (1, .int 0), (2, .int p1)], [.int p1])) rfl ?_
      refine xe_t1 pg_88 32 rfl rfl (by show (p1).toInt < 0; omega) ?_
      refine xe_sn pg_88 1 (fr' := (33, [(3, .ref 121), (0, .ref 0), (1, .int 0), (2, .int p1)], [.int (-1)])) rfl ?_
      exact xe_end pg_88 rfl
    refine xe_sn pg_175 4 (fr' := (18, [(0, .ref 0), (1, .int 0), (2, .int p1), (3, .ref 189)], [.int 0])) rfl ?_
    exact xe_end pg_175 rfl
  refine And.intro ⟨rfl, rfl, rfl, rfl⟩ ?_
  apply And.intro
  · refine xe_sn pg_156 2 (fr' := (2, [(0, .ref 165), (1, .int 0), (2, .int p1)], [.int 0, .ref 165])) rfl ?_
    apply xe_callq pg_156 104 [.int 0] (.inl (some (.int 1))) (5, [(0, .ref 165), (1, .int 0), (2, .int p1)], [.int 1, .ref 165]) rfl (fun _ => rfl)
    · refine xe_sn pg_104 3 (fr' := (3, [(0, .int 0)], [.int 3, .int 0, .int 0])) rfl ?_
      apply xe_callq pg_104 103 [.int 0, .int 0, .int 3] (.inl (some (.int 1))) (6, [(0, .int 0)], [.int 1]) rfl (fun _ => rfl)
      · refine xe_sn pg_103 4 (fr' := (6, [(0, .int 0), (1, .int 0), (2, .int 3)], [.int 0])) rfl ?_
        refine xe_sn pg_103 4 (fr' := (15, [(0, .int 0), (1, .int 0), (2, .int 3)], [.int 1])) rfl ?_
        exact xe_end pg_103 rfl
      exact xe_end pg_104 rfl
    apply xe_callq pg_156 151 [.ref 165, .int 1] (.inl (some (.int 0))) (8, [(0, .ref 165), (1, .int 0), (2, .int p1)], [.int 0]) rfl (fun _ => rfl)
    · refine xe_sn pg_151 4 (fr' := (6, [(0, .ref 165), (1, .int 1)], [.int 0, .ref 165])) rfl ?_
      refine xe_sn pg_151 4 (fr' := (21, [(0, .ref 165), (1, .int 1)], [])) rfl ?_
      refine xe_sn pg_151 1 (fr' := (22, [(0, .ref 165), (1, .int 1)], [.int 0])) rfl ?_
      exact xe_end pg_151 rfl
    refine xe_sn pg_156 4 (fr' := (16, [(0, .ref 165), (1, .int 0), (2, .int p1)], [.ref 165, .int 0, .int p1])) rfl ?_
    refine xe_sn pg_156 4 (fr' := (22, [(0, .ref 165), (1, .int 0), (2, .int p1)], [.int 1, .int 0, .int 0, .int p1])) rfl ?_
    refine xe_sn pg_156 1 (fr' := (23, [(0, .ref 165), (1, .int 0), (2, .int p1)], [.int (-1), .int 0, .int p1])) rfl ?_
    apply xe_callq pg_156 103 [.int p1, .int 0, .int (-1)] (.inl (some (.int 0))) (26, [(0, .ref 165), (1, .int 0), (2, .int p1)], [.int 0]) rfl (fun _ => rfl)
    · refine xe_sn pg_103 2 (fr' := (2, [(0, .int p1), (1, .int 0), (2, .int (-1))], [.int 0, .int p1])) rfl ?_
      refine xe_t2 pg_103 14 rfl rfl (by show (p1).toInt < 0; omega) ?_
      refine xe_sn pg_103 1 (fr' := (15, [(0, .int p1), (1, .int 0), (2, .int (-1))], [.int 0])) rfl ?_
      exact xe_end pg_103 rfl
    refine xe_sn pg_156 2 (fr' := (44, [(0, .ref 165), (1, .int 0), (2, .int p1)], [.int (-1)])) rfl ?_
    exact xe_end pg_156 rfl
  · exact ⟨⟨rfl, rfl, rfl, rfl⟩, Nat.le_of_ble_eq_true rfl, Nat.le_of_ble_eq_true rfl, rfl, fun _ => rfl⟩

set_option maxRecDepth 100000 in
theorem lf_data_3 (xs : Nat → Int32) (p1 : Int32) (a1 : 0 ≤ p1.toInt) : op_ok xs 175 156 [.ref 0, .int 0, .int p1, .ref 189] [.ref 165, .int 0, .int p1] := by
  refine ⟨0, (-1), ?_⟩
  apply Exists.intro
  apply Exists.intro
  apply And.intro
  · refine xe_sn pg_175 4 (fr' := (4, [(0, .ref 0), (1, .int 0), (2, .int p1), (3, .ref 189)], [.int 0, .ref 0, .int 0, .ref 189])) rfl ?_
    refine xe_sn pg_175 1 (fr' := (5, [(0, .ref 0), (1, .int 0), (2, .int p1), (3, .ref 189)], [.int p1, .int 0, .ref 0, .int 0, .ref 189])) rfl ?_
    apply xe_callq pg_175 88 [.ref 0, .int 0, .int p1] (.inl (some (.int (-1)))) (8, [(0, .ref 0), (1, .int 0), (2, .int p1), (3, .ref 189)], [.int (-1), .int 0, .ref 189]) rfl (fun _ => rfl)
    · refine xe_sn pg_88 1 (fr' := (1, [(0, .ref 0), (1, .int 0), (2, .int p1)], [.int 0])) rfl ?_
      apply xe_callq pg_88 92 [.int 0] (.inl none) (4, [(0, .ref 0), (1, .int 0), (2, .int p1)], []) rfl (fun _ => rfl)
      · refine xe_sn pg_92 2 (fr' := (2, [(0, .int 0)], [.int 4, .int 0])) rfl ?_
        apply xe_callq pg_92 95 [.int 0, .int 4] (.inl none) (5, [(0, .int 0)], []) rfl (fun _ => rfl)
        · refine xe_sn pg_95 4 (fr' := (6, [(0, .int 0), (1, .int 4)], [.int 4, .int 0])) rfl ?_
          refine xe_sn pg_95 1 (fr' := (17, [(0, .int 0), (1, .int 4)], [])) rfl ?_
          exact xe_end pg_95 rfl
        exact xe_end pg_92 rfl
      refine xe_sn pg_88 4 (fr' := (10, [(0, .ref 0), (1, .int 0), (2, .int p1)], [.ref 121])) rfl ?_
      refine xe_sn pg_88 2 (fr' := (12, [(3, .ref 121), (0, .ref 0), (1, .int 0), (2, .int p1)], [.int p1])) rfl ?_
      refine xe_f1 pg_88 32 rfl rfl (by show ¬ ((p1).toInt < 0); omega) ?_
      refine xe_sn pg_88 3 (fr' := (20, [(3, .ref 121), (0, .ref 0), (1, .int 0), (2, .int p1)], [.int 0, .int p1])) rfl ?_
      refine xe_t2 pg_88 32 rfl rfl (by show 0 ≤ (p1).toInt; omega) ?_
      refine xe_sn pg_88 1 (fr' := (33, [(3, .ref 121), (0, .ref 0), (1, .int 0), (2, .int p1)], [.int (-1)])) rfl ?_
      exact xe_end pg_88 rfl
    refine xe_sn pg_175 4 (fr' := (18, [(0, .ref 0), (1, .int 0), (2, .int p1), (3, .ref 189)], [.int 0])) rfl ?_
    exact xe_end pg_175 rfl
  refine And.intro ⟨rfl, rfl, rfl, rfl⟩ ?_
  apply And.intro
  · refine xe_sn pg_156 2 (fr' := (2, [(0, .ref 165), (1, .int 0), (2, .int p1)], [.int 0, .ref 165])) rfl ?_
    apply xe_callq pg_156 104 [.int 0] (.inl (some (.int 1))) (5, [(0, .ref 165), (1, .int 0), (2, .int p1)], [.int 1, .ref 165]) rfl (fun _ => rfl)
    · refine xe_sn pg_104 3 (fr' := (3, [(0, .int 0)], [.int 3, .int 0, .int 0])) rfl ?_
      apply xe_callq pg_104 103 [.int 0, .int 0, .int 3] (.inl (some (.int 1))) (6, [(0, .int 0)], [.int 1]) rfl (fun _ => rfl)
      · refine xe_sn pg_103 4 (fr' := (6, [(0, .int 0), (1, .int 0), (2, .int 3)], [.int 0])) rfl ?_
        refine xe_sn pg_103 4 (fr' := (15, [(0, .int 0), (1, .int 0), (2, .int 3)], [.int 1])) rfl ?_
        exact xe_end pg_103 rfl
      exact xe_end pg_104 rfl
    apply xe_callq pg_156 151 [.ref 165, .int 1] (.inl (some (.int 0))) (8, [(0, .ref 165), (1, .int 0), (2, .int p1)], [.int 0]) rfl (fun _ => rfl)
    · refine xe_sn pg_151 4 (fr' := (6, [(0, .ref 165), (1, .int 1)], [.int 0, .ref 165])) rfl ?_
      refine xe_sn pg_151 4 (fr' := (21, [(0, .ref 165), (1, .int 1)], [])) rfl ?_
      refine xe_sn pg_151 1 (fr' := (22, [(0, .ref 165), (1, .int 1)], [.int 0])) rfl ?_
      exact xe_end pg_151 rfl
    refine xe_sn pg_156 4 (fr' := (16, [(0, .ref 165), (1, .int 0), (2, .int p1)], [.ref 165, .int 0, .int p1])) rfl ?_
    refine xe_sn pg_156 4 (fr' := (22, [(0, .ref 165), (1, .int 0), (2, .int p1)], [.int 1, .int 0, .int 0, .int p1])) rfl ?_
    refine xe_sn pg_156 1 (fr' := (23, [(0, .ref 165), (1, .int 0), (2, .int p1)], [.int (-1), .int 0, .int p1])) rfl ?_
    apply xe_callq pg_156 103 [.int p1, .int 0, .int (-1)] (.inl (some (.int 0))) (26, [(0, .ref 165), (1, .int 0), (2, .int p1)], [.int 0]) rfl (fun _ => rfl)
    · refine xe_sn pg_103 2 (fr' := (2, [(0, .int p1), (1, .int 0), (2, .int (-1))], [.int 0, .int p1])) rfl ?_
      refine xe_f2 pg_103 14 rfl rfl (by show ¬ ((p1).toInt < 0); omega) ?_
      refine xe_sn pg_103 2 (fr' := (7, [(0, .int p1), (1, .int 0), (2, .int (-1))], [.int (-1), .int p1])) rfl ?_
      refine xe_t2 pg_103 14 rfl rfl (by show -1 < (p1).toInt; omega) ?_
      refine xe_sn pg_103 1 (fr' := (15, [(0, .int p1), (1, .int 0), (2, .int (-1))], [.int 0])) rfl ?_
      exact xe_end pg_103 rfl
    refine xe_sn pg_156 2 (fr' := (44, [(0, .ref 165), (1, .int 0), (2, .int p1)], [.int (-1)])) rfl ?_
    exact xe_end pg_156 rfl
  · exact ⟨⟨rfl, rfl, rfl, rfl⟩, Nat.le_of_ble_eq_true rfl, Nat.le_of_ble_eq_true rfl, rfl, fun _ => rfl⟩

set_option maxRecDepth 100000 in
theorem lf_data_4 (xs : Nat → Int32) (p1 : Int32) (a1 : p1.toInt < 0) : op_ok xs 175 156 [.ref 0, .int 1, .int p1, .ref 189] [.ref 165, .int 1, .int p1] := by
  refine ⟨0, (-1), ?_⟩
  apply Exists.intro
  apply Exists.intro
  apply And.intro
  · refine xe_sn pg_175 4 (fr' := (4, [(0, .ref 0), (1, .int 1), (2, .int p1), (3, .ref 189)], [.int 1, .ref 0, .int 0, .ref 189])) rfl ?_
    refine xe_sn pg_175 1 (fr' := (5, [(0, .ref 0), (1, .int 1), (2, .int p1), (3, .ref 189)], [.int p1, .int 1, .ref 0, .int 0, .ref 189])) rfl ?_
    apply xe_callq pg_175 88 [.ref 0, .int 1, .int p1] (.inl (some (.int (-1)))) (8, [(0, .ref 0), (1, .int 1), (2, .int p1), (3, .ref 189)], [.int (-1), .int 0, .ref 189]) rfl (fun _ => rfl)
    · refine xe_sn pg_88 1 (fr' := (1, [(0, .ref 0), (1, .int 1), (2, .int p1)], [.int 1])) rfl ?_
      apply xe_callq pg_88 92 [.int 1] (.inl none) (4, [(0, .ref 0), (1, .int 1), (2, .int p1)], []) rfl (fun _ => rfl)
      · refine xe_sn pg_92 2 (fr' := (2, [(0, .int 1)], [.int 4, .int 1])) rfl ?_
        apply xe_callq pg_92 95 [.int 1, .int 4] (.inl none) (5, [(0, .int 1)], []) rfl (fun _ => rfl)
        · refine xe_sn pg_95 4 (fr' := (6, [(0, .int 1), (1, .int 4)], [.int 4, .int 1])) rfl ?_
          refine xe_sn pg_95 1 (fr' := (17, [(0, .int 1), (1, .int 4)], [])) rfl ?_
          exact xe_end pg_95 rfl
        exact xe_end pg_92 rfl
      refine xe_sn pg_88 4 (fr' := (10, [(0, .ref 0), (1, .int 1), (2, .int p1)], [.ref 132])) rfl ?_
      refine xe_sn pg_88 2 (fr' := (12, [(3, .ref 132), (0, .ref 0), (1, .int 1), (2, .int p1)], [.int p1])) rfl ?_
      refine xe_t1 pg_88 32 rfl rfl (by show (p1).toInt < 0; omega) ?_
      refine xe_sn pg_88 1 (fr' := (33, [(3, .ref 132), (0, .ref 0), (1, .int 1), (2, .int p1)], [.int (-1)])) rfl ?_
      exact xe_end pg_88 rfl
    refine xe_sn pg_175 4 (fr' := (18, [(0, .ref 0), (1, .int 1), (2, .int p1), (3, .ref 189)], [.int 0])) rfl ?_
    exact xe_end pg_175 rfl
  refine And.intro ⟨rfl, rfl, rfl, rfl⟩ ?_
  apply And.intro
  · refine xe_sn pg_156 2 (fr' := (2, [(0, .ref 165), (1, .int 1), (2, .int p1)], [.int 1, .ref 165])) rfl ?_
    apply xe_callq pg_156 104 [.int 1] (.inl (some (.int 1))) (5, [(0, .ref 165), (1, .int 1), (2, .int p1)], [.int 1, .ref 165]) rfl (fun _ => rfl)
    · refine xe_sn pg_104 3 (fr' := (3, [(0, .int 1)], [.int 3, .int 0, .int 1])) rfl ?_
      apply xe_callq pg_104 103 [.int 1, .int 0, .int 3] (.inl (some (.int 1))) (6, [(0, .int 1)], [.int 1]) rfl (fun _ => rfl)
      · refine xe_sn pg_103 4 (fr' := (6, [(0, .int 1), (1, .int 0), (2, .int 3)], [.int 1])) rfl ?_
        refine xe_sn pg_103 4 (fr' := (15, [(0, .int 1), (1, .int 0), (2, .int 3)], [.int 1])) rfl ?_
        exact xe_end pg_103 rfl
      exact xe_end pg_104 rfl
    apply xe_callq pg_156 151 [.ref 165, .int 1] (.inl (some (.int 0))) (8, [(0, .ref 165), (1, .int 1), (2, .int p1)], [.int 0]) rfl (fun _ => rfl)
    · refine xe_sn pg_151 4 (fr' := (6, [(0, .ref 165), (1, .int 1)], [.int 0, .ref 165])) rfl ?_
      refine xe_sn pg_151 4 (fr' := (21, [(0, .ref 165), (1, .int 1)], [])) rfl ?_
      refine xe_sn pg_151 1 (fr' := (22, [(0, .ref 165), (1, .int 1)], [.int 0])) rfl ?_
      exact xe_end pg_151 rfl
    refine xe_sn pg_156 4 (fr' := (16, [(0, .ref 165), (1, .int 1), (2, .int p1)], [.ref 165, .int 0, .int p1])) rfl ?_
    refine xe_sn pg_156 4 (fr' := (22, [(0, .ref 165), (1, .int 1), (2, .int p1)], [.int 1, .int 0, .int 0, .int p1])) rfl ?_
    refine xe_sn pg_156 1 (fr' := (23, [(0, .ref 165), (1, .int 1), (2, .int p1)], [.int (-1), .int 0, .int p1])) rfl ?_
    apply xe_callq pg_156 103 [.int p1, .int 0, .int (-1)] (.inl (some (.int 0))) (26, [(0, .ref 165), (1, .int 1), (2, .int p1)], [.int 0]) rfl (fun _ => rfl)
    · refine xe_sn pg_103 2 (fr' := (2, [(0, .int p1), (1, .int 0), (2, .int (-1))], [.int 0, .int p1])) rfl ?_
      refine xe_t2 pg_103 14 rfl rfl (by show (p1).toInt < 0; omega) ?_
      refine xe_sn pg_103 1 (fr' := (15, [(0, .int p1), (1, .int 0), (2, .int (-1))], [.int 0])) rfl ?_
      exact xe_end pg_103 rfl
    refine xe_sn pg_156 2 (fr' := (44, [(0, .ref 165), (1, .int 1), (2, .int p1)], [.int (-1)])) rfl ?_
    exact xe_end pg_156 rfl
  · exact ⟨⟨rfl, rfl, rfl, rfl⟩, Nat.le_of_ble_eq_true rfl, Nat.le_of_ble_eq_true rfl, rfl, fun _ => rfl⟩

set_option maxRecDepth 100000 in
theorem lf_data_5 (xs : Nat → Int32) (p1 : Int32) (a1 : 0 ≤ p1.toInt) : op_ok xs 175 156 [.ref 0, .int 1, .int p1, .ref 189] [.ref 165, .int 1, .int p1] := by
  refine ⟨0, (-1), ?_⟩
  apply Exists.intro
  apply Exists.intro
  apply And.intro
  · refine xe_sn pg_175 4 (fr' := (4, [(0, .ref 0), (1, .int 1), (2, .int p1), (3, .ref 189)], [.int 1, .ref 0, .int 0, .ref 189])) rfl ?_
    refine xe_sn pg_175 1 (fr' := (5, [(0, .ref 0), (1, .int 1), (2, .int p1), (3, .ref 189)], [.int p1, .int 1, .ref 0, .int 0, .ref 189])) rfl ?_
    apply xe_callq pg_175 88 [.ref 0, .int 1, .int p1] (.inl (some (.int (-1)))) (8, [(0, .ref 0), (1, .int 1), (2, .int p1), (3, .ref 189)], [.int (-1), .int 0, .ref 189]) rfl (fun _ => rfl)
    · refine xe_sn pg_88 1 (fr' := (1, [(0, .ref 0), (1, .int 1), (2, .int p1)], [.int 1])) rfl ?_
      apply xe_callq pg_88 92 [.int 1] (.inl none) (4, [(0, .ref 0), (1, .int 1), (2, .int p1)], []) rfl (fun _ => rfl)
      · refine xe_sn pg_92 2 (fr' := (2, [(0, .int 1)], [.int 4, .int 1])) rfl ?_
        apply xe_callq pg_92 95 [.int 1, .int 4] (.inl none) (5, [(0, .int 1)], []) rfl (fun _ => rfl)
        · refine xe_sn pg_95 4 (fr' := (6, [(0, .int 1), (1, .int 4)], [.int 4, .int 1])) rfl ?_
          refine xe_sn pg_95 1 (fr' := (17, [(0, .int 1), (1, .int 4)], [])) rfl ?_
          exact xe_end pg_95 rfl
        exact xe_end pg_92 rfl
      refine xe_sn pg_88 4 (fr' := (10, [(0, .ref 0), (1, .int 1), (2, .int p1)], [.ref 132])) rfl ?_
      refine xe_sn pg_88 2 (fr' := (12, [(3, .ref 132), (0, .ref 0), (1, .int 1), (2, .int p1)], [.int p1])) rfl ?_
      refine xe_f1 pg_88 32 rfl rfl (by show ¬ ((p1).toInt < 0); omega) ?_
      refine xe_sn pg_88 3 (fr' := (20, [(3, .ref 132), (0, .ref 0), (1, .int 1), (2, .int p1)], [.int 0, .int p1])) rfl ?_
      refine xe_t2 pg_88 32 rfl rfl (by show 0 ≤ (p1).toInt; omega) ?_
      refine xe_sn pg_88 1 (fr' := (33, [(3, .ref 132), (0, .ref 0), (1, .int 1), (2, .int p1)], [.int (-1)])) rfl ?_
      exact xe_end pg_88 rfl
    refine xe_sn pg_175 4 (fr' := (18, [(0, .ref 0), (1, .int 1), (2, .int p1), (3, .ref 189)], [.int 0])) rfl ?_
    exact xe_end pg_175 rfl
  refine And.intro ⟨rfl, rfl, rfl, rfl⟩ ?_
  apply And.intro
  · refine xe_sn pg_156 2 (fr' := (2, [(0, .ref 165), (1, .int 1), (2, .int p1)], [.int 1, .ref 165])) rfl ?_
    apply xe_callq pg_156 104 [.int 1] (.inl (some (.int 1))) (5, [(0, .ref 165), (1, .int 1), (2, .int p1)], [.int 1, .ref 165]) rfl (fun _ => rfl)
    · refine xe_sn pg_104 3 (fr' := (3, [(0, .int 1)], [.int 3, .int 0, .int 1])) rfl ?_
      apply xe_callq pg_104 103 [.int 1, .int 0, .int 3] (.inl (some (.int 1))) (6, [(0, .int 1)], [.int 1]) rfl (fun _ => rfl)
      · refine xe_sn pg_103 4 (fr' := (6, [(0, .int 1), (1, .int 0), (2, .int 3)], [.int 1])) rfl ?_
        refine xe_sn pg_103 4 (fr' := (15, [(0, .int 1), (1, .int 0), (2, .int 3)], [.int 1])) rfl ?_
        exact xe_end pg_103 rfl
      exact xe_end pg_104 rfl
    apply xe_callq pg_156 151 [.ref 165, .int 1] (.inl (some (.int 0))) (8, [(0, .ref 165), (1, .int 1), (2, .int p1)], [.int 0]) rfl (fun _ => rfl)
    · refine xe_sn pg_151 4 (fr' := (6, [(0, .ref 165), (1, .int 1)], [.int 0, .ref 165])) rfl ?_
      refine xe_sn pg_151 4 (fr' := (21, [(0, .ref 165), (1, .int 1)], [])) rfl ?_
      refine xe_sn pg_151 1 (fr' := (22, [(0, .ref 165), (1, .int 1)], [.int 0])) rfl ?_
      exact xe_end pg_151 rfl
    refine xe_sn pg_156 4 (fr' := (16, [(0, .ref 165), (1, .int 1), (2, .int p1)], [.ref 165, .int 0, .int p1])) rfl ?_
    refine xe_sn pg_156 4 (fr' := (22, [(0, .ref 165), (1, .int 1), (2, .int p1)], [.int 1, .int 0, .int 0, .int p1])) rfl ?_
    refine xe_sn pg_156 1 (fr' := (23, [(0, .ref 165), (1, .int 1), (2, .int p1)], [.int (-1), .int 0, .int p1])) rfl ?_
    apply xe_callq pg_156 103 [.int p1, .int 0, .int (-1)] (.inl (some (.int 0))) (26, [(0, .ref 165), (1, .int 1), (2, .int p1)], [.int 0]) rfl (fun _ => rfl)
    · refine xe_sn pg_103 2 (fr' := (2, [(0, .int p1), (1, .int 0), (2, .int (-1))], [.int 0, .int p1])) rfl ?_
      refine xe_f2 pg_103 14 rfl rfl (by show ¬ ((p1).toInt < 0); omega) ?_
      refine xe_sn pg_103 2 (fr' := (7, [(0, .int p1), (1, .int 0), (2, .int (-1))], [.int (-1), .int p1])) rfl ?_
      refine xe_t2 pg_103 14 rfl rfl (by show -1 < (p1).toInt; omega) ?_
      refine xe_sn pg_103 1 (fr' := (15, [(0, .int p1), (1, .int 0), (2, .int (-1))], [.int 0])) rfl ?_
      exact xe_end pg_103 rfl
    refine xe_sn pg_156 2 (fr' := (44, [(0, .ref 165), (1, .int 1), (2, .int p1)], [.int (-1)])) rfl ?_
    exact xe_end pg_156 rfl
  · exact ⟨⟨rfl, rfl, rfl, rfl⟩, Nat.le_of_ble_eq_true rfl, Nat.le_of_ble_eq_true rfl, rfl, fun _ => rfl⟩

set_option maxRecDepth 100000 in
theorem lf_data_6 (xs : Nat → Int32) (p1 : Int32) (a1 : p1.toInt < 0) : op_ok xs 175 156 [.ref 0, .int 2, .int p1, .ref 189] [.ref 165, .int 2, .int p1] := by
  refine ⟨0, (-1), ?_⟩
  apply Exists.intro
  apply Exists.intro
  apply And.intro
  · refine xe_sn pg_175 4 (fr' := (4, [(0, .ref 0), (1, .int 2), (2, .int p1), (3, .ref 189)], [.int 2, .ref 0, .int 0, .ref 189])) rfl ?_
    refine xe_sn pg_175 1 (fr' := (5, [(0, .ref 0), (1, .int 2), (2, .int p1), (3, .ref 189)], [.int p1, .int 2, .ref 0, .int 0, .ref 189])) rfl ?_
    apply xe_callq pg_175 88 [.ref 0, .int 2, .int p1] (.inl (some (.int (-1)))) (8, [(0, .ref 0), (1, .int 2), (2, .int p1), (3, .ref 189)], [.int (-1), .int 0, .ref 189]) rfl (fun _ => rfl)
    · refine xe_sn pg_88 1 (fr' := (1, [(0, .ref 0), (1, .int 2), (2, .int p1)], [.int 2])) rfl ?_
      apply xe_callq pg_88 92 [.int 2] (.inl none) (4, [(0, .ref 0), (1, .int 2), (2, .int p1)], []) rfl (fun _ => rfl)
      · refine xe_sn pg_92 2 (fr' := (2, [(0, .int 2)], [.int 4, .int 2])) rfl ?_
        apply xe_callq pg_92 95 [.int 2, .int 4] (.inl none) (5, [(0, .int 2)], []) rfl (fun _ => rfl)
        · refine xe_sn pg_95 4 (fr' := (6, [(0, .int 2), (1, .int 4)], [.int 4, .int 2])) rfl ?_
          refine xe_sn pg_95 1 (fr' := (17, [(0, .int 2), (1, .int 4)], [])) rfl ?_
          exact xe_end pg_95 rfl
        exact xe_end pg_92 rfl
      refine xe_sn pg_88 4 (fr' := (10, [(0, .ref 0), (1, .int 2), (2, .int p1)], [.ref 143])) rfl ?_
      refine xe_sn pg_88 2 (fr' := (12, [(3, .ref 143), (0, .ref 0), (1, .int 2), (2, .int p1)], [.int p1])) rfl ?_
      refine xe_t1 pg_88 32 rfl rfl (by show (p1).toInt < 0; omega) ?_
      refine xe_sn pg_88 1 (fr' := (33, [(3, .ref 143), (0, .ref 0), (1, .int 2), (2, .int p1)], [.int (-1)])) rfl ?_
      exact xe_end pg_88 rfl
    refine xe_sn pg_175 4 (fr' := (18, [(0, .ref 0), (1, .int 2), (2, .int p1), (3, .ref 189)], [.int 0])) rfl ?_
    exact xe_end pg_175 rfl
  refine And.intro ⟨rfl, rfl, rfl, rfl⟩ ?_
  apply And.intro
  · refine xe_sn pg_156 2 (fr' := (2, [(0, .ref 165), (1, .int 2), (2, .int p1)], [.int 2, .ref 165])) rfl ?_
    apply xe_callq pg_156 104 [.int 2] (.inl (some (.int 1))) (5, [(0, .ref 165), (1, .int 2), (2, .int p1)], [.int 1, .ref 165]) rfl (fun _ => rfl)
    · refine xe_sn pg_104 3 (fr' := (3, [(0, .int 2)], [.int 3, .int 0, .int 2])) rfl ?_
      apply xe_callq pg_104 103 [.int 2, .int 0, .int 3] (.inl (some (.int 1))) (6, [(0, .int 2)], [.int 1]) rfl (fun _ => rfl)
      · refine xe_sn pg_103 4 (fr' := (6, [(0, .int 2), (1, .int 0), (2, .int 3)], [.int 2])) rfl ?_
        refine xe_sn pg_103 4 (fr' := (15, [(0, .int 2), (1, .int 0), (2, .int 3)], [.int 1])) rfl ?_
        exact xe_end pg_103 rfl
      exact xe_end pg_104 rfl
    apply xe_callq pg_156 151 [.ref 165, .int 1] (.inl (some (.int 0))) (8, [(0, .ref 165), (1, .int 2), (2, .int p1)], [.int 0]) rfl (fun _ => rfl)
    · refine xe_sn pg_151 4 (fr' := (6, [(0, .ref 165), (1, .int 1)], [.int 0, .ref 165])) rfl ?_
      refine xe_sn pg_151 4 (fr' := (21, [(0, .ref 165), (1, .int 1)], [])) rfl ?_
      refine xe_sn pg_151 1 (fr' := (22, [(0, .ref 165), (1, .int 1)], [.int 0])) rfl ?_
      exact xe_end pg_151 rfl
    refine xe_sn pg_156 4 (fr' := (16, [(0, .ref 165), (1, .int 2), (2, .int p1)], [.ref 165, .int 0, .int p1])) rfl ?_
    refine xe_sn pg_156 4 (fr' := (22, [(0, .ref 165), (1, .int 2), (2, .int p1)], [.int 1, .int 0, .int 0, .int p1])) rfl ?_
    refine xe_sn pg_156 1 (fr' := (23, [(0, .ref 165), (1, .int 2), (2, .int p1)], [.int (-1), .int 0, .int p1])) rfl ?_
    apply xe_callq pg_156 103 [.int p1, .int 0, .int (-1)] (.inl (some (.int 0))) (26, [(0, .ref 165), (1, .int 2), (2, .int p1)], [.int 0]) rfl (fun _ => rfl)
    · refine xe_sn pg_103 2 (fr' := (2, [(0, .int p1), (1, .int 0), (2, .int (-1))], [.int 0, .int p1])) rfl ?_
      refine xe_t2 pg_103 14 rfl rfl (by show (p1).toInt < 0; omega) ?_
      refine xe_sn pg_103 1 (fr' := (15, [(0, .int p1), (1, .int 0), (2, .int (-1))], [.int 0])) rfl ?_
      exact xe_end pg_103 rfl
    refine xe_sn pg_156 2 (fr' := (44, [(0, .ref 165), (1, .int 2), (2, .int p1)], [.int (-1)])) rfl ?_
    exact xe_end pg_156 rfl
  · exact ⟨⟨rfl, rfl, rfl, rfl⟩, Nat.le_of_ble_eq_true rfl, Nat.le_of_ble_eq_true rfl, rfl, fun _ => rfl⟩

set_option maxRecDepth 100000 in
theorem lf_data_7 (xs : Nat → Int32) (p1 : Int32) (a1 : 0 ≤ p1.toInt) : op_ok xs 175 156 [.ref 0, .int 2, .int p1, .ref 189] [.ref 165, .int 2, .int p1] := by
  refine ⟨0, (-1), ?_⟩
  apply Exists.intro
  apply Exists.intro
  apply And.intro
  · refine xe_sn pg_175 4 (fr' := (4, [(0, .ref 0), (1, .int 2), (2, .int p1), (3, .ref 189)], [.int 2, .ref 0, .int 0, .ref 189])) rfl ?_
    refine xe_sn pg_175 1 (fr' := (5, [(0, .ref 0), (1, .int 2), (2, .int p1), (3, .ref 189)], [.int p1, .int 2, .ref 0, .int 0, .ref 189])) rfl ?_
    apply xe_callq pg_175 88 [.ref 0, .int 2, .int p1] (.inl (some (.int (-1)))) (8, [(0, .ref 0), (1, .int 2), (2, .int p1), (3, .ref 189)], [.int (-1), .int 0, .ref 189]) rfl (fun _ => rfl)
    · refine xe_sn pg_88 1 (fr' := (1, [(0, .ref 0), (1, .int 2), (2, .int p1)], [.int 2])) rfl ?_
      apply xe_callq pg_88 92 [.int 2] (.inl none) (4, [(0, .ref 0), (1, .int 2), (2, .int p1)], []) rfl (fun _ => rfl)
      · refine xe_sn pg_92 2 (fr' := (2, [(0, .int 2)], [.int 4, .int 2])) rfl ?_
        apply xe_callq pg_92 95 [.int 2, .int 4] (.inl none) (5, [(0, .int 2)], []) rfl (fun _ => rfl)
        · refine xe_sn pg_95 4 (fr' := (6, [(0, .int 2), (1, .int 4)], [.int 4, .int 2])) rfl ?_
          refine xe_sn pg_95 1 (fr' := (17, [(0, .int 2), (1, .int 4)], [])) rfl ?_
          exact xe_end pg_95 rfl
        exact xe_end pg_92 rfl
      refine xe_sn pg_88 4 (fr' := (10, [(0, .ref 0), (1, .int 2), (2, .int p1)], [.ref 143])) rfl ?_
      refine xe_sn pg_88 2 (fr' := (12, [(3, .ref 143), (0, .ref 0), (1, .int 2), (2, .int p1)], [.int p1])) rfl ?_
      refine xe_f1 pg_88 32 rfl rfl (by show ¬ ((p1).toInt < 0); omega) ?_
      refine xe_sn pg_88 3 (fr' := (20, [(3, .ref 143), (0, .ref 0), (1, .int 2), (2, .int p1)], [.int 0, .int p1])) rfl ?_
      refine xe_t2 pg_88 32 rfl rfl (by show 0 ≤ (p1).toInt; omega) ?_
      refine xe_sn pg_88 1 (fr' := (33, [(3, .ref 143), (0, .ref 0), (1, .int 2), (2, .int p1)], [.int (-1)])) rfl ?_
      exact xe_end pg_88 rfl
    refine xe_sn pg_175 4 (fr' := (18, [(0, .ref 0), (1, .int 2), (2, .int p1), (3, .ref 189)], [.int 0])) rfl ?_
    exact xe_end pg_175 rfl
  refine And.intro ⟨rfl, rfl, rfl, rfl⟩ ?_
  apply And.intro
  · refine xe_sn pg_156 2 (fr' := (2, [(0, .ref 165), (1, .int 2), (2, .int p1)], [.int 2, .ref 165])) rfl ?_
    apply xe_callq pg_156 104 [.int 2] (.inl (some (.int 1))) (5, [(0, .ref 165), (1, .int 2), (2, .int p1)], [.int 1, .ref 165]) rfl (fun _ => rfl)
    · refine xe_sn pg_104 3 (fr' := (3, [(0, .int 2)], [.int 3, .int 0, .int 2])) rfl ?_
      apply xe_callq pg_104 103 [.int 2, .int 0, .int 3] (.inl (some (.int 1))) (6, [(0, .int 2)], [.int 1]) rfl (fun _ => rfl)
      · refine xe_sn pg_103 4 (fr' := (6, [(0, .int 2), (1, .int 0), (2, .int 3)], [.int 2])) rfl ?_
        refine xe_sn pg_103 4 (fr' := (15, [(0, .int 2), (1, .int 0), (2, .int 3)], [.int 1])) rfl ?_
        exact xe_end pg_103 rfl
      exact xe_end pg_104 rfl
    apply xe_callq pg_156 151 [.ref 165, .int 1] (.inl (some (.int 0))) (8, [(0, .ref 165), (1, .int 2), (2, .int p1)], [.int 0]) rfl (fun _ => rfl)
    · refine xe_sn pg_151 4 (fr' := (6, [(0, .ref 165), (1, .int 1)], [.int 0, .ref 165])) rfl ?_
      refine xe_sn pg_151 4 (fr' := (21, [(0, .ref 165), (1, .int 1)], [])) rfl ?_
      refine xe_sn pg_151 1 (fr' := (22, [(0, .ref 165), (1, .int 1)], [.int 0])) rfl ?_
      exact xe_end pg_151 rfl
    refine xe_sn pg_156 4 (fr' := (16, [(0, .ref 165), (1, .int 2), (2, .int p1)], [.ref 165, .int 0, .int p1])) rfl ?_
    refine xe_sn pg_156 4 (fr' := (22, [(0, .ref 165), (1, .int 2), (2, .int p1)], [.int 1, .int 0, .int 0, .int p1])) rfl ?_
    refine xe_sn pg_156 1 (fr' := (23, [(0, .ref 165), (1, .int 2), (2, .int p1)], [.int (-1), .int 0, .int p1])) rfl ?_
    apply xe_callq pg_156 103 [.int p1, .int 0, .int (-1)] (.inl (some (.int 0))) (26, [(0, .ref 165), (1, .int 2), (2, .int p1)], [.int 0]) rfl (fun _ => rfl)
    · refine xe_sn pg_103 2 (fr' := (2, [(0, .int p1), (1, .int 0), (2, .int (-1))], [.int 0, .int p1])) rfl ?_
      refine xe_f2 pg_103 14 rfl rfl (by show ¬ ((p1).toInt < 0); omega) ?_
      refine xe_sn pg_103 2 (fr' := (7, [(0, .int p1), (1, .int 0), (2, .int (-1))], [.int (-1), .int p1])) rfl ?_
      refine xe_t2 pg_103 14 rfl rfl (by show -1 < (p1).toInt; omega) ?_
      refine xe_sn pg_103 1 (fr' := (15, [(0, .int p1), (1, .int 0), (2, .int (-1))], [.int 0])) rfl ?_
      exact xe_end pg_103 rfl
    refine xe_sn pg_156 2 (fr' := (44, [(0, .ref 165), (1, .int 2), (2, .int p1)], [.int (-1)])) rfl ?_
    exact xe_end pg_156 rfl
  · exact ⟨⟨rfl, rfl, rfl, rfl⟩, Nat.le_of_ble_eq_true rfl, Nat.le_of_ble_eq_true rfl, rfl, fun _ => rfl⟩

set_option maxRecDepth 100000 in
theorem lf_data_8 (xs : Nat → Int32) (p1 : Int32) (a1 : p1.toInt < 0) : op_ok xs 175 156 [.ref 0, .int 3, .int p1, .ref 189] [.ref 165, .int 3, .int p1] := by
  refine ⟨0, (-1), ?_⟩
  apply Exists.intro
  apply Exists.intro
  apply And.intro
  · refine xe_sn pg_175 4 (fr' := (4, [(0, .ref 0), (1, .int 3), (2, .int p1), (3, .ref 189)], [.int 3, .ref 0, .int 0, .ref 189])) rfl ?_
    refine xe_sn pg_175 1 (fr' := (5, [(0, .ref 0), (1, .int 3), (2, .int p1), (3, .ref 189)], [.int p1, .int 3, .ref 0, .int 0, .ref 189])) rfl ?_
    apply xe_callq pg_175 88 [.ref 0, .int 3, .int p1] (.inl (some (.int (-1)))) (8, [(0, .ref 0), (1, .int 3), (2, .int p1), (3, .ref 189)], [.int (-1), .int 0, .ref 189]) rfl (fun _ => rfl)
    · refine xe_sn pg_88 1 (fr' := (1, [(0, .ref 0), (1, .int 3), (2, .int p1)], [.int 3])) rfl ?_
      apply xe_callq pg_88 92 [.int 3] (.inl none) (4, [(0, .ref 0), (1, .int 3), (2, .int p1)], []) rfl (fun _ => rfl)
      · refine xe_sn pg_92 2 (fr' := (2, [(0, .int 3)], [.int 4, .int 3])) rfl ?_
        apply xe_callq pg_92 95 [.int 3, .int 4] (.inl none) (5, [(0, .int 3)], []) rfl (fun _ => rfl)
        · refine xe_sn pg_95 4 (fr' := (6, [(0, .int 3), (1, .int 4)], [.int 4, .int 3])) rfl ?_
          refine xe_sn pg_95 1 (fr' := (17, [(0, .int 3), (1, .int 4)], [])) rfl ?_
          exact xe_end pg_95 rfl
        exact xe_end pg_92 rfl
      refine xe_sn pg_88 4 (fr' := (10, [(0, .ref 0), (1, .int 3), (2, .int p1)], [.ref 154])) rfl ?_
      refine xe_sn pg_88 2 (fr' := (12, [(3, .ref 154), (0, .ref 0), (1, .int 3), (2, .int p1)], [.int p1])) rfl ?_
      refine xe_t1 pg_88 32 rfl rfl (by show (p1).toInt < 0; omega) ?_
      refine xe_sn pg_88 1 (fr' := (33, [(3, .ref 154), (0, .ref 0), (1, .int 3), (2, .int p1)], [.int (-1)])) rfl ?_
      exact xe_end pg_88 rfl
    refine xe_sn pg_175 4 (fr' := (18, [(0, .ref 0), (1, .int 3), (2, .int p1), (3, .ref 189)], [.int 0])) rfl ?_
    exact xe_end pg_175 rfl
  refine And.intro ⟨rfl, rfl, rfl, rfl⟩ ?_
  apply And.intro
  · refine xe_sn pg_156 2 (fr' := (2, [(0, .ref 165), (1, .int 3), (2, .int p1)], [.int 3, .ref 165])) rfl ?_
    apply xe_callq pg_156 104 [.int 3] (.inl (some (.int 1))) (5, [(0, .ref 165), (1, .int 3), (2, .int p1)], [.int 1, .ref 165]) rfl (fun _ => rfl)
    · refine xe_sn pg_104 3 (fr' := (3, [(0, .int 3)], [.int 3, .int 0, .int 3])) rfl ?_
      apply xe_callq pg_104 103 [.int 3, .int 0, .int 3] (.inl (some (.int 1))) (6, [(0, .int 3)], [.int 1]) rfl (fun _ => rfl)
      · refine xe_sn pg_103 4 (fr' := (6, [(0, .int 3), (1, .int 0), (2, .int 3)], [.int 3])) rfl ?_
        refine xe_sn pg_103 4 (fr' := (15, [(0, .int 3), (1, .int 0), (2, .int 3)], [.int 1])) rfl ?_
        exact xe_end pg_103 rfl
      exact xe_end pg_104 rfl
    apply xe_callq pg_156 151 [.ref 165, .int 1] (.inl (some (.int 0))) (8, [(0, .ref 165), (1, .int 3), (2, .int p1)], [.int 0]) rfl (fun _ => rfl)
    · refine xe_sn pg_151 4 (fr' := (6, [(0, .ref 165), (1, .int 1)], [.int 0, .ref 165])) rfl ?_
      refine xe_sn pg_151 4 (fr' := (21, [(0, .ref 165), (1, .int 1)], [])) rfl ?_
      refine xe_sn pg_151 1 (fr' := (22, [(0, .ref 165), (1, .int 1)], [.int 0])) rfl ?_
      exact xe_end pg_151 rfl
    refine xe_sn pg_156 4 (fr' := (16, [(0, .ref 165), (1, .int 3), (2, .int p1)], [.ref 165, .int 0, .int p1])) rfl ?_
    refine xe_sn pg_156 4 (fr' := (22, [(0, .ref 165), (1, .int 3), (2, .int p1)], [.int 1, .int 0, .int 0, .int p1])) rfl ?_
    refine xe_sn pg_156 1 (fr' := (23, [(0, .ref 165), (1, .int 3), (2, .int p1)], [.int (-1), .int 0, .int p1])) rfl ?_
    apply xe_callq pg_156 103 [.int p1, .int 0, .int (-1)] (.inl (some (.int 0))) (26, [(0, .ref 165), (1, .int 3), (2, .int p1)], [.int 0]) rfl (fun _ => rfl)
    · refine xe_sn pg_103 2 (fr' := (2, [(0, .int p1), (1, .int 0), (2, .int (-1))], [.int 0, .int p1])) rfl ?_
      refine xe_t2 pg_103 14 rfl rfl (by show (p1).toInt < 0; omega) ?_
      refine xe_sn pg_103 1 (fr' := (15, [(0, .int p1), (1, .int 0), (2, .int (-1))], [.int 0])) rfl ?_
      exact xe_end pg_103 rfl
    refine xe_sn pg_156 2 (fr' := (44, [(0, .ref 165), (1, .int 3), (2, .int p1)], [.int (-1)])) rfl ?_
    exact xe_end pg_156 rfl
  · exact ⟨⟨rfl, rfl, rfl, rfl⟩, Nat.le_of_ble_eq_true rfl, Nat.le_of_ble_eq_true rfl, rfl, fun _ => rfl⟩

set_option maxRecDepth 100000 in
theorem lf_data_9 (xs : Nat → Int32) (p1 : Int32) (a1 : 0 ≤ p1.toInt) : op_ok xs 175 156 [.ref 0, .int 3, .int p1, .ref 189] [.ref 165, .int 3, .int p1] := by
  refine ⟨0, (-1), ?_⟩
  apply Exists.intro
  apply Exists.intro
  apply And.intro
  · refine xe_sn pg_175 4 (fr' := (4, [(0, .ref 0), (1, .int 3), (2, .int p1), (3, .ref 189)], [.int 3, .ref 0, .int 0, .ref 189])) rfl ?_
    refine xe_sn pg_175 1 (fr' := (5, [(0, .ref 0), (1, .int 3), (2, .int p1), (3, .ref 189)], [.int p1, .int 3, .ref 0, .int 0, .ref 189])) rfl ?_
    apply xe_callq pg_175 88 [.ref 0, .int 3, .int p1] (.inl (some (.int (-1)))) (8, [(0, .ref 0), (1, .int 3), (2, .int p1), (3, .ref 189)], [.int (-1), .int 0, .ref 189]) rfl (fun _ => rfl)
    · refine xe_sn pg_88 1 (fr' := (1, [(0, .ref 0), (1, .int 3), (2, .int p1)], [.int 3])) rfl ?_
      apply xe_callq pg_88 92 [.int 3] (.inl none) (4, [(0, .ref 0), (1, .int 3), (2, .int p1)], []) rfl (fun _ => rfl)
      · refine xe_sn pg_92 2 (fr' := (2, [(0, .int 3)], [.int 4, .int 3])) rfl ?_
        apply xe_callq pg_92 95 [.int 3, .int 4] (.inl none) (5, [(0, .int 3)], []) rfl (fun _ => rfl)
        · refine xe_sn pg_95 4 (fr' := (6, [(0, .int 3), (1, .int 4)], [.int 4, .int 3])) rfl ?_
          refine xe_sn pg_95 1 (fr' := (17, [(0, .int 3), (1, .int 4)], [])) rfl ?_
          exact xe_end pg_95 rfl
        exact xe_end pg_92 rfl
      refine xe_sn pg_88 4 (fr' := (10, [(0, .ref 0), (1, .int 3), (2, .int p1)], [.ref 154])) rfl ?_
      refine xe_sn pg_88 2 (fr' := (12, [(3, .ref 154), (0, .ref 0), (1, .int 3), (2, .int p1)], [.int p1])) rfl ?_
      refine xe_f1 pg_88 32 rfl rfl (by show ¬ ((p1).toInt < 0); omega) ?_
      refine xe_sn pg_88 3 (fr' := (20, [(3, .ref 154), (0, .ref 0), (1, .int 3), (2, .int p1)], [.int 0, .int p1])) rfl ?_
      refine xe_t2 pg_88 32 rfl rfl (by show 0 ≤ (p1).toInt; omega) ?_
      refine xe_sn pg_88 1 (fr' := (33, [(3, .ref 154), (0, .ref 0), (1, .int 3), (2, .int p1)], [.int (-1)])) rfl ?_
      exact xe_end pg_88 rfl
    refine xe_sn pg_175 4 (fr' := (18, [(0, .ref 0), (1, .int 3), (2, .int p1), (3, .ref 189)], [.int 0])) rfl ?_
    exact xe_end pg_175 rfl
  refine And.intro ⟨rfl, rfl, rfl, rfl⟩ ?_
  apply And.intro
  · refine xe_sn pg_156 2 (fr' := (2, [(0, .ref 165), (1, .int 3), (2, .int p1)], [.int 3, .ref 165])) rfl ?_
    apply xe_callq pg_156 104 [.int 3] (.inl (some (.int 1))) (5, [(0, .ref 165), (1, .int 3), (2, .int p1)], [.int 1, .ref 165]) rfl (fun _ => rfl)
    · refine xe_sn pg_104 3 (fr' := (3, [(0, .int 3)], [.int 3, .int 0, .int 3])) rfl ?_
      apply xe_callq pg_104 103 [.int 3, .int 0, .int 3] (.inl (some (.int 1))) (6, [(0, .int 3)], [.int 1]) rfl (fun _ => rfl)
      · refine xe_sn pg_103 4 (fr' := (6, [(0, .int 3), (1, .int 0), (2, .int 3)], [.int 3])) rfl ?_
        refine xe_sn pg_103 4 (fr' := (15, [(0, .int 3), (1, .int 0), (2, .int 3)], [.int 1])) rfl ?_
        exact xe_end pg_103 rfl
      exact xe_end pg_104 rfl
    apply xe_callq pg_156 151 [.ref 165, .int 1] (.inl (some (.int 0))) (8, [(0, .ref 165), (1, .int 3), (2, .int p1)], [.int 0]) rfl (fun _ => rfl)
    · refine xe_sn pg_151 4 (fr' := (6, [(0, .ref 165), (1, .int 1)], [.int 0, .ref 165])) rfl ?_
      refine xe_sn pg_151 4 (fr' := (21, [(0, .ref 165), (1, .int 1)], [])) rfl ?_
      refine xe_sn pg_151 1 (fr' := (22, [(0, .ref 165), (1, .int 1)], [.int 0])) rfl ?_
      exact xe_end pg_151 rfl
    refine xe_sn pg_156 4 (fr' := (16, [(0, .ref 165), (1, .int 3), (2, .int p1)], [.ref 165, .int 0, .int p1])) rfl ?_
    refine xe_sn pg_156 4 (fr' := (22, [(0, .ref 165), (1, .int 3), (2, .int p1)], [.int 1, .int 0, .int 0, .int p1])) rfl ?_
    refine xe_sn pg_156 1 (fr' := (23, [(0, .ref 165), (1, .int 3), (2, .int p1)], [.int (-1), .int 0, .int p1])) rfl ?_
    apply xe_callq pg_156 103 [.int p1, .int 0, .int (-1)] (.inl (some (.int 0))) (26, [(0, .ref 165), (1, .int 3), (2, .int p1)], [.int 0]) rfl (fun _ => rfl)
    · refine xe_sn pg_103 2 (fr' := (2, [(0, .int p1), (1, .int 0), (2, .int (-1))], [.int 0, .int p1])) rfl ?_
      refine xe_f2 pg_103 14 rfl rfl (by show ¬ ((p1).toInt < 0); omega) ?_
      refine xe_sn pg_103 2 (fr' := (7, [(0, .int p1), (1, .int 0), (2, .int (-1))], [.int (-1), .int p1])) rfl ?_
      refine xe_t2 pg_103 14 rfl rfl (by show -1 < (p1).toInt; omega) ?_
      refine xe_sn pg_103 1 (fr' := (15, [(0, .int p1), (1, .int 0), (2, .int (-1))], [.int 0])) rfl ?_
      exact xe_end pg_103 rfl
    refine xe_sn pg_156 2 (fr' := (44, [(0, .ref 165), (1, .int 3), (2, .int p1)], [.int (-1)])) rfl ?_
    exact xe_end pg_156 rfl
  · exact ⟨⟨rfl, rfl, rfl, rfl⟩, Nat.le_of_ble_eq_true rfl, Nat.le_of_ble_eq_true rfl, rfl, fun _ => rfl⟩
theorem op_data (xs : Nat → Int32) (p0 p1 : Int32) : op_ok xs 175 156 [.ref 0, .int p0, .int p1, .ref 189] [.ref 165, .int p0, .int p1] := by
  by_cases a0 : p0.toInt < 0
  · exact lf_data_0 xs p0 p1 a0
  by_cases b0 : 3 < p0.toInt
  · exact lf_data_1 xs p0 p1 b0
  replace a0 : 0 ≤ p0.toInt := by omega
  replace b0 : p0.toInt ≤ 3 := by omega
  rcases (by omega : p0.toInt = 0 ∨ p0.toInt = 1 ∨ p0.toInt = 2 ∨ p0.toInt = 3) with q0 | q0 | q0 | q0
  · obtain rfl : p0 = 0 := Int32.toInt_inj.mp (q0.trans (by decide))
    by_cases a1 : p1.toInt < 0
    · exact lf_data_2 xs p1 a1
    · replace a1 : 0 ≤ p1.toInt := by omega
      exact lf_data_3 xs p1 a1
  · obtain rfl : p0 = 1 := Int32.toInt_inj.mp (q0.trans (by decide))
    by_cases a1 : p1.toInt < 0
    · exact lf_data_4 xs p1 a1
    · replace a1 : 0 ≤ p1.toInt := by omega
      exact lf_data_5 xs p1 a1
  · obtain rfl : p0 = 2 := Int32.toInt_inj.mp (q0.trans (by decide))
    by_cases a1 : p1.toInt < 0
    · exact lf_data_6 xs p1 a1
    · replace a1 : 0 ≤ p1.toInt := by omega
      exact lf_data_7 xs p1 a1
  · obtain rfl : p0 = 3 := Int32.toInt_inj.mp (q0.trans (by decide))
    by_cases a1 : p1.toInt < 0
    · exact lf_data_8 xs p1 a1
    · replace a1 : 0 ≤ p1.toInt := by omega
      exact lf_data_9 xs p1 a1

set_option maxRecDepth 100000 in
theorem lf_count_0 (xs : Nat → Int32) (p0 : Int32) (a0 : p0.toInt < 0) : op_ok xs 176 158 [.ref 0, .int p0, .ref 189] [.ref 165, .int p0] := by
  refine ⟨1, 0, ?_⟩
  apply Exists.intro
  apply Exists.intro
  apply And.intro
  · refine xe_sn pg_176 4 (fr' := (4, [(0, .ref 0), (1, .int p0), (2, .ref 189)], [.int p0, .ref 0, .int 0, .ref 189])) rfl ?_
    apply xe_callq pg_176 89 [.ref 0, .int p0] (.inr 0) (13, [(0, .ref 0), (1, .int p0), (2, .ref 189)], []) rfl (fun _ => rfl)
    · refine xe_sn pg_89 2 (fr' := (2, [(0, .ref 0), (1, .int p0)], [.int 5, .int p0])) rfl ?_
      apply xe_callqx pg_89 95 [.int p0, .int 5] 0 rfl (fun _ => rfl)
      · refine xe_sn pg_95 1 (fr' := (1, [(0, .int p0), (1, .int 5)], [.int p0])) rfl ?_
        refine xe_t1 pg_95 9 rfl rfl (by show (p0).toInt < 0; omega) ?_
        exact xe_end pg_95 rfl
    refine xe_sn pg_176 1 (fr' := (14, [(0, .ref 0), (1, .int p0), (2, .ref 189)], [.int 1])) rfl ?_
    exact xe_end pg_176 rfl
  refine And.intro ⟨rfl, rfl, rfl, rfl⟩ ?_
  apply And.intro
  · refine xe_sn pg_158 4 (fr' := (4, [(0, .ref 165), (1, .int p0)], [.int 4, .int 0, .int p0, .ref 165])) rfl ?_
    apply xe_callq pg_158 103 [.int p0, .int 0, .int 4] (.inl (some (.int 0))) (7, [(0, .ref 165), (1, .int p0)], [.int 0, .ref 165]) rfl (fun _ => rfl)
    · refine xe_sn pg_103 2 (fr' := (2, [(0, .int p0), (1, .int 0), (2, .int 4)], [.int 0, .int p0])) rfl ?_
      refine xe_t2 pg_103 14 rfl rfl (by show (p0).toInt < 0; omega) ?_
      refine xe_sn pg_103 1 (fr' := (15, [(0, .int p0), (1, .int 0), (2, .int 4)], [.int 0])) rfl ?_
      exact xe_end pg_103 rfl
    apply xe_callq pg_158 151 [.ref 165, .int 0] (.inl (some (.int 1))) (10, [(0, .ref 165), (1, .int p0)], [.int 1]) rfl (fun _ => rfl)
    · refine xe_sn pg_151 4 (fr' := (10, [(0, .ref 165), (1, .int 0)], [.int 1, .ref 165])) rfl ?_
      refine xe_sn pg_151 4 (fr' := (18, [(0, .ref 165), (1, .int 0)], [.int 1])) rfl ?_
      refine xe_sn pg_151 1 (fr' := (22, [(0, .ref 165), (1, .int 0)], [.int 1])) rfl ?_
      exact xe_end pg_151 rfl
    refine xe_sn pg_158 2 (fr' := (14, [(0, .ref 165), (1, .int p0)], [.int 0])) rfl ?_
    exact xe_end pg_158 rfl
  · exact ⟨⟨rfl, rfl, rfl, rfl⟩, Nat.le_of_ble_eq_true rfl, Nat.le_of_ble_eq_true rfl, rfl, fun q => absurd q (by decide)⟩

set_option maxRecDepth 100000 in
theorem lf_count_1 (xs : Nat → Int32) (p0 : Int32) (b0 : 4 < p0.toInt) : op_ok xs 176 158 [.ref 0, .int p0, .ref 189] [.ref 165, .int p0] := by
  refine ⟨1, 0, ?_⟩
  apply Exists.intro
  apply Exists.intro
  apply And.intro
  · refine xe_sn pg_176 4 (fr' := (4, [(0, .ref 0), (1, .int p0), (2, .ref 189)], [.int p0, .ref 0, .int 0, .ref 189])) rfl ?_
    apply xe_callq pg_176 89 [.ref 0, .int p0] (.inr 0) (13, [(0, .ref 0), (1, .int p0), (2, .ref 189)], []) rfl (fun _ => rfl)
    · refine xe_sn pg_89 2 (fr' := (2, [(0, .ref 0), (1, .int p0)], [.int 5, .int p0])) rfl ?_
      apply xe_callqx pg_89 95 [.int p0, .int 5] 0 rfl (fun _ => rfl)
      · refine xe_sn pg_95 1 (fr' := (1, [(0, .int p0), (1, .int 5)], [.int p0])) rfl ?_
        refine xe_f1 pg_95 9 rfl rfl (by show ¬ ((p0).toInt < 0); omega) ?_
        refine xe_sn pg_95 2 (fr' := (6, [(0, .int p0), (1, .int 5)], [.int 5, .int p0])) rfl ?_
        refine xe_f2 pg_95 17 rfl rfl (by show ¬ ((p0).toInt < 5); omega) ?_
        exact xe_end pg_95 rfl
    refine xe_sn pg_176 1 (fr' := (14, [(0, .ref 0), (1, .int p0), (2, .ref 189)], [.int 1])) rfl ?_
    exact xe_end pg_176 rfl
  refine And.intro ⟨rfl, rfl, rfl, rfl⟩ ?_
  apply And.intro
  · refine xe_sn pg_158 4 (fr' := (4, [(0, .ref 165), (1, .int p0)], [.int 4, .int 0, .int p0, .ref 165])) rfl ?_
    apply xe_callq pg_158 103 [.int p0, .int 0, .int 4] (.inl (some (.int 0))) (7, [(0, .ref 165), (1, .int p0)], [.int 0, .ref 165]) rfl (fun _ => rfl)
    · refine xe_sn pg_103 2 (fr' := (2, [(0, .int p0), (1, .int 0), (2, .int 4)], [.int 0, .int p0])) rfl ?_
      refine xe_f2 pg_103 14 rfl rfl (by show ¬ ((p0).toInt < 0); omega) ?_
      refine xe_sn pg_103 2 (fr' := (7, [(0, .int p0), (1, .int 0), (2, .int 4)], [.int 4, .int p0])) rfl ?_
      refine xe_t2 pg_103 14 rfl rfl (by show 4 < (p0).toInt; omega) ?_
      refine xe_sn pg_103 1 (fr' := (15, [(0, .int p0), (1, .int 0), (2, .int 4)], [.int 0])) rfl ?_
      exact xe_end pg_103 rfl
    apply xe_callq pg_158 151 [.ref 165, .int 0] (.inl (some (.int 1))) (10, [(0, .ref 165), (1, .int p0)], [.int 1]) rfl (fun _ => rfl)
    · refine xe_sn pg_151 4 (fr' := (10, [(0, .ref 165), (1, .int 0)], [.int 1, .ref 165])) rfl ?_
      refine xe_sn pg_151 4 (fr' := (18, [(0, .ref 165), (1, .int 0)], [.int 1])) rfl ?_
      refine xe_sn pg_151 1 (fr' := (22, [(0, .ref 165), (1, .int 0)], [.int 1])) rfl ?_
      exact xe_end pg_151 rfl
    refine xe_sn pg_158 2 (fr' := (14, [(0, .ref 165), (1, .int p0)], [.int 0])) rfl ?_
    exact xe_end pg_158 rfl
  · exact ⟨⟨rfl, rfl, rfl, rfl⟩, Nat.le_of_ble_eq_true rfl, Nat.le_of_ble_eq_true rfl, rfl, fun q => absurd q (by decide)⟩

set_option maxRecDepth 100000 in
theorem lf_count_2 (xs : Nat → Int32) : op_ok xs 176 158 [.ref 0, .int 0, .ref 189] [.ref 165, .int 0] := by
  refine ⟨0, 0, ?_⟩
  apply Exists.intro
  apply Exists.intro
  apply And.intro
  · refine xe_sn pg_176 4 (fr' := (4, [(0, .ref 0), (1, .int 0), (2, .ref 189)], [.int 0, .ref 0, .int 0, .ref 189])) rfl ?_
    apply xe_callq pg_176 89 [.ref 0, .int 0] (.inl (some (.int 0))) (7, [(0, .ref 0), (1, .int 0), (2, .ref 189)], [.int 0, .int 0, .ref 189]) rfl (fun _ => rfl)
    · refine xe_sn pg_89 2 (fr' := (2, [(0, .ref 0), (1, .int 0)], [.int 5, .int 0])) rfl ?_
      apply xe_callq pg_89 95 [.int 0, .int 5] (.inl none) (5, [(0, .ref 0), (1, .int 0)], []) rfl (fun _ => rfl)
      · refine xe_sn pg_95 4 (fr' := (6, [(0, .int 0), (1, .int 5)], [.int 5, .int 0])) rfl ?_
        refine xe_sn pg_95 1 (fr' := (17, [(0, .int 0), (1, .int 5)], [])) rfl ?_
        exact xe_end pg_95 rfl
      refine xe_sn pg_89 4 (fr' := (40, [(0, .ref 0), (1, .int 0)], [.ref 1])) rfl ?_
      refine xe_sn pg_89 1 (fr' := (43, [(0, .ref 0), (1, .int 0)], [.int 0])) rfl ?_
      exact xe_end pg_89 rfl
    refine xe_sn pg_176 4 (fr' := (16, [(0, .ref 0), (1, .int 0), (2, .ref 189)], [.int 0])) rfl ?_
    exact xe_end pg_176 rfl
  refine And.intro ⟨rfl, rfl, rfl, rfl⟩ ?_
  apply And.intro
  · refine xe_sn pg_158 4 (fr' := (4, [(0, .ref 165), (1, .int 0)], [.int 4, .int 0, .int 0, .ref 165])) rfl ?_
    apply xe_callq pg_158 103 [.int 0, .int 0, .int 4] (.inl (some (.int 1))) (7, [(0, .ref 165), (1, .int 0)], [.int 1, .ref 165]) rfl (fun _ => rfl)
    · refine xe_sn pg_103 4 (fr' := (6, [(0, .int 0), (1, .int 0), (2, .int 4)], [.int 0])) rfl ?_
      refine xe_sn pg_103 4 (fr' := (15, [(0, .int 0), (1, .int 0), (2, .int 4)], [.int 1])) rfl ?_
      exact xe_end pg_103 rfl
    apply xe_callq pg_158 151 [.ref 165, .int 1] (.inl (some (.int 0))) (10, [(0, .ref 165), (1, .int 0)], [.int 0]) rfl (fun _ => rfl)
    · refine xe_sn pg_151 4 (fr' := (6, [(0, .ref 165), (1, .int 1)], [.int 0, .ref 165])) rfl ?_
      refine xe_sn pg_151 4 (fr' := (21, [(0, .ref 165), (1, .int 1)], [])) rfl ?_
      refine xe_sn pg_151 1 (fr' := (22, [(0, .ref 165), (1, .int 1)], [.int 0])) rfl ?_
      exact xe_end pg_151 rfl
    refine xe_sn pg_158 4 (fr' := (20, [(0, .ref 165), (1, .int 0)], [.ref 165])) rfl ?_
    refine xe_sn pg_158 2 (fr' := (66, [(0, .ref 165), (1, .int 0)], [.int 0])) rfl ?_
    exact xe_end pg_158 rfl
  · exact ⟨⟨rfl, rfl, rfl, rfl⟩, Nat.le_of_ble_eq_true rfl, Nat.le_of_ble_eq_true rfl, rfl, fun _ => rfl⟩

set_option maxRecDepth 100000 in
theorem lf_count_3 (xs : Nat → Int32) : op_ok xs 176 158 [.ref 0, .int 1, .ref 189] [.ref 165, .int 1] := by
  refine ⟨0, 0, ?_⟩
  apply Exists.intro
  apply Exists.intro
  apply And.intro
  · refine xe_sn pg_176 4 (fr' := (4, [(0, .ref 0), (1, .int 1), (2, .ref 189)], [.int 1, .ref 0, .int 0, .ref 189])) rfl ?_
    apply xe_callq pg_176 89 [.ref 0, .int 1] (.inl (some (.int 0))) (7, [(0, .ref 0), (1, .int 1), (2, .ref 189)], [.int 0, .int 0, .ref 189]) rfl (fun _ => rfl)
    · refine xe_sn pg_89 2 (fr' := (2, [(0, .ref 0), (1, .int 1)], [.int 5, .int 1])) rfl ?_
      apply xe_callq pg_89 95 [.int 1, .int 5] (.inl none) (5, [(0, .ref 0), (1, .int 1)], []) rfl (fun _ => rfl)
      · refine xe_sn pg_95 4 (fr' := (6, [(0, .int 1), (1, .int 5)], [.int 5, .int 1])) rfl ?_
        refine xe_sn pg_95 1 (fr' := (17, [(0, .int 1), (1, .int 5)], [])) rfl ?_
        exact xe_end pg_95 rfl
      refine xe_sn pg_89 4 (fr' := (48, [(0, .ref 0), (1, .int 1)], [.int 0])) rfl ?_
      exact xe_end pg_89 rfl
    refine xe_sn pg_176 4 (fr' := (16, [(0, .ref 0), (1, .int 1), (2, .ref 189)], [.int 0])) rfl ?_
    exact xe_end pg_176 rfl
  refine And.intro ⟨rfl, rfl, rfl, rfl⟩ ?_
  apply And.intro
  · refine xe_sn pg_158 4 (fr' := (4, [(0, .ref 165), (1, .int 1)], [.int 4, .int 0, .int 1, .ref 165])) rfl ?_
    apply xe_callq pg_158 103 [.int 1, .int 0, .int 4] (.inl (some (.int 1))) (7, [(0, .ref 165), (1, .int 1)], [.int 1, .ref 165]) rfl (fun _ => rfl)
    · refine xe_sn pg_103 4 (fr' := (6, [(0, .int 1), (1, .int 0), (2, .int 4)], [.int 1])) rfl ?_
      refine xe_sn pg_103 4 (fr' := (15, [(0, .int 1), (1, .int 0), (2, .int 4)], [.int 1])) rfl ?_
      exact xe_end pg_103 rfl
    apply xe_callq pg_158 151 [.ref 165, .int 1] (.inl (some (.int 0))) (10, [(0, .ref 165), (1, .int 1)], [.int 0]) rfl (fun _ => rfl)
    · refine xe_sn pg_151 4 (fr' := (6, [(0, .ref 165), (1, .int 1)], [.int 0, .ref 165])) rfl ?_
      refine xe_sn pg_151 4 (fr' := (21, [(0, .ref 165), (1, .int 1)], [])) rfl ?_
      refine xe_sn pg_151 1 (fr' := (22, [(0, .ref 165), (1, .int 1)], [.int 0])) rfl ?_
      exact xe_end pg_151 rfl
    refine xe_sn pg_158 4 (fr' := (27, [(0, .ref 165), (1, .int 1)], [.int 1])) rfl ?_
    refine xe_sn pg_158 4 (fr' := (35, [(0, .ref 165), (1, .int 1)], [.int 0])) rfl ?_
    refine xe_sn pg_158 1 (fr' := (66, [(0, .ref 165), (1, .int 1)], [.int 0])) rfl ?_
    exact xe_end pg_158 rfl
  · exact ⟨⟨rfl, rfl, rfl, rfl⟩, Nat.le_of_ble_eq_true rfl, Nat.le_of_ble_eq_true rfl, rfl, fun _ => rfl⟩

set_option maxRecDepth 100000 in
theorem lf_count_4 (xs : Nat → Int32) : op_ok xs 176 158 [.ref 0, .int 2, .ref 189] [.ref 165, .int 2] := by
  refine ⟨0, 0, ?_⟩
  apply Exists.intro
  apply Exists.intro
  apply And.intro
  · refine xe_sn pg_176 4 (fr' := (4, [(0, .ref 0), (1, .int 2), (2, .ref 189)], [.int 2, .ref 0, .int 0, .ref 189])) rfl ?_
    apply xe_callq pg_176 89 [.ref 0, .int 2] (.inl (some (.int 0))) (7, [(0, .ref 0), (1, .int 2), (2, .ref 189)], [.int 0, .int 0, .ref 189]) rfl (fun _ => rfl)
    · refine xe_sn pg_89 2 (fr' := (2, [(0, .ref 0), (1, .int 2)], [.int 5, .int 2])) rfl ?_
      apply xe_callq pg_89 95 [.int 2, .int 5] (.inl none) (5, [(0, .ref 0), (1, .int 2)], []) rfl (fun _ => rfl)
      · refine xe_sn pg_95 4 (fr' := (6, [(0, .int 2), (1, .int 5)], [.int 5, .int 2])) rfl ?_
        refine xe_sn pg_95 1 (fr' := (17, [(0, .int 2), (1, .int 5)], [])) rfl ?_
        exact xe_end pg_95 rfl
      refine xe_sn pg_89 4 (fr' := (53, [(0, .ref 0), (1, .int 2)], [.ref 1])) rfl ?_
      refine xe_sn pg_89 1 (fr' := (56, [(0, .ref 0), (1, .int 2)], [.int 0])) rfl ?_
      exact xe_end pg_89 rfl
    refine xe_sn pg_176 4 (fr' := (16, [(0, .ref 0), (1, .int 2), (2, .ref 189)], [.int 0])) rfl ?_
    exact xe_end pg_176 rfl
  refine And.intro ⟨rfl, rfl, rfl, rfl⟩ ?_
  apply And.intro
  · refine xe_sn pg_158 4 (fr' := (4, [(0, .ref 165), (1, .int 2)], [.int 4, .int 0, .int 2, .ref 165])) rfl ?_
    apply xe_callq pg_158 103 [.int 2, .int 0, .int 4] (.inl (some (.int 1))) (7, [(0, .ref 165), (1, .int 2)], [.int 1, .ref 165]) rfl (fun _ => rfl)
    · refine xe_sn pg_103 4 (fr' := (6, [(0, .int 2), (1, .int 0), (2, .int 4)], [.int 2])) rfl ?_
      refine xe_sn pg_103 4 (fr' := (15, [(0, .int 2), (1, .int 0), (2, .int 4)], [.int 1])) rfl ?_
      exact xe_end pg_103 rfl
    apply xe_callq pg_158 151 [.ref 165, .int 1] (.inl (some (.int 0))) (10, [(0, .ref 165), (1, .int 2)], [.int 0]) rfl (fun _ => rfl)
    · refine xe_sn pg_151 4 (fr' := (6, [(0, .ref 165), (1, .int 1)], [.int 0, .ref 165])) rfl ?_
      refine xe_sn pg_151 4 (fr' := (21, [(0, .ref 165), (1, .int 1)], [])) rfl ?_
      refine xe_sn pg_151 1 (fr' := (22, [(0, .ref 165), (1, .int 1)], [.int 0])) rfl ?_
      exact xe_end pg_151 rfl
    refine xe_sn pg_158 4 (fr' := (27, [(0, .ref 165), (1, .int 2)], [.int 2])) rfl ?_
    refine xe_sn pg_158 4 (fr' := (40, [(0, .ref 165), (1, .int 2)], [.int 2, .int 2])) rfl ?_
    refine xe_sn pg_158 4 (fr' := (66, [(0, .ref 165), (1, .int 2)], [.int 0])) rfl ?_
    exact xe_end pg_158 rfl
  · exact ⟨⟨rfl, rfl, rfl, rfl⟩, Nat.le_of_ble_eq_true rfl, Nat.le_of_ble_eq_true rfl, rfl, fun _ => rfl⟩

set_option maxRecDepth 100000 in
theorem lf_count_5 (xs : Nat → Int32) : op_ok xs 176 158 [.ref 0, .int 3, .ref 189] [.ref 165, .int 3] := by
  refine ⟨0, 0, ?_⟩
  apply Exists.intro
  apply Exists.intro
  apply And.intro
  · refine xe_sn pg_176 4 (fr' := (4, [(0, .ref 0), (1, .int 3), (2, .ref 189)], [.int 3, .ref 0, .int 0, .ref 189])) rfl ?_
    apply xe_callq pg_176 89 [.ref 0, .int 3] (.inl (some (.int 0))) (7, [(0, .ref 0), (1, .int 3), (2, .ref 189)], [.int 0, .int 0, .ref 189]) rfl (fun _ => rfl)
    · refine xe_sn pg_89 2 (fr' := (2, [(0, .ref 0), (1, .int 3)], [.int 5, .int 3])) rfl ?_
      apply xe_callq pg_89 95 [.int 3, .int 5] (.inl none) (5, [(0, .ref 0), (1, .int 3)], []) rfl (fun _ => rfl)
      · refine xe_sn pg_95 4 (fr' := (6, [(0, .int 3), (1, .int 5)], [.int 5, .int 3])) rfl ?_
        refine xe_sn pg_95 1 (fr' := (17, [(0, .int 3), (1, .int 5)], [])) rfl ?_
        exact xe_end pg_95 rfl
      refine xe_sn pg_89 4 (fr' := (61, [(0, .ref 0), (1, .int 3)], [.int 0])) rfl ?_
      exact xe_end pg_89 rfl
    refine xe_sn pg_176 4 (fr' := (16, [(0, .ref 0), (1, .int 3), (2, .ref 189)], [.int 0])) rfl ?_
    exact xe_end pg_176 rfl
  refine And.intro ⟨rfl, rfl, rfl, rfl⟩ ?_
  apply And.intro
  · refine xe_sn pg_158 4 (fr' := (4, [(0, .ref 165), (1, .int 3)], [.int 4, .int 0, .int 3, .ref 165])) rfl ?_
    apply xe_callq pg_158 103 [.int 3, .int 0, .int 4] (.inl (some (.int 1))) (7, [(0, .ref 165), (1, .int 3)], [.int 1, .ref 165]) rfl (fun _ => rfl)
    · refine xe_sn pg_103 4 (fr' := (6, [(0, .int 3), (1, .int 0), (2, .int 4)], [.int 3])) rfl ?_
      refine xe_sn pg_103 4 (fr' := (15, [(0, .int 3), (1, .int 0), (2, .int 4)], [.int 1])) rfl ?_
      exact xe_end pg_103 rfl
    apply xe_callq pg_158 151 [.ref 165, .int 1] (.inl (some (.int 0))) (10, [(0, .ref 165), (1, .int 3)], [.int 0]) rfl (fun _ => rfl)
    · refine xe_sn pg_151 4 (fr' := (6, [(0, .ref 165), (1, .int 1)], [.int 0, .ref 165])) rfl ?_
      refine xe_sn pg_151 4 (fr' := (21, [(0, .ref 165), (1, .int 1)], [])) rfl ?_
      refine xe_sn pg_151 1 (fr' := (22, [(0, .ref 165), (1, .int 1)], [.int 0])) rfl ?_
      exact xe_end pg_151 rfl
    refine xe_sn pg_158 4 (fr' := (27, [(0, .ref 165), (1, .int 3)], [.int 3])) rfl ?_
    refine xe_sn pg_158 4 (fr' := (40, [(0, .ref 165), (1, .int 3)], [.int 2, .int 3])) rfl ?_
    refine xe_sn pg_158 4 (fr' := (55, [(0, .ref 165), (1, .int 3)], [])) rfl ?_
    refine xe_sn pg_158 3 (fr' := (66, [(0, .ref 165), (1, .int 3)], [.int 0])) rfl ?_
    exact xe_end pg_158 rfl
  · exact ⟨⟨rfl, rfl, rfl, rfl⟩, Nat.le_of_ble_eq_true rfl, Nat.le_of_ble_eq_true rfl, rfl, fun _ => rfl⟩

set_option maxRecDepth 100000 in
theorem lf_count_6 (xs : Nat → Int32) : op_ok xs 176 158 [.ref 0, .int 4, .ref 189] [.ref 165, .int 4] := by
  refine ⟨0, 0, ?_⟩
  apply Exists.intro
  apply Exists.intro
  apply And.intro
  · refine xe_sn pg_176 4 (fr' := (4, [(0, .ref 0), (1, .int 4), (2, .ref 189)], [.int 4, .ref 0, .int 0, .ref 189])) rfl ?_
    apply xe_callq pg_176 89 [.ref 0, .int 4] (.inl (some (.int 0))) (7, [(0, .ref 0), (1, .int 4), (2, .ref 189)], [.int 0, .int 0, .ref 189]) rfl (fun _ => rfl)
    · refine xe_sn pg_89 2 (fr' := (2, [(0, .ref 0), (1, .int 4)], [.int 5, .int 4])) rfl ?_
      apply xe_callq pg_89 95 [.int 4, .int 5] (.inl none) (5, [(0, .ref 0), (1, .int 4)], []) rfl (fun _ => rfl)
      · refine xe_sn pg_95 4 (fr' := (6, [(0, .int 4), (1, .int 5)], [.int 5, .int 4])) rfl ?_
        refine xe_sn pg_95 1 (fr' := (17, [(0, .int 4), (1, .int 5)], [])) rfl ?_
        exact xe_end pg_95 rfl
      refine xe_sn pg_89 3 (fr' := (63, [(0, .ref 0), (1, .int 4)], [.ref 0])) rfl ?_
      apply xe_callq pg_89 91 [.ref 0] (.inl (some (.int 0))) (66, [(0, .ref 0), (1, .int 4)], [.int 0]) rfl (fun _ => rfl)
      · refine xe_sn pg_91 4 (fr' := (4, [(2, .int 0), (1, .int 0), (0, .ref 0)], [])) rfl ?_
        refine xe_sn pg_91 4 (fr' := (10, [(2, .int 0), (1, .int 0), (0, .ref 0)], [.ref 0])) rfl ?_
        refine xe_sn pg_91 4 (fr' := (18, [(2, .int 0), (1, .int 0), (0, .ref 0)], [.int 0])) rfl ?_
        refine xe_sn pg_91 4 (fr' := (4, [(2, .int 1), (1, .int 0), (0, .ref 0)], [])) rfl ?_
        refine xe_sn pg_91 4 (fr' := (10, [(2, .int 1), (1, .int 0), (0, .ref 0)], [.ref 0])) rfl ?_
        refine xe_sn pg_91 4 (fr' := (18, [(2, .int 1), (1, .int 0), (0, .ref 0)], [.int 0])) rfl ?_
        refine xe_sn pg_91 4 (fr' := (4, [(2, .int 2), (1, .int 0), (0, .ref 0)], [])) rfl ?_
        refine xe_sn pg_91 4 (fr' := (10, [(2, .int 2), (1, .int 0), (0, .ref 0)], [.ref 0])) rfl ?_
        refine xe_sn pg_91 4 (fr' := (18, [(2, .int 2), (1, .int 0), (0, .ref 0)], [.int 0])) rfl ?_
        refine xe_sn pg_91 4 (fr' := (4, [(2, .int 3), (1, .int 0), (0, .ref 0)], [])) rfl ?_
        refine xe_sn pg_91 4 (fr' := (10, [(2, .int 3), (1, .int 0), (0, .ref 0)], [.ref 0])) rfl ?_
        refine xe_sn pg_91 4 (fr' := (18, [(2, .int 3), (1, .int 0), (0, .ref 0)], [.int 0])) rfl ?_
        refine xe_sn pg_91 4 (fr' := (4, [(2, .int 4), (1, .int 0), (0, .ref 0)], [])) rfl ?_
        refine xe_sn pg_91 4 (fr' := (32, [(2, .int 4), (1, .int 0), (0, .ref 0)], [.int 0])) rfl ?_
        exact xe_end pg_91 rfl
      exact xe_end pg_89 rfl
    refine xe_sn pg_176 4 (fr' := (16, [(0, .ref 0), (1, .int 4), (2, .ref 189)], [.int 0])) rfl ?_
    exact xe_end pg_176 rfl
  refine And.intro ⟨rfl, rfl, rfl, rfl⟩ ?_
  apply And.intro
  · refine xe_sn pg_158 4 (fr' := (4, [(0, .ref 165), (1, .int 4)], [.int 4, .int 0, .int 4, .ref 165])) rfl ?_
    apply xe_callq pg_158 103 [.int 4, .int 0, .int 4] (.inl (some (.int 1))) (7, [(0, .ref 165), (1, .int 4)], [.int 1, .ref 165]) rfl (fun _ => rfl)
    · refine xe_sn pg_103 4 (fr' := (6, [(0, .int 4), (1, .int 0), (2, .int 4)], [.int 4])) rfl ?_
      refine xe_sn pg_103 4 (fr' := (15, [(0, .int 4), (1, .int 0), (2, .int 4)], [.int 1])) rfl ?_
      exact xe_end pg_103 rfl
    apply xe_callq pg_158 151 [.ref 165, .int 1] (.inl (some (.int 0))) (10, [(0, .ref 165), (1, .int 4)], [.int 0]) rfl (fun _ => rfl)
    · refine xe_sn pg_151 4 (fr' := (6, [(0, .ref 165), (1, .int 1)], [.int 0, .ref 165])) rfl ?_
      refine xe_sn pg_151 4 (fr' := (21, [(0, .ref 165), (1, .int 1)], [])) rfl ?_
      refine xe_sn pg_151 1 (fr' := (22, [(0, .ref 165), (1, .int 1)], [.int 0])) rfl ?_
      exact xe_end pg_151 rfl
    refine xe_sn pg_158 4 (fr' := (27, [(0, .ref 165), (1, .int 4)], [.int 4])) rfl ?_
    refine xe_sn pg_158 4 (fr' := (40, [(0, .ref 165), (1, .int 4)], [.int 2, .int 4])) rfl ?_
    refine xe_sn pg_158 4 (fr' := (62, [(0, .ref 165), (1, .int 4)], [])) rfl ?_
    refine xe_sn pg_158 1 (fr' := (63, [(0, .ref 165), (1, .int 4)], [.ref 165])) rfl ?_
    apply xe_callq pg_158 157 [.ref 165] (.inl (some (.int 0))) (66, [(0, .ref 165), (1, .int 4)], [.int 0]) rfl (fun _ => rfl)
    · refine xe_sn pg_157 4 (fr' := (4, [(2, .int 0), (1, .int 0), (0, .ref 165)], [])) rfl ?_
      refine xe_sn pg_157 4 (fr' := (10, [(2, .int 0), (1, .int 0), (0, .ref 165)], [.ref 165])) rfl ?_
      refine xe_sn pg_157 4 (fr' := (16, [(2, .int 0), (1, .int 0), (0, .ref 165)], [.int 2, .int 0])) rfl ?_
      refine xe_sn pg_157 4 (fr' := (30, [(2, .int 1), (1, .int 0), (0, .ref 165)], [])) rfl ?_
      refine xe_sn pg_157 4 (fr' := (9, [(2, .int 1), (1, .int 0), (0, .ref 165)], [])) rfl ?_
      refine xe_sn pg_157 4 (fr' := (15, [(2, .int 1), (1, .int 0), (0, .ref 165)], [.int 0])) rfl ?_
      refine xe_sn pg_157 4 (fr' := (27, [(1, .int 0), (2, .int 1), (0, .ref 165)], [])) rfl ?_
      refine xe_sn pg_157 4 (fr' := (6, [(2, .int 2), (1, .int 0), (0, .ref 165)], [.int 4, .int 2])) rfl ?_
      refine xe_sn pg_157 4 (fr' := (14, [(2, .int 2), (1, .int 0), (0, .ref 165)], [.int 2, .ref 167])) rfl ?_
      refine xe_sn pg_157 4 (fr' := (26, [(2, .int 2), (1, .int 0), (0, .ref 165)], [.int 0])) rfl ?_
      refine xe_sn pg_157 4 (fr' := (5, [(2, .int 3), (1, .int 0), (0, .ref 165)], [.int 3])) rfl ?_
      refine xe_sn pg_157 4 (fr' := (13, [(2, .int 3), (1, .int 0), (0, .ref 165)], [.ref 167])) rfl ?_
      refine xe_sn pg_157 4 (fr' := (25, [(2, .int 3), (1, .int 0), (0, .ref 165)], [])) rfl ?_
      refine xe_sn pg_157 4 (fr' := (4, [(2, .int 4), (1, .int 0), (0, .ref 165)], [])) rfl ?_
      refine xe_sn pg_157 4 (fr' := (34, [(2, .int 4), (1, .int 0), (0, .ref 165)], [.int 0])) rfl ?_
      exact xe_end pg_157 rfl
    exact xe_end pg_158 rfl
  · exact ⟨⟨rfl, rfl, rfl, rfl⟩, Nat.le_of_ble_eq_true rfl, Nat.le_of_ble_eq_true rfl, rfl, fun _ => rfl⟩
theorem op_count (xs : Nat → Int32) (p0 : Int32) : op_ok xs 176 158 [.ref 0, .int p0, .ref 189] [.ref 165, .int p0] := by
  by_cases a0 : p0.toInt < 0
  · exact lf_count_0 xs p0 a0
  by_cases b0 : 4 < p0.toInt
  · exact lf_count_1 xs p0 b0
  replace a0 : 0 ≤ p0.toInt := by omega
  replace b0 : p0.toInt ≤ 4 := by omega
  rcases (by omega : p0.toInt = 0 ∨ p0.toInt = 1 ∨ p0.toInt = 2 ∨ p0.toInt = 3 ∨ p0.toInt = 4) with q0 | q0 | q0 | q0 | q0
  · obtain rfl : p0 = 0 := Int32.toInt_inj.mp (q0.trans (by decide))
    exact lf_count_2 xs 
  · obtain rfl : p0 = 1 := Int32.toInt_inj.mp (q0.trans (by decide))
    exact lf_count_3 xs 
  · obtain rfl : p0 = 2 := Int32.toInt_inj.mp (q0.trans (by decide))
    exact lf_count_4 xs 
  · obtain rfl : p0 = 3 := Int32.toInt_inj.mp (q0.trans (by decide))
    exact lf_count_5 xs 
  · obtain rfl : p0 = 4 := Int32.toInt_inj.mp (q0.trans (by decide))
    exact lf_count_6 xs 

