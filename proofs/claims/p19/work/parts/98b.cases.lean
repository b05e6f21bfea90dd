/-! the law's cases -/
set_option maxRecDepth 100000 in
theorem br_secret {L j : Nat} {xs : Nat → Int32} (hj : 5 * j + 5 ≤ L) (hL : L ≤ 2560) (nx : nxt L j xs) {lv : List (Nat × Value)} {w : xWd} {S : xSt} {V : xVt} {ρ : Nat → Nat → Int64} (hl : LV lv (nI (5 * j))) (ew : w.2.2.2 = (L + 1, xs)) (b1 : w.2.1 ≤ 190 + j) (b2 : w.2.2.1 ≤ 1841 + 6 * j) (R : Rel (100 * j) S V) : fin (124, lv, []) (hv w S V ρ) := by
  obtain ⟨kk, b, w', T, W, ρ', c1, c2, R', t1, t2, e1, e2, e3⟩ := op_secret (w := w) (ρ := ρ) R (xs (5 * j + 1)) (xs (5 * j + 2))
  have hl5 := hl.s5 (.int kk)
  have hl6 := hl5.s6 (.int b)
  obtain ⟨h9, x9, f1, f2⟩ := nx _ w' T W ρ' hl6 (e1.trans ew) (by omega) (by omega) (R'.mono (by omega))
  have ew' := e1.trans ew
  refine ⟨h9, ?_, f1, f2⟩
  refine la_al pg_177 0 (k := 1) 125 rfl hl.2.2.2.1 ?_
  refine la_arg 1 rfl rfl rfl rfl rfl rfl hl ew (by omega) hL ?_
  refine la_arg 2 rfl rfl rfl rfl rfl rfl hl ew (by omega) hL ?_
  refine la_al pg_177 189 (k := 3) 138 rfl hl.2.1 ?_
  refine xe_callq pg_177 160 [.ref 0, .int (xs (5 * j + 1)), .int (xs (5 * j + 2)), .ref 189] (.inl (some (.int kk))) (141, lv, [.int kk]) rfl (fun _ => rfl) c1 ?_
  refine xe_sn pg_177 1 (fr' := (143, xi_p1 lv 5 (.int kk), [])) rfl ?_
  refine la_al pg_177 165 (k := 2) 144 rfl hl5.2.2.1 ?_
  refine la_arg 1 rfl rfl rfl rfl rfl rfl hl5 ew' (by omega) hL ?_
  refine la_arg 2 rfl rfl rfl rfl rfl rfl hl5 ew' (by omega) hL ?_
  refine xe_callq pg_177 139 [.ref 165, .int (xs (5 * j + 1)), .int (xs (5 * j + 2))] (.inl (some (.int b))) (159, xi_p1 lv 5 (.int kk), [.int b]) rfl (fun _ => rfl) c2 ?_
  refine xe_sn pg_177 1 (fr' := (161, xi_p1 (xi_p1 lv 5 (.int kk)) 6 (.int b), [])) rfl ?_
  refine xe_sn pg_177 1 (fr' := (889, xi_p1 (xi_p1 lv 5 (.int kk)) 6 (.int b), [])) rfl ?_
  exact x9
set_option maxRecDepth 100000 in
theorem br_create {L j : Nat} {xs : Nat → Int32} (hj : 5 * j + 5 ≤ L) (hL : L ≤ 2560) (nx : nxt L j xs) {lv : List (Nat × Value)} {w : xWd} {S : xSt} {V : xVt} {ρ : Nat → Nat → Int64} (hl : LV lv (nI (5 * j))) (ew : w.2.2.2 = (L + 1, xs)) (b1 : w.2.1 ≤ 190 + j) (b2 : w.2.2.1 ≤ 1841 + 6 * j) (R : Rel (100 * j) S V) : fin (164, lv, []) (hv w S V ρ) := by
  obtain ⟨kk, b, w', T, W, ρ', c1, c2, R', t1, t2, e1, e2, e3⟩ := op_create (w := w) (ρ := ρ) R (xs (5 * j + 1)) (xs (5 * j + 2)) (xs (5 * j + 3))
  have hl5 := hl.s5 (.int kk)
  have hl6 := hl5.s6 (.int b)
  obtain ⟨h9, x9, f1, f2⟩ := nx _ w' T W ρ' hl6 (e1.trans ew) (by omega) (by omega) (R'.mono (by omega))
  have ew' := e1.trans ew
  refine ⟨h9, ?_, f1, f2⟩
  refine la_al pg_177 0 (k := 1) 165 rfl hl.2.2.2.1 ?_
  refine la_arg 1 rfl rfl rfl rfl rfl rfl hl ew (by omega) hL ?_
  refine la_arg 2 rfl rfl rfl rfl rfl rfl hl ew (by omega) hL ?_
  refine la_arg 3 rfl rfl rfl rfl rfl rfl hl ew (by omega) hL ?_
  refine la_al pg_177 189 (k := 3) 184 rfl hl.2.1 ?_
  refine xe_callq pg_177 161 [.ref 0, .int (xs (5 * j + 1)), .int (xs (5 * j + 2)), .int (xs (5 * j + 3)), .ref 189] (.inl (some (.int kk))) (187, lv, [.int kk]) rfl (fun _ => rfl) c1 ?_
  refine xe_sn pg_177 1 (fr' := (189, xi_p1 lv 5 (.int kk), [])) rfl ?_
  refine la_al pg_177 165 (k := 2) 190 rfl hl5.2.2.1 ?_
  refine la_arg 1 rfl rfl rfl rfl rfl rfl hl5 ew' (by omega) hL ?_
  refine la_arg 2 rfl rfl rfl rfl rfl rfl hl5 ew' (by omega) hL ?_
  refine la_arg 3 rfl rfl rfl rfl rfl rfl hl5 ew' (by omega) hL ?_
  refine xe_callq pg_177 140 [.ref 165, .int (xs (5 * j + 1)), .int (xs (5 * j + 2)), .int (xs (5 * j + 3))] (.inl (some (.int b))) (211, xi_p1 lv 5 (.int kk), [.int b]) rfl (fun _ => rfl) c2 ?_
  refine xe_sn pg_177 1 (fr' := (213, xi_p1 (xi_p1 lv 5 (.int kk)) 6 (.int b), [])) rfl ?_
  refine xe_sn pg_177 1 (fr' := (889, xi_p1 (xi_p1 lv 5 (.int kk)) 6 (.int b), [])) rfl ?_
  exact x9
set_option maxRecDepth 100000 in
theorem br_extend {L j : Nat} {xs : Nat → Int32} (hj : 5 * j + 5 ≤ L) (hL : L ≤ 2560) (nx : nxt L j xs) {lv : List (Nat × Value)} {w : xWd} {S : xSt} {V : xVt} {ρ : Nat → Nat → Int64} (hl : LV lv (nI (5 * j))) (ew : w.2.2.2 = (L + 1, xs)) (b1 : w.2.1 ≤ 190 + j) (b2 : w.2.2.1 ≤ 1841 + 6 * j) (R : Rel (100 * j) S V) : fin (216, lv, []) (hv w S V ρ) := by
  obtain ⟨kk, b, w', T, W, ρ', c1, c2, R', t1, t2, e1, e2, e3⟩ := op_extend (w := w) (ρ := ρ) R (xs (5 * j + 1)) (xs (5 * j + 2)) (xs (5 * j + 3))
  have hl5 := hl.s5 (.int kk)
  have hl6 := hl5.s6 (.int b)
  obtain ⟨h9, x9, f1, f2⟩ := nx _ w' T W ρ' hl6 (e1.trans ew) (by omega) (by omega) (R'.mono (by omega))
  have ew' := e1.trans ew
  refine ⟨h9, ?_, f1, f2⟩
  refine la_al pg_177 0 (k := 1) 217 rfl hl.2.2.2.1 ?_
  refine la_arg 1 rfl rfl rfl rfl rfl rfl hl ew (by omega) hL ?_
  refine la_arg 2 rfl rfl rfl rfl rfl rfl hl ew (by omega) hL ?_
  refine la_arg 3 rfl rfl rfl rfl rfl rfl hl ew (by omega) hL ?_
  refine la_al pg_177 189 (k := 3) 236 rfl hl.2.1 ?_
  refine xe_callq pg_177 162 [.ref 0, .int (xs (5 * j + 1)), .int (xs (5 * j + 2)), .int (xs (5 * j + 3)), .ref 189] (.inl (some (.int kk))) (239, lv, [.int kk]) rfl (fun _ => rfl) c1 ?_
  refine xe_sn pg_177 1 (fr' := (241, xi_p1 lv 5 (.int kk), [])) rfl ?_
  refine la_al pg_177 165 (k := 2) 242 rfl hl5.2.2.1 ?_
  refine la_arg 1 rfl rfl rfl rfl rfl rfl hl5 ew' (by omega) hL ?_
  refine la_arg 2 rfl rfl rfl rfl rfl rfl hl5 ew' (by omega) hL ?_
  refine la_arg 3 rfl rfl rfl rfl rfl rfl hl5 ew' (by omega) hL ?_
  refine xe_callq pg_177 141 [.ref 165, .int (xs (5 * j + 1)), .int (xs (5 * j + 2)), .int (xs (5 * j + 3))] (.inl (some (.int b))) (263, xi_p1 lv 5 (.int kk), [.int b]) rfl (fun _ => rfl) c2 ?_
  refine xe_sn pg_177 1 (fr' := (265, xi_p1 (xi_p1 lv 5 (.int kk)) 6 (.int b), [])) rfl ?_
  refine xe_sn pg_177 1 (fr' := (889, xi_p1 (xi_p1 lv 5 (.int kk)) 6 (.int b), [])) rfl ?_
  exact x9
set_option maxRecDepth 100000 in
theorem br_begin {L j : Nat} {xs : Nat → Int32} (hj : 5 * j + 5 ≤ L) (hL : L ≤ 2560) (nx : nxt L j xs) {lv : List (Nat × Value)} {w : xWd} {S : xSt} {V : xVt} {ρ : Nat → Nat → Int64} (hl : LV lv (nI (5 * j))) (ew : w.2.2.2 = (L + 1, xs)) (b1 : w.2.1 ≤ 190 + j) (b2 : w.2.2.1 ≤ 1841 + 6 * j) (R : Rel (100 * j) S V) : fin (268, lv, []) (hv w S V ρ) := by
  obtain ⟨kk, w', T, W, c1, c2, R', t1, e1, e2, e3⟩ := op_begin (w := w) (ρ := ρ) R (xs (5 * j + 1)) (xs (5 * j + 2)) (xs (5 * j + 3))
  have hl5 := hl.s5 (.int kk)
  obtain ⟨h9, x9, f1, f2⟩ := nx _ w' T W ρ hl5 (e1.trans ew) (by omega) (by omega) (R'.mono (by omega))
  have ew' := e1.trans ew
  refine ⟨h9, ?_, f1, f2⟩
  refine la_al pg_177 0 (k := 1) 269 rfl hl.2.2.2.1 ?_
  refine la_arg 1 rfl rfl rfl rfl rfl rfl hl ew (by omega) hL ?_
  refine la_arg 2 rfl rfl rfl rfl rfl rfl hl ew (by omega) hL ?_
  refine la_arg 3 rfl rfl rfl rfl rfl rfl hl ew (by omega) hL ?_
  refine xe_callq pg_177 163 [.ref 0, .int (xs (5 * j + 1)), .int (xs (5 * j + 2)), .int (xs (5 * j + 3))] (.inl (some (.int kk))) (290, lv, [.int kk]) rfl (fun _ => rfl) c1 ?_
  refine xe_sn pg_177 1 (fr' := (292, xi_p1 lv 5 (.int kk), [])) rfl ?_
  refine la_al pg_177 165 (k := 2) 293 rfl hl5.2.2.1 ?_
  refine la_arg 1 rfl rfl rfl rfl rfl rfl hl5 ew' (by omega) hL ?_
  refine la_arg 2 rfl rfl rfl rfl rfl rfl hl5 ew' (by omega) hL ?_
  refine la_arg 3 rfl rfl rfl rfl rfl rfl hl5 ew' (by omega) hL ?_
  refine xe_callq pg_177 142 [.ref 165, .int (xs (5 * j + 1)), .int (xs (5 * j + 2)), .int (xs (5 * j + 3))] (.inl none) (314, xi_p1 lv 5 (.int kk), []) rfl (fun _ => rfl) c2 ?_
  refine xe_sn pg_177 1 (fr' := (889, xi_p1 lv 5 (.int kk), [])) rfl ?_
  exact x9
set_option maxRecDepth 100000 in
theorem br_send {L j : Nat} {xs : Nat → Int32} (hj : 5 * j + 5 ≤ L) (hL : L ≤ 2560) (nx : nxt L j xs) {lv : List (Nat × Value)} {w : xWd} {S : xSt} {V : xVt} {ρ : Nat → Nat → Int64} (hl : LV lv (nI (5 * j))) (ew : w.2.2.2 = (L + 1, xs)) (b1 : w.2.1 ≤ 190 + j) (b2 : w.2.2.1 ≤ 1841 + 6 * j) (R : Rel (100 * j) S V) : fin (317, lv, []) (hv w S V ρ) := by
  obtain ⟨kk, b, w', T, W, ρ', c1, c2, R', t1, t2, e1, e2, e3⟩ := op_send (by omega) (w := w) (ρ := ρ) R (xs (5 * j + 1)) (xs (5 * j + 2)) (xs (5 * j + 3)) (xs (5 * j + 4))
  have hl5 := hl.s5 (.int kk)
  have hl6 := hl5.s6 (.int b)
  obtain ⟨h9, x9, f1, f2⟩ := nx _ w' T W ρ' hl6 (e1.trans ew) (by omega) (by omega) (R'.mono (by omega))
  have ew' := e1.trans ew
  refine ⟨h9, ?_, f1, f2⟩
  refine la_al pg_177 0 (k := 1) 318 rfl hl.2.2.2.1 ?_
  refine la_arg 1 rfl rfl rfl rfl rfl rfl hl ew (by omega) hL ?_
  refine la_arg 2 rfl rfl rfl rfl rfl rfl hl ew (by omega) hL ?_
  refine la_arg 3 rfl rfl rfl rfl rfl rfl hl ew (by omega) hL ?_
  refine la_arg 4 rfl rfl rfl rfl rfl rfl hl ew (by omega) hL ?_
  refine la_al pg_177 189 (k := 3) 343 rfl hl.2.1 ?_
  refine xe_callq pg_177 164 [.ref 0, .int (xs (5 * j + 1)), .int (xs (5 * j + 2)), .int (xs (5 * j + 3)), .int (xs (5 * j + 4)), .ref 189] (.inl (some (.int kk))) (346, lv, [.int kk]) rfl (fun _ => rfl) c1 ?_
  refine xe_sn pg_177 1 (fr' := (348, xi_p1 lv 5 (.int kk), [])) rfl ?_
  refine la_al pg_177 165 (k := 2) 349 rfl hl5.2.2.1 ?_
  refine la_arg 1 rfl rfl rfl rfl rfl rfl hl5 ew' (by omega) hL ?_
  refine la_arg 2 rfl rfl rfl rfl rfl rfl hl5 ew' (by omega) hL ?_
  refine la_arg 3 rfl rfl rfl rfl rfl rfl hl5 ew' (by omega) hL ?_
  refine la_arg 4 rfl rfl rfl rfl rfl rfl hl5 ew' (by omega) hL ?_
  refine xe_callq pg_177 143 [.ref 165, .int (xs (5 * j + 1)), .int (xs (5 * j + 2)), .int (xs (5 * j + 3)), .int (xs (5 * j + 4))] (.inl (some (.int b))) (376, xi_p1 lv 5 (.int kk), [.int b]) rfl (fun _ => rfl) c2 ?_
  refine xe_sn pg_177 1 (fr' := (378, xi_p1 (xi_p1 lv 5 (.int kk)) 6 (.int b), [])) rfl ?_
  refine xe_sn pg_177 1 (fr' := (889, xi_p1 (xi_p1 lv 5 (.int kk)) 6 (.int b), [])) rfl ?_
  exact x9
set_option maxRecDepth 100000 in
theorem br_end {L j : Nat} {xs : Nat → Int32} (hj : 5 * j + 5 ≤ L) (hL : L ≤ 2560) (nx : nxt L j xs) {lv : List (Nat × Value)} {w : xWd} {S : xSt} {V : xVt} {ρ : Nat → Nat → Int64} (hl : LV lv (nI (5 * j))) (ew : w.2.2.2 = (L + 1, xs)) (b1 : w.2.1 ≤ 190 + j) (b2 : w.2.2.1 ≤ 1841 + 6 * j) (R : Rel (100 * j) S V) : fin (381, lv, []) (hv w S V ρ) := by
  obtain ⟨kk, b, w', T, W, ρ', c1, c2, R', t1, t2, e1, e2, e3⟩ := op_end (w := w) (ρ := ρ) R (xs (5 * j + 1)) (xs (5 * j + 2))
  have hl5 := hl.s5 (.int kk)
  have hl6 := hl5.s6 (.int b)
  obtain ⟨h9, x9, f1, f2⟩ := nx _ w' T W ρ' hl6 (e1.trans ew) (by omega) (by omega) (R'.mono (by omega))
  have ew' := e1.trans ew
  refine ⟨h9, ?_, f1, f2⟩
  refine la_al pg_177 0 (k := 1) 382 rfl hl.2.2.2.1 ?_
  refine la_arg 1 rfl rfl rfl rfl rfl rfl hl ew (by omega) hL ?_
  refine la_arg 2 rfl rfl rfl rfl rfl rfl hl ew (by omega) hL ?_
  refine la_al pg_177 189 (k := 3) 395 rfl hl.2.1 ?_
  refine xe_callq pg_177 165 [.ref 0, .int (xs (5 * j + 1)), .int (xs (5 * j + 2)), .ref 189] (.inl (some (.int kk))) (398, lv, [.int kk]) rfl (fun _ => rfl) c1 ?_
  refine xe_sn pg_177 1 (fr' := (400, xi_p1 lv 5 (.int kk), [])) rfl ?_
  refine la_al pg_177 165 (k := 2) 401 rfl hl5.2.2.1 ?_
  refine la_arg 1 rfl rfl rfl rfl rfl rfl hl5 ew' (by omega) hL ?_
  refine la_arg 2 rfl rfl rfl rfl rfl rfl hl5 ew' (by omega) hL ?_
  refine xe_callq pg_177 144 [.ref 165, .int (xs (5 * j + 1)), .int (xs (5 * j + 2))] (.inl (some (.int b))) (416, xi_p1 lv 5 (.int kk), [.int b]) rfl (fun _ => rfl) c2 ?_
  refine xe_sn pg_177 1 (fr' := (418, xi_p1 (xi_p1 lv 5 (.int kk)) 6 (.int b), [])) rfl ?_
  refine xe_sn pg_177 1 (fr' := (889, xi_p1 (xi_p1 lv 5 (.int kk)) 6 (.int b), [])) rfl ?_
  exact x9
