/-! the law's cases -/
set_option maxRecDepth 100000 in
theorem br_truncate {L j : Nat} {xs : Nat → Int32} (hj : 5 * j + 5 ≤ L) (hL : L ≤ 2560) (nx : nxt L j xs) {lv : List (Nat × Value)} {w : xWd} {S : xSt} {V : xVt} {ρ : Nat → Nat → Int64} (hl : LV lv (nI (5 * j))) (ew : w.2.2.2 = (L + 1, xs)) (b1 : w.2.1 ≤ 190 + j) (b2 : w.2.2.1 ≤ 1841 + 6 * j) (R : Rel (100 * j) S V) : fin (421, lv, []) (hv w S V ρ) := by
  obtain ⟨kk, b, w', T, W, ρ', c1, c2, R', t1, t2, e1, e2, e3⟩ := op_truncate (w := w) (ρ := ρ) R (xs (5 * j + 1)) (xs (5 * j + 2))
  have hl5 := hl.s5 (.int kk)
  have hl6 := hl5.s6 (.int b)
  obtain ⟨h9, x9, f1, f2⟩ := nx _ w' T W ρ' hl6 (e1.trans ew) (by omega) (by omega) (R'.mono (by omega))
  have ew' := e1.trans ew
  refine ⟨h9, ?_, f1, f2⟩
  refine la_al pg_177 0 (k := 1) 422 rfl hl.2.2.2.1 ?_
  refine la_arg 1 rfl rfl rfl rfl rfl rfl hl ew (by omega) hL ?_
  refine la_arg 2 rfl rfl rfl rfl rfl rfl hl ew (by omega) hL ?_
  refine la_al pg_177 189 (k := 3) 435 rfl hl.2.1 ?_
  refine xe_callq pg_177 166 [.ref 0, .int (xs (5 * j + 1)), .int (xs (5 * j + 2)), .ref 189] (.inl (some (.int kk))) (438, lv, [.int kk]) rfl (fun _ => rfl) c1 ?_
  refine xe_sn pg_177 1 (fr' := (440, xi_p1 lv 5 (.int kk), [])) rfl ?_
  refine la_al pg_177 165 (k := 2) 441 rfl hl5.2.2.1 ?_
  refine la_arg 1 rfl rfl rfl rfl rfl rfl hl5 ew' (by omega) hL ?_
  refine la_arg 2 rfl rfl rfl rfl rfl rfl hl5 ew' (by omega) hL ?_
  refine xe_callq pg_177 146 [.ref 165, .int (xs (5 * j + 1)), .int (xs (5 * j + 2))] (.inl (some (.int b))) (456, xi_p1 lv 5 (.int kk), [.int b]) rfl (fun _ => rfl) c2 ?_
  refine xe_sn pg_177 1 (fr' := (458, xi_p1 (xi_p1 lv 5 (.int kk)) 6 (.int b), [])) rfl ?_
  refine xe_sn pg_177 1 (fr' := (889, xi_p1 (xi_p1 lv 5 (.int kk)) 6 (.int b), [])) rfl ?_
  exact x9
set_option maxRecDepth 100000 in
theorem br_close {L j : Nat} {xs : Nat → Int32} (hj : 5 * j + 5 ≤ L) (hL : L ≤ 2560) (nx : nxt L j xs) {lv : List (Nat × Value)} {w : xWd} {S : xSt} {V : xVt} {ρ : Nat → Nat → Int64} (hl : LV lv (nI (5 * j))) (ew : w.2.2.2 = (L + 1, xs)) (b1 : w.2.1 ≤ 190 + j) (b2 : w.2.2.1 ≤ 1841 + 6 * j) (R : Rel (100 * j) S V) : fin (461, lv, []) (hv w S V ρ) := by
  obtain ⟨kk, w', T, W, c1, c2, R', t1, e1, e2, e3⟩ := op_close (w := w) (ρ := ρ) R (xs (5 * j + 1))
  have hl5 := hl.s5 (.int kk)
  obtain ⟨h9, x9, f1, f2⟩ := nx _ w' T W ρ hl5 (e1.trans ew) (by omega) (by omega) (R'.mono (by omega))
  have ew' := e1.trans ew
  refine ⟨h9, ?_, f1, f2⟩
  refine la_al pg_177 0 (k := 1) 462 rfl hl.2.2.2.1 ?_
  refine la_arg 1 rfl rfl rfl rfl rfl rfl hl ew (by omega) hL ?_
  refine xe_callq pg_177 167 [.ref 0, .int (xs (5 * j + 1))] (.inl (some (.int kk))) (471, lv, [.int kk]) rfl (fun _ => rfl) c1 ?_
  refine xe_sn pg_177 1 (fr' := (473, xi_p1 lv 5 (.int kk), [])) rfl ?_
  refine la_al pg_177 165 (k := 2) 474 rfl hl5.2.2.1 ?_
  refine la_arg 1 rfl rfl rfl rfl rfl rfl hl5 ew' (by omega) hL ?_
  refine xe_callq pg_177 147 [.ref 165, .int (xs (5 * j + 1))] (.inl none) (483, xi_p1 lv 5 (.int kk), []) rfl (fun _ => rfl) c2 ?_
  refine xe_sn pg_177 1 (fr' := (889, xi_p1 lv 5 (.int kk), [])) rfl ?_
  exact x9
set_option maxRecDepth 100000 in
theorem br_deliver {L j : Nat} {xs : Nat → Int32} (hj : 5 * j + 5 ≤ L) (hL : L ≤ 2560) (nx : nxt L j xs) {lv : List (Nat × Value)} {w : xWd} {S : xSt} {V : xVt} {ρ : Nat → Nat → Int64} (hl : LV lv (nI (5 * j))) (ew : w.2.2.2 = (L + 1, xs)) (b1 : w.2.1 ≤ 190 + j) (b2 : w.2.2.1 ≤ 1841 + 6 * j) (R : Rel (100 * j) S V) : fin (486, lv, []) (hv w S V ρ) := by
  obtain ⟨kk, b, w', T, W, ρ', c1, c2, R', t1, t2, e1, e2, e3⟩ := op_deliver (by omega) (w := w) (ρ := ρ) R (xs (5 * j + 1))
  have hl5 := hl.s5 (.int kk)
  have hl6 := hl5.s6 (.int b)
  obtain ⟨h9, x9, f1, f2⟩ := nx _ w' T W ρ' hl6 (e1.trans ew) (by omega) (by omega) (R'.mono (by omega))
  have ew' := e1.trans ew
  refine ⟨h9, ?_, f1, f2⟩
  refine la_al pg_177 0 (k := 1) 487 rfl hl.2.2.2.1 ?_
  refine la_arg 1 rfl rfl rfl rfl rfl rfl hl ew (by omega) hL ?_
  refine la_al pg_177 189 (k := 3) 494 rfl hl.2.1 ?_
  refine xe_callq pg_177 168 [.ref 0, .int (xs (5 * j + 1)), .ref 189] (.inl (some (.int kk))) (497, lv, [.int kk]) rfl (fun _ => rfl) c1 ?_
  refine xe_sn pg_177 1 (fr' := (499, xi_p1 lv 5 (.int kk), [])) rfl ?_
  refine la_al pg_177 165 (k := 2) 500 rfl hl5.2.2.1 ?_
  refine la_arg 1 rfl rfl rfl rfl rfl rfl hl5 ew' (by omega) hL ?_
  refine xe_callq pg_177 148 [.ref 165, .int (xs (5 * j + 1))] (.inl (some (.int b))) (509, xi_p1 lv 5 (.int kk), [.int b]) rfl (fun _ => rfl) c2 ?_
  refine xe_sn pg_177 1 (fr' := (511, xi_p1 (xi_p1 lv 5 (.int kk)) 6 (.int b), [])) rfl ?_
  refine xe_sn pg_177 1 (fr' := (889, xi_p1 (xi_p1 lv 5 (.int kk)) 6 (.int b), [])) rfl ?_
  exact x9
set_option maxRecDepth 100000 in
theorem br_damage {L j : Nat} {xs : Nat → Int32} (hj : 5 * j + 5 ≤ L) (hL : L ≤ 2560) (nx : nxt L j xs) {lv : List (Nat × Value)} {w : xWd} {S : xSt} {V : xVt} {ρ : Nat → Nat → Int64} (hl : LV lv (nI (5 * j))) (ew : w.2.2.2 = (L + 1, xs)) (b1 : w.2.1 ≤ 190 + j) (b2 : w.2.2.1 ≤ 1841 + 6 * j) (R : Rel (100 * j) S V) : fin (514, lv, []) (hv w S V ρ) := by
  obtain ⟨kk, b, w', T, W, ρ', c1, c2, R', t1, t2, e1, e2, e3⟩ := op_damage (w := w) (ρ := ρ) R (xs (5 * j + 1)) (xs (5 * j + 2)) (xs (5 * j + 3))
  have hl5 := hl.s5 (.int kk)
  have hl6 := hl5.s6 (.int b)
  obtain ⟨h9, x9, f1, f2⟩ := nx _ w' T W ρ' hl6 (e1.trans ew) (by omega) (by omega) (R'.mono (by omega))
  have ew' := e1.trans ew
  refine ⟨h9, ?_, f1, f2⟩
  refine la_al pg_177 0 (k := 1) 515 rfl hl.2.2.2.1 ?_
  refine la_arg 1 rfl rfl rfl rfl rfl rfl hl ew (by omega) hL ?_
  refine la_arg 2 rfl rfl rfl rfl rfl rfl hl ew (by omega) hL ?_
  refine la_arg 3 rfl rfl rfl rfl rfl rfl hl ew (by omega) hL ?_
  refine la_al pg_177 189 (k := 3) 534 rfl hl.2.1 ?_
  refine xe_callq pg_177 169 [.ref 0, .int (xs (5 * j + 1)), .int (xs (5 * j + 2)), .int (xs (5 * j + 3)), .ref 189] (.inl (some (.int kk))) (537, lv, [.int kk]) rfl (fun _ => rfl) c1 ?_
  refine xe_sn pg_177 1 (fr' := (539, xi_p1 lv 5 (.int kk), [])) rfl ?_
  refine la_al pg_177 165 (k := 2) 540 rfl hl5.2.2.1 ?_
  refine la_arg 1 rfl rfl rfl rfl rfl rfl hl5 ew' (by omega) hL ?_
  refine la_arg 2 rfl rfl rfl rfl rfl rfl hl5 ew' (by omega) hL ?_
  refine la_arg 3 rfl rfl rfl rfl rfl rfl hl5 ew' (by omega) hL ?_
  refine xe_callq pg_177 149 [.ref 165, .int (xs (5 * j + 1)), .int (xs (5 * j + 2)), .int (xs (5 * j + 3))] (.inl (some (.int b))) (561, xi_p1 lv 5 (.int kk), [.int b]) rfl (fun _ => rfl) c2 ?_
  refine xe_sn pg_177 1 (fr' := (563, xi_p1 (xi_p1 lv 5 (.int kk)) 6 (.int b), [])) rfl ?_
  refine xe_sn pg_177 1 (fr' := (889, xi_p1 (xi_p1 lv 5 (.int kk)) 6 (.int b), [])) rfl ?_
  exact x9
set_option maxRecDepth 100000 in
theorem br_lose {L j : Nat} {xs : Nat → Int32} (hj : 5 * j + 5 ≤ L) (hL : L ≤ 2560) (nx : nxt L j xs) {lv : List (Nat × Value)} {w : xWd} {S : xSt} {V : xVt} {ρ : Nat → Nat → Int64} (hl : LV lv (nI (5 * j))) (ew : w.2.2.2 = (L + 1, xs)) (b1 : w.2.1 ≤ 190 + j) (b2 : w.2.2.1 ≤ 1841 + 6 * j) (R : Rel (100 * j) S V) : fin (566, lv, []) (hv w S V ρ) := by
  obtain ⟨kk, b, w', T, W, ρ', c1, c2, R', t1, t2, e1, e2, e3⟩ := op_lose (w := w) (ρ := ρ) R (xs (5 * j + 1))
  have hl5 := hl.s5 (.int kk)
  have hl6 := hl5.s6 (.int b)
  obtain ⟨h9, x9, f1, f2⟩ := nx _ w' T W ρ' hl6 (e1.trans ew) (by omega) (by omega) (R'.mono (by omega))
  have ew' := e1.trans ew
  refine ⟨h9, ?_, f1, f2⟩
  refine la_al pg_177 0 (k := 1) 567 rfl hl.2.2.2.1 ?_
  refine la_arg 1 rfl rfl rfl rfl rfl rfl hl ew (by omega) hL ?_
  refine la_al pg_177 189 (k := 3) 574 rfl hl.2.1 ?_
  refine xe_callq pg_177 170 [.ref 0, .int (xs (5 * j + 1)), .ref 189] (.inl (some (.int kk))) (577, lv, [.int kk]) rfl (fun _ => rfl) c1 ?_
  refine xe_sn pg_177 1 (fr' := (579, xi_p1 lv 5 (.int kk), [])) rfl ?_
  refine la_al pg_177 165 (k := 2) 580 rfl hl5.2.2.1 ?_
  refine la_arg 1 rfl rfl rfl rfl rfl rfl hl5 ew' (by omega) hL ?_
  refine xe_callq pg_177 150 [.ref 165, .int (xs (5 * j + 1))] (.inl (some (.int b))) (589, xi_p1 lv 5 (.int kk), [.int b]) rfl (fun _ => rfl) c2 ?_
  refine xe_sn pg_177 1 (fr' := (591, xi_p1 (xi_p1 lv 5 (.int kk)) 6 (.int b), [])) rfl ?_
  refine xe_sn pg_177 1 (fr' := (889, xi_p1 (xi_p1 lv 5 (.int kk)) 6 (.int b), [])) rfl ?_
  exact x9
set_option maxRecDepth 100000 in
theorem br_cell {L j : Nat} {xs : Nat → Int32} (hj : 5 * j + 5 ≤ L) (hL : L ≤ 2560) (nx : nxt L j xs) {lv : List (Nat × Value)} {w : xWd} {S : xSt} {V : xVt} {ρ : Nat → Nat → Int64} (hl : LV lv (nI (5 * j))) (ew : w.2.2.2 = (L + 1, xs)) (b1 : w.2.1 ≤ 190 + j) (b2 : w.2.2.1 ≤ 1841 + 6 * j) (R : Rel (100 * j) S V) : fin (594, lv, []) (hv w S V ρ) := by
  obtain ⟨kk, b, w', T, W, ρ', c1, c2, R', t1, t2, e1, e2, e3⟩ := op_cell (w := w) (ρ := ρ) R (xs (5 * j + 1)) (xs (5 * j + 2))
  have hl5 := hl.s5 (.int kk)
  have hl6 := hl5.s6 (.int b)
  obtain ⟨h9, x9, f1, f2⟩ := nx _ w' T W ρ' hl6 (e1.trans ew) (by omega) (by omega) (R'.mono (by omega))
  have ew' := e1.trans ew
  refine ⟨h9, ?_, f1, f2⟩
  refine la_al pg_177 0 (k := 1) 595 rfl hl.2.2.2.1 ?_
  refine la_arg 1 rfl rfl rfl rfl rfl rfl hl ew (by omega) hL ?_
  refine la_arg 2 rfl rfl rfl rfl rfl rfl hl ew (by omega) hL ?_
  refine la_al pg_177 189 (k := 3) 608 rfl hl.2.1 ?_
  refine xe_callq pg_177 171 [.ref 0, .int (xs (5 * j + 1)), .int (xs (5 * j + 2)), .ref 189] (.inl (some (.int kk))) (611, lv, [.int kk]) rfl (fun _ => rfl) c1 ?_
  refine xe_sn pg_177 1 (fr' := (613, xi_p1 lv 5 (.int kk), [])) rfl ?_
  refine la_al pg_177 165 (k := 2) 614 rfl hl5.2.2.1 ?_
  refine la_arg 1 rfl rfl rfl rfl rfl rfl hl5 ew' (by omega) hL ?_
  refine la_arg 2 rfl rfl rfl rfl rfl rfl hl5 ew' (by omega) hL ?_
  refine xe_callq pg_177 152 [.ref 165, .int (xs (5 * j + 1)), .int (xs (5 * j + 2))] (.inl (some (.int b))) (629, xi_p1 lv 5 (.int kk), [.int b]) rfl (fun _ => rfl) c2 ?_
  refine xe_sn pg_177 1 (fr' := (631, xi_p1 (xi_p1 lv 5 (.int kk)) 6 (.int b), [])) rfl ?_
  refine xe_sn pg_177 1 (fr' := (889, xi_p1 (xi_p1 lv 5 (.int kk)) 6 (.int b), [])) rfl ?_
  exact x9
