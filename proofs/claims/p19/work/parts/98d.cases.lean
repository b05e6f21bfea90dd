/-! the law's cases -/
set_option maxRecDepth 100000 in
theorem br_circuit {L j : Nat} {xs : Nat → Int32} (hj : 5 * j + 5 ≤ L) (hL : L ≤ 2560) (nx : nxt L j xs) {lv : List (Nat × Value)} {w : xWd} {S : xSt} {V : xVt} {ρ : Nat → Nat → Int64} (hl : LV lv (nI (5 * j))) (ew : w.2.2.2 = (L + 1, xs)) (b1 : w.2.1 ≤ 190 + j) (b2 : w.2.2.1 ≤ 1841 + 6 * j) (R : Rel (100 * j) S V) : fin (634, lv, []) (hv w S V ρ) := by
  obtain ⟨kk, b, w', T, W, ρ', c1, c2, R', t1, t2, e1, e2, e3⟩ := op_circuit (w := w) (ρ := ρ) R (xs (5 * j + 1)) (xs (5 * j + 2))
  have hl5 := hl.s5 (.int kk)
  have hl6 := hl5.s6 (.int b)
  obtain ⟨h9, x9, f1, f2⟩ := nx _ w' T W ρ' hl6 (e1.trans ew) (by omega) (by omega) (R'.mono (by omega))
  have ew' := e1.trans ew
  refine ⟨h9, ?_, f1, f2⟩
  refine la_al pg_177 0 (k := 1) 635 rfl hl.2.2.2.1 ?_
  refine la_arg 1 rfl rfl rfl rfl rfl rfl hl ew (by omega) hL ?_
  refine la_arg 2 rfl rfl rfl rfl rfl rfl hl ew (by omega) hL ?_
  refine la_al pg_177 189 (k := 3) 648 rfl hl.2.1 ?_
  refine xe_callq pg_177 172 [.ref 0, .int (xs (5 * j + 1)), .int (xs (5 * j + 2)), .ref 189] (.inl (some (.int kk))) (651, lv, [.int kk]) rfl (fun _ => rfl) c1 ?_
  refine xe_sn pg_177 1 (fr' := (653, xi_p1 lv 5 (.int kk), [])) rfl ?_
  refine la_al pg_177 165 (k := 2) 654 rfl hl5.2.2.1 ?_
  refine la_arg 1 rfl rfl rfl rfl rfl rfl hl5 ew' (by omega) hL ?_
  refine la_arg 2 rfl rfl rfl rfl rfl rfl hl5 ew' (by omega) hL ?_
  refine xe_callq pg_177 153 [.ref 165, .int (xs (5 * j + 1)), .int (xs (5 * j + 2))] (.inl (some (.int b))) (669, xi_p1 lv 5 (.int kk), [.int b]) rfl (fun _ => rfl) c2 ?_
  refine xe_sn pg_177 1 (fr' := (671, xi_p1 (xi_p1 lv 5 (.int kk)) 6 (.int b), [])) rfl ?_
  refine xe_sn pg_177 1 (fr' := (889, xi_p1 (xi_p1 lv 5 (.int kk)) 6 (.int b), [])) rfl ?_
  exact x9
set_option maxRecDepth 100000 in
theorem br_key {L j : Nat} {xs : Nat → Int32} (hj : 5 * j + 5 ≤ L) (hL : L ≤ 2560) (nx : nxt L j xs) {lv : List (Nat × Value)} {w : xWd} {S : xSt} {V : xVt} {ρ : Nat → Nat → Int64} (hl : LV lv (nI (5 * j))) (ew : w.2.2.2 = (L + 1, xs)) (b1 : w.2.1 ≤ 190 + j) (b2 : w.2.2.1 ≤ 1841 + 6 * j) (R : Rel (100 * j) S V) : fin (674, lv, []) (hv w S V ρ) := by
  obtain ⟨kk, b, w', T, W, ρ', c1, c2, R', t1, t2, e1, e2, e3⟩ := op_key (w := w) (ρ := ρ) R (xs (5 * j + 1)) (xs (5 * j + 2)) (xs (5 * j + 3))
  have hl5 := hl.s5 (.int kk)
  have hl6 := hl5.s6 (.int b)
  obtain ⟨h9, x9, f1, f2⟩ := nx _ w' T W ρ' hl6 (e1.trans ew) (by omega) (by omega) (R'.mono (by omega))
  have ew' := e1.trans ew
  refine ⟨h9, ?_, f1, f2⟩
  refine la_al pg_177 0 (k := 1) 675 rfl hl.2.2.2.1 ?_
  refine la_arg 1 rfl rfl rfl rfl rfl rfl hl ew (by omega) hL ?_
  refine la_arg 2 rfl rfl rfl rfl rfl rfl hl ew (by omega) hL ?_
  refine la_arg 3 rfl rfl rfl rfl rfl rfl hl ew (by omega) hL ?_
  refine la_al pg_177 189 (k := 3) 694 rfl hl.2.1 ?_
  refine xe_callq pg_177 173 [.ref 0, .int (xs (5 * j + 1)), .int (xs (5 * j + 2)), .int (xs (5 * j + 3)), .ref 189] (.inl (some (.int kk))) (697, lv, [.int kk]) rfl (fun _ => rfl) c1 ?_
  refine xe_sn pg_177 1 (fr' := (699, xi_p1 lv 5 (.int kk), [])) rfl ?_
  refine la_al pg_177 165 (k := 2) 700 rfl hl5.2.2.1 ?_
  refine la_arg 1 rfl rfl rfl rfl rfl rfl hl5 ew' (by omega) hL ?_
  refine la_arg 2 rfl rfl rfl rfl rfl rfl hl5 ew' (by omega) hL ?_
  refine la_arg 3 rfl rfl rfl rfl rfl rfl hl5 ew' (by omega) hL ?_
  refine xe_callq pg_177 154 [.ref 165, .int (xs (5 * j + 1)), .int (xs (5 * j + 2)), .int (xs (5 * j + 3))] (.inl (some (.int b))) (721, xi_p1 lv 5 (.int kk), [.int b]) rfl (fun _ => rfl) c2 ?_
  refine xe_sn pg_177 1 (fr' := (723, xi_p1 (xi_p1 lv 5 (.int kk)) 6 (.int b), [])) rfl ?_
  refine xe_sn pg_177 1 (fr' := (889, xi_p1 (xi_p1 lv 5 (.int kk)) 6 (.int b), [])) rfl ?_
  exact x9
set_option maxRecDepth 100000 in
theorem br_relay {L j : Nat} {xs : Nat → Int32} (hj : 5 * j + 5 ≤ L) (hL : L ≤ 2560) (nx : nxt L j xs) {lv : List (Nat × Value)} {w : xWd} {S : xSt} {V : xVt} {ρ : Nat → Nat → Int64} (hl : LV lv (nI (5 * j))) (ew : w.2.2.2 = (L + 1, xs)) (b1 : w.2.1 ≤ 190 + j) (b2 : w.2.2.1 ≤ 1841 + 6 * j) (R : Rel (100 * j) S V) : fin (726, lv, []) (hv w S V ρ) := by
  obtain ⟨kk, b, w', T, W, ρ', c1, c2, R', t1, t2, e1, e2, e3⟩ := op_relay (w := w) (ρ := ρ) R (xs (5 * j + 1)) (xs (5 * j + 2)) (xs (5 * j + 3))
  have hl5 := hl.s5 (.int kk)
  have hl6 := hl5.s6 (.int b)
  obtain ⟨h9, x9, f1, f2⟩ := nx _ w' T W ρ' hl6 (e1.trans ew) (by omega) (by omega) (R'.mono (by omega))
  have ew' := e1.trans ew
  refine ⟨h9, ?_, f1, f2⟩
  refine la_al pg_177 0 (k := 1) 727 rfl hl.2.2.2.1 ?_
  refine la_arg 1 rfl rfl rfl rfl rfl rfl hl ew (by omega) hL ?_
  refine la_arg 2 rfl rfl rfl rfl rfl rfl hl ew (by omega) hL ?_
  refine la_arg 3 rfl rfl rfl rfl rfl rfl hl ew (by omega) hL ?_
  refine la_al pg_177 189 (k := 3) 746 rfl hl.2.1 ?_
  refine xe_callq pg_177 174 [.ref 0, .int (xs (5 * j + 1)), .int (xs (5 * j + 2)), .int (xs (5 * j + 3)), .ref 189] (.inl (some (.int kk))) (749, lv, [.int kk]) rfl (fun _ => rfl) c1 ?_
  refine xe_sn pg_177 1 (fr' := (751, xi_p1 lv 5 (.int kk), [])) rfl ?_
  refine la_al pg_177 165 (k := 2) 752 rfl hl5.2.2.1 ?_
  refine la_arg 1 rfl rfl rfl rfl rfl rfl hl5 ew' (by omega) hL ?_
  refine la_arg 2 rfl rfl rfl rfl rfl rfl hl5 ew' (by omega) hL ?_
  refine la_arg 3 rfl rfl rfl rfl rfl rfl hl5 ew' (by omega) hL ?_
  refine xe_callq pg_177 155 [.ref 165, .int (xs (5 * j + 1)), .int (xs (5 * j + 2)), .int (xs (5 * j + 3))] (.inl (some (.int b))) (773, xi_p1 lv 5 (.int kk), [.int b]) rfl (fun _ => rfl) c2 ?_
  refine xe_sn pg_177 1 (fr' := (775, xi_p1 (xi_p1 lv 5 (.int kk)) 6 (.int b), [])) rfl ?_
  refine xe_sn pg_177 1 (fr' := (889, xi_p1 (xi_p1 lv 5 (.int kk)) 6 (.int b), [])) rfl ?_
  exact x9
set_option maxRecDepth 100000 in
theorem br_data {L j : Nat} {xs : Nat → Int32} (hj : 5 * j + 5 ≤ L) (hL : L ≤ 2560) (nx : nxt L j xs) {lv : List (Nat × Value)} {w : xWd} {S : xSt} {V : xVt} {ρ : Nat → Nat → Int64} (hl : LV lv (nI (5 * j))) (ew : w.2.2.2 = (L + 1, xs)) (b1 : w.2.1 ≤ 190 + j) (b2 : w.2.2.1 ≤ 1841 + 6 * j) (R : Rel (100 * j) S V) : fin (778, lv, []) (hv w S V ρ) := by
  obtain ⟨kk, b, w', T, W, ρ', c1, c2, R', t1, t2, e1, e2, e3⟩ := op_data (w := w) (ρ := ρ) R (xs (5 * j + 1)) (xs (5 * j + 2))
  have hl5 := hl.s5 (.int kk)
  have hl6 := hl5.s6 (.int b)
  obtain ⟨h9, x9, f1, f2⟩ := nx _ w' T W ρ' hl6 (e1.trans ew) (by omega) (by omega) (R'.mono (by omega))
  have ew' := e1.trans ew
  refine ⟨h9, ?_, f1, f2⟩
  refine la_al pg_177 0 (k := 1) 779 rfl hl.2.2.2.1 ?_
  refine la_arg 1 rfl rfl rfl rfl rfl rfl hl ew (by omega) hL ?_
  refine la_arg 2 rfl rfl rfl rfl rfl rfl hl ew (by omega) hL ?_
  refine la_al pg_177 189 (k := 3) 792 rfl hl.2.1 ?_
  refine xe_callq pg_177 175 [.ref 0, .int (xs (5 * j + 1)), .int (xs (5 * j + 2)), .ref 189] (.inl (some (.int kk))) (795, lv, [.int kk]) rfl (fun _ => rfl) c1 ?_
  refine xe_sn pg_177 1 (fr' := (797, xi_p1 lv 5 (.int kk), [])) rfl ?_
  refine la_al pg_177 165 (k := 2) 798 rfl hl5.2.2.1 ?_
  refine la_arg 1 rfl rfl rfl rfl rfl rfl hl5 ew' (by omega) hL ?_
  refine la_arg 2 rfl rfl rfl rfl rfl rfl hl5 ew' (by omega) hL ?_
  refine xe_callq pg_177 156 [.ref 165, .int (xs (5 * j + 1)), .int (xs (5 * j + 2))] (.inl (some (.int b))) (813, xi_p1 lv 5 (.int kk), [.int b]) rfl (fun _ => rfl) c2 ?_
  refine xe_sn pg_177 1 (fr' := (815, xi_p1 (xi_p1 lv 5 (.int kk)) 6 (.int b), [])) rfl ?_
  refine xe_sn pg_177 1 (fr' := (889, xi_p1 (xi_p1 lv 5 (.int kk)) 6 (.int b), [])) rfl ?_
  exact x9
set_option maxRecDepth 100000 in
theorem br_count {L j : Nat} {xs : Nat → Int32} (hj : 5 * j + 5 ≤ L) (hL : L ≤ 2560) (nx : nxt L j xs) {lv : List (Nat × Value)} {w : xWd} {S : xSt} {V : xVt} {ρ : Nat → Nat → Int64} (hl : LV lv (nI (5 * j))) (ew : w.2.2.2 = (L + 1, xs)) (b1 : w.2.1 ≤ 190 + j) (b2 : w.2.2.1 ≤ 1841 + 6 * j) (R : Rel (100 * j) S V) : fin (818, lv, []) (hv w S V ρ) := by
  obtain ⟨kk, b, w', T, W, ρ', c1, c2, R', t1, t2, e1, e2, e3⟩ := op_count (w := w) (ρ := ρ) R (xs (5 * j + 1))
  have hl5 := hl.s5 (.int kk)
  have hl6 := hl5.s6 (.int b)
  obtain ⟨h9, x9, f1, f2⟩ := nx _ w' T W ρ' hl6 (e1.trans ew) (by omega) (by omega) (R'.mono (by omega))
  have ew' := e1.trans ew
  refine ⟨h9, ?_, f1, f2⟩
  refine la_al pg_177 0 (k := 1) 819 rfl hl.2.2.2.1 ?_
  refine la_arg 1 rfl rfl rfl rfl rfl rfl hl ew (by omega) hL ?_
  refine la_al pg_177 189 (k := 3) 826 rfl hl.2.1 ?_
  refine xe_callq pg_177 176 [.ref 0, .int (xs (5 * j + 1)), .ref 189] (.inl (some (.int kk))) (829, lv, [.int kk]) rfl (fun _ => rfl) c1 ?_
  refine xe_sn pg_177 1 (fr' := (831, xi_p1 lv 5 (.int kk), [])) rfl ?_
  refine la_al pg_177 165 (k := 2) 832 rfl hl5.2.2.1 ?_
  refine la_arg 1 rfl rfl rfl rfl rfl rfl hl5 ew' (by omega) hL ?_
  refine xe_callq pg_177 158 [.ref 165, .int (xs (5 * j + 1))] (.inl (some (.int b))) (841, xi_p1 lv 5 (.int kk), [.int b]) rfl (fun _ => rfl) c2 ?_
  refine xe_sn pg_177 1 (fr' := (843, xi_p1 (xi_p1 lv 5 (.int kk)) 6 (.int b), [])) rfl ?_
  refine xe_sn pg_177 1 (fr' := (889, xi_p1 (xi_p1 lv 5 (.int kk)) 6 (.int b), [])) rfl ?_
  exact x9
set_option maxRecDepth 100000 in
theorem br_loss {L j : Nat} {xs : Nat → Int32} (hj : 5 * j + 5 ≤ L) (hL : L ≤ 2560) (nx : nxt L j xs) {lv : List (Nat × Value)} {w : xWd} {S : xSt} {V : xVt} {ρ : Nat → Nat → Int64} (hl : LV lv (nI (5 * j))) (ew : w.2.2.2 = (L + 1, xs)) (b1 : w.2.1 ≤ 190 + j) (b2 : w.2.2.1 ≤ 1841 + 6 * j) (R : Rel (100 * j) S V) : fin (846, lv, []) (hv w S V ρ) := by
  have hl5 := hl.d5 (.double (FP.f2d (lossF S.1)))
  have hl7 := hl5.d7 (.double (FP.f2d (lossF V.1)))
  obtain ⟨h9, x9, f1, f2⟩ := nx _ w S (vn V 165 0 0) ρ hl7 ew (by omega) (by omega) ((R.n0 0).mono (by omega))
  refine ⟨h9, ?_, f1, f2⟩
  refine la_al pg_177 0 (k := 1) 847 rfl hl.2.2.2.1 ?_
  refine xe_callq pg_177 90 [.ref 0] (.inl (some (.float (lossF S.1)))) (850, lv, [.float (lossF S.1)]) rfl (fun _ => rfl) (c_loss 11) ?_
  refine xe_f2d pg_177 rfl (lossF_ok _) ?_
  refine xe_sn pg_177 1 (fr' := (853, xi_p2 lv 5 (.double (FP.f2d (lossF S.1))), [])) rfl ?_
  refine la_al pg_177 165 (k := 2) 854 rfl hl5.2.2.1 ?_
  refine xe_callq pg_177 159 [.ref 165] (.inl (some (.float (lossF V.1)))) (857, xi_p2 lv 5 (.double (FP.f2d (lossF S.1))), [.float (lossF V.1)]) rfl (fun _ => rfl) (cg_loss 11) ?_
  refine xe_f2d pg_177 rfl (lossF_ok _) ?_
  refine xe_sn pg_177 1 (fr' := (860, xi_p2 (xi_p2 lv 5 (.double (FP.f2d (lossF S.1)))) 7 (.double (FP.f2d (lossF V.1))), [])) rfl ?_
  refine la_dl pg_177 (FP.f2d (lossF S.1)) (k := 5) 862 rfl (xa_p2 xa_s2 (by decide) rfl) ?_
  refine la_dl pg_177 (FP.f2d (lossF V.1)) (k := 7) 864 rfl xa_s2 ?_
  refine xe_dce pg_177 rfl (by rw [R.1]; exact ls_cmp _) ?_
  refine xe_c1t pg_177 886 rfl rfl (show (0 : Int32) = 0 from rfl) ?_
  refine xe_sn pg_177 1 (fr' := (889, xi_p2 (xi_p2 lv 5 (.double (FP.f2d (lossF S.1)))) 7 (.double (FP.f2d (lossF V.1))), [])) rfl ?_
  exact x9
