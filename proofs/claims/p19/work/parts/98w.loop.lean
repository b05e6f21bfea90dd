/-! the law's loop -/
set_option maxRecDepth 100000 in
theorem lw_sw {L j : Nat} {xs : Nat → Int32} (hj : 5 * j + 5 ≤ L) (hL : L ≤ 2560) (nx : nxt L j xs) {lv : List (Nat × Value)} {w : xWd} {S : xSt} {V : xVt} {ρ : Nat → Nat → Int64} (hl : LV lv (nI (5 * j))) (ew : w.2.2.2 = (L + 1, xs)) (b1 : w.2.1 ≤ 190 + j) (b2 : w.2.2.1 ≤ 1841 + 6 * j) (R : Rel (100 * j) S V) : fin (39, lv, [.int (xs (5 * j) &&& 31)]) (hv w S V ρ) := by
  by_cases q0 : xs (5 * j) &&& 31 = nI 0
  · obtain ⟨h9, x9, f1, f2⟩ := br_secret hj hL nx hl ew b1 b2 R (ρ := ρ)
    exact ⟨h9, xe_sw pg_177 124 q0 rfl x9, f1, f2⟩
  by_cases q1 : xs (5 * j) &&& 31 = nI 1
  · obtain ⟨h9, x9, f1, f2⟩ := br_create hj hL nx hl ew b1 b2 R (ρ := ρ)
    exact ⟨h9, xe_sw pg_177 164 q1 rfl x9, f1, f2⟩
  by_cases q2 : xs (5 * j) &&& 31 = nI 2
  · obtain ⟨h9, x9, f1, f2⟩ := br_extend hj hL nx hl ew b1 b2 R (ρ := ρ)
    exact ⟨h9, xe_sw pg_177 216 q2 rfl x9, f1, f2⟩
  by_cases q3 : xs (5 * j) &&& 31 = nI 3
  · obtain ⟨h9, x9, f1, f2⟩ := br_begin hj hL nx hl ew b1 b2 R (ρ := ρ)
    exact ⟨h9, xe_sw pg_177 268 q3 rfl x9, f1, f2⟩
  by_cases q4 : xs (5 * j) &&& 31 = nI 4
  · obtain ⟨h9, x9, f1, f2⟩ := br_send hj hL nx hl ew b1 b2 R (ρ := ρ)
    exact ⟨h9, xe_sw pg_177 317 q4 rfl x9, f1, f2⟩
  by_cases q5 : xs (5 * j) &&& 31 = nI 5
  · obtain ⟨h9, x9, f1, f2⟩ := br_end hj hL nx hl ew b1 b2 R (ρ := ρ)
    exact ⟨h9, xe_sw pg_177 381 q5 rfl x9, f1, f2⟩
  by_cases q6 : xs (5 * j) &&& 31 = nI 6
  · obtain ⟨h9, x9, f1, f2⟩ := br_truncate hj hL nx hl ew b1 b2 R (ρ := ρ)
    exact ⟨h9, xe_sw pg_177 421 q6 rfl x9, f1, f2⟩
  by_cases q7 : xs (5 * j) &&& 31 = nI 7
  · obtain ⟨h9, x9, f1, f2⟩ := br_close hj hL nx hl ew b1 b2 R (ρ := ρ)
    exact ⟨h9, xe_sw pg_177 461 q7 rfl x9, f1, f2⟩
  by_cases q8 : xs (5 * j) &&& 31 = nI 8
  · obtain ⟨h9, x9, f1, f2⟩ := br_deliver hj hL nx hl ew b1 b2 R (ρ := ρ)
    exact ⟨h9, xe_sw pg_177 486 q8 rfl x9, f1, f2⟩
  by_cases q9 : xs (5 * j) &&& 31 = nI 9
  · obtain ⟨h9, x9, f1, f2⟩ := br_damage hj hL nx hl ew b1 b2 R (ρ := ρ)
    exact ⟨h9, xe_sw pg_177 514 q9 rfl x9, f1, f2⟩
  by_cases q10 : xs (5 * j) &&& 31 = nI 10
  · obtain ⟨h9, x9, f1, f2⟩ := br_lose hj hL nx hl ew b1 b2 R (ρ := ρ)
    exact ⟨h9, xe_sw pg_177 566 q10 rfl x9, f1, f2⟩
  by_cases q11 : xs (5 * j) &&& 31 = nI 11
  · obtain ⟨h9, x9, f1, f2⟩ := br_cell hj hL nx hl ew b1 b2 R (ρ := ρ)
    exact ⟨h9, xe_sw pg_177 594 q11 rfl x9, f1, f2⟩
  by_cases q12 : xs (5 * j) &&& 31 = nI 12
  · obtain ⟨h9, x9, f1, f2⟩ := br_circuit hj hL nx hl ew b1 b2 R (ρ := ρ)
    exact ⟨h9, xe_sw pg_177 634 q12 rfl x9, f1, f2⟩
  by_cases q13 : xs (5 * j) &&& 31 = nI 13
  · obtain ⟨h9, x9, f1, f2⟩ := br_key hj hL nx hl ew b1 b2 R (ρ := ρ)
    exact ⟨h9, xe_sw pg_177 674 q13 rfl x9, f1, f2⟩
  by_cases q14 : xs (5 * j) &&& 31 = nI 14
  · obtain ⟨h9, x9, f1, f2⟩ := br_relay hj hL nx hl ew b1 b2 R (ρ := ρ)
    exact ⟨h9, xe_sw pg_177 726 q14 rfl x9, f1, f2⟩
  by_cases q15 : xs (5 * j) &&& 31 = nI 15
  · obtain ⟨h9, x9, f1, f2⟩ := br_data hj hL nx hl ew b1 b2 R (ρ := ρ)
    exact ⟨h9, xe_sw pg_177 778 q15 rfl x9, f1, f2⟩
  by_cases q16 : xs (5 * j) &&& 31 = nI 16
  · obtain ⟨h9, x9, f1, f2⟩ := br_count hj hL nx hl ew b1 b2 R (ρ := ρ)
    exact ⟨h9, xe_sw pg_177 818 q16 rfl x9, f1, f2⟩
  by_cases q17 : xs (5 * j) &&& 31 = nI 17
  · obtain ⟨h9, x9, f1, f2⟩ := br_loss hj hL nx hl ew b1 b2 R (ρ := ρ)
    exact ⟨h9, xe_sw pg_177 846 q17 rfl x9, f1, f2⟩
  obtain ⟨h9, x9, f1, f2⟩ := nx lv w S V ρ hl ew (by omega) (by omega) (R.mono (by omega))
  refine ⟨h9, xe_tsd pg_177 889 rfl rfl (sw_out 0 17 (by decide) (by decide) (fun y y1 y2 => ?_)) x9, f1, f2⟩
  obtain ⟨k, rfl⟩ : ∃ k : Nat, y = (k : Int) := ⟨y.toNat, by omega⟩
  rcases (show k = 0 ∨ k = 1 ∨ k = 2 ∨ k = 3 ∨ k = 4 ∨ k = 5 ∨ k = 6 ∨ k = 7 ∨ k = 8 ∨ k = 9 ∨ k = 10 ∨ k = 11 ∨ k = 12 ∨ k = 13 ∨ k = 14 ∨ k = 15 ∨ k = 16 ∨ k = 17 by omega) with rfl | rfl | rfl | rfl | rfl | rfl | rfl | rfl | rfl | rfl | rfl | rfl | rfl | rfl | rfl | rfl | rfl | rfl
  · exact q0
  · exact q1
  · exact q2
  · exact q3
  · exact q4
  · exact q5
  · exact q6
  · exact q7
  · exact q8
  · exact q9
  · exact q10
  · exact q11
  · exact q12
  · exact q13
  · exact q14
  · exact q15
  · exact q16
  · exact q17
theorem lw_le {L a : Nat} (hL : L ≤ 2560) (ha : a ≤ 2560) : nI L - nI 5 < nI a ↔ L < a + 5 := by
  rw [Int32.lt_iff_toInt_lt, Int32.toInt_sub, nI_toInt (show L < 2 ^ 31 by omega), nI_toInt (show 5 < 2 ^ 31 by omega), nI_toInt (show a < 2 ^ 31 by omega), Int.bmod_eq_of_le (by omega) (by omega)]
  omega
set_option maxRecDepth 100000 in
theorem lw_lp {L : Nat} {xs : Nat → Int32} (hL : L ≤ 2560) : ∀ (t j : Nat), 5 * (j + t) ≤ L → L < 5 * (j + t) + 5 → ∀ (lv : List (Nat × Value)) (w : xWd) (S : xSt) (V : xVt) (ρ : Nat → Nat → Int64), LV lv (nI (5 * j)) → w.2.2.2 = (L + 1, xs) → w.2.1 ≤ 190 + j → w.2.2.1 ≤ 1841 + 6 * j → Rel (100 * j) S V → fin (23, lv, []) (hv w S V ρ) := by
  intro t
  induction t with
  | zero =>
    intro j j1 j2 lv w S V ρ hl ew b1 b2 R
    have e1 : w.2.2.2.1 = L + 1 := by rw [ew]
    refine ⟨hv w S V ρ, ?_, (show w.2.1 ≤ 5000 by omega), (show w.2.2.1 ≤ 9000 by omega)⟩
    refine la_il pg_177 (nI (5 * j)) (k := 4) 25 rfl hl.1 ?_
    refine la_al pg_177 xi_scr (k := 0) 26 rfl hl.2.2.2.2 ?_
    refine la_len pg_177 (L := L) rfl e1 ?_
    refine xe_sn pg_177 2 (fr' := (29, lv, [.int (nI L - nI 5), .int (nI (5 * j))])) rfl ?_
    refine xe_c2t pg_177 895 rfl rfl ((lw_le hL (by omega)).mpr (by omega)) ?_
    refine xe_sn pg_177 1 (fr' := (896, lv, [.int 1])) rfl ?_
    exact xe_end pg_177 rfl
  | succ t ih =>
    intro j j1 j2 lv w S V ρ hl ew b1 b2 R
    have e1 : w.2.2.2.1 = L + 1 := by rw [ew]
    have e2 : w.2.2.2.2 = xs := by rw [ew]
    have nx : nxt L j xs := by
      intro lv w S V ρ hl ew b1 b2 R
      obtain ⟨h9, x9, f1, f2⟩ := ih (j + 1) (by omega) (by omega) _ w S V ρ (hl.s4 (nI (5 * (j + 1)))) ew b1 b2 R
      refine ⟨h9, ?_, f1, f2⟩
      refine xe_ni pg_177 (5 * j) (5 * (j + 1)) _ rfl hl.1 rfl rfl ?_ ?_
      · show nI (5 * j) + nI 5 = _
        rw [nI_add]
        rfl
      · refine xe_sn pg_177 1 (fr' := (23, xi_p1 lv 4 (.int (nI (5 * (j + 1)))), [])) rfl ?_
        exact x9
    obtain ⟨h9, x9, f1, f2⟩ := lw_sw (by omega) hL nx hl ew b1 b2 R (ρ := ρ)
    refine ⟨h9, ?_, f1, f2⟩
    refine la_il pg_177 (nI (5 * j)) (k := 4) 25 rfl hl.1 ?_
    refine la_al pg_177 xi_scr (k := 0) 26 rfl hl.2.2.2.2 ?_
    refine la_len pg_177 (L := L) rfl e1 ?_
    refine xe_sn pg_177 2 (fr' := (29, lv, [.int (nI L - nI 5), .int (nI (5 * j))])) rfl ?_
    refine xe_c2f pg_177 895 rfl rfl (fun z => absurd ((lw_le hL (by omega)).mp z) (by omega)) ?_
    refine la_al pg_177 xi_scr (k := 0) 33 rfl hl.2.2.2.2 ?_
    refine la_il pg_177 (nI (5 * j)) (k := 4) 35 rfl hl.1 ?_
    refine la_ia pg_177 rfl (by omega) (by show _ < w.2.2.2.1; omega) (by show w.2.2.2.2 _ = xs (5 * j); rw [e2]) ?_
    refine xe_sn pg_177 2 (fr' := (39, lv, [.int (xs (5 * j) &&& 31)])) rfl ?_
    exact x9
