/-! methods as functions: leaves -/
def f_mix (x : Int32) (y : Int32) : Int32 := (((x ^^^ y) * 16777619) ^^^ (ushr ((x ^^^ y) * 16777619) 15))
set_option maxRecDepth 100000 in
theorem c_mix (d : Nat) {w : xWd} {S : xSt} {μ : Nat → Nat → Int32} {ρ : Nat → Nat → Int64} {x : Int32} {y : Int32} {r : Int32} (hE : (f_mix x y) = r) : xc (d) 1 [.int x, .int y] (hz w S μ ρ) (.inl (some (.int r)), hz w S μ ρ) := by
  unfold f_mix at hE
  refine xe_sn pg_1 10 (fr' := (12, [(2, .int ((x ^^^ y) * 16777619)), (0, .int x), (1, .int y)], [.int (ushr ((x ^^^ y) * 16777619) 15), .int ((x ^^^ y) * 16777619)])) rfl ?_
  refine xe_sn pg_1 1 (fr' := (13, [(2, .int ((x ^^^ y) * 16777619)), (0, .int x), (1, .int y)], [.int (((x ^^^ y) * 16777619) ^^^ (ushr ((x ^^^ y) * 16777619) 15))])) rfl ?_
  subst hE
  exact xe_end pg_1 rfl

def f_shared (s : Int32) (t : Int32) (u : Int32) (y : Int32) (n : Int32) : Int32 := (f_mix (f_mix (f_mix (f_mix (f_mix 1234567 s) t) u) y) n)
set_option maxRecDepth 100000 in
theorem c_shared (d : Nat) {w : xWd} {S : xSt} {μ : Nat → Nat → Int32} {ρ : Nat → Nat → Int64} {s : Int32} {t : Int32} {u : Int32} {y : Int32} {n : Int32} {r : Int32} (hE : (f_shared s t u y n) = r) : xc (d + 1) 2 [.int s, .int t, .int u, .int y, .int n] (hz w S μ ρ) (.inl (some (.int r)), hz w S μ ρ) := by
  unfold f_shared at hE
  refine xe_sn pg_2 2 (fr' := (3, [(0, .int s), (1, .int t), (2, .int u), (3, .int y), (4, .int n)], [.int s, .int 1234567])) rfl ?_
  refine xe_callq pg_2 1 [.int 1234567, .int s] (.inl (some (.int (f_mix 1234567 s)))) (6, [(0, .int s), (1, .int t), (2, .int u), (3, .int y), (4, .int n)], [.int (f_mix 1234567 s)]) rfl (fun _ => rfl) (c_mix _ (x := 1234567) (y := s)  rfl) ?_
  refine xe_sn pg_2 3 (fr' := (11, [(5, .int (f_mix 1234567 s)), (0, .int s), (1, .int t), (2, .int u), (3, .int y), (4, .int n)], [.int t, .int (f_mix 1234567 s)])) rfl ?_
  refine xe_callq pg_2 1 [.int (f_mix 1234567 s), .int t] (.inl (some (.int (f_mix (f_mix 1234567 s) t)))) (14, [(5, .int (f_mix 1234567 s)), (0, .int s), (1, .int t), (2, .int u), (3, .int y), (4, .int n)], [.int (f_mix (f_mix 1234567 s) t)]) rfl (fun _ => rfl) (c_mix _ (x := (f_mix 1234567 s)) (y := t)  rfl) ?_
  refine xe_sn pg_2 3 (fr' := (19, [(5, .int (f_mix (f_mix 1234567 s) t)), (0, .int s), (1, .int t), (2, .int u), (3, .int y), (4, .int n)], [.int u, .int (f_mix (f_mix 1234567 s) t)])) rfl ?_
  refine xe_callq pg_2 1 [.int (f_mix (f_mix 1234567 s) t), .int u] (.inl (some (.int (f_mix (f_mix (f_mix 1234567 s) t) u)))) (22, [(5, .int (f_mix (f_mix 1234567 s) t)), (0, .int s), (1, .int t), (2, .int u), (3, .int y), (4, .int n)], [.int (f_mix (f_mix (f_mix 1234567 s) t) u)]) rfl (fun _ => rfl) (c_mix _ (x := (f_mix (f_mix 1234567 s) t)) (y := u)  rfl) ?_
  refine xe_sn pg_2 3 (fr' := (27, [(5, .int (f_mix (f_mix (f_mix 1234567 s) t) u)), (0, .int s), (1, .int t), (2, .int u), (3, .int y), (4, .int n)], [.int y, .int (f_mix (f_mix (f_mix 1234567 s) t) u)])) rfl ?_
  refine xe_callq pg_2 1 [.int (f_mix (f_mix (f_mix 1234567 s) t) u), .int y] (.inl (some (.int (f_mix (f_mix (f_mix (f_mix 1234567 s) t) u) y)))) (30, [(5, .int (f_mix (f_mix (f_mix 1234567 s) t) u)), (0, .int s), (1, .int t), (2, .int u), (3, .int y), (4, .int n)], [.int (f_mix (f_mix (f_mix (f_mix 1234567 s) t) u) y)]) rfl (fun _ => rfl) (c_mix _ (x := (f_mix (f_mix (f_mix 1234567 s) t) u)) (y := y)  rfl) ?_
  refine xe_sn pg_2 3 (fr' := (36, [(5, .int (f_mix (f_mix (f_mix (f_mix 1234567 s) t) u) y)), (0, .int s), (1, .int t), (2, .int u), (3, .int y), (4, .int n)], [.int n, .int (f_mix (f_mix (f_mix (f_mix 1234567 s) t) u) y)])) rfl ?_
  refine xe_callq pg_2 1 [.int (f_mix (f_mix (f_mix (f_mix 1234567 s) t) u) y), .int n] (.inl (some (.int (f_mix (f_mix (f_mix (f_mix (f_mix 1234567 s) t) u) y) n)))) (39, [(5, .int (f_mix (f_mix (f_mix (f_mix 1234567 s) t) u) y)), (0, .int s), (1, .int t), (2, .int u), (3, .int y), (4, .int n)], [.int (f_mix (f_mix (f_mix (f_mix (f_mix 1234567 s) t) u) y) n)]) rfl (fun _ => rfl) (c_mix _ (x := (f_mix (f_mix (f_mix (f_mix 1234567 s) t) u) y)) (y := n)  rfl) ?_
  subst hE
  exact xe_end pg_2 rfl

def f_tag (x : Int32) : Int32 := (ushr x 16)
set_option maxRecDepth 100000 in
theorem c_tag (d : Nat) {w : xWd} {S : xSt} {μ : Nat → Nat → Int32} {ρ : Nat → Nat → Int64} {x : Int32} {r : Int32} (hE : (f_tag x) = r) : xc (d) 3 [.int x] (hz w S μ ρ) (.inl (some (.int r)), hz w S μ ρ) := by
  unfold f_tag at hE
  refine xe_sn pg_3 3 (fr' := (4, [(0, .int x)], [.int (ushr x 16)])) rfl ?_
  subst hE
  exact xe_end pg_3 rfl

def f_isStream (x : Int32) : Int32 := (if x < 1 then (0 : Int32) else (if 3 < x then (0 : Int32) else 1))
set_option maxRecDepth 100000 in
theorem c_isStream (d : Nat) {w : xWd} {S : xSt} {μ : Nat → Nat → Int32} {ρ : Nat → Nat → Int64} {x : Int32} {r : Int32} (hE : (f_isStream x) = r) : xc (d) 100 [.int x] (hz w S μ ρ) (.inl (some (.int r)), hz w S μ ρ) := by
  unfold f_isStream at hE
  refine xe_sn pg_100 2 (fr' := (2, [(0, .int x)], [.int 1, .int x])) rfl ?_
  refine xe_jn (fr' := (15, [(0, .int x)], [.int (if x < 1 then (0 : Int32) else (if 3 < x then (0 : Int32) else 1))])) (fun J1 => ?_) ?_
  · by_cases h1 : x < 1
    · rw [show (if x < 1 then (0 : Int32) else (if 3 < x then (0 : Int32) else 1)) = 0 from if_pos h1] at J1
      refine xe_c2t pg_100 14 rfl rfl h1 ?_
      refine xe_sn pg_100 1 (fr' := (15, [(0, .int x)], [.int 0])) rfl ?_
      exact J1
    · rw [show (if x < 1 then (0 : Int32) else (if 3 < x then (0 : Int32) else 1)) = (if 3 < x then (0 : Int32) else 1) from if_neg h1] at J1
      refine xe_c2f pg_100 14 rfl rfl h1 ?_
      refine xe_sn pg_100 2 (fr' := (7, [(0, .int x)], [.int 3, .int x])) rfl ?_
      refine xe_jn (fr' := (15, [(0, .int x)], [.int (if 3 < x then (0 : Int32) else 1)])) (fun J2 => ?_) ?_
      · by_cases h2 : 3 < x
        · rw [show (if 3 < x then (0 : Int32) else 1) = 0 from if_pos h2] at J2
          refine xe_c2t pg_100 14 rfl rfl h2 ?_
          refine xe_sn pg_100 1 (fr' := (15, [(0, .int x)], [.int 0])) rfl ?_
          exact J2
        · rw [show (if 3 < x then (0 : Int32) else 1) = 1 from if_neg h2] at J2
          refine xe_c2f pg_100 14 rfl rfl h2 ?_
          refine xe_sn pg_100 2 (fr' := (15, [(0, .int x)], [.int 1])) rfl ?_
          exact J2
      exact J1
  subst hE
  exact xe_rb pg_100 rfl rfl (ite_b (Or.inl rfl) (ite_b (Or.inl rfl) (Or.inr rfl)))
theorem b_isStream {x : Int32} {r : Int32} (hE : (f_isStream x) = r) : r = 0 ∨ r = 1 := by
  unfold f_isStream at hE
  subst hE
  exact (ite_b (Or.inl rfl) (ite_b (Or.inl rfl) (Or.inr rfl)))

def f_isByte (x : Int32) : Int32 := (if x < 0 then (0 : Int32) else (if 255 < x then (0 : Int32) else 1))
set_option maxRecDepth 100000 in
theorem c_isByte (d : Nat) {w : xWd} {S : xSt} {μ : Nat → Nat → Int32} {ρ : Nat → Nat → Int64} {x : Int32} {r : Int32} (hE : (f_isByte x) = r) : xc (d) 99 [.int x] (hz w S μ ρ) (.inl (some (.int r)), hz w S μ ρ) := by
  unfold f_isByte at hE
  refine xe_sn pg_99 1 (fr' := (1, [(0, .int x)], [.int x])) rfl ?_
  refine xe_jn (fr' := (16, [(0, .int x)], [.int (if x < 0 then (0 : Int32) else (if 255 < x then (0 : Int32) else 1))])) (fun J1 => ?_) ?_
  · by_cases h1 : x < 0
    · rw [show (if x < 0 then (0 : Int32) else (if 255 < x then (0 : Int32) else 1)) = 0 from if_pos h1] at J1
      refine xe_c1t pg_99 15 rfl rfl h1 ?_
      refine xe_sn pg_99 1 (fr' := (16, [(0, .int x)], [.int 0])) rfl ?_
      exact J1
    · rw [show (if x < 0 then (0 : Int32) else (if 255 < x then (0 : Int32) else 1)) = (if 255 < x then (0 : Int32) else 1) from if_neg h1] at J1
      refine xe_c1f pg_99 15 rfl rfl h1 ?_
      refine xe_sn pg_99 2 (fr' := (8, [(0, .int x)], [.int 255, .int x])) rfl ?_
      refine xe_jn (fr' := (16, [(0, .int x)], [.int (if 255 < x then (0 : Int32) else 1)])) (fun J2 => ?_) ?_
      · by_cases h2 : 255 < x
        · rw [show (if 255 < x then (0 : Int32) else 1) = 0 from if_pos h2] at J2
          refine xe_c2t pg_99 15 rfl rfl h2 ?_
          refine xe_sn pg_99 1 (fr' := (16, [(0, .int x)], [.int 0])) rfl ?_
          exact J2
        · rw [show (if 255 < x then (0 : Int32) else 1) = 1 from if_neg h2] at J2
          refine xe_c2f pg_99 15 rfl rfl h2 ?_
          refine xe_sn pg_99 2 (fr' := (16, [(0, .int x)], [.int 1])) rfl ?_
          exact J2
      exact J1
  subst hE
  exact xe_rb pg_99 rfl rfl (ite_b (Or.inl rfl) (ite_b (Or.inl rfl) (Or.inr rfl)))
theorem b_isByte {x : Int32} {r : Int32} (hE : (f_isByte x) = r) : r = 0 ∨ r = 1 := by
  unfold f_isByte at hE
  subst hE
  exact (ite_b (Or.inl rfl) (ite_b (Or.inl rfl) (Or.inr rfl)))

def f_writeOrder (S : xSt) (κ : Nat) (o : Int32) (s : Int32) (n : Int32) : xSt := (sy (sy (sy S κ 4 o) κ 5 s) κ 6 n)
set_option maxRecDepth 100000 in
theorem c_writeOrder (d : Nat) {w : xWd} {S : xSt} {μ : Nat → Nat → Int32} {ρ : Nat → Nat → Int64} {κ : Nat} {o : Int32} {s : Int32} {n : Int32} (hκ : κ < 22) {r : xSt} (hE : (f_writeOrder S κ o s n) = r) : xc (d) 7 [.ref (ja_L κ), .int o, .int s, .int n] (hz w S μ ρ) (.inl (none), hz w r μ ρ) := by
  unfold f_writeOrder at hE
  refine xe_sn pg_7 1 (fr' := (1, [(0, .ref (ja_L κ)), (1, .int o), (2, .int s), (3, .int n)], [.ref (ja_L κ)])) rfl ?_
  refine xe_gr pg_7 (ja_B κ) rfl rfl rfl (kk1 (k_L hκ)) (r_L0 hκ _) ?_
  refine xe_sn pg_7 2 (fr' := (6, [(0, .ref (ja_L κ)), (1, .int o), (2, .int s), (3, .int n)], [.int o, .int 4, .ref (ja_B κ)])) rfl ?_
  refine ye_iy pg_7 4 rfl (k_B hκ) ⟨by decide, by decide⟩ rfl (l_B hκ (k := 4) (by decide)) ?_
  refine xe_sn pg_7 1 (fr' := (8, [(0, .ref (ja_L κ)), (1, .int o), (2, .int s), (3, .int n)], [.ref (ja_L κ)])) rfl ?_
  refine xe_gr pg_7 (ja_B κ) rfl rfl rfl (kk1 (k_L hκ)) (r_L0 hκ _) ?_
  refine xe_sn pg_7 2 (fr' := (13, [(0, .ref (ja_L κ)), (1, .int o), (2, .int s), (3, .int n)], [.int s, .int 5, .ref (ja_B κ)])) rfl ?_
  refine ye_iy pg_7 5 rfl (k_B hκ) ⟨by decide, by decide⟩ rfl (l_B hκ (k := 5) (by decide)) ?_
  refine xe_sn pg_7 1 (fr' := (15, [(0, .ref (ja_L κ)), (1, .int o), (2, .int s), (3, .int n)], [.ref (ja_L κ)])) rfl ?_
  refine xe_gr pg_7 (ja_B κ) rfl rfl rfl (kk1 (k_L hκ)) (r_L0 hκ _) ?_
  refine xe_sn pg_7 2 (fr' := (21, [(0, .ref (ja_L κ)), (1, .int o), (2, .int s), (3, .int n)], [.int n, .int 6, .ref (ja_B κ)])) rfl ?_
  refine ye_iy pg_7 6 rfl (k_B hκ) ⟨by decide, by decide⟩ rfl (l_B hκ (k := 6) (by decide)) ?_
  subst hE
  exact xe_end pg_7 rfl

def f_pair (S : xSt) (κ : Nat) (k : Nat) : Int32 := (((S.2.1 κ k) <<< ((8 : Int32) &&& 31)) ||| (S.2.1 κ (k + 1)))
set_option maxRecDepth 100000 in
theorem c_pair (d : Nat) {w : xWd} {S : xSt} {μ : Nat → Nat → Int32} {ρ : Nat → Nat → Int64} {κ : Nat} {k : Nat} (hκ : κ < 22) (hk : k < 13) {r : Int32} (hE : (f_pair S κ k) = r) : xc (d) 9 [.ref (ja_L κ), .int (nI k)] (hz w S μ ρ) (.inl (some (.int r)), hz w S μ ρ) := by
  unfold f_pair at hE
  refine xe_sn pg_9 1 (fr' := (1, [(0, .ref (ja_L κ)), (1, .int (nI k))], [.ref (ja_L κ)])) rfl ?_
  refine xe_gr pg_9 (ja_B κ) rfl rfl rfl (kk1 (k_L hκ)) (r_L0 hκ _) ?_
  refine xe_sn pg_9 1 (fr' := (5, [(0, .ref (ja_L κ)), (1, .int (nI k))], [.int (nI k), .ref (ja_B κ)])) rfl ?_
  refine ye_il pg_9 k (S.2.1 κ k) rfl (k_B hκ) (bn (by omega) (by decide)) (bc (n := 14) (by omega) (by decide)) ((l_B hκ (k := k) (by omega)).rd _) ?_
  refine xe_sn pg_9 3 (fr' := (10, [(0, .ref (ja_L κ)), (1, .int (nI k))], [.ref (ja_L κ), .int ((S.2.1 κ k) <<< ((8 : Int32) &&& 31))])) rfl ?_
  refine xe_gr pg_9 (ja_B κ) rfl rfl rfl (kk1 (k_L hκ)) (r_L0 hκ _) ?_
  refine xe_sn pg_9 2 (fr' := (15, [(0, .ref (ja_L κ)), (1, .int (nI k))], [.int 1, .int (nI k), .ref (ja_B κ), .int ((S.2.1 κ k) <<< ((8 : Int32) &&& 31))])) rfl ?_
  refine xe_na pg_9 k 1 (k + 1) rfl (by omega) ?_
  refine ye_il pg_9 (k + 1) (S.2.1 κ (k + 1)) rfl (k_B hκ) (bn (by omega) (by decide)) (bc (n := 14) (by omega) (by decide)) ((l_B hκ (k := (k + 1)) (by omega)).rd _) ?_
  refine xe_sn pg_9 1 (fr' := (18, [(0, .ref (ja_L κ)), (1, .int (nI k))], [.int (((S.2.1 κ k) <<< ((8 : Int32) &&& 31)) ||| (S.2.1 κ (k + 1)))])) rfl ?_
  subst hE
  exact xe_end pg_9 rfl

def f_putPair (S : xSt) (κ : Nat) (k : Nat) (v : Int32) : xSt := (sy (sy S κ k ((ushr v 8) &&& 255)) κ (k + 1) (v &&& 255))
set_option maxRecDepth 100000 in
theorem c_putPair (d : Nat) {w : xWd} {S : xSt} {μ : Nat → Nat → Int32} {ρ : Nat → Nat → Int64} {κ : Nat} {k : Nat} {v : Int32} (hκ : κ < 22) (hk : k < 13) {r : xSt} (hE : (f_putPair S κ k v) = r) : xc (d) 10 [.ref (ja_L κ), .int (nI k), .int v] (hz w S μ ρ) (.inl (none), hz w r μ ρ) := by
  unfold f_putPair at hE
  refine xe_sn pg_10 1 (fr' := (1, [(0, .ref (ja_L κ)), (1, .int (nI k)), (2, .int v)], [.ref (ja_L κ)])) rfl ?_
  refine xe_gr pg_10 (ja_B κ) rfl rfl rfl (kk1 (k_L hκ)) (r_L0 hκ _) ?_
  refine xe_sn pg_10 6 (fr' := (13, [(0, .ref (ja_L κ)), (1, .int (nI k)), (2, .int v)], [.int ((ushr v 8) &&& 255), .int (nI k), .ref (ja_B κ)])) rfl ?_
  refine ye_iy pg_10 k rfl (k_B hκ) (bn (by omega) (by decide)) (bc (n := 14) (by omega) (by decide)) (l_B hκ (k := k) (by omega)) ?_
  refine xe_sn pg_10 1 (fr' := (15, [(0, .ref (ja_L κ)), (1, .int (nI k)), (2, .int v)], [.ref (ja_L κ)])) rfl ?_
  refine xe_gr pg_10 (ja_B κ) rfl rfl rfl (kk1 (k_L hκ)) (r_L0 hκ _) ?_
  refine xe_sn pg_10 2 (fr' := (20, [(0, .ref (ja_L κ)), (1, .int (nI k)), (2, .int v)], [.int 1, .int (nI k), .ref (ja_B κ)])) rfl ?_
  refine xe_na pg_10 k 1 (k + 1) rfl (by omega) ?_
  refine xe_sn pg_10 3 (fr' := (26, [(0, .ref (ja_L κ)), (1, .int (nI k)), (2, .int v)], [.int (v &&& 255), .int (nI (k + 1)), .ref (ja_B κ)])) rfl ?_
  refine ye_iy pg_10 (k + 1) rfl (k_B hκ) (bn (by omega) (by decide)) (bc (n := 14) (by omega) (by decide)) (l_B hκ (k := (k + 1)) (by omega)) ?_
  subst hE
  exact xe_end pg_10 rfl

def f_dataLength (S : xSt) (κ : Nat) : Int32 := (if 7 ≤ (S.2.1 κ 6) then (7 : Int32) else (S.2.1 κ 6))
set_option maxRecDepth 100000 in
theorem c_dataLength (d : Nat) {w : xWd} {S : xSt} {μ : Nat → Nat → Int32} {ρ : Nat → Nat → Int64} {κ : Nat} (hκ : κ < 22) {r : Int32} (hE : (f_dataLength S κ) = r) : xc (d) 11 [.ref (ja_L κ)] (hz w S μ ρ) (.inl (some (.int r)), hz w S μ ρ) := by
  unfold f_dataLength at hE
  refine xe_sn pg_11 1 (fr' := (1, [(0, .ref (ja_L κ))], [.ref (ja_L κ)])) rfl ?_
  refine xe_gr pg_11 (ja_B κ) rfl rfl rfl (kk1 (k_L hκ)) (r_L0 hκ _) ?_
  refine xe_sn pg_11 1 (fr' := (6, [(0, .ref (ja_L κ))], [.int 6, .ref (ja_B κ)])) rfl ?_
  refine ye_il pg_11 6 (S.2.1 κ 6) rfl (k_B hκ) ⟨by decide, by decide⟩ rfl ((l_B hκ (k := 6) (by decide)).rd _) ?_
  refine xe_sn pg_11 1 (fr' := (9, [(0, .ref (ja_L κ))], [.int 7, .int (S.2.1 κ 6)])) rfl ?_
  refine xe_jn (fr' := (24, [(0, .ref (ja_L κ))], [.int (if 7 ≤ (S.2.1 κ 6) then (7 : Int32) else (S.2.1 κ 6))])) (fun J1 => ?_) ?_
  · by_cases h1 : 7 ≤ (S.2.1 κ 6)
    · rw [show (if 7 ≤ (S.2.1 κ 6) then (7 : Int32) else (S.2.1 κ 6)) = 7 from if_pos h1] at J1
      refine xe_c2t pg_11 22 rfl rfl h1 ?_
      refine xe_sn pg_11 1 (fr' := (24, [(0, .ref (ja_L κ))], [.int 7])) rfl ?_
      exact J1
    · rw [show (if 7 ≤ (S.2.1 κ 6) then (7 : Int32) else (S.2.1 κ 6)) = (S.2.1 κ 6) from if_neg h1] at J1
      refine xe_c2f pg_11 22 rfl rfl h1 ?_
      refine xe_sn pg_11 1 (fr' := (13, [(0, .ref (ja_L κ))], [.ref (ja_L κ)])) rfl ?_
      refine xe_gr pg_11 (ja_B κ) rfl rfl rfl (kk1 (k_L hκ)) (r_L0 hκ _) ?_
      refine xe_sn pg_11 1 (fr' := (18, [(0, .ref (ja_L κ))], [.int 6, .ref (ja_B κ)])) rfl ?_
      refine ye_il pg_11 6 (S.2.1 κ 6) rfl (k_B hκ) ⟨by decide, by decide⟩ rfl ((l_B hκ (k := 6) (by decide)).rd _) ?_
      refine xe_sn pg_11 1 (fr' := (24, [(0, .ref (ja_L κ))], [.int (S.2.1 κ 6)])) rfl ?_
      exact J1
  subst hE
  exact xe_end pg_11 rfl

def f_isKnownBy (S : xSt) (κ : Nat) (k : Int32) : Int32 := (if (f_pair S κ 0) = 0 then (if (f_pair S κ 2) = (ushr k 16) then (1 : Int32) else 0) else 0)
set_option maxRecDepth 100000 in
theorem c_isKnownBy (d : Nat) {w : xWd} {S : xSt} {μ : Nat → Nat → Int32} {ρ : Nat → Nat → Int64} {κ : Nat} {k : Int32} (hκ : κ < 22) {r : Int32} (hE : (f_isKnownBy S κ k) = r) : xc (d + 1) 14 [.ref (ja_L κ), .int k] (hz w S μ ρ) (.inl (some (.int r)), hz w S μ ρ) := by
  unfold f_isKnownBy at hE
  refine xe_sn pg_14 2 (fr' := (2, [(0, .ref (ja_L κ)), (1, .int k)], [.int 0, .ref (ja_L κ)])) rfl ?_
  refine xe_cv pg_14 9 pg_9 [.int 0] [] (some (.int (f_pair S κ 0))) rfl rfl rfl rfl ⟨Nat.le_of_ble_eq_true rfl, Nat.le_of_ble_eq_true rfl, Nat.le_of_ble_eq_true rfl⟩ ⟨rfl, rfl⟩ (kk2 (k_L hκ) (by decide)) (c_pair _ (κ := κ) (k := 0) hκ (by omega) rfl) ?_
  refine xe_jn (fr' := (25, [(0, .ref (ja_L κ)), (1, .int k)], [.int (if (f_pair S κ 0) = 0 then (if (f_pair S κ 2) = (ushr k 16) then (1 : Int32) else 0) else 0)])) (fun J1 => ?_) ?_
  · by_cases h1 : (f_pair S κ 0) = 0
    · rw [show (if (f_pair S κ 0) = 0 then (if (f_pair S κ 2) = (ushr k 16) then (1 : Int32) else 0) else 0) = (if (f_pair S κ 2) = (ushr k 16) then (1 : Int32) else 0) from if_pos h1] at J1
      refine xe_c1f pg_14 24 rfl rfl (fun z => z h1) ?_
      refine xe_sn pg_14 2 (fr' := (10, [(0, .ref (ja_L κ)), (1, .int k)], [.int 2, .ref (ja_L κ)])) rfl ?_
      refine xe_cv pg_14 9 pg_9 [.int 2] [] (some (.int (f_pair S κ 2))) rfl rfl rfl rfl ⟨Nat.le_of_ble_eq_true rfl, Nat.le_of_ble_eq_true rfl, Nat.le_of_ble_eq_true rfl⟩ ⟨rfl, rfl⟩ (kk2 (k_L hκ) (by decide)) (c_pair _ (κ := κ) (k := 2) hκ (by omega) rfl) ?_
      refine xe_sn pg_14 3 (fr' := (17, [(0, .ref (ja_L κ)), (1, .int k)], [.int (ushr k 16), .int (f_pair S κ 2)])) rfl ?_
      refine xe_jn (fr' := (25, [(0, .ref (ja_L κ)), (1, .int k)], [.int (if (f_pair S κ 2) = (ushr k 16) then (1 : Int32) else 0)])) (fun J2 => ?_) ?_
      · by_cases h2 : (f_pair S κ 2) = (ushr k 16)
        · rw [show (if (f_pair S κ 2) = (ushr k 16) then (1 : Int32) else 0) = 1 from if_pos h2] at J2
          refine xe_c2f pg_14 24 rfl rfl (fun z => z h2) ?_
          refine xe_sn pg_14 2 (fr' := (25, [(0, .ref (ja_L κ)), (1, .int k)], [.int 1])) rfl ?_
          exact J2
        · rw [show (if (f_pair S κ 2) = (ushr k 16) then (1 : Int32) else 0) = 0 from if_neg h2] at J2
          refine xe_c2t pg_14 24 rfl rfl h2 ?_
          refine xe_sn pg_14 1 (fr' := (25, [(0, .ref (ja_L κ)), (1, .int k)], [.int 0])) rfl ?_
          exact J2
      exact J1
    · rw [show (if (f_pair S κ 0) = 0 then (if (f_pair S κ 2) = (ushr k 16) then (1 : Int32) else 0) else 0) = 0 from if_neg h1] at J1
      refine xe_c1t pg_14 24 rfl rfl h1 ?_
      refine xe_sn pg_14 1 (fr' := (25, [(0, .ref (ja_L κ)), (1, .int k)], [.int 0])) rfl ?_
      exact J1
  subst hE
  exact xe_rb pg_14 rfl rfl (ite_b (ite_b (Or.inr rfl) (Or.inl rfl)) (Or.inl rfl))
theorem b_isKnownBy {S : xSt} {κ : Nat} {k : Int32} {r : Int32} (hE : (f_isKnownBy S κ k) = r) : r = 0 ∨ r = 1 := by
  unfold f_isKnownBy at hE
  subst hE
  exact (ite_b (ite_b (Or.inr rfl) (Or.inl rfl)) (Or.inl rfl))

def f_become (S : xSt) (c : Nat) (s : Nat) (a : Int32) (b : Int32) : xSt := (sx (sx S 173 (3 * c + s) a) 175 (3 * c + s) b)
set_option maxRecDepth 100000 in
theorem c_become (d : Nat) {w : xWd} {S : xSt} {μ : Nat → Nat → Int32} {ρ : Nat → Nat → Int64} {c : Nat} {s : Nat} {a : Int32} {b : Int32} (hc : c < 4) (hs : s < 3) {r : xSt} (hE : (f_become S c s a b) = r) : xc (d) 71 [.ref (ja_S c s), .int a, .int b] (hz w S μ ρ) (.inl (none), hz w r μ ρ) := by
  unfold f_become at hE
  refine xe_sn pg_71 2 (fr' := (2, [(0, .ref (ja_S c s)), (1, .int a), (2, .int b)], [.int a, .ref (ja_S c s)])) rfl ?_
  refine ye_px pg_71 rfl rfl ⟨rfl, rfl⟩ (Or.inl rfl) (kk1 (k_S hc hs)) (show lx _ 0 173 _ from lx_ix (3 * c + s) (l_S hc hs (by decide)) (by omega)) ?_
  refine xe_sn pg_71 2 (fr' := (7, [(0, .ref (ja_S c s)), (1, .int a), (2, .int b)], [.int b, .ref (ja_S c s)])) rfl ?_
  refine ye_px pg_71 rfl rfl ⟨rfl, rfl⟩ (Or.inl rfl) (kk1 (k_S hc hs)) (show lx _ 2 175 _ from lx_ix (3 * c + s) (l_S hc hs (by decide)) (by omega)) ?_
  subst hE
  exact xe_end pg_71 rfl

def f_isLive (S : xSt) (c : Nat) : Int32 := (if (S.1 167 c) = 1 then (1 : Int32) else (if (S.1 167 c) = 2 then (1 : Int32) else 0))
set_option maxRecDepth 100000 in
theorem c_isLive (d : Nat) {w : xWd} {S : xSt} {μ : Nat → Nat → Int32} {ρ : Nat → Nat → Int64} {c : Nat} (hc : c < 4) {r : Int32} (hE : (f_isLive S c) = r) : xc (d) 16 [.ref (ja_C c)] (hz w S μ ρ) (.inl (some (.int r)), hz w S μ ρ) := by
  unfold f_isLive at hE
  refine xe_sn pg_16 1 (fr' := (1, [(0, .ref (ja_C c))], [.ref (ja_C c)])) rfl ?_
  refine ye_gi pg_16 (S.1 167 c) rfl rfl rfl (kk1 (k_C hc)) ((l_C5 hc).rd _) ?_
  refine xe_sn pg_16 1 (fr' := (5, [(0, .ref (ja_C c))], [.int 1, .int (S.1 167 c)])) rfl ?_
  refine xe_jn (fr' := (21, [(0, .ref (ja_C c))], [.int (if (S.1 167 c) = 1 then (1 : Int32) else (if (S.1 167 c) = 2 then (1 : Int32) else 0))])) (fun J1 => ?_) ?_
  · by_cases h1 : (S.1 167 c) = 1
    · rw [show (if (S.1 167 c) = 1 then (1 : Int32) else (if (S.1 167 c) = 2 then (1 : Int32) else 0)) = 1 from if_pos h1] at J1
      refine xe_c2t pg_16 16 rfl rfl h1 ?_
      refine xe_sn pg_16 2 (fr' := (21, [(0, .ref (ja_C c))], [.int 1])) rfl ?_
      exact J1
    · rw [show (if (S.1 167 c) = 1 then (1 : Int32) else (if (S.1 167 c) = 2 then (1 : Int32) else 0)) = (if (S.1 167 c) = 2 then (1 : Int32) else 0) from if_neg h1] at J1
      refine xe_c2f pg_16 16 rfl rfl h1 ?_
      refine xe_sn pg_16 1 (fr' := (9, [(0, .ref (ja_C c))], [.ref (ja_C c)])) rfl ?_
      refine ye_gi pg_16 (S.1 167 c) rfl rfl rfl (kk1 (k_C hc)) ((l_C5 hc).rd _) ?_
      refine xe_sn pg_16 1 (fr' := (13, [(0, .ref (ja_C c))], [.int 2, .int (S.1 167 c)])) rfl ?_
      refine xe_jn (fr' := (21, [(0, .ref (ja_C c))], [.int (if (S.1 167 c) = 2 then (1 : Int32) else 0)])) (fun J2 => ?_) ?_
      · by_cases h2 : (S.1 167 c) = 2
        · rw [show (if (S.1 167 c) = 2 then (1 : Int32) else 0) = 1 from if_pos h2] at J2
          refine xe_c2f pg_16 20 rfl rfl (fun z => z h2) ?_
          refine xe_sn pg_16 2 (fr' := (21, [(0, .ref (ja_C c))], [.int 1])) rfl ?_
          exact J2
        · rw [show (if (S.1 167 c) = 2 then (1 : Int32) else 0) = 0 from if_neg h2] at J2
          refine xe_c2t pg_16 20 rfl rfl h2 ?_
          refine xe_sn pg_16 1 (fr' := (21, [(0, .ref (ja_C c))], [.int 0])) rfl ?_
          exact J2
      exact J1
  subst hE
  exact xe_rb pg_16 rfl rfl (ite_b (Or.inr rfl) (ite_b (Or.inr rfl) (Or.inl rfl)))
theorem b_isLive {S : xSt} {c : Nat} {r : Int32} (hE : (f_isLive S c) = r) : r = 0 ∨ r = 1 := by
  unfold f_isLive at hE
  subst hE
  exact (ite_b (Or.inr rfl) (ite_b (Or.inr rfl) (Or.inl rfl)))

def f_hasHop (S : xSt) (c : Nat) (k : Int32) : Int32 := (if k < 0 then (0 : Int32) else (if (S.1 168 c) ≤ k then (0 : Int32) else 1))
set_option maxRecDepth 100000 in
theorem c_hasHop (d : Nat) {w : xWd} {S : xSt} {μ : Nat → Nat → Int32} {ρ : Nat → Nat → Int64} {c : Nat} {k : Int32} (hc : c < 4) {r : Int32} (hE : (f_hasHop S c k) = r) : xc (d) 17 [.ref (ja_C c), .int k] (hz w S μ ρ) (.inl (some (.int r)), hz w S μ ρ) := by
  unfold f_hasHop at hE
  refine xe_sn pg_17 1 (fr' := (1, [(0, .ref (ja_C c)), (1, .int k)], [.int k])) rfl ?_
  refine xe_jn (fr' := (17, [(0, .ref (ja_C c)), (1, .int k)], [.int (if k < 0 then (0 : Int32) else (if (S.1 168 c) ≤ k then (0 : Int32) else 1))])) (fun J1 => ?_) ?_
  · by_cases h1 : k < 0
    · rw [show (if k < 0 then (0 : Int32) else (if (S.1 168 c) ≤ k then (0 : Int32) else 1)) = 0 from if_pos h1] at J1
      refine xe_c1t pg_17 16 rfl rfl h1 ?_
      refine xe_sn pg_17 1 (fr' := (17, [(0, .ref (ja_C c)), (1, .int k)], [.int 0])) rfl ?_
      exact J1
    · rw [show (if k < 0 then (0 : Int32) else (if (S.1 168 c) ≤ k then (0 : Int32) else 1)) = (if (S.1 168 c) ≤ k then (0 : Int32) else 1) from if_neg h1] at J1
      refine xe_c1f pg_17 16 rfl rfl h1 ?_
      refine xe_sn pg_17 2 (fr' := (6, [(0, .ref (ja_C c)), (1, .int k)], [.ref (ja_C c), .int k])) rfl ?_
      refine ye_gi pg_17 (S.1 168 c) rfl rfl rfl (kk1 (k_C hc)) ((l_C6 hc).rd _) ?_
      refine xe_jn (fr' := (17, [(0, .ref (ja_C c)), (1, .int k)], [.int (if (S.1 168 c) ≤ k then (0 : Int32) else 1)])) (fun J2 => ?_) ?_
      · by_cases h2 : (S.1 168 c) ≤ k
        · rw [show (if (S.1 168 c) ≤ k then (0 : Int32) else 1) = 0 from if_pos h2] at J2
          refine xe_c2t pg_17 16 rfl rfl h2 ?_
          refine xe_sn pg_17 1 (fr' := (17, [(0, .ref (ja_C c)), (1, .int k)], [.int 0])) rfl ?_
          exact J2
        · rw [show (if (S.1 168 c) ≤ k then (0 : Int32) else 1) = 1 from if_neg h2] at J2
          refine xe_c2f pg_17 16 rfl rfl h2 ?_
          refine xe_sn pg_17 2 (fr' := (17, [(0, .ref (ja_C c)), (1, .int k)], [.int 1])) rfl ?_
          exact J2
      exact J1
  subst hE
  exact xe_rb pg_17 rfl rfl (ite_b (Or.inl rfl) (ite_b (Or.inl rfl) (Or.inr rfl)))
theorem b_hasHop {S : xSt} {c : Nat} {k : Int32} {r : Int32} (hE : (f_hasHop S c k) = r) : r = 0 ∨ r = 1 := by
  unfold f_hasHop at hE
  subst hE
  exact (ite_b (Or.inl rfl) (ite_b (Or.inl rfl) (Or.inr rfl)))

def f_waitFor (S : xSt) (c : Nat) (rl : Int32) (x : Int32) : xSt := (sx (sx (sx S 167 c 1) 171 c rl) 172 c x)
set_option maxRecDepth 100000 in
theorem c_waitFor (d : Nat) {w : xWd} {S : xSt} {μ : Nat → Nat → Int32} {ρ : Nat → Nat → Int64} {c : Nat} {rl : Int32} {x : Int32} (hc : c < 4) {r : xSt} (hE : (f_waitFor S c rl x) = r) : xc (d) 21 [.ref (ja_C c), .int rl, .int x] (hz w S μ ρ) (.inl (none), hz w r μ ρ) := by
  unfold f_waitFor at hE
  refine xe_sn pg_21 2 (fr' := (2, [(0, .ref (ja_C c)), (1, .int rl), (2, .int x)], [.int 1, .ref (ja_C c)])) rfl ?_
  refine ye_px pg_21 rfl rfl ⟨rfl, rfl⟩ (Or.inl rfl) (kk1 (k_C hc)) (l_C5 hc) ?_
  refine xe_sn pg_21 2 (fr' := (7, [(0, .ref (ja_C c)), (1, .int rl), (2, .int x)], [.int rl, .ref (ja_C c)])) rfl ?_
  refine ye_px pg_21 rfl rfl ⟨rfl, rfl⟩ (Or.inl rfl) (kk1 (k_C hc)) (l_C7 hc) ?_
  refine xe_sn pg_21 2 (fr' := (12, [(0, .ref (ja_C c)), (1, .int rl), (2, .int x)], [.int x, .ref (ja_C c)])) rfl ?_
  refine ye_px pg_21 rfl rfl ⟨rfl, rfl⟩ (Or.inl rfl) (kk1 (k_C hc)) (l_C8 hc) ?_
  subst hE
  exact xe_end pg_21 rfl

def f_firstRelay (S : xSt) (c : Nat) : Int32 := (if (S.1 168 c) ≤ 0 then (S.1 171 c) else (S.1 169 (3 * c)))
set_option maxRecDepth 100000 in
theorem c_firstRelay (d : Nat) {w : xWd} {S : xSt} {μ : Nat → Nat → Int32} {ρ : Nat → Nat → Int64} {c : Nat} (hc : c < 4) {r : Int32} (hE : (f_firstRelay S c) = r) : xc (d) 28 [.ref (ja_C c)] (hz w S μ ρ) (.inl (some (.int r)), hz w S μ ρ) := by
  unfold f_firstRelay at hE
  refine xe_sn pg_28 1 (fr' := (1, [(0, .ref (ja_C c))], [.ref (ja_C c)])) rfl ?_
  refine ye_gi pg_28 (S.1 168 c) rfl rfl rfl (kk1 (k_C hc)) ((l_C6 hc).rd _) ?_
  refine xe_jn (fr' := (20, [(0, .ref (ja_C c))], [.int (if (S.1 168 c) ≤ 0 then (S.1 171 c) else (S.1 169 (3 * c)))])) (fun J1 => ?_) ?_
  · by_cases h1 : (S.1 168 c) ≤ 0
    · rw [show (if (S.1 168 c) ≤ 0 then (S.1 171 c) else (S.1 169 (3 * c))) = (S.1 171 c) from if_pos h1] at J1
      refine xe_c1t pg_28 16 rfl rfl h1 ?_
      refine xe_sn pg_28 1 (fr' := (17, [(0, .ref (ja_C c))], [.ref (ja_C c)])) rfl ?_
      refine ye_gi pg_28 (S.1 171 c) rfl rfl rfl (kk1 (k_C hc)) ((l_C7 hc).rd _) ?_
      exact J1
    · rw [show (if (S.1 168 c) ≤ 0 then (S.1 171 c) else (S.1 169 (3 * c))) = (S.1 169 (3 * c)) from if_neg h1] at J1
      refine xe_c1f pg_28 16 rfl rfl h1 ?_
      refine xe_sn pg_28 1 (fr' := (8, [(0, .ref (ja_C c))], [.ref (ja_C c)])) rfl ?_
      refine xe_gr pg_28 (ja_H c) rfl rfl rfl (kk1 (k_C hc)) (r_C0 hc _) ?_
      refine xe_sn pg_28 1 (fr' := (12, [(0, .ref (ja_C c))], [.int 0, .ref (ja_H c)])) rfl ?_
      refine ye_il pg_28 0 (S.1 169 (3 * c)) rfl (k_H hc) ⟨by decide, by decide⟩ rfl ((lx_ix (3 * c) (l_H hc (k := 0) (by decide)) (by omega)).rd _) ?_
      refine xe_sn pg_28 1 (fr' := (20, [(0, .ref (ja_C c))], [.int (S.1 169 (3 * c))])) rfl ?_
      exact J1
  subst hE
  exact xe_end pg_28 rfl

def f_becomeReady (S : xSt) (c : Nat) : xSt := (sx (sx S 167 c 2) 171 c (-1))
set_option maxRecDepth 100000 in
theorem c_becomeReady (d : Nat) {w : xWd} {S : xSt} {μ : Nat → Nat → Int32} {ρ : Nat → Nat → Int64} {c : Nat} (hc : c < 4) {r : xSt} (hE : (f_becomeReady S c) = r) : xc (d) 36 [.ref (ja_C c)] (hz w S μ ρ) (.inl (none), hz w r μ ρ) := by
  unfold f_becomeReady at hE
  refine xe_sn pg_36 2 (fr' := (2, [(0, .ref (ja_C c))], [.int 2, .ref (ja_C c)])) rfl ?_
  refine ye_px pg_36 rfl rfl ⟨rfl, rfl⟩ (Or.inl rfl) (kk1 (k_C hc)) (l_C5 hc) ?_
  refine xe_sn pg_36 2 (fr' := (7, [(0, .ref (ja_C c))], [.int (-1), .ref (ja_C c)])) rfl ?_
  refine ye_px pg_36 rfl rfl ⟨rfl, rfl⟩ (Or.inl rfl) (kk1 (k_C hc)) (l_C7 hc) ?_
  subst hE
  exact xe_end pg_36 rfl

def f_next (S : xSt) (i : Nat) (c : Nat) : Int32 := (if (S.1 182 (4 * i + c)) = (-1) then (S.1 183 (4 * i + c)) else (S.1 182 (4 * i + c)))
set_option maxRecDepth 100000 in
theorem c_next (d : Nat) {w : xWd} {S : xSt} {μ : Nat → Nat → Int32} {ρ : Nat → Nat → Int64} {i : Nat} {c : Nat} (hi : i < 4) (hc : c < 4) {r : Int32} (hE : (f_next S i c) = r) : xc (d) 44 [.ref (ja_P i c)] (hz w S μ ρ) (.inl (some (.int r)), hz w S μ ρ) := by
  unfold f_next at hE
  refine xe_sn pg_44 1 (fr' := (1, [(0, .ref (ja_P i c))], [.ref (ja_P i c)])) rfl ?_
  refine ye_gi pg_44 (S.1 182 (4 * i + c)) rfl rfl rfl (kk1 (k_P hi hc)) ((show lx _ 4 182 _ from lx_ix (4 * i + c) (l_P hi hc (by decide) (by decide)) (by omega)).rd _) ?_
  refine xe_sn pg_44 1 (fr' := (5, [(0, .ref (ja_P i c))], [.int (-1), .int (S.1 182 (4 * i + c))])) rfl ?_
  refine xe_jn (fr' := (19, [(0, .ref (ja_P i c))], [.int (if (S.1 182 (4 * i + c)) = (-1) then (S.1 183 (4 * i + c)) else (S.1 182 (4 * i + c)))])) (fun J1 => ?_) ?_
  · by_cases h1 : (S.1 182 (4 * i + c)) = (-1)
    · rw [show (if (S.1 182 (4 * i + c)) = (-1) then (S.1 183 (4 * i + c)) else (S.1 182 (4 * i + c))) = (S.1 183 (4 * i + c)) from if_pos h1] at J1
      refine xe_c2t pg_44 15 rfl rfl h1 ?_
      refine xe_sn pg_44 1 (fr' := (16, [(0, .ref (ja_P i c))], [.ref (ja_P i c)])) rfl ?_
      refine ye_gi pg_44 (S.1 183 (4 * i + c)) rfl rfl rfl (kk1 (k_P hi hc)) ((show lx _ 5 183 _ from lx_ix (4 * i + c) (l_P hi hc (by decide) (by decide)) (by omega)).rd _) ?_
      exact J1
    · rw [show (if (S.1 182 (4 * i + c)) = (-1) then (S.1 183 (4 * i + c)) else (S.1 182 (4 * i + c))) = (S.1 182 (4 * i + c)) from if_neg h1] at J1
      refine xe_c2f pg_44 15 rfl rfl h1 ?_
      refine xe_sn pg_44 1 (fr' := (9, [(0, .ref (ja_P i c))], [.ref (ja_P i c)])) rfl ?_
      refine ye_gi pg_44 (S.1 182 (4 * i + c)) rfl rfl rfl (kk1 (k_P hi hc)) ((show lx _ 4 182 _ from lx_ix (4 * i + c) (l_P hi hc (by decide) (by decide)) (by omega)).rd _) ?_
      refine xe_sn pg_44 1 (fr' := (19, [(0, .ref (ja_P i c))], [.int (S.1 182 (4 * i + c))])) rfl ?_
      exact J1
  subst hE
  exact xe_end pg_44 rfl

def f_vanish (S : xSt) (i : Nat) (c : Nat) : xSt := (sx (sx (sx (sx (sx (sx (sx (sx (sx (sx (sx S 180 (4 * i + c) 0) 181 (4 * i + c) (-1)) 182 (4 * i + c) (-1)) 183 (4 * i + c) (-1)) 184 (16 * i + 4 * c) 0) 184 (16 * i + 4 * c + 1) 0) 184 (16 * i + 4 * c + 2) 0) 184 (16 * i + 4 * c + 3) 0) 185 (12 * i + 3 * c) 0) 185 (12 * i + 3 * c + 1) 0) 185 (12 * i + 3 * c + 2) 0)
set_option maxRecDepth 100000 in
theorem c_vanish (d : Nat) {w : xWd} {S : xSt} {μ : Nat → Nat → Int32} {ρ : Nat → Nat → Int64} {i : Nat} {c : Nat} (hi : i < 4) (hc : c < 4) {r : xSt} (hE : (f_vanish S i c) = r) : xc (d) 43 [.ref (ja_P i c)] (hz w S μ ρ) (.inl (none), hz w r μ ρ) := by
  unfold f_vanish at hE
  refine xe_sn pg_43 2 (fr' := (2, [(0, .ref (ja_P i c))], [.int 0, .ref (ja_P i c)])) rfl ?_
  refine ye_px pg_43 rfl rfl ⟨rfl, rfl⟩ (Or.inr (Or.inl rfl)) (kk1 (k_P hi hc)) (show lx _ 2 180 _ from lx_ix (4 * i + c) (l_P hi hc (by decide) (by decide)) (by omega)) ?_
  refine xe_sn pg_43 2 (fr' := (7, [(0, .ref (ja_P i c))], [.int (-1), .ref (ja_P i c)])) rfl ?_
  refine ye_px pg_43 rfl rfl ⟨rfl, rfl⟩ (Or.inl rfl) (kk1 (k_P hi hc)) (show lx _ 3 181 _ from lx_ix (4 * i + c) (l_P hi hc (by decide) (by decide)) (by omega)) ?_
  refine xe_sn pg_43 2 (fr' := (12, [(0, .ref (ja_P i c))], [.int (-1), .ref (ja_P i c)])) rfl ?_
  refine ye_px pg_43 rfl rfl ⟨rfl, rfl⟩ (Or.inl rfl) (kk1 (k_P hi hc)) (show lx _ 4 182 _ from lx_ix (4 * i + c) (l_P hi hc (by decide) (by decide)) (by omega)) ?_
  refine xe_sn pg_43 2 (fr' := (17, [(0, .ref (ja_P i c))], [.int (-1), .ref (ja_P i c)])) rfl ?_
  refine ye_px pg_43 rfl rfl ⟨rfl, rfl⟩ (Or.inl rfl) (kk1 (k_P hi hc)) (show lx _ 5 183 _ from lx_ix (4 * i + c) (l_P hi hc (by decide) (by decide)) (by omega)) ?_
  refine xe_sn pg_43 6 (fr' := (28, [(1, .int 0), (0, .ref (ja_P i c))], [.ref (ja_P i c)])) rfl ?_
  refine xe_gr pg_43 (ja_K i c) rfl rfl rfl (kk1 (k_P hi hc)) (r_P0 hi hc _) ?_
  refine xe_sn pg_43 2 (fr' := (33, [(1, .int 0), (0, .ref (ja_P i c))], [.int 0, .int 0, .ref (ja_K i c)])) rfl ?_
  refine ye_is pg_43 0 rfl (k_K hi hc) ⟨by decide, by decide⟩ rfl (lx_ix (16 * i + 4 * c) (l_K hi hc (k := 0) (by decide)) (by omega)) ?_
  refine xe_sn pg_43 2 (fr' := (22, [(1, .int 1), (0, .ref (ja_P i c))], [])) rfl ?_
  refine xe_sn pg_43 4 (fr' := (28, [(1, .int 1), (0, .ref (ja_P i c))], [.ref (ja_P i c)])) rfl ?_
  refine xe_gr pg_43 (ja_K i c) rfl rfl rfl (kk1 (k_P hi hc)) (r_P0 hi hc _) ?_
  refine xe_sn pg_43 2 (fr' := (33, [(1, .int 1), (0, .ref (ja_P i c))], [.int 0, .int 1, .ref (ja_K i c)])) rfl ?_
  refine ye_is pg_43 1 rfl (k_K hi hc) ⟨by decide, by decide⟩ rfl (lx_ix (16 * i + 4 * c + 1) (l_K hi hc (k := 1) (by decide)) (by omega)) ?_
  refine xe_sn pg_43 2 (fr' := (22, [(1, .int 2), (0, .ref (ja_P i c))], [])) rfl ?_
  refine xe_sn pg_43 4 (fr' := (28, [(1, .int 2), (0, .ref (ja_P i c))], [.ref (ja_P i c)])) rfl ?_
  refine xe_gr pg_43 (ja_K i c) rfl rfl rfl (kk1 (k_P hi hc)) (r_P0 hi hc _) ?_
  refine xe_sn pg_43 2 (fr' := (33, [(1, .int 2), (0, .ref (ja_P i c))], [.int 0, .int 2, .ref (ja_K i c)])) rfl ?_
  refine ye_is pg_43 2 rfl (k_K hi hc) ⟨by decide, by decide⟩ rfl (lx_ix (16 * i + 4 * c + 2) (l_K hi hc (k := 2) (by decide)) (by omega)) ?_
  refine xe_sn pg_43 2 (fr' := (22, [(1, .int 3), (0, .ref (ja_P i c))], [])) rfl ?_
  refine xe_sn pg_43 4 (fr' := (28, [(1, .int 3), (0, .ref (ja_P i c))], [.ref (ja_P i c)])) rfl ?_
  refine xe_gr pg_43 (ja_K i c) rfl rfl rfl (kk1 (k_P hi hc)) (r_P0 hi hc _) ?_
  refine xe_sn pg_43 2 (fr' := (33, [(1, .int 3), (0, .ref (ja_P i c))], [.int 0, .int 3, .ref (ja_K i c)])) rfl ?_
  refine ye_is pg_43 3 rfl (k_K hi hc) ⟨by decide, by decide⟩ rfl (lx_ix (16 * i + 4 * c + 3) (l_K hi hc (k := 3) (by decide)) (by omega)) ?_
  refine xe_sn pg_43 2 (fr' := (22, [(1, .int 4), (0, .ref (ja_P i c))], [])) rfl ?_
  refine xe_sn pg_43 9 (fr' := (48, [(1, .int 0), (0, .ref (ja_P i c))], [.ref (ja_P i c)])) rfl ?_
  refine xe_gr pg_43 (ja_O i c) rfl rfl rfl (kk1 (k_P hi hc)) (r_P1 hi hc _) ?_
  refine xe_sn pg_43 2 (fr' := (53, [(1, .int 0), (0, .ref (ja_P i c))], [.int 0, .int 0, .ref (ja_O i c)])) rfl ?_
  refine ye_bs pg_43 0 rfl (k_Op hi hc) ⟨by decide, by decide⟩ rfl (Or.inl rfl) (lx_ix (12 * i + 3 * c) (l_O hi hc (k := 0) (by decide)) (by omega)) ?_
  refine xe_sn pg_43 2 (fr' := (42, [(1, .int 1), (0, .ref (ja_P i c))], [])) rfl ?_
  refine xe_sn pg_43 4 (fr' := (48, [(1, .int 1), (0, .ref (ja_P i c))], [.ref (ja_P i c)])) rfl ?_
  refine xe_gr pg_43 (ja_O i c) rfl rfl rfl (kk1 (k_P hi hc)) (r_P1 hi hc _) ?_
  refine xe_sn pg_43 2 (fr' := (53, [(1, .int 1), (0, .ref (ja_P i c))], [.int 0, .int 1, .ref (ja_O i c)])) rfl ?_
  refine ye_bs pg_43 1 rfl (k_Op hi hc) ⟨by decide, by decide⟩ rfl (Or.inl rfl) (lx_ix (12 * i + 3 * c + 1) (l_O hi hc (k := 1) (by decide)) (by omega)) ?_
  refine xe_sn pg_43 2 (fr' := (42, [(1, .int 2), (0, .ref (ja_P i c))], [])) rfl ?_
  refine xe_sn pg_43 4 (fr' := (48, [(1, .int 2), (0, .ref (ja_P i c))], [.ref (ja_P i c)])) rfl ?_
  refine xe_gr pg_43 (ja_O i c) rfl rfl rfl (kk1 (k_P hi hc)) (r_P1 hi hc _) ?_
  refine xe_sn pg_43 2 (fr' := (53, [(1, .int 2), (0, .ref (ja_P i c))], [.int 0, .int 2, .ref (ja_O i c)])) rfl ?_
  refine ye_bs pg_43 2 rfl (k_Op hi hc) ⟨by decide, by decide⟩ rfl (Or.inl rfl) (lx_ix (12 * i + 3 * c + 2) (l_O hi hc (k := 2) (by decide)) (by omega)) ?_
  refine xe_sn pg_43 2 (fr' := (42, [(1, .int 3), (0, .ref (ja_P i c))], [])) rfl ?_
  refine xe_sn pg_43 3 (fr' := (60, [(1, .int 3), (0, .ref (ja_P i c))], [])) rfl ?_
  subst hE
  exact xe_end pg_43 rfl

def f_isOpen (S : xSt) (i : Nat) (c : Nat) (s : Int32) : Option Int32 := (some (f_isStream s)).bind fun r1 => if r1 = 0 then (some 0) else (if bnd (s - 1) 3 then (some (if (S.1 185 (3 * (4 * i + c) + (s - 1).toNatClampNeg)) = 0 then (0 : Int32) else 1)) else none)
set_option maxRecDepth 100000 in
theorem c_isOpen (d : Nat) {w : xWd} {S : xSt} {μ : Nat → Nat → Int32} {ρ : Nat → Nat → Int64} {i : Nat} {c : Nat} {s : Int32} (hi : i < 4) (hc : c < 4) {r : Int32} (hE : (f_isOpen S i c s) = some r) : xc (d + 1) 59 [.ref (ja_P i c), .int s] (hz w S μ ρ) (.inl (some (.int r)), hz w S μ ρ) := by
  unfold f_isOpen at hE
  refine xe_sn pg_59 1 (fr' := (1, [(0, .ref (ja_P i c)), (1, .int s)], [.int s])) rfl ?_
  obtain ⟨r1, e1, hE⟩ := Option.bind_eq_some_iff.mp hE
  refine xe_callq pg_59 100 [.int s] (.inl (some (.int r1))) (4, [(0, .ref (ja_P i c)), (1, .int s)], [.int r1]) rfl (fun _ => rfl) (c_isStream _ (x := s)  (Option.some.inj e1)) ?_
  by_cases h1 : r1 = 0
  · rw [if_pos h1] at hE
    refine xe_c1t pg_59 22 rfl rfl h1 ?_
    refine xe_sn pg_59 1 (fr' := (23, [(0, .ref (ja_P i c)), (1, .int s)], [.int 0])) rfl ?_
    cases hE
    exact xe_end pg_59 rfl
  · rw [if_neg h1] at hE
    refine xe_c1f pg_59 22 rfl rfl h1 ?_
    refine xe_sn pg_59 1 (fr' := (8, [(0, .ref (ja_P i c)), (1, .int s)], [.ref (ja_P i c)])) rfl ?_
    refine xe_gr pg_59 (ja_O i c) rfl rfl rfl (kk1 (k_P hi hc)) (r_P1 hi hc _) ?_
    refine xe_sn pg_59 3 (fr' := (14, [(0, .ref (ja_P i c)), (1, .int s)], [.int (s - 1), .ref (ja_O i c)])) rfl ?_
    by_cases g2 : bnd (s - 1) 3
    case neg => rw [if_neg g2] at hE; cases hE
    rw [if_pos g2] at hE
    refine ye_bl pg_59 (s - 1).toNatClampNeg (S.1 185 (3 * (4 * i + c) + (s - 1).toNatClampNeg)) rfl (k_Op hi hc) g2 rfl ((l_O hi hc (k := (s - 1).toNatClampNeg) (bnd_lt g2)).rd _) ?_
    refine xe_jn (fr' := (23, [(0, .ref (ja_P i c)), (1, .int s)], [.int (if (S.1 185 (3 * (4 * i + c) + (s - 1).toNatClampNeg)) = 0 then (0 : Int32) else 1)])) (fun J3 => ?_) ?_
    · by_cases h3 : (S.1 185 (3 * (4 * i + c) + (s - 1).toNatClampNeg)) = 0
      · rw [show (if (S.1 185 (3 * (4 * i + c) + (s - 1).toNatClampNeg)) = 0 then (0 : Int32) else 1) = 0 from if_pos h3] at J3
        refine xe_c1t pg_59 22 rfl rfl h3 ?_
        refine xe_sn pg_59 1 (fr' := (23, [(0, .ref (ja_P i c)), (1, .int s)], [.int 0])) rfl ?_
        exact J3
      · rw [show (if (S.1 185 (3 * (4 * i + c) + (s - 1).toNatClampNeg)) = 0 then (0 : Int32) else 1) = 1 from if_neg h3] at J3
        refine xe_c1f pg_59 22 rfl rfl h3 ?_
        refine xe_sn pg_59 2 (fr' := (23, [(0, .ref (ja_P i c)), (1, .int s)], [.int 1])) rfl ?_
        exact J3
    cases hE
    exact xe_rb pg_59 rfl rfl (ite_b (Or.inl rfl) (Or.inr rfl))
theorem b_isOpen {S : xSt} {i : Nat} {c : Nat} {s : Int32} {r : Int32} (hE : (f_isOpen S i c s) = some r) : r = 0 ∨ r = 1 := by
  unfold f_isOpen at hE
  obtain ⟨r1, e1, hE⟩ := Option.bind_eq_some_iff.mp hE
  by_cases h1 : r1 = 0
  · rw [if_pos h1] at hE
    cases hE
    exact Or.inl rfl
  · rw [if_neg h1] at hE
    by_cases g2 : bnd (s - 1) 3
    · rw [if_pos g2] at hE
      cases hE
      exact (ite_b (Or.inl rfl) (Or.inr rfl))
    · rw [if_neg g2] at hE
      cases hE

def f_fillKeysP (S : xSt) (i : Nat) (c : Nat) (h0 : Int32) : xSt := (sx (sx (sx (sx S 184 (16 * i + 4 * c) (f_mix h0 1)) 184 (16 * i + 4 * c + 1) (f_mix (f_mix h0 1) 2)) 184 (16 * i + 4 * c + 2) (f_mix (f_mix (f_mix h0 1) 2) 3)) 184 (16 * i + 4 * c + 3) (f_mix (f_mix (f_mix (f_mix h0 1) 2) 3) 4))
set_option maxRecDepth 100000 in
theorem c_fillKeysP (d : Nat) {w : xWd} {S : xSt} {μ : Nat → Nat → Int32} {ρ : Nat → Nat → Int64} {i : Nat} {c : Nat} {h0 : Int32} (hi : i < 4) (hc : c < 4) {r : xSt} (hE : (f_fillKeysP S i c h0) = r) : xc (d + 1) 4 [.ref (ja_K i c), .int h0] (hz w S μ ρ) (.inl (none), hz w r μ ρ) := by
  unfold f_fillKeysP at hE
  refine xe_sn pg_4 10 (fr' := (12, [(3, .int 0), (2, .int h0), (0, .ref (ja_K i c)), (1, .int h0)], [.int 1, .int 0, .int h0])) rfl ?_
  refine xe_sn pg_4 1 (fr' := (13, [(3, .int 0), (2, .int h0), (0, .ref (ja_K i c)), (1, .int h0)], [.int 1, .int h0])) rfl ?_
  refine xe_callq pg_4 1 [.int h0, .int 1] (.inl (some (.int (f_mix h0 1)))) (16, [(3, .int 0), (2, .int h0), (0, .ref (ja_K i c)), (1, .int h0)], [.int (f_mix h0 1)]) rfl (fun _ => rfl) (c_mix _ (x := h0) (y := 1)  rfl) ?_
  refine xe_sn pg_4 4 (fr' := (20, [(2, .int (f_mix h0 1)), (3, .int 0), (0, .ref (ja_K i c)), (1, .int h0)], [.int (f_mix h0 1), .int 0, .ref (ja_K i c)])) rfl ?_
  refine ye_is pg_4 0 rfl (k_K hi hc) ⟨by decide, by decide⟩ rfl (lx_ix (16 * i + 4 * c) (l_K hi hc (k := 0) (by decide)) (by omega)) ?_
  refine xe_sn pg_4 2 (fr' := (4, [(3, .int 1), (2, .int (f_mix h0 1)), (0, .ref (ja_K i c)), (1, .int h0)], [])) rfl ?_
  refine xe_sn pg_4 7 (fr' := (13, [(3, .int 1), (2, .int (f_mix h0 1)), (0, .ref (ja_K i c)), (1, .int h0)], [.int 2, .int (f_mix h0 1)])) rfl ?_
  refine xe_callq pg_4 1 [.int (f_mix h0 1), .int 2] (.inl (some (.int (f_mix (f_mix h0 1) 2)))) (16, [(3, .int 1), (2, .int (f_mix h0 1)), (0, .ref (ja_K i c)), (1, .int h0)], [.int (f_mix (f_mix h0 1) 2)]) rfl (fun _ => rfl) (c_mix _ (x := (f_mix h0 1)) (y := 2)  rfl) ?_
  refine xe_sn pg_4 4 (fr' := (20, [(2, .int (f_mix (f_mix h0 1) 2)), (3, .int 1), (0, .ref (ja_K i c)), (1, .int h0)], [.int (f_mix (f_mix h0 1) 2), .int 1, .ref (ja_K i c)])) rfl ?_
  refine ye_is pg_4 1 rfl (k_K hi hc) ⟨by decide, by decide⟩ rfl (lx_ix (16 * i + 4 * c + 1) (l_K hi hc (k := 1) (by decide)) (by omega)) ?_
  refine xe_sn pg_4 2 (fr' := (4, [(3, .int 2), (2, .int (f_mix (f_mix h0 1) 2)), (0, .ref (ja_K i c)), (1, .int h0)], [])) rfl ?_
  refine xe_sn pg_4 7 (fr' := (13, [(3, .int 2), (2, .int (f_mix (f_mix h0 1) 2)), (0, .ref (ja_K i c)), (1, .int h0)], [.int 3, .int (f_mix (f_mix h0 1) 2)])) rfl ?_
  refine xe_callq pg_4 1 [.int (f_mix (f_mix h0 1) 2), .int 3] (.inl (some (.int (f_mix (f_mix (f_mix h0 1) 2) 3)))) (16, [(3, .int 2), (2, .int (f_mix (f_mix h0 1) 2)), (0, .ref (ja_K i c)), (1, .int h0)], [.int (f_mix (f_mix (f_mix h0 1) 2) 3)]) rfl (fun _ => rfl) (c_mix _ (x := (f_mix (f_mix h0 1) 2)) (y := 3)  rfl) ?_
  refine xe_sn pg_4 4 (fr' := (20, [(2, .int (f_mix (f_mix (f_mix h0 1) 2) 3)), (3, .int 2), (0, .ref (ja_K i c)), (1, .int h0)], [.int (f_mix (f_mix (f_mix h0 1) 2) 3), .int 2, .ref (ja_K i c)])) rfl ?_
  refine ye_is pg_4 2 rfl (k_K hi hc) ⟨by decide, by decide⟩ rfl (lx_ix (16 * i + 4 * c + 2) (l_K hi hc (k := 2) (by decide)) (by omega)) ?_
  refine xe_sn pg_4 2 (fr' := (4, [(3, .int 3), (2, .int (f_mix (f_mix (f_mix h0 1) 2) 3)), (0, .ref (ja_K i c)), (1, .int h0)], [])) rfl ?_
  refine xe_sn pg_4 7 (fr' := (13, [(3, .int 3), (2, .int (f_mix (f_mix (f_mix h0 1) 2) 3)), (0, .ref (ja_K i c)), (1, .int h0)], [.int 4, .int (f_mix (f_mix (f_mix h0 1) 2) 3)])) rfl ?_
  refine xe_callq pg_4 1 [.int (f_mix (f_mix (f_mix h0 1) 2) 3), .int 4] (.inl (some (.int (f_mix (f_mix (f_mix (f_mix h0 1) 2) 3) 4)))) (16, [(3, .int 3), (2, .int (f_mix (f_mix (f_mix h0 1) 2) 3)), (0, .ref (ja_K i c)), (1, .int h0)], [.int (f_mix (f_mix (f_mix (f_mix h0 1) 2) 3) 4)]) rfl (fun _ => rfl) (c_mix _ (x := (f_mix (f_mix (f_mix h0 1) 2) 3)) (y := 4)  rfl) ?_
  refine xe_sn pg_4 4 (fr' := (20, [(2, .int (f_mix (f_mix (f_mix (f_mix h0 1) 2) 3) 4)), (3, .int 3), (0, .ref (ja_K i c)), (1, .int h0)], [.int (f_mix (f_mix (f_mix (f_mix h0 1) 2) 3) 4), .int 3, .ref (ja_K i c)])) rfl ?_
  refine ye_is pg_4 3 rfl (k_K hi hc) ⟨by decide, by decide⟩ rfl (lx_ix (16 * i + 4 * c + 3) (l_K hi hc (k := 3) (by decide)) (by omega)) ?_
  refine xe_sn pg_4 2 (fr' := (4, [(3, .int 4), (2, .int (f_mix (f_mix (f_mix (f_mix h0 1) 2) 3) 4)), (0, .ref (ja_K i c)), (1, .int h0)], [])) rfl ?_
  refine xe_sn pg_4 3 (fr' := (27, [(3, .int 4), (2, .int (f_mix (f_mix (f_mix (f_mix h0 1) 2) 3) 4)), (0, .ref (ja_K i c)), (1, .int h0)], [])) rfl ?_
  subst hE
  exact xe_end pg_4 rfl

def f_fillKeysC (S : xSt) (c : Nat) (j : Nat) (h0 : Int32) : xSt := (sx (sx (sx (sx S 170 (12 * c + 4 * j) (f_mix h0 1)) 170 (12 * c + 4 * j + 1) (f_mix (f_mix h0 1) 2)) 170 (12 * c + 4 * j + 2) (f_mix (f_mix (f_mix h0 1) 2) 3)) 170 (12 * c + 4 * j + 3) (f_mix (f_mix (f_mix (f_mix h0 1) 2) 3) 4))
set_option maxRecDepth 100000 in
theorem c_fillKeysC (d : Nat) {w : xWd} {S : xSt} {μ : Nat → Nat → Int32} {ρ : Nat → Nat → Int64} {c : Nat} {j : Nat} {h0 : Int32} (hc : c < 4) (hj : j < 3) {r : xSt} (hE : (f_fillKeysC S c j h0) = r) : xc (d + 1) 4 [.ref (ja_J c j), .int h0] (hz w S μ ρ) (.inl (none), hz w r μ ρ) := by
  unfold f_fillKeysC at hE
  refine xe_sn pg_4 10 (fr' := (12, [(3, .int 0), (2, .int h0), (0, .ref (ja_J c j)), (1, .int h0)], [.int 1, .int 0, .int h0])) rfl ?_
  refine xe_sn pg_4 1 (fr' := (13, [(3, .int 0), (2, .int h0), (0, .ref (ja_J c j)), (1, .int h0)], [.int 1, .int h0])) rfl ?_
  refine xe_callq pg_4 1 [.int h0, .int 1] (.inl (some (.int (f_mix h0 1)))) (16, [(3, .int 0), (2, .int h0), (0, .ref (ja_J c j)), (1, .int h0)], [.int (f_mix h0 1)]) rfl (fun _ => rfl) (c_mix _ (x := h0) (y := 1)  rfl) ?_
  refine xe_sn pg_4 4 (fr' := (20, [(2, .int (f_mix h0 1)), (3, .int 0), (0, .ref (ja_J c j)), (1, .int h0)], [.int (f_mix h0 1), .int 0, .ref (ja_J c j)])) rfl ?_
  refine ye_is pg_4 0 rfl (k_J hc hj) ⟨by decide, by decide⟩ rfl (lx_ix (12 * c + 4 * j) (l_J hc hj (k := 0) (by decide)) (by omega)) ?_
  refine xe_sn pg_4 2 (fr' := (4, [(3, .int 1), (2, .int (f_mix h0 1)), (0, .ref (ja_J c j)), (1, .int h0)], [])) rfl ?_
  refine xe_sn pg_4 7 (fr' := (13, [(3, .int 1), (2, .int (f_mix h0 1)), (0, .ref (ja_J c j)), (1, .int h0)], [.int 2, .int (f_mix h0 1)])) rfl ?_
  refine xe_callq pg_4 1 [.int (f_mix h0 1), .int 2] (.inl (some (.int (f_mix (f_mix h0 1) 2)))) (16, [(3, .int 1), (2, .int (f_mix h0 1)), (0, .ref (ja_J c j)), (1, .int h0)], [.int (f_mix (f_mix h0 1) 2)]) rfl (fun _ => rfl) (c_mix _ (x := (f_mix h0 1)) (y := 2)  rfl) ?_
  refine xe_sn pg_4 4 (fr' := (20, [(2, .int (f_mix (f_mix h0 1) 2)), (3, .int 1), (0, .ref (ja_J c j)), (1, .int h0)], [.int (f_mix (f_mix h0 1) 2), .int 1, .ref (ja_J c j)])) rfl ?_
  refine ye_is pg_4 1 rfl (k_J hc hj) ⟨by decide, by decide⟩ rfl (lx_ix (12 * c + 4 * j + 1) (l_J hc hj (k := 1) (by decide)) (by omega)) ?_
  refine xe_sn pg_4 2 (fr' := (4, [(3, .int 2), (2, .int (f_mix (f_mix h0 1) 2)), (0, .ref (ja_J c j)), (1, .int h0)], [])) rfl ?_
  refine xe_sn pg_4 7 (fr' := (13, [(3, .int 2), (2, .int (f_mix (f_mix h0 1) 2)), (0, .ref (ja_J c j)), (1, .int h0)], [.int 3, .int (f_mix (f_mix h0 1) 2)])) rfl ?_
  refine xe_callq pg_4 1 [.int (f_mix (f_mix h0 1) 2), .int 3] (.inl (some (.int (f_mix (f_mix (f_mix h0 1) 2) 3)))) (16, [(3, .int 2), (2, .int (f_mix (f_mix h0 1) 2)), (0, .ref (ja_J c j)), (1, .int h0)], [.int (f_mix (f_mix (f_mix h0 1) 2) 3)]) rfl (fun _ => rfl) (c_mix _ (x := (f_mix (f_mix h0 1) 2)) (y := 3)  rfl) ?_
  refine xe_sn pg_4 4 (fr' := (20, [(2, .int (f_mix (f_mix (f_mix h0 1) 2) 3)), (3, .int 2), (0, .ref (ja_J c j)), (1, .int h0)], [.int (f_mix (f_mix (f_mix h0 1) 2) 3), .int 2, .ref (ja_J c j)])) rfl ?_
  refine ye_is pg_4 2 rfl (k_J hc hj) ⟨by decide, by decide⟩ rfl (lx_ix (12 * c + 4 * j + 2) (l_J hc hj (k := 2) (by decide)) (by omega)) ?_
  refine xe_sn pg_4 2 (fr' := (4, [(3, .int 3), (2, .int (f_mix (f_mix (f_mix h0 1) 2) 3)), (0, .ref (ja_J c j)), (1, .int h0)], [])) rfl ?_
  refine xe_sn pg_4 7 (fr' := (13, [(3, .int 3), (2, .int (f_mix (f_mix (f_mix h0 1) 2) 3)), (0, .ref (ja_J c j)), (1, .int h0)], [.int 4, .int (f_mix (f_mix (f_mix h0 1) 2) 3)])) rfl ?_
  refine xe_callq pg_4 1 [.int (f_mix (f_mix (f_mix h0 1) 2) 3), .int 4] (.inl (some (.int (f_mix (f_mix (f_mix (f_mix h0 1) 2) 3) 4)))) (16, [(3, .int 3), (2, .int (f_mix (f_mix (f_mix h0 1) 2) 3)), (0, .ref (ja_J c j)), (1, .int h0)], [.int (f_mix (f_mix (f_mix (f_mix h0 1) 2) 3) 4)]) rfl (fun _ => rfl) (c_mix _ (x := (f_mix (f_mix (f_mix h0 1) 2) 3)) (y := 4)  rfl) ?_
  refine xe_sn pg_4 4 (fr' := (20, [(2, .int (f_mix (f_mix (f_mix (f_mix h0 1) 2) 3) 4)), (3, .int 3), (0, .ref (ja_J c j)), (1, .int h0)], [.int (f_mix (f_mix (f_mix (f_mix h0 1) 2) 3) 4), .int 3, .ref (ja_J c j)])) rfl ?_
  refine ye_is pg_4 3 rfl (k_J hc hj) ⟨by decide, by decide⟩ rfl (lx_ix (12 * c + 4 * j + 3) (l_J hc hj (k := 3) (by decide)) (by omega)) ?_
  refine xe_sn pg_4 2 (fr' := (4, [(3, .int 4), (2, .int (f_mix (f_mix (f_mix (f_mix h0 1) 2) 3) 4)), (0, .ref (ja_J c j)), (1, .int h0)], [])) rfl ?_
  refine xe_sn pg_4 3 (fr' := (27, [(3, .int 4), (2, .int (f_mix (f_mix (f_mix (f_mix h0 1) 2) 3) 4)), (0, .ref (ja_J c j)), (1, .int h0)], [])) rfl ?_
  subst hE
  exact xe_end pg_4 rfl

def f_start (S : xSt) (i : Nat) (c : Nat) (f : Int32) (h0 : Int32) : xSt := (f_fillKeysP (sx (sx S 180 (4 * i + c) 1) 181 (4 * i + c) f) i c h0)
set_option maxRecDepth 100000 in
theorem c_start (d : Nat) {w : xWd} {S : xSt} {μ : Nat → Nat → Int32} {ρ : Nat → Nat → Int64} {i : Nat} {c : Nat} {f : Int32} {h0 : Int32} (hi : i < 4) (hc : c < 4) {r : xSt} (hE : (f_start S i c f h0) = r) : xc (d + 2) 42 [.ref (ja_P i c), .int f, .int h0] (hz w S μ ρ) (.inl (none), hz w r μ ρ) := by
  unfold f_start at hE
  refine xe_sn pg_42 2 (fr' := (2, [(0, .ref (ja_P i c)), (1, .int f), (2, .int h0)], [.int 1, .ref (ja_P i c)])) rfl ?_
  refine ye_px pg_42 rfl rfl ⟨rfl, rfl⟩ (Or.inr (Or.inr rfl)) (kk1 (k_P hi hc)) (show lx _ 2 180 _ from lx_ix (4 * i + c) (l_P hi hc (by decide) (by decide)) (by omega)) ?_
  refine xe_sn pg_42 2 (fr' := (7, [(0, .ref (ja_P i c)), (1, .int f), (2, .int h0)], [.int f, .ref (ja_P i c)])) rfl ?_
  refine ye_px pg_42 rfl rfl ⟨rfl, rfl⟩ (Or.inl rfl) (kk1 (k_P hi hc)) (show lx _ 3 181 _ from lx_ix (4 * i + c) (l_P hi hc (by decide) (by decide)) (by omega)) ?_
  refine xe_sn pg_42 1 (fr' := (11, [(0, .ref (ja_P i c)), (1, .int f), (2, .int h0)], [.ref (ja_P i c)])) rfl ?_
  refine xe_gr pg_42 (ja_K i c) rfl rfl rfl (kk1 (k_P hi hc)) (r_P0 hi hc _) ?_
  refine xe_sn pg_42 1 (fr' := (15, [(0, .ref (ja_P i c)), (1, .int f), (2, .int h0)], [.int h0, .ref (ja_K i c)])) rfl ?_
  refine xe_callq pg_42 4 [.ref (ja_K i c), .int h0] (.inl (none)) (18, [(0, .ref (ja_P i c)), (1, .int f), (2, .int h0)], []) rfl (fun _ => rfl) (c_fillKeysP _ (i := i) (c := c) (h0 := h0) hi hc rfl) ?_
  subst hE
  exact xe_end pg_42 rfl

