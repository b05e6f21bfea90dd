/-! the law's wrappers -/
set_option maxRecDepth 100000 in
theorem w_secret (d : Nat) {w : xWd} {S : xSt} {μ : Nat → Nat → Int32} {ρ : Nat → Nat → Int64} {rl b u : Int32} {T : xSt} (hE : f_secret S rl b = some (.inl (some u), T)) : xc (d + 9) 160 [.ref 0, .int rl, .int b, .ref 189] (hz w S μ ρ) (.inl (some (.int 0)), hz w T μ (xi_u2 ρ 189 0 u.toInt64)) := by
  refine xe_sn pg_160 5 (fr' := (5, [(0, .ref 0), (1, .int rl), (2, .int b), (3, .ref 189)], [.int b, .int rl, .ref 0, .int 0, .ref 189])) rfl ?_
  refine xe_callq pg_160 73 [.ref 0, .int rl, .int b] (.inl (some (.int u))) (8, [(0, .ref 0), (1, .int rl), (2, .int b), (3, .ref 189)], [.int u, .int 0, .ref 189]) rfl (fun _ => rfl) (c_secret d hE) ?_
  refine xe_sn pg_160 4 (fr' := (26, [(0, .ref 0), (1, .int rl), (2, .int b), (3, .ref 189)], [.int 0])) (h' := hz w T μ (xi_u2 ρ 189 0 u.toInt64)) rfl ?_
  exact xe_end pg_160 rfl
set_option maxRecDepth 100000 in
theorem wx_secret (d : Nat) {w : xWd} {S : xSt} {μ : Nat → Nat → Int32} {ρ : Nat → Nat → Int64} {rl b : Int32} {E : Nat} {T : xSt} (hE : f_secret S rl b = some (.inr E, T)) : xc (d + 9) 160 [.ref 0, .int rl, .int b, .ref 189] (hz w S μ ρ) (.inl (some (.int (k3 E))), hz (fzw w) T μ ρ) := by
  have hq : E = 0 ∨ E = 1 ∨ E = 2 := oe_secret E T hE
  refine xe_sn pg_160 5 (fr' := (5, [(0, .ref 0), (1, .int rl), (2, .int b), (3, .ref 189)], [.int b, .int rl, .ref 0, .int 0, .ref 189])) rfl ?_
  rcases hq with rfl | rfl | rfl
  · refine xe_callq pg_160 73 [.ref 0, .int rl, .int b] (.inr 0) (15, [(0, .ref 0), (1, .int rl), (2, .int b), (3, .ref 189)], []) rfl (fun _ => rfl) (c_secret d hE) ?_
    refine xe_sn pg_160 1 (fr' := (16, [(0, .ref 0), (1, .int rl), (2, .int b), (3, .ref 189)], [.int 1])) rfl ?_
    exact xe_end pg_160 rfl
  · refine xe_callq pg_160 73 [.ref 0, .int rl, .int b] (.inr 1) (19, [(0, .ref 0), (1, .int rl), (2, .int b), (3, .ref 189)], []) rfl (fun _ => rfl) (c_secret d hE) ?_
    refine xe_sn pg_160 1 (fr' := (20, [(0, .ref 0), (1, .int rl), (2, .int b), (3, .ref 189)], [.int 2])) rfl ?_
    exact xe_end pg_160 rfl
  · refine xe_callq pg_160 73 [.ref 0, .int rl, .int b] (.inr 2) (23, [(0, .ref 0), (1, .int rl), (2, .int b), (3, .ref 189)], []) rfl (fun _ => rfl) (c_secret d hE) ?_
    refine xe_sn pg_160 1 (fr' := (24, [(0, .ref 0), (1, .int rl), (2, .int b), (3, .ref 189)], [.int 3])) rfl ?_
    exact xe_end pg_160 rfl
set_option maxRecDepth 100000 in
theorem w_create (d : Nat) {w : xWd} {S : xSt} {μ : Nat → Nat → Int32} {ρ : Nat → Nat → Int64} {ci rl x u : Int32} {T : xSt} (hE : f_create S ci rl x = some (.inl (some u), T)) : xc (d + 9) 161 [.ref 0, .int ci, .int rl, .int x, .ref 189] (hz w S μ ρ) (.inl (some (.int 0)), hz w T μ (xi_u2 ρ 189 0 u.toInt64)) := by
  refine xe_sn pg_161 6 (fr' := (7, [(0, .ref 0), (1, .int ci), (2, .int rl), (3, .int x), (4, .ref 189)], [.int x, .int rl, .int ci, .ref 0, .int 0, .ref 189])) rfl ?_
  refine xe_callq pg_161 74 [.ref 0, .int ci, .int rl, .int x] (.inl (some (.int u))) (10, [(0, .ref 0), (1, .int ci), (2, .int rl), (3, .int x), (4, .ref 189)], [.int u, .int 0, .ref 189]) rfl (fun _ => rfl) (c_create d hE) ?_
  refine xe_sn pg_161 4 (fr' := (28, [(0, .ref 0), (1, .int ci), (2, .int rl), (3, .int x), (4, .ref 189)], [.int 0])) (h' := hz w T μ (xi_u2 ρ 189 0 u.toInt64)) rfl ?_
  exact xe_end pg_161 rfl
set_option maxRecDepth 100000 in
theorem wx_create (d : Nat) {w : xWd} {S : xSt} {μ : Nat → Nat → Int32} {ρ : Nat → Nat → Int64} {ci rl x : Int32} {E : Nat} {T : xSt} (hE : f_create S ci rl x = some (.inr E, T)) : xc (d + 9) 161 [.ref 0, .int ci, .int rl, .int x, .ref 189] (hz w S μ ρ) (.inl (some (.int (k3 E))), hz (fzw w) T μ ρ) := by
  have hq : E = 0 ∨ E = 1 ∨ E = 2 := oe_create E T hE
  refine xe_sn pg_161 6 (fr' := (7, [(0, .ref 0), (1, .int ci), (2, .int rl), (3, .int x), (4, .ref 189)], [.int x, .int rl, .int ci, .ref 0, .int 0, .ref 189])) rfl ?_
  rcases hq with rfl | rfl | rfl
  · refine xe_callq pg_161 74 [.ref 0, .int ci, .int rl, .int x] (.inr 0) (17, [(0, .ref 0), (1, .int ci), (2, .int rl), (3, .int x), (4, .ref 189)], []) rfl (fun _ => rfl) (c_create d hE) ?_
    refine xe_sn pg_161 1 (fr' := (18, [(0, .ref 0), (1, .int ci), (2, .int rl), (3, .int x), (4, .ref 189)], [.int 1])) rfl ?_
    exact xe_end pg_161 rfl
  · refine xe_callq pg_161 74 [.ref 0, .int ci, .int rl, .int x] (.inr 1) (21, [(0, .ref 0), (1, .int ci), (2, .int rl), (3, .int x), (4, .ref 189)], []) rfl (fun _ => rfl) (c_create d hE) ?_
    refine xe_sn pg_161 1 (fr' := (22, [(0, .ref 0), (1, .int ci), (2, .int rl), (3, .int x), (4, .ref 189)], [.int 2])) rfl ?_
    exact xe_end pg_161 rfl
  · refine xe_callq pg_161 74 [.ref 0, .int ci, .int rl, .int x] (.inr 2) (25, [(0, .ref 0), (1, .int ci), (2, .int rl), (3, .int x), (4, .ref 189)], []) rfl (fun _ => rfl) (c_create d hE) ?_
    refine xe_sn pg_161 1 (fr' := (26, [(0, .ref 0), (1, .int ci), (2, .int rl), (3, .int x), (4, .ref 189)], [.int 3])) rfl ?_
    exact xe_end pg_161 rfl
set_option maxRecDepth 100000 in
theorem w_extend (d : Nat) {w : xWd} {S : xSt} {μ : Nat → Nat → Int32} {ρ : Nat → Nat → Int64} {ci rl x u : Int32} {T : xSt} (hE : f_extend S ci rl x = some (.inl (some u), T)) : xc (d + 9) 162 [.ref 0, .int ci, .int rl, .int x, .ref 189] (hz w S μ ρ) (.inl (some (.int 0)), hz w T μ (xi_u2 ρ 189 0 u.toInt64)) := by
  refine xe_sn pg_162 6 (fr' := (7, [(0, .ref 0), (1, .int ci), (2, .int rl), (3, .int x), (4, .ref 189)], [.int x, .int rl, .int ci, .ref 0, .int 0, .ref 189])) rfl ?_
  refine xe_callq pg_162 75 [.ref 0, .int ci, .int rl, .int x] (.inl (some (.int u))) (10, [(0, .ref 0), (1, .int ci), (2, .int rl), (3, .int x), (4, .ref 189)], [.int u, .int 0, .ref 189]) rfl (fun _ => rfl) (c_extend d hE) ?_
  refine xe_sn pg_162 4 (fr' := (28, [(0, .ref 0), (1, .int ci), (2, .int rl), (3, .int x), (4, .ref 189)], [.int 0])) (h' := hz w T μ (xi_u2 ρ 189 0 u.toInt64)) rfl ?_
  exact xe_end pg_162 rfl
set_option maxRecDepth 100000 in
theorem wx_extend (d : Nat) {w : xWd} {S : xSt} {μ : Nat → Nat → Int32} {ρ : Nat → Nat → Int64} {ci rl x : Int32} {E : Nat} {T : xSt} (hE : f_extend S ci rl x = some (.inr E, T)) : xc (d + 9) 162 [.ref 0, .int ci, .int rl, .int x, .ref 189] (hz w S μ ρ) (.inl (some (.int (k3 E))), hz (fzw w) T μ ρ) := by
  have hq : E = 0 ∨ E = 1 ∨ E = 2 := oe_extend E T hE
  refine xe_sn pg_162 6 (fr' := (7, [(0, .ref 0), (1, .int ci), (2, .int rl), (3, .int x), (4, .ref 189)], [.int x, .int rl, .int ci, .ref 0, .int 0, .ref 189])) rfl ?_
  rcases hq with rfl | rfl | rfl
  · refine xe_callq pg_162 75 [.ref 0, .int ci, .int rl, .int x] (.inr 0) (17, [(0, .ref 0), (1, .int ci), (2, .int rl), (3, .int x), (4, .ref 189)], []) rfl (fun _ => rfl) (c_extend d hE) ?_
    refine xe_sn pg_162 1 (fr' := (18, [(0, .ref 0), (1, .int ci), (2, .int rl), (3, .int x), (4, .ref 189)], [.int 1])) rfl ?_
    exact xe_end pg_162 rfl
  · refine xe_callq pg_162 75 [.ref 0, .int ci, .int rl, .int x] (.inr 1) (21, [(0, .ref 0), (1, .int ci), (2, .int rl), (3, .int x), (4, .ref 189)], []) rfl (fun _ => rfl) (c_extend d hE) ?_
    refine xe_sn pg_162 1 (fr' := (22, [(0, .ref 0), (1, .int ci), (2, .int rl), (3, .int x), (4, .ref 189)], [.int 2])) rfl ?_
    exact xe_end pg_162 rfl
  · refine xe_callq pg_162 75 [.ref 0, .int ci, .int rl, .int x] (.inr 2) (25, [(0, .ref 0), (1, .int ci), (2, .int rl), (3, .int x), (4, .ref 189)], []) rfl (fun _ => rfl) (c_extend d hE) ?_
    refine xe_sn pg_162 1 (fr' := (26, [(0, .ref 0), (1, .int ci), (2, .int rl), (3, .int x), (4, .ref 189)], [.int 3])) rfl ?_
    exact xe_end pg_162 rfl
set_option maxRecDepth 100000 in
theorem w_begin (d : Nat) {w : xWd} {S : xSt} {μ : Nat → Nat → Int32} {ρ : Nat → Nat → Int64} {ci st hp : Int32} {T : xSt} (hE : f_begin S ci st hp = some (.inl none, T)) : xc (d + 9) 163 [.ref 0, .int ci, .int st, .int hp] (hz w S μ ρ) (.inl (some (.int 0)), hz w T μ (ρ)) := by
  refine xe_sn pg_163 4 (fr' := (4, [(0, .ref 0), (1, .int ci), (2, .int st), (3, .int hp)], [.int hp, .int st, .int ci, .ref 0])) rfl ?_
  refine xe_callq pg_163 76 [.ref 0, .int ci, .int st, .int hp] (.inl none) (7, [(0, .ref 0), (1, .int ci), (2, .int st), (3, .int hp)], []) rfl (fun _ => rfl) (c_begin d hE) ?_
  refine xe_sn pg_163 2 (fr' := (19, [(0, .ref 0), (1, .int ci), (2, .int st), (3, .int hp)], [.int 0])) (h' := hz w T μ (ρ)) rfl ?_
  exact xe_end pg_163 rfl
set_option maxRecDepth 100000 in
theorem wx_begin (d : Nat) {w : xWd} {S : xSt} {μ : Nat → Nat → Int32} {ρ : Nat → Nat → Int64} {ci st hp : Int32} {E : Nat} {T : xSt} (hE : f_begin S ci st hp = some (.inr E, T)) : xc (d + 9) 163 [.ref 0, .int ci, .int st, .int hp] (hz w S μ ρ) (.inl (some (.int (k2 E))), hz (fzw w) T μ ρ) := by
  have hq : E = 0 ∨ E = 2 := oe_begin E T hE
  refine xe_sn pg_163 4 (fr' := (4, [(0, .ref 0), (1, .int ci), (2, .int st), (3, .int hp)], [.int hp, .int st, .int ci, .ref 0])) rfl ?_
  rcases hq with rfl | rfl
  · refine xe_callq pg_163 76 [.ref 0, .int ci, .int st, .int hp] (.inr 0) (12, [(0, .ref 0), (1, .int ci), (2, .int st), (3, .int hp)], []) rfl (fun _ => rfl) (c_begin d hE) ?_
    refine xe_sn pg_163 1 (fr' := (13, [(0, .ref 0), (1, .int ci), (2, .int st), (3, .int hp)], [.int 1])) rfl ?_
    exact xe_end pg_163 rfl
  · refine xe_callq pg_163 76 [.ref 0, .int ci, .int st, .int hp] (.inr 2) (16, [(0, .ref 0), (1, .int ci), (2, .int st), (3, .int hp)], []) rfl (fun _ => rfl) (c_begin d hE) ?_
    refine xe_sn pg_163 1 (fr' := (17, [(0, .ref 0), (1, .int ci), (2, .int st), (3, .int hp)], [.int 2])) rfl ?_
    exact xe_end pg_163 rfl
set_option maxRecDepth 100000 in
theorem w_send (d : Nat) {w : xWd} {S : xSt} {μ : Nat → Nat → Int32} {ρ : Nat → Nat → Int64} {ci st n v u : Int32} {T : xSt} (hE : f_send S ci st n v = some (.inl (some u), T)) : xc (d + 9) 164 [.ref 0, .int ci, .int st, .int n, .int v, .ref 189] (hz w S μ ρ) (.inl (some (.int 0)), hz w T μ (xi_u2 ρ 189 0 u.toInt64)) := by
  refine xe_sn pg_164 7 (fr' := (9, [(0, .ref 0), (1, .int ci), (2, .int st), (3, .int n), (4, .int v), (5, .ref 189)], [.int v, .int n, .int st, .int ci, .ref 0, .int 0, .ref 189])) rfl ?_
  refine xe_callq pg_164 77 [.ref 0, .int ci, .int st, .int n, .int v] (.inl (some (.int u))) (12, [(0, .ref 0), (1, .int ci), (2, .int st), (3, .int n), (4, .int v), (5, .ref 189)], [.int u, .int 0, .ref 189]) rfl (fun _ => rfl) (c_send d hE) ?_
  refine xe_sn pg_164 4 (fr' := (30, [(0, .ref 0), (1, .int ci), (2, .int st), (3, .int n), (4, .int v), (5, .ref 189)], [.int 0])) (h' := hz w T μ (xi_u2 ρ 189 0 u.toInt64)) rfl ?_
  exact xe_end pg_164 rfl
set_option maxRecDepth 100000 in
theorem wx_send (d : Nat) {w : xWd} {S : xSt} {μ : Nat → Nat → Int32} {ρ : Nat → Nat → Int64} {ci st n v : Int32} {E : Nat} {T : xSt} (hE : f_send S ci st n v = some (.inr E, T)) : xc (d + 9) 164 [.ref 0, .int ci, .int st, .int n, .int v, .ref 189] (hz w S μ ρ) (.inl (some (.int (k3 E))), hz (fzw w) T μ ρ) := by
  have hq : E = 0 ∨ E = 1 ∨ E = 2 := oe_send E T hE
  refine xe_sn pg_164 7 (fr' := (9, [(0, .ref 0), (1, .int ci), (2, .int st), (3, .int n), (4, .int v), (5, .ref 189)], [.int v, .int n, .int st, .int ci, .ref 0, .int 0, .ref 189])) rfl ?_
  rcases hq with rfl | rfl | rfl
  · refine xe_callq pg_164 77 [.ref 0, .int ci, .int st, .int n, .int v] (.inr 0) (19, [(0, .ref 0), (1, .int ci), (2, .int st), (3, .int n), (4, .int v), (5, .ref 189)], []) rfl (fun _ => rfl) (c_send d hE) ?_
    refine xe_sn pg_164 1 (fr' := (20, [(0, .ref 0), (1, .int ci), (2, .int st), (3, .int n), (4, .int v), (5, .ref 189)], [.int 1])) rfl ?_
    exact xe_end pg_164 rfl
  · refine xe_callq pg_164 77 [.ref 0, .int ci, .int st, .int n, .int v] (.inr 1) (23, [(0, .ref 0), (1, .int ci), (2, .int st), (3, .int n), (4, .int v), (5, .ref 189)], []) rfl (fun _ => rfl) (c_send d hE) ?_
    refine xe_sn pg_164 1 (fr' := (24, [(0, .ref 0), (1, .int ci), (2, .int st), (3, .int n), (4, .int v), (5, .ref 189)], [.int 2])) rfl ?_
    exact xe_end pg_164 rfl
  · refine xe_callq pg_164 77 [.ref 0, .int ci, .int st, .int n, .int v] (.inr 2) (27, [(0, .ref 0), (1, .int ci), (2, .int st), (3, .int n), (4, .int v), (5, .ref 189)], []) rfl (fun _ => rfl) (c_send d hE) ?_
    refine xe_sn pg_164 1 (fr' := (28, [(0, .ref 0), (1, .int ci), (2, .int st), (3, .int n), (4, .int v), (5, .ref 189)], [.int 3])) rfl ?_
    exact xe_end pg_164 rfl
set_option maxRecDepth 100000 in
theorem w_end (d : Nat) {w : xWd} {S : xSt} {μ : Nat → Nat → Int32} {ρ : Nat → Nat → Int64} {ci st u : Int32} {T : xSt} (hE : f_end S ci st = some (.inl (some u), T)) : xc (d + 9) 165 [.ref 0, .int ci, .int st, .ref 189] (hz w S μ ρ) (.inl (some (.int 0)), hz w T μ (xi_u2 ρ 189 0 u.toInt64)) := by
  refine xe_sn pg_165 5 (fr' := (5, [(0, .ref 0), (1, .int ci), (2, .int st), (3, .ref 189)], [.int st, .int ci, .ref 0, .int 0, .ref 189])) rfl ?_
  refine xe_callq pg_165 78 [.ref 0, .int ci, .int st] (.inl (some (.int u))) (8, [(0, .ref 0), (1, .int ci), (2, .int st), (3, .ref 189)], [.int u, .int 0, .ref 189]) rfl (fun _ => rfl) (c_end d hE) ?_
  refine xe_sn pg_165 4 (fr' := (22, [(0, .ref 0), (1, .int ci), (2, .int st), (3, .ref 189)], [.int 0])) (h' := hz w T μ (xi_u2 ρ 189 0 u.toInt64)) rfl ?_
  exact xe_end pg_165 rfl
set_option maxRecDepth 100000 in
theorem wx_end (d : Nat) {w : xWd} {S : xSt} {μ : Nat → Nat → Int32} {ρ : Nat → Nat → Int64} {ci st : Int32} {E : Nat} {T : xSt} (hE : f_end S ci st = some (.inr E, T)) : xc (d + 9) 165 [.ref 0, .int ci, .int st, .ref 189] (hz w S μ ρ) (.inl (some (.int (k2 E))), hz (fzw w) T μ ρ) := by
  have hq : E = 0 ∨ E = 2 := oe_end E T hE
  refine xe_sn pg_165 5 (fr' := (5, [(0, .ref 0), (1, .int ci), (2, .int st), (3, .ref 189)], [.int st, .int ci, .ref 0, .int 0, .ref 189])) rfl ?_
  rcases hq with rfl | rfl
  · refine xe_callq pg_165 78 [.ref 0, .int ci, .int st] (.inr 0) (15, [(0, .ref 0), (1, .int ci), (2, .int st), (3, .ref 189)], []) rfl (fun _ => rfl) (c_end d hE) ?_
    refine xe_sn pg_165 1 (fr' := (16, [(0, .ref 0), (1, .int ci), (2, .int st), (3, .ref 189)], [.int 1])) rfl ?_
    exact xe_end pg_165 rfl
  · refine xe_callq pg_165 78 [.ref 0, .int ci, .int st] (.inr 2) (19, [(0, .ref 0), (1, .int ci), (2, .int st), (3, .ref 189)], []) rfl (fun _ => rfl) (c_end d hE) ?_
    refine xe_sn pg_165 1 (fr' := (20, [(0, .ref 0), (1, .int ci), (2, .int st), (3, .ref 189)], [.int 2])) rfl ?_
    exact xe_end pg_165 rfl
set_option maxRecDepth 100000 in
theorem w_truncate (d : Nat) {w : xWd} {S : xSt} {μ : Nat → Nat → Int32} {ρ : Nat → Nat → Int64} {ci hp u : Int32} {T : xSt} (hE : f_truncate S ci hp = some (.inl (some u), T)) : xc (d + 9) 166 [.ref 0, .int ci, .int hp, .ref 189] (hz w S μ ρ) (.inl (some (.int 0)), hz w T μ (xi_u2 ρ 189 0 u.toInt64)) := by
  refine xe_sn pg_166 5 (fr' := (5, [(0, .ref 0), (1, .int ci), (2, .int hp), (3, .ref 189)], [.int hp, .int ci, .ref 0, .int 0, .ref 189])) rfl ?_
  refine xe_callq pg_166 79 [.ref 0, .int ci, .int hp] (.inl (some (.int u))) (8, [(0, .ref 0), (1, .int ci), (2, .int hp), (3, .ref 189)], [.int u, .int 0, .ref 189]) rfl (fun _ => rfl) (c_truncate d hE) ?_
  refine xe_sn pg_166 4 (fr' := (22, [(0, .ref 0), (1, .int ci), (2, .int hp), (3, .ref 189)], [.int 0])) (h' := hz w T μ (xi_u2 ρ 189 0 u.toInt64)) rfl ?_
  exact xe_end pg_166 rfl
set_option maxRecDepth 100000 in
theorem wx_truncate (d : Nat) {w : xWd} {S : xSt} {μ : Nat → Nat → Int32} {ρ : Nat → Nat → Int64} {ci hp : Int32} {E : Nat} {T : xSt} (hE : f_truncate S ci hp = some (.inr E, T)) : xc (d + 9) 166 [.ref 0, .int ci, .int hp, .ref 189] (hz w S μ ρ) (.inl (some (.int (k2 E))), hz (fzw w) T μ ρ) := by
  have hq : E = 0 ∨ E = 2 := oe_truncate E T hE
  refine xe_sn pg_166 5 (fr' := (5, [(0, .ref 0), (1, .int ci), (2, .int hp), (3, .ref 189)], [.int hp, .int ci, .ref 0, .int 0, .ref 189])) rfl ?_
  rcases hq with rfl | rfl
  · refine xe_callq pg_166 79 [.ref 0, .int ci, .int hp] (.inr 0) (15, [(0, .ref 0), (1, .int ci), (2, .int hp), (3, .ref 189)], []) rfl (fun _ => rfl) (c_truncate d hE) ?_
    refine xe_sn pg_166 1 (fr' := (16, [(0, .ref 0), (1, .int ci), (2, .int hp), (3, .ref 189)], [.int 1])) rfl ?_
    exact xe_end pg_166 rfl
  · refine xe_callq pg_166 79 [.ref 0, .int ci, .int hp] (.inr 2) (19, [(0, .ref 0), (1, .int ci), (2, .int hp), (3, .ref 189)], []) rfl (fun _ => rfl) (c_truncate d hE) ?_
    refine xe_sn pg_166 1 (fr' := (20, [(0, .ref 0), (1, .int ci), (2, .int hp), (3, .ref 189)], [.int 2])) rfl ?_
    exact xe_end pg_166 rfl
set_option maxRecDepth 100000 in
theorem w_close (d : Nat) {w : xWd} {S : xSt} {μ : Nat → Nat → Int32} {ρ : Nat → Nat → Int64} {ci : Int32} {T : xSt} (hE : f_close S ci = some (.inl none, T)) : xc (d + 9) 167 [.ref 0, .int ci] (hz w S μ ρ) (.inl (some (.int 0)), hz w T μ (ρ)) := by
  refine xe_sn pg_167 2 (fr' := (2, [(0, .ref 0), (1, .int ci)], [.int ci, .ref 0])) rfl ?_
  refine xe_callq pg_167 80 [.ref 0, .int ci] (.inl none) (5, [(0, .ref 0), (1, .int ci)], []) rfl (fun _ => rfl) (c_close d hE) ?_
  refine xe_sn pg_167 2 (fr' := (15, [(0, .ref 0), (1, .int ci)], [.int 0])) (h' := hz w T μ (ρ)) rfl ?_
  exact xe_end pg_167 rfl
set_option maxRecDepth 100000 in
theorem wx_close (d : Nat) {w : xWd} {S : xSt} {μ : Nat → Nat → Int32} {ρ : Nat → Nat → Int64} {ci : Int32} {E : Nat} {T : xSt} (hE : f_close S ci = some (.inr E, T)) : xc (d + 9) 167 [.ref 0, .int ci] (hz w S μ ρ) (.inl (some (.int (k2 E))), hz (fzw w) T μ ρ) := by
  have hq : E = 0 ∨ E = 2 := oe_close E T hE
  refine xe_sn pg_167 2 (fr' := (2, [(0, .ref 0), (1, .int ci)], [.int ci, .ref 0])) rfl ?_
  rcases hq with rfl | rfl
  · refine xe_callq pg_167 80 [.ref 0, .int ci] (.inr 0) (9, [(0, .ref 0), (1, .int ci)], []) rfl (fun _ => rfl) (c_close d hE) ?_
    refine xe_sn pg_167 1 (fr' := (10, [(0, .ref 0), (1, .int ci)], [.int 1])) rfl ?_
    exact xe_end pg_167 rfl
  · refine xe_callq pg_167 80 [.ref 0, .int ci] (.inr 2) (12, [(0, .ref 0), (1, .int ci)], []) rfl (fun _ => rfl) (c_close d hE) ?_
    refine xe_sn pg_167 1 (fr' := (13, [(0, .ref 0), (1, .int ci)], [.int 2])) rfl ?_
    exact xe_end pg_167 rfl
set_option maxRecDepth 100000 in
theorem w_deliver (d : Nat) {w : xWd} {S : xSt} {μ : Nat → Nat → Int32} {ρ : Nat → Nat → Int64} {m u : Int32} {T : xSt} (hE : f_deliver S m = some (.inl (some u), T)) : xc (d + 8) 168 [.ref 0, .int m, .ref 189] (hz w S μ ρ) (.inl (some (.int 0)), hz w T μ (xi_u2 ρ 189 0 u.toInt64)) := by
  refine xe_sn pg_168 4 (fr' := (4, [(0, .ref 0), (1, .int m), (2, .ref 189)], [.int m, .ref 0, .int 0, .ref 189])) rfl ?_
  refine xe_callq pg_168 81 [.ref 0, .int m] (.inl (some (.int u))) (7, [(0, .ref 0), (1, .int m), (2, .ref 189)], [.int u, .int 0, .ref 189]) rfl (fun _ => rfl) (c_deliver d hE) ?_
  refine xe_sn pg_168 4 (fr' := (16, [(0, .ref 0), (1, .int m), (2, .ref 189)], [.int 0])) (h' := hz w T μ (xi_u2 ρ 189 0 u.toInt64)) rfl ?_
  exact xe_end pg_168 rfl
set_option maxRecDepth 100000 in
theorem wx_deliver (d : Nat) {w : xWd} {S : xSt} {μ : Nat → Nat → Int32} {ρ : Nat → Nat → Int64} {m : Int32} {E : Nat} {T : xSt} (hE : f_deliver S m = some (.inr E, T)) : xc (d + 8) 168 [.ref 0, .int m, .ref 189] (hz w S μ ρ) (.inl (some (.int ((fun _ => 1) E))), hz (fzw w) T μ ρ) := by
  have hq : E = 1 := oe_deliver E T hE
  refine xe_sn pg_168 4 (fr' := (4, [(0, .ref 0), (1, .int m), (2, .ref 189)], [.int m, .ref 0, .int 0, .ref 189])) rfl ?_
  rcases hq with rfl
  · refine xe_callq pg_168 81 [.ref 0, .int m] (.inr 1) (13, [(0, .ref 0), (1, .int m), (2, .ref 189)], []) rfl (fun _ => rfl) (c_deliver d hE) ?_
    refine xe_sn pg_168 1 (fr' := (14, [(0, .ref 0), (1, .int m), (2, .ref 189)], [.int 1])) rfl ?_
    exact xe_end pg_168 rfl
set_option maxRecDepth 100000 in
theorem w_damage (d : Nat) {w : xWd} {S : xSt} {μ : Nat → Nat → Int32} {ρ : Nat → Nat → Int64} {i k m u : Int32} {T : xSt} (hE : f_damage S i k m = some (.inl (some u), T)) : xc (d + 8) 169 [.ref 0, .int i, .int k, .int m, .ref 189] (hz w S μ ρ) (.inl (some (.int 0)), hz w T μ (xi_u2 ρ 189 0 u.toInt64)) := by
  refine xe_sn pg_169 6 (fr' := (7, [(0, .ref 0), (1, .int i), (2, .int k), (3, .int m), (4, .ref 189)], [.int m, .int k, .int i, .ref 0, .int 0, .ref 189])) rfl ?_
  refine xe_callq pg_169 82 [.ref 0, .int i, .int k, .int m] (.inl (some (.int u))) (10, [(0, .ref 0), (1, .int i), (2, .int k), (3, .int m), (4, .ref 189)], [.int u, .int 0, .ref 189]) rfl (fun _ => rfl) (c_damage d hE) ?_
  refine xe_sn pg_169 4 (fr' := (24, [(0, .ref 0), (1, .int i), (2, .int k), (3, .int m), (4, .ref 189)], [.int 0])) (h' := hz w T μ (xi_u2 ρ 189 0 u.toInt64)) rfl ?_
  exact xe_end pg_169 rfl
set_option maxRecDepth 100000 in
theorem wx_damage (d : Nat) {w : xWd} {S : xSt} {μ : Nat → Nat → Int32} {ρ : Nat → Nat → Int64} {i k m : Int32} {E : Nat} {T : xSt} (hE : f_damage S i k m = some (.inr E, T)) : xc (d + 8) 169 [.ref 0, .int i, .int k, .int m, .ref 189] (hz w S μ ρ) (.inl (some (.int (k2 E))), hz (fzw w) T μ ρ) := by
  have hq : E = 0 ∨ E = 1 := oe_damage E T hE
  refine xe_sn pg_169 6 (fr' := (7, [(0, .ref 0), (1, .int i), (2, .int k), (3, .int m), (4, .ref 189)], [.int m, .int k, .int i, .ref 0, .int 0, .ref 189])) rfl ?_
  rcases hq with rfl | rfl
  · refine xe_callq pg_169 82 [.ref 0, .int i, .int k, .int m] (.inr 0) (17, [(0, .ref 0), (1, .int i), (2, .int k), (3, .int m), (4, .ref 189)], []) rfl (fun _ => rfl) (c_damage d hE) ?_
    refine xe_sn pg_169 1 (fr' := (18, [(0, .ref 0), (1, .int i), (2, .int k), (3, .int m), (4, .ref 189)], [.int 1])) rfl ?_
    exact xe_end pg_169 rfl
  · refine xe_callq pg_169 82 [.ref 0, .int i, .int k, .int m] (.inr 1) (21, [(0, .ref 0), (1, .int i), (2, .int k), (3, .int m), (4, .ref 189)], []) rfl (fun _ => rfl) (c_damage d hE) ?_
    refine xe_sn pg_169 1 (fr' := (22, [(0, .ref 0), (1, .int i), (2, .int k), (3, .int m), (4, .ref 189)], [.int 2])) rfl ?_
    exact xe_end pg_169 rfl
set_option maxRecDepth 100000 in
theorem w_lose (d : Nat) {w : xWd} {S : xSt} {μ : Nat → Nat → Int32} {ρ : Nat → Nat → Int64} {i u : Int32} {T : xSt} (hE : f_lose S i = some (.inl (some u), T)) : xc (d + 8) 170 [.ref 0, .int i, .ref 189] (hz w S μ ρ) (.inl (some (.int 0)), hz w T μ (xi_u2 ρ 189 0 u.toInt64)) := by
  refine xe_sn pg_170 4 (fr' := (4, [(0, .ref 0), (1, .int i), (2, .ref 189)], [.int i, .ref 0, .int 0, .ref 189])) rfl ?_
  refine xe_callq pg_170 83 [.ref 0, .int i] (.inl (some (.int u))) (7, [(0, .ref 0), (1, .int i), (2, .ref 189)], [.int u, .int 0, .ref 189]) rfl (fun _ => rfl) (c_lose d hE) ?_
  refine xe_sn pg_170 4 (fr' := (16, [(0, .ref 0), (1, .int i), (2, .ref 189)], [.int 0])) (h' := hz w T μ (xi_u2 ρ 189 0 u.toInt64)) rfl ?_
  exact xe_end pg_170 rfl
set_option maxRecDepth 100000 in
theorem wx_lose (d : Nat) {w : xWd} {S : xSt} {μ : Nat → Nat → Int32} {ρ : Nat → Nat → Int64} {i : Int32} {E : Nat} {T : xSt} (hE : f_lose S i = some (.inr E, T)) : xc (d + 8) 170 [.ref 0, .int i, .ref 189] (hz w S μ ρ) (.inl (some (.int (k2 E))), hz (fzw w) T μ ρ) := by
  have hq : E = 0 := oe_lose E T hE
  refine xe_sn pg_170 4 (fr' := (4, [(0, .ref 0), (1, .int i), (2, .ref 189)], [.int i, .ref 0, .int 0, .ref 189])) rfl ?_
  rcases hq with rfl
  · refine xe_callq pg_170 83 [.ref 0, .int i] (.inr 0) (13, [(0, .ref 0), (1, .int i), (2, .ref 189)], []) rfl (fun _ => rfl) (c_lose d hE) ?_
    refine xe_sn pg_170 1 (fr' := (14, [(0, .ref 0), (1, .int i), (2, .ref 189)], [.int 1])) rfl ?_
    exact xe_end pg_170 rfl
set_option maxRecDepth 100000 in
theorem w_cell (d : Nat) {w : xWd} {S : xSt} {μ : Nat → Nat → Int32} {ρ : Nat → Nat → Int64} {i wh u : Int32} {T : xSt} (hE : f_cell S i wh = some (.inl (some u), T)) : xc (d + 8) 171 [.ref 0, .int i, .int wh, .ref 189] (hz w S μ ρ) (.inl (some (.int 0)), hz w T μ (xi_u2 ρ 189 0 u.toInt64)) := by
  refine xe_sn pg_171 5 (fr' := (5, [(0, .ref 0), (1, .int i), (2, .int wh), (3, .ref 189)], [.int wh, .int i, .ref 0, .int 0, .ref 189])) rfl ?_
  refine xe_callq pg_171 84 [.ref 0, .int i, .int wh] (.inl (some (.int u))) (8, [(0, .ref 0), (1, .int i), (2, .int wh), (3, .ref 189)], [.int u, .int 0, .ref 189]) rfl (fun _ => rfl) (c_cell d hE) ?_
  refine xe_sn pg_171 4 (fr' := (18, [(0, .ref 0), (1, .int i), (2, .int wh), (3, .ref 189)], [.int 0])) (h' := hz w T μ (xi_u2 ρ 189 0 u.toInt64)) rfl ?_
  exact xe_end pg_171 rfl
set_option maxRecDepth 100000 in
theorem wx_cell (d : Nat) {w : xWd} {S : xSt} {μ : Nat → Nat → Int32} {ρ : Nat → Nat → Int64} {i wh : Int32} {E : Nat} {T : xSt} (hE : f_cell S i wh = some (.inr E, T)) : xc (d + 8) 171 [.ref 0, .int i, .int wh, .ref 189] (hz w S μ ρ) (.inl (some (.int (k2 E))), hz (fzw w) T μ ρ) := by
  have hq : E = 0 := oe_cell E T hE
  refine xe_sn pg_171 5 (fr' := (5, [(0, .ref 0), (1, .int i), (2, .int wh), (3, .ref 189)], [.int wh, .int i, .ref 0, .int 0, .ref 189])) rfl ?_
  rcases hq with rfl
  · refine xe_callq pg_171 84 [.ref 0, .int i, .int wh] (.inr 0) (15, [(0, .ref 0), (1, .int i), (2, .int wh), (3, .ref 189)], []) rfl (fun _ => rfl) (c_cell d hE) ?_
    refine xe_sn pg_171 1 (fr' := (16, [(0, .ref 0), (1, .int i), (2, .int wh), (3, .ref 189)], [.int 1])) rfl ?_
    exact xe_end pg_171 rfl
set_option maxRecDepth 100000 in
theorem w_circuit (d : Nat) {w : xWd} {S : xSt} {μ : Nat → Nat → Int32} {ρ : Nat → Nat → Int64} {ci wh u : Int32} {T : xSt} (hE : f_circuit S ci wh = some (.inl (some u), T)) : xc (d + 9) 172 [.ref 0, .int ci, .int wh, .ref 189] (hz w S μ ρ) (.inl (some (.int 0)), hz w T μ (xi_u2 ρ 189 0 u.toInt64)) := by
  refine xe_sn pg_172 5 (fr' := (5, [(0, .ref 0), (1, .int ci), (2, .int wh), (3, .ref 189)], [.int wh, .int ci, .ref 0, .int 0, .ref 189])) rfl ?_
  refine xe_callq pg_172 85 [.ref 0, .int ci, .int wh] (.inl (some (.int u))) (8, [(0, .ref 0), (1, .int ci), (2, .int wh), (3, .ref 189)], [.int u, .int 0, .ref 189]) rfl (fun _ => rfl) (c_circuit d hE) ?_
  refine xe_sn pg_172 4 (fr' := (18, [(0, .ref 0), (1, .int ci), (2, .int wh), (3, .ref 189)], [.int 0])) (h' := hz w T μ (xi_u2 ρ 189 0 u.toInt64)) rfl ?_
  exact xe_end pg_172 rfl
set_option maxRecDepth 100000 in
theorem wx_circuit (d : Nat) {w : xWd} {S : xSt} {μ : Nat → Nat → Int32} {ρ : Nat → Nat → Int64} {ci wh : Int32} {E : Nat} {T : xSt} (hE : f_circuit S ci wh = some (.inr E, T)) : xc (d + 9) 172 [.ref 0, .int ci, .int wh, .ref 189] (hz w S μ ρ) (.inl (some (.int (k2 E))), hz (fzw w) T μ ρ) := by
  have hq : E = 0 := oe_circuit E T hE
  refine xe_sn pg_172 5 (fr' := (5, [(0, .ref 0), (1, .int ci), (2, .int wh), (3, .ref 189)], [.int wh, .int ci, .ref 0, .int 0, .ref 189])) rfl ?_
  rcases hq with rfl
  · refine xe_callq pg_172 85 [.ref 0, .int ci, .int wh] (.inr 0) (15, [(0, .ref 0), (1, .int ci), (2, .int wh), (3, .ref 189)], []) rfl (fun _ => rfl) (c_circuit d hE) ?_
    refine xe_sn pg_172 1 (fr' := (16, [(0, .ref 0), (1, .int ci), (2, .int wh), (3, .ref 189)], [.int 1])) rfl ?_
    exact xe_end pg_172 rfl
set_option maxRecDepth 100000 in
theorem w_key (d : Nat) {w : xWd} {S : xSt} {μ : Nat → Nat → Int32} {ρ : Nat → Nat → Int64} {ci hp k u : Int32} {T : xSt} (hE : f_key S ci hp k = some (.inl (some u), T)) : xc (d + 9) 173 [.ref 0, .int ci, .int hp, .int k, .ref 189] (hz w S μ ρ) (.inl (some (.int 0)), hz w T μ (xi_u2 ρ 189 0 u.toInt64)) := by
  refine xe_sn pg_173 6 (fr' := (7, [(0, .ref 0), (1, .int ci), (2, .int hp), (3, .int k), (4, .ref 189)], [.int k, .int hp, .int ci, .ref 0, .int 0, .ref 189])) rfl ?_
  refine xe_callq pg_173 86 [.ref 0, .int ci, .int hp, .int k] (.inl (some (.int u))) (10, [(0, .ref 0), (1, .int ci), (2, .int hp), (3, .int k), (4, .ref 189)], [.int u, .int 0, .ref 189]) rfl (fun _ => rfl) (c_key d hE) ?_
  refine xe_sn pg_173 4 (fr' := (20, [(0, .ref 0), (1, .int ci), (2, .int hp), (3, .int k), (4, .ref 189)], [.int 0])) (h' := hz w T μ (xi_u2 ρ 189 0 u.toInt64)) rfl ?_
  exact xe_end pg_173 rfl
set_option maxRecDepth 100000 in
theorem wx_key (d : Nat) {w : xWd} {S : xSt} {μ : Nat → Nat → Int32} {ρ : Nat → Nat → Int64} {ci hp k : Int32} {E : Nat} {T : xSt} (hE : f_key S ci hp k = some (.inr E, T)) : xc (d + 9) 173 [.ref 0, .int ci, .int hp, .int k, .ref 189] (hz w S μ ρ) (.inl (some (.int (k2 E))), hz (fzw w) T μ ρ) := by
  have hq : E = 0 := oe_key E T hE
  refine xe_sn pg_173 6 (fr' := (7, [(0, .ref 0), (1, .int ci), (2, .int hp), (3, .int k), (4, .ref 189)], [.int k, .int hp, .int ci, .ref 0, .int 0, .ref 189])) rfl ?_
  rcases hq with rfl
  · refine xe_callq pg_173 86 [.ref 0, .int ci, .int hp, .int k] (.inr 0) (17, [(0, .ref 0), (1, .int ci), (2, .int hp), (3, .int k), (4, .ref 189)], []) rfl (fun _ => rfl) (c_key d hE) ?_
    refine xe_sn pg_173 1 (fr' := (18, [(0, .ref 0), (1, .int ci), (2, .int hp), (3, .int k), (4, .ref 189)], [.int 1])) rfl ?_
    exact xe_end pg_173 rfl
set_option maxRecDepth 100000 in
theorem w_relay (d : Nat) {w : xWd} {S : xSt} {μ : Nat → Nat → Int32} {ρ : Nat → Nat → Int64} {rl ci wh u : Int32} {T : xSt} (hE : f_relay S rl ci wh = some (.inl (some u), T)) : xc (d + 9) 174 [.ref 0, .int rl, .int ci, .int wh, .ref 189] (hz w S μ ρ) (.inl (some (.int 0)), hz w T μ (xi_u2 ρ 189 0 u.toInt64)) := by
  refine xe_sn pg_174 6 (fr' := (7, [(0, .ref 0), (1, .int rl), (2, .int ci), (3, .int wh), (4, .ref 189)], [.int wh, .int ci, .int rl, .ref 0, .int 0, .ref 189])) rfl ?_
  refine xe_callq pg_174 87 [.ref 0, .int rl, .int ci, .int wh] (.inl (some (.int u))) (10, [(0, .ref 0), (1, .int rl), (2, .int ci), (3, .int wh), (4, .ref 189)], [.int u, .int 0, .ref 189]) rfl (fun _ => rfl) (c_relay d hE) ?_
  refine xe_sn pg_174 4 (fr' := (20, [(0, .ref 0), (1, .int rl), (2, .int ci), (3, .int wh), (4, .ref 189)], [.int 0])) (h' := hz w T μ (xi_u2 ρ 189 0 u.toInt64)) rfl ?_
  exact xe_end pg_174 rfl
set_option maxRecDepth 100000 in
theorem wx_relay (d : Nat) {w : xWd} {S : xSt} {μ : Nat → Nat → Int32} {ρ : Nat → Nat → Int64} {rl ci wh : Int32} {E : Nat} {T : xSt} (hE : f_relay S rl ci wh = some (.inr E, T)) : xc (d + 9) 174 [.ref 0, .int rl, .int ci, .int wh, .ref 189] (hz w S μ ρ) (.inl (some (.int (k2 E))), hz (fzw w) T μ ρ) := by
  have hq : E = 0 := oe_relay E T hE
  refine xe_sn pg_174 6 (fr' := (7, [(0, .ref 0), (1, .int rl), (2, .int ci), (3, .int wh), (4, .ref 189)], [.int wh, .int ci, .int rl, .ref 0, .int 0, .ref 189])) rfl ?_
  rcases hq with rfl
  · refine xe_callq pg_174 87 [.ref 0, .int rl, .int ci, .int wh] (.inr 0) (17, [(0, .ref 0), (1, .int rl), (2, .int ci), (3, .int wh), (4, .ref 189)], []) rfl (fun _ => rfl) (c_relay d hE) ?_
    refine xe_sn pg_174 1 (fr' := (18, [(0, .ref 0), (1, .int rl), (2, .int ci), (3, .int wh), (4, .ref 189)], [.int 1])) rfl ?_
    exact xe_end pg_174 rfl
set_option maxRecDepth 100000 in
theorem w_data (d : Nat) {w : xWd} {S : xSt} {μ : Nat → Nat → Int32} {ρ : Nat → Nat → Int64} {ci i u : Int32} {T : xSt} (hE : f_data S ci i = some (.inl (some u), T)) : xc (d + 9) 175 [.ref 0, .int ci, .int i, .ref 189] (hz w S μ ρ) (.inl (some (.int 0)), hz w T μ (xi_u2 ρ 189 0 u.toInt64)) := by
  refine xe_sn pg_175 5 (fr' := (5, [(0, .ref 0), (1, .int ci), (2, .int i), (3, .ref 189)], [.int i, .int ci, .ref 0, .int 0, .ref 189])) rfl ?_
  refine xe_callq pg_175 88 [.ref 0, .int ci, .int i] (.inl (some (.int u))) (8, [(0, .ref 0), (1, .int ci), (2, .int i), (3, .ref 189)], [.int u, .int 0, .ref 189]) rfl (fun _ => rfl) (c_data d hE) ?_
  refine xe_sn pg_175 4 (fr' := (18, [(0, .ref 0), (1, .int ci), (2, .int i), (3, .ref 189)], [.int 0])) (h' := hz w T μ (xi_u2 ρ 189 0 u.toInt64)) rfl ?_
  exact xe_end pg_175 rfl
set_option maxRecDepth 100000 in
theorem wx_data (d : Nat) {w : xWd} {S : xSt} {μ : Nat → Nat → Int32} {ρ : Nat → Nat → Int64} {ci i : Int32} {E : Nat} {T : xSt} (hE : f_data S ci i = some (.inr E, T)) : xc (d + 9) 175 [.ref 0, .int ci, .int i, .ref 189] (hz w S μ ρ) (.inl (some (.int (k2 E))), hz (fzw w) T μ ρ) := by
  have hq : E = 0 := oe_data E T hE
  refine xe_sn pg_175 5 (fr' := (5, [(0, .ref 0), (1, .int ci), (2, .int i), (3, .ref 189)], [.int i, .int ci, .ref 0, .int 0, .ref 189])) rfl ?_
  rcases hq with rfl
  · refine xe_callq pg_175 88 [.ref 0, .int ci, .int i] (.inr 0) (15, [(0, .ref 0), (1, .int ci), (2, .int i), (3, .ref 189)], []) rfl (fun _ => rfl) (c_data d hE) ?_
    refine xe_sn pg_175 1 (fr' := (16, [(0, .ref 0), (1, .int ci), (2, .int i), (3, .ref 189)], [.int 1])) rfl ?_
    exact xe_end pg_175 rfl
set_option maxRecDepth 100000 in
theorem w_count (d : Nat) {w : xWd} {S : xSt} {μ : Nat → Nat → Int32} {ρ : Nat → Nat → Int64} {wh u : Int32} {T : xSt} (hE : f_count S wh = some (.inl (some u), T)) : xc (d + 8) 176 [.ref 0, .int wh, .ref 189] (hz w S μ ρ) (.inl (some (.int 0)), hz w T μ (xi_u2 ρ 189 0 u.toInt64)) := by
  refine xe_sn pg_176 4 (fr' := (4, [(0, .ref 0), (1, .int wh), (2, .ref 189)], [.int wh, .ref 0, .int 0, .ref 189])) rfl ?_
  refine xe_callq pg_176 89 [.ref 0, .int wh] (.inl (some (.int u))) (7, [(0, .ref 0), (1, .int wh), (2, .ref 189)], [.int u, .int 0, .ref 189]) rfl (fun _ => rfl) (c_count d hE) ?_
  refine xe_sn pg_176 4 (fr' := (16, [(0, .ref 0), (1, .int wh), (2, .ref 189)], [.int 0])) (h' := hz w T μ (xi_u2 ρ 189 0 u.toInt64)) rfl ?_
  exact xe_end pg_176 rfl
set_option maxRecDepth 100000 in
theorem wx_count (d : Nat) {w : xWd} {S : xSt} {μ : Nat → Nat → Int32} {ρ : Nat → Nat → Int64} {wh : Int32} {E : Nat} {T : xSt} (hE : f_count S wh = some (.inr E, T)) : xc (d + 8) 176 [.ref 0, .int wh, .ref 189] (hz w S μ ρ) (.inl (some (.int (k2 E))), hz (fzw w) T μ ρ) := by
  have hq : E = 0 := oe_count E T hE
  refine xe_sn pg_176 4 (fr' := (4, [(0, .ref 0), (1, .int wh), (2, .ref 189)], [.int wh, .ref 0, .int 0, .ref 189])) rfl ?_
  rcases hq with rfl
  · refine xe_callq pg_176 89 [.ref 0, .int wh] (.inr 0) (13, [(0, .ref 0), (1, .int wh), (2, .ref 189)], []) rfl (fun _ => rfl) (c_count d hE) ?_
    refine xe_sn pg_176 1 (fr' := (14, [(0, .ref 0), (1, .int wh), (2, .ref 189)], [.int 1])) rfl ?_
    exact xe_end pg_176 rfl
