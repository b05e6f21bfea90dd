/-! bytes: wrapping, feeding; rows put anew -/
def ks (key : Int32) : Nat → Int32
  | 0 => key
  | n + 1 => ks key n * 1664525 + 1013904223
def wrapB (f : Nat → Int32) (key : Int32) (n : Nat) : Nat → Int32 := fun i => if i < n then f i ^^^ ushr (ks key (i + 1)) 24 else f i
def fd (f : Nat → Int32) (key : Int32) : Nat → Int32
  | 0 => key
  | n + 1 => f_mix (fd f key n) (if n = 2 ∨ n = 3 then 0 else f n)
def adr (f : Nat → Int32) (a b c e : Int32) : Nat → Int32 := fun i => if i < 14 then 0 else if i = 14 then a else if i = 15 then b else if i = 16 then c else if i = 17 then e else if i = 18 then 0 else f i
def cpy (f g : Nat → Int32) (n : Nat) : Nat → Int32 := fun i => if i < n then g i else f i
def mr (μ : Nat → Nat → Int32) (r : Nat) (f : Nat → Int32) : Nat → Nat → Int32 := fun b => if b = r then f else μ b
def w_wrap (S : xSt) (κ : Nat) (key : Int32) : xSt := sr S κ (wrapB (S.2.1 κ) key 14)
def w_adr (S : xSt) (κ : Nat) (a b c e : Int32) : xSt := sr S κ (adr (S.2.1 κ) a b c e)
def w_cpy (S : xSt) (κ κf : Nat) : xSt := sr S κ (cpy (S.2.1 κ) (S.2.1 κf) 14)
def m_wrap (μ : Nat → Nat → Int32) (key : Int32) : Nat → Nat → Int32 := mr μ 187 (wrapB (μ 187) key 14)
def m_clr (μ : Nat → Nat → Int32) : Nat → Nat → Int32 := mr μ 187 (cpy (μ 187) (fun _ => 0) 14)
theorem lp_in {n b : Nat} (h : n < b) (hb : b < 2 ^ 31) : ¬ xi_cp .ge (nI n) (nI b) := nI_ge h hb
theorem lp_out {n b : Nat} (h : b ≤ n) (hb : n < 2 ^ 31) : xi_cp .ge (nI n) (nI b) := nI_le h hb
theorem lp_eq {n b : Nat} (h : n = b) : nI n = nI b := by rw [h]
theorem lp_ne {n b : Nat} (h : n ≠ b) (hn : n < 2 ^ 31) (hb : b < 2 ^ 31) : ¬ nI n = nI b := fun q => h ((nI_eq hn hb).mp q)
theorem sr_rd (S : xSt) (κ : Nat) (f : Nat → Int32) : (sr S κ f).2.1 κ = f := if_pos rfl
theorem sr_ne (S : xSt) {κ x : Nat} (f : Nat → Int32) (h : x ≠ κ) : (sr S κ f).2.1 x = S.2.1 x := if_neg h
theorem sr_self (S : xSt) (κ : Nat) : sr S κ (S.2.1 κ) = S := by
  unfold sr
  refine Prod.ext rfl (Prod.ext ?_ rfl)
  funext b
  show (if b = κ then S.2.1 κ else S.2.1 b) = S.2.1 b
  by_cases h : b = κ
  · rw [if_pos h, h]
  · rw [if_neg h]
theorem sr_sy (S : xSt) (κ : Nat) (f : Nat → Int32) (i : Nat) (v : Int32) : sy (sr S κ f) κ i v = sr S κ (fun j => if j = i then v else f j) := by
  unfold sy sr
  refine Prod.ext rfl (Prod.ext ?_ rfl)
  funext b j
  show xi_u2 (fun b => if b = κ then f else S.2.1 b) κ i v b j = (if b = κ then (fun j => if j = i then v else f j) else S.2.1 b) j
  unfold xi_u2
  dsimp only
  by_cases h : b = κ
  · rw [if_pos h, if_pos h, if_pos h]
  · rw [if_neg h, if_neg h, if_neg h]
theorem sy_sr (S : xSt) (κ : Nat) (i : Nat) (v : Int32) : sy S κ i v = sr S κ (fun j => if j = i then v else S.2.1 κ j) := by
  conv => lhs; rw [← sr_self S κ]
  rw [sr_sy]
theorem sr_sr (S : xSt) (κ : Nat) (f g : Nat → Int32) : sr (sr S κ f) κ g = sr S κ g := by
  unfold sr
  refine Prod.ext rfl (Prod.ext ?_ rfl)
  funext b
  show (if b = κ then g else if b = κ then f else S.2.1 b) = if b = κ then g else S.2.1 b
  by_cases h : b = κ
  · rw [if_pos h, if_pos h]
  · rw [if_neg h, if_neg h, if_neg h]
theorem mr_self (μ : Nat → Nat → Int32) (r : Nat) : mr μ r (μ r) = μ := by
  funext b
  unfold mr
  by_cases h : b = r
  · rw [if_pos h, h]
  · rw [if_neg h]
theorem mr_rd (μ : Nat → Nat → Int32) (r : Nat) (f : Nat → Int32) : mr μ r f r = f := if_pos rfl
theorem mr_ne (μ : Nat → Nat → Int32) {r x : Nat} (f : Nat → Int32) (h : x ≠ r) : mr μ r f x = μ x := if_neg h
theorem mr_u2 (μ : Nat → Nat → Int32) (r : Nat) (f : Nat → Int32) (i : Nat) (v : Int32) : xi_u2 (mr μ r f) r i v = mr μ r (fun j => if j = i then v else f j) := by
  funext b j
  unfold xi_u2 mr
  by_cases h : b = r
  · rw [if_pos h, if_pos h, if_pos h]
  · rw [if_neg h, if_neg h, if_neg h]
theorem wrapB_s (f : Nat → Int32) (key : Int32) (n : Nat) : (fun j => if j = n then wrapB f key n n ^^^ ushr (ks key (n + 1)) 24 else wrapB f key n j) = wrapB f key (n + 1) := by
  funext j
  unfold wrapB
  by_cases h : j = n
  · rw [if_pos h, if_neg (Nat.lt_irrefl n), if_pos (by omega), h]
  · rw [if_neg h]
    by_cases h2 : j < n
    · rw [if_pos h2, if_pos (by omega)]
    · rw [if_neg h2, if_neg (by omega)]
theorem wrapB_0 (f : Nat → Int32) (key : Int32) : wrapB f key 0 = f := by
  funext j
  exact if_neg (Nat.not_lt_zero j)
theorem cpy_0 (f g : Nat → Int32) : cpy f g 0 = f := by
  funext j
  exact if_neg (Nat.not_lt_zero j)
theorem cpy_s (f g : Nat → Int32) (n : Nat) : (fun j => if j = n then g n else cpy f g n j) = cpy f g (n + 1) := by
  funext j
  unfold cpy
  by_cases h : j = n
  · rw [if_pos h, if_pos (by omega), h]
  · rw [if_neg h]
    by_cases h2 : j < n
    · rw [if_pos h2, if_pos (by omega)]
    · rw [if_neg h2, if_neg (by omega)]

set_option maxRecDepth 100000 in
theorem wrap_loop (d : Nat) {w : xWd} {S : xSt} {μ : Nat → Nat → Int32} {ρ : Nat → Nat → Int64} {κ : Nat} {key : Int32} (hκ : κ < 22) : ∀ j n, n + j = 14 → xe d 12 (4, [(3, .int (nI n)), (2, .int (ks key n)), (0, .ref (ja_L κ)), (1, .int key)], []) (hz w (sr S κ (wrapB (S.2.1 κ) key n)) μ ρ) (.inl (some (.int (ks key 14))), hz w (w_wrap S κ key) μ ρ) := by
  intro j
  induction j with
  | zero =>
    intro n hn
    obtain rfl : n = 14 := by omega
    refine xe_sn pg_12 2 (fr' := (7, [(3, .int (nI 14)), (2, .int (ks key 14)), (0, .ref (ja_L κ)), (1, .int key)], [.int 14, .int (nI 14)])) rfl ?_
    refine xe_c2t pg_12 37 rfl rfl (lp_out (b := 14) (by omega) (by omega)) ?_
    refine xe_sn pg_12 1 (fr' := (38, [(3, .int (nI 14)), (2, .int (ks key 14)), (0, .ref (ja_L κ)), (1, .int key)], [.int (ks key 14)])) rfl ?_
    exact xe_end pg_12 rfl
  | succ j ih =>
    intro n hn
    refine xe_sn pg_12 2 (fr' := (7, [(3, .int (nI n)), (2, .int (ks key n)), (0, .ref (ja_L κ)), (1, .int key)], [.int 14, .int (nI n)])) rfl ?_
    refine xe_c2f pg_12 37 rfl rfl (lp_in (b := 14) (by omega) (by decide)) ?_
    refine xe_sn pg_12 7 (fr' := (19, [(2, .int (((ks key n) * 1664525) + 1013904223)), (3, .int (nI n)), (0, .ref (ja_L κ)), (1, .int key)], [.ref (ja_L κ)])) rfl ?_
    refine xe_gr pg_12 (ja_B κ) rfl rfl rfl (kk1 (k_L hκ)) (r_L0 hκ _) ?_
    refine xe_sn pg_12 2 (fr' := (24, [(2, .int (((ks key n) * 1664525) + 1013904223)), (3, .int (nI n)), (0, .ref (ja_L κ)), (1, .int key)], [.int (nI n), .ref (ja_B κ), .int (nI n), .ref (ja_B κ)])) rfl ?_
    refine ye_il pg_12 n ((sr S κ (wrapB (S.2.1 κ) key n)).2.1 κ n) rfl (k_B hκ) (bn (by omega) (by decide)) (bc (n := 14) (by omega) (by decide)) ((l_B hκ (by omega)).rd _) ?_
    refine xe_sn pg_12 4 (fr' := (30, [(2, .int (((ks key n) * 1664525) + 1013904223)), (3, .int (nI n)), (0, .ref (ja_L κ)), (1, .int key)], [.int (((sr S κ (wrapB (S.2.1 κ) key n)).2.1 κ n) ^^^ (ushr (((ks key n) * 1664525) + 1013904223) 24)), .int (nI n), .ref (ja_B κ)])) rfl ?_
    refine ye_iy pg_12 n rfl (k_B hκ) (bn (by omega) (by decide)) (bc (n := 14) (by omega) (by decide)) (l_B hκ (by omega)) ?_
    refine xe_sn pg_12 2 (fr' := (4, [(3, .int ((nI n) + 1)), (2, .int (((ks key n) * 1664525) + 1013904223)), (0, .ref (ja_L κ)), (1, .int key)], [])) rfl ?_
    rw [nI_1, sr_rd, sr_sy, show ks key n * 1664525 + 1013904223 = ks key (n + 1) from rfl, wrapB_s]
    exact ih (n + 1) (by omega)

set_option maxRecDepth 100000 in
theorem c_wrap (d : Nat) {w : xWd} {S : xSt} {μ : Nat → Nat → Int32} {ρ : Nat → Nat → Int64} {κ : Nat} {key : Int32} (hκ : κ < 22) : xc (d) 12 [.ref (ja_L κ), .int key] (hz w S μ ρ) (.inl (some (.int (ks key 14))), hz w (w_wrap S κ key) μ ρ) := by
  refine xe_sn pg_12 4 (fr' := (4, [(3, .int 0), (2, .int key), (0, .ref (ja_L κ)), (1, .int key)], [])) rfl ?_
  have e := wrap_loop d (w := w) (S := S) (μ := μ) (ρ := ρ) (key := key) hκ 14 0 rfl
  rw [wrapB_0, sr_self] at e
  exact e

set_option maxRecDepth 100000 in
theorem mwrap_loop (d : Nat) {w : xWd} {S : xSt} {μ : Nat → Nat → Int32} {ρ : Nat → Nat → Int64} {key : Int32} : ∀ j n, n + j = 14 → xe d 109 (4, [(3, .int (nI n)), (2, .int (ks key n)), (0, .ref 165), (1, .int key)], []) (hz w S (mr μ 187 (wrapB (μ 187) key n)) ρ) (.inl (some (.int (ks key 14))), hz w S (m_wrap μ key) ρ) := by
  intro j
  induction j with
  | zero =>
    intro n hn
    obtain rfl : n = 14 := by omega
    refine xe_sn pg_109 2 (fr' := (7, [(3, .int (nI 14)), (2, .int (ks key 14)), (0, .ref 165), (1, .int key)], [.int 14, .int (nI 14)])) rfl ?_
    refine xe_c2t pg_109 41 rfl rfl (lp_out (b := 14) (by omega) (by omega)) ?_
    refine xe_sn pg_109 1 (fr' := (42, [(3, .int (nI 14)), (2, .int (ks key 14)), (0, .ref 165), (1, .int key)], [.int (ks key 14)])) rfl ?_
    exact xe_end pg_109 rfl
  | succ j ih =>
    intro n hn
    refine xe_sn pg_109 2 (fr' := (7, [(3, .int (nI n)), (2, .int (ks key n)), (0, .ref 165), (1, .int key)], [.int 14, .int (nI n)])) rfl ?_
    refine xe_c2f pg_109 41 rfl rfl (lp_in (b := 14) (by omega) (by decide)) ?_
    refine xe_sn pg_109 10 (fr' := (24, [(2, .int (((ks key n) * 1664525) + 1013904223)), (3, .int (nI n)), (0, .ref 165), (1, .int key)], [.ref 165, .int (nI n), .ref 187])) rfl ?_
    refine xe_sn pg_109 2 (fr' := (28, [(2, .int (((ks key n) * 1664525) + 1013904223)), (3, .int (nI n)), (0, .ref 165), (1, .int key)], [.int (nI n), .ref 187, .int (nI n), .ref 187])) rfl ?_
    refine xe_ilm pg_109 n rfl ⟨by decide, by decide⟩ rfl (bn (by omega) (by decide)) (bc (n := 14) (by omega) (by decide)) ?_
    refine xe_sn pg_109 4 (fr' := (34, [(2, .int (((ks key n) * 1664525) + 1013904223)), (3, .int (nI n)), (0, .ref 165), (1, .int key)], [.int (((mr μ 187 (wrapB (μ 187) key n)) 187 n) ^^^ (ushr (((ks key n) * 1664525) + 1013904223) 24)), .int (nI n), .ref 187])) rfl ?_
    refine xe_ism pg_109 n rfl ⟨by decide, by decide⟩ rfl (bn (by omega) (by decide)) (bc (n := 14) (by omega) (by decide)) ?_
    refine xe_sn pg_109 2 (fr' := (4, [(3, .int ((nI n) + 1)), (2, .int (((ks key n) * 1664525) + 1013904223)), (0, .ref 165), (1, .int key)], [])) rfl ?_
    rw [nI_1, mr_rd, mr_u2, show ks key n * 1664525 + 1013904223 = ks key (n + 1) from rfl, wrapB_s]
    exact ih (n + 1) (by omega)

set_option maxRecDepth 100000 in
theorem c_mwrap (d : Nat) {w : xWd} {S : xSt} {μ : Nat → Nat → Int32} {ρ : Nat → Nat → Int64} {key : Int32} : xc (d) 109 [.ref 165, .int key] (hz w S μ ρ) (.inl (some (.int (ks key 14))), hz w S (m_wrap μ key) ρ) := by
  refine xe_sn pg_109 4 (fr' := (4, [(3, .int 0), (2, .int key), (0, .ref 165), (1, .int key)], [])) rfl ?_
  have e := mwrap_loop d (w := w) (S := S) (μ := μ) (ρ := ρ) (key := key) 14 0 rfl
  rw [wrapB_0, mr_self] at e
  exact e

set_option maxRecDepth 100000 in
theorem clr_loop (d : Nat) {w : xWd} {S : xSt} {μ : Nat → Nat → Int32} {ρ : Nat → Nat → Int64} : ∀ j n, n + j = 14 → xe d 113 (2, [(1, .int (nI n)), (0, .ref 165)], []) (hz w S (mr μ 187 (cpy (μ 187) (fun _ => 0) n)) ρ) (.inl none, hz w S (m_clr μ) ρ) := by
  intro j
  induction j with
  | zero =>
    intro n hn
    obtain rfl : n = 14 := by omega
    refine xe_sn pg_113 2 (fr' := (5, [(1, .int (nI 14)), (0, .ref 165)], [.int 14, .int (nI 14)])) rfl ?_
    refine xe_c2t pg_113 21 rfl rfl (lp_out (b := 14) (by omega) (by omega)) ?_
    exact xe_end pg_113 rfl
  | succ j ih =>
    intro n hn
    refine xe_sn pg_113 2 (fr' := (5, [(1, .int (nI n)), (0, .ref 165)], [.int 14, .int (nI n)])) rfl ?_
    refine xe_c2f pg_113 21 rfl rfl (lp_in (b := 14) (by omega) (by decide)) ?_
    refine xe_sn pg_113 4 (fr' := (14, [(1, .int (nI n)), (0, .ref 165)], [.int 0, .int (nI n), .ref 187])) rfl ?_
    refine xe_ism pg_113 n rfl ⟨by decide, by decide⟩ rfl (bn (by omega) (by decide)) (bc (n := 14) (by omega) (by decide)) ?_
    refine xe_sn pg_113 2 (fr' := (2, [(1, .int ((nI n) + 1)), (0, .ref 165)], [])) rfl ?_
    rw [nI_1, mr_u2, cpy_s (μ 187) (fun _ => 0)]
    exact ih (n + 1) (by omega)

set_option maxRecDepth 100000 in
theorem c_clr (d : Nat) {w : xWd} {S : xSt} {μ : Nat → Nat → Int32} {ρ : Nat → Nat → Int64} : xc (d) 113 [.ref 165] (hz w S μ ρ) (.inl (none), hz w S (m_clr μ) ρ) := by
  refine xe_sn pg_113 2 (fr' := (2, [(1, .int 0), (0, .ref 165)], [])) rfl ?_
  have e := clr_loop d (w := w) (S := S) (μ := μ) (ρ := ρ) 14 0 rfl
  rw [cpy_0, mr_self] at e
  exact e

theorem cpy_rd (S : xSt) (κ κf n : Nat) : (sr S κ (cpy (S.2.1 κ) (S.2.1 κf) n)).2.1 κf n = S.2.1 κf n := by
  by_cases h : κf = κ
  · subst h
    rw [sr_rd]
    exact if_neg (Nat.lt_irrefl n)
  · rw [sr_ne _ _ h]

set_option maxRecDepth 100000 in
theorem cpy_loop (d : Nat) {w : xWd} {S : xSt} {μ : Nat → Nat → Int32} {ρ : Nat → Nat → Int64} {κ κf : Nat} (hκ : κ < 22) (hκf : κf < 22) : ∀ j n, n + j = 14 → xe d 8 (2, [(2, .int (nI n)), (0, .ref (ja_L κ)), (1, .ref (ja_L κf))], []) (hz w (sr S κ (cpy (S.2.1 κ) (S.2.1 κf) n)) μ ρ) (.inl none, hz w (w_cpy S κ κf) μ ρ) := by
  intro j
  induction j with
  | zero =>
    intro n hn
    obtain rfl : n = 14 := by omega
    refine xe_sn pg_8 2 (fr' := (5, [(2, .int (nI 14)), (0, .ref (ja_L κ)), (1, .ref (ja_L κf))], [.int 14, .int (nI 14)])) rfl ?_
    refine xe_c2t pg_8 26 rfl rfl (lp_out (b := 14) (by omega) (by omega)) ?_
    exact xe_end pg_8 rfl
  | succ j ih =>
    intro n hn
    refine xe_sn pg_8 2 (fr' := (5, [(2, .int (nI n)), (0, .ref (ja_L κ)), (1, .ref (ja_L κf))], [.int 14, .int (nI n)])) rfl ?_
    refine xe_c2f pg_8 26 rfl rfl (lp_in (b := 14) (by omega) (by decide)) ?_
    refine xe_sn pg_8 1 (fr' := (9, [(2, .int (nI n)), (0, .ref (ja_L κ)), (1, .ref (ja_L κf))], [.ref (ja_L κ)])) rfl ?_
    refine xe_gr pg_8 (ja_B κ) rfl rfl rfl (kk1 (k_L hκ)) (r_L0 hκ _) ?_
    refine xe_sn pg_8 2 (fr' := (14, [(2, .int (nI n)), (0, .ref (ja_L κ)), (1, .ref (ja_L κf))], [.ref (ja_L κf), .int (nI n), .ref (ja_B κ)])) rfl ?_
    refine xe_gr pg_8 (ja_B κf) rfl rfl rfl (kk1 (k_L hκf)) (r_L0 hκf _) ?_
    refine xe_sn pg_8 1 (fr' := (18, [(2, .int (nI n)), (0, .ref (ja_L κ)), (1, .ref (ja_L κf))], [.int (nI n), .ref (ja_B κf), .int (nI n), .ref (ja_B κ)])) rfl ?_
    refine ye_il pg_8 n ((sr S κ (cpy (S.2.1 κ) (S.2.1 κf) n)).2.1 κf n) rfl (k_B hκf) (bn (by omega) (by decide)) (bc (n := 14) (by omega) (by decide)) ((l_B hκf (by omega)).rd _) ?_
    refine ye_iy pg_8 n rfl (k_B hκ) (bn (by omega) (by decide)) (bc (n := 14) (by omega) (by decide)) (l_B hκ (by omega)) ?_
    refine xe_sn pg_8 2 (fr' := (2, [(2, .int ((nI n) + 1)), (0, .ref (ja_L κ)), (1, .ref (ja_L κf))], [])) rfl ?_
    rw [nI_1, cpy_rd, sr_sy, cpy_s]
    exact ih (n + 1) (by omega)

set_option maxRecDepth 100000 in
theorem c_copyBytes (d : Nat) {w : xWd} {S : xSt} {μ : Nat → Nat → Int32} {ρ : Nat → Nat → Int64} {κ : Nat} {κf : Nat} (hκ : κ < 22) (hκf : κf < 22) : xc (d) 8 [.ref (ja_L κ), .ref (ja_L κf)] (hz w S μ ρ) (.inl (none), hz w (w_cpy S κ κf) μ ρ) := by
  refine xe_sn pg_8 2 (fr' := (2, [(2, .int 0), (0, .ref (ja_L κ)), (1, .ref (ja_L κf))], [])) rfl ?_
  have e := cpy_loop d (w := w) (S := S) (μ := μ) (ρ := ρ) hκ hκf 14 0 rfl
  rw [cpy_0, sr_self] at e
  exact e

def f_mmix (x : Int32) (y : Int32) : Int32 := (((x ^^^ y) * 16777619) ^^^ (ushr ((x ^^^ y) * 16777619) 15))
set_option maxRecDepth 100000 in
theorem c_mmix (d : Nat) {w : xWd} {S : xSt} {μ : Nat → Nat → Int32} {ρ : Nat → Nat → Int64} {x : Int32} {y : Int32} {r : Int32} (hE : (f_mmix x y) = r) : xc (d) 107 [.int x, .int y] (hz w S μ ρ) (.inl (some (.int r)), hz w S μ ρ) := by
  unfold f_mmix at hE
  refine xe_sn pg_107 10 (fr' := (12, [(2, .int ((x ^^^ y) * 16777619)), (0, .int x), (1, .int y)], [.int (ushr ((x ^^^ y) * 16777619) 15), .int ((x ^^^ y) * 16777619)])) rfl ?_
  refine xe_sn pg_107 1 (fr' := (13, [(2, .int ((x ^^^ y) * 16777619)), (0, .int x), (1, .int y)], [.int (((x ^^^ y) * 16777619) ^^^ (ushr ((x ^^^ y) * 16777619) 15))])) rfl ?_
  subst hE
  exact xe_end pg_107 rfl

theorem fd_0 {f : Nat → Int32} {key : Int32} {n : Nat} (h : n = 2 ∨ n = 3) : f_mix (fd f key n) 0 = fd f key (n + 1) := by
  show _ = f_mix (fd f key n) (if n = 2 ∨ n = 3 then 0 else f n)
  rw [if_pos h]
theorem fd_1 {f : Nat → Int32} {key : Int32} {n : Nat} (h : ¬ (n = 2 ∨ n = 3)) : f_mix (fd f key n) (f n) = fd f key (n + 1) := by
  show _ = f_mix (fd f key n) (if n = 2 ∨ n = 3 then 0 else f n)
  rw [if_neg h]

def f_fed (S : xSt) (κ : Nat) (key : Int32) : Int32 := fd (S.2.1 κ) key 14

set_option maxRecDepth 100000 in
theorem fed_loop (d : Nat) {w : xWd} {S : xSt} {μ : Nat → Nat → Int32} {ρ : Nat → Nat → Int64} {κ : Nat} {key : Int32} (hκ : κ < 22) : ∀ j n q, n + j = 14 → xe (d + 1) 13 (4, [(3, .int (nI n)), (2, .int (fd (S.2.1 κ) key n)), (4, .int q), (0, .ref (ja_L κ)), (1, .int key)], []) (hz w S μ ρ) (.inl (some (.int (fd (S.2.1 κ) key 14))), hz w S μ ρ) := by
  intro j
  induction j with
  | zero =>
    intro n q hn
    obtain rfl : n = 14 := by omega
    refine xe_sn pg_13 2 (fr' := (7, [(3, .int (nI 14)), (2, .int (fd (S.2.1 κ) key 14)), (4, .int q), (0, .ref (ja_L κ)), (1, .int key)], [.int 14, .int (nI 14)])) rfl ?_
    refine xe_c2t pg_13 53 rfl rfl (lp_out (b := 14) (by omega) (by omega)) ?_
    refine xe_sn pg_13 1 (fr' := (54, [(3, .int (nI 14)), (2, .int (fd (S.2.1 κ) key 14)), (4, .int q), (0, .ref (ja_L κ)), (1, .int key)], [.int (fd (S.2.1 κ) key 14)])) rfl ?_
    exact xe_end pg_13 rfl
  | succ j ih =>
    intro n q hn
    by_cases h2 : n = 2
    · skip
      refine xe_sn pg_13 2 (fr' := (7, [(3, .int (nI n)), (2, .int (fd (S.2.1 κ) key n)), (4, .int q), (0, .ref (ja_L κ)), (1, .int key)], [.int 14, .int (nI n)])) rfl ?_
      refine xe_c2f pg_13 53 rfl rfl (lp_in (b := 14) (by omega) (by decide)) ?_
      refine xe_sn pg_13 2 (fr' := (12, [(3, .int (nI n)), (2, .int (fd (S.2.1 κ) key n)), (4, .int q), (0, .ref (ja_L κ)), (1, .int key)], [.int 2, .int (nI n)])) rfl ?_
      refine xe_c2t pg_13 20 rfl rfl (lp_eq (b := 2) h2) ?_
      refine xe_sn pg_13 2 (fr' := (25, [(3, .int (nI n)), (2, .int (fd (S.2.1 κ) key n)), (4, .int q), (0, .ref (ja_L κ)), (1, .int key)], [.int 1])) rfl ?_
      refine xe_sn pg_13 6 (fr' := (43, [(4, .int 1), (3, .int (nI n)), (2, .int (fd (S.2.1 κ) key n)), (0, .ref (ja_L κ)), (1, .int key)], [.int 0, .int (fd (S.2.1 κ) key n)])) rfl ?_
      refine xe_callq pg_13 1 [.int (fd (S.2.1 κ) key n), .int 0] (.inl (some (.int (f_mix (fd (S.2.1 κ) key n) 0)))) (46, [(4, .int 1), (3, .int (nI n)), (2, .int (fd (S.2.1 κ) key n)), (0, .ref (ja_L κ)), (1, .int key)], [.int (f_mix (fd (S.2.1 κ) key n) 0)]) rfl (fun _ => rfl) (c_mix _ (x := (fd (S.2.1 κ) key n)) (y := 0)  rfl) ?_
      refine xe_sn pg_13 3 (fr' := (4, [(3, .int ((nI n) + 1)), (2, .int (f_mix (fd (S.2.1 κ) key n) 0)), (4, .int 1), (0, .ref (ja_L κ)), (1, .int key)], [])) rfl ?_
      rw [nI_1, fd_0 (Or.inl h2)]
      exact ih (n + 1) _ (by omega)
    by_cases h3 : n = 3
    · skip
      refine xe_sn pg_13 2 (fr' := (7, [(3, .int (nI n)), (2, .int (fd (S.2.1 κ) key n)), (4, .int q), (0, .ref (ja_L κ)), (1, .int key)], [.int 14, .int (nI n)])) rfl ?_
      refine xe_c2f pg_13 53 rfl rfl (lp_in (b := 14) (by omega) (by decide)) ?_
      refine xe_sn pg_13 2 (fr' := (12, [(3, .int (nI n)), (2, .int (fd (S.2.1 κ) key n)), (4, .int q), (0, .ref (ja_L κ)), (1, .int key)], [.int 2, .int (nI n)])) rfl ?_
      refine xe_c2f pg_13 20 rfl rfl (lp_ne (b := 2) h2 (by omega) (by decide)) ?_
      refine xe_sn pg_13 2 (fr' := (17, [(3, .int (nI n)), (2, .int (fd (S.2.1 κ) key n)), (4, .int q), (0, .ref (ja_L κ)), (1, .int key)], [.int 3, .int (nI n)])) rfl ?_
      refine xe_c2f pg_13 24 rfl rfl (fun z => z (lp_eq (b := 3) h3)) ?_
      refine xe_sn pg_13 2 (fr' := (25, [(3, .int (nI n)), (2, .int (fd (S.2.1 κ) key n)), (4, .int q), (0, .ref (ja_L κ)), (1, .int key)], [.int 1])) rfl ?_
      refine xe_sn pg_13 6 (fr' := (43, [(4, .int 1), (3, .int (nI n)), (2, .int (fd (S.2.1 κ) key n)), (0, .ref (ja_L κ)), (1, .int key)], [.int 0, .int (fd (S.2.1 κ) key n)])) rfl ?_
      refine xe_callq pg_13 1 [.int (fd (S.2.1 κ) key n), .int 0] (.inl (some (.int (f_mix (fd (S.2.1 κ) key n) 0)))) (46, [(4, .int 1), (3, .int (nI n)), (2, .int (fd (S.2.1 κ) key n)), (0, .ref (ja_L κ)), (1, .int key)], [.int (f_mix (fd (S.2.1 κ) key n) 0)]) rfl (fun _ => rfl) (c_mix _ (x := (fd (S.2.1 κ) key n)) (y := 0)  rfl) ?_
      refine xe_sn pg_13 3 (fr' := (4, [(3, .int ((nI n) + 1)), (2, .int (f_mix (fd (S.2.1 κ) key n) 0)), (4, .int 1), (0, .ref (ja_L κ)), (1, .int key)], [])) rfl ?_
      rw [nI_1, fd_0 (Or.inr h3)]
      exact ih (n + 1) _ (by omega)
    refine xe_sn pg_13 2 (fr' := (7, [(3, .int (nI n)), (2, .int (fd (S.2.1 κ) key n)), (4, .int q), (0, .ref (ja_L κ)), (1, .int key)], [.int 14, .int (nI n)])) rfl ?_
    refine xe_c2f pg_13 53 rfl rfl (lp_in (b := 14) (by omega) (by decide)) ?_
    refine xe_sn pg_13 2 (fr' := (12, [(3, .int (nI n)), (2, .int (fd (S.2.1 κ) key n)), (4, .int q), (0, .ref (ja_L κ)), (1, .int key)], [.int 2, .int (nI n)])) rfl ?_
    refine xe_c2f pg_13 20 rfl rfl (lp_ne (b := 2) h2 (by omega) (by decide)) ?_
    refine xe_sn pg_13 2 (fr' := (17, [(3, .int (nI n)), (2, .int (fd (S.2.1 κ) key n)), (4, .int q), (0, .ref (ja_L κ)), (1, .int key)], [.int 3, .int (nI n)])) rfl ?_
    refine xe_c2t pg_13 24 rfl rfl (lp_ne (b := 3) h3 (by omega) (by decide)) ?_
    refine xe_sn pg_13 6 (fr' := (38, [(4, .int 0), (3, .int (nI n)), (2, .int (fd (S.2.1 κ) key n)), (0, .ref (ja_L κ)), (1, .int key)], [.ref (ja_L κ), .int (fd (S.2.1 κ) key n)])) rfl ?_
    refine xe_gr pg_13 (ja_B κ) rfl rfl rfl (kk1 (k_L hκ)) (r_L0 hκ _) ?_
    refine xe_sn pg_13 1 (fr' := (42, [(4, .int 0), (3, .int (nI n)), (2, .int (fd (S.2.1 κ) key n)), (0, .ref (ja_L κ)), (1, .int key)], [.int (nI n), .ref (ja_B κ), .int (fd (S.2.1 κ) key n)])) rfl ?_
    refine ye_il pg_13 n (S.2.1 κ n) rfl (k_B hκ) (bn (by omega) (by decide)) (bc (n := 14) (by omega) (by decide)) ((l_B hκ (by omega)).rd _) ?_
    refine xe_callq pg_13 1 [.int (fd (S.2.1 κ) key n), .int (S.2.1 κ n)] (.inl (some (.int (f_mix (fd (S.2.1 κ) key n) (S.2.1 κ n))))) (46, [(4, .int 0), (3, .int (nI n)), (2, .int (fd (S.2.1 κ) key n)), (0, .ref (ja_L κ)), (1, .int key)], [.int (f_mix (fd (S.2.1 κ) key n) (S.2.1 κ n))]) rfl (fun _ => rfl) (c_mix _ (x := (fd (S.2.1 κ) key n)) (y := (S.2.1 κ n))  rfl) ?_
    refine xe_sn pg_13 3 (fr' := (4, [(3, .int ((nI n) + 1)), (2, .int (f_mix (fd (S.2.1 κ) key n) (S.2.1 κ n))), (4, .int 0), (0, .ref (ja_L κ)), (1, .int key)], [])) rfl ?_
    rw [nI_1, fd_1 (by omega)]
    exact ih (n + 1) _ (by omega)

set_option maxRecDepth 100000 in
theorem c_fed (d : Nat) {w : xWd} {S : xSt} {μ : Nat → Nat → Int32} {ρ : Nat → Nat → Int64} {κ : Nat} {key : Int32} (hκ : κ < 22) {r : Int32} (hE : (f_fed S κ key) = r) : xc (d + 1) 13 [.ref (ja_L κ), .int key] (hz w S μ ρ) (.inl (some (.int r)), hz w S μ ρ) := by
  unfold f_fed at hE
  subst hE
  refine xe_sn pg_13 4 (fr' := (4, [(3, .int 0), (2, .int key), (0, .ref (ja_L κ)), (1, .int key)], [])) rfl ?_
  refine xe_sn pg_13 10 (fr' := (25, [(3, .int 0), (2, .int key), (0, .ref (ja_L κ)), (1, .int key)], [.int 0])) rfl ?_
  refine xe_sn pg_13 5 (fr' := (38, [(4, .int 0), (3, .int 0), (2, .int key), (0, .ref (ja_L κ)), (1, .int key)], [.ref (ja_L κ), .int key])) rfl ?_
  refine xe_gr pg_13 (ja_B κ) rfl rfl rfl (kk1 (k_L hκ)) (r_L0 hκ _) ?_
  refine xe_sn pg_13 1 (fr' := (42, [(4, .int 0), (3, .int 0), (2, .int key), (0, .ref (ja_L κ)), (1, .int key)], [.int 0, .ref (ja_B κ), .int key])) rfl ?_
  refine ye_il pg_13 0 (S.2.1 κ 0) rfl (k_B hκ) ⟨by decide, by decide⟩ rfl ((l_B hκ (by decide)).rd _) ?_
  refine xe_callq pg_13 1 [.int key, .int (S.2.1 κ 0)] (.inl (some (.int (f_mix key (S.2.1 κ 0))))) (46, [(4, .int 0), (3, .int 0), (2, .int key), (0, .ref (ja_L κ)), (1, .int key)], [.int (f_mix key (S.2.1 κ 0))]) rfl (fun _ => rfl) (c_mix _ (x := key) (y := (S.2.1 κ 0))  rfl) ?_
  refine xe_sn pg_13 3 (fr' := (4, [(3, .int 1), (2, .int (f_mix key (S.2.1 κ 0))), (4, .int 0), (0, .ref (ja_L κ)), (1, .int key)], [])) rfl ?_
  exact fed_loop d hκ 13 1 0 rfl

def f_mfed (μ : Nat → Nat → Int32) (key : Int32) : Int32 := fd (μ 187) key 14

set_option maxRecDepth 100000 in
theorem mfed_loop (d : Nat) {w : xWd} {S : xSt} {μ : Nat → Nat → Int32} {ρ : Nat → Nat → Int64} {key : Int32} : ∀ j n, n + j = 14 → xe (d + 1) 110 (4, [(3, .int (nI n)), (2, .int (fd (μ 187) key n)), (0, .ref 165), (1, .int key)], []) (hz w S μ ρ) (.inl (some (.int (fd (μ 187) key 14))), hz w S μ ρ) := by
  intro j
  induction j with
  | zero =>
    intro n hn
    obtain rfl : n = 14 := by omega
    refine xe_sn pg_110 2 (fr' := (7, [(3, .int (nI 14)), (2, .int (fd (μ 187) key 14)), (0, .ref 165), (1, .int key)], [.int 14, .int (nI 14)])) rfl ?_
    refine xe_c2t pg_110 41 rfl rfl (lp_out (b := 14) (by omega) (by omega)) ?_
    refine xe_sn pg_110 1 (fr' := (42, [(3, .int (nI 14)), (2, .int (fd (μ 187) key 14)), (0, .ref 165), (1, .int key)], [.int (fd (μ 187) key 14)])) rfl ?_
    exact xe_end pg_110 rfl
  | succ j ih =>
    intro n hn
    by_cases h2 : n = 2
    · skip
      refine xe_sn pg_110 2 (fr' := (7, [(3, .int (nI n)), (2, .int (fd (μ 187) key n)), (0, .ref 165), (1, .int key)], [.int 14, .int (nI n)])) rfl ?_
      refine xe_c2f pg_110 41 rfl rfl (lp_in (b := 14) (by omega) (by decide)) ?_
      refine xe_sn pg_110 3 (fr' := (13, [(3, .int (nI n)), (2, .int (fd (μ 187) key n)), (0, .ref 165), (1, .int key)], [.int 2, .int (nI n), .int (fd (μ 187) key n)])) rfl ?_
      refine xe_c2t pg_110 21 rfl rfl (lp_eq (b := 2) h2) ?_
      refine xe_sn pg_110 2 (fr' := (31, [(3, .int (nI n)), (2, .int (fd (μ 187) key n)), (0, .ref 165), (1, .int key)], [.int 0, .int (fd (μ 187) key n)])) rfl ?_
      refine xe_callq pg_110 107 [.int (fd (μ 187) key n), .int 0] (.inl (some (.int (f_mix (fd (μ 187) key n) 0)))) (34, [(3, .int (nI n)), (2, .int (fd (μ 187) key n)), (0, .ref 165), (1, .int key)], [.int (f_mix (fd (μ 187) key n) 0)]) rfl (fun _ => rfl) (c_mmix _ (x := (fd (μ 187) key n)) (y := 0)  rfl) ?_
      refine xe_sn pg_110 3 (fr' := (4, [(3, .int ((nI n) + 1)), (2, .int (f_mix (fd (μ 187) key n) 0)), (0, .ref 165), (1, .int key)], [])) rfl ?_
      rw [nI_1, fd_0 (Or.inl h2)]
      exact ih (n + 1) (by omega)
    by_cases h3 : n = 3
    · skip
      refine xe_sn pg_110 2 (fr' := (7, [(3, .int (nI n)), (2, .int (fd (μ 187) key n)), (0, .ref 165), (1, .int key)], [.int 14, .int (nI n)])) rfl ?_
      refine xe_c2f pg_110 41 rfl rfl (lp_in (b := 14) (by omega) (by decide)) ?_
      refine xe_sn pg_110 3 (fr' := (13, [(3, .int (nI n)), (2, .int (fd (μ 187) key n)), (0, .ref 165), (1, .int key)], [.int 2, .int (nI n), .int (fd (μ 187) key n)])) rfl ?_
      refine xe_c2f pg_110 21 rfl rfl (lp_ne (b := 2) h2 (by omega) (by decide)) ?_
      refine xe_sn pg_110 2 (fr' := (18, [(3, .int (nI n)), (2, .int (fd (μ 187) key n)), (0, .ref 165), (1, .int key)], [.int 3, .int (nI n), .int (fd (μ 187) key n)])) rfl ?_
      refine xe_c2f pg_110 25 rfl rfl (fun z => z (lp_eq (b := 3) h3)) ?_
      refine xe_sn pg_110 2 (fr' := (31, [(3, .int (nI n)), (2, .int (fd (μ 187) key n)), (0, .ref 165), (1, .int key)], [.int 0, .int (fd (μ 187) key n)])) rfl ?_
      refine xe_callq pg_110 107 [.int (fd (μ 187) key n), .int 0] (.inl (some (.int (f_mix (fd (μ 187) key n) 0)))) (34, [(3, .int (nI n)), (2, .int (fd (μ 187) key n)), (0, .ref 165), (1, .int key)], [.int (f_mix (fd (μ 187) key n) 0)]) rfl (fun _ => rfl) (c_mmix _ (x := (fd (μ 187) key n)) (y := 0)  rfl) ?_
      refine xe_sn pg_110 3 (fr' := (4, [(3, .int ((nI n) + 1)), (2, .int (f_mix (fd (μ 187) key n) 0)), (0, .ref 165), (1, .int key)], [])) rfl ?_
      rw [nI_1, fd_0 (Or.inr h3)]
      exact ih (n + 1) (by omega)
    refine xe_sn pg_110 2 (fr' := (7, [(3, .int (nI n)), (2, .int (fd (μ 187) key n)), (0, .ref 165), (1, .int key)], [.int 14, .int (nI n)])) rfl ?_
    refine xe_c2f pg_110 41 rfl rfl (lp_in (b := 14) (by omega) (by decide)) ?_
    refine xe_sn pg_110 3 (fr' := (13, [(3, .int (nI n)), (2, .int (fd (μ 187) key n)), (0, .ref 165), (1, .int key)], [.int 2, .int (nI n), .int (fd (μ 187) key n)])) rfl ?_
    refine xe_c2f pg_110 21 rfl rfl (lp_ne (b := 2) h2 (by omega) (by decide)) ?_
    refine xe_sn pg_110 2 (fr' := (18, [(3, .int (nI n)), (2, .int (fd (μ 187) key n)), (0, .ref 165), (1, .int key)], [.int 3, .int (nI n), .int (fd (μ 187) key n)])) rfl ?_
    refine xe_c2t pg_110 25 rfl rfl (lp_ne (b := 3) h3 (by omega) (by decide)) ?_
    refine xe_sn pg_110 3 (fr' := (30, [(3, .int (nI n)), (2, .int (fd (μ 187) key n)), (0, .ref 165), (1, .int key)], [.int (nI n), .ref 187, .int (fd (μ 187) key n)])) rfl ?_
    refine xe_ilm pg_110 n rfl ⟨by decide, by decide⟩ rfl (bn (by omega) (by decide)) (bc (n := 14) (by omega) (by decide)) ?_
    refine xe_callq pg_110 107 [.int (fd (μ 187) key n), .int (μ 187 n)] (.inl (some (.int (f_mix (fd (μ 187) key n) (μ 187 n))))) (34, [(3, .int (nI n)), (2, .int (fd (μ 187) key n)), (0, .ref 165), (1, .int key)], [.int (f_mix (fd (μ 187) key n) (μ 187 n))]) rfl (fun _ => rfl) (c_mmix _ (x := (fd (μ 187) key n)) (y := (μ 187 n))  rfl) ?_
    refine xe_sn pg_110 3 (fr' := (4, [(3, .int ((nI n) + 1)), (2, .int (f_mix (fd (μ 187) key n) (μ 187 n))), (0, .ref 165), (1, .int key)], [])) rfl ?_
    rw [nI_1, fd_1 (by omega)]
    exact ih (n + 1) (by omega)

set_option maxRecDepth 100000 in
theorem c_mfed (d : Nat) {w : xWd} {S : xSt} {μ : Nat → Nat → Int32} {ρ : Nat → Nat → Int64} {key : Int32} {r : Int32} (hE : (f_mfed μ key) = r) : xc (d + 1) 110 [.ref 165, .int key] (hz w S μ ρ) (.inl (some (.int r)), hz w S μ ρ) := by
  unfold f_mfed at hE
  subst hE
  refine xe_sn pg_110 4 (fr' := (4, [(3, .int 0), (2, .int key), (0, .ref 165), (1, .int key)], [])) rfl ?_
  exact mfed_loop d 14 0 rfl

set_option maxRecDepth 100000 in
theorem adr_loop (d : Nat) {w : xWd} {S : xSt} {μ : Nat → Nat → Int32} {ρ : Nat → Nat → Int64} {κ : Nat} {a b c e : Int32} {f : Nat → Int32} (hκ : κ < 22) : ∀ j n, n + j = 14 → xe d 6 (29, [(5, .int (nI n)), (0, .ref (ja_L κ)), (1, .int a), (2, .int b), (3, .int c), (4, .int e)], []) (hz w (sr S κ (cpy f (fun _ => 0) n)) μ ρ) (.inl none, hz w (sr S κ (cpy f (fun _ => 0) 14)) μ ρ) := by
  intro j
  induction j with
  | zero =>
    intro n hn
    obtain rfl : n = 14 := by omega
    refine xe_sn pg_6 2 (fr' := (33, [(5, .int (nI 14)), (0, .ref (ja_L κ)), (1, .int a), (2, .int b), (3, .int c), (4, .int e)], [.int 14, .int (nI 14)])) rfl ?_
    refine xe_c2t pg_6 50 rfl rfl (lp_out (b := 14) (by omega) (by omega)) ?_
    exact xe_end pg_6 rfl
  | succ j ih =>
    intro n hn
    refine xe_sn pg_6 2 (fr' := (33, [(5, .int (nI n)), (0, .ref (ja_L κ)), (1, .int a), (2, .int b), (3, .int c), (4, .int e)], [.int 14, .int (nI n)])) rfl ?_
    refine xe_c2f pg_6 50 rfl rfl (lp_in (b := 14) (by omega) (by decide)) ?_
    refine xe_sn pg_6 1 (fr' := (37, [(5, .int (nI n)), (0, .ref (ja_L κ)), (1, .int a), (2, .int b), (3, .int c), (4, .int e)], [.ref (ja_L κ)])) rfl ?_
    refine xe_gr pg_6 (ja_B κ) rfl rfl rfl (kk1 (k_L hκ)) (r_L0 hκ _) ?_
    refine xe_sn pg_6 2 (fr' := (43, [(5, .int (nI n)), (0, .ref (ja_L κ)), (1, .int a), (2, .int b), (3, .int c), (4, .int e)], [.int 0, .int (nI n), .ref (ja_B κ)])) rfl ?_
    refine ye_iy pg_6 n rfl (k_B hκ) (bn (by omega) (by decide)) (bc (n := 14) (by omega) (by decide)) (l_B hκ (by omega)) ?_
    refine xe_sn pg_6 2 (fr' := (29, [(5, .int ((nI n) + 1)), (0, .ref (ja_L κ)), (1, .int a), (2, .int b), (3, .int c), (4, .int e)], [])) rfl ?_
    rw [nI_1, sr_sy, cpy_s f (fun _ => 0)]
    exact ih (n + 1) (by omega)

theorem adr_eq (f : Nat → Int32) (a b c e : Int32) : cpy (fun j => if j = 18 then 0 else if j = 17 then e else if j = 16 then c else if j = 15 then b else if j = 14 then a else f j) (fun _ => 0) 14 = adr f a b c e := by
  funext i
  unfold cpy adr
  by_cases h : i < 14
  · rw [if_pos h, if_pos h]
  · rw [if_neg h, if_neg h]
    by_cases h1 : i = 14
    · subst h1; rfl
    by_cases h2 : i = 15
    · subst h2; rfl
    by_cases h3 : i = 16
    · subst h3; rfl
    by_cases h4 : i = 17
    · subst h4; rfl
    by_cases h5 : i = 18
    · subst h5; rfl
    simp only [h1, h2, h3, h4, h5, if_false]

set_option maxRecDepth 100000 in
theorem c_address (d : Nat) {w : xWd} {S : xSt} {μ : Nat → Nat → Int32} {ρ : Nat → Nat → Int64} {κ : Nat} {a : Int32} {b : Int32} {c : Int32} {e : Int32} (hκ : κ < 22) : xc (d) 6 [.ref (ja_L κ), .int a, .int b, .int c, .int e] (hz w S μ ρ) (.inl (none), hz w (w_adr S κ a b c e) μ ρ) := by
  refine xe_sn pg_6 2 (fr' := (2, [(0, .ref (ja_L κ)), (1, .int a), (2, .int b), (3, .int c), (4, .int e)], [.int a, .ref (ja_L κ)])) rfl ?_
  refine ye_py pg_6 rfl rfl ⟨rfl, rfl⟩ (Or.inl rfl) (kk1 (k_L hκ)) (show ly _ 1 κ 14 from l_L hκ (by decide) (by decide)) ?_
  refine xe_sn pg_6 2 (fr' := (7, [(0, .ref (ja_L κ)), (1, .int a), (2, .int b), (3, .int c), (4, .int e)], [.int b, .ref (ja_L κ)])) rfl ?_
  refine ye_py pg_6 rfl rfl ⟨rfl, rfl⟩ (Or.inl rfl) (kk1 (k_L hκ)) (show ly _ 2 κ 15 from l_L hκ (by decide) (by decide)) ?_
  refine xe_sn pg_6 2 (fr' := (12, [(0, .ref (ja_L κ)), (1, .int a), (2, .int b), (3, .int c), (4, .int e)], [.int c, .ref (ja_L κ)])) rfl ?_
  refine ye_py pg_6 rfl rfl ⟨rfl, rfl⟩ (Or.inl rfl) (kk1 (k_L hκ)) (show ly _ 3 κ 16 from l_L hκ (by decide) (by decide)) ?_
  refine xe_sn pg_6 2 (fr' := (18, [(0, .ref (ja_L κ)), (1, .int a), (2, .int b), (3, .int c), (4, .int e)], [.int e, .ref (ja_L κ)])) rfl ?_
  refine ye_py pg_6 rfl rfl ⟨rfl, rfl⟩ (Or.inl rfl) (kk1 (k_L hκ)) (show ly _ 4 κ 17 from l_L hκ (by decide) (by decide)) ?_
  refine xe_sn pg_6 2 (fr' := (23, [(0, .ref (ja_L κ)), (1, .int a), (2, .int b), (3, .int c), (4, .int e)], [.int 0, .ref (ja_L κ)])) rfl ?_
  refine ye_py pg_6 rfl rfl ⟨rfl, rfl⟩ (Or.inl rfl) (kk1 (k_L hκ)) (show ly _ 5 κ 18 from l_L hκ (by decide) (by decide)) ?_
  refine xe_sn pg_6 2 (fr' := (29, [(5, .int 0), (0, .ref (ja_L κ)), (1, .int a), (2, .int b), (3, .int c), (4, .int e)], [])) rfl ?_
  rw [sy_sr S κ 14 a, sr_sy, sr_sy, sr_sy, sr_sy]
  have e9 := adr_loop d (w := w) (S := S) (μ := μ) (ρ := ρ) (a := a) (b := b) (c := c) (e := e) (f := fun j => if j = 18 then 0 else if j = 17 then e else if j = 16 then c else if j = 15 then b else if j = 14 then a else S.2.1 κ j) hκ 14 0 rfl
  rw [cpy_0, adr_eq] at e9
  exact e9

