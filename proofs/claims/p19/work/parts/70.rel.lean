/-! sending on both sides -/
theorem u2r {α : Type} {X : Nat → Nat → α} {r i r' : Nat} {v : α} (h : r' ≠ r) : xi_u2 X r i v r' = X r' := by
  funext j
  exact u2_ne _ _ (Or.inl h)
theorem u2i {α : Type} {X : Nat → Nat → α} {r i r' i' : Nat} {v : α} (h : i' ≠ i) : xi_u2 X r i v r' i' = X r' i' := u2_ne _ _ (Or.inr h)
theorem u2c {α : Type} {X : Nat → Nat → α} {r i r' i' : Nat} {v v' : α} (h : r ≠ r' ∨ i ≠ i') : xi_u2 (xi_u2 X r i v) r' i' v' = xi_u2 (xi_u2 X r' i' v') r i v := by
  funext a k
  rw [u2_at, u2_at, u2_at, u2_at]
  by_cases h1 : a = r' ∧ k = i'
  · rw [if_pos h1, if_pos h1, if_neg (by omega)]
  · rw [if_neg h1, if_neg h1]
theorem u2u {α : Type} {X : Nat → Nat → α} {r i : Nat} {v v' : α} : xi_u2 (xi_u2 X r i v) r i v' = xi_u2 X r i v' := by
  funext a k
  rw [u2_at, u2_at, u2_at]
  by_cases h1 : a = r ∧ k = i
  · rw [if_pos h1, if_pos h1]
  · rw [if_neg h1, if_neg h1, if_neg h1]
theorem u2_id {α : Type} {X : Nat → Nat → α} {r i : Nat} {v : α} (h : X r i = v) : xi_u2 X r i v = X := by
  funext a k
  rw [u2_at]
  by_cases h1 : a = r ∧ k = i
  · rw [if_pos h1, h1.1, h1.2, h]
  · rw [if_neg h1]
def up (f : Nat → Int32) (i : Nat) (v : Int32) : Nat → Int32 := fun j => if j = i then v else f j
def pX (X : Nat → Nat → Int32) : Nat → Nat → Int32 := if 20 ≤ X 165 1 then xi_u2 X 165 4 (X 165 4 + 1) else xi_u2 X 165 1 (X 165 1 + 1)
def kq (S : xSt) : Nat := if 20 ≤ S.1 165 1 then 0 else S.2.2 (S.1 165 1).toNatClampNeg
def pS (S : xSt) (f : Nat → Int32) : xSt := (pX S.1, fun b => if b = kq S then f else S.2.1 b, S.2.2)
def pV (V : xVt) (f : Nat → Int32) : xVt := (pX V.1, V.2.1, (if 20 ≤ V.1 165 1 then V.2.2.1 else pushC V.2.2.1 (V.1 165 1).toNatClampNeg f), V.2.2.2)
def SZ (S : xSt) : Prop := (∃ n : Nat, n ≤ 20 ∧ S.1 165 1 = nI n) ∧ ∀ j, j ≤ 20 → 1 ≤ S.2.2 j ∧ S.2.2 j < 22
theorem nI20 {n : Nat} (h : n ≤ 20) : (20 : Int32) ≤ nI n ↔ n = 20 := by
  rw [show (20 : Int32) = nI 20 from rfl, nI_leI (by decide) (by omega)]
  omega
theorem pX_r {X : Nat → Nat → Int32} {r : Nat} (h : r ≠ 165) : pX X r = X r := by
  unfold pX
  split <;> exact u2r h
theorem pX_u {X : Nat → Nat → Int32} {r i : Nat} {v : Int32} (h : r ≠ 165) : pX (xi_u2 X r i v) = xi_u2 (pX X) r i v := by
  unfold pX
  rw [u2r (Ne.symm h)]
  split
  · rw [u2c (Or.inl h)]
  · rw [u2c (Or.inl h)]
theorem pX_5 {X : Nat → Nat → Int32} {i : Nat} (h : i ≠ 1 ∧ i ≠ 4) : pX X 165 i = X 165 i := by
  unfold pX
  split
  · exact u2i h.2
  · exact u2i h.1
theorem kq_sx {S : xSt} {r i : Nat} {v : Int32} (h : r ≠ 165) : kq (sx S r i v) = kq S := by
  have e : (sx S r i v).1 165 1 = S.1 165 1 := congrFun (u2r (Ne.symm h)) 1
  exact congrArg (fun z => if 20 ≤ z then 0 else S.2.2 z.toNatClampNeg) e
theorem sx_pS {S : xSt} {f : Nat → Int32} {r i : Nat} {v : Int32} (h : r ≠ 165) : sx (pS S f) r i v = pS (sx S r i v) f := by
  unfold pS
  rw [kq_sx h]
  unfold sx
  dsimp only
  rw [pX_u h]
theorem sr_pS {S : xSt} {f g : Nat → Int32} : sr (pS S f) (kq S) g = pS S g := by
  unfold pS sr
  dsimp only
  refine Prod.ext rfl (Prod.ext ?_ rfl)
  funext b
  show (if b = kq S then g else if b = kq S then f else S.2.1 b) = if b = kq S then g else S.2.1 b
  by_cases h : b = kq S
  · rw [if_pos h, if_pos h]
  · rw [if_neg h, if_neg h, if_neg h]
theorem pS_k {S : xSt} {f : Nat → Int32} : (pS S f).2.1 (kq S) = f := if_pos rfl
theorem pS_o {S : xSt} {f : Nat → Int32} {κ : Nat} (h : κ ≠ kq S) : (pS S f).2.1 κ = S.2.1 κ := if_neg h
theorem pS_r {S : xSt} {f : Nat → Int32} {r : Nat} (h : r ≠ 165) : (pS S f).1 r = S.1 r := pX_r h
theorem sy_pS {S : xSt} {f : Nat → Int32} {i : Nat} {v : Int32} : sy (pS S f) (kq S) i v = pS S (up f i v) := by
  rw [sy_sr, sr_pS, pS_k]
  rfl
theorem wr_pS {S : xSt} {f : Nat → Int32} {key : Int32} : w_wrap (pS S f) (kq S) key = pS S (wrapB f key 14) := by
  unfold w_wrap
  rw [pS_k, sr_pS]
theorem fed_pS {S : xSt} {f : Nat → Int32} {key : Int32} : f_fed (pS S f) (kq S) key = fd f key 14 := by
  unfold f_fed
  rw [pS_k]
theorem pp_pS {S : xSt} {f : Nat → Int32} {k : Nat} {v : Int32} : f_putPair (pS S f) (kq S) k v = pS S (up (up f k (ushr v 8 &&& 255)) (k + 1) (v &&& 255)) := by
  unfold f_putPair
  rw [sy_pS, sy_pS]
theorem wo_pS {S : xSt} {f : Nat → Int32} {o s n : Int32} : f_writeOrder (pS S f) (kq S) o s n = pS S (up (up (up f 4 o) 5 s) 6 n) := by
  unfold f_writeOrder
  rw [sy_pS, sy_pS, sy_pS]
theorem cp_pS {S : xSt} {f : Nat → Int32} {κ : Nat} (h : κ ≠ kq S) : w_cpy (pS S f) (kq S) κ = pS S (cpy f (S.2.1 κ) 14) := by
  unfold w_cpy
  rw [pS_k, pS_o h, sr_pS]
theorem add_eq {S : xSt} (hz : SZ S) (a b c e : Int32) : f_add S a b c e = some (kq S, pS S (rw0 a b c e 0 zf)) := by
  obtain ⟨⟨n, hn, e1⟩, hq⟩ := hz
  unfold f_add kq pS pX kq
  by_cases h : 20 ≤ S.1 165 1
  · rw [if_pos h, if_pos h, if_pos h]
    rfl
  · rw [if_neg h, if_neg h, if_neg h]
    have hn2 : n < 20 := by
      rw [e1, nI20 hn] at h
      omega
    rw [if_pos (by rw [e1]; exact bn hn2 (by decide)), if_pos (by rw [e1, nI_clamp (by omega)]; exact (hq n (by omega)).2)]
    rfl
theorem ship_eq {V : xVt} {n : Nat} (hn : n ≤ 20) (e1 : V.1 165 1 = nI n) (a b c e g : Int32) : g_ship V a b c e g = some (pV V (rw0 a b c e g V.2.2.2)) := by
  by_cases h : n = 20
  · have a1 : V.1 165 1 = 20 := by rw [e1, h]; rfl
    have a2 : 20 ≤ V.1 165 1 := by rw [e1, nI20 hn]; exact h
    simp only [g_ship, pV, pX, if_pos a1, if_pos a2, vx]
  · have a1 : ¬ V.1 165 1 = 20 := by rw [e1, show (20 : Int32) = nI 20 from rfl, nI_eq (by omega) (by decide)]; exact h
    have a2 : ¬ 20 ≤ V.1 165 1 := by rw [e1, nI20 hn]; exact h
    have a3 : bnd (V.1 165 1) 20 := by rw [e1]; exact bn (by omega) (by decide)
    simp only [g_ship, pV, pX, if_neg a1, if_neg a2, if_pos a3, vx, vc]
theorem dropX_r {X : Nat → Nat → Int32} {c : Nat} {hop : Int32} {r : Nat} (h : r ≠ 173 ∧ r ≠ 175) : dropX X c hop r = X r := by
  funext i
  exact if_neg (fun q => by omega)
theorem pX_drop {X : Nat → Nat → Int32} {c : Nat} {hop : Int32} : pX (dropX X c hop) = dropX (pX X) c hop := by
  have e1 : ∀ j, dropX X c hop 165 j = X 165 j := fun j => congrFun (dropX_r (by omega)) j
  by_cases h : 20 ≤ X 165 1
  · simp only [pX, e1, if_pos h]
    funext r i
    rw [u2_at]
    unfold dropX
    rw [u2r (show 174 ≠ 165 by decide), u2_at]
    by_cases h1 : r = 165 ∧ i = 4
    · rw [if_pos h1, if_neg (fun q => by omega), if_pos h1]
    · rw [if_neg h1, if_neg h1]
  · simp only [pX, e1, if_neg h]
    funext r i
    rw [u2_at]
    unfold dropX
    rw [u2r (show 174 ≠ 165 by decide), u2_at]
    by_cases h1 : r = 165 ∧ i = 1
    · rw [if_pos h1, if_neg (fun q => by omega), if_pos h1]
    · rw [if_neg h1, if_neg h1]
theorem kq_drop {S : xSt} {c : Nat} {hop : Int32} : kq (dropX S.1 c hop, S.2) = kq S := by
  have e : dropX S.1 c hop 165 1 = S.1 165 1 := congrFun (dropX_r (by omega)) 1
  exact congrArg (fun z => if 20 ≤ z then 0 else S.2.2 z.toNatClampNeg) e
theorem drop_pS {S : xSt} {f : Nat → Int32} {c : Nat} {hop : Int32} : ((dropX (pS S f).1 c hop, (pS S f).2) : xSt) = pS (dropX S.1 c hop, S.2) f := by
  unfold pS
  rw [kq_drop, pX_drop]
/-! rows of bytes -/
theorem up_rw {a b c e g : Int32} {f : Nat → Int32} {i : Nat} {v : Int32} (h : i < 14) : up (rw0 a b c e g f) i v = rw0 a b c e g (up f i v) := by
  funext j
  unfold up rw0
  dsimp only
  by_cases h1 : j = i
  · rw [if_pos h1, if_pos (by omega), if_pos h1]
  · rw [if_neg h1, if_neg h1]
theorem up_18 {a b c e g : Int32} {f : Nat → Int32} {v : Int32} : up (rw0 a b c e g f) 18 v = rw0 a b c e v f := by
  funext j
  unfold up rw0
  by_cases h1 : j = 18
  · subst h1
    rfl
  · rw [if_neg h1, if_neg h1, if_neg h1]
theorem wr_rw {a b c e g : Int32} {f : Nat → Int32} {key : Int32} : wrapB (rw0 a b c e g f) key 14 = rw0 a b c e g (wrapB f key 14) := by
  funext j
  unfold wrapB rw0
  dsimp only
  by_cases h1 : j < 14
  · rw [if_pos h1, if_pos h1, if_pos h1, if_pos h1]
  · rw [if_neg h1, if_neg h1, if_neg h1]
theorem fd_rw {a b c e g : Int32} {f : Nat → Int32} {key : Int32} : fd (rw0 a b c e g f) key 14 = fd f key 14 := fd_cg key 14 (fun i hi => if_pos hi)
theorem rw_lo {a b c e g : Int32} {f : Nat → Int32} {i : Nat} (h : i < 14) : rw0 a b c e g f i = f i := if_pos h
theorem rw_cg {a b c e g : Int32} {f f' : Nat → Int32} (h : ∀ i, i < 14 → f i = f' i) : rw0 a b c e g f = rw0 a b c e g f' := by
  funext j
  unfold rw0
  by_cases h1 : j < 14
  · rw [if_pos h1, if_pos h1, h j h1]
  · rw [if_neg h1, if_neg h1]
theorem cpy_rw {a b c e g : Int32} {f h : Nat → Int32} : cpy (rw0 a b c e g f) h 14 = rw0 a b c e g h := by
  funext j
  unfold cpy rw0
  by_cases h1 : j < 14
  · rw [if_pos h1, if_pos h1]
  · rw [if_neg h1, if_neg h1, if_neg h1]
theorem sf_rw {a b c e g : Int32} {f : Nat → Int32} {v : Int32} {n : Nat} (h : n ≤ 7) : sfill (rw0 a b c e g f) v n = rw0 a b c e g (sfill f v n) := by
  funext j
  unfold sfill rw0
  dsimp only
  by_cases h1 : 7 ≤ j ∧ j < 7 + n
  · rw [if_pos h1, if_pos (by omega), if_pos h1]
  · rw [if_neg h1, if_neg h1]
theorem df_rw {a b c e g : Int32} {f k : Nat → Int32} {n : Nat} (h : n ≤ 7) : dfill (rw0 a b c e g f) k n = rw0 a b c e g (dfill f k n) := by
  funext j
  unfold dfill rw0
  dsimp only
  by_cases h1 : 7 ≤ j ∧ j < 7 + n
  · rw [if_pos h1, if_pos (by omega), if_pos h1]
  · rw [if_neg h1, if_neg h1]
theorem wr_cg {f g : Nat → Int32} (key : Int32) (h : ∀ i, i < 14 → f i = g i) : ∀ i, i < 14 → wrapB f key 14 i = wrapB g key 14 i := by
  intro i hi
  unfold wrapB
  rw [if_pos hi, if_pos hi, h i hi]
/-- a row of bytes -/
def byt (f : Nat → Int32) : Prop := ∀ i, i < 14 → bnd (f i) 256
