/-! sealing and sending, both sides -/
theorem sx1 (S : xSt) (r i : Nat) (v : Int32) : (sx S r i v).1 = xi_u2 S.1 r i v := rfl
theorem sx2 (S : xSt) (r i : Nat) (v : Int32) : (sx S r i v).2 = S.2 := rfl
theorem vx1 (V : xVt) (r i : Nat) (v : Int32) : (vx V r i v).1 = xi_u2 V.1 r i v := rfl
theorem vx2 (V : xVt) (r i : Nat) (v : Int32) : (vx V r i v).2 = V.2 := rfl
theorem vbs1 (V : xVt) (f : Nat → Int32) : (vbs V f).1 = V.1 := rfl
theorem vbsb (V : xVt) (f : Nat → Int32) : (vbs V f).2.2.2 = f := rfl
theorem mpp_eq (V : xVt) (k : Nat) (v : Int32) : g_putPair V k v = vbs V (up (up V.2.2.2 k (v >>> ((8 : Int32) &&& 31))) (k + 1) (v &&& 255)) := rfl
theorem gen {α : Type} (a : α) : ∃ b, a = b := ⟨a, rfl⟩
theorem fd_cg2 {f g : Nat → Int32} (key : Int32) : ∀ n, (∀ i, i < n → i ≠ 2 → i ≠ 3 → f i = g i) → fd f key n = fd g key n := by
  intro n
  induction n with
  | zero => intro _; rfl
  | succ n ih =>
    intro h
    show f_mix (fd f key n) _ = f_mix (fd g key n) _
    rw [ih (fun i hi => h i (by omega))]
    by_cases h2 : n = 2 ∨ n = 3
    · rw [if_pos h2, if_pos h2]
    · rw [if_neg h2, if_neg h2, h n (by omega) (by omega) (by omega)]
def chk (F : Nat → Int32) (k : Int32) : Nat → Int32 := up (up F 2 (ushr (ushr k 16) 8 &&& 255)) 3 (ushr k 16 &&& 255)
theorem chk_m (F : Nat → Int32) (k : Int32) : up (up F 2 (ushr k 16 >>> ((8 : Int32) &&& 31))) 3 (ushr k 16 &&& 255) = chk F k := by
  unfold chk
  rw [(pair_hi (tg_bnd k)).1]
theorem chk_cg {F G : Nat → Int32} (k : Int32) (h : ∀ i, i < 14 → i ≠ 2 → i ≠ 3 → F i = G i) : ∀ i, i < 14 → chk F k i = chk G k i := by
  intro i hi
  unfold chk up
  by_cases h3 : i = 3
  · rw [if_pos h3, if_pos h3]
  · rw [if_neg h3, if_neg h3]
    by_cases h2 : i = 2
    · rw [if_pos h2, if_pos h2]
    · rw [if_neg h2, if_neg h2, h i hi h2 h3]
theorem byt.chk {F : Nat → Int32} (h : byt F) (k : Int32) : byt (chk F k) := (h.put 2 (pair_hi (tg_bnd k)).2).put 3 (by_and _)
/-! a relay sends back -/
def rsX (X : Nat → Nat → Int32) (i c : Nat) (F : Nat → Int32) : Nat → Nat → Int32 := xi_u2 (xi_u2 X 184 (16 * i + 4 * c + 3) (fd F (X 184 (16 * i + 4 * c + 3)) 14)) 184 (16 * i + 4 * c + 1) (ks (X 184 (16 * i + 4 * c + 1)) 14)
def rsF (X : Nat → Nat → Int32) (i c : Nat) (F : Nat → Int32) : Nat → Int32 := wrapB (chk F (fd F (X 184 (16 * i + 4 * c + 3)) 14)) (X 184 (16 * i + 4 * c + 1)) 14
theorem ob_eq {S : xSt} (hz : SZ S) (i c : Nat) (o s n : Int32) : f_orderBack S i c o s n = some (kq S, pS S (rw0 (nI (i + 1)) (S.1 181 (4 * i + c)) (nI c) 3 0 (up (up (up zf 4 o) 5 s) 6 n))) := by
  unfold f_orderBack
  rw [add_eq hz]
  simp only [Option.bind_some]
  rw [wo_pS, up_rw (by decide), up_rw (by decide), up_rw (by decide)]
theorem sb_eq {S : xSt} (i c : Nat) (a b k e g : Int32) (F : Nat → Int32) : f_sealBack (pS S (rw0 a b k e g F)) i c (kq S) = pS (rsX S.1 i c F, S.2) (rw0 a b k e g (rsF S.1 i c F)) := by
  unfold f_sealBack rsX rsF
  rw [pS_r (show 184 ≠ 165 by decide), fed_pS, fd_rw]
  obtain ⟨K, hK⟩ := gen (fd F (S.1 184 (16 * i + 4 * c + 3)) 14)
  rw [hK, sx_pS (by decide)]
  have hk : kq S = kq (sx S 184 (16 * i + 4 * c + 3) K) := (kq_sx (by decide)).symm
  rw [hk, pp_pS, up_rw (by decide), up_rw (by decide), wr_pS, wr_rw, sx_pS (by decide), pS_r (show 184 ≠ 165 by decide), sx1, u2i (show 16 * i + 4 * c + 1 ≠ 16 * i + 4 * c + 3 by omega)]
  rfl
theorem rs_eq {V : xVt} {n : Nat} (hn : n ≤ 20) (e1 : V.1 165 1 = nI n) (i c : Nat) : g_relaySends V i c = some (pV (rsX V.1 i c V.2.2.2, V.2.1, V.2.2.1, rsF V.1 i c V.2.2.2) (rw0 (nI (i + 1)) (V.1 181 (4 * i + c)) (nI c) 3 0 (rsF V.1 i c V.2.2.2))) := by
  unfold g_relaySends g_seal rsX rsF g_fed
  simp only [Option.bind_some]
  obtain ⟨K, hK⟩ := gen (fd V.2.2.2 (V.1 184 (16 * i + 4 * c + 3)) 14)
  obtain ⟨L, hL⟩ := gen (ks (V.1 184 (16 * i + 4 * c + 1)) 14)
  rw [hK, mpp_eq, chk_m, vx1, vbs1, u2i (show 16 * i + 4 * c + 1 ≠ 16 * i + 4 * c + 3 by omega), hL]
  rw [ship_eq hn (by rw [vx1, vbs1, vx1, vbs1, u2r (by decide), u2r (by decide), e1])]
  rw [vbs1, vx1, vbs1, u2r (show 181 ≠ 184 by decide)]
  rfl
theorem rs_cg {X : Nat → Nat → Int32} {i c : Nat} {F G : Nat → Int32} (h : ∀ k, k < 14 → k ≠ 2 → k ≠ 3 → F k = G k) : rsX X i c F = rsX X i c G ∧ ∀ k, k < 14 → rsF X i c F k = rsF X i c G k := by
  have e := fd_cg2 (X 184 (16 * i + 4 * c + 3)) 14 h
  unfold rsX rsF
  rw [e]
  exact ⟨rfl, wr_cg _ (chk_cg _ h)⟩
theorem rsX_r {X : Nat → Nat → Int32} {i c : Nat} {F : Nat → Int32} {r : Nat} (h : r ≠ 184) : rsX X i c F r = X r := by
  unfold rsX
  rw [u2r h, u2r h]
theorem Rel.rs {D : Nat} {S : xSt} {V : xVt} (h : Rel D S V) {i c : Nat} (hi : i < 4) (hc : c < 4) (hth : S.1 180 (4 * i + c) = 1) (F b : Nat → Int32) : Rel D (rsX S.1 i c F, S.2) (rsX S.1 i c F, V.2.1, V.2.2.1, b) := by
  unfold rsX
  obtain ⟨K, hK⟩ := gen (fd F (S.1 184 (16 * i + 4 * c + 3)) 14)
  obtain ⟨L, hL⟩ := gen (ks (S.1 184 (16 * i + 4 * c + 1)) 14)
  rw [hK, hL]
  have k1 := h.key hi hc (k := 3) (by decide) hth (v := K)
  have k2 := k1.key hi hc (k := 1) (by decide) (by rw [sx1, u2r (by decide), hth]) (v := L)
  refine Rel.own k2 ?_ rfl rfl
  rw [vx1, vx1, h.1]
theorem fld.mk' {D : Nat} {a b k e g : Int32} {F : Nat → Int32} (ha : ∃ n : Nat, n ≤ 4 ∧ a = nI n) (hb : ∃ n : Nat, n ≤ 4 ∧ b = nI n) (hk : ∃ n : Nat, n < 4 ∧ k = nI n) (he : e = 1 ∨ e = 2 ∨ e = 3 ∨ e = 4) (hg : ∃ n : Nat, n ≤ D + 2 ∧ g = nI n) : fld D (rw0 a b k e g F) := ⟨ha, hb, hk, he, hg⟩
theorem okc.mk' {D : Nat} {a b k e g : Int32} {F : Nat → Int32} (hf : fld D (rw0 a b k e g F)) (hF : byt F) : okc D (rw0 a b k e g F) (rw0 a b k e g F) := ⟨hf, fun _ _ _ => rfl, fun _ j hj => ⟨rfl, by rw [rw_lo hj]; exact hF j hj⟩⟩
theorem bef {D : Nat} {S : xSt} {V : xVt} (h : Rel D S V) {i c : Nat} (hi : i < 4) (hc : c < 4) (hth : S.1 180 (4 * i + c) = 1) : ∃ n : Nat, n ≤ 4 ∧ S.1 181 (4 * i + c) = nI n := by
  rcases h.2.2.1 i hi c hc with q | q
  · rw [hth] at q
    exact absurd q.1 (by decide)
  · exact q.2.1
/-- a relay's order back: the row F at the class, b at the reference -/
theorem sim_back {D : Nat} {S : xSt} {V : xVt} (h : Rel D S V) {i c : Nat} (hi : i < 4) (hc : c < 4) (hth : S.1 180 (4 * i + c) = 1) {F : Nat → Int32} (hF : byt F) (hb : ∀ k, k < 14 → k ≠ 2 → k ≠ 3 → V.2.2.2 k = F k) :
    ∃ V', g_relaySends V i c = some V' ∧ V'.2.1 = V.2.1 ∧ Rel D (pS (rsX S.1 i c F, S.2) (rw0 (nI (i + 1)) (S.1 181 (4 * i + c)) (nI c) 3 0 (rsF S.1 i c F))) V' := by
  obtain ⟨n, hn, e, -⟩ := h.2.2.2.2.2.1
  have eV : V.1 = S.1 := h.1
  refine ⟨_, rs_eq hn (by rw [eV, e]) i c, rfl, ?_⟩
  have e1 := rs_cg (X := V.1) (i := i) (c := c) hb
  rw [e1.1, rw_cg e1.2, eV]
  refine Rel.push ?_ (okc.mk' (fld.mk' ⟨i + 1, by omega, rfl⟩ (bef h hi hc hth) ⟨c, hc, rfl⟩ (by decide) ⟨0, by omega, rfl⟩) ?_)
  · exact h.rs hi hc hth F (rsF S.1 i c V.2.2.2)
  · exact (hF.chk _).wrap _
/-! the client sends -/
def kw (c j : Nat) (p : (Nat → Nat → Int32) × (Nat → Int32)) : (Nat → Nat → Int32) × (Nat → Int32) := (xi_u2 p.1 170 (12 * c + 4 * j) (ks (p.1 170 (12 * c + 4 * j)) 14), wrapB p.2 (p.1 170 (12 * c + 4 * j)) 14)
def kf (c j : Nat) (p : (Nat → Nat → Int32) × (Nat → Int32)) : (Nat → Nat → Int32) × (Nat → Int32) := (xi_u2 p.1 170 (12 * c + 4 * j + 2) (fd p.2 (p.1 170 (12 * c + 4 * j + 2)) 14), chk p.2 (fd p.2 (p.1 170 (12 * c + 4 * j + 2)) 14))
def cs (c : Nat) : Nat → (Nat → Nat → Int32) × (Nat → Int32) → (Nat → Nat → Int32) × (Nat → Int32)
  | 0, p => kw c 0 (kf c 0 p)
  | 1, p => kw c 0 (kw c 1 (kf c 1 p))
  | _, p => kw c 0 (kw c 1 (kw c 2 (kf c 2 p)))
theorem ord_eq {S : xSt} (hz : SZ S) (c : Nat) (o s n : Int32) : f_order S c o s n = some (kq S, pS S (rw0 0 (S.1 169 (3 * c)) (nI c) 3 0 (up (up (up zf 4 o) 5 s) 6 n))) := by
  unfold f_order
  rw [add_eq hz]
  simp only [Option.bind_some]
  rw [wo_pS, up_rw (by decide), up_rw (by decide), up_rw (by decide)]
theorem pS_kq {S : xSt} {X : Nat → Nat → Int32} (h : X 165 = S.1 165) : kq (X, S.2) = kq S := by
  unfold kq
  exact congrArg (fun z : Nat → Int32 => if 20 ≤ z 1 then 0 else S.2.2 (z 1).toNatClampNeg) h
theorem kf_S {S : xSt} {c j κ : Nat} {a b k e g : Int32} {F : Nat → Int32} (hκ : κ = kq S) (x : Nat) (hx : x = 12 * c + 4 * j + 2) : f_putPair (sx (pS S (rw0 a b k e g F)) 170 x (f_fed (pS S (rw0 a b k e g F)) κ (S.1 170 x))) κ 2 (ushr (f_fed (pS S (rw0 a b k e g F)) κ (S.1 170 x)) 16) = pS ((kf c j (S.1, F)).1, S.2) (rw0 a b k e g (kf c j (S.1, F)).2) := by
  subst hκ
  subst hx
  rw [fed_pS, fd_rw, sx_pS (by decide)]
  have hk : kq S = kq (sx S 170 (12 * c + 4 * j + 2) (fd F (S.1 170 (12 * c + 4 * j + 2)) 14)) := (kq_sx (by decide)).symm
  rw [hk, pp_pS, up_rw (by decide), up_rw (by decide)]
  rfl
theorem kw_S {X : Nat → Nat → Int32} {S : xSt} {c j κ : Nat} {a b k e g : Int32} {F : Nat → Int32} (hκ : κ = kq S) (hX : X 165 = S.1 165) (x : Nat) (hx : x = 12 * c + 4 * j) : sx (w_wrap (pS (X, S.2) (rw0 a b k e g F)) κ (X 170 x)) 170 x (ks (X 170 x) 14) = pS ((kw c j (X, F)).1, S.2) (rw0 a b k e g (kw c j (X, F)).2) := by
  subst hx
  have hk : κ = kq ((X, S.2) : xSt) := by rw [hκ, pS_kq hX]
  rw [hk, wr_pS, wr_rw, sx_pS (by decide)]
  rfl
theorem cs_r {c h : Nat} {p : (Nat → Nat → Int32) × (Nat → Int32)} {r : Nat} (hr : r ≠ 170) : (cs c h p).1 r = p.1 r := by
  match h with
  | 0 => exact (u2r hr).trans (u2r hr)
  | 1 => exact (u2r hr).trans ((u2r hr).trans (u2r hr))
  | n + 2 => exact (u2r hr).trans ((u2r hr).trans ((u2r hr).trans (u2r hr)))
