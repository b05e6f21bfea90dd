/-! what holds between class and reference -/
def nod (v : Int32) : Prop := v = -1 ∨ ∃ n : Nat, n < 4 ∧ v = nI (n + 1)
def StI (D h : Nat) (a k z : Int32) : Prop := ∃ k' z' : Nat, k = nI k' ∧ k' ≤ 2 ∧ z = nI z' ∧ z' ≤ 2 * D + 4 ∧ (a = 0 → z' = 0) ∧ (a ≠ 0 → 0 < a ∧ k' < h)
/-- a circuit at the client -/
def CI (D : Nat) (X : Nat → Nat → Int32) (c : Nat) : Prop :=
  ∃ h : Nat, X 168 c = nI h ∧ h ≤ 3 ∧ (X 167 c = 1 → h ≤ 2 ∧ (∃ w : Nat, w < 4 ∧ X 171 c = nI (w + 1)) ∧ bnd (X 172 c) 65536) ∧ (X 167 c ≠ 1 → X 171 c = -1) ∧ (X 167 c = 2 → 1 ≤ h) ∧ (1 ≤ h → ∃ w : Nat, w < 4 ∧ X 169 (3 * c) = nI (w + 1)) ∧ bnd (X 176 c) 8 ∧ ∀ s, s < 3 → StI D h (X 173 (3 * c + s)) (X 174 (3 * c + s)) (X 175 (3 * c + s))
/-- a circuit at a relay -/
def PI (X : Nat → Nat → Int32) (i c : Nat) : Prop :=
  (X 180 (4 * i + c) = 0 ∧ X 181 (4 * i + c) = -1 ∧ X 182 (4 * i + c) = -1 ∧ X 183 (4 * i + c) = -1 ∧ (∀ k, k < 4 → X 184 (16 * i + 4 * c + k) = 0) ∧ (∀ s, s < 3 → X 185 (12 * i + 3 * c + s) = 0)) ∨
  (X 180 (4 * i + c) = 1 ∧ (∃ n : Nat, n ≤ 4 ∧ X 181 (4 * i + c) = nI n) ∧ nod (X 182 (4 * i + c)) ∧ nod (X 183 (4 * i + c)) ∧ (∀ s, s < 3 → X 185 (12 * i + 3 * c + s) = 0 ∨ X 185 (12 * i + 3 * c + s) = 1))
def RI (D : Nat) (X : Nat → Nat → Int32) (i : Nat) : Prop := ∃ b a : Nat, X 178 (i + 1) = nI b ∧ b < 65536 ∧ X 190 i = nI (17 ^ b % 65521) ∧ X 179 (i + 1) = nI a ∧ a ≤ D
def QI (q : Nat → Nat) : Prop := (∀ j, j ≤ 20 → 1 ≤ q j ∧ q j < 22) ∧ ∀ j k, j ≤ 20 → k ≤ 20 → q j = q k → j = k
def fld (D : Nat) (f : Nat → Int32) : Prop := (∃ a : Nat, a ≤ 4 ∧ f 14 = nI a) ∧ (∃ a : Nat, a ≤ 4 ∧ f 15 = nI a) ∧ (∃ a : Nat, a < 4 ∧ f 16 = nI a) ∧ (f 17 = 1 ∨ f 17 = 2 ∨ f 17 = 3 ∨ f 17 = 4) ∧ (∃ a : Nat, a ≤ D + 2 ∧ f 18 = nI a)
/-- two cells, alike but for a DESTROY's bytes -/
def okc (D : Nat) (f g : Nat → Int32) : Prop := fld D f ∧ (∀ k, 14 ≤ k → k < 19 → g k = f k) ∧ (f 17 ≠ 4 → ∀ k, k < 14 → g k = f k ∧ bnd (f k) 256)
def CellI (D : Nat) (S : xSt) (C : Nat → Nat → Int32) : Prop := ∃ n : Nat, n ≤ 20 ∧ S.1 165 1 = nI n ∧ ∀ j, j < n → okc D (S.2.1 (S.2.2 j)) (C j)
def TI (X N : Nat → Nat → Int32) : Prop := ∀ t, t < 48 → X 185 t = 1 → X 191 t = N 186 t
def Rel (D : Nat) (S : xSt) (V : xVt) : Prop := V.1 = S.1 ∧ (∀ c, c < 4 → CI D S.1 c) ∧ (∀ i, i < 4 → ∀ c, c < 4 → PI S.1 i c) ∧ (∀ i, i < 4 → RI D S.1 i) ∧ QI S.2.2 ∧ CellI D S V.2.2.1 ∧ TI S.1 V.2.1
theorem CI.cg {D : Nat} {X X' : Nat → Nat → Int32} {c : Nat} (h : CI D X c) (e7 : X' 167 c = X 167 c) (e8 : X' 168 c = X 168 c) (e9 : X' 169 (3 * c) = X 169 (3 * c)) (e1 : X' 171 c = X 171 c) (e2 : X' 172 c = X 172 c) (e6 : X' 176 c = X 176 c) (es : ∀ s, s < 3 → X' 173 (3 * c + s) = X 173 (3 * c + s) ∧ X' 174 (3 * c + s) = X 174 (3 * c + s) ∧ X' 175 (3 * c + s) = X 175 (3 * c + s)) : CI D X' c := by
  unfold CI at h ⊢
  rw [e7, e8, e9, e1, e2, e6]
  obtain ⟨n, h1, h2, h3, h4, h5, h6, h7, h8⟩ := h
  refine ⟨n, h1, h2, h3, h4, h5, h6, h7, fun s hs => ?_⟩
  rw [(es s hs).1, (es s hs).2.1, (es s hs).2.2]
  exact h8 s hs
theorem CI.rows {D : Nat} {X X' : Nat → Nat → Int32} {c : Nat} (h : CI D X c) (e : ∀ r, 167 ≤ r → r ≤ 176 → r ≠ 170 → X' r = X r) : CI D X' c := by
  refine h.cg ?_ ?_ ?_ ?_ ?_ ?_ (fun s _ => ⟨?_, ?_, ?_⟩) <;> rw [e _ (by decide) (by decide) (by decide)]
theorem PI.rows {X X' : Nat → Nat → Int32} {i c : Nat} (h : PI X i c) (e : ∀ r, 180 ≤ r → r ≤ 185 → X' r = X r) : PI X' i c := by
  unfold PI at h ⊢
  rw [e 180 (by decide) (by decide), e 181 (by decide) (by decide), e 182 (by decide) (by decide), e 183 (by decide) (by decide), e 184 (by decide) (by decide), e 185 (by decide) (by decide)]
  exact h
theorem PI.cg {X X' : Nat → Nat → Int32} {i c : Nat} (h : PI X i c) (e0 : X' 180 (4 * i + c) = X 180 (4 * i + c)) (e1 : X' 181 (4 * i + c) = X 181 (4 * i + c)) (e2 : X' 182 (4 * i + c) = X 182 (4 * i + c)) (e3 : X' 183 (4 * i + c) = X 183 (4 * i + c)) (e4 : ∀ k, k < 4 → X' 184 (16 * i + 4 * c + k) = X 184 (16 * i + 4 * c + k)) (e5 : ∀ s, s < 3 → X' 185 (12 * i + 3 * c + s) = X 185 (12 * i + 3 * c + s)) : PI X' i c := by
  unfold PI at h ⊢
  rw [e0, e1, e2, e3]
  rcases h with ⟨h0, h1, h2, h3, h4, h5⟩ | ⟨h0, h1, h2, h3, h5⟩
  · exact Or.inl ⟨h0, h1, h2, h3, fun k hk => by rw [e4 k hk, h4 k hk], fun s hs => by rw [e5 s hs, h5 s hs]⟩
  · exact Or.inr ⟨h0, h1, h2, h3, fun s hs => by rw [e5 s hs]; exact h5 s hs⟩
theorem RI.rows {D : Nat} {X X' : Nat → Nat → Int32} {i : Nat} (h : RI D X i) (e8 : X' 178 = X 178) (e9 : X' 179 = X 179) (e0 : X' 190 = X 190) : RI D X' i := by
  unfold RI at h ⊢
  rw [e8, e9, e0]
  exact h
theorem Rel.SZ {D : Nat} {S : xSt} {V : xVt} (h : Rel D S V) : SZ S := by
  obtain ⟨-, -, -, -, hq, ⟨n, hn, e, -⟩, -⟩ := h
  exact ⟨⟨n, hn, e⟩, hq.1⟩
theorem kq_ne {S : xSt} (hq : QI S.2.2) {n : Nat} (hn : n ≤ 20) (e : S.1 165 1 = nI n) {j : Nat} (hj : j ≤ 20) (h : j ≠ n ∨ j = 20) : S.2.2 j ≠ kq S := by
  unfold kq
  intro q
  by_cases h2 : 20 ≤ S.1 165 1
  · rw [if_pos h2] at q
    have := (hq.1 j hj).1
    omega
  · rw [if_neg h2, e, nI_clamp (by omega)] at q
    rw [e, nI20 hn] at h2
    have := hq.2 j n hj hn q
    omega
theorem Rel.hand {D : Nat} {S : xSt} {V : xVt} (h : Rel D S V) : S.2.2 20 ≠ kq S := by
  obtain ⟨-, -, -, -, hq, ⟨n, hn, e, -⟩, -⟩ := h
  exact kq_ne hq hn e (Nat.le_refl _) (Or.inr rfl)
/-- sending: f at the class, g at the reference -/
theorem Rel.push {D : Nat} {S : xSt} {V : xVt} (h : Rel D S V) {f g : Nat → Int32} (ok : okc D f g) : Rel D (pS S f) (pV V g) := by
  obtain ⟨h1, h2, h3, h4, hq, ⟨n, hn, e, hc⟩, ht⟩ := h
  have hr : ∀ r, r ≠ 165 → (pS S f).1 r = S.1 r := fun r hr => pX_r hr
  refine ⟨by show pX V.1 = pX S.1; rw [h1], fun c hc => (h2 c hc).rows (fun r q1 q2 _ => hr r (by omega)), fun i hi c hc => (h3 i hi c hc).rows (fun r q1 q2 => hr r (by omega)), fun i hi => (h4 i hi).rows (hr _ (by decide)) (hr _ (by decide)) (hr _ (by decide)), hq, ?_, ?_⟩
  · by_cases h20 : n = 20
    · have a2 : 20 ≤ S.1 165 1 := by rw [e, nI20 hn]; exact h20
      have a3 : 20 ≤ V.1 165 1 := by rw [h1]; exact a2
      refine ⟨n, hn, ?_, fun j hj => ?_⟩
      · show pX S.1 165 1 = nI n
        simp only [pX, if_pos a2]
        rw [u2i (by decide), e]
      · rw [show (pS S f).2.2 = S.2.2 from rfl, pS_o (kq_ne hq hn e (by omega) (by omega)), show (pV V g).2.2.1 = V.2.2.1 from if_pos a3]
        exact hc j hj
    · have a2 : ¬ 20 ≤ S.1 165 1 := by rw [e, nI20 hn]; exact h20
      have a3 : ¬ 20 ≤ V.1 165 1 := by rw [h1]; exact a2
      refine ⟨n + 1, by omega, ?_, fun j hj => ?_⟩
      · show pX S.1 165 1 = nI (n + 1)
        simp only [pX, if_neg a2]
        rw [u2_same, e, nI_1]
      · rw [show (pS S f).2.2 = S.2.2 from rfl, show (pV V g).2.2.1 = pushC V.2.2.1 (V.1 165 1).toNatClampNeg g from if_neg a3, h1, e, nI_clamp (by omega)]
        unfold pushC
        by_cases hjn : j = n
        · rw [if_pos hjn]
          have e9 : S.2.2 j = kq S := by
            unfold kq
            rw [if_neg a2, e, nI_clamp (by omega), hjn]
          rw [e9, pS_k]
          exact ok
        · rw [if_neg hjn, pS_o (kq_ne hq hn e (by omega) (Or.inl hjn))]
          exact hc j (by omega)
  · intro t ht1 ht2
    rw [hr 185 (by decide)] at ht2
    rw [hr 191 (by decide)]
    exact ht t ht1 ht2
/-- what is in no rule: a row of keys of the client, counters -/
theorem Rel.free {D : Nat} {S : xSt} {V : xVt} (h : Rel D S V) {r i : Nat} {v : Int32} (hr : r = 170 ∨ r = 177 ∨ (r = 165 ∧ i ≠ 1)) : Rel D (sx S r i v) (vx V r i v) := by
  obtain ⟨h1, h2, h3, h4, hq, ⟨n, hn, e, hc⟩, ht⟩ := h
  have hr2 : ∀ r', r' ≠ 170 → r' ≠ 177 → r' ≠ 165 → (sx S r i v).1 r' = S.1 r' := fun r' q1 q2 q3 => u2r (by omega)
  refine ⟨by show xi_u2 V.1 r i v = xi_u2 S.1 r i v; rw [h1], fun c hc => (h2 c hc).rows (fun r q1 q2 q3 => hr2 r q3 (by omega) (by omega)), fun i hi c hc => (h3 i hi c hc).rows (fun r q1 q2 => hr2 r (by omega) (by omega) (by omega)), fun i hi => (h4 i hi).rows (hr2 _ (by decide) (by decide) (by decide)) (hr2 _ (by decide) (by decide) (by decide)) (hr2 _ (by decide) (by decide) (by decide)), hq, ⟨n, hn, ?_, hc⟩, ?_⟩
  · show xi_u2 S.1 r i v 165 1 = nI n
    rw [u2_ne _ _ (by omega), e]
  · intro t ht1 ht2
    rw [hr2 185 (by decide) (by decide) (by decide)] at ht2
    rw [hr2 191 (by decide) (by decide) (by decide)]
    exact ht t ht1 ht2
/-- a relay's key, where the circuit is there -/
theorem Rel.key {D : Nat} {S : xSt} {V : xVt} (h : Rel D S V) {i c k : Nat} (hi : i < 4) (hc : c < 4) (hk : k < 4) (hth : S.1 180 (4 * i + c) = 1) {v : Int32} : Rel D (sx S 184 (16 * i + 4 * c + k) v) (vx V 184 (16 * i + 4 * c + k) v) := by
  obtain ⟨h1, h2, h3, h4, hq, ⟨n, hn, e, hcl⟩, ht⟩ := h
  have hr2 : ∀ r', r' ≠ 184 → (sx S 184 (16 * i + 4 * c + k) v).1 r' = S.1 r' := fun r' q1 => u2r q1
  refine ⟨by show xi_u2 V.1 _ _ v = xi_u2 S.1 _ _ v; rw [h1], fun c hc => (h2 c hc).rows (fun r q1 q2 q3 => hr2 r (by omega)), fun i' hi' c' hc' => ?_, fun i hi => (h4 i hi).rows (hr2 _ (by decide)) (hr2 _ (by decide)) (hr2 _ (by decide)), hq, ⟨n, hn, ?_, hcl⟩, ?_⟩
  · have hp := h3 i' hi' c' hc'
    by_cases hs : i' = i ∧ c' = c
    · obtain ⟨rfl, rfl⟩ := hs
      unfold PI at hp ⊢
      rcases hp with q | q
      · rw [hth] at q
        exact absurd q.1 (by decide)
      · refine Or.inr ?_
        rw [hr2 180 (by decide), hr2 181 (by decide), hr2 182 (by decide), hr2 183 (by decide), hr2 185 (by decide)]
        exact q
    · refine hp.cg ?_ ?_ ?_ ?_ (fun k' hk' => ?_) (fun s _ => ?_)
      · rw [hr2 180 (by decide)]
      · rw [hr2 181 (by decide)]
      · rw [hr2 182 (by decide)]
      · rw [hr2 183 (by decide)]
      · show xi_u2 S.1 184 (16 * i + 4 * c + k) v 184 (16 * i' + 4 * c' + k') = _
        exact u2i (by omega)
      · rw [hr2 185 (by decide)]
  · rw [hr2 165 (by decide), e]
  · intro t ht1 ht2
    rw [hr2 185 (by decide)] at ht2
    rw [hr2 191 (by decide)]
    exact ht t ht1 ht2
/-- the reference's own: bytes in hand, scratch -/
theorem Rel.own {D : Nat} {S : xSt} {V V' : xVt} (h : Rel D S V) (e1 : V'.1 = V.1) (e2 : V'.2.1 186 = V.2.1 186) (e3 : V'.2.2.1 = V.2.2.1) : Rel D S V' := by
  obtain ⟨h1, h2, h3, h4, hq, hc, ht⟩ := h
  refine ⟨e1.trans h1, h2, h3, h4, hq, ?_, ?_⟩
  · rw [e3]
    exact hc
  · intro t q1 q2
    rw [e2]
    exact ht t q1 q2
/-- the class's own: a cell that isn't in the row -/
theorem Rel.cell {D : Nat} {S : xSt} {V : xVt} (h : Rel D S V) {κ : Nat} {f : Nat → Int32} (hκ : κ = S.2.2 20) : Rel D (sr S κ f) V := by
  obtain ⟨h1, h2, h3, h4, hq, ⟨n, hn, e, hc⟩, ht⟩ := h
  refine ⟨h1, h2, h3, h4, hq, ⟨n, hn, e, fun j hj => ?_⟩, ht⟩
  show okc D ((sr S κ f).2.1 (S.2.2 j)) (V.2.2.1 j)
  rw [sr_ne _ _ (fun q => by
    have := hq.2 j 20 (by omega) (Nat.le_refl _) (q.trans hκ)
    omega)]
  exact hc j hj
/-! bits -/
theorem by_and (x : Int32) : bnd (x &&& 255) 256 := by
  obtain ⟨j, hj, e⟩ := pk_andE x (m := 255) 8 (by decide)
  rw [e]
  exact bn hj (by decide)
theorem us_lt (x s : Int32) (k : Nat) (hs : ((s.toUInt32 &&& Int32.toUInt32 31).toBitVec % 32).toNat = k) (hk : 0 < k) (hk2 : k < 32) : ∃ j : Nat, j < 2 ^ (32 - k) ∧ ushr x s = nI j := by
  have h1 := pk_ushr x s k hs
  have h2 : x.toBitVec.toNat < 2 ^ 32 := x.toBitVec.isLt
  refine ⟨x.toBitVec.toNat / 2 ^ k, ?_, ?_⟩
  · rw [Nat.div_lt_iff_lt_mul (Nat.two_pow_pos k), ← Nat.pow_add]
    rw [show 32 - k + k = 32 by omega]
    exact h2
  · have h4 : x.toBitVec.toNat / 2 ^ k < 2 ^ 32 := Nat.lt_of_le_of_lt (Nat.div_le_self _ _) h2
    refine Int32.toBitVec_inj.mp (BitVec.eq_of_toNat_eq ?_)
    rw [pk_tn h4]
    exact h1
theorem by_xor {x y : Int32} (hx : bnd x 256) (hy : bnd y 256) : bnd (x ^^^ y) 256 := by
  have e1 := nI_bnd hx (by omega)
  have e2 := nI_bnd hy (by omega)
  have l1 := bnd_lt hx
  have l2 := bnd_lt hy
  have h : x ^^^ y = nI (x.toNatClampNeg ^^^ y.toNatClampNeg) := by
    refine Int32.toBitVec_inj.mp (BitVec.eq_of_toNat_eq ?_)
    have l3 : x.toNatClampNeg ^^^ y.toNatClampNeg < 2 ^ 8 := Nat.xor_lt_two_pow l1 l2
    rw [pk_tn (by omega), Int32.toBitVec_xor, BitVec.toNat_xor]
    conv => lhs; rw [e1, e2]
    rw [pk_tn (by omega), pk_tn (by omega)]
  rw [h]
  exact bn (Nat.xor_lt_two_pow (n := 8) l1 l2) (by decide)
theorem by_us (x : Int32) : bnd (ushr x 24) 256 := by
  obtain ⟨j, hj, e⟩ := us_lt x 24 24 (by decide) (by decide) (by decide)
  rw [e]
  exact bn hj (by decide)
theorem byt.wrap {f : Nat → Int32} (h : byt f) (key : Int32) : byt (wrapB f key 14) := by
  intro i hi
  unfold wrapB
  rw [if_pos hi]
  exact by_xor (h i hi) (by_us _)
theorem byt.put {f : Nat → Int32} (h : byt f) (k : Nat) {v : Int32} (hv : bnd v 256) : byt (up f k v) := by
  intro i hi
  unfold up
  split
  · exact hv
  · exact h i hi
theorem byt_0 : byt zf := fun _ _ => show bnd (0 : Int32) 256 from ⟨by decide, by decide⟩
/-- a pair of bytes is put alike -/
theorem pair_hi {v : Int32} (h : bnd v 65536) : ushr v 8 &&& 255 = v >>> ((8 : Int32) &&& 31) ∧ bnd (ushr v 8 &&& 255) 256 := by
  have e1 := nI_bnd h (by omega)
  have l1 := bnd_lt h
  refine ⟨?_, by_and _⟩
  rw [e1]
  rw [show ushr (nI v.toNatClampNeg) 8 = nI (v.toNatClampNeg / 2 ^ 8) from pk_ushrN (by omega) 8 8 (by decide)]
  rw [pk_andN (by omega) 8 (by decide), show (8 : Int32) &&& 31 = 8 from by decide, pk_shrN (by omega) 8 8 (by decide)]
  congr 1
  omega
theorem tg_bnd (x : Int32) : bnd (ushr x 16) 65536 := by
  obtain ⟨j, hj, e⟩ := us_lt x 16 16 (by decide) (by decide) (by decide)
  rw [e]
  exact bn hj (by decide)
