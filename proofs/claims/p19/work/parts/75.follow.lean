/-! orders at a relay -/
theorem pr_eq {x y : Int32} (hx : bnd x 256) (hy : bnd y 256) : (x <<< ((8 : Int32) &&& 31)) ||| y = nI (256 * x.toNatClampNeg + y.toNatClampNeg) ∧ (256 : Int32) * x + y = nI (256 * x.toNatClampNeg + y.toNatClampNeg) := by
  have e1 := nI_bnd hx (by omega)
  have e2 := nI_bnd hy (by omega)
  have l1 := bnd_lt hx
  have l2 := bnd_lt hy
  constructor
  · conv => lhs; rw [e1, e2]
    rw [show (8 : Int32) &&& 31 = 8 from by decide, pk_shlN 8 8 (by decide) (by omega)]
    refine Int32.toBitVec_inj.mp (BitVec.eq_of_toNat_eq ?_)
    rw [Int32.toBitVec_or, BitVec.toNat_or, pk_tn (by omega), pk_tn (by omega), pk_tn (by omega)]
    rw [Nat.mul_comm _ (2 ^ 8), ← Nat.two_pow_add_eq_or_of_lt l2]
  · conv => lhs; rw [e1, e2]
    rw [show (256 : Int32) = nI 256 from rfl, pk_mul, nI_add]
theorem pair_eq {S : xSt} {V : xVt} {κ k : Nat} (hb : ∀ j, j < 14 → V.2.2.2 j = S.2.1 κ j) (hB : byt (S.2.1 κ)) (hk : k < 13) : g_pair V k = f_pair S κ k ∧ bnd (f_pair S κ k) 65536 := by
  unfold g_pair f_pair
  rw [hb k (by omega), hb (k + 1) (by omega)]
  have e := pr_eq (hB k (by omega)) (hB (k + 1) (by omega))
  rw [e.1, e.2]
  have l1 := bnd_lt (hB k (by omega))
  have l2 := bnd_lt (hB (k + 1) (by omega))
  exact ⟨rfl, bn (by omega) (by decide)⟩
theorem str (s : Int32) : f_isStream s = 0 ∨ (f_isStream s = 1 ∧ ∃ t : Nat, t < 3 ∧ s = nI (t + 1)) := by
  unfold f_isStream
  by_cases h1 : s < 1
  · exact Or.inl (if_pos h1)
  · by_cases h2 : 3 < s
    · exact Or.inl (by rw [if_neg h1, if_pos h2])
    · refine Or.inr ⟨by rw [if_neg h1, if_neg h2], ?_⟩
      rw [Int32.lt_iff_toInt_lt] at h1 h2
      have e1 : (1 : Int32).toInt = 1 := rfl
      have e3 : (3 : Int32).toInt = 3 := rfl
      obtain ⟨e, l1, l2, rfl⟩ := lf_nat s 1 3 (by omega) (by omega)
      exact ⟨e - 1, by omega, by rw [show e - 1 + 1 = e by omega]⟩
theorem str1 {t : Nat} (ht : t < 3) : nI (t + 1) - 1 = nI t ∧ bnd (nI (t + 1) - 1) 3 ∧ (nI (t + 1) - 1).toNatClampNeg = t := by
  have e := nI_pred t
  rw [e]
  exact ⟨rfl, bn ht (by decide), nI_clamp (by omega)⟩
theorem str2 {m t : Nat} (ht : t < 3) (hm : m < 46) : (nI m + nI (t + 1) - 1) = nI (m + t) ∧ bnd (nI m + nI (t + 1) - 1) 48 ∧ (nI m + nI (t + 1) - 1).toNatClampNeg = m + t := by
  have e : nI m + nI (t + 1) - 1 = nI (m + t) := by rw [nI_add, ← Nat.add_assoc, nI_pred]
  rw [e]
  exact ⟨rfl, bn (by omega) (by decide), nI_clamp (by omega)⟩
theorem Rel.there {D : Nat} {S : xSt} {V : xVt} (h : Rel D S V) {i c : Nat} (hi : i < 4) (hc : c < 4) (hth : S.1 180 (4 * i + c) = 1) : (∃ n : Nat, n ≤ 4 ∧ S.1 181 (4 * i + c) = nI n) ∧ nod (S.1 182 (4 * i + c)) ∧ nod (S.1 183 (4 * i + c)) ∧ (∀ s, s < 3 → S.1 185 (12 * i + 3 * c + s) = 0 ∨ S.1 185 (12 * i + 3 * c + s) = 1) := by
  rcases h.2.2.1 i hi c hc with q | q
  · rw [hth] at q
    exact absurd q.1 (by decide)
  · exact q.2
theorem Rel.nb {D : Nat} {S : xSt} {V : xVt} (h : Rel D S V) {i c : Nat} (hi : i < 4) (hc : c < 4) (hth : S.1 180 (4 * i + c) = 1) {r : Nat} (hr : r = 182 ∨ r = 183) {v : Int32} (hv : nod v) : Rel D (sx S r (4 * i + c) v) (vx V r (4 * i + c) v) := by
  have hq0 := h.there hi hc hth
  obtain ⟨h1, h2, h3, h4, hq, ⟨n, hn, e, hcl⟩, ht⟩ := h
  have hr2 : ∀ r', r' ≠ 182 → r' ≠ 183 → (sx S r (4 * i + c) v).1 r' = S.1 r' := fun r' q1 q2 => u2r (by omega)
  refine ⟨by rw [vx1, sx1, h1], fun c hc => (h2 c hc).rows (fun r q1 q2 q3 => hr2 r (by omega) (by omega)), fun i' hi' c' hc' => ?_, fun i hi => (h4 i hi).rows (hr2 _ (by decide) (by decide)) (hr2 _ (by decide) (by decide)) (hr2 _ (by decide) (by decide)), hq, ⟨n, hn, ?_, hcl⟩, ?_⟩
  · by_cases hs : i' = i ∧ c' = c
    · obtain ⟨rfl, rfl⟩ := hs
      refine Or.inr ?_
      rw [hr2 180 (by decide) (by decide), hr2 181 (by decide) (by decide), hr2 185 (by decide) (by decide)]
      refine ⟨hth, hq0.1, ?_, ?_, hq0.2.2.2⟩
      · rw [sx1, u2_at]
        split
        · exact hv
        · exact hq0.2.1
      · rw [sx1, u2_at]
        split
        · exact hv
        · exact hq0.2.2.1
    · have hx : 4 * i' + c' ≠ 4 * i + c := by omega
      refine (h3 i' hi' c' hc').cg ?_ ?_ ?_ ?_ (fun k hk => ?_) (fun s hs => ?_)
      · rw [sx1, u2i hx]
      · rw [sx1, u2i hx]
      · rw [sx1, u2i hx]
      · rw [sx1, u2i hx]
      · rw [hr2 184 (by decide) (by decide)]
      · rw [hr2 185 (by decide) (by decide)]
  · rw [hr2 165 (by decide) (by decide), e]
  · intro t ht1 ht2
    rw [hr2 185 (by decide) (by decide)] at ht2
    rw [hr2 191 (by decide) (by decide)]
    exact ht t ht1 ht2
/-- a stream opened or closed; what the tally holds then -/
theorem Rel.opn {D : Nat} {S : xSt} {V : xVt} (h : Rel D S V) {i c t : Nat} (hi : i < 4) (hc : c < 4) (ht3 : t < 3) (hth : S.1 180 (4 * i + c) = 1) {v : Int32} (hv : v = 0 ∨ v = 1) {S' : xSt} {V' : xVt} (e1 : ∀ r, r ≠ 185 → r ≠ 191 → S'.1 r = S.1 r) (e2 : V'.1 = S'.1) (e3 : S'.2 = S.2) (e4 : V'.2.2.1 = V.2.2.1) (e5 : S'.1 185 = xi_u2 S.1 185 (12 * i + 3 * c + t) v 185) (e6 : ∀ x, x ≠ 12 * i + 3 * c + t → S'.1 191 x = S.1 191 x ∧ V'.2.1 186 x = V.2.1 186 x) (e7 : v = 1 → S'.1 191 (12 * i + 3 * c + t) = V'.2.1 186 (12 * i + 3 * c + t)) : Rel D S' V' := by
  have hq0 := h.there hi hc hth
  obtain ⟨h1, h2, h3, h4, hq, ⟨n, hn, e, hcl⟩, ht⟩ := h
  refine ⟨e2, fun c hc => (h2 c hc).rows (fun r q1 q2 q3 => e1 r (by omega) (by omega)), fun i' hi' c' hc' => ?_, fun i hi => (h4 i hi).rows (e1 _ (by decide) (by decide)) (e1 _ (by decide) (by decide)) (e1 _ (by decide) (by decide)), by rw [e3]; exact hq, ⟨n, hn, by rw [e1 _ (by decide) (by decide)]; exact e, by rw [e3, e4]; exact hcl⟩, ?_⟩
  · by_cases hs : i' = i ∧ c' = c
    · obtain ⟨rfl, rfl⟩ := hs
      refine Or.inr ?_
      rw [e1 180 (by decide) (by decide), e1 181 (by decide) (by decide), e1 182 (by decide) (by decide), e1 183 (by decide) (by decide)]
      refine ⟨hth, hq0.1, hq0.2.1, hq0.2.2.1, fun s hs => ?_⟩
      rw [e5, u2_at]
      split
      · exact hv
      · exact hq0.2.2.2 s hs
    · refine (h3 i' hi' c' hc').cg ?_ ?_ ?_ ?_ (fun k hk => ?_) (fun s hs => ?_)
      · rw [e1 180 (by decide) (by decide)]
      · rw [e1 181 (by decide) (by decide)]
      · rw [e1 182 (by decide) (by decide)]
      · rw [e1 183 (by decide) (by decide)]
      · rw [e1 184 (by decide) (by decide)]
      · rw [e5, u2i (by omega)]
  · intro x hx hx2
    by_cases q : x = 12 * i + 3 * c + t
    · subst q
      refine e7 ?_
      rw [e5, u2_same] at hx2
      exact hx2
    · rw [(e6 x q).1, (e6 x q).2]
      refine ht x hx ?_
      rw [e5, u2i q] at hx2
      exact hx2
theorem Rel.cls {D : Nat} {S : xSt} {V : xVt} (h : Rel D S V) {i c t : Nat} (hi : i < 4) (hc : c < 4) (ht : t < 3) (hth : S.1 180 (4 * i + c) = 1) : Rel D (sx S 185 (12 * i + 3 * c + t) 0) (vx V 185 (12 * i + 3 * c + t) 0) :=
  h.opn hi hc ht hth (v := 0) (Or.inl rfl) (fun r q1 q2 => u2r q1) (by rw [vx1, sx1, h.1]) rfl rfl rfl (fun x hx => ⟨by rw [sx1, u2r (by decide)], rfl⟩) (fun q => absurd q (by decide))
theorem Rel.ope {D : Nat} {S : xSt} {V : xVt} (h : Rel D S V) {i c t : Nat} (hi : i < 4) (hc : c < 4) (ht : t < 3) (hth : S.1 180 (4 * i + c) = 1) : Rel D (sx (sx S 185 (12 * i + 3 * c + t) 1) 191 (12 * i + 3 * c + t) 0) (vx (vn (vx V 185 (12 * i + 3 * c + t) 1) 186 (12 * i + 3 * c + t) 0) 191 (12 * i + 3 * c + t) 0) := by
  refine h.opn hi hc ht hth (v := 1) (Or.inr rfl) (fun r q1 q2 => ?_) ?_ rfl rfl ?_ (fun x hx => ⟨?_, ?_⟩) (fun _ => ?_)
  · rw [sx1, sx1, u2r q2, u2r q1]
  · rw [vx1, sx1, sx1, ← h.1]
    rfl
  · rw [sx1, u2r (by decide)]
    rfl
  · rw [sx1, u2i hx, sx1, u2r (by decide)]
  · show xi_u2 V.2.1 186 _ 0 186 x = _
    rw [u2i hx]
  · rw [sx1, u2_same]
    show _ = xi_u2 V.2.1 186 _ 0 186 _
    rw [u2_same]
theorem Rel.tal {D : Nat} {S : xSt} {V : xVt} (h : Rel D S V) {i c t : Nat} (hi : i < 4) (hc : c < 4) (ht : t < 3) (hth : S.1 180 (4 * i + c) = 1) (ho : S.1 185 (12 * i + 3 * c + t) = 1) : S.1 191 (12 * i + 3 * c + t) = V.2.1 186 (12 * i + 3 * c + t) ∧ Rel D (sx S 191 (12 * i + 3 * c + t) (S.1 191 (12 * i + 3 * c + t) + 1)) (vx (vn V 186 (12 * i + 3 * c + t) (V.2.1 186 (12 * i + 3 * c + t) + 1)) 191 (12 * i + 3 * c + t) (V.2.1 186 (12 * i + 3 * c + t) + 1)) := by
  have e := h.2.2.2.2.2.2 (12 * i + 3 * c + t) (by omega) ho
  refine ⟨e, ?_⟩
  refine h.opn hi hc ht hth (v := 1) (Or.inr rfl) (fun r q1 q2 => ?_) ?_ rfl rfl ?_ (fun x hx => ⟨?_, ?_⟩) (fun _ => ?_)
  · rw [sx1, u2r q2]
  · rw [vx1, sx1, ← h.1, ← e, ← h.1]
    rfl
  · rw [sx1, u2r (by decide), u2_id ho]
  · rw [sx1, u2i hx]
  · show xi_u2 V.2.1 186 _ _ 186 x = _
    rw [u2i hx]
  · rw [sx1, u2_same, e]
    show _ = xi_u2 V.2.1 186 _ _ 186 _
    rw [u2_same]
def ordF (o s n : Int32) : Nat → Int32 := up (up (up zf 4 o) 5 s) 6 n
theorem byt.ord {o s n : Int32} (ho : bnd o 256) (hs : bnd s 256) (hn : bnd n 256) : byt (ordF o s n) := ((byt_0.put 4 ho).put 5 hs).put 6 hn
theorem ord_m (V : xVt) (o s n : Int32) : g_order V o s n = some (vbs V (ordF o s n)) := rfl
/-- an order without data goes back -/
theorem sim_o {D : Nat} {S : xSt} {V : xVt} (h : Rel D S V) {i c : Nat} (hi : i < 4) (hc : c < 4) (hth : S.1 180 (4 * i + c) = 1) {o s n : Int32} (ho : bnd o 256) (hs : bnd s 256) (hn : bnd n 256) : ∃ S' V', ((f_orderBack S i c o s n).bind fun r => (some (f_sealBack r.2 i c r.1)).bind fun r2 => some r2) = some S' ∧ ((g_order V o s n).bind fun r => (g_relaySends r i c).bind fun r2 => some r2) = some V' ∧ V'.2.1 = V.2.1 ∧ Rel D S' V' := by
  rw [ob_eq h.SZ, ord_m]
  simp only [Option.bind_some]
  rw [sb_eq]
  obtain ⟨V', e1, e2, e3⟩ := sim_back (h.b (ordF o s n)) hi hc hth (F := ordF o s n) (byt.ord ho hs hn) (fun _ _ _ _ => rfl)
  rw [e1]
  exact ⟨_, V', rfl, rfl, e2, e3⟩
/-- a known cell in hand -/
def KH (S : xSt) (V : xVt) (κ : Nat) : Prop := κ = S.2.2 20 ∧ byt (S.2.1 κ) ∧ (∀ k, k < 14 → V.2.2.2 k = S.2.1 κ k) ∧ S.2.1 κ 0 = 0 ∧ S.2.1 κ 1 = 0
theorem dl_le {n : Int32} (hn : bnd n 256) : bnd (if 7 ≤ n then (7 : Int32) else n) 8 ∧ ∀ j, j < 7 → (j < (if 7 ≤ n then (7 : Int32) else n).toNatClampNeg ↔ ¬ n ≤ nI j) := by
  have e1 := nI_bnd hn (by omega)
  have l1 := bnd_lt hn
  generalize n.toNatClampNeg = m at e1 l1
  subst e1
  by_cases h : (7 : Int32) ≤ nI m
  · rw [if_pos h]
    refine ⟨⟨by decide, by decide⟩, fun j hj => ?_⟩
    rw [show (7 : Int32) = nI 7 from rfl, nI_leI (by decide) (by omega)] at h
    rw [nI_leI (by omega) (by omega), show (7 : Int32).toNatClampNeg = 7 from rfl]
    omega
  · rw [if_neg h]
    rw [show (7 : Int32) = nI 7 from rfl, nI_leI (by decide) (by omega)] at h
    refine ⟨bn (by omega) (by decide), fun j hj => ?_⟩
    rw [nI_leI (by omega) (by omega), nI_clamp (by omega)]
    omega
