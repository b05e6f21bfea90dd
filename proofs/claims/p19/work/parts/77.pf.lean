/-! a relay follows an order -/
/-- what a relay makes of an order that doesn't fit -/
def torn (i c : Nat) (v : Int32) (S : xSt) : Option xSt := if v = 0 then f_tearDown S i c else some S
theorem sim_extend {D : Nat} {S : xSt} {V : xVt} (h : Rel D S V) {i c κ : Nat} (hi : i < 4) (hc : c < 4) (hth : S.1 180 (4 * i + c) = 1) (K : KH S V κ) : ∃ r, f_followsExtend S i c κ = some r ∧ ∃ S' V', torn i c r.1 r.2 = some S' ∧ g_extendAt V i c = some V' ∧ Rel D S' V' := by
  obtain ⟨k1, k2, k3, k4, k5⟩ := K
  have hT := sim_tear h hi hc hth
  have hne := h.kne k1
  obtain ⟨hb8, hp8⟩ := pair_eq (k := 8) k3 k2 (by omega)
  have h7 := k3 7 (by omega)
  have htear : ∃ S' V', torn i c 0 S = some S' ∧ ((g_tear V i c).bind fun r => some r) = some V' ∧ Rel D S' V' := by
    obtain ⟨S', V', e1, e2, e3⟩ := hT
    exact ⟨S', V', (if_pos rfl).trans e1, by rw [e2]; rfl, e3⟩
  unfold f_followsExtend g_extendAt
  simp only [Option.bind_some]
  rw [hb8, h7, h.1]
  unfold g_isRelay g_in
  by_cases a1 : S.2.1 κ 7 < 1
  · rw [if_pos a1, if_pos (show (0 : Int32) = 0 from rfl), if_pos a1, if_pos (show (0 : Int32) = 0 from rfl)]
    exact ⟨_, rfl, htear⟩
  rw [if_neg a1, if_neg a1]
  by_cases a2 : 4 < S.2.1 κ 7
  · rw [if_pos a2, if_pos (show (0 : Int32) = 0 from rfl), if_pos a2, if_pos (show (0 : Int32) = 0 from rfl)]
    exact ⟨_, rfl, htear⟩
  rw [if_neg a2, if_neg a2, if_neg (show ¬ (1 : Int32) = 0 by decide)]
  by_cases a3 : S.2.1 κ 7 = nI (i + 1)
  · rw [if_pos a3, if_pos (show (0 : Int32) = 0 from rfl), if_pos a3]
    exact ⟨_, rfl, htear⟩
  rw [if_neg a3, if_neg a3]
  by_cases a4 : S.2.1 κ 7 = S.1 181 (4 * i + c)
  · rw [if_pos a4, if_pos (show (0 : Int32) = 0 from rfl), if_pos a4]
    exact ⟨_, rfl, htear⟩
  rw [if_neg a4, if_neg a4, if_neg (show ¬ (1 : Int32) = 0 by decide)]
  obtain ⟨-, hn2, hn3, -⟩ := h.there hi hc hth
  have hto : ∃ n : Nat, n < 4 ∧ S.2.1 κ 7 = nI (n + 1) := by
    rw [Int32.lt_iff_toInt_lt] at a1 a2
    have e1 : (1 : Int32).toInt = 1 := rfl
    have e4 : (4 : Int32).toInt = 4 := rfl
    obtain ⟨e, l1, l2, l3⟩ := lf_nat (S.2.1 κ 7) 1 4 (by omega) (by omega)
    exact ⟨e - 1, by omega, by rw [l3, show e - 1 + 1 = e by omega]⟩
  unfold f_next
  by_cases b1 : S.1 182 (4 * i + c) = -1
  · have b1' : ¬ 0 ≤ S.1 182 (4 * i + c) := by rw [b1]; decide
    rw [if_pos b1, if_neg b1']
    by_cases b2 : S.1 183 (4 * i + c) = -1
    · rw [if_pos b2, if_pos ((nod_neg hn3).1.mpr b2), add_eq h.SZ]
      simp only [Option.bind_some]
      rw [show f_pair (pS S (rw0 (nI (i + 1)) (S.2.1 κ 7) (nI c) 1 0 zf)) κ 8 = f_pair S κ 8 by unfold f_pair; rw [pS_o hne], pp_pS, up_rw (by decide), up_rw (by decide), sx_pS (by decide)]
      obtain ⟨n, hn, e, -⟩ := h.2.2.2.2.2.1
      obtain ⟨w, hw, ew⟩ := hto
      have hR := h.nb hi hc hth (r := 183) (Or.inr rfl) (v := S.2.1 κ 7) (Or.inr ⟨w, hw, ew⟩)
      have hpp := pair_hi hp8
      obtain ⟨P, hP⟩ := gen (f_pair S κ 8)
      rw [hP] at hpp hp8 ⊢
      rw [mpp_eq, ship_eq hn (by rw [vbs1, vbs1, vx1, u2r (by decide), h.1, e]), vbsb]
      simp only [Option.bind_some]
      refine ⟨_, rfl, _, _, if_neg (show ¬ (1 : Int32) = 0 by decide), rfl, ?_⟩
      rw [hpp.1, vbsb]
      have hbt : byt (up (up zf 0 (P >>> ((8 : Int32) &&& 31))) (0 + 1) (P &&& 255)) := (byt_0.put 0 (hpp.1 ▸ hpp.2)).put 1 (by_and _)
      exact (hR.b _).push (okc.mk' (fld.mk' ⟨i + 1, by omega, rfl⟩ ⟨w + 1, by omega, ew⟩ ⟨c, hc, rfl⟩ (by decide) ⟨0, by omega, rfl⟩) hbt)
    · rw [if_neg b2, if_neg (fun z => b2 ((nod_neg hn3).1.mp z))]
      exact ⟨_, rfl, htear⟩
  · have b1' : 0 ≤ S.1 182 (4 * i + c) := Int32.not_lt.mp (fun z => b1 ((nod_neg hn2).1.mp z))
    rw [if_neg b1, if_neg b1, if_pos b1']
    exact ⟨_, rfl, htear⟩
theorem bnd5 : bnd (5 : Int32) 256 := ⟨by decide, by decide⟩
def pfD (o : Int32) (S : xSt) (ext beg dat en tru : Option (Int32 × xSt)) : Option (Int32 × xSt) := if o = 1 then ext else (if o = 2 then (some (0, S)) else (if o = 3 then beg else (if o = 4 then (some (0, S)) else (if o = 5 then dat else (if o = 6 then en else (if o = 7 then (some (0, S)) else (if o = 8 then tru else (some (0, S)))))))))
def rfD (o : Int32) (ext tear beg dat en tru : Option xVt) : Option xVt := if o = 1 then ext else (if o = 2 then tear else (if o = 3 then beg else (if o = 4 then tear else (if o = 5 then dat else (if o = 6 then en else (if o = 7 then tear else (if o = 8 then tru else tear)))))))
def PP (D i c : Nat) (A : Option (Int32 × xSt)) (B : Option xVt) : Prop := ∃ r, A = some r ∧ ∃ S' V', torn i c r.1 r.2 = some S' ∧ B = some V' ∧ Rel D S' V'
theorem disp {D i c : Nat} {o : Int32} {S : xSt} {ext beg dat en tru : Option (Int32 × xSt)} {ext' tear' beg' dat' en' tru' : Option xVt} (h1 : PP D i c ext ext') (ht : PP D i c (some (0, S)) tear') (h3 : PP D i c beg beg') (h5 : o = 5 → PP D i c dat dat') (h6 : PP D i c en en') (h8 : PP D i c tru tru') : PP D i c (pfD o S ext beg dat en tru) (rfD o ext' tear' beg' dat' en' tru') := by
  unfold pfD rfD
  by_cases o1 : o = 1
  · rw [if_pos o1, if_pos o1]; exact h1
  rw [if_neg o1, if_neg o1]
  by_cases o2 : o = 2
  · rw [if_pos o2, if_pos o2]; exact ht
  rw [if_neg o2, if_neg o2]
  by_cases o3 : o = 3
  · rw [if_pos o3, if_pos o3]; exact h3
  rw [if_neg o3, if_neg o3]
  by_cases o4 : o = 4
  · rw [if_pos o4, if_pos o4]; exact ht
  rw [if_neg o4, if_neg o4]
  by_cases o5 : o = 5
  · rw [if_pos o5, if_pos o5]; exact h5 o5
  rw [if_neg o5, if_neg o5]
  by_cases o6 : o = 6
  · rw [if_pos o6, if_pos o6]; exact h6
  rw [if_neg o6, if_neg o6]
  by_cases o7 : o = 7
  · rw [if_pos o7, if_pos o7]; exact ht
  rw [if_neg o7, if_neg o7]
  by_cases o8 : o = 8
  · rw [if_pos o8, if_pos o8]; exact h8
  rw [if_neg o8, if_neg o8]
  exact ht
theorem PP.one {D i c : Nat} {A : Option xSt} {B : Option xVt} (h : ∃ S' V', A = some S' ∧ B = some V' ∧ Rel D S' V') : PP D i c (A.bind fun r => some ((1 : Int32), r)) B := by
  obtain ⟨S', V', rfl, rfl, e3⟩ := h
  exact ⟨(1, S'), rfl, S', V', if_neg (show ¬ (1 : Int32) = 0 by decide), rfl, e3⟩
theorem pf_eq (S : xSt) (i c κ : Nat) : f_pfollows S i c κ = pfD (S.2.1 κ 4) S ((f_followsExtend S i c κ).bind fun r1 => some (r1.1, r1.2)) ((f_followBegin S i c (S.2.1 κ 5)).bind fun r2 => some (1, r2)) ((f_followData S i c κ (S.2.1 κ 5)).bind fun r3 => some (1, r3)) ((f_isOpen S i c (S.2.1 κ 5)).bind fun r4 => if r4 = 0 then (some (1, S)) else (if bnd ((S.2.1 κ 5) - 1) 3 then (some (1, (sx S 185 (3 * (4 * i + c) + ((S.2.1 κ 5) - 1).toNatClampNeg) 0))) else none)) ((f_followTruncate S i c).bind fun r5 => some (1, r5)) := by
  unfold f_pfollows pfD
  rfl
def g_tru (V : xVt) (i c : Nat) : Option xVt := (g_destroyOn V i c).bind fun r9 => (g_order (vx (vx r9 182 (4 * i + c) (-1)) 183 (4 * i + c) (-1)) 9 0 0).bind fun r10 => (g_relaySends r10 i c).bind fun r11 => some r11
def g_ord (V : xVt) (i c : Nat) (o s : Int32) : Option xVt := (g_order V o s 0).bind fun r => (g_relaySends r i c).bind fun r2 => some r2
theorem rf_eq0 (V : xVt) (i c : Nat) (h : g_in (V.2.2.2 5) 1 3 = 0) : g_relayFollows V i c = rfD (V.2.2.2 4) ((g_extendAt V i c).bind fun r => some r) ((g_tear V i c).bind fun r => some r) (g_ord V i c 6 (V.2.2.2 5)) ((g_dataAt V i c (V.2.2.2 5) 0).bind fun r => some r) (some V) (g_tru V i c) := by
  unfold g_relayFollows rfD g_tru g_ord
  rw [show ∀ (k : Int32 → Option xVt), (some (g_in (V.2.2.2 5) 1 3)).bind k = k (g_in (V.2.2.2 5) 1 3) from fun _ => rfl]
  rw [if_pos h]
theorem rf_eq1 (V : xVt) (i c x : Nat) (h : g_in (V.2.2.2 5) 1 3 = 1) (hb : bnd (((nI (12 * i + 3 * c)) + (V.2.2.2 5)) - 1) 48) (hx : (((nI (12 * i + 3 * c)) + (V.2.2.2 5)) - 1).toNatClampNeg = x) : g_relayFollows V i c = rfD (V.2.2.2 4) ((g_extendAt V i c).bind fun r => some r) ((g_tear V i c).bind fun r => some r) (if (if (if (V.1 185 x) = 0 then (0 : Int32) else 1) = 0 then (1 : Int32) else 0) = 0 then (g_ord V i c 6 (V.2.2.2 5)) else (g_ord (vx (vn (vx V 185 x 1) 186 x 0) 191 x 0) i c 4 (V.2.2.2 5))) ((g_dataAt V i c (V.2.2.2 5) (if (V.1 185 x) = 0 then (0 : Int32) else 1)).bind fun r => some r) (if (if (V.1 185 x) = 0 then (0 : Int32) else 1) = 0 then (some V) else (some (vx V 185 x 0))) (g_tru V i c) := by
  unfold g_relayFollows rfD g_tru g_ord
  rw [show ∀ (k : Int32 → Option xVt), (some (g_in (V.2.2.2 5) 1 3)).bind k = k (g_in (V.2.2.2 5) 1 3) from fun _ => rfl]
  rw [if_neg (by rw [h]; decide), if_pos hb, hx]
theorem sim_ord {D : Nat} {S : xSt} {V : xVt} (h : Rel D S V) {i c : Nat} (hi : i < 4) (hc : c < 4) (hth : S.1 180 (4 * i + c) = 1) {o s : Int32} (ho : bnd o 256) (hs : bnd s 256) : ∃ S' V', ((f_orderBack S i c o s 0).bind fun r => (some (f_sealBack r.2 i c r.1)).bind fun r2 => some r2) = some S' ∧ g_ord V i c o s = some V' ∧ Rel D S' V' := by
  obtain ⟨S', V', a1, a2, -, a3⟩ := sim_o h hi hc hth (o := o) (s := s) (n := 0) ho hs ⟨by decide, by decide⟩
  exact ⟨S', V', a1, a2, a3⟩
theorem sim_tru {D : Nat} {S : xSt} {V : xVt} (h : Rel D S V) {i c : Nat} (hi : i < 4) (hc : c < 4) (hth : S.1 180 (4 * i + c) = 1) : ∃ S' V', f_followTruncate S i c = some S' ∧ g_tru V i c = some V' ∧ Rel D S' V' := by
  obtain ⟨S1, V1, e1, e2, -, e3, -, -, e4⟩ := sim_dn h hi hc
  have ht1 : S1.1 180 (4 * i + c) = 1 := by rw [e3 180 (by decide)]; exact hth
  have r1 := e4.nb hi hc ht1 (r := 182) (Or.inl rfl) (v := -1) (Or.inl rfl)
  have ht2 : (sx S1 182 (4 * i + c) (-1)).1 180 (4 * i + c) = 1 := by rw [sx1, u2r (by decide)]; exact ht1
  have r2 := r1.nb hi hc ht2 (r := 183) (Or.inr rfl) (v := -1) (Or.inl rfl)
  obtain ⟨S', V', a1, a2, a3⟩ := sim_ord r2 hi hc (by rw [sx1, u2r (by decide)]; exact ht2) (o := 9) (s := 0) ⟨by decide, by decide⟩ ⟨by decide, by decide⟩
  refine ⟨S', V', ?_, ?_, a3⟩
  · unfold f_followTruncate
    rw [e1, Option.bind_some]
    exact a1
  · unfold g_tru
    rw [e2, Option.bind_some]
    exact a2
theorem isOpen_0 {S : xSt} {i c : Nat} {s : Int32} (hs : f_isStream s = 0) : f_isOpen S i c s = some 0 := by
  unfold f_isOpen
  rw [hs, Option.bind_some, if_pos rfl]
theorem isOpen_1 {S : xSt} {i c t : Nat} (ht : t < 3) : f_isOpen S i c (nI (t + 1)) = some (if S.1 185 (12 * i + 3 * c + t) = 0 then (0 : Int32) else 1) := by
  have hs1 : f_isStream (nI (t + 1)) = 1 := by
    rcases (by omega : t = 0 ∨ t = 1 ∨ t = 2) with q | q | q <;> subst q <;> decide
  have ex : 3 * (4 * i + c) + (nI (t + 1) - 1).toNatClampNeg = 12 * i + 3 * c + t := by rw [(str1 ht).2.2]; omega
  unfold f_isOpen
  rw [hs1]
  rw [Option.bind_some, if_neg (show ¬ (1 : Int32) = 0 by decide), if_pos (str1 ht).2.1, ex]
/-- an order of a known cell -/
theorem sim_pf {D : Nat} {S : xSt} {V : xVt} (h : Rel D S V) {i c κ : Nat} (hi : i < 4) (hc : c < 4) (hth : S.1 180 (4 * i + c) = 1) (K : KH S V κ) : PP D i c (f_pfollows S i c κ) (g_relayFollows V i c) := by
  have K0 := K
  obtain ⟨k1, k2, k3, k4, k5⟩ := K
  have h4 := k3 4 (by omega)
  have h5 := k3 5 (by omega)
  have bs := k2 5 (by omega)
  have htear : PP D i c (some (0, S)) ((g_tear V i c).bind fun r => some r) := by
    obtain ⟨S', V', e1, e2, e3⟩ := sim_tear h hi hc hth
    exact ⟨_, rfl, S', V', (if_pos rfl).trans e1, by rw [e2]; rfl, e3⟩
  have hext : PP D i c ((f_followsExtend S i c κ).bind fun r1 => some (r1.1, r1.2)) ((g_extendAt V i c).bind fun r => some r) := by
    obtain ⟨r, e0, S', V', e1, e2, e3⟩ := sim_extend h hi hc hth K0
    rw [e0, e2]
    exact ⟨r, rfl, S', V', e1, rfl, e3⟩
  have htr := PP.one (i := i) (c := c) (sim_tru h hi hc hth)
  have hend := sim_ord h hi hc hth (o := 6) (s := S.2.1 κ 5) ⟨by decide, by decide⟩ bs
  rw [pf_eq]
  rcases str (S.2.1 κ 5) with hs | ⟨hs, t, ht, es⟩
  · rw [rf_eq0 V i c (by rw [h5]; exact hs), h4, h5]
    refine disp hext htear (PP.one ?_) (fun _ => PP.one ?_) ?_ htr
    · unfold f_followBegin
      rw [hs, Option.bind_some, if_pos rfl]
      exact hend
    · unfold f_followData
      rw [isOpen_0 hs, Option.bind_some, if_pos rfl]
      obtain ⟨S', V', a1, a2, a3⟩ := hend
      refine ⟨S', V', a1, ?_, a3⟩
      unfold g_dataAt
      rw [if_pos (show (0 : Int32) = 0 from rfl)]
      unfold g_ord at a2
      rw [a2, Option.bind_some]
    · rw [isOpen_0 hs, Option.bind_some, if_pos rfl]
      exact ⟨(1, S), rfl, S, V, if_neg (show ¬ (1 : Int32) = 0 by decide), rfl, h⟩
  · have ex : 3 * (4 * i + c) + (nI (t + 1) - 1).toNatClampNeg = 12 * i + 3 * c + t := by rw [(str1 ht).2.2]; omega
    have hs1 : f_isStream (nI (t + 1)) = 1 := by rw [← es]; exact hs
    have hop := (h.there hi hc hth).2.2.2 t ht
    have s2 := str2 (m := 12 * i + 3 * c) ht (by omega)
    rw [rf_eq1 V i c (12 * i + 3 * c + t) (by rw [h5]; exact hs) (by rw [h5, es]; exact s2.2.1) (by rw [h5, es]; exact s2.2.2), h4, h5, h.1, es]
    rw [es] at hend
    refine disp hext htear (PP.one ?_) (fun o5 => PP.one ?_) ?_ htr
    · unfold f_followBegin
      rw [hs1, Option.bind_some, if_neg (show ¬ (1 : Int32) = 0 by decide), if_pos (str1 ht).2.1, ex]
      rcases hop with q | q
      · rw [q, if_pos (show (0 : Int32) = 0 from rfl), if_pos (show (0 : Int32) = 0 from rfl), if_pos (show (0 : Int32) = 0 from rfl), if_neg (show ¬ (1 : Int32) = 0 by decide)]
        exact sim_ord (h.ope hi hc ht hth) hi hc (by rw [sx1, u2r (by decide), sx1, u2r (by decide)]; exact hth) (o := 4) (s := nI (t + 1)) ⟨by decide, by decide⟩ (bn (by omega) (by decide))
      · rw [q, if_neg (show ¬ (1 : Int32) = 0 by decide), if_neg (show ¬ (1 : Int32) = 0 by decide), if_neg (show ¬ (1 : Int32) = 0 by decide), if_pos (show (0 : Int32) = 0 from rfl)]
        exact hend
    · rcases hop with q | q
      · unfold f_followData
        rw [isOpen_1 ht, q, if_pos (show (0 : Int32) = 0 from rfl), Option.bind_some, if_pos rfl]
        obtain ⟨S', V', a1, a2, a3⟩ := hend
        refine ⟨S', V', a1, ?_, a3⟩
        unfold g_dataAt
        rw [if_pos (show (0 : Int32) = 0 from rfl)]
        unfold g_ord at a2
        rw [a2, Option.bind_some]
      · rw [q, if_neg (show ¬ (1 : Int32) = 0 by decide)]
        obtain ⟨S', V', a1, a2, a3⟩ := sim_data h hi hc hth K0 o5 ht es q
        exact ⟨S', V', a1, by rw [a2]; rfl, a3⟩
    · rw [isOpen_1 ht, Option.bind_some]
      rcases hop with q | q
      · rw [q, if_pos (show (0 : Int32) = 0 from rfl), if_pos (show (0 : Int32) = 0 from rfl), if_pos (show (0 : Int32) = 0 from rfl)]
        exact ⟨(1, S), rfl, S, V, if_neg (show ¬ (1 : Int32) = 0 by decide), rfl, h⟩
      · rw [q, if_neg (show ¬ (1 : Int32) = 0 by decide), if_neg (show ¬ (1 : Int32) = 0 by decide), if_neg (show ¬ (1 : Int32) = 0 by decide), if_pos (str1 ht).2.1, ex]
        exact ⟨(1, sx S 185 (12 * i + 3 * c + t) 0), rfl, _, _, if_neg (show ¬ (1 : Int32) = 0 by decide), rfl, h.cls hi hc ht hth⟩
