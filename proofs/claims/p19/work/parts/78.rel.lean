/-! a cell comes to a relay -/
theorem sim_on {D : Nat} {S : xSt} {V : xVt} (h : Rel D S V) {i c κ : Nat} (hi : i < 4) (hc : c < 4) (hκ : κ = S.2.2 20) (hB : byt (S.2.1 κ)) (hb : ∀ k, k < 14 → V.2.2.2 k = S.2.1 κ k) {to di : Int32} (hto : ∃ n : Nat, n ≤ 4 ∧ to = nI n) (hdi : ∃ n : Nat, n ≤ D + 2 ∧ di = nI n) : ∃ S' V', f_relayOn S i c κ to di = some S' ∧ g_ship V (nI (i + 1)) to (nI c) 3 di = some V' ∧ Rel D S' V' := by
  have hne := h.kne hκ
  obtain ⟨n, hn, e, -⟩ := h.2.2.2.2.2.1
  refine ⟨pS S (rw0 (nI (i + 1)) to (nI c) 3 di (S.2.1 κ)), pV V (rw0 (nI (i + 1)) to (nI c) 3 di (S.2.1 κ)), ?_, ?_, ?_⟩
  · unfold f_relayOn
    rw [add_eq h.SZ, Option.bind_some, Option.bind_some, cp_pS hne, cpy_rw, sy_pS, up_18]
  · rw [ship_eq hn (by rw [h.1, e]), rw_cg hb]
  · exact h.push (okc.mk' (fld.mk' ⟨i + 1, by omega, rfl⟩ hto ⟨c, hc, rfl⟩ (by decide) hdi) hB)
theorem sr1 (S : xSt) (κ : Nat) (f : Nat → Int32) : (sr S κ f).1 = S.1 := rfl
/-- unwrapped once more by a relay's key -/
theorem unwr {D : Nat} {S : xSt} {V : xVt} (h : Rel D S V) {i c κ k : Nat} (hi : i < 4) (hc : c < 4) (hk : k < 4) (hth : S.1 180 (4 * i + c) = 1) (hκ : κ = S.2.2 20) (hB : byt (S.2.1 κ)) (hb : ∀ j, j < 14 → V.2.2.2 j = S.2.1 κ j) (x : Nat) (hx : x = 16 * i + 4 * c + k) :
    Rel D (sx (w_wrap S κ (S.1 184 x)) 184 x (ks (S.1 184 x) 14)) (vx (vbs V (wrapB V.2.2.2 (V.1 184 x) 14)) 184 x (ks (V.1 184 x) 14)) ∧ byt ((sx (w_wrap S κ (S.1 184 x)) 184 x (ks (S.1 184 x) 14)).2.1 κ) ∧ (∀ j, j < 14 → (vx (vbs V (wrapB V.2.2.2 (V.1 184 x) 14)) 184 x (ks (V.1 184 x) 14)).2.2.2 j = (sx (w_wrap S κ (S.1 184 x)) 184 x (ks (S.1 184 x) 14)).2.1 κ j) ∧ (sx (w_wrap S κ (S.1 184 x)) 184 x (ks (S.1 184 x) 14)).2.1 κ 18 = S.2.1 κ 18 := by
  subst hx
  have e1 : (w_wrap S κ (S.1 184 (16 * i + 4 * c + k))).2.1 κ = wrapB (S.2.1 κ) (S.1 184 (16 * i + 4 * c + k)) 14 := sr_rd _ _ _
  obtain ⟨L, hL⟩ := gen (ks (S.1 184 (16 * i + 4 * c + k)) 14)
  rw [h.1, hL, sx2, vx2, e1]
  refine ⟨?_, hB.wrap _, ?_, ?_⟩
  · have r1 := ((h.cell (f := wrapB (S.2.1 κ) (S.1 184 (16 * i + 4 * c + k)) 14) hκ).key hi hc hk hth (v := L)).b (wrapB V.2.2.2 (S.1 184 (16 * i + 4 * c + k)) 14)
    exact r1
  · intro j hj
    show wrapB V.2.2.2 _ 14 j = _
    exact wr_cg _ hb j hj
  · unfold wrapB
    rw [if_neg (by decide)]
theorem kn_eq {S : xSt} {V : xVt} {κ : Nat} (hB : byt (S.2.1 κ)) (hb : ∀ j, j < 14 → V.2.2.2 j = S.2.1 κ j) (key : Int32) : g_fed V key = f_fed S κ key ∧ g_isKnown V key = f_isKnownBy S κ (f_fed S κ key) := by
  have e : g_fed V key = f_fed S κ key := fd_cg key 14 hb
  refine ⟨e, ?_⟩
  unfold g_isKnown f_isKnownBy
  rw [e, (pair_eq (k := 0) hb hB (by omega)).1, (pair_eq (k := 2) hb hB (by omega)).1]
  obtain ⟨A, hA⟩ := gen (ushr (f_fed S κ key) 16)
  obtain ⟨B, hB2⟩ := gen (f_pair S κ 2)
  rw [hA, hB2]
  by_cases p : f_pair S κ 0 = 0
  · rw [if_pos p, if_pos p]
    by_cases q : A = B
    · rw [if_pos q, if_pos q.symm]
    · rw [if_neg q, if_neg (fun z => q z.symm)]
  · rw [if_neg p, if_neg p]
theorem kn_0 {S : xSt} {κ : Nat} (hB : byt (S.2.1 κ)) {F : Int32} (h : ¬ f_isKnownBy S κ F = 0) : S.2.1 κ 0 = 0 ∧ S.2.1 κ 1 = 0 := by
  have hp : f_pair S κ 0 = 0 := by
    refine Classical.byContradiction (fun q => h ?_)
    unfold f_isKnownBy
    rw [if_neg q]
  unfold f_pair at hp
  have e := (pr_eq (hB 0 (by omega)) (hB (0 + 1) (by omega))).1
  rw [hp] at e
  have l1 := bnd_lt (hB 0 (by omega))
  have l2 := bnd_lt (hB (0 + 1) (by omega))
  have e2 := (nI_eq (by decide) (by omega)).mp (show nI 0 = nI _ from e)
  refine ⟨(nI_bnd (hB 0 (by omega)) (by omega)).trans ?_, (nI_bnd (hB 1 (by omega)) (by omega)).trans ?_⟩
  · rw [show (S.2.1 κ 0).toNatClampNeg = 0 by omega]
    rfl
  · have l3 : (S.2.1 κ (0 + 1)).toNatClampNeg = 0 := by omega
    rw [show (S.2.1 κ 1).toNatClampNeg = 0 from l3]
    rfl
theorem isKnown_01 {S : xSt} {κ : Nat} {F : Int32} (h : ¬ f_isKnownBy S κ F = 0) : f_isKnownBy S κ F = 1 := (b_isKnownBy rfl).resolve_left h
theorem there_01 {D : Nat} {S : xSt} {V : xVt} (h : Rel D S V) {i c : Nat} (hi : i < 4) (hc : c < 4) : S.1 180 (4 * i + c) = 0 ∨ S.1 180 (4 * i + c) = 1 := by
  rcases h.2.2.1 i hi c hc with q | q
  · exact Or.inl q.1
  · exact Or.inr q.1
def QQ (D : Nat) (A : Option (Int32 × xSt)) (B : Option xVt) : Prop := ∃ r V', A = some r ∧ B = some V' ∧ Rel D (outc r.1 r.2) V'
theorem QQ.mk1 {D : Nat} {A : Option xSt} {B : Option xVt} (h : ∃ S' V', A = some S' ∧ B = some V' ∧ Rel D S' V') : QQ D (A.bind fun r => some ((1 : Int32), r)) (B.bind fun r => some r) := by
  obtain ⟨S', V', rfl, rfl, e3⟩ := h
  exact ⟨(1, S'), V', rfl, rfl, e3⟩
theorem QQ.str {D : Nat} {S : xSt} {V : xVt} (h : Rel D S V) : QQ D (some (0, S)) (some (vx V 165 5 (V.1 165 5 + 1))) := ⟨_, _, rfl, rfl, h.stray⟩
theorem ex_mono {D D' : Nat} (hd : D ≤ D') {A : Option xSt} {B : Option xVt} (h : ∃ S' V', A = some S' ∧ B = some V' ∧ Rel D S' V') : ∃ S' V', A = some S' ∧ B = some V' ∧ Rel D' S' V' := by
  obtain ⟨S', V', a, b, c⟩ := h
  exact ⟨S', V', a, b, c.mono hd⟩
theorem sim_prelay {D : Nat} {S : xSt} {V : xVt} (h : Rel D S V) {i c κ : Nat} (hi : i < 4) (hc : c < 4) (hD : D < 100000) (hκ : κ = S.2.2 20) (hB : byt (S.2.1 κ)) (hb : ∀ k, k < 14 → V.2.2.2 k = S.2.1 κ k) (hfar : V.2.1 165 27 = S.2.1 κ 18) (h18 : ∃ a : Nat, a ≤ D + 2 ∧ S.2.1 κ 18 = nI a) : QQ (D + 1) (f_ptakesRelay S i c κ) (g_relayed V i (S.2.1 κ 14) c) := by
  obtain ⟨a, ha, ea⟩ := h18
  unfold f_ptakesRelay g_relayed
  rw [h.1]
  rcases there_01 h hi hc with hth | hth
  · rw [hth, if_pos rfl, if_pos rfl, ← h.1]
    exact QQ.str (h.mono (by omega))
  rw [hth, if_neg (show ¬ (1 : Int32) = 0 by decide), if_neg (show ¬ (1 : Int32) = 0 by decide)]
  obtain ⟨hbef, hn2, hn3, -⟩ := h.there hi hc hth
  by_cases c1 : S.2.1 κ 14 = S.1 181 (4 * i + c)
  · rw [if_pos c1, if_pos c1]
    simp only [Option.bind_some]
    obtain ⟨u1, u2, u3, u4⟩ := unwr h hi hc (k := 0) (by decide) hth hκ hB hb (16 * i + 4 * c) rfl
    rw [h.1] at u1 u3
    have e18 : (w_wrap S κ (S.1 184 (16 * i + 4 * c))).2.1 κ 18 = S.2.1 κ 18 := u4
    have ef : (vbs V (wrapB V.2.2.2 (S.1 184 (16 * i + 4 * c)) 14)).2.1 165 27 = S.2.1 κ 18 := hfar
    have e82 : (vbs V (wrapB V.2.2.2 (S.1 184 (16 * i + 4 * c)) 14)).1 = S.1 := h.1
    rw [e18, ef, e82]
    obtain ⟨S1, hS1⟩ := gen (sx (w_wrap S κ (S.1 184 (16 * i + 4 * c))) 184 (16 * i + 4 * c) (ks (S.1 184 (16 * i + 4 * c)) 14))
    obtain ⟨V1, hV1⟩ := gen (vx (vbs V (wrapB V.2.2.2 (S.1 184 (16 * i + 4 * c)) 14)) 184 (16 * i + 4 * c) (ks (S.1 184 (16 * i + 4 * c)) 14))
    have hq1 : S1.2.2 = S.2.2 := by rw [← hS1]; rfl
    have hr1 : ∀ r, r ≠ 184 → S1.1 r = S.1 r := fun r hr => by
      rw [← hS1, sx1, u2r hr]
      rfl
    rw [hS1, hV1] at u1 u3
    rw [hS1] at u2 u4
    rw [hS1, hV1]
    have hκ1 : κ = S1.2.2 20 := by rw [hq1]; exact hκ
    have hth1 : S1.1 180 (4 * i + c) = 1 := by rw [hr1 180 (by decide)]; exact hth
    have hT := sim_tear u1 hi hc hth1
    rw [ea]
    by_cases c2 : nI a = 0
    · rw [if_pos c2, if_pos c2]
      have hk2 := kn_eq u2 u3 (V1.1 184 (16 * i + 4 * c + 2))
      rw [hk2.1, hk2.2, u1.1]
      obtain ⟨K, hK⟩ := gen (f_fed S1 κ (S1.1 184 (16 * i + 4 * c + 2)))
      rw [hK]
      by_cases c3 : f_isKnownBy S1 κ K = 0
      · have c2' : nI a ≤ 0 := by rw [c2]; decide
        have p1 : f_pisKnown S1 i c κ = (0, S1) := by
          unfold f_pisKnown
          rw [hK, c3, if_pos rfl]
        rw [p1, c3, if_pos rfl, if_pos rfl, if_pos c2']
        exact QQ.mk1 (ex_mono (by omega) hT)
      · have k01 := kn_0 u2 c3
        have p1 : f_pisKnown S1 i c κ = (1, sx S1 184 (16 * i + 4 * c + 2) K) := by
          unfold f_pisKnown
          rw [hK, isKnown_01 c3, if_neg (show ¬ (1 : Int32) = 0 by decide)]
        rw [p1, isKnown_01 c3, if_neg (show ¬ (1 : Int32) = 0 by decide), if_neg (show ¬ (1 : Int32) = 0 by decide)]
        have r2 := u1.key hi hc (k := 2) (by decide) hth1 (v := K)
        obtain ⟨r, e0, S', V', e1, e2, e3⟩ := sim_pf r2 hi hc (by rw [sx1, u2r (by decide)]; exact hth1) (κ := κ) ⟨hκ1, u2, u3, k01.1, k01.2⟩
        rw [e0, e2]
        simp only [Option.bind_some]
        unfold torn at e1
        by_cases c4 : r.1 = 0
        · rw [if_pos c4] at e1
          rw [if_pos c4, if_pos rfl, e1]
          simp only [Option.bind_some]
          exact ⟨_, _, rfl, rfl, e3.mono (by omega)⟩
        · rw [if_neg c4] at e1
          rw [if_neg c4, if_neg (show ¬ (1 : Int32) = 0 by decide)]
          cases e1
          exact ⟨_, _, rfl, rfl, e3.mono (by omega)⟩
    · have c2' : ¬ nI a ≤ 0 := fun q => c2 (by
        have hz : a = 0 := by
          have := (nI_leI (by omega) (by decide)).mp (show nI a ≤ nI 0 from q)
          omega
        rw [hz]
        rfl)
      rw [if_neg c2, if_neg c2, if_neg c2']
      unfold f_goesForward
      rw [hr1 182 (by decide)]
      by_cases c3 : S.1 182 (4 * i + c) = -1
      · rw [if_pos c3, if_pos ((nod_neg hn2).1.mpr c3)]
        simp only [Option.bind_some, if_true]
        exact QQ.mk1 (ex_mono (by omega) hT)
      · rw [if_neg c3, if_neg (fun z => c3 ((nod_neg hn2).1.mp z)), u4, ea]
        obtain ⟨m, hm⟩ : ∃ m, a = m + 1 := by
          refine ⟨a - 1, ?_⟩
          rcases Nat.eq_zero_or_pos a with z | z
          · exact absurd (by rw [z]; rfl) c2
          · omega
        subst hm
        rw [nI_pred]
        obtain ⟨S', V', e1, e2, e3⟩ := sim_on u1 hi hc hκ1 u2 u3 (to := S.1 182 (4 * i + c)) (di := nI m) ((nod_neg hn2).2 c3) ⟨m, by omega, rfl⟩
        rw [e1, e2]
        simp only [Option.bind_some]
        rw [if_neg (show ¬ (1 : Int32) = 0 by decide)]
        exact ⟨_, _, rfl, rfl, e3.mono (by omega)⟩
  · rw [if_neg c1, if_neg c1]
    by_cases c2 : S.2.1 κ 14 = S.1 182 (4 * i + c)
    · rw [if_pos c2, if_pos c2]
      simp only [Option.bind_some]
      obtain ⟨u1, u2, u3, u4⟩ := unwr h hi hc (k := 1) (by decide) hth hκ hB hb (16 * i + 4 * c + 1) rfl
      rw [h.1] at u1 u3
      have e18 : (w_wrap S κ (S.1 184 (16 * i + 4 * c + 1))).2.1 κ 18 = S.2.1 κ 18 := u4
      have ef : (vbs V (wrapB V.2.2.2 (S.1 184 (16 * i + 4 * c + 1)) 14)).2.1 165 27 = S.2.1 κ 18 := hfar
      have e82 : (vbs V (wrapB V.2.2.2 (S.1 184 (16 * i + 4 * c + 1)) 14)).1 = S.1 := h.1
      have e83 : (w_wrap S κ (S.1 184 (16 * i + 4 * c + 1))).1 = S.1 := rfl
      rw [e18, ef, e82, e83, ea, nI_1]
      obtain ⟨S', V', e1, e2, e3⟩ := sim_on (u1.mono (show D ≤ D + 1 by omega)) hi hc hκ u2 u3 (to := S.1 181 (4 * i + c)) (di := nI (a + 1)) hbef ⟨a + 1, by omega, rfl⟩
      rw [e1, e2]
      simp only [Option.bind_some]
      exact ⟨_, _, rfl, rfl, e3⟩
    · rw [if_neg c2, if_neg c2, ← h.1]
      exact QQ.str (h.mono (by omega))
