theorem ag0 (N : Nat → Nat → Int32) (h : Int32) : agN N h 188 0 = f_mix h 1 := by
  unfold agN
  rw [u2i (by decide), u2i (by decide), u2i (by decide), u2_same]
theorem ag1 (N : Nat → Nat → Int32) (h : Int32) : agN N h 188 1 = f_mix (f_mix h 1) 2 := by
  unfold agN
  rw [u2i (by decide), u2i (by decide), u2_same]
theorem ag2 (N : Nat → Nat → Int32) (h : Int32) : agN N h 188 2 = f_mix (f_mix (f_mix h 1) 2) 3 := by
  unfold agN
  rw [u2i (by decide), u2_same]
theorem ag3 (N : Nat → Nat → Int32) (h : Int32) : agN N h 188 3 = f_mix (f_mix (f_mix (f_mix h 1) 2) 3) 4 := by
  unfold agN
  rw [u2_same]
theorem ag28 (N : Nat → Nat → Int32) (h : Int32) : agN N h 165 28 = ushr h 16 := by
  unfold agN
  rw [u2r (by decide), u2r (by decide), u2r (by decide), u2r (by decide), u2_same]
theorem lt_nat {x : Int32} (h : bnd x 65536) (k : Nat) (hk : k < 65536) : (x < nI k ↔ x.toNatClampNeg < k) ∧ (nI k < x ↔ k < x.toNatClampNeg) ∧ (x = 0 ↔ x.toNatClampNeg = 0) := by
  have e := nI_bnd h (by omega)
  have l := bnd_lt h
  generalize x.toNatClampNeg = m at e l
  subst e
  refine ⟨nI_ltI (by omega) (by omega), nI_ltI (by omega) (by omega), ?_⟩
  rw [show (0 : Int32) = nI 0 from rfl, nI_eq (by omega) (by decide)]
/-- CREATE comes to a relay that hasn't the circuit -/
theorem sim_begun {D : Nat} {S : xSt} {V : xVt} (h : Rel D S V) {i c κ : Nat} (hi : i < 4) (hc : c < 4) (hD : D < 90000) (h0 : S.1 180 (4 * i + c) = 0) (hκ : κ = S.2.2 20) (hB : byt (S.2.1 κ)) (hb : ∀ k, k < 14 → V.2.2.2 k = S.2.1 κ k) (h14 : ∃ n : Nat, n ≤ 4 ∧ S.2.1 κ 14 = nI n) (h16 : S.2.1 κ 16 = nI c) : QQ (D + 1) (f_takesCreate S i κ c) ((g_begun V i (S.2.1 κ 14) c).bind fun r => some r) := by
  have hne := h.kne hκ
  obtain ⟨hp, hpb⟩ := pair_eq (k := 0) hb hB (by omega)
  have hm := h.mono (show D ≤ D + 1 by omega)
  have hdes : QQ (D + 1) ((f_add S (nI (i + 1)) (S.2.1 κ 14) (S.2.1 κ 16) 4).bind fun r2 => some (1, r2.2)) ((g_destroy V (nI (i + 1)) (S.2.1 κ 14) (nI c)).bind fun r => some r) := by
    obtain ⟨V', e1, e2, e3⟩ := hm.destroy (f := nI (i + 1)) (t := S.2.1 κ 14) (k := nI c) ⟨i + 1, by omega, rfl⟩ h14 ⟨c, hc, rfl⟩
    rw [add_eq h.SZ, e1, h16]
    exact ⟨_, _, rfl, rfl, e3⟩
  obtain ⟨P, hP⟩ := gen (f_pair S κ 0)
  rw [hP] at hp hpb
  have l1 := lt_nat hpb 1 (by omega)
  have l2 := lt_nat hpb 65520 (by omega)
  have l3 := lt_nat hpb 65521 (by omega)
  unfold f_takesCreate g_begun
  rw [h0, if_pos rfl, hp, hP]
  simp only [Option.bind_some]
  by_cases q0 : P = 0
  · have z := l1.2.2.mp q0
    have hin : g_in P 1 65520 = 0 := if_pos (l1.1.mpr (by omega))
    rw [if_pos q0, hin, if_pos rfl]
    obtain ⟨r, V', e1, e2, e3⟩ := hdes
    exact ⟨r, V', e1, by rw [e2]; rfl, e3⟩
  · rw [if_neg q0]
    have nz : ¬ P.toNatClampNeg = 0 := fun z => q0 (l1.2.2.mpr z)
    by_cases q1 : P < 65521
    · have z := l3.1.mp q1
      have hin : g_in P 1 65520 = 1 := by
        unfold g_in
        rw [if_neg (fun w => by have := l1.1.mp w; omega), if_neg (fun w => by have := l2.2.1.mp w; omega)]
      rw [if_pos q1, hin, if_neg (show ¬ (1 : Int32) = 0 by decide)]
      obtain ⟨b, a, r1, r2, r3, r4, r5⟩ := h.2.2.2.1 i hi
      have eP := nI_bnd hpb (by omega)
      have hfg : (g_forget V i c).1 = S.1 := forget_id h hi hc h0
      rw [hfg, r4, r1]
      have hyb : bnd ((1 : Int32) + rem (P * 31 + nI (977 * i + 977) + nI a) 65519) 65536 := by
        rw [eP]
        exact y_bnd (bnd_lt hpb) hi (by omega)
      obtain ⟨y, hy⟩ := gen ((1 : Int32) + rem (P * 31 + nI (977 * i + 977) + nI a) 65519)
      rw [hy] at hyb ⊢
      rw [rz_some (a := 17) (e := y) ⟨by decide, by decide⟩ hyb, rz_some hpb hyb, rz_some hpb (e := nI b) (bn r2 (by decide))]
      simp only [Option.bind_some]
      have hYb := rz_bnd (17 : Int32).toNatClampNeg y.toNatClampNeg
      obtain ⟨Y, hY⟩ := gen (nI ((17 : Int32).toNatClampNeg ^ y.toNatClampNeg % 65521))
      obtain ⟨s, hs⟩ := gen (nI (P.toNatClampNeg ^ y.toNatClampNeg % 65521))
      obtain ⟨t, ht⟩ := gen (nI (P.toNatClampNeg ^ (nI b).toNatClampNeg % 65521))
      rw [hY] at hYb ⊢
      rw [hs, ht, agree_eq]
      simp only [Option.bind_some]
      obtain ⟨H, hH⟩ := gen (f_shared s t P Y (nI (i + 1)))
      rw [hH]
      obtain ⟨S7, hS7⟩ := gen (f_start (sx S 179 (i + 1) (nI a + 1)) i c (S.2.1 κ 14) H)
      rw [hS7]
      have e72 : S7.2 = S.2 := by rw [← hS7]; rfl
      have eX : S7.1 = xi_u2 (xi_u2 (xi_u2 (xi_u2 (xi_u2 (xi_u2 (xi_u2 S.1 180 (4 * i + c) 1) 181 (4 * i + c) (S.2.1 κ 14)) 179 (i + 1) (nI a + 1)) 184 (16 * i + 4 * c) (f_mix H 1)) 184 (16 * i + 4 * c + 1) (f_mix (f_mix H 1) 2)) 184 (16 * i + 4 * c + 2) (f_mix (f_mix (f_mix H 1) 2) 3)) 184 (16 * i + 4 * c + 3) (f_mix (f_mix (f_mix (f_mix H 1) 2) 3) 4) := by
        rw [← hS7]
        unfold f_start f_fillKeysP
        simp only [sx1]
        rw [u2c (X := S.1) (r := 179) (r' := 180) (Or.inl (by decide)), u2c (r := 179) (r' := 181) (Or.inl (by decide))]
      obtain ⟨B, hBB⟩ : ∃ B, B = up (up (up (up zf 0 (ushr Y 8 &&& 255)) 1 (Y &&& 255)) 2 (ushr (ushr H 16) 8 &&& 255)) 3 (ushr H 16 &&& 255) := ⟨_, rfl⟩
      have hBt : byt B := by
        rw [hBB]
        exact (((byt_0.put 0 (by_and _)).put 1 (by_and _)).put 2 (by_and _)).put 3 (by_and _)
      have hmodel : ∃ W : xVt, W.1 = S7.1 ∧ W.2.2.1 = V.2.2.1 ∧ W.2.2.2 = B ∧ (∀ x, ¬ (12 * i + 3 * c ≤ x ∧ x < 12 * i + 3 * c + 3) → W.2.1 186 x = V.2.1 186 x) ∧ g_putPair (g_putPair (vbs (vx (vx (vx (vx ((vx (vx (vx (g_forget V i c) 180 (4 * i + c) 1) 181 (4 * i + c) (S.2.1 κ 14)) 179 (i + 1) (nI a + 1)).1, agN (vx (vx (vx (g_forget V i c) 180 (4 * i + c) 1) 181 (4 * i + c) (S.2.1 κ 14)) 179 (i + 1) (nI a + 1)).2.1 H, (vx (vx (vx (g_forget V i c) 180 (4 * i + c) 1) 181 (4 * i + c) (S.2.1 κ 14)) 179 (i + 1) (nI a + 1)).2.2) 184 (16 * i + 4 * c) (f_mix H 1)) 184 (16 * i + 4 * c + 1) (f_mix (f_mix H 1) 2)) 184 (16 * i + 4 * c + 2) (f_mix (f_mix (f_mix H 1) 2) 3)) 184 (16 * i + 4 * c + 3) (f_mix (f_mix (f_mix (f_mix H 1) 2) 3) 4)) zf) 0 Y) 2 (ushr H 16) = W := by
        refine ⟨_, ?_, ?_, ?_, ?_, rfl⟩
        · rw [mpp_eq, vbs1, mpp_eq, vbs1, vbs1, vx1, vx1, vx1, vx1]
          rw [vx1, vx1, vx1, hfg, eX]
        · rw [mpp_eq, mpp_eq]
          rfl
        · rw [mpp_eq, vbsb, mpp_eq, vbsb, vbsb, hBB, (pair_hi hYb).1, (pair_hi (tg_bnd H)).1]
        · intro x hx
          rw [mpp_eq, mpp_eq]
          show agN (g_forget V i c).2.1 H 186 x = _
          unfold agN
          rw [u2r (by decide), u2r (by decide), u2r (by decide), u2r (by decide), u2r (by decide)]
          have a0 : x ≠ 12 * i + 3 * c := by omega
          have a1 : x ≠ 12 * i + 3 * c + 1 := by omega
          have a2 : x ≠ 12 * i + 3 * c + 2 := by omega
          simp [g_forget, vn, vx, u2_at, a0, a1, a2]
      obtain ⟨W, w1, w2, w3, w4, w5⟩ := hmodel
      have hRel : Rel (D + 1) S7 W := by
        refine Rel.born h hi hc h0 (f := S.2.1 κ 14) (hh := H) h14 ?_ w1 w4 w2
        rw [← hS7, r4]
      obtain ⟨n, hn, e, -⟩ := hRel.2.2.2.2.2.1
      have hclass : ((f_add S7 (nI (i + 1)) (S7.2.1 κ 14) (S7.2.1 κ 16) 2).bind fun r8 => some ((1 : Int32), f_putPair (f_putPair r8.2 r8.1 0 Y) r8.1 2 (f_tag H))) = some (1, pS S7 (rw0 (nI (i + 1)) (S.2.1 κ 14) (nI c) 2 0 B)) := by
        rw [add_eq hRel.SZ, Option.bind_some, pp_pS, pp_pS, up_rw (by decide), up_rw (by decide), up_rw (by decide), up_rw (by decide), e72, h16, hBB]
        rfl
      refine ⟨_, pV W (rw0 (nI (i + 1)) (S.2.1 κ 14) (nI c) 2 0 B), hclass, ?_, ?_⟩
      · have hw : ∀ A : xVt, A = W → (((g_ship A (nI (i + 1)) (S.2.1 κ 14) (nI c) 2 0).bind fun r => some r).bind fun r => some r) = some (pV W (rw0 (nI (i + 1)) (S.2.1 κ 14) (nI c) 2 0 B)) := by
          intro A hA
          rw [hA, ship_eq hn (by rw [hRel.1, e]), w3]
          rfl
        refine hw _ ?_
        simp only [vx2, ag0, ag1, ag2, ag3]
        rw [← w5]
        refine congrArg (g_putPair _ 2) ?_
        exact ag28 (g_forget V i c).2.1 H
      · exact hRel.push (okc.mk' (fld.mk' ⟨i + 1, by omega, rfl⟩ h14 ⟨c, hc, rfl⟩ (by decide) ⟨0, by omega, rfl⟩) hBt)
    · have z : ¬ P.toNatClampNeg < 65521 := fun w => q1 (l3.1.mpr w)
      have hin : g_in P 1 65520 = 0 := by
        unfold g_in
        rw [if_neg (fun w => by have := l1.1.mp w; omega), if_pos (show (65520 : Int32) < P from l2.2.1.mpr (by omega))]
      rw [if_neg q1, hin, if_pos rfl]
      obtain ⟨r, V', e1, e2, e3⟩ := hdes
      exact ⟨r, V', e1, by rw [e2]; rfl, e3⟩
