theorem xi_S_app {base : Nat} {H0 H H1 : Heap} {locs : List Loc} {a sl : Nat} (h : va_S (fun q => base ≤ q) H0 H locs) (z : H1.size = H.size) (oq : ∀ q : Nat, q ≠ a → H1[q]? = H[q]?) (ha : base ≤ a) : va_S (fun q => base ≤ q) H0 H1 (locs ++ [⟨a, sl⟩]) := h.put z oq ha
theorem xi_base {base : Nat} {lay : Nat → Nat} (hl : xi_lay base lay) {i : Nat} (hi : i < 900000) : base ≤ lay i := by
  rw [hl i hi]
  omega
theorem xi_en_I {cy : Nat → ClassId} {lay : Nat → Nat} {h : xHp} {a k i : Nat} {v : Int32} (hi : i ≠ a) : xi_en cy lay (xi_setI h a k v) i = xi_en cy lay h i := xi_en_cg rfl (xi_u2_ne _ hi) rfl rfl
theorem xi_en_J {cy : Nat → ClassId} {lay : Nat → Nat} {h : xHp} {a k i : Nat} {v : Int64} (hi : i ≠ a) : xi_en cy lay (xi_setJ h a k v) i = xi_en cy lay h i := xi_en_cg rfl rfl (xi_u2_ne _ hi) rfl
theorem xi_en_R {cy : Nat → ClassId} {lay : Nat → Nat} {h : xHp} {a k i : Nat} {v : Option Nat} (hi : i ≠ a) : xi_en cy lay (xi_setR h a k v) i = xi_en cy lay h i := xi_en_cg rfl rfl rfl (xi_u2_ne _ hi)
theorem xi_vp {h : xHp} {a k : Nat} {i : Int32} (hi : xi_in h a k i = true) : vp_in i (hK h a).2 := fun q => by
  obtain ⟨h1, -, -, h4⟩ := xi_in_sp hi
  rcases q with q | q
  · exact h1 q
  · omega
theorem xi_tl_r (cy : Nat → ClassId) : ∀ k, 10 < k → k < 17 → ∃ ty, (xi_tl cy)[k - 8]? = some (cy (k - 8), ty) ∧ ty.isReference = true := by
  intro k h1 h2
  rcases (show k = 11 ∨ k = 12 ∨ k = 13 ∨ k = 14 ∨ k = 15 ∨ k = 16 by omega) with rfl | rfl | rfl | rfl | rfl | rfl <;> exact ⟨_, rfl, rfl⟩
theorem xi_tl_e (cy : Nat → ClassId) : ∀ k, 10 < k → k < 16 → (xi_tl cy)[k - 8]? = some (cy (k - 8), .object (xi_cls (xi_ec k))) ∧ xi_ec k < 8 := by
  intro k h1 h2
  rcases (show k = 11 ∨ k = 12 ∨ k = 13 ∨ k = 14 ∨ k = 15 by omega) with rfl | rfl | rfl | rfl | rfl <;> exact ⟨rfl, by decide⟩
section
variable {mi : xMi}
theorem xs_getfield {ix : Nat} : xi_Go mi (.getfield ix) := by
  intro len pc lv st h fr' h' hlen hs
  obtain rfl : len = 3 := by simpa [xi_le, xi_ln] using hlen
  simp only [xi_s1] at hs
  split at hs
  · next cn k po a r hv =>
    split at hs
    · next hk =>
      obtain ⟨ha, hka⟩ := hk
      cases hs
      have hw := xi_all_at ok_fl rfl hv
      rw [Bool.and_eq_true, Bool.and_eq_true] at hw
      obtain ⟨⟨hw1, hw2⟩, hw3⟩ := hw
      have hc8 := of_decide_eq_true hw2
      have hkn := of_decide_eq_true hw3
      refine ⟨xi_mo.rf _, fun p l e R s m args below meth c Q D cy base lay c0 w0 C hd _ _ _ _ kk H locs ls hP hZ hS hl => ?_⟩
      have hat := hP a ha
      rw [xi_en_o hka hc8] at hat
      have kk' := kk H locs ls hP hZ hS hl
      rw [show ((pc + 3, lv, xi_fv h a cn k :: r) : xFr).2.2.map (xi_tv lay) = xi_ev lay h a cn k :: r.map (xi_tv lay) from by rw [← xi_ev_tv]; rfl] at kk'
      exact va_get (D := D) (tys := xi_tl cy) C.1 C.2.1 C.2.2.2.2.1 (ok_ci cn hc8) C.2.2.2.1 C.2.2.2.2.2.2.2.2.2.2.1.1 (xi_one hat) 0 rfl (ok_cu cn hc8) k hkn (C.2.2.2.2.1 _ (xi_at_mem hw1)) (fun _ h9 => h9) (xi_map_get hkn) hd kk'
    · cases hs
  · cases hs
theorem xs_putfield {ix : Nat} : xi_Go mi (.putfield ix) := by
  intro len pc lv st h fr' h' hlen hs
  obtain rfl : len = 3 := by simpa [xi_le, xi_ln] using hlen
  simp only [xi_s1] at hs
  split at hs
  · next cn k po x a r hv =>
    split at hs
    · next hk =>
      obtain ⟨ha, hka, hrf, hbo, hfn⟩ := hk
      cases hs
      have hw := xi_all_at ok_fl rfl hv
      rw [Bool.and_eq_true, Bool.and_eq_true] at hw
      obtain ⟨⟨hw1, hw2⟩, hw3⟩ := hw
      have hc8 := of_decide_eq_true hw2
      have hkn : k < xi_nf cn := of_decide_eq_true hw3
      refine ⟨⟨Nat.le_refl _, Nat.le_refl _, rfl, rfl⟩, fun p l e R s m args below meth c Q D cy base lay c0 w0 C hd _ _ _ _ kk H locs ls hP hZ hS hl => ?_⟩
      have hat := hP a ha
      rw [xi_en_o hka hc8] at hat
      have hz := hZ.2.2
      refine xr_put (D := D) (tys := xi_tl cy) C.1 C.2.1 C.2.2.2.2.1 (ok_ci cn hc8) (xi_ty cn) (ok_ct cn hc8) (ok_cn cn hc8) C.2.2.2.1 C.2.2.2.2.2.2.2.2.2.2.1.1 hat (ok_cu cn hc8) k hkn (C.2.2.2.2.1 _ (xi_at_mem hw1)) ?_ (xi_ty_i hc8 hkn hrf hbo).1 (xi_ty_i hc8 hkn hrf hbo).2 (by simpa using hkn) hd (fun H1 sl hat1 z oq => ?_)
      · rcases hfn with h9 | ⟨h9, h10⟩
        · exact Or.inl h9
        · refine Or.inr ⟨?_, ?_⟩
          · rw [C.2.2.2.2.2.2.2.1]
            exact beq_iff_eq.mp h9
          · rw [h10]
            exact (ok_df cn hc8 k hkn).1
      · refine kk H1 _ ls (xi_P_set C.2.2.2.2.2.2.2.2.2.2.2 hZ hP ha rfl ?_ (fun i hi => xi_en_I hi) oq) (xi_Z_set hZ rfl z) (xi_S_app hS z oq (xi_base C.2.2.2.2.2.2.2.2.2.2.2 (Nat.lt_of_lt_of_le ha hZ.2.2))) hl
        rw [xi_en_o (h := xi_setI h a k x) hka hc8]
        rw [xi_map_set (g := xi_ev lay (xi_setI h a k x) a cn) ?_ ?_] at hat1
        · exact hat1
        · unfold xi_ev
          rw [if_neg (by rw [hrf]; decide)]
          show Value.int (xi_u2 (hI h) a k x a k) = _
          simp [xi_u2]
          rfl
        · intro j hj
          unfold xi_ev
          show (if xi_rf cn j = true then va_rf (Option.map lay (hR h a j)) else Value.int (xi_u2 (hI h) a k x a j)) = _
          simp [xi_u2, hj]
    · cases hs
  · next cn k po q a r hv =>
    split at hs
    · next hk =>
      obtain ⟨ha, hka, hrf, hfn⟩ := hk
      cases hs
      have hw := xi_all_at ok_fl rfl hv
      rw [Bool.and_eq_true, Bool.and_eq_true] at hw
      obtain ⟨⟨hw1, hw2⟩, hw3⟩ := hw
      have hc8 := of_decide_eq_true hw2
      have hkn : k < xi_nf cn := of_decide_eq_true hw3
      refine ⟨⟨Nat.le_refl _, Nat.le_refl _, rfl, rfl⟩, fun p l e R s m args below meth c Q D cy base lay c0 w0 C hd _ _ _ _ kk H locs ls hP hZ hS hl => ?_⟩
      have hat := hP a ha
      rw [xi_en_o hka hc8] at hat
      have hz := hZ.2.2
      refine xr_put (D := D) (tys := xi_tl cy) C.1 C.2.1 C.2.2.2.2.1 (ok_ci cn hc8) (xi_ty cn) (ok_ct cn hc8) (ok_cn cn hc8) C.2.2.2.1 C.2.2.2.2.2.2.2.2.2.2.1.1 hat (ok_cu cn hc8) k hkn (C.2.2.2.2.1 _ (xi_at_mem hw1)) ?_ (xi_ty_r hrf _).1 (xi_ty_r hrf _).2 (by simpa using hkn) hd (fun H1 sl hat1 z oq => ?_)
      · rcases hfn with h9 | ⟨h9, h10⟩
        · exact Or.inl h9
        · refine Or.inr ⟨?_, ?_⟩
          · rw [C.2.2.2.2.2.2.2.1]
            exact beq_iff_eq.mp h9
          · rw [h10]
            exact (ok_df cn hc8 k hkn).1
      · refine kk H1 _ ls (xi_P_set C.2.2.2.2.2.2.2.2.2.2.2 hZ hP ha rfl ?_ (fun i hi => xi_en_R hi) oq) (xi_Z_set hZ rfl z) (xi_S_app hS z oq (xi_base C.2.2.2.2.2.2.2.2.2.2.2 (Nat.lt_of_lt_of_le ha hZ.2.2))) hl
        rw [xi_en_o (h := xi_setR h a k (some q)) hka hc8]
        rw [xi_map_set (g := xi_ev lay (xi_setR h a k (some q)) a cn) ?_ ?_] at hat1
        · exact hat1
        · unfold xi_ev
          rw [if_pos hrf]
          show va_rf (Option.map lay (xi_u2 (hR h) a k (some q) a k)) = _
          simp [xi_u2, va_rf]
          rfl
        · intro j hj
          unfold xi_ev
          show (if xi_rf cn j = true then va_rf (Option.map lay (xi_u2 (hR h) a k (some q) a j)) else Value.int (hI h a j)) = _
          simp [xi_u2, hj]
    · cases hs
  · cases hs
theorem xs_iaload : xi_Go mi .iaload := by
  intro len pc lv st h fr' h' hlen hs
  obtain rfl : len = 1 := by simpa [xi_le, xi_ln] using hlen
  simp only [xi_s1] at hs
  split at hs
  · next i a r =>
    split at hs
    · next hsc =>
      subst hsc
      split at hs
      · next hk =>
        cases hs
        refine ⟨xi_mo.rf _, fun p l e R s m args below meth c Q D cy base lay c0 w0 C hd _ _ _ _ kk H locs ls hP hZ hS hl => ?_⟩
        obtain ⟨-, -, -, -, hX, hb1, hb2⟩ := C.2.2.2.2.2.2.2.2.2.2.1
        have hk2 := hk.2
        exact va_sld C.1 C.2.1 (hX (by omega)) (Nat.lt_of_lt_of_le hb1 hb2) (Nat.not_le.mpr hb1) hS (fun q => by rcases q with q | q; exact hk.1 q; omega) hd (kk H locs ls hP hZ hS hl)
      · cases hs
    · split at hs
      · next hk =>
        cases hs
        obtain ⟨-, ha, hka, -⟩ := xi_in_sp hk
        refine ⟨xi_mo.rf _, fun p l e R s m args below meth c Q D cy base lay c0 w0 C hd _ _ _ _ kk H locs ls hP hZ hS hl => ?_⟩
        have hat := hP a ha
        rw [xi_en_i hka (by omega) (by omega)] at hat
        exact va_iald (D := D) (tys := xi_tl cy) C.1 C.2.1 C.2.2.2.2.2.2.2.2.2.2.1.1 (xi_one hat) 0 0 rfl rfl (xi_vp hk) hd (kk H locs ls hP hZ hS hl)
      · cases hs
  · cases hs
theorem xs_baload : xi_Go mi .baload := by
  intro len pc lv st h fr' h' hlen hs
  obtain rfl : len = 1 := by simpa [xi_le, xi_ln] using hlen
  simp only [xi_s1] at hs
  split at hs
  · next i a r =>
    split at hs
    · next hk =>
      cases hs
      obtain ⟨-, ha, hka, -⟩ := xi_in_sp hk
      refine ⟨xi_mo.rf _, fun p l e R s m args below meth c Q D cy base lay c0 w0 C hd _ _ _ _ kk H locs ls hP hZ hS hl => ?_⟩
      have hat := hP a ha
      rw [xi_en_i hka (by omega) (by omega)] at hat
      exact va_zald (D := D) (tys := xi_tl cy) C.1 C.2.1 C.2.2.2.2.2.2.2.2.2.2.1.1 (xi_one hat) 0 1 rfl rfl (xi_vp hk) hd (kk H locs ls hP hZ hS hl)
    · cases hs
  · cases hs
theorem xs_laload : xi_Go mi .laload := by
  intro len pc lv st h fr' h' hlen hs
  obtain rfl : len = 1 := by simpa [xi_le, xi_ln] using hlen
  simp only [xi_s1] at hs
  split at hs
  · next i a r =>
    split at hs
    · next hk =>
      cases hs
      obtain ⟨-, ha, hka, -⟩ := xi_in_sp hk
      refine ⟨xi_mo.rf _, fun p l e R s m args below meth c Q D cy base lay c0 w0 C hd _ _ _ _ kk H locs ls hP hZ hS hl => ?_⟩
      have hat := hP a ha
      rw [xi_en_j hka] at hat
      exact va_lald (D := D) (tys := xi_tl cy) C.1 C.2.1 C.2.2.2.2.2.2.2.2.2.2.1.1 (xi_one hat) 0 2 rfl rfl (xi_vp hk) hd (kk H locs ls hP hZ hS hl)
    · cases hs
  · cases hs
theorem xs_aaload : xi_Go mi .aaload := by
  intro len pc lv st h fr' h' hlen hs
  obtain rfl : len = 1 := by simpa [xi_le, xi_ln] using hlen
  simp only [xi_s1] at hs
  split at hs
  · next i a r =>
    split at hs
    · next hk =>
      cases hs
      obtain ⟨h10, h17, hk⟩ := hk
      obtain ⟨-, ha, -, hlt⟩ := xi_in_sp hk
      refine ⟨xi_mo.rf _, fun p l e R s m args below meth c Q D cy base lay c0 w0 C hd _ _ _ _ kk H locs ls hP hZ hS hl => ?_⟩
      have hat := hP a ha
      rw [xi_en_r rfl h10] at hat
      obtain ⟨ty, ht, hr⟩ := xi_tl_r cy _ h10 h17
      have hKK := C.2.2.2.2.2.2.2.2.2.2.1.1
      have hin := xi_vp hk
      have kk' := kk H locs ls hP hZ hS hl
      rw [show ((pc + 1, lv, xi_rv (hR h a i.toNatClampNeg) :: r) : xFr).2.2.map (xi_tv lay) = va_rf ((hR h a i.toNatClampNeg).map lay) :: r.map (xi_tv lay) from by rw [← xi_rv_tv]; rfl] at kk'
      exact W.aald (v := va_rf ((hR h a i.toNatClampNeg).map lay)) (ty := ty) C.1 C.2.1 hat ((hKK.2 _ _ ht).1 (hK h a).2 (fun j => va_rf ((hR h a j).map lay))) hr (fun q => by cases q) (by show ¬ (i < 0 ∨ (arrV _ _ _).slots.size ≤ _); rw [arrV_size]; exact hin) (by show (arrV _ _ _).slots[_]? = _; rw [arrV_read _ _ hlt]) rfl rfl hd kk'
    · cases hs
  · cases hs
theorem xs_iastore : xi_Go mi .iastore := by
  intro len pc lv st h fr' h' hlen hs
  obtain rfl : len = 1 := by simpa [xi_le, xi_ln] using hlen
  simp only [xi_s1] at hs
  split at hs
  · next x i a r =>
    split at hs
    · next hk =>
      cases hs
      obtain ⟨-, ha, hka, -⟩ := xi_in_sp hk
      refine ⟨⟨Nat.le_refl _, Nat.le_refl _, rfl, rfl⟩, fun p l e R s m args below meth c Q D cy base lay c0 w0 C hd _ _ _ _ kk H locs ls hP hZ hS hl => ?_⟩
      have hat := hP a ha
      rw [xi_en_i hka (by omega) (by omega)] at hat
      have hz := hZ.2.2
      refine xr_iast (D := D) (tys := xi_tl cy) C.1 C.2.1 C.2.2.2.2.2.2.2.2.2.2.1.1 0 hat rfl (xi_vp hk) hd (fun H1 sl hat1 z oq => ?_)
      refine kk H1 _ ls (xi_P_set C.2.2.2.2.2.2.2.2.2.2.2 hZ hP ha rfl ?_ (fun j hj => xi_en_I hj) oq) (xi_Z_set hZ rfl z) (xi_S_app hS z oq (xi_base C.2.2.2.2.2.2.2.2.2.2.2 (Nat.lt_of_lt_of_le ha hZ.2.2))) hl
      rw [xi_en_i (h := xi_setI h a i.toNatClampNeg x) hka (by omega) (by omega)]
      rw [show upd (hI h a) i.toNatClampNeg x = hI (xi_setI h a i.toNatClampNeg x) a from by funext j; show _ = xi_u2 (hI h) a i.toNatClampNeg x a j; simp [upd, xi_u2]] at hat1
      exact hat1
    · cases hs
  · cases hs
theorem xs_bastore : xi_Go mi .bastore := by
  intro len pc lv st h fr' h' hlen hs
  obtain rfl : len = 1 := by simpa [xi_le, xi_ln] using hlen
  simp only [xi_s1] at hs
  split at hs
  · next x i a r =>
    split at hs
    · next hk =>
      cases hs
      obtain ⟨hk, hx01⟩ := hk
      obtain ⟨-, ha, hka, -⟩ := xi_in_sp hk
      refine ⟨⟨Nat.le_refl _, Nat.le_refl _, rfl, rfl⟩, fun p l e R s m args below meth c Q D cy base lay c0 w0 C hd _ _ _ _ kk H locs ls hP hZ hS hl => ?_⟩
      have hat := hP a ha
      rw [xi_en_i hka (by omega) (by omega)] at hat
      have hz := hZ.2.2
      refine xr_zast (D := D) (tys := xi_tl cy) C.1 C.2.1 C.2.2.2.2.2.2.2.2.2.2.1.1 1 hat rfl (xi_vp hk) hd (fun H1 sl hat1 z oq => ?_)
      refine kk H1 _ ls (xi_P_set C.2.2.2.2.2.2.2.2.2.2.2 hZ hP ha rfl ?_ (fun j hj => xi_en_I hj) oq) (xi_Z_set hZ rfl z) (xi_S_app hS z oq (xi_base C.2.2.2.2.2.2.2.2.2.2.2 (Nat.lt_of_lt_of_le ha hZ.2.2))) hl
      rw [xi_en_i (h := xi_setI h a i.toNatClampNeg x) hka (by omega) (by omega)]
      have hx2 : vp_nar .boolean x = x := by
        rcases hx01 with rfl | rfl
        · decide
        · decide
      rw [hx2, show upd (hI h a) i.toNatClampNeg x = hI (xi_setI h a i.toNatClampNeg x) a from by funext j; show _ = xi_u2 (hI h) a i.toNatClampNeg x a j; simp [upd, xi_u2]] at hat1
      exact hat1
    · cases hs
  · cases hs
theorem xs_lastore : xi_Go mi .lastore := by
  intro len pc lv st h fr' h' hlen hs
  obtain rfl : len = 1 := by simpa [xi_le, xi_ln] using hlen
  simp only [xi_s1] at hs
  split at hs
  · next x i a r =>
    split at hs
    · next hk =>
      cases hs
      obtain ⟨-, ha, hka, -⟩ := xi_in_sp hk
      refine ⟨⟨Nat.le_refl _, Nat.le_refl _, rfl, rfl⟩, fun p l e R s m args below meth c Q D cy base lay c0 w0 C hd _ _ _ _ kk H locs ls hP hZ hS hl => ?_⟩
      have hat := hP a ha
      rw [xi_en_j hka] at hat
      have hz := hZ.2.2
      refine xr_last (D := D) (tys := xi_tl cy) C.1 C.2.1 C.2.2.2.2.2.2.2.2.2.2.1.1 2 hat rfl (xi_vp hk) hd (fun H1 sl hat1 z oq => ?_)
      refine kk H1 _ ls (xi_P_set C.2.2.2.2.2.2.2.2.2.2.2 hZ hP ha rfl ?_ (fun j hj => xi_en_J hj) oq) (xi_Z_set hZ rfl z) (xi_S_app hS z oq (xi_base C.2.2.2.2.2.2.2.2.2.2.2 (Nat.lt_of_lt_of_le ha hZ.2.2))) hl
      rw [xi_en_j (h := xi_setJ h a i.toNatClampNeg x) hka]
      rw [show vp_updL (hJ h a) i.toNatClampNeg x = hJ (xi_setJ h a i.toNatClampNeg x) a from by funext j; show _ = xi_u2 (hJ h) a i.toNatClampNeg x a j; simp [vp_updL, xi_u2]] at hat1
      exact hat1
    · cases hs
  · cases hs
theorem xs_aastore : xi_Go mi .aastore := by
  intro len pc lv st h fr' h' hlen hs
  obtain rfl : len = 1 := by simpa [xi_le, xi_ln] using hlen
  simp only [xi_s1] at hs
  split at hs
  · next v i a r =>
    split at hs
    · next hk =>
      cases hs
      obtain ⟨h10, h16, hk, hv, hvk⟩ := hk
      obtain ⟨-, ha, -, -⟩ := xi_in_sp hk
      refine ⟨⟨Nat.le_refl _, Nat.le_refl _, rfl, rfl⟩, fun p l e R s m args below meth c Q D cy base lay c0 w0 C hd _ _ _ _ kk H locs ls hP hZ hS hl => ?_⟩
      have hat := hP a ha
      rw [xi_en_r rfl h10] at hat
      have hz := hZ.2.2
      obtain ⟨ht, hec⟩ := xi_tl_e cy _ h10 h16
      have hatv := hP v hv
      rw [xi_en_o hvk hec] at hatv
      refine xr_aast (D := D) (tys := xi_tl cy) C.1 C.2.1 C.2.2.2.2.2.2.2.2.2.2.1.1 _ _ hat ht hatv (ok_cu _ hec) (xi_vp hk) hd (fun H1 sl hat1 z oq => ?_)
      refine kk H1 _ ls (xi_P_set C.2.2.2.2.2.2.2.2.2.2.2 hZ hP ha rfl ?_ (fun j hj => xi_en_R hj) oq) (xi_Z_set hZ rfl z) (xi_S_app hS z oq (xi_base C.2.2.2.2.2.2.2.2.2.2.2 (Nat.lt_of_lt_of_le ha hZ.2.2))) hl
      rw [xi_en_r (h := xi_setR h a i.toNatClampNeg (some v)) rfl h10]
      rw [show va_up (fun j => (hR h a j).map lay) i.toNatClampNeg (some (lay v)) = (fun j => (hR (xi_setR h a i.toNatClampNeg (some v)) a j).map lay) from by funext j; show _ = (xi_u2 (hR h) a i.toNatClampNeg (some v) a j).map lay; by_cases hj : j = i.toNatClampNeg <;> simp [va_up, xi_u2, hj]] at hat1
      exact hat1
    · cases hs
  · cases hs
theorem xs_arraylength : xi_Go mi .arraylength := by
  intro len pc lv st h fr' h' hlen hs
  obtain rfl : len = 1 := by simpa [xi_le, xi_ln] using hlen
  simp only [xi_s1] at hs
  split at hs
  · split at hs
    · next hsc =>
      obtain ⟨hsc, hpo⟩ := hsc
      subst hsc
      cases hs
      refine ⟨xi_mo.rf _, fun p l e R s m args below meth c Q D cy base lay c0 w0 C hd _ _ _ _ kk H locs ls hP hZ hS hl => ?_⟩
      obtain ⟨-, -, -, -, hX, hb1, hb2⟩ := C.2.2.2.2.2.2.2.2.2.2.1
      exact va_slen C.1 C.2.1 (hX hpo) (Nat.lt_of_lt_of_le hb1 hb2) (Nat.not_le.mpr hb1) hS hd (kk H locs ls hP hZ hS hl)
    · cases hs
  · cases hs
end
