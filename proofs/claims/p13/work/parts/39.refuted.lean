/-! the script stands in that start; the claim is refuted, and the owed statement is false -/
theorem rf_ints : rf_st.IntsAt 0 rf_l := ⟨_, rfl, rfl, ⟨fun k hk => (by cases hk), _, rfl, _, rfl⟩, by decide⟩
set_option maxRecDepth 16384 in
theorem rf_at : AtStart classFile x code maxLocals ret World_1 tables_1 room_1 Calls_1 rest_1 rf_Pre launch0 start1.p0 start1.e0 rf_st ⟨0, 0⟩ start1.args0 Lib.HandBits.below0 := by
  obtain ⟨a1, a2, a3, a4, a5, a6, -⟩ := start1.atStart
  have hroom : rf_st.hasRoom start1.e0.platform room_1 = true := launch0.hasRoom_least _ room_1 (by decide +kernel) (by decide +kernel) (by decide +kernel) (by decide +kernel) (by decide +kernel) (by decide +kernel)
  have happ : (headSpec (Jvm.Cond.code x code maxLocals ret :: tables_1) room_1).applies x start1.e0.platform rf_st = true := (Spec.applies_iff (m := ⟨0, 0⟩) (args := start1.args0) (below := Lib.HandBits.below0) rfl).mpr ⟨rfl, rfl, rfl, by decide +kernel, by decide +kernel, by decide +kernel, hroom, atoms_intro rf_words⟩
  have hpre : (Jvm.Cond.and given_1 narrow_1).before start1.args0 rf_st = true := by decide +kernel
  have hrest : rest_1_c.before start1.args0 rf_st = true := by decide +kernel
  exact ⟨a1, a2, a3, a4, a5, a6, rfl, by decide +kernel, by decide +kernel, happ, trivial, hrest, hpre, 0, rfl, rf_ints⟩
theorem rf_meet : MeetableFor flags0 classFile x code maxLocals ret World_1 tables_1 room_1 Calls_1 rest_1 rf_Pre := ⟨launch0, _, _, _, _, _, _, rfl, rf_at⟩
/-- THE CLAIM IS REFUTED, in its own word for that -/
theorem rf_is_refuted : RefutedClaimed_1_2 := rf_refuted rf_meet
/-- so what is owed is false -/
theorem rf_owed_is_false : ¬ (Claimed_1_1 ∧ Claimed_1_2) := by
  rintro ⟨-, hc⟩
  obtain ⟨l, p, e, s, m, args, below, hfl, ⟨b1, b2, b3, -, b5, b6, b7, b8, b9, b10, b11, b12, b13⟩, n, o, h1, h2, h3, h4⟩ := rf_is_refuted
  obtain ⟨n2, o2, g1, g2, g3, g4⟩ := hc l hfl b1 b2 p e b3 b5 b6 s m args below b7 b8 b9 b10 ⟨b11, b12, b13⟩
  obtain ⟨rfl, rfl⟩ := the_end_unique (f := fun k => stepsAlone p.tables e k s) h1 h3 g1 g3
  exact h4 g4
