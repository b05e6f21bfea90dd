/-! a start whose script is this one: the witness's own start, with another script in its row -/
def rf_scr : Array Value := ⟨rf_l.map Value.int⟩
def rf_st : State := start1.aboutOf rf_scr
theorem rf_vm : rf_st.vm = start1.about.vm := rfl
theorem rf_isCode {c : Jvm.Cond} (hc : su_isCode c = true) {a : Array Value} {s t : State} (h : t.vm = s.vm) (hb : c.before a s = true) : c.before a t = true := by
  cases c
  case code y bytes mx ret =>
    simp only [Cond.before, Cond.holds, Cond.value, State.methodNamed?, h] at hb ⊢
    exact hb
  all_goals exact absurd hc Bool.false_ne_true
theorem rf_split {α : Type} (p : α → Bool) (k : Nat) {l : List α} (h1 : (l.take k).all p = true) (h2 : (l.drop k).all p = true) : l.all p = true := by
  have h : (l.take k ++ l.drop k).all p = true := by rw [List.all_append, h1, h2]; rfl
  rwa [List.take_append_drop] at h
def rf_ok : Jvm.Cond → Bool := fun c => su_isCode c || c.before start1.args0 rf_st
set_option maxRecDepth 16384 in
theorem rf_o1_0 : (tables_1_1.take 40).all rf_ok = true := by decide +kernel
set_option maxRecDepth 16384 in
theorem rf_o1_1 : ((tables_1_1.drop 40).take 40).all rf_ok = true := by decide +kernel
set_option maxRecDepth 16384 in
theorem rf_o1_2 : (((tables_1_1.drop 40).drop 40).take 40).all rf_ok = true := by decide +kernel
set_option maxRecDepth 16384 in
theorem rf_o1_3 : ((((tables_1_1.drop 40).drop 40).drop 40).take 40).all rf_ok = true := by decide +kernel
set_option maxRecDepth 16384 in
theorem rf_o1_4 : (((((tables_1_1.drop 40).drop 40).drop 40).drop 40).take 40).all rf_ok = true := by decide +kernel
set_option maxRecDepth 16384 in
theorem rf_o1_5 : ((((((tables_1_1.drop 40).drop 40).drop 40).drop 40).drop 40).take 40).all rf_ok = true := by decide +kernel
set_option maxRecDepth 16384 in
theorem rf_o1_6 : ((((((tables_1_1.drop 40).drop 40).drop 40).drop 40).drop 40).drop 40).all rf_ok = true := by decide +kernel
theorem rf_w1 : ∀ c ∈ tables_1_1, c.before start1.args0 rf_st = true := fun c h => su_words (f := fun c => c.before start1.args0 rf_st) (rf_split rf_ok 40 rf_o1_0 (rf_split rf_ok 40 rf_o1_1 (rf_split rf_ok 40 rf_o1_2 (rf_split rf_ok 40 rf_o1_3 (rf_split rf_ok 40 rf_o1_4 (rf_split rf_ok 40 rf_o1_5 rf_o1_6)))))) (fun c hc => rf_isCode (List.mem_filter.mp hc).2 rf_vm (start1.words_1 c (List.mem_filter.mp hc).1)) c h
set_option maxRecDepth 16384 in
theorem rf_o2_0 : (tables_1_2.take 40).all rf_ok = true := by decide +kernel
set_option maxRecDepth 16384 in
theorem rf_o2_1 : ((tables_1_2.drop 40).take 40).all rf_ok = true := by decide +kernel
set_option maxRecDepth 16384 in
theorem rf_o2_2 : (((tables_1_2.drop 40).drop 40).take 40).all rf_ok = true := by decide +kernel
set_option maxRecDepth 16384 in
theorem rf_o2_3 : ((((tables_1_2.drop 40).drop 40).drop 40).take 40).all rf_ok = true := by decide +kernel
set_option maxRecDepth 16384 in
theorem rf_o2_4 : (((((tables_1_2.drop 40).drop 40).drop 40).drop 40).take 40).all rf_ok = true := by decide +kernel
set_option maxRecDepth 16384 in
theorem rf_o2_5 : ((((((tables_1_2.drop 40).drop 40).drop 40).drop 40).drop 40).take 40).all rf_ok = true := by decide +kernel
set_option maxRecDepth 16384 in
theorem rf_o2_6 : ((((((tables_1_2.drop 40).drop 40).drop 40).drop 40).drop 40).drop 40).all rf_ok = true := by decide +kernel
theorem rf_w2 : ∀ c ∈ tables_1_2, c.before start1.args0 rf_st = true := fun c h => su_words (f := fun c => c.before start1.args0 rf_st) (rf_split rf_ok 40 rf_o2_0 (rf_split rf_ok 40 rf_o2_1 (rf_split rf_ok 40 rf_o2_2 (rf_split rf_ok 40 rf_o2_3 (rf_split rf_ok 40 rf_o2_4 (rf_split rf_ok 40 rf_o2_5 rf_o2_6)))))) (fun c hc => rf_isCode (List.mem_filter.mp hc).2 rf_vm (start1.words_2 c (List.mem_filter.mp hc).1)) c h
set_option maxRecDepth 16384 in
theorem rf_o3_0 : (tables_1_3.take 40).all rf_ok = true := by decide +kernel
set_option maxRecDepth 16384 in
theorem rf_o3_1 : ((tables_1_3.drop 40).take 40).all rf_ok = true := by decide +kernel
set_option maxRecDepth 16384 in
theorem rf_o3_2 : (((tables_1_3.drop 40).drop 40).take 40).all rf_ok = true := by decide +kernel
set_option maxRecDepth 16384 in
theorem rf_o3_3 : ((((tables_1_3.drop 40).drop 40).drop 40).take 40).all rf_ok = true := by decide +kernel
set_option maxRecDepth 16384 in
theorem rf_o3_4 : (((((tables_1_3.drop 40).drop 40).drop 40).drop 40).take 40).all rf_ok = true := by decide +kernel
set_option maxRecDepth 16384 in
theorem rf_o3_5 : ((((((tables_1_3.drop 40).drop 40).drop 40).drop 40).drop 40).take 40).all rf_ok = true := by decide +kernel
set_option maxRecDepth 16384 in
theorem rf_o3_6 : ((((((tables_1_3.drop 40).drop 40).drop 40).drop 40).drop 40).drop 40).all rf_ok = true := by decide +kernel
theorem rf_w3 : ∀ c ∈ tables_1_3, c.before start1.args0 rf_st = true := fun c h => su_words (f := fun c => c.before start1.args0 rf_st) (rf_split rf_ok 40 rf_o3_0 (rf_split rf_ok 40 rf_o3_1 (rf_split rf_ok 40 rf_o3_2 (rf_split rf_ok 40 rf_o3_3 (rf_split rf_ok 40 rf_o3_4 (rf_split rf_ok 40 rf_o3_5 rf_o3_6)))))) (fun c hc => rf_isCode (List.mem_filter.mp hc).2 rf_vm (start1.words_3 c (List.mem_filter.mp hc).1)) c h
set_option maxRecDepth 16384 in
theorem rf_o4_0 : (tables_1_4.take 40).all rf_ok = true := by decide +kernel
set_option maxRecDepth 16384 in
theorem rf_o4_1 : ((tables_1_4.drop 40).take 40).all rf_ok = true := by decide +kernel
set_option maxRecDepth 16384 in
theorem rf_o4_2 : (((tables_1_4.drop 40).drop 40).take 40).all rf_ok = true := by decide +kernel
set_option maxRecDepth 16384 in
theorem rf_o4_3 : ((((tables_1_4.drop 40).drop 40).drop 40).take 40).all rf_ok = true := by decide +kernel
set_option maxRecDepth 16384 in
theorem rf_o4_4 : (((((tables_1_4.drop 40).drop 40).drop 40).drop 40).take 40).all rf_ok = true := by decide +kernel
set_option maxRecDepth 16384 in
theorem rf_o4_5 : ((((((tables_1_4.drop 40).drop 40).drop 40).drop 40).drop 40).take 40).all rf_ok = true := by decide +kernel
set_option maxRecDepth 16384 in
theorem rf_o4_6 : ((((((tables_1_4.drop 40).drop 40).drop 40).drop 40).drop 40).drop 40).all rf_ok = true := by decide +kernel
theorem rf_w4 : ∀ c ∈ tables_1_4, c.before start1.args0 rf_st = true := fun c h => su_words (f := fun c => c.before start1.args0 rf_st) (rf_split rf_ok 40 rf_o4_0 (rf_split rf_ok 40 rf_o4_1 (rf_split rf_ok 40 rf_o4_2 (rf_split rf_ok 40 rf_o4_3 (rf_split rf_ok 40 rf_o4_4 (rf_split rf_ok 40 rf_o4_5 rf_o4_6)))))) (fun c hc => rf_isCode (List.mem_filter.mp hc).2 rf_vm (start1.words_4 c (List.mem_filter.mp hc).1)) c h
set_option maxRecDepth 16384 in
theorem rf_o5_0 : (tables_1_5.take 40).all rf_ok = true := by decide +kernel
set_option maxRecDepth 16384 in
theorem rf_o5_1 : ((tables_1_5.drop 40).take 40).all rf_ok = true := by decide +kernel
set_option maxRecDepth 16384 in
theorem rf_o5_2 : (((tables_1_5.drop 40).drop 40).take 40).all rf_ok = true := by decide +kernel
set_option maxRecDepth 16384 in
theorem rf_o5_3 : ((((tables_1_5.drop 40).drop 40).drop 40).take 40).all rf_ok = true := by decide +kernel
set_option maxRecDepth 16384 in
theorem rf_o5_4 : (((((tables_1_5.drop 40).drop 40).drop 40).drop 40).take 40).all rf_ok = true := by decide +kernel
set_option maxRecDepth 16384 in
theorem rf_o5_5 : ((((((tables_1_5.drop 40).drop 40).drop 40).drop 40).drop 40).take 40).all rf_ok = true := by decide +kernel
set_option maxRecDepth 16384 in
theorem rf_o5_6 : ((((((tables_1_5.drop 40).drop 40).drop 40).drop 40).drop 40).drop 40).all rf_ok = true := by decide +kernel
theorem rf_w5 : ∀ c ∈ tables_1_5, c.before start1.args0 rf_st = true := fun c h => su_words (f := fun c => c.before start1.args0 rf_st) (rf_split rf_ok 40 rf_o5_0 (rf_split rf_ok 40 rf_o5_1 (rf_split rf_ok 40 rf_o5_2 (rf_split rf_ok 40 rf_o5_3 (rf_split rf_ok 40 rf_o5_4 (rf_split rf_ok 40 rf_o5_5 rf_o5_6)))))) (fun c hc => rf_isCode (List.mem_filter.mp hc).2 rf_vm (start1.words_5 c (List.mem_filter.mp hc).1)) c h
theorem rf_words : ∀ c ∈ (Jvm.Cond.code x code maxLocals ret :: tables_1), c.before start1.args0 rf_st = true := by
  intro c hc
  rcases List.mem_cons.mp hc with h | h
  · subst h; exact rf_isCode rfl rf_vm start1.word_code
  · have h0 : c ∈ tables_1_1 ++ (tables_1_2 ++ (tables_1_3 ++ (tables_1_4 ++ tables_1_5))) := h
    rcases List.mem_append.mp h0 with h1 | h0
    · exact rf_w1 c h1
    rcases List.mem_append.mp h0 with h1 | h0
    · exact rf_w2 c h1
    rcases List.mem_append.mp h0 with h1 | h0
    · exact rf_w3 c h1
    rcases List.mem_append.mp h0 with h1 | h0
    · exact rf_w4 c h1
    exact rf_w5 c h0
