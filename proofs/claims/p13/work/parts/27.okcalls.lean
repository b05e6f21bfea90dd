theorem xi_s1_ok {mi : xMi} (i : Instr) (len pc : Nat) (lv : List (Nat × Value)) (st : List Value) (h : xHp) (fr' : xFr) (h' : xHp) (ho : xi_of i pc = true) (hlen : xi_le i len = true) (hs : xi_s1 (xi_own mi) (xi_mL mi) ((xi_y mi).name == "<init>") i pc lv st h = some (fr', h')) : xi_mo h h' ∧ xi_Sd mi i len (pc, lv, st) h fr' h' := by
  cases i
  case iconst => exact xs_iconst _ _ _ _ _ _ _ hlen hs
  case bipush => exact xs_bipush _ _ _ _ _ _ _ hlen hs
  case sipush => exact xs_sipush _ _ _ _ _ _ _ hlen hs
  case lconst => exact xs_lconst _ _ _ _ _ _ _ hlen hs
  case fconst => exact xs_fconst _ _ _ _ _ _ _ hlen hs
  case ldc => exact xs_ldc _ _ _ _ _ _ _ hlen hs
  case ldc2_w => exact xs_ldc2 _ _ _ _ _ _ _ hlen hs
  case iload_n => exact xs_iload_n _ _ _ _ _ _ _ hlen hs
  case iload => exact xs_iload _ _ _ _ _ _ _ hlen hs
  case lload_n => exact xs_lload_n _ _ _ _ _ _ _ hlen hs
  case lload => exact xs_lload _ _ _ _ _ _ _ hlen hs
  case fload_n => exact xs_fload_n _ _ _ _ _ _ _ hlen hs
  case dload => exact xs_dload _ _ _ _ _ _ _ hlen hs
  case aload_n => exact xs_aload_n _ _ _ _ _ _ _ hlen hs
  case aload => exact xs_aload _ _ _ _ _ _ _ hlen hs
  case istore_n => exact xs_istore_n _ _ _ _ _ _ _ hlen hs
  case istore => exact xs_istore _ _ _ _ _ _ _ hlen hs
  case fstore_n => exact xs_fstore_n _ _ _ _ _ _ _ hlen hs
  case astore_n => exact xs_astore_n _ _ _ _ _ _ _ hlen hs
  case astore => exact xs_astore _ _ _ _ _ _ _ hlen hs
  case lstore_n => exact xs_lstore_n _ _ _ _ _ _ _ hlen hs
  case lstore => exact xs_lstore _ _ _ _ _ _ _ hlen hs
  case dstore => exact xs_dstore _ _ _ _ _ _ _ hlen hs
  case iinc => exact xs_iinc _ _ _ _ _ _ _ hlen hs
  case iadd => exact xs_iadd _ _ _ _ _ _ _ hlen hs
  case isub => exact xs_isub _ _ _ _ _ _ _ hlen hs
  case imul => exact xs_imul _ _ _ _ _ _ _ hlen hs
  case iand => exact xs_iand _ _ _ _ _ _ _ hlen hs
  case ior => exact xs_ior _ _ _ _ _ _ _ hlen hs
  case ixor => exact xs_ixor _ _ _ _ _ _ _ hlen hs
  case ishl => exact xs_ishl _ _ _ _ _ _ _ hlen hs
  case ishr => exact xs_ishr _ _ _ _ _ _ _ hlen hs
  case iushr => exact xs_iushr _ _ _ _ _ _ _ hlen hs
  case idiv => exact xs_idiv _ _ _ _ _ _ _ hlen hs
  case irem => exact xs_irem _ _ _ _ _ _ _ hlen hs
  case lmul => exact xs_lmul _ _ _ _ _ _ _ hlen hs
  case lrem => exact xs_lrem _ _ _ _ _ _ _ hlen hs
  case lcmp => exact xs_lcmp _ _ _ _ _ _ _ hlen hs
  case i2l => exact xs_i2l _ _ _ _ _ _ _ hlen hs
  case l2i => exact xs_l2i _ _ _ _ _ _ _ hlen hs
  case i2f => exact xs_i2f _ _ _ _ _ _ _ hlen hs
  case fdiv => exact xs_fdiv _ _ _ _ _ _ _ hlen hs
  case f2d => exact xs_f2d _ _ _ _ _ _ _ hlen hs
  case dcmp => exact xs_dcmp _ _ _ _ _ _ _ hlen hs
  case dup => exact xs_dup _ _ _ _ _ _ _ hlen hs
  case pop => exact xs_pop _ _ _ _ _ _ _ hlen hs
  case dup2 => exact xs_dup2 _ _ _ _ _ _ _ hlen hs
  case goto => exact xs_goto _ _ _ _ _ _ _ hlen hs
  case tableswitch => exact xs_tableswitch _ _ _ _ _ _ _ hlen hs
  case lookupswitch => exact xs_lookupswitch _ _ _ _ _ _ _ hlen hs
  case getfield => exact xs_getfield _ _ _ _ _ _ _ hlen hs
  case putfield => exact xs_putfield _ _ _ _ _ _ _ hlen hs
  case iaload => exact xs_iaload _ _ _ _ _ _ _ hlen hs
  case baload => exact xs_baload _ _ _ _ _ _ _ hlen hs
  case laload => exact xs_laload _ _ _ _ _ _ _ hlen hs
  case aaload => exact xs_aaload _ _ _ _ _ _ _ hlen hs
  case iastore => exact xs_iastore _ _ _ _ _ _ _ hlen hs
  case bastore => exact xs_bastore _ _ _ _ _ _ _ hlen hs
  case lastore => exact xs_lastore _ _ _ _ _ _ _ hlen hs
  case aastore => exact xs_aastore _ _ _ _ _ _ _ hlen hs
  case arraylength => exact xs_arraylength _ _ _ _ _ _ _ hlen hs
  case new => exact xs_new _ _ _ _ _ _ _ hlen hs
  case newarray => exact xs_newarray _ _ _ _ _ _ _ hlen hs
  case anewarray => exact xs_anewarray _ _ _ _ _ _ _ hlen hs
  case multianewarray => exact xs_multianewarray _ _ _ _ _ _ _ hlen hs
  case ifCond c off =>
    cases c
    · exact xs_if_eq _ _ _ _ _ _ _ (of_decide_eq_true ho) hlen hs
    · exact xs_if_ne _ _ _ _ _ _ _ (of_decide_eq_true ho) hlen hs
    · exact xs_if_lt _ _ _ _ _ _ _ (of_decide_eq_true ho) hlen hs
    · exact xs_if_ge _ _ _ _ _ _ _ (of_decide_eq_true ho) hlen hs
    · exact xs_if_gt _ _ _ _ _ _ _ (of_decide_eq_true ho) hlen hs
    · exact xs_if_le _ _ _ _ _ _ _ (of_decide_eq_true ho) hlen hs
  case if_icmp c off =>
    cases c
    · exact xs_icmp_eq _ _ _ _ _ _ _ (of_decide_eq_true ho) hlen hs
    · exact xs_icmp_ne _ _ _ _ _ _ _ (of_decide_eq_true ho) hlen hs
    · exact xs_icmp_lt _ _ _ _ _ _ _ (of_decide_eq_true ho) hlen hs
    · exact xs_icmp_ge _ _ _ _ _ _ _ (of_decide_eq_true ho) hlen hs
    · exact xs_icmp_gt _ _ _ _ _ _ _ (of_decide_eq_true ho) hlen hs
    · exact xs_icmp_le _ _ _ _ _ _ _ (of_decide_eq_true ho) hlen hs
  all_goals (simp only [xi_s1] at hs; cases hs)
/-! the program's words -/
/-- what is asked of a method that is called -/
def xi_mk (m : Nat) (mi : xMi) : Bool := plainName (xi_y mi).cls && decide ((xi_y mi).cls = xi_rO (xi_own mi)) && decide ((xi_y mi).cls ≠ "java/lang/invoke/MethodHandle") && decide ((xi_y mi).cls ≠ "java/lang/invoke/VarHandle") && decide ((xi_y mi).name ≠ "law") && xi_at (xmw.getD m (0, 0, 0)).2.2 (.initialized (xi_y mi).cls) && decide (xi_mL mi ≤ 17)
theorem ok_mk : ((List.range 177).all fun m => match xpg[m]? with | none => false | some mi => xi_mk m mi) = true := by decide +kernel
def xi_np (mi : xMi) : Option Nat := (parseMethodDescriptor (xi_y mi).desc).map (fun d => d.parameters.length)
/-- what is asked of a call -/
def xi_lk (o ix kd m' po : Nat) : Bool := match xpg[m']? with
  | none => false
  | some mi' => decide (m' < 177) &&
    (if kd = 0 then xi_at po (.methodLink (xi_rO o) ix (xi_y mi')) && xi_at (xmw.getD m' (0, 0, 0)).1 (.instanceMethod (xi_y mi')) && xi_at (xmw.getD m' (0, 0, 0)).2.1 (.selects (xi_y mi').cls (xi_y mi') (xi_y mi')) && decide (xi_hh mi' = []) && decide (xi_np mi' = some (xi_na mi' - 1)) && decide (0 < xi_na mi')
    else if kd = 1 then xi_at po (.methodLink (xi_rO o) ix (xi_y mi')) && xi_at (xmw.getD m' (0, 0, 0)).1 (.static (xi_y mi')) && decide (xi_hh mi' = []) && decide (xi_np mi' = some (xi_na mi'))
    else if kd = 2 then xi_at po (.methodLinkNest (xi_rO o) ix (xi_y mi') RX7) && xi_at (xmw.getD m' (0, 0, 0)).1 (.static (xi_y mi')) && decide (xi_hh mi' = []) && decide (xi_np mi' = some (xi_na mi'))
    else if kd = 3 then xi_at po (.methodLink (xi_rO o) ix (xi_y mi')) && xi_at (xmw.getD m' (0, 0, 0)).1 (.instanceMethod (xi_y mi')) && decide ((xi_y mi').name = "<init>") && decide (xi_rt mi' = none) && decide (xi_hh mi' = []) && decide (xi_np mi' = some (xi_na mi' - 1)) && decide (0 < xi_na mi')
    else if kd = 4 then xi_at po (.methodLinkNest (xi_rO o) ix (xi_y mi') RX7) && xi_at (xmw.getD m' (0, 0, 0)).1 (.instanceMethod (xi_y mi')) && decide ((xi_y mi').name = "<init>") && decide (xi_rt mi' = none) && decide (xi_hh mi' = []) && decide (xi_np mi' = some (xi_na mi' - 1)) && decide (0 < xi_na mi')
    else if kd = 5 then xi_at po (.methodLink (xi_rO o) ix (xi_y mi')) && xi_at (xmw.getD m' (0, 0, 0)).1 (.static (xi_y mi')) && decide (xi_hh mi' ≠ []) && decide (xi_np mi' = some (xi_na mi'))
    else false)
theorem ok_ml : xi_all xml (fun o e => xi_lk o e.1 e.2.1 e.2.2.1 e.2.2.2) = true := by decide +kernel
theorem ok_ex : xel_7.all (fun e => (vx_at0 RX7 e.2.1 (xi_E e.2.2.1) xi_names).all (fun w => decide (w ∈ lw_tbl) && xi_ok w && vx_ot w) && vx_ot (.classLink RX7 e.1 (xi_E e.2.2.1)) && vx_ot (.initialized (xi_E e.2.2.1)) && decide (Cond.initialized (xi_E e.2.2.1) ∈ lw_tbl) && xi_ok (.initialized (xi_E e.2.2.1)) && Bundle.fit (xi_E e.2.2.1)) = true := by decide +kernel
theorem ok_en : ∀ n ∈ xi_names, Bundle.fit n = true := by decide +kernel
theorem ok_ca : ∀ e, e < 3 → Cond.castable (xi_E e) (xi_E e) ∈ xT := by
  intro e he
  rcases (show e = 0 ∨ e = 1 ∨ e = 2 by omega) with rfl | rfl | rfl <;> exact List.mem_filter.mpr ⟨by decide +kernel, rfl⟩
theorem ok_oj : Cond.instanceMethod objectInit ∈ xT ∧ Cond.code objectInit ⟨#[0xb1]⟩ 1 none ∈ xT := ⟨List.mem_filter.mpr ⟨by decide +kernel, rfl⟩, List.mem_filter.mpr ⟨by decide +kernel, rfl⟩⟩
