theorem ok_tb_L_law : xi_tbk mi_L_law = true := by
  show tb_L_law.all (xi_tbc cL_law) = true
  unfold tb_L_law
  simp only [List.all_append, ok_tbl_0, ok_tbl_1, ok_tbl_2, ok_tbl_3, ok_tbl_4, ok_tbl_5, ok_tbl_6, ok_tbl_7, ok_tbl_8, ok_tbl_9, ok_tbl_10, ok_tbl_11, ok_tbl_12, ok_tbl_13, Bool.and_true]
theorem ok_pg_0 : ∀ mi ∈ xpg_0, xi_tbk mi = true := by
  intro mi h
  simp only [xpg_0, List.mem_cons, List.not_mem_nil, or_false] at h
  rcases h with rfl | rfl | rfl | rfl | rfl | rfl | rfl | rfl | rfl | rfl | rfl | rfl | rfl | rfl | rfl | rfl | rfl | rfl | rfl | rfl
  · exact ok_tb_X0_raise
  · exact ok_tb_X0_mix
  · exact ok_tb_X0_shared
  · exact ok_tb_X0_tag
  · exact ok_tb_X0_fillKeys
  · exact ok_tb_X1_init
  · exact ok_tb_X1_address
  · exact ok_tb_X1_writeOrder
  · exact ok_tb_X1_copyBytes
  · exact ok_tb_X1_pair
  · exact ok_tb_X1_putPair
  · exact ok_tb_X1_dataLength
  · exact ok_tb_X1_wrap
  · exact ok_tb_X1_fed
  · exact ok_tb_X1_isKnownBy
  · exact ok_tb_X2_init
  · exact ok_tb_X2_isLive
  · exact ok_tb_X2_hasHop
  · exact ok_tb_X2_goesThrough
  · exact ok_tb_X2_startAnew
theorem ok_pg_1 : ∀ mi ∈ xpg_1, xi_tbk mi = true := by
  intro mi h
  simp only [xpg_1, List.mem_cons, List.not_mem_nil, or_false] at h
  rcases h with rfl | rfl | rfl | rfl | rfl | rfl | rfl | rfl | rfl | rfl | rfl | rfl | rfl | rfl | rfl | rfl | rfl | rfl | rfl | rfl
  · exact ok_tb_X2_askForHop
  · exact ok_tb_X2_waitFor
  · exact ok_tb_X2_askForStream
  · exact ok_tb_X2_sendData
  · exact ok_tb_X2_endStream
  · exact ok_tb_X2_askToTruncate
  · exact ok_tb_X2_order
  · exact ok_tb_X2_sealTo
  · exact ok_tb_X2_firstRelay
  · exact ok_tb_X2_shut
  · exact ok_tb_X2_becomeClosed
  · exact ok_tb_X2_dropStreamsFrom
  · exact ok_tb_X2_takes
  · exact ok_tb_X2_takesCreated
  · exact ok_tb_X2_takesRelay
  · exact ok_tb_X2_addsHop
  · exact ok_tb_X2_becomeReady
  · exact ok_tb_X2_isKnown
  · exact ok_tb_X2_follows
  · exact ok_tb_X2_followOfStream
theorem ok_pg_2 : ∀ mi ∈ xpg_2, xi_tbk mi = true := by
  intro mi h
  simp only [xpg_2, List.mem_cons, List.not_mem_nil, or_false] at h
  rcases h with rfl | rfl | rfl | rfl | rfl | rfl | rfl | rfl | rfl | rfl | rfl | rfl | rfl | rfl | rfl | rfl | rfl | rfl | rfl | rfl
  · exact ok_tb_X2_keepLatest
  · exact ok_tb_X3_init
  · exact ok_tb_X3_start
  · exact ok_tb_X3_vanish
  · exact ok_tb_X3_next
  · exact ok_tb_X3_destroyNext
  · exact ok_tb_X3_tearDown
  · exact ok_tb_X3_takesCreated
  · exact ok_tb_X3_takesDestroy
  · exact ok_tb_X3_passOn
  · exact ok_tb_X3_takesRelay
  · exact ok_tb_X3_goesForward
  · exact ok_tb_X3_isKnown
  · exact ok_tb_X3_relayOn
  · exact ok_tb_X3_follows
  · exact ok_tb_X3_followsExtend
  · exact ok_tb_X3_followBegin
  · exact ok_tb_X3_followData
  · exact ok_tb_X3_followTruncate
  · exact ok_tb_X3_isOpen
theorem ok_pg_3 : ∀ mi ∈ xpg_3, xi_tbk mi = true := by
  intro mi h
  simp only [xpg_3, List.mem_cons, List.not_mem_nil, or_false] at h
  rcases h with rfl | rfl | rfl | rfl | rfl | rfl | rfl | rfl | rfl | rfl | rfl | rfl | rfl | rfl | rfl | rfl | rfl | rfl | rfl | rfl
  · exact ok_tb_X3_orderBack
  · exact ok_tb_X3_sealBack
  · exact ok_tb_X4_init
  · exact ok_tb_X4_takeSecret
  · exact ok_tb_X4_hasPassage
  · exact ok_tb_X4_takes
  · exact ok_tb_X4_takesCreate
  · exact ok_tb_X5_init
  · exact ok_tb_X5_add
  · exact ok_tb_X5_takeOut
  · exact ok_tb_X6_init
  · exact ok_tb_X6_become
  · exact ok_tb_X7_init
  · exact ok_tb_X7_secret
  · exact ok_tb_X7_create
  · exact ok_tb_X7_extend
  · exact ok_tb_X7_begin
  · exact ok_tb_X7_send
  · exact ok_tb_X7_end
  · exact ok_tb_X7_truncate
theorem ok_pg_4 : ∀ mi ∈ xpg_4, xi_tbk mi = true := by
  intro mi h
  simp only [xpg_4, List.mem_cons, List.not_mem_nil, or_false] at h
  rcases h with rfl | rfl | rfl | rfl | rfl | rfl | rfl | rfl | rfl | rfl | rfl | rfl | rfl | rfl | rfl | rfl | rfl | rfl | rfl | rfl
  · exact ok_tb_X7_close
  · exact ok_tb_X7_deliver
  · exact ok_tb_X7_damage
  · exact ok_tb_X7_lose
  · exact ok_tb_X7_cell
  · exact ok_tb_X7_circuit
  · exact ok_tb_X7_key
  · exact ok_tb_X7_relay
  · exact ok_tb_X7_data
  · exact ok_tb_X7_count
  · exact ok_tb_X7_loss
  · exact ok_tb_X7_readyCircuits
  · exact ok_tb_X7_checkCircuit
  · exact ok_tb_X7_checkRelay
  · exact ok_tb_X7_checkStream
  · exact ok_tb_X7_checkIndex
  · exact ok_tb_X7_checkExponent
  · exact ok_tb_X7_checkArgument
  · exact ok_tb_X7_checkState
  · exact ok_tb_X7_isByte
theorem ok_pg_5 : ∀ mi ∈ xpg_5, xi_tbk mi = true := by
  intro mi h
  simp only [xpg_5, List.mem_cons, List.not_mem_nil, or_false] at h
  rcases h with rfl | rfl | rfl | rfl | rfl | rfl | rfl | rfl | rfl | rfl | rfl | rfl | rfl | rfl | rfl | rfl | rfl | rfl | rfl | rfl
  · exact ok_tb_X7_isStream
  · exact ok_tb_X8_init
  · exact ok_tb_X8_thrown
  · exact ok_tb_X8_in
  · exact ok_tb_X8_isCircuit
  · exact ok_tb_X8_isRelay
  · exact ok_tb_X8_raise
  · exact ok_tb_X8_mix
  · exact ok_tb_X8_agree
  · exact ok_tb_X8_wrap
  · exact ok_tb_X8_fed
  · exact ok_tb_X8_pair
  · exact ok_tb_X8_putPair
  · exact ok_tb_X8_clearBytes
  · exact ok_tb_X8_order
  · exact ok_tb_X8_seal
  · exact ok_tb_X8_isKnown
  · exact ok_tb_X8_ship
  · exact ok_tb_X8_destroy
  · exact ok_tb_X8_remove
theorem ok_pg_6 : ∀ mi ∈ xpg_6, xi_tbk mi = true := by
  intro mi h
  simp only [xpg_6, List.mem_cons, List.not_mem_nil, or_false] at h
  rcases h with rfl | rfl | rfl | rfl | rfl | rfl | rfl | rfl | rfl | rfl | rfl | rfl | rfl | rfl | rfl | rfl | rfl | rfl | rfl | rfl
  · exact ok_tb_X8_dropStreams
  · exact ok_tb_X8_ended
  · exact ok_tb_X8_closeNow
  · exact ok_tb_X8_clientSends
  · exact ok_tb_X8_meet
  · exact ok_tb_X8_ofStream
  · exact ok_tb_X8_clientFollows
  · exact ok_tb_X8_toClient
  · exact ok_tb_X8_place
  · exact ok_tb_X8_forget
  · exact ok_tb_X8_destroyOn
  · exact ok_tb_X8_tear
  · exact ok_tb_X8_relaySends
  · exact ok_tb_X8_begun
  · exact ok_tb_X8_extendAt
  · exact ok_tb_X8_dataAt
  · exact ok_tb_X8_relayFollows
  · exact ok_tb_X8_relayed
  · exact ok_tb_X8_toRelay
  · exact ok_tb_X8_secret
theorem ok_pg_7 : ∀ mi ∈ xpg_7, xi_tbk mi = true := by
  intro mi h
  simp only [xpg_7, List.mem_cons, List.not_mem_nil, or_false] at h
  rcases h with rfl | rfl | rfl | rfl | rfl | rfl | rfl | rfl | rfl | rfl | rfl | rfl | rfl | rfl | rfl | rfl | rfl | rfl | rfl | rfl
  · exact ok_tb_X8_create
  · exact ok_tb_X8_extend
  · exact ok_tb_X8_begin
  · exact ok_tb_X8_send
  · exact ok_tb_X8_end
  · exact ok_tb_X8_isOn
  · exact ok_tb_X8_truncate
  · exact ok_tb_X8_close
  · exact ok_tb_X8_deliver
  · exact ok_tb_X8_damage
  · exact ok_tb_X8_lose
  · exact ok_tb_X8_out
  · exact ok_tb_X8_cell
  · exact ok_tb_X8_circuit
  · exact ok_tb_X8_key
  · exact ok_tb_X8_relay
  · exact ok_tb_X8_data
  · exact ok_tb_X8_readies
  · exact ok_tb_X8_count
  · exact ok_tb_X8_loss
theorem ok_pg_8 : ∀ mi ∈ xpg_8, xi_tbk mi = true := by
  intro mi h
  simp only [xpg_8, List.mem_cons, List.not_mem_nil, or_false] at h
  rcases h with rfl | rfl | rfl | rfl | rfl | rfl | rfl | rfl | rfl | rfl | rfl | rfl | rfl | rfl | rfl | rfl | rfl | rfl
  · exact ok_tb_L_secret
  · exact ok_tb_L_create
  · exact ok_tb_L_extend
  · exact ok_tb_L_begin
  · exact ok_tb_L_send
  · exact ok_tb_L_end
  · exact ok_tb_L_truncate
  · exact ok_tb_L_close
  · exact ok_tb_L_deliver
  · exact ok_tb_L_damage
  · exact ok_tb_L_lose
  · exact ok_tb_L_cell
  · exact ok_tb_L_circuit
  · exact ok_tb_L_key
  · exact ok_tb_L_relay
  · exact ok_tb_L_data
  · exact ok_tb_L_count
  · exact ok_tb_L_law
theorem ok_pg : ∀ mi ∈ xpg, xi_tbk mi = true := by
  intro mi h
  simp only [xpg, List.mem_append] at h
  rcases h with h | h | h | h | h | h | h | h | h
  · exact ok_pg_0 mi h
  · exact ok_pg_1 mi h
  · exact ok_pg_2 mi h
  · exact ok_pg_3 mi h
  · exact ok_pg_4 mi h
  · exact ok_pg_5 mi h
  · exact ok_pg_6 mi h
  · exact ok_pg_7 mi h
  · exact ok_pg_8 mi h
