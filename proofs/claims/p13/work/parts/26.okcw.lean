def xi_cw (mi : xMi) : Cond := if xi_hh mi = [] then .code (xi_y mi) (xi_cc mi) (xi_mL mi) (xi_rt mi) else .codeWith (xi_y mi) (xi_cc mi) (xi_mL mi) (xi_rt mi) (xi_hh mi)
set_option maxRecDepth 100000 in
theorem ok_cw_X0_raise : xi_cw mi_X0_raise ∈ xT := xi_mem (i := 171) (w := Cond.code yX0_raise cX0_raise 5 (some (FieldType.int))) (by rfl) rfl
set_option maxRecDepth 100000 in
theorem ok_cw_X0_mix : xi_cw mi_X0_mix ∈ xT := xi_mem (i := 537) (w := Cond.code yX0_mix cX0_mix 3 (some (FieldType.int))) (by rfl) rfl
set_option maxRecDepth 100000 in
theorem ok_cw_X0_shared : xi_cw mi_X0_shared ∈ xT := xi_mem (i := 651) (w := Cond.code yX0_shared cX0_shared 6 (some (FieldType.int))) (by rfl) rfl
set_option maxRecDepth 100000 in
theorem ok_cw_X0_tag : xi_cw mi_X0_tag ∈ xT := xi_mem (i := 656) (w := Cond.code yX0_tag cX0_tag 1 (some (FieldType.int))) (by rfl) rfl
set_option maxRecDepth 100000 in
theorem ok_cw_X0_fillKeys : xi_cw mi_X0_fillKeys ∈ xT := xi_mem (i := 659) (w := Cond.code yX0_fillKeys cX0_fillKeys 4 none) (by rfl) rfl
set_option maxRecDepth 100000 in
theorem ok_cw_X1_init : xi_cw mi_X1_init ∈ xT := xi_mem (i := 102) (w := Cond.code yX1_init cX1_init 1 none) (by rfl) rfl
set_option maxRecDepth 100000 in
theorem ok_cw_X1_address : xi_cw mi_X1_address ∈ xT := xi_mem (i := 498) (w := Cond.code yX1_address cX1_address 6 none) (by rfl) rfl
set_option maxRecDepth 100000 in
theorem ok_cw_X1_writeOrder : xi_cw mi_X1_writeOrder ∈ xT := xi_mem (i := 526) (w := Cond.code yX1_writeOrder cX1_writeOrder 4 none) (by rfl) rfl
set_option maxRecDepth 100000 in
theorem ok_cw_X1_copyBytes : xi_cw mi_X1_copyBytes ∈ xT := xi_mem (i := 788) (w := Cond.code yX1_copyBytes cX1_copyBytes 3 none) (by rfl) rfl
set_option maxRecDepth 100000 in
theorem ok_cw_X1_pair : xi_cw mi_X1_pair ∈ xT := xi_mem (i := 644) (w := Cond.code yX1_pair cX1_pair 2 (some (FieldType.int))) (by rfl) rfl
set_option maxRecDepth 100000 in
theorem ok_cw_X1_putPair : xi_cw mi_X1_putPair ∈ xT := xi_mem (i := 503) (w := Cond.code yX1_putPair cX1_putPair 3 none) (by rfl) rfl
set_option maxRecDepth 100000 in
theorem ok_cw_X1_dataLength : xi_cw mi_X1_dataLength ∈ xT := xi_mem (i := 695) (w := Cond.code yX1_dataLength cX1_dataLength 1 (some (FieldType.int))) (by rfl) rfl
set_option maxRecDepth 100000 in
theorem ok_cw_X1_wrap : xi_cw mi_X1_wrap ∈ xT := xi_mem (i := 542) (w := Cond.code yX1_wrap cX1_wrap 4 (some (FieldType.int))) (by rfl) rfl
set_option maxRecDepth 100000 in
theorem ok_cw_X1_fed : xi_cw mi_X1_fed ∈ xT := xi_mem (i := 534) (w := Cond.code yX1_fed cX1_fed 5 (some (FieldType.int))) (by rfl) rfl
set_option maxRecDepth 100000 in
theorem ok_cw_X1_isKnownBy : xi_cw mi_X1_isKnownBy ∈ xT := xi_mem (i := 677) (w := Cond.code yX1_isKnownBy cX1_isKnownBy 2 (some (FieldType.boolean))) (by rfl) rfl
set_option maxRecDepth 100000 in
theorem ok_cw_X2_init : xi_cw mi_X2_init ∈ xT := xi_mem (i := 244) (w := Cond.code yX2_init cX2_init 5 none) (by rfl) rfl
set_option maxRecDepth 100000 in
theorem ok_cw_X2_isLive : xi_cw mi_X2_isLive ∈ xT := xi_mem (i := 474) (w := Cond.code yX2_isLive cX2_isLive 1 (some (FieldType.boolean))) (by rfl) rfl
set_option maxRecDepth 100000 in
theorem ok_cw_X2_hasHop : xi_cw mi_X2_hasHop ∈ xT := xi_mem (i := 561) (w := Cond.code yX2_hasHop cX2_hasHop 2 (some (FieldType.boolean))) (by rfl) rfl
set_option maxRecDepth 100000 in
theorem ok_cw_X2_goesThrough : xi_cw mi_X2_goesThrough ∈ xT := xi_mem (i := 514) (w := Cond.code yX2_goesThrough cX2_goesThrough 3 (some (FieldType.boolean))) (by rfl) rfl
set_option maxRecDepth 100000 in
theorem ok_cw_X2_startAnew : xi_cw mi_X2_startAnew ∈ xT := xi_mem (i := 478) (w := Cond.code yX2_startAnew cX2_startAnew 3 none) (by rfl) rfl
set_option maxRecDepth 100000 in
theorem ok_cw_X2_askForHop : xi_cw mi_X2_askForHop ∈ xT := xi_mem (i := 518) (w := Cond.code yX2_askForHop cX2_askForHop 4 none) (by rfl) rfl
set_option maxRecDepth 100000 in
theorem ok_cw_X2_waitFor : xi_cw mi_X2_waitFor ∈ xT := xi_mem (i := 490) (w := Cond.code yX2_waitFor cX2_waitFor 3 none) (by rfl) rfl
set_option maxRecDepth 100000 in
theorem ok_cw_X2_askForStream : xi_cw mi_X2_askForStream ∈ xT := xi_mem (i := 565) (w := Cond.code yX2_askForStream cX2_askForStream 3 none) (by rfl) rfl
set_option maxRecDepth 100000 in
theorem ok_cw_X2_sendData : xi_cw mi_X2_sendData ∈ xT := xi_mem (i := 579) (w := Cond.code yX2_sendData cX2_sendData 6 none) (by rfl) rfl
set_option maxRecDepth 100000 in
theorem ok_cw_X2_endStream : xi_cw mi_X2_endStream ∈ xT := xi_mem (i := 590) (w := Cond.code yX2_endStream cX2_endStream 2 none) (by rfl) rfl
set_option maxRecDepth 100000 in
theorem ok_cw_X2_askToTruncate : xi_cw mi_X2_askToTruncate ∈ xT := xi_mem (i := 601) (w := Cond.code yX2_askToTruncate cX2_askToTruncate 2 none) (by rfl) rfl
set_option maxRecDepth 100000 in
theorem ok_cw_X2_order : xi_cw mi_X2_order ∈ xT := xi_mem (i := 522) (w := Cond.code yX2_order cX2_order 5 (some (FieldType.object "OnionCells$Cell"))) (by rfl) rfl
set_option maxRecDepth 100000 in
theorem ok_cw_X2_sealTo : xi_cw mi_X2_sealTo ∈ xT := xi_mem (i := 530) (w := Cond.code yX2_sealTo cX2_sealTo 5 none) (by rfl) rfl
set_option maxRecDepth 100000 in
theorem ok_cw_X2_firstRelay : xi_cw mi_X2_firstRelay ∈ xT := xi_mem (i := 616) (w := Cond.code yX2_firstRelay cX2_firstRelay 1 (some (FieldType.int))) (by rfl) rfl
set_option maxRecDepth 100000 in
theorem ok_cw_X2_shut : xi_cw mi_X2_shut ∈ xT := xi_mem (i := 612) (w := Cond.code yX2_shut cX2_shut 1 none) (by rfl) rfl
set_option maxRecDepth 100000 in
theorem ok_cw_X2_becomeClosed : xi_cw mi_X2_becomeClosed ∈ xT := xi_mem (i := 620) (w := Cond.code yX2_becomeClosed cX2_becomeClosed 1 none) (by rfl) rfl
set_option maxRecDepth 100000 in
theorem ok_cw_X2_dropStreamsFrom : xi_cw mi_X2_dropStreamsFrom ∈ xT := xi_mem (i := 482) (w := Cond.code yX2_dropStreamsFrom cX2_dropStreamsFrom 3 none) (by rfl) rfl
set_option maxRecDepth 100000 in
theorem ok_cw_X2_takes : xi_cw mi_X2_takes ∈ xT := xi_mem (i := 635) (w := Cond.code yX2_takes cX2_takes 2 (some (FieldType.boolean))) (by rfl) rfl
set_option maxRecDepth 100000 in
theorem ok_cw_X2_takesCreated : xi_cw mi_X2_takesCreated ∈ xT := xi_mem (i := 640) (w := Cond.code yX2_takesCreated cX2_takesCreated 2 (some (FieldType.boolean))) (by rfl) rfl
set_option maxRecDepth 100000 in
theorem ok_cw_X2_takesRelay : xi_cw mi_X2_takesRelay ∈ xT := xi_mem (i := 668) (w := Cond.code yX2_takesRelay cX2_takesRelay 2 (some (FieldType.boolean))) (by rfl) rfl
set_option maxRecDepth 100000 in
theorem ok_cw_X2_addsHop : xi_cw mi_X2_addsHop ∈ xT := xi_mem (i := 648) (w := Cond.code yX2_addsHop cX2_addsHop 6 (some (FieldType.boolean))) (by rfl) rfl
set_option maxRecDepth 100000 in
theorem ok_cw_X2_becomeReady : xi_cw mi_X2_becomeReady ∈ xT := xi_mem (i := 663) (w := Cond.code yX2_becomeReady cX2_becomeReady 1 none) (by rfl) rfl
set_option maxRecDepth 100000 in
theorem ok_cw_X2_isKnown : xi_cw mi_X2_isKnown ∈ xT := xi_mem (i := 672) (w := Cond.code yX2_isKnown cX2_isKnown 5 (some (FieldType.boolean))) (by rfl) rfl
set_option maxRecDepth 100000 in
theorem ok_cw_X2_follows : xi_cw mi_X2_follows ∈ xT := xi_mem (i := 682) (w := Cond.code yX2_follows cX2_follows 3 (some (FieldType.boolean))) (by rfl) rfl
set_option maxRecDepth 100000 in
theorem ok_cw_X2_followOfStream : xi_cw mi_X2_followOfStream ∈ xT := xi_mem (i := 686) (w := Cond.code yX2_followOfStream cX2_followOfStream 6 none) (by rfl) rfl
set_option maxRecDepth 100000 in
theorem ok_cw_X2_keepLatest : xi_cw mi_X2_keepLatest ∈ xT := xi_mem (i := 691) (w := Cond.code yX2_keepLatest cX2_keepLatest 3 none) (by rfl) rfl
set_option maxRecDepth 100000 in
theorem ok_cw_X3_init : xi_cw mi_X3_init ∈ xT := xi_mem (i := 176) (w := Cond.code yX3_init cX3_init 4 none) (by rfl) rfl
set_option maxRecDepth 100000 in
theorem ok_cw_X3_start : xi_cw mi_X3_start ∈ xT := xi_mem (i := 712) (w := Cond.code yX3_start cX3_start 3 none) (by rfl) rfl
set_option maxRecDepth 100000 in
theorem ok_cw_X3_vanish : xi_cw mi_X3_vanish ∈ xT := xi_mem (i := 796) (w := Cond.code yX3_vanish cX3_vanish 2 none) (by rfl) rfl
set_option maxRecDepth 100000 in
theorem ok_cw_X3_next : xi_cw mi_X3_next ∈ xT := xi_mem (i := 754) (w := Cond.code yX3_next cX3_next 1 (some (FieldType.int))) (by rfl) rfl
set_option maxRecDepth 100000 in
theorem ok_cw_X3_destroyNext : xi_cw mi_X3_destroyNext ∈ xT := xi_mem (i := 776) (w := Cond.code yX3_destroyNext cX3_destroyNext 1 none) (by rfl) rfl
set_option maxRecDepth 100000 in
theorem ok_cw_X3_tearDown : xi_cw mi_X3_tearDown ∈ xT := xi_mem (i := 792) (w := Cond.code yX3_tearDown cX3_tearDown 1 none) (by rfl) rfl
set_option maxRecDepth 100000 in
theorem ok_cw_X3_takesCreated : xi_cw mi_X3_takesCreated ∈ xT := xi_mem (i := 719) (w := Cond.code yX3_takesCreated cX3_takesCreated 3 (some (FieldType.boolean))) (by rfl) rfl
set_option maxRecDepth 100000 in
theorem ok_cw_X3_takesDestroy : xi_cw mi_X3_takesDestroy ∈ xT := xi_mem (i := 800) (w := Cond.code yX3_takesDestroy cX3_takesDestroy 2 (some (FieldType.boolean))) (by rfl) rfl
set_option maxRecDepth 100000 in
theorem ok_cw_X3_passOn : xi_cw mi_X3_passOn ∈ xT := xi_mem (i := 804) (w := Cond.code yX3_passOn cX3_passOn 3 none) (by rfl) rfl
set_option maxRecDepth 100000 in
theorem ok_cw_X3_takesRelay : xi_cw mi_X3_takesRelay ∈ xT := xi_mem (i := 737) (w := Cond.code yX3_takesRelay cX3_takesRelay 3 (some (FieldType.boolean))) (by rfl) rfl
set_option maxRecDepth 100000 in
theorem ok_cw_X3_goesForward : xi_cw mi_X3_goesForward ∈ xT := xi_mem (i := 780) (w := Cond.code yX3_goesForward cX3_goesForward 2 (some (FieldType.boolean))) (by rfl) rfl
set_option maxRecDepth 100000 in
theorem ok_cw_X3_isKnown : xi_cw mi_X3_isKnown ∈ xT := xi_mem (i := 741) (w := Cond.code yX3_isKnown cX3_isKnown 4 (some (FieldType.boolean))) (by rfl) rfl
set_option maxRecDepth 100000 in
theorem ok_cw_X3_relayOn : xi_cw mi_X3_relayOn ∈ xT := xi_mem (i := 784) (w := Cond.code yX3_relayOn cX3_relayOn 5 none) (by rfl) rfl
set_option maxRecDepth 100000 in
theorem ok_cw_X3_follows : xi_cw mi_X3_follows ∈ xT := xi_mem (i := 746) (w := Cond.code yX3_follows cX3_follows 3 (some (FieldType.boolean))) (by rfl) rfl
set_option maxRecDepth 100000 in
theorem ok_cw_X3_followsExtend : xi_cw mi_X3_followsExtend ∈ xT := xi_mem (i := 750) (w := Cond.code yX3_followsExtend cX3_followsExtend 4 (some (FieldType.boolean))) (by rfl) rfl
set_option maxRecDepth 100000 in
theorem ok_cw_X3_followBegin : xi_cw mi_X3_followBegin ∈ xT := xi_mem (i := 758) (w := Cond.code yX3_followBegin cX3_followBegin 2 none) (by rfl) rfl
set_option maxRecDepth 100000 in
theorem ok_cw_X3_followData : xi_cw mi_X3_followData ∈ xT := xi_mem (i := 763) (w := Cond.code yX3_followData cX3_followData 5 none) (by rfl) rfl
set_option maxRecDepth 100000 in
theorem ok_cw_X3_followTruncate : xi_cw mi_X3_followTruncate ∈ xT := xi_mem (i := 772) (w := Cond.code yX3_followTruncate cX3_followTruncate 1 none) (by rfl) rfl
set_option maxRecDepth 100000 in
theorem ok_cw_X3_isOpen : xi_cw mi_X3_isOpen ∈ xT := xi_mem (i := 767) (w := Cond.code yX3_isOpen cX3_isOpen 2 (some (FieldType.boolean))) (by rfl) rfl
set_option maxRecDepth 100000 in
theorem ok_cw_X3_orderBack : xi_cw mi_X3_orderBack ∈ xT := xi_mem (i := 723) (w := Cond.code yX3_orderBack cX3_orderBack 5 (some (FieldType.object "OnionCells$Cell"))) (by rfl) rfl
set_option maxRecDepth 100000 in
theorem ok_cw_X3_sealBack : xi_cw mi_X3_sealBack ∈ xT := xi_mem (i := 731) (w := Cond.code yX3_sealBack cX3_sealBack 2 none) (by rfl) rfl
set_option maxRecDepth 100000 in
theorem ok_cw_X4_init : xi_cw mi_X4_init ∈ xT := xi_mem (i := 165) (w := Cond.code yX4_init cX4_init 4 none) (by rfl) rfl
set_option maxRecDepth 100000 in
theorem ok_cw_X4_takeSecret : xi_cw mi_X4_takeSecret ∈ xT := xi_mem (i := 457) (w := Cond.code yX4_takeSecret cX4_takeSecret 2 none) (by rfl) rfl
set_option maxRecDepth 100000 in
theorem ok_cw_X4_hasPassage : xi_cw mi_X4_hasPassage ∈ xT := xi_mem (i := 435) (w := Cond.code yX4_hasPassage cX4_hasPassage 2 (some (FieldType.boolean))) (by rfl) rfl
set_option maxRecDepth 100000 in
theorem ok_cw_X4_takes : xi_cw mi_X4_takes ∈ xT := xi_mem (i := 699) (w := Cond.code yX4_takes cX4_takes 3 (some (FieldType.boolean))) (by rfl) rfl
set_option maxRecDepth 100000 in
theorem ok_cw_X4_takesCreate : xi_cw mi_X4_takesCreate ∈ xT := xi_mem (i := 703) (w := Cond.code yX4_takesCreate cX4_takesCreate 8 (some (FieldType.boolean))) (by rfl) rfl
set_option maxRecDepth 100000 in
theorem ok_cw_X5_init : xi_cw mi_X5_init ∈ xT := xi_mem (i := 95) (w := Cond.code yX5_init cX5_init 2 none) (by rfl) rfl
set_option maxRecDepth 100000 in
theorem ok_cw_X5_add : xi_cw mi_X5_add ∈ xT := xi_mem (i := 494) (w := Cond.code yX5_add cX5_add 6 (some (FieldType.object "OnionCells$Cell"))) (by rfl) rfl
set_option maxRecDepth 100000 in
theorem ok_cw_X5_takeOut : xi_cw mi_X5_takeOut ∈ xT := xi_mem (i := 631) (w := Cond.code yX5_takeOut cX5_takeOut 4 (some (FieldType.object "OnionCells$Cell"))) (by rfl) rfl
set_option maxRecDepth 100000 in
theorem ok_cw_X6_init : xi_cw mi_X6_init ∈ xT := xi_mem (i := 253) (w := Cond.code yX6_init cX6_init 1 none) (by rfl) rfl
set_option maxRecDepth 100000 in
theorem ok_cw_X6_become : xi_cw mi_X6_become ∈ xT := xi_mem (i := 486) (w := Cond.code yX6_become cX6_become 3 none) (by rfl) rfl
set_option maxRecDepth 100000 in
theorem ok_cw_X7_init : xi_cw mi_X7_init ∈ xT := xi_mem (i := 87) (w := Cond.code yX7_init cX7_init 2 none) (by rfl) rfl
set_option maxRecDepth 100000 in
theorem ok_cw_X7_secret : xi_cw mi_X7_secret ∈ xT := xi_mem (i := 343) (w := Cond.code yX7_secret cX7_secret 4 (some (FieldType.int))) (by rfl) rfl
set_option maxRecDepth 100000 in
theorem ok_cw_X7_create : xi_cw mi_X7_create ∈ xT := xi_mem (i := 464) (w := Cond.code yX7_create cX7_create 5 (some (FieldType.int))) (by rfl) rfl
set_option maxRecDepth 100000 in
theorem ok_cw_X7_extend : xi_cw mi_X7_extend ∈ xT := xi_mem (i := 510) (w := Cond.code yX7_extend cX7_extend 5 (some (FieldType.int))) (by rfl) rfl
set_option maxRecDepth 100000 in
theorem ok_cw_X7_begin : xi_cw mi_X7_begin ∈ xT := xi_mem (i := 551) (w := Cond.code yX7_begin cX7_begin 5 none) (by rfl) rfl
set_option maxRecDepth 100000 in
theorem ok_cw_X7_send : xi_cw mi_X7_send ∈ xT := xi_mem (i := 572) (w := Cond.code yX7_send cX7_send 6 (some (FieldType.int))) (by rfl) rfl
set_option maxRecDepth 100000 in
theorem ok_cw_X7_end : xi_cw mi_X7_end ∈ xT := xi_mem (i := 586) (w := Cond.code yX7_end cX7_end 4 (some (FieldType.int))) (by rfl) rfl
set_option maxRecDepth 100000 in
theorem ok_cw_X7_truncate : xi_cw mi_X7_truncate ∈ xT := xi_mem (i := 597) (w := Cond.code yX7_truncate cX7_truncate 4 (some (FieldType.int))) (by rfl) rfl
set_option maxRecDepth 100000 in
theorem ok_cw_X7_close : xi_cw mi_X7_close ∈ xT := xi_mem (i := 608) (w := Cond.code yX7_close cX7_close 2 none) (by rfl) rfl
set_option maxRecDepth 100000 in
theorem ok_cw_X7_deliver : xi_cw mi_X7_deliver ∈ xT := xi_mem (i := 627) (w := Cond.code yX7_deliver cX7_deliver 5 (some (FieldType.int))) (by rfl) rfl
set_option maxRecDepth 100000 in
theorem ok_cw_X7_damage : xi_cw mi_X7_damage ∈ xT := xi_mem (i := 811) (w := Cond.code yX7_damage cX7_damage 6 (some (FieldType.int))) (by rfl) rfl
set_option maxRecDepth 100000 in
theorem ok_cw_X7_lose : xi_cw mi_X7_lose ∈ xT := xi_mem (i := 818) (w := Cond.code yX7_lose cX7_lose 2 (some (FieldType.int))) (by rfl) rfl
set_option maxRecDepth 100000 in
theorem ok_cw_X7_cell : xi_cw mi_X7_cell ∈ xT := xi_mem (i := 825) (w := Cond.code yX7_cell cX7_cell 4 (some (FieldType.int))) (by rfl) rfl
set_option maxRecDepth 100000 in
theorem ok_cw_X7_circuit : xi_cw mi_X7_circuit ∈ xT := xi_mem (i := 832) (w := Cond.code yX7_circuit cX7_circuit 4 (some (FieldType.int))) (by rfl) rfl
set_option maxRecDepth 100000 in
theorem ok_cw_X7_key : xi_cw mi_X7_key ∈ xT := xi_mem (i := 839) (w := Cond.code yX7_key cX7_key 4 (some (FieldType.int))) (by rfl) rfl
set_option maxRecDepth 100000 in
theorem ok_cw_X7_relay : xi_cw mi_X7_relay ∈ xT := xi_mem (i := 846) (w := Cond.code yX7_relay cX7_relay 5 (some (FieldType.int))) (by rfl) rfl
set_option maxRecDepth 100000 in
theorem ok_cw_X7_data : xi_cw mi_X7_data ∈ xT := xi_mem (i := 853) (w := Cond.code yX7_data cX7_data 4 (some (FieldType.int))) (by rfl) rfl
set_option maxRecDepth 100000 in
theorem ok_cw_X7_count : xi_cw mi_X7_count ∈ xT := xi_mem (i := 860) (w := Cond.code yX7_count cX7_count 2 (some (FieldType.int))) (by rfl) rfl
set_option maxRecDepth 100000 in
theorem ok_cw_X7_loss : xi_cw mi_X7_loss ∈ xT := xi_mem (i := 333) (w := Cond.code yX7_loss cX7_loss 2 (some (FieldType.float))) (by rfl) rfl
set_option maxRecDepth 100000 in
theorem ok_cw_X7_readyCircuits : xi_cw mi_X7_readyCircuits ∈ xT := xi_mem (i := 864) (w := Cond.code yX7_readyCircuits cX7_readyCircuits 3 (some (FieldType.int))) (by rfl) rfl
set_option maxRecDepth 100000 in
theorem ok_cw_X7_checkCircuit : xi_cw mi_X7_checkCircuit ∈ xT := xi_mem (i := 467) (w := Cond.code yX7_checkCircuit cX7_checkCircuit 1 none) (by rfl) rfl
set_option maxRecDepth 100000 in
theorem ok_cw_X7_checkRelay : xi_cw mi_X7_checkRelay ∈ xT := xi_mem (i := 346) (w := Cond.code yX7_checkRelay cX7_checkRelay 1 none) (by rfl) rfl
set_option maxRecDepth 100000 in
theorem ok_cw_X7_checkStream : xi_cw mi_X7_checkStream ∈ xT := xi_mem (i := 554) (w := Cond.code yX7_checkStream cX7_checkStream 1 none) (by rfl) rfl
set_option maxRecDepth 100000 in
theorem ok_cw_X7_checkIndex : xi_cw mi_X7_checkIndex ∈ xT := xi_mem (i := 470) (w := Cond.code yX7_checkIndex cX7_checkIndex 2 none) (by rfl) rfl
set_option maxRecDepth 100000 in
theorem ok_cw_X7_checkExponent : xi_cw mi_X7_checkExponent ∈ xT := xi_mem (i := 412) (w := Cond.code yX7_checkExponent cX7_checkExponent 1 none) (by rfl) rfl
set_option maxRecDepth 100000 in
theorem ok_cw_X7_checkArgument : xi_cw mi_X7_checkArgument ∈ xT := xi_mem (i := 416) (w := Cond.code yX7_checkArgument cX7_checkArgument 1 none) (by rfl) rfl
set_option maxRecDepth 100000 in
theorem ok_cw_X7_checkState : xi_cw mi_X7_checkState ∈ xT := xi_mem (i := 438) (w := Cond.code yX7_checkState cX7_checkState 1 none) (by rfl) rfl
set_option maxRecDepth 100000 in
theorem ok_cw_X7_isByte : xi_cw mi_X7_isByte ∈ xT := xi_mem (i := 575) (w := Cond.code yX7_isByte cX7_isByte 1 (some (FieldType.boolean))) (by rfl) rfl
set_option maxRecDepth 100000 in
theorem ok_cw_X7_isStream : xi_cw mi_X7_isStream ∈ xT := xi_mem (i := 557) (w := Cond.code yX7_isStream cX7_isStream 1 (some (FieldType.boolean))) (by rfl) rfl
set_option maxRecDepth 100000 in
theorem ok_cw_X8_init : xi_cw mi_X8_init ∈ xT := xi_mem (i := 869) (w := Cond.code yX8_init cX8_init 2 none) (by rfl) rfl
set_option maxRecDepth 100000 in
theorem ok_cw_X8_thrown : xi_cw mi_X8_thrown ∈ xT := xi_mem (i := 965) (w := Cond.code yX8_thrown cX8_thrown 1 (some (FieldType.int))) (by rfl) rfl
set_option maxRecDepth 100000 in
theorem ok_cw_X8_in : xi_cw mi_X8_in ∈ xT := xi_mem (i := 975) (w := Cond.code yX8_in cX8_in 3 (some (FieldType.boolean))) (by rfl) rfl
set_option maxRecDepth 100000 in
theorem ok_cw_X8_isCircuit : xi_cw mi_X8_isCircuit ∈ xT := xi_mem (i := 992) (w := Cond.code yX8_isCircuit cX8_isCircuit 1 (some (FieldType.boolean))) (by rfl) rfl
set_option maxRecDepth 100000 in
theorem ok_cw_X8_isRelay : xi_cw mi_X8_isRelay ∈ xT := xi_mem (i := 972) (w := Cond.code yX8_isRelay cX8_isRelay 1 (some (FieldType.boolean))) (by rfl) rfl
set_option maxRecDepth 100000 in
theorem ok_cw_X8_raise : xi_cw mi_X8_raise ∈ xT := xi_mem (i := 983) (w := Cond.code yX8_raise cX8_raise 7 (some (FieldType.int))) (by rfl) rfl
set_option maxRecDepth 100000 in
theorem ok_cw_X8_mix : xi_cw mi_X8_mix ∈ xT := xi_mem (i := 1035) (w := Cond.code yX8_mix cX8_mix 3 (some (FieldType.int))) (by rfl) rfl
set_option maxRecDepth 100000 in
theorem ok_cw_X8_agree : xi_cw mi_X8_agree ∈ xT := xi_mem (i := 1098) (w := Cond.code yX8_agree cX8_agree 8 none) (by rfl) rfl
set_option maxRecDepth 100000 in
theorem ok_cw_X8_wrap : xi_cw mi_X8_wrap ∈ xT := xi_mem (i := 1040) (w := Cond.code yX8_wrap cX8_wrap 4 (some (FieldType.int))) (by rfl) rfl
set_option maxRecDepth 100000 in
theorem ok_cw_X8_fed : xi_cw mi_X8_fed ∈ xT := xi_mem (i := 1032) (w := Cond.code yX8_fed cX8_fed 4 (some (FieldType.int))) (by rfl) rfl
set_option maxRecDepth 100000 in
theorem ok_cw_X8_pair : xi_cw mi_X8_pair ∈ xT := xi_mem (i := 1090) (w := Cond.code yX8_pair cX8_pair 2 (some (FieldType.int))) (by rfl) rfl
set_option maxRecDepth 100000 in
theorem ok_cw_X8_putPair : xi_cw mi_X8_putPair ∈ xT := xi_mem (i := 1008) (w := Cond.code yX8_putPair cX8_putPair 3 none) (by rfl) rfl
set_option maxRecDepth 100000 in
theorem ok_cw_X8_clearBytes : xi_cw mi_X8_clearBytes ∈ xT := xi_mem (i := 1004) (w := Cond.code yX8_clearBytes cX8_clearBytes 2 none) (by rfl) rfl
set_option maxRecDepth 100000 in
theorem ok_cw_X8_order : xi_cw mi_X8_order ∈ xT := xi_mem (i := 1020) (w := Cond.code yX8_order cX8_order 4 none) (by rfl) rfl
set_option maxRecDepth 100000 in
theorem ok_cw_X8_seal : xi_cw mi_X8_seal ∈ xT := xi_mem (i := 1028) (w := Cond.code yX8_seal cX8_seal 3 (some (FieldType.int))) (by rfl) rfl
set_option maxRecDepth 100000 in
theorem ok_cw_X8_isKnown : xi_cw mi_X8_isKnown ∈ xT := xi_mem (i := 1103) (w := Cond.code yX8_isKnown cX8_isKnown 2 (some (FieldType.boolean))) (by rfl) rfl
set_option maxRecDepth 100000 in
theorem ok_cw_X8_ship : xi_cw mi_X8_ship ∈ xT := xi_mem (i := 1012) (w := Cond.code yX8_ship cX8_ship 8 none) (by rfl) rfl
set_option maxRecDepth 100000 in
theorem ok_cw_X8_destroy : xi_cw mi_X8_destroy ∈ xT := xi_mem (i := 1070) (w := Cond.code yX8_destroy cX8_destroy 4 none) (by rfl) rfl
set_option maxRecDepth 100000 in
theorem ok_cw_X8_remove : xi_cw mi_X8_remove ∈ xT := xi_mem (i := 1082) (w := Cond.code yX8_remove cX8_remove 3 none) (by rfl) rfl
set_option maxRecDepth 100000 in
theorem ok_cw_X8_dropStreams : xi_cw mi_X8_dropStreams ∈ xT := xi_mem (i := 1000) (w := Cond.code yX8_dropStreams cX8_dropStreams 4 none) (by rfl) rfl
set_option maxRecDepth 100000 in
theorem ok_cw_X8_ended : xi_cw mi_X8_ended ∈ xT := xi_mem (i := 1074) (w := Cond.code yX8_ended cX8_ended 2 none) (by rfl) rfl
set_option maxRecDepth 100000 in
theorem ok_cw_X8_closeNow : xi_cw mi_X8_closeNow ∈ xT := xi_mem (i := 1066) (w := Cond.code yX8_closeNow cX8_closeNow 3 none) (by rfl) rfl
set_option maxRecDepth 100000 in
theorem ok_cw_X8_clientSends : xi_cw mi_X8_clientSends ∈ xT := xi_mem (i := 1024) (w := Cond.code yX8_clientSends cX8_clientSends 5 none) (by rfl) rfl
set_option maxRecDepth 100000 in
theorem ok_cw_X8_meet : xi_cw mi_X8_meet ∈ xT := xi_mem (i := 1094) (w := Cond.code yX8_meet cX8_meet 7 none) (by rfl) rfl
set_option maxRecDepth 100000 in
theorem ok_cw_X8_ofStream : xi_cw mi_X8_ofStream ∈ xT := xi_mem (i := 1111) (w := Cond.code yX8_ofStream cX8_ofStream 6 none) (by rfl) rfl
set_option maxRecDepth 100000 in
theorem ok_cw_X8_clientFollows : xi_cw mi_X8_clientFollows ∈ xT := xi_mem (i := 1107) (w := Cond.code yX8_clientFollows cX8_clientFollows 4 none) (by rfl) rfl
set_option maxRecDepth 100000 in
theorem ok_cw_X8_toClient : xi_cw mi_X8_toClient ∈ xT := xi_mem (i := 1086) (w := Cond.code yX8_toClient cX8_toClient 7 none) (by rfl) rfl
set_option maxRecDepth 100000 in
theorem ok_cw_X8_place : xi_cw mi_X8_place ∈ xT := xi_mem (i := 980) (w := Cond.code yX8_place cX8_place 3 (some (FieldType.int))) (by rfl) rfl
set_option maxRecDepth 100000 in
theorem ok_cw_X8_forget : xi_cw mi_X8_forget ∈ xT := xi_mem (i := 1124) (w := Cond.code yX8_forget cX8_forget 5 none) (by rfl) rfl
set_option maxRecDepth 100000 in
theorem ok_cw_X8_destroyOn : xi_cw mi_X8_destroyOn ∈ xT := xi_mem (i := 1148) (w := Cond.code yX8_destroyOn cX8_destroyOn 5 none) (by rfl) rfl
set_option maxRecDepth 100000 in
theorem ok_cw_X8_tear : xi_cw mi_X8_tear ∈ xT := xi_mem (i := 1144) (w := Cond.code yX8_tear cX8_tear 3 none) (by rfl) rfl
set_option maxRecDepth 100000 in
theorem ok_cw_X8_relaySends : xi_cw mi_X8_relaySends ∈ xT := xi_mem (i := 1128) (w := Cond.code yX8_relaySends cX8_relaySends 4 none) (by rfl) rfl
set_option maxRecDepth 100000 in
theorem ok_cw_X8_begun : xi_cw mi_X8_begun ∈ xT := xi_mem (i := 1119) (w := Cond.code yX8_begun cX8_begun 8 none) (by rfl) rfl
set_option maxRecDepth 100000 in
theorem ok_cw_X8_extendAt : xi_cw mi_X8_extendAt ∈ xT := xi_mem (i := 1140) (w := Cond.code yX8_extendAt cX8_extendAt 6 none) (by rfl) rfl
set_option maxRecDepth 100000 in
theorem ok_cw_X8_dataAt : xi_cw mi_X8_dataAt ∈ xT := xi_mem (i := 1152) (w := Cond.code yX8_dataAt cX8_dataAt 8 none) (by rfl) rfl
set_option maxRecDepth 100000 in
theorem ok_cw_X8_relayFollows : xi_cw mi_X8_relayFollows ∈ xT := xi_mem (i := 1136) (w := Cond.code yX8_relayFollows cX8_relayFollows 8 none) (by rfl) rfl
set_option maxRecDepth 100000 in
theorem ok_cw_X8_relayed : xi_cw mi_X8_relayed ∈ xT := xi_mem (i := 1132) (w := Cond.code yX8_relayed cX8_relayed 5 none) (by rfl) rfl
set_option maxRecDepth 100000 in
theorem ok_cw_X8_toRelay : xi_cw mi_X8_toRelay ∈ xT := xi_mem (i := 1115) (w := Cond.code yX8_toRelay cX8_toRelay 8 none) (by rfl) rfl
set_option maxRecDepth 100000 in
theorem ok_cw_X8_secret : xi_cw mi_X8_secret ∈ xT := xi_mem (i := 969) (w := Cond.code yX8_secret cX8_secret 4 (some (FieldType.int))) (by rfl) rfl
set_option maxRecDepth 100000 in
theorem ok_cw_X8_create : xi_cw mi_X8_create ∈ xT := xi_mem (i := 989) (w := Cond.code yX8_create cX8_create 4 (some (FieldType.int))) (by rfl) rfl
set_option maxRecDepth 100000 in
theorem ok_cw_X8_extend : xi_cw mi_X8_extend ∈ xT := xi_mem (i := 1016) (w := Cond.code yX8_extend cX8_extend 5 (some (FieldType.int))) (by rfl) rfl
set_option maxRecDepth 100000 in
theorem ok_cw_X8_begin : xi_cw mi_X8_begin ∈ xT := xi_mem (i := 1046) (w := Cond.code yX8_begin cX8_begin 5 none) (by rfl) rfl
set_option maxRecDepth 100000 in
theorem ok_cw_X8_send : xi_cw mi_X8_send ∈ xT := xi_mem (i := 1050) (w := Cond.code yX8_send cX8_send 7 (some (FieldType.int))) (by rfl) rfl
set_option maxRecDepth 100000 in
theorem ok_cw_X8_end : xi_cw mi_X8_end ∈ xT := xi_mem (i := 1054) (w := Cond.code yX8_end cX8_end 5 (some (FieldType.int))) (by rfl) rfl
set_option maxRecDepth 100000 in
theorem ok_cw_X8_isOn : xi_cw mi_X8_isOn ∈ xT := xi_mem (i := 996) (w := Cond.code yX8_isOn cX8_isOn 2 (some (FieldType.boolean))) (by rfl) rfl
set_option maxRecDepth 100000 in
theorem ok_cw_X8_truncate : xi_cw mi_X8_truncate ∈ xT := xi_mem (i := 1058) (w := Cond.code yX8_truncate cX8_truncate 3 (some (FieldType.int))) (by rfl) rfl
set_option maxRecDepth 100000 in
theorem ok_cw_X8_close : xi_cw mi_X8_close ∈ xT := xi_mem (i := 1062) (w := Cond.code yX8_close cX8_close 2 none) (by rfl) rfl
set_option maxRecDepth 100000 in
theorem ok_cw_X8_deliver : xi_cw mi_X8_deliver ∈ xT := xi_mem (i := 1078) (w := Cond.code yX8_deliver cX8_deliver 8 (some (FieldType.int))) (by rfl) rfl
set_option maxRecDepth 100000 in
theorem ok_cw_X8_damage : xi_cw mi_X8_damage ∈ xT := xi_mem (i := 1156) (w := Cond.code yX8_damage cX8_damage 5 (some (FieldType.int))) (by rfl) rfl
set_option maxRecDepth 100000 in
theorem ok_cw_X8_lose : xi_cw mi_X8_lose ∈ xT := xi_mem (i := 1160) (w := Cond.code yX8_lose cX8_lose 3 (some (FieldType.int))) (by rfl) rfl
set_option maxRecDepth 100000 in
theorem ok_cw_X8_out : xi_cw mi_X8_out ∈ xT := xi_mem (i := 1168) (w := Cond.code yX8_out cX8_out 2 (some (FieldType.boolean))) (by rfl) rfl
set_option maxRecDepth 100000 in
theorem ok_cw_X8_cell : xi_cw mi_X8_cell ∈ xT := xi_mem (i := 1164) (w := Cond.code yX8_cell cX8_cell 3 (some (FieldType.int))) (by rfl) rfl
set_option maxRecDepth 100000 in
theorem ok_cw_X8_circuit : xi_cw mi_X8_circuit ∈ xT := xi_mem (i := 1172) (w := Cond.code yX8_circuit cX8_circuit 3 (some (FieldType.int))) (by rfl) rfl
set_option maxRecDepth 100000 in
theorem ok_cw_X8_key : xi_cw mi_X8_key ∈ xT := xi_mem (i := 1176) (w := Cond.code yX8_key cX8_key 4 (some (FieldType.int))) (by rfl) rfl
set_option maxRecDepth 100000 in
theorem ok_cw_X8_relay : xi_cw mi_X8_relay ∈ xT := xi_mem (i := 1180) (w := Cond.code yX8_relay cX8_relay 5 (some (FieldType.int))) (by rfl) rfl
set_option maxRecDepth 100000 in
theorem ok_cw_X8_data : xi_cw mi_X8_data ∈ xT := xi_mem (i := 1184) (w := Cond.code yX8_data cX8_data 3 (some (FieldType.int))) (by rfl) rfl
set_option maxRecDepth 100000 in
theorem ok_cw_X8_readies : xi_cw mi_X8_readies ∈ xT := xi_mem (i := 1192) (w := Cond.code yX8_readies cX8_readies 3 (some (FieldType.int))) (by rfl) rfl
set_option maxRecDepth 100000 in
theorem ok_cw_X8_count : xi_cw mi_X8_count ∈ xT := xi_mem (i := 1188) (w := Cond.code yX8_count cX8_count 2 (some (FieldType.int))) (by rfl) rfl
set_option maxRecDepth 100000 in
theorem ok_cw_X8_loss : xi_cw mi_X8_loss ∈ xT := xi_mem (i := 1196) (w := Cond.code yX8_loss cX8_loss 3 (some (FieldType.float))) (by rfl) rfl
set_option maxRecDepth 100000 in
theorem ok_cw_L_secret : xi_cw mi_L_secret ∈ xT := xi_mem (i := 336) (w := Cond.codeWith yL_secret cL_secret 5 (some (FieldType.int)) [(0, 10, 13, 13), (0, 10, 17, 15), (0, 10, 21, 17)]) (by rfl) rfl
set_option maxRecDepth 100000 in
theorem ok_cw_L_create : xi_cw mi_L_create ∈ xT := xi_mem (i := 460) (w := Cond.codeWith yL_create cL_create 6 (some (FieldType.int)) [(0, 12, 15, 13), (0, 12, 19, 15), (0, 12, 23, 17)]) (by rfl) rfl
set_option maxRecDepth 100000 in
theorem ok_cw_L_extend : xi_cw mi_L_extend ∈ xT := xi_mem (i := 506) (w := Cond.codeWith yL_extend cL_extend 6 (some (FieldType.int)) [(0, 12, 15, 13), (0, 12, 19, 15), (0, 12, 23, 17)]) (by rfl) rfl
set_option maxRecDepth 100000 in
theorem ok_cw_L_begin : xi_cw mi_L_begin ∈ xT := xi_mem (i := 547) (w := Cond.codeWith yL_begin cL_begin 5 (some (FieldType.int)) [(0, 7, 10, 13), (0, 7, 14, 17)]) (by rfl) rfl
set_option maxRecDepth 100000 in
theorem ok_cw_L_send : xi_cw mi_L_send ∈ xT := xi_mem (i := 568) (w := Cond.codeWith yL_send cL_send 7 (some (FieldType.int)) [(0, 14, 17, 13), (0, 14, 21, 15), (0, 14, 25, 17)]) (by rfl) rfl
set_option maxRecDepth 100000 in
theorem ok_cw_L_end : xi_cw mi_L_end ∈ xT := xi_mem (i := 582) (w := Cond.codeWith yL_end cL_end 5 (some (FieldType.int)) [(0, 10, 13, 13), (0, 10, 17, 17)]) (by rfl) rfl
set_option maxRecDepth 100000 in
theorem ok_cw_L_truncate : xi_cw mi_L_truncate ∈ xT := xi_mem (i := 593) (w := Cond.codeWith yL_truncate cL_truncate 5 (some (FieldType.int)) [(0, 10, 13, 13), (0, 10, 17, 17)]) (by rfl) rfl
set_option maxRecDepth 100000 in
theorem ok_cw_L_close : xi_cw mi_L_close ∈ xT := xi_mem (i := 604) (w := Cond.codeWith yL_close cL_close 3 (some (FieldType.int)) [(0, 5, 8, 13), (0, 5, 11, 17)]) (by rfl) rfl
set_option maxRecDepth 100000 in
theorem ok_cw_L_deliver : xi_cw mi_L_deliver ∈ xT := xi_mem (i := 623) (w := Cond.codeWith yL_deliver cL_deliver 4 (some (FieldType.int)) [(0, 9, 12, 15)]) (by rfl) rfl
set_option maxRecDepth 100000 in
theorem ok_cw_L_damage : xi_cw mi_L_damage ∈ xT := xi_mem (i := 807) (w := Cond.codeWith yL_damage cL_damage 6 (some (FieldType.int)) [(0, 12, 15, 13), (0, 12, 19, 15)]) (by rfl) rfl
set_option maxRecDepth 100000 in
theorem ok_cw_L_lose : xi_cw mi_L_lose ∈ xT := xi_mem (i := 814) (w := Cond.codeWith yL_lose cL_lose 4 (some (FieldType.int)) [(0, 9, 12, 13)]) (by rfl) rfl
set_option maxRecDepth 100000 in
theorem ok_cw_L_cell : xi_cw mi_L_cell ∈ xT := xi_mem (i := 821) (w := Cond.codeWith yL_cell cL_cell 5 (some (FieldType.int)) [(0, 10, 13, 13)]) (by rfl) rfl
set_option maxRecDepth 100000 in
theorem ok_cw_L_circuit : xi_cw mi_L_circuit ∈ xT := xi_mem (i := 828) (w := Cond.codeWith yL_circuit cL_circuit 5 (some (FieldType.int)) [(0, 10, 13, 13)]) (by rfl) rfl
set_option maxRecDepth 100000 in
theorem ok_cw_L_key : xi_cw mi_L_key ∈ xT := xi_mem (i := 835) (w := Cond.codeWith yL_key cL_key 6 (some (FieldType.int)) [(0, 12, 15, 13)]) (by rfl) rfl
set_option maxRecDepth 100000 in
theorem ok_cw_L_relay : xi_cw mi_L_relay ∈ xT := xi_mem (i := 842) (w := Cond.codeWith yL_relay cL_relay 6 (some (FieldType.int)) [(0, 12, 15, 13)]) (by rfl) rfl
set_option maxRecDepth 100000 in
theorem ok_cw_L_data : xi_cw mi_L_data ∈ xT := xi_mem (i := 849) (w := Cond.codeWith yL_data cL_data 5 (some (FieldType.int)) [(0, 10, 13, 13)]) (by rfl) rfl
set_option maxRecDepth 100000 in
theorem ok_cw_L_count : xi_cw mi_L_count ∈ xT := xi_mem (i := 856) (w := Cond.codeWith yL_count cL_count 4 (some (FieldType.int)) [(0, 9, 12, 13)]) (by rfl) rfl
theorem ok_cg_0 : ∀ mi ∈ xpg_0, (xi_y mi).name ≠ "law" → xi_cw mi ∈ xT := by
  intro mi h hn
  simp only [xpg_0, List.mem_cons, List.not_mem_nil, or_false] at h
  rcases h with rfl | rfl | rfl | rfl | rfl | rfl | rfl | rfl | rfl | rfl | rfl | rfl | rfl | rfl | rfl | rfl | rfl | rfl | rfl | rfl
  · exact ok_cw_X0_raise
  · exact ok_cw_X0_mix
  · exact ok_cw_X0_shared
  · exact ok_cw_X0_tag
  · exact ok_cw_X0_fillKeys
  · exact ok_cw_X1_init
  · exact ok_cw_X1_address
  · exact ok_cw_X1_writeOrder
  · exact ok_cw_X1_copyBytes
  · exact ok_cw_X1_pair
  · exact ok_cw_X1_putPair
  · exact ok_cw_X1_dataLength
  · exact ok_cw_X1_wrap
  · exact ok_cw_X1_fed
  · exact ok_cw_X1_isKnownBy
  · exact ok_cw_X2_init
  · exact ok_cw_X2_isLive
  · exact ok_cw_X2_hasHop
  · exact ok_cw_X2_goesThrough
  · exact ok_cw_X2_startAnew
theorem ok_cg_1 : ∀ mi ∈ xpg_1, (xi_y mi).name ≠ "law" → xi_cw mi ∈ xT := by
  intro mi h hn
  simp only [xpg_1, List.mem_cons, List.not_mem_nil, or_false] at h
  rcases h with rfl | rfl | rfl | rfl | rfl | rfl | rfl | rfl | rfl | rfl | rfl | rfl | rfl | rfl | rfl | rfl | rfl | rfl | rfl | rfl
  · exact ok_cw_X2_askForHop
  · exact ok_cw_X2_waitFor
  · exact ok_cw_X2_askForStream
  · exact ok_cw_X2_sendData
  · exact ok_cw_X2_endStream
  · exact ok_cw_X2_askToTruncate
  · exact ok_cw_X2_order
  · exact ok_cw_X2_sealTo
  · exact ok_cw_X2_firstRelay
  · exact ok_cw_X2_shut
  · exact ok_cw_X2_becomeClosed
  · exact ok_cw_X2_dropStreamsFrom
  · exact ok_cw_X2_takes
  · exact ok_cw_X2_takesCreated
  · exact ok_cw_X2_takesRelay
  · exact ok_cw_X2_addsHop
  · exact ok_cw_X2_becomeReady
  · exact ok_cw_X2_isKnown
  · exact ok_cw_X2_follows
  · exact ok_cw_X2_followOfStream
theorem ok_cg_2 : ∀ mi ∈ xpg_2, (xi_y mi).name ≠ "law" → xi_cw mi ∈ xT := by
  intro mi h hn
  simp only [xpg_2, List.mem_cons, List.not_mem_nil, or_false] at h
  rcases h with rfl | rfl | rfl | rfl | rfl | rfl | rfl | rfl | rfl | rfl | rfl | rfl | rfl | rfl | rfl | rfl | rfl | rfl | rfl | rfl
  · exact ok_cw_X2_keepLatest
  · exact ok_cw_X3_init
  · exact ok_cw_X3_start
  · exact ok_cw_X3_vanish
  · exact ok_cw_X3_next
  · exact ok_cw_X3_destroyNext
  · exact ok_cw_X3_tearDown
  · exact ok_cw_X3_takesCreated
  · exact ok_cw_X3_takesDestroy
  · exact ok_cw_X3_passOn
  · exact ok_cw_X3_takesRelay
  · exact ok_cw_X3_goesForward
  · exact ok_cw_X3_isKnown
  · exact ok_cw_X3_relayOn
  · exact ok_cw_X3_follows
  · exact ok_cw_X3_followsExtend
  · exact ok_cw_X3_followBegin
  · exact ok_cw_X3_followData
  · exact ok_cw_X3_followTruncate
  · exact ok_cw_X3_isOpen
theorem ok_cg_3 : ∀ mi ∈ xpg_3, (xi_y mi).name ≠ "law" → xi_cw mi ∈ xT := by
  intro mi h hn
  simp only [xpg_3, List.mem_cons, List.not_mem_nil, or_false] at h
  rcases h with rfl | rfl | rfl | rfl | rfl | rfl | rfl | rfl | rfl | rfl | rfl | rfl | rfl | rfl | rfl | rfl | rfl | rfl | rfl | rfl
  · exact ok_cw_X3_orderBack
  · exact ok_cw_X3_sealBack
  · exact ok_cw_X4_init
  · exact ok_cw_X4_takeSecret
  · exact ok_cw_X4_hasPassage
  · exact ok_cw_X4_takes
  · exact ok_cw_X4_takesCreate
  · exact ok_cw_X5_init
  · exact ok_cw_X5_add
  · exact ok_cw_X5_takeOut
  · exact ok_cw_X6_init
  · exact ok_cw_X6_become
  · exact ok_cw_X7_init
  · exact ok_cw_X7_secret
  · exact ok_cw_X7_create
  · exact ok_cw_X7_extend
  · exact ok_cw_X7_begin
  · exact ok_cw_X7_send
  · exact ok_cw_X7_end
  · exact ok_cw_X7_truncate
theorem ok_cg_4 : ∀ mi ∈ xpg_4, (xi_y mi).name ≠ "law" → xi_cw mi ∈ xT := by
  intro mi h hn
  simp only [xpg_4, List.mem_cons, List.not_mem_nil, or_false] at h
  rcases h with rfl | rfl | rfl | rfl | rfl | rfl | rfl | rfl | rfl | rfl | rfl | rfl | rfl | rfl | rfl | rfl | rfl | rfl | rfl | rfl
  · exact ok_cw_X7_close
  · exact ok_cw_X7_deliver
  · exact ok_cw_X7_damage
  · exact ok_cw_X7_lose
  · exact ok_cw_X7_cell
  · exact ok_cw_X7_circuit
  · exact ok_cw_X7_key
  · exact ok_cw_X7_relay
  · exact ok_cw_X7_data
  · exact ok_cw_X7_count
  · exact ok_cw_X7_loss
  · exact ok_cw_X7_readyCircuits
  · exact ok_cw_X7_checkCircuit
  · exact ok_cw_X7_checkRelay
  · exact ok_cw_X7_checkStream
  · exact ok_cw_X7_checkIndex
  · exact ok_cw_X7_checkExponent
  · exact ok_cw_X7_checkArgument
  · exact ok_cw_X7_checkState
  · exact ok_cw_X7_isByte
theorem ok_cg_5 : ∀ mi ∈ xpg_5, (xi_y mi).name ≠ "law" → xi_cw mi ∈ xT := by
  intro mi h hn
  simp only [xpg_5, List.mem_cons, List.not_mem_nil, or_false] at h
  rcases h with rfl | rfl | rfl | rfl | rfl | rfl | rfl | rfl | rfl | rfl | rfl | rfl | rfl | rfl | rfl | rfl | rfl | rfl | rfl | rfl
  · exact ok_cw_X7_isStream
  · exact ok_cw_X8_init
  · exact ok_cw_X8_thrown
  · exact ok_cw_X8_in
  · exact ok_cw_X8_isCircuit
  · exact ok_cw_X8_isRelay
  · exact ok_cw_X8_raise
  · exact ok_cw_X8_mix
  · exact ok_cw_X8_agree
  · exact ok_cw_X8_wrap
  · exact ok_cw_X8_fed
  · exact ok_cw_X8_pair
  · exact ok_cw_X8_putPair
  · exact ok_cw_X8_clearBytes
  · exact ok_cw_X8_order
  · exact ok_cw_X8_seal
  · exact ok_cw_X8_isKnown
  · exact ok_cw_X8_ship
  · exact ok_cw_X8_destroy
  · exact ok_cw_X8_remove
theorem ok_cg_6 : ∀ mi ∈ xpg_6, (xi_y mi).name ≠ "law" → xi_cw mi ∈ xT := by
  intro mi h hn
  simp only [xpg_6, List.mem_cons, List.not_mem_nil, or_false] at h
  rcases h with rfl | rfl | rfl | rfl | rfl | rfl | rfl | rfl | rfl | rfl | rfl | rfl | rfl | rfl | rfl | rfl | rfl | rfl | rfl | rfl
  · exact ok_cw_X8_dropStreams
  · exact ok_cw_X8_ended
  · exact ok_cw_X8_closeNow
  · exact ok_cw_X8_clientSends
  · exact ok_cw_X8_meet
  · exact ok_cw_X8_ofStream
  · exact ok_cw_X8_clientFollows
  · exact ok_cw_X8_toClient
  · exact ok_cw_X8_place
  · exact ok_cw_X8_forget
  · exact ok_cw_X8_destroyOn
  · exact ok_cw_X8_tear
  · exact ok_cw_X8_relaySends
  · exact ok_cw_X8_begun
  · exact ok_cw_X8_extendAt
  · exact ok_cw_X8_dataAt
  · exact ok_cw_X8_relayFollows
  · exact ok_cw_X8_relayed
  · exact ok_cw_X8_toRelay
  · exact ok_cw_X8_secret
theorem ok_cg_7 : ∀ mi ∈ xpg_7, (xi_y mi).name ≠ "law" → xi_cw mi ∈ xT := by
  intro mi h hn
  simp only [xpg_7, List.mem_cons, List.not_mem_nil, or_false] at h
  rcases h with rfl | rfl | rfl | rfl | rfl | rfl | rfl | rfl | rfl | rfl | rfl | rfl | rfl | rfl | rfl | rfl | rfl | rfl | rfl | rfl
  · exact ok_cw_X8_create
  · exact ok_cw_X8_extend
  · exact ok_cw_X8_begin
  · exact ok_cw_X8_send
  · exact ok_cw_X8_end
  · exact ok_cw_X8_isOn
  · exact ok_cw_X8_truncate
  · exact ok_cw_X8_close
  · exact ok_cw_X8_deliver
  · exact ok_cw_X8_damage
  · exact ok_cw_X8_lose
  · exact ok_cw_X8_out
  · exact ok_cw_X8_cell
  · exact ok_cw_X8_circuit
  · exact ok_cw_X8_key
  · exact ok_cw_X8_relay
  · exact ok_cw_X8_data
  · exact ok_cw_X8_readies
  · exact ok_cw_X8_count
  · exact ok_cw_X8_loss
theorem ok_cg_8 : ∀ mi ∈ xpg_8, (xi_y mi).name ≠ "law" → xi_cw mi ∈ xT := by
  intro mi h hn
  simp only [xpg_8, List.mem_cons, List.not_mem_nil, or_false] at h
  rcases h with rfl | rfl | rfl | rfl | rfl | rfl | rfl | rfl | rfl | rfl | rfl | rfl | rfl | rfl | rfl | rfl | rfl | rfl
  · exact ok_cw_L_secret
  · exact ok_cw_L_create
  · exact ok_cw_L_extend
  · exact ok_cw_L_begin
  · exact ok_cw_L_send
  · exact ok_cw_L_end
  · exact ok_cw_L_truncate
  · exact ok_cw_L_close
  · exact ok_cw_L_deliver
  · exact ok_cw_L_damage
  · exact ok_cw_L_lose
  · exact ok_cw_L_cell
  · exact ok_cw_L_circuit
  · exact ok_cw_L_key
  · exact ok_cw_L_relay
  · exact ok_cw_L_data
  · exact ok_cw_L_count
  · exact absurd rfl hn
theorem ok_cg : ∀ mi ∈ xpg, (xi_y mi).name ≠ "law" → xi_cw mi ∈ xT := by
  intro mi h
  simp only [xpg, List.mem_append] at h
  rcases h with h | h | h | h | h | h | h | h | h
  · exact ok_cg_0 mi h
  · exact ok_cg_1 mi h
  · exact ok_cg_2 mi h
  · exact ok_cg_3 mi h
  · exact ok_cg_4 mi h
  · exact ok_cg_5 mi h
  · exact ok_cg_6 mi h
  · exact ok_cg_7 mi h
  · exact ok_cg_8 mi h
