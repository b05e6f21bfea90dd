section
theorem xw_wide : True := by
  have _h := @Jvm.Stand.thenCaughtThrough
  trivial
end
section
-- ===== PART A: goes FIRST, ahead of the names: the tables' words, and 'selects' of the private methods out of them =====
/-- a private method of a class that the tables say can be made, by its rows of tables_1 -/
def lw_okq (q : MethodName × Nat) : Prop := (q.1.cls ≠ "java/lang/invoke/MethodHandle" ∧ q.1.cls ≠ "java/lang/invoke/VarHandle") ∧ Cond.instantiable q.1.cls q.2 ∈ tables_1 ∧ Cond.privateMethod q.1 ∈ tables_1 ∧ Cond.instanceMethod q.1 ∈ tables_1
theorem lw_p0 : lw_okq (⟨"java/lang/Throwable", "fillInStackTrace", "(I)Ljava/lang/Throwable;"⟩, 6) := ⟨⟨by decide +kernel, by decide +kernel⟩, List.mem_of_getElem? (i := 319) (by decide +kernel), List.mem_of_getElem? (i := 317) (by decide +kernel), List.mem_of_getElem? (i := 318) (by decide +kernel)⟩
theorem lw_p1 : lw_okq (⟨"OnionCells$Circuit", "dropStreamsFrom", "(I)V"⟩, 12) := ⟨⟨by decide +kernel, by decide +kernel⟩, List.mem_of_getElem? (i := 174) (by decide +kernel), List.mem_of_getElem? (i := 413) (by decide +kernel), List.mem_of_getElem? (i := 414) (by decide +kernel)⟩
theorem lw_p2 : lw_okq (⟨"OnionCells$Circuit", "waitFor", "(II)V"⟩, 12) := ⟨⟨by decide +kernel, by decide +kernel⟩, List.mem_of_getElem? (i := 174) (by decide +kernel), List.mem_of_getElem? (i := 421) (by decide +kernel), List.mem_of_getElem? (i := 422) (by decide +kernel)⟩
theorem lw_p3 : lw_okq (⟨"OnionCells$Circuit", "order", "(III)LOnionCells$Cell;"⟩, 12) := ⟨⟨by decide +kernel, by decide +kernel⟩, List.mem_of_getElem? (i := 174) (by decide +kernel), List.mem_of_getElem? (i := 453) (by decide +kernel), List.mem_of_getElem? (i := 454) (by decide +kernel)⟩
theorem lw_p4 : lw_okq (⟨"OnionCells$Circuit", "sealTo", "(ILOnionCells$Cell;)V"⟩, 12) := ⟨⟨by decide +kernel, by decide +kernel⟩, List.mem_of_getElem? (i := 174) (by decide +kernel), List.mem_of_getElem? (i := 461) (by decide +kernel), List.mem_of_getElem? (i := 462) (by decide +kernel)⟩
theorem lw_p5 : lw_okq (⟨"OnionCells$Circuit", "firstRelay", "()I"⟩, 12) := ⟨⟨by decide +kernel, by decide +kernel⟩, List.mem_of_getElem? (i := 174) (by decide +kernel), List.mem_of_getElem? (i := 547) (by decide +kernel), List.mem_of_getElem? (i := 548) (by decide +kernel)⟩
theorem lw_p6 : lw_okq (⟨"OnionCells$Circuit", "becomeClosed", "()V"⟩, 12) := ⟨⟨by decide +kernel, by decide +kernel⟩, List.mem_of_getElem? (i := 174) (by decide +kernel), List.mem_of_getElem? (i := 551) (by decide +kernel), List.mem_of_getElem? (i := 552) (by decide +kernel)⟩
theorem lw_p7 : lw_okq (⟨"OnionCells$Circuit", "takesCreated", "(LOnionCells$Cell;)Z"⟩, 12) := ⟨⟨by decide +kernel, by decide +kernel⟩, List.mem_of_getElem? (i := 174) (by decide +kernel), List.mem_of_getElem? (i := 571) (by decide +kernel), List.mem_of_getElem? (i := 572) (by decide +kernel)⟩
theorem lw_p8 : lw_okq (⟨"OnionCells$Circuit", "addsHop", "(II)Z"⟩, 12) := ⟨⟨by decide +kernel, by decide +kernel⟩, List.mem_of_getElem? (i := 174) (by decide +kernel), List.mem_of_getElem? (i := 579) (by decide +kernel), List.mem_of_getElem? (i := 580) (by decide +kernel)⟩
theorem lw_p9 : lw_okq (⟨"OnionCells$Circuit", "becomeReady", "()V"⟩, 12) := ⟨⟨by decide +kernel, by decide +kernel⟩, List.mem_of_getElem? (i := 174) (by decide +kernel), List.mem_of_getElem? (i := 594) (by decide +kernel), List.mem_of_getElem? (i := 595) (by decide +kernel)⟩
theorem lw_p10 : lw_okq (⟨"OnionCells$Circuit", "takesRelay", "(LOnionCells$Cell;)Z"⟩, 12) := ⟨⟨by decide +kernel, by decide +kernel⟩, List.mem_of_getElem? (i := 174) (by decide +kernel), List.mem_of_getElem? (i := 599) (by decide +kernel), List.mem_of_getElem? (i := 600) (by decide +kernel)⟩
theorem lw_p11 : lw_okq (⟨"OnionCells$Circuit", "isKnown", "(LOnionCells$Cell;)Z"⟩, 12) := ⟨⟨by decide +kernel, by decide +kernel⟩, List.mem_of_getElem? (i := 174) (by decide +kernel), List.mem_of_getElem? (i := 603) (by decide +kernel), List.mem_of_getElem? (i := 604) (by decide +kernel)⟩
theorem lw_p12 : lw_okq (⟨"OnionCells$Circuit", "follows", "(LOnionCells$Cell;I)Z"⟩, 12) := ⟨⟨by decide +kernel, by decide +kernel⟩, List.mem_of_getElem? (i := 174) (by decide +kernel), List.mem_of_getElem? (i := 613) (by decide +kernel), List.mem_of_getElem? (i := 614) (by decide +kernel)⟩
theorem lw_p13 : lw_okq (⟨"OnionCells$Circuit", "followOfStream", "(LOnionCells$Cell;I)V"⟩, 12) := ⟨⟨by decide +kernel, by decide +kernel⟩, List.mem_of_getElem? (i := 174) (by decide +kernel), List.mem_of_getElem? (i := 617) (by decide +kernel), List.mem_of_getElem? (i := 618) (by decide +kernel)⟩
theorem lw_p14 : lw_okq (⟨"OnionCells$Circuit", "keepLatest", "(LOnionCells$Cell;)V"⟩, 12) := ⟨⟨by decide +kernel, by decide +kernel⟩, List.mem_of_getElem? (i := 174) (by decide +kernel), List.mem_of_getElem? (i := 622) (by decide +kernel), List.mem_of_getElem? (i := 623) (by decide +kernel)⟩
theorem lw_p15 : lw_okq (⟨"OnionCells$Relay", "takesCreate", "(LOnionCells$Cell;LOnionCells$Passage;)Z"⟩, 6) := ⟨⟨by decide +kernel, by decide +kernel⟩, List.mem_of_getElem? (i := 95) (by decide +kernel), List.mem_of_getElem? (i := 634) (by decide +kernel), List.mem_of_getElem? (i := 635) (by decide +kernel)⟩
def lw_privs_1 : List (MethodName × Nat) := [(⟨"java/lang/Throwable", "fillInStackTrace", "(I)Ljava/lang/Throwable;"⟩, 6), (⟨"OnionCells$Circuit", "dropStreamsFrom", "(I)V"⟩, 12), (⟨"OnionCells$Circuit", "waitFor", "(II)V"⟩, 12), (⟨"OnionCells$Circuit", "order", "(III)LOnionCells$Cell;"⟩, 12), (⟨"OnionCells$Circuit", "sealTo", "(ILOnionCells$Cell;)V"⟩, 12), (⟨"OnionCells$Circuit", "firstRelay", "()I"⟩, 12), (⟨"OnionCells$Circuit", "becomeClosed", "()V"⟩, 12), (⟨"OnionCells$Circuit", "takesCreated", "(LOnionCells$Cell;)Z"⟩, 12), (⟨"OnionCells$Circuit", "addsHop", "(II)Z"⟩, 12), (⟨"OnionCells$Circuit", "becomeReady", "()V"⟩, 12), (⟨"OnionCells$Circuit", "takesRelay", "(LOnionCells$Cell;)Z"⟩, 12), (⟨"OnionCells$Circuit", "isKnown", "(LOnionCells$Cell;)Z"⟩, 12), (⟨"OnionCells$Circuit", "follows", "(LOnionCells$Cell;I)Z"⟩, 12), (⟨"OnionCells$Circuit", "followOfStream", "(LOnionCells$Cell;I)V"⟩, 12), (⟨"OnionCells$Circuit", "keepLatest", "(LOnionCells$Cell;)V"⟩, 12), (⟨"OnionCells$Relay", "takesCreate", "(LOnionCells$Cell;LOnionCells$Passage;)Z"⟩, 6)]
theorem lw_r1 : ∀ q ∈ lw_privs_1, lw_okq q := List.forall_mem_cons.mpr ⟨lw_p0, List.forall_mem_cons.mpr ⟨lw_p1, List.forall_mem_cons.mpr ⟨lw_p2, List.forall_mem_cons.mpr ⟨lw_p3, List.forall_mem_cons.mpr ⟨lw_p4, List.forall_mem_cons.mpr ⟨lw_p5, List.forall_mem_cons.mpr ⟨lw_p6, List.forall_mem_cons.mpr ⟨lw_p7, List.forall_mem_cons.mpr ⟨lw_p8, List.forall_mem_cons.mpr ⟨lw_p9, List.forall_mem_cons.mpr ⟨lw_p10, List.forall_mem_cons.mpr ⟨lw_p11, List.forall_mem_cons.mpr ⟨lw_p12, List.forall_mem_cons.mpr ⟨lw_p13, List.forall_mem_cons.mpr ⟨lw_p14, List.forall_mem_cons.mpr ⟨lw_p15, fun _ h => absurd h List.not_mem_nil⟩⟩⟩⟩⟩⟩⟩⟩⟩⟩⟩⟩⟩⟩⟩⟩
theorem lw_p16 : lw_okq (⟨"OnionCells$Passage", "orderBack", "(III)LOnionCells$Cell;"⟩, 10) := ⟨⟨by decide +kernel, by decide +kernel⟩, List.mem_of_getElem? (i := 106) (by decide +kernel), List.mem_of_getElem? (i := 654) (by decide +kernel), List.mem_of_getElem? (i := 655) (by decide +kernel)⟩
theorem lw_p17 : lw_okq (⟨"OnionCells$Passage", "sealBack", "(LOnionCells$Cell;)V"⟩, 10) := ⟨⟨by decide +kernel, by decide +kernel⟩, List.mem_of_getElem? (i := 106) (by decide +kernel), List.mem_of_getElem? (i := 662) (by decide +kernel), List.mem_of_getElem? (i := 663) (by decide +kernel)⟩
theorem lw_p18 : lw_okq (⟨"OnionCells$Passage", "isKnown", "(LOnionCells$Cell;)Z"⟩, 10) := ⟨⟨by decide +kernel, by decide +kernel⟩, List.mem_of_getElem? (i := 106) (by decide +kernel), List.mem_of_getElem? (i := 672) (by decide +kernel), List.mem_of_getElem? (i := 673) (by decide +kernel)⟩
theorem lw_p19 : lw_okq (⟨"OnionCells$Passage", "follows", "(LOnionCells$Cell;)Z"⟩, 10) := ⟨⟨by decide +kernel, by decide +kernel⟩, List.mem_of_getElem? (i := 106) (by decide +kernel), List.mem_of_getElem? (i := 677) (by decide +kernel), List.mem_of_getElem? (i := 678) (by decide +kernel)⟩
theorem lw_p20 : lw_okq (⟨"OnionCells$Passage", "followsExtend", "(LOnionCells$Cell;)Z"⟩, 10) := ⟨⟨by decide +kernel, by decide +kernel⟩, List.mem_of_getElem? (i := 106) (by decide +kernel), List.mem_of_getElem? (i := 681) (by decide +kernel), List.mem_of_getElem? (i := 682) (by decide +kernel)⟩
theorem lw_p21 : lw_okq (⟨"OnionCells$Passage", "next", "()I"⟩, 10) := ⟨⟨by decide +kernel, by decide +kernel⟩, List.mem_of_getElem? (i := 106) (by decide +kernel), List.mem_of_getElem? (i := 685) (by decide +kernel), List.mem_of_getElem? (i := 686) (by decide +kernel)⟩
theorem lw_p22 : lw_okq (⟨"OnionCells$Passage", "followBegin", "(I)V"⟩, 10) := ⟨⟨by decide +kernel, by decide +kernel⟩, List.mem_of_getElem? (i := 106) (by decide +kernel), List.mem_of_getElem? (i := 689) (by decide +kernel), List.mem_of_getElem? (i := 690) (by decide +kernel)⟩
theorem lw_p23 : lw_okq (⟨"OnionCells$Passage", "followData", "(LOnionCells$Cell;I)V"⟩, 10) := ⟨⟨by decide +kernel, by decide +kernel⟩, List.mem_of_getElem? (i := 106) (by decide +kernel), List.mem_of_getElem? (i := 694) (by decide +kernel), List.mem_of_getElem? (i := 695) (by decide +kernel)⟩
theorem lw_p24 : lw_okq (⟨"OnionCells$Passage", "isOpen", "(I)Z"⟩, 10) := ⟨⟨by decide +kernel, by decide +kernel⟩, List.mem_of_getElem? (i := 106) (by decide +kernel), List.mem_of_getElem? (i := 698) (by decide +kernel), List.mem_of_getElem? (i := 699) (by decide +kernel)⟩
theorem lw_p25 : lw_okq (⟨"OnionCells$Passage", "followTruncate", "()V"⟩, 10) := ⟨⟨by decide +kernel, by decide +kernel⟩, List.mem_of_getElem? (i := 106) (by decide +kernel), List.mem_of_getElem? (i := 703) (by decide +kernel), List.mem_of_getElem? (i := 704) (by decide +kernel)⟩
theorem lw_p26 : lw_okq (⟨"OnionCells$Passage", "destroyNext", "()V"⟩, 10) := ⟨⟨by decide +kernel, by decide +kernel⟩, List.mem_of_getElem? (i := 106) (by decide +kernel), List.mem_of_getElem? (i := 707) (by decide +kernel), List.mem_of_getElem? (i := 708) (by decide +kernel)⟩
theorem lw_p27 : lw_okq (⟨"OnionCells$Passage", "goesForward", "(LOnionCells$Cell;)Z"⟩, 10) := ⟨⟨by decide +kernel, by decide +kernel⟩, List.mem_of_getElem? (i := 106) (by decide +kernel), List.mem_of_getElem? (i := 711) (by decide +kernel), List.mem_of_getElem? (i := 712) (by decide +kernel)⟩
theorem lw_p28 : lw_okq (⟨"OnionCells$Passage", "relayOn", "(LOnionCells$Cell;II)V"⟩, 10) := ⟨⟨by decide +kernel, by decide +kernel⟩, List.mem_of_getElem? (i := 106) (by decide +kernel), List.mem_of_getElem? (i := 715) (by decide +kernel), List.mem_of_getElem? (i := 716) (by decide +kernel)⟩
theorem lw_p29 : lw_okq (⟨"OnionCells$Passage", "tearDown", "()V"⟩, 10) := ⟨⟨by decide +kernel, by decide +kernel⟩, List.mem_of_getElem? (i := 106) (by decide +kernel), List.mem_of_getElem? (i := 723) (by decide +kernel), List.mem_of_getElem? (i := 724) (by decide +kernel)⟩
theorem lw_p30 : lw_okq (⟨"OnionCells$Passage", "vanish", "()V"⟩, 10) := ⟨⟨by decide +kernel, by decide +kernel⟩, List.mem_of_getElem? (i := 106) (by decide +kernel), List.mem_of_getElem? (i := 727) (by decide +kernel), List.mem_of_getElem? (i := 728) (by decide +kernel)⟩
theorem lw_p31 : lw_okq (⟨"OnionCells$Passage", "passOn", "(LOnionCells$Cell;I)V"⟩, 10) := ⟨⟨by decide +kernel, by decide +kernel⟩, List.mem_of_getElem? (i := 106) (by decide +kernel), List.mem_of_getElem? (i := 735) (by decide +kernel), List.mem_of_getElem? (i := 736) (by decide +kernel)⟩
def lw_privs_2 : List (MethodName × Nat) := [(⟨"OnionCells$Passage", "orderBack", "(III)LOnionCells$Cell;"⟩, 10), (⟨"OnionCells$Passage", "sealBack", "(LOnionCells$Cell;)V"⟩, 10), (⟨"OnionCells$Passage", "isKnown", "(LOnionCells$Cell;)Z"⟩, 10), (⟨"OnionCells$Passage", "follows", "(LOnionCells$Cell;)Z"⟩, 10), (⟨"OnionCells$Passage", "followsExtend", "(LOnionCells$Cell;)Z"⟩, 10), (⟨"OnionCells$Passage", "next", "()I"⟩, 10), (⟨"OnionCells$Passage", "followBegin", "(I)V"⟩, 10), (⟨"OnionCells$Passage", "followData", "(LOnionCells$Cell;I)V"⟩, 10), (⟨"OnionCells$Passage", "isOpen", "(I)Z"⟩, 10), (⟨"OnionCells$Passage", "followTruncate", "()V"⟩, 10), (⟨"OnionCells$Passage", "destroyNext", "()V"⟩, 10), (⟨"OnionCells$Passage", "goesForward", "(LOnionCells$Cell;)Z"⟩, 10), (⟨"OnionCells$Passage", "relayOn", "(LOnionCells$Cell;II)V"⟩, 10), (⟨"OnionCells$Passage", "tearDown", "()V"⟩, 10), (⟨"OnionCells$Passage", "vanish", "()V"⟩, 10), (⟨"OnionCells$Passage", "passOn", "(LOnionCells$Cell;I)V"⟩, 10)]
theorem lw_r2 : ∀ q ∈ lw_privs_2, lw_okq q := List.forall_mem_cons.mpr ⟨lw_p16, List.forall_mem_cons.mpr ⟨lw_p17, List.forall_mem_cons.mpr ⟨lw_p18, List.forall_mem_cons.mpr ⟨lw_p19, List.forall_mem_cons.mpr ⟨lw_p20, List.forall_mem_cons.mpr ⟨lw_p21, List.forall_mem_cons.mpr ⟨lw_p22, List.forall_mem_cons.mpr ⟨lw_p23, List.forall_mem_cons.mpr ⟨lw_p24, List.forall_mem_cons.mpr ⟨lw_p25, List.forall_mem_cons.mpr ⟨lw_p26, List.forall_mem_cons.mpr ⟨lw_p27, List.forall_mem_cons.mpr ⟨lw_p28, List.forall_mem_cons.mpr ⟨lw_p29, List.forall_mem_cons.mpr ⟨lw_p30, List.forall_mem_cons.mpr ⟨lw_p31, fun _ h => absurd h List.not_mem_nil⟩⟩⟩⟩⟩⟩⟩⟩⟩⟩⟩⟩⟩⟩⟩⟩
theorem lw_p32 : lw_okq (⟨"OnionCells", "readyCircuits", "()I"⟩, 5) := ⟨⟨by decide +kernel, by decide +kernel⟩, List.mem_of_getElem? (i := 17) (by decide +kernel), List.mem_of_getElem? (i := 795) (by decide +kernel), List.mem_of_getElem? (i := 796) (by decide +kernel)⟩
theorem lw_p33 : lw_okq (⟨"OnionCellsModel", "place", "(II)I"⟩, 30) := ⟨⟨by decide +kernel, by decide +kernel⟩, List.mem_of_getElem? (i := 799) (by decide +kernel), List.mem_of_getElem? (i := 911) (by decide +kernel), List.mem_of_getElem? (i := 912) (by decide +kernel)⟩
theorem lw_p34 : lw_okq (⟨"OnionCellsModel", "isOn", "(I)Z"⟩, 30) := ⟨⟨by decide +kernel, by decide +kernel⟩, List.mem_of_getElem? (i := 799) (by decide +kernel), List.mem_of_getElem? (i := 927) (by decide +kernel), List.mem_of_getElem? (i := 928) (by decide +kernel)⟩
theorem lw_p35 : lw_okq (⟨"OnionCellsModel", "dropStreams", "(II)V"⟩, 30) := ⟨⟨by decide +kernel, by decide +kernel⟩, List.mem_of_getElem? (i := 799) (by decide +kernel), List.mem_of_getElem? (i := 931) (by decide +kernel), List.mem_of_getElem? (i := 932) (by decide +kernel)⟩
theorem lw_p36 : lw_okq (⟨"OnionCellsModel", "clearBytes", "()V"⟩, 30) := ⟨⟨by decide +kernel, by decide +kernel⟩, List.mem_of_getElem? (i := 799) (by decide +kernel), List.mem_of_getElem? (i := 935) (by decide +kernel), List.mem_of_getElem? (i := 936) (by decide +kernel)⟩
theorem lw_p37 : lw_okq (⟨"OnionCellsModel", "putPair", "(II)V"⟩, 30) := ⟨⟨by decide +kernel, by decide +kernel⟩, List.mem_of_getElem? (i := 799) (by decide +kernel), List.mem_of_getElem? (i := 939) (by decide +kernel), List.mem_of_getElem? (i := 940) (by decide +kernel)⟩
theorem lw_p38 : lw_okq (⟨"OnionCellsModel", "ship", "(IIIII)V"⟩, 30) := ⟨⟨by decide +kernel, by decide +kernel⟩, List.mem_of_getElem? (i := 799) (by decide +kernel), List.mem_of_getElem? (i := 943) (by decide +kernel), List.mem_of_getElem? (i := 944) (by decide +kernel)⟩
theorem lw_p39 : lw_okq (⟨"OnionCellsModel", "order", "(III)V"⟩, 30) := ⟨⟨by decide +kernel, by decide +kernel⟩, List.mem_of_getElem? (i := 799) (by decide +kernel), List.mem_of_getElem? (i := 951) (by decide +kernel), List.mem_of_getElem? (i := 952) (by decide +kernel)⟩
theorem lw_p40 : lw_okq (⟨"OnionCellsModel", "clientSends", "(II)V"⟩, 30) := ⟨⟨by decide +kernel, by decide +kernel⟩, List.mem_of_getElem? (i := 799) (by decide +kernel), List.mem_of_getElem? (i := 955) (by decide +kernel), List.mem_of_getElem? (i := 956) (by decide +kernel)⟩
theorem lw_p41 : lw_okq (⟨"OnionCellsModel", "seal", "(I)I"⟩, 30) := ⟨⟨by decide +kernel, by decide +kernel⟩, List.mem_of_getElem? (i := 799) (by decide +kernel), List.mem_of_getElem? (i := 959) (by decide +kernel), List.mem_of_getElem? (i := 960) (by decide +kernel)⟩
theorem lw_p42 : lw_okq (⟨"OnionCellsModel", "fed", "(I)I"⟩, 30) := ⟨⟨by decide +kernel, by decide +kernel⟩, List.mem_of_getElem? (i := 799) (by decide +kernel), List.mem_of_getElem? (i := 963) (by decide +kernel), List.mem_of_getElem? (i := 964) (by decide +kernel)⟩
theorem lw_p43 : lw_okq (⟨"OnionCellsModel", "wrap", "(I)I"⟩, 30) := ⟨⟨by decide +kernel, by decide +kernel⟩, List.mem_of_getElem? (i := 799) (by decide +kernel), List.mem_of_getElem? (i := 971) (by decide +kernel), List.mem_of_getElem? (i := 972) (by decide +kernel)⟩
theorem lw_p44 : lw_okq (⟨"OnionCellsModel", "closeNow", "(I)V"⟩, 30) := ⟨⟨by decide +kernel, by decide +kernel⟩, List.mem_of_getElem? (i := 799) (by decide +kernel), List.mem_of_getElem? (i := 997) (by decide +kernel), List.mem_of_getElem? (i := 998) (by decide +kernel)⟩
theorem lw_p45 : lw_okq (⟨"OnionCellsModel", "destroy", "(III)V"⟩, 30) := ⟨⟨by decide +kernel, by decide +kernel⟩, List.mem_of_getElem? (i := 799) (by decide +kernel), List.mem_of_getElem? (i := 1001) (by decide +kernel), List.mem_of_getElem? (i := 1002) (by decide +kernel)⟩
theorem lw_p46 : lw_okq (⟨"OnionCellsModel", "ended", "(I)V"⟩, 30) := ⟨⟨by decide +kernel, by decide +kernel⟩, List.mem_of_getElem? (i := 799) (by decide +kernel), List.mem_of_getElem? (i := 1005) (by decide +kernel), List.mem_of_getElem? (i := 1006) (by decide +kernel)⟩
theorem lw_p47 : lw_okq (⟨"OnionCellsModel", "remove", "(I)V"⟩, 30) := ⟨⟨by decide +kernel, by decide +kernel⟩, List.mem_of_getElem? (i := 799) (by decide +kernel), List.mem_of_getElem? (i := 1013) (by decide +kernel), List.mem_of_getElem? (i := 1014) (by decide +kernel)⟩
def lw_privs_3 : List (MethodName × Nat) := [(⟨"OnionCells", "readyCircuits", "()I"⟩, 5), (⟨"OnionCellsModel", "place", "(II)I"⟩, 30), (⟨"OnionCellsModel", "isOn", "(I)Z"⟩, 30), (⟨"OnionCellsModel", "dropStreams", "(II)V"⟩, 30), (⟨"OnionCellsModel", "clearBytes", "()V"⟩, 30), (⟨"OnionCellsModel", "putPair", "(II)V"⟩, 30), (⟨"OnionCellsModel", "ship", "(IIIII)V"⟩, 30), (⟨"OnionCellsModel", "order", "(III)V"⟩, 30), (⟨"OnionCellsModel", "clientSends", "(II)V"⟩, 30), (⟨"OnionCellsModel", "seal", "(I)I"⟩, 30), (⟨"OnionCellsModel", "fed", "(I)I"⟩, 30), (⟨"OnionCellsModel", "wrap", "(I)I"⟩, 30), (⟨"OnionCellsModel", "closeNow", "(I)V"⟩, 30), (⟨"OnionCellsModel", "destroy", "(III)V"⟩, 30), (⟨"OnionCellsModel", "ended", "(I)V"⟩, 30), (⟨"OnionCellsModel", "remove", "(I)V"⟩, 30)]
theorem lw_r3 : ∀ q ∈ lw_privs_3, lw_okq q := List.forall_mem_cons.mpr ⟨lw_p32, List.forall_mem_cons.mpr ⟨lw_p33, List.forall_mem_cons.mpr ⟨lw_p34, List.forall_mem_cons.mpr ⟨lw_p35, List.forall_mem_cons.mpr ⟨lw_p36, List.forall_mem_cons.mpr ⟨lw_p37, List.forall_mem_cons.mpr ⟨lw_p38, List.forall_mem_cons.mpr ⟨lw_p39, List.forall_mem_cons.mpr ⟨lw_p40, List.forall_mem_cons.mpr ⟨lw_p41, List.forall_mem_cons.mpr ⟨lw_p42, List.forall_mem_cons.mpr ⟨lw_p43, List.forall_mem_cons.mpr ⟨lw_p44, List.forall_mem_cons.mpr ⟨lw_p45, List.forall_mem_cons.mpr ⟨lw_p46, List.forall_mem_cons.mpr ⟨lw_p47, fun _ h => absurd h List.not_mem_nil⟩⟩⟩⟩⟩⟩⟩⟩⟩⟩⟩⟩⟩⟩⟩⟩
theorem lw_p48 : lw_okq (⟨"OnionCellsModel", "toClient", "(III)V"⟩, 30) := ⟨⟨by decide +kernel, by decide +kernel⟩, List.mem_of_getElem? (i := 799) (by decide +kernel), List.mem_of_getElem? (i := 1017) (by decide +kernel), List.mem_of_getElem? (i := 1018) (by decide +kernel)⟩
theorem lw_p49 : lw_okq (⟨"OnionCellsModel", "pair", "(I)I"⟩, 30) := ⟨⟨by decide +kernel, by decide +kernel⟩, List.mem_of_getElem? (i := 799) (by decide +kernel), List.mem_of_getElem? (i := 1021) (by decide +kernel), List.mem_of_getElem? (i := 1022) (by decide +kernel)⟩
theorem lw_p50 : lw_okq (⟨"OnionCellsModel", "meet", "(III)V"⟩, 30) := ⟨⟨by decide +kernel, by decide +kernel⟩, List.mem_of_getElem? (i := 799) (by decide +kernel), List.mem_of_getElem? (i := 1025) (by decide +kernel), List.mem_of_getElem? (i := 1026) (by decide +kernel)⟩
theorem lw_p51 : lw_okq (⟨"OnionCellsModel", "agree", "(IIIII)V"⟩, 30) := ⟨⟨by decide +kernel, by decide +kernel⟩, List.mem_of_getElem? (i := 799) (by decide +kernel), List.mem_of_getElem? (i := 1029) (by decide +kernel), List.mem_of_getElem? (i := 1030) (by decide +kernel)⟩
theorem lw_p52 : lw_okq (⟨"OnionCellsModel", "isKnown", "(I)Z"⟩, 30) := ⟨⟨by decide +kernel, by decide +kernel⟩, List.mem_of_getElem? (i := 799) (by decide +kernel), List.mem_of_getElem? (i := 1034) (by decide +kernel), List.mem_of_getElem? (i := 1035) (by decide +kernel)⟩
theorem lw_p53 : lw_okq (⟨"OnionCellsModel", "clientFollows", "(II)V"⟩, 30) := ⟨⟨by decide +kernel, by decide +kernel⟩, List.mem_of_getElem? (i := 799) (by decide +kernel), List.mem_of_getElem? (i := 1038) (by decide +kernel), List.mem_of_getElem? (i := 1039) (by decide +kernel)⟩
theorem lw_p54 : lw_okq (⟨"OnionCellsModel", "ofStream", "(III)V"⟩, 30) := ⟨⟨by decide +kernel, by decide +kernel⟩, List.mem_of_getElem? (i := 799) (by decide +kernel), List.mem_of_getElem? (i := 1042) (by decide +kernel), List.mem_of_getElem? (i := 1043) (by decide +kernel)⟩
theorem lw_p55 : lw_okq (⟨"OnionCellsModel", "toRelay", "(IIII)V"⟩, 30) := ⟨⟨by decide +kernel, by decide +kernel⟩, List.mem_of_getElem? (i := 799) (by decide +kernel), List.mem_of_getElem? (i := 1046) (by decide +kernel), List.mem_of_getElem? (i := 1047) (by decide +kernel)⟩
theorem lw_p56 : lw_okq (⟨"OnionCellsModel", "begun", "(III)V"⟩, 30) := ⟨⟨by decide +kernel, by decide +kernel⟩, List.mem_of_getElem? (i := 799) (by decide +kernel), List.mem_of_getElem? (i := 1050) (by decide +kernel), List.mem_of_getElem? (i := 1051) (by decide +kernel)⟩
theorem lw_p57 : lw_okq (⟨"OnionCellsModel", "forget", "(II)V"⟩, 30) := ⟨⟨by decide +kernel, by decide +kernel⟩, List.mem_of_getElem? (i := 799) (by decide +kernel), List.mem_of_getElem? (i := 1055) (by decide +kernel), List.mem_of_getElem? (i := 1056) (by decide +kernel)⟩
theorem lw_p58 : lw_okq (⟨"OnionCellsModel", "relaySends", "(II)V"⟩, 30) := ⟨⟨by decide +kernel, by decide +kernel⟩, List.mem_of_getElem? (i := 799) (by decide +kernel), List.mem_of_getElem? (i := 1059) (by decide +kernel), List.mem_of_getElem? (i := 1060) (by decide +kernel)⟩
theorem lw_p59 : lw_okq (⟨"OnionCellsModel", "relayed", "(III)V"⟩, 30) := ⟨⟨by decide +kernel, by decide +kernel⟩, List.mem_of_getElem? (i := 799) (by decide +kernel), List.mem_of_getElem? (i := 1063) (by decide +kernel), List.mem_of_getElem? (i := 1064) (by decide +kernel)⟩
theorem lw_p60 : lw_okq (⟨"OnionCellsModel", "relayFollows", "(II)V"⟩, 30) := ⟨⟨by decide +kernel, by decide +kernel⟩, List.mem_of_getElem? (i := 799) (by decide +kernel), List.mem_of_getElem? (i := 1067) (by decide +kernel), List.mem_of_getElem? (i := 1068) (by decide +kernel)⟩
theorem lw_p61 : lw_okq (⟨"OnionCellsModel", "extendAt", "(II)V"⟩, 30) := ⟨⟨by decide +kernel, by decide +kernel⟩, List.mem_of_getElem? (i := 799) (by decide +kernel), List.mem_of_getElem? (i := 1071) (by decide +kernel), List.mem_of_getElem? (i := 1072) (by decide +kernel)⟩
theorem lw_p62 : lw_okq (⟨"OnionCellsModel", "tear", "(II)V"⟩, 30) := ⟨⟨by decide +kernel, by decide +kernel⟩, List.mem_of_getElem? (i := 799) (by decide +kernel), List.mem_of_getElem? (i := 1075) (by decide +kernel), List.mem_of_getElem? (i := 1076) (by decide +kernel)⟩
theorem lw_p63 : lw_okq (⟨"OnionCellsModel", "destroyOn", "(II)V"⟩, 30) := ⟨⟨by decide +kernel, by decide +kernel⟩, List.mem_of_getElem? (i := 799) (by decide +kernel), List.mem_of_getElem? (i := 1079) (by decide +kernel), List.mem_of_getElem? (i := 1080) (by decide +kernel)⟩
def lw_privs_4 : List (MethodName × Nat) := [(⟨"OnionCellsModel", "toClient", "(III)V"⟩, 30), (⟨"OnionCellsModel", "pair", "(I)I"⟩, 30), (⟨"OnionCellsModel", "meet", "(III)V"⟩, 30), (⟨"OnionCellsModel", "agree", "(IIIII)V"⟩, 30), (⟨"OnionCellsModel", "isKnown", "(I)Z"⟩, 30), (⟨"OnionCellsModel", "clientFollows", "(II)V"⟩, 30), (⟨"OnionCellsModel", "ofStream", "(III)V"⟩, 30), (⟨"OnionCellsModel", "toRelay", "(IIII)V"⟩, 30), (⟨"OnionCellsModel", "begun", "(III)V"⟩, 30), (⟨"OnionCellsModel", "forget", "(II)V"⟩, 30), (⟨"OnionCellsModel", "relaySends", "(II)V"⟩, 30), (⟨"OnionCellsModel", "relayed", "(III)V"⟩, 30), (⟨"OnionCellsModel", "relayFollows", "(II)V"⟩, 30), (⟨"OnionCellsModel", "extendAt", "(II)V"⟩, 30), (⟨"OnionCellsModel", "tear", "(II)V"⟩, 30), (⟨"OnionCellsModel", "destroyOn", "(II)V"⟩, 30)]
theorem lw_r4 : ∀ q ∈ lw_privs_4, lw_okq q := List.forall_mem_cons.mpr ⟨lw_p48, List.forall_mem_cons.mpr ⟨lw_p49, List.forall_mem_cons.mpr ⟨lw_p50, List.forall_mem_cons.mpr ⟨lw_p51, List.forall_mem_cons.mpr ⟨lw_p52, List.forall_mem_cons.mpr ⟨lw_p53, List.forall_mem_cons.mpr ⟨lw_p54, List.forall_mem_cons.mpr ⟨lw_p55, List.forall_mem_cons.mpr ⟨lw_p56, List.forall_mem_cons.mpr ⟨lw_p57, List.forall_mem_cons.mpr ⟨lw_p58, List.forall_mem_cons.mpr ⟨lw_p59, List.forall_mem_cons.mpr ⟨lw_p60, List.forall_mem_cons.mpr ⟨lw_p61, List.forall_mem_cons.mpr ⟨lw_p62, List.forall_mem_cons.mpr ⟨lw_p63, fun _ h => absurd h List.not_mem_nil⟩⟩⟩⟩⟩⟩⟩⟩⟩⟩⟩⟩⟩⟩⟩⟩
theorem lw_p64 : lw_okq (⟨"OnionCellsModel", "dataAt", "(IIIZ)V"⟩, 30) := ⟨⟨by decide +kernel, by decide +kernel⟩, List.mem_of_getElem? (i := 799) (by decide +kernel), List.mem_of_getElem? (i := 1083) (by decide +kernel), List.mem_of_getElem? (i := 1084) (by decide +kernel)⟩
theorem lw_p65 : lw_okq (⟨"OnionCellsModel", "out", "(Z)Z"⟩, 30) := ⟨⟨by decide +kernel, by decide +kernel⟩, List.mem_of_getElem? (i := 799) (by decide +kernel), List.mem_of_getElem? (i := 1099) (by decide +kernel), List.mem_of_getElem? (i := 1100) (by decide +kernel)⟩
theorem lw_p66 : lw_okq (⟨"OnionCellsModel", "readies", "()I"⟩, 30) := ⟨⟨by decide +kernel, by decide +kernel⟩, List.mem_of_getElem? (i := 799) (by decide +kernel), List.mem_of_getElem? (i := 1123) (by decide +kernel), List.mem_of_getElem? (i := 1124) (by decide +kernel)⟩
def lw_privs_5 : List (MethodName × Nat) := [(⟨"OnionCellsModel", "dataAt", "(IIIZ)V"⟩, 30), (⟨"OnionCellsModel", "out", "(Z)Z"⟩, 30), (⟨"OnionCellsModel", "readies", "()I"⟩, 30)]
theorem lw_r5 : ∀ q ∈ lw_privs_5, lw_okq q := List.forall_mem_cons.mpr ⟨lw_p64, List.forall_mem_cons.mpr ⟨lw_p65, List.forall_mem_cons.mpr ⟨lw_p66, fun _ h => absurd h List.not_mem_nil⟩⟩⟩
def lw_privs : List (MethodName × Nat) := lw_privs_1 ++ (lw_privs_2 ++ (lw_privs_3 ++ (lw_privs_4 ++ (lw_privs_5))))
def lw_tbl : List Cond := k2_sels lw_privs ++ tables_1
theorem lw_privs_ok : ∀ q ∈ lw_privs, lw_okq q := by
  show ∀ q ∈ lw_privs_1 ++ (lw_privs_2 ++ (lw_privs_3 ++ (lw_privs_4 ++ (lw_privs_5)))), lw_okq q
  exact List.forall_mem_append.mpr ⟨lw_r1, List.forall_mem_append.mpr ⟨lw_r2, List.forall_mem_append.mpr ⟨lw_r3, List.forall_mem_append.mpr ⟨lw_r4, lw_r5⟩⟩⟩⟩

/-! ===== BEGIN words of one list among another's, by their places ===== -/
theorem goodIn_r {big : List Cond} (ws : List Cond) (ps : List Nat) (hp : ws = ps.filterMap (fun i => big[i]?)) (h : ws.all goodWord = true) : GoodIn big ws := by
  intro w hw
  have h1 := List.all_eq_true.mp h w hw
  rw [hp] at hw
  obtain ⟨i, -, hi⟩ := List.mem_filterMap.mp hw
  have hm : w ∈ big := by first | exact List.mem_of_getElem? hi | exact List.getElem?_mem hi
  exact ⟨hm, good_of_word h1⟩
theorem goodIn_app {big a b : List Cond} (ha : GoodIn big a) (hb : GoodIn big b) : GoodIn big (a ++ b) := fun w h => (List.mem_append.mp h).elim (ha w) (hb w)
theorem goodIn_ca {big a b : List Cond} {c : Cond} (ha : GoodIn big (c :: a)) (hb : GoodIn big b) : GoodIn big (c :: (a ++ b)) := fun w h => (List.mem_cons.mp h).elim (fun e => ha w (List.mem_cons.mpr (Or.inl e))) (fun h => (List.mem_append.mp h).elim (fun h => ha w (List.mem_cons.mpr (Or.inr h))) (hb w))
theorem goodIn_sub {big ws : List Cond} (hm : ∀ w ∈ ws, w ∈ big) (h : ws.all goodWord = true) : GoodIn big ws := fun w hw => ⟨hm w hw, good_of_word (List.all_eq_true.mp h w hw)⟩
/-! ===== END ===== -/

/-! ===== BEGIN exceptions that leave a method, and their catching by the caller (launches without stack traces) ===== -/
section VXA
/-! The laws vx_back, vx_callV, vx_callS, vx_callSW, vx_throw0, vx_throwS follow proofs of the library, with one case more: JvmDerived/Free/Laws.lean (Back.of_free), Shelf42/LK1.lean (callV, callS), Shelf/KitTraced.lean (throwNew0V, throwNewS). -/

/-- where a method has thrown q: the class by its name, the cell, what was written, the world -/
def vx_T (XC : String → State → State → Prop) (st : State) (q : Addr) (t : State) (mc ms : Nat) (free : Addr → Prop) : Prop :=
  ∃ (E : String) (ce : Cell) (L : List Loc), XC E st t ∧ t.heap[q]? = some ce ∧ ce.vm = .none ∧ st.vm.findClass E = some ce.cls ∧ st.WarmedH t.vm ∧ st.sameButNew ({ t with vm := st.vm } : State) L mc ms ∧ ∀ z ∈ L, free z.base
def vx_Q (Qc : Array Value → State → Outcome → State → Prop) (XC : String → State → State → Prop) (mc ms : Nat) (free : Addr → Prop) : Array Value → State → Outcome → State → Prop := fun a st o t =>
  (Qc a st o t ∧ ∃ L, FrameEnd st o t L mc ms ∧ ∀ q ∈ L, free q.base) ∨ ∃ q, o = .threw q ∧ vx_T XC st q t mc ms free
/-- a callee that returns or throws -/
def vx_Met (l : Launch) (y : MethodName) (ws : List Cond) (rm : Room) (Pc : Array Value → State → Prop) (Qc : Array Value → State → Outcome → State → Prop) (XC : String → State → State → Prop) (mc ms : Nat) (free : Addr → Prop) : Prop :=
  MetFree l y (headSpec ws rm) Pc (fun _ _ _ _ _ => True) (vx_Q Qc XC mc ms free)
def vx_Post (XC : String → State → State → Prop) (mc ms : Nat) (free : Addr → Prop) : Pt → Array Value → Addr → Pt → Prop := fun A a q B =>
  ∃ (g : JFrame) (mk : MethodId) (t : State) (L : List Loc) (E : String) (ce : Cell), B.U.heap = t.heap ∧ B.U.vm = t.vm ∧ XC E (A.U.calling g mk a) t ∧ t.heap[q]? = some ce ∧ ce.vm = .none ∧ A.U.vm.findClass E = some ce.cls ∧ B.locs = A.locs ++ L ∧ (∀ z ∈ L, free z.base) ∧ B.cells = A.cells + mc ∧ B.slots = A.slots + ms
def vx_Back (l : Launch) (R : Room) (p : Program) (e : Env) (below : List Frame) (s : State) (sargs : Array Value) (y : MethodName) (len W9 : Nat)
    (Pre : Pt → Array Value → Prop) (Post : Pt → Array Value → Option Value → Pt → Prop) (PostX : Pt → Array Value → Addr → Pt → Prop) : Prop :=
  ∀ (m : MethodId) (meth : Method) (c : Code) (A : Pt) (g : JFrame) (ig : Instr) (mk : MethodId) (a : Array Value),
    Stand p l e R s m sargs below meth c A.U A.locs A.cells A.slots → g.method = m → g.locals.size = c.maxLocals → decode c.code g.pc = .ok (ig, len) →
    2 * g.monitorRoom + (g.stack.map fun v => v.category).sum ≤ W9 → A.U.methodNamed? y = some mk → Pre A a →
    (∃ (v : Option Value) (B : Pt), Stand p l e R s m sargs below meth c B.U B.locs B.cells B.slots ∧ Post A a v B ∧
      Steps p.tables e below (doInvoke e (A.U.setTop g) [] mk a).1 (B.U.setTop { g with pc := g.pc + len, stack := v.toList ++ g.stack })) ∨
    (∃ (q : Addr) (B : Pt), Stand p l e R s m sargs below meth c B.U B.locs B.cells B.slots ∧ PostX A a q B ∧
      Steps p.tables e below (doInvoke e (A.U.setTop g) [] mk a).1 ((B.U.setTop g).pushFrame (.throwing q)))
section Payer
variable {l : Launch} {R : Room} {p : Program} {e : Env} {below : List Frame} {s : State} {sargs : Array Value} {y : MethodName} {len W9 : Nat}
theorem vx_back {ws : List Cond} {rm : Room} {Pc : Array Value → State → Prop} {Qc : Array Value → State → Outcome → State → Prop} {XC : String → State → State → Prop} {mc ms : Nat} {free : Addr → Prop} {bytes : ByteArray} {maxL : Nat} {ret : Option FieldType}
    (hM : vx_Met l y ws rm Pc Qc XC mc ms free) (hblind : FrameBlind Pc) (hrc : rm.cells = mc) (hrs : rm.slots = ms)
    (hframes : rm.frames + 1 ≤ R.frames) (hlocals : W9 + (maxL + 11) + rm.locals ≤ R.locals)
    (hws : ∀ w ∈ ws, ∀ a' U, s.WarmedH U.vm → w.before a' U = true) (hcode : Cond.code y bytes maxL ret ∈ ws) (hinit : ∀ a' U, s.WarmedH U.vm → (Cond.initialized y.cls).before a' U = true) :
    vx_Back l R p e below s sargs y len W9 (PreOf R mc ms Pc) (PostOf Qc mc ms free) (vx_Post XC mc ms free) := by
  intro m meth c A g ig mk a X hg hsize hdg hW hn hp
  have h1 : (headSpec ws rm).pre.before a A.U = true := atoms_intro fun w hw => hws w hw _ _ X.warmed
  have h2 : (Cond.code y bytes maxL ret).before a A.U = true := hws _ hcode _ _ X.warmed
  have h3 : (Cond.initialized y.cls).before a A.U = true := hinit _ _ X.warmed
  have h4 : A.cells + (headSpec ws rm).room.cells ≤ R.cells := by rw [show (headSpec ws rm).room.cells = mc from hrc]; exact hp.1
  have h5 : A.slots + (headSpec ws rm).room.slots ≤ R.slots := by rw [show (headSpec ws rm).room.slots = ms from hrs]; exact hp.2.1
  have hPc : Pc a (A.U.calling g mk a) := hblind _ _ _ _ hp.2.2
  obtain ⟨U, Ls, c0, s0⟩ := A
  dsimp only [Pt.U, Pt.locs, Pt.cells, Pt.slots] at h1 h2 h3 h4 h5 X hn hPc ⊢
  obtain ⟨methY, cY, hmY, hcY, -, hlY, -, -, -, -⟩ := Cond.code_spec hn h2
  obtain ⟨kY, hkY, -⟩ := className_of_methodNamed hn
  have hinitY : kY.init = .initialized := Cond.initialized_spec (findClass_of_methodNamed hn) hkY h3
  have h : At U g.method c below := by rw [hg]; exact X.here
  have hlocals9 : W9 + (maxL + 11) + (headSpec ws rm).room.locals ≤ R.locals := hlocals
  have happ : (headSpec ws rm).appliesLoose y e.platform (U.calling g mk a) = true :=
    Spec.appliesLoose_calling (g := g) h hdg hn hkY hinitY
      (X.room_calling (g := g) (R' := (headSpec ws rm).room) hsize hmY hcY hframes (by rw [hlY]; omega) h4 h5) h1
  obtain ⟨mid, hmid⟩ := h.above
  have hfr : (U.setTop g).frames = (.java g :: mid) ++ below := by rw [State.frames_setTop' g h.top, hmid]; rfl
  obtain ⟨o, s₂, hsteps, -, hend, hq⟩ := Steps.callFree hM p X.admits X.cas X.clock (acts := []) hfr happ hPc trivial
  have hq' : vx_Q Qc XC mc ms free a (U.calling g mk a) o s₂ := hq
  rw [State.frames_setTop' g h.top] at hend
  obtain ⟨g₀, hg0⟩ := Option.isSome_iff_exists.mp h.top
  obtain ⟨r, hr⟩ := State.topJava?_eq_some.mp hg0
  have hr' : (({ U with heap := s₂.heap, slotsUsed := s₂.slotsUsed } : State).setVm s₂.vm).frames = .java g₀ :: r := hr
  rcases hq' with ⟨hqc, L, hfe, hL⟩ | ⟨q, rfl, E, ce, L, hx, hce, hcv, hcl, hW₂, hsm, hL⟩
  · obtain ⟨⟨v, rfl⟩, hW₂, e2, q2, q3, q4, q5, q6⟩ := id hfe
    have e3 : s₂ = ({ (U.calling g mk a).setFrames s₂.frames with heap := s₂.heap, slotsUsed := s₂.slotsUsed } : State).setVm s₂.vm := by
      have : s₂ = ({ s₂ with vm := (U.calling g mk a).vm } : State).setVm s₂.vm := rfl
      rw [e2] at this
      exact this
    obtain ⟨c₂, i₂, len₂, hc₂, hd₂, hf₂⟩ := hend
    have hW' : U.WarmedH s₂.vm := hW₂
    have hcc : c₂ = c := by
      have h1 : s₂.code? g.method = U.code? g.method := by
        rw [State.code?_eq, State.code?_eq, hW'.alike.method?]
      exact Option.some.inj (hc₂.symm.trans (h1.trans h.code))
    subst hcc
    have hlen : len₂ = len := by rw [hdg] at hd₂; cases hd₂; rfl
    subst hlen
    have hs₂ : s₂ = (({ U with heap := s₂.heap, slotsUsed := s₂.slotsUsed } : State).setVm s₂.vm).setTop { g with pc := g.pc + len₂, stack := v.toList ++ g.stack } := by
      refine e3.trans ?_
      rw [hf₂, State.calling_eq h.top, State.setFrames_setFrames, State.setTop_of_frames _ hr', hr]
      rfl
    have hsame : U.sameButNew ({ U with heap := s₂.heap, slotsUsed := s₂.slotsUsed } : State) L mc ms := by
      refine ⟨?_, q2, q3, q4, q5, q6⟩
      obtain ⟨t, ht, -⟩ := State.frames_cons hr
      show ({ U with heap := s₂.heap, slotsUsed := s₂.slotsUsed } : State) = { U.setFrames U.frames with heap := s₂.heap, slotsUsed := s₂.slotsUsed }
      rw [State.setFrames_self ht]
    subst hg
    refine Or.inl ⟨v, ⟨(({ U with heap := s₂.heap, slotsUsed := s₂.slotsUsed } : State).setVm s₂.vm), Ls ++ L, c0 + mc, s0 + ms⟩,
      ⟨X.admits, X.cas, X.clock, X.frames, X.room, X.hears, X.method, X.code, (X.here.setHeapUsed s₂.heap s₂.slotsUsed).setVm hW'.alike, X.tail, State.WarmedH.trans X.warmed hW', X.limits, X.bytes, X.same.trans (hsame.setVm s.vm)⟩,
      ⟨g, mk, s₂, L, rfl, rfl, hqc, rfl, hL, rfl, rfl⟩, ?_⟩
    show Steps p.tables e below _ ((({ U with heap := s₂.heap, slotsUsed := s₂.slotsUsed } : State).setVm s₂.vm).setTop { g with pc := g.pc + len₂, stack := v.toList ++ g.stack })
    rw [← hs₂]
    exact hsteps
  · obtain ⟨e2, q2, q3, q4, q5, q6⟩ := id hsm
    have e3 : s₂ = ({ (U.calling g mk a).setFrames s₂.frames with heap := s₂.heap, slotsUsed := s₂.slotsUsed } : State).setVm s₂.vm := by
      have : s₂ = ({ s₂ with vm := (U.calling g mk a).vm } : State).setVm s₂.vm := rfl
      rw [e2] at this
      exact this
    have hf₂ : s₂.frames = .throwing q :: .java g :: U.frames.tail := hend
    have hW' : U.WarmedH s₂.vm := hW₂
    have hs₂ : s₂ = ((({ U with heap := s₂.heap, slotsUsed := s₂.slotsUsed } : State).setVm s₂.vm).setTop g).pushFrame (.throwing q) := by
      refine e3.trans ?_
      rw [hf₂, State.calling_eq h.top, State.setFrames_setFrames, State.pushFrame, State.frames_setTop _ hr', State.setTop_of_frames _ hr', State.setFrames_setFrames, hr]
      rfl
    have hsame : U.sameButNew ({ U with heap := s₂.heap, slotsUsed := s₂.slotsUsed } : State) L mc ms := by
      refine ⟨?_, q2, q3, q4, q5, q6⟩
      obtain ⟨t, ht, -⟩ := State.frames_cons hr
      show ({ U with heap := s₂.heap, slotsUsed := s₂.slotsUsed } : State) = { U.setFrames U.frames with heap := s₂.heap, slotsUsed := s₂.slotsUsed }
      rw [State.setFrames_self ht]
    subst hg
    refine Or.inr ⟨q, ⟨(({ U with heap := s₂.heap, slotsUsed := s₂.slotsUsed } : State).setVm s₂.vm), Ls ++ L, c0 + mc, s0 + ms⟩,
      ⟨X.admits, X.cas, X.clock, X.frames, X.room, X.hears, X.method, X.code, (X.here.setHeapUsed s₂.heap s₂.slotsUsed).setVm hW'.alike, X.tail, State.WarmedH.trans X.warmed hW', X.limits, X.bytes, X.same.trans (hsame.setVm s.vm)⟩,
      ⟨g, mk, s₂, L, E, ce, rfl, rfl, hx, hce, hcv, hcl, rfl, hL, rfl, rfl⟩, ?_⟩
    show Steps p.tables e below _ (((({ U with heap := s₂.heap, slotsUsed := s₂.slotsUsed } : State).setVm s₂.vm).setTop g).pushFrame (.throwing q))
    rw [← hs₂]
    exact hsteps
end Payer
section Calls
variable {p : Program} {l : Launch} {e : Env} {R : Room} {s : State} {m : MethodId} {args : Array Value} {below : List Frame} {meth : Method} {c : Code} {T : State} {locs : List Loc} {cells slots : Nat}
theorem vx_callV (X : Stand p l e R s m args below meth c T locs cells slots) (hexec : p.tables.exec = Jvm.exec) {own C : String} {index : Nat} {y : MethodName} {bytes : ByteArray} {maxL : Nat} {ret : Option FieldType}
    (hown : s.vm.findClass own = some m.cls) (hlink : (Cond.methodLink own index y).before args s = true) (hinst : (Cond.instanceMethod y).before args s = true) (hsel : (Cond.selects C y y).before args s = true)
    (hcode : (Cond.code y bytes maxL ret).before args s = true) (hy : y.cls ≠ "java/lang/invoke/MethodHandle" ∧ y.cls ≠ "java/lang/invoke/VarHandle")
    {W9 : Nat} {Pre : Pt → Array Value → Prop} {Post : Pt → Array Value → Option Value → Pt → Prop} {PostX : Pt → Array Value → Addr → Pt → Prop} (hK : vx_Back l R p e below s args y 3 W9 Pre Post PostX)
    {b : Addr} {cellB : Cell} (hcell : T.heap[b]? = some cellB) (hobj : cellB.vm.isStatics = false) (hcls : s.vm.findClass C = some cellB.cls)
    {g : JFrame} (hg : g.method = m) (hsize : g.locals.size = c.maxLocals) {argsL rest : List Value} (hlen : ∀ sig, parseMethodDescriptor y.desc = some sig → argsL.length = sig.parameters.length)
    (hstack : g.stack = argsL.reverse ++ .ref b :: rest) (hW : 2 * g.monitorRoom + (rest.map fun v => v.category).sum ≤ W9) (hdg : decode c.code g.pc = .ok (.invokevirtual index, 3))
    (hpre : ∀ vm₁, s.WarmedH vm₁ → Pre ⟨T.setVm vm₁, locs, cells, slots⟩ (Value.ref b :: argsL).toArray) :
    (∃ (v : Option Value) (vm₁ : Vm) (B : Pt), s.WarmedH vm₁ ∧ Stand p l e R s m args below meth c B.U B.locs B.cells B.slots ∧ Post ⟨T.setVm vm₁, locs, cells, slots⟩ (Value.ref b :: argsL).toArray v B ∧
      ∀ target, Steps p.tables e below (B.U.setTop { g with pc := g.pc + 3, stack := v.toList ++ rest }) target → Steps p.tables e below (T.setTop g) target) ∨
    (∃ (q : Addr) (vm₁ : Vm) (B : Pt), s.WarmedH vm₁ ∧ Stand p l e R s m args below meth c B.U B.locs B.cells B.slots ∧ PostX ⟨T.setVm vm₁, locs, cells, slots⟩ (Value.ref b :: argsL).toArray q B ∧
      Steps p.tables e below (T.setTop g) ((B.U.setTop { g with stack := rest }).pushFrame (.throwing q))) := by
  obtain ⟨mk, methM, hnamed, hmethM, hstM, habM⟩ := Cond.instanceMethod_spec hinst
  obtain ⟨methM', cM, hmethM', -, -, -, -, -, -, hsigM⟩ := Cond.code_spec hnamed hcode
  cases hmethM.symm.trans hmethM'
  obtain ⟨c2, r2, m2, q1, q2, q3, q4, kP, hkP, hkPi⟩ := Cond.selects_spec hsel
  cases hcls.symm.trans q1
  cases (State.methodFound?_of_named hnamed hy).symm.trans q2
  cases hnamed.symm.trans q3
  have hselP : selectMethod e.platform s.vm cellB.cls mk = .method mk := by rw [Launch.admits_selectMethod X.admits]; exact q4
  obtain ⟨vm₁, X₁, hstep₁⟩ := X.invokevirtual hexec hown hlink hnamed hmethM hstM hkP hkPi hy (a := b) (cell := cellB) hcell
    (fun z h => by rw [h] at hobj; cases hobj) hselP hmethM habM hkP hkPi (g := g) hg (argsL := argsL) (rest := rest) (hlen _ hsigM) hstack hdg
  rcases hK m meth c ⟨T.setVm vm₁, locs, cells, slots⟩ { g with stack := rest } (.invokevirtual index) mk (Value.ref b :: argsL).toArray X₁ hg hsize hdg hW (X₁.named hnamed) (hpre vm₁ X₁.warmed) with ⟨v, B, X', hpost, hsteps⟩ | ⟨q, B, X', hpost, hsteps⟩
  · exact Or.inl ⟨v, vm₁, B, X₁.warmed, X', hpost, fun target h => hstep₁ _ fun acts => by rw [doInvoke_state]; exact hsteps.trans h⟩
  · exact Or.inr ⟨q, vm₁, B, X₁.warmed, X', hpost, hstep₁ _ fun acts => by rw [doInvoke_state]; exact hsteps⟩
theorem vx_callS (X : Stand p l e R s m args below meth c T locs cells slots) (hexec : p.tables.exec = Jvm.exec) {own : String} {index : Nat} {y : MethodName} {bytes : ByteArray} {maxL : Nat} {ret : Option FieldType}
    (hown : s.vm.findClass own = some m.cls) (hlink : (Cond.methodLink own index y).before args s = true) (hstat : (Cond.static y).before args s = true) (hinit : (Cond.initialized y.cls).before args s = true)
    (hcode : (Cond.code y bytes maxL ret).before args s = true) (hy : y.cls ≠ "java/lang/invoke/MethodHandle" ∧ y.cls ≠ "java/lang/invoke/VarHandle")
    {W9 : Nat} {Pre : Pt → Array Value → Prop} {Post : Pt → Array Value → Option Value → Pt → Prop} {PostX : Pt → Array Value → Addr → Pt → Prop} (hK : vx_Back l R p e below s args y 3 W9 Pre Post PostX)
    {g : JFrame} (hg : g.method = m) (hsize : g.locals.size = c.maxLocals) {argsL rest : List Value} (hlen : ∀ sig, parseMethodDescriptor y.desc = some sig → argsL.length = sig.parameters.length)
    (hstack : g.stack = argsL.reverse ++ rest) (hW : 2 * g.monitorRoom + (rest.map fun v => v.category).sum ≤ W9) (hdg : decode c.code g.pc = .ok (.invokestatic index, 3))
    (hpre : ∀ vm₁, s.WarmedH vm₁ → Pre ⟨T.setVm vm₁, locs, cells, slots⟩ argsL.toArray) :
    (∃ (v : Option Value) (vm₁ : Vm) (B : Pt), s.WarmedH vm₁ ∧ Stand p l e R s m args below meth c B.U B.locs B.cells B.slots ∧ Post ⟨T.setVm vm₁, locs, cells, slots⟩ argsL.toArray v B ∧
      ∀ target, Steps p.tables e below (B.U.setTop { g with pc := g.pc + 3, stack := v.toList ++ rest }) target → Steps p.tables e below (T.setTop g) target) ∨
    (∃ (q : Addr) (vm₁ : Vm) (B : Pt), s.WarmedH vm₁ ∧ Stand p l e R s m args below meth c B.U B.locs B.cells B.slots ∧ PostX ⟨T.setVm vm₁, locs, cells, slots⟩ argsL.toArray q B ∧
      Steps p.tables e below (T.setTop g) ((B.U.setTop { g with stack := rest }).pushFrame (.throwing q))) := by
  obtain ⟨mk, hnamed⟩ := Cond.code_named hcode
  obtain ⟨methM, cM, hmethM, -, -, -, -, -, -, hsigM⟩ := Cond.code_spec hnamed hcode
  have hstatic : methM.isStatic = true := Cond.static_spec hnamed hmethM hstat
  obtain ⟨kP, hkP, -⟩ := className_of_methodNamed hnamed
  have hinitP : kP.init = .initialized := Cond.initialized_spec (findClass_of_methodNamed hnamed) hkP hinit
  obtain ⟨vm₁, X₁, hstep₁⟩ := X.invokestatic hexec hown hlink hnamed hmethM hstatic hkP hinitP hy (g := g) hg (argsL := argsL) (rest := rest) (hlen _ hsigM) hstack hdg
  rcases hK m meth c ⟨T.setVm vm₁, locs, cells, slots⟩ { g with stack := rest } (.invokestatic index) mk argsL.toArray X₁ hg hsize hdg hW (X₁.named hnamed) (hpre vm₁ X₁.warmed) with ⟨v, B, X', hpost, hsteps⟩ | ⟨q, B, X', hpost, hsteps⟩
  · exact Or.inl ⟨v, vm₁, B, X₁.warmed, X', hpost, fun target h => hstep₁ _ fun acts => by rw [doInvoke_state]; exact hsteps.trans h⟩
  · exact Or.inr ⟨q, vm₁, B, X₁.warmed, X', hpost, hstep₁ _ fun acts => by rw [doInvoke_state]; exact hsteps⟩
end Calls
theorem vx_cls {s : State} {T : State} {vm₁ : Vm} {E : String} {k : ClassId} (hW : s.WarmedH vm₁) (h : (T.setVm vm₁).vm.findClass E = some k) : s.vm.findClass E = some k := by
  have h1 : vm₁.findClass E = some k := h
  rw [hW.alike.findClass] at h1
  exact h1
/-- the method's frame g, with q thrown over it -/
def vx_W (p : Program) (l : Launch) (e : Env) (R : Room) (s : State) (m : MethodId) (args : Array Value) (below : List Frame) (meth : Method) (c : Code) (H : Heap) (locs : List Loc) (cells slots : Nat) (Q : State → Prop) (g : JFrame) (q : Addr) : Prop :=
  ∀ T : State, T.heap = H → Stand p l e R s m args below meth c T locs cells slots → ∃ t, Steps p.tables e below ((T.setTop g).pushFrame (.throwing q)) t ∧ Q t
def vx_Run (p : Program) (l : Launch) (e : Env) (R : Room) (s : State) (m : MethodId) (args : Array Value) (below : List Frame) (meth : Method) (c : Code) (H : Heap) (locs : List Loc) (cells slots mc ms : Nat) (g : JFrame) (rest : List Value) (Qa : State → Outcome → State → Prop) (XC : String → State → State → Prop) (free : Addr → Prop) : Prop :=
  ∀ T : State, T.heap = H → Stand p l e R s m args below meth c T locs cells slots →
    (∃ (v : Option Value) (st₀ t T' : State) (L : List Loc), st₀.heap = H ∧ Stand p l e R s m args below meth c T' (locs ++ L) (cells + mc) (slots + ms) ∧ (∀ q ∈ L, free q.base) ∧ T'.heap = t.heap ∧ T'.vm = t.vm ∧ Qa st₀ (.returned v) t ∧
      Goes p e below T g T' { g with pc := g.pc + 3, stack := v.toList ++ rest }) ∨
    (∃ (q : Addr) (st₀ t T' : State) (L : List Loc) (E : String) (ce : Cell), st₀.heap = H ∧ Stand p l e R s m args below meth c T' (locs ++ L) (cells + mc) (slots + ms) ∧ (∀ z ∈ L, free z.base) ∧ T'.heap = t.heap ∧ T'.vm = t.vm ∧ XC E st₀ t ∧ t.heap[q]? = some ce ∧ ce.vm = .none ∧ s.vm.findClass E = some ce.cls ∧
      Steps p.tables e below (T.setTop g) ((T'.setTop { g with stack := rest }).pushFrame (.throwing q)))
def vx_X {S : Type} (px : S → Prop) (B : String → S → State → Prop) (A : Nat → Prop) : String → State → State → Prop := fun E st t => ∃ u : S, px u ∧ B E u t ∧ va_F A st t
section Runs
variable {p : Program} {l : Launch} {e : Env} {R : Room} {s : State} {m : MethodId} {args : Array Value} {below : List Frame} {meth : Method} {c : Code} {H : Heap} {locs : List Loc} {cells slots : Nat}
variable {y : MethodName} {bytes cc : ByteArray} {maxL nL mc ms n index : Nat} {ret : Option FieldType} {ws : List Cond} {rm : Room} {Pc : Array Value → State → Prop} {Qc : Array Value → State → Outcome → State → Prop} {XC : String → State → State → Prop} {free : Addr → Prop} {Ts : List Cond} {own C : String} {b : Addr} {As rest : List Value} {g : JFrame}
theorem vx_callBack (cb : CallB R s args own index y bytes maxL ret ws rm mc ms n) (hM : vx_Met l y ws rm Pc Qc XC mc ms free) (hbl : FrameBlind Pc) : vx_Back l R p e below s args y 3 8 (PreOf R mc ms Pc) (PostOf Qc mc ms free) (vx_Post XC mc ms free) := by
  obtain ⟨hrc, hrs, hfr, hlo, hws, hcw, -, hini, -⟩ := cb
  exact vx_back (bytes := bytes) (maxL := maxL) (ret := ret) hM hbl hrc hrs hfr hlo hws hcw (fun a' U hW => word_at hW (Or.inl (by first | rfl | simp [Cond.onTables, Cond.keeps, Cond.steady])) hini)
theorem vx_runV (S : CallFix p m c cc nL s args Ts own) (hM : vx_Met l y ws rm Pc Qc XC mc ms free) (cw : CallW R s args own C index y bytes maxL ret ws rm mc ms n) (hp : PreV s H C b Pc As)
    (hg : g.method = m) (hn : As.length = n) (hsize : g.locals.size = nL) (hstack : g.stack = As.reverse ++ .ref b :: rest) (hW : 2 * g.monitorRoom + (rest.map fun v => v.category).sum ≤ 8) (hdg : decode cc g.pc = .ok (.invokevirtual index, 3)) (hf : cells + mc ≤ R.cells ∧ slots + ms ≤ R.slots) :
    vx_Run p l e R s m args below meth c H locs cells slots mc ms g rest (Qc (Value.ref b :: As).toArray) XC free := by
  have hK : vx_Back l R p e below s args y 3 8 (PreOf R mc ms Pc) (PostOf Qc mc ms free) (vx_Post XC mc ms free) := vx_callBack cw.1 hM hp.1
  obtain ⟨⟨-, -, -, -, -, -, hcode, -, hy, hlen, hl⟩, hin, hse⟩ := cw
  obtain ⟨hx, hb, hml, ho, -⟩ := S
  obtain ⟨-, ⟨cellB, hcB, hoB, hclB⟩, hPc⟩ := hp
  intro T hT X
  rcases vx_callV X hx (C := C) (bytes := bytes) (maxL := maxL) (ret := ret) ho hl hin hse hcode hy hK (by rw [hT]; exact hcB) hoB hclB hg (hsize.trans hml.symm) (argsL := As) (rest := rest) (fun sig h => hn.trans (hlen sig h)) hstack hW (by rw [hb]; exact hdg)
    (fun vm₁ hW₁ => ⟨hf.1, hf.2, hPc (T.setVm vm₁) hT hW₁⟩) with ⟨v, vm₁, ⟨U', l2, c2, s2⟩, hW₁, X', ⟨g', mk, t, L, e1, e2, hq, h1, hL, h2, h3⟩, st⟩ | ⟨q, vm₁, ⟨U', l2, c2, s2⟩, hW₁, X', ⟨g', mk, t, L, E, ce, e1, e2, hq, hce, hcv, hcl, h1, hL, h2, h3⟩, st⟩
  · dsimp only [Pt.U, Pt.locs, Pt.cells, Pt.slots] at X' e1 e2 h1 h2 h3 st
    subst h1; subst h2; subst h3
    exact Or.inl ⟨v, (T.setVm vm₁).calling g' mk (Value.ref b :: As).toArray, t, U', L, hT, X', hL, e1, e2, hq, st⟩
  · dsimp only [Pt.U, Pt.locs, Pt.cells, Pt.slots] at X' e1 e2 h1 h2 h3 st hcl
    subst h1; subst h2; subst h3
    exact Or.inr ⟨q, (T.setVm vm₁).calling g' mk (Value.ref b :: As).toArray, t, U', L, E, ce, hT, X', hL, e1, e2, hq, hce, hcv, vx_cls hW₁ hcl, st⟩
theorem vx_runS (S : CallFix p m c cc nL s args Ts own) (hM : vx_Met l y ws rm Pc Qc XC mc ms free) (cw : CallB R s args own index y bytes maxL ret ws rm mc ms n ∧ (Cond.static y).before args s = true) (hp : PreS s H Pc As)
    (hg : g.method = m) (hn : As.length = n) (hsize : g.locals.size = nL) (hstack : g.stack = As.reverse ++ rest) (hW : 2 * g.monitorRoom + (rest.map fun v => v.category).sum ≤ 8) (hdg : decode cc g.pc = .ok (.invokestatic index, 3)) (hf : cells + mc ≤ R.cells ∧ slots + ms ≤ R.slots) :
    vx_Run p l e R s m args below meth c H locs cells slots mc ms g rest (Qc As.toArray) XC free := by
  have hK : vx_Back l R p e below s args y 3 8 (PreOf R mc ms Pc) (PostOf Qc mc ms free) (vx_Post XC mc ms free) := vx_callBack cw.1 hM hp.1
  obtain ⟨⟨-, -, -, -, -, -, hcode, hini, hy, hlen, hl⟩, hstt⟩ := cw
  obtain ⟨hx, hb, hml, ho, -⟩ := S
  intro T hT X
  rcases vx_callS X hx (bytes := bytes) (maxL := maxL) (ret := ret) ho hl hstt hini hcode hy hK hg (hsize.trans hml.symm) (argsL := As) (rest := rest) (fun sig h => hn.trans (hlen sig h)) hstack hW (by rw [hb]; exact hdg)
    (fun vm₁ hW₁ => ⟨hf.1, hf.2, hp.2 (T.setVm vm₁) hT hW₁⟩) with ⟨v, vm₁, ⟨U', l2, c2, s2⟩, hW₁, X', ⟨g', mk, t, L, e1, e2, hq, h1, hL, h2, h3⟩, st⟩ | ⟨q, vm₁, ⟨U', l2, c2, s2⟩, hW₁, X', ⟨g', mk, t, L, E, ce, e1, e2, hq, hce, hcv, hcl, h1, hL, h2, h3⟩, st⟩
  · dsimp only [Pt.U, Pt.locs, Pt.cells, Pt.slots] at X' e1 e2 h1 h2 h3 st
    subst h1; subst h2; subst h3
    exact Or.inl ⟨v, (T.setVm vm₁).calling g' mk As.toArray, t, U', L, hT, X', hL, e1, e2, hq, st⟩
  · dsimp only [Pt.U, Pt.locs, Pt.cells, Pt.slots] at X' e1 e2 h1 h2 h3 st hcl
    subst h1; subst h2; subst h3
    exact Or.inr ⟨q, (T.setVm vm₁).calling g' mk As.toArray, t, U', L, E, ce, hT, X', hL, e1, e2, hq, hce, hcv, vx_cls hW₁ hcl, st⟩
end Runs
section Rows
variable {p : Program} {l : Launch} {e : Env} {R : Room} {s : State} {m : MethodId} {args : Array Value} {below : List Frame} {meth : Method} {c : Code} {H : Heap} {locs : List Loc} {cells slots : Nat} {Q : State → Prop}
variable {mc ms : Nat} {free : Addr → Prop} {A0 A1 : Nat → Prop} {H0 : Heap} {a : Array Value} {pc : Nat} {ls : Array Slot} {st0 rest : List Value}
theorem vx_keep {st₀ t T' : State} {L : List Loc} (h0 : st₀.heap = H) (e1 : T'.heap = t.heap) (hS : va_S A0 H0 H locs) (hA : ∀ q, q < H.size → A1 q → A0 q) (hf : ∀ q, free q → A0 q) (hL : ∀ q ∈ L, free q.base) (hF : va_F A1 st₀ t) :
    H.size ≤ T'.heap.size ∧ (∀ q : Nat, q < H.size → ¬ A1 q → T'.heap[q]? = H[q]?) ∧ va_S A0 H0 T'.heap (locs ++ L) := by
  obtain ⟨hz, hk⟩ := hF
  rw [h0] at hz hk
  exact ⟨by rw [e1]; exact hz, fun q h1 h2 => by rw [e1]; exact hk q h1 h2,
    ⟨Nat.le_trans hS.1 (by rw [e1]; exact hz), fun q h1 h2 => by rw [e1, hk q (Nat.lt_of_lt_of_le h1 hS.1) (fun z => h2 (hA q (Nat.lt_of_lt_of_le h1 hS.1) z))]; exact hS.2.1 q h1 h2, fun q hq => by
      rcases List.mem_append.mp hq with h | h
      · exact hS.2.2 q h
      · exact hf _ (hL q h)⟩⟩
theorem vx_calli {S SX : Type} {post : Int32 → S → Prop} {px : SX → Prop} {B : S → State → Prop} {BX : String → SX → State → Prop} {AX : Nat → Prop} (hr : vx_Run p l e R s m args below meth c H locs cells slots mc ms (F0 m pc ls st0) rest (va_Qi post B A1 a) (vx_X px BX AX) free) (hS : va_S A0 H0 H locs) (hA : ∀ q, q < H.size → A1 q → A0 q) (hf : ∀ q, free q → A0 q) (hAX : ∀ q, q < H.size → AX q → A0 q)
    (kx : ∀ (E : String) (ce : Cell) (q9 : Addr) (u : SX) (t : State) (H1 : Heap) (locs1 : List Loc), t.heap = H1 → s.vm.Alike t.vm → px u → BX E u t → H.size ≤ H1.size → (∀ q : Nat, q < H.size → ¬ AX q → H1[q]? = H[q]?) → va_S A0 H0 H1 locs1 → H1[q9]? = some ce → ce.vm = .none → s.vm.findClass E = some ce.cls → vx_W p l e R s m args below meth c H1 locs1 (cells + mc) (slots + ms) Q (F0 m pc ls rest) q9)
    (kk : ∀ (r : Int32) (u : S) (t : State) (H1 : Heap) (locs1 : List Loc), t.heap = H1 → s.vm.Alike t.vm → post r u → B u t → H.size ≤ H1.size → (∀ q : Nat, q < H.size → ¬ A1 q → H1[q]? = H[q]?) → va_S A0 H0 H1 locs1 → W p l e R s m args below meth c H1 locs1 (cells + mc) (slots + ms) Q (F0 m (pc + 3) ls (.int r :: rest))) : W p l e R s m args below meth c H locs cells slots Q (F0 m pc ls st0) := by
  intro T hT X
  rcases hr T hT X with ⟨v, st₀, t, T', L, h0, X', hL, e1, e2, ⟨⟨r, u, hv, hp, hb⟩, hF⟩, st⟩ | ⟨q, st₀, t, T', L, E, ce, h0, X', hL, e1, e2, ⟨u, hp, hb, hF⟩, hce, hcv, hcl, st⟩
  · cases hv
    obtain ⟨k1, k2, k3⟩ := vx_keep h0 e1 hS hA hf hL hF
    obtain ⟨t2, a1, b1⟩ := kk r u t T'.heap (locs ++ L) e1.symm (by rw [← e2]; exact X'.warmed.alike) hp hb k1 k2 k3 T' rfl X'
    exact ⟨t2, st t2 a1, b1⟩
  · obtain ⟨k1, k2, k3⟩ := vx_keep h0 e1 hS hAX hf hL hF
    obtain ⟨t2, a1, b1⟩ := kx E ce q u t T'.heap (locs ++ L) e1.symm (by rw [← e2]; exact X'.warmed.alike) hp hb k1 k2 k3 (by rw [e1]; exact hce) hcv hcl T' rfl X'
    exact ⟨t2, st.trans a1, b1⟩
theorem vx_calll {S SX : Type} {post : Int64 → S → Prop} {px : SX → Prop} {B : S → State → Prop} {BX : String → SX → State → Prop} {AX : Nat → Prop} (hr : vx_Run p l e R s m args below meth c H locs cells slots mc ms (F0 m pc ls st0) rest (va_Ql post B A1 a) (vx_X px BX AX) free) (hS : va_S A0 H0 H locs) (hA : ∀ q, q < H.size → A1 q → A0 q) (hf : ∀ q, free q → A0 q) (hAX : ∀ q, q < H.size → AX q → A0 q)
    (kx : ∀ (E : String) (ce : Cell) (q9 : Addr) (u : SX) (t : State) (H1 : Heap) (locs1 : List Loc), t.heap = H1 → s.vm.Alike t.vm → px u → BX E u t → H.size ≤ H1.size → (∀ q : Nat, q < H.size → ¬ AX q → H1[q]? = H[q]?) → va_S A0 H0 H1 locs1 → H1[q9]? = some ce → ce.vm = .none → s.vm.findClass E = some ce.cls → vx_W p l e R s m args below meth c H1 locs1 (cells + mc) (slots + ms) Q (F0 m pc ls rest) q9)
    (kk : ∀ (r : Int64) (u : S) (t : State) (H1 : Heap) (locs1 : List Loc), t.heap = H1 → s.vm.Alike t.vm → post r u → B u t → H.size ≤ H1.size → (∀ q : Nat, q < H.size → ¬ A1 q → H1[q]? = H[q]?) → va_S A0 H0 H1 locs1 → W p l e R s m args below meth c H1 locs1 (cells + mc) (slots + ms) Q (F0 m (pc + 3) ls (.long r :: rest))) : W p l e R s m args below meth c H locs cells slots Q (F0 m pc ls st0) := by
  intro T hT X
  rcases hr T hT X with ⟨v, st₀, t, T', L, h0, X', hL, e1, e2, ⟨⟨r, u, hv, hp, hb⟩, hF⟩, st⟩ | ⟨q, st₀, t, T', L, E, ce, h0, X', hL, e1, e2, ⟨u, hp, hb, hF⟩, hce, hcv, hcl, st⟩
  · cases hv
    obtain ⟨k1, k2, k3⟩ := vx_keep h0 e1 hS hA hf hL hF
    obtain ⟨t2, a1, b1⟩ := kk r u t T'.heap (locs ++ L) e1.symm (by rw [← e2]; exact X'.warmed.alike) hp hb k1 k2 k3 T' rfl X'
    exact ⟨t2, st t2 a1, b1⟩
  · obtain ⟨k1, k2, k3⟩ := vx_keep h0 e1 hS hAX hf hL hF
    obtain ⟨t2, a1, b1⟩ := kx E ce q u t T'.heap (locs ++ L) e1.symm (by rw [← e2]; exact X'.warmed.alike) hp hb k1 k2 k3 (by rw [e1]; exact hce) hcv hcl T' rfl X'
    exact ⟨t2, st.trans a1, b1⟩
theorem vx_callf {S SX : Type} {post : UInt32 → S → Prop} {px : SX → Prop} {B : S → State → Prop} {BX : String → SX → State → Prop} {AX : Nat → Prop} (hr : vx_Run p l e R s m args below meth c H locs cells slots mc ms (F0 m pc ls st0) rest (va_Qf post B A1 a) (vx_X px BX AX) free) (hS : va_S A0 H0 H locs) (hA : ∀ q, q < H.size → A1 q → A0 q) (hf : ∀ q, free q → A0 q) (hAX : ∀ q, q < H.size → AX q → A0 q)
    (kx : ∀ (E : String) (ce : Cell) (q9 : Addr) (u : SX) (t : State) (H1 : Heap) (locs1 : List Loc), t.heap = H1 → s.vm.Alike t.vm → px u → BX E u t → H.size ≤ H1.size → (∀ q : Nat, q < H.size → ¬ AX q → H1[q]? = H[q]?) → va_S A0 H0 H1 locs1 → H1[q9]? = some ce → ce.vm = .none → s.vm.findClass E = some ce.cls → vx_W p l e R s m args below meth c H1 locs1 (cells + mc) (slots + ms) Q (F0 m pc ls rest) q9)
    (kk : ∀ (r : UInt32) (u : S) (t : State) (H1 : Heap) (locs1 : List Loc), t.heap = H1 → s.vm.Alike t.vm → post r u → B u t → H.size ≤ H1.size → (∀ q : Nat, q < H.size → ¬ A1 q → H1[q]? = H[q]?) → va_S A0 H0 H1 locs1 → W p l e R s m args below meth c H1 locs1 (cells + mc) (slots + ms) Q (F0 m (pc + 3) ls (.float r :: rest))) : W p l e R s m args below meth c H locs cells slots Q (F0 m pc ls st0) := by
  intro T hT X
  rcases hr T hT X with ⟨v, st₀, t, T', L, h0, X', hL, e1, e2, ⟨⟨r, u, hv, hp, hb⟩, hF⟩, st⟩ | ⟨q, st₀, t, T', L, E, ce, h0, X', hL, e1, e2, ⟨u, hp, hb, hF⟩, hce, hcv, hcl, st⟩
  · cases hv
    obtain ⟨k1, k2, k3⟩ := vx_keep h0 e1 hS hA hf hL hF
    obtain ⟨t2, a1, b1⟩ := kk r u t T'.heap (locs ++ L) e1.symm (by rw [← e2]; exact X'.warmed.alike) hp hb k1 k2 k3 T' rfl X'
    exact ⟨t2, st t2 a1, b1⟩
  · obtain ⟨k1, k2, k3⟩ := vx_keep h0 e1 hS hAX hf hL hF
    obtain ⟨t2, a1, b1⟩ := kx E ce q u t T'.heap (locs ++ L) e1.symm (by rw [← e2]; exact X'.warmed.alike) hp hb k1 k2 k3 (by rw [e1]; exact hce) hcv hcl T' rfl X'
    exact ⟨t2, st.trans a1, b1⟩
theorem vx_calld {S SX : Type} {post : UInt64 → S → Prop} {px : SX → Prop} {B : S → State → Prop} {BX : String → SX → State → Prop} {AX : Nat → Prop} (hr : vx_Run p l e R s m args below meth c H locs cells slots mc ms (F0 m pc ls st0) rest (va_Qd post B A1 a) (vx_X px BX AX) free) (hS : va_S A0 H0 H locs) (hA : ∀ q, q < H.size → A1 q → A0 q) (hf : ∀ q, free q → A0 q) (hAX : ∀ q, q < H.size → AX q → A0 q)
    (kx : ∀ (E : String) (ce : Cell) (q9 : Addr) (u : SX) (t : State) (H1 : Heap) (locs1 : List Loc), t.heap = H1 → s.vm.Alike t.vm → px u → BX E u t → H.size ≤ H1.size → (∀ q : Nat, q < H.size → ¬ AX q → H1[q]? = H[q]?) → va_S A0 H0 H1 locs1 → H1[q9]? = some ce → ce.vm = .none → s.vm.findClass E = some ce.cls → vx_W p l e R s m args below meth c H1 locs1 (cells + mc) (slots + ms) Q (F0 m pc ls rest) q9)
    (kk : ∀ (r : UInt64) (u : S) (t : State) (H1 : Heap) (locs1 : List Loc), t.heap = H1 → s.vm.Alike t.vm → post r u → B u t → H.size ≤ H1.size → (∀ q : Nat, q < H.size → ¬ A1 q → H1[q]? = H[q]?) → va_S A0 H0 H1 locs1 → W p l e R s m args below meth c H1 locs1 (cells + mc) (slots + ms) Q (F0 m (pc + 3) ls (.double r :: rest))) : W p l e R s m args below meth c H locs cells slots Q (F0 m pc ls st0) := by
  intro T hT X
  rcases hr T hT X with ⟨v, st₀, t, T', L, h0, X', hL, e1, e2, ⟨⟨r, u, hv, hp, hb⟩, hF⟩, st⟩ | ⟨q, st₀, t, T', L, E, ce, h0, X', hL, e1, e2, ⟨u, hp, hb, hF⟩, hce, hcv, hcl, st⟩
  · cases hv
    obtain ⟨k1, k2, k3⟩ := vx_keep h0 e1 hS hA hf hL hF
    obtain ⟨t2, a1, b1⟩ := kk r u t T'.heap (locs ++ L) e1.symm (by rw [← e2]; exact X'.warmed.alike) hp hb k1 k2 k3 T' rfl X'
    exact ⟨t2, st t2 a1, b1⟩
  · obtain ⟨k1, k2, k3⟩ := vx_keep h0 e1 hS hAX hf hL hF
    obtain ⟨t2, a1, b1⟩ := kx E ce q u t T'.heap (locs ++ L) e1.symm (by rw [← e2]; exact X'.warmed.alike) hp hb k1 k2 k3 (by rw [e1]; exact hce) hcv hcl T' rfl X'
    exact ⟨t2, st.trans a1, b1⟩
theorem vx_callv {S SX : Type} {post : S → Prop} {px : SX → Prop} {B : S → State → Prop} {BX : String → SX → State → Prop} {AX : Nat → Prop} (hr : vx_Run p l e R s m args below meth c H locs cells slots mc ms (F0 m pc ls st0) rest (va_Qv post B A1 a) (vx_X px BX AX) free) (hS : va_S A0 H0 H locs) (hA : ∀ q, q < H.size → A1 q → A0 q) (hf : ∀ q, free q → A0 q) (hAX : ∀ q, q < H.size → AX q → A0 q)
    (kx : ∀ (E : String) (ce : Cell) (q9 : Addr) (u : SX) (t : State) (H1 : Heap) (locs1 : List Loc), t.heap = H1 → s.vm.Alike t.vm → px u → BX E u t → H.size ≤ H1.size → (∀ q : Nat, q < H.size → ¬ AX q → H1[q]? = H[q]?) → va_S A0 H0 H1 locs1 → H1[q9]? = some ce → ce.vm = .none → s.vm.findClass E = some ce.cls → vx_W p l e R s m args below meth c H1 locs1 (cells + mc) (slots + ms) Q (F0 m pc ls rest) q9)
    (kk : ∀ (u : S) (t : State) (H1 : Heap) (locs1 : List Loc), t.heap = H1 → s.vm.Alike t.vm → post u → B u t → H.size ≤ H1.size → (∀ q : Nat, q < H.size → ¬ A1 q → H1[q]? = H[q]?) → va_S A0 H0 H1 locs1 → W p l e R s m args below meth c H1 locs1 (cells + mc) (slots + ms) Q (F0 m (pc + 3) ls (rest))) : W p l e R s m args below meth c H locs cells slots Q (F0 m pc ls st0) := by
  intro T hT X
  rcases hr T hT X with ⟨v, st₀, t, T', L, h0, X', hL, e1, e2, ⟨⟨u, hv, hp, hb⟩, hF⟩, st⟩ | ⟨q, st₀, t, T', L, E, ce, h0, X', hL, e1, e2, ⟨u, hp, hb, hF⟩, hce, hcv, hcl, st⟩
  · cases hv
    obtain ⟨k1, k2, k3⟩ := vx_keep h0 e1 hS hA hf hL hF
    obtain ⟨t2, a1, b1⟩ := kk u t T'.heap (locs ++ L) e1.symm (by rw [← e2]; exact X'.warmed.alike) hp hb k1 k2 k3 T' rfl X'
    exact ⟨t2, st t2 a1, b1⟩
  · obtain ⟨k1, k2, k3⟩ := vx_keep h0 e1 hS hAX hf hL hF
    obtain ⟨t2, a1, b1⟩ := kx E ce q u t T'.heap (locs ++ L) e1.symm (by rw [← e2]; exact X'.warmed.alike) hp hb k1 k2 k3 (by rw [e1]; exact hce) hcv hcl T' rfl X'
    exact ⟨t2, st.trans a1, b1⟩
/-- caught by the row x of this method's table; the rows ahead don't take it -/
theorem vx_catch {own name : String} {E : String} {ce : Cell} {q : Addr} (hown : s.vm.findClass own = some m.cls) (pre : List ExceptionTableEntry) (x : ExceptionTableEntry) (suf : List ExceptionTableEntry) (hsplit : c.exceptionTable.toList = pre ++ x :: suf)
    (hpass : ∀ z ∈ pre, covers z pc = false ∨ (z.catchType ≠ 0 ∧ ∃ nm : String, (Cond.classLink own z.catchType nm).before args s = true ∧ va_Nc E nm s)) (hx : covers x pc = true) (h0 : x.catchType ≠ 0)
    (hlink : (Cond.classLink own x.catchType name).before args s = true) (hcast : (Cond.castable E name).before args s = true) (hcell : H[q]? = some ce) (hv : ce.vm = .none) (hcl : s.vm.findClass E = some ce.cls)
    (kk : W p l e R s m args below meth c H locs cells slots Q (F0 m x.handlerPc ls [.ref q])) : vx_W p l e R s m args below meth c H locs cells slots Q (F0 m pc ls rest) q := by
  intro T hT X
  have hpl : e.platform.magicAccessors = ({} : Platform).magicAccessors := by rw [X.admits.platform]
  obtain ⟨c3, c4, hc3, hc4, hasg⟩ := Cond.castable_spec hcast
  cases Option.some.inj (hc3.symm.trans hcl)
  obtain ⟨c5, hc5, hcl5⟩ := Cond.classLink_spec hown hlink e.platform hpl
  cases Option.some.inj (hc4.symm.trans hc5)
  obtain ⟨vm', X', st⟩ := X.thenCaughtThrough q (g := F0 m pc ls rest) rfl (Steps.refl _) (by rw [hT]; exact hcell) (by rw [hv]; rfl) (by obtain ⟨k9, h9, -⟩ := Vm.findClass_spec hcl; exact ⟨k9, h9⟩) pre x suf hsplit
    (fun z hz => by
      rcases hpass z hz with h | ⟨hz0, nm, hl1, hn1⟩
      · exact Or.inl h
      · obtain ⟨c6, hc6, hcl6⟩ := Cond.classLink_spec hown hl1 e.platform hpl
        obtain ⟨a8, b8, h1, h2, h3⟩ := hn1
        cases Option.some.inj (h1.symm.trans hcl)
        cases Option.some.inj (h2.symm.trans hc6)
        exact Or.inr ⟨hz0, _, hcl6, h3⟩) hx (Or.inr ⟨h0, c4, hcl5, hasg⟩)
  obtain ⟨t, a1, b1⟩ := kk (T.setVm vm') hT X'
  exact ⟨t, st.trans a1, b1⟩
end Rows
section Ends
variable {p : Program} {l : Launch} {e : Env} {R : Room} {s : State} {m : MethodId} {args : Array Value} {below : List Frame} {meth : Method} {c : Code} {H : Heap} {locs : List Loc} {cells slots : Nat} {Q : State → Prop}
variable {mc ms : Nat} {free : Addr → Prop} {A0 A1 : Nat → Prop} {H0 : Heap} {a : Array Value} {ls : Array Slot} {st0 rest : List Value}
variable {Qc : Array Value → State → Outcome → State → Prop} {XC : String → State → State → Prop}
/-- what a body that may throw owes at its end -/
def vx_MQ (below : List Frame) (Qc : Array Value → State → Outcome → State → Prop) (XC : String → State → State → Prop) (a : Array Value) (s : State) (mc ms : Nat) (free : Addr → Prop) : State → Prop := fun t =>
  ∃ o, t.status = .running ∧ Ended t below o ∧ vx_Q Qc XC mc ms free a s o t
theorem vx_ret {g : JFrame} {mc ms : Nat} (k : W p l e R s m args below meth c H locs cells slots (MQ below Qc args s mc ms free) g) : W p l e R s m args below meth c H locs cells slots (vx_MQ below Qc XC args s mc ms free) g := by
  intro T hT X
  obtain ⟨t, a1, o, b1, b2, b3, b4⟩ := k T hT X
  exact ⟨t, a1, o, b1, b2, Or.inl ⟨b3, b4⟩⟩
/-- not caught here: it goes on to the caller -/
theorem vx_widen {g : JFrame} {q : Addr} {k n : Nat} (h1 : cells ≤ k) (h2 : slots ≤ n) (kk : vx_W p l e R s m args below meth c H locs k n Q g q) : vx_W p l e R s m args below meth c H locs cells slots Q g q := fun T hT X => kk T hT (stand_widen X h1 h2)
theorem vx_out {pc : Nat} {E : String} {ce : Cell} {q : Addr} {mc ms : Nat} (hout : ∀ x ∈ c.exceptionTable.toList, covers x pc = false) (hlocks : meth.locks = false) (hcell : H[q]? = some ce) (hv : ce.vm = .none) (hcl : s.vm.findClass E = some ce.cls)
    (hx : ∀ t : State, t.heap = H → s.vm.Alike t.vm → XC E s t) (hf : ∀ z ∈ locs, free z.base) (hc : cells ≤ mc) (hs : slots ≤ ms) :
    vx_W p l e R s m args below meth c H locs cells slots (vx_MQ below Qc XC args s mc ms free) (F0 m pc ls rest) q := by
  intro T hT X
  obtain ⟨st1, hrun, hend, hW, hsm⟩ := X.leaveThrown q (g := F0 m pc ls rest) rfl rfl rfl hout hlocks
  have hcell9 : (T.setFrames (.throwing q :: below)).heap[q]? = some ce := by
    show T.heap[q]? = some ce
    rw [hT]; exact hcell
  exact ⟨_, st1, .threw q, hrun, hend, Or.inr ⟨q, rfl, E, ce, locs, hx _ hT hW.alike, hcell9, hv, hcl, hW, hsm.mono hc hs, hf⟩⟩
theorem vx_frame {U : State} {k n : Nat} (h : s.sameButNew ({ U with vm := s.vm } : State) locs k n) : s.heap.size ≤ U.heap.size ∧ ∀ q : Nat, q < s.heap.size → (∀ z ∈ locs, z.base ≠ q) → U.heap[q]? = s.heap[q]? := by
  obtain ⟨-, h2, -, -, -, h6⟩ := h
  refine ⟨h2, fun q hq hz => ?_⟩
  obtain ⟨c9, e1, e2, e3, e4⟩ := h6 q _ (Array.getElem?_eq_getElem hq)
  have hs : c9.slots = (s.heap[q]).slots := Array.ext_getElem? fun i => e4 i fun hm => hz _ hm rfl
  have h9 : c9 = s.heap[q] := by
    rw [hs] at e2
    exact e2
  have e5 : U.heap[q]? = some c9 := e1
  rw [e5, h9, Array.getElem?_eq_getElem hq]
/-- the words of a throw but the four that speak of the heap -/
def vx_no (w : Cond) : Bool := decide (w ≠ .isRef (.static Bundle.tN "UNASSIGNED_STACK" Bundle.steD)) && decide (w ≠ .isRef (.static Bundle.tN "SUPPRESSED_SENTINEL" Bundle.listD)) && decide (w ≠ .laysStatic Bundle.tN "UNASSIGNED_STACK" Bundle.steD) && decide (w ≠ .laysStatic Bundle.tN "SUPPRESSED_SENTINEL" Bundle.listD)
def vx_at0 (own : String) (ic : Nat) (X : String) (names : List String) : List Cond := (Bundle.ownAtoms0 own ic X names).filter vx_no
def vx_atS (own : String) (ic : Nat) (X : String) (names : List String) : List Cond := (Bundle.ownAtoms own ic X names).filter vx_no
/-- a word that the tables alone decide, or a good one -/
def vx_ot (w : Cond) : Bool := w.onTables || goodWord w
theorem vx_ot_at {args a' : Array Value} {s U : State} {w : Cond} (hW : s.WarmedH U.vm) (hvm : s.vm = U.vm) (hg : vx_ot w = true) (h : w.before args s = true) : w.before a' U = true := by
  simp only [vx_ot, Bool.or_eq_true] at hg
  rcases hg with hg | hg
  · exact va_tabs hg hvm h
  · exact word_at hW (good_of_word hg) h
/-- a list's words: the good ones out of the method's own list, the others by premises of their own -/
theorem vx_hat {args : Array Value} {s : State} {L B : List Cond} (h1 : ∀ w ∈ L.filter goodWord, w.before args s = true) (h2 : ∀ w ∈ L.filter (fun w => !goodWord w), w ∈ B) (h3 : ∀ w ∈ B, w.before args s = true) : ∀ w ∈ L, w.before args s = true := by
  intro w hw
  by_cases g : goodWord w = true
  · exact h1 w (List.mem_filter.mpr ⟨hw, g⟩)
  · refine h3 w (h2 w (List.mem_filter.mpr ⟨hw, ?_⟩))
    show (!goodWord w) = true
    cases hgw : goodWord w
    · rfl
    · exact absurd hgw g
theorem vx_c {args : Array Value} {s : State} {w : Cond} {B : List Cond} (h : w.before args s = true) (t : ∀ w ∈ B, w.before args s = true) : ∀ w' ∈ w :: B, w'.before args s = true := fun w' h' => (List.mem_cons.mp h').elim (fun e => by rw [e]; exact h) (t w')
theorem vx_n {args : Array Value} {s : State} : ∀ w ∈ ([] : List Cond), w.before args s = true := fun _ h => nomatch h
theorem vx_own {args : Array Value} {s : State} {L : List Cond} (h1 : ∀ w ∈ L.filter vx_no, w.before args s = true)
    (hU : (Cond.isRef (.static Bundle.tN "UNASSIGNED_STACK" Bundle.steD)).before args s = true) (hN : (Cond.isRef (.static Bundle.tN "SUPPRESSED_SENTINEL" Bundle.listD)).before args s = true)
    (lU : (Cond.laysStatic Bundle.tN "UNASSIGNED_STACK" Bundle.steD).before args s = true) (lN : (Cond.laysStatic Bundle.tN "SUPPRESSED_SENTINEL" Bundle.listD).before args s = true) : ∀ w ∈ L, w.before args s = true := by
  intro w hw
  by_cases e1 : w = .isRef (.static Bundle.tN "UNASSIGNED_STACK" Bundle.steD)
  · rw [e1]; exact hU
  · by_cases e2 : w = .isRef (.static Bundle.tN "SUPPRESSED_SENTINEL" Bundle.listD)
    · rw [e2]; exact hN
    · by_cases e3 : w = .laysStatic Bundle.tN "UNASSIGNED_STACK" Bundle.steD
      · rw [e3]; exact lU
      · by_cases e4 : w = .laysStatic Bundle.tN "SUPPRESSED_SENTINEL" Bundle.listD
        · rw [e4]; exact lN
        · exact h1 w (List.mem_filter.mpr ⟨hw, by unfold vx_no; rw [decide_eq_true e1, decide_eq_true e2, decide_eq_true e3, decide_eq_true e4]; rfl⟩)
/-- where a static field lies, its class's statics cell in H -/
def vx_L (C n d : String) (A : Nat → Prop) (U : State) (H : Heap) : Prop := ∃ (c : ClassId) (k : Class) (i : Nat) (f : Field) (a : Nat) (cell : Cell), U.vm.findClass C = some c ∧ U.fieldFound? C n d = some (c, k, i, f) ∧ f.isStatic = true ∧ k.statics = some a ∧ H[a]? = some cell ∧ cell.vm.isStatics = true ∧ cell.cls = c ∧ f.slot < cell.slots.size ∧ k.staticTypes[f.slot]? = some f.type ∧ ¬ A a
theorem vx_L.moved {C n d : String} {A : Nat → Prop} {u U : State} {H : Heap} (hvm : u.vm.Alike U.vm) (h : vx_L C n d A u H) : vx_L C n d A U H := by
  obtain ⟨c, k, i, f, a, cell, h1, h2, h3, h4, h5, h6, h7, h8, h9, h10⟩ := h
  obtain ⟨k', hi', he⟩ := State.fieldFound?_setVm hvm h2
  exact ⟨c, k', i, f, a, cell, by rw [hvm.findClass]; exact h1, hi', h3, by rw [he]; exact h4, h5, h6, h7, h8, by rw [he]; exact h9, h10⟩
theorem vx_L.kept {C n d : String} {A : Nat → Prop} {U : State} {H H1 : Heap} (h : vx_L C n d A U H) (hq : ∀ a : Nat, a < H.size → ¬ A a → H1[a]? = H[a]?) : vx_L C n d A U H1 := by
  obtain ⟨c, k, i, f, a, cell, h1, h2, h3, h4, h5, h6, h7, h8, h9, h10⟩ := h
  exact ⟨c, k, i, f, a, cell, h1, h2, h3, h4, by rw [hq a (Array.getElem?_eq_some_iff.mp h5).1 h10]; exact h5, h6, h7, h8, h9, h10⟩
theorem vx_L.narrow {C n d : String} {A B : Nat → Prop} {U : State} {H : Heap} (h : vx_L C n d A U H) (hAB : ∀ q, B q → A q) : vx_L C n d B U H := by
  obtain ⟨c, k, i, f, a, cell, h1, h2, h3, h4, h5, h6, h7, h8, h9, h10⟩ := h
  exact ⟨c, k, i, f, a, cell, h1, h2, h3, h4, h5, h6, h7, h8, h9, fun z => h10 (hAB _ z)⟩
theorem vx_L.word {C n d : String} {A : Nat → Prop} {s : State} {args : Array Value} (h : vx_L C n d A s s.heap) : (Cond.laysStatic C n d).before args s = true := by
  obtain ⟨c, k, i, f, a, cell, h1, h2, h3, h4, h5, h6, h7, h8, h9, -⟩ := h
  show (Cond.laysStatic C n d).holds args s none s [] = true
  exact Cond.laysStatic_of h1 h2 h3 h4 h5 h6 h7 h8 h9
/-- .. and what it holds: null or some reference -/
def vx_Zq (C n d : String) (A : Nat → Prop) (U : State) (H : Heap) : Prop := va_Zq C n d A U H ∧ vx_L C n d A U H
theorem vx_Zq.moved {C n d : String} {A : Nat → Prop} {u U : State} {H : Heap} (hvm : u.vm.Alike U.vm) (h : vx_Zq C n d A u H) : vx_Zq C n d A U H := ⟨va_Zq.moved hvm h.1, vx_L.moved hvm h.2⟩
theorem vx_Zq.kept {C n d : String} {A : Nat → Prop} {U : State} {H H1 : Heap} (h : vx_Zq C n d A U H) (hq : ∀ a : Nat, a < H.size → ¬ A a → H1[a]? = H[a]?) : vx_Zq C n d A U H1 := ⟨va_Zq.kept h.1 hq, vx_L.kept h.2 hq⟩
theorem vx_Zq.narrow {C n d : String} {A B : Nat → Prop} {U : State} {H : Heap} (h : vx_Zq C n d A U H) (hAB : ∀ q, B q → A q) : vx_Zq C n d B U H := ⟨va_Zq.narrow h.1 hAB, vx_L.narrow h.2 hAB⟩
theorem vx_Zqof {args : Array Value} {s : State} {C n d : String} {A : Nat → Prop} (hl : (Cond.laysStatic C n d).before args s = true) (hini : (Cond.initialized C).before args s = true) (h : (Cond.isRef (.static C n d)).before args s = true) (hA : ∀ a : Nat, a < s.heap.size → ¬ A a) : vx_Zq C n d A s s.heap := by
  refine ⟨va_Zqof hl hini h hA, ?_⟩
  obtain ⟨c, k, i, f, a, cell, h1, h2, h3, h4, h5, h6, h7, h8, h9⟩ := Cond.laysStatic_spec hl
  exact ⟨c, k, i, f, a, cell, h1, h2, h3, h4, h5, h6, h7, h8, h9, hA a (Array.getElem?_eq_some_iff.mp h5).1⟩
theorem vx_isRef {C n d : String} {v : Value} {A : Nat → Prop} {s : State} {args : Array Value} (h : va_Z C n d v A s s.heap) (hv : v.isRef = true) : (Cond.isRef (.static C n d)).before args s = true := by
  obtain ⟨cf, kf, fi, f, a, cell, h1, h2, h3, h4, h5, h6, h7, -⟩ := h
  have he : (Term.static C n d).eval args s none [] s = some v := by
    simp [Term.eval, State.fieldNamed?, h1, h2, h4, h5, h6, h7]
  simp only [Cond.before, Cond.holds, Cond.value, he]
  cases v <;> simp_all [Value.isRef]
theorem vx_isRefq {C n d : String} {A : Nat → Prop} {s : State} {args : Array Value} (h : va_Zq C n d A s s.heap) : (Cond.isRef (.static C n d)).before args s = true := by
  rcases h with h | ⟨t, h⟩
  · exact vx_isRef h rfl
  · exact vx_isRef h rfl
/-- the same frame, seen from here: as if the method were called anew in this heap -/
theorem vx_rebase {T : State} (X : Stand p l e R s m args below meth c T locs cells slots) {R' : Room} (hf : R'.frames ≤ R.frames) (hl : R'.locals ≤ R.locals) (hc : cells + R'.cells ≤ R.cells) (hs : slots + R'.slots ≤ R.slots) :
    Stand p l e R' ((T.setVm s.vm).setFrames (.invoking m args :: below)) m args below meth c T [] 0 0 := by
  have htop : (T.setVm s.vm).topJava?.isSome := X.here.top
  have hF : ((T.setVm s.vm).setFrames (.invoking m args :: below)).frames = .invoking m args :: below := State.frames_setFrames _ (State.cur_lt_of_top htop)
  obtain ⟨g₀, hg0⟩ := Option.isSome_iff_exists.mp htop
  obtain ⟨r, hr⟩ := State.topJava?_eq_some.mp hg0
  have hl9 : e.platform.stackLimits (T.setVm s.vm).me = e.platform.stackLimits s.me := X.limits
  have hb9 : (T.setVm s.vm).me.stackBytes = s.me.stackBytes := X.bytes
  refine ⟨X.admits, X.cas, X.clock, hF, ?_, X.hears, X.method, X.code, X.here, X.tail, X.warmed, ?_, ?_, ?_⟩
  · have h := X.room
    have hU : ((T.setVm s.vm).setFrames (.invoking m args :: below)).localsInUse = s.localsInUse := by
      rw [State.localsInUse_invoking hF (meth := meth) (c := c) X.method X.code, State.localsInUse_invoking X.frames X.method X.code]
    simp only [State.hasRoom, Bool.and_eq_true, decide_eq_true_eq] at h ⊢
    obtain ⟨⟨⟨⟨h1, h2, h3, h4, h5, h6⟩, h7⟩, h8⟩, h9⟩ := h
    rw [X.frames, List.length_cons] at h2 h3
    have q1 := X.heapSize
    have q2 := X.used
    simp only [hF, hU, List.length_cons, State.stackLimits_setFrames, State.stackBytes_setFrames, hl9, hb9]
    refine ⟨⟨⟨⟨by omega, by omega, by omega, by omega, by omega, h6⟩, ?_⟩, ?_⟩, X.book⟩
    · show T.heap.size + R'.cells ≤ e.platform.maxCells
      omega
    · show T.slotsUsed + R'.slots ≤ e.platform.maxSlots
      omega
  · rw [State.stackLimits_setFrames]; rfl
  · rw [State.stackBytes_setFrames]; rfl
  · refine ⟨?_, Nat.le_refl _, Nat.le_refl _, ?_, ?_, fun a c9 h9 => ⟨c9, h9, rfl, rfl, fun _ _ => rfl⟩⟩
    · obtain ⟨t, ht, -⟩ := State.frames_cons hr
      show T.setVm s.vm = { ((T.setVm s.vm).setFrames (.invoking m args :: below)).setFrames (T.setVm s.vm).frames with heap := T.heap, slotsUsed := T.slotsUsed }
      rw [State.setFrames_setFrames, State.setFrames_self ht]
      rfl
    · show T.slotsUsed = T.slotsUsed + ((T.heap.toList.drop T.heap.size).map (·.slots.size)).sum
      rw [List.drop_eq_nil_of_le (Nat.le_of_eq Array.length_toList)]
      rfl
    · show ((T.heap.toList.drop T.heap.size).map (·.slots.size)).sum ≤ 0
      rw [List.drop_eq_nil_of_le (Nat.le_of_eq Array.length_toList)]
      exact Nat.le_refl _
/-- 'throw new E()': new; dup; invokespecial; athrow -/
theorem vx_throw0 {cc : ByteArray} {pc : Nat} (hexec : p.tables.exec = Jvm.exec) (hb : c.code = cc) (hl : l.stackTraces = false) {own cls : String} {names : List String} {ik ic mc ms : Nat} {A : Nat → Prop}
    (hown : s.vm.findClass own = some m.cls) (hcls : Bundle.fit cls = true) (hnames : ∀ n ∈ names, Bundle.fit n = true)
    (hk : (Cond.classLink own ik cls).before args s = true) (hini : (Cond.initialized cls).before args s = true) (hat : ∀ w ∈ vx_at0 own ic cls names, w.before args s = true)
    (hgood : ∀ w ∈ Cond.classLink own ik cls :: Cond.initialized cls :: vx_at0 own ic cls names, vx_ot w = true)
    (hU : vx_Zq Bundle.tN "UNASSIGNED_STACK" Bundle.steD A s s.heap) (hN : vx_Zq Bundle.tN "SUPPRESSED_SENTINEL" Bundle.listD A s s.heap) (hS : va_S A s.heap H locs) (hsize : ls.size = c.maxLocals)
    (d0 : decode cc pc = .ok (.new ik, 3)) (d3 : decode cc (pc + 3) = .ok (.dup, 1)) (d4 : decode cc (pc + 4) = .ok (.invokespecial ic, 3)) (d7 : decode cc (pc + 7) = .ok (.athrow, 1))
    (hout : ∀ x ∈ c.exceptionTable.toList, covers x (pc + 7) = false)
    (hRframes : names.length + 3 < R.frames) (hRlocals : (rest.map fun v => v.category).sum + (13 * (names.length + 1) + 42) ≤ R.locals) (hRcells : cells + 1 ≤ R.cells) (hRslots : slots + 6 ≤ R.slots) (hlocks : meth.locks = false)
    (hx : ∀ t : State, s.vm.Alike t.vm → H.size ≤ t.heap.size → (∀ q : Nat, q < H.size → t.heap[q]? = H[q]?) → XC cls s t)
    (hf : ∀ z ∈ locs, free z.base) (hc : cells + 1 ≤ mc) (hs : slots + 6 ≤ ms) :
    W p l e R s m args below meth c H locs cells slots (vx_MQ below Qc XC args s mc ms free) (F0 m pc ls rest) := by
  intro T hT X
  have htr : e.platform.stackTraces = false := (show e.platform.stackTraces = l.stackTraces by rw [X.admits.platform]).trans hl
  have Y := vx_rebase X (R' := { frames := R.frames, locals := R.locals, cells := 1, slots := 6 }) (Nat.le_refl _) (Nat.le_refl _) hRcells hRslots
  obtain ⟨s', hA⟩ : ∃ z, z = (T.setVm s.vm).setFrames (.invoking m args :: below) := ⟨_, rfl⟩
  rw [← hA] at Y
  have hvm : s'.vm = s.vm := by rw [hA]; rfl
  have hhp : s'.heap = H := by rw [hA]; exact hT
  have hW0 : s.WarmedH s'.vm := by rw [hvm]; exact State.WarmedH.refl s
  have hat' : ∀ w ∈ vx_at0 own ic cls names, w.before args s' = true := fun w hw => vx_ot_at hW0 hvm.symm (hgood w (List.mem_cons_of_mem _ (List.mem_cons_of_mem _ hw))) (hat w hw)
  have hk' : (Cond.classLink own ik cls).before args s' = true := vx_ot_at hW0 hvm.symm (hgood _ List.mem_cons_self) hk
  have hini' : (Cond.initialized cls).before args s' = true := vx_ot_at hW0 hvm.symm (hgood _ (List.mem_cons_of_mem _ List.mem_cons_self)) hini
  have hU' : vx_Zq Bundle.tN "UNASSIGNED_STACK" Bundle.steD A s' s'.heap := by rw [hhp]; exact vx_Zq.moved hW0.alike (hU.kept hS.2.1)
  have hN' : vx_Zq Bundle.tN "SUPPRESSED_SENTINEL" Bundle.listD A s' s'.heap := by rw [hhp]; exact vx_Zq.moved hW0.alike (hN.kept hS.2.1)
  have h : ∀ w ∈ Bundle.ownAtoms0 own ic cls names, w.before args s' = true := vx_own hat' (vx_isRefq hU'.1) (vx_isRefq hN'.1) hU'.2.word hN'.2.word
  have hown' : s'.vm.findClass own = some m.cls := by rw [hvm]; exact hown
  have hins : (Cond.instantiable cls 6).before args s' = true := h _ (by simp [Bundle.ownAtoms0])
  obtain ⟨vm₁, cX, kX, hfX, hkX, -, -, X₁, st1⟩ := Y.newCold hexec (own := own) (C := cls) (index := ik) (n := 6) hown' hk' hins hini'
    (g := F0 m pc ls rest) rfl (by rw [hb]; exact d0) (Nat.le_refl _) (Nat.le_refl _)
  generalize hT1 : (T.setVm vm₁).pushCell { cls := cX, slots := kX.instanceTypes.map defaultValue, vm := .none } = T1 at X₁ st1
  have hcat : (Value.ref T.heap.size).category = 1 := rfl
  have hcellA : T1.heap[T.heap.size]? = some (freshCell cX kX) := by rw [← hT1]; exact State.heap_pushCell_size _ _
  have d3' : decode c.code (pc + 3) = .ok (.dup, 1) := by rw [hb]; exact d3
  obtain ⟨U, hsteps, hrun, hend, hW, hsame, ce, hce, hO⟩ := X₁.ctorThrow0 hexec htr (own := own) (cls := cls) (names := names) (ic := ic) hown' hcls hnames h (fun x hx => nomatch hx) hfX hkX hcellA (by rw [hhp, hT]; exact Nat.le_refl _)
    (g := { method := m, pc := pc + 4, locals := ls, stack := .ref T.heap.size :: .ref T.heap.size :: rest, locked := none }) rfl hsize rfl rfl (rest := rest) rfl
    (by rw [hb]; exact d4) (by rw [hb]; exact d7) hout hRframes (by simp only [List.map_cons, List.sum_cons, hcat]; omega) hlocks
  obtain ⟨f1, f2⟩ := vx_frame hsame
  rw [hhp] at f1 f2
  have hWs : s.WarmedH U.vm := State.WarmedH.trans hW0 hW
  have hcl : s.vm.findClass cls = some ce.cls := by
    have h9 := hO.cls
    rw [hvm] at h9
    exact h9
  have hall : s.sameButNew ({ U with vm := s.vm } : State) locs mc ms := by
    subst hA
    obtain ⟨e1, e2⟩ := hsame
    rw [State.setFrames_setFrames] at e1
    have h2 : (T.setVm s.vm).sameButNew ({ U with vm := s.vm } : State) [] (0 + 1) (0 + 6) := ⟨e1, e2⟩
    have h3 := X.same.trans h2
    rw [List.append_nil] at h3
    exact h3.mono hc hs
  refine ⟨U, ?_, .threw T.heap.size, hrun, hend, Or.inr ⟨T.heap.size, rfl, cls, ce, locs, hx U hWs.alike f1 (fun q hq => f2 q hq (fun z hz => nomatch hz)), hce, hO.vm, hcl, hWs, hall, hf⟩⟩
  refine st1 _ ?_
  show Steps p.tables e below (T1.setTop { method := m, pc := pc + 3, locals := ls, stack := .ref T.heap.size :: rest, locked := none }) _
  jvm_step X₁.here [X₁.here.top, hexec, d3', Value.category]
  exact hsteps
/-- 'throw new E("text")': new; dup; ldc; invokespecial; athrow -/
theorem vx_throwS {cc : ByteArray} {pc : Nat} (hexec : p.tables.exec = Jvm.exec) (hb : c.code = cc) (hl : l.stackTraces = false) {own cls text : String} {names : List String} {ik is ic mc ms sa : Nat} {A : Nat → Prop}
    (hown : s.vm.findClass own = some m.cls) (hcls : Bundle.fit cls = true) (hnames : ∀ n ∈ names, Bundle.fit n = true)
    (hk : (Cond.classLink own ik cls).before args s = true) (hini : (Cond.initialized cls).before args s = true) (hstr : vk_R own is text sa s) (hat : ∀ w ∈ vx_atS own ic cls names, w.before args s = true)
    (hgood : ∀ w ∈ Cond.classLink own ik cls :: Cond.initialized cls :: vx_atS own ic cls names, vx_ot w = true)
    (hU : vx_Zq Bundle.tN "UNASSIGNED_STACK" Bundle.steD A s s.heap) (hN : vx_Zq Bundle.tN "SUPPRESSED_SENTINEL" Bundle.listD A s s.heap) (hS : va_S A s.heap H locs) (hsize : ls.size = c.maxLocals)
    (d0 : decode cc pc = .ok (.new ik, 3)) (d3 : decode cc (pc + 3) = .ok (.dup, 1)) (d4 : decode cc (pc + 4) = .ok (.ldc is, 2)) (d6 : decode cc (pc + 6) = .ok (.invokespecial ic, 3)) (d9 : decode cc (pc + 9) = .ok (.athrow, 1))
    (hout : ∀ x ∈ c.exceptionTable.toList, covers x (pc + 9) = false)
    (hRframes : names.length + 3 < R.frames) (hRlocals : (rest.map fun v => v.category).sum + (13 * (names.length + 1) + 43) ≤ R.locals) (hRcells : cells + 1 ≤ R.cells) (hRslots : slots + 6 ≤ R.slots) (hlocks : meth.locks = false)
    (hx : ∀ t : State, s.vm.Alike t.vm → H.size ≤ t.heap.size → (∀ q : Nat, q < H.size → t.heap[q]? = H[q]?) → XC cls s t)
    (hf : ∀ z ∈ locs, free z.base) (hc : cells + 1 ≤ mc) (hs : slots + 6 ≤ ms) :
    W p l e R s m args below meth c H locs cells slots (vx_MQ below Qc XC args s mc ms free) (F0 m pc ls rest) := by
  intro T hT X
  have htr : e.platform.stackTraces = false := (show e.platform.stackTraces = l.stackTraces by rw [X.admits.platform]).trans hl
  have Y := vx_rebase X (R' := { frames := R.frames, locals := R.locals, cells := 1, slots := 6 }) (Nat.le_refl _) (Nat.le_refl _) hRcells hRslots
  obtain ⟨s', hA⟩ : ∃ z, z = (T.setVm s.vm).setFrames (.invoking m args :: below) := ⟨_, rfl⟩
  rw [← hA] at Y
  have hvm : s'.vm = s.vm := by rw [hA]; rfl
  have hhp : s'.heap = H := by rw [hA]; exact hT
  have hW0 : s.WarmedH s'.vm := by rw [hvm]; exact State.WarmedH.refl s
  have hat' : ∀ w ∈ vx_atS own ic cls names, w.before args s' = true := fun w hw => vx_ot_at hW0 hvm.symm (hgood w (List.mem_cons_of_mem _ (List.mem_cons_of_mem _ hw))) (hat w hw)
  have hk' : (Cond.classLink own ik cls).before args s' = true := vx_ot_at hW0 hvm.symm (hgood _ List.mem_cons_self) hk
  have hini' : (Cond.initialized cls).before args s' = true := vx_ot_at hW0 hvm.symm (hgood _ (List.mem_cons_of_mem _ List.mem_cons_self)) hini
  have hU' : vx_Zq Bundle.tN "UNASSIGNED_STACK" Bundle.steD A s' s'.heap := by rw [hhp]; exact vx_Zq.moved hW0.alike (hU.kept hS.2.1)
  have hN' : vx_Zq Bundle.tN "SUPPRESSED_SENTINEL" Bundle.listD A s' s'.heap := by rw [hhp]; exact vx_Zq.moved hW0.alike (hN.kept hS.2.1)
  have h : ∀ w ∈ Bundle.ownAtoms own ic cls names, w.before args s' = true := vx_own hat' (vx_isRefq hU'.1) (vx_isRefq hN'.1) hU'.2.word hN'.2.word
  have hown' : s'.vm.findClass own = some m.cls := by rw [hvm]; exact hown
  have hins : (Cond.instantiable cls 6).before args s' = true := h _ (by simp [Bundle.ownAtoms])
  obtain ⟨vm₁, cX, kX, hfX, hkX, -, -, X₁, st1⟩ := Y.newCold hexec (own := own) (C := cls) (index := ik) (n := 6) hown' hk' hins hini'
    (g := F0 m pc ls rest) rfl (by rw [hb]; exact d0) (Nat.le_refl _) (Nat.le_refl _)
  generalize hT1 : (T.setVm vm₁).pushCell { cls := cX, slots := kX.instanceTypes.map defaultValue, vm := .none } = T1 at X₁ st1
  have hcat : (Value.ref T.heap.size).category = 1 := rfl
  have hcellA : T1.heap[T.heap.size]? = some (freshCell cX kX) := by rw [← hT1]; exact State.heap_pushCell_size _ _
  have d3' : decode c.code (pc + 3) = .ok (.dup, 1) := by rw [hb]; exact d3
  have d4' : decode c.code (pc + 4) = .ok (.ldc is, 2) := by rw [hb]; exact d4
  have hstr' : vk_R own is text sa s' := vk_R.warm hW0 hstr
  obtain ⟨U, hsteps, hrun, hend, hW, hsame, ce, hce, hO⟩ := X₁.ctorThrowS hexec htr (own := own) (cls := cls) (names := names) (ic := ic) hown' hcls hnames h (fun x hx => nomatch hx) hfX hkX hcellA (by rw [hhp, hT]; exact Nat.le_refl _) (msg := .ref sa) rfl
    (g := { method := m, pc := pc + 6, locals := ls, stack := .ref sa :: .ref T.heap.size :: .ref T.heap.size :: rest, locked := none }) rfl hsize rfl rfl (rest := rest) rfl
    (by rw [hb]; exact d6) (by rw [hb]; exact d9) hout hRframes (by simp only [List.map_cons, List.sum_cons, hcat]; omega) hlocks
  obtain ⟨f1, f2⟩ := vx_frame hsame
  rw [hhp] at f1 f2
  have hWs : s.WarmedH U.vm := State.WarmedH.trans hW0 hW
  have hcl : s.vm.findClass cls = some ce.cls := by
    have h9 := hO.cls
    rw [hvm] at h9
    exact h9
  have hall : s.sameButNew ({ U with vm := s.vm } : State) locs mc ms := by
    subst hA
    obtain ⟨e1, e2⟩ := hsame
    rw [State.setFrames_setFrames] at e1
    have h2 : (T.setVm s.vm).sameButNew ({ U with vm := s.vm } : State) [] (0 + 1) (0 + 6) := ⟨e1, e2⟩
    have h3 := X.same.trans h2
    rw [List.append_nil] at h3
    exact h3.mono hc hs
  refine ⟨U, ?_, .threw T.heap.size, hrun, hend, Or.inr ⟨T.heap.size, rfl, cls, ce, locs, hx U hWs.alike f1 (fun q hq => f2 q hq (fun z hz => nomatch hz)), hce, hO.vm, hcl, hWs, hall, hf⟩⟩
  refine st1 _ ?_
  show Steps p.tables e below (T1.setTop { method := m, pc := pc + 3, locals := ls, stack := .ref T.heap.size :: rest, locked := none }) _
  jvm_step X₁.here [X₁.here.top, hexec, d3', Value.category]
  exact X₁.ldcString hexec (own := own) (text := text) (index := is) (a := sa) hown' hstr'.1 hstr'.2
    (g := { method := m, pc := pc + 4, locals := ls, stack := .ref T.heap.size :: .ref T.heap.size :: rest, locked := none }) rfl d4' _ hsteps
/-- 'throw new E("text")', the text by a wide index -/
theorem vx_throwSW {cc : ByteArray} {pc : Nat} (hexec : p.tables.exec = Jvm.exec) (hb : c.code = cc) (hl : l.stackTraces = false) {own cls text : String} {names : List String} {ik is ic mc ms sa : Nat} {A : Nat → Prop}
    (hown : s.vm.findClass own = some m.cls) (hcls : Bundle.fit cls = true) (hnames : ∀ n ∈ names, Bundle.fit n = true)
    (hk : (Cond.classLink own ik cls).before args s = true) (hini : (Cond.initialized cls).before args s = true) (hstr : vk_R own is text sa s) (hat : ∀ w ∈ vx_atS own ic cls names, w.before args s = true)
    (hgood : ∀ w ∈ Cond.classLink own ik cls :: Cond.initialized cls :: vx_atS own ic cls names, vx_ot w = true)
    (hU : vx_Zq Bundle.tN "UNASSIGNED_STACK" Bundle.steD A s s.heap) (hN : vx_Zq Bundle.tN "SUPPRESSED_SENTINEL" Bundle.listD A s s.heap) (hS : va_S A s.heap H locs) (hsize : ls.size = c.maxLocals)
    (d0 : decode cc pc = .ok (.new ik, 3)) (d3 : decode cc (pc + 3) = .ok (.dup, 1)) (d4 : decode cc (pc + 4) = .ok (.ldc_w is, 3)) (d7 : decode cc (pc + 7) = .ok (.invokespecial ic, 3)) (d10 : decode cc (pc + 10) = .ok (.athrow, 1))
    (hout : ∀ x ∈ c.exceptionTable.toList, covers x (pc + 10) = false)
    (hRframes : names.length + 3 < R.frames) (hRlocals : (rest.map fun v => v.category).sum + (13 * (names.length + 1) + 43) ≤ R.locals) (hRcells : cells + 1 ≤ R.cells) (hRslots : slots + 6 ≤ R.slots) (hlocks : meth.locks = false)
    (hx : ∀ t : State, s.vm.Alike t.vm → H.size ≤ t.heap.size → (∀ q : Nat, q < H.size → t.heap[q]? = H[q]?) → XC cls s t)
    (hf : ∀ z ∈ locs, free z.base) (hc : cells + 1 ≤ mc) (hs : slots + 6 ≤ ms) :
    W p l e R s m args below meth c H locs cells slots (vx_MQ below Qc XC args s mc ms free) (F0 m pc ls rest) := by
  intro T hT X
  have htr : e.platform.stackTraces = false := (show e.platform.stackTraces = l.stackTraces by rw [X.admits.platform]).trans hl
  have Y := vx_rebase X (R' := { frames := R.frames, locals := R.locals, cells := 1, slots := 6 }) (Nat.le_refl _) (Nat.le_refl _) hRcells hRslots
  obtain ⟨s', hA⟩ : ∃ z, z = (T.setVm s.vm).setFrames (.invoking m args :: below) := ⟨_, rfl⟩
  rw [← hA] at Y
  have hvm : s'.vm = s.vm := by rw [hA]; rfl
  have hhp : s'.heap = H := by rw [hA]; exact hT
  have hW0 : s.WarmedH s'.vm := by rw [hvm]; exact State.WarmedH.refl s
  have hat' : ∀ w ∈ vx_atS own ic cls names, w.before args s' = true := fun w hw => vx_ot_at hW0 hvm.symm (hgood w (List.mem_cons_of_mem _ (List.mem_cons_of_mem _ hw))) (hat w hw)
  have hk' : (Cond.classLink own ik cls).before args s' = true := vx_ot_at hW0 hvm.symm (hgood _ List.mem_cons_self) hk
  have hini' : (Cond.initialized cls).before args s' = true := vx_ot_at hW0 hvm.symm (hgood _ (List.mem_cons_of_mem _ List.mem_cons_self)) hini
  have hU' : vx_Zq Bundle.tN "UNASSIGNED_STACK" Bundle.steD A s' s'.heap := by rw [hhp]; exact vx_Zq.moved hW0.alike (hU.kept hS.2.1)
  have hN' : vx_Zq Bundle.tN "SUPPRESSED_SENTINEL" Bundle.listD A s' s'.heap := by rw [hhp]; exact vx_Zq.moved hW0.alike (hN.kept hS.2.1)
  have h : ∀ w ∈ Bundle.ownAtoms own ic cls names, w.before args s' = true := vx_own hat' (vx_isRefq hU'.1) (vx_isRefq hN'.1) hU'.2.word hN'.2.word
  have hown' : s'.vm.findClass own = some m.cls := by rw [hvm]; exact hown
  have hins : (Cond.instantiable cls 6).before args s' = true := h _ (by simp [Bundle.ownAtoms])
  obtain ⟨vm₁, cX, kX, hfX, hkX, -, -, X₁, st1⟩ := Y.newCold hexec (own := own) (C := cls) (index := ik) (n := 6) hown' hk' hins hini'
    (g := F0 m pc ls rest) rfl (by rw [hb]; exact d0) (Nat.le_refl _) (Nat.le_refl _)
  generalize hT1 : (T.setVm vm₁).pushCell { cls := cX, slots := kX.instanceTypes.map defaultValue, vm := .none } = T1 at X₁ st1
  have hcat : (Value.ref T.heap.size).category = 1 := rfl
  have hcellA : T1.heap[T.heap.size]? = some (freshCell cX kX) := by rw [← hT1]; exact State.heap_pushCell_size _ _
  have d3' : decode c.code (pc + 3) = .ok (.dup, 1) := by rw [hb]; exact d3
  have d4' : decode c.code (pc + 4) = .ok (.ldc_w is, 3) := by rw [hb]; exact d4
  have hstr' : vk_R own is text sa s' := vk_R.warm hW0 hstr
  obtain ⟨U, hsteps, hrun, hend, hW, hsame, ce, hce, hO⟩ := X₁.ctorThrowS hexec htr (own := own) (cls := cls) (names := names) (ic := ic) hown' hcls hnames h (fun x hx => nomatch hx) hfX hkX hcellA (by rw [hhp, hT]; exact Nat.le_refl _) (msg := .ref sa) rfl
    (g := { method := m, pc := pc + 7, locals := ls, stack := .ref sa :: .ref T.heap.size :: .ref T.heap.size :: rest, locked := none }) rfl hsize rfl rfl (rest := rest) rfl
    (by rw [hb]; exact d7) (by rw [hb]; exact d10) hout hRframes (by simp only [List.map_cons, List.sum_cons, hcat]; omega) hlocks
  obtain ⟨f1, f2⟩ := vx_frame hsame
  rw [hhp] at f1 f2
  have hWs : s.WarmedH U.vm := State.WarmedH.trans hW0 hW
  have hcl : s.vm.findClass cls = some ce.cls := by
    have h9 := hO.cls
    rw [hvm] at h9
    exact h9
  have hall : s.sameButNew ({ U with vm := s.vm } : State) locs mc ms := by
    subst hA
    obtain ⟨e1, e2⟩ := hsame
    rw [State.setFrames_setFrames] at e1
    have h2 : (T.setVm s.vm).sameButNew ({ U with vm := s.vm } : State) [] (0 + 1) (0 + 6) := ⟨e1, e2⟩
    have h3 := X.same.trans h2
    rw [List.append_nil] at h3
    exact h3.mono hc hs
  refine ⟨U, ?_, .threw T.heap.size, hrun, hend, Or.inr ⟨T.heap.size, rfl, cls, ce, locs, hx U hWs.alike f1 (fun q hq => f2 q hq (fun z hz => nomatch hz)), hce, hO.vm, hcl, hWs, hall, hf⟩⟩
  refine st1 _ ?_
  show Steps p.tables e below (T1.setTop { method := m, pc := pc + 3, locals := ls, stack := .ref T.heap.size :: rest, locked := none }) _
  jvm_step X₁.here [X₁.here.top, hexec, d3', Value.category]
  exact X₁.ldcStringW hexec (own := own) (text := text) (index := is) (a := sa) hown' hstr'.1 hstr'.2
    (g := { method := m, pc := pc + 4, locals := ls, stack := .ref T.heap.size :: .ref T.heap.size :: rest, locked := none }) rfl d4' _ hsteps
end Ends
section Bodies
variable {l : Launch}
theorem vx_ofW {y : MethodName} {ws ws' : List Cond} {rm : Room} {Pc : Array Value → State → Prop} {Qc : Array Value → State → Outcome → State → Prop} {XC : String → State → State → Prop} {mc ms : Nat} {free : Addr → Prop} {cc : ByteArray} {maxL : Nat} {ret : Option FieldType}
    (hy : plainName y.cls = true) (hw : ws = Cond.code y cc maxL ret :: ws')
    (body : ∀ p e s m args below meth c s₁, BodyLoose p l y (headSpec ws rm) cc maxL ret e s m args below meth c s₁ → c.maxLocals = maxL → (∀ x ∈ c.exceptionTable.toList, False) → Pc args s →
      W p l e (headSpec ws rm).room s m args below meth c s.heap [] 0 0 (vx_MQ below Qc XC args s mc ms free) (entryFrame m args maxL)) : vx_Met l y ws rm Pc Qc XC mc ms free := by
  refine MetFree.of_bodyS (code := cc) (maxLocals := maxL) (ret := ret) hy ?_ ?_
  · intro args s m h hn
    obtain ⟨meth, c, h1, h2, h3, h4, h5, h6, -, -⟩ := Cond.code_spec hn (atoms_spec (ws := ws) h _ (by rw [hw]; exact List.mem_cons_self))
    exact ⟨meth, c, h1, h2, h3, h4, h5, h6⟩
  · intro p e s m args below meth c s₁ B hml hP _
    have hh0 : s₁.heap = s.heap := by rw [B.state]; rfl
    have ht : ∀ x ∈ c.exceptionTable.toList, False := by
      obtain ⟨meth9, c9, h1, h2, -, -, -, -, h7, -⟩ := Cond.code_spec B.named (atoms_spec (ws := ws) B.pre _ (by rw [hw]; exact List.mem_cons_self))
      cases Option.some.inj (h1.symm.trans B.method)
      cases Option.some.inj (h2.symm.trans (Stand.of_body B).code)
      intro x hx
      rw [Array.isEmpty_iff.mp h7] at hx
      cases hx
    obtain ⟨t, a1, o, b1, b2, b3⟩ := body p e s m args below meth c s₁ B hml ht hP s₁ hh0 (Stand.of_body B)
    exact ⟨t, o, a1, b1, b2, b3⟩
/-- the table of a body with handlers -/
theorem vx_table {p : Program} {x y : MethodName} {S : Spec} {cc bytes : ByteArray} {maxL maxL' : Nat} {ret ret' : Option FieldType} {e : Env} {s s₁ : State} {m : MethodId} {args : Array Value} {below : List Frame} {meth : Method} {c : Code} {hh : List (Nat × Nat × Nat × Nat)}
    (B : BodyLoose p l y S cc maxL ret e s m args below meth c s₁) (h : (Cond.codeWith y bytes maxL' ret' hh).before args s = true) : c.exceptionTable.toList = tableOf hh := by
  obtain ⟨m9, meth9, c9, hn9, h1, h2, -, -, h6, -⟩ := Cond.codeWith_spec h
  cases Option.some.inj (hn9.symm.trans B.named)
  cases Option.some.inj (h1.symm.trans B.method)
  cases Option.some.inj (h2.symm.trans (Stand.of_body B).code)
  rw [← h6, table_eq]
end Bodies
end VXA
/-! ===== END ===== -/
/-! ===== BEGIN a static call of a method with an exception table ===== -/
section VXS
variable {p : Program} {l : Launch} {e : Env} {R : Room} {s : State} {m : MethodId} {args : Array Value} {below : List Frame} {meth : Method} {c : Code} {T : State} {H : Heap} {locs : List Loc} {cells slots : Nat}
abbrev vx_CSW (R : Room) (s : State) (args : Array Value) (own : String) (index : Nat) (y : MethodName) (bytes : ByteArray) (maxL : Nat) (ret : Option FieldType) (hh : List (Nat × Nat × Nat × Nat)) (ws : List Cond) (rm : Room) (mc ms n : Nat) : Prop :=
  (rm.cells = mc ∧ rm.slots = ms ∧ rm.frames + 1 ≤ R.frames ∧ 8 + (maxL + 11) + rm.locals ≤ R.locals ∧ (∀ w ∈ ws, ∀ (a' : Array Value) (U : State), s.WarmedH U.vm → w.before a' U = true) ∧ Cond.codeWith y bytes maxL ret hh ∈ ws) ∧
  (Cond.codeWith y bytes maxL ret hh).before args s = true ∧ (Cond.initialized y.cls).before args s = true ∧ (y.cls ≠ "java/lang/invoke/MethodHandle" ∧ y.cls ≠ "java/lang/invoke/VarHandle") ∧
  (∀ sig, parseMethodDescriptor y.desc = some sig → n = sig.parameters.length) ∧ (Cond.methodLink own index y).before args s = true ∧ (Cond.static y).before args s = true
theorem vx_cwSW {own : String} {index maxL mc ms : Nat} {y : MethodName} {bytes : ByteArray} {ret : Option FieldType} {hh : List (Nat × Nat × Nat × Nat)} {Ts ws ws' : List Cond} {rm : Room} (n : Nat) (ht : ∀ w ∈ Ts, w.before args s = true) (hT : GoodIn Ts (va_wsS own index y ws)) (hw : ws = Cond.codeWith y bytes maxL ret hh :: ws') (hrc : rm.cells = mc) (hrs : rm.slots = ms)
    (hd : y.cls ≠ "java/lang/invoke/MethodHandle" ∧ y.cls ≠ "java/lang/invoke/VarHandle" ∧ (parseMethodDescriptor y.desc).map (fun d => d.parameters.length) = some n) (hR : rm.frames + 1 ≤ R.frames ∧ 8 + (maxL + 11) + rm.locals ≤ R.locals) :
    vx_CSW R s args own index y bytes maxL ret hh ws rm mc ms n := by
  have ok : ∀ w ∈ va_wsS own index y ws, w.before args s = true := fun w h => ht w (hT w h).1
  have hG : GoodIn Ts ws := fun w h => hT w (by unfold va_wsS; exact List.mem_append_right _ h)
  have hc : Cond.codeWith y bytes maxL ret hh ∈ ws := by rw [hw]; exact List.mem_cons_self
  refine ⟨⟨hrc, hrs, hR.1, hR.2, pay_in ht hG, hc⟩, ht _ (hG _ hc).1, ok _ (by simp [va_wsS]), ⟨hd.1, hd.2.1⟩, fun sig h => ?_, ok _ (by simp [va_wsS]), ok _ (by simp [va_wsS])⟩
  have h2 := hd.2.2
  rw [h] at h2
  exact (Option.some.inj h2).symm
theorem vx_callSW (X : Stand p l e R s m args below meth c T locs cells slots) (hexec : p.tables.exec = Jvm.exec) {own : String} {index : Nat} {y : MethodName} {bytes : ByteArray} {maxL : Nat} {ret : Option FieldType} {hh : List (Nat × Nat × Nat × Nat)}
    (hown : s.vm.findClass own = some m.cls) (hlink : (Cond.methodLink own index y).before args s = true) (hstat : (Cond.static y).before args s = true) (hinit : (Cond.initialized y.cls).before args s = true)
    (hcode : (Cond.codeWith y bytes maxL ret hh).before args s = true) (hy : y.cls ≠ "java/lang/invoke/MethodHandle" ∧ y.cls ≠ "java/lang/invoke/VarHandle")
    {W9 : Nat} {Pre : Pt → Array Value → Prop} {Post : Pt → Array Value → Option Value → Pt → Prop} (hK : Back l R p e below s args y 3 W9 Pre Post)
    {g : JFrame} (hg : g.method = m) (hsize : g.locals.size = c.maxLocals) {argsL rest : List Value} (hlen : ∀ sig, parseMethodDescriptor y.desc = some sig → argsL.length = sig.parameters.length)
    (hstack : g.stack = argsL.reverse ++ rest) (hW : 2 * g.monitorRoom + (rest.map fun v => v.category).sum ≤ W9) (hdg : decode c.code g.pc = .ok (.invokestatic index, 3))
    (hpre : ∀ vm₁, s.WarmedH vm₁ → Pre ⟨T.setVm vm₁, locs, cells, slots⟩ argsL.toArray) :
    ∃ (v : Option Value) (vm₁ : Vm) (B : Pt), s.WarmedH vm₁ ∧ Stand p l e R s m args below meth c B.U B.locs B.cells B.slots ∧ Post ⟨T.setVm vm₁, locs, cells, slots⟩ argsL.toArray v B ∧
      ∀ target, Steps p.tables e below (B.U.setTop { g with pc := g.pc + 3, stack := v.toList ++ rest }) target → Steps p.tables e below (T.setTop g) target := by
  obtain ⟨mk, methM, cM, hnamed, hmethM, -, -, -, -, -, -, hsigM⟩ := Cond.codeWith_spec hcode
  have hstatic : methM.isStatic = true := Cond.static_spec hnamed hmethM hstat
  obtain ⟨kP, hkP, -⟩ := className_of_methodNamed hnamed
  have hinitP : kP.init = .initialized := Cond.initialized_spec (findClass_of_methodNamed hnamed) hkP hinit
  obtain ⟨vm₁, X₁, hstep₁⟩ := X.invokestatic hexec hown hlink hnamed hmethM hstatic hkP hinitP hy (g := g) hg (argsL := argsL) (rest := rest) (hlen _ hsigM) hstack hdg
  obtain ⟨v, B, X', hpost, hsteps⟩ := hK m meth c ⟨T.setVm vm₁, locs, cells, slots⟩ { g with stack := rest } (.invokestatic index) mk argsL.toArray X₁ hg hsize hdg hW (X₁.named hnamed) (hpre vm₁ X₁.warmed)
  exact ⟨v, vm₁, B, X₁.warmed, X', hpost, fun target h => hstep₁ _ fun acts => by rw [doInvoke_state]; exact hsteps.trans h⟩
theorem vx_runSW {y : MethodName} {bytes cc : ByteArray} {maxL nL mc ms n index : Nat} {ret : Option FieldType} {hh : List (Nat × Nat × Nat × Nat)} {ws : List Cond} {rm : Room} {Pc : Array Value → State → Prop} {Qc : Array Value → State → Outcome → State → Prop} {free : Addr → Prop} {Ts : List Cond} {own : String} {As rest : List Value} {g : JFrame}
    (S : CallFix p m c cc nL s args Ts own) (hM : Met l y ws rm Pc Qc mc ms free) (cw : vx_CSW R s args own index y bytes maxL ret hh ws rm mc ms n) (hp : PreS s H Pc As)
    (hg : g.method = m) (hn : As.length = n) (hsize : g.locals.size = nL) (hstack : g.stack = As.reverse ++ rest) (hW : 2 * g.monitorRoom + (rest.map fun v => v.category).sum ≤ 8) (hdg : decode cc g.pc = .ok (.invokestatic index, 3)) (hf : cells + mc ≤ R.cells ∧ slots + ms ≤ R.slots) :
    va_Run p l e R s m args below meth c H locs cells slots mc ms g rest (Qc As.toArray) (free) := by
  obtain ⟨⟨hrc, hrs, hfr, hlo, hws, hcw⟩, hcode, hini, hy, hlen, hl, hstt⟩ := cw
  have hK : Back l R p e below s args y 3 8 (PreOf R mc ms Pc) (PostOf Qc mc ms free) := va_backW (hh := hh) (bytes := bytes) (maxL := maxL) (ret := ret) hM hp.1 hrc hrs hfr hlo hws hcw (fun a' U hW => word_at hW (Or.inl (by first | rfl | simp [Cond.onTables, Cond.keeps, Cond.steady])) hini)
  obtain ⟨hx, hb, hml, ho, -⟩ := S
  intro T hT X
  obtain ⟨v, vm₁, ⟨U', l2, c2, s2⟩, hW₁, X', ⟨g', mk, t, L, e1, e2, hq, h1, hL, h2, h3⟩, st⟩ := vx_callSW X hx (hh := hh) (bytes := bytes) (maxL := maxL) (ret := ret) ho hl hstt hini hcode hy hK hg (hsize.trans hml.symm) (argsL := As) (rest := rest) (fun sig h => hn.trans (hlen sig h)) hstack hW (by rw [hb]; exact hdg)
    (fun vm₁ hW₁ => ⟨hf.1, hf.2, hp.2 (T.setVm vm₁) hT hW₁⟩)
  dsimp only [Pt.U, Pt.locs, Pt.cells, Pt.slots] at X' e1 e2 h1 h2 h3 st
  subst h1; subst h2; subst h3
  exact ⟨v, (T.setVm vm₁).calling g' mk As.toArray, t, U', L, hT, X', hL, e1, e2, hq, st⟩
/-- not caught here, past rows that name other classes: it goes on to the caller -/
theorem vx_outP {p : Program} {l : Launch} {e : Env} {R : Room} {s : State} {m : MethodId} {args : Array Value} {below : List Frame} {meth : Method} {c : Code} {H : Heap} {locs : List Loc} {cells slots : Nat} {free : Addr → Prop} {ls : Array Slot} {rest : List Value} {Qc : Array Value → State → Outcome → State → Prop} {XC : String → State → State → Prop}
    {pc : Nat} {own E : String} {ce : Cell} {q : Addr} {mc ms : Nat} (hown : s.vm.findClass own = some m.cls) (hlocks : meth.locks = false)
    (hpass : ∀ z ∈ c.exceptionTable.toList, covers z pc = false ∨ (z.catchType ≠ 0 ∧ ∃ nm : String, (Cond.classLink own z.catchType nm).before args s = true ∧ va_Nc E nm s)) (hcell : H[q]? = some ce) (hv : ce.vm = .none) (hcl : s.vm.findClass E = some ce.cls)
    (hx : ∀ t : State, t.heap = H → s.vm.Alike t.vm → XC E s t) (hf : ∀ z ∈ locs, free z.base) (hc : cells ≤ mc) (hs : slots ≤ ms) :
    vx_W p l e R s m args below meth c H locs cells slots (vx_MQ below Qc XC args s mc ms free) (F0 m pc ls rest) q := by
  intro T hT X
  have hpl : e.platform.magicAccessors = ({} : Platform).magicAccessors := by rw [X.admits.platform]
  obtain ⟨vm', hW', X', st⟩ := X.outThrough hlocks q (g := F0 m pc ls rest) rfl rfl rfl (cell := ce) (by rw [hT]; exact hcell) (by rw [hv]; rfl)
    (by obtain ⟨k9, h9, -⟩ := Vm.findClass_spec hcl; exact ⟨k9, h9⟩) (fun z hz => by
      rcases hpass z hz with h | ⟨hz0, nm, hl1, hn1⟩
      · exact Or.inl h
      · obtain ⟨c6, hc6, hcl6⟩ := Cond.classLink_spec hown hl1 e.platform hpl
        obtain ⟨a8, b8, h1, h2, h3⟩ := hn1
        cases Option.some.inj (h1.symm.trans hcl)
        cases Option.some.inj (h2.symm.trans hc6)
        exact Or.inr ⟨hz0, _, hcl6, h3⟩)
  obtain ⟨g₀, hfr⟩ := X'.frames_eq
  have hcell9 : ((T.setVm vm').setFrames (.throwing q :: below)).heap[q]? = some ce := by
    show T.heap[q]? = some ce
    rw [hT]; exact hcell
  have hend : Ended ((T.setVm vm').setFrames (.throwing q :: below)) below (.threw q) := State.frames_setFrames _ (State.cur_lt_of_frames hfr)
  refine ⟨(T.setVm vm').setFrames (.throwing q :: below), ?_, .threw q, X'.here.running, hend, Or.inr ⟨q, rfl, E, ce, locs, hx _ hT (X'.ends _).1.alike, hcell9, hv, hcl, (X'.ends _).1, (X'.ends _).2.mono hc hs, hf⟩⟩
  rw [X.pushThrowing_eq]
  exact st
/-- a thing of a world lies in the heap -/
theorem vx_lt {D : va_G} {cl : List vw_C} {ws : va_W} {H1 : Heap} (h : va_P D cl ws H1) {k : Nat} {q : Nat × va_E} (hk : ws[k]? = some q) : q.1 < H1.size := (h k q hk).lt
end VXS
/-! ===== END ===== -/
/-! ===== BEGIN methods with a table of their own: called by a name, returning or throwing ===== -/
section VXH
/-! vx_backW, vx_callVX, vx_callSX, vx_callVW, vx_runVW, vx_runVX, vx_runSX, vx_ofWH follow the same proofs as their sisters above (Free/Laws.lean, Shelf42/LK1.lean); vx_outP calls Shelf42/NT130.lean (outThrough). -/
section
variable {l : Launch} {R : Room} {p : Program} {e : Env} {below : List Frame} {s : State} {sargs : Array Value} {y : MethodName} {len W9 : Nat}
theorem vx_backW {ws : List Cond} {rm : Room} {Pc : Array Value → State → Prop} {Qc : Array Value → State → Outcome → State → Prop} {XC : String → State → State → Prop} {mc ms : Nat} {free : Addr → Prop} {bytes : ByteArray} {maxL : Nat} {ret : Option FieldType} {hh : List (Nat × Nat × Nat × Nat)}
    (hM : vx_Met l y ws rm Pc Qc XC mc ms free) (hblind : FrameBlind Pc) (hrc : rm.cells = mc) (hrs : rm.slots = ms)
    (hframes : rm.frames + 1 ≤ R.frames) (hlocals : W9 + (maxL + 11) + rm.locals ≤ R.locals)
    (hws : ∀ w ∈ ws, ∀ a' U, s.WarmedH U.vm → w.before a' U = true) (hcode : Cond.codeWith y bytes maxL ret hh ∈ ws) (hinit : ∀ a' U, s.WarmedH U.vm → (Cond.initialized y.cls).before a' U = true) :
    vx_Back l R p e below s sargs y len W9 (PreOf R mc ms Pc) (PostOf Qc mc ms free) (vx_Post XC mc ms free) := by
  intro m meth c A g ig mk a X hg hsize hdg hW hn hp
  have h1 : (headSpec ws rm).pre.before a A.U = true := atoms_intro fun w hw => hws w hw _ _ X.warmed
  have h2 : (Cond.codeWith y bytes maxL ret hh).before a A.U = true := hws _ hcode _ _ X.warmed
  have h3 : (Cond.initialized y.cls).before a A.U = true := hinit _ _ X.warmed
  have h4 : A.cells + (headSpec ws rm).room.cells ≤ R.cells := by rw [show (headSpec ws rm).room.cells = mc from hrc]; exact hp.1
  have h5 : A.slots + (headSpec ws rm).room.slots ≤ R.slots := by rw [show (headSpec ws rm).room.slots = ms from hrs]; exact hp.2.1
  have hPc : Pc a (A.U.calling g mk a) := hblind _ _ _ _ hp.2.2
  obtain ⟨U, Ls, c0, s0⟩ := A
  dsimp only [Pt.U, Pt.locs, Pt.cells, Pt.slots] at h1 h2 h3 h4 h5 X hn hPc ⊢
  obtain ⟨m9, methY, cY, hn9, hmY, hcY, -, hlY, -⟩ := Cond.codeWith_spec h2
  cases Option.some.inj (hn9.symm.trans hn)
  obtain ⟨kY, hkY, -⟩ := className_of_methodNamed hn
  have hinitY : kY.init = .initialized := Cond.initialized_spec (findClass_of_methodNamed hn) hkY h3
  have h : At U g.method c below := by rw [hg]; exact X.here
  have hlocals9 : W9 + (maxL + 11) + (headSpec ws rm).room.locals ≤ R.locals := hlocals
  have happ : (headSpec ws rm).appliesLoose y e.platform (U.calling g mk a) = true :=
    Spec.appliesLoose_calling (g := g) h hdg hn hkY hinitY
      (X.room_calling (g := g) (R' := (headSpec ws rm).room) hsize hmY hcY hframes (by rw [hlY]; omega) h4 h5) h1
  obtain ⟨mid, hmid⟩ := h.above
  have hfr : (U.setTop g).frames = (.java g :: mid) ++ below := by rw [State.frames_setTop' g h.top, hmid]; rfl
  obtain ⟨o, s₂, hsteps, -, hend, hq⟩ := Steps.callFree hM p X.admits X.cas X.clock (acts := []) hfr happ hPc trivial
  have hq' : vx_Q Qc XC mc ms free a (U.calling g mk a) o s₂ := hq
  rw [State.frames_setTop' g h.top] at hend
  obtain ⟨g₀, hg0⟩ := Option.isSome_iff_exists.mp h.top
  obtain ⟨r, hr⟩ := State.topJava?_eq_some.mp hg0
  have hr' : (({ U with heap := s₂.heap, slotsUsed := s₂.slotsUsed } : State).setVm s₂.vm).frames = .java g₀ :: r := hr
  rcases hq' with ⟨hqc, L, hfe, hL⟩ | ⟨q, rfl, E, ce, L, hx, hce, hcv, hcl, hW₂, hsm, hL⟩
  · obtain ⟨⟨v, rfl⟩, hW₂, e2, q2, q3, q4, q5, q6⟩ := id hfe
    have e3 : s₂ = ({ (U.calling g mk a).setFrames s₂.frames with heap := s₂.heap, slotsUsed := s₂.slotsUsed } : State).setVm s₂.vm := by
      have : s₂ = ({ s₂ with vm := (U.calling g mk a).vm } : State).setVm s₂.vm := rfl
      rw [e2] at this
      exact this
    obtain ⟨c₂, i₂, len₂, hc₂, hd₂, hf₂⟩ := hend
    have hW' : U.WarmedH s₂.vm := hW₂
    have hcc : c₂ = c := by
      have h1 : s₂.code? g.method = U.code? g.method := by
        rw [State.code?_eq, State.code?_eq, hW'.alike.method?]
      exact Option.some.inj (hc₂.symm.trans (h1.trans h.code))
    subst hcc
    have hlen : len₂ = len := by rw [hdg] at hd₂; cases hd₂; rfl
    subst hlen
    have hs₂ : s₂ = (({ U with heap := s₂.heap, slotsUsed := s₂.slotsUsed } : State).setVm s₂.vm).setTop { g with pc := g.pc + len₂, stack := v.toList ++ g.stack } := by
      refine e3.trans ?_
      rw [hf₂, State.calling_eq h.top, State.setFrames_setFrames, State.setTop_of_frames _ hr', hr]
      rfl
    have hsame : U.sameButNew ({ U with heap := s₂.heap, slotsUsed := s₂.slotsUsed } : State) L mc ms := by
      refine ⟨?_, q2, q3, q4, q5, q6⟩
      obtain ⟨t, ht, -⟩ := State.frames_cons hr
      show ({ U with heap := s₂.heap, slotsUsed := s₂.slotsUsed } : State) = { U.setFrames U.frames with heap := s₂.heap, slotsUsed := s₂.slotsUsed }
      rw [State.setFrames_self ht]
    subst hg
    refine Or.inl ⟨v, ⟨(({ U with heap := s₂.heap, slotsUsed := s₂.slotsUsed } : State).setVm s₂.vm), Ls ++ L, c0 + mc, s0 + ms⟩,
      ⟨X.admits, X.cas, X.clock, X.frames, X.room, X.hears, X.method, X.code, (X.here.setHeapUsed s₂.heap s₂.slotsUsed).setVm hW'.alike, X.tail, State.WarmedH.trans X.warmed hW', X.limits, X.bytes, X.same.trans (hsame.setVm s.vm)⟩,
      ⟨g, mk, s₂, L, rfl, rfl, hqc, rfl, hL, rfl, rfl⟩, ?_⟩
    show Steps p.tables e below _ ((({ U with heap := s₂.heap, slotsUsed := s₂.slotsUsed } : State).setVm s₂.vm).setTop { g with pc := g.pc + len₂, stack := v.toList ++ g.stack })
    rw [← hs₂]
    exact hsteps
  · obtain ⟨e2, q2, q3, q4, q5, q6⟩ := id hsm
    have e3 : s₂ = ({ (U.calling g mk a).setFrames s₂.frames with heap := s₂.heap, slotsUsed := s₂.slotsUsed } : State).setVm s₂.vm := by
      have : s₂ = ({ s₂ with vm := (U.calling g mk a).vm } : State).setVm s₂.vm := rfl
      rw [e2] at this
      exact this
    have hf₂ : s₂.frames = .throwing q :: .java g :: U.frames.tail := hend
    have hW' : U.WarmedH s₂.vm := hW₂
    have hs₂ : s₂ = ((({ U with heap := s₂.heap, slotsUsed := s₂.slotsUsed } : State).setVm s₂.vm).setTop g).pushFrame (.throwing q) := by
      refine e3.trans ?_
      rw [hf₂, State.calling_eq h.top, State.setFrames_setFrames, State.pushFrame, State.frames_setTop _ hr', State.setTop_of_frames _ hr', State.setFrames_setFrames, hr]
      rfl
    have hsame : U.sameButNew ({ U with heap := s₂.heap, slotsUsed := s₂.slotsUsed } : State) L mc ms := by
      refine ⟨?_, q2, q3, q4, q5, q6⟩
      obtain ⟨t, ht, -⟩ := State.frames_cons hr
      show ({ U with heap := s₂.heap, slotsUsed := s₂.slotsUsed } : State) = { U.setFrames U.frames with heap := s₂.heap, slotsUsed := s₂.slotsUsed }
      rw [State.setFrames_self ht]
    subst hg
    refine Or.inr ⟨q, ⟨(({ U with heap := s₂.heap, slotsUsed := s₂.slotsUsed } : State).setVm s₂.vm), Ls ++ L, c0 + mc, s0 + ms⟩,
      ⟨X.admits, X.cas, X.clock, X.frames, X.room, X.hears, X.method, X.code, (X.here.setHeapUsed s₂.heap s₂.slotsUsed).setVm hW'.alike, X.tail, State.WarmedH.trans X.warmed hW', X.limits, X.bytes, X.same.trans (hsame.setVm s.vm)⟩,
      ⟨g, mk, s₂, L, E, ce, rfl, rfl, hx, hce, hcv, hcl, rfl, hL, rfl, rfl⟩, ?_⟩
    show Steps p.tables e below _ (((({ U with heap := s₂.heap, slotsUsed := s₂.slotsUsed } : State).setVm s₂.vm).setTop g).pushFrame (.throwing q))
    rw [← hs₂]
    exact hsteps
end
variable {p : Program} {l : Launch} {e : Env} {R : Room} {s : State} {m : MethodId} {args : Array Value} {below : List Frame} {meth : Method} {c : Code} {T : State} {H : Heap} {locs : List Loc} {cells slots : Nat}
theorem vx_callVX (X : Stand p l e R s m args below meth c T locs cells slots) (hexec : p.tables.exec = Jvm.exec) {own C : String} {index : Nat} {y : MethodName} {bytes : ByteArray} {maxL : Nat} {ret : Option FieldType} {hh : List (Nat × Nat × Nat × Nat)}
    (hown : s.vm.findClass own = some m.cls) (hlink : (Cond.methodLink own index y).before args s = true) (hinst : (Cond.instanceMethod y).before args s = true) (hsel : (Cond.selects C y y).before args s = true)
    (hcode : (Cond.codeWith y bytes maxL ret hh).before args s = true) (hy : y.cls ≠ "java/lang/invoke/MethodHandle" ∧ y.cls ≠ "java/lang/invoke/VarHandle")
    {W9 : Nat} {Pre : Pt → Array Value → Prop} {Post : Pt → Array Value → Option Value → Pt → Prop} {PostX : Pt → Array Value → Addr → Pt → Prop} (hK : vx_Back l R p e below s args y 3 W9 Pre Post PostX)
    {b : Addr} {cellB : Cell} (hcell : T.heap[b]? = some cellB) (hobj : cellB.vm.isStatics = false) (hcls : s.vm.findClass C = some cellB.cls)
    {g : JFrame} (hg : g.method = m) (hsize : g.locals.size = c.maxLocals) {argsL rest : List Value} (hlen : ∀ sig, parseMethodDescriptor y.desc = some sig → argsL.length = sig.parameters.length)
    (hstack : g.stack = argsL.reverse ++ .ref b :: rest) (hW : 2 * g.monitorRoom + (rest.map fun v => v.category).sum ≤ W9) (hdg : decode c.code g.pc = .ok (.invokevirtual index, 3))
    (hpre : ∀ vm₁, s.WarmedH vm₁ → Pre ⟨T.setVm vm₁, locs, cells, slots⟩ (Value.ref b :: argsL).toArray) :
    (∃ (v : Option Value) (vm₁ : Vm) (B : Pt), s.WarmedH vm₁ ∧ Stand p l e R s m args below meth c B.U B.locs B.cells B.slots ∧ Post ⟨T.setVm vm₁, locs, cells, slots⟩ (Value.ref b :: argsL).toArray v B ∧
      ∀ target, Steps p.tables e below (B.U.setTop { g with pc := g.pc + 3, stack := v.toList ++ rest }) target → Steps p.tables e below (T.setTop g) target) ∨
    (∃ (q : Addr) (vm₁ : Vm) (B : Pt), s.WarmedH vm₁ ∧ Stand p l e R s m args below meth c B.U B.locs B.cells B.slots ∧ PostX ⟨T.setVm vm₁, locs, cells, slots⟩ (Value.ref b :: argsL).toArray q B ∧
      Steps p.tables e below (T.setTop g) ((B.U.setTop { g with stack := rest }).pushFrame (.throwing q))) := by
  obtain ⟨mk, methM, hnamed, hmethM, hstM, habM⟩ := Cond.instanceMethod_spec hinst
  obtain ⟨m8, methM', cM, hn8, hmethM', -, -, -, -, -, -, hsigM⟩ := Cond.codeWith_spec hcode
  cases Option.some.inj (hn8.symm.trans hnamed)
  cases hmethM.symm.trans hmethM'
  obtain ⟨c2, r2, m2, q1, q2, q3, q4, kP, hkP, hkPi⟩ := Cond.selects_spec hsel
  cases hcls.symm.trans q1
  cases (State.methodFound?_of_named hnamed hy).symm.trans q2
  cases hnamed.symm.trans q3
  have hselP : selectMethod e.platform s.vm cellB.cls mk = .method mk := by rw [Launch.admits_selectMethod X.admits]; exact q4
  obtain ⟨vm₁, X₁, hstep₁⟩ := X.invokevirtual hexec hown hlink hnamed hmethM hstM hkP hkPi hy (a := b) (cell := cellB) hcell
    (fun z h => by rw [h] at hobj; cases hobj) hselP hmethM habM hkP hkPi (g := g) hg (argsL := argsL) (rest := rest) (hlen _ hsigM) hstack hdg
  rcases hK m meth c ⟨T.setVm vm₁, locs, cells, slots⟩ { g with stack := rest } (.invokevirtual index) mk (Value.ref b :: argsL).toArray X₁ hg hsize hdg hW (X₁.named hnamed) (hpre vm₁ X₁.warmed) with ⟨v, B, X', hpost, hsteps⟩ | ⟨q, B, X', hpost, hsteps⟩
  · exact Or.inl ⟨v, vm₁, B, X₁.warmed, X', hpost, fun target h => hstep₁ _ fun acts => by rw [doInvoke_state]; exact hsteps.trans h⟩
  · exact Or.inr ⟨q, vm₁, B, X₁.warmed, X', hpost, hstep₁ _ fun acts => by rw [doInvoke_state]; exact hsteps⟩
theorem vx_callSX (X : Stand p l e R s m args below meth c T locs cells slots) (hexec : p.tables.exec = Jvm.exec) {own : String} {index : Nat} {y : MethodName} {bytes : ByteArray} {maxL : Nat} {ret : Option FieldType} {hh : List (Nat × Nat × Nat × Nat)}
    (hown : s.vm.findClass own = some m.cls) (hlink : (Cond.methodLink own index y).before args s = true) (hstat : (Cond.static y).before args s = true) (hinit : (Cond.initialized y.cls).before args s = true)
    (hcode : (Cond.codeWith y bytes maxL ret hh).before args s = true) (hy : y.cls ≠ "java/lang/invoke/MethodHandle" ∧ y.cls ≠ "java/lang/invoke/VarHandle")
    {W9 : Nat} {Pre : Pt → Array Value → Prop} {Post : Pt → Array Value → Option Value → Pt → Prop} {PostX : Pt → Array Value → Addr → Pt → Prop} (hK : vx_Back l R p e below s args y 3 W9 Pre Post PostX)
    {g : JFrame} (hg : g.method = m) (hsize : g.locals.size = c.maxLocals) {argsL rest : List Value} (hlen : ∀ sig, parseMethodDescriptor y.desc = some sig → argsL.length = sig.parameters.length)
    (hstack : g.stack = argsL.reverse ++ rest) (hW : 2 * g.monitorRoom + (rest.map fun v => v.category).sum ≤ W9) (hdg : decode c.code g.pc = .ok (.invokestatic index, 3))
    (hpre : ∀ vm₁, s.WarmedH vm₁ → Pre ⟨T.setVm vm₁, locs, cells, slots⟩ argsL.toArray) :
    (∃ (v : Option Value) (vm₁ : Vm) (B : Pt), s.WarmedH vm₁ ∧ Stand p l e R s m args below meth c B.U B.locs B.cells B.slots ∧ Post ⟨T.setVm vm₁, locs, cells, slots⟩ argsL.toArray v B ∧
      ∀ target, Steps p.tables e below (B.U.setTop { g with pc := g.pc + 3, stack := v.toList ++ rest }) target → Steps p.tables e below (T.setTop g) target) ∨
    (∃ (q : Addr) (vm₁ : Vm) (B : Pt), s.WarmedH vm₁ ∧ Stand p l e R s m args below meth c B.U B.locs B.cells B.slots ∧ PostX ⟨T.setVm vm₁, locs, cells, slots⟩ argsL.toArray q B ∧
      Steps p.tables e below (T.setTop g) ((B.U.setTop { g with stack := rest }).pushFrame (.throwing q))) := by
  obtain ⟨mk, methM, cM, hnamed, hmethM, -, -, -, -, -, -, hsigM⟩ := Cond.codeWith_spec hcode
  have hstatic : methM.isStatic = true := Cond.static_spec hnamed hmethM hstat
  obtain ⟨kP, hkP, -⟩ := className_of_methodNamed hnamed
  have hinitP : kP.init = .initialized := Cond.initialized_spec (findClass_of_methodNamed hnamed) hkP hinit
  obtain ⟨vm₁, X₁, hstep₁⟩ := X.invokestatic hexec hown hlink hnamed hmethM hstatic hkP hinitP hy (g := g) hg (argsL := argsL) (rest := rest) (hlen _ hsigM) hstack hdg
  rcases hK m meth c ⟨T.setVm vm₁, locs, cells, slots⟩ { g with stack := rest } (.invokestatic index) mk argsL.toArray X₁ hg hsize hdg hW (X₁.named hnamed) (hpre vm₁ X₁.warmed) with ⟨v, B, X', hpost, hsteps⟩ | ⟨q, B, X', hpost, hsteps⟩
  · exact Or.inl ⟨v, vm₁, B, X₁.warmed, X', hpost, fun target h => hstep₁ _ fun acts => by rw [doInvoke_state]; exact hsteps.trans h⟩
  · exact Or.inr ⟨q, vm₁, B, X₁.warmed, X', hpost, hstep₁ _ fun acts => by rw [doInvoke_state]; exact hsteps⟩
theorem vx_callVW (X : Stand p l e R s m args below meth c T locs cells slots) (hexec : p.tables.exec = Jvm.exec) {own C : String} {index : Nat} {y : MethodName} {bytes : ByteArray} {maxL : Nat} {ret : Option FieldType} {hh : List (Nat × Nat × Nat × Nat)}
    (hown : s.vm.findClass own = some m.cls) (hlink : (Cond.methodLink own index y).before args s = true) (hinst : (Cond.instanceMethod y).before args s = true) (hsel : (Cond.selects C y y).before args s = true)
    (hcode : (Cond.codeWith y bytes maxL ret hh).before args s = true) (hy : y.cls ≠ "java/lang/invoke/MethodHandle" ∧ y.cls ≠ "java/lang/invoke/VarHandle")
    {W9 : Nat} {Pre : Pt → Array Value → Prop} {Post : Pt → Array Value → Option Value → Pt → Prop} (hK : Back l R p e below s args y 3 W9 Pre Post)
    {b : Addr} {cellB : Cell} (hcell : T.heap[b]? = some cellB) (hobj : cellB.vm.isStatics = false) (hcls : s.vm.findClass C = some cellB.cls)
    {g : JFrame} (hg : g.method = m) (hsize : g.locals.size = c.maxLocals) {argsL rest : List Value} (hlen : ∀ sig, parseMethodDescriptor y.desc = some sig → argsL.length = sig.parameters.length)
    (hstack : g.stack = argsL.reverse ++ .ref b :: rest) (hW : 2 * g.monitorRoom + (rest.map fun v => v.category).sum ≤ W9) (hdg : decode c.code g.pc = .ok (.invokevirtual index, 3))
    (hpre : ∀ vm₁, s.WarmedH vm₁ → Pre ⟨T.setVm vm₁, locs, cells, slots⟩ (Value.ref b :: argsL).toArray) :
    ∃ (v : Option Value) (vm₁ : Vm) (B : Pt), s.WarmedH vm₁ ∧ Stand p l e R s m args below meth c B.U B.locs B.cells B.slots ∧ Post ⟨T.setVm vm₁, locs, cells, slots⟩ (Value.ref b :: argsL).toArray v B ∧
      ∀ target, Steps p.tables e below (B.U.setTop { g with pc := g.pc + 3, stack := v.toList ++ rest }) target → Steps p.tables e below (T.setTop g) target := by
  obtain ⟨mk, methM, hnamed, hmethM, hstM, habM⟩ := Cond.instanceMethod_spec hinst
  obtain ⟨m8, methM', cM, hn8, hmethM', -, -, -, -, -, -, hsigM⟩ := Cond.codeWith_spec hcode
  cases Option.some.inj (hn8.symm.trans hnamed)
  cases hmethM.symm.trans hmethM'
  obtain ⟨c2, r2, m2, q1, q2, q3, q4, kP, hkP, hkPi⟩ := Cond.selects_spec hsel
  cases hcls.symm.trans q1
  cases (State.methodFound?_of_named hnamed hy).symm.trans q2
  cases hnamed.symm.trans q3
  have hselP : selectMethod e.platform s.vm cellB.cls mk = .method mk := by rw [Launch.admits_selectMethod X.admits]; exact q4
  obtain ⟨vm₁, X₁, hstep₁⟩ := X.invokevirtual hexec hown hlink hnamed hmethM hstM hkP hkPi hy (a := b) (cell := cellB) hcell
    (fun z h => by rw [h] at hobj; cases hobj) hselP hmethM habM hkP hkPi (g := g) hg (argsL := argsL) (rest := rest) (hlen _ hsigM) hstack hdg
  obtain ⟨v, B, X', hpost, hsteps⟩ := hK m meth c ⟨T.setVm vm₁, locs, cells, slots⟩ { g with stack := rest } (.invokevirtual index) mk (Value.ref b :: argsL).toArray X₁ hg hsize hdg hW (X₁.named hnamed) (hpre vm₁ X₁.warmed)
  exact ⟨v, vm₁, B, X₁.warmed, X', hpost, fun target h => hstep₁ _ fun acts => by rw [doInvoke_state]; exact hsteps.trans h⟩
abbrev vx_CVW (R : Room) (s : State) (args : Array Value) (own C : String) (index : Nat) (y : MethodName) (bytes : ByteArray) (maxL : Nat) (ret : Option FieldType) (hh : List (Nat × Nat × Nat × Nat)) (ws : List Cond) (rm : Room) (mc ms n : Nat) : Prop :=
  (rm.cells = mc ∧ rm.slots = ms ∧ rm.frames + 1 ≤ R.frames ∧ 8 + (maxL + 11) + rm.locals ≤ R.locals ∧ (∀ w ∈ ws, ∀ (a' : Array Value) (U : State), s.WarmedH U.vm → w.before a' U = true) ∧ Cond.codeWith y bytes maxL ret hh ∈ ws) ∧
  (Cond.codeWith y bytes maxL ret hh).before args s = true ∧ (Cond.initialized y.cls).before args s = true ∧ (y.cls ≠ "java/lang/invoke/MethodHandle" ∧ y.cls ≠ "java/lang/invoke/VarHandle") ∧
  (∀ sig, parseMethodDescriptor y.desc = some sig → n = sig.parameters.length) ∧ (Cond.methodLink own index y).before args s = true ∧ (Cond.instanceMethod y).before args s = true ∧ (Cond.selects C y y).before args s = true
theorem vx_cwVW {own C : String} {index maxL mc ms : Nat} {y : MethodName} {bytes : ByteArray} {ret : Option FieldType} {hh : List (Nat × Nat × Nat × Nat)} {Ts ws ws' : List Cond} {rm : Room} (n : Nat) (ht : ∀ w ∈ Ts, w.before args s = true) (hT : GoodIn Ts (wsV own index C y ws)) (hw : ws = Cond.codeWith y bytes maxL ret hh :: ws') (hrc : rm.cells = mc) (hrs : rm.slots = ms)
    (hd : y.cls = C ∧ y.cls ≠ "java/lang/invoke/MethodHandle" ∧ y.cls ≠ "java/lang/invoke/VarHandle" ∧ (parseMethodDescriptor y.desc).map (fun d => d.parameters.length) = some n) (hR : rm.frames + 1 ≤ R.frames ∧ 8 + (maxL + 11) + rm.locals ≤ R.locals) :
    vx_CVW R s args own C index y bytes maxL ret hh ws rm mc ms n := by
  obtain ⟨hC, hd⟩ := hd
  subst hC
  have ok : ∀ w ∈ wsV own index y.cls y ws, w.before args s = true := fun w h => ht w (hT w h).1
  have hG : GoodIn Ts ws := fun w h => hT w (by unfold wsV; exact List.mem_append_right _ h)
  have hc : Cond.codeWith y bytes maxL ret hh ∈ ws := by rw [hw]; exact List.mem_cons_self
  refine ⟨⟨hrc, hrs, hR.1, hR.2, pay_in ht hG, hc⟩, ht _ (hG _ hc).1, ok _ (by simp [wsV]), ⟨hd.1, hd.2.1⟩, fun sig h => ?_, ok _ (by simp [wsV]), ok _ (by simp [wsV]), ok _ (by simp [wsV])⟩
  have h2 := hd.2.2
  rw [h] at h2
  exact (Option.some.inj h2).symm
theorem vx_runVW {y : MethodName} {bytes cc : ByteArray} {maxL nL mc ms n index : Nat} {ret : Option FieldType} {hh : List (Nat × Nat × Nat × Nat)} {ws : List Cond} {rm : Room} {Pc : Array Value → State → Prop} {Qc : Array Value → State → Outcome → State → Prop} {free : Addr → Prop} {Ts : List Cond} {own C : String} {b : Addr} {As rest : List Value} {g : JFrame}
    (S : CallFix p m c cc nL s args Ts own) (hM : Met l y ws rm Pc Qc mc ms free) (cw : vx_CVW R s args own C index y bytes maxL ret hh ws rm mc ms n) (hp : PreV s H C b Pc As)
    (hg : g.method = m) (hn : As.length = n) (hsize : g.locals.size = nL) (hstack : g.stack = As.reverse ++ .ref b :: rest) (hW : 2 * g.monitorRoom + (rest.map fun v => v.category).sum ≤ 8) (hdg : decode cc g.pc = .ok (.invokevirtual index, 3)) (hf : cells + mc ≤ R.cells ∧ slots + ms ≤ R.slots) :
    va_Run p l e R s m args below meth c H locs cells slots mc ms g rest (Qc (Value.ref b :: As).toArray) free := by
  obtain ⟨⟨hrc, hrs, hfr, hlo, hws, hcw⟩, hcode, hini, hy, hlen, hl, hin, hse⟩ := cw
  have hK : Back l R p e below s args y 3 8 (PreOf R mc ms Pc) (PostOf Qc mc ms free) := va_backW (hh := hh) (bytes := bytes) (maxL := maxL) (ret := ret) hM hp.1 hrc hrs hfr hlo hws hcw (fun a' U hW => word_at hW (Or.inl (by first | rfl | simp [Cond.onTables, Cond.keeps, Cond.steady])) hini)
  obtain ⟨hx, hb, hml, ho, -⟩ := S
  obtain ⟨-, ⟨cellB, hcB, hoB, hclB⟩, hPc⟩ := hp
  intro T hT X
  obtain ⟨v, vm₁, ⟨U', l2, c2, s2⟩, hW₁, X', ⟨g', mk, t, L, e1, e2, hq, h1, hL, h2, h3⟩, st⟩ := vx_callVW X hx (C := C) (hh := hh) (bytes := bytes) (maxL := maxL) (ret := ret) ho hl hin hse hcode hy hK (by rw [hT]; exact hcB) hoB hclB hg (hsize.trans hml.symm) (argsL := As) (rest := rest) (fun sig h => hn.trans (hlen sig h)) hstack hW (by rw [hb]; exact hdg)
    (fun vm₁ hW₁ => ⟨hf.1, hf.2, hPc (T.setVm vm₁) hT hW₁⟩)
  dsimp only [Pt.U, Pt.locs, Pt.cells, Pt.slots] at X' e1 e2 h1 h2 h3 st
  subst h1; subst h2; subst h3
  exact ⟨v, (T.setVm vm₁).calling g' mk (Value.ref b :: As).toArray, t, U', L, hT, X', hL, e1, e2, hq, st⟩
section
variable {y : MethodName} {bytes cc : ByteArray} {maxL nL mc ms n index : Nat} {ret : Option FieldType} {ws : List Cond} {rm : Room} {Pc : Array Value → State → Prop} {Qc : Array Value → State → Outcome → State → Prop} {XC : String → State → State → Prop} {free : Addr → Prop} {Ts : List Cond} {own C : String} {b : Addr} {As rest : List Value} {g : JFrame}
theorem vx_runVX {hh : List (Nat × Nat × Nat × Nat)} (S : CallFix p m c cc nL s args Ts own) (hM : vx_Met l y ws rm Pc Qc XC mc ms free) (cw : vx_CVW R s args own C index y bytes maxL ret hh ws rm mc ms n) (hp : PreV s H C b Pc As)
    (hg : g.method = m) (hn : As.length = n) (hsize : g.locals.size = nL) (hstack : g.stack = As.reverse ++ .ref b :: rest) (hW : 2 * g.monitorRoom + (rest.map fun v => v.category).sum ≤ 8) (hdg : decode cc g.pc = .ok (.invokevirtual index, 3)) (hf : cells + mc ≤ R.cells ∧ slots + ms ≤ R.slots) :
    vx_Run p l e R s m args below meth c H locs cells slots mc ms g rest (Qc (Value.ref b :: As).toArray) XC free := by
  obtain ⟨⟨hrc, hrs, hfr, hlo, hws, hcw⟩, hcode, hini, hy, hlen, hl, hin, hse⟩ := cw
  have hK : vx_Back l R p e below s args y 3 8 (PreOf R mc ms Pc) (PostOf Qc mc ms free) (vx_Post XC mc ms free) := vx_backW (hh := hh) (bytes := bytes) (maxL := maxL) (ret := ret) hM hp.1 hrc hrs hfr hlo hws hcw (fun a' U hW => word_at hW (Or.inl (by first | rfl | simp [Cond.onTables, Cond.keeps, Cond.steady])) hini)
  obtain ⟨hx, hb, hml, ho, -⟩ := S
  obtain ⟨-, ⟨cellB, hcB, hoB, hclB⟩, hPc⟩ := hp
  intro T hT X
  rcases vx_callVX X hx (C := C) (hh := hh) (bytes := bytes) (maxL := maxL) (ret := ret) ho hl hin hse hcode hy hK (by rw [hT]; exact hcB) hoB hclB hg (hsize.trans hml.symm) (argsL := As) (rest := rest) (fun sig h => hn.trans (hlen sig h)) hstack hW (by rw [hb]; exact hdg)
    (fun vm₁ hW₁ => ⟨hf.1, hf.2, hPc (T.setVm vm₁) hT hW₁⟩) with ⟨v, vm₁, ⟨U', l2, c2, s2⟩, hW₁, X', ⟨g', mk, t, L, e1, e2, hq, h1, hL, h2, h3⟩, st⟩ | ⟨q, vm₁, ⟨U', l2, c2, s2⟩, hW₁, X', ⟨g', mk, t, L, E, ce, e1, e2, hq, hce, hcv, hcl, h1, hL, h2, h3⟩, st⟩
  · dsimp only [Pt.U, Pt.locs, Pt.cells, Pt.slots] at X' e1 e2 h1 h2 h3 st
    subst h1; subst h2; subst h3
    exact Or.inl ⟨v, (T.setVm vm₁).calling g' mk (Value.ref b :: As).toArray, t, U', L, hT, X', hL, e1, e2, hq, st⟩
  · dsimp only [Pt.U, Pt.locs, Pt.cells, Pt.slots] at X' e1 e2 h1 h2 h3 st hcl
    subst h1; subst h2; subst h3
    exact Or.inr ⟨q, (T.setVm vm₁).calling g' mk (Value.ref b :: As).toArray, t, U', L, E, ce, hT, X', hL, e1, e2, hq, hce, hcv, vx_cls hW₁ hcl, st⟩
theorem vx_runSX {hh : List (Nat × Nat × Nat × Nat)} (S : CallFix p m c cc nL s args Ts own) (hM : vx_Met l y ws rm Pc Qc XC mc ms free) (cw : vx_CSW R s args own index y bytes maxL ret hh ws rm mc ms n) (hp : PreS s H Pc As)
    (hg : g.method = m) (hn : As.length = n) (hsize : g.locals.size = nL) (hstack : g.stack = As.reverse ++ rest) (hW : 2 * g.monitorRoom + (rest.map fun v => v.category).sum ≤ 8) (hdg : decode cc g.pc = .ok (.invokestatic index, 3)) (hf : cells + mc ≤ R.cells ∧ slots + ms ≤ R.slots) :
    vx_Run p l e R s m args below meth c H locs cells slots mc ms g rest (Qc As.toArray) XC free := by
  obtain ⟨⟨hrc, hrs, hfr, hlo, hws, hcw⟩, hcode, hini, hy, hlen, hl, hstt⟩ := cw
  have hK : vx_Back l R p e below s args y 3 8 (PreOf R mc ms Pc) (PostOf Qc mc ms free) (vx_Post XC mc ms free) := vx_backW (hh := hh) (bytes := bytes) (maxL := maxL) (ret := ret) hM hp.1 hrc hrs hfr hlo hws hcw (fun a' U hW => word_at hW (Or.inl (by first | rfl | simp [Cond.onTables, Cond.keeps, Cond.steady])) hini)
  obtain ⟨hx, hb, hml, ho, -⟩ := S
  intro T hT X
  rcases vx_callSX X hx (hh := hh) (bytes := bytes) (maxL := maxL) (ret := ret) ho hl hstt hini hcode hy hK hg (hsize.trans hml.symm) (argsL := As) (rest := rest) (fun sig h => hn.trans (hlen sig h)) hstack hW (by rw [hb]; exact hdg)
    (fun vm₁ hW₁ => ⟨hf.1, hf.2, hp.2 (T.setVm vm₁) hT hW₁⟩) with ⟨v, vm₁, ⟨U', l2, c2, s2⟩, hW₁, X', ⟨g', mk, t, L, e1, e2, hq, h1, hL, h2, h3⟩, st⟩ | ⟨q, vm₁, ⟨U', l2, c2, s2⟩, hW₁, X', ⟨g', mk, t, L, E, ce, e1, e2, hq, hce, hcv, hcl, h1, hL, h2, h3⟩, st⟩
  · dsimp only [Pt.U, Pt.locs, Pt.cells, Pt.slots] at X' e1 e2 h1 h2 h3 st
    subst h1; subst h2; subst h3
    exact Or.inl ⟨v, (T.setVm vm₁).calling g' mk As.toArray, t, U', L, hT, X', hL, e1, e2, hq, st⟩
  · dsimp only [Pt.U, Pt.locs, Pt.cells, Pt.slots] at X' e1 e2 h1 h2 h3 st hcl
    subst h1; subst h2; subst h3
    exact Or.inr ⟨q, (T.setVm vm₁).calling g' mk As.toArray, t, U', L, E, ce, hT, X', hL, e1, e2, hq, hce, hcv, vx_cls hW₁ hcl, st⟩
end
end VXH
theorem vx_ofWH {l : Launch} {y : MethodName} {ws ws' : List Cond} {rm : Room} {Pc : Array Value → State → Prop} {Qc : Array Value → State → Outcome → State → Prop} {XC : String → State → State → Prop} {mc ms : Nat} {free : Addr → Prop} {cc : ByteArray} {maxL : Nat} {ret : Option FieldType} {hh : List (Nat × Nat × Nat × Nat)}
    (hy : plainName y.cls = true) (hw : ws = Cond.codeWith y cc maxL ret hh :: ws')
    (body : ∀ p e s m args below meth c s₁, BodyLoose p l y (headSpec ws rm) cc maxL ret e s m args below meth c s₁ → c.maxLocals = maxL → Pc args s →
      W p l e (headSpec ws rm).room s m args below meth c s.heap [] 0 0 (vx_MQ below Qc XC args s mc ms free) (entryFrame m args maxL)) : vx_Met l y ws rm Pc Qc XC mc ms free := by
  refine MetFree.of_bodyS (code := cc) (maxLocals := maxL) (ret := ret) hy ?_ ?_
  · intro args s m h hn
    obtain ⟨m9, meth, c, hn9, h1, h2, h3, h4, -, h5, h6, -⟩ := Cond.codeWith_spec (atoms_spec (ws := ws) h _ (by rw [hw]; exact List.mem_cons_self))
    cases hn.symm.trans hn9
    exact ⟨meth, c, h1, h2, h3, h4, h5, h6⟩
  · intro p e s m args below meth c s₁ B hml hP _
    have hh0 : s₁.heap = s.heap := by rw [B.state]; rfl
    obtain ⟨t, a1, o, b1, b2, b3⟩ := body p e s m args below meth c s₁ B hml hP s₁ hh0 (Stand.of_body B)
    exact ⟨t, o, a1, b1, b2, b3⟩
/-! ===== END ===== -/
end
section
def RX0 : String := "OnionCells$Agreement"
def TX0 : u_T := fun k => match k with
  | _ => ("", "", "", false)
def tyX0 : Nat → FieldType := fun k => match k with
  | _ => .int
abbrev wsX00 : List Cond := u_ws RX0 TX0 0
theorem nmX0 : ∀ a, a < 0 → ∀ b, b < 0 → a ≠ b → (TX0 a).2.1 ≠ (TX0 b).2.1 := by decide +kernel
theorem tyX0_ok : ∀ k, k < 0 → parseFieldDescriptor (TX0 k).2.2.1 = some (tyX0 k) := by decide +kernel
abbrev cX0_raise : ByteArray := prog_2_method_2_code
def yX0_raise : MethodName := ⟨RX0, "raise", "(II)I"⟩
abbrev cX0_mix : ByteArray := prog_2_method_3_code
def yX0_mix : MethodName := ⟨RX0, "mix", "(II)I"⟩
abbrev cX0_shared : ByteArray := prog_2_method_4_code
def yX0_shared : MethodName := ⟨RX0, "shared", "(IIIII)I"⟩
abbrev cX0_tag : ByteArray := prog_2_method_5_code
def yX0_tag : MethodName := ⟨RX0, "tag", "(I)I"⟩
abbrev cX0_fillKeys : ByteArray := prog_2_method_6_code
def yX0_fillKeys : MethodName := ⟨RX0, "fillKeys", "([II)V"⟩
def RX1 : String := "OnionCells$Cell"
def TX1 : u_T := fun k => match k with
  | 0 => ("OnionCells$Cell", "bytes", "[I", true)
  | 1 => ("OnionCells$Cell", "sender", "I", false)
  | 2 => ("OnionCells$Cell", "receiver", "I", false)
  | 3 => ("OnionCells$Cell", "circuit", "I", false)
  | 4 => ("OnionCells$Cell", "command", "I", false)
  | _ => ("OnionCells$Cell", "distance", "I", false)
def tyX1 : Nat → FieldType := fun k => match k with
  | 0 => .array .int
  | 1 => .int
  | 2 => .int
  | 3 => .int
  | 4 => .int
  | _ => .int
abbrev wsX10 : List Cond := u_ws RX1 TX1 6
theorem nmX1 : ∀ a, a < 6 → ∀ b, b < 6 → a ≠ b → (TX1 a).2.1 ≠ (TX1 b).2.1 := by decide +kernel
theorem tyX1_ok : ∀ k, k < 6 → parseFieldDescriptor (TX1 k).2.2.1 = some (tyX1 k) := by decide +kernel
abbrev cX1_init : ByteArray := prog_3_method_1_code
def yX1_init : MethodName := ⟨RX1, "<init>", "()V"⟩
abbrev cX1_address : ByteArray := prog_3_method_2_code
def yX1_address : MethodName := ⟨RX1, "address", "(IIII)V"⟩
abbrev cX1_writeOrder : ByteArray := prog_3_method_3_code
def yX1_writeOrder : MethodName := ⟨RX1, "writeOrder", "(III)V"⟩
abbrev cX1_copyBytes : ByteArray := prog_3_method_4_code
def yX1_copyBytes : MethodName := ⟨RX1, "copyBytes", "(LOnionCells$Cell;)V"⟩
abbrev cX1_pair : ByteArray := prog_3_method_5_code
def yX1_pair : MethodName := ⟨RX1, "pair", "(I)I"⟩
abbrev cX1_putPair : ByteArray := prog_3_method_6_code
def yX1_putPair : MethodName := ⟨RX1, "putPair", "(II)V"⟩
abbrev cX1_dataLength : ByteArray := prog_3_method_7_code
def yX1_dataLength : MethodName := ⟨RX1, "dataLength", "()I"⟩
abbrev cX1_wrap : ByteArray := prog_3_method_8_code
def yX1_wrap : MethodName := ⟨RX1, "wrap", "(I)I"⟩
abbrev cX1_fed : ByteArray := prog_3_method_9_code
def yX1_fed : MethodName := ⟨RX1, "fed", "(I)I"⟩
abbrev cX1_isKnownBy : ByteArray := prog_3_method_10_code
def yX1_isKnownBy : MethodName := ⟨RX1, "isKnownBy", "(I)Z"⟩
def RX2 : String := "OnionCells$Circuit"
def TX2 : u_T := fun k => match k with
  | 0 => ("OnionCells$Circuit", "hopRelays", "[I", true)
  | 1 => ("OnionCells$Circuit", "keys", "[[I", true)
  | 2 => ("OnionCells$Circuit", "streams", "[LOnionCells$Stream;", true)
  | 3 => ("OnionCells$Circuit", "latest", "[I", true)
  | 4 => ("OnionCells$Circuit", "latestLength", "I", false)
  | 5 => ("OnionCells$Circuit", "state", "I", false)
  | 6 => ("OnionCells$Circuit", "hops", "I", false)
  | 7 => ("OnionCells$Circuit", "waited", "I", false)
  | 8 => ("OnionCells$Circuit", "exponent", "I", false)
  | 9 => ("OnionCells$Circuit", "number", "I", true)
  | 10 => ("OnionCells$Circuit", "row", "LOnionCells$Row;", true)
  | _ => ("OnionCells$Circuit", "relays", "[LOnionCells$Relay;", true)
def tyX2 : Nat → FieldType := fun k => match k with
  | 0 => .array .int
  | 1 => .array (.array .int)
  | 2 => .array (.object "OnionCells$Stream")
  | 3 => .array .int
  | 4 => .int
  | 5 => .int
  | 6 => .int
  | 7 => .int
  | 8 => .int
  | 9 => .int
  | 10 => .object "OnionCells$Row"
  | _ => .array (.object "OnionCells$Relay")
abbrev wsX20 : List Cond := u_ws RX2 TX2 12
theorem nmX2 : ∀ a, a < 12 → ∀ b, b < 12 → a ≠ b → (TX2 a).2.1 ≠ (TX2 b).2.1 := by decide +kernel
theorem tyX2_ok : ∀ k, k < 12 → parseFieldDescriptor (TX2 k).2.2.1 = some (tyX2 k) := by decide +kernel
abbrev cX2_init : ByteArray := prog_4_method_1_code
def yX2_init : MethodName := ⟨RX2, "<init>", "(ILOnionCells$Row;[LOnionCells$Relay;)V"⟩
abbrev cX2_isLive : ByteArray := prog_4_method_2_code
def yX2_isLive : MethodName := ⟨RX2, "isLive", "()Z"⟩
abbrev cX2_hasHop : ByteArray := prog_4_method_3_code
def yX2_hasHop : MethodName := ⟨RX2, "hasHop", "(I)Z"⟩
abbrev cX2_goesThrough : ByteArray := prog_4_method_4_code
def yX2_goesThrough : MethodName := ⟨RX2, "goesThrough", "(I)Z"⟩
abbrev cX2_startAnew : ByteArray := prog_4_method_5_code
def yX2_startAnew : MethodName := ⟨RX2, "startAnew", "(II)V"⟩
abbrev cX2_askForHop : ByteArray := prog_4_method_6_code
def yX2_askForHop : MethodName := ⟨RX2, "askForHop", "(II)V"⟩
abbrev cX2_waitFor : ByteArray := prog_4_method_7_code
def yX2_waitFor : MethodName := ⟨RX2, "waitFor", "(II)V"⟩
abbrev cX2_askForStream : ByteArray := prog_4_method_8_code
def yX2_askForStream : MethodName := ⟨RX2, "askForStream", "(II)V"⟩
abbrev cX2_sendData : ByteArray := prog_4_method_9_code
def yX2_sendData : MethodName := ⟨RX2, "sendData", "(III)V"⟩
abbrev cX2_endStream : ByteArray := prog_4_method_10_code
def yX2_endStream : MethodName := ⟨RX2, "endStream", "(I)V"⟩
abbrev cX2_askToTruncate : ByteArray := prog_4_method_11_code
def yX2_askToTruncate : MethodName := ⟨RX2, "askToTruncate", "(I)V"⟩
abbrev cX2_order : ByteArray := prog_4_method_12_code
def yX2_order : MethodName := ⟨RX2, "order", "(III)LOnionCells$Cell;"⟩
abbrev cX2_sealTo : ByteArray := prog_4_method_13_code
def yX2_sealTo : MethodName := ⟨RX2, "sealTo", "(ILOnionCells$Cell;)V"⟩
abbrev cX2_firstRelay : ByteArray := prog_4_method_14_code
def yX2_firstRelay : MethodName := ⟨RX2, "firstRelay", "()I"⟩
abbrev cX2_shut : ByteArray := prog_4_method_15_code
def yX2_shut : MethodName := ⟨RX2, "shut", "()V"⟩
abbrev cX2_becomeClosed : ByteArray := prog_4_method_16_code
def yX2_becomeClosed : MethodName := ⟨RX2, "becomeClosed", "()V"⟩
abbrev cX2_dropStreamsFrom : ByteArray := prog_4_method_17_code
def yX2_dropStreamsFrom : MethodName := ⟨RX2, "dropStreamsFrom", "(I)V"⟩
abbrev cX2_takes : ByteArray := prog_4_method_18_code
def yX2_takes : MethodName := ⟨RX2, "takes", "(LOnionCells$Cell;)Z"⟩
abbrev cX2_takesCreated : ByteArray := prog_4_method_19_code
def yX2_takesCreated : MethodName := ⟨RX2, "takesCreated", "(LOnionCells$Cell;)Z"⟩
abbrev cX2_takesRelay : ByteArray := prog_4_method_20_code
def yX2_takesRelay : MethodName := ⟨RX2, "takesRelay", "(LOnionCells$Cell;)Z"⟩
abbrev cX2_addsHop : ByteArray := prog_4_method_21_code
def yX2_addsHop : MethodName := ⟨RX2, "addsHop", "(II)Z"⟩
abbrev cX2_becomeReady : ByteArray := prog_4_method_22_code
def yX2_becomeReady : MethodName := ⟨RX2, "becomeReady", "()V"⟩
abbrev cX2_isKnown : ByteArray := prog_4_method_23_code
def yX2_isKnown : MethodName := ⟨RX2, "isKnown", "(LOnionCells$Cell;)Z"⟩
abbrev cX2_follows : ByteArray := prog_4_method_24_code
def yX2_follows : MethodName := ⟨RX2, "follows", "(LOnionCells$Cell;I)Z"⟩
abbrev cX2_followOfStream : ByteArray := prog_4_method_25_code
def yX2_followOfStream : MethodName := ⟨RX2, "followOfStream", "(LOnionCells$Cell;I)V"⟩
abbrev cX2_keepLatest : ByteArray := prog_4_method_26_code
def yX2_keepLatest : MethodName := ⟨RX2, "keepLatest", "(LOnionCells$Cell;)V"⟩
def RX3 : String := "OnionCells$Passage"
def TX3 : u_T := fun k => match k with
  | 0 => ("OnionCells$Passage", "keys", "[I", true)
  | 1 => ("OnionCells$Passage", "open", "[Z", true)
  | 2 => ("OnionCells$Passage", "there", "Z", false)
  | 3 => ("OnionCells$Passage", "before", "I", false)
  | 4 => ("OnionCells$Passage", "behind", "I", false)
  | 5 => ("OnionCells$Passage", "waited", "I", false)
  | 6 => ("OnionCells$Passage", "counts", "[I", true)
  | 7 => ("OnionCells$Passage", "node", "I", true)
  | 8 => ("OnionCells$Passage", "number", "I", true)
  | _ => ("OnionCells$Passage", "row", "LOnionCells$Row;", true)
def tyX3 : Nat → FieldType := fun k => match k with
  | 0 => .array .int
  | 1 => .array .boolean
  | 2 => .boolean
  | 3 => .int
  | 4 => .int
  | 5 => .int
  | 6 => .array .int
  | 7 => .int
  | 8 => .int
  | _ => .object "OnionCells$Row"
abbrev wsX30 : List Cond := u_ws RX3 TX3 10
theorem nmX3 : ∀ a, a < 10 → ∀ b, b < 10 → a ≠ b → (TX3 a).2.1 ≠ (TX3 b).2.1 := by decide +kernel
theorem tyX3_ok : ∀ k, k < 10 → parseFieldDescriptor (TX3 k).2.2.1 = some (tyX3 k) := by decide +kernel
abbrev cX3_init : ByteArray := prog_5_method_1_code
def yX3_init : MethodName := ⟨RX3, "<init>", "(IILOnionCells$Row;)V"⟩
abbrev cX3_start : ByteArray := prog_5_method_2_code
def yX3_start : MethodName := ⟨RX3, "start", "(II)V"⟩
abbrev cX3_vanish : ByteArray := prog_5_method_3_code
def yX3_vanish : MethodName := ⟨RX3, "vanish", "()V"⟩
abbrev cX3_next : ByteArray := prog_5_method_4_code
def yX3_next : MethodName := ⟨RX3, "next", "()I"⟩
abbrev cX3_destroyNext : ByteArray := prog_5_method_5_code
def yX3_destroyNext : MethodName := ⟨RX3, "destroyNext", "()V"⟩
abbrev cX3_tearDown : ByteArray := prog_5_method_6_code
def yX3_tearDown : MethodName := ⟨RX3, "tearDown", "()V"⟩
abbrev cX3_takesCreated : ByteArray := prog_5_method_7_code
def yX3_takesCreated : MethodName := ⟨RX3, "takesCreated", "(LOnionCells$Cell;)Z"⟩
abbrev cX3_takesDestroy : ByteArray := prog_5_method_8_code
def yX3_takesDestroy : MethodName := ⟨RX3, "takesDestroy", "(LOnionCells$Cell;)Z"⟩
abbrev cX3_passOn : ByteArray := prog_5_method_9_code
def yX3_passOn : MethodName := ⟨RX3, "passOn", "(LOnionCells$Cell;I)V"⟩
abbrev cX3_takesRelay : ByteArray := prog_5_method_10_code
def yX3_takesRelay : MethodName := ⟨RX3, "takesRelay", "(LOnionCells$Cell;)Z"⟩
abbrev cX3_goesForward : ByteArray := prog_5_method_11_code
def yX3_goesForward : MethodName := ⟨RX3, "goesForward", "(LOnionCells$Cell;)Z"⟩
abbrev cX3_isKnown : ByteArray := prog_5_method_12_code
def yX3_isKnown : MethodName := ⟨RX3, "isKnown", "(LOnionCells$Cell;)Z"⟩
abbrev cX3_relayOn : ByteArray := prog_5_method_13_code
def yX3_relayOn : MethodName := ⟨RX3, "relayOn", "(LOnionCells$Cell;II)V"⟩
abbrev cX3_follows : ByteArray := prog_5_method_14_code
def yX3_follows : MethodName := ⟨RX3, "follows", "(LOnionCells$Cell;)Z"⟩
abbrev cX3_followsExtend : ByteArray := prog_5_method_15_code
def yX3_followsExtend : MethodName := ⟨RX3, "followsExtend", "(LOnionCells$Cell;)Z"⟩
abbrev cX3_followBegin : ByteArray := prog_5_method_16_code
def yX3_followBegin : MethodName := ⟨RX3, "followBegin", "(I)V"⟩
abbrev cX3_followData : ByteArray := prog_5_method_17_code
def yX3_followData : MethodName := ⟨RX3, "followData", "(LOnionCells$Cell;I)V"⟩
abbrev cX3_followTruncate : ByteArray := prog_5_method_18_code
def yX3_followTruncate : MethodName := ⟨RX3, "followTruncate", "()V"⟩
abbrev cX3_isOpen : ByteArray := prog_5_method_19_code
def yX3_isOpen : MethodName := ⟨RX3, "isOpen", "(I)Z"⟩
abbrev cX3_orderBack : ByteArray := prog_5_method_20_code
def yX3_orderBack : MethodName := ⟨RX3, "orderBack", "(III)LOnionCells$Cell;"⟩
abbrev cX3_sealBack : ByteArray := prog_5_method_21_code
def yX3_sealBack : MethodName := ⟨RX3, "sealBack", "(LOnionCells$Cell;)V"⟩
def RX4 : String := "OnionCells$Relay"
def TX4 : u_T := fun k => match k with
  | 0 => ("OnionCells$Relay", "passages", "[LOnionCells$Passage;", true)
  | 1 => ("OnionCells$Relay", "publicKey", "I", false)
  | 2 => ("OnionCells$Relay", "node", "I", true)
  | 3 => ("OnionCells$Relay", "row", "LOnionCells$Row;", true)
  | 4 => ("OnionCells$Relay", "secret", "I", false)
  | _ => ("OnionCells$Relay", "answered", "I", false)
def tyX4 : Nat → FieldType := fun k => match k with
  | 0 => .array (.object "OnionCells$Passage")
  | 1 => .int
  | 2 => .int
  | 3 => .object "OnionCells$Row"
  | 4 => .int
  | _ => .int
abbrev wsX40 : List Cond := u_ws RX4 TX4 6
theorem nmX4 : ∀ a, a < 6 → ∀ b, b < 6 → a ≠ b → (TX4 a).2.1 ≠ (TX4 b).2.1 := by decide +kernel
theorem tyX4_ok : ∀ k, k < 6 → parseFieldDescriptor (TX4 k).2.2.1 = some (tyX4 k) := by decide +kernel
abbrev cX4_init : ByteArray := prog_6_method_1_code
def yX4_init : MethodName := ⟨RX4, "<init>", "(ILOnionCells$Row;)V"⟩
abbrev cX4_takeSecret : ByteArray := prog_6_method_2_code
def yX4_takeSecret : MethodName := ⟨RX4, "takeSecret", "(I)V"⟩
abbrev cX4_hasPassage : ByteArray := prog_6_method_3_code
def yX4_hasPassage : MethodName := ⟨RX4, "hasPassage", "()Z"⟩
abbrev cX4_takes : ByteArray := prog_6_method_4_code
def yX4_takes : MethodName := ⟨RX4, "takes", "(LOnionCells$Cell;)Z"⟩
abbrev cX4_takesCreate : ByteArray := prog_6_method_5_code
def yX4_takesCreate : MethodName := ⟨RX4, "takesCreate", "(LOnionCells$Cell;LOnionCells$Passage;)Z"⟩
def RX5 : String := "OnionCells$Row"
def TX5 : u_T := fun k => match k with
  | 0 => ("OnionCells$Row", "cells", "[LOnionCells$Cell;", true)
  | 1 => ("OnionCells$Row", "size", "I", false)
  | 2 => ("OnionCells$Row", "lost", "I", false)
  | 3 => ("OnionCells$Row", "withoutRoom", "LOnionCells$Cell;", true)
  | _ => ("OnionCells$Row", "inHand", "LOnionCells$Cell;", false)
def tyX5 : Nat → FieldType := fun k => match k with
  | 0 => .array (.object "OnionCells$Cell")
  | 1 => .int
  | 2 => .int
  | 3 => .object "OnionCells$Cell"
  | _ => .object "OnionCells$Cell"
abbrev wsX50 : List Cond := u_ws RX5 TX5 5
theorem nmX5 : ∀ a, a < 5 → ∀ b, b < 5 → a ≠ b → (TX5 a).2.1 ≠ (TX5 b).2.1 := by decide +kernel
theorem tyX5_ok : ∀ k, k < 5 → parseFieldDescriptor (TX5 k).2.2.1 = some (tyX5 k) := by decide +kernel
abbrev cX5_init : ByteArray := prog_7_method_1_code
def yX5_init : MethodName := ⟨RX5, "<init>", "()V"⟩
abbrev cX5_add : ByteArray := prog_7_method_2_code
def yX5_add : MethodName := ⟨RX5, "add", "(IIII)LOnionCells$Cell;"⟩
abbrev cX5_takeOut : ByteArray := prog_7_method_3_code
def yX5_takeOut : MethodName := ⟨RX5, "takeOut", "(I)LOnionCells$Cell;"⟩
def RX6 : String := "OnionCells$Stream"
def TX6 : u_T := fun k => match k with
  | 0 => ("OnionCells$Stream", "state", "I", false)
  | 1 => ("OnionCells$Stream", "hop", "I", false)
  | _ => ("OnionCells$Stream", "window", "I", false)
def tyX6 : Nat → FieldType := fun k => match k with
  | 0 => .int
  | 1 => .int
  | _ => .int
abbrev wsX60 : List Cond := u_ws RX6 TX6 3
theorem nmX6 : ∀ a, a < 3 → ∀ b, b < 3 → a ≠ b → (TX6 a).2.1 ≠ (TX6 b).2.1 := by decide +kernel
theorem tyX6_ok : ∀ k, k < 3 → parseFieldDescriptor (TX6 k).2.2.1 = some (tyX6 k) := by decide +kernel
abbrev cX6_init : ByteArray := prog_8_method_1_code
def yX6_init : MethodName := ⟨RX6, "<init>", "()V"⟩
abbrev cX6_become : ByteArray := prog_8_method_2_code
def yX6_become : MethodName := ⟨RX6, "become", "(II)V"⟩
def RX7 : String := "OnionCells"
def TX7 : u_T := fun k => match k with
  | 0 => ("OnionCells", "row", "LOnionCells$Row;", true)
  | 1 => ("OnionCells", "relays", "[LOnionCells$Relay;", true)
  | 2 => ("OnionCells", "circuits", "[LOnionCells$Circuit;", true)
  | 3 => ("OnionCells", "came", "I", false)
  | _ => ("OnionCells", "strays", "I", false)
def tyX7 : Nat → FieldType := fun k => match k with
  | 0 => .object "OnionCells$Row"
  | 1 => .array (.object "OnionCells$Relay")
  | 2 => .array (.object "OnionCells$Circuit")
  | 3 => .int
  | _ => .int
abbrev wsX70 : List Cond := u_ws RX7 TX7 5
theorem nmX7 : ∀ a, a < 5 → ∀ b, b < 5 → a ≠ b → (TX7 a).2.1 ≠ (TX7 b).2.1 := by decide +kernel
theorem tyX7_ok : ∀ k, k < 5 → parseFieldDescriptor (TX7 k).2.2.1 = some (tyX7 k) := by decide +kernel
abbrev cX7_init : ByteArray := prog_1_method_1_code
def yX7_init : MethodName := ⟨RX7, "<init>", "()V"⟩
abbrev cX7_secret : ByteArray := prog_1_method_2_code
def yX7_secret : MethodName := ⟨RX7, "secret", "(II)I"⟩
abbrev cX7_create : ByteArray := prog_1_method_3_code
def yX7_create : MethodName := ⟨RX7, "create", "(III)I"⟩
abbrev cX7_extend : ByteArray := prog_1_method_4_code
def yX7_extend : MethodName := ⟨RX7, "extend", "(III)I"⟩
abbrev cX7_begin : ByteArray := prog_1_method_5_code
def yX7_begin : MethodName := ⟨RX7, "begin", "(III)V"⟩
abbrev cX7_send : ByteArray := prog_1_method_6_code
def yX7_send : MethodName := ⟨RX7, "send", "(IIII)I"⟩
abbrev cX7_end : ByteArray := prog_1_method_7_code
def yX7_end : MethodName := ⟨RX7, "end", "(II)I"⟩
abbrev cX7_truncate : ByteArray := prog_1_method_8_code
def yX7_truncate : MethodName := ⟨RX7, "truncate", "(II)I"⟩
abbrev cX7_close : ByteArray := prog_1_method_9_code
def yX7_close : MethodName := ⟨RX7, "close", "(I)V"⟩
abbrev cX7_deliver : ByteArray := prog_1_method_10_code
def yX7_deliver : MethodName := ⟨RX7, "deliver", "(I)I"⟩
abbrev cX7_damage : ByteArray := prog_1_method_11_code
def yX7_damage : MethodName := ⟨RX7, "damage", "(III)I"⟩
abbrev cX7_lose : ByteArray := prog_1_method_12_code
def yX7_lose : MethodName := ⟨RX7, "lose", "(I)I"⟩
abbrev cX7_cell : ByteArray := prog_1_method_13_code
def yX7_cell : MethodName := ⟨RX7, "cell", "(II)I"⟩
abbrev cX7_circuit : ByteArray := prog_1_method_14_code
def yX7_circuit : MethodName := ⟨RX7, "circuit", "(II)I"⟩
abbrev cX7_key : ByteArray := prog_1_method_15_code
def yX7_key : MethodName := ⟨RX7, "key", "(III)I"⟩
abbrev cX7_relay : ByteArray := prog_1_method_16_code
def yX7_relay : MethodName := ⟨RX7, "relay", "(III)I"⟩
abbrev cX7_data : ByteArray := prog_1_method_17_code
def yX7_data : MethodName := ⟨RX7, "data", "(II)I"⟩
abbrev cX7_count : ByteArray := prog_1_method_18_code
def yX7_count : MethodName := ⟨RX7, "count", "(I)I"⟩
abbrev cX7_loss : ByteArray := prog_1_method_19_code
def yX7_loss : MethodName := ⟨RX7, "loss", "()F"⟩
abbrev cX7_readyCircuits : ByteArray := prog_1_method_20_code
def yX7_readyCircuits : MethodName := ⟨RX7, "readyCircuits", "()I"⟩
abbrev cX7_checkCircuit : ByteArray := prog_1_method_21_code
def yX7_checkCircuit : MethodName := ⟨RX7, "checkCircuit", "(I)V"⟩
abbrev cX7_checkRelay : ByteArray := prog_1_method_22_code
def yX7_checkRelay : MethodName := ⟨RX7, "checkRelay", "(I)V"⟩
abbrev cX7_checkStream : ByteArray := prog_1_method_23_code
def yX7_checkStream : MethodName := ⟨RX7, "checkStream", "(I)V"⟩
abbrev cX7_checkIndex : ByteArray := prog_1_method_24_code
def yX7_checkIndex : MethodName := ⟨RX7, "checkIndex", "(II)V"⟩
abbrev cX7_checkExponent : ByteArray := prog_1_method_25_code
def yX7_checkExponent : MethodName := ⟨RX7, "checkExponent", "(I)V"⟩
abbrev cX7_checkArgument : ByteArray := prog_1_method_26_code
def yX7_checkArgument : MethodName := ⟨RX7, "checkArgument", "(Z)V"⟩
abbrev cX7_checkState : ByteArray := prog_1_method_27_code
def yX7_checkState : MethodName := ⟨RX7, "checkState", "(Z)V"⟩
abbrev cX7_isByte : ByteArray := prog_1_method_28_code
def yX7_isByte : MethodName := ⟨RX7, "isByte", "(I)Z"⟩
abbrev cX7_isStream : ByteArray := prog_1_method_29_code
def yX7_isStream : MethodName := ⟨RX7, "isStream", "(I)Z"⟩
def RX8 : String := "OnionCellsModel"
def TX8 : u_T := fun k => match k with
  | 0 => ("OnionCellsModel", "thrown", "I", false)
  | 1 => ("OnionCellsModel", "many", "I", false)
  | 2 => ("OnionCellsModel", "cells", "[I", true)
  | 3 => ("OnionCellsModel", "came", "I", false)
  | 4 => ("OnionCellsModel", "lost", "I", false)
  | 5 => ("OnionCellsModel", "stray", "I", false)
  | 6 => ("OnionCellsModel", "state", "[I", true)
  | 7 => ("OnionCellsModel", "hops", "[I", true)
  | 8 => ("OnionCellsModel", "hop", "[I", true)
  | 9 => ("OnionCellsModel", "keys", "[I", true)
  | 10 => ("OnionCellsModel", "waits", "[I", true)
  | 11 => ("OnionCellsModel", "exponent", "[I", true)
  | 12 => ("OnionCellsModel", "stream", "[I", true)
  | 13 => ("OnionCellsModel", "streamHop", "[I", true)
  | 14 => ("OnionCellsModel", "window", "[I", true)
  | 15 => ("OnionCellsModel", "dataLength", "[I", true)
  | 16 => ("OnionCellsModel", "dataBytes", "[I", true)
  | 17 => ("OnionCellsModel", "secrets", "[I", true)
  | 18 => ("OnionCellsModel", "answered", "[I", true)
  | 19 => ("OnionCellsModel", "there", "[Z", true)
  | 20 => ("OnionCellsModel", "before", "[I", true)
  | 21 => ("OnionCellsModel", "behind", "[I", true)
  | 22 => ("OnionCellsModel", "awaited", "[I", true)
  | 23 => ("OnionCellsModel", "relayKeys", "[I", true)
  | 24 => ("OnionCellsModel", "open", "[Z", true)
  | 25 => ("OnionCellsModel", "tally", "[I", true)
  | 26 => ("OnionCellsModel", "b", "[I", true)
  | 27 => ("OnionCellsModel", "far", "I", false)
  | 28 => ("OnionCellsModel", "tag", "I", false)
  | _ => ("OnionCellsModel", "agreed", "[I", true)
def tyX8 : Nat → FieldType := fun k => match k with
  | 0 => .int
  | 1 => .int
  | 2 => .array .int
  | 3 => .int
  | 4 => .int
  | 5 => .int
  | 6 => .array .int
  | 7 => .array .int
  | 8 => .array .int
  | 9 => .array .int
  | 10 => .array .int
  | 11 => .array .int
  | 12 => .array .int
  | 13 => .array .int
  | 14 => .array .int
  | 15 => .array .int
  | 16 => .array .int
  | 17 => .array .int
  | 18 => .array .int
  | 19 => .array .boolean
  | 20 => .array .int
  | 21 => .array .int
  | 22 => .array .int
  | 23 => .array .int
  | 24 => .array .boolean
  | 25 => .array .int
  | 26 => .array .int
  | 27 => .int
  | 28 => .int
  | _ => .array .int
abbrev wsX80 : List Cond := u_ws RX8 TX8 30
theorem nmX8 : ∀ a, a < 30 → ∀ b, b < 30 → a ≠ b → (TX8 a).2.1 ≠ (TX8 b).2.1 := by decide +kernel
theorem tyX8_ok : ∀ k, k < 30 → parseFieldDescriptor (TX8 k).2.2.1 = some (tyX8 k) := by decide +kernel
abbrev cX8_init : ByteArray := prog_10_method_1_code
def yX8_init : MethodName := ⟨RX8, "<init>", "()V"⟩
abbrev cX8_thrown : ByteArray := prog_10_method_2_code
def yX8_thrown : MethodName := ⟨RX8, "thrown", "()I"⟩
abbrev cX8_in : ByteArray := prog_10_method_3_code
def yX8_in : MethodName := ⟨RX8, "in", "(III)Z"⟩
abbrev cX8_isCircuit : ByteArray := prog_10_method_4_code
def yX8_isCircuit : MethodName := ⟨RX8, "isCircuit", "(I)Z"⟩
abbrev cX8_isRelay : ByteArray := prog_10_method_5_code
def yX8_isRelay : MethodName := ⟨RX8, "isRelay", "(I)Z"⟩
abbrev cX8_raise : ByteArray := prog_10_method_6_code
def yX8_raise : MethodName := ⟨RX8, "raise", "(II)I"⟩
abbrev cX8_mix : ByteArray := prog_10_method_7_code
def yX8_mix : MethodName := ⟨RX8, "mix", "(II)I"⟩
abbrev cX8_agree : ByteArray := prog_10_method_8_code
def yX8_agree : MethodName := ⟨RX8, "agree", "(IIIII)V"⟩
abbrev cX8_wrap : ByteArray := prog_10_method_9_code
def yX8_wrap : MethodName := ⟨RX8, "wrap", "(I)I"⟩
abbrev cX8_fed : ByteArray := prog_10_method_10_code
def yX8_fed : MethodName := ⟨RX8, "fed", "(I)I"⟩
abbrev cX8_pair : ByteArray := prog_10_method_11_code
def yX8_pair : MethodName := ⟨RX8, "pair", "(I)I"⟩
abbrev cX8_putPair : ByteArray := prog_10_method_12_code
def yX8_putPair : MethodName := ⟨RX8, "putPair", "(II)V"⟩
abbrev cX8_clearBytes : ByteArray := prog_10_method_13_code
def yX8_clearBytes : MethodName := ⟨RX8, "clearBytes", "()V"⟩
abbrev cX8_order : ByteArray := prog_10_method_14_code
def yX8_order : MethodName := ⟨RX8, "order", "(III)V"⟩
abbrev cX8_seal : ByteArray := prog_10_method_15_code
def yX8_seal : MethodName := ⟨RX8, "seal", "(I)I"⟩
abbrev cX8_isKnown : ByteArray := prog_10_method_16_code
def yX8_isKnown : MethodName := ⟨RX8, "isKnown", "(I)Z"⟩
abbrev cX8_ship : ByteArray := prog_10_method_17_code
def yX8_ship : MethodName := ⟨RX8, "ship", "(IIIII)V"⟩
abbrev cX8_destroy : ByteArray := prog_10_method_18_code
def yX8_destroy : MethodName := ⟨RX8, "destroy", "(III)V"⟩
abbrev cX8_remove : ByteArray := prog_10_method_19_code
def yX8_remove : MethodName := ⟨RX8, "remove", "(I)V"⟩
abbrev cX8_dropStreams : ByteArray := prog_10_method_20_code
def yX8_dropStreams : MethodName := ⟨RX8, "dropStreams", "(II)V"⟩
abbrev cX8_ended : ByteArray := prog_10_method_21_code
def yX8_ended : MethodName := ⟨RX8, "ended", "(I)V"⟩
abbrev cX8_closeNow : ByteArray := prog_10_method_22_code
def yX8_closeNow : MethodName := ⟨RX8, "closeNow", "(I)V"⟩
abbrev cX8_clientSends : ByteArray := prog_10_method_23_code
def yX8_clientSends : MethodName := ⟨RX8, "clientSends", "(II)V"⟩
abbrev cX8_meet : ByteArray := prog_10_method_24_code
def yX8_meet : MethodName := ⟨RX8, "meet", "(III)V"⟩
abbrev cX8_ofStream : ByteArray := prog_10_method_25_code
def yX8_ofStream : MethodName := ⟨RX8, "ofStream", "(III)V"⟩
abbrev cX8_clientFollows : ByteArray := prog_10_method_26_code
def yX8_clientFollows : MethodName := ⟨RX8, "clientFollows", "(II)V"⟩
abbrev cX8_toClient : ByteArray := prog_10_method_27_code
def yX8_toClient : MethodName := ⟨RX8, "toClient", "(III)V"⟩
abbrev cX8_place : ByteArray := prog_10_method_28_code
def yX8_place : MethodName := ⟨RX8, "place", "(II)I"⟩
abbrev cX8_forget : ByteArray := prog_10_method_29_code
def yX8_forget : MethodName := ⟨RX8, "forget", "(II)V"⟩
abbrev cX8_destroyOn : ByteArray := prog_10_method_30_code
def yX8_destroyOn : MethodName := ⟨RX8, "destroyOn", "(II)V"⟩
abbrev cX8_tear : ByteArray := prog_10_method_31_code
def yX8_tear : MethodName := ⟨RX8, "tear", "(II)V"⟩
abbrev cX8_relaySends : ByteArray := prog_10_method_32_code
def yX8_relaySends : MethodName := ⟨RX8, "relaySends", "(II)V"⟩
abbrev cX8_begun : ByteArray := prog_10_method_33_code
def yX8_begun : MethodName := ⟨RX8, "begun", "(III)V"⟩
abbrev cX8_extendAt : ByteArray := prog_10_method_34_code
def yX8_extendAt : MethodName := ⟨RX8, "extendAt", "(II)V"⟩
abbrev cX8_dataAt : ByteArray := prog_10_method_35_code
def yX8_dataAt : MethodName := ⟨RX8, "dataAt", "(IIIZ)V"⟩
abbrev cX8_relayFollows : ByteArray := prog_10_method_36_code
def yX8_relayFollows : MethodName := ⟨RX8, "relayFollows", "(II)V"⟩
abbrev cX8_relayed : ByteArray := prog_10_method_37_code
def yX8_relayed : MethodName := ⟨RX8, "relayed", "(III)V"⟩
abbrev cX8_toRelay : ByteArray := prog_10_method_38_code
def yX8_toRelay : MethodName := ⟨RX8, "toRelay", "(IIII)V"⟩
abbrev cX8_secret : ByteArray := prog_10_method_39_code
def yX8_secret : MethodName := ⟨RX8, "secret", "(II)I"⟩
abbrev cX8_create : ByteArray := prog_10_method_40_code
def yX8_create : MethodName := ⟨RX8, "create", "(III)I"⟩
abbrev cX8_extend : ByteArray := prog_10_method_41_code
def yX8_extend : MethodName := ⟨RX8, "extend", "(III)I"⟩
abbrev cX8_begin : ByteArray := prog_10_method_42_code
def yX8_begin : MethodName := ⟨RX8, "begin", "(III)V"⟩
abbrev cX8_send : ByteArray := prog_10_method_43_code
def yX8_send : MethodName := ⟨RX8, "send", "(IIII)I"⟩
abbrev cX8_end : ByteArray := prog_10_method_44_code
def yX8_end : MethodName := ⟨RX8, "end", "(II)I"⟩
abbrev cX8_isOn : ByteArray := prog_10_method_45_code
def yX8_isOn : MethodName := ⟨RX8, "isOn", "(I)Z"⟩
abbrev cX8_truncate : ByteArray := prog_10_method_46_code
def yX8_truncate : MethodName := ⟨RX8, "truncate", "(II)I"⟩
abbrev cX8_close : ByteArray := prog_10_method_47_code
def yX8_close : MethodName := ⟨RX8, "close", "(I)V"⟩
abbrev cX8_deliver : ByteArray := prog_10_method_48_code
def yX8_deliver : MethodName := ⟨RX8, "deliver", "(I)I"⟩
abbrev cX8_damage : ByteArray := prog_10_method_49_code
def yX8_damage : MethodName := ⟨RX8, "damage", "(III)I"⟩
abbrev cX8_lose : ByteArray := prog_10_method_50_code
def yX8_lose : MethodName := ⟨RX8, "lose", "(I)I"⟩
abbrev cX8_out : ByteArray := prog_10_method_51_code
def yX8_out : MethodName := ⟨RX8, "out", "(Z)Z"⟩
abbrev cX8_cell : ByteArray := prog_10_method_52_code
def yX8_cell : MethodName := ⟨RX8, "cell", "(II)I"⟩
abbrev cX8_circuit : ByteArray := prog_10_method_53_code
def yX8_circuit : MethodName := ⟨RX8, "circuit", "(II)I"⟩
abbrev cX8_key : ByteArray := prog_10_method_54_code
def yX8_key : MethodName := ⟨RX8, "key", "(III)I"⟩
abbrev cX8_relay : ByteArray := prog_10_method_55_code
def yX8_relay : MethodName := ⟨RX8, "relay", "(III)I"⟩
abbrev cX8_data : ByteArray := prog_10_method_56_code
def yX8_data : MethodName := ⟨RX8, "data", "(II)I"⟩
abbrev cX8_readies : ByteArray := prog_10_method_57_code
def yX8_readies : MethodName := ⟨RX8, "readies", "()I"⟩
abbrev cX8_count : ByteArray := prog_10_method_58_code
def yX8_count : MethodName := ⟨RX8, "count", "(I)I"⟩
abbrev cX8_loss : ByteArray := prog_10_method_59_code
def yX8_loss : MethodName := ⟨RX8, "loss", "()F"⟩
def RL : String := "OnionCellsLaw"
abbrev cL_secret : ByteArray := method_3_code
def yL_secret : MethodName := ⟨RL, "secret", "(LOnionCells;II[J)I"⟩
abbrev cL_create : ByteArray := method_4_code
def yL_create : MethodName := ⟨RL, "create", "(LOnionCells;III[J)I"⟩
abbrev cL_extend : ByteArray := method_5_code
def yL_extend : MethodName := ⟨RL, "extend", "(LOnionCells;III[J)I"⟩
abbrev cL_begin : ByteArray := method_6_code
def yL_begin : MethodName := ⟨RL, "begin", "(LOnionCells;III)I"⟩
abbrev cL_send : ByteArray := method_7_code
def yL_send : MethodName := ⟨RL, "send", "(LOnionCells;IIII[J)I"⟩
abbrev cL_end : ByteArray := method_8_code
def yL_end : MethodName := ⟨RL, "end", "(LOnionCells;II[J)I"⟩
abbrev cL_truncate : ByteArray := method_9_code
def yL_truncate : MethodName := ⟨RL, "truncate", "(LOnionCells;II[J)I"⟩
abbrev cL_close : ByteArray := method_10_code
def yL_close : MethodName := ⟨RL, "close", "(LOnionCells;I)I"⟩
abbrev cL_deliver : ByteArray := method_11_code
def yL_deliver : MethodName := ⟨RL, "deliver", "(LOnionCells;I[J)I"⟩
abbrev cL_damage : ByteArray := method_12_code
def yL_damage : MethodName := ⟨RL, "damage", "(LOnionCells;III[J)I"⟩
abbrev cL_lose : ByteArray := method_13_code
def yL_lose : MethodName := ⟨RL, "lose", "(LOnionCells;I[J)I"⟩
abbrev cL_cell : ByteArray := method_14_code
def yL_cell : MethodName := ⟨RL, "cell", "(LOnionCells;II[J)I"⟩
abbrev cL_circuit : ByteArray := method_15_code
def yL_circuit : MethodName := ⟨RL, "circuit", "(LOnionCells;II[J)I"⟩
abbrev cL_key : ByteArray := method_16_code
def yL_key : MethodName := ⟨RL, "key", "(LOnionCells;III[J)I"⟩
abbrev cL_relay : ByteArray := method_17_code
def yL_relay : MethodName := ⟨RL, "relay", "(LOnionCells;III[J)I"⟩
abbrev cL_data : ByteArray := method_18_code
def yL_data : MethodName := ⟨RL, "data", "(LOnionCells;II[J)I"⟩
abbrev cL_count : ByteArray := method_19_code
def yL_count : MethodName := ⟨RL, "count", "(LOnionCells;I[J)I"⟩
abbrev cL_law : ByteArray := code
def yL_law : MethodName := ⟨RL, "law", "([I)Z"⟩
abbrev vwCl : List vw_C := [(RX1, TX1, 6), (RX2, TX2, 12), (RX3, TX3, 10), (RX4, TX4, 6), (RX5, TX5, 5), (RX6, TX6, 3), (RX7, TX7, 5), (RX8, TX8, 30)]
end
section
/-! the bytecode of the program as tables; positions are places in lw_tbl (written by wip/gen/prog.py) -/
abbrev xMi : Type := Nat × MethodName × ByteArray × Nat × Option FieldType × Nat × List (Nat × Nat × Nat × Nat) × List (Nat × Instr × Nat)
def xRO : List String := [RX0, RX1, RX2, RX3, RX4, RX5, RX6, RX7, RX8, RL]
def tb_X0_raise : List (Nat × Instr × Nat) := [(0, .lconst 1, 1), (1, .lstore_n 2, 1), (2, .bipush 15, 2), (4, .istore 4, 2), (6, .iload 4, 2), (8, .ifCond .lt 35, 3), (11, .lload_n 2, 1), (12, .lload_n 2, 1), (13, .lmul, 1), (14, .ldc2_w 9, 3), (17, .lrem, 1), (18, .lstore_n 2, 1), (19, .iload_n 1, 1), (20, .iload 4, 2), (22, .iushr, 1), (23, .iconst 1, 1), (24, .iand, 1), (25, .ifCond .eq 12, 3), (28, .lload_n 2, 1), (29, .iload_n 0, 1), (30, .i2l, 1), (31, .lmul, 1), (32, .ldc2_w 9, 3), (35, .lrem, 1), (36, .lstore_n 2, 1), (37, .iinc 4 (-1), 3), (40, .goto (-34), 3), (43, .lload_n 2, 1), (44, .l2i, 1), (45, .ireturn, 1)]
def mi_X0_raise : xMi := (0, yX0_raise, cX0_raise, 5, (some (FieldType.int)), 2, [], tb_X0_raise)
def tb_X0_mix : List (Nat × Instr × Nat) := [(0, .iload_n 0, 1), (1, .iload_n 1, 1), (2, .ixor, 1), (3, .ldc 11, 2), (5, .imul, 1), (6, .istore_n 2, 1), (7, .iload_n 2, 1), (8, .iload_n 2, 1), (9, .bipush 15, 2), (11, .iushr, 1), (12, .ixor, 1), (13, .ireturn, 1)]
def mi_X0_mix : xMi := (0, yX0_mix, cX0_mix, 3, (some (FieldType.int)), 2, [], tb_X0_mix)
def tb_X0_shared : List (Nat × Instr × Nat) := [(0, .ldc 12, 2), (2, .iload_n 0, 1), (3, .invokestatic 13, 3), (6, .istore 5, 2), (8, .iload 5, 2), (10, .iload_n 1, 1), (11, .invokestatic 13, 3), (14, .istore 5, 2), (16, .iload 5, 2), (18, .iload_n 2, 1), (19, .invokestatic 13, 3), (22, .istore 5, 2), (24, .iload 5, 2), (26, .iload_n 3, 1), (27, .invokestatic 13, 3), (30, .istore 5, 2), (32, .iload 5, 2), (34, .iload 4, 2), (36, .invokestatic 13, 3), (39, .ireturn, 1)]
def mi_X0_shared : xMi := (0, yX0_shared, cX0_shared, 6, (some (FieldType.int)), 5, [], tb_X0_shared)
def tb_X0_tag : List (Nat × Instr × Nat) := [(0, .iload_n 0, 1), (1, .bipush 16, 2), (3, .iushr, 1), (4, .ireturn, 1)]
def mi_X0_tag : xMi := (0, yX0_tag, cX0_tag, 1, (some (FieldType.int)), 1, [], tb_X0_tag)
def tb_X0_fillKeys : List (Nat × Instr × Nat) := [(0, .iload_n 1, 1), (1, .istore_n 2, 1), (2, .iconst 0, 1), (3, .istore_n 3, 1), (4, .iload_n 3, 1), (5, .iconst 4, 1), (6, .if_icmp .ge 21, 3), (9, .iload_n 2, 1), (10, .iload_n 3, 1), (11, .iconst 1, 1), (12, .iadd, 1), (13, .invokestatic 13, 3), (16, .istore_n 2, 1), (17, .aload_n 0, 1), (18, .iload_n 3, 1), (19, .iload_n 2, 1), (20, .iastore, 1), (21, .iinc 3 1, 3), (24, .goto (-20), 3), (27, .return_, 1)]
def mi_X0_fillKeys : xMi := (0, yX0_fillKeys, cX0_fillKeys, 4, none, 2, [], tb_X0_fillKeys)
def tb_X1_init : List (Nat × Instr × Nat) := [(0, .aload_n 0, 1), (1, .invokespecial 3, 3), (4, .aload_n 0, 1), (5, .bipush 14, 2), (7, .newarray .int, 2), (9, .putfield 9, 3), (12, .return_, 1)]
def mi_X1_init : xMi := (1, yX1_init, cX1_init, 1, none, 1, [], tb_X1_init)
def tb_X1_address : List (Nat × Instr × Nat) := [(0, .aload_n 0, 1), (1, .iload_n 1, 1), (2, .putfield 15, 3), (5, .aload_n 0, 1), (6, .iload_n 2, 1), (7, .putfield 19, 3), (10, .aload_n 0, 1), (11, .iload_n 3, 1), (12, .putfield 22, 3), (15, .aload_n 0, 1), (16, .iload 4, 2), (18, .putfield 25, 3), (21, .aload_n 0, 1), (22, .iconst 0, 1), (23, .putfield 28, 3), (26, .iconst 0, 1), (27, .istore 5, 2), (29, .iload 5, 2), (31, .bipush 14, 2), (33, .if_icmp .ge 17, 3), (36, .aload_n 0, 1), (37, .getfield 9, 3), (40, .iload 5, 2), (42, .iconst 0, 1), (43, .iastore, 1), (44, .iinc 5 1, 3), (47, .goto (-18), 3), (50, .return_, 1)]
def mi_X1_address : xMi := (1, yX1_address, cX1_address, 6, none, 5, [], tb_X1_address)
def tb_X1_writeOrder : List (Nat × Instr × Nat) := [(0, .aload_n 0, 1), (1, .getfield 9, 3), (4, .iconst 4, 1), (5, .iload_n 1, 1), (6, .iastore, 1), (7, .aload_n 0, 1), (8, .getfield 9, 3), (11, .iconst 5, 1), (12, .iload_n 2, 1), (13, .iastore, 1), (14, .aload_n 0, 1), (15, .getfield 9, 3), (18, .bipush 6, 2), (20, .iload_n 3, 1), (21, .iastore, 1), (22, .return_, 1)]
def mi_X1_writeOrder : xMi := (1, yX1_writeOrder, cX1_writeOrder, 4, none, 4, [], tb_X1_writeOrder)
def tb_X1_copyBytes : List (Nat × Instr × Nat) := [(0, .iconst 0, 1), (1, .istore_n 2, 1), (2, .iload_n 2, 1), (3, .bipush 14, 2), (5, .if_icmp .ge 21, 3), (8, .aload_n 0, 1), (9, .getfield 9, 3), (12, .iload_n 2, 1), (13, .aload_n 1, 1), (14, .getfield 9, 3), (17, .iload_n 2, 1), (18, .iaload, 1), (19, .iastore, 1), (20, .iinc 2 1, 3), (23, .goto (-21), 3), (26, .return_, 1)]
def mi_X1_copyBytes : xMi := (1, yX1_copyBytes, cX1_copyBytes, 3, none, 2, [], tb_X1_copyBytes)
def tb_X1_pair : List (Nat × Instr × Nat) := [(0, .aload_n 0, 1), (1, .getfield 9, 3), (4, .iload_n 1, 1), (5, .iaload, 1), (6, .bipush 8, 2), (8, .ishl, 1), (9, .aload_n 0, 1), (10, .getfield 9, 3), (13, .iload_n 1, 1), (14, .iconst 1, 1), (15, .iadd, 1), (16, .iaload, 1), (17, .ior, 1), (18, .ireturn, 1)]
def mi_X1_pair : xMi := (1, yX1_pair, cX1_pair, 2, (some (FieldType.int)), 2, [], tb_X1_pair)
def tb_X1_putPair : List (Nat × Instr × Nat) := [(0, .aload_n 0, 1), (1, .getfield 9, 3), (4, .iload_n 1, 1), (5, .iload_n 2, 1), (6, .bipush 8, 2), (8, .iushr, 1), (9, .sipush 255, 3), (12, .iand, 1), (13, .iastore, 1), (14, .aload_n 0, 1), (15, .getfield 9, 3), (18, .iload_n 1, 1), (19, .iconst 1, 1), (20, .iadd, 1), (21, .iload_n 2, 1), (22, .sipush 255, 3), (25, .iand, 1), (26, .iastore, 1), (27, .return_, 1)]
def mi_X1_putPair : xMi := (1, yX1_putPair, cX1_putPair, 3, none, 3, [], tb_X1_putPair)
def tb_X1_dataLength : List (Nat × Instr × Nat) := [(0, .aload_n 0, 1), (1, .getfield 9, 3), (4, .bipush 6, 2), (6, .iaload, 1), (7, .bipush 7, 2), (9, .if_icmp .ge 13, 3), (12, .aload_n 0, 1), (13, .getfield 9, 3), (16, .bipush 6, 2), (18, .iaload, 1), (19, .goto 5, 3), (22, .bipush 7, 2), (24, .ireturn, 1)]
def mi_X1_dataLength : xMi := (1, yX1_dataLength, cX1_dataLength, 1, (some (FieldType.int)), 1, [], tb_X1_dataLength)
def tb_X1_wrap : List (Nat × Instr × Nat) := [(0, .iload_n 1, 1), (1, .istore_n 2, 1), (2, .iconst 0, 1), (3, .istore_n 3, 1), (4, .iload_n 3, 1), (5, .bipush 14, 2), (7, .if_icmp .ge 30, 3), (10, .iload_n 2, 1), (11, .ldc 31, 2), (13, .imul, 1), (14, .ldc 32, 2), (16, .iadd, 1), (17, .istore_n 2, 1), (18, .aload_n 0, 1), (19, .getfield 9, 3), (22, .iload_n 3, 1), (23, .dup2, 1), (24, .iaload, 1), (25, .iload_n 2, 1), (26, .bipush 24, 2), (28, .iushr, 1), (29, .ixor, 1), (30, .iastore, 1), (31, .iinc 3 1, 3), (34, .goto (-30), 3), (37, .iload_n 2, 1), (38, .ireturn, 1)]
def mi_X1_wrap : xMi := (1, yX1_wrap, cX1_wrap, 4, (some (FieldType.int)), 2, [], tb_X1_wrap)
def tb_X1_fed : List (Nat × Instr × Nat) := [(0, .iload_n 1, 1), (1, .istore_n 2, 1), (2, .iconst 0, 1), (3, .istore_n 3, 1), (4, .iload_n 3, 1), (5, .bipush 14, 2), (7, .if_icmp .ge 46, 3), (10, .iload_n 3, 1), (11, .iconst 2, 1), (12, .if_icmp .eq 8, 3), (15, .iload_n 3, 1), (16, .iconst 3, 1), (17, .if_icmp .ne 7, 3), (20, .iconst 1, 1), (21, .goto 4, 3), (24, .iconst 0, 1), (25, .istore 4, 2), (27, .iload_n 2, 1), (28, .iload 4, 2), (30, .ifCond .eq 7, 3), (33, .iconst 0, 1), (34, .goto 9, 3), (37, .aload_n 0, 1), (38, .getfield 9, 3), (41, .iload_n 3, 1), (42, .iaload, 1), (43, .invokestatic 33, 3), (46, .istore_n 2, 1), (47, .iinc 3 1, 3), (50, .goto (-46), 3), (53, .iload_n 2, 1), (54, .ireturn, 1)]
def mi_X1_fed : xMi := (1, yX1_fed, cX1_fed, 5, (some (FieldType.int)), 2, [], tb_X1_fed)
def tb_X1_isKnownBy : List (Nat × Instr × Nat) := [(0, .aload_n 0, 1), (1, .iconst 0, 1), (2, .invokevirtual 39, 3), (5, .ifCond .ne 19, 3), (8, .aload_n 0, 1), (9, .iconst 2, 1), (10, .invokevirtual 39, 3), (13, .iload_n 1, 1), (14, .bipush 16, 2), (16, .iushr, 1), (17, .if_icmp .ne 7, 3), (20, .iconst 1, 1), (21, .goto 4, 3), (24, .iconst 0, 1), (25, .ireturn, 1)]
def mi_X1_isKnownBy : xMi := (1, yX1_isKnownBy, cX1_isKnownBy, 2, (some (FieldType.boolean)), 2, [], tb_X1_isKnownBy)
def tb_X2_init : List (Nat × Instr × Nat) := [(0, .aload_n 0, 1), (1, .invokespecial 3, 3), (4, .aload_n 0, 1), (5, .iconst 3, 1), (6, .newarray .int, 2), (8, .putfield 9, 3), (11, .aload_n 0, 1), (12, .iconst 3, 1), (13, .iconst 4, 1), (14, .multianewarray 15 2, 4), (18, .putfield 17, 3), (21, .aload_n 0, 1), (22, .iconst 3, 1), (23, .anewarray 20, 3), (26, .putfield 22, 3), (29, .aload_n 0, 1), (30, .bipush 7, 2), (32, .newarray .int, 2), (34, .putfield 26, 3), (37, .aload_n 0, 1), (38, .iconst 0, 1), (39, .putfield 29, 3), (42, .aload_n 0, 1), (43, .iconst (-1), 1), (44, .putfield 33, 3), (47, .aload_n 0, 1), (48, .iload_n 1, 1), (49, .putfield 36, 3), (52, .aload_n 0, 1), (53, .aload_n 2, 1), (54, .putfield 39, 3), (57, .aload_n 0, 1), (58, .aload_n 3, 1), (59, .putfield 43, 3), (62, .iconst 0, 1), (63, .istore 4, 2), (65, .iload 4, 2), (67, .iconst 3, 1), (68, .if_icmp .ge 23, 3), (71, .aload_n 0, 1), (72, .getfield 22, 3), (75, .iload 4, 2), (77, .new 20, 3), (80, .dup, 1), (81, .invokespecial 47, 3), (84, .aastore, 1), (85, .iinc 4 1, 3), (88, .goto (-23), 3), (91, .return_, 1)]
def mi_X2_init : xMi := (2, yX2_init, cX2_init, 5, none, 4, [], tb_X2_init)
def tb_X2_isLive : List (Nat × Instr × Nat) := [(0, .aload_n 0, 1), (1, .getfield 29, 3), (4, .iconst 1, 1), (5, .if_icmp .eq 11, 3), (8, .aload_n 0, 1), (9, .getfield 29, 3), (12, .iconst 2, 1), (13, .if_icmp .ne 7, 3), (16, .iconst 1, 1), (17, .goto 4, 3), (20, .iconst 0, 1), (21, .ireturn, 1)]
def mi_X2_isLive : xMi := (2, yX2_isLive, cX2_isLive, 1, (some (FieldType.boolean)), 1, [], tb_X2_isLive)
def tb_X2_hasHop : List (Nat × Instr × Nat) := [(0, .iload_n 1, 1), (1, .ifCond .lt 15, 3), (4, .iload_n 1, 1), (5, .aload_n 0, 1), (6, .getfield 48, 3), (9, .if_icmp .ge 7, 3), (12, .iconst 1, 1), (13, .goto 4, 3), (16, .iconst 0, 1), (17, .ireturn, 1)]
def mi_X2_hasHop : xMi := (2, yX2_hasHop, cX2_hasHop, 2, (some (FieldType.boolean)), 2, [], tb_X2_hasHop)
def tb_X2_goesThrough : List (Nat × Instr × Nat) := [(0, .iconst 0, 1), (1, .istore_n 2, 1), (2, .iload_n 2, 1), (3, .aload_n 0, 1), (4, .getfield 48, 3), (7, .if_icmp .ge 21, 3), (10, .aload_n 0, 1), (11, .getfield 9, 3), (14, .iload_n 2, 1), (15, .iaload, 1), (16, .iload_n 1, 1), (17, .if_icmp .ne 5, 3), (20, .iconst 1, 1), (21, .ireturn, 1), (22, .iinc 2 1, 3), (25, .goto (-23), 3), (28, .iconst 0, 1), (29, .ireturn, 1)]
def mi_X2_goesThrough : xMi := (2, yX2_goesThrough, cX2_goesThrough, 3, (some (FieldType.boolean)), 2, [], tb_X2_goesThrough)
def tb_X2_startAnew : List (Nat × Instr × Nat) := [(0, .aload_n 0, 1), (1, .iconst 0, 1), (2, .putfield 48, 3), (5, .aload_n 0, 1), (6, .iconst 0, 1), (7, .invokevirtual 51, 3), (10, .aload_n 0, 1), (11, .iconst 0, 1), (12, .putfield 55, 3), (15, .aload_n 0, 1), (16, .iload_n 1, 1), (17, .iload_n 2, 1), (18, .invokevirtual 58, 3), (21, .aload_n 0, 1), (22, .getfield 39, 3), (25, .iconst 0, 1), (26, .iload_n 1, 1), (27, .aload_n 0, 1), (28, .getfield 36, 3), (31, .iconst 1, 1), (32, .invokevirtual 62, 3), (35, .iconst 0, 1), (36, .bipush 17, 2), (38, .iload_n 2, 1), (39, .invokestatic 68, 3), (42, .invokevirtual 74, 3), (45, .return_, 1)]
def mi_X2_startAnew : xMi := (2, yX2_startAnew, cX2_startAnew, 3, none, 3, [], tb_X2_startAnew)
def tb_X2_askForHop : List (Nat × Instr × Nat) := [(0, .aload_n 0, 1), (1, .iload_n 1, 1), (2, .iload_n 2, 1), (3, .invokevirtual 58, 3), (6, .aload_n 0, 1), (7, .iconst 1, 1), (8, .iconst 0, 1), (9, .iconst 3, 1), (10, .invokevirtual 79, 3), (13, .astore_n 3, 1), (14, .aload_n 3, 1), (15, .getfield 83, 3), (18, .bipush 7, 2), (20, .iload_n 1, 1), (21, .iastore, 1), (22, .aload_n 3, 1), (23, .bipush 8, 2), (25, .bipush 17, 2), (27, .iload_n 2, 1), (28, .invokestatic 68, 3), (31, .invokevirtual 74, 3), (34, .aload_n 0, 1), (35, .aload_n 0, 1), (36, .getfield 48, 3), (39, .iconst 1, 1), (40, .isub, 1), (41, .aload_n 3, 1), (42, .invokevirtual 86, 3), (45, .return_, 1)]
def mi_X2_askForHop : xMi := (2, yX2_askForHop, cX2_askForHop, 4, none, 3, [], tb_X2_askForHop)
def tb_X2_waitFor : List (Nat × Instr × Nat) := [(0, .aload_n 0, 1), (1, .iconst 1, 1), (2, .putfield 29, 3), (5, .aload_n 0, 1), (6, .iload_n 1, 1), (7, .putfield 33, 3), (10, .aload_n 0, 1), (11, .iload_n 2, 1), (12, .putfield 90, 3), (15, .return_, 1)]
def mi_X2_waitFor : xMi := (2, yX2_waitFor, cX2_waitFor, 3, none, 3, [], tb_X2_waitFor)
def tb_X2_askForStream : List (Nat × Instr × Nat) := [(0, .aload_n 0, 1), (1, .getfield 22, 3), (4, .iload_n 1, 1), (5, .iconst 1, 1), (6, .isub, 1), (7, .aaload, 1), (8, .iload_n 2, 1), (9, .putfield 93, 3), (12, .aload_n 0, 1), (13, .getfield 22, 3), (16, .iload_n 1, 1), (17, .iconst 1, 1), (18, .isub, 1), (19, .aaload, 1), (20, .iconst 1, 1), (21, .iconst 0, 1), (22, .invokevirtual 96, 3), (25, .aload_n 0, 1), (26, .iload_n 2, 1), (27, .aload_n 0, 1), (28, .iconst 3, 1), (29, .iload_n 1, 1), (30, .iconst 0, 1), (31, .invokevirtual 79, 3), (34, .invokevirtual 86, 3), (37, .return_, 1)]
def mi_X2_askForStream : xMi := (2, yX2_askForStream, cX2_askForStream, 3, none, 3, [], tb_X2_askForStream)
def tb_X2_sendData : List (Nat × Instr × Nat) := [(0, .aload_n 0, 1), (1, .iconst 5, 1), (2, .iload_n 1, 1), (3, .iload_n 2, 1), (4, .invokevirtual 79, 3), (7, .astore 4, 2), (9, .iconst 0, 1), (10, .istore 5, 2), (12, .iload 5, 2), (14, .iload_n 2, 1), (15, .if_icmp .ge 28, 3), (18, .aload 4, 2), (20, .getfield 83, 3), (23, .bipush 7, 2), (25, .iload 5, 2), (27, .iadd, 1), (28, .iload_n 3, 1), (29, .iload 5, 2), (31, .iadd, 1), (32, .sipush 255, 3), (35, .iand, 1), (36, .iastore, 1), (37, .iinc 5 1, 3), (40, .goto (-28), 3), (43, .aload_n 0, 1), (44, .getfield 22, 3), (47, .iload_n 1, 1), (48, .iconst 1, 1), (49, .isub, 1), (50, .aaload, 1), (51, .dup, 1), (52, .getfield 99, 3), (55, .iconst 1, 1), (56, .isub, 1), (57, .putfield 99, 3), (60, .aload_n 0, 1), (61, .aload_n 0, 1), (62, .getfield 22, 3), (65, .iload_n 1, 1), (66, .iconst 1, 1), (67, .isub, 1), (68, .aaload, 1), (69, .getfield 93, 3), (72, .aload 4, 2), (74, .invokevirtual 86, 3), (77, .return_, 1)]
def mi_X2_sendData : xMi := (2, yX2_sendData, cX2_sendData, 6, none, 4, [], tb_X2_sendData)
def tb_X2_endStream : List (Nat × Instr × Nat) := [(0, .aload_n 0, 1), (1, .getfield 22, 3), (4, .iload_n 1, 1), (5, .iconst 1, 1), (6, .isub, 1), (7, .aaload, 1), (8, .iconst 0, 1), (9, .iconst 0, 1), (10, .invokevirtual 96, 3), (13, .aload_n 0, 1), (14, .aload_n 0, 1), (15, .getfield 22, 3), (18, .iload_n 1, 1), (19, .iconst 1, 1), (20, .isub, 1), (21, .aaload, 1), (22, .getfield 93, 3), (25, .aload_n 0, 1), (26, .bipush 6, 2), (28, .iload_n 1, 1), (29, .iconst 0, 1), (30, .invokevirtual 79, 3), (33, .invokevirtual 86, 3), (36, .return_, 1)]
def mi_X2_endStream : xMi := (2, yX2_endStream, cX2_endStream, 2, none, 2, [], tb_X2_endStream)
def tb_X2_askToTruncate : List (Nat × Instr × Nat) := [(0, .aload_n 0, 1), (1, .iload_n 1, 1), (2, .aload_n 0, 1), (3, .bipush 8, 2), (5, .iconst 0, 1), (6, .iconst 0, 1), (7, .invokevirtual 79, 3), (10, .invokevirtual 86, 3), (13, .return_, 1)]
def mi_X2_askToTruncate : xMi := (2, yX2_askToTruncate, cX2_askToTruncate, 2, none, 2, [], tb_X2_askToTruncate)
def tb_X2_order : List (Nat × Instr × Nat) := [(0, .aload_n 0, 1), (1, .getfield 39, 3), (4, .iconst 0, 1), (5, .aload_n 0, 1), (6, .getfield 9, 3), (9, .iconst 0, 1), (10, .iaload, 1), (11, .aload_n 0, 1), (12, .getfield 36, 3), (15, .iconst 3, 1), (16, .invokevirtual 62, 3), (19, .astore 4, 2), (21, .aload 4, 2), (23, .iload_n 1, 1), (24, .iload_n 2, 1), (25, .iload_n 3, 1), (26, .invokevirtual 102, 3), (29, .aload 4, 2), (31, .areturn, 1)]
def mi_X2_order : xMi := (2, yX2_order, cX2_order, 5, (some (FieldType.object "OnionCells$Cell")), 4, [], tb_X2_order)
def tb_X2_sealTo : List (Nat × Instr × Nat) := [(0, .aload_n 2, 1), (1, .iload_n 1, 1), (2, .putfield 106, 3), (5, .aload_n 2, 1), (6, .aload_n 0, 1), (7, .getfield 17, 3), (10, .iload_n 1, 1), (11, .aaload, 1), (12, .iconst 2, 1), (13, .iaload, 1), (14, .invokevirtual 109, 3), (17, .istore_n 3, 1), (18, .aload_n 0, 1), (19, .getfield 17, 3), (22, .iload_n 1, 1), (23, .aaload, 1), (24, .iconst 2, 1), (25, .iload_n 3, 1), (26, .iastore, 1), (27, .aload_n 2, 1), (28, .iconst 2, 1), (29, .iload_n 3, 1), (30, .bipush 16, 2), (32, .iushr, 1), (33, .invokevirtual 74, 3), (36, .iload_n 1, 1), (37, .istore 4, 2), (39, .iload 4, 2), (41, .ifCond .lt 31, 3), (44, .aload_n 0, 1), (45, .getfield 17, 3), (48, .iload 4, 2), (50, .aaload, 1), (51, .iconst 0, 1), (52, .aload_n 2, 1), (53, .aload_n 0, 1), (54, .getfield 17, 3), (57, .iload 4, 2), (59, .aaload, 1), (60, .iconst 0, 1), (61, .iaload, 1), (62, .invokevirtual 113, 3), (65, .iastore, 1), (66, .iinc 4 (-1), 3), (69, .goto (-30), 3), (72, .return_, 1)]
def mi_X2_sealTo : xMi := (2, yX2_sealTo, cX2_sealTo, 5, none, 3, [], tb_X2_sealTo)
def tb_X2_firstRelay : List (Nat × Instr × Nat) := [(0, .aload_n 0, 1), (1, .getfield 48, 3), (4, .ifCond .le 12, 3), (7, .aload_n 0, 1), (8, .getfield 9, 3), (11, .iconst 0, 1), (12, .iaload, 1), (13, .goto 7, 3), (16, .aload_n 0, 1), (17, .getfield 33, 3), (20, .ireturn, 1)]
def mi_X2_firstRelay : xMi := (2, yX2_firstRelay, cX2_firstRelay, 1, (some (FieldType.int)), 1, [], tb_X2_firstRelay)
def tb_X2_shut : List (Nat × Instr × Nat) := [(0, .aload_n 0, 1), (1, .getfield 39, 3), (4, .iconst 0, 1), (5, .aload_n 0, 1), (6, .invokevirtual 116, 3), (9, .aload_n 0, 1), (10, .getfield 36, 3), (13, .iconst 4, 1), (14, .invokevirtual 62, 3), (17, .pop, 1), (18, .aload_n 0, 1), (19, .invokevirtual 120, 3), (22, .return_, 1)]
def mi_X2_shut : xMi := (2, yX2_shut, cX2_shut, 1, none, 1, [], tb_X2_shut)
def tb_X2_becomeClosed : List (Nat × Instr × Nat) := [(0, .aload_n 0, 1), (1, .iconst 3, 1), (2, .putfield 29, 3), (5, .aload_n 0, 1), (6, .iconst (-1), 1), (7, .putfield 33, 3), (10, .aload_n 0, 1), (11, .iconst 0, 1), (12, .invokevirtual 51, 3), (15, .return_, 1)]
def mi_X2_becomeClosed : xMi := (2, yX2_becomeClosed, cX2_becomeClosed, 1, none, 1, [], tb_X2_becomeClosed)
def tb_X2_dropStreamsFrom : List (Nat × Instr × Nat) := [(0, .iconst 0, 1), (1, .istore_n 2, 1), (2, .iload_n 2, 1), (3, .iconst 3, 1), (4, .if_icmp .ge 33, 3), (7, .aload_n 0, 1), (8, .getfield 22, 3), (11, .iload_n 2, 1), (12, .aaload, 1), (13, .getfield 93, 3), (16, .iload_n 1, 1), (17, .if_icmp .lt 14, 3), (20, .aload_n 0, 1), (21, .getfield 22, 3), (24, .iload_n 2, 1), (25, .aaload, 1), (26, .iconst 0, 1), (27, .iconst 0, 1), (28, .invokevirtual 96, 3), (31, .iinc 2 1, 3), (34, .goto (-32), 3), (37, .return_, 1)]
def mi_X2_dropStreamsFrom : xMi := (2, yX2_dropStreamsFrom, cX2_dropStreamsFrom, 3, none, 2, [], tb_X2_dropStreamsFrom)
def tb_X2_takes : List (Nat × Instr × Nat) := [(0, .aload_n 0, 1), (1, .invokevirtual 123, 3), (4, .ifCond .eq 14, 3), (7, .aload_n 1, 1), (8, .getfield 127, 3), (11, .aload_n 0, 1), (12, .invokevirtual 116, 3), (15, .if_icmp .eq 5, 3), (18, .iconst 0, 1), (19, .ireturn, 1), (20, .aload_n 1, 1), (21, .getfield 130, 3), (24, .tableswitch 46 2 4 #[28, 34, 40], 28), (52, .aload_n 0, 1), (53, .aload_n 1, 1), (54, .invokevirtual 133, 3), (57, .ireturn, 1), (58, .aload_n 0, 1), (59, .aload_n 1, 1), (60, .invokevirtual 137, 3), (63, .ireturn, 1), (64, .aload_n 0, 1), (65, .invokevirtual 120, 3), (68, .iconst 1, 1), (69, .ireturn, 1), (70, .iconst 0, 1), (71, .ireturn, 1)]
def mi_X2_takes : xMi := (2, yX2_takes, cX2_takes, 2, (some (FieldType.boolean)), 2, [], tb_X2_takes)
def tb_X2_takesCreated : List (Nat × Instr × Nat) := [(0, .aload_n 0, 1), (1, .getfield 48, 3), (4, .ifCond .le 5, 3), (7, .iconst 0, 1), (8, .ireturn, 1), (9, .aload_n 0, 1), (10, .aload_n 1, 1), (11, .iconst 0, 1), (12, .invokevirtual 140, 3), (15, .aload_n 1, 1), (16, .iconst 2, 1), (17, .invokevirtual 140, 3), (20, .invokevirtual 143, 3), (23, .ifCond .ne 7, 3), (26, .aload_n 0, 1), (27, .invokevirtual 147, 3), (30, .iconst 1, 1), (31, .ireturn, 1)]
def mi_X2_takesCreated : xMi := (2, yX2_takesCreated, cX2_takesCreated, 2, (some (FieldType.boolean)), 2, [], tb_X2_takesCreated)
def tb_X2_takesRelay : List (Nat × Instr × Nat) := [(0, .aload_n 0, 1), (1, .getfield 48, 3), (4, .ifCond .ne 5, 3), (7, .iconst 0, 1), (8, .ireturn, 1), (9, .aload_n 0, 1), (10, .aload_n 1, 1), (11, .invokevirtual 150, 3), (14, .ifCond .eq 15, 3), (17, .aload_n 0, 1), (18, .aload_n 1, 1), (19, .aload_n 1, 1), (20, .getfield 106, 3), (23, .invokevirtual 153, 3), (26, .ifCond .ne 7, 3), (29, .aload_n 0, 1), (30, .invokevirtual 147, 3), (33, .iconst 1, 1), (34, .ireturn, 1)]
def mi_X2_takesRelay : xMi := (2, yX2_takesRelay, cX2_takesRelay, 2, (some (FieldType.boolean)), 2, [], tb_X2_takesRelay)
def tb_X2_addsHop : List (Nat × Instr × Nat) := [(0, .iload_n 1, 1), (1, .aload_n 0, 1), (2, .getfield 90, 3), (5, .invokestatic 68, 3), (8, .istore_n 3, 1), (9, .aload_n 0, 1), (10, .getfield 43, 3), (13, .aload_n 0, 1), (14, .getfield 33, 3), (17, .iconst 1, 1), (18, .isub, 1), (19, .aaload, 1), (20, .getfield 157, 3), (23, .aload_n 0, 1), (24, .getfield 90, 3), (27, .invokestatic 68, 3), (30, .istore 4, 2), (32, .iload_n 3, 1), (33, .iload 4, 2), (35, .bipush 17, 2), (37, .aload_n 0, 1), (38, .getfield 90, 3), (41, .invokestatic 68, 3), (44, .iload_n 1, 1), (45, .aload_n 0, 1), (46, .getfield 33, 3), (49, .invokestatic 162, 3), (52, .istore 5, 2), (54, .iload 5, 2), (56, .invokestatic 166, 3), (59, .iload_n 2, 1), (60, .if_icmp .eq 5, 3), (63, .iconst 0, 1), (64, .ireturn, 1), (65, .aload_n 0, 1), (66, .getfield 17, 3), (69, .aload_n 0, 1), (70, .getfield 48, 3), (73, .aaload, 1), (74, .iload 5, 2), (76, .invokestatic 169, 3), (79, .aload_n 0, 1), (80, .getfield 9, 3), (83, .aload_n 0, 1), (84, .getfield 48, 3), (87, .aload_n 0, 1), (88, .getfield 33, 3), (91, .iastore, 1), (92, .aload_n 0, 1), (93, .dup, 1), (94, .getfield 48, 3), (97, .iconst 1, 1), (98, .iadd, 1), (99, .putfield 48, 3), (102, .aload_n 0, 1), (103, .invokevirtual 173, 3), (106, .iconst 1, 1), (107, .ireturn, 1)]
def mi_X2_addsHop : xMi := (2, yX2_addsHop, cX2_addsHop, 6, (some (FieldType.boolean)), 3, [], tb_X2_addsHop)
def tb_X2_becomeReady : List (Nat × Instr × Nat) := [(0, .aload_n 0, 1), (1, .iconst 2, 1), (2, .putfield 29, 3), (5, .aload_n 0, 1), (6, .iconst (-1), 1), (7, .putfield 33, 3), (10, .return_, 1)]
def mi_X2_becomeReady : xMi := (2, yX2_becomeReady, cX2_becomeReady, 1, none, 1, [], tb_X2_becomeReady)
def tb_X2_isKnown : List (Nat × Instr × Nat) := [(0, .aload_n 1, 1), (1, .getfield 106, 3), (4, .istore_n 2, 1), (5, .aload_n 0, 1), (6, .iload_n 2, 1), (7, .invokevirtual 176, 3), (10, .ifCond .ne 5, 3), (13, .iconst 0, 1), (14, .ireturn, 1), (15, .iconst 0, 1), (16, .istore_n 3, 1), (17, .iload_n 3, 1), (18, .iload_n 2, 1), (19, .if_icmp .gt 29, 3), (22, .aload_n 0, 1), (23, .getfield 17, 3), (26, .iload_n 3, 1), (27, .aaload, 1), (28, .iconst 1, 1), (29, .aload_n 1, 1), (30, .aload_n 0, 1), (31, .getfield 17, 3), (34, .iload_n 3, 1), (35, .aaload, 1), (36, .iconst 1, 1), (37, .iaload, 1), (38, .invokevirtual 113, 3), (41, .iastore, 1), (42, .iinc 3 1, 3), (45, .goto (-28), 3), (48, .aload_n 1, 1), (49, .aload_n 0, 1), (50, .getfield 17, 3), (53, .iload_n 2, 1), (54, .aaload, 1), (55, .iconst 3, 1), (56, .iaload, 1), (57, .invokevirtual 109, 3), (60, .istore_n 3, 1), (61, .aload_n 1, 1), (62, .iload_n 3, 1), (63, .invokevirtual 180, 3), (66, .istore 4, 2), (68, .iload 4, 2), (70, .ifCond .eq 12, 3), (73, .aload_n 0, 1), (74, .getfield 17, 3), (77, .iload_n 2, 1), (78, .aaload, 1), (79, .iconst 3, 1), (80, .iload_n 3, 1), (81, .iastore, 1), (82, .iload 4, 2), (84, .ireturn, 1)]
def mi_X2_isKnown : xMi := (2, yX2_isKnown, cX2_isKnown, 5, (some (FieldType.boolean)), 2, [], tb_X2_isKnown)
def tb_X2_follows : List (Nat × Instr × Nat) := [(0, .aload_n 1, 1), (1, .getfield 83, 3), (4, .iconst 4, 1), (5, .iaload, 1), (6, .tableswitch 118 2 9 #[46, 118, 89, 89, 89, 89, 118, 97], 46), (52, .aload_n 0, 1), (53, .getfield 29, 3), (56, .iconst 1, 1), (57, .if_icmp .ne 36, 3), (60, .iload_n 2, 1), (61, .aload_n 0, 1), (62, .getfield 48, 3), (65, .iconst 1, 1), (66, .isub, 1), (67, .if_icmp .ne 26, 3), (70, .aload_n 0, 1), (71, .aload_n 1, 1), (72, .bipush 7, 2), (74, .invokevirtual 140, 3), (77, .aload_n 1, 1), (78, .bipush 9, 2), (80, .invokevirtual 140, 3), (83, .invokevirtual 143, 3), (86, .ifCond .eq 7, 3), (89, .iconst 1, 1), (90, .goto 4, 3), (93, .iconst 0, 1), (94, .ireturn, 1), (95, .aload_n 0, 1), (96, .aload_n 1, 1), (97, .iload_n 2, 1), (98, .invokevirtual 183, 3), (101, .iconst 1, 1), (102, .ireturn, 1), (103, .aload_n 0, 1), (104, .iload_n 2, 1), (105, .iconst 1, 1), (106, .iadd, 1), (107, .putfield 48, 3), (110, .aload_n 0, 1), (111, .aload_n 0, 1), (112, .getfield 48, 3), (115, .invokevirtual 51, 3), (118, .aload_n 0, 1), (119, .invokevirtual 173, 3), (122, .iconst 1, 1), (123, .ireturn, 1), (124, .iconst 0, 1), (125, .ireturn, 1)]
def mi_X2_follows : xMi := (2, yX2_follows, cX2_follows, 3, (some (FieldType.boolean)), 3, [], tb_X2_follows)
def tb_X2_followOfStream : List (Nat × Instr × Nat) := [(0, .aload_n 1, 1), (1, .getfield 83, 3), (4, .iconst 5, 1), (5, .iaload, 1), (6, .istore_n 3, 1), (7, .iload_n 3, 1), (8, .invokestatic 187, 3), (11, .ifCond .eq 18, 3), (14, .aload_n 0, 1), (15, .getfield 22, 3), (18, .iload_n 3, 1), (19, .iconst 1, 1), (20, .isub, 1), (21, .aaload, 1), (22, .getfield 93, 3), (25, .iload_n 2, 1), (26, .if_icmp .eq 4, 3), (29, .return_, 1), (30, .aload_n 0, 1), (31, .getfield 22, 3), (34, .iload_n 3, 1), (35, .iconst 1, 1), (36, .isub, 1), (37, .aaload, 1), (38, .astore 4, 2), (40, .aload_n 1, 1), (41, .getfield 83, 3), (44, .iconst 4, 1), (45, .iaload, 1), (46, .istore 5, 2), (48, .iload 5, 2), (50, .bipush 6, 2), (52, .if_icmp .ne 13, 3), (55, .aload 4, 2), (57, .iconst 0, 1), (58, .iconst 0, 1), (59, .invokevirtual 96, 3), (62, .goto 78, 3), (65, .iload 5, 2), (67, .iconst 4, 1), (68, .if_icmp .ne 22, 3), (71, .aload 4, 2), (73, .getfield 190, 3), (76, .iconst 1, 1), (77, .if_icmp .ne 13, 3), (80, .aload 4, 2), (82, .iconst 2, 1), (83, .iconst 4, 1), (84, .invokevirtual 96, 3), (87, .goto 53, 3), (90, .iload 5, 2), (92, .iconst 5, 1), (93, .if_icmp .ne 20, 3), (96, .aload 4, 2), (98, .getfield 190, 3), (101, .iconst 2, 1), (102, .if_icmp .ne 11, 3), (105, .aload_n 0, 1), (106, .aload_n 1, 1), (107, .invokevirtual 191, 3), (110, .goto 30, 3), (113, .iload 5, 2), (115, .bipush 7, 2), (117, .if_icmp .ne 23, 3), (120, .aload 4, 2), (122, .getfield 190, 3), (125, .iconst 2, 1), (126, .if_icmp .ne 14, 3), (129, .aload 4, 2), (131, .dup, 1), (132, .getfield 99, 3), (135, .iconst 2, 1), (136, .iadd, 1), (137, .putfield 99, 3), (140, .return_, 1)]
def mi_X2_followOfStream : xMi := (2, yX2_followOfStream, cX2_followOfStream, 6, none, 3, [], tb_X2_followOfStream)
def tb_X2_keepLatest : List (Nat × Instr × Nat) := [(0, .aload_n 0, 1), (1, .aload_n 1, 1), (2, .invokevirtual 195, 3), (5, .putfield 55, 3), (8, .iconst 0, 1), (9, .istore_n 2, 1), (10, .iload_n 2, 1), (11, .aload_n 0, 1), (12, .getfield 55, 3), (15, .if_icmp .ge 24, 3), (18, .aload_n 0, 1), (19, .getfield 26, 3), (22, .iload_n 2, 1), (23, .aload_n 1, 1), (24, .getfield 83, 3), (27, .bipush 7, 2), (29, .iload_n 2, 1), (30, .iadd, 1), (31, .iaload, 1), (32, .iastore, 1), (33, .iinc 2 1, 3), (36, .goto (-26), 3), (39, .return_, 1)]
def mi_X2_keepLatest : xMi := (2, yX2_keepLatest, cX2_keepLatest, 3, none, 2, [], tb_X2_keepLatest)
def tb_X3_init : List (Nat × Instr × Nat) := [(0, .aload_n 0, 1), (1, .invokespecial 3, 3), (4, .aload_n 0, 1), (5, .iconst 4, 1), (6, .newarray .int, 2), (8, .putfield 9, 3), (11, .aload_n 0, 1), (12, .iconst 3, 1), (13, .newarray .boolean, 2), (15, .putfield 15, 3), (18, .aload_n 0, 1), (19, .iconst (-1), 1), (20, .putfield 19, 3), (23, .aload_n 0, 1), (24, .iconst (-1), 1), (25, .putfield 23, 3), (28, .aload_n 0, 1), (29, .iconst (-1), 1), (30, .putfield 26, 3), (33, .aload_n 0, 1), (34, .iconst 3, 1), (35, .newarray .int, 2), (37, .putfield 29, 3), (40, .aload_n 0, 1), (41, .iload_n 1, 1), (42, .putfield 32, 3), (45, .aload_n 0, 1), (46, .iload_n 2, 1), (47, .putfield 35, 3), (50, .aload_n 0, 1), (51, .aload_n 3, 1), (52, .putfield 38, 3), (55, .return_, 1)]
def mi_X3_init : xMi := (3, yX3_init, cX3_init, 4, none, 4, [], tb_X3_init)
def tb_X3_start : List (Nat × Instr × Nat) := [(0, .aload_n 0, 1), (1, .iconst 1, 1), (2, .putfield 42, 3), (5, .aload_n 0, 1), (6, .iload_n 1, 1), (7, .putfield 19, 3), (10, .aload_n 0, 1), (11, .getfield 9, 3), (14, .iload_n 2, 1), (15, .invokestatic 46, 3), (18, .return_, 1)]
def mi_X3_start : xMi := (3, yX3_start, cX3_start, 3, none, 3, [], tb_X3_start)
def tb_X3_vanish : List (Nat × Instr × Nat) := [(0, .aload_n 0, 1), (1, .iconst 0, 1), (2, .putfield 42, 3), (5, .aload_n 0, 1), (6, .iconst (-1), 1), (7, .putfield 19, 3), (10, .aload_n 0, 1), (11, .iconst (-1), 1), (12, .putfield 23, 3), (15, .aload_n 0, 1), (16, .iconst (-1), 1), (17, .putfield 26, 3), (20, .iconst 0, 1), (21, .istore_n 1, 1), (22, .iload_n 1, 1), (23, .iconst 4, 1), (24, .if_icmp .ge 16, 3), (27, .aload_n 0, 1), (28, .getfield 9, 3), (31, .iload_n 1, 1), (32, .iconst 0, 1), (33, .iastore, 1), (34, .iinc 1 1, 3), (37, .goto (-15), 3), (40, .iconst 0, 1), (41, .istore_n 1, 1), (42, .iload_n 1, 1), (43, .iconst 3, 1), (44, .if_icmp .ge 16, 3), (47, .aload_n 0, 1), (48, .getfield 15, 3), (51, .iload_n 1, 1), (52, .iconst 0, 1), (53, .bastore, 1), (54, .iinc 1 1, 3), (57, .goto (-15), 3), (60, .return_, 1)]
def mi_X3_vanish : xMi := (3, yX3_vanish, cX3_vanish, 2, none, 1, [], tb_X3_vanish)
def tb_X3_next : List (Nat × Instr × Nat) := [(0, .aload_n 0, 1), (1, .getfield 23, 3), (4, .iconst (-1), 1), (5, .if_icmp .eq 10, 3), (8, .aload_n 0, 1), (9, .getfield 23, 3), (12, .goto 7, 3), (15, .aload_n 0, 1), (16, .getfield 26, 3), (19, .ireturn, 1)]
def mi_X3_next : xMi := (3, yX3_next, cX3_next, 1, (some (FieldType.int)), 1, [], tb_X3_next)
def tb_X3_destroyNext : List (Nat × Instr × Nat) := [(0, .aload_n 0, 1), (1, .invokevirtual 52, 3), (4, .iconst (-1), 1), (5, .if_icmp .eq 24, 3), (8, .aload_n 0, 1), (9, .getfield 38, 3), (12, .aload_n 0, 1), (13, .getfield 32, 3), (16, .aload_n 0, 1), (17, .invokevirtual 52, 3), (20, .aload_n 0, 1), (21, .getfield 35, 3), (24, .iconst 4, 1), (25, .invokevirtual 56, 3), (28, .pop, 1), (29, .return_, 1)]
def mi_X3_destroyNext : xMi := (3, yX3_destroyNext, cX3_destroyNext, 1, none, 1, [], tb_X3_destroyNext)
def tb_X3_tearDown : List (Nat × Instr × Nat) := [(0, .aload_n 0, 1), (1, .getfield 38, 3), (4, .aload_n 0, 1), (5, .getfield 32, 3), (8, .aload_n 0, 1), (9, .getfield 19, 3), (12, .aload_n 0, 1), (13, .getfield 35, 3), (16, .iconst 4, 1), (17, .invokevirtual 56, 3), (20, .pop, 1), (21, .aload_n 0, 1), (22, .invokevirtual 62, 3), (25, .aload_n 0, 1), (26, .invokevirtual 65, 3), (29, .return_, 1)]
def mi_X3_tearDown : xMi := (3, yX3_tearDown, cX3_tearDown, 1, none, 1, [], tb_X3_tearDown)
def tb_X3_takesCreated : List (Nat × Instr × Nat) := [(0, .aload_n 0, 1), (1, .getfield 42, 3), (4, .ifCond .eq 14, 3), (7, .aload_n 1, 1), (8, .getfield 68, 3), (11, .aload_n 0, 1), (12, .getfield 26, 3), (15, .if_icmp .eq 5, 3), (18, .iconst 0, 1), (19, .ireturn, 1), (20, .aload_n 0, 1), (21, .aload_n 0, 1), (22, .getfield 26, 3), (25, .putfield 23, 3), (28, .aload_n 0, 1), (29, .iconst (-1), 1), (30, .putfield 26, 3), (33, .aload_n 0, 1), (34, .iconst 2, 1), (35, .iconst 0, 1), (36, .iconst 4, 1), (37, .invokevirtual 73, 3), (40, .astore_n 2, 1), (41, .aload_n 2, 1), (42, .bipush 7, 2), (44, .aload_n 1, 1), (45, .iconst 0, 1), (46, .invokevirtual 77, 3), (49, .invokevirtual 81, 3), (52, .aload_n 2, 1), (53, .bipush 9, 2), (55, .aload_n 1, 1), (56, .iconst 2, 1), (57, .invokevirtual 77, 3), (60, .invokevirtual 81, 3), (63, .aload_n 0, 1), (64, .aload_n 2, 1), (65, .invokevirtual 85, 3), (68, .iconst 1, 1), (69, .ireturn, 1)]
def mi_X3_takesCreated : xMi := (3, yX3_takesCreated, cX3_takesCreated, 3, (some (FieldType.boolean)), 2, [], tb_X3_takesCreated)
def tb_X3_takesDestroy : List (Nat × Instr × Nat) := [(0, .aload_n 0, 1), (1, .getfield 42, 3), (4, .ifCond .ne 5, 3), (7, .iconst 0, 1), (8, .ireturn, 1), (9, .aload_n 1, 1), (10, .getfield 68, 3), (13, .aload_n 0, 1), (14, .getfield 19, 3), (17, .if_icmp .ne 15, 3), (20, .aload_n 0, 1), (21, .aload_n 1, 1), (22, .aload_n 0, 1), (23, .invokevirtual 52, 3), (26, .invokevirtual 89, 3), (29, .goto 39, 3), (32, .aload_n 1, 1), (33, .getfield 68, 3), (36, .aload_n 0, 1), (37, .getfield 23, 3), (40, .if_icmp .eq 14, 3), (43, .aload_n 1, 1), (44, .getfield 68, 3), (47, .aload_n 0, 1), (48, .getfield 26, 3), (51, .if_icmp .ne 15, 3), (54, .aload_n 0, 1), (55, .aload_n 1, 1), (56, .aload_n 0, 1), (57, .getfield 19, 3), (60, .invokevirtual 89, 3), (63, .goto 5, 3), (66, .iconst 0, 1), (67, .ireturn, 1), (68, .aload_n 0, 1), (69, .invokevirtual 65, 3), (72, .iconst 1, 1), (73, .ireturn, 1)]
def mi_X3_takesDestroy : xMi := (3, yX3_takesDestroy, cX3_takesDestroy, 2, (some (FieldType.boolean)), 2, [], tb_X3_takesDestroy)
def tb_X3_passOn : List (Nat × Instr × Nat) := [(0, .iload_n 2, 1), (1, .iconst (-1), 1), (2, .if_icmp .eq 27, 3), (5, .aload_n 0, 1), (6, .getfield 38, 3), (9, .aload_n 0, 1), (10, .getfield 32, 3), (13, .iload_n 2, 1), (14, .aload_n 0, 1), (15, .getfield 35, 3), (18, .aload_n 1, 1), (19, .getfield 93, 3), (22, .invokevirtual 56, 3), (25, .aload_n 1, 1), (26, .invokevirtual 96, 3), (29, .return_, 1)]
def mi_X3_passOn : xMi := (3, yX3_passOn, cX3_passOn, 3, none, 3, [], tb_X3_passOn)
def tb_X3_takesRelay : List (Nat × Instr × Nat) := [(0, .aload_n 0, 1), (1, .getfield 42, 3), (4, .ifCond .ne 5, 3), (7, .iconst 0, 1), (8, .ireturn, 1), (9, .aload_n 1, 1), (10, .getfield 68, 3), (13, .aload_n 0, 1), (14, .getfield 19, 3), (17, .if_icmp .ne 66, 3), (20, .aload_n 0, 1), (21, .getfield 9, 3), (24, .iconst 0, 1), (25, .aload_n 1, 1), (26, .aload_n 0, 1), (27, .getfield 9, 3), (30, .iconst 0, 1), (31, .iaload, 1), (32, .invokevirtual 99, 3), (35, .iastore, 1), (36, .aload_n 1, 1), (37, .getfield 102, 3), (40, .ifCond .ne 27, 3), (43, .aload_n 0, 1), (44, .aload_n 1, 1), (45, .invokevirtual 105, 3), (48, .ifCond .eq 15, 3), (51, .aload_n 0, 1), (52, .aload_n 1, 1), (53, .invokevirtual 109, 3), (56, .ifCond .eq 7, 3), (59, .iconst 1, 1), (60, .goto 12, 3), (63, .iconst 0, 1), (64, .goto 8, 3), (67, .aload_n 0, 1), (68, .aload_n 1, 1), (69, .invokevirtual 112, 3), (72, .istore_n 2, 1), (73, .iload_n 2, 1), (74, .ifCond .ne 7, 3), (77, .aload_n 0, 1), (78, .invokevirtual 115, 3), (81, .iconst 1, 1), (82, .ireturn, 1), (83, .aload_n 1, 1), (84, .getfield 68, 3), (87, .aload_n 0, 1), (88, .getfield 23, 3), (91, .if_icmp .ne 36, 3), (94, .aload_n 0, 1), (95, .getfield 9, 3), (98, .iconst 1, 1), (99, .aload_n 1, 1), (100, .aload_n 0, 1), (101, .getfield 9, 3), (104, .iconst 1, 1), (105, .iaload, 1), (106, .invokevirtual 99, 3), (109, .iastore, 1), (110, .aload_n 0, 1), (111, .aload_n 1, 1), (112, .aload_n 0, 1), (113, .getfield 19, 3), (116, .aload_n 1, 1), (117, .getfield 102, 3), (120, .iconst 1, 1), (121, .iadd, 1), (122, .invokevirtual 118, 3), (125, .iconst 1, 1), (126, .ireturn, 1), (127, .iconst 0, 1), (128, .ireturn, 1)]
def mi_X3_takesRelay : xMi := (3, yX3_takesRelay, cX3_takesRelay, 3, (some (FieldType.boolean)), 2, [], tb_X3_takesRelay)
def tb_X3_goesForward : List (Nat × Instr × Nat) := [(0, .aload_n 0, 1), (1, .getfield 23, 3), (4, .iconst (-1), 1), (5, .if_icmp .ne 5, 3), (8, .iconst 0, 1), (9, .ireturn, 1), (10, .aload_n 0, 1), (11, .aload_n 1, 1), (12, .aload_n 0, 1), (13, .getfield 23, 3), (16, .aload_n 1, 1), (17, .getfield 102, 3), (20, .iconst 1, 1), (21, .isub, 1), (22, .invokevirtual 118, 3), (25, .iconst 1, 1), (26, .ireturn, 1)]
def mi_X3_goesForward : xMi := (3, yX3_goesForward, cX3_goesForward, 2, (some (FieldType.boolean)), 2, [], tb_X3_goesForward)
def tb_X3_isKnown : List (Nat × Instr × Nat) := [(0, .aload_n 1, 1), (1, .aload_n 0, 1), (2, .getfield 9, 3), (5, .iconst 2, 1), (6, .iaload, 1), (7, .invokevirtual 122, 3), (10, .istore_n 2, 1), (11, .aload_n 1, 1), (12, .iload_n 2, 1), (13, .invokevirtual 125, 3), (16, .istore_n 3, 1), (17, .iload_n 3, 1), (18, .ifCond .eq 10, 3), (21, .aload_n 0, 1), (22, .getfield 9, 3), (25, .iconst 2, 1), (26, .iload_n 2, 1), (27, .iastore, 1), (28, .iload_n 3, 1), (29, .ireturn, 1)]
def mi_X3_isKnown : xMi := (3, yX3_isKnown, cX3_isKnown, 4, (some (FieldType.boolean)), 2, [], tb_X3_isKnown)
def tb_X3_relayOn : List (Nat × Instr × Nat) := [(0, .aload_n 0, 1), (1, .getfield 38, 3), (4, .aload_n 0, 1), (5, .getfield 32, 3), (8, .iload_n 2, 1), (9, .aload_n 0, 1), (10, .getfield 35, 3), (13, .iconst 3, 1), (14, .invokevirtual 56, 3), (17, .astore 4, 2), (19, .aload 4, 2), (21, .aload_n 1, 1), (22, .invokevirtual 96, 3), (25, .aload 4, 2), (27, .iload_n 3, 1), (28, .putfield 102, 3), (31, .return_, 1)]
def mi_X3_relayOn : xMi := (3, yX3_relayOn, cX3_relayOn, 5, none, 4, [], tb_X3_relayOn)
def tb_X3_follows : List (Nat × Instr × Nat) := [(0, .aload_n 1, 1), (1, .getfield 129, 3), (4, .iconst 5, 1), (5, .iaload, 1), (6, .istore_n 2, 1), (7, .aload_n 1, 1), (8, .getfield 129, 3), (11, .iconst 4, 1), (12, .iaload, 1), (13, .tableswitch 93 1 8 #[47, 93, 53, 93, 60, 68, 93, 87], 47), (60, .aload_n 0, 1), (61, .aload_n 1, 1), (62, .invokevirtual 132, 3), (65, .ireturn, 1), (66, .aload_n 0, 1), (67, .iload_n 2, 1), (68, .invokevirtual 135, 3), (71, .iconst 1, 1), (72, .ireturn, 1), (73, .aload_n 0, 1), (74, .aload_n 1, 1), (75, .iload_n 2, 1), (76, .invokevirtual 139, 3), (79, .iconst 1, 1), (80, .ireturn, 1), (81, .aload_n 0, 1), (82, .iload_n 2, 1), (83, .invokevirtual 142, 3), (86, .ifCond .eq 12, 3), (89, .aload_n 0, 1), (90, .getfield 15, 3), (93, .iload_n 2, 1), (94, .iconst 1, 1), (95, .isub, 1), (96, .iconst 0, 1), (97, .bastore, 1), (98, .iconst 1, 1), (99, .ireturn, 1), (100, .aload_n 0, 1), (101, .invokevirtual 145, 3), (104, .iconst 1, 1), (105, .ireturn, 1), (106, .iconst 0, 1), (107, .ireturn, 1)]
def mi_X3_follows : xMi := (3, yX3_follows, cX3_follows, 3, (some (FieldType.boolean)), 2, [], tb_X3_follows)
def tb_X3_followsExtend : List (Nat × Instr × Nat) := [(0, .aload_n 1, 1), (1, .getfield 129, 3), (4, .bipush 7, 2), (6, .iaload, 1), (7, .istore_n 2, 1), (8, .iload_n 2, 1), (9, .iconst 1, 1), (10, .if_icmp .lt 28, 3), (13, .iload_n 2, 1), (14, .iconst 4, 1), (15, .if_icmp .gt 23, 3), (18, .iload_n 2, 1), (19, .aload_n 0, 1), (20, .getfield 32, 3), (23, .if_icmp .eq 15, 3), (26, .iload_n 2, 1), (27, .aload_n 0, 1), (28, .getfield 19, 3), (31, .if_icmp .eq 7, 3), (34, .iconst 1, 1), (35, .goto 4, 3), (38, .iconst 0, 1), (39, .istore_n 3, 1), (40, .iload_n 3, 1), (41, .ifCond .eq 11, 3), (44, .aload_n 0, 1), (45, .invokevirtual 52, 3), (48, .iconst (-1), 1), (49, .if_icmp .eq 5, 3), (52, .iconst 0, 1), (53, .ireturn, 1), (54, .aload_n 0, 1), (55, .getfield 38, 3), (58, .aload_n 0, 1), (59, .getfield 32, 3), (62, .iload_n 2, 1), (63, .aload_n 0, 1), (64, .getfield 35, 3), (67, .iconst 1, 1), (68, .invokevirtual 56, 3), (71, .iconst 0, 1), (72, .aload_n 1, 1), (73, .bipush 8, 2), (75, .invokevirtual 77, 3), (78, .invokevirtual 81, 3), (81, .aload_n 0, 1), (82, .iload_n 2, 1), (83, .putfield 26, 3), (86, .iconst 1, 1), (87, .ireturn, 1)]
def mi_X3_followsExtend : xMi := (3, yX3_followsExtend, cX3_followsExtend, 4, (some (FieldType.boolean)), 2, [], tb_X3_followsExtend)
def tb_X3_followBegin : List (Nat × Instr × Nat) := [(0, .iload_n 1, 1), (1, .invokestatic 148, 3), (4, .ifCond .eq 14, 3), (7, .aload_n 0, 1), (8, .getfield 15, 3), (11, .iload_n 1, 1), (12, .iconst 1, 1), (13, .isub, 1), (14, .baload, 1), (15, .ifCond .eq 16, 3), (18, .aload_n 0, 1), (19, .aload_n 0, 1), (20, .bipush 6, 2), (22, .iload_n 1, 1), (23, .iconst 0, 1), (24, .invokevirtual 73, 3), (27, .invokevirtual 85, 3), (30, .return_, 1), (31, .aload_n 0, 1), (32, .getfield 15, 3), (35, .iload_n 1, 1), (36, .iconst 1, 1), (37, .isub, 1), (38, .iconst 1, 1), (39, .bastore, 1), (40, .aload_n 0, 1), (41, .getfield 29, 3), (44, .iload_n 1, 1), (45, .iconst 1, 1), (46, .isub, 1), (47, .iconst 0, 1), (48, .iastore, 1), (49, .aload_n 0, 1), (50, .aload_n 0, 1), (51, .iconst 4, 1), (52, .iload_n 1, 1), (53, .iconst 0, 1), (54, .invokevirtual 73, 3), (57, .invokevirtual 85, 3), (60, .return_, 1)]
def mi_X3_followBegin : xMi := (3, yX3_followBegin, cX3_followBegin, 2, none, 2, [], tb_X3_followBegin)
def tb_X3_followData : List (Nat × Instr × Nat) := [(0, .aload_n 0, 1), (1, .iload_n 2, 1), (2, .invokevirtual 142, 3), (5, .ifCond .ne 16, 3), (8, .aload_n 0, 1), (9, .aload_n 0, 1), (10, .bipush 6, 2), (12, .iload_n 2, 1), (13, .iconst 0, 1), (14, .invokevirtual 73, 3), (17, .invokevirtual 85, 3), (20, .return_, 1), (21, .aload_n 0, 1), (22, .iconst 5, 1), (23, .iload_n 2, 1), (24, .aload_n 1, 1), (25, .getfield 129, 3), (28, .bipush 6, 2), (30, .iaload, 1), (31, .invokevirtual 73, 3), (34, .astore_n 3, 1), (35, .bipush 7, 2), (37, .istore 4, 2), (39, .iload 4, 2), (41, .bipush 7, 2), (43, .aload_n 1, 1), (44, .invokevirtual 151, 3), (47, .iadd, 1), (48, .if_icmp .ge 27, 3), (51, .aload_n 3, 1), (52, .getfield 129, 3), (55, .iload 4, 2), (57, .aload_n 1, 1), (58, .getfield 129, 3), (61, .iload 4, 2), (63, .iaload, 1), (64, .sipush 255, 3), (67, .ixor, 1), (68, .iastore, 1), (69, .iinc 4 1, 3), (72, .goto (-33), 3), (75, .aload_n 0, 1), (76, .aload_n 3, 1), (77, .invokevirtual 85, 3), (80, .aload_n 0, 1), (81, .getfield 29, 3), (84, .iload_n 2, 1), (85, .iconst 1, 1), (86, .isub, 1), (87, .dup2, 1), (88, .iaload, 1), (89, .iconst 1, 1), (90, .iadd, 1), (91, .iastore, 1), (92, .aload_n 0, 1), (93, .getfield 29, 3), (96, .iload_n 2, 1), (97, .iconst 1, 1), (98, .isub, 1), (99, .iaload, 1), (100, .iconst 2, 1), (101, .irem, 1), (102, .ifCond .ne 15, 3), (105, .aload_n 0, 1), (106, .aload_n 0, 1), (107, .bipush 7, 2), (109, .iload_n 2, 1), (110, .iconst 0, 1), (111, .invokevirtual 73, 3), (114, .invokevirtual 85, 3), (117, .return_, 1)]
def mi_X3_followData : xMi := (3, yX3_followData, cX3_followData, 5, none, 3, [], tb_X3_followData)
def tb_X3_followTruncate : List (Nat × Instr × Nat) := [(0, .aload_n 0, 1), (1, .invokevirtual 62, 3), (4, .aload_n 0, 1), (5, .iconst (-1), 1), (6, .putfield 23, 3), (9, .aload_n 0, 1), (10, .iconst (-1), 1), (11, .putfield 26, 3), (14, .aload_n 0, 1), (15, .aload_n 0, 1), (16, .bipush 9, 2), (18, .iconst 0, 1), (19, .iconst 0, 1), (20, .invokevirtual 73, 3), (23, .invokevirtual 85, 3), (26, .return_, 1)]
def mi_X3_followTruncate : xMi := (3, yX3_followTruncate, cX3_followTruncate, 1, none, 1, [], tb_X3_followTruncate)
def tb_X3_isOpen : List (Nat × Instr × Nat) := [(0, .iload_n 1, 1), (1, .invokestatic 148, 3), (4, .ifCond .eq 18, 3), (7, .aload_n 0, 1), (8, .getfield 15, 3), (11, .iload_n 1, 1), (12, .iconst 1, 1), (13, .isub, 1), (14, .baload, 1), (15, .ifCond .eq 7, 3), (18, .iconst 1, 1), (19, .goto 4, 3), (22, .iconst 0, 1), (23, .ireturn, 1)]
def mi_X3_isOpen : xMi := (3, yX3_isOpen, cX3_isOpen, 2, (some (FieldType.boolean)), 2, [], tb_X3_isOpen)
def tb_X3_orderBack : List (Nat × Instr × Nat) := [(0, .aload_n 0, 1), (1, .getfield 38, 3), (4, .aload_n 0, 1), (5, .getfield 32, 3), (8, .aload_n 0, 1), (9, .getfield 19, 3), (12, .aload_n 0, 1), (13, .getfield 35, 3), (16, .iconst 3, 1), (17, .invokevirtual 56, 3), (20, .astore 4, 2), (22, .aload 4, 2), (24, .iload_n 1, 1), (25, .iload_n 2, 1), (26, .iload_n 3, 1), (27, .invokevirtual 154, 3), (30, .aload 4, 2), (32, .areturn, 1)]
def mi_X3_orderBack : xMi := (3, yX3_orderBack, cX3_orderBack, 5, (some (FieldType.object "OnionCells$Cell")), 4, [], tb_X3_orderBack)
def tb_X3_sealBack : List (Nat × Instr × Nat) := [(0, .aload_n 0, 1), (1, .getfield 9, 3), (4, .iconst 3, 1), (5, .aload_n 1, 1), (6, .aload_n 0, 1), (7, .getfield 9, 3), (10, .iconst 3, 1), (11, .iaload, 1), (12, .invokevirtual 122, 3), (15, .iastore, 1), (16, .aload_n 1, 1), (17, .iconst 2, 1), (18, .aload_n 0, 1), (19, .getfield 9, 3), (22, .iconst 3, 1), (23, .iaload, 1), (24, .bipush 16, 2), (26, .iushr, 1), (27, .invokevirtual 81, 3), (30, .aload_n 0, 1), (31, .getfield 9, 3), (34, .iconst 1, 1), (35, .aload_n 1, 1), (36, .aload_n 0, 1), (37, .getfield 9, 3), (40, .iconst 1, 1), (41, .iaload, 1), (42, .invokevirtual 99, 3), (45, .iastore, 1), (46, .return_, 1)]
def mi_X3_sealBack : xMi := (3, yX3_sealBack, cX3_sealBack, 2, none, 2, [], tb_X3_sealBack)
def tb_X4_init : List (Nat × Instr × Nat) := [(0, .aload_n 0, 1), (1, .invokespecial 3, 3), (4, .aload_n 0, 1), (5, .iconst 4, 1), (6, .anewarray 9, 3), (9, .putfield 11, 3), (12, .aload_n 0, 1), (13, .iload_n 1, 1), (14, .putfield 17, 3), (17, .aload_n 0, 1), (18, .aload_n 2, 1), (19, .putfield 21, 3), (22, .aload_n 0, 1), (23, .sipush 1000, 3), (26, .iload_n 1, 1), (27, .imul, 1), (28, .putfield 25, 3), (31, .aload_n 0, 1), (32, .bipush 17, 2), (34, .aload_n 0, 1), (35, .getfield 25, 3), (38, .invokestatic 28, 3), (41, .putfield 34, 3), (44, .iconst 0, 1), (45, .istore_n 3, 1), (46, .iload_n 3, 1), (47, .iconst 4, 1), (48, .if_icmp .ge 25, 3), (51, .aload_n 0, 1), (52, .getfield 11, 3), (55, .iload_n 3, 1), (56, .new 9, 3), (59, .dup, 1), (60, .iload_n 1, 1), (61, .iload_n 3, 1), (62, .aload_n 2, 1), (63, .invokespecial 37, 3), (66, .aastore, 1), (67, .iinc 3 1, 3), (70, .goto (-24), 3), (73, .return_, 1)]
def mi_X4_init : xMi := (4, yX4_init, cX4_init, 4, none, 3, [], tb_X4_init)
def tb_X4_takeSecret : List (Nat × Instr × Nat) := [(0, .aload_n 0, 1), (1, .iload_n 1, 1), (2, .putfield 25, 3), (5, .aload_n 0, 1), (6, .bipush 17, 2), (8, .iload_n 1, 1), (9, .invokestatic 28, 3), (12, .putfield 34, 3), (15, .return_, 1)]
def mi_X4_takeSecret : xMi := (4, yX4_takeSecret, cX4_takeSecret, 2, none, 2, [], tb_X4_takeSecret)
def tb_X4_hasPassage : List (Nat × Instr × Nat) := [(0, .iconst 0, 1), (1, .istore_n 1, 1), (2, .iload_n 1, 1), (3, .iconst 4, 1), (4, .if_icmp .ge 23, 3), (7, .aload_n 0, 1), (8, .getfield 11, 3), (11, .iload_n 1, 1), (12, .aaload, 1), (13, .getfield 40, 3), (16, .ifCond .eq 5, 3), (19, .iconst 1, 1), (20, .ireturn, 1), (21, .iinc 1 1, 3), (24, .goto (-22), 3), (27, .iconst 0, 1), (28, .ireturn, 1)]
def mi_X4_hasPassage : xMi := (4, yX4_hasPassage, cX4_hasPassage, 2, (some (FieldType.boolean)), 1, [], tb_X4_hasPassage)
def tb_X4_takes : List (Nat × Instr × Nat) := [(0, .aload_n 0, 1), (1, .getfield 11, 3), (4, .aload_n 1, 1), (5, .getfield 44, 3), (8, .aaload, 1), (9, .astore_n 2, 1), (10, .aload_n 1, 1), (11, .getfield 49, 3), (14, .tableswitch 45 1 3 #[26, 33, 39], 26), (40, .aload_n 0, 1), (41, .aload_n 1, 1), (42, .aload_n 2, 1), (43, .invokevirtual 52, 3), (46, .ireturn, 1), (47, .aload_n 2, 1), (48, .aload_n 1, 1), (49, .invokevirtual 56, 3), (52, .ireturn, 1), (53, .aload_n 2, 1), (54, .aload_n 1, 1), (55, .invokevirtual 60, 3), (58, .ireturn, 1), (59, .aload_n 2, 1), (60, .aload_n 1, 1), (61, .invokevirtual 63, 3), (64, .ireturn, 1)]
def mi_X4_takes : xMi := (4, yX4_takes, cX4_takes, 3, (some (FieldType.boolean)), 2, [], tb_X4_takes)
def tb_X4_takesCreate : List (Nat × Instr × Nat) := [(0, .aload_n 2, 1), (1, .getfield 40, 3), (4, .ifCond .eq 5, 3), (7, .iconst 0, 1), (8, .ireturn, 1), (9, .aload_n 1, 1), (10, .iconst 0, 1), (11, .invokevirtual 66, 3), (14, .istore_n 3, 1), (15, .iload_n 3, 1), (16, .ifCond .eq 9, 3), (19, .iload_n 3, 1), (20, .ldc 70, 2), (22, .if_icmp .lt 26, 3), (25, .aload_n 0, 1), (26, .getfield 21, 3), (29, .aload_n 0, 1), (30, .getfield 17, 3), (33, .aload_n 1, 1), (34, .getfield 71, 3), (37, .aload_n 1, 1), (38, .getfield 44, 3), (41, .iconst 4, 1), (42, .invokevirtual 74, 3), (45, .pop, 1), (46, .iconst 1, 1), (47, .ireturn, 1), (48, .iconst 1, 1), (49, .iload_n 3, 1), (50, .bipush 31, 2), (52, .imul, 1), (53, .sipush 977, 3), (56, .aload_n 0, 1), (57, .getfield 17, 3), (60, .imul, 1), (61, .iadd, 1), (62, .aload_n 0, 1), (63, .getfield 80, 3), (66, .iadd, 1), (67, .ldc 83, 2), (69, .irem, 1), (70, .iadd, 1), (71, .istore 4, 2), (73, .aload_n 0, 1), (74, .dup, 1), (75, .getfield 80, 3), (78, .iconst 1, 1), (79, .iadd, 1), (80, .putfield 80, 3), (83, .bipush 17, 2), (85, .iload 4, 2), (87, .invokestatic 28, 3), (90, .istore 5, 2), (92, .iload_n 3, 1), (93, .iload 4, 2), (95, .invokestatic 28, 3), (98, .iload_n 3, 1), (99, .aload_n 0, 1), (100, .getfield 25, 3), (103, .invokestatic 28, 3), (106, .iload_n 3, 1), (107, .iload 5, 2), (109, .aload_n 0, 1), (110, .getfield 17, 3), (113, .invokestatic 84, 3), (116, .istore 6, 2), (118, .aload_n 2, 1), (119, .aload_n 1, 1), (120, .getfield 71, 3), (123, .iload 6, 2), (125, .invokevirtual 88, 3), (128, .aload_n 0, 1), (129, .getfield 21, 3), (132, .aload_n 0, 1), (133, .getfield 17, 3), (136, .aload_n 1, 1), (137, .getfield 71, 3), (140, .aload_n 1, 1), (141, .getfield 44, 3), (144, .iconst 2, 1), (145, .invokevirtual 74, 3), (148, .astore 7, 2), (150, .aload 7, 2), (152, .iconst 0, 1), (153, .iload 5, 2), (155, .invokevirtual 92, 3), (158, .aload 7, 2), (160, .iconst 2, 1), (161, .iload 6, 2), (163, .invokestatic 95, 3), (166, .invokevirtual 92, 3), (169, .iconst 1, 1), (170, .ireturn, 1)]
def mi_X4_takesCreate : xMi := (4, yX4_takesCreate, cX4_takesCreate, 8, (some (FieldType.boolean)), 3, [], tb_X4_takesCreate)
def tb_X5_init : List (Nat × Instr × Nat) := [(0, .aload_n 0, 1), (1, .invokespecial 3, 3), (4, .aload_n 0, 1), (5, .bipush 20, 2), (7, .anewarray 9, 3), (10, .putfield 11, 3), (13, .aload_n 0, 1), (14, .new 9, 3), (17, .dup, 1), (18, .invokespecial 17, 3), (21, .putfield 18, 3), (24, .aload_n 0, 1), (25, .new 9, 3), (28, .dup, 1), (29, .invokespecial 17, 3), (32, .putfield 22, 3), (35, .iconst 0, 1), (36, .istore_n 1, 1), (37, .iload_n 1, 1), (38, .bipush 20, 2), (40, .if_icmp .ge 22, 3), (43, .aload_n 0, 1), (44, .getfield 11, 3), (47, .iload_n 1, 1), (48, .new 9, 3), (51, .dup, 1), (52, .invokespecial 17, 3), (55, .aastore, 1), (56, .iinc 1 1, 3), (59, .goto (-22), 3), (62, .return_, 1)]
def mi_X5_init : xMi := (5, yX5_init, cX5_init, 2, none, 1, [], tb_X5_init)
def tb_X5_add : List (Nat × Instr × Nat) := [(0, .aload_n 0, 1), (1, .getfield 18, 3), (4, .astore 5, 2), (6, .aload_n 0, 1), (7, .getfield 25, 3), (10, .bipush 20, 2), (12, .if_icmp .ge 27, 3), (15, .aload_n 0, 1), (16, .getfield 11, 3), (19, .aload_n 0, 1), (20, .getfield 25, 3), (23, .aaload, 1), (24, .astore 5, 2), (26, .aload_n 0, 1), (27, .dup, 1), (28, .getfield 25, 3), (31, .iconst 1, 1), (32, .iadd, 1), (33, .putfield 25, 3), (36, .goto 13, 3), (39, .aload_n 0, 1), (40, .dup, 1), (41, .getfield 29, 3), (44, .iconst 1, 1), (45, .iadd, 1), (46, .putfield 29, 3), (49, .aload 5, 2), (51, .iload_n 1, 1), (52, .iload_n 2, 1), (53, .iload_n 3, 1), (54, .iload 4, 2), (56, .invokevirtual 32, 3), (59, .aload 5, 2), (61, .areturn, 1)]
def mi_X5_add : xMi := (5, yX5_add, cX5_add, 6, (some (FieldType.object "OnionCells$Cell")), 5, [], tb_X5_add)
def tb_X5_takeOut : List (Nat × Instr × Nat) := [(0, .aload_n 0, 1), (1, .getfield 11, 3), (4, .iload_n 1, 1), (5, .aaload, 1), (6, .astore_n 2, 1), (7, .aload_n 0, 1), (8, .dup, 1), (9, .getfield 25, 3), (12, .iconst 1, 1), (13, .isub, 1), (14, .putfield 25, 3), (17, .iload_n 1, 1), (18, .istore_n 3, 1), (19, .iload_n 3, 1), (20, .aload_n 0, 1), (21, .getfield 25, 3), (24, .if_icmp .ge 23, 3), (27, .aload_n 0, 1), (28, .getfield 11, 3), (31, .iload_n 3, 1), (32, .aload_n 0, 1), (33, .getfield 11, 3), (36, .iload_n 3, 1), (37, .iconst 1, 1), (38, .iadd, 1), (39, .aaload, 1), (40, .aastore, 1), (41, .iinc 3 1, 3), (44, .goto (-25), 3), (47, .aload_n 0, 1), (48, .getfield 11, 3), (51, .aload_n 0, 1), (52, .getfield 25, 3), (55, .aload_n 0, 1), (56, .getfield 22, 3), (59, .aastore, 1), (60, .aload_n 0, 1), (61, .aload_n 2, 1), (62, .putfield 22, 3), (65, .aload_n 2, 1), (66, .areturn, 1)]
def mi_X5_takeOut : xMi := (5, yX5_takeOut, cX5_takeOut, 4, (some (FieldType.object "OnionCells$Cell")), 2, [], tb_X5_takeOut)
def tb_X6_init : List (Nat × Instr × Nat) := [(0, .aload_n 0, 1), (1, .invokespecial 1, 3), (4, .return_, 1)]
def mi_X6_init : xMi := (6, yX6_init, cX6_init, 1, none, 1, [], tb_X6_init)
def tb_X6_become : List (Nat × Instr × Nat) := [(0, .aload_n 0, 1), (1, .iload_n 1, 1), (2, .putfield 7, 3), (5, .aload_n 0, 1), (6, .iload_n 2, 1), (7, .putfield 13, 3), (10, .return_, 1)]
def mi_X6_become : xMi := (6, yX6_become, cX6_become, 3, none, 3, [], tb_X6_become)
def tb_X7_init : List (Nat × Instr × Nat) := [(0, .aload_n 0, 1), (1, .invokespecial 1, 3), (4, .aload_n 0, 1), (5, .new 7, 3), (8, .dup, 1), (9, .invokespecial 9, 3), (12, .putfield 10, 3), (15, .aload_n 0, 1), (16, .iconst 4, 1), (17, .anewarray 16, 3), (20, .putfield 18, 3), (23, .iconst 0, 1), (24, .istore_n 1, 1), (25, .iload_n 1, 1), (26, .iconst 4, 1), (27, .if_icmp .ge 29, 3), (30, .aload_n 0, 1), (31, .getfield 18, 3), (34, .iload_n 1, 1), (35, .new 16, 3), (38, .dup, 1), (39, .iload_n 1, 1), (40, .iconst 1, 1), (41, .iadd, 1), (42, .aload_n 0, 1), (43, .getfield 10, 3), (46, .invokespecial 22, 3), (49, .aastore, 1), (50, .iinc 1 1, 3), (53, .goto (-28), 3), (56, .aload_n 0, 1), (57, .iconst 4, 1), (58, .anewarray 25, 3), (61, .putfield 27, 3), (64, .iconst 0, 1), (65, .istore_n 1, 1), (66, .iload_n 1, 1), (67, .iconst 4, 1), (68, .if_icmp .ge 31, 3), (71, .aload_n 0, 1), (72, .getfield 27, 3), (75, .iload_n 1, 1), (76, .new 25, 3), (79, .dup, 1), (80, .iload_n 1, 1), (81, .aload_n 0, 1), (82, .getfield 10, 3), (85, .aload_n 0, 1), (86, .getfield 18, 3), (89, .invokespecial 31, 3), (92, .aastore, 1), (93, .iinc 1 1, 3), (96, .goto (-30), 3), (99, .return_, 1)]
def mi_X7_init : xMi := (7, yX7_init, cX7_init, 2, none, 1, [], tb_X7_init)
def tb_X7_secret : List (Nat × Instr × Nat) := [(0, .iload_n 1, 1), (1, .invokestatic 34, 3), (4, .iload_n 2, 1), (5, .invokestatic 38, 3), (8, .aload_n 0, 1), (9, .getfield 18, 3), (12, .iload_n 1, 1), (13, .iconst 1, 1), (14, .isub, 1), (15, .aaload, 1), (16, .astore_n 3, 1), (17, .aload_n 3, 1), (18, .invokevirtual 41, 3), (21, .ifCond .ne 7, 3), (24, .iconst 1, 1), (25, .goto 4, 3), (28, .iconst 0, 1), (29, .invokestatic 45, 3), (32, .aload_n 3, 1), (33, .iload_n 2, 1), (34, .invokevirtual 49, 3), (37, .aload_n 3, 1), (38, .getfield 52, 3), (41, .ireturn, 1)]
def mi_X7_secret : xMi := (7, yX7_secret, cX7_secret, 4, (some (FieldType.int)), 3, [], tb_X7_secret)
def tb_X7_create : List (Nat × Instr × Nat) := [(0, .iload_n 1, 1), (1, .invokestatic 56, 3), (4, .iload_n 2, 1), (5, .invokestatic 34, 3), (8, .iload_n 3, 1), (9, .invokestatic 38, 3), (12, .aload_n 0, 1), (13, .getfield 27, 3), (16, .iload_n 1, 1), (17, .aaload, 1), (18, .astore 4, 2), (20, .aload 4, 2), (22, .invokevirtual 59, 3), (25, .ifCond .ne 7, 3), (28, .iconst 1, 1), (29, .goto 4, 3), (32, .iconst 0, 1), (33, .invokestatic 45, 3), (36, .aload 4, 2), (38, .iload_n 2, 1), (39, .iload_n 3, 1), (40, .invokevirtual 62, 3), (43, .aload_n 0, 1), (44, .getfield 10, 3), (47, .getfield 66, 3), (50, .ireturn, 1)]
def mi_X7_create : xMi := (7, yX7_create, cX7_create, 5, (some (FieldType.int)), 4, [], tb_X7_create)
def tb_X7_extend : List (Nat × Instr × Nat) := [(0, .iload_n 1, 1), (1, .invokestatic 56, 3), (4, .iload_n 2, 1), (5, .invokestatic 34, 3), (8, .iload_n 3, 1), (9, .invokestatic 38, 3), (12, .aload_n 0, 1), (13, .getfield 27, 3), (16, .iload_n 1, 1), (17, .aaload, 1), (18, .astore 4, 2), (20, .aload 4, 2), (22, .iload_n 2, 1), (23, .invokevirtual 69, 3), (26, .ifCond .ne 7, 3), (29, .iconst 1, 1), (30, .goto 4, 3), (33, .iconst 0, 1), (34, .invokestatic 73, 3), (37, .aload 4, 2), (39, .getfield 76, 3), (42, .iconst 2, 1), (43, .if_icmp .ne 16, 3), (46, .aload 4, 2), (48, .getfield 79, 3), (51, .iconst 3, 1), (52, .if_icmp .ge 7, 3), (55, .iconst 1, 1), (56, .goto 4, 3), (59, .iconst 0, 1), (60, .invokestatic 45, 3), (63, .aload 4, 2), (65, .iload_n 2, 1), (66, .iload_n 3, 1), (67, .invokevirtual 82, 3), (70, .aload_n 0, 1), (71, .getfield 10, 3), (74, .getfield 66, 3), (77, .ireturn, 1)]
def mi_X7_extend : xMi := (7, yX7_extend, cX7_extend, 5, (some (FieldType.int)), 4, [], tb_X7_extend)
def tb_X7_begin : List (Nat × Instr × Nat) := [(0, .iload_n 1, 1), (1, .invokestatic 56, 3), (4, .iload_n 2, 1), (5, .invokestatic 85, 3), (8, .aload_n 0, 1), (9, .getfield 27, 3), (12, .iload_n 1, 1), (13, .aaload, 1), (14, .astore 4, 2), (16, .aload 4, 2), (18, .getfield 76, 3), (21, .iconst 2, 1), (22, .if_icmp .ne 16, 3), (25, .aload 4, 2), (27, .iload_n 3, 1), (28, .invokevirtual 88, 3), (31, .ifCond .eq 7, 3), (34, .iconst 1, 1), (35, .goto 4, 3), (38, .iconst 0, 1), (39, .invokestatic 45, 3), (42, .aload 4, 2), (44, .getfield 91, 3), (47, .iload_n 2, 1), (48, .iconst 1, 1), (49, .isub, 1), (50, .aaload, 1), (51, .getfield 95, 3), (54, .ifCond .ne 7, 3), (57, .iconst 1, 1), (58, .goto 4, 3), (61, .iconst 0, 1), (62, .invokestatic 45, 3), (65, .aload 4, 2), (67, .iload_n 2, 1), (68, .iload_n 3, 1), (69, .invokevirtual 98, 3), (72, .return_, 1)]
def mi_X7_begin : xMi := (7, yX7_begin, cX7_begin, 5, none, 4, [], tb_X7_begin)
def tb_X7_send : List (Nat × Instr × Nat) := [(0, .iload_n 1, 1), (1, .invokestatic 56, 3), (4, .iload_n 2, 1), (5, .invokestatic 85, 3), (8, .iload_n 3, 1), (9, .ifCond .lt 13, 3), (12, .iload_n 3, 1), (13, .bipush 7, 2), (15, .if_icmp .gt 7, 3), (18, .iconst 1, 1), (19, .goto 4, 3), (22, .iconst 0, 1), (23, .invokestatic 73, 3), (26, .iload 4, 2), (28, .invokestatic 101, 3), (31, .invokestatic 73, 3), (34, .aload_n 0, 1), (35, .getfield 27, 3), (38, .iload_n 1, 1), (39, .aaload, 1), (40, .getfield 91, 3), (43, .iload_n 2, 1), (44, .iconst 1, 1), (45, .isub, 1), (46, .aaload, 1), (47, .astore 5, 2), (49, .aload 5, 2), (51, .getfield 95, 3), (54, .iconst 2, 1), (55, .if_icmp .ne 15, 3), (58, .aload 5, 2), (60, .getfield 104, 3), (63, .ifCond .le 7, 3), (66, .iconst 1, 1), (67, .goto 4, 3), (70, .iconst 0, 1), (71, .invokestatic 45, 3), (74, .aload_n 0, 1), (75, .getfield 27, 3), (78, .iload_n 1, 1), (79, .aaload, 1), (80, .iload_n 2, 1), (81, .iload_n 3, 1), (82, .iload 4, 2), (84, .invokevirtual 107, 3), (87, .aload 5, 2), (89, .getfield 104, 3), (92, .ireturn, 1)]
def mi_X7_send : xMi := (7, yX7_send, cX7_send, 6, (some (FieldType.int)), 5, [], tb_X7_send)
def tb_X7_end : List (Nat × Instr × Nat) := [(0, .iload_n 1, 1), (1, .invokestatic 56, 3), (4, .iload_n 2, 1), (5, .invokestatic 85, 3), (8, .aload_n 0, 1), (9, .getfield 27, 3), (12, .iload_n 1, 1), (13, .aaload, 1), (14, .getfield 91, 3), (17, .iload_n 2, 1), (18, .iconst 1, 1), (19, .isub, 1), (20, .aaload, 1), (21, .getfield 95, 3), (24, .istore_n 3, 1), (25, .iload_n 3, 1), (26, .ifCond .eq 7, 3), (29, .iconst 1, 1), (30, .goto 4, 3), (33, .iconst 0, 1), (34, .invokestatic 45, 3), (37, .aload_n 0, 1), (38, .getfield 27, 3), (41, .iload_n 1, 1), (42, .aaload, 1), (43, .iload_n 2, 1), (44, .invokevirtual 111, 3), (47, .iload_n 3, 1), (48, .ireturn, 1)]
def mi_X7_end : xMi := (7, yX7_end, cX7_end, 4, (some (FieldType.int)), 3, [], tb_X7_end)
def tb_X7_truncate : List (Nat × Instr × Nat) := [(0, .iload_n 1, 1), (1, .invokestatic 56, 3), (4, .aload_n 0, 1), (5, .getfield 27, 3), (8, .iload_n 1, 1), (9, .aaload, 1), (10, .astore_n 3, 1), (11, .aload_n 3, 1), (12, .invokevirtual 59, 3), (15, .ifCond .eq 15, 3), (18, .aload_n 3, 1), (19, .iload_n 2, 1), (20, .invokevirtual 88, 3), (23, .ifCond .eq 7, 3), (26, .iconst 1, 1), (27, .goto 4, 3), (30, .iconst 0, 1), (31, .invokestatic 45, 3), (34, .aload_n 3, 1), (35, .iload_n 2, 1), (36, .invokevirtual 114, 3), (39, .aload_n 3, 1), (40, .getfield 79, 3), (43, .ireturn, 1)]
def mi_X7_truncate : xMi := (7, yX7_truncate, cX7_truncate, 4, (some (FieldType.int)), 3, [], tb_X7_truncate)
def tb_X7_close : List (Nat × Instr × Nat) := [(0, .iload_n 1, 1), (1, .invokestatic 56, 3), (4, .aload_n 0, 1), (5, .getfield 27, 3), (8, .iload_n 1, 1), (9, .aaload, 1), (10, .invokevirtual 59, 3), (13, .invokestatic 45, 3), (16, .aload_n 0, 1), (17, .getfield 27, 3), (20, .iload_n 1, 1), (21, .aaload, 1), (22, .invokevirtual 117, 3), (25, .return_, 1)]
def mi_X7_close : xMi := (7, yX7_close, cX7_close, 2, none, 2, [], tb_X7_close)
def tb_X7_deliver : List (Nat × Instr × Nat) := [(0, .iload_n 1, 1), (1, .iconst 1, 1), (2, .if_icmp .lt 13, 3), (5, .iload_n 1, 1), (6, .bipush 100, 2), (8, .if_icmp .gt 7, 3), (11, .iconst 1, 1), (12, .goto 4, 3), (15, .iconst 0, 1), (16, .invokestatic 73, 3), (19, .iconst 0, 1), (20, .istore_n 2, 1), (21, .iload_n 2, 1), (22, .iload_n 1, 1), (23, .if_icmp .ge 93, 3), (26, .aload_n 0, 1), (27, .getfield 10, 3), (30, .getfield 66, 3), (33, .ifCond .le 83, 3), (36, .aload_n 0, 1), (37, .getfield 10, 3), (40, .iconst 0, 1), (41, .invokevirtual 120, 3), (44, .astore_n 3, 1), (45, .aload_n 0, 1), (46, .dup, 1), (47, .getfield 124, 3), (50, .iconst 1, 1), (51, .iadd, 1), (52, .putfield 124, 3), (55, .iinc 2 1, 3), (58, .aload_n 3, 1), (59, .getfield 127, 3), (62, .ifCond .ne 19, 3), (65, .aload_n 0, 1), (66, .getfield 27, 3), (69, .aload_n 3, 1), (70, .getfield 132, 3), (73, .aaload, 1), (74, .aload_n 3, 1), (75, .invokevirtual 135, 3), (78, .goto 18, 3), (81, .aload_n 0, 1), (82, .getfield 18, 3), (85, .aload_n 3, 1), (86, .getfield 127, 3), (89, .iconst 1, 1), (90, .isub, 1), (91, .aaload, 1), (92, .aload_n 3, 1), (93, .invokevirtual 139, 3), (96, .istore 4, 2), (98, .iload 4, 2), (100, .ifCond .ne 13, 3), (103, .aload_n 0, 1), (104, .dup, 1), (105, .getfield 140, 3), (108, .iconst 1, 1), (109, .iadd, 1), (110, .putfield 140, 3), (113, .goto (-92), 3), (116, .iload_n 2, 1), (117, .ireturn, 1)]
def mi_X7_deliver : xMi := (7, yX7_deliver, cX7_deliver, 5, (some (FieldType.int)), 2, [], tb_X7_deliver)
def tb_X7_damage : List (Nat × Instr × Nat) := [(0, .iload_n 1, 1), (1, .aload_n 0, 1), (2, .getfield 10, 3), (5, .getfield 66, 3), (8, .invokestatic 143, 3), (11, .iload_n 2, 1), (12, .bipush 14, 2), (14, .invokestatic 143, 3), (17, .iload_n 3, 1), (18, .invokestatic 101, 3), (21, .invokestatic 73, 3), (24, .aload_n 0, 1), (25, .getfield 10, 3), (28, .getfield 146, 3), (31, .iload_n 1, 1), (32, .aaload, 1), (33, .getfield 150, 3), (36, .astore 4, 2), (38, .aload 4, 2), (40, .iload_n 2, 1), (41, .iaload, 1), (42, .istore 5, 2), (44, .aload 4, 2), (46, .iload_n 2, 1), (47, .iload 5, 2), (49, .iload_n 3, 1), (50, .ixor, 1), (51, .iastore, 1), (52, .iload 5, 2), (54, .ireturn, 1)]
def mi_X7_damage : xMi := (7, yX7_damage, cX7_damage, 6, (some (FieldType.int)), 4, [], tb_X7_damage)
def tb_X7_lose : List (Nat × Instr × Nat) := [(0, .iload_n 1, 1), (1, .aload_n 0, 1), (2, .getfield 10, 3), (5, .getfield 66, 3), (8, .invokestatic 143, 3), (11, .aload_n 0, 1), (12, .getfield 10, 3), (15, .dup, 1), (16, .getfield 154, 3), (19, .iconst 1, 1), (20, .iadd, 1), (21, .putfield 154, 3), (24, .aload_n 0, 1), (25, .getfield 10, 3), (28, .iload_n 1, 1), (29, .invokevirtual 120, 3), (32, .getfield 157, 3), (35, .ireturn, 1)]
def mi_X7_lose : xMi := (7, yX7_lose, cX7_lose, 2, (some (FieldType.int)), 2, [], tb_X7_lose)
def tb_X7_cell : List (Nat × Instr × Nat) := [(0, .iload_n 1, 1), (1, .aload_n 0, 1), (2, .getfield 10, 3), (5, .getfield 66, 3), (8, .invokestatic 143, 3), (11, .iload_n 2, 1), (12, .bipush 19, 2), (14, .invokestatic 143, 3), (17, .aload_n 0, 1), (18, .getfield 10, 3), (21, .getfield 146, 3), (24, .iload_n 1, 1), (25, .aaload, 1), (26, .astore_n 3, 1), (27, .iload_n 2, 1), (28, .lookupswitch 77 #[(0, 52), (1, 57), (2, 62), (3, 67), (18, 72)], 52), (80, .aload_n 3, 1), (81, .getfield 160, 3), (84, .ireturn, 1), (85, .aload_n 3, 1), (86, .getfield 127, 3), (89, .ireturn, 1), (90, .aload_n 3, 1), (91, .getfield 132, 3), (94, .ireturn, 1), (95, .aload_n 3, 1), (96, .getfield 157, 3), (99, .ireturn, 1), (100, .aload_n 3, 1), (101, .getfield 163, 3), (104, .ireturn, 1), (105, .aload_n 3, 1), (106, .getfield 150, 3), (109, .iload_n 2, 1), (110, .iconst 4, 1), (111, .isub, 1), (112, .iaload, 1), (113, .ireturn, 1)]
def mi_X7_cell : xMi := (7, yX7_cell, cX7_cell, 4, (some (FieldType.int)), 3, [], tb_X7_cell)
def tb_X7_circuit : List (Nat × Instr × Nat) := [(0, .iload_n 1, 1), (1, .invokestatic 56, 3), (4, .iload_n 2, 1), (5, .bipush 12, 2), (7, .invokestatic 143, 3), (10, .aload_n 0, 1), (11, .getfield 27, 3), (14, .iload_n 1, 1), (15, .aaload, 1), (16, .astore_n 3, 1), (17, .iload_n 2, 1), (18, .tableswitch 101 0 8 #[50, 55, 60, 60, 60, 83, 88, 88, 88], 50), (68, .aload_n 3, 1), (69, .getfield 76, 3), (72, .ireturn, 1), (73, .aload_n 3, 1), (74, .getfield 79, 3), (77, .ireturn, 1), (78, .aload_n 3, 1), (79, .iload_n 2, 1), (80, .iconst 2, 1), (81, .isub, 1), (82, .invokevirtual 88, 3), (85, .ifCond .eq 14, 3), (88, .aload_n 3, 1), (89, .getfield 166, 3), (92, .iload_n 2, 1), (93, .iconst 2, 1), (94, .isub, 1), (95, .iaload, 1), (96, .goto 4, 3), (99, .iconst (-1), 1), (100, .ireturn, 1), (101, .aload_n 3, 1), (102, .getfield 169, 3), (105, .ireturn, 1), (106, .aload_n 3, 1), (107, .getfield 91, 3), (110, .iload_n 2, 1), (111, .bipush 6, 2), (113, .isub, 1), (114, .aaload, 1), (115, .getfield 95, 3), (118, .ireturn, 1), (119, .aload_n 3, 1), (120, .getfield 91, 3), (123, .iload_n 2, 1), (124, .bipush 9, 2), (126, .isub, 1), (127, .aaload, 1), (128, .getfield 104, 3), (131, .ireturn, 1)]
def mi_X7_circuit : xMi := (7, yX7_circuit, cX7_circuit, 4, (some (FieldType.int)), 3, [], tb_X7_circuit)
def tb_X7_key : List (Nat × Instr × Nat) := [(0, .iload_n 1, 1), (1, .invokestatic 56, 3), (4, .iload_n 2, 1), (5, .aload_n 0, 1), (6, .getfield 27, 3), (9, .iload_n 1, 1), (10, .aaload, 1), (11, .getfield 79, 3), (14, .invokestatic 143, 3), (17, .iload_n 3, 1), (18, .iconst 4, 1), (19, .invokestatic 143, 3), (22, .aload_n 0, 1), (23, .getfield 27, 3), (26, .iload_n 1, 1), (27, .aaload, 1), (28, .getfield 172, 3), (31, .iload_n 2, 1), (32, .aaload, 1), (33, .iload_n 3, 1), (34, .iaload, 1), (35, .ireturn, 1)]
def mi_X7_key : xMi := (7, yX7_key, cX7_key, 4, (some (FieldType.int)), 4, [], tb_X7_key)
def tb_X7_relay : List (Nat × Instr × Nat) := [(0, .iload_n 1, 1), (1, .invokestatic 34, 3), (4, .iload_n 2, 1), (5, .invokestatic 56, 3), (8, .iload_n 3, 1), (9, .bipush 11, 2), (11, .invokestatic 143, 3), (14, .aload_n 0, 1), (15, .getfield 18, 3), (18, .iload_n 1, 1), (19, .iconst 1, 1), (20, .isub, 1), (21, .aaload, 1), (22, .getfield 176, 3), (25, .iload_n 2, 1), (26, .aaload, 1), (27, .astore 4, 2), (29, .iload_n 3, 1), (30, .tableswitch 92 0 6 #[42, 56, 62, 68, 74, 74, 74], 42), (72, .aload 4, 2), (74, .getfield 180, 3), (77, .ifCond .eq 7, 3), (80, .iconst 1, 1), (81, .goto 4, 3), (84, .iconst 0, 1), (85, .ireturn, 1), (86, .aload 4, 2), (88, .getfield 186, 3), (91, .ireturn, 1), (92, .aload 4, 2), (94, .getfield 189, 3), (97, .ireturn, 1), (98, .aload 4, 2), (100, .getfield 192, 3), (103, .ireturn, 1), (104, .aload 4, 2), (106, .getfield 193, 3), (109, .iload_n 3, 1), (110, .iconst 4, 1), (111, .isub, 1), (112, .baload, 1), (113, .ifCond .eq 7, 3), (116, .iconst 1, 1), (117, .goto 4, 3), (120, .iconst 0, 1), (121, .ireturn, 1), (122, .aload 4, 2), (124, .getfield 197, 3), (127, .iload_n 3, 1), (128, .bipush 7, 2), (130, .isub, 1), (131, .iaload, 1), (132, .ireturn, 1)]
def mi_X7_relay : xMi := (7, yX7_relay, cX7_relay, 5, (some (FieldType.int)), 4, [], tb_X7_relay)
def tb_X7_data : List (Nat × Instr × Nat) := [(0, .iload_n 1, 1), (1, .invokestatic 56, 3), (4, .aload_n 0, 1), (5, .getfield 27, 3), (8, .iload_n 1, 1), (9, .aaload, 1), (10, .astore_n 3, 1), (11, .iload_n 2, 1), (12, .ifCond .lt 20, 3), (15, .iload_n 2, 1), (16, .aload_n 3, 1), (17, .getfield 199, 3), (20, .if_icmp .ge 12, 3), (23, .aload_n 3, 1), (24, .getfield 202, 3), (27, .iload_n 2, 1), (28, .iaload, 1), (29, .goto 4, 3), (32, .iconst (-1), 1), (33, .ireturn, 1)]
def mi_X7_data : xMi := (7, yX7_data, cX7_data, 4, (some (FieldType.int)), 3, [], tb_X7_data)
def tb_X7_count : List (Nat × Instr × Nat) := [(0, .iload_n 1, 1), (1, .iconst 5, 1), (2, .invokestatic 143, 3), (5, .iload_n 1, 1), (6, .tableswitch 56 0 3 #[30, 38, 43, 51], 30), (36, .aload_n 0, 1), (37, .getfield 10, 3), (40, .getfield 66, 3), (43, .ireturn, 1), (44, .aload_n 0, 1), (45, .getfield 124, 3), (48, .ireturn, 1), (49, .aload_n 0, 1), (50, .getfield 10, 3), (53, .getfield 154, 3), (56, .ireturn, 1), (57, .aload_n 0, 1), (58, .getfield 140, 3), (61, .ireturn, 1), (62, .aload_n 0, 1), (63, .invokevirtual 205, 3), (66, .ireturn, 1)]
def mi_X7_count : xMi := (7, yX7_count, cX7_count, 2, (some (FieldType.int)), 2, [], tb_X7_count)
def tb_X7_loss : List (Nat × Instr × Nat) := [(0, .aload_n 0, 1), (1, .getfield 124, 3), (4, .aload_n 0, 1), (5, .getfield 10, 3), (8, .getfield 154, 3), (11, .iadd, 1), (12, .istore_n 1, 1), (13, .iload_n 1, 1), (14, .ifCond .ne 7, 3), (17, .fconst 0, 1), (18, .goto 14, 3), (21, .aload_n 0, 1), (22, .getfield 10, 3), (25, .getfield 154, 3), (28, .i2f, 1), (29, .iload_n 1, 1), (30, .i2f, 1), (31, .fdiv, 1), (32, .freturn, 1)]
def mi_X7_loss : xMi := (7, yX7_loss, cX7_loss, 2, (some (FieldType.float)), 1, [], tb_X7_loss)
def tb_X7_readyCircuits : List (Nat × Instr × Nat) := [(0, .iconst 0, 1), (1, .istore_n 1, 1), (2, .iconst 0, 1), (3, .istore_n 2, 1), (4, .iload_n 2, 1), (5, .iconst 4, 1), (6, .if_icmp .ge 25, 3), (9, .aload_n 0, 1), (10, .getfield 27, 3), (13, .iload_n 2, 1), (14, .aaload, 1), (15, .getfield 76, 3), (18, .iconst 2, 1), (19, .if_icmp .ne 6, 3), (22, .iinc 1 1, 3), (25, .iinc 2 1, 3), (28, .goto (-24), 3), (31, .iload_n 1, 1), (32, .ireturn, 1)]
def mi_X7_readyCircuits : xMi := (7, yX7_readyCircuits, cX7_readyCircuits, 3, (some (FieldType.int)), 1, [], tb_X7_readyCircuits)
def tb_X7_checkCircuit : List (Nat × Instr × Nat) := [(0, .iload_n 0, 1), (1, .iconst 4, 1), (2, .invokestatic 143, 3), (5, .return_, 1)]
def mi_X7_checkCircuit : xMi := (7, yX7_checkCircuit, cX7_checkCircuit, 1, none, 1, [], tb_X7_checkCircuit)
def tb_X7_checkRelay : List (Nat × Instr × Nat) := [(0, .iload_n 0, 1), (1, .iconst 1, 1), (2, .if_icmp .lt 8, 3), (5, .iload_n 0, 1), (6, .iconst 4, 1), (7, .if_icmp .le 11, 3), (10, .new 209, 3), (13, .dup, 1), (14, .invokespecial 211, 3), (17, .athrow, 1), (18, .return_, 1)]
def mi_X7_checkRelay : xMi := (7, yX7_checkRelay, cX7_checkRelay, 1, none, 1, [], tb_X7_checkRelay)
def tb_X7_checkStream : List (Nat × Instr × Nat) := [(0, .iload_n 0, 1), (1, .invokestatic 212, 3), (4, .ifCond .ne 11, 3), (7, .new 209, 3), (10, .dup, 1), (11, .invokespecial 211, 3), (14, .athrow, 1), (15, .return_, 1)]
def mi_X7_checkStream : xMi := (7, yX7_checkStream, cX7_checkStream, 1, none, 1, [], tb_X7_checkStream)
def tb_X7_checkIndex : List (Nat × Instr × Nat) := [(0, .iload_n 0, 1), (1, .ifCond .lt 8, 3), (4, .iload_n 0, 1), (5, .iload_n 1, 1), (6, .if_icmp .lt 11, 3), (9, .new 209, 3), (12, .dup, 1), (13, .invokespecial 211, 3), (16, .athrow, 1), (17, .return_, 1)]
def mi_X7_checkIndex : xMi := (7, yX7_checkIndex, cX7_checkIndex, 2, none, 2, [], tb_X7_checkIndex)
def tb_X7_checkExponent : List (Nat × Instr × Nat) := [(0, .iload_n 0, 1), (1, .iconst 1, 1), (2, .if_icmp .lt 13, 3), (5, .iload_n 0, 1), (6, .ldc 215, 2), (8, .if_icmp .gt 7, 3), (11, .iconst 1, 1), (12, .goto 4, 3), (15, .iconst 0, 1), (16, .invokestatic 73, 3), (19, .return_, 1)]
def mi_X7_checkExponent : xMi := (7, yX7_checkExponent, cX7_checkExponent, 1, none, 1, [], tb_X7_checkExponent)
def tb_X7_checkArgument : List (Nat × Instr × Nat) := [(0, .iload_n 0, 1), (1, .ifCond .ne 11, 3), (4, .new 216, 3), (7, .dup, 1), (8, .invokespecial 218, 3), (11, .athrow, 1), (12, .return_, 1)]
def mi_X7_checkArgument : xMi := (7, yX7_checkArgument, cX7_checkArgument, 1, none, 1, [], tb_X7_checkArgument)
def tb_X7_checkState : List (Nat × Instr × Nat) := [(0, .iload_n 0, 1), (1, .ifCond .ne 11, 3), (4, .new 219, 3), (7, .dup, 1), (8, .invokespecial 221, 3), (11, .athrow, 1), (12, .return_, 1)]
def mi_X7_checkState : xMi := (7, yX7_checkState, cX7_checkState, 1, none, 1, [], tb_X7_checkState)
def tb_X7_isByte : List (Nat × Instr × Nat) := [(0, .iload_n 0, 1), (1, .ifCond .lt 14, 3), (4, .iload_n 0, 1), (5, .sipush 255, 3), (8, .if_icmp .gt 7, 3), (11, .iconst 1, 1), (12, .goto 4, 3), (15, .iconst 0, 1), (16, .ireturn, 1)]
def mi_X7_isByte : xMi := (7, yX7_isByte, cX7_isByte, 1, (some (FieldType.boolean)), 1, [], tb_X7_isByte)
def tb_X7_isStream : List (Nat × Instr × Nat) := [(0, .iload_n 0, 1), (1, .iconst 1, 1), (2, .if_icmp .lt 12, 3), (5, .iload_n 0, 1), (6, .iconst 3, 1), (7, .if_icmp .gt 7, 3), (10, .iconst 1, 1), (11, .goto 4, 3), (14, .iconst 0, 1), (15, .ireturn, 1)]
def mi_X7_isStream : xMi := (7, yX7_isStream, cX7_isStream, 1, (some (FieldType.boolean)), 1, [], tb_X7_isStream)
def tb_X8_init : List (Nat × Instr × Nat) := [(0, .aload_n 0, 1), (1, .invokespecial 1, 3), (4, .aload_n 0, 1), (5, .sipush 380, 3), (8, .newarray .int, 2), (10, .putfield 7, 3), (13, .aload_n 0, 1), (14, .iconst 4, 1), (15, .newarray .int, 2), (17, .putfield 13, 3), (20, .aload_n 0, 1), (21, .iconst 4, 1), (22, .newarray .int, 2), (24, .putfield 16, 3), (27, .aload_n 0, 1), (28, .bipush 12, 2), (30, .newarray .int, 2), (32, .putfield 19, 3), (35, .aload_n 0, 1), (36, .bipush 48, 2), (38, .newarray .int, 2), (40, .putfield 22, 3), (43, .aload_n 0, 1), (44, .iconst 4, 1), (45, .newarray .int, 2), (47, .putfield 25, 3), (50, .aload_n 0, 1), (51, .iconst 4, 1), (52, .newarray .int, 2), (54, .putfield 28, 3), (57, .aload_n 0, 1), (58, .bipush 12, 2), (60, .newarray .int, 2), (62, .putfield 31, 3), (65, .aload_n 0, 1), (66, .bipush 12, 2), (68, .newarray .int, 2), (70, .putfield 34, 3), (73, .aload_n 0, 1), (74, .bipush 12, 2), (76, .newarray .int, 2), (78, .putfield 37, 3), (81, .aload_n 0, 1), (82, .iconst 4, 1), (83, .newarray .int, 2), (85, .putfield 40, 3), (88, .aload_n 0, 1), (89, .bipush 28, 2), (91, .newarray .int, 2), (93, .putfield 43, 3), (96, .aload_n 0, 1), (97, .iconst 5, 1), (98, .newarray .int, 2), (100, .putfield 46, 3), (103, .aload_n 0, 1), (104, .iconst 5, 1), (105, .newarray .int, 2), (107, .putfield 49, 3), (110, .aload_n 0, 1), (111, .bipush 16, 2), (113, .newarray .boolean, 2), (115, .putfield 52, 3), (118, .aload_n 0, 1), (119, .bipush 16, 2), (121, .newarray .int, 2), (123, .putfield 56, 3), (126, .aload_n 0, 1), (127, .bipush 16, 2), (129, .newarray .int, 2), (131, .putfield 59, 3), (134, .aload_n 0, 1), (135, .bipush 16, 2), (137, .newarray .int, 2), (139, .putfield 62, 3), (142, .aload_n 0, 1), (143, .bipush 64, 2), (145, .newarray .int, 2), (147, .putfield 65, 3), (150, .aload_n 0, 1), (151, .bipush 48, 2), (153, .newarray .boolean, 2), (155, .putfield 68, 3), (158, .aload_n 0, 1), (159, .bipush 48, 2), (161, .newarray .int, 2), (163, .putfield 71, 3), (166, .aload_n 0, 1), (167, .bipush 14, 2), (169, .newarray .int, 2), (171, .putfield 74, 3), (174, .aload_n 0, 1), (175, .iconst 4, 1), (176, .newarray .int, 2), (178, .putfield 77, 3), (181, .iconst 1, 1), (182, .istore_n 1, 1), (183, .iload_n 1, 1), (184, .iconst 5, 1), (185, .if_icmp .ge 20, 3), (188, .aload_n 0, 1), (189, .getfield 46, 3), (192, .iload_n 1, 1), (193, .sipush 1000, 3), (196, .iload_n 1, 1), (197, .imul, 1), (198, .iastore, 1), (199, .iinc 1 1, 3), (202, .goto (-19), 3), (205, .iconst 0, 1), (206, .istore_n 1, 1), (207, .iload_n 1, 1), (208, .iconst 4, 1), (209, .if_icmp .ge 16, 3), (212, .aload_n 0, 1), (213, .getfield 25, 3), (216, .iload_n 1, 1), (217, .iconst (-1), 1), (218, .iastore, 1), (219, .iinc 1 1, 3), (222, .goto (-15), 3), (225, .iconst 0, 1), (226, .istore_n 1, 1), (227, .iload_n 1, 1), (228, .bipush 16, 2), (230, .if_icmp .ge 30, 3), (233, .aload_n 0, 1), (234, .getfield 56, 3), (237, .iload_n 1, 1), (238, .iconst (-1), 1), (239, .iastore, 1), (240, .aload_n 0, 1), (241, .getfield 59, 3), (244, .iload_n 1, 1), (245, .iconst (-1), 1), (246, .iastore, 1), (247, .aload_n 0, 1), (248, .getfield 62, 3), (251, .iload_n 1, 1), (252, .iconst (-1), 1), (253, .iastore, 1), (254, .iinc 1 1, 3), (257, .goto (-30), 3), (260, .return_, 1)]
def mi_X8_init : xMi := (8, yX8_init, cX8_init, 2, none, 1, [], tb_X8_init)
def tb_X8_thrown : List (Nat × Instr × Nat) := [(0, .aload_n 0, 1), (1, .getfield 80, 3), (4, .ireturn, 1)]
def mi_X8_thrown : xMi := (8, yX8_thrown, cX8_thrown, 1, (some (FieldType.int)), 1, [], tb_X8_thrown)
def tb_X8_in : List (Nat × Instr × Nat) := [(0, .iload_n 0, 1), (1, .iload_n 1, 1), (2, .if_icmp .lt 12, 3), (5, .iload_n 0, 1), (6, .iload_n 2, 1), (7, .if_icmp .gt 7, 3), (10, .iconst 1, 1), (11, .goto 4, 3), (14, .iconst 0, 1), (15, .ireturn, 1)]
def mi_X8_in : xMi := (8, yX8_in, cX8_in, 3, (some (FieldType.boolean)), 3, [], tb_X8_in)
def tb_X8_isCircuit : List (Nat × Instr × Nat) := [(0, .iload_n 0, 1), (1, .iconst 0, 1), (2, .iconst 3, 1), (3, .invokestatic 84, 3), (6, .ireturn, 1)]
def mi_X8_isCircuit : xMi := (8, yX8_isCircuit, cX8_isCircuit, 1, (some (FieldType.boolean)), 1, [], tb_X8_isCircuit)
def tb_X8_isRelay : List (Nat × Instr × Nat) := [(0, .iload_n 0, 1), (1, .iconst 1, 1), (2, .iconst 4, 1), (3, .invokestatic 84, 3), (6, .ireturn, 1)]
def mi_X8_isRelay : xMi := (8, yX8_isRelay, cX8_isRelay, 1, (some (FieldType.boolean)), 1, [], tb_X8_isRelay)
def tb_X8_raise : List (Nat × Instr × Nat) := [(0, .lconst 1, 1), (1, .lstore_n 2, 1), (2, .iload_n 0, 1), (3, .ldc 88, 2), (5, .irem, 1), (6, .i2l, 1), (7, .lstore 4, 2), (9, .iload_n 1, 1), (10, .istore 6, 2), (12, .iload 6, 2), (14, .ifCond .le 44, 3), (17, .iload 6, 2), (19, .iconst 2, 1), (20, .irem, 1), (21, .iconst 1, 1), (22, .if_icmp .ne 14, 3), (25, .lload_n 2, 1), (26, .lload 4, 2), (28, .lmul, 1), (29, .ldc2_w 89, 3), (32, .lrem, 1), (33, .goto 4, 3), (36, .lload_n 2, 1), (37, .lstore_n 2, 1), (38, .lload 4, 2), (40, .lload 4, 2), (42, .lmul, 1), (43, .ldc2_w 89, 3), (46, .lrem, 1), (47, .lstore 4, 2), (49, .iload 6, 2), (51, .iconst 2, 1), (52, .idiv, 1), (53, .istore 6, 2), (55, .goto (-43), 3), (58, .lload_n 2, 1), (59, .l2i, 1), (60, .ireturn, 1)]
def mi_X8_raise : xMi := (8, yX8_raise, cX8_raise, 7, (some (FieldType.int)), 2, [], tb_X8_raise)
def tb_X8_mix : List (Nat × Instr × Nat) := [(0, .iload_n 0, 1), (1, .iload_n 1, 1), (2, .ixor, 1), (3, .ldc 91, 2), (5, .imul, 1), (6, .istore_n 2, 1), (7, .iload_n 2, 1), (8, .iload_n 2, 1), (9, .bipush 15, 2), (11, .iushr, 1), (12, .ixor, 1), (13, .ireturn, 1)]
def mi_X8_mix : xMi := (8, yX8_mix, cX8_mix, 3, (some (FieldType.int)), 2, [], tb_X8_mix)
def tb_X8_agree : List (Nat × Instr × Nat) := [(0, .ldc 92, 2), (2, .iload_n 1, 1), (3, .invokestatic 93, 3), (6, .iload_n 2, 1), (7, .invokestatic 93, 3), (10, .iload_n 3, 1), (11, .invokestatic 93, 3), (14, .iload 4, 2), (16, .invokestatic 93, 3), (19, .iload 5, 2), (21, .invokestatic 93, 3), (24, .istore 6, 2), (26, .aload_n 0, 1), (27, .iload 6, 2), (29, .bipush 16, 2), (31, .iushr, 1), (32, .putfield 97, 3), (35, .iconst 0, 1), (36, .istore 7, 2), (38, .iload 7, 2), (40, .iconst 4, 1), (41, .if_icmp .ge 29, 3), (44, .iload 6, 2), (46, .iload 7, 2), (48, .iconst 1, 1), (49, .iadd, 1), (50, .invokestatic 93, 3), (53, .istore 6, 2), (55, .aload_n 0, 1), (56, .getfield 77, 3), (59, .iload 7, 2), (61, .iload 6, 2), (63, .iastore, 1), (64, .iinc 7 1, 3), (67, .goto (-29), 3), (70, .return_, 1)]
def mi_X8_agree : xMi := (8, yX8_agree, cX8_agree, 8, none, 6, [], tb_X8_agree)
def tb_X8_wrap : List (Nat × Instr × Nat) := [(0, .iload_n 1, 1), (1, .istore_n 2, 1), (2, .iconst 0, 1), (3, .istore_n 3, 1), (4, .iload_n 3, 1), (5, .bipush 14, 2), (7, .if_icmp .ge 34, 3), (10, .iload_n 2, 1), (11, .ldc 100, 2), (13, .imul, 1), (14, .ldc 101, 2), (16, .iadd, 1), (17, .istore_n 2, 1), (18, .aload_n 0, 1), (19, .getfield 74, 3), (22, .iload_n 3, 1), (23, .aload_n 0, 1), (24, .getfield 74, 3), (27, .iload_n 3, 1), (28, .iaload, 1), (29, .iload_n 2, 1), (30, .bipush 24, 2), (32, .iushr, 1), (33, .ixor, 1), (34, .iastore, 1), (35, .iinc 3 1, 3), (38, .goto (-34), 3), (41, .iload_n 2, 1), (42, .ireturn, 1)]
def mi_X8_wrap : xMi := (8, yX8_wrap, cX8_wrap, 4, (some (FieldType.int)), 2, [], tb_X8_wrap)
def tb_X8_fed : List (Nat × Instr × Nat) := [(0, .iload_n 1, 1), (1, .istore_n 2, 1), (2, .iconst 0, 1), (3, .istore_n 3, 1), (4, .iload_n 3, 1), (5, .bipush 14, 2), (7, .if_icmp .ge 34, 3), (10, .iload_n 2, 1), (11, .iload_n 3, 1), (12, .iconst 2, 1), (13, .if_icmp .eq 8, 3), (16, .iload_n 3, 1), (17, .iconst 3, 1), (18, .if_icmp .ne 7, 3), (21, .iconst 0, 1), (22, .goto 9, 3), (25, .aload_n 0, 1), (26, .getfield 74, 3), (29, .iload_n 3, 1), (30, .iaload, 1), (31, .invokestatic 93, 3), (34, .istore_n 2, 1), (35, .iinc 3 1, 3), (38, .goto (-34), 3), (41, .iload_n 2, 1), (42, .ireturn, 1)]
def mi_X8_fed : xMi := (8, yX8_fed, cX8_fed, 4, (some (FieldType.int)), 2, [], tb_X8_fed)
def tb_X8_pair : List (Nat × Instr × Nat) := [(0, .sipush 256, 3), (3, .aload_n 0, 1), (4, .getfield 74, 3), (7, .iload_n 1, 1), (8, .iaload, 1), (9, .imul, 1), (10, .aload_n 0, 1), (11, .getfield 74, 3), (14, .iload_n 1, 1), (15, .iconst 1, 1), (16, .iadd, 1), (17, .iaload, 1), (18, .iadd, 1), (19, .ireturn, 1)]
def mi_X8_pair : xMi := (8, yX8_pair, cX8_pair, 2, (some (FieldType.int)), 2, [], tb_X8_pair)
def tb_X8_putPair : List (Nat × Instr × Nat) := [(0, .aload_n 0, 1), (1, .getfield 74, 3), (4, .iload_n 1, 1), (5, .iload_n 2, 1), (6, .bipush 8, 2), (8, .ishr, 1), (9, .iastore, 1), (10, .aload_n 0, 1), (11, .getfield 74, 3), (14, .iload_n 1, 1), (15, .iconst 1, 1), (16, .iadd, 1), (17, .iload_n 2, 1), (18, .sipush 255, 3), (21, .iand, 1), (22, .iastore, 1), (23, .return_, 1)]
def mi_X8_putPair : xMi := (8, yX8_putPair, cX8_putPair, 3, none, 3, [], tb_X8_putPair)
def tb_X8_clearBytes : List (Nat × Instr × Nat) := [(0, .iconst 0, 1), (1, .istore_n 1, 1), (2, .iload_n 1, 1), (3, .bipush 14, 2), (5, .if_icmp .ge 16, 3), (8, .aload_n 0, 1), (9, .getfield 74, 3), (12, .iload_n 1, 1), (13, .iconst 0, 1), (14, .iastore, 1), (15, .iinc 1 1, 3), (18, .goto (-16), 3), (21, .return_, 1)]
def mi_X8_clearBytes : xMi := (8, yX8_clearBytes, cX8_clearBytes, 2, none, 1, [], tb_X8_clearBytes)
def tb_X8_order : List (Nat × Instr × Nat) := [(0, .aload_n 0, 1), (1, .invokevirtual 102, 3), (4, .aload_n 0, 1), (5, .getfield 74, 3), (8, .iconst 4, 1), (9, .iload_n 1, 1), (10, .iastore, 1), (11, .aload_n 0, 1), (12, .getfield 74, 3), (15, .iconst 5, 1), (16, .iload_n 2, 1), (17, .iastore, 1), (18, .aload_n 0, 1), (19, .getfield 74, 3), (22, .bipush 6, 2), (24, .iload_n 3, 1), (25, .iastore, 1), (26, .return_, 1)]
def mi_X8_order : xMi := (8, yX8_order, cX8_order, 4, none, 4, [], tb_X8_order)
def tb_X8_seal : List (Nat × Instr × Nat) := [(0, .aload_n 0, 1), (1, .iload_n 1, 1), (2, .invokevirtual 105, 3), (5, .istore_n 2, 1), (6, .aload_n 0, 1), (7, .iconst 2, 1), (8, .iload_n 2, 1), (9, .bipush 16, 2), (11, .iushr, 1), (12, .invokevirtual 109, 3), (15, .iload_n 2, 1), (16, .ireturn, 1)]
def mi_X8_seal : xMi := (8, yX8_seal, cX8_seal, 3, (some (FieldType.int)), 2, [], tb_X8_seal)
def tb_X8_isKnown : List (Nat × Instr × Nat) := [(0, .aload_n 0, 1), (1, .iconst 0, 1), (2, .invokevirtual 113, 3), (5, .ifCond .ne 23, 3), (8, .aload_n 0, 1), (9, .iload_n 1, 1), (10, .invokevirtual 105, 3), (13, .bipush 16, 2), (15, .iushr, 1), (16, .aload_n 0, 1), (17, .iconst 2, 1), (18, .invokevirtual 113, 3), (21, .if_icmp .ne 7, 3), (24, .iconst 1, 1), (25, .goto 4, 3), (28, .iconst 0, 1), (29, .ireturn, 1)]
def mi_X8_isKnown : xMi := (8, yX8_isKnown, cX8_isKnown, 2, (some (FieldType.boolean)), 2, [], tb_X8_isKnown)
def tb_X8_ship : List (Nat × Instr × Nat) := [(0, .aload_n 0, 1), (1, .getfield 116, 3), (4, .bipush 20, 2), (6, .if_icmp .ne 14, 3), (9, .aload_n 0, 1), (10, .dup, 1), (11, .getfield 119, 3), (14, .iconst 1, 1), (15, .iadd, 1), (16, .putfield 119, 3), (19, .return_, 1), (20, .bipush 19, 2), (22, .aload_n 0, 1), (23, .getfield 116, 3), (26, .imul, 1), (27, .istore 6, 2), (29, .aload_n 0, 1), (30, .getfield 7, 3), (33, .iload 6, 2), (35, .iload_n 1, 1), (36, .iastore, 1), (37, .aload_n 0, 1), (38, .getfield 7, 3), (41, .iload 6, 2), (43, .iconst 1, 1), (44, .iadd, 1), (45, .iload_n 2, 1), (46, .iastore, 1), (47, .aload_n 0, 1), (48, .getfield 7, 3), (51, .iload 6, 2), (53, .iconst 2, 1), (54, .iadd, 1), (55, .iload_n 3, 1), (56, .iastore, 1), (57, .aload_n 0, 1), (58, .getfield 7, 3), (61, .iload 6, 2), (63, .iconst 3, 1), (64, .iadd, 1), (65, .iload 4, 2), (67, .iastore, 1), (68, .iconst 0, 1), (69, .istore 7, 2), (71, .iload 7, 2), (73, .bipush 14, 2), (75, .if_icmp .ge 28, 3), (78, .aload_n 0, 1), (79, .getfield 7, 3), (82, .iload 6, 2), (84, .iconst 4, 1), (85, .iadd, 1), (86, .iload 7, 2), (88, .iadd, 1), (89, .aload_n 0, 1), (90, .getfield 74, 3), (93, .iload 7, 2), (95, .iaload, 1), (96, .iastore, 1), (97, .iinc 7 1, 3), (100, .goto (-29), 3), (103, .aload_n 0, 1), (104, .getfield 7, 3), (107, .iload 6, 2), (109, .bipush 18, 2), (111, .iadd, 1), (112, .iload 5, 2), (114, .iastore, 1), (115, .aload_n 0, 1), (116, .dup, 1), (117, .getfield 116, 3), (120, .iconst 1, 1), (121, .iadd, 1), (122, .putfield 116, 3), (125, .return_, 1)]
def mi_X8_ship : xMi := (8, yX8_ship, cX8_ship, 8, none, 6, [], tb_X8_ship)
def tb_X8_destroy : List (Nat × Instr × Nat) := [(0, .aload_n 0, 1), (1, .invokevirtual 102, 3), (4, .aload_n 0, 1), (5, .iload_n 1, 1), (6, .iload_n 2, 1), (7, .iload_n 3, 1), (8, .iconst 4, 1), (9, .iconst 0, 1), (10, .invokevirtual 122, 3), (13, .return_, 1)]
def mi_X8_destroy : xMi := (8, yX8_destroy, cX8_destroy, 4, none, 4, [], tb_X8_destroy)
def tb_X8_remove : List (Nat × Instr × Nat) := [(0, .aload_n 0, 1), (1, .dup, 1), (2, .getfield 116, 3), (5, .iconst 1, 1), (6, .isub, 1), (7, .putfield 116, 3), (10, .bipush 19, 2), (12, .iload_n 1, 1), (13, .imul, 1), (14, .istore_n 2, 1), (15, .iload_n 2, 1), (16, .bipush 19, 2), (18, .aload_n 0, 1), (19, .getfield 116, 3), (22, .imul, 1), (23, .if_icmp .ge 24, 3), (26, .aload_n 0, 1), (27, .getfield 7, 3), (30, .iload_n 2, 1), (31, .aload_n 0, 1), (32, .getfield 7, 3), (35, .iload_n 2, 1), (36, .bipush 19, 2), (38, .iadd, 1), (39, .iaload, 1), (40, .iastore, 1), (41, .iinc 2 1, 3), (44, .goto (-29), 3), (47, .return_, 1)]
def mi_X8_remove : xMi := (8, yX8_remove, cX8_remove, 3, none, 2, [], tb_X8_remove)
def tb_X8_dropStreams : List (Nat × Instr × Nat) := [(0, .iconst 3, 1), (1, .iload_n 1, 1), (2, .imul, 1), (3, .istore_n 3, 1), (4, .iload_n 3, 1), (5, .iconst 3, 1), (6, .iload_n 1, 1), (7, .imul, 1), (8, .iconst 3, 1), (9, .iadd, 1), (10, .if_icmp .ge 33, 3), (13, .aload_n 0, 1), (14, .getfield 34, 3), (17, .iload_n 3, 1), (18, .iaload, 1), (19, .iload_n 2, 1), (20, .if_icmp .lt 17, 3), (23, .aload_n 0, 1), (24, .getfield 31, 3), (27, .iload_n 3, 1), (28, .iconst 0, 1), (29, .iastore, 1), (30, .aload_n 0, 1), (31, .getfield 37, 3), (34, .iload_n 3, 1), (35, .iconst 0, 1), (36, .iastore, 1), (37, .iinc 3 1, 3), (40, .goto (-36), 3), (43, .return_, 1)]
def mi_X8_dropStreams : xMi := (8, yX8_dropStreams, cX8_dropStreams, 4, none, 3, [], tb_X8_dropStreams)
def tb_X8_ended : List (Nat × Instr × Nat) := [(0, .aload_n 0, 1), (1, .getfield 13, 3), (4, .iload_n 1, 1), (5, .iconst 3, 1), (6, .iastore, 1), (7, .aload_n 0, 1), (8, .getfield 25, 3), (11, .iload_n 1, 1), (12, .iconst (-1), 1), (13, .iastore, 1), (14, .aload_n 0, 1), (15, .iload_n 1, 1), (16, .iconst 0, 1), (17, .invokevirtual 126, 3), (20, .return_, 1)]
def mi_X8_ended : xMi := (8, yX8_ended, cX8_ended, 2, none, 2, [], tb_X8_ended)
def tb_X8_closeNow : List (Nat × Instr × Nat) := [(0, .aload_n 0, 1), (1, .getfield 16, 3), (4, .iload_n 1, 1), (5, .iaload, 1), (6, .ifCond .le 14, 3), (9, .aload_n 0, 1), (10, .getfield 19, 3), (13, .iconst 3, 1), (14, .iload_n 1, 1), (15, .imul, 1), (16, .iaload, 1), (17, .goto 9, 3), (20, .aload_n 0, 1), (21, .getfield 25, 3), (24, .iload_n 1, 1), (25, .iaload, 1), (26, .istore_n 2, 1), (27, .aload_n 0, 1), (28, .iconst 0, 1), (29, .iload_n 2, 1), (30, .iload_n 1, 1), (31, .invokevirtual 129, 3), (34, .aload_n 0, 1), (35, .iload_n 1, 1), (36, .invokevirtual 133, 3), (39, .return_, 1)]
def mi_X8_closeNow : xMi := (8, yX8_closeNow, cX8_closeNow, 3, none, 2, [], tb_X8_closeNow)
def tb_X8_clientSends : List (Nat × Instr × Nat) := [(0, .bipush 12, 2), (2, .iload_n 1, 1), (3, .imul, 1), (4, .iconst 4, 1), (5, .iload_n 2, 1), (6, .imul, 1), (7, .iadd, 1), (8, .istore_n 3, 1), (9, .aload_n 0, 1), (10, .getfield 22, 3), (13, .iload_n 3, 1), (14, .iconst 2, 1), (15, .iadd, 1), (16, .aload_n 0, 1), (17, .aload_n 0, 1), (18, .getfield 22, 3), (21, .iload_n 3, 1), (22, .iconst 2, 1), (23, .iadd, 1), (24, .iaload, 1), (25, .invokevirtual 137, 3), (28, .iastore, 1), (29, .iload_n 2, 1), (30, .istore 4, 2), (32, .iload 4, 2), (34, .ifCond .lt 41, 3), (37, .aload_n 0, 1), (38, .getfield 22, 3), (41, .bipush 12, 2), (43, .iload_n 1, 1), (44, .imul, 1), (45, .iconst 4, 1), (46, .iload 4, 2), (48, .imul, 1), (49, .iadd, 1), (50, .aload_n 0, 1), (51, .aload_n 0, 1), (52, .getfield 22, 3), (55, .bipush 12, 2), (57, .iload_n 1, 1), (58, .imul, 1), (59, .iconst 4, 1), (60, .iload 4, 2), (62, .imul, 1), (63, .iadd, 1), (64, .iaload, 1), (65, .invokevirtual 140, 3), (68, .iastore, 1), (69, .iinc 4 (-1), 3), (72, .goto (-40), 3), (75, .aload_n 0, 1), (76, .iconst 0, 1), (77, .aload_n 0, 1), (78, .getfield 19, 3), (81, .iconst 3, 1), (82, .iload_n 1, 1), (83, .imul, 1), (84, .iaload, 1), (85, .iload_n 1, 1), (86, .iconst 3, 1), (87, .iload_n 2, 1), (88, .invokevirtual 122, 3), (91, .return_, 1)]
def mi_X8_clientSends : xMi := (8, yX8_clientSends, cX8_clientSends, 5, none, 3, [], tb_X8_clientSends)
def tb_X8_meet : List (Nat × Instr × Nat) := [(0, .aload_n 0, 1), (1, .getfield 25, 3), (4, .iload_n 1, 1), (5, .iaload, 1), (6, .istore 4, 2), (8, .aload_n 0, 1), (9, .getfield 28, 3), (12, .iload_n 1, 1), (13, .iaload, 1), (14, .istore 5, 2), (16, .aload_n 0, 1), (17, .iload_n 2, 1), (18, .iload 5, 2), (20, .invokestatic 143, 3), (23, .bipush 17, 2), (25, .aload_n 0, 1), (26, .getfield 46, 3), (29, .iload 4, 2), (31, .iaload, 1), (32, .invokestatic 143, 3), (35, .iload 5, 2), (37, .invokestatic 143, 3), (40, .bipush 17, 2), (42, .iload 5, 2), (44, .invokestatic 143, 3), (47, .iload_n 2, 1), (48, .iload 4, 2), (50, .invokevirtual 146, 3), (53, .aload_n 0, 1), (54, .getfield 97, 3), (57, .iload_n 3, 1), (58, .if_icmp .eq 9, 3), (61, .aload_n 0, 1), (62, .iload_n 1, 1), (63, .invokevirtual 149, 3), (66, .return_, 1), (67, .aload_n 0, 1), (68, .getfield 19, 3), (71, .iconst 3, 1), (72, .iload_n 1, 1), (73, .imul, 1), (74, .aload_n 0, 1), (75, .getfield 16, 3), (78, .iload_n 1, 1), (79, .iaload, 1), (80, .iadd, 1), (81, .iload 4, 2), (83, .iastore, 1), (84, .iconst 0, 1), (85, .istore 6, 2), (87, .iload 6, 2), (89, .iconst 4, 1), (90, .if_icmp .ge 37, 3), (93, .aload_n 0, 1), (94, .getfield 22, 3), (97, .bipush 12, 2), (99, .iload_n 1, 1), (100, .imul, 1), (101, .iconst 4, 1), (102, .aload_n 0, 1), (103, .getfield 16, 3), (106, .iload_n 1, 1), (107, .iaload, 1), (108, .imul, 1), (109, .iadd, 1), (110, .iload 6, 2), (112, .iadd, 1), (113, .aload_n 0, 1), (114, .getfield 77, 3), (117, .iload 6, 2), (119, .iaload, 1), (120, .iastore, 1), (121, .iinc 6 1, 3), (124, .goto (-37), 3), (127, .aload_n 0, 1), (128, .getfield 16, 3), (131, .iload_n 1, 1), (132, .dup2, 1), (133, .iaload, 1), (134, .iconst 1, 1), (135, .iadd, 1), (136, .iastore, 1), (137, .aload_n 0, 1), (138, .getfield 25, 3), (141, .iload_n 1, 1), (142, .iconst (-1), 1), (143, .iastore, 1), (144, .aload_n 0, 1), (145, .getfield 13, 3), (148, .iload_n 1, 1), (149, .iconst 2, 1), (150, .iastore, 1), (151, .return_, 1)]
def mi_X8_meet : xMi := (8, yX8_meet, cX8_meet, 7, none, 4, [], tb_X8_meet)
def tb_X8_ofStream : List (Nat × Instr × Nat) := [(0, .iconst 3, 1), (1, .iload_n 1, 1), (2, .imul, 1), (3, .aload_n 0, 1), (4, .getfield 74, 3), (7, .iconst 5, 1), (8, .iaload, 1), (9, .iadd, 1), (10, .iconst 1, 1), (11, .isub, 1), (12, .istore 4, 2), (14, .aload_n 0, 1), (15, .getfield 74, 3), (18, .iconst 5, 1), (19, .iaload, 1), (20, .iconst 1, 1), (21, .iconst 3, 1), (22, .invokestatic 84, 3), (25, .ifCond .eq 24, 3), (28, .aload_n 0, 1), (29, .getfield 31, 3), (32, .iload 4, 2), (34, .iaload, 1), (35, .ifCond .eq 14, 3), (38, .aload_n 0, 1), (39, .getfield 34, 3), (42, .iload 4, 2), (44, .iaload, 1), (45, .iload_n 2, 1), (46, .if_icmp .eq 4, 3), (49, .return_, 1), (50, .iload_n 3, 1), (51, .iconst 4, 1), (52, .if_icmp .ne 33, 3), (55, .aload_n 0, 1), (56, .getfield 31, 3), (59, .iload 4, 2), (61, .iaload, 1), (62, .iconst 1, 1), (63, .if_icmp .ne 22, 3), (66, .aload_n 0, 1), (67, .getfield 31, 3), (70, .iload 4, 2), (72, .iconst 2, 1), (73, .iastore, 1), (74, .aload_n 0, 1), (75, .getfield 37, 3), (78, .iload 4, 2), (80, .iconst 4, 1), (81, .iastore, 1), (82, .goto 152, 3), (85, .iload_n 3, 1), (86, .iconst 5, 1), (87, .if_icmp .ne 89, 3), (90, .aload_n 0, 1), (91, .getfield 31, 3), (94, .iload 4, 2), (96, .iaload, 1), (97, .iconst 2, 1), (98, .if_icmp .ne 78, 3), (101, .aload_n 0, 1), (102, .getfield 40, 3), (105, .iload_n 1, 1), (106, .aload_n 0, 1), (107, .getfield 74, 3), (110, .bipush 6, 2), (112, .iaload, 1), (113, .bipush 7, 2), (115, .if_icmp .ge 13, 3), (118, .aload_n 0, 1), (119, .getfield 74, 3), (122, .bipush 6, 2), (124, .iaload, 1), (125, .goto 5, 3), (128, .bipush 7, 2), (130, .iastore, 1), (131, .iconst 0, 1), (132, .istore 5, 2), (134, .iload 5, 2), (136, .aload_n 0, 1), (137, .getfield 40, 3), (140, .iload_n 1, 1), (141, .iaload, 1), (142, .if_icmp .ge 31, 3), (145, .aload_n 0, 1), (146, .getfield 43, 3), (149, .bipush 7, 2), (151, .iload_n 1, 1), (152, .imul, 1), (153, .iload 5, 2), (155, .iadd, 1), (156, .aload_n 0, 1), (157, .getfield 74, 3), (160, .bipush 7, 2), (162, .iload 5, 2), (164, .iadd, 1), (165, .iaload, 1), (166, .iastore, 1), (167, .iinc 5 1, 3), (170, .goto (-36), 3), (173, .goto 61, 3), (176, .iload_n 3, 1), (177, .bipush 6, 2), (179, .if_icmp .ne 22, 3), (182, .aload_n 0, 1), (183, .getfield 31, 3), (186, .iload 4, 2), (188, .iconst 0, 1), (189, .iastore, 1), (190, .aload_n 0, 1), (191, .getfield 37, 3), (194, .iload 4, 2), (196, .iconst 0, 1), (197, .iastore, 1), (198, .goto 36, 3), (201, .iload_n 3, 1), (202, .bipush 7, 2), (204, .if_icmp .ne 30, 3), (207, .aload_n 0, 1), (208, .getfield 31, 3), (211, .iload 4, 2), (213, .iaload, 1), (214, .iconst 2, 1), (215, .if_icmp .ne 19, 3), (218, .aload_n 0, 1), (219, .getfield 37, 3), (222, .iload 4, 2), (224, .aload_n 0, 1), (225, .getfield 37, 3), (228, .iload 4, 2), (230, .iaload, 1), (231, .iconst 2, 1), (232, .iadd, 1), (233, .iastore, 1), (234, .return_, 1)]
def mi_X8_ofStream : xMi := (8, yX8_ofStream, cX8_ofStream, 6, none, 4, [], tb_X8_ofStream)
def tb_X8_clientFollows : List (Nat × Instr × Nat) := [(0, .aload_n 0, 1), (1, .getfield 74, 3), (4, .iconst 4, 1), (5, .iaload, 1), (6, .istore_n 3, 1), (7, .iload_n 3, 1), (8, .iconst 2, 1), (9, .if_icmp .ne 45, 3), (12, .aload_n 0, 1), (13, .getfield 13, 3), (16, .iload_n 1, 1), (17, .iaload, 1), (18, .iconst 1, 1), (19, .if_icmp .ne 35, 3), (22, .iload_n 2, 1), (23, .aload_n 0, 1), (24, .getfield 16, 3), (27, .iload_n 1, 1), (28, .iaload, 1), (29, .iconst 1, 1), (30, .isub, 1), (31, .if_icmp .ne 23, 3), (34, .aload_n 0, 1), (35, .iload_n 1, 1), (36, .aload_n 0, 1), (37, .bipush 7, 2), (39, .invokevirtual 113, 3), (42, .aload_n 0, 1), (43, .bipush 9, 2), (45, .invokevirtual 113, 3), (48, .invokevirtual 152, 3), (51, .goto 68, 3), (54, .iload_n 3, 1), (55, .bipush 9, 2), (57, .if_icmp .ne 37, 3), (60, .aload_n 0, 1), (61, .getfield 16, 3), (64, .iload_n 1, 1), (65, .iload_n 2, 1), (66, .iconst 1, 1), (67, .iadd, 1), (68, .iastore, 1), (69, .aload_n 0, 1), (70, .iload_n 1, 1), (71, .iload_n 2, 1), (72, .iconst 1, 1), (73, .iadd, 1), (74, .invokevirtual 126, 3), (77, .aload_n 0, 1), (78, .getfield 13, 3), (81, .iload_n 1, 1), (82, .iconst 2, 1), (83, .iastore, 1), (84, .aload_n 0, 1), (85, .getfield 25, 3), (88, .iload_n 1, 1), (89, .iconst (-1), 1), (90, .iastore, 1), (91, .goto 28, 3), (94, .iload_n 3, 1), (95, .iconst 4, 1), (96, .bipush 7, 2), (98, .invokestatic 84, 3), (101, .ifCond .eq 13, 3), (104, .aload_n 0, 1), (105, .iload_n 1, 1), (106, .iload_n 2, 1), (107, .iload_n 3, 1), (108, .invokevirtual 155, 3), (111, .goto 8, 3), (114, .aload_n 0, 1), (115, .iload_n 1, 1), (116, .invokevirtual 149, 3), (119, .return_, 1)]
def mi_X8_clientFollows : xMi := (8, yX8_clientFollows, cX8_clientFollows, 4, none, 3, [], tb_X8_clientFollows)
def tb_X8_toClient : List (Nat × Instr × Nat) := [(0, .aload_n 0, 1), (1, .getfield 13, 3), (4, .iload_n 2, 1), (5, .iaload, 1), (6, .iconst 1, 1), (7, .if_icmp .eq 13, 3), (10, .aload_n 0, 1), (11, .getfield 13, 3), (14, .iload_n 2, 1), (15, .iaload, 1), (16, .iconst 2, 1), (17, .if_icmp .ne 7, 3), (20, .iconst 1, 1), (21, .goto 4, 3), (24, .iconst 0, 1), (25, .istore 4, 2), (27, .iload 4, 2), (29, .ifCond .eq 41, 3), (32, .aload_n 0, 1), (33, .getfield 16, 3), (36, .iload_n 2, 1), (37, .iaload, 1), (38, .ifCond .le 18, 3), (41, .aload_n 0, 1), (42, .getfield 19, 3), (45, .iconst 3, 1), (46, .iload_n 2, 1), (47, .imul, 1), (48, .iaload, 1), (49, .iload_n 1, 1), (50, .if_icmp .ne 20, 3), (53, .goto 13, 3), (56, .aload_n 0, 1), (57, .getfield 25, 3), (60, .iload_n 2, 1), (61, .iaload, 1), (62, .iload_n 1, 1), (63, .if_icmp .ne 7, 3), (66, .iconst 1, 1), (67, .goto 4, 3), (70, .iconst 0, 1), (71, .istore 5, 2), (73, .iload_n 3, 1), (74, .iconst 2, 1), (75, .if_icmp .ne 35, 3), (78, .iload 5, 2), (80, .ifCond .eq 30, 3), (83, .aload_n 0, 1), (84, .getfield 16, 3), (87, .iload_n 2, 1), (88, .iaload, 1), (89, .ifCond .ne 21, 3), (92, .aload_n 0, 1), (93, .iload_n 2, 1), (94, .aload_n 0, 1), (95, .iconst 0, 1), (96, .invokevirtual 113, 3), (99, .aload_n 0, 1), (100, .iconst 2, 1), (101, .invokevirtual 113, 3), (104, .invokevirtual 152, 3), (107, .goto 214, 3), (110, .iload_n 3, 1), (111, .iconst 3, 1), (112, .if_icmp .ne 181, 3), (115, .iload 5, 2), (117, .ifCond .eq 176, 3), (120, .aload_n 0, 1), (121, .getfield 16, 3), (124, .iload_n 2, 1), (125, .iaload, 1), (126, .ifCond .le 167, 3), (129, .iconst 0, 1), (130, .istore 6, 2), (132, .iload 6, 2), (134, .aload_n 0, 1), (135, .getfield 158, 3), (138, .if_icmp .gt 58, 3), (141, .aload_n 0, 1), (142, .getfield 158, 3), (145, .aload_n 0, 1), (146, .getfield 16, 3), (149, .iload_n 2, 1), (150, .iaload, 1), (151, .if_icmp .ge 45, 3), (154, .aload_n 0, 1), (155, .getfield 22, 3), (158, .bipush 12, 2), (160, .iload_n 2, 1), (161, .imul, 1), (162, .iconst 4, 1), (163, .iload 6, 2), (165, .imul, 1), (166, .iadd, 1), (167, .iconst 1, 1), (168, .iadd, 1), (169, .aload_n 0, 1), (170, .aload_n 0, 1), (171, .getfield 22, 3), (174, .bipush 12, 2), (176, .iload_n 2, 1), (177, .imul, 1), (178, .iconst 4, 1), (179, .iload 6, 2), (181, .imul, 1), (182, .iadd, 1), (183, .iconst 1, 1), (184, .iadd, 1), (185, .iaload, 1), (186, .invokevirtual 140, 3), (189, .iastore, 1), (190, .iinc 6 1, 3), (193, .goto (-61), 3), (196, .bipush 12, 2), (198, .iload_n 2, 1), (199, .imul, 1), (200, .iconst 4, 1), (201, .aload_n 0, 1), (202, .getfield 158, 3), (205, .aload_n 0, 1), (206, .getfield 16, 3), (209, .iload_n 2, 1), (210, .iaload, 1), (211, .if_icmp .ge 10, 3), (214, .aload_n 0, 1), (215, .getfield 158, 3), (218, .goto 4, 3), (221, .iconst 0, 1), (222, .imul, 1), (223, .iadd, 1), (224, .iconst 3, 1), (225, .iadd, 1), (226, .istore 6, 2), (228, .aload_n 0, 1), (229, .getfield 158, 3), (232, .aload_n 0, 1), (233, .getfield 16, 3), (236, .iload_n 2, 1), (237, .iaload, 1), (238, .if_icmp .ge 47, 3), (241, .aload_n 0, 1), (242, .aload_n 0, 1), (243, .getfield 22, 3), (246, .iload 6, 2), (248, .iaload, 1), (249, .invokevirtual 161, 3), (252, .ifCond .eq 33, 3), (255, .aload_n 0, 1), (256, .getfield 22, 3), (259, .iload 6, 2), (261, .aload_n 0, 1), (262, .aload_n 0, 1), (263, .getfield 22, 3), (266, .iload 6, 2), (268, .iaload, 1), (269, .invokevirtual 105, 3), (272, .iastore, 1), (273, .aload_n 0, 1), (274, .iload_n 2, 1), (275, .aload_n 0, 1), (276, .getfield 158, 3), (279, .invokevirtual 165, 3), (282, .goto 8, 3), (285, .aload_n 0, 1), (286, .iload_n 2, 1), (287, .invokevirtual 149, 3), (290, .goto 31, 3), (293, .iload_n 3, 1), (294, .iconst 4, 1), (295, .if_icmp .ne 16, 3), (298, .iload 5, 2), (300, .ifCond .eq 11, 3), (303, .aload_n 0, 1), (304, .iload_n 2, 1), (305, .invokevirtual 133, 3), (308, .goto 13, 3), (311, .aload_n 0, 1), (312, .dup, 1), (313, .getfield 168, 3), (316, .iconst 1, 1), (317, .iadd, 1), (318, .putfield 168, 3), (321, .return_, 1)]
def mi_X8_toClient : xMi := (8, yX8_toClient, cX8_toClient, 7, none, 4, [], tb_X8_toClient)
def tb_X8_place : List (Nat × Instr × Nat) := [(0, .iconst 4, 1), (1, .iload_n 1, 1), (2, .iconst 1, 1), (3, .isub, 1), (4, .imul, 1), (5, .iload_n 2, 1), (6, .iadd, 1), (7, .ireturn, 1)]
def mi_X8_place : xMi := (8, yX8_place, cX8_place, 3, (some (FieldType.int)), 3, [], tb_X8_place)
def tb_X8_forget : List (Nat × Instr × Nat) := [(0, .aload_n 0, 1), (1, .iload_n 1, 1), (2, .iload_n 2, 1), (3, .invokevirtual 171, 3), (6, .istore_n 3, 1), (7, .aload_n 0, 1), (8, .getfield 52, 3), (11, .iload_n 3, 1), (12, .iconst 0, 1), (13, .bastore, 1), (14, .aload_n 0, 1), (15, .getfield 56, 3), (18, .iload_n 3, 1), (19, .iconst (-1), 1), (20, .iastore, 1), (21, .aload_n 0, 1), (22, .getfield 59, 3), (25, .iload_n 3, 1), (26, .iconst (-1), 1), (27, .iastore, 1), (28, .aload_n 0, 1), (29, .getfield 62, 3), (32, .iload_n 3, 1), (33, .iconst (-1), 1), (34, .iastore, 1), (35, .iconst 0, 1), (36, .istore 4, 2), (38, .iload 4, 2), (40, .iconst 4, 1), (41, .if_icmp .ge 21, 3), (44, .aload_n 0, 1), (45, .getfield 65, 3), (48, .iconst 4, 1), (49, .iload_n 3, 1), (50, .imul, 1), (51, .iload 4, 2), (53, .iadd, 1), (54, .iconst 0, 1), (55, .iastore, 1), (56, .iinc 4 1, 3), (59, .goto (-21), 3), (62, .iconst 0, 1), (63, .istore 4, 2), (65, .iload 4, 2), (67, .iconst 3, 1), (68, .if_icmp .ge 33, 3), (71, .aload_n 0, 1), (72, .getfield 68, 3), (75, .iconst 3, 1), (76, .iload_n 3, 1), (77, .imul, 1), (78, .iload 4, 2), (80, .iadd, 1), (81, .iconst 0, 1), (82, .bastore, 1), (83, .aload_n 0, 1), (84, .getfield 71, 3), (87, .iconst 3, 1), (88, .iload_n 3, 1), (89, .imul, 1), (90, .iload 4, 2), (92, .iadd, 1), (93, .iconst 0, 1), (94, .iastore, 1), (95, .iinc 4 1, 3), (98, .goto (-33), 3), (101, .return_, 1)]
def mi_X8_forget : xMi := (8, yX8_forget, cX8_forget, 5, none, 3, [], tb_X8_forget)
def tb_X8_destroyOn : List (Nat × Instr × Nat) := [(0, .aload_n 0, 1), (1, .iload_n 1, 1), (2, .iload_n 2, 1), (3, .invokevirtual 171, 3), (6, .istore_n 3, 1), (7, .aload_n 0, 1), (8, .getfield 59, 3), (11, .iload_n 3, 1), (12, .iaload, 1), (13, .ifCond .lt 12, 3), (16, .aload_n 0, 1), (17, .getfield 59, 3), (20, .iload_n 3, 1), (21, .iaload, 1), (22, .goto 9, 3), (25, .aload_n 0, 1), (26, .getfield 62, 3), (29, .iload_n 3, 1), (30, .iaload, 1), (31, .istore 4, 2), (33, .iload 4, 2), (35, .ifCond .lt 11, 3), (38, .aload_n 0, 1), (39, .iload_n 1, 1), (40, .iload 4, 2), (42, .iload_n 2, 1), (43, .invokevirtual 129, 3), (46, .return_, 1)]
def mi_X8_destroyOn : xMi := (8, yX8_destroyOn, cX8_destroyOn, 5, none, 3, [], tb_X8_destroyOn)
def tb_X8_tear : List (Nat × Instr × Nat) := [(0, .aload_n 0, 1), (1, .iload_n 1, 1), (2, .aload_n 0, 1), (3, .getfield 56, 3), (6, .aload_n 0, 1), (7, .iload_n 1, 1), (8, .iload_n 2, 1), (9, .invokevirtual 171, 3), (12, .iaload, 1), (13, .iload_n 2, 1), (14, .invokevirtual 129, 3), (17, .aload_n 0, 1), (18, .iload_n 1, 1), (19, .iload_n 2, 1), (20, .invokevirtual 174, 3), (23, .aload_n 0, 1), (24, .iload_n 1, 1), (25, .iload_n 2, 1), (26, .invokevirtual 177, 3), (29, .return_, 1)]
def mi_X8_tear : xMi := (8, yX8_tear, cX8_tear, 3, none, 3, [], tb_X8_tear)
def tb_X8_relaySends : List (Nat × Instr × Nat) := [(0, .aload_n 0, 1), (1, .iload_n 1, 1), (2, .iload_n 2, 1), (3, .invokevirtual 171, 3), (6, .istore_n 3, 1), (7, .aload_n 0, 1), (8, .getfield 65, 3), (11, .iconst 4, 1), (12, .iload_n 3, 1), (13, .imul, 1), (14, .iconst 3, 1), (15, .iadd, 1), (16, .aload_n 0, 1), (17, .aload_n 0, 1), (18, .getfield 65, 3), (21, .iconst 4, 1), (22, .iload_n 3, 1), (23, .imul, 1), (24, .iconst 3, 1), (25, .iadd, 1), (26, .iaload, 1), (27, .invokevirtual 137, 3), (30, .iastore, 1), (31, .aload_n 0, 1), (32, .getfield 65, 3), (35, .iconst 4, 1), (36, .iload_n 3, 1), (37, .imul, 1), (38, .iconst 1, 1), (39, .iadd, 1), (40, .aload_n 0, 1), (41, .aload_n 0, 1), (42, .getfield 65, 3), (45, .iconst 4, 1), (46, .iload_n 3, 1), (47, .imul, 1), (48, .iconst 1, 1), (49, .iadd, 1), (50, .iaload, 1), (51, .invokevirtual 140, 3), (54, .iastore, 1), (55, .aload_n 0, 1), (56, .iload_n 1, 1), (57, .aload_n 0, 1), (58, .getfield 56, 3), (61, .iload_n 3, 1), (62, .iaload, 1), (63, .iload_n 2, 1), (64, .iconst 3, 1), (65, .iconst 0, 1), (66, .invokevirtual 122, 3), (69, .return_, 1)]
def mi_X8_relaySends : xMi := (8, yX8_relaySends, cX8_relaySends, 4, none, 3, [], tb_X8_relaySends)
def tb_X8_begun : List (Nat × Instr × Nat) := [(0, .aload_n 0, 1), (1, .iconst 0, 1), (2, .invokevirtual 113, 3), (5, .istore 4, 2), (7, .iload 4, 2), (9, .iconst 1, 1), (10, .ldc 180, 2), (12, .invokestatic 84, 3), (15, .ifCond .ne 11, 3), (18, .aload_n 0, 1), (19, .iload_n 1, 1), (20, .iload_n 2, 1), (21, .iload_n 3, 1), (22, .invokevirtual 129, 3), (25, .return_, 1), (26, .aload_n 0, 1), (27, .iload_n 1, 1), (28, .iload_n 3, 1), (29, .invokevirtual 171, 3), (32, .istore 5, 2), (34, .aload_n 0, 1), (35, .iload_n 1, 1), (36, .iload_n 3, 1), (37, .invokevirtual 177, 3), (40, .aload_n 0, 1), (41, .getfield 52, 3), (44, .iload 5, 2), (46, .iconst 1, 1), (47, .bastore, 1), (48, .aload_n 0, 1), (49, .getfield 56, 3), (52, .iload 5, 2), (54, .iload_n 2, 1), (55, .iastore, 1), (56, .iconst 1, 1), (57, .iload 4, 2), (59, .bipush 31, 2), (61, .imul, 1), (62, .sipush 977, 3), (65, .iload_n 1, 1), (66, .imul, 1), (67, .iadd, 1), (68, .aload_n 0, 1), (69, .getfield 49, 3), (72, .iload_n 1, 1), (73, .iaload, 1), (74, .iadd, 1), (75, .ldc 181, 2), (77, .irem, 1), (78, .iadd, 1), (79, .istore 6, 2), (81, .aload_n 0, 1), (82, .getfield 49, 3), (85, .iload_n 1, 1), (86, .dup2, 1), (87, .iaload, 1), (88, .iconst 1, 1), (89, .iadd, 1), (90, .iastore, 1), (91, .aload_n 0, 1), (92, .iload 4, 2), (94, .iload 6, 2), (96, .invokestatic 143, 3), (99, .iload 4, 2), (101, .aload_n 0, 1), (102, .getfield 46, 3), (105, .iload_n 1, 1), (106, .iaload, 1), (107, .invokestatic 143, 3), (110, .iload 4, 2), (112, .bipush 17, 2), (114, .iload 6, 2), (116, .invokestatic 143, 3), (119, .iload_n 1, 1), (120, .invokevirtual 146, 3), (123, .iconst 0, 1), (124, .istore 7, 2), (126, .iload 7, 2), (128, .iconst 4, 1), (129, .if_icmp .ge 28, 3), (132, .aload_n 0, 1), (133, .getfield 65, 3), (136, .iconst 4, 1), (137, .iload 5, 2), (139, .imul, 1), (140, .iload 7, 2), (142, .iadd, 1), (143, .aload_n 0, 1), (144, .getfield 77, 3), (147, .iload 7, 2), (149, .iaload, 1), (150, .iastore, 1), (151, .iinc 7 1, 3), (154, .goto (-28), 3), (157, .aload_n 0, 1), (158, .invokevirtual 102, 3), (161, .aload_n 0, 1), (162, .iconst 0, 1), (163, .bipush 17, 2), (165, .iload 6, 2), (167, .invokestatic 143, 3), (170, .invokevirtual 109, 3), (173, .aload_n 0, 1), (174, .iconst 2, 1), (175, .aload_n 0, 1), (176, .getfield 97, 3), (179, .invokevirtual 109, 3), (182, .aload_n 0, 1), (183, .iload_n 1, 1), (184, .iload_n 2, 1), (185, .iload_n 3, 1), (186, .iconst 2, 1), (187, .iconst 0, 1), (188, .invokevirtual 122, 3), (191, .return_, 1)]
def mi_X8_begun : xMi := (8, yX8_begun, cX8_begun, 8, none, 4, [], tb_X8_begun)
def tb_X8_extendAt : List (Nat × Instr × Nat) := [(0, .aload_n 0, 1), (1, .iload_n 1, 1), (2, .iload_n 2, 1), (3, .invokevirtual 171, 3), (6, .istore_n 3, 1), (7, .aload_n 0, 1), (8, .getfield 74, 3), (11, .bipush 7, 2), (13, .iaload, 1), (14, .istore 4, 2), (16, .aload_n 0, 1), (17, .bipush 8, 2), (19, .invokevirtual 113, 3), (22, .istore 5, 2), (24, .iload 4, 2), (26, .invokestatic 182, 3), (29, .ifCond .eq 38, 3), (32, .iload 4, 2), (34, .iload_n 1, 1), (35, .if_icmp .eq 32, 3), (38, .iload 4, 2), (40, .aload_n 0, 1), (41, .getfield 56, 3), (44, .iload_n 3, 1), (45, .iaload, 1), (46, .if_icmp .eq 21, 3), (49, .aload_n 0, 1), (50, .getfield 59, 3), (53, .iload_n 3, 1), (54, .iaload, 1), (55, .ifCond .ge 12, 3), (58, .aload_n 0, 1), (59, .getfield 62, 3), (62, .iload_n 3, 1), (63, .iaload, 1), (64, .ifCond .lt 10, 3), (67, .aload_n 0, 1), (68, .iload_n 1, 1), (69, .iload_n 2, 1), (70, .invokevirtual 185, 3), (73, .return_, 1), (74, .aload_n 0, 1), (75, .getfield 62, 3), (78, .iload_n 3, 1), (79, .iload 4, 2), (81, .iastore, 1), (82, .aload_n 0, 1), (83, .invokevirtual 102, 3), (86, .aload_n 0, 1), (87, .iconst 0, 1), (88, .iload 5, 2), (90, .invokevirtual 109, 3), (93, .aload_n 0, 1), (94, .iload_n 1, 1), (95, .iload 4, 2), (97, .iload_n 2, 1), (98, .iconst 1, 1), (99, .iconst 0, 1), (100, .invokevirtual 122, 3), (103, .return_, 1)]
def mi_X8_extendAt : xMi := (8, yX8_extendAt, cX8_extendAt, 6, none, 3, [], tb_X8_extendAt)
def tb_X8_dataAt : List (Nat × Instr × Nat) := [(0, .iconst 3, 1), (1, .aload_n 0, 1), (2, .iload_n 1, 1), (3, .iload_n 2, 1), (4, .invokevirtual 171, 3), (7, .imul, 1), (8, .iload_n 3, 1), (9, .iadd, 1), (10, .iconst 1, 1), (11, .isub, 1), (12, .istore 5, 2), (14, .iload 4, 2), (16, .ifCond .ne 18, 3), (19, .aload_n 0, 1), (20, .bipush 6, 2), (22, .iload_n 3, 1), (23, .iconst 0, 1), (24, .invokevirtual 188, 3), (27, .aload_n 0, 1), (28, .iload_n 1, 1), (29, .iload_n 2, 1), (30, .invokevirtual 191, 3), (33, .return_, 1), (34, .aload_n 0, 1), (35, .getfield 74, 3), (38, .bipush 6, 2), (40, .iaload, 1), (41, .istore 6, 2), (43, .iconst 0, 1), (44, .istore 7, 2), (46, .iload 7, 2), (48, .bipush 7, 2), (50, .if_icmp .ge 44, 3), (53, .aload_n 0, 1), (54, .getfield 74, 3), (57, .bipush 7, 2), (59, .iload 7, 2), (61, .iadd, 1), (62, .iload 7, 2), (64, .iload 6, 2), (66, .if_icmp .ge 20, 3), (69, .aload_n 0, 1), (70, .getfield 74, 3), (73, .bipush 7, 2), (75, .iload 7, 2), (77, .iadd, 1), (78, .iaload, 1), (79, .sipush 255, 3), (82, .ixor, 1), (83, .goto 4, 3), (86, .iconst 0, 1), (87, .iastore, 1), (88, .iinc 7 1, 3), (91, .goto (-45), 3), (94, .aload_n 0, 1), (95, .iload_n 1, 1), (96, .iload_n 2, 1), (97, .invokevirtual 191, 3), (100, .aload_n 0, 1), (101, .getfield 71, 3), (104, .iload 5, 2), (106, .dup2, 1), (107, .iaload, 1), (108, .iconst 1, 1), (109, .iadd, 1), (110, .iastore, 1), (111, .aload_n 0, 1), (112, .getfield 71, 3), (115, .iload 5, 2), (117, .iaload, 1), (118, .iconst 2, 1), (119, .irem, 1), (120, .ifCond .ne 17, 3), (123, .aload_n 0, 1), (124, .bipush 7, 2), (126, .iload_n 3, 1), (127, .iconst 0, 1), (128, .invokevirtual 188, 3), (131, .aload_n 0, 1), (132, .iload_n 1, 1), (133, .iload_n 2, 1), (134, .invokevirtual 191, 3), (137, .return_, 1)]
def mi_X8_dataAt : xMi := (8, yX8_dataAt, cX8_dataAt, 8, none, 5, [], tb_X8_dataAt)
def tb_X8_relayFollows : List (Nat × Instr × Nat) := [(0, .aload_n 0, 1), (1, .iload_n 1, 1), (2, .iload_n 2, 1), (3, .invokevirtual 171, 3), (6, .istore_n 3, 1), (7, .aload_n 0, 1), (8, .getfield 74, 3), (11, .iconst 5, 1), (12, .iaload, 1), (13, .istore 4, 2), (15, .iload 4, 2), (17, .iconst 1, 1), (18, .iconst 3, 1), (19, .invokestatic 84, 3), (22, .istore 5, 2), (24, .iload 5, 2), (26, .ifCond .eq 32, 3), (29, .aload_n 0, 1), (30, .getfield 68, 3), (33, .iconst 3, 1), (34, .iload_n 3, 1), (35, .imul, 1), (36, .iload 5, 2), (38, .ifCond .eq 8, 3), (41, .iload 4, 2), (43, .goto 4, 3), (46, .iconst 1, 1), (47, .iadd, 1), (48, .iconst 1, 1), (49, .isub, 1), (50, .baload, 1), (51, .ifCond .eq 7, 3), (54, .iconst 1, 1), (55, .goto 4, 3), (58, .iconst 0, 1), (59, .istore 6, 2), (61, .aload_n 0, 1), (62, .getfield 74, 3), (65, .iconst 4, 1), (66, .iaload, 1), (67, .tableswitch 203 1 8 #[45, 203, 54, 203, 131, 144, 203, 166], 45), (112, .aload_n 0, 1), (113, .iload_n 1, 1), (114, .iload_n 2, 1), (115, .invokevirtual 194, 3), (118, .goto 158, 3), (121, .iload 5, 2), (123, .ifCond .eq 12, 3), (126, .iload 6, 2), (128, .ifCond .ne 7, 3), (131, .iconst 1, 1), (132, .goto 4, 3), (135, .iconst 0, 1), (136, .istore 7, 2), (138, .iload 7, 2), (140, .ifCond .eq 31, 3), (143, .aload_n 0, 1), (144, .getfield 68, 3), (147, .iconst 3, 1), (148, .iload_n 3, 1), (149, .imul, 1), (150, .iload 4, 2), (152, .iadd, 1), (153, .iconst 1, 1), (154, .isub, 1), (155, .iconst 1, 1), (156, .bastore, 1), (157, .aload_n 0, 1), (158, .getfield 71, 3), (161, .iconst 3, 1), (162, .iload_n 3, 1), (163, .imul, 1), (164, .iload 4, 2), (166, .iadd, 1), (167, .iconst 1, 1), (168, .isub, 1), (169, .iconst 0, 1), (170, .iastore, 1), (171, .aload_n 0, 1), (172, .iload 7, 2), (174, .ifCond .eq 7, 3), (177, .iconst 4, 1), (178, .goto 5, 3), (181, .bipush 6, 2), (183, .iload 4, 2), (185, .iconst 0, 1), (186, .invokevirtual 188, 3), (189, .aload_n 0, 1), (190, .iload_n 1, 1), (191, .iload_n 2, 1), (192, .invokevirtual 191, 3), (195, .goto 81, 3), (198, .aload_n 0, 1), (199, .iload_n 1, 1), (200, .iload_n 2, 1), (201, .iload 4, 2), (203, .iload 6, 2), (205, .invokevirtual 197, 3), (208, .goto 68, 3), (211, .iload 6, 2), (213, .ifCond .eq 63, 3), (216, .aload_n 0, 1), (217, .getfield 68, 3), (220, .iconst 3, 1), (221, .iload_n 3, 1), (222, .imul, 1), (223, .iload 4, 2), (225, .iadd, 1), (226, .iconst 1, 1), (227, .isub, 1), (228, .iconst 0, 1), (229, .bastore, 1), (230, .goto 46, 3), (233, .aload_n 0, 1), (234, .iload_n 1, 1), (235, .iload_n 2, 1), (236, .invokevirtual 174, 3), (239, .aload_n 0, 1), (240, .getfield 59, 3), (243, .iload_n 3, 1), (244, .iconst (-1), 1), (245, .iastore, 1), (246, .aload_n 0, 1), (247, .getfield 62, 3), (250, .iload_n 3, 1), (251, .iconst (-1), 1), (252, .iastore, 1), (253, .aload_n 0, 1), (254, .bipush 9, 2), (256, .iconst 0, 1), (257, .iconst 0, 1), (258, .invokevirtual 188, 3), (261, .aload_n 0, 1), (262, .iload_n 1, 1), (263, .iload_n 2, 1), (264, .invokevirtual 191, 3), (267, .goto 9, 3), (270, .aload_n 0, 1), (271, .iload_n 1, 1), (272, .iload_n 2, 1), (273, .invokevirtual 185, 3), (276, .return_, 1)]
def mi_X8_relayFollows : xMi := (8, yX8_relayFollows, cX8_relayFollows, 8, none, 3, [], tb_X8_relayFollows)
def tb_X8_relayed : List (Nat × Instr × Nat) := [(0, .aload_n 0, 1), (1, .iload_n 1, 1), (2, .iload_n 3, 1), (3, .invokevirtual 171, 3), (6, .istore 4, 2), (8, .aload_n 0, 1), (9, .getfield 52, 3), (12, .iload 4, 2), (14, .baload, 1), (15, .ifCond .eq 145, 3), (18, .iload_n 2, 1), (19, .aload_n 0, 1), (20, .getfield 56, 3), (23, .iload 4, 2), (25, .iaload, 1), (26, .if_icmp .ne 134, 3), (29, .aload_n 0, 1), (30, .getfield 65, 3), (33, .iconst 4, 1), (34, .iload 4, 2), (36, .imul, 1), (37, .aload_n 0, 1), (38, .aload_n 0, 1), (39, .getfield 65, 3), (42, .iconst 4, 1), (43, .iload 4, 2), (45, .imul, 1), (46, .iaload, 1), (47, .invokevirtual 140, 3), (50, .iastore, 1), (51, .aload_n 0, 1), (52, .getfield 158, 3), (55, .ifCond .ne 56, 3), (58, .aload_n 0, 1), (59, .aload_n 0, 1), (60, .getfield 65, 3), (63, .iconst 4, 1), (64, .iload 4, 2), (66, .imul, 1), (67, .iconst 2, 1), (68, .iadd, 1), (69, .iaload, 1), (70, .invokevirtual 161, 3), (73, .ifCond .eq 38, 3), (76, .aload_n 0, 1), (77, .getfield 65, 3), (80, .iconst 4, 1), (81, .iload 4, 2), (83, .imul, 1), (84, .iconst 2, 1), (85, .iadd, 1), (86, .aload_n 0, 1), (87, .aload_n 0, 1), (88, .getfield 65, 3), (91, .iconst 4, 1), (92, .iload 4, 2), (94, .imul, 1), (95, .iconst 2, 1), (96, .iadd, 1), (97, .iaload, 1), (98, .invokevirtual 105, 3), (101, .iastore, 1), (102, .aload_n 0, 1), (103, .iload_n 1, 1), (104, .iload_n 3, 1), (105, .invokevirtual 201, 3), (108, .goto 132, 3), (111, .aload_n 0, 1), (112, .getfield 158, 3), (115, .ifCond .le 36, 3), (118, .aload_n 0, 1), (119, .getfield 59, 3), (122, .iload 4, 2), (124, .iaload, 1), (125, .ifCond .lt 26, 3), (128, .aload_n 0, 1), (129, .iload_n 1, 1), (130, .aload_n 0, 1), (131, .getfield 59, 3), (134, .iload 4, 2), (136, .iaload, 1), (137, .iload_n 3, 1), (138, .iconst 3, 1), (139, .aload_n 0, 1), (140, .getfield 158, 3), (143, .iconst 1, 1), (144, .isub, 1), (145, .invokevirtual 122, 3), (148, .goto 92, 3), (151, .aload_n 0, 1), (152, .iload_n 1, 1), (153, .iload_n 3, 1), (154, .invokevirtual 185, 3), (157, .goto 83, 3), (160, .aload_n 0, 1), (161, .getfield 52, 3), (164, .iload 4, 2), (166, .baload, 1), (167, .ifCond .eq 63, 3), (170, .iload_n 2, 1), (171, .aload_n 0, 1), (172, .getfield 59, 3), (175, .iload 4, 2), (177, .iaload, 1), (178, .if_icmp .ne 52, 3), (181, .aload_n 0, 1), (182, .getfield 65, 3), (185, .iconst 4, 1), (186, .iload 4, 2), (188, .imul, 1), (189, .iconst 1, 1), (190, .iadd, 1), (191, .aload_n 0, 1), (192, .aload_n 0, 1), (193, .getfield 65, 3), (196, .iconst 4, 1), (197, .iload 4, 2), (199, .imul, 1), (200, .iconst 1, 1), (201, .iadd, 1), (202, .iaload, 1), (203, .invokevirtual 140, 3), (206, .iastore, 1), (207, .aload_n 0, 1), (208, .iload_n 1, 1), (209, .aload_n 0, 1), (210, .getfield 56, 3), (213, .iload 4, 2), (215, .iaload, 1), (216, .iload_n 3, 1), (217, .iconst 3, 1), (218, .aload_n 0, 1), (219, .getfield 158, 3), (222, .iconst 1, 1), (223, .iadd, 1), (224, .invokevirtual 122, 3), (227, .goto 13, 3), (230, .aload_n 0, 1), (231, .dup, 1), (232, .getfield 168, 3), (235, .iconst 1, 1), (236, .iadd, 1), (237, .putfield 168, 3), (240, .return_, 1)]
def mi_X8_relayed : xMi := (8, yX8_relayed, cX8_relayed, 5, none, 4, [], tb_X8_relayed)
def tb_X8_toRelay : List (Nat × Instr × Nat) := [(0, .aload_n 0, 1), (1, .iload_n 1, 1), (2, .iload_n 3, 1), (3, .invokevirtual 171, 3), (6, .istore 5, 2), (8, .iload 4, 2), (10, .iconst 1, 1), (11, .if_icmp .ne 23, 3), (14, .aload_n 0, 1), (15, .getfield 52, 3), (18, .iload 5, 2), (20, .baload, 1), (21, .ifCond .ne 13, 3), (24, .aload_n 0, 1), (25, .iload_n 1, 1), (26, .iload_n 2, 1), (27, .iload_n 3, 1), (28, .invokevirtual 204, 3), (31, .goto 220, 3), (34, .iload 4, 2), (36, .iconst 2, 1), (37, .if_icmp .ne 86, 3), (40, .aload_n 0, 1), (41, .getfield 52, 3), (44, .iload 5, 2), (46, .baload, 1), (47, .ifCond .eq 76, 3), (50, .iload_n 2, 1), (51, .aload_n 0, 1), (52, .getfield 62, 3), (55, .iload 5, 2), (57, .iaload, 1), (58, .if_icmp .ne 65, 3), (61, .aload_n 0, 1), (62, .iconst 0, 1), (63, .invokevirtual 113, 3), (66, .istore 6, 2), (68, .aload_n 0, 1), (69, .iconst 2, 1), (70, .invokevirtual 113, 3), (73, .istore 7, 2), (75, .aload_n 0, 1), (76, .getfield 59, 3), (79, .iload 5, 2), (81, .iload_n 2, 1), (82, .iastore, 1), (83, .aload_n 0, 1), (84, .getfield 62, 3), (87, .iload 5, 2), (89, .iconst (-1), 1), (90, .iastore, 1), (91, .aload_n 0, 1), (92, .iconst 2, 1), (93, .iconst 0, 1), (94, .iconst 4, 1), (95, .invokevirtual 188, 3), (98, .aload_n 0, 1), (99, .bipush 7, 2), (101, .iload 6, 2), (103, .invokevirtual 109, 3), (106, .aload_n 0, 1), (107, .bipush 9, 2), (109, .iload 7, 2), (111, .invokevirtual 109, 3), (114, .aload_n 0, 1), (115, .iload_n 1, 1), (116, .iload_n 3, 1), (117, .invokevirtual 191, 3), (120, .goto 131, 3), (123, .iload 4, 2), (125, .iconst 3, 1), (126, .if_icmp .ne 13, 3), (129, .aload_n 0, 1), (130, .iload_n 1, 1), (131, .iload_n 2, 1), (132, .iload_n 3, 1), (133, .invokevirtual 207, 3), (136, .goto 115, 3), (139, .iload 4, 2), (141, .iconst 4, 1), (142, .if_icmp .ne 39, 3), (145, .aload_n 0, 1), (146, .getfield 52, 3), (149, .iload 5, 2), (151, .baload, 1), (152, .ifCond .eq 29, 3), (155, .iload_n 2, 1), (156, .aload_n 0, 1), (157, .getfield 56, 3), (160, .iload 5, 2), (162, .iaload, 1), (163, .if_icmp .ne 18, 3), (166, .aload_n 0, 1), (167, .iload_n 1, 1), (168, .iload_n 3, 1), (169, .invokevirtual 174, 3), (172, .aload_n 0, 1), (173, .iload_n 1, 1), (174, .iload_n 3, 1), (175, .invokevirtual 177, 3), (178, .goto 73, 3), (181, .iload 4, 2), (183, .iconst 4, 1), (184, .if_icmp .ne 57, 3), (187, .aload_n 0, 1), (188, .getfield 52, 3), (191, .iload 5, 2), (193, .baload, 1), (194, .ifCond .eq 47, 3), (197, .iload_n 2, 1), (198, .aload_n 0, 1), (199, .getfield 59, 3), (202, .iload 5, 2), (204, .iaload, 1), (205, .if_icmp .eq 14, 3), (208, .iload_n 2, 1), (209, .aload_n 0, 1), (210, .getfield 62, 3), (213, .iload 5, 2), (215, .iaload, 1), (216, .if_icmp .ne 25, 3), (219, .aload_n 0, 1), (220, .iload_n 1, 1), (221, .aload_n 0, 1), (222, .getfield 56, 3), (225, .iload 5, 2), (227, .iaload, 1), (228, .iload_n 3, 1), (229, .invokevirtual 129, 3), (232, .aload_n 0, 1), (233, .iload_n 1, 1), (234, .iload_n 3, 1), (235, .invokevirtual 177, 3), (238, .goto 13, 3), (241, .aload_n 0, 1), (242, .dup, 1), (243, .getfield 168, 3), (246, .iconst 1, 1), (247, .iadd, 1), (248, .putfield 168, 3), (251, .return_, 1)]
def mi_X8_toRelay : xMi := (8, yX8_toRelay, cX8_toRelay, 8, none, 5, [], tb_X8_toRelay)
def tb_X8_secret : List (Nat × Instr × Nat) := [(0, .aload_n 0, 1), (1, .iload_n 1, 1), (2, .invokestatic 182, 3), (5, .ifCond .ne 7, 3), (8, .iconst 1, 1), (9, .goto 18, 3), (12, .iload_n 2, 1), (13, .iconst 1, 1), (14, .ldc 181, 2), (16, .invokestatic 84, 3), (19, .ifCond .ne 7, 3), (22, .iconst 2, 1), (23, .goto 4, 3), (26, .iconst 0, 1), (27, .putfield 80, 3), (30, .iconst 0, 1), (31, .istore_n 3, 1), (32, .iload_n 3, 1), (33, .iconst 4, 1), (34, .if_icmp .ge 39, 3), (37, .aload_n 0, 1), (38, .getfield 80, 3), (41, .ifCond .ne 32, 3), (44, .aload_n 0, 1), (45, .aload_n 0, 1), (46, .getfield 52, 3), (49, .aload_n 0, 1), (50, .iload_n 1, 1), (51, .iload_n 3, 1), (52, .invokevirtual 171, 3), (55, .baload, 1), (56, .ifCond .eq 7, 3), (59, .iconst 3, 1), (60, .goto 4, 3), (63, .iconst 0, 1), (64, .putfield 80, 3), (67, .iinc 3 1, 3), (70, .goto (-38), 3), (73, .aload_n 0, 1), (74, .getfield 80, 3), (77, .ifCond .le 5, 3), (80, .iconst 0, 1), (81, .ireturn, 1), (82, .aload_n 0, 1), (83, .getfield 46, 3), (86, .iload_n 1, 1), (87, .iload_n 2, 1), (88, .iastore, 1), (89, .bipush 17, 2), (91, .iload_n 2, 1), (92, .invokestatic 143, 3), (95, .ireturn, 1)]
def mi_X8_secret : xMi := (8, yX8_secret, cX8_secret, 4, (some (FieldType.int)), 3, [], tb_X8_secret)
def tb_X8_create : List (Nat × Instr × Nat) := [(0, .aload_n 0, 1), (1, .iload_n 1, 1), (2, .invokestatic 210, 3), (5, .ifCond .eq 10, 3), (8, .iload_n 2, 1), (9, .invokestatic 182, 3), (12, .ifCond .ne 7, 3), (15, .iconst 1, 1), (16, .goto 30, 3), (19, .iload_n 3, 1), (20, .iconst 1, 1), (21, .ldc 181, 2), (23, .invokestatic 84, 3), (26, .ifCond .ne 7, 3), (29, .iconst 2, 1), (30, .goto 16, 3), (33, .aload_n 0, 1), (34, .iload_n 1, 1), (35, .invokevirtual 213, 3), (38, .ifCond .eq 7, 3), (41, .iconst 3, 1), (42, .goto 4, 3), (45, .iconst 0, 1), (46, .putfield 80, 3), (49, .aload_n 0, 1), (50, .getfield 80, 3), (53, .ifCond .le 5, 3), (56, .iconst 0, 1), (57, .ireturn, 1), (58, .aload_n 0, 1), (59, .getfield 16, 3), (62, .iload_n 1, 1), (63, .iconst 0, 1), (64, .iastore, 1), (65, .aload_n 0, 1), (66, .iload_n 1, 1), (67, .iconst 0, 1), (68, .invokevirtual 126, 3), (71, .aload_n 0, 1), (72, .getfield 40, 3), (75, .iload_n 1, 1), (76, .iconst 0, 1), (77, .iastore, 1), (78, .aload_n 0, 1), (79, .getfield 25, 3), (82, .iload_n 1, 1), (83, .iload_n 2, 1), (84, .iastore, 1), (85, .aload_n 0, 1), (86, .getfield 28, 3), (89, .iload_n 1, 1), (90, .iload_n 3, 1), (91, .iastore, 1), (92, .aload_n 0, 1), (93, .getfield 13, 3), (96, .iload_n 1, 1), (97, .iconst 1, 1), (98, .iastore, 1), (99, .aload_n 0, 1), (100, .invokevirtual 102, 3), (103, .aload_n 0, 1), (104, .iconst 0, 1), (105, .bipush 17, 2), (107, .iload_n 3, 1), (108, .invokestatic 143, 3), (111, .invokevirtual 109, 3), (114, .aload_n 0, 1), (115, .iconst 0, 1), (116, .iload_n 2, 1), (117, .iload_n 1, 1), (118, .iconst 1, 1), (119, .iconst 0, 1), (120, .invokevirtual 122, 3), (123, .aload_n 0, 1), (124, .getfield 116, 3), (127, .ireturn, 1)]
def mi_X8_create : xMi := (8, yX8_create, cX8_create, 4, (some (FieldType.int)), 4, [], tb_X8_create)
def tb_X8_extend : List (Nat × Instr × Nat) := [(0, .aload_n 0, 1), (1, .iload_n 1, 1), (2, .invokestatic 210, 3), (5, .ifCond .eq 10, 3), (8, .iload_n 2, 1), (9, .invokestatic 182, 3), (12, .ifCond .ne 7, 3), (15, .iconst 1, 1), (16, .goto 18, 3), (19, .iload_n 3, 1), (20, .iconst 1, 1), (21, .ldc 181, 2), (23, .invokestatic 84, 3), (26, .ifCond .ne 7, 3), (29, .iconst 2, 1), (30, .goto 4, 3), (33, .iconst 0, 1), (34, .putfield 80, 3), (37, .iconst 0, 1), (38, .istore 4, 2), (40, .aload_n 0, 1), (41, .getfield 80, 3), (44, .ifCond .ne 44, 3), (47, .iload 4, 2), (49, .aload_n 0, 1), (50, .getfield 16, 3), (53, .iload_n 1, 1), (54, .iaload, 1), (55, .if_icmp .ge 33, 3), (58, .aload_n 0, 1), (59, .aload_n 0, 1), (60, .getfield 19, 3), (63, .iconst 3, 1), (64, .iload_n 1, 1), (65, .imul, 1), (66, .iload 4, 2), (68, .iadd, 1), (69, .iaload, 1), (70, .iload_n 2, 1), (71, .if_icmp .ne 7, 3), (74, .iconst 2, 1), (75, .goto 4, 3), (78, .iconst 0, 1), (79, .putfield 80, 3), (82, .iinc 4 1, 3), (85, .goto (-45), 3), (88, .aload_n 0, 1), (89, .aload_n 0, 1), (90, .getfield 80, 3), (93, .ifCond .ne 27, 3), (96, .aload_n 0, 1), (97, .getfield 13, 3), (100, .iload_n 1, 1), (101, .iaload, 1), (102, .iconst 2, 1), (103, .if_icmp .ne 13, 3), (106, .aload_n 0, 1), (107, .getfield 16, 3), (110, .iload_n 1, 1), (111, .iaload, 1), (112, .iconst 3, 1), (113, .if_icmp .ne 7, 3), (116, .iconst 3, 1), (117, .goto 7, 3), (120, .aload_n 0, 1), (121, .getfield 80, 3), (124, .putfield 80, 3), (127, .aload_n 0, 1), (128, .getfield 80, 3), (131, .ifCond .le 5, 3), (134, .iconst 0, 1), (135, .ireturn, 1), (136, .aload_n 0, 1), (137, .iconst 1, 1), (138, .iconst 0, 1), (139, .iconst 3, 1), (140, .invokevirtual 188, 3), (143, .aload_n 0, 1), (144, .getfield 74, 3), (147, .bipush 7, 2), (149, .iload_n 2, 1), (150, .iastore, 1), (151, .aload_n 0, 1), (152, .bipush 8, 2), (154, .bipush 17, 2), (156, .iload_n 3, 1), (157, .invokestatic 143, 3), (160, .invokevirtual 109, 3), (163, .aload_n 0, 1), (164, .iload_n 1, 1), (165, .aload_n 0, 1), (166, .getfield 16, 3), (169, .iload_n 1, 1), (170, .iaload, 1), (171, .iconst 1, 1), (172, .isub, 1), (173, .invokevirtual 216, 3), (176, .aload_n 0, 1), (177, .getfield 25, 3), (180, .iload_n 1, 1), (181, .iload_n 2, 1), (182, .iastore, 1), (183, .aload_n 0, 1), (184, .getfield 28, 3), (187, .iload_n 1, 1), (188, .iload_n 3, 1), (189, .iastore, 1), (190, .aload_n 0, 1), (191, .getfield 13, 3), (194, .iload_n 1, 1), (195, .iconst 1, 1), (196, .iastore, 1), (197, .aload_n 0, 1), (198, .getfield 116, 3), (201, .ireturn, 1)]
def mi_X8_extend : xMi := (8, yX8_extend, cX8_extend, 5, (some (FieldType.int)), 4, [], tb_X8_extend)
def tb_X8_begin : List (Nat × Instr × Nat) := [(0, .aload_n 0, 1), (1, .iload_n 1, 1), (2, .invokestatic 210, 3), (5, .ifCond .eq 12, 3), (8, .iload_n 2, 1), (9, .iconst 1, 1), (10, .iconst 3, 1), (11, .invokestatic 84, 3), (14, .ifCond .ne 7, 3), (17, .iconst 1, 1), (18, .goto 4, 3), (21, .iconst 0, 1), (22, .putfield 80, 3), (25, .aload_n 0, 1), (26, .getfield 80, 3), (29, .ifCond .ne 13, 3), (32, .iconst 3, 1), (33, .iload_n 1, 1), (34, .imul, 1), (35, .iload_n 2, 1), (36, .iadd, 1), (37, .iconst 1, 1), (38, .isub, 1), (39, .goto 4, 3), (42, .iconst 0, 1), (43, .istore 4, 2), (45, .aload_n 0, 1), (46, .aload_n 0, 1), (47, .getfield 80, 3), (50, .ifCond .ne 43, 3), (53, .aload_n 0, 1), (54, .getfield 13, 3), (57, .iload_n 1, 1), (58, .iaload, 1), (59, .iconst 2, 1), (60, .if_icmp .ne 29, 3), (63, .iload_n 3, 1), (64, .iconst 0, 1), (65, .aload_n 0, 1), (66, .getfield 16, 3), (69, .iload_n 1, 1), (70, .iaload, 1), (71, .iconst 1, 1), (72, .isub, 1), (73, .invokestatic 84, 3), (76, .ifCond .eq 13, 3), (79, .aload_n 0, 1), (80, .getfield 31, 3), (83, .iload 4, 2), (85, .iaload, 1), (86, .ifCond .le 7, 3), (89, .iconst 2, 1), (90, .goto 7, 3), (93, .aload_n 0, 1), (94, .getfield 80, 3), (97, .putfield 80, 3), (100, .aload_n 0, 1), (101, .getfield 80, 3), (104, .ifCond .ne 40, 3), (107, .aload_n 0, 1), (108, .getfield 31, 3), (111, .iload 4, 2), (113, .iconst 1, 1), (114, .iastore, 1), (115, .aload_n 0, 1), (116, .getfield 34, 3), (119, .iload 4, 2), (121, .iload_n 3, 1), (122, .iastore, 1), (123, .aload_n 0, 1), (124, .getfield 37, 3), (127, .iload 4, 2), (129, .iconst 0, 1), (130, .iastore, 1), (131, .aload_n 0, 1), (132, .iconst 3, 1), (133, .iload_n 2, 1), (134, .iconst 0, 1), (135, .invokevirtual 188, 3), (138, .aload_n 0, 1), (139, .iload_n 1, 1), (140, .iload_n 3, 1), (141, .invokevirtual 216, 3), (144, .return_, 1)]
def mi_X8_begin : xMi := (8, yX8_begin, cX8_begin, 5, none, 4, [], tb_X8_begin)
def tb_X8_send : List (Nat × Instr × Nat) := [(0, .aload_n 0, 1), (1, .iload_n 1, 1), (2, .invokestatic 210, 3), (5, .ifCond .eq 12, 3), (8, .iload_n 2, 1), (9, .iconst 1, 1), (10, .iconst 3, 1), (11, .invokestatic 84, 3), (14, .ifCond .ne 7, 3), (17, .iconst 1, 1), (18, .goto 30, 3), (21, .iload_n 3, 1), (22, .iconst 0, 1), (23, .bipush 7, 2), (25, .invokestatic 84, 3), (28, .ifCond .eq 15, 3), (31, .iload 4, 2), (33, .iconst 0, 1), (34, .sipush 255, 3), (37, .invokestatic 84, 3), (40, .ifCond .ne 7, 3), (43, .iconst 2, 1), (44, .goto 4, 3), (47, .iconst 0, 1), (48, .putfield 80, 3), (51, .aload_n 0, 1), (52, .getfield 80, 3), (55, .ifCond .ne 13, 3), (58, .iconst 3, 1), (59, .iload_n 1, 1), (60, .imul, 1), (61, .iload_n 2, 1), (62, .iadd, 1), (63, .iconst 1, 1), (64, .isub, 1), (65, .goto 4, 3), (68, .iconst 0, 1), (69, .istore 5, 2), (71, .aload_n 0, 1), (72, .aload_n 0, 1), (73, .getfield 80, 3), (76, .ifCond .ne 28, 3), (79, .aload_n 0, 1), (80, .getfield 31, 3), (83, .iload 5, 2), (85, .iaload, 1), (86, .iconst 2, 1), (87, .if_icmp .ne 13, 3), (90, .aload_n 0, 1), (91, .getfield 37, 3), (94, .iload 5, 2), (96, .iaload, 1), (97, .ifCond .ne 7, 3), (100, .iconst 3, 1), (101, .goto 7, 3), (104, .aload_n 0, 1), (105, .getfield 80, 3), (108, .putfield 80, 3), (111, .aload_n 0, 1), (112, .getfield 80, 3), (115, .ifCond .le 5, 3), (118, .iconst 0, 1), (119, .ireturn, 1), (120, .aload_n 0, 1), (121, .iconst 5, 1), (122, .iload_n 2, 1), (123, .iload_n 3, 1), (124, .invokevirtual 188, 3), (127, .iconst 0, 1), (128, .istore 6, 2), (130, .iload 6, 2), (132, .iload_n 3, 1), (133, .if_icmp .ge 28, 3), (136, .aload_n 0, 1), (137, .getfield 74, 3), (140, .bipush 7, 2), (142, .iload 6, 2), (144, .iadd, 1), (145, .iload 4, 2), (147, .iload 6, 2), (149, .iadd, 1), (150, .sipush 255, 3), (153, .iand, 1), (154, .iastore, 1), (155, .iinc 6 1, 3), (158, .goto (-28), 3), (161, .aload_n 0, 1), (162, .iload_n 1, 1), (163, .aload_n 0, 1), (164, .getfield 34, 3), (167, .iload 5, 2), (169, .iaload, 1), (170, .invokevirtual 216, 3), (173, .aload_n 0, 1), (174, .getfield 37, 3), (177, .iload 5, 2), (179, .dup2, 1), (180, .iaload, 1), (181, .iconst 1, 1), (182, .isub, 1), (183, .iastore, 1), (184, .aload_n 0, 1), (185, .getfield 37, 3), (188, .iload 5, 2), (190, .iaload, 1), (191, .ireturn, 1)]
def mi_X8_send : xMi := (8, yX8_send, cX8_send, 7, (some (FieldType.int)), 5, [], tb_X8_send)
def tb_X8_end : List (Nat × Instr × Nat) := [(0, .aload_n 0, 1), (1, .iload_n 1, 1), (2, .invokestatic 210, 3), (5, .ifCond .eq 12, 3), (8, .iload_n 2, 1), (9, .iconst 1, 1), (10, .iconst 3, 1), (11, .invokestatic 84, 3), (14, .ifCond .ne 7, 3), (17, .iconst 1, 1), (18, .goto 4, 3), (21, .iconst 0, 1), (22, .putfield 80, 3), (25, .aload_n 0, 1), (26, .getfield 80, 3), (29, .ifCond .ne 13, 3), (32, .iconst 3, 1), (33, .iload_n 1, 1), (34, .imul, 1), (35, .iload_n 2, 1), (36, .iadd, 1), (37, .iconst 1, 1), (38, .isub, 1), (39, .goto 4, 3), (42, .iconst 0, 1), (43, .istore_n 3, 1), (44, .aload_n 0, 1), (45, .aload_n 0, 1), (46, .getfield 80, 3), (49, .ifCond .ne 16, 3), (52, .aload_n 0, 1), (53, .getfield 31, 3), (56, .iload_n 3, 1), (57, .iaload, 1), (58, .ifCond .ne 7, 3), (61, .iconst 2, 1), (62, .goto 7, 3), (65, .aload_n 0, 1), (66, .getfield 80, 3), (69, .putfield 80, 3), (72, .aload_n 0, 1), (73, .getfield 80, 3), (76, .ifCond .le 5, 3), (79, .iconst 0, 1), (80, .ireturn, 1), (81, .aload_n 0, 1), (82, .getfield 31, 3), (85, .iload_n 3, 1), (86, .iaload, 1), (87, .istore 4, 2), (89, .aload_n 0, 1), (90, .bipush 6, 2), (92, .iload_n 2, 1), (93, .iconst 0, 1), (94, .invokevirtual 188, 3), (97, .aload_n 0, 1), (98, .iload_n 1, 1), (99, .aload_n 0, 1), (100, .getfield 34, 3), (103, .iload_n 3, 1), (104, .iaload, 1), (105, .invokevirtual 216, 3), (108, .aload_n 0, 1), (109, .getfield 31, 3), (112, .iload_n 3, 1), (113, .iconst 0, 1), (114, .iastore, 1), (115, .aload_n 0, 1), (116, .getfield 37, 3), (119, .iload_n 3, 1), (120, .iconst 0, 1), (121, .iastore, 1), (122, .iload 4, 2), (124, .ireturn, 1)]
def mi_X8_end : xMi := (8, yX8_end, cX8_end, 5, (some (FieldType.int)), 3, [], tb_X8_end)
def tb_X8_isOn : List (Nat × Instr × Nat) := [(0, .aload_n 0, 1), (1, .getfield 13, 3), (4, .iload_n 1, 1), (5, .iaload, 1), (6, .iconst 1, 1), (7, .if_icmp .eq 13, 3), (10, .aload_n 0, 1), (11, .getfield 13, 3), (14, .iload_n 1, 1), (15, .iaload, 1), (16, .iconst 2, 1), (17, .if_icmp .ne 7, 3), (20, .iconst 1, 1), (21, .goto 4, 3), (24, .iconst 0, 1), (25, .ireturn, 1)]
def mi_X8_isOn : xMi := (8, yX8_isOn, cX8_isOn, 2, (some (FieldType.boolean)), 2, [], tb_X8_isOn)
def tb_X8_truncate : List (Nat × Instr × Nat) := [(0, .aload_n 0, 1), (1, .iload_n 1, 1), (2, .invokestatic 210, 3), (5, .ifCond .ne 7, 3), (8, .iconst 1, 1), (9, .goto 32, 3), (12, .aload_n 0, 1), (13, .iload_n 1, 1), (14, .invokevirtual 213, 3), (17, .ifCond .eq 19, 3), (20, .iload_n 2, 1), (21, .iconst 0, 1), (22, .aload_n 0, 1), (23, .getfield 16, 3), (26, .iload_n 1, 1), (27, .iaload, 1), (28, .iconst 1, 1), (29, .isub, 1), (30, .invokestatic 84, 3), (33, .ifCond .ne 7, 3), (36, .iconst 2, 1), (37, .goto 4, 3), (40, .iconst 0, 1), (41, .putfield 80, 3), (44, .aload_n 0, 1), (45, .getfield 80, 3), (48, .ifCond .le 5, 3), (51, .iconst 0, 1), (52, .ireturn, 1), (53, .aload_n 0, 1), (54, .bipush 8, 2), (56, .iconst 0, 1), (57, .iconst 0, 1), (58, .invokevirtual 188, 3), (61, .aload_n 0, 1), (62, .iload_n 1, 1), (63, .iload_n 2, 1), (64, .invokevirtual 216, 3), (67, .aload_n 0, 1), (68, .getfield 16, 3), (71, .iload_n 1, 1), (72, .iaload, 1), (73, .ireturn, 1)]
def mi_X8_truncate : xMi := (8, yX8_truncate, cX8_truncate, 3, (some (FieldType.int)), 3, [], tb_X8_truncate)
def tb_X8_close : List (Nat × Instr × Nat) := [(0, .aload_n 0, 1), (1, .iload_n 1, 1), (2, .invokestatic 210, 3), (5, .ifCond .ne 7, 3), (8, .iconst 1, 1), (9, .goto 16, 3), (12, .aload_n 0, 1), (13, .iload_n 1, 1), (14, .invokevirtual 213, 3), (17, .ifCond .ne 7, 3), (20, .iconst 2, 1), (21, .goto 4, 3), (24, .iconst 0, 1), (25, .putfield 80, 3), (28, .aload_n 0, 1), (29, .getfield 80, 3), (32, .ifCond .ne 8, 3), (35, .aload_n 0, 1), (36, .iload_n 1, 1), (37, .invokevirtual 149, 3), (40, .return_, 1)]
def mi_X8_close : xMi := (8, yX8_close, cX8_close, 2, none, 2, [], tb_X8_close)
def tb_X8_deliver : List (Nat × Instr × Nat) := [(0, .aload_n 0, 1), (1, .iload_n 1, 1), (2, .iconst 1, 1), (3, .bipush 100, 2), (5, .invokestatic 84, 3), (8, .ifCond .eq 7, 3), (11, .iconst 0, 1), (12, .goto 4, 3), (15, .iconst 1, 1), (16, .putfield 80, 3), (19, .iconst 0, 1), (20, .istore_n 2, 1), (21, .aload_n 0, 1), (22, .getfield 80, 3), (25, .ifCond .ne 138, 3), (28, .iload_n 2, 1), (29, .iload_n 1, 1), (30, .if_icmp .ge 133, 3), (33, .aload_n 0, 1), (34, .getfield 116, 3), (37, .ifCond .le 126, 3), (40, .aload_n 0, 1), (41, .getfield 7, 3), (44, .iconst 0, 1), (45, .iaload, 1), (46, .istore_n 3, 1), (47, .aload_n 0, 1), (48, .getfield 7, 3), (51, .iconst 1, 1), (52, .iaload, 1), (53, .istore 4, 2), (55, .aload_n 0, 1), (56, .getfield 7, 3), (59, .iconst 2, 1), (60, .iaload, 1), (61, .istore 5, 2), (63, .aload_n 0, 1), (64, .getfield 7, 3), (67, .iconst 3, 1), (68, .iaload, 1), (69, .istore 6, 2), (71, .iconst 0, 1), (72, .istore 7, 2), (74, .iload 7, 2), (76, .bipush 14, 2), (78, .if_icmp .ge 25, 3), (81, .aload_n 0, 1), (82, .getfield 74, 3), (85, .iload 7, 2), (87, .aload_n 0, 1), (88, .getfield 7, 3), (91, .iconst 4, 1), (92, .iload 7, 2), (94, .iadd, 1), (95, .iaload, 1), (96, .iastore, 1), (97, .iinc 7 1, 3), (100, .goto (-26), 3), (103, .aload_n 0, 1), (104, .aload_n 0, 1), (105, .getfield 7, 3), (108, .bipush 18, 2), (110, .iaload, 1), (111, .putfield 158, 3), (114, .aload_n 0, 1), (115, .iconst 0, 1), (116, .invokevirtual 219, 3), (119, .aload_n 0, 1), (120, .dup, 1), (121, .getfield 222, 3), (124, .iconst 1, 1), (125, .iadd, 1), (126, .putfield 222, 3), (129, .iinc 2 1, 3), (132, .iload 4, 2), (134, .ifCond .ne 15, 3), (137, .aload_n 0, 1), (138, .iload_n 3, 1), (139, .iload 5, 2), (141, .iload 6, 2), (143, .invokevirtual 225, 3), (146, .goto 14, 3), (149, .aload_n 0, 1), (150, .iload 4, 2), (152, .iload_n 3, 1), (153, .iload 5, 2), (155, .iload 6, 2), (157, .invokevirtual 228, 3), (160, .goto (-139), 3), (163, .iload_n 2, 1), (164, .ireturn, 1)]
def mi_X8_deliver : xMi := (8, yX8_deliver, cX8_deliver, 8, (some (FieldType.int)), 2, [], tb_X8_deliver)
def tb_X8_damage : List (Nat × Instr × Nat) := [(0, .aload_n 0, 1), (1, .iload_n 1, 1), (2, .iconst 0, 1), (3, .aload_n 0, 1), (4, .getfield 116, 3), (7, .iconst 1, 1), (8, .isub, 1), (9, .invokestatic 84, 3), (12, .ifCond .eq 13, 3), (15, .iload_n 2, 1), (16, .iconst 0, 1), (17, .bipush 13, 2), (19, .invokestatic 84, 3), (22, .ifCond .ne 7, 3), (25, .iconst 1, 1), (26, .goto 19, 3), (29, .iload_n 3, 1), (30, .iconst 0, 1), (31, .sipush 255, 3), (34, .invokestatic 84, 3), (37, .ifCond .ne 7, 3), (40, .iconst 2, 1), (41, .goto 4, 3), (44, .iconst 0, 1), (45, .putfield 80, 3), (48, .aload_n 0, 1), (49, .getfield 80, 3), (52, .ifCond .le 5, 3), (55, .iconst 0, 1), (56, .ireturn, 1), (57, .aload_n 0, 1), (58, .getfield 7, 3), (61, .bipush 19, 2), (63, .iload_n 1, 1), (64, .imul, 1), (65, .iconst 4, 1), (66, .iadd, 1), (67, .iload_n 2, 1), (68, .iadd, 1), (69, .iaload, 1), (70, .istore 4, 2), (72, .aload_n 0, 1), (73, .getfield 7, 3), (76, .bipush 19, 2), (78, .iload_n 1, 1), (79, .imul, 1), (80, .iconst 4, 1), (81, .iadd, 1), (82, .iload_n 2, 1), (83, .iadd, 1), (84, .iload 4, 2), (86, .iload_n 3, 1), (87, .ixor, 1), (88, .iastore, 1), (89, .iload 4, 2), (91, .ireturn, 1)]
def mi_X8_damage : xMi := (8, yX8_damage, cX8_damage, 5, (some (FieldType.int)), 4, [], tb_X8_damage)
def tb_X8_lose : List (Nat × Instr × Nat) := [(0, .aload_n 0, 1), (1, .iload_n 1, 1), (2, .iconst 0, 1), (3, .aload_n 0, 1), (4, .getfield 116, 3), (7, .iconst 1, 1), (8, .isub, 1), (9, .invokestatic 84, 3), (12, .ifCond .eq 7, 3), (15, .iconst 0, 1), (16, .goto 4, 3), (19, .iconst 1, 1), (20, .putfield 80, 3), (23, .aload_n 0, 1), (24, .getfield 80, 3), (27, .ifCond .le 5, 3), (30, .iconst 0, 1), (31, .ireturn, 1), (32, .aload_n 0, 1), (33, .getfield 7, 3), (36, .bipush 19, 2), (38, .iload_n 1, 1), (39, .imul, 1), (40, .iconst 3, 1), (41, .iadd, 1), (42, .iaload, 1), (43, .istore_n 2, 1), (44, .aload_n 0, 1), (45, .iload_n 1, 1), (46, .invokevirtual 219, 3), (49, .aload_n 0, 1), (50, .dup, 1), (51, .getfield 119, 3), (54, .iconst 1, 1), (55, .iadd, 1), (56, .putfield 119, 3), (59, .iload_n 2, 1), (60, .ireturn, 1)]
def mi_X8_lose : xMi := (8, yX8_lose, cX8_lose, 3, (some (FieldType.int)), 2, [], tb_X8_lose)
def tb_X8_out : List (Nat × Instr × Nat) := [(0, .aload_n 0, 1), (1, .iload_n 1, 1), (2, .ifCond .eq 7, 3), (5, .iconst 0, 1), (6, .goto 4, 3), (9, .iconst 1, 1), (10, .putfield 80, 3), (13, .iload_n 1, 1), (14, .ifCond .ne 7, 3), (17, .iconst 1, 1), (18, .goto 4, 3), (21, .iconst 0, 1), (22, .ireturn, 1)]
def mi_X8_out : xMi := (8, yX8_out, cX8_out, 2, (some (FieldType.boolean)), 2, [], tb_X8_out)
def tb_X8_cell : List (Nat × Instr × Nat) := [(0, .aload_n 0, 1), (1, .iload_n 1, 1), (2, .iconst 0, 1), (3, .aload_n 0, 1), (4, .getfield 116, 3), (7, .iconst 1, 1), (8, .isub, 1), (9, .invokestatic 84, 3), (12, .ifCond .eq 17, 3), (15, .iload_n 2, 1), (16, .iconst 0, 1), (17, .bipush 18, 2), (19, .invokestatic 84, 3), (22, .ifCond .eq 7, 3), (25, .iconst 1, 1), (26, .goto 4, 3), (29, .iconst 0, 1), (30, .invokevirtual 232, 3), (33, .ifCond .eq 7, 3), (36, .iconst 0, 1), (37, .goto 14, 3), (40, .aload_n 0, 1), (41, .getfield 7, 3), (44, .bipush 19, 2), (46, .iload_n 1, 1), (47, .imul, 1), (48, .iload_n 2, 1), (49, .iadd, 1), (50, .iaload, 1), (51, .ireturn, 1)]
def mi_X8_cell : xMi := (8, yX8_cell, cX8_cell, 3, (some (FieldType.int)), 3, [], tb_X8_cell)
def tb_X8_circuit : List (Nat × Instr × Nat) := [(0, .aload_n 0, 1), (1, .iload_n 1, 1), (2, .invokestatic 210, 3), (5, .ifCond .eq 17, 3), (8, .iload_n 2, 1), (9, .iconst 0, 1), (10, .bipush 11, 2), (12, .invokestatic 84, 3), (15, .ifCond .eq 7, 3), (18, .iconst 1, 1), (19, .goto 4, 3), (22, .iconst 0, 1), (23, .invokevirtual 232, 3), (26, .ifCond .eq 5, 3), (29, .iconst 0, 1), (30, .ireturn, 1), (31, .iload_n 2, 1), (32, .iconst 2, 1), (33, .if_icmp .ge 23, 3), (36, .iload_n 2, 1), (37, .ifCond .ne 12, 3), (40, .aload_n 0, 1), (41, .getfield 13, 3), (44, .iload_n 1, 1), (45, .iaload, 1), (46, .goto 9, 3), (49, .aload_n 0, 1), (50, .getfield 16, 3), (53, .iload_n 1, 1), (54, .iaload, 1), (55, .ireturn, 1), (56, .iload_n 2, 1), (57, .iconst 5, 1), (58, .if_icmp .ge 32, 3), (61, .iload_n 2, 1), (62, .iconst 2, 1), (63, .isub, 1), (64, .aload_n 0, 1), (65, .getfield 16, 3), (68, .iload_n 1, 1), (69, .iaload, 1), (70, .if_icmp .ge 18, 3), (73, .aload_n 0, 1), (74, .getfield 19, 3), (77, .iconst 3, 1), (78, .iload_n 1, 1), (79, .imul, 1), (80, .iload_n 2, 1), (81, .iadd, 1), (82, .iconst 2, 1), (83, .isub, 1), (84, .iaload, 1), (85, .goto 4, 3), (88, .iconst (-1), 1), (89, .ireturn, 1), (90, .iload_n 2, 1), (91, .iconst 5, 1), (92, .if_icmp .ne 12, 3), (95, .aload_n 0, 1), (96, .getfield 25, 3), (99, .iload_n 1, 1), (100, .iaload, 1), (101, .goto 38, 3), (104, .iload_n 2, 1), (105, .bipush 9, 2), (107, .if_icmp .ge 19, 3), (110, .aload_n 0, 1), (111, .getfield 31, 3), (114, .iconst 3, 1), (115, .iload_n 1, 1), (116, .imul, 1), (117, .iload_n 2, 1), (118, .iadd, 1), (119, .bipush 6, 2), (121, .isub, 1), (122, .iaload, 1), (123, .goto 16, 3), (126, .aload_n 0, 1), (127, .getfield 37, 3), (130, .iconst 3, 1), (131, .iload_n 1, 1), (132, .imul, 1), (133, .iload_n 2, 1), (134, .iadd, 1), (135, .bipush 9, 2), (137, .isub, 1), (138, .iaload, 1), (139, .ireturn, 1)]
def mi_X8_circuit : xMi := (8, yX8_circuit, cX8_circuit, 3, (some (FieldType.int)), 3, [], tb_X8_circuit)
def tb_X8_key : List (Nat × Instr × Nat) := [(0, .aload_n 0, 1), (1, .iload_n 1, 1), (2, .invokestatic 210, 3), (5, .ifCond .eq 43, 3), (8, .iload_n 2, 1), (9, .iconst 0, 1), (10, .aload_n 0, 1), (11, .getfield 16, 3), (14, .iload_n 1, 1), (15, .invokestatic 210, 3), (18, .ifCond .eq 7, 3), (21, .iload_n 1, 1), (22, .goto 4, 3), (25, .iconst 0, 1), (26, .iaload, 1), (27, .iconst 1, 1), (28, .isub, 1), (29, .invokestatic 84, 3), (32, .ifCond .eq 16, 3), (35, .iload_n 3, 1), (36, .iconst 0, 1), (37, .iconst 3, 1), (38, .invokestatic 84, 3), (41, .ifCond .eq 7, 3), (44, .iconst 1, 1), (45, .goto 4, 3), (48, .iconst 0, 1), (49, .invokevirtual 232, 3), (52, .ifCond .eq 7, 3), (55, .iconst 0, 1), (56, .goto 18, 3), (59, .aload_n 0, 1), (60, .getfield 22, 3), (63, .bipush 12, 2), (65, .iload_n 1, 1), (66, .imul, 1), (67, .iconst 4, 1), (68, .iload_n 2, 1), (69, .imul, 1), (70, .iadd, 1), (71, .iload_n 3, 1), (72, .iadd, 1), (73, .iaload, 1), (74, .ireturn, 1)]
def mi_X8_key : xMi := (8, yX8_key, cX8_key, 4, (some (FieldType.int)), 4, [], tb_X8_key)
def tb_X8_relay : List (Nat × Instr × Nat) := [(0, .aload_n 0, 1), (1, .iload_n 1, 1), (2, .invokestatic 182, 3), (5, .ifCond .eq 24, 3), (8, .iload_n 2, 1), (9, .invokestatic 210, 3), (12, .ifCond .eq 17, 3), (15, .iload_n 3, 1), (16, .iconst 0, 1), (17, .bipush 10, 2), (19, .invokestatic 84, 3), (22, .ifCond .eq 7, 3), (25, .iconst 1, 1), (26, .goto 4, 3), (29, .iconst 0, 1), (30, .invokevirtual 232, 3), (33, .ifCond .eq 5, 3), (36, .iconst 0, 1), (37, .ireturn, 1), (38, .aload_n 0, 1), (39, .iload_n 1, 1), (40, .iload_n 2, 1), (41, .invokevirtual 171, 3), (44, .istore 4, 2), (46, .iload_n 3, 1), (47, .tableswitch 69 0 3 #[29, 45, 53, 61], 29), (76, .aload_n 0, 1), (77, .getfield 52, 3), (80, .iload 4, 2), (82, .baload, 1), (83, .ifCond .eq 7, 3), (86, .iconst 1, 1), (87, .goto 4, 3), (90, .iconst 0, 1), (91, .ireturn, 1), (92, .aload_n 0, 1), (93, .getfield 56, 3), (96, .iload 4, 2), (98, .iaload, 1), (99, .ireturn, 1), (100, .aload_n 0, 1), (101, .getfield 59, 3), (104, .iload 4, 2), (106, .iaload, 1), (107, .ireturn, 1), (108, .aload_n 0, 1), (109, .getfield 62, 3), (112, .iload 4, 2), (114, .iaload, 1), (115, .ireturn, 1), (116, .iload_n 3, 1), (117, .bipush 6, 2), (119, .if_icmp .le 20, 3), (122, .aload_n 0, 1), (123, .getfield 65, 3), (126, .iconst 4, 1), (127, .iload 4, 2), (129, .imul, 1), (130, .iload_n 3, 1), (131, .iadd, 1), (132, .bipush 7, 2), (134, .isub, 1), (135, .iaload, 1), (136, .goto 24, 3), (139, .aload_n 0, 1), (140, .getfield 68, 3), (143, .iconst 3, 1), (144, .iload 4, 2), (146, .imul, 1), (147, .iload_n 3, 1), (148, .iadd, 1), (149, .iconst 4, 1), (150, .isub, 1), (151, .baload, 1), (152, .ifCond .eq 7, 3), (155, .iconst 1, 1), (156, .goto 4, 3), (159, .iconst 0, 1), (160, .ireturn, 1)]
def mi_X8_relay : xMi := (8, yX8_relay, cX8_relay, 5, (some (FieldType.int)), 4, [], tb_X8_relay)
def tb_X8_data : List (Nat × Instr × Nat) := [(0, .aload_n 0, 1), (1, .iload_n 1, 1), (2, .invokestatic 210, 3), (5, .invokevirtual 232, 3), (8, .ifCond .eq 5, 3), (11, .iconst 0, 1), (12, .ireturn, 1), (13, .iload_n 2, 1), (14, .iconst 0, 1), (15, .aload_n 0, 1), (16, .getfield 40, 3), (19, .iload_n 1, 1), (20, .iaload, 1), (21, .iconst 1, 1), (22, .isub, 1), (23, .invokestatic 84, 3), (26, .ifCond .eq 17, 3), (29, .aload_n 0, 1), (30, .getfield 43, 3), (33, .bipush 7, 2), (35, .iload_n 1, 1), (36, .imul, 1), (37, .iload_n 2, 1), (38, .iadd, 1), (39, .iaload, 1), (40, .goto 4, 3), (43, .iconst (-1), 1), (44, .ireturn, 1)]
def mi_X8_data : xMi := (8, yX8_data, cX8_data, 3, (some (FieldType.int)), 3, [], tb_X8_data)
def tb_X8_readies : List (Nat × Instr × Nat) := [(0, .iconst 0, 1), (1, .istore_n 1, 1), (2, .iconst 0, 1), (3, .istore_n 2, 1), (4, .iload_n 2, 1), (5, .iconst 4, 1), (6, .if_icmp .ge 27, 3), (9, .aload_n 0, 1), (10, .getfield 13, 3), (13, .iload_n 2, 1), (14, .iaload, 1), (15, .iconst 2, 1), (16, .if_icmp .ne 9, 3), (19, .iload_n 1, 1), (20, .iconst 1, 1), (21, .iadd, 1), (22, .goto 4, 3), (25, .iload_n 1, 1), (26, .istore_n 1, 1), (27, .iinc 2 1, 3), (30, .goto (-26), 3), (33, .iload_n 1, 1), (34, .ireturn, 1)]
def mi_X8_readies : xMi := (8, yX8_readies, cX8_readies, 3, (some (FieldType.int)), 1, [], tb_X8_readies)
def tb_X8_count : List (Nat × Instr × Nat) := [(0, .aload_n 0, 1), (1, .iload_n 1, 1), (2, .iconst 0, 1), (3, .iconst 4, 1), (4, .invokestatic 84, 3), (7, .invokevirtual 232, 3), (10, .ifCond .eq 5, 3), (13, .iconst 0, 1), (14, .ireturn, 1), (15, .iload_n 1, 1), (16, .ifCond .ne 10, 3), (19, .aload_n 0, 1), (20, .getfield 116, 3), (23, .goto 43, 3), (26, .iload_n 1, 1), (27, .iconst 1, 1), (28, .if_icmp .ne 10, 3), (31, .aload_n 0, 1), (32, .getfield 222, 3), (35, .goto 31, 3), (38, .iload_n 1, 1), (39, .iconst 2, 1), (40, .if_icmp .ne 10, 3), (43, .aload_n 0, 1), (44, .getfield 119, 3), (47, .goto 19, 3), (50, .iload_n 1, 1), (51, .iconst 3, 1), (52, .if_icmp .ne 10, 3), (55, .aload_n 0, 1), (56, .getfield 168, 3), (59, .goto 7, 3), (62, .aload_n 0, 1), (63, .invokevirtual 236, 3), (66, .ireturn, 1)]
def mi_X8_count : xMi := (8, yX8_count, cX8_count, 2, (some (FieldType.int)), 2, [], tb_X8_count)
def tb_X8_loss : List (Nat × Instr × Nat) := [(0, .aload_n 0, 1), (1, .iconst 0, 1), (2, .putfield 80, 3), (5, .aload_n 0, 1), (6, .getfield 222, 3), (9, .aload_n 0, 1), (10, .getfield 119, 3), (13, .iadd, 1), (14, .ifCond .ne 5, 3), (17, .fconst 0, 1), (18, .freturn, 1), (19, .aload_n 0, 1), (20, .getfield 119, 3), (23, .i2f, 1), (24, .fstore_n 1, 1), (25, .aload_n 0, 1), (26, .getfield 222, 3), (29, .aload_n 0, 1), (30, .getfield 119, 3), (33, .iadd, 1), (34, .i2f, 1), (35, .fstore_n 2, 1), (36, .fload_n 1, 1), (37, .fload_n 2, 1), (38, .fdiv, 1), (39, .freturn, 1)]
def mi_X8_loss : xMi := (8, yX8_loss, cX8_loss, 3, (some (FieldType.float)), 1, [], tb_X8_loss)
def tb_L_secret : List (Nat × Instr × Nat) := [(0, .aload_n 3, 1), (1, .iconst 0, 1), (2, .aload_n 0, 1), (3, .iload_n 1, 1), (4, .iload_n 2, 1), (5, .invokevirtual 7, 3), (8, .i2l, 1), (9, .lastore, 1), (10, .goto 15, 3), (13, .astore 4, 2), (15, .iconst 1, 1), (16, .ireturn, 1), (17, .astore 4, 2), (19, .iconst 2, 1), (20, .ireturn, 1), (21, .astore 4, 2), (23, .iconst 3, 1), (24, .ireturn, 1), (25, .iconst 0, 1), (26, .ireturn, 1)]
def mi_L_secret : xMi := (9, yL_secret, cL_secret, 5, (some (FieldType.int)), 4, [(0, 10, 13, 13), (0, 10, 17, 15), (0, 10, 21, 17)], tb_L_secret)
def tb_L_create : List (Nat × Instr × Nat) := [(0, .aload 4, 2), (2, .iconst 0, 1), (3, .aload_n 0, 1), (4, .iload_n 1, 1), (5, .iload_n 2, 1), (6, .iload_n 3, 1), (7, .invokevirtual 19, 3), (10, .i2l, 1), (11, .lastore, 1), (12, .goto 15, 3), (15, .astore 5, 2), (17, .iconst 1, 1), (18, .ireturn, 1), (19, .astore 5, 2), (21, .iconst 2, 1), (22, .ireturn, 1), (23, .astore 5, 2), (25, .iconst 3, 1), (26, .ireturn, 1), (27, .iconst 0, 1), (28, .ireturn, 1)]
def mi_L_create : xMi := (9, yL_create, cL_create, 6, (some (FieldType.int)), 5, [(0, 12, 15, 13), (0, 12, 19, 15), (0, 12, 23, 17)], tb_L_create)
def tb_L_extend : List (Nat × Instr × Nat) := [(0, .aload 4, 2), (2, .iconst 0, 1), (3, .aload_n 0, 1), (4, .iload_n 1, 1), (5, .iload_n 2, 1), (6, .iload_n 3, 1), (7, .invokevirtual 23, 3), (10, .i2l, 1), (11, .lastore, 1), (12, .goto 15, 3), (15, .astore 5, 2), (17, .iconst 1, 1), (18, .ireturn, 1), (19, .astore 5, 2), (21, .iconst 2, 1), (22, .ireturn, 1), (23, .astore 5, 2), (25, .iconst 3, 1), (26, .ireturn, 1), (27, .iconst 0, 1), (28, .ireturn, 1)]
def mi_L_extend : xMi := (9, yL_extend, cL_extend, 6, (some (FieldType.int)), 5, [(0, 12, 15, 13), (0, 12, 19, 15), (0, 12, 23, 17)], tb_L_extend)
def tb_L_begin : List (Nat × Instr × Nat) := [(0, .aload_n 0, 1), (1, .iload_n 1, 1), (2, .iload_n 2, 1), (3, .iload_n 3, 1), (4, .invokevirtual 26, 3), (7, .goto 11, 3), (10, .astore 4, 2), (12, .iconst 1, 1), (13, .ireturn, 1), (14, .astore 4, 2), (16, .iconst 2, 1), (17, .ireturn, 1), (18, .iconst 0, 1), (19, .ireturn, 1)]
def mi_L_begin : xMi := (9, yL_begin, cL_begin, 5, (some (FieldType.int)), 4, [(0, 7, 10, 13), (0, 7, 14, 17)], tb_L_begin)
def tb_L_send : List (Nat × Instr × Nat) := [(0, .aload 5, 2), (2, .iconst 0, 1), (3, .aload_n 0, 1), (4, .iload_n 1, 1), (5, .iload_n 2, 1), (6, .iload_n 3, 1), (7, .iload 4, 2), (9, .invokevirtual 30, 3), (12, .i2l, 1), (13, .lastore, 1), (14, .goto 15, 3), (17, .astore 6, 2), (19, .iconst 1, 1), (20, .ireturn, 1), (21, .astore 6, 2), (23, .iconst 2, 1), (24, .ireturn, 1), (25, .astore 6, 2), (27, .iconst 3, 1), (28, .ireturn, 1), (29, .iconst 0, 1), (30, .ireturn, 1)]
def mi_L_send : xMi := (9, yL_send, cL_send, 7, (some (FieldType.int)), 6, [(0, 14, 17, 13), (0, 14, 21, 15), (0, 14, 25, 17)], tb_L_send)
def tb_L_end : List (Nat × Instr × Nat) := [(0, .aload_n 3, 1), (1, .iconst 0, 1), (2, .aload_n 0, 1), (3, .iload_n 1, 1), (4, .iload_n 2, 1), (5, .invokevirtual 34, 3), (8, .i2l, 1), (9, .lastore, 1), (10, .goto 11, 3), (13, .astore 4, 2), (15, .iconst 1, 1), (16, .ireturn, 1), (17, .astore 4, 2), (19, .iconst 2, 1), (20, .ireturn, 1), (21, .iconst 0, 1), (22, .ireturn, 1)]
def mi_L_end : xMi := (9, yL_end, cL_end, 5, (some (FieldType.int)), 4, [(0, 10, 13, 13), (0, 10, 17, 17)], tb_L_end)
def tb_L_truncate : List (Nat × Instr × Nat) := [(0, .aload_n 3, 1), (1, .iconst 0, 1), (2, .aload_n 0, 1), (3, .iload_n 1, 1), (4, .iload_n 2, 1), (5, .invokevirtual 37, 3), (8, .i2l, 1), (9, .lastore, 1), (10, .goto 11, 3), (13, .astore 4, 2), (15, .iconst 1, 1), (16, .ireturn, 1), (17, .astore 4, 2), (19, .iconst 2, 1), (20, .ireturn, 1), (21, .iconst 0, 1), (22, .ireturn, 1)]
def mi_L_truncate : xMi := (9, yL_truncate, cL_truncate, 5, (some (FieldType.int)), 4, [(0, 10, 13, 13), (0, 10, 17, 17)], tb_L_truncate)
def tb_L_close : List (Nat × Instr × Nat) := [(0, .aload_n 0, 1), (1, .iload_n 1, 1), (2, .invokevirtual 40, 3), (5, .goto 9, 3), (8, .astore_n 2, 1), (9, .iconst 1, 1), (10, .ireturn, 1), (11, .astore_n 2, 1), (12, .iconst 2, 1), (13, .ireturn, 1), (14, .iconst 0, 1), (15, .ireturn, 1)]
def mi_L_close : xMi := (9, yL_close, cL_close, 3, (some (FieldType.int)), 2, [(0, 5, 8, 13), (0, 5, 11, 17)], tb_L_close)
def tb_L_deliver : List (Nat × Instr × Nat) := [(0, .aload_n 2, 1), (1, .iconst 0, 1), (2, .aload_n 0, 1), (3, .iload_n 1, 1), (4, .invokevirtual 44, 3), (7, .i2l, 1), (8, .lastore, 1), (9, .goto 6, 3), (12, .astore_n 3, 1), (13, .iconst 1, 1), (14, .ireturn, 1), (15, .iconst 0, 1), (16, .ireturn, 1)]
def mi_L_deliver : xMi := (9, yL_deliver, cL_deliver, 4, (some (FieldType.int)), 3, [(0, 9, 12, 15)], tb_L_deliver)
def tb_L_damage : List (Nat × Instr × Nat) := [(0, .aload 4, 2), (2, .iconst 0, 1), (3, .aload_n 0, 1), (4, .iload_n 1, 1), (5, .iload_n 2, 1), (6, .iload_n 3, 1), (7, .invokevirtual 48, 3), (10, .i2l, 1), (11, .lastore, 1), (12, .goto 11, 3), (15, .astore 5, 2), (17, .iconst 1, 1), (18, .ireturn, 1), (19, .astore 5, 2), (21, .iconst 2, 1), (22, .ireturn, 1), (23, .iconst 0, 1), (24, .ireturn, 1)]
def mi_L_damage : xMi := (9, yL_damage, cL_damage, 6, (some (FieldType.int)), 5, [(0, 12, 15, 13), (0, 12, 19, 15)], tb_L_damage)
def tb_L_lose : List (Nat × Instr × Nat) := [(0, .aload_n 2, 1), (1, .iconst 0, 1), (2, .aload_n 0, 1), (3, .iload_n 1, 1), (4, .invokevirtual 51, 3), (7, .i2l, 1), (8, .lastore, 1), (9, .goto 6, 3), (12, .astore_n 3, 1), (13, .iconst 1, 1), (14, .ireturn, 1), (15, .iconst 0, 1), (16, .ireturn, 1)]
def mi_L_lose : xMi := (9, yL_lose, cL_lose, 4, (some (FieldType.int)), 3, [(0, 9, 12, 13)], tb_L_lose)
def tb_L_cell : List (Nat × Instr × Nat) := [(0, .aload_n 3, 1), (1, .iconst 0, 1), (2, .aload_n 0, 1), (3, .iload_n 1, 1), (4, .iload_n 2, 1), (5, .invokevirtual 54, 3), (8, .i2l, 1), (9, .lastore, 1), (10, .goto 7, 3), (13, .astore 4, 2), (15, .iconst 1, 1), (16, .ireturn, 1), (17, .iconst 0, 1), (18, .ireturn, 1)]
def mi_L_cell : xMi := (9, yL_cell, cL_cell, 5, (some (FieldType.int)), 4, [(0, 10, 13, 13)], tb_L_cell)
def tb_L_circuit : List (Nat × Instr × Nat) := [(0, .aload_n 3, 1), (1, .iconst 0, 1), (2, .aload_n 0, 1), (3, .iload_n 1, 1), (4, .iload_n 2, 1), (5, .invokevirtual 57, 3), (8, .i2l, 1), (9, .lastore, 1), (10, .goto 7, 3), (13, .astore 4, 2), (15, .iconst 1, 1), (16, .ireturn, 1), (17, .iconst 0, 1), (18, .ireturn, 1)]
def mi_L_circuit : xMi := (9, yL_circuit, cL_circuit, 5, (some (FieldType.int)), 4, [(0, 10, 13, 13)], tb_L_circuit)
def tb_L_key : List (Nat × Instr × Nat) := [(0, .aload 4, 2), (2, .iconst 0, 1), (3, .aload_n 0, 1), (4, .iload_n 1, 1), (5, .iload_n 2, 1), (6, .iload_n 3, 1), (7, .invokevirtual 60, 3), (10, .i2l, 1), (11, .lastore, 1), (12, .goto 7, 3), (15, .astore 5, 2), (17, .iconst 1, 1), (18, .ireturn, 1), (19, .iconst 0, 1), (20, .ireturn, 1)]
def mi_L_key : xMi := (9, yL_key, cL_key, 6, (some (FieldType.int)), 5, [(0, 12, 15, 13)], tb_L_key)
def tb_L_relay : List (Nat × Instr × Nat) := [(0, .aload 4, 2), (2, .iconst 0, 1), (3, .aload_n 0, 1), (4, .iload_n 1, 1), (5, .iload_n 2, 1), (6, .iload_n 3, 1), (7, .invokevirtual 63, 3), (10, .i2l, 1), (11, .lastore, 1), (12, .goto 7, 3), (15, .astore 5, 2), (17, .iconst 1, 1), (18, .ireturn, 1), (19, .iconst 0, 1), (20, .ireturn, 1)]
def mi_L_relay : xMi := (9, yL_relay, cL_relay, 6, (some (FieldType.int)), 5, [(0, 12, 15, 13)], tb_L_relay)
def tb_L_data : List (Nat × Instr × Nat) := [(0, .aload_n 3, 1), (1, .iconst 0, 1), (2, .aload_n 0, 1), (3, .iload_n 1, 1), (4, .iload_n 2, 1), (5, .invokevirtual 66, 3), (8, .i2l, 1), (9, .lastore, 1), (10, .goto 7, 3), (13, .astore 4, 2), (15, .iconst 1, 1), (16, .ireturn, 1), (17, .iconst 0, 1), (18, .ireturn, 1)]
def mi_L_data : xMi := (9, yL_data, cL_data, 5, (some (FieldType.int)), 4, [(0, 10, 13, 13)], tb_L_data)
def tb_L_count : List (Nat × Instr × Nat) := [(0, .aload_n 2, 1), (1, .iconst 0, 1), (2, .aload_n 0, 1), (3, .iload_n 1, 1), (4, .invokevirtual 69, 3), (7, .i2l, 1), (8, .lastore, 1), (9, .goto 6, 3), (12, .astore_n 3, 1), (13, .iconst 1, 1), (14, .ireturn, 1), (15, .iconst 0, 1), (16, .ireturn, 1)]
def mi_L_count : xMi := (9, yL_count, cL_count, 4, (some (FieldType.int)), 3, [(0, 9, 12, 13)], tb_L_count)
def tb_law_0 : List (Nat × Instr × Nat) := [(0, .new 8, 3), (3, .dup, 1), (4, .invokespecial 72, 3), (7, .astore_n 1, 1), (8, .new 73, 3), (11, .dup, 1), (12, .invokespecial 75, 3), (15, .astore_n 2, 1), (16, .iconst 1, 1), (17, .newarray .long, 2), (19, .astore_n 3, 1), (20, .iconst 0, 1), (21, .istore 4, 2), (23, .iload 4, 2), (25, .aload_n 0, 1), (26, .arraylength, 1), (27, .iconst 5, 1), (28, .isub, 1), (29, .if_icmp .gt 868, 3), (32, .aload_n 0, 1), (33, .iload 4, 2), (35, .iaload, 1), (36, .bipush 31, 2), (38, .iand, 1), (39, .tableswitch 852 0 17 #[85, 125, 177, 229, 278, 342, 382, 422, 447, 475, 527, 555, 623, 663, 715, 767, 807, 835], 85), (124, .aload_n 1, 1), (125, .aload_n 0, 1), (126, .iload 4, 2), (128, .iconst 1, 1), (129, .iadd, 1), (130, .iaload, 1), (131, .aload_n 0, 1), (132, .iload 4, 2), (134, .iconst 2, 1), (135, .iadd, 1), (136, .iaload, 1), (137, .aload_n 3, 1), (138, .invokestatic 76, 3), (141, .istore 5, 2), (143, .aload_n 2, 1), (144, .aload_n 0, 1), (145, .iload 4, 2)]
def tb_law_1 : List (Nat × Instr × Nat) := [(147, .iconst 1, 1), (148, .iadd, 1), (149, .iaload, 1), (150, .aload_n 0, 1), (151, .iload 4, 2), (153, .iconst 2, 1), (154, .iadd, 1), (155, .iaload, 1), (156, .invokevirtual 81, 3), (159, .istore 6, 2), (161, .goto 730, 3), (164, .aload_n 1, 1), (165, .aload_n 0, 1), (166, .iload 4, 2), (168, .iconst 1, 1), (169, .iadd, 1), (170, .iaload, 1), (171, .aload_n 0, 1), (172, .iload 4, 2), (174, .iconst 2, 1), (175, .iadd, 1), (176, .iaload, 1), (177, .aload_n 0, 1), (178, .iload 4, 2), (180, .iconst 3, 1), (181, .iadd, 1), (182, .iaload, 1), (183, .aload_n 3, 1), (184, .invokestatic 82, 3), (187, .istore 5, 2), (189, .aload_n 2, 1), (190, .aload_n 0, 1), (191, .iload 4, 2), (193, .iconst 1, 1), (194, .iadd, 1), (195, .iaload, 1), (196, .aload_n 0, 1), (197, .iload 4, 2), (199, .iconst 2, 1), (200, .iadd, 1), (201, .iaload, 1), (202, .aload_n 0, 1)]
def tb_law_2 : List (Nat × Instr × Nat) := [(203, .iload 4, 2), (205, .iconst 3, 1), (206, .iadd, 1), (207, .iaload, 1), (208, .invokevirtual 85, 3), (211, .istore 6, 2), (213, .goto 678, 3), (216, .aload_n 1, 1), (217, .aload_n 0, 1), (218, .iload 4, 2), (220, .iconst 1, 1), (221, .iadd, 1), (222, .iaload, 1), (223, .aload_n 0, 1), (224, .iload 4, 2), (226, .iconst 2, 1), (227, .iadd, 1), (228, .iaload, 1), (229, .aload_n 0, 1), (230, .iload 4, 2), (232, .iconst 3, 1), (233, .iadd, 1), (234, .iaload, 1), (235, .aload_n 3, 1), (236, .invokestatic 86, 3), (239, .istore 5, 2), (241, .aload_n 2, 1), (242, .aload_n 0, 1), (243, .iload 4, 2), (245, .iconst 1, 1), (246, .iadd, 1), (247, .iaload, 1), (248, .aload_n 0, 1), (249, .iload 4, 2), (251, .iconst 2, 1), (252, .iadd, 1), (253, .iaload, 1), (254, .aload_n 0, 1), (255, .iload 4, 2), (257, .iconst 3, 1), (258, .iadd, 1), (259, .iaload, 1)]
def tb_law_3 : List (Nat × Instr × Nat) := [(260, .invokevirtual 88, 3), (263, .istore 6, 2), (265, .goto 626, 3), (268, .aload_n 1, 1), (269, .aload_n 0, 1), (270, .iload 4, 2), (272, .iconst 1, 1), (273, .iadd, 1), (274, .iaload, 1), (275, .aload_n 0, 1), (276, .iload 4, 2), (278, .iconst 2, 1), (279, .iadd, 1), (280, .iaload, 1), (281, .aload_n 0, 1), (282, .iload 4, 2), (284, .iconst 3, 1), (285, .iadd, 1), (286, .iaload, 1), (287, .invokestatic 89, 3), (290, .istore 5, 2), (292, .aload_n 2, 1), (293, .aload_n 0, 1), (294, .iload 4, 2), (296, .iconst 1, 1), (297, .iadd, 1), (298, .iaload, 1), (299, .aload_n 0, 1), (300, .iload 4, 2), (302, .iconst 2, 1), (303, .iadd, 1), (304, .iaload, 1), (305, .aload_n 0, 1), (306, .iload 4, 2), (308, .iconst 3, 1), (309, .iadd, 1), (310, .iaload, 1), (311, .invokevirtual 92, 3), (314, .goto 577, 3), (317, .aload_n 1, 1), (318, .aload_n 0, 1), (319, .iload 4, 2)]
def tb_law_4 : List (Nat × Instr × Nat) := [(321, .iconst 1, 1), (322, .iadd, 1), (323, .iaload, 1), (324, .aload_n 0, 1), (325, .iload 4, 2), (327, .iconst 2, 1), (328, .iadd, 1), (329, .iaload, 1), (330, .aload_n 0, 1), (331, .iload 4, 2), (333, .iconst 3, 1), (334, .iadd, 1), (335, .iaload, 1), (336, .aload_n 0, 1), (337, .iload 4, 2), (339, .iconst 4, 1), (340, .iadd, 1), (341, .iaload, 1), (342, .aload_n 3, 1), (343, .invokestatic 93, 3), (346, .istore 5, 2), (348, .aload_n 2, 1), (349, .aload_n 0, 1), (350, .iload 4, 2), (352, .iconst 1, 1), (353, .iadd, 1), (354, .iaload, 1), (355, .aload_n 0, 1), (356, .iload 4, 2), (358, .iconst 2, 1), (359, .iadd, 1), (360, .iaload, 1), (361, .aload_n 0, 1), (362, .iload 4, 2), (364, .iconst 3, 1), (365, .iadd, 1), (366, .iaload, 1), (367, .aload_n 0, 1), (368, .iload 4, 2), (370, .iconst 4, 1), (371, .iadd, 1), (372, .iaload, 1)]
def tb_law_5 : List (Nat × Instr × Nat) := [(373, .invokevirtual 96, 3), (376, .istore 6, 2), (378, .goto 513, 3), (381, .aload_n 1, 1), (382, .aload_n 0, 1), (383, .iload 4, 2), (385, .iconst 1, 1), (386, .iadd, 1), (387, .iaload, 1), (388, .aload_n 0, 1), (389, .iload 4, 2), (391, .iconst 2, 1), (392, .iadd, 1), (393, .iaload, 1), (394, .aload_n 3, 1), (395, .invokestatic 97, 3), (398, .istore 5, 2), (400, .aload_n 2, 1), (401, .aload_n 0, 1), (402, .iload 4, 2), (404, .iconst 1, 1), (405, .iadd, 1), (406, .iaload, 1), (407, .aload_n 0, 1), (408, .iload 4, 2), (410, .iconst 2, 1), (411, .iadd, 1), (412, .iaload, 1), (413, .invokevirtual 99, 3), (416, .istore 6, 2), (418, .goto 473, 3), (421, .aload_n 1, 1), (422, .aload_n 0, 1), (423, .iload 4, 2), (425, .iconst 1, 1), (426, .iadd, 1), (427, .iaload, 1), (428, .aload_n 0, 1), (429, .iload 4, 2), (431, .iconst 2, 1), (432, .iadd, 1), (433, .iaload, 1)]
def tb_law_6 : List (Nat × Instr × Nat) := [(434, .aload_n 3, 1), (435, .invokestatic 100, 3), (438, .istore 5, 2), (440, .aload_n 2, 1), (441, .aload_n 0, 1), (442, .iload 4, 2), (444, .iconst 1, 1), (445, .iadd, 1), (446, .iaload, 1), (447, .aload_n 0, 1), (448, .iload 4, 2), (450, .iconst 2, 1), (451, .iadd, 1), (452, .iaload, 1), (453, .invokevirtual 102, 3), (456, .istore 6, 2), (458, .goto 433, 3), (461, .aload_n 1, 1), (462, .aload_n 0, 1), (463, .iload 4, 2), (465, .iconst 1, 1), (466, .iadd, 1), (467, .iaload, 1), (468, .invokestatic 103, 3), (471, .istore 5, 2), (473, .aload_n 2, 1), (474, .aload_n 0, 1), (475, .iload 4, 2), (477, .iconst 1, 1), (478, .iadd, 1), (479, .iaload, 1), (480, .invokevirtual 106, 3), (483, .goto 408, 3), (486, .aload_n 1, 1), (487, .aload_n 0, 1), (488, .iload 4, 2), (490, .iconst 1, 1), (491, .iadd, 1), (492, .iaload, 1), (493, .aload_n 3, 1), (494, .invokestatic 107, 3), (497, .istore 5, 2)]
def tb_law_7 : List (Nat × Instr × Nat) := [(499, .aload_n 2, 1), (500, .aload_n 0, 1), (501, .iload 4, 2), (503, .iconst 1, 1), (504, .iadd, 1), (505, .iaload, 1), (506, .invokevirtual 110, 3), (509, .istore 6, 2), (511, .goto 380, 3), (514, .aload_n 1, 1), (515, .aload_n 0, 1), (516, .iload 4, 2), (518, .iconst 1, 1), (519, .iadd, 1), (520, .iaload, 1), (521, .aload_n 0, 1), (522, .iload 4, 2), (524, .iconst 2, 1), (525, .iadd, 1), (526, .iaload, 1), (527, .aload_n 0, 1), (528, .iload 4, 2), (530, .iconst 3, 1), (531, .iadd, 1), (532, .iaload, 1), (533, .aload_n 3, 1), (534, .invokestatic 111, 3), (537, .istore 5, 2), (539, .aload_n 2, 1), (540, .aload_n 0, 1), (541, .iload 4, 2), (543, .iconst 1, 1), (544, .iadd, 1), (545, .iaload, 1), (546, .aload_n 0, 1), (547, .iload 4, 2), (549, .iconst 2, 1), (550, .iadd, 1), (551, .iaload, 1), (552, .aload_n 0, 1), (553, .iload 4, 2), (555, .iconst 3, 1)]
def tb_law_8 : List (Nat × Instr × Nat) := [(556, .iadd, 1), (557, .iaload, 1), (558, .invokevirtual 113, 3), (561, .istore 6, 2), (563, .goto 328, 3), (566, .aload_n 1, 1), (567, .aload_n 0, 1), (568, .iload 4, 2), (570, .iconst 1, 1), (571, .iadd, 1), (572, .iaload, 1), (573, .aload_n 3, 1), (574, .invokestatic 114, 3), (577, .istore 5, 2), (579, .aload_n 2, 1), (580, .aload_n 0, 1), (581, .iload 4, 2), (583, .iconst 1, 1), (584, .iadd, 1), (585, .iaload, 1), (586, .invokevirtual 116, 3), (589, .istore 6, 2), (591, .goto 300, 3), (594, .aload_n 1, 1), (595, .aload_n 0, 1), (596, .iload 4, 2), (598, .iconst 1, 1), (599, .iadd, 1), (600, .iaload, 1), (601, .aload_n 0, 1), (602, .iload 4, 2), (604, .iconst 2, 1), (605, .iadd, 1), (606, .iaload, 1), (607, .aload_n 3, 1), (608, .invokestatic 117, 3), (611, .istore 5, 2), (613, .aload_n 2, 1), (614, .aload_n 0, 1), (615, .iload 4, 2), (617, .iconst 1, 1), (618, .iadd, 1)]
def tb_law_9 : List (Nat × Instr × Nat) := [(619, .iaload, 1), (620, .aload_n 0, 1), (621, .iload 4, 2), (623, .iconst 2, 1), (624, .iadd, 1), (625, .iaload, 1), (626, .invokevirtual 119, 3), (629, .istore 6, 2), (631, .aload_n 2, 1), (632, .invokevirtual 120, 3), (635, .iload 5, 2), (637, .if_icmp .eq 5, 3), (640, .iconst 0, 1), (641, .ireturn, 1), (642, .iload 5, 2), (644, .ifCond .ne 15, 3), (647, .aload_n 3, 1), (648, .iconst 0, 1), (649, .laload, 1), (650, .iload 6, 2), (652, .i2l, 1), (653, .lcmp, 1), (654, .ifCond .eq 5, 3), (657, .iconst 0, 1), (658, .ireturn, 1), (659, .goto 232, 3), (662, .aload_n 1, 1), (663, .aload_n 0, 1), (664, .iload 4, 2), (666, .iconst 1, 1), (667, .iadd, 1), (668, .iaload, 1), (669, .aload_n 0, 1), (670, .iload 4, 2), (672, .iconst 2, 1), (673, .iadd, 1), (674, .iaload, 1), (675, .aload_n 3, 1), (676, .invokestatic 124, 3), (679, .istore 5, 2), (681, .aload_n 2, 1), (682, .aload_n 0, 1)]
def tb_law_10 : List (Nat × Instr × Nat) := [(683, .iload 4, 2), (685, .iconst 1, 1), (686, .iadd, 1), (687, .iaload, 1), (688, .aload_n 0, 1), (689, .iload 4, 2), (691, .iconst 2, 1), (692, .iadd, 1), (693, .iaload, 1), (694, .invokevirtual 126, 3), (697, .istore 6, 2), (699, .goto 192, 3), (702, .aload_n 1, 1), (703, .aload_n 0, 1), (704, .iload 4, 2), (706, .iconst 1, 1), (707, .iadd, 1), (708, .iaload, 1), (709, .aload_n 0, 1), (710, .iload 4, 2), (712, .iconst 2, 1), (713, .iadd, 1), (714, .iaload, 1), (715, .aload_n 0, 1), (716, .iload 4, 2), (718, .iconst 3, 1), (719, .iadd, 1), (720, .iaload, 1), (721, .aload_n 3, 1), (722, .invokestatic 127, 3), (725, .istore 5, 2), (727, .aload_n 2, 1), (728, .aload_n 0, 1), (729, .iload 4, 2), (731, .iconst 1, 1), (732, .iadd, 1), (733, .iaload, 1), (734, .aload_n 0, 1), (735, .iload 4, 2), (737, .iconst 2, 1), (738, .iadd, 1), (739, .iaload, 1)]
def tb_law_11 : List (Nat × Instr × Nat) := [(740, .aload_n 0, 1), (741, .iload 4, 2), (743, .iconst 3, 1), (744, .iadd, 1), (745, .iaload, 1), (746, .invokevirtual 129, 3), (749, .istore 6, 2), (751, .goto 140, 3), (754, .aload_n 1, 1), (755, .aload_n 0, 1), (756, .iload 4, 2), (758, .iconst 1, 1), (759, .iadd, 1), (760, .iaload, 1), (761, .aload_n 0, 1), (762, .iload 4, 2), (764, .iconst 2, 1), (765, .iadd, 1), (766, .iaload, 1), (767, .aload_n 0, 1), (768, .iload 4, 2), (770, .iconst 3, 1), (771, .iadd, 1), (772, .iaload, 1), (773, .aload_n 3, 1), (774, .invokestatic 130, 3), (777, .istore 5, 2), (779, .aload_n 2, 1), (780, .aload_n 0, 1), (781, .iload 4, 2), (783, .iconst 1, 1), (784, .iadd, 1), (785, .iaload, 1), (786, .aload_n 0, 1), (787, .iload 4, 2), (789, .iconst 2, 1), (790, .iadd, 1), (791, .iaload, 1), (792, .aload_n 0, 1), (793, .iload 4, 2), (795, .iconst 3, 1), (796, .iadd, 1)]
def tb_law_12 : List (Nat × Instr × Nat) := [(797, .iaload, 1), (798, .invokevirtual 132, 3), (801, .istore 6, 2), (803, .goto 88, 3), (806, .aload_n 1, 1), (807, .aload_n 0, 1), (808, .iload 4, 2), (810, .iconst 1, 1), (811, .iadd, 1), (812, .iaload, 1), (813, .aload_n 0, 1), (814, .iload 4, 2), (816, .iconst 2, 1), (817, .iadd, 1), (818, .iaload, 1), (819, .aload_n 3, 1), (820, .invokestatic 133, 3), (823, .istore 5, 2), (825, .aload_n 2, 1), (826, .aload_n 0, 1), (827, .iload 4, 2), (829, .iconst 1, 1), (830, .iadd, 1), (831, .iaload, 1), (832, .aload_n 0, 1), (833, .iload 4, 2), (835, .iconst 2, 1), (836, .iadd, 1), (837, .iaload, 1), (838, .invokevirtual 135, 3), (841, .istore 6, 2), (843, .goto 48, 3), (846, .aload_n 1, 1), (847, .aload_n 0, 1), (848, .iload 4, 2), (850, .iconst 1, 1), (851, .iadd, 1), (852, .iaload, 1), (853, .aload_n 3, 1), (854, .invokestatic 136, 3), (857, .istore 5, 2), (859, .aload_n 2, 1)]
def tb_law_13 : List (Nat × Instr × Nat) := [(860, .aload_n 0, 1), (861, .iload 4, 2), (863, .iconst 1, 1), (864, .iadd, 1), (865, .iaload, 1), (866, .invokevirtual 138, 3), (869, .istore 6, 2), (871, .goto 20, 3), (874, .aload_n 1, 1), (875, .invokevirtual 139, 3), (878, .f2d, 1), (879, .dstore 5, 2), (881, .aload_n 2, 1), (882, .invokevirtual 143, 3), (885, .f2d, 1), (886, .dstore 7, 2), (888, .goto 3, 3), (891, .iinc 4 5, 3), (894, .goto (-871), 3), (897, .iconst 1, 1), (898, .ireturn, 1)]
def tb_L_law : List (Nat × Instr × Nat) := tb_law_0 ++ (tb_law_1 ++ (tb_law_2 ++ (tb_law_3 ++ (tb_law_4 ++ (tb_law_5 ++ (tb_law_6 ++ (tb_law_7 ++ (tb_law_8 ++ (tb_law_9 ++ (tb_law_10 ++ (tb_law_11 ++ (tb_law_12 ++ (tb_law_13)))))))))))))
def mi_L_law : xMi := (9, yL_law, cL_law, 9, (some .boolean), 1, [], tb_L_law)
def xpg_0 : List xMi := [mi_X0_raise, mi_X0_mix, mi_X0_shared, mi_X0_tag, mi_X0_fillKeys, mi_X1_init, mi_X1_address, mi_X1_writeOrder, mi_X1_copyBytes, mi_X1_pair, mi_X1_putPair, mi_X1_dataLength, mi_X1_wrap, mi_X1_fed, mi_X1_isKnownBy, mi_X2_init, mi_X2_isLive, mi_X2_hasHop, mi_X2_goesThrough, mi_X2_startAnew]
def xpg_1 : List xMi := [mi_X2_askForHop, mi_X2_waitFor, mi_X2_askForStream, mi_X2_sendData, mi_X2_endStream, mi_X2_askToTruncate, mi_X2_order, mi_X2_sealTo, mi_X2_firstRelay, mi_X2_shut, mi_X2_becomeClosed, mi_X2_dropStreamsFrom, mi_X2_takes, mi_X2_takesCreated, mi_X2_takesRelay, mi_X2_addsHop, mi_X2_becomeReady, mi_X2_isKnown, mi_X2_follows, mi_X2_followOfStream]
def xpg_2 : List xMi := [mi_X2_keepLatest, mi_X3_init, mi_X3_start, mi_X3_vanish, mi_X3_next, mi_X3_destroyNext, mi_X3_tearDown, mi_X3_takesCreated, mi_X3_takesDestroy, mi_X3_passOn, mi_X3_takesRelay, mi_X3_goesForward, mi_X3_isKnown, mi_X3_relayOn, mi_X3_follows, mi_X3_followsExtend, mi_X3_followBegin, mi_X3_followData, mi_X3_followTruncate, mi_X3_isOpen]
def xpg_3 : List xMi := [mi_X3_orderBack, mi_X3_sealBack, mi_X4_init, mi_X4_takeSecret, mi_X4_hasPassage, mi_X4_takes, mi_X4_takesCreate, mi_X5_init, mi_X5_add, mi_X5_takeOut, mi_X6_init, mi_X6_become, mi_X7_init, mi_X7_secret, mi_X7_create, mi_X7_extend, mi_X7_begin, mi_X7_send, mi_X7_end, mi_X7_truncate]
def xpg_4 : List xMi := [mi_X7_close, mi_X7_deliver, mi_X7_damage, mi_X7_lose, mi_X7_cell, mi_X7_circuit, mi_X7_key, mi_X7_relay, mi_X7_data, mi_X7_count, mi_X7_loss, mi_X7_readyCircuits, mi_X7_checkCircuit, mi_X7_checkRelay, mi_X7_checkStream, mi_X7_checkIndex, mi_X7_checkExponent, mi_X7_checkArgument, mi_X7_checkState, mi_X7_isByte]
def xpg_5 : List xMi := [mi_X7_isStream, mi_X8_init, mi_X8_thrown, mi_X8_in, mi_X8_isCircuit, mi_X8_isRelay, mi_X8_raise, mi_X8_mix, mi_X8_agree, mi_X8_wrap, mi_X8_fed, mi_X8_pair, mi_X8_putPair, mi_X8_clearBytes, mi_X8_order, mi_X8_seal, mi_X8_isKnown, mi_X8_ship, mi_X8_destroy, mi_X8_remove]
def xpg_6 : List xMi := [mi_X8_dropStreams, mi_X8_ended, mi_X8_closeNow, mi_X8_clientSends, mi_X8_meet, mi_X8_ofStream, mi_X8_clientFollows, mi_X8_toClient, mi_X8_place, mi_X8_forget, mi_X8_destroyOn, mi_X8_tear, mi_X8_relaySends, mi_X8_begun, mi_X8_extendAt, mi_X8_dataAt, mi_X8_relayFollows, mi_X8_relayed, mi_X8_toRelay, mi_X8_secret]
def xpg_7 : List xMi := [mi_X8_create, mi_X8_extend, mi_X8_begin, mi_X8_send, mi_X8_end, mi_X8_isOn, mi_X8_truncate, mi_X8_close, mi_X8_deliver, mi_X8_damage, mi_X8_lose, mi_X8_out, mi_X8_cell, mi_X8_circuit, mi_X8_key, mi_X8_relay, mi_X8_data, mi_X8_readies, mi_X8_count, mi_X8_loss]
def xpg_8 : List xMi := [mi_L_secret, mi_L_create, mi_L_extend, mi_L_begin, mi_L_send, mi_L_end, mi_L_truncate, mi_L_close, mi_L_deliver, mi_L_damage, mi_L_lose, mi_L_cell, mi_L_circuit, mi_L_key, mi_L_relay, mi_L_data, mi_L_count, mi_L_law]
def xpg : List xMi := xpg_0 ++ (xpg_1 ++ (xpg_2 ++ (xpg_3 ++ (xpg_4 ++ (xpg_5 ++ (xpg_6 ++ (xpg_7 ++ (xpg_8))))))))
/-- places of the code words -/
def xcp : List Nat := [171, 537, 651, 656, 659, 102, 498, 526, 788, 644, 503, 695, 542, 534, 677, 244, 474, 561, 514, 478, 518, 490, 565, 579, 590, 601, 522, 530, 616, 612, 620, 482, 635, 640, 668, 648, 663, 672, 682, 686, 691, 176, 712, 796, 754, 776, 792, 719, 800, 804, 737, 780, 741, 784, 746, 750, 758, 763, 772, 767, 723, 731, 165, 457, 435, 699, 703, 95, 494, 631, 253, 486, 87, 343, 464, 510, 551, 572, 586, 597, 608, 627, 811, 818, 825, 832, 839, 846, 853, 860, 333, 864, 467, 346, 554, 470, 412, 416, 438, 575, 557, 869, 965, 975, 992, 972, 983, 1035, 1098, 1040, 1032, 1090, 1008, 1004, 1020, 1028, 1103, 1012, 1070, 1082, 1000, 1074, 1066, 1024, 1094, 1111, 1107, 1086, 980, 1124, 1148, 1144, 1128, 1119, 1140, 1152, 1136, 1132, 1115, 969, 989, 1016, 1046, 1050, 1054, 996, 1058, 1062, 1078, 1156, 1160, 1168, 1164, 1172, 1176, 1180, 1184, 1192, 1188, 1196, 336, 460, 506, 547, 568, 582, 593, 604, 623, 807, 814, 821, 828, 835, 842, 849, 856, 0]
/-- fields by class: index, class of the field, its number, place -/
def xfl_0 : List (Nat × Nat × Nat × Nat) := []
def xfl_1 : List (Nat × Nat × Nat × Nat) := [(9, 0, 0, 104), (15, 0, 1, 108), (19, 0, 2, 113), (22, 0, 3, 115), (25, 0, 4, 118), (28, 0, 5, 123)]
def xfl_2 : List (Nat × Nat × Nat × Nat) := [(83, 0, 0, 105), (127, 0, 1, 112), (130, 0, 4, 122), (106, 0, 5, 125), (157, 3, 1, 221), (190, 5, 0, 257), (93, 5, 1, 258), (99, 5, 2, 261), (9, 1, 0, 269), (17, 1, 1, 271), (22, 1, 2, 273), (26, 1, 3, 275), (55, 1, 4, 277), (29, 1, 5, 279), (48, 1, 6, 281), (33, 1, 7, 283), (90, 1, 8, 285), (36, 1, 9, 286), (39, 1, 10, 287), (43, 1, 11, 288)]
def xfl_3 : List (Nat × Nat × Nat × Nat) := [(129, 0, 0, 107), (68, 0, 1, 110), (93, 0, 4, 120), (102, 0, 5, 124), (9, 2, 0, 178), (15, 2, 1, 180), (42, 2, 2, 182), (19, 2, 3, 185), (23, 2, 4, 187), (26, 2, 5, 189), (29, 2, 6, 191), (32, 2, 7, 192), (35, 2, 8, 193), (38, 2, 9, 194)]
def xfl_4 : List (Nat × Nat × Nat × Nat) := [(71, 0, 1, 109), (44, 0, 3, 116), (49, 0, 4, 119), (40, 2, 2, 183), (11, 3, 0, 217), (34, 3, 1, 219), (17, 3, 2, 222), (21, 3, 3, 223), (25, 3, 4, 224), (80, 3, 5, 225)]
def xfl_5 : List (Nat × Nat × Nat × Nat) := [(11, 4, 0, 141), (25, 4, 1, 143), (29, 4, 2, 145), (18, 4, 3, 147), (22, 4, 4, 148)]
def xfl_6 : List (Nat × Nat × Nat × Nat) := [(7, 5, 0, 255), (13, 5, 2, 259)]
def xfl_7 : List (Nat × Nat × Nat × Nat) := [(150, 0, 0, 106), (160, 0, 1, 111), (127, 0, 2, 114), (132, 0, 3, 117), (157, 0, 4, 121), (163, 0, 5, 126), (146, 4, 0, 142), (66, 4, 1, 144), (154, 4, 2, 146), (197, 2, 0, 179), (193, 2, 1, 181), (180, 2, 2, 184), (186, 2, 3, 186), (189, 2, 4, 188), (192, 2, 5, 190), (176, 3, 0, 218), (52, 3, 1, 220), (95, 5, 0, 256), (104, 5, 2, 260), (166, 1, 0, 270), (172, 1, 1, 272), (91, 1, 2, 274), (202, 1, 3, 276), (199, 1, 4, 278), (76, 1, 5, 280), (79, 1, 6, 282), (169, 1, 7, 284), (10, 6, 0, 314), (18, 6, 1, 315), (27, 6, 2, 316), (124, 6, 3, 317), (140, 6, 4, 318)]
def xfl_8 : List (Nat × Nat × Nat × Nat) := [(80, 7, 0, 871), (116, 7, 1, 872), (7, 7, 2, 873), (222, 7, 3, 874), (119, 7, 4, 875), (168, 7, 5, 876), (13, 7, 6, 877), (16, 7, 7, 878), (19, 7, 8, 879), (22, 7, 9, 880), (25, 7, 10, 881), (28, 7, 11, 882), (31, 7, 12, 883), (34, 7, 13, 884), (37, 7, 14, 885), (40, 7, 15, 886), (43, 7, 16, 887), (46, 7, 17, 888), (49, 7, 18, 889), (52, 7, 19, 890), (56, 7, 20, 891), (59, 7, 21, 892), (62, 7, 22, 893), (65, 7, 23, 894), (68, 7, 24, 895), (71, 7, 25, 896), (74, 7, 26, 897), (158, 7, 27, 898), (97, 7, 28, 899), (77, 7, 29, 900)]
def xfl_9 : List (Nat × Nat × Nat × Nat) := []
def xfl : List (List (Nat × Nat × Nat × Nat)) := [xfl_0, xfl_1, xfl_2, xfl_3, xfl_4, xfl_5, xfl_6, xfl_7, xfl_8, xfl_9]
/-- methods by class: index, kind of call, method, place -/
def xml_0 : List (Nat × Nat × Nat × Nat) := [(13, 1, 1, 653)]
def xml_1 : List (Nat × Nat × Nat × Nat) := [(33, 1, 1, 535), (39, 0, 9, 678)]
def xml_2 : List (Nat × Nat × Nat × Nat) := [(47, 4, 70, 251), (51, 0, 31, 479), (96, 0, 71, 483), (58, 0, 21, 487), (62, 0, 68, 491), (68, 1, 0, 499), (74, 0, 10, 500), (79, 0, 26, 519), (102, 0, 7, 523), (86, 0, 27, 527), (109, 0, 13, 531), (113, 0, 12, 539), (116, 0, 28, 613), (120, 0, 30, 617), (123, 0, 16, 636), (133, 0, 33, 637), (140, 0, 9, 641), (143, 0, 35, 645), (162, 1, 2, 649), (166, 1, 3, 654), (169, 1, 4, 657), (173, 0, 36, 660), (147, 0, 29, 664), (137, 0, 34, 665), (150, 0, 37, 669), (176, 0, 17, 673), (180, 0, 14, 674), (153, 0, 38, 679), (183, 0, 39, 683), (187, 2, 100, 687), (191, 0, 40, 688), (195, 0, 11, 692)]
def xml_3 : List (Nat × Nat × Nat × Nat) := [(46, 1, 4, 713), (73, 0, 60, 720), (56, 0, 68, 724), (154, 0, 7, 725), (77, 0, 9, 726), (81, 0, 10, 727), (85, 0, 61, 728), (122, 0, 13, 732), (99, 0, 12, 733), (105, 0, 52, 738), (125, 0, 14, 742), (109, 0, 54, 743), (132, 0, 55, 747), (52, 0, 44, 751), (135, 0, 56, 755), (148, 2, 100, 759), (139, 0, 57, 760), (142, 0, 59, 764), (151, 0, 11, 768), (145, 0, 58, 769), (62, 0, 45, 773), (112, 0, 51, 777), (118, 0, 53, 781), (96, 0, 8, 785), (115, 0, 46, 789), (65, 0, 43, 793), (89, 0, 49, 801)]
def xml_4 : List (Nat × Nat × Nat × Nat) := [(28, 1, 0, 169), (37, 3, 41, 174), (52, 0, 66, 700), (66, 0, 9, 704), (74, 0, 68, 706), (84, 1, 2, 708), (88, 0, 42, 709), (92, 0, 10, 714), (95, 1, 3, 715), (56, 0, 47, 716), (60, 0, 50, 734), (63, 0, 48, 797)]
def xml_5 : List (Nat × Nat × Nat × Nat) := [(17, 4, 5, 100), (32, 0, 6, 495)]
def xml_6 : List (Nat × Nat × Nat × Nat) := []
def xml_7 : List (Nat × Nat × Nat × Nat) := [(9, 3, 67, 93), (22, 3, 62, 163), (31, 3, 15, 242), (34, 1, 93, 344), (38, 1, 96, 410), (73, 1, 97, 414), (41, 0, 64, 432), (45, 1, 98, 436), (49, 0, 63, 454), (56, 1, 92, 465), (143, 1, 95, 468), (59, 0, 16, 471), (62, 0, 19, 475), (69, 0, 18, 511), (82, 0, 20, 515), (85, 1, 94, 552), (212, 1, 100, 555), (88, 0, 17, 558), (98, 0, 22, 562), (101, 1, 99, 573), (107, 0, 23, 576), (111, 0, 24, 587), (114, 0, 25, 598), (117, 0, 29, 609), (120, 0, 69, 628), (135, 0, 32, 632), (139, 0, 65, 696), (205, 0, 91, 861)]
def xml_8 : List (Nat × Nat × Nat × Nat) := [(182, 1, 105, 970), (84, 1, 103, 973), (171, 0, 128, 977), (143, 1, 106, 981), (210, 1, 104, 990), (213, 0, 145, 993), (126, 0, 120, 997), (102, 0, 113, 1001), (109, 0, 112, 1005), (122, 0, 117, 1009), (188, 0, 114, 1017), (216, 0, 123, 1021), (137, 0, 115, 1025), (105, 0, 110, 1029), (93, 1, 107, 1033), (140, 0, 109, 1037), (149, 0, 122, 1063), (129, 0, 118, 1067), (133, 0, 121, 1071), (219, 0, 119, 1079), (225, 0, 127, 1083), (113, 0, 111, 1087), (152, 0, 124, 1091), (146, 0, 108, 1095), (161, 0, 116, 1100), (165, 0, 126, 1104), (155, 0, 125, 1108), (228, 0, 138, 1112), (204, 0, 133, 1116), (177, 0, 129, 1121), (191, 0, 132, 1125), (207, 0, 137, 1129), (201, 0, 136, 1133), (194, 0, 134, 1137), (185, 0, 131, 1141), (174, 0, 130, 1145), (197, 0, 135, 1149), (232, 0, 151, 1165), (236, 0, 157, 1189)]
def xml_9 : List (Nat × Nat × Nat × Nat) := [(72, 3, 72, 85), (139, 0, 90, 330), (76, 5, 160, 334), (7, 0, 73, 340), (82, 5, 161, 458), (19, 0, 74, 461), (86, 5, 162, 504), (23, 0, 75, 507), (89, 5, 163, 545), (26, 0, 76, 548), (93, 5, 164, 566), (30, 0, 77, 569), (97, 5, 165, 580), (34, 0, 78, 583), (100, 5, 166, 591), (37, 0, 79, 594), (103, 5, 167, 602), (40, 0, 80, 605), (107, 5, 168, 621), (44, 0, 81, 624), (111, 5, 169, 805), (48, 0, 82, 808), (114, 5, 170, 812), (51, 0, 83, 815), (117, 5, 171, 819), (54, 0, 84, 822), (124, 5, 172, 826), (57, 0, 85, 829), (127, 5, 173, 833), (60, 0, 86, 836), (130, 5, 174, 840), (63, 0, 87, 843), (133, 5, 175, 847), (66, 0, 88, 850), (136, 5, 176, 854), (69, 0, 89, 857), (75, 3, 101, 867), (120, 0, 102, 962), (81, 0, 139, 966), (85, 0, 140, 986), (88, 0, 141, 1013), (92, 0, 142, 1043), (96, 0, 143, 1047), (99, 0, 144, 1051), (102, 0, 146, 1055), (106, 0, 147, 1059), (110, 0, 148, 1075), (113, 0, 149, 1153), (116, 0, 150, 1157), (119, 0, 152, 1161), (126, 0, 153, 1169), (129, 0, 154, 1173), (132, 0, 155, 1177), (135, 0, 156, 1181), (138, 0, 158, 1185), (143, 0, 159, 1193)]
def xml : List (List (Nat × Nat × Nat × Nat)) := [xml_0, xml_1, xml_2, xml_3, xml_4, xml_5, xml_6, xml_7, xml_8, xml_9]
/-- classes by class: index, class, place -/
def xnl_0 : List (Nat × Nat × Nat) := []
def xnl_1 : List (Nat × Nat × Nat) := []
def xnl_2 : List (Nat × Nat × Nat) := [(20, 5, 248)]
def xnl_3 : List (Nat × Nat × Nat) := []
def xnl_4 : List (Nat × Nat × Nat) := [(9, 2, 167)]
def xnl_5 : List (Nat × Nat × Nat) := [(9, 0, 97)]
def xnl_6 : List (Nat × Nat × Nat) := []
def xnl_7 : List (Nat × Nat × Nat) := [(7, 4, 91), (16, 3, 160), (25, 1, 239)]
def xnl_8 : List (Nat × Nat × Nat) := []
def xnl_9 : List (Nat × Nat × Nat) := [(8, 6, 83), (73, 7, 865)]
def xnl : List (List (Nat × Nat × Nat)) := [xnl_0, xnl_1, xnl_2, xnl_3, xnl_4, xnl_5, xnl_6, xnl_7, xnl_8, xnl_9]
/-- rows of rows of ints by class: index, place -/
def xal_0 : List (Nat × Nat) := []
def xal_1 : List (Nat × Nat) := []
def xal_2 : List (Nat × Nat) := [(15, 246)]
def xal_3 : List (Nat × Nat) := []
def xal_4 : List (Nat × Nat) := []
def xal_5 : List (Nat × Nat) := []
def xal_6 : List (Nat × Nat) := []
def xal_7 : List (Nat × Nat) := []
def xal_8 : List (Nat × Nat) := []
def xal_9 : List (Nat × Nat) := []
def xal : List (List (Nat × Nat)) := [xal_0, xal_1, xal_2, xal_3, xal_4, xal_5, xal_6, xal_7, xal_8, xal_9]
/-- constants by class -/
def xcl_0 : List (Nat × Int32 × Nat) := [(11, 16777619, 538), (12, 1234567, 652)]
def xcl_1 : List (Nat × Int32 × Nat) := [(31, 1664525, 543), (32, 1013904223, 544)]
def xcl_2 : List (Nat × Int32 × Nat) := []
def xcl_3 : List (Nat × Int32 × Nat) := []
def xcl_4 : List (Nat × Int32 × Nat) := [(70, 65521, 705), (83, 65519, 707)]
def xcl_5 : List (Nat × Int32 × Nat) := []
def xcl_6 : List (Nat × Int32 × Nat) := []
def xcl_7 : List (Nat × Int32 × Nat) := [(215, 65519, 413)]
def xcl_8 : List (Nat × Int32 × Nat) := [(181, 65519, 976), (88, 65521, 984), (91, 16777619, 1036), (100, 1664525, 1041), (101, 1013904223, 1042), (92, 1234567, 1099), (180, 65520, 1120)]
def xcl_9 : List (Nat × Int32 × Nat) := []
def xcl : List (List (Nat × Int32 × Nat)) := [xcl_0, xcl_1, xcl_2, xcl_3, xcl_4, xcl_5, xcl_6, xcl_7, xcl_8, xcl_9]
/-- long constants by class -/
def xc2_0 : List (Nat × Int64 × Nat) := [(9, 65521, 172)]
def xc2_1 : List (Nat × Int64 × Nat) := []
def xc2_2 : List (Nat × Int64 × Nat) := []
def xc2_3 : List (Nat × Int64 × Nat) := []
def xc2_4 : List (Nat × Int64 × Nat) := []
def xc2_5 : List (Nat × Int64 × Nat) := []
def xc2_6 : List (Nat × Int64 × Nat) := []
def xc2_7 : List (Nat × Int64 × Nat) := []
def xc2_8 : List (Nat × Int64 × Nat) := [(89, 65521, 985)]
def xc2_9 : List (Nat × Int64 × Nat) := []
def xc2 : List (List (Nat × Int64 × Nat)) := [xc2_0, xc2_1, xc2_2, xc2_3, xc2_4, xc2_5, xc2_6, xc2_7, xc2_8, xc2_9]
/-- exceptions by class: index of the class entry, index of its constructor, which, place -/
def xel_0 : List (Nat × Nat × Nat × Nat) := []
def xel_1 : List (Nat × Nat × Nat × Nat) := []
def xel_2 : List (Nat × Nat × Nat × Nat) := []
def xel_3 : List (Nat × Nat × Nat × Nat) := []
def xel_4 : List (Nat × Nat × Nat × Nat) := []
def xel_5 : List (Nat × Nat × Nat × Nat) := []
def xel_6 : List (Nat × Nat × Nat × Nat) := []
def xel_7 : List (Nat × Nat × Nat × Nat) := [(209, 211, 0, 347), (216, 218, 1, 417), (219, 221, 2, 439)]
def xel_8 : List (Nat × Nat × Nat × Nat) := []
def xel_9 : List (Nat × Nat × Nat × Nat) := [(13, 0, 0, 337), (15, 0, 1, 338), (17, 0, 2, 339)]
def xel : List (List (Nat × Nat × Nat × Nat)) := [xel_0, xel_1, xel_2, xel_3, xel_4, xel_5, xel_6, xel_7, xel_8, xel_9]
/-- calls of Object() by class -/
def xoi_0 : List (Nat × Nat) := []
def xoi_1 : List (Nat × Nat) := [(3, 103)]
def xoi_2 : List (Nat × Nat) := [(3, 245)]
def xoi_3 : List (Nat × Nat) := [(3, 177)]
def xoi_4 : List (Nat × Nat) := [(3, 166)]
def xoi_5 : List (Nat × Nat) := [(3, 96)]
def xoi_6 : List (Nat × Nat) := [(1, 254)]
def xoi_7 : List (Nat × Nat) := [(1, 88)]
def xoi_8 : List (Nat × Nat) := [(1, 870)]
def xoi_9 : List (Nat × Nat) := []
def xoi : List (List (Nat × Nat)) := [xoi_0, xoi_1, xoi_2, xoi_3, xoi_4, xoi_5, xoi_6, xoi_7, xoi_8, xoi_9]
/-- a method: the places of static or instanceMethod, of selects, of initialized -/
def xmw : List (Nat × Nat × Nat) := [(170, 0, 72), (536, 0, 72), (650, 0, 72), (655, 0, 72), (658, 0, 72), (101, 0, 70), (496, 497, 70), (524, 525, 70), (786, 787, 70), (642, 643, 70), (501, 502, 70), (693, 694, 70), (540, 541, 70), (532, 533, 70), (675, 676, 70), (243, 0, 74), (472, 473, 74), (559, 560, 74), (512, 513, 74), (476, 477, 74), (516, 517, 74), (489, 2, 74), (563, 564, 74), (577, 578, 74), (588, 589, 74), (599, 600, 74), (521, 3, 74), (529, 4, 74), (615, 5, 74), (610, 611, 74), (619, 6, 74), (481, 1, 74), (633, 634, 74), (639, 7, 74), (667, 10, 74), (647, 8, 74), (662, 9, 74), (671, 11, 74), (681, 12, 74), (685, 13, 74), (690, 14, 74), (175, 0, 73), (710, 711, 73), (795, 30, 73), (753, 21, 73), (775, 26, 73), (791, 29, 73), (717, 718, 73), (798, 799, 73), (803, 31, 73), (735, 736, 73), (779, 27, 73), (740, 18, 73), (783, 28, 73), (745, 19, 73), (749, 20, 73), (757, 22, 73), (762, 23, 73), (771, 25, 73), (766, 24, 73), (722, 16, 73), (730, 17, 73), (164, 0, 71), (455, 456, 71), (433, 434, 71), (697, 698, 71), (702, 15, 71), (94, 0, 69), (492, 493, 69), (629, 630, 69), (252, 0, 75), (484, 485, 75), (86, 0, 68), (341, 342, 68), (462, 463, 68), (508, 509, 68), (549, 550, 68), (570, 571, 68), (584, 585, 68), (595, 596, 68), (606, 607, 68), (625, 626, 68), (809, 810, 68), (816, 817, 68), (823, 824, 68), (830, 831, 68), (837, 838, 68), (844, 845, 68), (851, 852, 68), (858, 859, 68), (331, 332, 68), (863, 32, 68), (466, 0, 68), (345, 0, 68), (553, 0, 68), (469, 0, 68), (411, 0, 68), (415, 0, 68), (437, 0, 68), (574, 0, 68), (556, 0, 68), (868, 0, 76), (963, 964, 76), (974, 0, 76), (991, 0, 76), (971, 0, 76), (982, 0, 76), (1034, 0, 76), (1097, 51, 76), (1039, 43, 76), (1031, 42, 76), (1089, 49, 76), (1007, 37, 76), (1003, 36, 76), (1019, 39, 76), (1027, 41, 76), (1102, 52, 76), (1011, 38, 76), (1069, 45, 76), (1081, 47, 76), (999, 35, 76), (1073, 46, 76), (1065, 44, 76), (1023, 40, 76), (1093, 50, 76), (1110, 54, 76), (1106, 53, 76), (1085, 48, 76), (979, 33, 76), (1123, 57, 76), (1147, 63, 76), (1143, 62, 76), (1127, 58, 76), (1118, 56, 76), (1139, 61, 76), (1151, 64, 76), (1135, 60, 76), (1131, 59, 76), (1114, 55, 76), (967, 968, 76), (987, 988, 76), (1014, 1015, 76), (1044, 1045, 76), (1048, 1049, 76), (1052, 1053, 76), (995, 34, 76), (1056, 1057, 76), (1060, 1061, 76), (1076, 1077, 76), (1154, 1155, 76), (1158, 1159, 76), (1167, 65, 76), (1162, 1163, 76), (1170, 1171, 76), (1174, 1175, 76), (1178, 1179, 76), (1182, 1183, 76), (1191, 66, 76), (1186, 1187, 76), (1194, 1195, 76), (335, 0, 67), (459, 0, 67), (505, 0, 67), (546, 0, 67), (567, 0, 67), (581, 0, 67), (592, 0, 67), (603, 0, 67), (622, 0, 67), (806, 0, 67), (813, 0, 67), (820, 0, 67), (827, 0, 67), (834, 0, 67), (841, 0, 67), (848, 0, 67), (855, 0, 67), (0, 0, 67)]
def xcw : List (Nat × Nat) := [(99, 70), (241, 74), (173, 73), (162, 71), (92, 69), (250, 75), (84, 68), (866, 76)]
def xLaw : Nat := 177
def xi_own (mi : xMi) : Nat := mi.1
def xi_y (mi : xMi) : MethodName := mi.2.1
def xi_cc (mi : xMi) : ByteArray := mi.2.2.1
def xi_mL (mi : xMi) : Nat := mi.2.2.2.1
def xi_rt (mi : xMi) : Option FieldType := mi.2.2.2.2.1
def xi_na (mi : xMi) : Nat := mi.2.2.2.2.2.1
def xi_hh (mi : xMi) : List (Nat × Nat × Nat × Nat) := mi.2.2.2.2.2.2.1
def xi_tb (mi : xMi) : List (Nat × Instr × Nat) := mi.2.2.2.2.2.2.2
def xi_ln : Instr → Nat
  | .bipush _ => 2
  | .sipush _ => 3
  | .ldc _ => 2
  | .ldc2_w _ => 3
  | .iload _ => 2
  | .lload _ => 2
  | .dload _ => 2
  | .aload _ => 2
  | .istore _ => 2
  | .lstore _ => 2
  | .dstore _ => 2
  | .astore _ => 2
  | .iinc _ _ => 3
  | .ifCond _ _ => 3
  | .if_icmp _ _ => 3
  | .goto _ => 3
  | .getfield _ => 3
  | .putfield _ => 3
  | .new _ => 3
  | .newarray _ => 2
  | .anewarray _ => 3
  | .multianewarray _ _ => 4
  | .invokevirtual _ => 3
  | .invokestatic _ => 3
  | .invokespecial _ => 3
  | _ => 1
def xi_le (i : Instr) (len : Nat) : Bool := match i with
  | .tableswitch _ _ _ _ => true
  | .lookupswitch _ _ => true
  | i => len == xi_ln i
def xi_of (i : Instr) (pc : Nat) : Bool := match i with
  | .ifCond _ off => decide (0 ≤ (pc : Int) + off)
  | .if_icmp _ off => decide (0 ≤ (pc : Int) + off)
  | _ => true
def xi_tbc (cc : ByteArray) (e : Nat × Instr × Nat) : Bool := decide (decode cc e.1 = .ok (e.2.1, e.2.2)) && xi_le e.2.1 e.2.2 && xi_of e.2.1 e.1
/-- the table is the code -/
def xi_tbk (mi : xMi) : Bool := (xi_tb mi).all (xi_tbc (xi_cc mi))
end
section
theorem ok_tb_X0_raise : xi_tbk mi_X0_raise = true := by decide +kernel
theorem ok_tb_X0_mix : xi_tbk mi_X0_mix = true := by decide +kernel
theorem ok_tb_X0_shared : xi_tbk mi_X0_shared = true := by decide +kernel
theorem ok_tb_X0_tag : xi_tbk mi_X0_tag = true := by decide +kernel
theorem ok_tb_X0_fillKeys : xi_tbk mi_X0_fillKeys = true := by decide +kernel
theorem ok_tb_X1_init : xi_tbk mi_X1_init = true := by decide +kernel
theorem ok_tb_X1_address : xi_tbk mi_X1_address = true := by decide +kernel
theorem ok_tb_X1_writeOrder : xi_tbk mi_X1_writeOrder = true := by decide +kernel
theorem ok_tb_X1_copyBytes : xi_tbk mi_X1_copyBytes = true := by decide +kernel
theorem ok_tb_X1_pair : xi_tbk mi_X1_pair = true := by decide +kernel
theorem ok_tb_X1_putPair : xi_tbk mi_X1_putPair = true := by decide +kernel
theorem ok_tb_X1_dataLength : xi_tbk mi_X1_dataLength = true := by decide +kernel
theorem ok_tb_X1_wrap : xi_tbk mi_X1_wrap = true := by decide +kernel
theorem ok_tb_X1_fed : xi_tbk mi_X1_fed = true := by decide +kernel
theorem ok_tb_X1_isKnownBy : xi_tbk mi_X1_isKnownBy = true := by decide +kernel
theorem ok_tb_X2_init : xi_tbk mi_X2_init = true := by decide +kernel
theorem ok_tb_X2_isLive : xi_tbk mi_X2_isLive = true := by decide +kernel
theorem ok_tb_X2_hasHop : xi_tbk mi_X2_hasHop = true := by decide +kernel
theorem ok_tb_X2_goesThrough : xi_tbk mi_X2_goesThrough = true := by decide +kernel
theorem ok_tb_X2_startAnew : xi_tbk mi_X2_startAnew = true := by decide +kernel
theorem ok_tb_X2_askForHop : xi_tbk mi_X2_askForHop = true := by decide +kernel
theorem ok_tb_X2_waitFor : xi_tbk mi_X2_waitFor = true := by decide +kernel
theorem ok_tb_X2_askForStream : xi_tbk mi_X2_askForStream = true := by decide +kernel
theorem ok_tb_X2_sendData : xi_tbk mi_X2_sendData = true := by decide +kernel
theorem ok_tb_X2_endStream : xi_tbk mi_X2_endStream = true := by decide +kernel
theorem ok_tb_X2_askToTruncate : xi_tbk mi_X2_askToTruncate = true := by decide +kernel
theorem ok_tb_X2_order : xi_tbk mi_X2_order = true := by decide +kernel
theorem ok_tb_X2_sealTo : xi_tbk mi_X2_sealTo = true := by decide +kernel
theorem ok_tb_X2_firstRelay : xi_tbk mi_X2_firstRelay = true := by decide +kernel
theorem ok_tb_X2_shut : xi_tbk mi_X2_shut = true := by decide +kernel
theorem ok_tb_X2_becomeClosed : xi_tbk mi_X2_becomeClosed = true := by decide +kernel
theorem ok_tb_X2_dropStreamsFrom : xi_tbk mi_X2_dropStreamsFrom = true := by decide +kernel
theorem ok_tb_X2_takes : xi_tbk mi_X2_takes = true := by decide +kernel
theorem ok_tb_X2_takesCreated : xi_tbk mi_X2_takesCreated = true := by decide +kernel
theorem ok_tb_X2_takesRelay : xi_tbk mi_X2_takesRelay = true := by decide +kernel
theorem ok_tb_X2_addsHop : xi_tbk mi_X2_addsHop = true := by decide +kernel
theorem ok_tb_X2_becomeReady : xi_tbk mi_X2_becomeReady = true := by decide +kernel
theorem ok_tb_X2_isKnown : xi_tbk mi_X2_isKnown = true := by decide +kernel
theorem ok_tb_X2_follows : xi_tbk mi_X2_follows = true := by decide +kernel
theorem ok_tb_X2_followOfStream : xi_tbk mi_X2_followOfStream = true := by decide +kernel
theorem ok_tb_X2_keepLatest : xi_tbk mi_X2_keepLatest = true := by decide +kernel
theorem ok_tb_X3_init : xi_tbk mi_X3_init = true := by decide +kernel
theorem ok_tb_X3_start : xi_tbk mi_X3_start = true := by decide +kernel
theorem ok_tb_X3_vanish : xi_tbk mi_X3_vanish = true := by decide +kernel
theorem ok_tb_X3_next : xi_tbk mi_X3_next = true := by decide +kernel
theorem ok_tb_X3_destroyNext : xi_tbk mi_X3_destroyNext = true := by decide +kernel
theorem ok_tb_X3_tearDown : xi_tbk mi_X3_tearDown = true := by decide +kernel
theorem ok_tb_X3_takesCreated : xi_tbk mi_X3_takesCreated = true := by decide +kernel
theorem ok_tb_X3_takesDestroy : xi_tbk mi_X3_takesDestroy = true := by decide +kernel
theorem ok_tb_X3_passOn : xi_tbk mi_X3_passOn = true := by decide +kernel
theorem ok_tb_X3_takesRelay : xi_tbk mi_X3_takesRelay = true := by decide +kernel
theorem ok_tb_X3_goesForward : xi_tbk mi_X3_goesForward = true := by decide +kernel
theorem ok_tb_X3_isKnown : xi_tbk mi_X3_isKnown = true := by decide +kernel
theorem ok_tb_X3_relayOn : xi_tbk mi_X3_relayOn = true := by decide +kernel
theorem ok_tb_X3_follows : xi_tbk mi_X3_follows = true := by decide +kernel
theorem ok_tb_X3_followsExtend : xi_tbk mi_X3_followsExtend = true := by decide +kernel
theorem ok_tb_X3_followBegin : xi_tbk mi_X3_followBegin = true := by decide +kernel
theorem ok_tb_X3_followData : xi_tbk mi_X3_followData = true := by decide +kernel
theorem ok_tb_X3_followTruncate : xi_tbk mi_X3_followTruncate = true := by decide +kernel
theorem ok_tb_X3_isOpen : xi_tbk mi_X3_isOpen = true := by decide +kernel
theorem ok_tb_X3_orderBack : xi_tbk mi_X3_orderBack = true := by decide +kernel
theorem ok_tb_X3_sealBack : xi_tbk mi_X3_sealBack = true := by decide +kernel
theorem ok_tb_X4_init : xi_tbk mi_X4_init = true := by decide +kernel
theorem ok_tb_X4_takeSecret : xi_tbk mi_X4_takeSecret = true := by decide +kernel
theorem ok_tb_X4_hasPassage : xi_tbk mi_X4_hasPassage = true := by decide +kernel
theorem ok_tb_X4_takes : xi_tbk mi_X4_takes = true := by decide +kernel
theorem ok_tb_X4_takesCreate : xi_tbk mi_X4_takesCreate = true := by decide +kernel
theorem ok_tb_X5_init : xi_tbk mi_X5_init = true := by decide +kernel
theorem ok_tb_X5_add : xi_tbk mi_X5_add = true := by decide +kernel
theorem ok_tb_X5_takeOut : xi_tbk mi_X5_takeOut = true := by decide +kernel
theorem ok_tb_X6_init : xi_tbk mi_X6_init = true := by decide +kernel
theorem ok_tb_X6_become : xi_tbk mi_X6_become = true := by decide +kernel
theorem ok_tb_X7_init : xi_tbk mi_X7_init = true := by decide +kernel
theorem ok_tb_X7_secret : xi_tbk mi_X7_secret = true := by decide +kernel
theorem ok_tb_X7_create : xi_tbk mi_X7_create = true := by decide +kernel
theorem ok_tb_X7_extend : xi_tbk mi_X7_extend = true := by decide +kernel
theorem ok_tb_X7_begin : xi_tbk mi_X7_begin = true := by decide +kernel
theorem ok_tb_X7_send : xi_tbk mi_X7_send = true := by decide +kernel
end
section
theorem ok_tb_X7_end : xi_tbk mi_X7_end = true := by decide +kernel
theorem ok_tb_X7_truncate : xi_tbk mi_X7_truncate = true := by decide +kernel
theorem ok_tb_X7_close : xi_tbk mi_X7_close = true := by decide +kernel
theorem ok_tb_X7_deliver : xi_tbk mi_X7_deliver = true := by decide +kernel
theorem ok_tb_X7_damage : xi_tbk mi_X7_damage = true := by decide +kernel
theorem ok_tb_X7_lose : xi_tbk mi_X7_lose = true := by decide +kernel
theorem ok_tb_X7_cell : xi_tbk mi_X7_cell = true := by decide +kernel
theorem ok_tb_X7_circuit : xi_tbk mi_X7_circuit = true := by decide +kernel
theorem ok_tb_X7_key : xi_tbk mi_X7_key = true := by decide +kernel
theorem ok_tb_X7_relay : xi_tbk mi_X7_relay = true := by decide +kernel
theorem ok_tb_X7_data : xi_tbk mi_X7_data = true := by decide +kernel
theorem ok_tb_X7_count : xi_tbk mi_X7_count = true := by decide +kernel
theorem ok_tb_X7_loss : xi_tbk mi_X7_loss = true := by decide +kernel
theorem ok_tb_X7_readyCircuits : xi_tbk mi_X7_readyCircuits = true := by decide +kernel
theorem ok_tb_X7_checkCircuit : xi_tbk mi_X7_checkCircuit = true := by decide +kernel
theorem ok_tb_X7_checkRelay : xi_tbk mi_X7_checkRelay = true := by decide +kernel
theorem ok_tb_X7_checkStream : xi_tbk mi_X7_checkStream = true := by decide +kernel
theorem ok_tb_X7_checkIndex : xi_tbk mi_X7_checkIndex = true := by decide +kernel
theorem ok_tb_X7_checkExponent : xi_tbk mi_X7_checkExponent = true := by decide +kernel
theorem ok_tb_X7_checkArgument : xi_tbk mi_X7_checkArgument = true := by decide +kernel
theorem ok_tb_X7_checkState : xi_tbk mi_X7_checkState = true := by decide +kernel
theorem ok_tb_X7_isByte : xi_tbk mi_X7_isByte = true := by decide +kernel
theorem ok_tb_X7_isStream : xi_tbk mi_X7_isStream = true := by decide +kernel
theorem ok_tb_X8_init : xi_tbk mi_X8_init = true := by decide +kernel
theorem ok_tb_X8_thrown : xi_tbk mi_X8_thrown = true := by decide +kernel
theorem ok_tb_X8_in : xi_tbk mi_X8_in = true := by decide +kernel
theorem ok_tb_X8_isCircuit : xi_tbk mi_X8_isCircuit = true := by decide +kernel
theorem ok_tb_X8_isRelay : xi_tbk mi_X8_isRelay = true := by decide +kernel
theorem ok_tb_X8_raise : xi_tbk mi_X8_raise = true := by decide +kernel
theorem ok_tb_X8_mix : xi_tbk mi_X8_mix = true := by decide +kernel
theorem ok_tb_X8_agree : xi_tbk mi_X8_agree = true := by decide +kernel
theorem ok_tb_X8_wrap : xi_tbk mi_X8_wrap = true := by decide +kernel
theorem ok_tb_X8_fed : xi_tbk mi_X8_fed = true := by decide +kernel
theorem ok_tb_X8_pair : xi_tbk mi_X8_pair = true := by decide +kernel
theorem ok_tb_X8_putPair : xi_tbk mi_X8_putPair = true := by decide +kernel
theorem ok_tb_X8_clearBytes : xi_tbk mi_X8_clearBytes = true := by decide +kernel
theorem ok_tb_X8_order : xi_tbk mi_X8_order = true := by decide +kernel
theorem ok_tb_X8_seal : xi_tbk mi_X8_seal = true := by decide +kernel
theorem ok_tb_X8_isKnown : xi_tbk mi_X8_isKnown = true := by decide +kernel
theorem ok_tb_X8_ship : xi_tbk mi_X8_ship = true := by decide +kernel
theorem ok_tb_X8_destroy : xi_tbk mi_X8_destroy = true := by decide +kernel
theorem ok_tb_X8_remove : xi_tbk mi_X8_remove = true := by decide +kernel
theorem ok_tb_X8_dropStreams : xi_tbk mi_X8_dropStreams = true := by decide +kernel
theorem ok_tb_X8_ended : xi_tbk mi_X8_ended = true := by decide +kernel
theorem ok_tb_X8_closeNow : xi_tbk mi_X8_closeNow = true := by decide +kernel
theorem ok_tb_X8_clientSends : xi_tbk mi_X8_clientSends = true := by decide +kernel
theorem ok_tb_X8_meet : xi_tbk mi_X8_meet = true := by decide +kernel
theorem ok_tb_X8_ofStream : xi_tbk mi_X8_ofStream = true := by decide +kernel
theorem ok_tb_X8_clientFollows : xi_tbk mi_X8_clientFollows = true := by decide +kernel
end
section
theorem ok_tb_X8_toClient : xi_tbk mi_X8_toClient = true := by decide +kernel
theorem ok_tb_X8_place : xi_tbk mi_X8_place = true := by decide +kernel
theorem ok_tb_X8_forget : xi_tbk mi_X8_forget = true := by decide +kernel
theorem ok_tb_X8_destroyOn : xi_tbk mi_X8_destroyOn = true := by decide +kernel
theorem ok_tb_X8_tear : xi_tbk mi_X8_tear = true := by decide +kernel
theorem ok_tb_X8_relaySends : xi_tbk mi_X8_relaySends = true := by decide +kernel
theorem ok_tb_X8_begun : xi_tbk mi_X8_begun = true := by decide +kernel
theorem ok_tb_X8_extendAt : xi_tbk mi_X8_extendAt = true := by decide +kernel
theorem ok_tb_X8_dataAt : xi_tbk mi_X8_dataAt = true := by decide +kernel
theorem ok_tb_X8_relayFollows : xi_tbk mi_X8_relayFollows = true := by decide +kernel
theorem ok_tb_X8_relayed : xi_tbk mi_X8_relayed = true := by decide +kernel
end
section
theorem ok_tb_X8_toRelay : xi_tbk mi_X8_toRelay = true := by decide +kernel
theorem ok_tb_X8_secret : xi_tbk mi_X8_secret = true := by decide +kernel
theorem ok_tb_X8_create : xi_tbk mi_X8_create = true := by decide +kernel
theorem ok_tb_X8_extend : xi_tbk mi_X8_extend = true := by decide +kernel
theorem ok_tb_X8_begin : xi_tbk mi_X8_begin = true := by decide +kernel
theorem ok_tb_X8_send : xi_tbk mi_X8_send = true := by decide +kernel
theorem ok_tb_X8_end : xi_tbk mi_X8_end = true := by decide +kernel
theorem ok_tb_X8_isOn : xi_tbk mi_X8_isOn = true := by decide +kernel
theorem ok_tb_X8_truncate : xi_tbk mi_X8_truncate = true := by decide +kernel
theorem ok_tb_X8_close : xi_tbk mi_X8_close = true := by decide +kernel
theorem ok_tb_X8_deliver : xi_tbk mi_X8_deliver = true := by decide +kernel
theorem ok_tb_X8_damage : xi_tbk mi_X8_damage = true := by decide +kernel
theorem ok_tb_X8_lose : xi_tbk mi_X8_lose = true := by decide +kernel
theorem ok_tb_X8_out : xi_tbk mi_X8_out = true := by decide +kernel
theorem ok_tb_X8_cell : xi_tbk mi_X8_cell = true := by decide +kernel
theorem ok_tb_X8_circuit : xi_tbk mi_X8_circuit = true := by decide +kernel
theorem ok_tb_X8_key : xi_tbk mi_X8_key = true := by decide +kernel
theorem ok_tb_X8_relay : xi_tbk mi_X8_relay = true := by decide +kernel
theorem ok_tb_X8_data : xi_tbk mi_X8_data = true := by decide +kernel
theorem ok_tb_X8_readies : xi_tbk mi_X8_readies = true := by decide +kernel
theorem ok_tb_X8_count : xi_tbk mi_X8_count = true := by decide +kernel
theorem ok_tb_X8_loss : xi_tbk mi_X8_loss = true := by decide +kernel
theorem ok_tb_L_secret : xi_tbk mi_L_secret = true := by decide +kernel
theorem ok_tb_L_create : xi_tbk mi_L_create = true := by decide +kernel
theorem ok_tb_L_extend : xi_tbk mi_L_extend = true := by decide +kernel
theorem ok_tb_L_begin : xi_tbk mi_L_begin = true := by decide +kernel
theorem ok_tb_L_send : xi_tbk mi_L_send = true := by decide +kernel
theorem ok_tb_L_end : xi_tbk mi_L_end = true := by decide +kernel
theorem ok_tb_L_truncate : xi_tbk mi_L_truncate = true := by decide +kernel
theorem ok_tb_L_close : xi_tbk mi_L_close = true := by decide +kernel
theorem ok_tb_L_deliver : xi_tbk mi_L_deliver = true := by decide +kernel
theorem ok_tb_L_damage : xi_tbk mi_L_damage = true := by decide +kernel
theorem ok_tb_L_lose : xi_tbk mi_L_lose = true := by decide +kernel
theorem ok_tb_L_cell : xi_tbk mi_L_cell = true := by decide +kernel
theorem ok_tb_L_circuit : xi_tbk mi_L_circuit = true := by decide +kernel
theorem ok_tb_L_key : xi_tbk mi_L_key = true := by decide +kernel
theorem ok_tb_L_relay : xi_tbk mi_L_relay = true := by decide +kernel
theorem ok_tb_L_data : xi_tbk mi_L_data = true := by decide +kernel
end
section
theorem ok_tb_L_count : xi_tbk mi_L_count = true := by decide +kernel
end
section
theorem ok_tbl_0 : tb_law_0.all (xi_tbc cL_law) = true := by decide +kernel
theorem ok_tbl_1 : tb_law_1.all (xi_tbc cL_law) = true := by decide +kernel
theorem ok_tbl_2 : tb_law_2.all (xi_tbc cL_law) = true := by decide +kernel
theorem ok_tbl_3 : tb_law_3.all (xi_tbc cL_law) = true := by decide +kernel
theorem ok_tbl_4 : tb_law_4.all (xi_tbc cL_law) = true := by decide +kernel
end
section
theorem ok_tbl_5 : tb_law_5.all (xi_tbc cL_law) = true := by decide +kernel
theorem ok_tbl_6 : tb_law_6.all (xi_tbc cL_law) = true := by decide +kernel
theorem ok_tbl_7 : tb_law_7.all (xi_tbc cL_law) = true := by decide +kernel
theorem ok_tbl_8 : tb_law_8.all (xi_tbc cL_law) = true := by decide +kernel
theorem ok_tbl_9 : tb_law_9.all (xi_tbc cL_law) = true := by decide +kernel
end
section
theorem ok_tbl_10 : tb_law_10.all (xi_tbc cL_law) = true := by decide +kernel
theorem ok_tbl_11 : tb_law_11.all (xi_tbc cL_law) = true := by decide +kernel
theorem ok_tbl_12 : tb_law_12.all (xi_tbc cL_law) = true := by decide +kernel
theorem ok_tbl_13 : tb_law_13.all (xi_tbc cL_law) = true := by decide +kernel
end
section
theorem ok_tb_L_law : xi_tbk mi_L_law = true := by
  show tb_L_law.all (xi_tbc cL_law) = true
  unfold tb_L_law
  simp only [List.all_append, ok_tbl_0, ok_tbl_1, ok_tbl_2, ok_tbl_3, ok_tbl_4, ok_tbl_5, ok_tbl_6, ok_tbl_7, ok_tbl_8, ok_tbl_9, ok_tbl_10, ok_tbl_11, ok_tbl_12, ok_tbl_13, Bool.and_true]
theorem ok_pg_0 : ∀ mi ∈ xpg_0, xi_tbk mi = true := by
  intro mi h
  simp only [xpg_0, List.mem_cons, List.not_mem_nil, or_false] at h
  rcases h with rfl | rfl | rfl | rfl | rfl | rfl | rfl | rfl | rfl | rfl | rfl | rfl | rfl | rfl | rfl | rfl | rfl | rfl | rfl | rfl
  · exact ok_tb_X0_raise
  · exact ok_tb_X0_mix
  · exact ok_tb_X0_shared
  · exact ok_tb_X0_tag
  · exact ok_tb_X0_fillKeys
  · exact ok_tb_X1_init
  · exact ok_tb_X1_address
  · exact ok_tb_X1_writeOrder
  · exact ok_tb_X1_copyBytes
  · exact ok_tb_X1_pair
  · exact ok_tb_X1_putPair
  · exact ok_tb_X1_dataLength
  · exact ok_tb_X1_wrap
  · exact ok_tb_X1_fed
  · exact ok_tb_X1_isKnownBy
  · exact ok_tb_X2_init
  · exact ok_tb_X2_isLive
  · exact ok_tb_X2_hasHop
  · exact ok_tb_X2_goesThrough
  · exact ok_tb_X2_startAnew
theorem ok_pg_1 : ∀ mi ∈ xpg_1, xi_tbk mi = true := by
  intro mi h
  simp only [xpg_1, List.mem_cons, List.not_mem_nil, or_false] at h
  rcases h with rfl | rfl | rfl | rfl | rfl | rfl | rfl | rfl | rfl | rfl | rfl | rfl | rfl | rfl | rfl | rfl | rfl | rfl | rfl | rfl
  · exact ok_tb_X2_askForHop
  · exact ok_tb_X2_waitFor
  · exact ok_tb_X2_askForStream
  · exact ok_tb_X2_sendData
  · exact ok_tb_X2_endStream
  · exact ok_tb_X2_askToTruncate
  · exact ok_tb_X2_order
  · exact ok_tb_X2_sealTo
  · exact ok_tb_X2_firstRelay
  · exact ok_tb_X2_shut
  · exact ok_tb_X2_becomeClosed
  · exact ok_tb_X2_dropStreamsFrom
  · exact ok_tb_X2_takes
  · exact ok_tb_X2_takesCreated
  · exact ok_tb_X2_takesRelay
  · exact ok_tb_X2_addsHop
  · exact ok_tb_X2_becomeReady
  · exact ok_tb_X2_isKnown
  · exact ok_tb_X2_follows
  · exact ok_tb_X2_followOfStream
theorem ok_pg_2 : ∀ mi ∈ xpg_2, xi_tbk mi = true := by
  intro mi h
  simp only [xpg_2, List.mem_cons, List.not_mem_nil, or_false] at h
  rcases h with rfl | rfl | rfl | rfl | rfl | rfl | rfl | rfl | rfl | rfl | rfl | rfl | rfl | rfl | rfl | rfl | rfl | rfl | rfl | rfl
  · exact ok_tb_X2_keepLatest
  · exact ok_tb_X3_init
  · exact ok_tb_X3_start
  · exact ok_tb_X3_vanish
  · exact ok_tb_X3_next
  · exact ok_tb_X3_destroyNext
  · exact ok_tb_X3_tearDown
  · exact ok_tb_X3_takesCreated
  · exact ok_tb_X3_takesDestroy
  · exact ok_tb_X3_passOn
  · exact ok_tb_X3_takesRelay
  · exact ok_tb_X3_goesForward
  · exact ok_tb_X3_isKnown
  · exact ok_tb_X3_relayOn
  · exact ok_tb_X3_follows
  · exact ok_tb_X3_followsExtend
  · exact ok_tb_X3_followBegin
  · exact ok_tb_X3_followData
  · exact ok_tb_X3_followTruncate
  · exact ok_tb_X3_isOpen
theorem ok_pg_3 : ∀ mi ∈ xpg_3, xi_tbk mi = true := by
  intro mi h
  simp only [xpg_3, List.mem_cons, List.not_mem_nil, or_false] at h
  rcases h with rfl | rfl | rfl | rfl | rfl | rfl | rfl | rfl | rfl | rfl | rfl | rfl | rfl | rfl | rfl | rfl | rfl | rfl | rfl | rfl
  · exact ok_tb_X3_orderBack
  · exact ok_tb_X3_sealBack
  · exact ok_tb_X4_init
  · exact ok_tb_X4_takeSecret
  · exact ok_tb_X4_hasPassage
  · exact ok_tb_X4_takes
  · exact ok_tb_X4_takesCreate
  · exact ok_tb_X5_init
  · exact ok_tb_X5_add
  · exact ok_tb_X5_takeOut
  · exact ok_tb_X6_init
  · exact ok_tb_X6_become
  · exact ok_tb_X7_init
  · exact ok_tb_X7_secret
  · exact ok_tb_X7_create
  · exact ok_tb_X7_extend
  · exact ok_tb_X7_begin
  · exact ok_tb_X7_send
  · exact ok_tb_X7_end
  · exact ok_tb_X7_truncate
theorem ok_pg_4 : ∀ mi ∈ xpg_4, xi_tbk mi = true := by
  intro mi h
  simp only [xpg_4, List.mem_cons, List.not_mem_nil, or_false] at h
  rcases h with rfl | rfl | rfl | rfl | rfl | rfl | rfl | rfl | rfl | rfl | rfl | rfl | rfl | rfl | rfl | rfl | rfl | rfl | rfl | rfl
  · exact ok_tb_X7_close
  · exact ok_tb_X7_deliver
  · exact ok_tb_X7_damage
  · exact ok_tb_X7_lose
  · exact ok_tb_X7_cell
  · exact ok_tb_X7_circuit
  · exact ok_tb_X7_key
  · exact ok_tb_X7_relay
  · exact ok_tb_X7_data
  · exact ok_tb_X7_count
  · exact ok_tb_X7_loss
  · exact ok_tb_X7_readyCircuits
  · exact ok_tb_X7_checkCircuit
  · exact ok_tb_X7_checkRelay
  · exact ok_tb_X7_checkStream
  · exact ok_tb_X7_checkIndex
  · exact ok_tb_X7_checkExponent
  · exact ok_tb_X7_checkArgument
  · exact ok_tb_X7_checkState
  · exact ok_tb_X7_isByte
theorem ok_pg_5 : ∀ mi ∈ xpg_5, xi_tbk mi = true := by
  intro mi h
  simp only [xpg_5, List.mem_cons, List.not_mem_nil, or_false] at h
  rcases h with rfl | rfl | rfl | rfl | rfl | rfl | rfl | rfl | rfl | rfl | rfl | rfl | rfl | rfl | rfl | rfl | rfl | rfl | rfl | rfl
  · exact ok_tb_X7_isStream
  · exact ok_tb_X8_init
  · exact ok_tb_X8_thrown
  · exact ok_tb_X8_in
  · exact ok_tb_X8_isCircuit
  · exact ok_tb_X8_isRelay
  · exact ok_tb_X8_raise
  · exact ok_tb_X8_mix
  · exact ok_tb_X8_agree
  · exact ok_tb_X8_wrap
  · exact ok_tb_X8_fed
  · exact ok_tb_X8_pair
  · exact ok_tb_X8_putPair
  · exact ok_tb_X8_clearBytes
  · exact ok_tb_X8_order
  · exact ok_tb_X8_seal
  · exact ok_tb_X8_isKnown
  · exact ok_tb_X8_ship
  · exact ok_tb_X8_destroy
  · exact ok_tb_X8_remove
theorem ok_pg_6 : ∀ mi ∈ xpg_6, xi_tbk mi = true := by
  intro mi h
  simp only [xpg_6, List.mem_cons, List.not_mem_nil, or_false] at h
  rcases h with rfl | rfl | rfl | rfl | rfl | rfl | rfl | rfl | rfl | rfl | rfl | rfl | rfl | rfl | rfl | rfl | rfl | rfl | rfl | rfl
  · exact ok_tb_X8_dropStreams
  · exact ok_tb_X8_ended
  · exact ok_tb_X8_closeNow
  · exact ok_tb_X8_clientSends
  · exact ok_tb_X8_meet
  · exact ok_tb_X8_ofStream
  · exact ok_tb_X8_clientFollows
  · exact ok_tb_X8_toClient
  · exact ok_tb_X8_place
  · exact ok_tb_X8_forget
  · exact ok_tb_X8_destroyOn
  · exact ok_tb_X8_tear
  · exact ok_tb_X8_relaySends
  · exact ok_tb_X8_begun
  · exact ok_tb_X8_extendAt
  · exact ok_tb_X8_dataAt
  · exact ok_tb_X8_relayFollows
  · exact ok_tb_X8_relayed
  · exact ok_tb_X8_toRelay
  · exact ok_tb_X8_secret
theorem ok_pg_7 : ∀ mi ∈ xpg_7, xi_tbk mi = true := by
  intro mi h
  simp only [xpg_7, List.mem_cons, List.not_mem_nil, or_false] at h
  rcases h with rfl | rfl | rfl | rfl | rfl | rfl | rfl | rfl | rfl | rfl | rfl | rfl | rfl | rfl | rfl | rfl | rfl | rfl | rfl | rfl
  · exact ok_tb_X8_create
  · exact ok_tb_X8_extend
  · exact ok_tb_X8_begin
  · exact ok_tb_X8_send
  · exact ok_tb_X8_end
  · exact ok_tb_X8_isOn
  · exact ok_tb_X8_truncate
  · exact ok_tb_X8_close
  · exact ok_tb_X8_deliver
  · exact ok_tb_X8_damage
  · exact ok_tb_X8_lose
  · exact ok_tb_X8_out
  · exact ok_tb_X8_cell
  · exact ok_tb_X8_circuit
  · exact ok_tb_X8_key
  · exact ok_tb_X8_relay
  · exact ok_tb_X8_data
  · exact ok_tb_X8_readies
  · exact ok_tb_X8_count
  · exact ok_tb_X8_loss
theorem ok_pg_8 : ∀ mi ∈ xpg_8, xi_tbk mi = true := by
  intro mi h
  simp only [xpg_8, List.mem_cons, List.not_mem_nil, or_false] at h
  rcases h with rfl | rfl | rfl | rfl | rfl | rfl | rfl | rfl | rfl | rfl | rfl | rfl | rfl | rfl | rfl | rfl | rfl | rfl
  · exact ok_tb_L_secret
  · exact ok_tb_L_create
  · exact ok_tb_L_extend
  · exact ok_tb_L_begin
  · exact ok_tb_L_send
  · exact ok_tb_L_end
  · exact ok_tb_L_truncate
  · exact ok_tb_L_close
  · exact ok_tb_L_deliver
  · exact ok_tb_L_damage
  · exact ok_tb_L_lose
  · exact ok_tb_L_cell
  · exact ok_tb_L_circuit
  · exact ok_tb_L_key
  · exact ok_tb_L_relay
  · exact ok_tb_L_data
  · exact ok_tb_L_count
  · exact ok_tb_L_law
theorem ok_pg : ∀ mi ∈ xpg, xi_tbk mi = true := by
  intro mi h
  simp only [xpg, List.mem_append] at h
  rcases h with h | h | h | h | h | h | h | h | h
  · exact ok_pg_0 mi h
  · exact ok_pg_1 mi h
  · exact ok_pg_2 mi h
  · exact ok_pg_3 mi h
  · exact ok_pg_4 mi h
  · exact ok_pg_5 mi h
  · exact ok_pg_6 mi h
  · exact ok_pg_7 mi h
  · exact ok_pg_8 mi h
end
section
/-! A small machine of its own: objects by numbers, one heap of ints, longs and references; it runs the tables of 03. -/
def xi_scr : Nat := 1000000
abbrev xHp : Type := (Bool × Nat × Nat × Nat × Nat × (Nat → Int32)) × (Nat → Nat × Nat) × (Nat → Nat → Int32) × (Nat → Nat → Int64) × (Nat → Nat → Option Nat)
abbrev hF (h : xHp) : Bool := h.1.1
abbrev hN (h : xHp) : Nat := h.1.2.1
abbrev hC (h : xHp) : Nat := h.1.2.2.1
abbrev hW (h : xHp) : Nat := h.1.2.2.2.1
/-- 0: nothing is known of the script; L + 1: it has L ints -/
abbrev hL (h : xHp) : Nat := h.1.2.2.2.2.1
abbrev hX (h : xHp) : Nat → Int32 := h.1.2.2.2.2.2
abbrev hK (h : xHp) : Nat → Nat × Nat := h.2.1
abbrev hI (h : xHp) : Nat → Nat → Int32 := h.2.2.1
abbrev hJ (h : xHp) : Nat → Nat → Int64 := h.2.2.2.1
abbrev hR (h : xHp) : Nat → Nat → Option Nat := h.2.2.2.2
def xi_u2 {α : Type} (f : Nat → Nat → α) (a k : Nat) (v : α) : Nat → Nat → α := fun b j => if b = a then (if j = k then v else f b j) else f b j
def xi_setI (h : xHp) (a k : Nat) (v : Int32) : xHp := (h.1, hK h, xi_u2 (hI h) a k v, hJ h, hR h)
def xi_setJ (h : xHp) (a k : Nat) (v : Int64) : xHp := (h.1, hK h, hI h, xi_u2 (hJ h) a k v, hR h)
def xi_setR (h : xHp) (a k : Nat) (v : Option Nat) : xHp := (h.1, hK h, hI h, hJ h, xi_u2 (hR h) a k v)
def xi_fz (h : xHp) : xHp := ((true, hN h, hC h + 1, hW h + 6, hL h, hX h), h.2)
def xi_nw (h : xHp) (kind len sl : Nat) : xHp := ((hF h, hN h + 1, hC h + 1, hW h + sl, hL h, hX h), va_up (hK h) (hN h) (kind, len), fun b j => if b = hN h then 0 else hI h b j, fun b j => if b = hN h then 0 else hJ h b j, fun b j => if b = hN h then none else hR h b j)
/-- an outer row of n places, and n rows of k ints behind it -/
def xi_mn (h : xHp) (n k : Nat) : xHp := ((hF h, hN h + (1 + n), hC h + (1 + n), hW h + (n + n * k), hL h, hX h), fun b => if b = hN h then (16, n) else if hN h < b ∧ b ≤ hN h + n then (8, k) else hK h b, fun b j => if hN h < b ∧ b ≤ hN h + n then 0 else hI h b j, hJ h, fun b j => if b = hN h then (if j < n then some (hN h + 1 + j) else none) else hR h b j)
def xi_a {α : Type} : List (Nat × α) → Nat → Option α
  | [], _ => none
  | (i, v) :: t, k => if i = k then some v else xi_a t k
def xi_nf (k : Nat) : Nat := [6, 12, 10, 6, 5, 3, 5, 30].getD k 0
def xi_tys : List (Nat → FieldType) := [tyX1, tyX2, tyX3, tyX4, tyX5, tyX6, tyX7, tyX8]
def xi_Ts : List u_T := [TX1, TX2, TX3, TX4, TX5, TX6, TX7, TX8]
def xi_ty (c k : Nat) : FieldType := xi_tys.getD c (fun _ => .int) k
def xi_rf (c k : Nat) : Bool := match xi_ty c k with | .object _ => true | .array _ => true | _ => false
def xi_bo (c k : Nat) : Bool := match xi_ty c k with | .boolean => true | _ => false
def xi_fn (c k : Nat) : Bool := (xi_Ts.getD c TX1 k).2.2.2
def xi_rv : Option Nat → Value
  | none => .null
  | some r => .ref r
def xi_fv (h : xHp) (a c k : Nat) : Value := if xi_rf c k = true then xi_rv (hR h a k) else .int (hI h a k)
/-- the class of what a row of references holds -/
def xi_ec (k : Nat) : Nat := [0, 1, 2, 3, 5].getD (k - 11) 99
/-- the kind of a row of references to a class -/
def xi_ak (c : Nat) : Nat := [11, 12, 13, 14, 0, 15].getD c 0
abbrev xFr : Type := Nat × List (Nat × Value) × List Value
def xi_p1 (lv : List (Nat × Value)) (i : Nat) (v : Value) : List (Nat × Value) := (i, v) :: lv.filter (fun q => !(q.1 == i) && !(q.1 + 1 == i && q.2.category == 2))
def xi_p2 (lv : List (Nat × Value)) (i : Nat) (v : Value) : List (Nat × Value) := (i, v) :: lv.filter (fun q => !(q.1 == i) && (!(q.1 == i + 1) && !(q.1 + 1 == i && q.2.category == 2)))
def xi_go (pc : Nat) (off : Int) (lv : List (Nat × Value)) (st : List Value) (h : xHp) : Option (xFr × xHp) := if 0 ≤ (pc : Int) + off then some ((((pc : Int) + off).toNat, lv, st), h) else none
def xi_ld (lv : List (Nat × Value)) (k pc : Nat) (st : List Value) (h : xHp) (ok : Value → Bool) : Option (xFr × xHp) := match xi_a lv k with
  | some v => if ok v = true then some ((pc, lv, v :: st), h) else none
  | none => none
def xi_vi : Value → Bool | .int _ => true | _ => false
def xi_vl : Value → Bool | .long _ => true | _ => false
def xi_vf : Value → Bool | .float _ => true | _ => false
def xi_vd : Value → Bool | .double _ => true | _ => false
def xi_va : Value → Bool | .ref _ => true | _ => false
def xi_s1s (nL k pc : Nat) (lv : List (Nat × Value)) (st : List Value) (h : xHp) (ok : Value → Bool) : Option (xFr × xHp) := match st with
  | v :: r => if ok v = true ∧ k < nL then some ((pc, xi_p1 lv k v, r), h) else none
  | [] => none
def xi_s2s (nL k pc : Nat) (lv : List (Nat × Value)) (st : List Value) (h : xHp) (ok : Value → Bool) : Option (xFr × xHp) := match st with
  | v :: r => if ok v = true ∧ k + 1 < nL then some ((pc, xi_p2 lv k v, r), h) else none
  | [] => none
def xi_ii (pc : Nat) (lv : List (Nat × Value)) (st : List Value) (h : xHp) (f : Int32 → Int32 → Int32) : Option (xFr × xHp) := match st with
  | .int y :: .int x :: r => some ((pc + 1, lv, .int (f x y) :: r), h)
  | _ => none
def xi_ifc (c : ClassFile.Cond) (off : Int) (pc : Nat) (lv : List (Nat × Value)) (x y : Int32) (r : List Value) (h : xHp) : Option (xFr × xHp) := match c with
  | .eq => if x = y then xi_go pc off lv r h else some ((pc + 3, lv, r), h)
  | .ne => if x = y then some ((pc + 3, lv, r), h) else xi_go pc off lv r h
  | .lt => if x < y then xi_go pc off lv r h else some ((pc + 3, lv, r), h)
  | .ge => if y ≤ x then xi_go pc off lv r h else some ((pc + 3, lv, r), h)
  | .gt => if y < x then xi_go pc off lv r h else some ((pc + 3, lv, r), h)
  | .le => if x ≤ y then xi_go pc off lv r h else some ((pc + 3, lv, r), h)
/-- is i a place of the row a, which is of kind k? -/
def xi_in (h : xHp) (a k : Nat) (i : Int32) : Bool := !decide (i < 0) && decide (a < hN h) && decide ((hK h a).1 = k) && decide (i.toNatClampNeg < (hK h a).2)
def xi_sp (lv : List (Nat × Value)) (k : Nat) : List (Nat × Value) := lv.filter (fun q => !(q.1 == k) && !(q.1 + 1 == k && q.2.category == 2))
/-- an instruction that neither calls nor returns -/
def xi_s1 (o nL : Nat) (ini : Bool) (i : Instr) (pc : Nat) (lv : List (Nat × Value)) (st : List Value) (h : xHp) : Option (xFr × xHp) :=
  match i with
  | .iconst n => some ((pc + 1, lv, .int (Int32.ofInt n) :: st), h)
  | .bipush n => some ((pc + 2, lv, .int (Int8.ofInt n).toInt32 :: st), h)
  | .sipush n => some ((pc + 3, lv, .int (Int16.ofInt n).toInt32 :: st), h)
  | .lconst n => some ((pc + 1, lv, .long (Int64.ofNat (n : Nat)) :: st), h)
  | .fconst n => if n = 0 then some ((pc + 1, lv, .float FP.fconst0 :: st), h) else none
  | .ldc ix => match xi_a (xcl.getD o []) ix with
    | some (v, _) => some ((pc + 2, lv, .int v :: st), h)
    | none => none
  | .ldc2_w ix => match xi_a (xc2.getD o []) ix with
    | some (v, _) => some ((pc + 3, lv, .long v :: st), h)
    | none => none
  | .iload_n k => xi_ld lv k (pc + 1) st h xi_vi
  | .iload k => xi_ld lv k (pc + 2) st h xi_vi
  | .lload_n k => xi_ld lv k (pc + 1) st h xi_vl
  | .lload k => xi_ld lv k (pc + 2) st h xi_vl
  | .fload_n k => xi_ld lv k (pc + 1) st h xi_vf
  | .dload k => xi_ld lv k (pc + 2) st h xi_vd
  | .aload_n k => xi_ld lv k (pc + 1) st h xi_va
  | .aload k => xi_ld lv k (pc + 2) st h xi_va
  | .istore_n k => xi_s1s nL k (pc + 1) lv st h xi_vi
  | .istore k => xi_s1s nL k (pc + 2) lv st h xi_vi
  | .fstore_n k => xi_s1s nL k (pc + 1) lv st h xi_vf
  | .astore_n k => xi_s1s nL k (pc + 1) lv st h xi_va
  | .astore k => xi_s1s nL k (pc + 2) lv st h xi_va
  | .lstore_n k => xi_s2s nL k (pc + 1) lv st h xi_vl
  | .lstore k => xi_s2s nL k (pc + 2) lv st h xi_vl
  | .dstore k => xi_s2s nL k (pc + 2) lv st h xi_vd
  | .iinc k c => match xi_a lv k with
    | some (.int x) => if k < nL then some ((pc + 3, xi_p1 lv k (.int (x + Int32.ofInt c)), st), h) else none
    | _ => none
  | .iadd => xi_ii pc lv st h (fun x y => x + y)
  | .isub => xi_ii pc lv st h (fun x y => x - y)
  | .imul => xi_ii pc lv st h (fun x y => x * y)
  | .iand => xi_ii pc lv st h (fun x y => x &&& y)
  | .ior => xi_ii pc lv st h (fun x y => x ||| y)
  | .ixor => xi_ii pc lv st h (fun x y => x ^^^ y)
  | .ishl => xi_ii pc lv st h (fun x y => x <<< (y &&& 31))
  | .ishr => xi_ii pc lv st h (fun x y => x >>> (y &&& 31))
  | .iushr => xi_ii pc lv st h (fun x y => (x.toUInt32 >>> (y.toUInt32 &&& Int32.toUInt32 31)).toInt32)
  | .idiv => match st with
    | .int y :: .int x :: r => if y = 0 then none else some ((pc + 1, lv, .int (x / y) :: r), h)
    | _ => none
  | .irem => match st with
    | .int y :: .int x :: r => if y = 0 then none else some ((pc + 1, lv, .int (x - x / y * y) :: r), h)
    | _ => none
  | .lmul => match st with
    | .long y :: .long x :: r => some ((pc + 1, lv, .long (x * y) :: r), h)
    | _ => none
  | .lrem => match st with
    | .long y :: .long x :: r => if y = 0 then none else some ((pc + 1, lv, .long (x - x / y * y) :: r), h)
    | _ => none
  | .lcmp => match st with
    | .long y :: .long x :: r => some ((pc + 1, lv, .int (lg_cmp x y) :: r), h)
    | _ => none
  | .i2l => match st with
    | .int x :: r => some ((pc + 1, lv, .long x.toInt64 :: r), h)
    | _ => none
  | .l2i => match st with
    | .long x :: r => some ((pc + 1, lv, .int x.toInt32 :: r), h)
    | _ => none
  | .i2f => match st with
    | .int x :: r => some ((pc + 1, lv, .float (FP.i2f x) :: r), h)
    | _ => none
  | .fdiv => match st with
    | .float y :: .float x :: r => if FP.fdiv x y &&& 0x7fffffff ≤ 0x7f800000 then some ((pc + 1, lv, .float (FP.fdiv x y) :: r), h) else none
    | _ => none
  | .f2d => match st with
    | .float x :: r => if FP.f2d x &&& 0x7fffffffffffffff ≤ 0x7ff0000000000000 then some ((pc + 1, lv, .double (FP.f2d x) :: r), h) else none
    | _ => none
  | .dcmp op => match st with
    | .double y :: .double x :: r => some ((pc + 1, lv, .int (Op.cmpValue (FP.dcmp x y) op) :: r), h)
    | _ => none
  | .dup => match st with
    | v :: r => if v.category = 1 then some ((pc + 1, lv, v :: v :: r), h) else none
    | _ => none
  | .pop => match st with
    | v :: r => if v.category = 1 then some ((pc + 1, lv, r), h) else none
    | _ => none
  | .dup2 => match st with
    | v :: w :: r => if v.category = 1 ∧ w.category = 1 then some ((pc + 1, lv, v :: w :: v :: w :: r), h) else none
    | _ => none
  | .ifCond c off => match st with
    | .int x :: r => xi_ifc c off pc lv x 0 r h
    | _ => none
  | .if_icmp c off => match st with
    | .int y :: .int x :: r => xi_ifc c off pc lv x y r h
    | _ => none
  | .goto off => xi_go pc off lv st h
  | .tableswitch dflt lo hi offs => match st with
    | .int x :: r => if x.toInt < lo ∨ hi < x.toInt then xi_go pc dflt lv r h else (match offs[(x.toInt - lo).toNat]? with
      | some off => xi_go pc off lv r h
      | none => none)
    | _ => none
  | .lookupswitch dflt ps => match st with
    | .int x :: r => if (ps.toList.zip (ps.toList.drop 1)).all (fun (a, next) => a.1 < next.1) = true then xi_go pc (Op.lookupswitch.offset ps.toList dflt x.toInt) lv r h else none
    | _ => none
  | .getfield ix => match xi_a (xfl.getD o []) ix, st with
    | some (c, k, _), .ref a :: r => if a < hN h ∧ (hK h a).1 = c then some ((pc + 3, lv, xi_fv h a c k :: r), h) else none
    | _, _ => none
  | .putfield ix => match xi_a (xfl.getD o []) ix, st with
    | some (c, k, _), .int x :: .ref a :: r => if a < hN h ∧ (hK h a).1 = c ∧ xi_rf c k = false ∧ (xi_bo c k = false ∨ x = 0 ∨ x = 1) ∧ (xi_fn c k = false ∨ (ini = true ∧ o = c + 1)) then some ((pc + 3, lv, r), xi_setI h a k x) else none
    | some (c, k, _), .ref q :: .ref a :: r => if a < hN h ∧ (hK h a).1 = c ∧ xi_rf c k = true ∧ (xi_fn c k = false ∨ (ini = true ∧ o = c + 1)) then some ((pc + 3, lv, r), xi_setR h a k (some q)) else none
    | _, _ => none
  | .iaload => match st with
    | .int i :: .ref a :: r => if a = xi_scr then (if ¬ i < 0 ∧ i.toNatClampNeg + 1 < hL h then some ((pc + 1, lv, .int (hX h i.toNatClampNeg) :: r), h) else none) else if xi_in h a 8 i = true then some ((pc + 1, lv, .int (hI h a i.toNatClampNeg) :: r), h) else none
    | _ => none
  | .baload => match st with
    | .int i :: .ref a :: r => if xi_in h a 9 i = true then some ((pc + 1, lv, .int (hI h a i.toNatClampNeg) :: r), h) else none
    | _ => none
  | .laload => match st with
    | .int i :: .ref a :: r => if xi_in h a 10 i = true then some ((pc + 1, lv, .long (hJ h a i.toNatClampNeg) :: r), h) else none
    | _ => none
  | .aaload => match st with
    | .int i :: .ref a :: r => if 10 < (hK h a).1 ∧ (hK h a).1 < 17 ∧ xi_in h a (hK h a).1 i = true then some ((pc + 1, lv, xi_rv (hR h a i.toNatClampNeg) :: r), h) else none
    | _ => none
  | .iastore => match st with
    | .int x :: .int i :: .ref a :: r => if xi_in h a 8 i = true then some ((pc + 1, lv, r), xi_setI h a i.toNatClampNeg x) else none
    | _ => none
  | .bastore => match st with
    | .int x :: .int i :: .ref a :: r => if xi_in h a 9 i = true ∧ (x = 0 ∨ x = 1) then some ((pc + 1, lv, r), xi_setI h a i.toNatClampNeg x) else none
    | _ => none
  | .lastore => match st with
    | .long x :: .int i :: .ref a :: r => if xi_in h a 10 i = true then some ((pc + 1, lv, r), xi_setJ h a i.toNatClampNeg x) else none
    | _ => none
  | .aastore => match st with
    | .ref v :: .int i :: .ref a :: r => if 10 < (hK h a).1 ∧ (hK h a).1 < 16 ∧ xi_in h a (hK h a).1 i = true ∧ v < hN h ∧ (hK h v).1 = xi_ec (hK h a).1 then some ((pc + 1, lv, r), xi_setR h a i.toNatClampNeg (some v)) else none
    | _ => none
  | .arraylength => match st with
    | .ref a :: r => if a = xi_scr ∧ 0 < hL h then some ((pc + 1, lv, .int (Int32.ofNat (hL h - 1)) :: r), h) else none
    | _ => none
  | .new ix => match xi_a (xnl.getD o []) ix with
    | some (c, _) => if hF h = false ∧ hN h < 900000 ∧ c < 8 then some ((pc + 3, lv, .ref (hN h) :: st), xi_nw h c 0 (xi_nf c)) else none
    | none => none
  | .newarray t => match st with
    | .int n :: r => if hF h = false ∧ hN h < 900000 ∧ ¬ n < 0 ∧ n.toNatClampNeg ≤ 1000 then (match t with
      | .int => some ((pc + 2, lv, .ref (hN h) :: r), xi_nw h 8 n.toNatClampNeg n.toNatClampNeg)
      | .boolean => some ((pc + 2, lv, .ref (hN h) :: r), xi_nw h 9 n.toNatClampNeg n.toNatClampNeg)
      | .long => some ((pc + 2, lv, .ref (hN h) :: r), xi_nw h 10 n.toNatClampNeg n.toNatClampNeg)
      | _ => none) else none
    | _ => none
  | .anewarray ix => match xi_a (xnl.getD o []) ix, st with
    | some (c, _), .int n :: r => if hF h = false ∧ hN h < 900000 ∧ ¬ n < 0 ∧ n.toNatClampNeg ≤ 1000 ∧ xi_ec (xi_ak c) = c ∧ 10 < xi_ak c then some ((pc + 3, lv, .ref (hN h) :: r), xi_nw h (xi_ak c) n.toNatClampNeg n.toNatClampNeg) else none
    | _, _ => none
  | .multianewarray ix dm => if dm ≠ 2 then none else match xi_a (xal.getD o []) ix, st with
    | some _, .int k :: .int n :: r => if hF h = false ∧ hN h + 1000 < 900000 ∧ ¬ n < 0 ∧ ¬ k < 0 ∧ n.toNatClampNeg ≤ 1000 ∧ k.toNatClampNeg ≤ 1000 then some ((pc + 4, lv, .ref (hN h) :: r), xi_mn h n.toNatClampNeg k.toNatClampNeg) else none
    | _, _ => none
  | _ => none
abbrev xRs : Type := (Option Value ⊕ Nat) × xHp
/-- where an exception that comes at pc goes on -/
def xi_hd (o : Nat) : List (Nat × Nat × Nat × Nat) → Nat → Nat → Option Nat
  | [], _, _ => none
  | (a, b, t, c) :: r, pc, E => if a ≤ pc ∧ pc < b then (match xi_a (xel.getD o []) c with
    | some (_, e, _) => if e = E then some t else xi_hd o r pc E
    | none => none) else xi_hd o r pc E
def xi_nc (hh : List (Nat × Nat × Nat × Nat)) (pc : Nat) : Bool := hh.all (fun q => !(decide (q.1 ≤ pc) && decide (pc < q.2.1)))
/-- behind a call -/
def xi_aft (mi : xMi) (kd pc : Nat) (lv : List (Nat × Value)) (rest : List Value) (r : Option xRs) : Option ((xFr × xHp) ⊕ xRs) := match r with
  | some (.inl v, h) => some (.inl ((pc + 3, lv, v.toList ++ rest), h))
  | some (.inr E, h) => if kd = 2 ∨ kd = 3 ∨ kd = 4 then none else (match xi_hd (xi_own mi) (xi_hh mi) pc E with
    | none => if xi_hh mi = [] then some (.inr (.inr E, h)) else none
    | some t => (match xi_a (xi_tb mi) t with
      | some (.astore_n k, _) => if (k : Nat) < xi_mL mi then some (.inl ((t + 1, xi_sp lv k, []), h)) else none
      | some (.astore k, _) => if k < xi_mL mi then some (.inl ((t + 2, xi_sp lv k, []), h)) else none
      | _ => none))
  | none => none
/-- what a call of this kind asks of its arguments -/
def xi_kd (kd : Nat) (mi' : xMi) (av : List Value) (h : xHp) : Bool :=
  if kd = 0 then (match av with
    | .ref a :: _ => decide (a < hN h) && decide ((hK h a).1 + 1 = xi_own mi') && decide ((hK h a).1 < 8)
    | _ => false)
  else if kd = 3 ∨ kd = 4 then (match av with
    | .ref _ :: _ => true
    | _ => false)
  else true
def xi_call (call : Nat → List Value → xHp → Option xRs) (mi : xMi) (pc : Nat) (lv : List (Nat × Value)) (st : List Value) (h : xHp) (kd m' : Nat) : Option ((xFr × xHp) ⊕ xRs) := match xpg[m']? with
  | none => none
  | some mi' => if xi_na mi' ≤ st.length ∧ ((st.drop (xi_na mi')).map fun v => v.category).sum ≤ 8 ∧ (lg_sl (st.take (xi_na mi')).reverse).length ≤ xi_mL mi' ∧ xi_kd kd mi' (st.take (xi_na mi')).reverse h = true then xi_aft mi kd pc lv (st.drop (xi_na mi')) (call m' (st.take (xi_na mi')).reverse h) else none
/-- a step: on, or the end -/
def xi_st (d : Nat) (call : Nat → List Value → xHp → Option xRs) (mi : xMi) (fr : xFr) (h : xHp) : Option ((xFr × xHp) ⊕ xRs) :=
  match xi_a (xi_tb mi) fr.1 with
  | none => none
  | some (i, _) => match i with
    | .ireturn => match fr.2.2 with
      | [.int v] => (match xi_rt mi with
        | some .int => some (.inr (.inl (some (.int v)), h))
        | some .boolean => if v = 0 ∨ v = 1 then some (.inr (.inl (some (.int v)), h)) else none
        | _ => none)
      | _ => none
    | .freturn => match fr.2.2 with
      | [.float v] => if xi_rt mi = some .float then some (.inr (.inl (some (.float v)), h)) else none
      | _ => none
    | .areturn => match fr.2.2 with
      | [.ref a] => (match xi_rt mi with
        | some (.object _) => some (.inr (.inl (some (.ref a)), h))
        | _ => none)
      | _ => none
    | .return_ => match fr.2.2 with
      | [] => if xi_rt mi = none then some (.inr (.inl none, h)) else none
      | _ => none
    | .invokespecial ix => match xi_a (xoi.getD (xi_own mi) []) ix with
      | some _ => (match fr.2.2 with
        | .ref _ :: r => if (r.map fun v => v.category).sum ≤ 8 ∧ 0 < d then some (.inl ((fr.1 + 3, fr.2.1, r), h)) else none
        | _ => none)
      | none => match xi_a (xml.getD (xi_own mi) []) ix with
        | some (kd, m', _) => if kd = 3 ∨ kd = 4 then xi_call call mi fr.1 fr.2.1 fr.2.2 h kd m' else none
        | none => none
    | .invokestatic ix => match xi_a (xml.getD (xi_own mi) []) ix with
      | some (kd, m', _) => if kd = 1 ∨ kd = 2 ∨ kd = 5 then xi_call call mi fr.1 fr.2.1 fr.2.2 h kd m' else none
      | none => none
    | .invokevirtual ix => match xi_a (xml.getD (xi_own mi) []) ix with
      | some (kd, m', _) => if kd = 0 then xi_call call mi fr.1 fr.2.1 fr.2.2 h kd m' else none
      | none => none
    | .new ix => match xi_a (xel.getD (xi_own mi) []) ix with
      | some (ic, E, _) => if 5 < d ∧ xi_hh mi = [] ∧ xi_own mi = 7 ∧ (fr.2.2.map fun v => v.category).sum ≤ 8 ∧ xi_a (xi_tb mi) (fr.1 + 3) = some (.dup, 1) ∧ xi_a (xi_tb mi) (fr.1 + 4) = some (.invokespecial ic, 3) ∧ xi_a (xi_tb mi) (fr.1 + 7) = some (.athrow, 1) then some (.inr (.inr E, xi_fz h)) else none
      | none => (xi_s1 (xi_own mi) (xi_mL mi) ((xi_y mi).name == "<init>") (.new ix) fr.1 fr.2.1 fr.2.2 h).map .inl
    | i => (xi_s1 (xi_own mi) (xi_mL mi) ((xi_y mi).name == "<init>") i fr.1 fr.2.1 fr.2.2 h).map .inl
/-- the run of a method from a frame: n steps at most, d frames -/
def xi_run : Nat → Nat → Nat → xFr → xHp → Option xRs
  | 0, _, _, _, _ => none
  | n + 1, d, m, fr, h => match xpg[m]? with
    | none => none
    | some mi => match xi_st d (fun m' av h1 => match d with
        | 0 => none
        | d' + 1 => xi_run n d' m' (0, lv_args 0 av, []) h1) mi fr h with
      | none => none
      | some (.inl (fr', h')) => xi_run n d m fr' h'
      | some (.inr r) => some r
def xi_h0 : xHp := ((false, 0, 0, 0, 0, fun _ => 0), fun _ => (0, 0), fun _ _ => 0, fun _ _ => 0, fun _ _ => none)
def xi_an : Option xRs → Option Value
  | some (.inl v, _) => v
  | _ => none
end
section
/-! words -/
def xi_ok : Cond → Bool
  | .arrayClass _ => true
  | .methodLinkNest _ _ _ _ => true
  | w => w.keepsFace && w.onTables
def xT : List Cond := lw_tbl.filter xi_ok
theorem xi_face {w : Cond} (hf : w.keepsFace = true) (ht : w.onTables = true) {args a' : Array Value} {s U : State} (hW : s.WarmedH U.vm) (h : w.before args s = true) : w.before a' U = true := va_tabs ht (rfl : (s.setVm U.vm).vm = U.vm) (Cond.before_shiftedFace (State.Shifted.of_warmed hW) w hf h)
theorem xi_warm {w : Cond} (hk : xi_ok w = true) {args a' : Array Value} {s U : State} (hW : s.WarmedH U.vm) (h : w.before args s = true) : w.before a' U = true := by
  unfold xi_ok at hk
  split at hk
  · exact word_at hW (Or.inr ⟨_, rfl⟩) h
  · exact va_Nw.use rfl (va_Nw.warmM hW (va_Nw.of rfl h))
  · rw [Bool.and_eq_true] at hk
    exact xi_face hk.1 hk.2 hW h
theorem xi_mem {w : Cond} {i : Nat} (h : lw_tbl[i]? = some w) (g : xi_ok w = true) : w ∈ xT := List.mem_filter.mpr ⟨List.mem_of_getElem? h, g⟩
theorem xi_a_mem {α : Type} : ∀ (l : List (Nat × α)) (k : Nat) (v : α), xi_a l k = some v → (k, v) ∈ l
  | [], _, _, h => by cases h
  | (i, w) :: t, k, v, h => by
    unfold xi_a at h
    by_cases e : i = k
    · rw [if_pos e] at h
      cases h
      subst e
      exact List.mem_cons_self
    · rw [if_neg e] at h
      exact List.mem_cons_of_mem _ (xi_a_mem t k v h)
/-- a word of the table at a place, and fit to be carried -/
def xi_at (i : Nat) (w : Cond) : Bool := decide (lw_tbl[i]? = some w) && xi_ok w
theorem xi_at_mem {i : Nat} {w : Cond} (h : xi_at i w = true) : w ∈ xT := by
  unfold xi_at at h
  rw [Bool.and_eq_true] at h
  exact xi_mem (of_decide_eq_true h.1) h.2
def xi_all {α : Type} (l : List (List (Nat × α))) (f : Nat → Nat × α → Bool) : Bool := (List.range 10).all (fun o => (l.getD o []).all (f o))
theorem xi_all_at {α : Type} {l : List (List (Nat × α))} {f : Nat → Nat × α → Bool} (h : xi_all l f = true) (hl : l.length = 10) {o k : Nat} {v : α} (hv : xi_a (l.getD o []) k = some v) : f o (k, v) = true := by
  have hm := xi_a_mem _ _ _ hv
  by_cases ho : o < 10
  · exact List.all_eq_true.mp (List.all_eq_true.mp h o (List.mem_range.mpr ho)) _ hm
  · rw [List.getD_eq_getElem?_getD, List.getElem?_eq_none (by omega)] at hm
    cases hm
def xi_rO (o : Nat) : String := xRO.getD o ""
def xi_cls (c : Nat) : String := [RX1, RX2, RX3, RX4, RX5, RX6, RX7, RX8].getD c ""
def xi_T (c : Nat) : u_T := xi_Ts.getD c TX1
def xi_E (e : Nat) : String := ["java/lang/IndexOutOfBoundsException", "java/lang/IllegalArgumentException", "java/lang/IllegalStateException"].getD e ""
def xi_names : List String := ["java/lang/RuntimeException", "java/lang/Exception"]
theorem ok_fl : xi_all xfl (fun o e => xi_at e.2.2.2 (.fieldLink (xi_rO o) e.1 (xi_T e.2.1 e.2.2.1).1 (xi_T e.2.1 e.2.2.1).2.1 (xi_T e.2.1 e.2.2.1).2.2.1) && decide (e.2.1 < 8) && decide (e.2.2.1 < xi_nf e.2.1)) = true := by decide +kernel
theorem ok_cl : xi_all xcl (fun o e => xi_at e.2.2 (.constant (xi_rO o) e.1 e.2.1)) = true := by decide +kernel
theorem ok_c2 : xi_all xc2 (fun o e => xi_at e.2.2 (.constantLong (xi_rO o) e.1 e.2.1)) = true := by decide +kernel
theorem ok_nl : xi_all xnl (fun o e => xi_at e.2.2 (.classLink (xi_rO o) e.1 (xi_cls e.2.1)) && decide (e.2.1 < 8)) = true := by decide +kernel
theorem ok_al : xi_all xal (fun o e => xi_at e.2 (.classLink (xi_rO o) e.1 "[[I")) = true := by decide +kernel
theorem ok_oi : xi_all xoi (fun o e => xi_at e.2 (.methodLink (xi_rO o) e.1 objectInit)) = true := by decide +kernel
theorem ok_el : xi_all xel (fun o e => xi_at e.2.2.2 (.classLink (xi_rO o) e.1 (xi_E e.2.2.1)) && decide (e.2.2.1 < 3) && decide (e.1 ≠ 0)) = true := by decide +kernel
theorem ok_cw : (List.range 8).all (fun c => xi_at ((xcw.getD c (0, 0)).1) (.instantiable (xi_cls c) (xi_nf c)) && xi_at ((xcw.getD c (0, 0)).2) (.initialized (xi_cls c))) = true := by decide +kernel
theorem ok_cu : ∀ c, c < 8 → vwCl[c]? = some (xi_cls c, xi_T c, xi_nf c) := by
  intro c hc
  match c, hc with
  | 0, _ => rfl
  | 1, _ => rfl
  | 2, _ => rfl
  | 3, _ => rfl
  | 4, _ => rfl
  | 5, _ => rfl
  | 6, _ => rfl
  | 7, _ => rfl
theorem ok_ct : ∀ c, c < 8 → ∀ k, k < xi_nf c → parseFieldDescriptor (xi_T c k).2.2.1 = some (xi_ty c k) := by
  intro c hc
  match c, hc with
  | 0, _ => exact tyX1_ok
  | 1, _ => exact tyX2_ok
  | 2, _ => exact tyX3_ok
  | 3, _ => exact tyX4_ok
  | 4, _ => exact tyX5_ok
  | 5, _ => exact tyX6_ok
  | 6, _ => exact tyX7_ok
  | 7, _ => exact tyX8_ok
theorem ok_cn : ∀ c, c < 8 → ∀ a, a < xi_nf c → ∀ b, b < xi_nf c → a ≠ b → (xi_T c a).2.1 ≠ (xi_T c b).2.1 := by
  intro c hc
  match c, hc with
  | 0, _ => exact nmX1
  | 1, _ => exact nmX2
  | 2, _ => exact nmX3
  | 3, _ => exact nmX4
  | 4, _ => exact nmX5
  | 5, _ => exact nmX6
  | 6, _ => exact nmX7
  | 7, _ => exact nmX8
theorem ok_cs : ∀ c, c < 8 → (u_ws (xi_cls c) (xi_T c) (xi_nf c)).all (fun w => decide (w ∈ lw_tbl) && xi_ok w) = true := by decide +kernel
theorem ok_ci : ∀ c, c < 8 → ∀ w ∈ u_ws (xi_cls c) (xi_T c) (xi_nf c), w ∈ xT := by
  intro c hc w hw
  have h := List.all_eq_true.mp (ok_cs c hc) w hw
  rw [Bool.and_eq_true] at h
  exact List.mem_filter.mpr ⟨of_decide_eq_true h.1, h.2⟩
theorem ok_df : ∀ c, c < 8 → ∀ k, k < xi_nf c → (xi_T c k).1 = xi_rO (c + 1) ∧ xi_cls c = xi_rO (c + 1) := by decide +kernel
/-! values, cells -/
def xi_tv (lay : Nat → Nat) : Value → Value
  | .ref i => .ref (lay i)
  | v => v
theorem xi_tv_cat (lay : Nat → Nat) (v : Value) : (xi_tv lay v).category = v.category := by cases v <;> rfl
def xi_lv (lay : Nat → Nat) (lv : List (Nat × Value)) : List (Nat × Value) := lv.map (fun q => (q.1, xi_tv lay q.2))
theorem xi_lv_at {lay : Nat → Nat} {lv : List (Nat × Value)} {ls : Array Slot} {nL k : Nat} {v : Value} (hl : lv_has ls nL (xi_lv lay lv)) (h : xi_a lv k = some v) : ls[k]? = some (.val (xi_tv lay v)) :=
  hl.2.2 (k, xi_tv lay v) (List.mem_map.mpr ⟨(k, v), xi_a_mem _ _ _ h, rfl⟩)
theorem xi_filt {lay : Nat → Nat} (lv : List (Nat × Value)) (f g : Nat × Value → Bool) (h : ∀ q, f (q.1, xi_tv lay q.2) = g q) : (xi_lv lay lv).filter f = xi_lv lay (lv.filter g) := by
  unfold xi_lv
  rw [List.filter_map]
  congr 1
  apply List.filter_congr
  intro q _
  exact h q
theorem xi_lv_p1 {lay : Nat → Nat} (lv : List (Nat × Value)) (i : Nat) (v : Value) : (i, xi_tv lay v) :: (xi_lv lay lv).filter (fun q => !(q.1 == i) && !(q.1 + 1 == i && q.2.category == 2)) = xi_lv lay (xi_p1 lv i v) := by
  rw [xi_filt lv _ (fun q => !(q.1 == i) && !(q.1 + 1 == i && q.2.category == 2)) (fun q => by simp only [xi_tv_cat])]
  rfl
theorem xi_lv_p2 {lay : Nat → Nat} (lv : List (Nat × Value)) (i : Nat) (v : Value) : (i, xi_tv lay v) :: (xi_lv lay lv).filter (fun q => !(q.1 == i) && (!(q.1 == i + 1) && !(q.1 + 1 == i && q.2.category == 2))) = xi_lv lay (xi_p2 lv i v) := by
  rw [xi_filt lv _ (fun q => !(q.1 == i) && (!(q.1 == i + 1) && !(q.1 + 1 == i && q.2.category == 2))) (fun q => by simp only [xi_tv_cat])]
  rfl
def xi_ev (lay : Nat → Nat) (h : xHp) (a c k : Nat) : Value := if xi_rf c k = true then va_rf ((hR h a k).map lay) else .int (hI h a k)
theorem xi_ev_tv (lay : Nat → Nat) (h : xHp) (a c k : Nat) : xi_tv lay (xi_fv h a c k) = xi_ev lay h a c k := by
  unfold xi_fv xi_ev
  split
  · cases hR h a k <;> rfl
  · rfl
def xi_en (cy : Nat → ClassId) (lay : Nat → Nat) (h : xHp) (i : Nat) : va_E :=
  if (hK h i).1 < 8 then .inr ((hK h i).1, (List.range (xi_nf (hK h i).1)).map (xi_ev lay h i (hK h i).1))
  else if (hK h i).1 < 10 then .inl (cy ((hK h i).1 - 8), (hK h i).2, .inl (hI h i))
  else if (hK h i).1 = 10 then .inl (cy 2, (hK h i).2, .inr (.inl (hJ h i)))
  else .inl (cy ((hK h i).1 - 8), (hK h i).2, .inr (.inr (.inr (.inr (fun j => (hR h i j).map lay)))))
theorem xi_en_o {cy : Nat → ClassId} {lay : Nat → Nat} {h : xHp} {i c : Nat} (hk : (hK h i).1 = c) (hc : c < 8) : xi_en cy lay h i = .inr (c, (List.range (xi_nf c)).map (xi_ev lay h i c)) := by
  unfold xi_en
  rw [hk, if_pos hc]
theorem xi_en_i {cy : Nat → ClassId} {lay : Nat → Nat} {h : xHp} {i k : Nat} (hk : (hK h i).1 = k) (h1 : 8 ≤ k) (h2 : k < 10) : xi_en cy lay h i = .inl (cy (k - 8), (hK h i).2, .inl (hI h i)) := by
  unfold xi_en
  rw [hk, if_neg (by omega), if_pos h2]
theorem xi_en_j {cy : Nat → ClassId} {lay : Nat → Nat} {h : xHp} {i : Nat} (hk : (hK h i).1 = 10) : xi_en cy lay h i = .inl (cy 2, (hK h i).2, .inr (.inl (hJ h i))) := by
  unfold xi_en
  rw [hk, if_neg (by omega), if_neg (by omega), if_pos rfl]
theorem xi_en_r {cy : Nat → ClassId} {lay : Nat → Nat} {h : xHp} {i k : Nat} (hk : (hK h i).1 = k) (h1 : 10 < k) : xi_en cy lay h i = .inl (cy (k - 8), (hK h i).2, .inr (.inr (.inr (.inr (fun j => (hR h i j).map lay))))) := by
  unfold xi_en
  rw [hk, if_neg (by omega), if_neg (by omega), if_neg (by omega)]
def xi_P (D : va_G) (cy : Nat → ClassId) (lay : Nat → Nat) (h : xHp) (H : Heap) : Prop := ∀ i, i < hN h → va_at D vwCl (lay i, xi_en cy lay h i) H
def xi_Z (base : Nat) (h : xHp) (H : Heap) : Prop := (hF h = false → H.size = base + hN h) ∧ base + hN h ≤ H.size ∧ hN h ≤ 900000
def xi_lay (base : Nat) (lay : Nat → Nat) : Prop := ∀ i, i < 900000 → lay i = base + i
def xi_tl (cy : Nat → ClassId) : List (ClassId × FieldType) := [(cy 0, .int), (cy 1, .boolean), (cy 2, .long), (cy 3, .object RX1), (cy 4, .object RX2), (cy 5, .object RX3), (cy 6, .object RX4), (cy 7, .object RX6), (cy 8, .array .int)]
def xi_AOA (U : State) : Prop := (Cond.arrayOver (.array .int)).before #[] U = true
def xi_G (D : va_G) (cy : Nat → ClassId) (base : Nat) (lay : Nat → Nat) (L : Nat) (xs : Nat → Int32) (U : State) : Prop :=
  va_K D vwCl (xi_tl cy) U ∧ (va_AO RX1 U ∧ va_AO RX2 U ∧ va_AO RX3 U ∧ va_AO RX4 U ∧ va_AO RX6 U ∧ xi_AOA U) ∧ (∀ i, i < 3 → ∀ j, j < 3 → i ≠ j → va_Nc (xi_E i) (xi_E j) U) ∧
  (vx_Zq Bundle.tN "UNASSIGNED_STACK" Bundle.steD (fun q => base ≤ q) U U.heap ∧ vx_Zq Bundle.tN "SUPPRESSED_SENTINEL" Bundle.listD (fun q => base ≤ q) U U.heap) ∧
  (0 < L → va_X (lay xi_scr) (L - 1) xs U U.heap) ∧ lay xi_scr < base ∧ base ≤ U.heap.size
theorem xi_AOA.moved {u U : State} (hvm : u.vm.Alike U.vm) (h : xi_AOA u) : xi_AOA U := by
  unfold xi_AOA Cond.before Cond.holds at h ⊢
  simp only [Cond.value, beq_iff_eq] at h ⊢
  cases hc : u.vm.findClass (FieldType.array FieldType.int).toString with
  | none => simp [hc] at h
  | some comp =>
    have f1 : U.vm.findClass (FieldType.array FieldType.int).toString = some comp := by rw [hvm.findClass]; exact hc
    simp only [hc, Option.bind_some, Option.bind_eq_some_iff, Option.map_eq_some_iff] at h
    obtain ⟨c, hi, k, hk, hb⟩ := h
    obtain ⟨k', hk', he⟩ := hvm.2.2 _ _ hk
    have e1 := va_idx_bare U.vm comp
    have e2 := va_idx_bare u.vm comp
    have e3 : U.vm.bare = u.vm.bare := by first | exact hvm.bare_eq | exact hvm.bare_eq.symm
    rw [e3] at e1
    have hi' := (e1.symm.trans e2).trans hi
    simp only [f1, Option.bind_some, Option.bind_eq_some_iff, Option.map_eq_some_iff]
    refine ⟨c, hi', k', hk', ?_⟩
    rw [he]
    simpa only [hvm.findClass] using hb
theorem xi_G.to {D : va_G} {cy : Nat → ClassId} {base : Nat} {lay : Nat → Nat} {L : Nat} {xs : Nat → Int32} {u U : State} (h : xi_G D cy base lay L xs u) (hvm : u.vm.Alike U.vm) (hz : u.heap.size ≤ U.heap.size) (hq : ∀ a : Nat, a < u.heap.size → ¬ base ≤ a → U.heap[a]? = u.heap[a]?) : xi_G D cy base lay L xs U := by
  obtain ⟨h1, ⟨a1, a2, a3, a4, a5, a6⟩, h3, ⟨z1, z2⟩, h5, h6, h7⟩ := h
  refine ⟨h1.moved hvm, ⟨a1.moved hvm, a2.moved hvm, a3.moved hvm, a4.moved hvm, a5.moved hvm, a6.moved hvm⟩, fun i hi j hj hij => (h3 i hi j hj hij).moved hvm, ⟨(z1.kept hq).moved hvm, (z2.kept hq).moved hvm⟩, fun hp => ((h5 hp).kept (hq _ (Nat.lt_of_lt_of_le h6 h7) (Nat.not_le.mpr h6))).moved hvm, h6, Nat.le_trans h7 hz⟩
end
section
def xi_C (p : Program) (l : Launch) (s : State) (m : MethodId) (args : Array Value) (meth : Method) (c : Code) (mi : xMi) (D : va_G) (cy : Nat → ClassId) (base : Nat) (lay : Nat → Nat) (L : Nat) (xs : Nat → Int32) : Prop :=
  p.tables.exec = Jvm.exec ∧ c.code = xi_cc mi ∧ c.maxLocals = xi_mL mi ∧ s.vm.findClass (xi_rO (xi_own mi)) = some m.cls ∧ (∀ w ∈ xT, w.before args s = true) ∧ meth.locks = false ∧ meth.sig.returnType = xi_rt mi ∧ meth.name = (xi_y mi).name ∧
  c.exceptionTable.toList = tableOf (xi_hh mi) ∧ l.stackTraces = false ∧ xi_G D cy base lay L xs s ∧ xi_lay base lay
def xi_W (p : Program) (l : Launch) (e : Env) (R : Room) (s : State) (m : MethodId) (args : Array Value) (below : List Frame) (meth : Method) (c : Code) (mi : xMi) (D : va_G) (cy : Nat → ClassId) (base : Nat) (lay : Nat → Nat) (c0 w0 : Nat) (Q : State → Prop) (fr : xFr) (h : xHp) : Prop :=
  ∀ (H : Heap) (locs : List Loc) (ls : Array Slot), xi_P D cy lay h H → xi_Z base h H → va_S (fun q => base ≤ q) s.heap H locs → lv_has ls (xi_mL mi) (xi_lv lay fr.2.1) → W p l e R s m args below meth c H locs (hC h - c0) (hW h - w0) Q (F0 m fr.1 ls (fr.2.2.map (xi_tv lay)))
def xi_mo (h h' : xHp) : Prop := hC h ≤ hC h' ∧ hW h ≤ hW h' ∧ hL h' = hL h ∧ hX h' = hX h
theorem xi_mo.rf (h : xHp) : xi_mo h h := ⟨Nat.le_refl _, Nat.le_refl _, rfl, rfl⟩
theorem xi_mo.tr {a b c : xHp} (h : xi_mo a b) (g : xi_mo b c) : xi_mo a c := ⟨Nat.le_trans h.1 g.1, Nat.le_trans h.2.1 g.2.1, g.2.2.1.trans h.2.2.1, g.2.2.2.trans h.2.2.2⟩
/-- from the frame and the heap behind a step to those before it -/
def xi_Sd (mi : xMi) (i : Instr) (len : Nat) (fr : xFr) (h : xHp) (fr' : xFr) (h' : xHp) : Prop :=
  ∀ (p : Program) (l : Launch) (e : Env) (R : Room) (s : State) (m : MethodId) (args : Array Value) (below : List Frame) (meth : Method) (c : Code) (Q : State → Prop) (D : va_G) (cy : Nat → ClassId) (base : Nat) (lay : Nat → Nat) (c0 w0 : Nat),
    xi_C p l s m args meth c mi D cy base lay (hL h) (hX h) → decode (xi_cc mi) fr.1 = .ok (i, len) → c0 ≤ hC h → w0 ≤ hW h → hC h' - c0 ≤ R.cells → hW h' - w0 ≤ R.slots →
    xi_W p l e R s m args below meth c mi D cy base lay c0 w0 Q fr' h' → xi_W p l e R s m args below meth c mi D cy base lay c0 w0 Q fr h
abbrev xi_Go (mi : xMi) (i : Instr) : Prop := ∀ (len pc : Nat) (lv : List (Nat × Value)) (st : List Value) (h : xHp) (fr' : xFr) (h' : xHp), xi_le i len = true → xi_s1 (xi_own mi) (xi_mL mi) ((xi_y mi).name == "<init>") i pc lv st h = some (fr', h') → xi_mo h h' ∧ xi_Sd mi i len (pc, lv, st) h fr' h'
theorem xi_goE {pc : Nat} {off : Int} {lv : List (Nat × Value)} {st : List Value} {h : xHp} {fr' : xFr} {h' : xHp} (hg : xi_go pc off lv st h = some (fr', h')) : ∃ t : Nat, (pc : Int) + off = (t : Int) ∧ fr' = (t, lv, st) ∧ h' = h := by
  unfold xi_go at hg
  by_cases hz : 0 ≤ (pc : Int) + off
  · rw [if_pos hz] at hg
    cases hg
    exact ⟨_, (Int.toNat_of_nonneg hz).symm, rfl, rfl⟩
  · rw [if_neg hz] at hg
    cases hg
def xi_tg (pc : Nat) (off : Int) : Nat := ((pc : Int) + off).toNat
theorem xi_tg_ok {pc : Nat} {off : Int} (h : 0 ≤ (pc : Int) + off) : (pc : Int) + off = (xi_tg pc off : Int) := (Int.toNat_of_nonneg h).symm
section
variable {mi : xMi}
theorem xs_iconst {n : Int} : xi_Go mi (.iconst n) := by
  intro len pc lv st h fr' h' hlen hs
  obtain rfl : len = 1 := by simpa [xi_le, xi_ln] using hlen
  simp only [xi_s1] at hs
  cases hs
  exact ⟨xi_mo.rf _, fun p l e R s m args below meth c Q D cy base lay c0 w0 C hd _ _ _ _ k H locs ls hP hZ hS hl => lv_iconst C.1 C.2.1 hd rfl (k H locs ls hP hZ hS hl)⟩
theorem xs_bipush {n : Int} : xi_Go mi (.bipush n) := by
  intro len pc lv st h fr' h' hlen hs
  obtain rfl : len = 2 := by simpa [xi_le, xi_ln] using hlen
  simp only [xi_s1] at hs
  cases hs
  exact ⟨xi_mo.rf _, fun p l e R s m args below meth c Q D cy base lay c0 w0 C hd _ _ _ _ k H locs ls hP hZ hS hl => lv_bipush C.1 C.2.1 hd rfl (k H locs ls hP hZ hS hl)⟩
theorem xs_sipush {n : Int} : xi_Go mi (.sipush n) := by
  intro len pc lv st h fr' h' hlen hs
  obtain rfl : len = 3 := by simpa [xi_le, xi_ln] using hlen
  simp only [xi_s1] at hs
  cases hs
  exact ⟨xi_mo.rf _, fun p l e R s m args below meth c Q D cy base lay c0 w0 C hd _ _ _ _ k H locs ls hP hZ hS hl => lv_sipush C.1 C.2.1 hd rfl (k H locs ls hP hZ hS hl)⟩
theorem xs_lconst {n : Fin 2} : xi_Go mi (.lconst n) := by
  intro len pc lv st h fr' h' hlen hs
  obtain rfl : len = 1 := by simpa [xi_le, xi_ln] using hlen
  simp only [xi_s1] at hs
  cases hs
  exact ⟨xi_mo.rf _, fun p l e R s m args below meth c Q D cy base lay c0 w0 C hd _ _ _ _ k H locs ls hP hZ hS hl => lv_lconst C.1 C.2.1 hd rfl (k H locs ls hP hZ hS hl)⟩
theorem xs_fconst {n : Fin 3} : xi_Go mi (.fconst n) := by
  intro len pc lv st h fr' h' hlen hs
  obtain rfl : len = 1 := by simpa [xi_le, xi_ln] using hlen
  simp only [xi_s1] at hs
  by_cases hn : n = 0
  · subst hn
    rw [if_pos rfl] at hs
    cases hs
    exact ⟨xi_mo.rf _, fun p l e R s m args below meth c Q D cy base lay c0 w0 C hd _ _ _ _ k H locs ls hP hZ hS hl => lv_fconst0 C.1 C.2.1 hd (k H locs ls hP hZ hS hl)⟩
  · rw [if_neg hn] at hs
    cases hs
theorem xs_ldc {ix : Nat} : xi_Go mi (.ldc ix) := by
  intro len pc lv st h fr' h' hlen hs
  obtain rfl : len = 2 := by simpa [xi_le, xi_ln] using hlen
  simp only [xi_s1] at hs
  cases hv : xi_a (xcl.getD (xi_own mi) []) ix with
  | none => rw [hv] at hs; cases hs
  | some v =>
    rw [hv] at hs
    cases hs
    have hw := xi_at_mem (xi_all_at ok_cl rfl hv)
    exact ⟨xi_mo.rf _, fun p l e R s m args below meth c Q D cy base lay c0 w0 C hd _ _ _ _ k H locs ls hP hZ hS hl => lv_ldc C.1 C.2.1 C.2.2.2.1 (C.2.2.2.2.1 _ hw) hd (k H locs ls hP hZ hS hl)⟩
theorem xs_ldc2 {ix : Nat} : xi_Go mi (.ldc2_w ix) := by
  intro len pc lv st h fr' h' hlen hs
  obtain rfl : len = 3 := by simpa [xi_le, xi_ln] using hlen
  simp only [xi_s1] at hs
  cases hv : xi_a (xc2.getD (xi_own mi) []) ix with
  | none => rw [hv] at hs; cases hs
  | some v =>
    rw [hv] at hs
    cases hs
    have hw := xi_at_mem (xi_all_at ok_c2 rfl hv)
    exact ⟨xi_mo.rf _, fun p l e R s m args below meth c Q D cy base lay c0 w0 C hd _ _ _ _ k H locs ls hP hZ hS hl => lv_ldc2 C.1 C.2.1 C.2.2.2.1 (C.2.2.2.2.1 _ hw) hd (k H locs ls hP hZ hS hl)⟩
theorem xs_iload_n {k : Fin 4} : xi_Go mi (.iload_n k) := by
  intro len pc lv st h fr' h' hlen hs
  obtain rfl : len = 1 := by simpa [xi_le, xi_ln] using hlen
  simp only [xi_s1, xi_ld] at hs
  cases hv : xi_a lv k with
  | none => rw [hv] at hs; cases hs
  | some v =>
    rw [hv] at hs
    by_cases hk : xi_vi v = true
    · simp only [hk, if_true] at hs
      cases hs
      cases v <;> try exact absurd hk Bool.false_ne_true
      exact ⟨xi_mo.rf _, fun p l e R s m args below meth c Q D cy base lay c0 w0 C hd _ _ _ _ k H locs ls hP hZ hS hl => lv_iload_n C.1 C.2.1 hd rfl (xi_lv_at hl hv) (k H locs ls hP hZ hS hl)⟩
    · simp only [hk] at hs
      cases hs
theorem xs_iload {k : Nat} : xi_Go mi (.iload k) := by
  intro len pc lv st h fr' h' hlen hs
  obtain rfl : len = 2 := by simpa [xi_le, xi_ln] using hlen
  simp only [xi_s1, xi_ld] at hs
  cases hv : xi_a lv k with
  | none => rw [hv] at hs; cases hs
  | some v =>
    rw [hv] at hs
    by_cases hk : xi_vi v = true
    · simp only [hk, if_true] at hs
      cases hs
      cases v <;> try exact absurd hk Bool.false_ne_true
      exact ⟨xi_mo.rf _, fun p l e R s m args below meth c Q D cy base lay c0 w0 C hd _ _ _ _ k H locs ls hP hZ hS hl => lv_iload C.1 C.2.1 hd (xi_lv_at hl hv) (k H locs ls hP hZ hS hl)⟩
    · simp only [hk] at hs
      cases hs
theorem xs_lload_n {k : Fin 4} : xi_Go mi (.lload_n k) := by
  intro len pc lv st h fr' h' hlen hs
  obtain rfl : len = 1 := by simpa [xi_le, xi_ln] using hlen
  simp only [xi_s1, xi_ld] at hs
  cases hv : xi_a lv k with
  | none => rw [hv] at hs; cases hs
  | some v =>
    rw [hv] at hs
    by_cases hk : xi_vl v = true
    · simp only [hk, if_true] at hs
      cases hs
      cases v <;> try exact absurd hk Bool.false_ne_true
      exact ⟨xi_mo.rf _, fun p l e R s m args below meth c Q D cy base lay c0 w0 C hd _ _ _ _ k H locs ls hP hZ hS hl => lv_lload_n C.1 C.2.1 hd rfl (xi_lv_at hl hv) (k H locs ls hP hZ hS hl)⟩
    · simp only [hk] at hs
      cases hs
theorem xs_lload {k : Nat} : xi_Go mi (.lload k) := by
  intro len pc lv st h fr' h' hlen hs
  obtain rfl : len = 2 := by simpa [xi_le, xi_ln] using hlen
  simp only [xi_s1, xi_ld] at hs
  cases hv : xi_a lv k with
  | none => rw [hv] at hs; cases hs
  | some v =>
    rw [hv] at hs
    by_cases hk : xi_vl v = true
    · simp only [hk, if_true] at hs
      cases hs
      cases v <;> try exact absurd hk Bool.false_ne_true
      exact ⟨xi_mo.rf _, fun p l e R s m args below meth c Q D cy base lay c0 w0 C hd _ _ _ _ k H locs ls hP hZ hS hl => lv_lload C.1 C.2.1 hd (xi_lv_at hl hv) (k H locs ls hP hZ hS hl)⟩
    · simp only [hk] at hs
      cases hs
theorem xs_fload_n {k : Fin 4} : xi_Go mi (.fload_n k) := by
  intro len pc lv st h fr' h' hlen hs
  obtain rfl : len = 1 := by simpa [xi_le, xi_ln] using hlen
  simp only [xi_s1, xi_ld] at hs
  cases hv : xi_a lv k with
  | none => rw [hv] at hs; cases hs
  | some v =>
    rw [hv] at hs
    by_cases hk : xi_vf v = true
    · simp only [hk, if_true] at hs
      cases hs
      cases v <;> try exact absurd hk Bool.false_ne_true
      exact ⟨xi_mo.rf _, fun p l e R s m args below meth c Q D cy base lay c0 w0 C hd _ _ _ _ k H locs ls hP hZ hS hl => lv_fload_n C.1 C.2.1 hd rfl (xi_lv_at hl hv) (k H locs ls hP hZ hS hl)⟩
    · simp only [hk] at hs
      cases hs
theorem xs_dload {k : Nat} : xi_Go mi (.dload k) := by
  intro len pc lv st h fr' h' hlen hs
  obtain rfl : len = 2 := by simpa [xi_le, xi_ln] using hlen
  simp only [xi_s1, xi_ld] at hs
  cases hv : xi_a lv k with
  | none => rw [hv] at hs; cases hs
  | some v =>
    rw [hv] at hs
    by_cases hk : xi_vd v = true
    · simp only [hk, if_true] at hs
      cases hs
      cases v <;> try exact absurd hk Bool.false_ne_true
      exact ⟨xi_mo.rf _, fun p l e R s m args below meth c Q D cy base lay c0 w0 C hd _ _ _ _ k H locs ls hP hZ hS hl => lv_dload C.1 C.2.1 hd (xi_lv_at hl hv) (k H locs ls hP hZ hS hl)⟩
    · simp only [hk] at hs
      cases hs
theorem xs_aload_n {k : Fin 4} : xi_Go mi (.aload_n k) := by
  intro len pc lv st h fr' h' hlen hs
  obtain rfl : len = 1 := by simpa [xi_le, xi_ln] using hlen
  simp only [xi_s1, xi_ld] at hs
  cases hv : xi_a lv k with
  | none => rw [hv] at hs; cases hs
  | some v =>
    rw [hv] at hs
    by_cases hk : xi_va v = true
    · simp only [hk, if_true] at hs
      cases hs
      cases v <;> try exact absurd hk Bool.false_ne_true
      exact ⟨xi_mo.rf _, fun p l e R s m args below meth c Q D cy base lay c0 w0 C hd _ _ _ _ k H locs ls hP hZ hS hl => lv_aload_n C.1 C.2.1 hd rfl (xi_lv_at hl hv) (k H locs ls hP hZ hS hl)⟩
    · simp only [hk] at hs
      cases hs
theorem xs_aload {k : Nat} : xi_Go mi (.aload k) := by
  intro len pc lv st h fr' h' hlen hs
  obtain rfl : len = 2 := by simpa [xi_le, xi_ln] using hlen
  simp only [xi_s1, xi_ld] at hs
  cases hv : xi_a lv k with
  | none => rw [hv] at hs; cases hs
  | some v =>
    rw [hv] at hs
    by_cases hk : xi_va v = true
    · simp only [hk, if_true] at hs
      cases hs
      cases v <;> try exact absurd hk Bool.false_ne_true
      exact ⟨xi_mo.rf _, fun p l e R s m args below meth c Q D cy base lay c0 w0 C hd _ _ _ _ k H locs ls hP hZ hS hl => lv_aload C.1 C.2.1 hd (xi_lv_at hl hv) (k H locs ls hP hZ hS hl)⟩
    · simp only [hk] at hs
      cases hs
theorem xs_istore_n {k : Fin 4} : xi_Go mi (.istore_n k) := by
  intro len pc lv st h fr' h' hlen hs
  obtain rfl : len = 1 := by simpa [xi_le, xi_ln] using hlen
  simp only [xi_s1, xi_s1s] at hs
  cases st with
  | nil => cases hs
  | cons v r =>
    dsimp only at hs
    split at hs
    · next hk =>
      cases hs
      obtain ⟨hk, hn⟩ := hk
      cases v <;> try exact absurd hk Bool.false_ne_true
      exact ⟨xi_mo.rf _, fun p l e R s m args below meth c Q D cy base lay c0 w0 C hd _ _ _ _ kk H locs ls hP hZ hS hl => lv_istore_n C.1 C.2.1 hd rfl hl hn (xi_lv_p1 (lay := lay) lv _ (.int _)) (fun ls' hl' => kk H locs ls' hP hZ hS hl')⟩
    · cases hs
theorem xs_istore {k : Nat} : xi_Go mi (.istore k) := by
  intro len pc lv st h fr' h' hlen hs
  obtain rfl : len = 2 := by simpa [xi_le, xi_ln] using hlen
  simp only [xi_s1, xi_s1s] at hs
  cases st with
  | nil => cases hs
  | cons v r =>
    dsimp only at hs
    split at hs
    · next hk =>
      cases hs
      obtain ⟨hk, hn⟩ := hk
      cases v <;> try exact absurd hk Bool.false_ne_true
      exact ⟨xi_mo.rf _, fun p l e R s m args below meth c Q D cy base lay c0 w0 C hd _ _ _ _ kk H locs ls hP hZ hS hl => lv_istore C.1 C.2.1 hd hl hn (xi_lv_p1 (lay := lay) lv _ (.int _)) (fun ls' hl' => kk H locs ls' hP hZ hS hl')⟩
    · cases hs
theorem xs_fstore_n {k : Fin 4} : xi_Go mi (.fstore_n k) := by
  intro len pc lv st h fr' h' hlen hs
  obtain rfl : len = 1 := by simpa [xi_le, xi_ln] using hlen
  simp only [xi_s1, xi_s1s] at hs
  cases st with
  | nil => cases hs
  | cons v r =>
    dsimp only at hs
    split at hs
    · next hk =>
      cases hs
      obtain ⟨hk, hn⟩ := hk
      cases v <;> try exact absurd hk Bool.false_ne_true
      exact ⟨xi_mo.rf _, fun p l e R s m args below meth c Q D cy base lay c0 w0 C hd _ _ _ _ kk H locs ls hP hZ hS hl => lv_fstore_n C.1 C.2.1 hd rfl hl hn (xi_lv_p1 (lay := lay) lv _ (.float _)) (fun ls' hl' => kk H locs ls' hP hZ hS hl')⟩
    · cases hs
theorem xs_astore_n {k : Fin 4} : xi_Go mi (.astore_n k) := by
  intro len pc lv st h fr' h' hlen hs
  obtain rfl : len = 1 := by simpa [xi_le, xi_ln] using hlen
  simp only [xi_s1, xi_s1s] at hs
  cases st with
  | nil => cases hs
  | cons v r =>
    dsimp only at hs
    split at hs
    · next hk =>
      cases hs
      obtain ⟨hk, hn⟩ := hk
      cases v <;> try exact absurd hk Bool.false_ne_true
      exact ⟨xi_mo.rf _, fun p l e R s m args below meth c Q D cy base lay c0 w0 C hd _ _ _ _ kk H locs ls hP hZ hS hl => lv_astore_n C.1 C.2.1 hd rfl hl hn (xi_lv_p1 (lay := lay) lv _ (.ref _)) (fun ls' hl' => kk H locs ls' hP hZ hS hl')⟩
    · cases hs
theorem xs_astore {k : Nat} : xi_Go mi (.astore k) := by
  intro len pc lv st h fr' h' hlen hs
  obtain rfl : len = 2 := by simpa [xi_le, xi_ln] using hlen
  simp only [xi_s1, xi_s1s] at hs
  cases st with
  | nil => cases hs
  | cons v r =>
    dsimp only at hs
    split at hs
    · next hk =>
      cases hs
      obtain ⟨hk, hn⟩ := hk
      cases v <;> try exact absurd hk Bool.false_ne_true
      exact ⟨xi_mo.rf _, fun p l e R s m args below meth c Q D cy base lay c0 w0 C hd _ _ _ _ kk H locs ls hP hZ hS hl => lv_astore C.1 C.2.1 hd hl hn (xi_lv_p1 (lay := lay) lv _ (.ref _)) (fun ls' hl' => kk H locs ls' hP hZ hS hl')⟩
    · cases hs
theorem xs_lstore_n {k : Fin 4} : xi_Go mi (.lstore_n k) := by
  intro len pc lv st h fr' h' hlen hs
  obtain rfl : len = 1 := by simpa [xi_le, xi_ln] using hlen
  simp only [xi_s1, xi_s2s] at hs
  cases st with
  | nil => cases hs
  | cons v r =>
    dsimp only at hs
    split at hs
    · next hk =>
      cases hs
      obtain ⟨hk, hn⟩ := hk
      cases v <;> try exact absurd hk Bool.false_ne_true
      exact ⟨xi_mo.rf _, fun p l e R s m args below meth c Q D cy base lay c0 w0 C hd _ _ _ _ kk H locs ls hP hZ hS hl => lv_lstore_n C.1 C.2.1 hd rfl hl hn (xi_lv_p2 (lay := lay) lv _ (.long _)) (fun ls' hl' => kk H locs ls' hP hZ hS hl')⟩
    · cases hs
theorem xs_lstore {k : Nat} : xi_Go mi (.lstore k) := by
  intro len pc lv st h fr' h' hlen hs
  obtain rfl : len = 2 := by simpa [xi_le, xi_ln] using hlen
  simp only [xi_s1, xi_s2s] at hs
  cases st with
  | nil => cases hs
  | cons v r =>
    dsimp only at hs
    split at hs
    · next hk =>
      cases hs
      obtain ⟨hk, hn⟩ := hk
      cases v <;> try exact absurd hk Bool.false_ne_true
      exact ⟨xi_mo.rf _, fun p l e R s m args below meth c Q D cy base lay c0 w0 C hd _ _ _ _ kk H locs ls hP hZ hS hl => lv_lstore C.1 C.2.1 hd hl hn (xi_lv_p2 (lay := lay) lv _ (.long _)) (fun ls' hl' => kk H locs ls' hP hZ hS hl')⟩
    · cases hs
theorem xs_dstore {k : Nat} : xi_Go mi (.dstore k) := by
  intro len pc lv st h fr' h' hlen hs
  obtain rfl : len = 2 := by simpa [xi_le, xi_ln] using hlen
  simp only [xi_s1, xi_s2s] at hs
  cases st with
  | nil => cases hs
  | cons v r =>
    dsimp only at hs
    split at hs
    · next hk =>
      cases hs
      obtain ⟨hk, hn⟩ := hk
      cases v <;> try exact absurd hk Bool.false_ne_true
      exact ⟨xi_mo.rf _, fun p l e R s m args below meth c Q D cy base lay c0 w0 C hd _ _ _ _ kk H locs ls hP hZ hS hl => lv_dstore C.1 C.2.1 hd hl hn (xi_lv_p2 (lay := lay) lv _ (.double _)) (fun ls' hl' => kk H locs ls' hP hZ hS hl')⟩
    · cases hs
theorem xs_iinc {k : Nat} {n : Int} : xi_Go mi (.iinc k n) := by
  intro len pc lv st h fr' h' hlen hs
  obtain rfl : len = 3 := by simpa [xi_le, xi_ln] using hlen
  simp only [xi_s1] at hs
  split at hs
  · next x hv =>
    split at hs
    · next hn =>
      cases hs
      refine ⟨xi_mo.rf _, fun p l e R s m args below meth c Q D cy base lay c0 w0 C hd _ _ _ _ kk H locs ls hP hZ hS hl => ?_⟩
      obtain ⟨j, hj⟩ := List.getElem?_of_mem (List.mem_map.mpr ⟨(k, Value.int x), xi_a_mem _ _ _ hv, rfl⟩ : (k, xi_tv lay (.int x)) ∈ xi_lv lay lv)
      exact lv_iinc C.1 C.2.1 hd hl hj rfl hn (xi_lv_p1 (lay := lay) lv _ (.int _)) (fun ls' hl' => kk H locs ls' hP hZ hS hl')
    · cases hs
  · cases hs
theorem xs_iadd  : xi_Go mi (.iadd) := by
  intro len pc lv st h fr' h' hlen hs
  obtain rfl : len = 1 := by simpa [xi_le, xi_ln] using hlen
  simp only [xi_s1, xi_ii] at hs
  split at hs
  · cases hs
    exact ⟨xi_mo.rf _, fun p l e R s m args below meth c Q D cy base lay c0 w0 C hd _ _ _ _ k H locs ls hP hZ hS hl => lv_iadd C.1 C.2.1 hd (k H locs ls hP hZ hS hl)⟩
  · cases hs
theorem xs_isub  : xi_Go mi (.isub) := by
  intro len pc lv st h fr' h' hlen hs
  obtain rfl : len = 1 := by simpa [xi_le, xi_ln] using hlen
  simp only [xi_s1, xi_ii] at hs
  split at hs
  · cases hs
    exact ⟨xi_mo.rf _, fun p l e R s m args below meth c Q D cy base lay c0 w0 C hd _ _ _ _ k H locs ls hP hZ hS hl => lv_isub C.1 C.2.1 hd (k H locs ls hP hZ hS hl)⟩
  · cases hs
theorem xs_imul  : xi_Go mi (.imul) := by
  intro len pc lv st h fr' h' hlen hs
  obtain rfl : len = 1 := by simpa [xi_le, xi_ln] using hlen
  simp only [xi_s1, xi_ii] at hs
  split at hs
  · cases hs
    exact ⟨xi_mo.rf _, fun p l e R s m args below meth c Q D cy base lay c0 w0 C hd _ _ _ _ k H locs ls hP hZ hS hl => lv_imul C.1 C.2.1 hd (k H locs ls hP hZ hS hl)⟩
  · cases hs
theorem xs_iand  : xi_Go mi (.iand) := by
  intro len pc lv st h fr' h' hlen hs
  obtain rfl : len = 1 := by simpa [xi_le, xi_ln] using hlen
  simp only [xi_s1, xi_ii] at hs
  split at hs
  · cases hs
    exact ⟨xi_mo.rf _, fun p l e R s m args below meth c Q D cy base lay c0 w0 C hd _ _ _ _ k H locs ls hP hZ hS hl => lv_iand C.1 C.2.1 hd (k H locs ls hP hZ hS hl)⟩
  · cases hs
theorem xs_ior  : xi_Go mi (.ior) := by
  intro len pc lv st h fr' h' hlen hs
  obtain rfl : len = 1 := by simpa [xi_le, xi_ln] using hlen
  simp only [xi_s1, xi_ii] at hs
  split at hs
  · cases hs
    exact ⟨xi_mo.rf _, fun p l e R s m args below meth c Q D cy base lay c0 w0 C hd _ _ _ _ k H locs ls hP hZ hS hl => lv_ior C.1 C.2.1 hd (k H locs ls hP hZ hS hl)⟩
  · cases hs
theorem xs_ixor  : xi_Go mi (.ixor) := by
  intro len pc lv st h fr' h' hlen hs
  obtain rfl : len = 1 := by simpa [xi_le, xi_ln] using hlen
  simp only [xi_s1, xi_ii] at hs
  split at hs
  · cases hs
    exact ⟨xi_mo.rf _, fun p l e R s m args below meth c Q D cy base lay c0 w0 C hd _ _ _ _ k H locs ls hP hZ hS hl => lv_ixor C.1 C.2.1 hd (k H locs ls hP hZ hS hl)⟩
  · cases hs
theorem xs_ishl  : xi_Go mi (.ishl) := by
  intro len pc lv st h fr' h' hlen hs
  obtain rfl : len = 1 := by simpa [xi_le, xi_ln] using hlen
  simp only [xi_s1, xi_ii] at hs
  split at hs
  · cases hs
    exact ⟨xi_mo.rf _, fun p l e R s m args below meth c Q D cy base lay c0 w0 C hd _ _ _ _ k H locs ls hP hZ hS hl => lv_ishl C.1 C.2.1 hd (k H locs ls hP hZ hS hl)⟩
  · cases hs
theorem xs_ishr  : xi_Go mi (.ishr) := by
  intro len pc lv st h fr' h' hlen hs
  obtain rfl : len = 1 := by simpa [xi_le, xi_ln] using hlen
  simp only [xi_s1, xi_ii] at hs
  split at hs
  · cases hs
    exact ⟨xi_mo.rf _, fun p l e R s m args below meth c Q D cy base lay c0 w0 C hd _ _ _ _ k H locs ls hP hZ hS hl => lv_ishr C.1 C.2.1 hd (k H locs ls hP hZ hS hl)⟩
  · cases hs
theorem xs_iushr  : xi_Go mi (.iushr) := by
  intro len pc lv st h fr' h' hlen hs
  obtain rfl : len = 1 := by simpa [xi_le, xi_ln] using hlen
  simp only [xi_s1, xi_ii] at hs
  split at hs
  · cases hs
    exact ⟨xi_mo.rf _, fun p l e R s m args below meth c Q D cy base lay c0 w0 C hd _ _ _ _ k H locs ls hP hZ hS hl => lv_iushr C.1 C.2.1 hd rfl (k H locs ls hP hZ hS hl)⟩
  · cases hs
theorem xs_idiv  : xi_Go mi (.idiv) := by
  intro len pc lv st h fr' h' hlen hs
  obtain rfl : len = 1 := by simpa [xi_le, xi_ln] using hlen
  simp only [xi_s1] at hs
  split at hs
  · split at hs
    · cases hs
    · next hn =>
      cases hs
      exact ⟨xi_mo.rf _, fun p l e R s m args below meth c Q D cy base lay c0 w0 C hd _ _ _ _ k H locs ls hP hZ hS hl => lv_idiv C.1 C.2.1 hd hn (k H locs ls hP hZ hS hl)⟩
  · cases hs
theorem xs_irem  : xi_Go mi (.irem) := by
  intro len pc lv st h fr' h' hlen hs
  obtain rfl : len = 1 := by simpa [xi_le, xi_ln] using hlen
  simp only [xi_s1] at hs
  split at hs
  · split at hs
    · cases hs
    · next hn =>
      cases hs
      exact ⟨xi_mo.rf _, fun p l e R s m args below meth c Q D cy base lay c0 w0 C hd _ _ _ _ k H locs ls hP hZ hS hl => lv_irem C.1 C.2.1 hd hn (k H locs ls hP hZ hS hl)⟩
  · cases hs
theorem xs_lrem  : xi_Go mi (.lrem) := by
  intro len pc lv st h fr' h' hlen hs
  obtain rfl : len = 1 := by simpa [xi_le, xi_ln] using hlen
  simp only [xi_s1] at hs
  split at hs
  · split at hs
    · cases hs
    · next hn =>
      cases hs
      exact ⟨xi_mo.rf _, fun p l e R s m args below meth c Q D cy base lay c0 w0 C hd _ _ _ _ k H locs ls hP hZ hS hl => lv_lrem C.1 C.2.1 hd hn (k H locs ls hP hZ hS hl)⟩
  · cases hs
theorem xs_lmul  : xi_Go mi (.lmul) := by
  intro len pc lv st h fr' h' hlen hs
  obtain rfl : len = 1 := by simpa [xi_le, xi_ln] using hlen
  simp only [xi_s1] at hs
  split at hs
  · cases hs
    exact ⟨xi_mo.rf _, fun p l e R s m args below meth c Q D cy base lay c0 w0 C hd _ _ _ _ k H locs ls hP hZ hS hl => lv_lmul C.1 C.2.1 hd (k H locs ls hP hZ hS hl)⟩
  · cases hs
theorem xs_lcmp  : xi_Go mi (.lcmp) := by
  intro len pc lv st h fr' h' hlen hs
  obtain rfl : len = 1 := by simpa [xi_le, xi_ln] using hlen
  simp only [xi_s1] at hs
  split at hs
  · cases hs
    exact ⟨xi_mo.rf _, fun p l e R s m args below meth c Q D cy base lay c0 w0 C hd _ _ _ _ k H locs ls hP hZ hS hl => W.lcmp C.1 C.2.1 hd (k H locs ls hP hZ hS hl)⟩
  · cases hs
theorem xs_i2l  : xi_Go mi (.i2l) := by
  intro len pc lv st h fr' h' hlen hs
  obtain rfl : len = 1 := by simpa [xi_le, xi_ln] using hlen
  simp only [xi_s1] at hs
  split at hs
  · cases hs
    exact ⟨xi_mo.rf _, fun p l e R s m args below meth c Q D cy base lay c0 w0 C hd _ _ _ _ k H locs ls hP hZ hS hl => lv_i2l C.1 C.2.1 hd rfl (k H locs ls hP hZ hS hl)⟩
  · cases hs
theorem xs_l2i  : xi_Go mi (.l2i) := by
  intro len pc lv st h fr' h' hlen hs
  obtain rfl : len = 1 := by simpa [xi_le, xi_ln] using hlen
  simp only [xi_s1] at hs
  split at hs
  · cases hs
    exact ⟨xi_mo.rf _, fun p l e R s m args below meth c Q D cy base lay c0 w0 C hd _ _ _ _ k H locs ls hP hZ hS hl => lv_l2i C.1 C.2.1 hd rfl (k H locs ls hP hZ hS hl)⟩
  · cases hs
theorem xs_i2f  : xi_Go mi (.i2f) := by
  intro len pc lv st h fr' h' hlen hs
  obtain rfl : len = 1 := by simpa [xi_le, xi_ln] using hlen
  simp only [xi_s1] at hs
  split at hs
  · cases hs
    exact ⟨xi_mo.rf _, fun p l e R s m args below meth c Q D cy base lay c0 w0 C hd _ _ _ _ k H locs ls hP hZ hS hl => lv_i2f C.1 C.2.1 hd (k H locs ls hP hZ hS hl)⟩
  · cases hs
theorem xs_dcmp {op : CmpOp} : xi_Go mi (.dcmp op) := by
  intro len pc lv st h fr' h' hlen hs
  obtain rfl : len = 1 := by simpa [xi_le, xi_ln] using hlen
  simp only [xi_s1] at hs
  split at hs
  · cases hs
    exact ⟨xi_mo.rf _, fun p l e R s m args below meth c Q D cy base lay c0 w0 C hd _ _ _ _ k H locs ls hP hZ hS hl => lv_dcmp C.1 C.2.1 hd (k H locs ls hP hZ hS hl)⟩
  · cases hs
theorem xs_fdiv  : xi_Go mi (.fdiv) := by
  intro len pc lv st h fr' h' hlen hs
  obtain rfl : len = 1 := by simpa [xi_le, xi_ln] using hlen
  simp only [xi_s1] at hs
  split at hs
  · split at hs
    · next hn =>
      cases hs
      exact ⟨xi_mo.rf _, fun p l e R s m args below meth c Q D cy base lay c0 w0 C hd _ _ _ _ k H locs ls hP hZ hS hl => lv_fdiv C.1 C.2.1 hd hn (k H locs ls hP hZ hS hl)⟩
    · cases hs
  · cases hs
theorem xs_f2d  : xi_Go mi (.f2d) := by
  intro len pc lv st h fr' h' hlen hs
  obtain rfl : len = 1 := by simpa [xi_le, xi_ln] using hlen
  simp only [xi_s1] at hs
  split at hs
  · split at hs
    · next hn =>
      cases hs
      exact ⟨xi_mo.rf _, fun p l e R s m args below meth c Q D cy base lay c0 w0 C hd _ _ _ _ k H locs ls hP hZ hS hl => lv_f2d C.1 C.2.1 hd hn (k H locs ls hP hZ hS hl)⟩
    · cases hs
  · cases hs
theorem xs_dup  : xi_Go mi (.dup) := by
  intro len pc lv st h fr' h' hlen hs
  obtain rfl : len = 1 := by simpa [xi_le, xi_ln] using hlen
  simp only [xi_s1] at hs
  split at hs
  · split at hs
    · next hn =>
      cases hs
      exact ⟨xi_mo.rf _, fun p l e R s m args below meth c Q D cy base lay c0 w0 C hd _ _ _ _ k H locs ls hP hZ hS hl => lv_dup C.1 C.2.1 hd ((xi_tv_cat _ _).trans hn) (k H locs ls hP hZ hS hl)⟩
    · cases hs
  · cases hs
theorem xs_pop  : xi_Go mi (.pop) := by
  intro len pc lv st h fr' h' hlen hs
  obtain rfl : len = 1 := by simpa [xi_le, xi_ln] using hlen
  simp only [xi_s1] at hs
  split at hs
  · split at hs
    · next hn =>
      cases hs
      exact ⟨xi_mo.rf _, fun p l e R s m args below meth c Q D cy base lay c0 w0 C hd _ _ _ _ k H locs ls hP hZ hS hl => lv_pop C.1 C.2.1 hd ((xi_tv_cat _ _).trans hn) (k H locs ls hP hZ hS hl)⟩
    · cases hs
  · cases hs
theorem xs_dup2  : xi_Go mi (.dup2) := by
  intro len pc lv st h fr' h' hlen hs
  obtain rfl : len = 1 := by simpa [xi_le, xi_ln] using hlen
  simp only [xi_s1] at hs
  split at hs
  · split at hs
    · next hn =>
      cases hs
      exact ⟨xi_mo.rf _, fun p l e R s m args below meth c Q D cy base lay c0 w0 C hd _ _ _ _ k H locs ls hP hZ hS hl => lv_dup2_11 C.1 C.2.1 hd ((xi_tv_cat _ _).trans hn.1) ((xi_tv_cat _ _).trans hn.2) (k H locs ls hP hZ hS hl)⟩
    · cases hs
  · cases hs
theorem xs_goto {off : Int} : xi_Go mi (.goto off) := by
  intro len pc lv st h fr' h' hlen hs
  obtain rfl : len = 3 := by simpa [xi_le, xi_ln] using hlen
  simp only [xi_s1] at hs
  obtain ⟨t, ht, rfl, rfl⟩ := xi_goE hs
  exact ⟨xi_mo.rf _, fun p l e R s m args below meth c Q D cy base lay c0 w0 C hd _ _ _ _ k H locs ls hP hZ hS hl => lv_goto C.1 C.2.1 hd ht (k H locs ls hP hZ hS hl)⟩
theorem xs_if_eq {off : Int} : ∀ (len pc : Nat) (lv : List (Nat × Value)) (st : List Value) (h : xHp) (fr' : xFr) (h' : xHp), 0 ≤ (pc : Int) + off → xi_le (.ifCond .eq off) len = true → xi_s1 (xi_own mi) (xi_mL mi) ((xi_y mi).name == "<init>") (.ifCond .eq off) pc lv st h = some (fr', h') → xi_mo h h' ∧ xi_Sd mi (.ifCond .eq off) len (pc, lv, st) h fr' h' := by
  intro len pc lv st h fr' h' ho hlen hs
  obtain rfl : len = 3 := by simpa [xi_le, xi_ln] using hlen
  simp only [xi_s1, xi_ifc] at hs
  split at hs
  · next x r =>
    by_cases hc : x = (0 : Int32)
    · rw [if_pos hc] at hs
      obtain ⟨t, ht, rfl, rfl⟩ := xi_goE hs
      exact ⟨xi_mo.rf _, fun p l e R s m args below meth c Q D cy base lay c0 w0 C hd _ _ _ _ k H locs ls hP hZ hS hl => lv_if_eq C.1 C.2.1 hd ht (fun _ => k H locs ls hP hZ hS hl) (fun hn => absurd hc hn)⟩
    · rw [if_neg hc] at hs
      cases hs
      exact ⟨xi_mo.rf _, fun p l e R s m args below meth c Q D cy base lay c0 w0 C hd _ _ _ _ k H locs ls hP hZ hS hl => lv_if_eq (tgt := xi_tg pc off) C.1 C.2.1 hd (xi_tg_ok ho) (fun hn => absurd hn hc) (fun _ => k H locs ls hP hZ hS hl)⟩
  · cases hs
theorem xs_if_ne {off : Int} : ∀ (len pc : Nat) (lv : List (Nat × Value)) (st : List Value) (h : xHp) (fr' : xFr) (h' : xHp), 0 ≤ (pc : Int) + off → xi_le (.ifCond .ne off) len = true → xi_s1 (xi_own mi) (xi_mL mi) ((xi_y mi).name == "<init>") (.ifCond .ne off) pc lv st h = some (fr', h') → xi_mo h h' ∧ xi_Sd mi (.ifCond .ne off) len (pc, lv, st) h fr' h' := by
  intro len pc lv st h fr' h' ho hlen hs
  obtain rfl : len = 3 := by simpa [xi_le, xi_ln] using hlen
  simp only [xi_s1, xi_ifc] at hs
  split at hs
  · next x r =>
    by_cases hc : x = (0 : Int32)
    · rw [if_pos hc] at hs
      cases hs
      exact ⟨xi_mo.rf _, fun p l e R s m args below meth c Q D cy base lay c0 w0 C hd _ _ _ _ k H locs ls hP hZ hS hl => lv_if_ne (tgt := xi_tg pc off) C.1 C.2.1 hd (xi_tg_ok ho) (fun hn => absurd hc hn) (fun _ => k H locs ls hP hZ hS hl)⟩
    · rw [if_neg hc] at hs
      obtain ⟨t, ht, rfl, rfl⟩ := xi_goE hs
      exact ⟨xi_mo.rf _, fun p l e R s m args below meth c Q D cy base lay c0 w0 C hd _ _ _ _ k H locs ls hP hZ hS hl => lv_if_ne C.1 C.2.1 hd ht (fun _ => k H locs ls hP hZ hS hl) (fun hn => absurd hn hc)⟩
  · cases hs
theorem xs_if_lt {off : Int} : ∀ (len pc : Nat) (lv : List (Nat × Value)) (st : List Value) (h : xHp) (fr' : xFr) (h' : xHp), 0 ≤ (pc : Int) + off → xi_le (.ifCond .lt off) len = true → xi_s1 (xi_own mi) (xi_mL mi) ((xi_y mi).name == "<init>") (.ifCond .lt off) pc lv st h = some (fr', h') → xi_mo h h' ∧ xi_Sd mi (.ifCond .lt off) len (pc, lv, st) h fr' h' := by
  intro len pc lv st h fr' h' ho hlen hs
  obtain rfl : len = 3 := by simpa [xi_le, xi_ln] using hlen
  simp only [xi_s1, xi_ifc] at hs
  split at hs
  · next x r =>
    by_cases hc : x < (0 : Int32)
    · rw [if_pos hc] at hs
      obtain ⟨t, ht, rfl, rfl⟩ := xi_goE hs
      exact ⟨xi_mo.rf _, fun p l e R s m args below meth c Q D cy base lay c0 w0 C hd _ _ _ _ k H locs ls hP hZ hS hl => lv_if_lt C.1 C.2.1 hd ht (fun _ => k H locs ls hP hZ hS hl) (fun hn => absurd hc hn)⟩
    · rw [if_neg hc] at hs
      cases hs
      exact ⟨xi_mo.rf _, fun p l e R s m args below meth c Q D cy base lay c0 w0 C hd _ _ _ _ k H locs ls hP hZ hS hl => lv_if_lt (tgt := xi_tg pc off) C.1 C.2.1 hd (xi_tg_ok ho) (fun hn => absurd hn hc) (fun _ => k H locs ls hP hZ hS hl)⟩
  · cases hs
theorem xs_if_ge {off : Int} : ∀ (len pc : Nat) (lv : List (Nat × Value)) (st : List Value) (h : xHp) (fr' : xFr) (h' : xHp), 0 ≤ (pc : Int) + off → xi_le (.ifCond .ge off) len = true → xi_s1 (xi_own mi) (xi_mL mi) ((xi_y mi).name == "<init>") (.ifCond .ge off) pc lv st h = some (fr', h') → xi_mo h h' ∧ xi_Sd mi (.ifCond .ge off) len (pc, lv, st) h fr' h' := by
  intro len pc lv st h fr' h' ho hlen hs
  obtain rfl : len = 3 := by simpa [xi_le, xi_ln] using hlen
  simp only [xi_s1, xi_ifc] at hs
  split at hs
  · next x r =>
    by_cases hc : (0 : Int32) ≤ x
    · rw [if_pos hc] at hs
      obtain ⟨t, ht, rfl, rfl⟩ := xi_goE hs
      exact ⟨xi_mo.rf _, fun p l e R s m args below meth c Q D cy base lay c0 w0 C hd _ _ _ _ k H locs ls hP hZ hS hl => lv_if_ge C.1 C.2.1 hd ht (fun _ => k H locs ls hP hZ hS hl) (fun hn => absurd hc hn)⟩
    · rw [if_neg hc] at hs
      cases hs
      exact ⟨xi_mo.rf _, fun p l e R s m args below meth c Q D cy base lay c0 w0 C hd _ _ _ _ k H locs ls hP hZ hS hl => lv_if_ge (tgt := xi_tg pc off) C.1 C.2.1 hd (xi_tg_ok ho) (fun hn => absurd hn hc) (fun _ => k H locs ls hP hZ hS hl)⟩
  · cases hs
theorem xs_if_gt {off : Int} : ∀ (len pc : Nat) (lv : List (Nat × Value)) (st : List Value) (h : xHp) (fr' : xFr) (h' : xHp), 0 ≤ (pc : Int) + off → xi_le (.ifCond .gt off) len = true → xi_s1 (xi_own mi) (xi_mL mi) ((xi_y mi).name == "<init>") (.ifCond .gt off) pc lv st h = some (fr', h') → xi_mo h h' ∧ xi_Sd mi (.ifCond .gt off) len (pc, lv, st) h fr' h' := by
  intro len pc lv st h fr' h' ho hlen hs
  obtain rfl : len = 3 := by simpa [xi_le, xi_ln] using hlen
  simp only [xi_s1, xi_ifc] at hs
  split at hs
  · next x r =>
    by_cases hc : (0 : Int32) < x
    · rw [if_pos hc] at hs
      obtain ⟨t, ht, rfl, rfl⟩ := xi_goE hs
      exact ⟨xi_mo.rf _, fun p l e R s m args below meth c Q D cy base lay c0 w0 C hd _ _ _ _ k H locs ls hP hZ hS hl => lv_if_gt C.1 C.2.1 hd ht (fun _ => k H locs ls hP hZ hS hl) (fun hn => absurd hc hn)⟩
    · rw [if_neg hc] at hs
      cases hs
      exact ⟨xi_mo.rf _, fun p l e R s m args below meth c Q D cy base lay c0 w0 C hd _ _ _ _ k H locs ls hP hZ hS hl => lv_if_gt (tgt := xi_tg pc off) C.1 C.2.1 hd (xi_tg_ok ho) (fun hn => absurd hn hc) (fun _ => k H locs ls hP hZ hS hl)⟩
  · cases hs
theorem xs_if_le {off : Int} : ∀ (len pc : Nat) (lv : List (Nat × Value)) (st : List Value) (h : xHp) (fr' : xFr) (h' : xHp), 0 ≤ (pc : Int) + off → xi_le (.ifCond .le off) len = true → xi_s1 (xi_own mi) (xi_mL mi) ((xi_y mi).name == "<init>") (.ifCond .le off) pc lv st h = some (fr', h') → xi_mo h h' ∧ xi_Sd mi (.ifCond .le off) len (pc, lv, st) h fr' h' := by
  intro len pc lv st h fr' h' ho hlen hs
  obtain rfl : len = 3 := by simpa [xi_le, xi_ln] using hlen
  simp only [xi_s1, xi_ifc] at hs
  split at hs
  · next x r =>
    by_cases hc : x ≤ (0 : Int32)
    · rw [if_pos hc] at hs
      obtain ⟨t, ht, rfl, rfl⟩ := xi_goE hs
      exact ⟨xi_mo.rf _, fun p l e R s m args below meth c Q D cy base lay c0 w0 C hd _ _ _ _ k H locs ls hP hZ hS hl => lv_if_le C.1 C.2.1 hd ht (fun _ => k H locs ls hP hZ hS hl) (fun hn => absurd hc hn)⟩
    · rw [if_neg hc] at hs
      cases hs
      exact ⟨xi_mo.rf _, fun p l e R s m args below meth c Q D cy base lay c0 w0 C hd _ _ _ _ k H locs ls hP hZ hS hl => lv_if_le (tgt := xi_tg pc off) C.1 C.2.1 hd (xi_tg_ok ho) (fun hn => absurd hn hc) (fun _ => k H locs ls hP hZ hS hl)⟩
  · cases hs
theorem xs_icmp_eq {off : Int} : ∀ (len pc : Nat) (lv : List (Nat × Value)) (st : List Value) (h : xHp) (fr' : xFr) (h' : xHp), 0 ≤ (pc : Int) + off → xi_le (.if_icmp .eq off) len = true → xi_s1 (xi_own mi) (xi_mL mi) ((xi_y mi).name == "<init>") (.if_icmp .eq off) pc lv st h = some (fr', h') → xi_mo h h' ∧ xi_Sd mi (.if_icmp .eq off) len (pc, lv, st) h fr' h' := by
  intro len pc lv st h fr' h' ho hlen hs
  obtain rfl : len = 3 := by simpa [xi_le, xi_ln] using hlen
  simp only [xi_s1, xi_ifc] at hs
  split at hs
  · next y x r =>
    by_cases hc : x = y
    · rw [if_pos hc] at hs
      obtain ⟨t, ht, rfl, rfl⟩ := xi_goE hs
      exact ⟨xi_mo.rf _, fun p l e R s m args below meth c Q D cy base lay c0 w0 C hd _ _ _ _ k H locs ls hP hZ hS hl => lv_icmp_eq C.1 C.2.1 hd ht (fun _ => k H locs ls hP hZ hS hl) (fun hn => absurd hc hn)⟩
    · rw [if_neg hc] at hs
      cases hs
      exact ⟨xi_mo.rf _, fun p l e R s m args below meth c Q D cy base lay c0 w0 C hd _ _ _ _ k H locs ls hP hZ hS hl => lv_icmp_eq (tgt := xi_tg pc off) C.1 C.2.1 hd (xi_tg_ok ho) (fun hn => absurd hn hc) (fun _ => k H locs ls hP hZ hS hl)⟩
  · cases hs
theorem xs_icmp_ne {off : Int} : ∀ (len pc : Nat) (lv : List (Nat × Value)) (st : List Value) (h : xHp) (fr' : xFr) (h' : xHp), 0 ≤ (pc : Int) + off → xi_le (.if_icmp .ne off) len = true → xi_s1 (xi_own mi) (xi_mL mi) ((xi_y mi).name == "<init>") (.if_icmp .ne off) pc lv st h = some (fr', h') → xi_mo h h' ∧ xi_Sd mi (.if_icmp .ne off) len (pc, lv, st) h fr' h' := by
  intro len pc lv st h fr' h' ho hlen hs
  obtain rfl : len = 3 := by simpa [xi_le, xi_ln] using hlen
  simp only [xi_s1, xi_ifc] at hs
  split at hs
  · next y x r =>
    by_cases hc : x = y
    · rw [if_pos hc] at hs
      cases hs
      exact ⟨xi_mo.rf _, fun p l e R s m args below meth c Q D cy base lay c0 w0 C hd _ _ _ _ k H locs ls hP hZ hS hl => lv_icmp_ne (tgt := xi_tg pc off) C.1 C.2.1 hd (xi_tg_ok ho) (fun hn => absurd hc hn) (fun _ => k H locs ls hP hZ hS hl)⟩
    · rw [if_neg hc] at hs
      obtain ⟨t, ht, rfl, rfl⟩ := xi_goE hs
      exact ⟨xi_mo.rf _, fun p l e R s m args below meth c Q D cy base lay c0 w0 C hd _ _ _ _ k H locs ls hP hZ hS hl => lv_icmp_ne C.1 C.2.1 hd ht (fun _ => k H locs ls hP hZ hS hl) (fun hn => absurd hn hc)⟩
  · cases hs
theorem xs_icmp_lt {off : Int} : ∀ (len pc : Nat) (lv : List (Nat × Value)) (st : List Value) (h : xHp) (fr' : xFr) (h' : xHp), 0 ≤ (pc : Int) + off → xi_le (.if_icmp .lt off) len = true → xi_s1 (xi_own mi) (xi_mL mi) ((xi_y mi).name == "<init>") (.if_icmp .lt off) pc lv st h = some (fr', h') → xi_mo h h' ∧ xi_Sd mi (.if_icmp .lt off) len (pc, lv, st) h fr' h' := by
  intro len pc lv st h fr' h' ho hlen hs
  obtain rfl : len = 3 := by simpa [xi_le, xi_ln] using hlen
  simp only [xi_s1, xi_ifc] at hs
  split at hs
  · next y x r =>
    by_cases hc : x < y
    · rw [if_pos hc] at hs
      obtain ⟨t, ht, rfl, rfl⟩ := xi_goE hs
      exact ⟨xi_mo.rf _, fun p l e R s m args below meth c Q D cy base lay c0 w0 C hd _ _ _ _ k H locs ls hP hZ hS hl => lv_icmp_lt C.1 C.2.1 hd ht (fun _ => k H locs ls hP hZ hS hl) (fun hn => absurd hc hn)⟩
    · rw [if_neg hc] at hs
      cases hs
      exact ⟨xi_mo.rf _, fun p l e R s m args below meth c Q D cy base lay c0 w0 C hd _ _ _ _ k H locs ls hP hZ hS hl => lv_icmp_lt (tgt := xi_tg pc off) C.1 C.2.1 hd (xi_tg_ok ho) (fun hn => absurd hn hc) (fun _ => k H locs ls hP hZ hS hl)⟩
  · cases hs
theorem xs_icmp_ge {off : Int} : ∀ (len pc : Nat) (lv : List (Nat × Value)) (st : List Value) (h : xHp) (fr' : xFr) (h' : xHp), 0 ≤ (pc : Int) + off → xi_le (.if_icmp .ge off) len = true → xi_s1 (xi_own mi) (xi_mL mi) ((xi_y mi).name == "<init>") (.if_icmp .ge off) pc lv st h = some (fr', h') → xi_mo h h' ∧ xi_Sd mi (.if_icmp .ge off) len (pc, lv, st) h fr' h' := by
  intro len pc lv st h fr' h' ho hlen hs
  obtain rfl : len = 3 := by simpa [xi_le, xi_ln] using hlen
  simp only [xi_s1, xi_ifc] at hs
  split at hs
  · next y x r =>
    by_cases hc : y ≤ x
    · rw [if_pos hc] at hs
      obtain ⟨t, ht, rfl, rfl⟩ := xi_goE hs
      exact ⟨xi_mo.rf _, fun p l e R s m args below meth c Q D cy base lay c0 w0 C hd _ _ _ _ k H locs ls hP hZ hS hl => lv_icmp_ge C.1 C.2.1 hd ht (fun _ => k H locs ls hP hZ hS hl) (fun hn => absurd hc hn)⟩
    · rw [if_neg hc] at hs
      cases hs
      exact ⟨xi_mo.rf _, fun p l e R s m args below meth c Q D cy base lay c0 w0 C hd _ _ _ _ k H locs ls hP hZ hS hl => lv_icmp_ge (tgt := xi_tg pc off) C.1 C.2.1 hd (xi_tg_ok ho) (fun hn => absurd hn hc) (fun _ => k H locs ls hP hZ hS hl)⟩
  · cases hs
theorem xs_icmp_gt {off : Int} : ∀ (len pc : Nat) (lv : List (Nat × Value)) (st : List Value) (h : xHp) (fr' : xFr) (h' : xHp), 0 ≤ (pc : Int) + off → xi_le (.if_icmp .gt off) len = true → xi_s1 (xi_own mi) (xi_mL mi) ((xi_y mi).name == "<init>") (.if_icmp .gt off) pc lv st h = some (fr', h') → xi_mo h h' ∧ xi_Sd mi (.if_icmp .gt off) len (pc, lv, st) h fr' h' := by
  intro len pc lv st h fr' h' ho hlen hs
  obtain rfl : len = 3 := by simpa [xi_le, xi_ln] using hlen
  simp only [xi_s1, xi_ifc] at hs
  split at hs
  · next y x r =>
    by_cases hc : y < x
    · rw [if_pos hc] at hs
      obtain ⟨t, ht, rfl, rfl⟩ := xi_goE hs
      exact ⟨xi_mo.rf _, fun p l e R s m args below meth c Q D cy base lay c0 w0 C hd _ _ _ _ k H locs ls hP hZ hS hl => lv_icmp_gt C.1 C.2.1 hd ht (fun _ => k H locs ls hP hZ hS hl) (fun hn => absurd hc hn)⟩
    · rw [if_neg hc] at hs
      cases hs
      exact ⟨xi_mo.rf _, fun p l e R s m args below meth c Q D cy base lay c0 w0 C hd _ _ _ _ k H locs ls hP hZ hS hl => lv_icmp_gt (tgt := xi_tg pc off) C.1 C.2.1 hd (xi_tg_ok ho) (fun hn => absurd hn hc) (fun _ => k H locs ls hP hZ hS hl)⟩
  · cases hs
theorem xs_icmp_le {off : Int} : ∀ (len pc : Nat) (lv : List (Nat × Value)) (st : List Value) (h : xHp) (fr' : xFr) (h' : xHp), 0 ≤ (pc : Int) + off → xi_le (.if_icmp .le off) len = true → xi_s1 (xi_own mi) (xi_mL mi) ((xi_y mi).name == "<init>") (.if_icmp .le off) pc lv st h = some (fr', h') → xi_mo h h' ∧ xi_Sd mi (.if_icmp .le off) len (pc, lv, st) h fr' h' := by
  intro len pc lv st h fr' h' ho hlen hs
  obtain rfl : len = 3 := by simpa [xi_le, xi_ln] using hlen
  simp only [xi_s1, xi_ifc] at hs
  split at hs
  · next y x r =>
    by_cases hc : x ≤ y
    · rw [if_pos hc] at hs
      obtain ⟨t, ht, rfl, rfl⟩ := xi_goE hs
      exact ⟨xi_mo.rf _, fun p l e R s m args below meth c Q D cy base lay c0 w0 C hd _ _ _ _ k H locs ls hP hZ hS hl => lv_icmp_le C.1 C.2.1 hd ht (fun _ => k H locs ls hP hZ hS hl) (fun hn => absurd hc hn)⟩
    · rw [if_neg hc] at hs
      cases hs
      exact ⟨xi_mo.rf _, fun p l e R s m args below meth c Q D cy base lay c0 w0 C hd _ _ _ _ k H locs ls hP hZ hS hl => lv_icmp_le (tgt := xi_tg pc off) C.1 C.2.1 hd (xi_tg_ok ho) (fun hn => absurd hn hc) (fun _ => k H locs ls hP hZ hS hl)⟩
  · cases hs
theorem xs_tableswitch {dflt lo hi : Int} {offs : Array Int} : xi_Go mi (.tableswitch dflt lo hi offs) := by
  intro len pc lv st h fr' h' hlen hs
  simp only [xi_s1] at hs
  split at hs
  · split at hs
    · next hc =>
      obtain ⟨t, ht, rfl, rfl⟩ := xi_goE hs
      exact ⟨xi_mo.rf _, fun p l e R s m args below meth c Q D cy base lay c0 w0 C hd _ _ _ _ k H locs ls hP hZ hS hl => lv_tableOut C.1 C.2.1 hd hc ht (k H locs ls hP hZ hS hl)⟩
    · next hc =>
      split at hs
      · next off ho =>
        obtain ⟨t, ht, rfl, rfl⟩ := xi_goE hs
        exact ⟨xi_mo.rf _, fun p l e R s m args below meth c Q D cy base lay c0 w0 C hd _ _ _ _ k H locs ls hP hZ hS hl => lv_tableIn C.1 C.2.1 hd (fun q => hc (Or.inl q)) (fun q => hc (Or.inr q)) ho ht (k H locs ls hP hZ hS hl)⟩
      · cases hs
  · cases hs
theorem xs_lookupswitch {dflt : Int} {ps : Array (Int × Int)} : xi_Go mi (.lookupswitch dflt ps) := by
  intro len pc lv st h fr' h' hlen hs
  simp only [xi_s1] at hs
  split at hs
  · split at hs
    · next hc =>
      obtain ⟨t, ht, rfl, rfl⟩ := xi_goE hs
      exact ⟨xi_mo.rf _, fun p l e R s m args below meth c Q D cy base lay c0 w0 C hd _ _ _ _ k H locs ls hP hZ hS hl => lv_lookup C.1 C.2.1 hd hc rfl ht (k H locs ls hP hZ hS hl)⟩
    · cases hs
  · cases hs
end
end
section
theorem xi_one {D : va_G} {cl : List vw_C} {q : Nat × va_E} {H : Heap} (h : va_at D cl q H) : va_P D cl [q] H := fun k x hx => by
  have hz : k < 1 := (List.getElem?_eq_some_iff.mp hx).1
  rw [show k = 0 by omega] at hx
  cases hx
  exact h
theorem xi_lay_ne {base : Nat} {lay : Nat → Nat} (hl : xi_lay base lay) {i j : Nat} (hi : i < 900000) (hj : j < 900000) (h : i ≠ j) : lay i ≠ lay j := by
  rw [hl i hi, hl j hj]
  omega
theorem xi_P_set {D : va_G} {cy : Nat → ClassId} {lay : Nat → Nat} {base : Nat} {h h' : xHp} {H H1 : Heap} {a : Nat} (hl : xi_lay base lay) (hZ : xi_Z base h H) (hP : xi_P D cy lay h H) (ha : a < hN h) (hN' : hN h' = hN h) (hat : va_at D vwCl (lay a, xi_en cy lay h' a) H1) (hs : ∀ i, i ≠ a → xi_en cy lay h' i = xi_en cy lay h i) (ho : ∀ q : Nat, q ≠ lay a → H1[q]? = H[q]?) : xi_P D cy lay h' H1 := by
  intro i hi
  by_cases e : i = a
  · subst e
    exact hat
  · rw [hs i e]
    rw [hN'] at hi
    have := hZ.2.2
    exact (hP i hi).kept (ho _ (xi_lay_ne hl (by omega) (by omega) e))
theorem xi_u2_ne {α : Type} (f : Nat → Nat → α) {a k : Nat} {v : α} {i : Nat} (h : i ≠ a) : xi_u2 f a k v i = f i := by
  funext j
  simp [xi_u2, h]
theorem xi_en_cg {cy : Nat → ClassId} {lay : Nat → Nat} {h h' : xHp} {i : Nat} (hk : hK h' i = hK h i) (hi : hI h' i = hI h i) (hj : hJ h' i = hJ h i) (hr : hR h' i = hR h i) : xi_en cy lay h' i = xi_en cy lay h i := by
  have e : ∀ c, xi_ev lay h' i c = xi_ev lay h i c := fun c => by
    funext k
    unfold xi_ev
    rw [hi, hr]
  unfold xi_en
  rw [hk, hi, hj, hr, e]
theorem xi_Z_set {base : Nat} {h h' : xHp} {H H1 : Heap} (hZ : xi_Z base h H) (h1 : h'.1 = h.1) (hz : H1.size = H.size) : xi_Z base h' H1 := by
  obtain ⟨a, b, c⟩ := hZ
  refine ⟨fun hf => ?_, ?_, ?_⟩
  · rw [hz, show hN h' = hN h from congrArg (fun x => x.2.1) h1]
    exact a ((congrArg (fun x => x.1) h1).symm.trans hf)
  · rw [hz, show hN h' = hN h from congrArg (fun x => x.2.1) h1]
    exact b
  · rw [show hN h' = hN h from congrArg (fun x => x.2.1) h1]
    exact c
theorem xi_in_sp {h : xHp} {a k : Nat} {i : Int32} (hi : xi_in h a k i = true) : ¬ i < 0 ∧ a < hN h ∧ (hK h a).1 = k ∧ i.toNatClampNeg < (hK h a).2 := by
  unfold xi_in at hi
  simp only [Bool.and_eq_true, Bool.not_eq_true', decide_eq_false_iff_not, decide_eq_true_eq] at hi
  exact ⟨hi.1.1.1, hi.1.1.2, hi.1.2, hi.2⟩
theorem xi_rv_tv (lay : Nat → Nat) (r : Option Nat) : xi_tv lay (xi_rv r) = va_rf (r.map lay) := by cases r <;> rfl
theorem ok_ty : ∀ c, c < 8 → ∀ k, k < xi_nf c → xi_rf c k = false → (xi_ty c k = .int ∨ xi_ty c k = .boolean ∧ xi_bo c k = true) := by decide +kernel
theorem xi_ty_r {c k : Nat} (h : xi_rf c k = true) (q : Nat) : narrow (xi_ty c k) (.ref q) = .ref q ∧ fits (xi_ty c k) (.ref q) = true := by
  unfold xi_rf at h
  cases e : xi_ty c k <;> rw [e] at h <;> first | exact absurd h Bool.false_ne_true | exact ⟨rfl, rfl⟩
theorem xi_ty_i {c k : Nat} (hc : c < 8) (hk : k < xi_nf c) (h : xi_rf c k = false) {x : Int32} (hx : xi_bo c k = false ∨ x = 0 ∨ x = 1) : narrow (xi_ty c k) (.int x) = .int x ∧ fits (xi_ty c k) (.int x) = true := by
  rcases ok_ty c hc k hk h with e | ⟨e, e2⟩
  · rw [e]
    exact ⟨rfl, rfl⟩
  · rw [e]
    rcases hx with hx | rfl | rfl
    · rw [e2] at hx
      cases hx
    · exact ⟨by decide, by decide⟩
    · exact ⟨by decide, by decide⟩
theorem xi_map_get {f : Nat → Value} {n k : Nat} (hk : k < n) : ((List.range n).map f)[k]? = some (f k) := by
  rw [List.getElem?_map, List.getElem?_range hk]
  rfl
theorem xi_map_set {f g : Nat → Value} {n k : Nat} {v : Value} (hv : g k = v) (hg : ∀ j, j ≠ k → g j = f j) : ((List.range n).map f).set k v = (List.range n).map g := by
  apply List.ext_getElem?
  intro j
  rw [List.getElem?_set]
  by_cases e : k = j
  · subst e
    rw [if_pos rfl]
    by_cases hk : k < n
    · rw [if_pos (by simpa using hk), xi_map_get hk, hv]
    · rw [if_neg (by simpa using hk), List.getElem?_eq_none (by simpa using hk)]
  · rw [if_neg e]
    by_cases hj : j < n
    · rw [xi_map_get hj, xi_map_get hj, hg j (fun q => e q.symm)]
    · rw [List.getElem?_eq_none (by simpa using hj), List.getElem?_eq_none (by simpa using hj)]
section
variable {p : Program} {l : Launch} {e : Env} {R : Room} {s : State} {m : MethodId} {args : Array Value} {below : List Frame} {meth : Method} {c : Code} {H : Heap} {locs : List Loc} {cells slots : Nat} {Q : State → Prop}
variable {cc : ByteArray} {pc : Nat} {ls : Array Slot} {rest : List Value} {D : va_G} {cl : List vw_C} {a : Nat} {tys : List (ClassId × FieldType)}
theorem xr_put (hexec : p.tables.exec = Jvm.exec) (hb : c.code = cc) {own C : String} {T : u_T} {N ci index : Nat} {Ts : List Cond} (hts : ∀ w ∈ Ts, w.before args s = true) (hin : ∀ w ∈ u_ws C T N, w ∈ Ts) (ty0 : Nat → FieldType) (hty : ∀ k, k < N → parseFieldDescriptor (T k).2.2.1 = some (ty0 k)) (hnm : ∀ a, a < N → ∀ b, b < N → a ≠ b → (T a).2.1 ≠ (T b).2.1) (hown : s.vm.findClass own = some m.cls)
    (hK : va_K D cl tys s) {fs : List Value} (hat : va_at D cl (a, .inr (ci, fs)) H) (hc : cl[ci]? = some (C, T, N)) (k : Nat) (hk : k < N) (hlink : (Cond.fieldLink own index (T k).1 (T k).2.1 (T k).2.2.1).before args s = true) (hfin : (T k).2.2.2 = false ∨ (meth.name = "<init>" ∧ (T k).1 = own)) {v : Value} (hn : narrow (ty0 k) v = v) (hfit : fits (ty0 k) v = true) (hl : k < fs.length)
    (hdg : decode cc pc = .ok (.putfield index, 3)) (kk : ∀ (H1 : Heap) (sl : Nat), va_at D cl (a, .inr (ci, fs.set k v)) H1 → H1.size = H.size → (∀ q : Nat, q ≠ a → H1[q]? = H[q]?) → W p l e R s m args below meth c H1 (locs ++ [⟨a, sl⟩]) cells slots Q (F0 m (pc + 3) ls rest)) : W p l e R s m args below meth c H locs cells slots Q (F0 m pc ls (v :: .ref a :: rest)) := by
  have hap := va_apart (own := own) hts hin ty0 hty hnm hK hc
  obtain ⟨r, h1, cell, q1, q2, q3, q4⟩ := hat
  have hr : r = (C, T, N) := Option.some.inj (h1.symm.trans hc)
  subst hr
  obtain ⟨hS, hfc, kC, hkC, hkind⟩ := hK.1 ci _ hc
  obtain ⟨cf, kf, fi, f, hi, hsl⟩ := hS k hk
  have hlay := hts _ (hin _ (u_in_lay hk))
  have hst := (u_facts hfc hkC (u_lays hts hin hk) hi).1
  have hd := hty k hk
  unfold u_lay at hlay
  by_cases hf : (T k).2.2.2 = true
  · rw [if_pos hf] at hlay
    obtain ⟨hin2, hdecl⟩ : meth.name = "<init>" ∧ (T k).1 = own := by
      rcases hfin with h9 | h9
      · rw [hf] at h9
        cases h9
      · exact h9
    have hcf : m.cls = cf := by
      obtain ⟨_, _, c', _, _, _, -, -, hf', -, -, -, hown2, -⟩ := Cond.laysFinal_spec hlay
      have e1 : c' = cf := by have := hi.symm.trans hf'; simp at this; exact this.1.symm
      rw [hdecl] at hown2
      rw [← e1]; exact Option.some.inj (hown.symm.trans hown2)
    have h6 := u_fits hfc hkC hkind (Or.inr hlay) hi hd hn hfit
    refine W.putFinK hexec hb hown hlink hi hst hcf hin2 (by rw [q2]; exact h6) q1 q3 (by rw [hsl]; exact k2_hasslot (q4 k hk)) rfl rfl hdg fun H' e1 e2 e3 => ?_
    rw [hsl] at e1 ⊢
    exact kk H' _ ⟨_, hc, t_OB.to (V := updV (vp_V fs) k v) ⟨_, e1, q2, q3, t_set q4 hap hk v⟩ (fun j _ => vp_updV_set hl v j)⟩ e2 e3
  · rw [if_neg hf] at hlay
    have h6 := u_store hfc hkC hkind hlay hi hd hn hfit
    refine W.putK hexec hb (f := f) ⟨hown, hlink, ⟨_, _, _, hi⟩, hst⟩ (by rw [q2]; exact h6) q1 q3 (by rw [hsl]; exact k2_hasslot (q4 k hk)) rfl rfl hdg fun H' e1 e2 e3 => ?_
    rw [hsl] at e1 ⊢
    exact kk H' _ ⟨_, hc, t_OB.to (V := updV (vp_V fs) k v) ⟨_, e1, q2, q3, t_set q4 hap hk v⟩ (fun j _ => vp_updV_set hl v j)⟩ e2 e3
theorem xr_iast (hexec : p.tables.exec = Jvm.exec) (hb : c.code = cc) (hK : va_K D cl tys s) (t0 : Nat) {cA : ClassId} {n : Nat} {f : Nat → Int32} (hat : va_at D cl (a, .inl (cA, n, .inl f)) H) (ht : tys[t0]? = some (cA, .int)) {i : Int32} {x : Int32} (hin : vp_in i n) (hdg : decode cc pc = .ok (.iastore, 1))
    (kk : ∀ (H1 : Heap) (sl : Nat), va_at D cl (a, .inl (cA, n, .inl (upd f i.toNatClampNeg x))) H1 → H1.size = H.size → (∀ q : Nat, q ≠ a → H1[q]? = H[q]?) → W p l e R s m args below meth c H1 (locs ++ [⟨a, sl⟩]) cells slots Q (F0 m (pc + 1) ls rest)) : W p l e R s m args below meth c H locs cells slots Q (F0 m pc ls (.int x :: .int i :: .ref a :: rest)) := by
  refine W.iast hexec hb hat ((hK.2 t0 _ ht).1 n (fun j => .int (f j))) (fun q => by cases q) (by show ¬ (i < 0 ∨ (arrV _ _ _).slots.size ≤ _); rw [arrV_size]; exact hin) rfl rfl hdg fun H1 e z oq => ?_
  refine kk H1 _ ?_ z oq
  show H1[a]? = some (vp_cell _ _)
  rw [e]
  rw [vp_cell_i, vp_cell_i, arrV_store]
  congr 2
  funext q
  by_cases hq : q = i.toNatClampNeg
  · subst hq
    simp [updV, upd]
  · simp [updV, upd, hq]
theorem xr_zast (hexec : p.tables.exec = Jvm.exec) (hb : c.code = cc) (hK : va_K D cl tys s) (t0 : Nat) {cA : ClassId} {n : Nat} {f : Nat → Int32} (hat : va_at D cl (a, .inl (cA, n, .inl f)) H) (ht : tys[t0]? = some (cA, .boolean)) {i : Int32} {x : Int32} (hin : vp_in i n) (hdg : decode cc pc = .ok (.bastore, 1))
    (kk : ∀ (H1 : Heap) (sl : Nat), va_at D cl (a, .inl (cA, n, .inl (upd f i.toNatClampNeg (vp_nar .boolean x)))) H1 → H1.size = H.size → (∀ q : Nat, q ≠ a → H1[q]? = H[q]?) → W p l e R s m args below meth c H1 (locs ++ [⟨a, sl⟩]) cells slots Q (F0 m (pc + 1) ls rest)) : W p l e R s m args below meth c H locs cells slots Q (F0 m pc ls (.int x :: .int i :: .ref a :: rest)) := by
  refine W.zast hexec hb hat ((hK.2 t0 _ ht).1 n (fun j => .int (f j))) (fun q => by cases q) (by show ¬ (i < 0 ∨ (arrV _ _ _).slots.size ≤ _); rw [arrV_size]; exact hin) rfl rfl hdg fun H1 e z oq => ?_
  refine kk H1 _ ?_ z oq
  show H1[a]? = some (vp_cell _ _)
  rw [e]
  rw [vp_cell_i, vp_cell_i, arrV_store]
  congr 2
  funext q
  by_cases hq : q = i.toNatClampNeg
  · subst hq
    simp [updV, upd, vp_nar]
    try rfl
  · simp [updV, upd, hq]
theorem xr_last (hexec : p.tables.exec = Jvm.exec) (hb : c.code = cc) (hK : va_K D cl tys s) (t0 : Nat) {cA : ClassId} {n : Nat} {f : Nat → Int64} (hat : va_at D cl (a, .inl (cA, n, .inr (.inl f))) H) (ht : tys[t0]? = some (cA, .long)) {i : Int32} {x : Int64} (hin : vp_in i n) (hdg : decode cc pc = .ok (.lastore, 1))
    (kk : ∀ (H1 : Heap) (sl : Nat), va_at D cl (a, .inl (cA, n, .inr (.inl (vp_updL f i.toNatClampNeg x)))) H1 → H1.size = H.size → (∀ q : Nat, q ≠ a → H1[q]? = H[q]?) → W p l e R s m args below meth c H1 (locs ++ [⟨a, sl⟩]) cells slots Q (F0 m (pc + 1) ls rest)) : W p l e R s m args below meth c H locs cells slots Q (F0 m pc ls (.long x :: .int i :: .ref a :: rest)) := by
  refine W.last hexec hb hat ((hK.2 t0 _ ht).1 n (fun j => .long (f j))) (fun q => by cases q) (by show ¬ (i < 0 ∨ (arrV _ _ _).slots.size ≤ _); rw [arrV_size]; exact hin) rfl rfl hdg fun H1 e z oq => ?_
  refine kk H1 _ ?_ z oq
  show H1[a]? = some (vp_cell _ _)
  rw [e]
  rw [vp_cell_l, vp_cell_l, arrV_store]
  congr 2
  funext q
  by_cases hq : q = i.toNatClampNeg
  · subst hq
    simp [updV, vp_updL]
  · simp [updV, vp_updL, hq]
theorem xr_aast (hexec : p.tables.exec = Jvm.exec) (hb : c.code = cc) (hK : va_K D cl tys s) (t0 ci : Nat) {cA : ClassId} {r : vw_C} {n v : Nat} {vs : List Value} {f : Nat → Option Nat} (hat : va_at D cl (a, .inl (cA, n, .inr (.inr (.inr (.inr f))))) H) (ht : tys[t0]? = some (cA, .object r.1)) (hv : va_at D cl (v, .inr (ci, vs)) H) (hc : cl[ci]? = some r) {i : Int32} (hin : vp_in i n) (hdg : decode cc pc = .ok (.aastore, 1))
    (kk : ∀ (H1 : Heap) (sl : Nat), va_at D cl (a, .inl (cA, n, .inr (.inr (.inr (.inr (va_up f i.toNatClampNeg (some v))))))) H1 → H1.size = H.size → (∀ q : Nat, q ≠ a → H1[q]? = H[q]?) → W p l e R s m args below meth c H1 (locs ++ [⟨a, sl⟩]) cells slots Q (F0 m (pc + 1) ls rest)) : W p l e R s m args below meth c H locs cells slots Q (F0 m pc ls (.ref v :: .int i :: .ref a :: rest)) := by
  have hlt : i.toNatClampNeg < n := Nat.not_le.mp fun q => hin (Or.inr q)
  have h0 : ¬ i < 0 := fun q => hin (Or.inl q)
  obtain ⟨r', hr', cellV, g1, g2, g3, -⟩ := hv
  have hcls := (hK.1 ci r hc).2
  obtain ⟨kA, comp, k1, k2, k3, -⟩ := (hK.2 t0 _ ht).2
  have hcomp : comp = D.1 ci := Option.some.inj (k3.symm.trans hcls.1)
  subst hcomp
  obtain ⟨kC, hkC, -⟩ := hcls.2
  refine W.aast hexec hb hat (fun q h => by cases h) (fun h => by cases h) k1 k2 rfl hkC ⟨h0, by show _ < (arrV _ _ _).slots.size; rw [arrV_size]; exact hlt⟩ g1 (fun q h => by rw [g3] at h; cases h) (by rw [g2]; exact hkC) (by rw [g2]; exact va_assign hcls) rfl rfl hdg fun H1 e z oq => ?_
  refine kk H1 _ ?_ z oq
  show H1[a]? = some (vp_cell _ _)
  rw [e]
  rw [vp_cell_q, vp_cell_q, arrV_store]
  congr 2
  funext q
  by_cases hq : q = i.toNatClampNeg
  · subst hq
    simp [updV, va_up, va_rf]
  · simp [updV, va_up, hq]
end
end
section
theorem xi_S_app {base : Nat} {H0 H H1 : Heap} {locs : List Loc} {a sl : Nat} (h : va_S (fun q => base ≤ q) H0 H locs) (z : H1.size = H.size) (oq : ∀ q : Nat, q ≠ a → H1[q]? = H[q]?) (ha : base ≤ a) : va_S (fun q => base ≤ q) H0 H1 (locs ++ [⟨a, sl⟩]) := h.put z oq ha
theorem xi_base {base : Nat} {lay : Nat → Nat} (hl : xi_lay base lay) {i : Nat} (hi : i < 900000) : base ≤ lay i := by
  rw [hl i hi]
  omega
theorem xi_en_I {cy : Nat → ClassId} {lay : Nat → Nat} {h : xHp} {a k i : Nat} {v : Int32} (hi : i ≠ a) : xi_en cy lay (xi_setI h a k v) i = xi_en cy lay h i := xi_en_cg rfl (xi_u2_ne _ hi) rfl rfl
theorem xi_en_J {cy : Nat → ClassId} {lay : Nat → Nat} {h : xHp} {a k i : Nat} {v : Int64} (hi : i ≠ a) : xi_en cy lay (xi_setJ h a k v) i = xi_en cy lay h i := xi_en_cg rfl rfl (xi_u2_ne _ hi) rfl
theorem xi_en_R {cy : Nat → ClassId} {lay : Nat → Nat} {h : xHp} {a k i : Nat} {v : Option Nat} (hi : i ≠ a) : xi_en cy lay (xi_setR h a k v) i = xi_en cy lay h i := xi_en_cg rfl rfl rfl (xi_u2_ne _ hi)
theorem xi_vp {h : xHp} {a k : Nat} {i : Int32} (hi : xi_in h a k i = true) : vp_in i (hK h a).2 := fun q => by
  obtain ⟨h1, -, -, h4⟩ := xi_in_sp hi
  rcases q with q | q
  · exact h1 q
  · omega
theorem xi_tl_r (cy : Nat → ClassId) : ∀ k, 10 < k → k < 17 → ∃ ty, (xi_tl cy)[k - 8]? = some (cy (k - 8), ty) ∧ ty.isReference = true := by
  intro k h1 h2
  rcases (show k = 11 ∨ k = 12 ∨ k = 13 ∨ k = 14 ∨ k = 15 ∨ k = 16 by omega) with rfl | rfl | rfl | rfl | rfl | rfl <;> exact ⟨_, rfl, rfl⟩
theorem xi_tl_e (cy : Nat → ClassId) : ∀ k, 10 < k → k < 16 → (xi_tl cy)[k - 8]? = some (cy (k - 8), .object (xi_cls (xi_ec k))) ∧ xi_ec k < 8 := by
  intro k h1 h2
  rcases (show k = 11 ∨ k = 12 ∨ k = 13 ∨ k = 14 ∨ k = 15 by omega) with rfl | rfl | rfl | rfl | rfl <;> exact ⟨rfl, by decide⟩
section
variable {mi : xMi}
theorem xs_getfield {ix : Nat} : xi_Go mi (.getfield ix) := by
  intro len pc lv st h fr' h' hlen hs
  obtain rfl : len = 3 := by simpa [xi_le, xi_ln] using hlen
  simp only [xi_s1] at hs
  split at hs
  · next cn k po a r hv =>
    split at hs
    · next hk =>
      obtain ⟨ha, hka⟩ := hk
      cases hs
      have hw := xi_all_at ok_fl rfl hv
      rw [Bool.and_eq_true, Bool.and_eq_true] at hw
      obtain ⟨⟨hw1, hw2⟩, hw3⟩ := hw
      have hc8 := of_decide_eq_true hw2
      have hkn := of_decide_eq_true hw3
      refine ⟨xi_mo.rf _, fun p l e R s m args below meth c Q D cy base lay c0 w0 C hd _ _ _ _ kk H locs ls hP hZ hS hl => ?_⟩
      have hat := hP a ha
      rw [xi_en_o hka hc8] at hat
      have kk' := kk H locs ls hP hZ hS hl
      rw [show ((pc + 3, lv, xi_fv h a cn k :: r) : xFr).2.2.map (xi_tv lay) = xi_ev lay h a cn k :: r.map (xi_tv lay) from by rw [← xi_ev_tv]; rfl] at kk'
      exact va_get (D := D) (tys := xi_tl cy) C.1 C.2.1 C.2.2.2.2.1 (ok_ci cn hc8) C.2.2.2.1 C.2.2.2.2.2.2.2.2.2.2.1.1 (xi_one hat) 0 rfl (ok_cu cn hc8) k hkn (C.2.2.2.2.1 _ (xi_at_mem hw1)) (fun _ h9 => h9) (xi_map_get hkn) hd kk'
    · cases hs
  · cases hs
theorem xs_putfield {ix : Nat} : xi_Go mi (.putfield ix) := by
  intro len pc lv st h fr' h' hlen hs
  obtain rfl : len = 3 := by simpa [xi_le, xi_ln] using hlen
  simp only [xi_s1] at hs
  split at hs
  · next cn k po x a r hv =>
    split at hs
    · next hk =>
      obtain ⟨ha, hka, hrf, hbo, hfn⟩ := hk
      cases hs
      have hw := xi_all_at ok_fl rfl hv
      rw [Bool.and_eq_true, Bool.and_eq_true] at hw
      obtain ⟨⟨hw1, hw2⟩, hw3⟩ := hw
      have hc8 := of_decide_eq_true hw2
      have hkn : k < xi_nf cn := of_decide_eq_true hw3
      refine ⟨⟨Nat.le_refl _, Nat.le_refl _, rfl, rfl⟩, fun p l e R s m args below meth c Q D cy base lay c0 w0 C hd _ _ _ _ kk H locs ls hP hZ hS hl => ?_⟩
      have hat := hP a ha
      rw [xi_en_o hka hc8] at hat
      have hz := hZ.2.2
      refine xr_put (D := D) (tys := xi_tl cy) C.1 C.2.1 C.2.2.2.2.1 (ok_ci cn hc8) (xi_ty cn) (ok_ct cn hc8) (ok_cn cn hc8) C.2.2.2.1 C.2.2.2.2.2.2.2.2.2.2.1.1 hat (ok_cu cn hc8) k hkn (C.2.2.2.2.1 _ (xi_at_mem hw1)) ?_ (xi_ty_i hc8 hkn hrf hbo).1 (xi_ty_i hc8 hkn hrf hbo).2 (by simpa using hkn) hd (fun H1 sl hat1 z oq => ?_)
      · rcases hfn with h9 | ⟨h9, h10⟩
        · exact Or.inl h9
        · refine Or.inr ⟨?_, ?_⟩
          · rw [C.2.2.2.2.2.2.2.1]
            exact beq_iff_eq.mp h9
          · rw [h10]
            exact (ok_df cn hc8 k hkn).1
      · refine kk H1 _ ls (xi_P_set C.2.2.2.2.2.2.2.2.2.2.2 hZ hP ha rfl ?_ (fun i hi => xi_en_I hi) oq) (xi_Z_set hZ rfl z) (xi_S_app hS z oq (xi_base C.2.2.2.2.2.2.2.2.2.2.2 (Nat.lt_of_lt_of_le ha hZ.2.2))) hl
        rw [xi_en_o (h := xi_setI h a k x) hka hc8]
        rw [xi_map_set (g := xi_ev lay (xi_setI h a k x) a cn) ?_ ?_] at hat1
        · exact hat1
        · unfold xi_ev
          rw [if_neg (by rw [hrf]; decide)]
          show Value.int (xi_u2 (hI h) a k x a k) = _
          simp [xi_u2]
          rfl
        · intro j hj
          unfold xi_ev
          show (if xi_rf cn j = true then va_rf (Option.map lay (hR h a j)) else Value.int (xi_u2 (hI h) a k x a j)) = _
          simp [xi_u2, hj]
    · cases hs
  · next cn k po q a r hv =>
    split at hs
    · next hk =>
      obtain ⟨ha, hka, hrf, hfn⟩ := hk
      cases hs
      have hw := xi_all_at ok_fl rfl hv
      rw [Bool.and_eq_true, Bool.and_eq_true] at hw
      obtain ⟨⟨hw1, hw2⟩, hw3⟩ := hw
      have hc8 := of_decide_eq_true hw2
      have hkn : k < xi_nf cn := of_decide_eq_true hw3
      refine ⟨⟨Nat.le_refl _, Nat.le_refl _, rfl, rfl⟩, fun p l e R s m args below meth c Q D cy base lay c0 w0 C hd _ _ _ _ kk H locs ls hP hZ hS hl => ?_⟩
      have hat := hP a ha
      rw [xi_en_o hka hc8] at hat
      have hz := hZ.2.2
      refine xr_put (D := D) (tys := xi_tl cy) C.1 C.2.1 C.2.2.2.2.1 (ok_ci cn hc8) (xi_ty cn) (ok_ct cn hc8) (ok_cn cn hc8) C.2.2.2.1 C.2.2.2.2.2.2.2.2.2.2.1.1 hat (ok_cu cn hc8) k hkn (C.2.2.2.2.1 _ (xi_at_mem hw1)) ?_ (xi_ty_r hrf _).1 (xi_ty_r hrf _).2 (by simpa using hkn) hd (fun H1 sl hat1 z oq => ?_)
      · rcases hfn with h9 | ⟨h9, h10⟩
        · exact Or.inl h9
        · refine Or.inr ⟨?_, ?_⟩
          · rw [C.2.2.2.2.2.2.2.1]
            exact beq_iff_eq.mp h9
          · rw [h10]
            exact (ok_df cn hc8 k hkn).1
      · refine kk H1 _ ls (xi_P_set C.2.2.2.2.2.2.2.2.2.2.2 hZ hP ha rfl ?_ (fun i hi => xi_en_R hi) oq) (xi_Z_set hZ rfl z) (xi_S_app hS z oq (xi_base C.2.2.2.2.2.2.2.2.2.2.2 (Nat.lt_of_lt_of_le ha hZ.2.2))) hl
        rw [xi_en_o (h := xi_setR h a k (some q)) hka hc8]
        rw [xi_map_set (g := xi_ev lay (xi_setR h a k (some q)) a cn) ?_ ?_] at hat1
        · exact hat1
        · unfold xi_ev
          rw [if_pos hrf]
          show va_rf (Option.map lay (xi_u2 (hR h) a k (some q) a k)) = _
          simp [xi_u2, va_rf]
          rfl
        · intro j hj
          unfold xi_ev
          show (if xi_rf cn j = true then va_rf (Option.map lay (xi_u2 (hR h) a k (some q) a j)) else Value.int (hI h a j)) = _
          simp [xi_u2, hj]
    · cases hs
  · cases hs
theorem xs_iaload : xi_Go mi .iaload := by
  intro len pc lv st h fr' h' hlen hs
  obtain rfl : len = 1 := by simpa [xi_le, xi_ln] using hlen
  simp only [xi_s1] at hs
  split at hs
  · next i a r =>
    split at hs
    · next hsc =>
      subst hsc
      split at hs
      · next hk =>
        cases hs
        refine ⟨xi_mo.rf _, fun p l e R s m args below meth c Q D cy base lay c0 w0 C hd _ _ _ _ kk H locs ls hP hZ hS hl => ?_⟩
        obtain ⟨-, -, -, -, hX, hb1, hb2⟩ := C.2.2.2.2.2.2.2.2.2.2.1
        have hk2 := hk.2
        exact va_sld C.1 C.2.1 (hX (by omega)) (Nat.lt_of_lt_of_le hb1 hb2) (Nat.not_le.mpr hb1) hS (fun q => by rcases q with q | q; exact hk.1 q; omega) hd (kk H locs ls hP hZ hS hl)
      · cases hs
    · split at hs
      · next hk =>
        cases hs
        obtain ⟨-, ha, hka, -⟩ := xi_in_sp hk
        refine ⟨xi_mo.rf _, fun p l e R s m args below meth c Q D cy base lay c0 w0 C hd _ _ _ _ kk H locs ls hP hZ hS hl => ?_⟩
        have hat := hP a ha
        rw [xi_en_i hka (by omega) (by omega)] at hat
        exact va_iald (D := D) (tys := xi_tl cy) C.1 C.2.1 C.2.2.2.2.2.2.2.2.2.2.1.1 (xi_one hat) 0 0 rfl rfl (xi_vp hk) hd (kk H locs ls hP hZ hS hl)
      · cases hs
  · cases hs
theorem xs_baload : xi_Go mi .baload := by
  intro len pc lv st h fr' h' hlen hs
  obtain rfl : len = 1 := by simpa [xi_le, xi_ln] using hlen
  simp only [xi_s1] at hs
  split at hs
  · next i a r =>
    split at hs
    · next hk =>
      cases hs
      obtain ⟨-, ha, hka, -⟩ := xi_in_sp hk
      refine ⟨xi_mo.rf _, fun p l e R s m args below meth c Q D cy base lay c0 w0 C hd _ _ _ _ kk H locs ls hP hZ hS hl => ?_⟩
      have hat := hP a ha
      rw [xi_en_i hka (by omega) (by omega)] at hat
      exact va_zald (D := D) (tys := xi_tl cy) C.1 C.2.1 C.2.2.2.2.2.2.2.2.2.2.1.1 (xi_one hat) 0 1 rfl rfl (xi_vp hk) hd (kk H locs ls hP hZ hS hl)
    · cases hs
  · cases hs
theorem xs_laload : xi_Go mi .laload := by
  intro len pc lv st h fr' h' hlen hs
  obtain rfl : len = 1 := by simpa [xi_le, xi_ln] using hlen
  simp only [xi_s1] at hs
  split at hs
  · next i a r =>
    split at hs
    · next hk =>
      cases hs
      obtain ⟨-, ha, hka, -⟩ := xi_in_sp hk
      refine ⟨xi_mo.rf _, fun p l e R s m args below meth c Q D cy base lay c0 w0 C hd _ _ _ _ kk H locs ls hP hZ hS hl => ?_⟩
      have hat := hP a ha
      rw [xi_en_j hka] at hat
      exact va_lald (D := D) (tys := xi_tl cy) C.1 C.2.1 C.2.2.2.2.2.2.2.2.2.2.1.1 (xi_one hat) 0 2 rfl rfl (xi_vp hk) hd (kk H locs ls hP hZ hS hl)
    · cases hs
  · cases hs
theorem xs_aaload : xi_Go mi .aaload := by
  intro len pc lv st h fr' h' hlen hs
  obtain rfl : len = 1 := by simpa [xi_le, xi_ln] using hlen
  simp only [xi_s1] at hs
  split at hs
  · next i a r =>
    split at hs
    · next hk =>
      cases hs
      obtain ⟨h10, h17, hk⟩ := hk
      obtain ⟨-, ha, -, hlt⟩ := xi_in_sp hk
      refine ⟨xi_mo.rf _, fun p l e R s m args below meth c Q D cy base lay c0 w0 C hd _ _ _ _ kk H locs ls hP hZ hS hl => ?_⟩
      have hat := hP a ha
      rw [xi_en_r rfl h10] at hat
      obtain ⟨ty, ht, hr⟩ := xi_tl_r cy _ h10 h17
      have hKK := C.2.2.2.2.2.2.2.2.2.2.1.1
      have hin := xi_vp hk
      have kk' := kk H locs ls hP hZ hS hl
      rw [show ((pc + 1, lv, xi_rv (hR h a i.toNatClampNeg) :: r) : xFr).2.2.map (xi_tv lay) = va_rf ((hR h a i.toNatClampNeg).map lay) :: r.map (xi_tv lay) from by rw [← xi_rv_tv]; rfl] at kk'
      exact W.aald (v := va_rf ((hR h a i.toNatClampNeg).map lay)) (ty := ty) C.1 C.2.1 hat ((hKK.2 _ _ ht).1 (hK h a).2 (fun j => va_rf ((hR h a j).map lay))) hr (fun q => by cases q) (by show ¬ (i < 0 ∨ (arrV _ _ _).slots.size ≤ _); rw [arrV_size]; exact hin) (by show (arrV _ _ _).slots[_]? = _; rw [arrV_read _ _ hlt]) rfl rfl hd kk'
    · cases hs
  · cases hs
theorem xs_iastore : xi_Go mi .iastore := by
  intro len pc lv st h fr' h' hlen hs
  obtain rfl : len = 1 := by simpa [xi_le, xi_ln] using hlen
  simp only [xi_s1] at hs
  split at hs
  · next x i a r =>
    split at hs
    · next hk =>
      cases hs
      obtain ⟨-, ha, hka, -⟩ := xi_in_sp hk
      refine ⟨⟨Nat.le_refl _, Nat.le_refl _, rfl, rfl⟩, fun p l e R s m args below meth c Q D cy base lay c0 w0 C hd _ _ _ _ kk H locs ls hP hZ hS hl => ?_⟩
      have hat := hP a ha
      rw [xi_en_i hka (by omega) (by omega)] at hat
      have hz := hZ.2.2
      refine xr_iast (D := D) (tys := xi_tl cy) C.1 C.2.1 C.2.2.2.2.2.2.2.2.2.2.1.1 0 hat rfl (xi_vp hk) hd (fun H1 sl hat1 z oq => ?_)
      refine kk H1 _ ls (xi_P_set C.2.2.2.2.2.2.2.2.2.2.2 hZ hP ha rfl ?_ (fun j hj => xi_en_I hj) oq) (xi_Z_set hZ rfl z) (xi_S_app hS z oq (xi_base C.2.2.2.2.2.2.2.2.2.2.2 (Nat.lt_of_lt_of_le ha hZ.2.2))) hl
      rw [xi_en_i (h := xi_setI h a i.toNatClampNeg x) hka (by omega) (by omega)]
      rw [show upd (hI h a) i.toNatClampNeg x = hI (xi_setI h a i.toNatClampNeg x) a from by funext j; show _ = xi_u2 (hI h) a i.toNatClampNeg x a j; simp [upd, xi_u2]] at hat1
      exact hat1
    · cases hs
  · cases hs
theorem xs_bastore : xi_Go mi .bastore := by
  intro len pc lv st h fr' h' hlen hs
  obtain rfl : len = 1 := by simpa [xi_le, xi_ln] using hlen
  simp only [xi_s1] at hs
  split at hs
  · next x i a r =>
    split at hs
    · next hk =>
      cases hs
      obtain ⟨hk, hx01⟩ := hk
      obtain ⟨-, ha, hka, -⟩ := xi_in_sp hk
      refine ⟨⟨Nat.le_refl _, Nat.le_refl _, rfl, rfl⟩, fun p l e R s m args below meth c Q D cy base lay c0 w0 C hd _ _ _ _ kk H locs ls hP hZ hS hl => ?_⟩
      have hat := hP a ha
      rw [xi_en_i hka (by omega) (by omega)] at hat
      have hz := hZ.2.2
      refine xr_zast (D := D) (tys := xi_tl cy) C.1 C.2.1 C.2.2.2.2.2.2.2.2.2.2.1.1 1 hat rfl (xi_vp hk) hd (fun H1 sl hat1 z oq => ?_)
      refine kk H1 _ ls (xi_P_set C.2.2.2.2.2.2.2.2.2.2.2 hZ hP ha rfl ?_ (fun j hj => xi_en_I hj) oq) (xi_Z_set hZ rfl z) (xi_S_app hS z oq (xi_base C.2.2.2.2.2.2.2.2.2.2.2 (Nat.lt_of_lt_of_le ha hZ.2.2))) hl
      rw [xi_en_i (h := xi_setI h a i.toNatClampNeg x) hka (by omega) (by omega)]
      have hx2 : vp_nar .boolean x = x := by
        rcases hx01 with rfl | rfl
        · decide
        · decide
      rw [hx2, show upd (hI h a) i.toNatClampNeg x = hI (xi_setI h a i.toNatClampNeg x) a from by funext j; show _ = xi_u2 (hI h) a i.toNatClampNeg x a j; simp [upd, xi_u2]] at hat1
      exact hat1
    · cases hs
  · cases hs
theorem xs_lastore : xi_Go mi .lastore := by
  intro len pc lv st h fr' h' hlen hs
  obtain rfl : len = 1 := by simpa [xi_le, xi_ln] using hlen
  simp only [xi_s1] at hs
  split at hs
  · next x i a r =>
    split at hs
    · next hk =>
      cases hs
      obtain ⟨-, ha, hka, -⟩ := xi_in_sp hk
      refine ⟨⟨Nat.le_refl _, Nat.le_refl _, rfl, rfl⟩, fun p l e R s m args below meth c Q D cy base lay c0 w0 C hd _ _ _ _ kk H locs ls hP hZ hS hl => ?_⟩
      have hat := hP a ha
      rw [xi_en_j hka] at hat
      have hz := hZ.2.2
      refine xr_last (D := D) (tys := xi_tl cy) C.1 C.2.1 C.2.2.2.2.2.2.2.2.2.2.1.1 2 hat rfl (xi_vp hk) hd (fun H1 sl hat1 z oq => ?_)
      refine kk H1 _ ls (xi_P_set C.2.2.2.2.2.2.2.2.2.2.2 hZ hP ha rfl ?_ (fun j hj => xi_en_J hj) oq) (xi_Z_set hZ rfl z) (xi_S_app hS z oq (xi_base C.2.2.2.2.2.2.2.2.2.2.2 (Nat.lt_of_lt_of_le ha hZ.2.2))) hl
      rw [xi_en_j (h := xi_setJ h a i.toNatClampNeg x) hka]
      rw [show vp_updL (hJ h a) i.toNatClampNeg x = hJ (xi_setJ h a i.toNatClampNeg x) a from by funext j; show _ = xi_u2 (hJ h) a i.toNatClampNeg x a j; simp [vp_updL, xi_u2]] at hat1
      exact hat1
    · cases hs
  · cases hs
theorem xs_aastore : xi_Go mi .aastore := by
  intro len pc lv st h fr' h' hlen hs
  obtain rfl : len = 1 := by simpa [xi_le, xi_ln] using hlen
  simp only [xi_s1] at hs
  split at hs
  · next v i a r =>
    split at hs
    · next hk =>
      cases hs
      obtain ⟨h10, h16, hk, hv, hvk⟩ := hk
      obtain ⟨-, ha, -, -⟩ := xi_in_sp hk
      refine ⟨⟨Nat.le_refl _, Nat.le_refl _, rfl, rfl⟩, fun p l e R s m args below meth c Q D cy base lay c0 w0 C hd _ _ _ _ kk H locs ls hP hZ hS hl => ?_⟩
      have hat := hP a ha
      rw [xi_en_r rfl h10] at hat
      have hz := hZ.2.2
      obtain ⟨ht, hec⟩ := xi_tl_e cy _ h10 h16
      have hatv := hP v hv
      rw [xi_en_o hvk hec] at hatv
      refine xr_aast (D := D) (tys := xi_tl cy) C.1 C.2.1 C.2.2.2.2.2.2.2.2.2.2.1.1 _ _ hat ht hatv (ok_cu _ hec) (xi_vp hk) hd (fun H1 sl hat1 z oq => ?_)
      refine kk H1 _ ls (xi_P_set C.2.2.2.2.2.2.2.2.2.2.2 hZ hP ha rfl ?_ (fun j hj => xi_en_R hj) oq) (xi_Z_set hZ rfl z) (xi_S_app hS z oq (xi_base C.2.2.2.2.2.2.2.2.2.2.2 (Nat.lt_of_lt_of_le ha hZ.2.2))) hl
      rw [xi_en_r (h := xi_setR h a i.toNatClampNeg (some v)) rfl h10]
      rw [show va_up (fun j => (hR h a j).map lay) i.toNatClampNeg (some (lay v)) = (fun j => (hR (xi_setR h a i.toNatClampNeg (some v)) a j).map lay) from by funext j; show _ = (xi_u2 (hR h) a i.toNatClampNeg (some v) a j).map lay; by_cases hj : j = i.toNatClampNeg <;> simp [va_up, xi_u2, hj]] at hat1
      exact hat1
    · cases hs
  · cases hs
theorem xs_arraylength : xi_Go mi .arraylength := by
  intro len pc lv st h fr' h' hlen hs
  obtain rfl : len = 1 := by simpa [xi_le, xi_ln] using hlen
  simp only [xi_s1] at hs
  split at hs
  · split at hs
    · next hsc =>
      obtain ⟨hsc, hpo⟩ := hsc
      subst hsc
      cases hs
      refine ⟨xi_mo.rf _, fun p l e R s m args below meth c Q D cy base lay c0 w0 C hd _ _ _ _ kk H locs ls hP hZ hS hl => ?_⟩
      obtain ⟨-, -, -, -, hX, hb1, hb2⟩ := C.2.2.2.2.2.2.2.2.2.2.1
      exact va_slen C.1 C.2.1 (hX hpo) (Nat.lt_of_lt_of_le hb1 hb2) (Nat.not_le.mpr hb1) hS hd (kk H locs ls hP hZ hS hl)
    · cases hs
  · cases hs
end
end
section
theorem ok_ai : Cond.arrayClass .int ∈ xT := List.mem_filter.mpr ⟨by decide +kernel, rfl⟩
theorem ok_az : Cond.arrayClass .boolean ∈ xT := List.mem_filter.mpr ⟨by decide +kernel, rfl⟩
theorem ok_aj : Cond.arrayClass .long ∈ xT := List.mem_filter.mpr ⟨by decide +kernel, rfl⟩
theorem xi_S_new {base : Nat} {H0 H H1 : Heap} {locs : List Loc} (h : va_S (fun q => base ≤ q) H0 H locs) (z : H.size ≤ H1.size) (o : ∀ q : Nat, q < H.size → H1[q]? = H[q]?) : va_S (fun q => base ≤ q) H0 H1 locs :=
  ⟨Nat.le_trans h.1 z, fun q h1 h2 => (o q (Nat.lt_of_lt_of_le h1 h.1)).trans (h.2.1 q h1 h2), h.2.2⟩
theorem xi_en_nw {cy : Nat → ClassId} {lay : Nat → Nat} {h : xHp} {kind len sl i : Nat} (hi : i ≠ hN h) : xi_en cy lay (xi_nw h kind len sl) i = xi_en cy lay h i := by
  apply xi_en_cg
  · exact va_up_ne _ _ hi
  · funext j
    show (if i = hN h then 0 else hI h i j) = _
    rw [if_neg hi]
  · funext j
    show (if i = hN h then 0 else hJ h i j) = _
    rw [if_neg hi]
  · funext j
    show (if i = hN h then none else hR h i j) = _
    rw [if_neg hi]
theorem xi_P_nw {D : va_G} {cy : Nat → ClassId} {lay : Nat → Nat} {base : Nat} {h : xHp} {H H1 : Heap} {kind len sl : Nat} (hl : xi_lay base lay) (hP : xi_P D cy lay h H) (hz : H.size = base + hN h) (hn : hN h < 900000) (o : ∀ q : Nat, q < H.size → H1[q]? = H[q]?) (hw : va_at D vwCl (lay (hN h), xi_en cy lay (xi_nw h kind len sl) (hN h)) H1) : xi_P D cy lay (xi_nw h kind len sl) H1 := by
  intro i hi
  have hi' : i < hN h + 1 := hi
  by_cases e : i = hN h
  · rw [e]
    exact hw
  · rw [xi_en_nw e]
    exact (hP i (by omega)).kept (o _ (by rw [hl i (by omega), hz]; omega))
theorem xi_Z_nw {base : Nat} {h : xHp} {H H1 : Heap} {kind len sl : Nat} (hz : H.size = base + hN h) (hn : hN h < 900000) (z : H1.size = H.size + 1) : xi_Z base (xi_nw h kind len sl) H1 := by
  refine ⟨fun _ => ?_, ?_, ?_⟩
  · show H1.size = base + (hN h + 1)
    omega
  · show base + (hN h + 1) ≤ H1.size
    omega
  · show hN h + 1 ≤ 900000
    omega
theorem xi_dv {c : Nat} (hc : c < 8) {lay : Nat → Nat} {h : xHp} {a j : Nat} (hj : j < xi_nf c) (h0 : hI h a j = 0) (hr : hR h a j = none) : defaultValue (xi_ty c j) = vp_V ((List.range (xi_nf c)).map (xi_ev lay h a c)) j := by
  unfold vp_V
  rw [List.getD_eq_getElem?_getD, xi_map_get hj]
  show _ = xi_ev lay h a c j
  unfold xi_ev
  by_cases hf : xi_rf c j = true
  · rw [if_pos hf, hr]
    unfold xi_rf at hf
    cases e : xi_ty c j <;> rw [e] at hf <;> first | exact absurd hf Bool.false_ne_true | rfl
  · rw [if_neg hf, h0]
    rcases ok_ty c hc j hj (by simpa using hf) with e | ⟨e, -⟩
    · rw [e]
      rfl
    · rw [e]
      rfl
theorem xi_AO_of {U : State} (h : va_AO RX1 U ∧ va_AO RX2 U ∧ va_AO RX3 U ∧ va_AO RX4 U ∧ va_AO RX6 U ∧ xi_AOA U) {c : Nat} (hc : 10 < xi_ak c) (h8 : c < 8) : va_AO (xi_cls c) U ∧ xi_ak c < 16 := by
  obtain ⟨a1, a2, a3, a4, a5, -⟩ := h
  rcases (show c = 0 ∨ c = 1 ∨ c = 2 ∨ c = 3 ∨ c = 4 ∨ c = 5 ∨ c = 6 ∨ c = 7 by omega) with rfl | rfl | rfl | rfl | rfl | rfl | rfl | rfl
  · exact ⟨a1, by decide⟩
  · exact ⟨a2, by decide⟩
  · exact ⟨a3, by decide⟩
  · exact ⟨a4, by decide⟩
  · exact absurd hc (by decide)
  · exact ⟨a5, by decide⟩
  · exact absurd hc (by decide)
  · exact absurd hc (by decide)
theorem xi_outer (c : ClassId) (N h0 : Nat) : ∀ i : Nat, Jvm.Free.Multi.outerC c N h0 i = arrV c N (fun j => va_rf (if j < i then some (h0 + 1 + j) else none))
  | 0 => by
    show ({ cls := c, slots := Array.replicate N .null, vm := .none } : Cell) = _
    rw [arrV_new]
    refine congrArg (arrV c N) (funext fun j => ?_)
    simp [va_rf]
  | i + 1 => by
    show (Jvm.Free.Multi.outerC c N h0 i).setSlot i (.ref (h0 + 1 + i)) = _
    rw [xi_outer c N h0 i, arrV_store]
    refine congrArg (arrV c N) (funext fun j => ?_)
    by_cases e : j = i
    · subst e
      simp [updV, va_rf]
    · by_cases h : j < i
      · simp [updV, e, h, Nat.lt_succ_of_lt h]
      · simp [updV, e, h, show ¬ j < i + 1 by omega]
section
variable {mi : xMi}
theorem xs_new {ix : Nat} : xi_Go mi (.new ix) := by
  intro len pc lv st h fr' h' hlen hs
  obtain rfl : len = 3 := by simpa [xi_le, xi_ln] using hlen
  simp only [xi_s1] at hs
  split at hs
  · next cn po hv =>
    split at hs
    · next hk =>
      obtain ⟨hF0, hn9, hc8⟩ := hk
      cases hs
      have hw := xi_all_at ok_nl rfl hv
      rw [Bool.and_eq_true] at hw
      have hcw := List.all_eq_true.mp ok_cw cn (List.mem_range.mpr hc8)
      rw [Bool.and_eq_true] at hcw
      refine ⟨⟨Nat.le_succ _, Nat.le_add_right _ _, rfl, rfl⟩, fun p l e R s m args below meth c Q D cy base lay c0 w0 C hd hc0 hw0 hrc hrs kk H locs ls hP hZ hS hl => ?_⟩
      have hlay := C.2.2.2.2.2.2.2.2.2.2.2
      have hKK := C.2.2.2.2.2.2.2.2.2.2.1.1
      have hsz := hZ.1 hF0
      have hKn := hKK.1 cn _ (ok_cu cn hc8)
      have hrc' : hC h + 1 - c0 ≤ R.cells := hrc
      have hrs' : hW h + xi_nf cn - w0 ≤ R.slots := hrs
      refine W.newcK C.1 C.2.1 C.2.2.2.1 (C.2.2.2.2.1 _ (xi_at_mem hw.1)) (C.2.2.2.2.1 _ (xi_at_mem hcw.1)) (C.2.2.2.2.1 _ (xi_at_mem hcw.2)) rfl hd (by omega) (by omega) hKn.2.1 rfl fun H1 kC hkC e1 z1 o1 => ?_
      refine W.cs (cells' := hC h + 1 - c0) (slots' := hW h + xi_nf cn - w0) (by omega) (by omega) ?_
      have ea : lay (hN h) = H.size := by rw [hlay _ hn9, hsz]
      have kk' := kk H1 locs ls (xi_P_nw hlay hP hsz hn9 o1 ?_) (xi_Z_nw hsz hn9 z1) (xi_S_new hS (by omega) o1) hl
      · have e2 : ((pc + 3, lv, Value.ref (hN h) :: st) : xFr).2.2.map (xi_tv lay) = .ref H.size :: st.map (xi_tv lay) := by rw [← ea]; rfl
        rw [e2] at kk'
        exact kk'
      · rw [xi_en_o (h := xi_nw h cn 0 (xi_nf cn)) (c := cn) (by show (va_up (hK h) (hN h) (cn, 0) (hN h)).1 = cn; rw [va_up_self]) hc8, ea]
        refine ⟨_, ok_cu cn hc8, (u_born (xi_ty cn) C.2.2.2.2.1 (ok_ci cn hc8) hKn hkC e1 (ok_ct cn hc8)).to (fun j hj => xi_dv hc8 hj ?_ ?_)⟩
        · show (if hN h = hN h then (0 : Int32) else _) = 0
          rw [if_pos rfl]
        · show (if hN h = hN h then none else _) = none
          rw [if_pos rfl]
    · cases hs
  · cases hs
theorem xi_en_nwk {kind len sl : Nat} {h : xHp} : (hK (xi_nw h kind len sl) (hN h)) = (kind, len) := va_up_self _ _ _
theorem xi_newa {t : ArrayType} {kd : Nat} {ty : FieldType} (ht : newarray.typeOf t = ty) (hac : Cond.arrayClass ty ∈ xT) (hcb : componentBytes ty ≤ 8) (hra : ∀ (s : State) (cA : ClassId), va_RA s cA ty → s.vm.findClass ("[" ++ ty.toString) = some cA) (htl : ∀ cy : Nat → ClassId, (xi_tl cy)[kd - 8]? = some (cy (kd - 8), ty))
    (hdv : ∀ (cy : Nat → ClassId) (lay : Nat → Nat) (h : xHp) (n : Nat), ∃ x : vp_A, xi_en cy lay (xi_nw h kd n n) (hN h) = .inl (cy (kd - 8), x) ∧ ∀ cA : ClassId, vp_cell cA x = arrV cA n (fun _ => defaultValue ty))
    {pc : Nat} {lv : List (Nat × Value)} {r : List Value} {n : Int32} {h : xHp} (hF0 : hF h = false) (hn9 : hN h < 900000) (hn0 : ¬ n < 0) (hn1 : n.toNatClampNeg ≤ 1000) :
    xi_mo h (xi_nw h kd n.toNatClampNeg n.toNatClampNeg) ∧ xi_Sd mi (.newarray t) 2 (pc, lv, .int n :: r) h (pc + 2, lv, .ref (hN h) :: r) (xi_nw h kd n.toNatClampNeg n.toNatClampNeg) := by
  refine ⟨⟨Nat.le_succ _, Nat.le_add_right _ _, rfl, rfl⟩, fun p l e R s m args below meth c Q D cy base lay c0 w0 C hd hc0 hw0 hrc hrs kk H locs ls hP hZ hS hl => ?_⟩
  have hlay := C.2.2.2.2.2.2.2.2.2.2.2
  have hKK := C.2.2.2.2.2.2.2.2.2.2.1.1
  have hsz := hZ.1 hF0
  have hrc' : hC h + 1 - c0 ≤ R.cells := hrc
  have hrs' : hW h + n.toNatClampNeg - w0 ≤ R.slots := hrs
  have hb9 : n.toNatClampNeg * componentBytes (newarray.typeOf t) ≤ 536870912 := by
    rw [ht]
    exact Nat.le_trans (Nat.mul_le_mul hn1 hcb) (by decide)
  refine va_newaK C.1 C.2.1 (by rw [ht]; exact C.2.2.2.2.1 _ hac) rfl hd rfl hn0 rfl hb9 (by omega) (by omega) rfl fun H1 cA e1 z1 o1 hAr hNm => ?_
  rw [ht] at e1 hNm
  have ec : cA = cy (kd - 8) := Option.some.inj (hNm.symm.trans (hra s _ (hKK.2 _ _ (htl cy)).2))
  subst ec
  refine W.cs (cells' := hC h + 1 - c0) (slots' := hW h + n.toNatClampNeg - w0) (by omega) (by omega) ?_
  have ea : lay (hN h) = H.size := by rw [hlay _ hn9, hsz]
  obtain ⟨x, ex, ev⟩ := hdv cy lay h n.toNatClampNeg
  have kk' := kk H1 locs ls (xi_P_nw hlay hP hsz hn9 o1 ?_) (xi_Z_nw hsz hn9 z1) (xi_S_new hS (by omega) o1) hl
  · have e2 : ((pc + 2, lv, Value.ref (hN h) :: r) : xFr).2.2.map (xi_tv lay) = .ref H.size :: r.map (xi_tv lay) := by rw [← ea]; rfl
    rw [e2] at kk'
    exact kk'
  · rw [ea, ex]
    show H1[H.size]? = some (vp_cell _ x)
    rw [ev]
    exact e1
theorem xs_newarray {t : ArrayType} : xi_Go mi (.newarray t) := by
  intro len pc lv st h fr' h' hlen hs
  obtain rfl : len = 2 := by simpa [xi_le, xi_ln] using hlen
  simp only [xi_s1] at hs
  split at hs
  · next n r =>
    split at hs
    · next hk =>
      obtain ⟨hF0, hn9, hn0, hn1⟩ := hk
      split at hs
      · cases hs
        refine xi_newa (t := .int) (ty := .int) (kd := 8) rfl ok_ai (by decide) (fun _ _ h9 => h9) (fun _ => rfl) (fun cy lay h n => ⟨(n, .inl (fun _ => 0)), ?_, fun cA => rfl⟩) hF0 hn9 hn0 hn1
        rw [xi_en_i (k := 8) (by rw [xi_en_nwk]) (by omega) (by omega), xi_en_nwk]
        refine congrArg (fun f => Sum.inl (cy (8 - 8), n, Sum.inl f)) (funext fun j => ?_)
        show (if hN h = hN h then (0 : Int32) else _) = 0
        rw [if_pos rfl]
      · cases hs
        refine xi_newa (t := .boolean) (ty := .boolean) (kd := 9) rfl ok_az (by decide) (fun _ _ h9 => h9) (fun _ => rfl) (fun cy lay h n => ⟨(n, .inl (fun _ => 0)), ?_, fun cA => rfl⟩) hF0 hn9 hn0 hn1
        rw [xi_en_i (k := 9) (by rw [xi_en_nwk]) (by omega) (by omega), xi_en_nwk]
        refine congrArg (fun f => Sum.inl (cy (9 - 8), n, Sum.inl f)) (funext fun j => ?_)
        show (if hN h = hN h then (0 : Int32) else _) = 0
        rw [if_pos rfl]
      · cases hs
        refine xi_newa (t := .long) (ty := .long) (kd := 10) rfl ok_aj (by decide) (fun _ _ h9 => h9) (fun _ => rfl) (fun cy lay h n => ⟨(n, .inr (.inl (fun _ => 0))), ?_, fun cA => rfl⟩) hF0 hn9 hn0 hn1
        rw [xi_en_j (by rw [xi_en_nwk]), xi_en_nwk]
        refine congrArg (fun f => Sum.inl (cy 2, n, Sum.inr (Sum.inl f))) (funext fun j => ?_)
        show (if hN h = hN h then (0 : Int64) else _) = 0
        rw [if_pos rfl]
      · cases hs
    · cases hs
  · cases hs
theorem xs_anewarray {ix : Nat} : xi_Go mi (.anewarray ix) := by
  intro len pc lv st h fr' h' hlen hs
  obtain rfl : len = 3 := by simpa [xi_le, xi_ln] using hlen
  simp only [xi_s1] at hs
  split at hs
  · next cn po n r hv =>
    split at hs
    · next hk =>
      obtain ⟨hF0, hn9, hn0, hn1, hec, hak⟩ := hk
      cases hs
      have hw := xi_all_at ok_nl rfl hv
      rw [Bool.and_eq_true] at hw
      have hc8 : cn < 8 := of_decide_eq_true hw.2
      refine ⟨⟨Nat.le_succ _, Nat.le_add_right _ _, rfl, rfl⟩, fun p l e R s m args below meth c Q D cy base lay c0 w0 C hd hc0 hw0 hrc hrs kk H locs ls hP hZ hS hl => ?_⟩
      have hlay := C.2.2.2.2.2.2.2.2.2.2.2
      have hKK := C.2.2.2.2.2.2.2.2.2.2.1.1
      obtain ⟨hao, hak6⟩ := xi_AO_of C.2.2.2.2.2.2.2.2.2.2.1.2.1 hak hc8
      have hsz := hZ.1 hF0
      have hrc' : hC h + 1 - c0 ≤ R.cells := hrc
      have hrs' : hW h + n.toNatClampNeg - w0 ≤ R.slots := hrs
      refine W.anew C.1 C.2.1 C.2.2.2.1 (C.2.2.2.2.1 _ (xi_at_mem hw.1)) (va_AO.use hao) rfl hd rfl hn0 (by omega) (by omega) (by omega) fun cA kA comp f1 f2 f3 f4 => ?_
      obtain ⟨ht, -⟩ := xi_tl_e cy (xi_ak cn) hak hak6
      rw [hec] at ht
      obtain ⟨kA', comp', q1, q2, q3, q4⟩ := (hKK.2 _ _ ht).2
      have ec : cA = cy (xi_ak cn - 8) := Option.some.inj (f1.symm.trans q4)
      subst ec
      generalize hH1 : H.push ({ cls := cy (xi_ak cn - 8), slots := Array.replicate n.toNatClampNeg .null, vm := .none } : Cell) = H1
      have z1 : H1.size = H.size + 1 := by rw [← hH1, Array.size_push]
      have e1 : H1[H.size]? = some (arrV (cy (xi_ak cn - 8)) n.toNatClampNeg (fun _ => .null)) := by rw [← hH1, Array.getElem?_push_size, ← arrV_new]
      have o1 : ∀ q : Nat, q < H.size → H1[q]? = H[q]? := fun q hq => by rw [← hH1, Array.getElem?_push, if_neg (Nat.ne_of_lt hq)]
      refine W.cs (cells' := hC h + 1 - c0) (slots' := hW h + n.toNatClampNeg - w0) (by omega) (by omega) ?_
      have ea : lay (hN h) = H.size := by rw [hlay _ hn9, hsz]
      have kk' := kk H1 locs ls (xi_P_nw hlay hP hsz hn9 o1 ?_) (xi_Z_nw hsz hn9 z1) (xi_S_new hS (by omega) o1) hl
      · have e2 : ((pc + 3, lv, Value.ref (hN h) :: r) : xFr).2.2.map (xi_tv lay) = .ref H.size :: r.map (xi_tv lay) := by rw [← ea]; rfl
        rw [e2] at kk'
        exact kk'
      · rw [ea, xi_en_r (k := xi_ak cn) (by rw [xi_en_nwk]) hak, xi_en_nwk]
        show H1[H.size]? = some (vp_cell _ _)
        rw [vp_cell_q, e1]
        refine congrArg (fun f => some (arrV (cy (xi_ak cn - 8)) n.toNatClampNeg f)) (funext fun j => ?_)
        show Value.null = va_rf (Option.map lay (if hN h = hN h then none else _))
        rw [if_pos rfl]
        rfl
    · cases hs
  · cases hs
theorem xi_en_mo {cy : Nat → ClassId} {lay : Nat → Nat} {h : xHp} {n k i : Nat} (hi : i < hN h) : xi_en cy lay (xi_mn h n k) i = xi_en cy lay h i := by
  have h1 : i ≠ hN h := by omega
  have h2 : ¬ (hN h < i ∧ i ≤ hN h + n) := by omega
  apply xi_en_cg
  · show (if i = hN h then (16, n) else if hN h < i ∧ i ≤ hN h + n then (8, k) else hK h i) = _
    rw [if_neg h1, if_neg h2]
  · funext j
    show (if hN h < i ∧ i ≤ hN h + n then (0 : Int32) else hI h i j) = _
    rw [if_neg h2]
  · rfl
  · funext j
    show (if i = hN h then (if j < n then some (hN h + 1 + j) else none) else hR h i j) = _
    rw [if_neg h1]
theorem xs_multianewarray {ix dm : Nat} : xi_Go mi (.multianewarray ix dm) := by
  intro len pc lv st h fr' h' hlen hs
  obtain rfl : len = 4 := by simpa [xi_le, xi_ln] using hlen
  simp only [xi_s1] at hs
  by_cases hdm : dm = 2
  case neg => rw [if_pos hdm] at hs; cases hs
  subst hdm
  rw [if_neg (fun q => q rfl)] at hs
  split at hs
  · next po k n r hv =>
    split at hs
    · next hk =>
      obtain ⟨hF0, hn9, hn0, hk0, hn1, hk1⟩ := hk
      cases hs
      have hw := xi_at_mem (xi_all_at ok_al rfl hv)
      refine ⟨⟨Nat.le_add_right _ _, Nat.le_add_right _ _, rfl, rfl⟩, fun p l e R s m args below meth c Q D cy base lay c0 w0 C hd hc0 hw0 hrc hrs kk H locs ls hP hZ hS hl => ?_⟩
      have hlay := C.2.2.2.2.2.2.2.2.2.2.2
      have hKK := C.2.2.2.2.2.2.2.2.2.2.1.1
      have haoa := C.2.2.2.2.2.2.2.2.2.2.1.2.1.2.2.2.2.2
      have hsz := hZ.1 hF0
      have hrc' : hC h + (1 + n.toNatClampNeg) - c0 ≤ R.cells := hrc
      have hrs' : hW h + (n.toNatClampNeg + n.toNatClampNeg * k.toNatClampNeg) - w0 ≤ R.slots := hrs
      intro T hT Xs
      subst hT
      have hbb := C.2.1
      obtain ⟨vm₁, cA, comp, -, fA, fC, hO, -, X', step⟩ := Xs.multianewarray2F (ty := .int) C.1 C.2.2.2.1 (C.2.2.2.2.1 _ hw) haoa (C.2.2.2.2.1 _ ok_ai) (g := F0 m pc ls (.int k :: .int n :: r.map (xi_tv lay))) rfl (by rw [hbb]; exact hd) rfl hn0 hk0 (by omega) (by show k.toNatClampNeg * 4 ≤ 536870912; omega) (by omega) rfl rfl (by omega) (by omega)
      have ec : cA = cy 8 := Option.some.inj (fA.symm.trans (hKK.2 8 _ rfl).2)
      have ec2 : comp = cy 0 := Option.some.inj (fC.symm.trans (hKK.2 0 _ rfl).2)
      subst ec
      subst ec2
      generalize hF9 : Jvm.Free.Multi.fill (T.setVm vm₁) (cy 8) (cy 0) n.toNatClampNeg k.toNatClampNeg (defaultValue .int) n.toNatClampNeg = F at X' step
      obtain ⟨f1, f2, -, -⟩ := Jvm.Free.Multi.fill_facts (T.setVm vm₁) (cy 8) (cy 0) n.toNatClampNeg k.toNatClampNeg (defaultValue .int) n.toNatClampNeg
      rw [hF9] at f1 f2
      have f1' : F.heap.size = T.heap.size + 1 + n.toNatClampNeg := f1
      have hold : ∀ x : Nat, x < T.heap.size → F.heap[x]? = T.heap[x]? := fun x hx => by
        have := Jvm.Free.Multi.fill_old (T.setVm vm₁) (cy 8) (cy 0) n.toNatClampNeg k.toNatClampNeg (defaultValue .int) (a := x) hx n.toNatClampNeg
        rw [hF9] at this
        exact this
      have hrow : ∀ j : Nat, j < n.toNatClampNeg → F.heap[T.heap.size + 1 + j]? = some (arrV (cy 0) k.toNatClampNeg (fun _ => .int 0)) := fun j hj => by
        have := Jvm.Free.Multi.fill_inner (T.setVm vm₁) (cy 8) (cy 0) n.toNatClampNeg k.toNatClampNeg (defaultValue .int) n.toNatClampNeg j hj
        rw [hF9] at this
        rw [← arrV_new]
        exact this
      have ea : lay (hN h) = T.heap.size := by rw [hlay _ (by omega), hsz]
      have hP1 : xi_P D cy lay (xi_mn h n.toNatClampNeg k.toNatClampNeg) F.heap := by
        intro i hi
        have hi' : i < hN h + (1 + n.toNatClampNeg) := hi
        by_cases h1 : i < hN h
        · rw [xi_en_mo h1]
          exact (hP i h1).kept (hold _ (by rw [hlay i (by omega), hsz]; omega))
        · by_cases h2 : i = hN h
          · subst h2
            rw [ea, xi_en_r (k := 16) (by show (if hN h = hN h then (16, n.toNatClampNeg) else _).1 = 16; rw [if_pos rfl]) (by omega)]
            show F.heap[T.heap.size]? = some (vp_cell _ _)
            rw [vp_cell_q]
            have e16 : hK (xi_mn h n.toNatClampNeg k.toNatClampNeg) (hN h) = (16, n.toNatClampNeg) := by
              show (if hN h = hN h then (16, n.toNatClampNeg) else _) = _
              rw [if_pos rfl]
            rw [e16]
            have f2' : F.heap[T.heap.size]? = some (Jvm.Free.Multi.outerC (cy 8) n.toNatClampNeg T.heap.size n.toNatClampNeg) := f2
            rw [f2', xi_outer]
            refine congrArg (fun f => some (arrV (cy 8) n.toNatClampNeg f)) (funext fun j => ?_)
            show va_rf (if j < n.toNatClampNeg then some (T.heap.size + 1 + j) else none) = va_rf (Option.map lay (if hN h = hN h then (if j < n.toNatClampNeg then some (hN h + 1 + j) else none) else _))
            rw [if_pos rfl]
            by_cases hj : j < n.toNatClampNeg
            · rw [if_pos hj, if_pos hj]
              show _ = va_rf (some (lay (hN h + 1 + j)))
              rw [hlay _ (by omega), hsz]
              congr 2
              omega
            · rw [if_neg hj, if_neg hj]
              rfl
          · have h3 : hN h < i ∧ i ≤ hN h + n.toNatClampNeg := by omega
            have e8 : hK (xi_mn h n.toNatClampNeg k.toNatClampNeg) i = (8, k.toNatClampNeg) := by
              show (if i = hN h then (16, n.toNatClampNeg) else if hN h < i ∧ i ≤ hN h + n.toNatClampNeg then (8, k.toNatClampNeg) else hK h i) = _
              rw [if_neg h2, if_pos h3]
            rw [xi_en_i (k := 8) (by rw [e8]) (by omega) (by omega), e8]
            show F.heap[lay i]? = some (vp_cell _ _)
            rw [vp_cell_i, show lay i = T.heap.size + 1 + (i - hN h - 1) from by rw [hlay i (by omega), hsz]; omega, hrow _ (by omega)]
            refine congrArg (fun f => some (arrV (cy 0) k.toNatClampNeg f)) (funext fun j => ?_)
            show Value.int 0 = Value.int (if hN h < i ∧ i ≤ hN h + n.toNatClampNeg then (0 : Int32) else hI h i j)
            rw [if_pos h3]
      have hZ1 : xi_Z base (xi_mn h n.toNatClampNeg k.toNatClampNeg) F.heap := by
        refine ⟨fun _ => ?_, ?_, ?_⟩
        · show F.heap.size = base + (hN h + (1 + n.toNatClampNeg))
          omega
        · show base + (hN h + (1 + n.toNatClampNeg)) ≤ F.heap.size
          omega
        · show hN h + (1 + n.toNatClampNeg) ≤ 900000
          omega
      have kk' := kk F.heap locs ls hP1 hZ1 (xi_S_new hS (by omega) hold) hl
      have e2 : ((pc + 4, lv, Value.ref (hN h) :: r) : xFr).2.2.map (xi_tv lay) = .ref T.heap.size :: r.map (xi_tv lay) := by rw [← ea]; rfl
      rw [e2] at kk'
      have ec1 : hC h - c0 + 1 + n.toNatClampNeg = hC (xi_mn h n.toNatClampNeg k.toNatClampNeg) - c0 := by
        show _ = hC h + (1 + n.toNatClampNeg) - c0
        omega
      have ew1 : hW h - w0 + n.toNatClampNeg + n.toNatClampNeg * k.toNatClampNeg = hW (xi_mn h n.toNatClampNeg k.toNatClampNeg) - w0 := by
        show _ = hW h + (n.toNatClampNeg + n.toNatClampNeg * k.toNatClampNeg) - w0
        omega
      rw [ec1, ew1] at X'
      obtain ⟨t, a1, b1⟩ := kk' F rfl X'
      exact ⟨t, step t a1, b1⟩
    · cases hs
  · cases hs
end
end
section
def xi_cw (mi : xMi) : Cond := if xi_hh mi = [] then .code (xi_y mi) (xi_cc mi) (xi_mL mi) (xi_rt mi) else .codeWith (xi_y mi) (xi_cc mi) (xi_mL mi) (xi_rt mi) (xi_hh mi)
set_option maxRecDepth 100000 in
theorem ok_cw_X0_raise : xi_cw mi_X0_raise ∈ xT := xi_mem (i := 171) (w := Cond.code yX0_raise cX0_raise 5 (some (FieldType.int))) (by rfl) rfl
set_option maxRecDepth 100000 in
theorem ok_cw_X0_mix : xi_cw mi_X0_mix ∈ xT := xi_mem (i := 537) (w := Cond.code yX0_mix cX0_mix 3 (some (FieldType.int))) (by rfl) rfl
set_option maxRecDepth 100000 in
theorem ok_cw_X0_shared : xi_cw mi_X0_shared ∈ xT := xi_mem (i := 651) (w := Cond.code yX0_shared cX0_shared 6 (some (FieldType.int))) (by rfl) rfl
set_option maxRecDepth 100000 in
theorem ok_cw_X0_tag : xi_cw mi_X0_tag ∈ xT := xi_mem (i := 656) (w := Cond.code yX0_tag cX0_tag 1 (some (FieldType.int))) (by rfl) rfl
set_option maxRecDepth 100000 in
theorem ok_cw_X0_fillKeys : xi_cw mi_X0_fillKeys ∈ xT := xi_mem (i := 659) (w := Cond.code yX0_fillKeys cX0_fillKeys 4 none) (by rfl) rfl
set_option maxRecDepth 100000 in
theorem ok_cw_X1_init : xi_cw mi_X1_init ∈ xT := xi_mem (i := 102) (w := Cond.code yX1_init cX1_init 1 none) (by rfl) rfl
set_option maxRecDepth 100000 in
theorem ok_cw_X1_address : xi_cw mi_X1_address ∈ xT := xi_mem (i := 498) (w := Cond.code yX1_address cX1_address 6 none) (by rfl) rfl
set_option maxRecDepth 100000 in
theorem ok_cw_X1_writeOrder : xi_cw mi_X1_writeOrder ∈ xT := xi_mem (i := 526) (w := Cond.code yX1_writeOrder cX1_writeOrder 4 none) (by rfl) rfl
set_option maxRecDepth 100000 in
theorem ok_cw_X1_copyBytes : xi_cw mi_X1_copyBytes ∈ xT := xi_mem (i := 788) (w := Cond.code yX1_copyBytes cX1_copyBytes 3 none) (by rfl) rfl
set_option maxRecDepth 100000 in
theorem ok_cw_X1_pair : xi_cw mi_X1_pair ∈ xT := xi_mem (i := 644) (w := Cond.code yX1_pair cX1_pair 2 (some (FieldType.int))) (by rfl) rfl
set_option maxRecDepth 100000 in
theorem ok_cw_X1_putPair : xi_cw mi_X1_putPair ∈ xT := xi_mem (i := 503) (w := Cond.code yX1_putPair cX1_putPair 3 none) (by rfl) rfl
set_option maxRecDepth 100000 in
theorem ok_cw_X1_dataLength : xi_cw mi_X1_dataLength ∈ xT := xi_mem (i := 695) (w := Cond.code yX1_dataLength cX1_dataLength 1 (some (FieldType.int))) (by rfl) rfl
set_option maxRecDepth 100000 in
theorem ok_cw_X1_wrap : xi_cw mi_X1_wrap ∈ xT := xi_mem (i := 542) (w := Cond.code yX1_wrap cX1_wrap 4 (some (FieldType.int))) (by rfl) rfl
set_option maxRecDepth 100000 in
theorem ok_cw_X1_fed : xi_cw mi_X1_fed ∈ xT := xi_mem (i := 534) (w := Cond.code yX1_fed cX1_fed 5 (some (FieldType.int))) (by rfl) rfl
set_option maxRecDepth 100000 in
theorem ok_cw_X1_isKnownBy : xi_cw mi_X1_isKnownBy ∈ xT := xi_mem (i := 677) (w := Cond.code yX1_isKnownBy cX1_isKnownBy 2 (some (FieldType.boolean))) (by rfl) rfl
set_option maxRecDepth 100000 in
theorem ok_cw_X2_init : xi_cw mi_X2_init ∈ xT := xi_mem (i := 244) (w := Cond.code yX2_init cX2_init 5 none) (by rfl) rfl
set_option maxRecDepth 100000 in
theorem ok_cw_X2_isLive : xi_cw mi_X2_isLive ∈ xT := xi_mem (i := 474) (w := Cond.code yX2_isLive cX2_isLive 1 (some (FieldType.boolean))) (by rfl) rfl
set_option maxRecDepth 100000 in
theorem ok_cw_X2_hasHop : xi_cw mi_X2_hasHop ∈ xT := xi_mem (i := 561) (w := Cond.code yX2_hasHop cX2_hasHop 2 (some (FieldType.boolean))) (by rfl) rfl
set_option maxRecDepth 100000 in
theorem ok_cw_X2_goesThrough : xi_cw mi_X2_goesThrough ∈ xT := xi_mem (i := 514) (w := Cond.code yX2_goesThrough cX2_goesThrough 3 (some (FieldType.boolean))) (by rfl) rfl
set_option maxRecDepth 100000 in
theorem ok_cw_X2_startAnew : xi_cw mi_X2_startAnew ∈ xT := xi_mem (i := 478) (w := Cond.code yX2_startAnew cX2_startAnew 3 none) (by rfl) rfl
set_option maxRecDepth 100000 in
theorem ok_cw_X2_askForHop : xi_cw mi_X2_askForHop ∈ xT := xi_mem (i := 518) (w := Cond.code yX2_askForHop cX2_askForHop 4 none) (by rfl) rfl
set_option maxRecDepth 100000 in
theorem ok_cw_X2_waitFor : xi_cw mi_X2_waitFor ∈ xT := xi_mem (i := 490) (w := Cond.code yX2_waitFor cX2_waitFor 3 none) (by rfl) rfl
set_option maxRecDepth 100000 in
theorem ok_cw_X2_askForStream : xi_cw mi_X2_askForStream ∈ xT := xi_mem (i := 565) (w := Cond.code yX2_askForStream cX2_askForStream 3 none) (by rfl) rfl
set_option maxRecDepth 100000 in
theorem ok_cw_X2_sendData : xi_cw mi_X2_sendData ∈ xT := xi_mem (i := 579) (w := Cond.code yX2_sendData cX2_sendData 6 none) (by rfl) rfl
set_option maxRecDepth 100000 in
theorem ok_cw_X2_endStream : xi_cw mi_X2_endStream ∈ xT := xi_mem (i := 590) (w := Cond.code yX2_endStream cX2_endStream 2 none) (by rfl) rfl
set_option maxRecDepth 100000 in
theorem ok_cw_X2_askToTruncate : xi_cw mi_X2_askToTruncate ∈ xT := xi_mem (i := 601) (w := Cond.code yX2_askToTruncate cX2_askToTruncate 2 none) (by rfl) rfl
set_option maxRecDepth 100000 in
theorem ok_cw_X2_order : xi_cw mi_X2_order ∈ xT := xi_mem (i := 522) (w := Cond.code yX2_order cX2_order 5 (some (FieldType.object "OnionCells$Cell"))) (by rfl) rfl
set_option maxRecDepth 100000 in
theorem ok_cw_X2_sealTo : xi_cw mi_X2_sealTo ∈ xT := xi_mem (i := 530) (w := Cond.code yX2_sealTo cX2_sealTo 5 none) (by rfl) rfl
set_option maxRecDepth 100000 in
theorem ok_cw_X2_firstRelay : xi_cw mi_X2_firstRelay ∈ xT := xi_mem (i := 616) (w := Cond.code yX2_firstRelay cX2_firstRelay 1 (some (FieldType.int))) (by rfl) rfl
set_option maxRecDepth 100000 in
theorem ok_cw_X2_shut : xi_cw mi_X2_shut ∈ xT := xi_mem (i := 612) (w := Cond.code yX2_shut cX2_shut 1 none) (by rfl) rfl
set_option maxRecDepth 100000 in
theorem ok_cw_X2_becomeClosed : xi_cw mi_X2_becomeClosed ∈ xT := xi_mem (i := 620) (w := Cond.code yX2_becomeClosed cX2_becomeClosed 1 none) (by rfl) rfl
set_option maxRecDepth 100000 in
theorem ok_cw_X2_dropStreamsFrom : xi_cw mi_X2_dropStreamsFrom ∈ xT := xi_mem (i := 482) (w := Cond.code yX2_dropStreamsFrom cX2_dropStreamsFrom 3 none) (by rfl) rfl
set_option maxRecDepth 100000 in
theorem ok_cw_X2_takes : xi_cw mi_X2_takes ∈ xT := xi_mem (i := 635) (w := Cond.code yX2_takes cX2_takes 2 (some (FieldType.boolean))) (by rfl) rfl
set_option maxRecDepth 100000 in
theorem ok_cw_X2_takesCreated : xi_cw mi_X2_takesCreated ∈ xT := xi_mem (i := 640) (w := Cond.code yX2_takesCreated cX2_takesCreated 2 (some (FieldType.boolean))) (by rfl) rfl
set_option maxRecDepth 100000 in
theorem ok_cw_X2_takesRelay : xi_cw mi_X2_takesRelay ∈ xT := xi_mem (i := 668) (w := Cond.code yX2_takesRelay cX2_takesRelay 2 (some (FieldType.boolean))) (by rfl) rfl
set_option maxRecDepth 100000 in
theorem ok_cw_X2_addsHop : xi_cw mi_X2_addsHop ∈ xT := xi_mem (i := 648) (w := Cond.code yX2_addsHop cX2_addsHop 6 (some (FieldType.boolean))) (by rfl) rfl
set_option maxRecDepth 100000 in
theorem ok_cw_X2_becomeReady : xi_cw mi_X2_becomeReady ∈ xT := xi_mem (i := 663) (w := Cond.code yX2_becomeReady cX2_becomeReady 1 none) (by rfl) rfl
set_option maxRecDepth 100000 in
theorem ok_cw_X2_isKnown : xi_cw mi_X2_isKnown ∈ xT := xi_mem (i := 672) (w := Cond.code yX2_isKnown cX2_isKnown 5 (some (FieldType.boolean))) (by rfl) rfl
set_option maxRecDepth 100000 in
theorem ok_cw_X2_follows : xi_cw mi_X2_follows ∈ xT := xi_mem (i := 682) (w := Cond.code yX2_follows cX2_follows 3 (some (FieldType.boolean))) (by rfl) rfl
set_option maxRecDepth 100000 in
theorem ok_cw_X2_followOfStream : xi_cw mi_X2_followOfStream ∈ xT := xi_mem (i := 686) (w := Cond.code yX2_followOfStream cX2_followOfStream 6 none) (by rfl) rfl
set_option maxRecDepth 100000 in
theorem ok_cw_X2_keepLatest : xi_cw mi_X2_keepLatest ∈ xT := xi_mem (i := 691) (w := Cond.code yX2_keepLatest cX2_keepLatest 3 none) (by rfl) rfl
set_option maxRecDepth 100000 in
theorem ok_cw_X3_init : xi_cw mi_X3_init ∈ xT := xi_mem (i := 176) (w := Cond.code yX3_init cX3_init 4 none) (by rfl) rfl
set_option maxRecDepth 100000 in
theorem ok_cw_X3_start : xi_cw mi_X3_start ∈ xT := xi_mem (i := 712) (w := Cond.code yX3_start cX3_start 3 none) (by rfl) rfl
set_option maxRecDepth 100000 in
theorem ok_cw_X3_vanish : xi_cw mi_X3_vanish ∈ xT := xi_mem (i := 796) (w := Cond.code yX3_vanish cX3_vanish 2 none) (by rfl) rfl
set_option maxRecDepth 100000 in
theorem ok_cw_X3_next : xi_cw mi_X3_next ∈ xT := xi_mem (i := 754) (w := Cond.code yX3_next cX3_next 1 (some (FieldType.int))) (by rfl) rfl
set_option maxRecDepth 100000 in
theorem ok_cw_X3_destroyNext : xi_cw mi_X3_destroyNext ∈ xT := xi_mem (i := 776) (w := Cond.code yX3_destroyNext cX3_destroyNext 1 none) (by rfl) rfl
set_option maxRecDepth 100000 in
theorem ok_cw_X3_tearDown : xi_cw mi_X3_tearDown ∈ xT := xi_mem (i := 792) (w := Cond.code yX3_tearDown cX3_tearDown 1 none) (by rfl) rfl
set_option maxRecDepth 100000 in
theorem ok_cw_X3_takesCreated : xi_cw mi_X3_takesCreated ∈ xT := xi_mem (i := 719) (w := Cond.code yX3_takesCreated cX3_takesCreated 3 (some (FieldType.boolean))) (by rfl) rfl
set_option maxRecDepth 100000 in
theorem ok_cw_X3_takesDestroy : xi_cw mi_X3_takesDestroy ∈ xT := xi_mem (i := 800) (w := Cond.code yX3_takesDestroy cX3_takesDestroy 2 (some (FieldType.boolean))) (by rfl) rfl
set_option maxRecDepth 100000 in
theorem ok_cw_X3_passOn : xi_cw mi_X3_passOn ∈ xT := xi_mem (i := 804) (w := Cond.code yX3_passOn cX3_passOn 3 none) (by rfl) rfl
set_option maxRecDepth 100000 in
theorem ok_cw_X3_takesRelay : xi_cw mi_X3_takesRelay ∈ xT := xi_mem (i := 737) (w := Cond.code yX3_takesRelay cX3_takesRelay 3 (some (FieldType.boolean))) (by rfl) rfl
set_option maxRecDepth 100000 in
theorem ok_cw_X3_goesForward : xi_cw mi_X3_goesForward ∈ xT := xi_mem (i := 780) (w := Cond.code yX3_goesForward cX3_goesForward 2 (some (FieldType.boolean))) (by rfl) rfl
set_option maxRecDepth 100000 in
theorem ok_cw_X3_isKnown : xi_cw mi_X3_isKnown ∈ xT := xi_mem (i := 741) (w := Cond.code yX3_isKnown cX3_isKnown 4 (some (FieldType.boolean))) (by rfl) rfl
set_option maxRecDepth 100000 in
theorem ok_cw_X3_relayOn : xi_cw mi_X3_relayOn ∈ xT := xi_mem (i := 784) (w := Cond.code yX3_relayOn cX3_relayOn 5 none) (by rfl) rfl
set_option maxRecDepth 100000 in
theorem ok_cw_X3_follows : xi_cw mi_X3_follows ∈ xT := xi_mem (i := 746) (w := Cond.code yX3_follows cX3_follows 3 (some (FieldType.boolean))) (by rfl) rfl
set_option maxRecDepth 100000 in
theorem ok_cw_X3_followsExtend : xi_cw mi_X3_followsExtend ∈ xT := xi_mem (i := 750) (w := Cond.code yX3_followsExtend cX3_followsExtend 4 (some (FieldType.boolean))) (by rfl) rfl
set_option maxRecDepth 100000 in
theorem ok_cw_X3_followBegin : xi_cw mi_X3_followBegin ∈ xT := xi_mem (i := 758) (w := Cond.code yX3_followBegin cX3_followBegin 2 none) (by rfl) rfl
set_option maxRecDepth 100000 in
theorem ok_cw_X3_followData : xi_cw mi_X3_followData ∈ xT := xi_mem (i := 763) (w := Cond.code yX3_followData cX3_followData 5 none) (by rfl) rfl
set_option maxRecDepth 100000 in
theorem ok_cw_X3_followTruncate : xi_cw mi_X3_followTruncate ∈ xT := xi_mem (i := 772) (w := Cond.code yX3_followTruncate cX3_followTruncate 1 none) (by rfl) rfl
set_option maxRecDepth 100000 in
theorem ok_cw_X3_isOpen : xi_cw mi_X3_isOpen ∈ xT := xi_mem (i := 767) (w := Cond.code yX3_isOpen cX3_isOpen 2 (some (FieldType.boolean))) (by rfl) rfl
set_option maxRecDepth 100000 in
theorem ok_cw_X3_orderBack : xi_cw mi_X3_orderBack ∈ xT := xi_mem (i := 723) (w := Cond.code yX3_orderBack cX3_orderBack 5 (some (FieldType.object "OnionCells$Cell"))) (by rfl) rfl
set_option maxRecDepth 100000 in
theorem ok_cw_X3_sealBack : xi_cw mi_X3_sealBack ∈ xT := xi_mem (i := 731) (w := Cond.code yX3_sealBack cX3_sealBack 2 none) (by rfl) rfl
set_option maxRecDepth 100000 in
theorem ok_cw_X4_init : xi_cw mi_X4_init ∈ xT := xi_mem (i := 165) (w := Cond.code yX4_init cX4_init 4 none) (by rfl) rfl
set_option maxRecDepth 100000 in
theorem ok_cw_X4_takeSecret : xi_cw mi_X4_takeSecret ∈ xT := xi_mem (i := 457) (w := Cond.code yX4_takeSecret cX4_takeSecret 2 none) (by rfl) rfl
set_option maxRecDepth 100000 in
theorem ok_cw_X4_hasPassage : xi_cw mi_X4_hasPassage ∈ xT := xi_mem (i := 435) (w := Cond.code yX4_hasPassage cX4_hasPassage 2 (some (FieldType.boolean))) (by rfl) rfl
set_option maxRecDepth 100000 in
theorem ok_cw_X4_takes : xi_cw mi_X4_takes ∈ xT := xi_mem (i := 699) (w := Cond.code yX4_takes cX4_takes 3 (some (FieldType.boolean))) (by rfl) rfl
set_option maxRecDepth 100000 in
theorem ok_cw_X4_takesCreate : xi_cw mi_X4_takesCreate ∈ xT := xi_mem (i := 703) (w := Cond.code yX4_takesCreate cX4_takesCreate 8 (some (FieldType.boolean))) (by rfl) rfl
set_option maxRecDepth 100000 in
theorem ok_cw_X5_init : xi_cw mi_X5_init ∈ xT := xi_mem (i := 95) (w := Cond.code yX5_init cX5_init 2 none) (by rfl) rfl
set_option maxRecDepth 100000 in
theorem ok_cw_X5_add : xi_cw mi_X5_add ∈ xT := xi_mem (i := 494) (w := Cond.code yX5_add cX5_add 6 (some (FieldType.object "OnionCells$Cell"))) (by rfl) rfl
set_option maxRecDepth 100000 in
theorem ok_cw_X5_takeOut : xi_cw mi_X5_takeOut ∈ xT := xi_mem (i := 631) (w := Cond.code yX5_takeOut cX5_takeOut 4 (some (FieldType.object "OnionCells$Cell"))) (by rfl) rfl
set_option maxRecDepth 100000 in
theorem ok_cw_X6_init : xi_cw mi_X6_init ∈ xT := xi_mem (i := 253) (w := Cond.code yX6_init cX6_init 1 none) (by rfl) rfl
set_option maxRecDepth 100000 in
theorem ok_cw_X6_become : xi_cw mi_X6_become ∈ xT := xi_mem (i := 486) (w := Cond.code yX6_become cX6_become 3 none) (by rfl) rfl
set_option maxRecDepth 100000 in
theorem ok_cw_X7_init : xi_cw mi_X7_init ∈ xT := xi_mem (i := 87) (w := Cond.code yX7_init cX7_init 2 none) (by rfl) rfl
set_option maxRecDepth 100000 in
theorem ok_cw_X7_secret : xi_cw mi_X7_secret ∈ xT := xi_mem (i := 343) (w := Cond.code yX7_secret cX7_secret 4 (some (FieldType.int))) (by rfl) rfl
set_option maxRecDepth 100000 in
theorem ok_cw_X7_create : xi_cw mi_X7_create ∈ xT := xi_mem (i := 464) (w := Cond.code yX7_create cX7_create 5 (some (FieldType.int))) (by rfl) rfl
set_option maxRecDepth 100000 in
theorem ok_cw_X7_extend : xi_cw mi_X7_extend ∈ xT := xi_mem (i := 510) (w := Cond.code yX7_extend cX7_extend 5 (some (FieldType.int))) (by rfl) rfl
set_option maxRecDepth 100000 in
theorem ok_cw_X7_begin : xi_cw mi_X7_begin ∈ xT := xi_mem (i := 551) (w := Cond.code yX7_begin cX7_begin 5 none) (by rfl) rfl
set_option maxRecDepth 100000 in
theorem ok_cw_X7_send : xi_cw mi_X7_send ∈ xT := xi_mem (i := 572) (w := Cond.code yX7_send cX7_send 6 (some (FieldType.int))) (by rfl) rfl
set_option maxRecDepth 100000 in
theorem ok_cw_X7_end : xi_cw mi_X7_end ∈ xT := xi_mem (i := 586) (w := Cond.code yX7_end cX7_end 4 (some (FieldType.int))) (by rfl) rfl
set_option maxRecDepth 100000 in
theorem ok_cw_X7_truncate : xi_cw mi_X7_truncate ∈ xT := xi_mem (i := 597) (w := Cond.code yX7_truncate cX7_truncate 4 (some (FieldType.int))) (by rfl) rfl
set_option maxRecDepth 100000 in
theorem ok_cw_X7_close : xi_cw mi_X7_close ∈ xT := xi_mem (i := 608) (w := Cond.code yX7_close cX7_close 2 none) (by rfl) rfl
set_option maxRecDepth 100000 in
theorem ok_cw_X7_deliver : xi_cw mi_X7_deliver ∈ xT := xi_mem (i := 627) (w := Cond.code yX7_deliver cX7_deliver 5 (some (FieldType.int))) (by rfl) rfl
set_option maxRecDepth 100000 in
theorem ok_cw_X7_damage : xi_cw mi_X7_damage ∈ xT := xi_mem (i := 811) (w := Cond.code yX7_damage cX7_damage 6 (some (FieldType.int))) (by rfl) rfl
set_option maxRecDepth 100000 in
theorem ok_cw_X7_lose : xi_cw mi_X7_lose ∈ xT := xi_mem (i := 818) (w := Cond.code yX7_lose cX7_lose 2 (some (FieldType.int))) (by rfl) rfl
set_option maxRecDepth 100000 in
theorem ok_cw_X7_cell : xi_cw mi_X7_cell ∈ xT := xi_mem (i := 825) (w := Cond.code yX7_cell cX7_cell 4 (some (FieldType.int))) (by rfl) rfl
set_option maxRecDepth 100000 in
theorem ok_cw_X7_circuit : xi_cw mi_X7_circuit ∈ xT := xi_mem (i := 832) (w := Cond.code yX7_circuit cX7_circuit 4 (some (FieldType.int))) (by rfl) rfl
set_option maxRecDepth 100000 in
theorem ok_cw_X7_key : xi_cw mi_X7_key ∈ xT := xi_mem (i := 839) (w := Cond.code yX7_key cX7_key 4 (some (FieldType.int))) (by rfl) rfl
set_option maxRecDepth 100000 in
theorem ok_cw_X7_relay : xi_cw mi_X7_relay ∈ xT := xi_mem (i := 846) (w := Cond.code yX7_relay cX7_relay 5 (some (FieldType.int))) (by rfl) rfl
set_option maxRecDepth 100000 in
theorem ok_cw_X7_data : xi_cw mi_X7_data ∈ xT := xi_mem (i := 853) (w := Cond.code yX7_data cX7_data 4 (some (FieldType.int))) (by rfl) rfl
set_option maxRecDepth 100000 in
theorem ok_cw_X7_count : xi_cw mi_X7_count ∈ xT := xi_mem (i := 860) (w := Cond.code yX7_count cX7_count 2 (some (FieldType.int))) (by rfl) rfl
set_option maxRecDepth 100000 in
theorem ok_cw_X7_loss : xi_cw mi_X7_loss ∈ xT := xi_mem (i := 333) (w := Cond.code yX7_loss cX7_loss 2 (some (FieldType.float))) (by rfl) rfl
set_option maxRecDepth 100000 in
theorem ok_cw_X7_readyCircuits : xi_cw mi_X7_readyCircuits ∈ xT := xi_mem (i := 864) (w := Cond.code yX7_readyCircuits cX7_readyCircuits 3 (some (FieldType.int))) (by rfl) rfl
set_option maxRecDepth 100000 in
theorem ok_cw_X7_checkCircuit : xi_cw mi_X7_checkCircuit ∈ xT := xi_mem (i := 467) (w := Cond.code yX7_checkCircuit cX7_checkCircuit 1 none) (by rfl) rfl
set_option maxRecDepth 100000 in
theorem ok_cw_X7_checkRelay : xi_cw mi_X7_checkRelay ∈ xT := xi_mem (i := 346) (w := Cond.code yX7_checkRelay cX7_checkRelay 1 none) (by rfl) rfl
set_option maxRecDepth 100000 in
theorem ok_cw_X7_checkStream : xi_cw mi_X7_checkStream ∈ xT := xi_mem (i := 554) (w := Cond.code yX7_checkStream cX7_checkStream 1 none) (by rfl) rfl
set_option maxRecDepth 100000 in
theorem ok_cw_X7_checkIndex : xi_cw mi_X7_checkIndex ∈ xT := xi_mem (i := 470) (w := Cond.code yX7_checkIndex cX7_checkIndex 2 none) (by rfl) rfl
set_option maxRecDepth 100000 in
theorem ok_cw_X7_checkExponent : xi_cw mi_X7_checkExponent ∈ xT := xi_mem (i := 412) (w := Cond.code yX7_checkExponent cX7_checkExponent 1 none) (by rfl) rfl
set_option maxRecDepth 100000 in
theorem ok_cw_X7_checkArgument : xi_cw mi_X7_checkArgument ∈ xT := xi_mem (i := 416) (w := Cond.code yX7_checkArgument cX7_checkArgument 1 none) (by rfl) rfl
set_option maxRecDepth 100000 in
theorem ok_cw_X7_checkState : xi_cw mi_X7_checkState ∈ xT := xi_mem (i := 438) (w := Cond.code yX7_checkState cX7_checkState 1 none) (by rfl) rfl
set_option maxRecDepth 100000 in
theorem ok_cw_X7_isByte : xi_cw mi_X7_isByte ∈ xT := xi_mem (i := 575) (w := Cond.code yX7_isByte cX7_isByte 1 (some (FieldType.boolean))) (by rfl) rfl
set_option maxRecDepth 100000 in
theorem ok_cw_X7_isStream : xi_cw mi_X7_isStream ∈ xT := xi_mem (i := 557) (w := Cond.code yX7_isStream cX7_isStream 1 (some (FieldType.boolean))) (by rfl) rfl
set_option maxRecDepth 100000 in
theorem ok_cw_X8_init : xi_cw mi_X8_init ∈ xT := xi_mem (i := 869) (w := Cond.code yX8_init cX8_init 2 none) (by rfl) rfl
set_option maxRecDepth 100000 in
theorem ok_cw_X8_thrown : xi_cw mi_X8_thrown ∈ xT := xi_mem (i := 965) (w := Cond.code yX8_thrown cX8_thrown 1 (some (FieldType.int))) (by rfl) rfl
set_option maxRecDepth 100000 in
theorem ok_cw_X8_in : xi_cw mi_X8_in ∈ xT := xi_mem (i := 975) (w := Cond.code yX8_in cX8_in 3 (some (FieldType.boolean))) (by rfl) rfl
set_option maxRecDepth 100000 in
theorem ok_cw_X8_isCircuit : xi_cw mi_X8_isCircuit ∈ xT := xi_mem (i := 992) (w := Cond.code yX8_isCircuit cX8_isCircuit 1 (some (FieldType.boolean))) (by rfl) rfl
set_option maxRecDepth 100000 in
theorem ok_cw_X8_isRelay : xi_cw mi_X8_isRelay ∈ xT := xi_mem (i := 972) (w := Cond.code yX8_isRelay cX8_isRelay 1 (some (FieldType.boolean))) (by rfl) rfl
set_option maxRecDepth 100000 in
theorem ok_cw_X8_raise : xi_cw mi_X8_raise ∈ xT := xi_mem (i := 983) (w := Cond.code yX8_raise cX8_raise 7 (some (FieldType.int))) (by rfl) rfl
set_option maxRecDepth 100000 in
theorem ok_cw_X8_mix : xi_cw mi_X8_mix ∈ xT := xi_mem (i := 1035) (w := Cond.code yX8_mix cX8_mix 3 (some (FieldType.int))) (by rfl) rfl
set_option maxRecDepth 100000 in
theorem ok_cw_X8_agree : xi_cw mi_X8_agree ∈ xT := xi_mem (i := 1098) (w := Cond.code yX8_agree cX8_agree 8 none) (by rfl) rfl
set_option maxRecDepth 100000 in
theorem ok_cw_X8_wrap : xi_cw mi_X8_wrap ∈ xT := xi_mem (i := 1040) (w := Cond.code yX8_wrap cX8_wrap 4 (some (FieldType.int))) (by rfl) rfl
set_option maxRecDepth 100000 in
theorem ok_cw_X8_fed : xi_cw mi_X8_fed ∈ xT := xi_mem (i := 1032) (w := Cond.code yX8_fed cX8_fed 4 (some (FieldType.int))) (by rfl) rfl
set_option maxRecDepth 100000 in
theorem ok_cw_X8_pair : xi_cw mi_X8_pair ∈ xT := xi_mem (i := 1090) (w := Cond.code yX8_pair cX8_pair 2 (some (FieldType.int))) (by rfl) rfl
set_option maxRecDepth 100000 in
theorem ok_cw_X8_putPair : xi_cw mi_X8_putPair ∈ xT := xi_mem (i := 1008) (w := Cond.code yX8_putPair cX8_putPair 3 none) (by rfl) rfl
set_option maxRecDepth 100000 in
theorem ok_cw_X8_clearBytes : xi_cw mi_X8_clearBytes ∈ xT := xi_mem (i := 1004) (w := Cond.code yX8_clearBytes cX8_clearBytes 2 none) (by rfl) rfl
set_option maxRecDepth 100000 in
theorem ok_cw_X8_order : xi_cw mi_X8_order ∈ xT := xi_mem (i := 1020) (w := Cond.code yX8_order cX8_order 4 none) (by rfl) rfl
set_option maxRecDepth 100000 in
theorem ok_cw_X8_seal : xi_cw mi_X8_seal ∈ xT := xi_mem (i := 1028) (w := Cond.code yX8_seal cX8_seal 3 (some (FieldType.int))) (by rfl) rfl
set_option maxRecDepth 100000 in
theorem ok_cw_X8_isKnown : xi_cw mi_X8_isKnown ∈ xT := xi_mem (i := 1103) (w := Cond.code yX8_isKnown cX8_isKnown 2 (some (FieldType.boolean))) (by rfl) rfl
set_option maxRecDepth 100000 in
theorem ok_cw_X8_ship : xi_cw mi_X8_ship ∈ xT := xi_mem (i := 1012) (w := Cond.code yX8_ship cX8_ship 8 none) (by rfl) rfl
set_option maxRecDepth 100000 in
theorem ok_cw_X8_destroy : xi_cw mi_X8_destroy ∈ xT := xi_mem (i := 1070) (w := Cond.code yX8_destroy cX8_destroy 4 none) (by rfl) rfl
set_option maxRecDepth 100000 in
theorem ok_cw_X8_remove : xi_cw mi_X8_remove ∈ xT := xi_mem (i := 1082) (w := Cond.code yX8_remove cX8_remove 3 none) (by rfl) rfl
set_option maxRecDepth 100000 in
theorem ok_cw_X8_dropStreams : xi_cw mi_X8_dropStreams ∈ xT := xi_mem (i := 1000) (w := Cond.code yX8_dropStreams cX8_dropStreams 4 none) (by rfl) rfl
set_option maxRecDepth 100000 in
theorem ok_cw_X8_ended : xi_cw mi_X8_ended ∈ xT := xi_mem (i := 1074) (w := Cond.code yX8_ended cX8_ended 2 none) (by rfl) rfl
set_option maxRecDepth 100000 in
theorem ok_cw_X8_closeNow : xi_cw mi_X8_closeNow ∈ xT := xi_mem (i := 1066) (w := Cond.code yX8_closeNow cX8_closeNow 3 none) (by rfl) rfl
set_option maxRecDepth 100000 in
theorem ok_cw_X8_clientSends : xi_cw mi_X8_clientSends ∈ xT := xi_mem (i := 1024) (w := Cond.code yX8_clientSends cX8_clientSends 5 none) (by rfl) rfl
set_option maxRecDepth 100000 in
theorem ok_cw_X8_meet : xi_cw mi_X8_meet ∈ xT := xi_mem (i := 1094) (w := Cond.code yX8_meet cX8_meet 7 none) (by rfl) rfl
set_option maxRecDepth 100000 in
theorem ok_cw_X8_ofStream : xi_cw mi_X8_ofStream ∈ xT := xi_mem (i := 1111) (w := Cond.code yX8_ofStream cX8_ofStream 6 none) (by rfl) rfl
set_option maxRecDepth 100000 in
theorem ok_cw_X8_clientFollows : xi_cw mi_X8_clientFollows ∈ xT := xi_mem (i := 1107) (w := Cond.code yX8_clientFollows cX8_clientFollows 4 none) (by rfl) rfl
set_option maxRecDepth 100000 in
theorem ok_cw_X8_toClient : xi_cw mi_X8_toClient ∈ xT := xi_mem (i := 1086) (w := Cond.code yX8_toClient cX8_toClient 7 none) (by rfl) rfl
set_option maxRecDepth 100000 in
theorem ok_cw_X8_place : xi_cw mi_X8_place ∈ xT := xi_mem (i := 980) (w := Cond.code yX8_place cX8_place 3 (some (FieldType.int))) (by rfl) rfl
set_option maxRecDepth 100000 in
theorem ok_cw_X8_forget : xi_cw mi_X8_forget ∈ xT := xi_mem (i := 1124) (w := Cond.code yX8_forget cX8_forget 5 none) (by rfl) rfl
set_option maxRecDepth 100000 in
theorem ok_cw_X8_destroyOn : xi_cw mi_X8_destroyOn ∈ xT := xi_mem (i := 1148) (w := Cond.code yX8_destroyOn cX8_destroyOn 5 none) (by rfl) rfl
set_option maxRecDepth 100000 in
theorem ok_cw_X8_tear : xi_cw mi_X8_tear ∈ xT := xi_mem (i := 1144) (w := Cond.code yX8_tear cX8_tear 3 none) (by rfl) rfl
set_option maxRecDepth 100000 in
theorem ok_cw_X8_relaySends : xi_cw mi_X8_relaySends ∈ xT := xi_mem (i := 1128) (w := Cond.code yX8_relaySends cX8_relaySends 4 none) (by rfl) rfl
set_option maxRecDepth 100000 in
theorem ok_cw_X8_begun : xi_cw mi_X8_begun ∈ xT := xi_mem (i := 1119) (w := Cond.code yX8_begun cX8_begun 8 none) (by rfl) rfl
set_option maxRecDepth 100000 in
theorem ok_cw_X8_extendAt : xi_cw mi_X8_extendAt ∈ xT := xi_mem (i := 1140) (w := Cond.code yX8_extendAt cX8_extendAt 6 none) (by rfl) rfl
set_option maxRecDepth 100000 in
theorem ok_cw_X8_dataAt : xi_cw mi_X8_dataAt ∈ xT := xi_mem (i := 1152) (w := Cond.code yX8_dataAt cX8_dataAt 8 none) (by rfl) rfl
set_option maxRecDepth 100000 in
theorem ok_cw_X8_relayFollows : xi_cw mi_X8_relayFollows ∈ xT := xi_mem (i := 1136) (w := Cond.code yX8_relayFollows cX8_relayFollows 8 none) (by rfl) rfl
set_option maxRecDepth 100000 in
theorem ok_cw_X8_relayed : xi_cw mi_X8_relayed ∈ xT := xi_mem (i := 1132) (w := Cond.code yX8_relayed cX8_relayed 5 none) (by rfl) rfl
set_option maxRecDepth 100000 in
theorem ok_cw_X8_toRelay : xi_cw mi_X8_toRelay ∈ xT := xi_mem (i := 1115) (w := Cond.code yX8_toRelay cX8_toRelay 8 none) (by rfl) rfl
set_option maxRecDepth 100000 in
theorem ok_cw_X8_secret : xi_cw mi_X8_secret ∈ xT := xi_mem (i := 969) (w := Cond.code yX8_secret cX8_secret 4 (some (FieldType.int))) (by rfl) rfl
set_option maxRecDepth 100000 in
theorem ok_cw_X8_create : xi_cw mi_X8_create ∈ xT := xi_mem (i := 989) (w := Cond.code yX8_create cX8_create 4 (some (FieldType.int))) (by rfl) rfl
set_option maxRecDepth 100000 in
theorem ok_cw_X8_extend : xi_cw mi_X8_extend ∈ xT := xi_mem (i := 1016) (w := Cond.code yX8_extend cX8_extend 5 (some (FieldType.int))) (by rfl) rfl
set_option maxRecDepth 100000 in
theorem ok_cw_X8_begin : xi_cw mi_X8_begin ∈ xT := xi_mem (i := 1046) (w := Cond.code yX8_begin cX8_begin 5 none) (by rfl) rfl
set_option maxRecDepth 100000 in
theorem ok_cw_X8_send : xi_cw mi_X8_send ∈ xT := xi_mem (i := 1050) (w := Cond.code yX8_send cX8_send 7 (some (FieldType.int))) (by rfl) rfl
set_option maxRecDepth 100000 in
theorem ok_cw_X8_end : xi_cw mi_X8_end ∈ xT := xi_mem (i := 1054) (w := Cond.code yX8_end cX8_end 5 (some (FieldType.int))) (by rfl) rfl
set_option maxRecDepth 100000 in
theorem ok_cw_X8_isOn : xi_cw mi_X8_isOn ∈ xT := xi_mem (i := 996) (w := Cond.code yX8_isOn cX8_isOn 2 (some (FieldType.boolean))) (by rfl) rfl
set_option maxRecDepth 100000 in
theorem ok_cw_X8_truncate : xi_cw mi_X8_truncate ∈ xT := xi_mem (i := 1058) (w := Cond.code yX8_truncate cX8_truncate 3 (some (FieldType.int))) (by rfl) rfl
set_option maxRecDepth 100000 in
theorem ok_cw_X8_close : xi_cw mi_X8_close ∈ xT := xi_mem (i := 1062) (w := Cond.code yX8_close cX8_close 2 none) (by rfl) rfl
set_option maxRecDepth 100000 in
theorem ok_cw_X8_deliver : xi_cw mi_X8_deliver ∈ xT := xi_mem (i := 1078) (w := Cond.code yX8_deliver cX8_deliver 8 (some (FieldType.int))) (by rfl) rfl
set_option maxRecDepth 100000 in
theorem ok_cw_X8_damage : xi_cw mi_X8_damage ∈ xT := xi_mem (i := 1156) (w := Cond.code yX8_damage cX8_damage 5 (some (FieldType.int))) (by rfl) rfl
set_option maxRecDepth 100000 in
theorem ok_cw_X8_lose : xi_cw mi_X8_lose ∈ xT := xi_mem (i := 1160) (w := Cond.code yX8_lose cX8_lose 3 (some (FieldType.int))) (by rfl) rfl
set_option maxRecDepth 100000 in
theorem ok_cw_X8_out : xi_cw mi_X8_out ∈ xT := xi_mem (i := 1168) (w := Cond.code yX8_out cX8_out 2 (some (FieldType.boolean))) (by rfl) rfl
set_option maxRecDepth 100000 in
theorem ok_cw_X8_cell : xi_cw mi_X8_cell ∈ xT := xi_mem (i := 1164) (w := Cond.code yX8_cell cX8_cell 3 (some (FieldType.int))) (by rfl) rfl
set_option maxRecDepth 100000 in
theorem ok_cw_X8_circuit : xi_cw mi_X8_circuit ∈ xT := xi_mem (i := 1172) (w := Cond.code yX8_circuit cX8_circuit 3 (some (FieldType.int))) (by rfl) rfl
set_option maxRecDepth 100000 in
theorem ok_cw_X8_key : xi_cw mi_X8_key ∈ xT := xi_mem (i := 1176) (w := Cond.code yX8_key cX8_key 4 (some (FieldType.int))) (by rfl) rfl
set_option maxRecDepth 100000 in
theorem ok_cw_X8_relay : xi_cw mi_X8_relay ∈ xT := xi_mem (i := 1180) (w := Cond.code yX8_relay cX8_relay 5 (some (FieldType.int))) (by rfl) rfl
set_option maxRecDepth 100000 in
theorem ok_cw_X8_data : xi_cw mi_X8_data ∈ xT := xi_mem (i := 1184) (w := Cond.code yX8_data cX8_data 3 (some (FieldType.int))) (by rfl) rfl
set_option maxRecDepth 100000 in
theorem ok_cw_X8_readies : xi_cw mi_X8_readies ∈ xT := xi_mem (i := 1192) (w := Cond.code yX8_readies cX8_readies 3 (some (FieldType.int))) (by rfl) rfl
set_option maxRecDepth 100000 in
theorem ok_cw_X8_count : xi_cw mi_X8_count ∈ xT := xi_mem (i := 1188) (w := Cond.code yX8_count cX8_count 2 (some (FieldType.int))) (by rfl) rfl
set_option maxRecDepth 100000 in
theorem ok_cw_X8_loss : xi_cw mi_X8_loss ∈ xT := xi_mem (i := 1196) (w := Cond.code yX8_loss cX8_loss 3 (some (FieldType.float))) (by rfl) rfl
set_option maxRecDepth 100000 in
theorem ok_cw_L_secret : xi_cw mi_L_secret ∈ xT := xi_mem (i := 336) (w := Cond.codeWith yL_secret cL_secret 5 (some (FieldType.int)) [(0, 10, 13, 13), (0, 10, 17, 15), (0, 10, 21, 17)]) (by rfl) rfl
set_option maxRecDepth 100000 in
theorem ok_cw_L_create : xi_cw mi_L_create ∈ xT := xi_mem (i := 460) (w := Cond.codeWith yL_create cL_create 6 (some (FieldType.int)) [(0, 12, 15, 13), (0, 12, 19, 15), (0, 12, 23, 17)]) (by rfl) rfl
set_option maxRecDepth 100000 in
theorem ok_cw_L_extend : xi_cw mi_L_extend ∈ xT := xi_mem (i := 506) (w := Cond.codeWith yL_extend cL_extend 6 (some (FieldType.int)) [(0, 12, 15, 13), (0, 12, 19, 15), (0, 12, 23, 17)]) (by rfl) rfl
set_option maxRecDepth 100000 in
theorem ok_cw_L_begin : xi_cw mi_L_begin ∈ xT := xi_mem (i := 547) (w := Cond.codeWith yL_begin cL_begin 5 (some (FieldType.int)) [(0, 7, 10, 13), (0, 7, 14, 17)]) (by rfl) rfl
set_option maxRecDepth 100000 in
theorem ok_cw_L_send : xi_cw mi_L_send ∈ xT := xi_mem (i := 568) (w := Cond.codeWith yL_send cL_send 7 (some (FieldType.int)) [(0, 14, 17, 13), (0, 14, 21, 15), (0, 14, 25, 17)]) (by rfl) rfl
set_option maxRecDepth 100000 in
theorem ok_cw_L_end : xi_cw mi_L_end ∈ xT := xi_mem (i := 582) (w := Cond.codeWith yL_end cL_end 5 (some (FieldType.int)) [(0, 10, 13, 13), (0, 10, 17, 17)]) (by rfl) rfl
set_option maxRecDepth 100000 in
theorem ok_cw_L_truncate : xi_cw mi_L_truncate ∈ xT := xi_mem (i := 593) (w := Cond.codeWith yL_truncate cL_truncate 5 (some (FieldType.int)) [(0, 10, 13, 13), (0, 10, 17, 17)]) (by rfl) rfl
set_option maxRecDepth 100000 in
theorem ok_cw_L_close : xi_cw mi_L_close ∈ xT := xi_mem (i := 604) (w := Cond.codeWith yL_close cL_close 3 (some (FieldType.int)) [(0, 5, 8, 13), (0, 5, 11, 17)]) (by rfl) rfl
set_option maxRecDepth 100000 in
theorem ok_cw_L_deliver : xi_cw mi_L_deliver ∈ xT := xi_mem (i := 623) (w := Cond.codeWith yL_deliver cL_deliver 4 (some (FieldType.int)) [(0, 9, 12, 15)]) (by rfl) rfl
set_option maxRecDepth 100000 in
theorem ok_cw_L_damage : xi_cw mi_L_damage ∈ xT := xi_mem (i := 807) (w := Cond.codeWith yL_damage cL_damage 6 (some (FieldType.int)) [(0, 12, 15, 13), (0, 12, 19, 15)]) (by rfl) rfl
set_option maxRecDepth 100000 in
theorem ok_cw_L_lose : xi_cw mi_L_lose ∈ xT := xi_mem (i := 814) (w := Cond.codeWith yL_lose cL_lose 4 (some (FieldType.int)) [(0, 9, 12, 13)]) (by rfl) rfl
set_option maxRecDepth 100000 in
theorem ok_cw_L_cell : xi_cw mi_L_cell ∈ xT := xi_mem (i := 821) (w := Cond.codeWith yL_cell cL_cell 5 (some (FieldType.int)) [(0, 10, 13, 13)]) (by rfl) rfl
set_option maxRecDepth 100000 in
theorem ok_cw_L_circuit : xi_cw mi_L_circuit ∈ xT := xi_mem (i := 828) (w := Cond.codeWith yL_circuit cL_circuit 5 (some (FieldType.int)) [(0, 10, 13, 13)]) (by rfl) rfl
set_option maxRecDepth 100000 in
theorem ok_cw_L_key : xi_cw mi_L_key ∈ xT := xi_mem (i := 835) (w := Cond.codeWith yL_key cL_key 6 (some (FieldType.int)) [(0, 12, 15, 13)]) (by rfl) rfl
set_option maxRecDepth 100000 in
theorem ok_cw_L_relay : xi_cw mi_L_relay ∈ xT := xi_mem (i := 842) (w := Cond.codeWith yL_relay cL_relay 6 (some (FieldType.int)) [(0, 12, 15, 13)]) (by rfl) rfl
set_option maxRecDepth 100000 in
theorem ok_cw_L_data : xi_cw mi_L_data ∈ xT := xi_mem (i := 849) (w := Cond.codeWith yL_data cL_data 5 (some (FieldType.int)) [(0, 10, 13, 13)]) (by rfl) rfl
set_option maxRecDepth 100000 in
theorem ok_cw_L_count : xi_cw mi_L_count ∈ xT := xi_mem (i := 856) (w := Cond.codeWith yL_count cL_count 4 (some (FieldType.int)) [(0, 9, 12, 13)]) (by rfl) rfl
theorem ok_cg_0 : ∀ mi ∈ xpg_0, (xi_y mi).name ≠ "law" → xi_cw mi ∈ xT := by
  intro mi h hn
  simp only [xpg_0, List.mem_cons, List.not_mem_nil, or_false] at h
  rcases h with rfl | rfl | rfl | rfl | rfl | rfl | rfl | rfl | rfl | rfl | rfl | rfl | rfl | rfl | rfl | rfl | rfl | rfl | rfl | rfl
  · exact ok_cw_X0_raise
  · exact ok_cw_X0_mix
  · exact ok_cw_X0_shared
  · exact ok_cw_X0_tag
  · exact ok_cw_X0_fillKeys
  · exact ok_cw_X1_init
  · exact ok_cw_X1_address
  · exact ok_cw_X1_writeOrder
  · exact ok_cw_X1_copyBytes
  · exact ok_cw_X1_pair
  · exact ok_cw_X1_putPair
  · exact ok_cw_X1_dataLength
  · exact ok_cw_X1_wrap
  · exact ok_cw_X1_fed
  · exact ok_cw_X1_isKnownBy
  · exact ok_cw_X2_init
  · exact ok_cw_X2_isLive
  · exact ok_cw_X2_hasHop
  · exact ok_cw_X2_goesThrough
  · exact ok_cw_X2_startAnew
theorem ok_cg_1 : ∀ mi ∈ xpg_1, (xi_y mi).name ≠ "law" → xi_cw mi ∈ xT := by
  intro mi h hn
  simp only [xpg_1, List.mem_cons, List.not_mem_nil, or_false] at h
  rcases h with rfl | rfl | rfl | rfl | rfl | rfl | rfl | rfl | rfl | rfl | rfl | rfl | rfl | rfl | rfl | rfl | rfl | rfl | rfl | rfl
  · exact ok_cw_X2_askForHop
  · exact ok_cw_X2_waitFor
  · exact ok_cw_X2_askForStream
  · exact ok_cw_X2_sendData
  · exact ok_cw_X2_endStream
  · exact ok_cw_X2_askToTruncate
  · exact ok_cw_X2_order
  · exact ok_cw_X2_sealTo
  · exact ok_cw_X2_firstRelay
  · exact ok_cw_X2_shut
  · exact ok_cw_X2_becomeClosed
  · exact ok_cw_X2_dropStreamsFrom
  · exact ok_cw_X2_takes
  · exact ok_cw_X2_takesCreated
  · exact ok_cw_X2_takesRelay
  · exact ok_cw_X2_addsHop
  · exact ok_cw_X2_becomeReady
  · exact ok_cw_X2_isKnown
  · exact ok_cw_X2_follows
  · exact ok_cw_X2_followOfStream
theorem ok_cg_2 : ∀ mi ∈ xpg_2, (xi_y mi).name ≠ "law" → xi_cw mi ∈ xT := by
  intro mi h hn
  simp only [xpg_2, List.mem_cons, List.not_mem_nil, or_false] at h
  rcases h with rfl | rfl | rfl | rfl | rfl | rfl | rfl | rfl | rfl | rfl | rfl | rfl | rfl | rfl | rfl | rfl | rfl | rfl | rfl | rfl
  · exact ok_cw_X2_keepLatest
  · exact ok_cw_X3_init
  · exact ok_cw_X3_start
  · exact ok_cw_X3_vanish
  · exact ok_cw_X3_next
  · exact ok_cw_X3_destroyNext
  · exact ok_cw_X3_tearDown
  · exact ok_cw_X3_takesCreated
  · exact ok_cw_X3_takesDestroy
  · exact ok_cw_X3_passOn
  · exact ok_cw_X3_takesRelay
  · exact ok_cw_X3_goesForward
  · exact ok_cw_X3_isKnown
  · exact ok_cw_X3_relayOn
  · exact ok_cw_X3_follows
  · exact ok_cw_X3_followsExtend
  · exact ok_cw_X3_followBegin
  · exact ok_cw_X3_followData
  · exact ok_cw_X3_followTruncate
  · exact ok_cw_X3_isOpen
theorem ok_cg_3 : ∀ mi ∈ xpg_3, (xi_y mi).name ≠ "law" → xi_cw mi ∈ xT := by
  intro mi h hn
  simp only [xpg_3, List.mem_cons, List.not_mem_nil, or_false] at h
  rcases h with rfl | rfl | rfl | rfl | rfl | rfl | rfl | rfl | rfl | rfl | rfl | rfl | rfl | rfl | rfl | rfl | rfl | rfl | rfl | rfl
  · exact ok_cw_X3_orderBack
  · exact ok_cw_X3_sealBack
  · exact ok_cw_X4_init
  · exact ok_cw_X4_takeSecret
  · exact ok_cw_X4_hasPassage
  · exact ok_cw_X4_takes
  · exact ok_cw_X4_takesCreate
  · exact ok_cw_X5_init
  · exact ok_cw_X5_add
  · exact ok_cw_X5_takeOut
  · exact ok_cw_X6_init
  · exact ok_cw_X6_become
  · exact ok_cw_X7_init
  · exact ok_cw_X7_secret
  · exact ok_cw_X7_create
  · exact ok_cw_X7_extend
  · exact ok_cw_X7_begin
  · exact ok_cw_X7_send
  · exact ok_cw_X7_end
  · exact ok_cw_X7_truncate
theorem ok_cg_4 : ∀ mi ∈ xpg_4, (xi_y mi).name ≠ "law" → xi_cw mi ∈ xT := by
  intro mi h hn
  simp only [xpg_4, List.mem_cons, List.not_mem_nil, or_false] at h
  rcases h with rfl | rfl | rfl | rfl | rfl | rfl | rfl | rfl | rfl | rfl | rfl | rfl | rfl | rfl | rfl | rfl | rfl | rfl | rfl | rfl
  · exact ok_cw_X7_close
  · exact ok_cw_X7_deliver
  · exact ok_cw_X7_damage
  · exact ok_cw_X7_lose
  · exact ok_cw_X7_cell
  · exact ok_cw_X7_circuit
  · exact ok_cw_X7_key
  · exact ok_cw_X7_relay
  · exact ok_cw_X7_data
  · exact ok_cw_X7_count
  · exact ok_cw_X7_loss
  · exact ok_cw_X7_readyCircuits
  · exact ok_cw_X7_checkCircuit
  · exact ok_cw_X7_checkRelay
  · exact ok_cw_X7_checkStream
  · exact ok_cw_X7_checkIndex
  · exact ok_cw_X7_checkExponent
  · exact ok_cw_X7_checkArgument
  · exact ok_cw_X7_checkState
  · exact ok_cw_X7_isByte
theorem ok_cg_5 : ∀ mi ∈ xpg_5, (xi_y mi).name ≠ "law" → xi_cw mi ∈ xT := by
  intro mi h hn
  simp only [xpg_5, List.mem_cons, List.not_mem_nil, or_false] at h
  rcases h with rfl | rfl | rfl | rfl | rfl | rfl | rfl | rfl | rfl | rfl | rfl | rfl | rfl | rfl | rfl | rfl | rfl | rfl | rfl | rfl
  · exact ok_cw_X7_isStream
  · exact ok_cw_X8_init
  · exact ok_cw_X8_thrown
  · exact ok_cw_X8_in
  · exact ok_cw_X8_isCircuit
  · exact ok_cw_X8_isRelay
  · exact ok_cw_X8_raise
  · exact ok_cw_X8_mix
  · exact ok_cw_X8_agree
  · exact ok_cw_X8_wrap
  · exact ok_cw_X8_fed
  · exact ok_cw_X8_pair
  · exact ok_cw_X8_putPair
  · exact ok_cw_X8_clearBytes
  · exact ok_cw_X8_order
  · exact ok_cw_X8_seal
  · exact ok_cw_X8_isKnown
  · exact ok_cw_X8_ship
  · exact ok_cw_X8_destroy
  · exact ok_cw_X8_remove
theorem ok_cg_6 : ∀ mi ∈ xpg_6, (xi_y mi).name ≠ "law" → xi_cw mi ∈ xT := by
  intro mi h hn
  simp only [xpg_6, List.mem_cons, List.not_mem_nil, or_false] at h
  rcases h with rfl | rfl | rfl | rfl | rfl | rfl | rfl | rfl | rfl | rfl | rfl | rfl | rfl | rfl | rfl | rfl | rfl | rfl | rfl | rfl
  · exact ok_cw_X8_dropStreams
  · exact ok_cw_X8_ended
  · exact ok_cw_X8_closeNow
  · exact ok_cw_X8_clientSends
  · exact ok_cw_X8_meet
  · exact ok_cw_X8_ofStream
  · exact ok_cw_X8_clientFollows
  · exact ok_cw_X8_toClient
  · exact ok_cw_X8_place
  · exact ok_cw_X8_forget
  · exact ok_cw_X8_destroyOn
  · exact ok_cw_X8_tear
  · exact ok_cw_X8_relaySends
  · exact ok_cw_X8_begun
  · exact ok_cw_X8_extendAt
  · exact ok_cw_X8_dataAt
  · exact ok_cw_X8_relayFollows
  · exact ok_cw_X8_relayed
  · exact ok_cw_X8_toRelay
  · exact ok_cw_X8_secret
theorem ok_cg_7 : ∀ mi ∈ xpg_7, (xi_y mi).name ≠ "law" → xi_cw mi ∈ xT := by
  intro mi h hn
  simp only [xpg_7, List.mem_cons, List.not_mem_nil, or_false] at h
  rcases h with rfl | rfl | rfl | rfl | rfl | rfl | rfl | rfl | rfl | rfl | rfl | rfl | rfl | rfl | rfl | rfl | rfl | rfl | rfl | rfl
  · exact ok_cw_X8_create
  · exact ok_cw_X8_extend
  · exact ok_cw_X8_begin
  · exact ok_cw_X8_send
  · exact ok_cw_X8_end
  · exact ok_cw_X8_isOn
  · exact ok_cw_X8_truncate
  · exact ok_cw_X8_close
  · exact ok_cw_X8_deliver
  · exact ok_cw_X8_damage
  · exact ok_cw_X8_lose
  · exact ok_cw_X8_out
  · exact ok_cw_X8_cell
  · exact ok_cw_X8_circuit
  · exact ok_cw_X8_key
  · exact ok_cw_X8_relay
  · exact ok_cw_X8_data
  · exact ok_cw_X8_readies
  · exact ok_cw_X8_count
  · exact ok_cw_X8_loss
theorem ok_cg_8 : ∀ mi ∈ xpg_8, (xi_y mi).name ≠ "law" → xi_cw mi ∈ xT := by
  intro mi h hn
  simp only [xpg_8, List.mem_cons, List.not_mem_nil, or_false] at h
  rcases h with rfl | rfl | rfl | rfl | rfl | rfl | rfl | rfl | rfl | rfl | rfl | rfl | rfl | rfl | rfl | rfl | rfl | rfl
  · exact ok_cw_L_secret
  · exact ok_cw_L_create
  · exact ok_cw_L_extend
  · exact ok_cw_L_begin
  · exact ok_cw_L_send
  · exact ok_cw_L_end
  · exact ok_cw_L_truncate
  · exact ok_cw_L_close
  · exact ok_cw_L_deliver
  · exact ok_cw_L_damage
  · exact ok_cw_L_lose
  · exact ok_cw_L_cell
  · exact ok_cw_L_circuit
  · exact ok_cw_L_key
  · exact ok_cw_L_relay
  · exact ok_cw_L_data
  · exact ok_cw_L_count
  · exact absurd rfl hn
theorem ok_cg : ∀ mi ∈ xpg, (xi_y mi).name ≠ "law" → xi_cw mi ∈ xT := by
  intro mi h
  simp only [xpg, List.mem_append] at h
  rcases h with h | h | h | h | h | h | h | h | h
  · exact ok_cg_0 mi h
  · exact ok_cg_1 mi h
  · exact ok_cg_2 mi h
  · exact ok_cg_3 mi h
  · exact ok_cg_4 mi h
  · exact ok_cg_5 mi h
  · exact ok_cg_6 mi h
  · exact ok_cg_7 mi h
  · exact ok_cg_8 mi h
end
section
theorem xi_s1_ok {mi : xMi} (i : Instr) (len pc : Nat) (lv : List (Nat × Value)) (st : List Value) (h : xHp) (fr' : xFr) (h' : xHp) (ho : xi_of i pc = true) (hlen : xi_le i len = true) (hs : xi_s1 (xi_own mi) (xi_mL mi) ((xi_y mi).name == "<init>") i pc lv st h = some (fr', h')) : xi_mo h h' ∧ xi_Sd mi i len (pc, lv, st) h fr' h' := by
  cases i
  case iconst => exact xs_iconst _ _ _ _ _ _ _ hlen hs
  case bipush => exact xs_bipush _ _ _ _ _ _ _ hlen hs
  case sipush => exact xs_sipush _ _ _ _ _ _ _ hlen hs
  case lconst => exact xs_lconst _ _ _ _ _ _ _ hlen hs
  case fconst => exact xs_fconst _ _ _ _ _ _ _ hlen hs
  case ldc => exact xs_ldc _ _ _ _ _ _ _ hlen hs
  case ldc2_w => exact xs_ldc2 _ _ _ _ _ _ _ hlen hs
  case iload_n => exact xs_iload_n _ _ _ _ _ _ _ hlen hs
  case iload => exact xs_iload _ _ _ _ _ _ _ hlen hs
  case lload_n => exact xs_lload_n _ _ _ _ _ _ _ hlen hs
  case lload => exact xs_lload _ _ _ _ _ _ _ hlen hs
  case fload_n => exact xs_fload_n _ _ _ _ _ _ _ hlen hs
  case dload => exact xs_dload _ _ _ _ _ _ _ hlen hs
  case aload_n => exact xs_aload_n _ _ _ _ _ _ _ hlen hs
  case aload => exact xs_aload _ _ _ _ _ _ _ hlen hs
  case istore_n => exact xs_istore_n _ _ _ _ _ _ _ hlen hs
  case istore => exact xs_istore _ _ _ _ _ _ _ hlen hs
  case fstore_n => exact xs_fstore_n _ _ _ _ _ _ _ hlen hs
  case astore_n => exact xs_astore_n _ _ _ _ _ _ _ hlen hs
  case astore => exact xs_astore _ _ _ _ _ _ _ hlen hs
  case lstore_n => exact xs_lstore_n _ _ _ _ _ _ _ hlen hs
  case lstore => exact xs_lstore _ _ _ _ _ _ _ hlen hs
  case dstore => exact xs_dstore _ _ _ _ _ _ _ hlen hs
  case iinc => exact xs_iinc _ _ _ _ _ _ _ hlen hs
  case iadd => exact xs_iadd _ _ _ _ _ _ _ hlen hs
  case isub => exact xs_isub _ _ _ _ _ _ _ hlen hs
  case imul => exact xs_imul _ _ _ _ _ _ _ hlen hs
  case iand => exact xs_iand _ _ _ _ _ _ _ hlen hs
  case ior => exact xs_ior _ _ _ _ _ _ _ hlen hs
  case ixor => exact xs_ixor _ _ _ _ _ _ _ hlen hs
  case ishl => exact xs_ishl _ _ _ _ _ _ _ hlen hs
  case ishr => exact xs_ishr _ _ _ _ _ _ _ hlen hs
  case iushr => exact xs_iushr _ _ _ _ _ _ _ hlen hs
  case idiv => exact xs_idiv _ _ _ _ _ _ _ hlen hs
  case irem => exact xs_irem _ _ _ _ _ _ _ hlen hs
  case lmul => exact xs_lmul _ _ _ _ _ _ _ hlen hs
  case lrem => exact xs_lrem _ _ _ _ _ _ _ hlen hs
  case lcmp => exact xs_lcmp _ _ _ _ _ _ _ hlen hs
  case i2l => exact xs_i2l _ _ _ _ _ _ _ hlen hs
  case l2i => exact xs_l2i _ _ _ _ _ _ _ hlen hs
  case i2f => exact xs_i2f _ _ _ _ _ _ _ hlen hs
  case fdiv => exact xs_fdiv _ _ _ _ _ _ _ hlen hs
  case f2d => exact xs_f2d _ _ _ _ _ _ _ hlen hs
  case dcmp => exact xs_dcmp _ _ _ _ _ _ _ hlen hs
  case dup => exact xs_dup _ _ _ _ _ _ _ hlen hs
  case pop => exact xs_pop _ _ _ _ _ _ _ hlen hs
  case dup2 => exact xs_dup2 _ _ _ _ _ _ _ hlen hs
  case goto => exact xs_goto _ _ _ _ _ _ _ hlen hs
  case tableswitch => exact xs_tableswitch _ _ _ _ _ _ _ hlen hs
  case lookupswitch => exact xs_lookupswitch _ _ _ _ _ _ _ hlen hs
  case getfield => exact xs_getfield _ _ _ _ _ _ _ hlen hs
  case putfield => exact xs_putfield _ _ _ _ _ _ _ hlen hs
  case iaload => exact xs_iaload _ _ _ _ _ _ _ hlen hs
  case baload => exact xs_baload _ _ _ _ _ _ _ hlen hs
  case laload => exact xs_laload _ _ _ _ _ _ _ hlen hs
  case aaload => exact xs_aaload _ _ _ _ _ _ _ hlen hs
  case iastore => exact xs_iastore _ _ _ _ _ _ _ hlen hs
  case bastore => exact xs_bastore _ _ _ _ _ _ _ hlen hs
  case lastore => exact xs_lastore _ _ _ _ _ _ _ hlen hs
  case aastore => exact xs_aastore _ _ _ _ _ _ _ hlen hs
  case arraylength => exact xs_arraylength _ _ _ _ _ _ _ hlen hs
  case new => exact xs_new _ _ _ _ _ _ _ hlen hs
  case newarray => exact xs_newarray _ _ _ _ _ _ _ hlen hs
  case anewarray => exact xs_anewarray _ _ _ _ _ _ _ hlen hs
  case multianewarray => exact xs_multianewarray _ _ _ _ _ _ _ hlen hs
  case ifCond c off =>
    cases c
    · exact xs_if_eq _ _ _ _ _ _ _ (of_decide_eq_true ho) hlen hs
    · exact xs_if_ne _ _ _ _ _ _ _ (of_decide_eq_true ho) hlen hs
    · exact xs_if_lt _ _ _ _ _ _ _ (of_decide_eq_true ho) hlen hs
    · exact xs_if_ge _ _ _ _ _ _ _ (of_decide_eq_true ho) hlen hs
    · exact xs_if_gt _ _ _ _ _ _ _ (of_decide_eq_true ho) hlen hs
    · exact xs_if_le _ _ _ _ _ _ _ (of_decide_eq_true ho) hlen hs
  case if_icmp c off =>
    cases c
    · exact xs_icmp_eq _ _ _ _ _ _ _ (of_decide_eq_true ho) hlen hs
    · exact xs_icmp_ne _ _ _ _ _ _ _ (of_decide_eq_true ho) hlen hs
    · exact xs_icmp_lt _ _ _ _ _ _ _ (of_decide_eq_true ho) hlen hs
    · exact xs_icmp_ge _ _ _ _ _ _ _ (of_decide_eq_true ho) hlen hs
    · exact xs_icmp_gt _ _ _ _ _ _ _ (of_decide_eq_true ho) hlen hs
    · exact xs_icmp_le _ _ _ _ _ _ _ (of_decide_eq_true ho) hlen hs
  all_goals (simp only [xi_s1] at hs; cases hs)
/-! the program's words -/
/-- what is asked of a method that is called -/
def xi_mk (m : Nat) (mi : xMi) : Bool := plainName (xi_y mi).cls && decide ((xi_y mi).cls = xi_rO (xi_own mi)) && decide ((xi_y mi).cls ≠ "java/lang/invoke/MethodHandle") && decide ((xi_y mi).cls ≠ "java/lang/invoke/VarHandle") && decide ((xi_y mi).name ≠ "law") && xi_at (xmw.getD m (0, 0, 0)).2.2 (.initialized (xi_y mi).cls) && decide (xi_mL mi ≤ 17)
theorem ok_mk : ((List.range 177).all fun m => match xpg[m]? with | none => false | some mi => xi_mk m mi) = true := by decide +kernel
def xi_np (mi : xMi) : Option Nat := (parseMethodDescriptor (xi_y mi).desc).map (fun d => d.parameters.length)
/-- what is asked of a call -/
def xi_lk (o ix kd m' po : Nat) : Bool := match xpg[m']? with
  | none => false
  | some mi' => decide (m' < 177) &&
    (if kd = 0 then xi_at po (.methodLink (xi_rO o) ix (xi_y mi')) && xi_at (xmw.getD m' (0, 0, 0)).1 (.instanceMethod (xi_y mi')) && xi_at (xmw.getD m' (0, 0, 0)).2.1 (.selects (xi_y mi').cls (xi_y mi') (xi_y mi')) && decide (xi_hh mi' = []) && decide (xi_np mi' = some (xi_na mi' - 1)) && decide (0 < xi_na mi')
    else if kd = 1 then xi_at po (.methodLink (xi_rO o) ix (xi_y mi')) && xi_at (xmw.getD m' (0, 0, 0)).1 (.static (xi_y mi')) && decide (xi_hh mi' = []) && decide (xi_np mi' = some (xi_na mi'))
    else if kd = 2 then xi_at po (.methodLinkNest (xi_rO o) ix (xi_y mi') RX7) && xi_at (xmw.getD m' (0, 0, 0)).1 (.static (xi_y mi')) && decide (xi_hh mi' = []) && decide (xi_np mi' = some (xi_na mi'))
    else if kd = 3 then xi_at po (.methodLink (xi_rO o) ix (xi_y mi')) && xi_at (xmw.getD m' (0, 0, 0)).1 (.instanceMethod (xi_y mi')) && decide ((xi_y mi').name = "<init>") && decide (xi_rt mi' = none) && decide (xi_hh mi' = []) && decide (xi_np mi' = some (xi_na mi' - 1)) && decide (0 < xi_na mi')
    else if kd = 4 then xi_at po (.methodLinkNest (xi_rO o) ix (xi_y mi') RX7) && xi_at (xmw.getD m' (0, 0, 0)).1 (.instanceMethod (xi_y mi')) && decide ((xi_y mi').name = "<init>") && decide (xi_rt mi' = none) && decide (xi_hh mi' = []) && decide (xi_np mi' = some (xi_na mi' - 1)) && decide (0 < xi_na mi')
    else if kd = 5 then xi_at po (.methodLink (xi_rO o) ix (xi_y mi')) && xi_at (xmw.getD m' (0, 0, 0)).1 (.static (xi_y mi')) && decide (xi_hh mi' ≠ []) && decide (xi_np mi' = some (xi_na mi'))
    else false)
theorem ok_ml : xi_all xml (fun o e => xi_lk o e.1 e.2.1 e.2.2.1 e.2.2.2) = true := by decide +kernel
theorem ok_ex : xel_7.all (fun e => (vx_at0 RX7 e.2.1 (xi_E e.2.2.1) xi_names).all (fun w => decide (w ∈ lw_tbl) && xi_ok w && vx_ot w) && vx_ot (.classLink RX7 e.1 (xi_E e.2.2.1)) && vx_ot (.initialized (xi_E e.2.2.1)) && decide (Cond.initialized (xi_E e.2.2.1) ∈ lw_tbl) && xi_ok (.initialized (xi_E e.2.2.1)) && Bundle.fit (xi_E e.2.2.1)) = true := by decide +kernel
theorem ok_en : ∀ n ∈ xi_names, Bundle.fit n = true := by decide +kernel
theorem ok_ca : ∀ e, e < 3 → Cond.castable (xi_E e) (xi_E e) ∈ xT := by
  intro e he
  rcases (show e = 0 ∨ e = 1 ∨ e = 2 by omega) with rfl | rfl | rfl <;> exact List.mem_filter.mpr ⟨by decide +kernel, rfl⟩
theorem ok_oj : Cond.instanceMethod objectInit ∈ xT ∧ Cond.code objectInit ⟨#[0xb1]⟩ 1 none ∈ xT := ⟨List.mem_filter.mpr ⟨by decide +kernel, rfl⟩, List.mem_filter.mpr ⟨by decide +kernel, rfl⟩⟩
end
section
def xi_Qc (D : va_G) (cy : Nat → ClassId) (base : Nat) (lay : Nat → Nat) (r : Option Value ⊕ Nat) (h' : xHp) : Array Value → State → Outcome → State → Prop := fun _ st o t => ∃ v : Option Value, r = .inl v ∧ o = .returned (v.map (xi_tv lay)) ∧ xi_P D cy lay h' t.heap ∧ xi_Z base h' t.heap ∧ va_F (fun q => base ≤ q) st t
def xi_XC (D : va_G) (cy : Nat → ClassId) (base : Nat) (lay : Nat → Nat) (r : Option Value ⊕ Nat) (h' : xHp) : String → State → State → Prop := fun E st t => ∃ k : Nat, r = .inr k ∧ E = xi_E k ∧ xi_P D cy lay h' t.heap ∧ xi_Z base h' t.heap ∧ va_F (fun q => base ≤ q) st t
def xi_Pc (D : va_G) (cy : Nat → ClassId) (base : Nat) (lay : Nat → Nat) (av : List Value) (h : xHp) : Array Value → State → Prop := va_Pc (av.map (xi_tv lay)) (fun U => xi_P D cy lay h U.heap ∧ xi_Z base h U.heap ∧ xi_G D cy base lay (hL h) (hX h) U)
def xi_ws (mi : xMi) : List Cond := xi_cw mi :: xT
def xi_rm (d mc ms : Nat) : Room := { frames := d, cells := mc, slots := ms, locals := 36 * d }
/-- the method's contract for one call: these arguments, this heap, this answer -/
def xi_Mt (l : Launch) (d : Nat) (mi : xMi) (av : List Value) (h : xHp) (r : Option Value ⊕ Nat) (h' : xHp) : Prop := ∀ (D : va_G) (cy : Nat → ClassId) (base : Nat) (lay : Nat → Nat), xi_lay base lay → vx_Met l (xi_y mi) (xi_ws mi) (xi_rm d (hC h' - hC h) (hW h' - hW h)) (xi_Pc D cy base lay av h) (xi_Qc D cy base lay r h') (xi_XC D cy base lay r h') (hC h' - hC h) (hW h' - hW h) (fun q => base ≤ q)
/-- the calls that a step makes are met, with one frame less -/
def xi_CO (l : Launch) (d : Nat) (call : Nat → List Value → xHp → Option xRs) : Prop := ∀ (m' : Nat) (mi' : xMi) (av : List Value) (h : xHp) (r : Option Value ⊕ Nat) (h' : xHp), xpg[m']? = some mi' → m' < 177 → (lg_sl av).length ≤ xi_mL mi' → call m' av h = some (r, h') → xi_mo h h' ∧ ∃ d', d = d' + 1 ∧ xi_Mt l d' mi' av h r h'
theorem xi_T_ok {w : Cond} (h : w ∈ xT) : xi_ok w = true := (List.mem_filter.mp h).2
theorem ok_mk_at {m : Nat} {mi : xMi} (h : xpg[m]? = some mi) (hm : m < 177) : plainName (xi_y mi).cls = true ∧ (xi_y mi).cls = xi_rO (xi_own mi) ∧ ((xi_y mi).cls ≠ "java/lang/invoke/MethodHandle" ∧ (xi_y mi).cls ≠ "java/lang/invoke/VarHandle") ∧ xi_cw mi ∈ xT ∧ Cond.initialized (xi_y mi).cls ∈ xT ∧ xi_mL mi ≤ 17 := by
  have h1 := List.all_eq_true.mp ok_mk m (List.mem_range.mpr hm)
  rw [h] at h1
  unfold xi_mk at h1
  simp only [Bool.and_eq_true] at h1
  obtain ⟨⟨⟨⟨⟨⟨a1, a2⟩, a3⟩, a4⟩, a5⟩, a6⟩, a7⟩ := h1
  exact ⟨a1, of_decide_eq_true a2, ⟨of_decide_eq_true a3, of_decide_eq_true a4⟩, ok_cg mi (List.mem_of_getElem? h) (of_decide_eq_true a5), xi_at_mem a6, of_decide_eq_true a7⟩
theorem xi_met_of {l : Launch} {y : MethodName} {ws : List Cond} {rm : Room} {Pc : Array Value → State → Prop} {Qc : Array Value → State → Outcome → State → Prop} {XC : String → State → State → Prop} {mc ms : Nat} {free : Addr → Prop} (h : vx_Met l y ws rm Pc Qc XC mc ms free) (hx : ∀ E st t, ¬ XC E st t) : Met l y ws rm Pc Qc mc ms free := by
  intro p e ha hc hk s m args below hf happ hP hK
  obtain ⟨n, o, h1, h2, h3, hQ⟩ := h p e ha hc hk s m args below hf happ hP hK
  rcases hQ with hQ | ⟨q, -, E, ce, L, h9, -⟩
  · exact ⟨n, o, h1, h2, h3, hQ⟩
  · exact absurd h9 (hx _ _ _)
theorem xi_blind {D : va_G} {cy : Nat → ClassId} {base : Nat} {lay : Nat → Nat} {av : List Value} {h : xHp} : FrameBlind (xi_Pc D cy base lay av h) := fun a U g mk q => ⟨q.1, q.2.1, q.2.2.1, q.2.2.2.to (U := U.calling g mk a) (Vm.Alike.refl U.vm) (Nat.le_refl _) (fun _ _ _ => rfl)⟩
section
variable {p : Program} {l : Launch} {e : Env} {R : Room} {s : State} {m : MethodId} {args : Array Value} {below : List Frame} {meth : Method} {c : Code} {H : Heap} {locs : List Loc} {cells slots : Nat} {Q : State → Prop}
variable {D : va_G} {cy : Nat → ClassId} {base : Nat} {lay : Nat → Nat}
theorem xi_rva {mc ms : Nat} {g : JFrame} {rest : List Value} {Qa : State → Outcome → State → Prop} {XC : String → State → State → Prop} {free : Addr → Prop} (h : va_Run p l e R s m args below meth c H locs cells slots mc ms g rest Qa free) : vx_Run p l e R s m args below meth c H locs cells slots mc ms g rest Qa XC free := fun T hT X => Or.inl (h T hT X)
theorem xi_S_call {H1 : Heap} {L : List Loc} {st t : State} (hS : va_S (fun q => base ≤ q) s.heap H locs) (h0 : st.heap = H) (h1 : t.heap = H1) (hF : va_F (fun q => base ≤ q) st t) (hL : ∀ q ∈ L, base ≤ q.base) : va_S (fun q => base ≤ q) s.heap H1 (locs ++ L) := by
  obtain ⟨z, k⟩ := hF
  rw [h0, h1] at z k
  refine ⟨Nat.le_trans hS.1 z, fun q q1 q2 => (k q (Nat.lt_of_lt_of_le q1 hS.1) q2).trans (hS.2.1 q q1 q2), fun q hq => ?_⟩
  rcases List.mem_append.mp hq with hq | hq
  · exact hS.2.2 q hq
  · exact hL q hq
/-- behind a call: it has returned, or thrown -/
theorem xr_run {mc ms pc : Nat} {ls : Array Slot} {st0 rest : List Value} {a : Array Value} {r : Option Value ⊕ Nat} {h1 : xHp} (hr : vx_Run p l e R s m args below meth c H locs cells slots mc ms (F0 m pc ls st0) rest (xi_Qc D cy base lay r h1 a) (xi_XC D cy base lay r h1) (fun q => base ≤ q)) (hS : va_S (fun q => base ≤ q) s.heap H locs)
    (kk : ∀ (v : Option Value) (H1 : Heap) (locs1 : List Loc), r = .inl v → xi_P D cy lay h1 H1 → xi_Z base h1 H1 → va_S (fun q => base ≤ q) s.heap H1 locs1 → W p l e R s m args below meth c H1 locs1 (cells + mc) (slots + ms) Q (F0 m (pc + 3) ls ((v.map (xi_tv lay)).toList ++ rest)))
    (kx : ∀ (k : Nat) (ce : Cell) (q9 : Addr) (H1 : Heap) (locs1 : List Loc), r = .inr k → xi_P D cy lay h1 H1 → xi_Z base h1 H1 → va_S (fun q => base ≤ q) s.heap H1 locs1 → H1[q9]? = some ce → ce.vm = .none → s.vm.findClass (xi_E k) = some ce.cls → vx_W p l e R s m args below meth c H1 locs1 (cells + mc) (slots + ms) Q (F0 m pc ls rest) q9) :
    W p l e R s m args below meth c H locs cells slots Q (F0 m pc ls st0) := by
  intro T hT X
  rcases hr T hT X with ⟨v', st₀, t, T', L, h0, X', hL, e1, e2, ⟨v, rv, ho, hp, hz, hF⟩, st⟩ | ⟨q, st₀, t, T', L, E, ce, h0, X', hL, e1, e2, ⟨k, rk, rfl, hp, hz, hF⟩, hce, hcv, hcl, st⟩
  · cases ho
    rw [← e1] at hp hz
    obtain ⟨t2, a1, b1⟩ := kk v T'.heap (locs ++ L) rv hp hz (xi_S_call hS h0 e1.symm hF hL) T' rfl X'
    exact ⟨t2, st t2 a1, b1⟩
  · rw [← e1] at hp hz
    obtain ⟨t2, a1, b1⟩ := kx k ce q T'.heap (locs ++ L) rk hp hz (xi_S_call hS h0 e1.symm hF hL) (by rw [e1]; exact hce) hcv hcl T' rfl X'
    exact ⟨t2, st.trans a1, b1⟩
end
theorem xi_sl (lay : Nat → Nat) : ∀ av : List Value, (lg_sl (av.map (xi_tv lay))).length = (lg_sl av).length
  | [] => rfl
  | v :: t => by
    have ih := xi_sl lay t
    unfold lg_sl at ih ⊢
    simp only [List.map_cons, List.flatMap_cons, List.length_append, xi_tv_cat, ih]
    split <;> rfl
theorem xi_args (lay : Nat → Nat) : ∀ (i : Nat) (av : List Value), lv_args i (av.map (xi_tv lay)) = xi_lv lay (lv_args i av)
  | _, [] => rfl
  | i, v :: t => by
    show (i, xi_tv lay v) :: lv_args (if (xi_tv lay v).category = 2 then i + 2 else i + 1) (t.map (xi_tv lay)) = (i, xi_tv lay v) :: xi_lv lay (lv_args (if v.category = 2 then i + 2 else i + 1) t)
    rw [xi_tv_cat, xi_args lay _ t]
theorem xi_cats (lay : Nat → Nat) (st : List Value) : ((st.map (xi_tv lay)).map fun v => v.category).sum = (st.map fun v => v.category).sum := by
  rw [List.map_map]
  congr 1
  apply List.map_congr_left
  intro v _
  exact xi_tv_cat lay v
/-- the six kinds of a call -/
theorem xc_run {p : Program} {l : Launch} {e : Env} {R : Room} {s : State} {m : MethodId} {args : Array Value} {below : List Frame} {meth : Method} {c : Code} {H : Heap} {locs : List Loc} {D : va_G} {cy : Nat → ClassId} {base : Nat} {lay : Nat → Nat} {mi mi' : xMi} {d' pc ix kd m' po : Nat} {i : Instr} {ls : Array Slot} {av rest : List Value} {h h1 : xHp} {r : Option Value ⊕ Nat} {c0 w0 : Nat}
    (C : xi_C p l s m args meth c mi D cy base lay (hL h) (hX h)) (hfr : d' + 1 ≤ R.frames) (hlo : 36 * (d' + 1) ≤ R.locals) (hpg : xpg[m']? = some mi') (hml : xi_a (xml.getD (xi_own mi) []) ix = some (kd, m', po)) (hi : i = (if kd = 0 then .invokevirtual ix else if kd = 3 ∨ kd = 4 then .invokespecial ix else .invokestatic ix)) (hd : decode (xi_cc mi) pc = .ok (i, 3))
    (hav : av.length = xi_na mi') (hkd : xi_kd kd mi' av h = true) (hthr : kd = 2 ∨ kd = 3 ∨ kd = 4 → ∃ v, r = .inl v) (hcat : (rest.map fun v => v.category).sum ≤ 8) (hM : xi_Mt l d' mi' av h r h1) (hP : xi_P D cy lay h H) (hZ : xi_Z base h H) (hS : va_S (fun q => base ≤ q) s.heap H locs) (hls : ls.size = xi_mL mi)
    (hf : (hC h - c0) + (hC h1 - hC h) ≤ R.cells ∧ (hW h - w0) + (hW h1 - hW h) ≤ R.slots) :
    vx_Run p l e R s m args below meth c H locs (hC h - c0) (hW h - w0) (hC h1 - hC h) (hW h1 - hW h) (F0 m pc ls ((av.map (xi_tv lay)).reverse ++ rest.map (xi_tv lay))) (rest.map (xi_tv lay)) (xi_Qc D cy base lay r h1 (av.map (xi_tv lay)).toArray) (xi_XC D cy base lay r h1) (fun q => base ≤ q) := by
  obtain ⟨hx, hb, hmL, hown, hts, hlocks, hrt, hnm, htab, hst, hG, hlay⟩ := C
  have hlk := xi_all_at ok_ml rfl hml
  unfold xi_lk at hlk
  rw [show ((ix, kd, m', po) : Nat × Nat × Nat × Nat).2.2.1 = m' from rfl, hpg] at hlk
  dsimp only at hlk
  rw [Bool.and_eq_true] at hlk
  obtain ⟨hm7, hlk⟩ := hlk
  have hm7 := of_decide_eq_true hm7
  obtain ⟨k1, k2, k3, k4, k5, k6⟩ := ok_mk_at hpg hm7
  have hMv := hM D cy base lay hlay
  have hwarm : ∀ w ∈ xi_ws mi', ∀ (a' : Array Value) (U : State), s.WarmedH U.vm → w.before a' U = true := fun w hw a' U hW => by
    have hwT : w ∈ xT := by
      rcases List.mem_cons.mp hw with rfl | hw
      · exact k4
      · exact hw
    exact xi_warm (xi_T_ok hwT) hW (hts w hwT)
  have hpre : ∀ U : State, U.heap = H → s.WarmedH U.vm → xi_Pc D cy base lay av h (av.map (xi_tv lay)).toArray U := fun U hU hW => ⟨rfl, by rw [hU]; exact hP, by rw [hU]; exact hZ, hG.to hW.alike (by rw [hU]; exact hS.1) (fun a q1 q2 => by rw [hU]; exact hS.2.1 a q1 q2)⟩
  have hS9 : CallFix p m c (xi_cc mi) (xi_mL mi) s args xT (xi_rO (xi_own mi)) := ⟨hx, hb, hmL, hown, hts⟩
  have hroom : 2 * (F0 m pc ls ((av.map (xi_tv lay)).reverse ++ rest.map (xi_tv lay))).monitorRoom + ((rest.map (xi_tv lay)).map fun v => v.category).sum ≤ 8 := lv_room (by rw [xi_cats]; exact hcat)
  have hparse : ∀ n : Nat, xi_np mi' = some n → ∀ sig, parseMethodDescriptor (xi_y mi').desc = some sig → n = sig.parameters.length := fun n h9 sig h8 => by
    unfold xi_np at h9
    rw [h8] at h9
    exact (Option.some.inj h9).symm
  have hlo9 : 8 + (xi_mL mi' + 11) + 36 * d' ≤ R.locals := by omega
  have hcw : ∀ (hh0 : xi_hh mi' = []), xi_cw mi' = Cond.code (xi_y mi') (xi_cc mi') (xi_mL mi') (xi_rt mi') := fun hh0 => by
    unfold xi_cw
    rw [if_pos hh0]
  by_cases q0 : kd = 0
  · rw [if_pos q0] at hlk hi
    simp only [Bool.and_eq_true] at hlk
    obtain ⟨⟨⟨⟨⟨a1, a2⟩, a3⟩, a4⟩, a5⟩, a6⟩ := hlk
    have hh0 := of_decide_eq_true a4
    have hna := of_decide_eq_true a6
    subst hi
    unfold xi_kd at hkd
    rw [if_pos q0] at hkd
    cases av with
    | nil => exact absurd hkd Bool.false_ne_true
    | cons v0 As =>
      cases v0 <;> try exact absurd hkd Bool.false_ne_true
      rename_i a
      simp only [Bool.and_eq_true, decide_eq_true_eq] at hkd
      obtain ⟨⟨b1, b2⟩, b3⟩ := hkd
      have hat := hP a b1
      rw [xi_en_o rfl b3] at hat
      have hrecv := va_recv hG.1 (xi_one hat) (ok_cu _ b3) (q0 := 0) rfl
      have hce : (xi_cls (hK h a).1) = (xi_y mi').cls := by
        rw [k2, ← b2]
        exact (ok_df _ b3 0 (by revert b3; generalize (hK h a).1 = z; intro b3; rcases (show z = 0 ∨ z = 1 ∨ z = 2 ∨ z = 3 ∨ z = 4 ∨ z = 5 ∨ z = 6 ∨ z = 7 by omega) with rfl | rfl | rfl | rfl | rfl | rfl | rfl | rfl <;> decide)).2
      rw [show ((xi_cls (hK h a).1, xi_T (hK h a).1, xi_nf (hK h a).1) : vw_C).1 = (xi_y mi').cls from hce] at hrecv
      have hcode : Cond.code (xi_y mi') (xi_cc mi') (xi_mL mi') (xi_rt mi') ∈ xi_ws mi' := by rw [← hcw hh0]; exact List.mem_cons_self
      refine vx_runV (C := (xi_y mi').cls) (bytes := xi_cc mi') (maxL := xi_mL mi') (ret := xi_rt mi') (n := xi_na mi' - 1) (As := As.map (xi_tv lay)) (b := lay a) hS9 hMv ⟨⟨rfl, rfl, hfr, hlo9, hwarm, hcode, hts _ (by rw [← hcw hh0]; exact k4), hts _ k5, k3, hparse _ (of_decide_eq_true a5), hts _ (xi_at_mem a1)⟩, hts _ (xi_at_mem a2), hts _ (xi_at_mem a3)⟩ ⟨xi_blind, hrecv, hpre⟩ rfl ?_ hls ?_ hroom hd hf
      · rw [List.length_map]
        have : As.length + 1 = xi_na mi' := hav
        omega
      · show (xi_tv lay (.ref a) :: As.map (xi_tv lay)).reverse ++ rest.map (xi_tv lay) = (As.map (xi_tv lay)).reverse ++ .ref (lay a) :: rest.map (xi_tv lay)
        rw [List.reverse_cons, List.append_assoc]
        rfl
  rw [if_neg q0] at hlk hi
  by_cases q1 : kd = 1
  · rw [if_pos q1] at hlk
    rw [if_neg (by omega)] at hi
    simp only [Bool.and_eq_true] at hlk
    obtain ⟨⟨⟨a1, a2⟩, a4⟩, a5⟩ := hlk
    have hh0 := of_decide_eq_true a4
    subst hi
    have hcode : Cond.code (xi_y mi') (xi_cc mi') (xi_mL mi') (xi_rt mi') ∈ xi_ws mi' := by rw [← hcw hh0]; exact List.mem_cons_self
    exact vx_runS (bytes := xi_cc mi') (maxL := xi_mL mi') (ret := xi_rt mi') (n := xi_na mi') (As := av.map (xi_tv lay)) hS9 hMv ⟨⟨rfl, rfl, hfr, hlo9, hwarm, hcode, hts _ (by rw [← hcw hh0]; exact k4), hts _ k5, k3, hparse _ (of_decide_eq_true a5), hts _ (xi_at_mem a1)⟩, hts _ (xi_at_mem a2)⟩ ⟨xi_blind, hpre⟩ rfl (by rw [List.length_map]; exact hav) hls rfl hroom hd hf
  rw [if_neg q1] at hlk
  by_cases q2 : kd = 2
  · rw [if_pos q2] at hlk
    rw [if_neg (by omega)] at hi
    simp only [Bool.and_eq_true] at hlk
    obtain ⟨⟨⟨a1, a2⟩, a4⟩, a5⟩ := hlk
    have hh0 := of_decide_eq_true a4
    subst hi
    obtain ⟨v9, hv9⟩ := hthr (Or.inl q2)
    have hcode : Cond.code (xi_y mi') (xi_cc mi') (xi_mL mi') (xi_rt mi') ∈ xi_ws mi' := by rw [← hcw hh0]; exact List.mem_cons_self
    have hMM := xi_met_of hMv (fun E st t q => by obtain ⟨k, hk, -⟩ := q; rw [hv9] at hk; cases hk)
    refine xi_rva (va_runSN (host := RX7) (bytes := xi_cc mi') (maxL := xi_mL mi') (ret := xi_rt mi') (n := xi_na mi') (As := av.map (xi_tv lay)) hS9 hMM ⟨?_, hts _ (xi_at_mem a2), trivial⟩ ⟨xi_blind, hpre⟩ rfl (by rw [List.length_map]; exact hav) hls rfl hroom hd hf)
    exact ⟨⟨rfl, rfl, hfr, hlo9, hwarm, hcode⟩, hts _ (by rw [← hcw hh0]; exact k4), hts _ k5, k3, hparse _ (of_decide_eq_true a5), va_Nw.of rfl (hts _ (xi_at_mem a1))⟩
  rw [if_neg q2] at hlk
  by_cases q3 : kd = 3
  · rw [if_pos q3] at hlk
    rw [if_pos (Or.inl q3)] at hi
    simp only [Bool.and_eq_true] at hlk
    obtain ⟨⟨⟨⟨⟨⟨a1, a2⟩, a3⟩, a3'⟩, a4⟩, a5⟩, a6⟩ := hlk
    have hh0 := of_decide_eq_true a4
    have hrt0 := of_decide_eq_true a3'
    subst hi
    obtain ⟨v9, hv9⟩ := hthr (Or.inr (Or.inl q3))
    have hcode : Cond.code (xi_y mi') (xi_cc mi') (xi_mL mi') none ∈ xi_ws mi' := by rw [← hrt0, ← hcw hh0]; exact List.mem_cons_self
    have hMM := xi_met_of hMv (fun E st t q => by obtain ⟨k, hk, -⟩ := q; rw [hv9] at hk; cases hk)
    unfold xi_kd at hkd
    rw [if_neg q0, if_pos (Or.inl q3)] at hkd
    cases av with
    | nil => exact absurd hkd Bool.false_ne_true
    | cons v0 As =>
      cases v0 <;> try exact absurd hkd Bool.false_ne_true
      rename_i a
      refine xi_rva (va_runI (bytes := xi_cc mi') (maxL := xi_mL mi') (n := xi_na mi' - 1) (As := As.map (xi_tv lay)) (b := lay a) hS9 hMM ⟨⟨rfl, rfl, hfr, hlo9, hwarm, hcode, hts _ (by rw [← hrt0, ← hcw hh0]; exact k4), hts _ k5, k3, hparse _ (of_decide_eq_true a5), hts _ (xi_at_mem a1)⟩, of_decide_eq_true a3, hts _ (xi_at_mem a2)⟩ ⟨xi_blind, hpre⟩ rfl ?_ hls ?_ hroom hd hf)
      · rw [List.length_map]
        have : As.length + 1 = xi_na mi' := hav
        omega
      · show (xi_tv lay (.ref a) :: As.map (xi_tv lay)).reverse ++ rest.map (xi_tv lay) = (As.map (xi_tv lay)).reverse ++ .ref (lay a) :: rest.map (xi_tv lay)
        rw [List.reverse_cons, List.append_assoc]
        rfl
  rw [if_neg q3] at hlk
  by_cases q4 : kd = 4
  · rw [if_pos q4] at hlk
    rw [if_pos (Or.inr q4)] at hi
    simp only [Bool.and_eq_true] at hlk
    obtain ⟨⟨⟨⟨⟨⟨a1, a2⟩, a3⟩, a3'⟩, a4⟩, a5⟩, a6⟩ := hlk
    have hh0 := of_decide_eq_true a4
    have hrt0 := of_decide_eq_true a3'
    subst hi
    obtain ⟨v9, hv9⟩ := hthr (Or.inr (Or.inr q4))
    have hcode : Cond.code (xi_y mi') (xi_cc mi') (xi_mL mi') none ∈ xi_ws mi' := by rw [← hrt0, ← hcw hh0]; exact List.mem_cons_self
    have hMM := xi_met_of hMv (fun E st t q => by obtain ⟨k, hk, -⟩ := q; rw [hv9] at hk; cases hk)
    unfold xi_kd at hkd
    rw [if_neg q0, if_pos (Or.inr q4)] at hkd
    cases av with
    | nil => exact absurd hkd Bool.false_ne_true
    | cons v0 As =>
      cases v0 <;> try exact absurd hkd Bool.false_ne_true
      rename_i a
      refine xi_rva (va_runIN (host := RX7) (bytes := xi_cc mi') (maxL := xi_mL mi') (n := xi_na mi' - 1) (As := As.map (xi_tv lay)) (b := lay a) hS9 hMM ⟨?_, of_decide_eq_true a3, hts _ (xi_at_mem a2)⟩ ⟨xi_blind, hpre⟩ rfl ?_ hls ?_ hroom hd hf)
      · exact ⟨⟨rfl, rfl, hfr, hlo9, hwarm, hcode⟩, hts _ (by rw [← hrt0, ← hcw hh0]; exact k4), hts _ k5, k3, hparse _ (of_decide_eq_true a5), va_Nw.of rfl (hts _ (xi_at_mem a1))⟩
      · rw [List.length_map]
        have : As.length + 1 = xi_na mi' := hav
        omega
      · show (xi_tv lay (.ref a) :: As.map (xi_tv lay)).reverse ++ rest.map (xi_tv lay) = (As.map (xi_tv lay)).reverse ++ .ref (lay a) :: rest.map (xi_tv lay)
        rw [List.reverse_cons, List.append_assoc]
        rfl
  rw [if_neg q4] at hlk
  by_cases q5 : kd = 5
  · rw [if_pos q5] at hlk
    rw [if_neg (by omega)] at hi
    simp only [Bool.and_eq_true] at hlk
    obtain ⟨⟨⟨a1, a2⟩, a4⟩, a5⟩ := hlk
    have hh0 := of_decide_eq_true a4
    subst hi
    have ecw : xi_cw mi' = Cond.codeWith (xi_y mi') (xi_cc mi') (xi_mL mi') (xi_rt mi') (xi_hh mi') := by
      unfold xi_cw
      rw [if_neg hh0]
    have hcode : Cond.codeWith (xi_y mi') (xi_cc mi') (xi_mL mi') (xi_rt mi') (xi_hh mi') ∈ xi_ws mi' := by rw [← ecw]; exact List.mem_cons_self
    exact vx_runSX (hh := xi_hh mi') (bytes := xi_cc mi') (maxL := xi_mL mi') (ret := xi_rt mi') (n := xi_na mi') (As := av.map (xi_tv lay)) hS9 hMv ⟨⟨rfl, rfl, hfr, hlo9, hwarm, hcode⟩, hts _ (by rw [← ecw]; exact k4), hts _ k5, k3, hparse _ (of_decide_eq_true a5), hts _ (xi_at_mem a1), hts _ (xi_at_mem a2)⟩ ⟨xi_blind, hpre⟩ rfl (by rw [List.length_map]; exact hav) hls rfl hroom hd hf
  · rw [if_neg q5] at hlk
    cases hlk
end
section
def xi_S2 (l : Launch) (d : Nat) (mi : xMi) (fr : xFr) (h : xHp) (fr' : xFr) (h' : xHp) : Prop :=
  ∀ (p : Program) (e : Env) (R : Room) (s : State) (m : MethodId) (args : Array Value) (below : List Frame) (meth : Method) (c : Code) (Q : State → Prop) (D : va_G) (cy : Nat → ClassId) (base : Nat) (lay : Nat → Nat) (c0 w0 : Nat),
    xi_C p l s m args meth c mi D cy base lay (hL h) (hX h) → d ≤ R.frames → 36 * d ≤ R.locals → c0 ≤ hC h → w0 ≤ hW h → hC h' - c0 ≤ R.cells → hW h' - w0 ≤ R.slots →
    xi_W p l e R s m args below meth c mi D cy base lay c0 w0 Q fr' h' → xi_W p l e R s m args below meth c mi D cy base lay c0 w0 Q fr h
def xi_S3 (l : Launch) (d : Nat) (mi : xMi) (fr : xFr) (h : xHp) (r : Option Value ⊕ Nat) (h' : xHp) : Prop :=
  ∀ (p : Program) (e : Env) (R : Room) (s : State) (m : MethodId) (args : Array Value) (below : List Frame) (meth : Method) (c : Code) (D : va_G) (cy : Nat → ClassId) (base : Nat) (lay : Nat → Nat) (c0 w0 : Nat),
    xi_C p l s m args meth c mi D cy base lay (hL h) (hX h) → d ≤ R.frames → 36 * d ≤ R.locals → c0 ≤ hC h → w0 ≤ hW h → hC h' - c0 ≤ R.cells → hW h' - w0 ≤ R.slots →
    xi_W p l e R s m args below meth c mi D cy base lay c0 w0 (vx_MQ below (xi_Qc D cy base lay r h') (xi_XC D cy base lay r h') args s (hC h' - c0) (hW h' - w0) (fun q => base ≤ q)) fr h
def xi_Rs (l : Launch) (d : Nat) (mi : xMi) (fr : xFr) (h : xHp) : (xFr × xHp) ⊕ xRs → Prop
  | .inl (fr', h') => xi_mo h h' ∧ xi_S2 l d mi fr h fr' h'
  | .inr (r, h') => xi_mo h h' ∧ xi_S3 l d mi fr h r h'
theorem xi_tb_at {mi : xMi} (hk : xi_tbk mi = true) {pc : Nat} {i : Instr} {len : Nat} (h : xi_a (xi_tb mi) pc = some (i, len)) : decode (xi_cc mi) pc = .ok (i, len) ∧ xi_le i len = true ∧ xi_of i pc = true := by
  have h1 := List.all_eq_true.mp hk _ (xi_a_mem _ _ _ h)
  unfold xi_tbc at h1
  simp only [Bool.and_eq_true, decide_eq_true_eq] at h1
  exact ⟨h1.1.1, h1.1.2, h1.2⟩
theorem xi_hd_sp (o : Nat) : ∀ (hh : List (Nat × Nat × Nat × Nat)) (pc E t : Nat), xi_hd o hh pc E = some t → ∃ (pre : List (Nat × Nat × Nat × Nat)) (a b c : Nat) (suf : List (Nat × Nat × Nat × Nat)), hh = pre ++ (a, b, t, c) :: suf ∧ (a ≤ pc ∧ pc < b) ∧ (∃ y z, xi_a (xel.getD o []) c = some (y, E, z)) ∧ ∀ q ∈ pre, ¬ (q.1 ≤ pc ∧ pc < q.2.1) ∨ ∃ y e' z, xi_a (xel.getD o []) q.2.2.2 = some (y, e', z) ∧ e' ≠ E
  | [], _, _, _, h => by cases h
  | (a, b, t', c) :: r, pc, E, t, h => by
    unfold xi_hd at h
    by_cases h1 : a ≤ pc ∧ pc < b
    · rw [if_pos h1] at h
      cases hv : xi_a (xel.getD o []) c with
      | none => rw [hv] at h; cases h
      | some v =>
        obtain ⟨y, e', z⟩ := v
        rw [hv] at h
        dsimp only at h
        by_cases h2 : e' = E
        · rw [if_pos h2] at h
          cases h
          subst h2
          exact ⟨[], a, b, c, r, rfl, h1, ⟨y, z, hv⟩, fun q hq => by cases hq⟩
        · rw [if_neg h2] at h
          obtain ⟨pre, a', b', c', suf, e1, e2, e3, e4⟩ := xi_hd_sp o r pc E t h
          refine ⟨(a, b, t', c) :: pre, a', b', c', suf, by rw [e1]; rfl, e2, e3, fun q hq => ?_⟩
          rcases List.mem_cons.mp hq with rfl | hq
          · exact Or.inr ⟨y, e', z, hv, h2⟩
          · exact e4 q hq
    · rw [if_neg h1] at h
      obtain ⟨pre, a', b', c', suf, e1, e2, e3, e4⟩ := xi_hd_sp o r pc E t h
      refine ⟨(a, b, t', c) :: pre, a', b', c', suf, by rw [e1]; rfl, e2, e3, fun q hq => ?_⟩
      rcases List.mem_cons.mp hq with rfl | hq
      · exact Or.inl h1
      · exact e4 q hq
theorem xi_el_at {o c y E z : Nat} (h : xi_a (xel.getD o []) c = some (y, E, z)) : Cond.classLink (xi_rO o) c (xi_E E) ∈ xT ∧ E < 3 ∧ c ≠ 0 := by
  have h1 := xi_all_at ok_el rfl h
  simp only [Bool.and_eq_true, decide_eq_true_eq] at h1
  exact ⟨xi_at_mem h1.1.1, h1.1.2, h1.2⟩
theorem xi_lv_sp {lay : Nat → Nat} {lv : List (Nat × Value)} {k : Nat} {x : Value} {ls : Array Slot} {nL : Nat} (h : lv_has ls nL ((k, x) :: (xi_lv lay lv).filter (fun q => !(q.1 == k) && !(q.1 + 1 == k && q.2.category == 2)))) : lv_has ls nL (xi_lv lay (xi_sp lv k)) := by
  rw [xi_filt lv _ (fun q => !(q.1 == k) && !(q.1 + 1 == k && q.2.category == 2)) (fun q => by simp only [xi_tv_cat])] at h
  exact ⟨h.1, h.2.1, fun q hq => h.2.2 q (List.mem_cons_of_mem _ hq)⟩
theorem xi_call_ok {l : Launch} {d : Nat} {call : Nat → List Value → xHp → Option xRs} {mi : xMi} (hk : xi_tbk mi = true) {pc ix kd m' po : Nat} {i : Instr} {lv : List (Nat × Value)} {st : List Value} {h : xHp} {res : (xFr × xHp) ⊕ xRs}
    (CO : ∀ (mi' : xMi) (r : Option Value ⊕ Nat) (h' : xHp), xpg[m']? = some mi' → m' < 177 → (lg_sl (st.take (xi_na mi')).reverse).length ≤ xi_mL mi' → call m' (st.take (xi_na mi')).reverse h = some (r, h') → xi_mo h h' ∧ ∃ d', d = d' + 1 ∧ xi_Mt l d' mi' (st.take (xi_na mi')).reverse h r h')
    (hml : xi_a (xml.getD (xi_own mi) []) ix = some (kd, m', po)) (hi : i = (if kd = 0 then .invokevirtual ix else if kd = 3 ∨ kd = 4 then .invokespecial ix else .invokestatic ix)) (hd : decode (xi_cc mi) pc = .ok (i, 3)) (hs : xi_call call mi pc lv st h kd m' = some res) : xi_Rs l d mi (pc, lv, st) h res := by
  unfold xi_call at hs
  cases hpg : xpg[m']? with
  | none => rw [hpg] at hs; cases hs
  | some mi' =>
    rw [hpg] at hs
    dsimp only at hs
    split at hs
    · next hg =>
      obtain ⟨g1, g2, g3, g4⟩ := hg
      have hm7 : m' < 177 := by
        have hlk := xi_all_at ok_ml rfl hml
        unfold xi_lk at hlk
        rw [show ((ix, kd, m', po) : Nat × Nat × Nat × Nat).2.2.1 = m' from rfl, hpg] at hlk
        dsimp only at hlk
        rw [Bool.and_eq_true] at hlk
        exact of_decide_eq_true hlk.1
      have CO9 := fun r h' => CO mi' r h' hpg hm7
      generalize hav9 : (st.take (xi_na mi')).reverse = av at hs g3 g4 CO9
      generalize hrs9 : st.drop (xi_na mi') = rest at hs g2
      have hav : av.length = xi_na mi' := by
        rw [← hav9, List.length_reverse, List.length_take]
        omega
      have hst : st = av.reverse ++ rest := by
        rw [← hav9, ← hrs9, List.reverse_reverse, List.take_append_drop]
      unfold xi_aft at hs
      cases hc : call m' av h with
      | none => rw [hc] at hs; cases hs
      | some rr =>
        obtain ⟨r, h1⟩ := rr
        rw [hc] at hs
        obtain ⟨hmo, d', hdd, hM⟩ := CO9 r h1 g3 hc
        subst hdd
        have hmo' := hmo
        obtain ⟨m1, m2, m3, m4⟩ := hmo'
        have hmap : ∀ lay : Nat → Nat, st.map (xi_tv lay) = (av.map (xi_tv lay)).reverse ++ rest.map (xi_tv lay) := fun lay => by
          rw [hst, List.map_append, List.map_reverse]
        cases r with
        | inl v =>
          cases hs
          refine ⟨hmo, fun p e R s m args below meth c Q D cy base lay c0 w0 C hfr hlo hc0 hw0 hrc hrs kk H locs ls hP hZ hS hl => ?_⟩
          have hrun := xc_run (e := e) (below := below) (locs := locs) (c0 := c0) (w0 := w0) C hfr hlo hpg hml hi hd hav g4 (fun _ => ⟨v, rfl⟩) g2 hM hP hZ hS hl.1 ⟨by omega, by omega⟩
          show W p l e R s m args below meth c H locs (hC h - c0) (hW h - w0) Q (F0 m pc ls (st.map (xi_tv lay)))
          rw [hmap lay]
          refine xr_run hrun hS (fun v' H1 locs1 hv' hP1 hZ1 hS1 => ?_) (fun k _ _ _ _ hk9 => by cases hk9)
          cases hv'
          refine W.cs (cells' := hC h1 - c0) (slots' := hW h1 - w0) (by omega) (by omega) ?_
          have kk' := kk H1 locs1 ls hP1 hZ1 hS1 hl
          rw [show ((pc + 3, lv, v.toList ++ rest) : xFr).2.2.map (xi_tv lay) = (v.map (xi_tv lay)).toList ++ rest.map (xi_tv lay) from by show (v.toList ++ rest).map (xi_tv lay) = _; rw [List.map_append]; cases v <;> rfl] at kk'
          exact kk'
        | inr E =>
          dsimp only at hs
          split at hs
          · cases hs
          · next hkd =>
            cases hh : xi_hd (xi_own mi) (xi_hh mi) pc E with
            | none =>
              rw [hh] at hs
              dsimp only at hs
              split at hs
              · next hh0 =>
                cases hs
                refine ⟨hmo, fun p e R s m args below meth c D cy base lay c0 w0 C hfr hlo hc0 hw0 hrc hrs H locs ls hP hZ hS hl => ?_⟩
                have hrun := xc_run (e := e) (below := below) (locs := locs) (c0 := c0) (w0 := w0) C hfr hlo hpg hml hi hd hav g4 (fun q => absurd q hkd) g2 hM hP hZ hS hl.1 ⟨by omega, by omega⟩
                show W p l e R s m args below meth c H locs (hC h - c0) (hW h - w0) _ (F0 m pc ls (st.map (xi_tv lay)))
                rw [hmap lay]
                refine xr_run hrun hS (fun v' _ _ hv' => by cases hv') (fun k ce q9 H1 locs1 hk9 hP1 hZ1 hS1 hce hcv hcl => ?_)
                cases hk9
                refine vx_out (E := xi_E E) (fun x hx => ?_) C.2.2.2.2.2.1 hce hcv hcl (fun t ht hvm => ⟨E, rfl, rfl, by rw [ht]; exact hP1, by rw [ht]; exact hZ1, hS1.F ht⟩) hS1.2.2 (by omega) (by omega)
                rw [C.2.2.2.2.2.2.2.2.1, hh0] at hx
                cases hx
              · cases hs
            | some t =>
              rw [hh] at hs
              dsimp only at hs
              obtain ⟨pre, a9, b9, c9, suf, e1, e2, ⟨y9, z9, e3⟩, e4⟩ := xi_hd_sp _ _ _ _ _ hh
              obtain ⟨f1, f2, f3⟩ := xi_el_at e3
              have catch9 : ∀ (p : Program) (e : Env) (R : Room) (s : State) (m : MethodId) (args : Array Value) (below : List Frame) (meth : Method) (c : Code) (Q : State → Prop) (D : va_G) (cy : Nat → ClassId) (base : Nat) (lay : Nat → Nat) (c0 w0 : Nat), xi_C p l s m args meth c mi D cy base lay (hL h) (hX h) → d' + 1 ≤ R.frames → 36 * (d' + 1) ≤ R.locals → c0 ≤ hC h → w0 ≤ hW h → hC h1 - c0 ≤ R.cells → hW h1 - w0 ≤ R.slots → ∀ (H : Heap) (locs : List Loc) (ls : Array Slot), xi_P D cy lay h H → xi_Z base h H → va_S (fun q => base ≤ q) s.heap H locs → lv_has ls (xi_mL mi) (xi_lv lay lv) →
                  (∀ (H1 : Heap) (locs1 : List Loc) (q9 : Nat), xi_P D cy lay h1 H1 → xi_Z base h1 H1 → va_S (fun q => base ≤ q) s.heap H1 locs1 → W p l e R s m args below meth c H1 locs1 (hC h1 - c0) (hW h1 - w0) Q (F0 m t ls [.ref q9])) → W p l e R s m args below meth c H locs (hC h - c0) (hW h - w0) Q (F0 m pc ls (st.map (xi_tv lay))) := by
                intro p e R s m args below meth c Q D cy base lay c0 w0 C hfr hlo hc0 hw0 hrc hrs H locs ls hP hZ hS hl kk
                have hrun := xc_run (e := e) (below := below) (locs := locs) (c0 := c0) (w0 := w0) C hfr hlo hpg hml hi hd hav g4 (fun q => absurd q hkd) g2 hM hP hZ hS hl.1 ⟨by omega, by omega⟩
                rw [hmap lay]
                refine xr_run hrun hS (fun v' _ _ hv' => by cases hv') (fun k ce q9 H1 locs1 hk9 hP1 hZ1 hS1 hce hcv hcl => ?_)
                cases hk9
                refine vx_catch (own := xi_rO (xi_own mi)) (name := xi_E E) (E := xi_E E) C.2.2.2.1 (tableOf pre) ⟨a9, b9, t, c9⟩ (tableOf suf) ?_ ?_ ?_ f3 (C.2.2.2.2.1 _ f1) (C.2.2.2.2.1 _ (ok_ca E f2)) hce hcv hcl ?_
                · rw [C.2.2.2.2.2.2.2.2.1, e1]
                  unfold tableOf
                  rw [List.map_append]
                  rfl
                · intro z hz
                  obtain ⟨q, hq, rfl⟩ := List.mem_map.mp hz
                  rcases e4 q hq with h9 | ⟨y8, e8, z8, h8, h8'⟩
                  · left
                    show (decide (q.1 ≤ pc) && decide (pc < q.2.1)) = false
                    simp only [Bool.and_eq_false_iff, decide_eq_false_iff_not]
                    by_cases h7 : q.1 ≤ pc
                    · exact Or.inr (fun h6 => h9 ⟨h7, h6⟩)
                    · exact Or.inl h7
                  · obtain ⟨i1, i2, i3⟩ := xi_el_at h8
                    exact Or.inr ⟨i3, xi_E e8, C.2.2.2.2.1 _ i1, C.2.2.2.2.2.2.2.2.2.2.1.2.2.1 E f2 e8 i2 (fun h6 => h8' h6.symm)⟩
                · show (decide (a9 ≤ pc) && decide (pc < b9)) = true
                  simp only [Bool.and_eq_true, decide_eq_true_eq]
                  exact e2
                · exact W.cs (cells' := hC h1 - c0) (slots' := hW h1 - w0) (by omega) (by omega) (kk H1 locs1 q9 hP1 hZ1 hS1)
              split at hs
              · next k len hv =>
                split at hs
                · next hkL =>
                  cases hs
                  obtain ⟨d1, d2, -⟩ := xi_tb_at hk hv
                  obtain rfl : len = 1 := by simpa [xi_le, xi_ln] using d2
                  refine ⟨hmo, fun p e R s m args below meth c Q D cy base lay c0 w0 C hfr hlo hc0 hw0 hrc hrs kk H locs ls hP hZ hS hl => ?_⟩
                  refine catch9 p e R s m args below meth c Q D cy base lay c0 w0 C hfr hlo hc0 hw0 hrc hrs H locs ls hP hZ hS hl (fun H1 locs1 q9 hP1 hZ1 hS1 => ?_)
                  exact lv_astore_n C.1 C.2.1 d1 rfl hl hkL rfl (fun ls' hl' => kk H1 locs1 ls' hP1 hZ1 hS1 (xi_lv_sp hl'))
                · cases hs
              · next k len hv =>
                split at hs
                · next hkL =>
                  cases hs
                  obtain ⟨d1, d2, -⟩ := xi_tb_at hk hv
                  obtain rfl : len = 2 := by simpa [xi_le, xi_ln] using d2
                  refine ⟨hmo, fun p e R s m args below meth c Q D cy base lay c0 w0 C hfr hlo hc0 hw0 hrc hrs kk H locs ls hP hZ hS hl => ?_⟩
                  refine catch9 p e R s m args below meth c Q D cy base lay c0 w0 C hfr hlo hc0 hw0 hrc hrs H locs ls hP hZ hS hl (fun H1 locs1 q9 hP1 hZ1 hS1 => ?_)
                  exact lv_astore C.1 C.2.1 d1 hl hkL rfl (fun ls' hl' => kk H1 locs1 ls' hP1 hZ1 hS1 (xi_lv_sp hl'))
                · cases hs
              · cases hs
    · cases hs
end
section
theorem xi_P_fz {D : va_G} {cy : Nat → ClassId} {lay : Nat → Nat} {h : xHp} {H H1 : Heap} (hP : xi_P D cy lay h H) (o : ∀ q : Nat, q < H.size → H1[q]? = H[q]?) : xi_P D cy lay (xi_fz h) H1 := by
  intro i hi
  have h1 := hP i hi
  rw [show xi_en cy lay (xi_fz h) i = xi_en cy lay h i from xi_en_cg rfl rfl rfl rfl]
  exact h1.kept (o _ h1.lt)
theorem xi_s1_S2 {l : Launch} {d : Nat} {mi : xMi} {i : Instr} {len : Nat} {fr : xFr} {h : xHp} {fr' : xFr} {h' : xHp} (hd : decode (xi_cc mi) fr.1 = .ok (i, len)) (hs : xi_Sd mi i len fr h fr' h') : xi_S2 l d mi fr h fr' h' :=
  fun p e R s m args below meth c Q D cy base lay c0 w0 C _ _ hc0 hw0 hrc hrs k => hs p l e R s m args below meth c Q D cy base lay c0 w0 C hd hc0 hw0 hrc hrs k
theorem xi_el7 {o ix ic E po : Nat} (ho : o = 7) (h : xi_a (xel.getD o []) ix = some (ic, E, po)) : (ix, ic, E, po) ∈ xel_7 := by
  subst ho
  exact xi_a_mem _ _ _ h
theorem xi_throw_ok {l : Launch} {d : Nat} {mi : xMi} (hk : xi_tbk mi = true) {pc ix ic E po : Nat} {lv : List (Nat × Value)} {st : List Value} {h : xHp} (hv : xi_a (xel.getD (xi_own mi) []) ix = some (ic, E, po)) (hd0 : decode (xi_cc mi) pc = .ok (.new ix, 3))
    (g : 5 < d ∧ xi_hh mi = [] ∧ xi_own mi = 7 ∧ (st.map fun v => v.category).sum ≤ 8 ∧ xi_a (xi_tb mi) (pc + 3) = some (.dup, 1) ∧ xi_a (xi_tb mi) (pc + 4) = some (.invokespecial ic, 3) ∧ xi_a (xi_tb mi) (pc + 7) = some (.athrow, 1)) : xi_mo h (xi_fz h) ∧ xi_S3 l d mi (pc, lv, st) h (.inr E) (xi_fz h) := by
  obtain ⟨g1, g2, g3, g4, g5, g6, g7⟩ := g
  obtain ⟨f1, f2, f3⟩ := xi_el_at hv
  have hx := List.all_eq_true.mp ok_ex _ (xi_el7 g3 hv)
  simp only [Bool.and_eq_true, decide_eq_true_eq] at hx
  obtain ⟨⟨⟨⟨⟨x1, x2⟩, x3⟩, x4⟩, x5⟩, x6⟩ := hx
  refine ⟨⟨Nat.le_succ _, Nat.le_add_right _ _, rfl, rfl⟩, fun p e R s m args below meth c D cy base lay c0 w0 C hfr hlo hc0 hw0 hrc hrs H locs ls hP hZ hS hl => ?_⟩
  have hrc' : hC h + 1 - c0 ≤ R.cells := hrc
  have hrs' : hW h + 6 - w0 ≤ R.slots := hrs
  obtain ⟨hx, hb, hmL, hown, hts, hlocks, hrt, hnm, htab, hst, hG, hlay⟩ := C
  rw [g3] at hown f1
  have hat : ∀ w ∈ vx_at0 RX7 ic (xi_E E) xi_names, (w ∈ xT ∧ vx_ot w = true) := fun w hw => by
    have h9 := List.all_eq_true.mp x1 w hw
    simp only [Bool.and_eq_true, decide_eq_true_eq] at h9
    exact ⟨List.mem_filter.mpr ⟨h9.1.1, h9.1.2⟩, h9.2⟩
  refine vx_throw0 (A := fun q => base ≤ q) (own := RX7) (cls := xi_E E) (names := xi_names) (ik := ix) (ic := ic) hx hb hst hown x6 ok_en (hts _ f1) (hts _ (List.mem_filter.mpr ⟨x4, x5⟩)) (fun w hw => hts _ (hat w hw).1) (fun w hw => ?_) hG.2.2.2.1.1 hG.2.2.2.1.2 hS (by rw [hmL]; exact hl.1) hd0 (xi_tb_at hk g5).1 (xi_tb_at hk g6).1 (xi_tb_at hk g7).1 (fun x hx9 => by rw [htab, g2] at hx9; cases hx9) (by show 2 + 3 < R.frames; omega) ?_ (by omega) (by omega) hlocks (fun t hvm hz ho => ?_) hS.2.2 (by show hC h - c0 + 1 ≤ hC h + 1 - c0; omega) (by show hW h - w0 + 6 ≤ hW h + 6 - w0; omega)
  · rcases List.mem_cons.mp hw with rfl | hw
    · exact x2
    · rcases List.mem_cons.mp hw with rfl | hw
      · exact x3
      · exact (hat w hw).2
  · show ((st.map (xi_tv lay)).map fun v => v.category).sum + (13 * (2 + 1) + 42) ≤ R.locals
    rw [xi_cats]
    omega
  · refine ⟨E, rfl, rfl, xi_P_fz hP ho, ⟨fun q => absurd (show true = false from q) (by decide), Nat.le_trans hZ.2.1 hz, hZ.2.2⟩, Nat.le_trans hS.1 hz, fun q q1 q2 => (ho q (Nat.lt_of_lt_of_le q1 hS.1)).trans (hS.2.1 q q1 q2)⟩
theorem xi_st_ok {l : Launch} {d : Nat} {call : Nat → List Value → xHp → Option xRs} {mi : xMi} (hk : xi_tbk mi = true) (CO : xi_CO l d call) {fr : xFr} {h : xHp} {res : (xFr × xHp) ⊕ xRs} (hs : xi_st d call mi fr h = some res) : xi_Rs l d mi fr h res := by
  obtain ⟨pc, lv, st⟩ := fr
  unfold xi_st at hs
  cases ht : xi_a (xi_tb mi) pc with
  | none => rw [ht] at hs; cases hs
  | some il =>
    obtain ⟨i, len⟩ := il
    rw [show xi_a (xi_tb mi) ((pc, lv, st) : xFr).1 = some (i, len) from ht] at hs
    dsimp only at hs
    obtain ⟨hd, hle, hof⟩ := xi_tb_at hk ht
    have plain : ∀ (hs1 : (xi_s1 (xi_own mi) (xi_mL mi) ((xi_y mi).name == "<init>") i pc lv st h).map .inl = some res), xi_Rs l d mi (pc, lv, st) h res := fun hs1 => by
      obtain ⟨⟨fr', h'⟩, h1, h2⟩ := Option.map_eq_some_iff.mp hs1
      subst h2
      obtain ⟨a1, a2⟩ := xi_s1_ok i len pc lv st h fr' h' hof hle h1
      exact ⟨a1, xi_s1_S2 hd a2⟩
    split at hs
    · obtain rfl : len = 1 := by simpa [xi_le, xi_ln] using hle
      split at hs
      · next v =>
        split at hs
        · next hr =>
          cases hs
          refine ⟨xi_mo.rf _, fun p e R s m args below meth c D cy base lay c0 w0 C hfr hlo hc0 hw0 hrc hrs H locs ls hP hZ hS hl => ?_⟩
          exact vx_ret (W.iret C.1 C.2.1 (C.2.2.2.2.2.2.1.trans hr) (fun t ht9 hW9 => ⟨some (.int v), rfl, rfl, by rw [ht9]; exact hP, by rw [ht9]; exact hZ, hS.F ht9⟩) hS.2.2 hd C.2.2.2.2.2.1)
        · next hr =>
          split at hs
          · next hv =>
            cases hs
            refine ⟨xi_mo.rf _, fun p e R s m args below meth c D cy base lay c0 w0 C hfr hlo hc0 hw0 hrc hrs H locs ls hP hZ hS hl => ?_⟩
            exact vx_ret (W.zret C.1 C.2.1 (C.2.2.2.2.2.2.1.trans hr) (by rcases hv with rfl | rfl <;> decide) (fun t ht9 hW9 => ⟨some (.int v), rfl, rfl, by rw [ht9]; exact hP, by rw [ht9]; exact hZ, hS.F ht9⟩) hS.2.2 hd C.2.2.2.2.2.1)
          · cases hs
        · cases hs
      · cases hs
    · obtain rfl : len = 1 := by simpa [xi_le, xi_ln] using hle
      split at hs
      · next v =>
        split at hs
        · next hr =>
          cases hs
          refine ⟨xi_mo.rf _, fun p e R s m args below meth c D cy base lay c0 w0 C hfr hlo hc0 hw0 hrc hrs H locs ls hP hZ hS hl => ?_⟩
          exact vx_ret (W.fret C.1 C.2.1 (C.2.2.2.2.2.2.1.trans hr) (fun t ht9 hW9 => ⟨some (.float v), rfl, rfl, by rw [ht9]; exact hP, by rw [ht9]; exact hZ, hS.F ht9⟩) hS.2.2 hd C.2.2.2.2.2.1)
        · cases hs
      · cases hs
    · obtain rfl : len = 1 := by simpa [xi_le, xi_ln] using hle
      split at hs
      · next a =>
        split at hs
        · next hr =>
          cases hs
          refine ⟨xi_mo.rf _, fun p e R s m args below meth c D cy base lay c0 w0 C hfr hlo hc0 hw0 hrc hrs H locs ls hP hZ hS hl => ?_⟩
          exact vx_ret (W.aret C.1 C.2.1 (C.2.2.2.2.2.2.1.trans hr) (Or.inl ⟨_, rfl⟩) (Or.inr ⟨_, rfl⟩) (fun t ht9 hW9 => ⟨some (.ref a), rfl, rfl, by rw [ht9]; exact hP, by rw [ht9]; exact hZ, hS.F ht9⟩) hS.2.2 hd C.2.2.2.2.2.1)
        · cases hs
      · cases hs
    · obtain rfl : len = 1 := by simpa [xi_le, xi_ln] using hle
      split at hs
      · split at hs
        · next hr =>
          cases hs
          refine ⟨xi_mo.rf _, fun p e R s m args below meth c D cy base lay c0 w0 C hfr hlo hc0 hw0 hrc hrs H locs ls hP hZ hS hl => ?_⟩
          exact vx_ret (W.vret C.1 C.2.1 (C.2.2.2.2.2.2.1.trans hr) (fun t ht9 hW9 => ⟨none, rfl, rfl, by rw [ht9]; exact hP, by rw [ht9]; exact hZ, hS.F ht9⟩) hS.2.2 hd C.2.2.2.2.2.1)
        · cases hs
      · cases hs
    · next ix =>
      obtain rfl : len = 3 := by simpa [xi_le, xi_ln] using hle
      split at hs
      · next po ho =>
        split at hs
        · next a r =>
          split at hs
          · next hg =>
            cases hs
            refine ⟨xi_mo.rf _, fun p e R s m args below meth c Q D cy base lay c0 w0 C hfr hlo hc0 hw0 hrc hrs k H locs ls hP hZ hS hl => ?_⟩
            have hw := xi_at_mem (xi_all_at ok_oi rfl ho)
            refine W.objInit C.1 C.2.1 C.2.2.2.1 (C.2.2.2.2.1 _ hw) (C.2.2.2.2.1 _ ok_oj.1) (C.2.2.2.2.1 _ ok_oj.2) rfl (by rw [C.2.2.1]; exact hl.1) (a := lay a) (rest := r.map (xi_tv lay)) rfl hd (by omega) ?_ (k H locs ls hP hZ hS hl)
            show 2 * 0 + ((r.map (xi_tv lay)).map fun v => v.category).sum + 12 ≤ R.locals
            rw [xi_cats]
            omega
          · cases hs
        · cases hs
      · split at hs
        · next kd m' po hml =>
          split at hs
          · next hkd =>
            exact xi_call_ok hk (fun mi' r h' q1 q2 q3 q4 => CO _ mi' _ h r h' q1 q2 q3 q4) hml (by rw [if_neg (by omega), if_pos hkd]) hd hs
          · cases hs
        · cases hs
    · next ix =>
      obtain rfl : len = 3 := by simpa [xi_le, xi_ln] using hle
      split at hs
      · next kd m' po hml =>
        split at hs
        · next hkd =>
          exact xi_call_ok hk (fun mi' r h' q1 q2 q3 q4 => CO _ mi' _ h r h' q1 q2 q3 q4) hml (by rw [if_neg (by omega), if_neg (by omega)]) hd hs
        · cases hs
      · cases hs
    · next ix =>
      obtain rfl : len = 3 := by simpa [xi_le, xi_ln] using hle
      split at hs
      · next kd m' po hml =>
        split at hs
        · next hkd =>
          exact xi_call_ok hk (fun mi' r h' q1 q2 q3 q4 => CO _ mi' _ h r h' q1 q2 q3 q4) hml (by rw [if_pos hkd]) hd hs
        · cases hs
      · cases hs
    · next ix =>
      obtain rfl : len = 3 := by simpa [xi_le, xi_ln] using hle
      split at hs
      · next ic E po hv =>
        split at hs
        · next hg =>
          cases hs
          exact xi_throw_ok hk hv hd hg
        · cases hs
      · exact plain hs
    · exact plain hs
theorem xi_entry {l : Launch} (hst : l.stackTraces = false) {d m' : Nat} {mi' : xMi} (hpg : xpg[m']? = some mi') (hm : m' < 177) {av : List Value} (hsl : (lg_sl av).length ≤ xi_mL mi') {h : xHp} {r : Option Value ⊕ Nat} {h' : xHp} (hmo : xi_mo h h') (hS3 : xi_S3 l d mi' (0, lv_args 0 av, []) h r h') : xi_Mt l d mi' av h r h' := by
  intro D cy base lay hlay
  obtain ⟨k1, k2, k3, k4, k5, k6⟩ := ok_mk_at hpg hm
  have body : ∀ (p : Program) (e : Env) (s : State) (m : MethodId) (args : Array Value) (below : List Frame) (meth : Method) (c : Code) (s₁ : State), BodyLoose p l (xi_y mi') (headSpec (xi_ws mi') (xi_rm d (hC h' - hC h) (hW h' - hW h))) (xi_cc mi') (xi_mL mi') (xi_rt mi') e s m args below meth c s₁ → c.maxLocals = xi_mL mi' → c.exceptionTable.toList = tableOf (xi_hh mi') → xi_Pc D cy base lay av h args s →
      W p l e (headSpec (xi_ws mi') (xi_rm d (hC h' - hC h) (hW h' - hW h))).room s m args below meth c s.heap [] 0 0 (vx_MQ below (xi_Qc D cy base lay r h') (xi_XC D cy base lay r h') args s (hC h' - hC h) (hW h' - hW h) (fun q => base ≤ q)) (entryFrame m args (xi_mL mi')) := by
    intro p e s m args below meth c s₁ B hml htab hv
    obtain ⟨rfl, hP, hZ, hG⟩ := hv
    have hts := atoms_spec (ws := xi_ws mi') B.pre
    have C : xi_C p l s m (av.map (xi_tv lay)).toArray meth c mi' D cy base lay (hL h) (hX h) := ⟨B.exec, B.bytes, hml, by rw [← k2]; exact findClass_of_methodNamed B.named, fun w hw => hts w (List.mem_cons_of_mem _ hw), B.notSynchronized, B.returns, (name_of_methodNamed B.named B.method).1, htab, hst, hG, hlay⟩
    have hlv := lv_entry (av.map (xi_tv lay)) (n := xi_mL mi') (by rw [xi_sl]; exact hsl)
    rw [xi_args] at hlv
    rw [lg_entry_eq]
    have hw := hS3 p e (xi_rm d (hC h' - hC h) (hW h' - hW h)) s m (av.map (xi_tv lay)).toArray below meth c D cy base lay (hC h) (hW h) C (Nat.le_refl _) (Nat.le_refl _) (Nat.le_refl _) (Nat.le_refl _) (Nat.le_refl _) (Nat.le_refl _) s.heap [] _ hP hZ va_S.rf hlv
    rw [Nat.sub_self, Nat.sub_self] at hw
    exact hw
  by_cases hh0 : xi_hh mi' = []
  · refine vx_ofW (cc := xi_cc mi') (maxL := xi_mL mi') (ret := xi_rt mi') (ws' := xT) k1 (by unfold xi_ws xi_cw; rw [if_pos hh0]) ?_
    intro p e s m args below meth c s₁ B hml htab hv
    refine body p e s m args below meth c s₁ B hml ?_ hv
    rw [hh0]
    exact List.eq_nil_iff_forall_not_mem.mpr htab
  · have ecw : xi_ws mi' = Cond.codeWith (xi_y mi') (xi_cc mi') (xi_mL mi') (xi_rt mi') (xi_hh mi') :: xT := by
      unfold xi_ws xi_cw
      rw [if_neg hh0]
    refine vx_ofWH (cc := xi_cc mi') (maxL := xi_mL mi') (ret := xi_rt mi') (hh := xi_hh mi') (ws' := xT) k1 ecw ?_
    intro p e s m args below meth c s₁ B hml hv
    refine body p e s m args below meth c s₁ B hml ?_ hv
    exact vx_table (x := xi_y mi') B (atoms_spec (ws := xi_ws mi') B.pre _ (by rw [ecw]; exact List.mem_cons_self))
/-- THE SMALL MACHINE IS SOUND: what it runs, the machine does -/
theorem xi_run_ok {l : Launch} (hst : l.stackTraces = false) : ∀ (n d m : Nat) (mi : xMi) (fr : xFr) (h : xHp) (r : Option Value ⊕ Nat) (h' : xHp), xpg[m]? = some mi → xi_run n d m fr h = some (r, h') → xi_mo h h' ∧ xi_S3 l d mi fr h r h' := by
  intro n
  induction n with
  | zero =>
    intro d m mi fr h r h' hpg hs
    cases hs
  | succ n ih =>
    intro d m mi fr h r h' hpg hs
    unfold xi_run at hs
    rw [hpg] at hs
    dsimp only at hs
    have hk := ok_pg mi (List.mem_of_getElem? hpg)
    have key : ∀ cf : Nat → List Value → xHp → Option xRs, (∀ m' av h1 x, cf m' av h1 = some x → ∃ d', d = d' + 1 ∧ xi_run n d' m' (0, lv_args 0 av, []) h1 = some x) → xi_CO l d cf := by
      intro cf hcf m' mi' av h2 r2 h2' hpg' hm' hsl hc
      obtain ⟨d', e1, e2⟩ := hcf _ _ _ _ hc
      obtain ⟨a1, a2⟩ := ih d' m' mi' _ _ _ _ hpg' e2
      exact ⟨a1, d', e1, xi_entry hst hpg' hm' hsl a1 a2⟩
    split at hs
    · cases hs
    · next fr' h1 hst1 =>
      obtain ⟨a1, a2⟩ : xi_mo h h1 ∧ xi_S2 l d mi fr h fr' h1 := xi_st_ok hk (key _ (fun m' av h9 x hx => by cases d with | zero => cases hx | succ d' => exact ⟨d', rfl, hx⟩)) hst1
      obtain ⟨b1, b2⟩ := ih d m mi fr' h1 r h' hpg hs
      refine ⟨a1.tr b1, fun p e R s m args below meth c D cy base lay c0 w0 C hfr hlo hc0 hw0 hrc hrs => ?_⟩
      obtain ⟨m1, m2, m3, m4⟩ := a1
      obtain ⟨n1, n2, n3, n4⟩ := b1
      exact a2 p e R s m args below meth c _ D cy base lay c0 w0 C hfr hlo hc0 hw0 (by omega) (by omega) (b2 p e R s m args below meth c D cy base lay c0 w0 (by rw [m3, m4]; exact C) hfr hlo (by omega) (by omega) hrc hrs)
    · next rr hst1 =>
      cases hs
      exact xi_st_ok hk (key _ (fun m' av h9 x hx => by cases d with | zero => cases hx | succ d' => exact ⟨d', rfl, hx⟩)) hst1
end
section
/-! the heap behind the constructors -/
def xi_KK (i : Nat) : Nat × Nat :=
  if i < 47 then (if i = 0 then (6, 0) else if i = 1 then (4, 0) else if i = 2 then (11, 20) else if i % 2 = 1 then (0, 0) else (8, 14))
  else if i < 120 then (if i = 47 then (14, 4) else if (i - 48) % 18 = 0 then (3, 0) else if (i - 48) % 18 = 1 then (13, 4) else if ((i - 48) % 18 - 2) % 4 = 0 then (2, 0) else if ((i - 48) % 18 - 2) % 4 = 1 then (8, 4) else if ((i - 48) % 18 - 2) % 4 = 2 then (9, 3) else (8, 3))
  else if i < 165 then (if i = 120 then (12, 4) else [(1, 0), (8, 3), (16, 3), (8, 4), (8, 4), (8, 4), (15, 3), (8, 7), (5, 0), (5, 0), (5, 0)].getD ((i - 121) % 11) (0, 0))
  else if i = 165 then (7, 0) else [(8, 380), (8, 4), (8, 4), (8, 12), (8, 48), (8, 4), (8, 4), (8, 12), (8, 12), (8, 12), (8, 4), (8, 28), (8, 5), (8, 5), (9, 16), (8, 16), (8, 16), (8, 16), (8, 64), (9, 48), (8, 48), (8, 14), (8, 4), (10, 1)].getD (i - 166) (0, 0)
/-- the references that never change; those of the row of cells, and what is in hand, at the start -/
def xi_RR (i j : Nat) : Option Nat :=
  if i < 47 then (if i = 0 then [some 1, some 47, some 120].getD j none else if i = 1 then [some 2, none, none, some 3, some 5].getD j none else if i = 2 then (if j < 20 then some (7 + 2 * j) else none) else if i % 2 = 1 then (if j = 0 then some (i + 1) else none) else none)
  else if i < 120 then (if i = 47 then (if j < 4 then some (48 + 18 * j) else none) else if (i - 48) % 18 = 0 then [some (i + 1), none, none, some 1].getD j none else if (i - 48) % 18 = 1 then (if j < 4 then some (i + 1 + 4 * j) else none) else if ((i - 48) % 18 - 2) % 4 = 0 then [some (i + 1), some (i + 2), none, none, none, none, some (i + 3), none, none, some 1].getD j none else none)
  else if i < 165 then (if i = 120 then (if j < 4 then some (121 + 11 * j) else none) else if (i - 121) % 11 = 0 then [some (i + 1), some (i + 2), some (i + 6), some (i + 7), none, none, none, none, none, none, some 1, some 47].getD j none else if (i - 121) % 11 = 2 then (if j < 3 then some (i + 1 + j) else none) else if (i - 121) % 11 = 6 then (if j < 3 then some (i + 2 + j) else none) else none)
  else if i = 165 then [none, none, some 166, none, none, none, some 167, some 168, some 169, some 170, some 171, some 172, some 173, some 174, some 175, some 176, some 177, some 178, some 179, some 180, some 181, some 182, some 183, some 184, some 185, some 186, some 187, none, none, some 188].getD j none
  else none
def xi_II (i j : Nat) : Int32 :=
  if i < 48 then 0
  else if i < 120 then (if (i - 48) % 18 = 0 then [0, [8640, 21181, 3687, 12474].getD ((i - 48) / 18) 0, [1, 2, 3, 4].getD ((i - 48) / 18) 0, 0, [1000, 2000, 3000, 4000].getD ((i - 48) / 18) 0, 0].getD j 0 else if (i - 48) % 18 = 1 then 0 else if ((i - 48) % 18 - 2) % 4 = 0 then [0, 0, 0, -1, -1, -1, 0, [1, 2, 3, 4].getD ((i - 48) / 18) 0, [0, 1, 2, 3].getD (((i - 48) % 18 - 2) / 4) 0, 0].getD j 0 else 0)
  else if i < 165 then (if i = 120 then 0 else if (i - 121) % 11 = 0 then [0, 0, 0, 0, 0, 0, 0, -1, 0, [0, 1, 2, 3].getD ((i - 121) / 11) 0, 0, 0].getD j 0 else 0)
  else if i = 171 then (if j < 4 then -1 else 0)
  else if i = 178 then [0, 1000, 2000, 3000, 4000].getD j 0
  else if i = 181 ∨ i = 182 ∨ i = 183 then (if j < 16 then -1 else 0)
  else 0
def xi_hn (N C W L : Nat) (xs : Nat → Int32) : xHp := ((false, N, C, W, L, xs), xi_KK, xi_II, fun _ _ => 0, xi_RR)
def xi_wd (k : Nat × Nat) : Nat := if k.1 < 8 then xi_nf k.1 else k.2
def xi_agr (a b : xHp) : Bool := decide (hF a = hF b) && decide (hN a = hN b) && decide (hC a = hC b) && decide (hW a = hW b) && (List.range (hN b)).all (fun i => decide (hK a i = hK b i) && (List.range (xi_wd (hK b i))).all (fun j => decide (hI a i j = hI b i j) && decide (hJ a i j = hJ b i j) && decide (hR a i j = hR b i j)))
def xi_agr0 (r : Option xRs) (b : xHp) : Bool := match r with
  | some (.inl none, a) => xi_agr a b
  | _ => false
theorem xi_arr_cg {c : ClassId} {n : Nat} {f g : Nat → Value} (h : ∀ j, j < n → f j = g j) : arrV c n f = arrV c n g := by
  unfold arrV
  congr 2
  funext j
  exact h j.val j.isLt
theorem xi_agr_P {D : va_G} {cy : Nat → ClassId} {lay : Nat → Nat} {a b : xHp} {H : Heap} (h : xi_agr a b = true) (hP : xi_P D cy lay a H) : xi_P D cy lay b H := by
  unfold xi_agr at h
  simp only [Bool.and_eq_true, decide_eq_true_eq] at h
  obtain ⟨⟨⟨⟨h1, h2⟩, h3⟩, h4⟩, h5⟩ := h
  intro i hi
  have h6 := List.all_eq_true.mp h5 i (List.mem_range.mpr hi)
  simp only [Bool.and_eq_true, decide_eq_true_eq] at h6
  obtain ⟨hk, h7⟩ := h6
  have h8 : ∀ j, j < xi_wd (hK b i) → hI a i j = hI b i j ∧ hJ a i j = hJ b i j ∧ hR a i j = hR b i j := fun j hj => by
    have h9 := List.all_eq_true.mp h7 j (List.mem_range.mpr hj)
    simp only [Bool.and_eq_true, decide_eq_true_eq] at h9
    exact ⟨h9.1.1, h9.1.2, h9.2⟩
  have hat := hP i (by rw [h2]; exact hi)
  unfold xi_wd at h8
  by_cases q1 : (hK b i).1 < 8
  · rw [if_pos q1] at h8
    rw [xi_en_o (by rw [hk]) q1] at hat
    rw [xi_en_o rfl q1]
    rw [show (List.range (xi_nf (hK b i).1)).map (xi_ev lay b i (hK b i).1) = (List.range (xi_nf (hK b i).1)).map (xi_ev lay a i (hK b i).1) from List.map_congr_left (fun j hj => by
      obtain ⟨e1, -, e3⟩ := h8 j (List.mem_range.mp hj)
      unfold xi_ev
      rw [e1, e3])]
    exact hat
  · rw [if_neg q1] at h8
    by_cases q2 : (hK b i).1 < 10
    · rw [xi_en_i (k := (hK b i).1) (by rw [hk]) (by omega) q2, hk] at hat
      rw [xi_en_i rfl (by omega) q2]
      have e : H[lay i]? = some (vp_cell _ _) := hat
      show H[lay i]? = some (vp_cell _ _)
      rw [e, vp_cell_i, vp_cell_i, xi_arr_cg (fun j hj => by rw [(h8 j hj).1])]
    · by_cases q3 : (hK b i).1 = 10
      · rw [xi_en_j (by rw [hk]; exact q3), hk] at hat
        rw [xi_en_j q3]
        have e : H[lay i]? = some (vp_cell _ _) := hat
        show H[lay i]? = some (vp_cell _ _)
        rw [e, vp_cell_l, vp_cell_l, xi_arr_cg (fun j hj => by rw [(h8 j hj).2.1])]
      · rw [xi_en_r (k := (hK b i).1) (by rw [hk]) (by omega), hk] at hat
        rw [xi_en_r rfl (by omega)]
        have e : H[lay i]? = some (vp_cell _ _) := hat
        show H[lay i]? = some (vp_cell _ _)
        rw [e, vp_cell_q, vp_cell_q, xi_arr_cg (fun j hj => by rw [(h8 j hj).2.2])]
theorem xi_agr_Z {base : Nat} {a b : xHp} {H : Heap} (h : xi_agr a b = true) (hZ : xi_Z base a H) : xi_Z base b H := by
  unfold xi_agr at h
  simp only [Bool.and_eq_true, decide_eq_true_eq] at h
  obtain ⟨⟨⟨⟨h1, h2⟩, h3⟩, h4⟩, h5⟩ := h
  unfold xi_Z at hZ ⊢
  rw [← h1, ← h2]
  exact hZ
theorem xi_vm {l : Launch} {y : MethodName} {ws : List Cond} {rm : Room} {Pc Pc' : Array Value → State → Prop} {Qc Qc' : Array Value → State → Outcome → State → Prop} {XC XC' : String → State → State → Prop} {mc ms : Nat} {free : Addr → Prop} (h : vx_Met l y ws rm Pc Qc XC mc ms free) (hP : ∀ a U, Pc' a U → Pc a U) (hQ : ∀ a st o t, Qc a st o t → Qc' a st o t) (hX : ∀ E st t, XC E st t → XC' E st t) : vx_Met l y ws rm Pc' Qc' XC' mc ms free := by
  intro p e ha hc hk s m args below hf happ hp hK
  obtain ⟨n, o, h1, h2, h3, hq⟩ := h p e ha hc hk s m args below hf happ (hP _ _ hp) hK
  refine ⟨n, o, h1, h2, h3, ?_⟩
  rcases hq with ⟨q1, q2⟩ | ⟨q, e1, E, ce, L, x1, x2⟩
  · exact Or.inl ⟨hQ _ _ _ _ q1, q2⟩
  · exact Or.inr ⟨q, e1, E, ce, L, hX _ _ _ x1, x2⟩
def xi_sc (L : Nat) (xs : Nat → Int32) (h : xHp) : xHp := ((hF h, hN h, hC h, hW h, L, xs), h.2)
/-- a contract found with no script known holds with one; and its heap may be told otherwise -/
theorem xi_Mt_sc {l : Launch} {d : Nat} {mi : xMi} {av : List Value} {h : xHp} {r : Option Value ⊕ Nat} {h' n : xHp} (L : Nat) (xs : Nat → Int32) (hM : xi_Mt l d mi av h r h') (h0 : hL h = 0) (ha : xi_agr h' n = true) : xi_Mt l d mi av (xi_sc L xs h) r (xi_sc L xs n) := by
  intro D cy base lay hlay
  have hc : hC h' = hC n ∧ hW h' = hW n := by
    unfold xi_agr at ha
    simp only [Bool.and_eq_true, decide_eq_true_eq] at ha
    exact ⟨ha.1.1.2, ha.1.2⟩
  have h1 := hM D cy base lay hlay
  rw [hc.1, hc.2] at h1
  refine xi_vm h1 (fun a U q => ?_) (fun a st o t q => ?_) (fun E st t q => ?_)
  · obtain ⟨q1, q2, q3, g1, g2, g3, g4, g5, g6, g7⟩ := q
    exact ⟨q1, q2, q3, g1, g2, g3, g4, fun hp => absurd hp (by rw [h0]; omega), g6, g7⟩
  · obtain ⟨v, q1, q2, q3, q4, q5⟩ := q
    exact ⟨v, q1, q2, xi_agr_P ha q3, xi_agr_Z ha q4, q5⟩
  · obtain ⟨k, q1, q2, q3, q4, q5⟩ := q
    exact ⟨k, q1, q2, xi_agr_P ha q3, xi_agr_Z ha q4, q5⟩
/-! the two constructors, run -/
def xi_hA : xHp := xi_nw xi_h0 6 0 5
def xi_nA : xHp := xi_hn 165 165 1034 0 (fun _ => 0)
def xi_hB : xHp := xi_nw xi_nA 7 0 30
def xi_nB : xHp := xi_hn 189 189 1840 0 (fun _ => 0)
set_option maxRecDepth 100000 in
theorem run_A : xi_agr0 (xi_run 5000 11 72 (0, lv_args 0 [.ref 0], []) xi_hA) xi_nA = true := by decide +kernel
set_option maxRecDepth 100000 in
theorem run_B : xi_agr0 (xi_run 5000 11 101 (0, lv_args 0 [.ref 165], []) xi_hB) xi_nB = true := by decide +kernel
theorem xi_agr0_sp {r : Option xRs} {b : xHp} (h : xi_agr0 r b = true) : ∃ a, r = some (.inl none, a) ∧ xi_agr a b = true := by
  unfold xi_agr0 at h
  split at h
  · exact ⟨_, rfl, h⟩
  · cases h
end
section
theorem xi_hn_sc (N C W L L' : Nat) (xs xs' : Nat → Int32) : xi_sc L xs (xi_hn N C W L' xs') = xi_hn N C W L xs := rfl
/-- the law's way from its entry to its loop -/
theorem xi_head {l : Launch} (hst : l.stackTraces = false) (L : Nat) (xs : Nat → Int32) {p : Program} {e : Env} {R : Room} {s : State} {m : MethodId} {args : Array Value} {below : List Frame} {meth : Method} {c : Code} {Q : State → Prop} {D : va_G} {cy : Nat → ClassId} {base : Nat} {lay : Nat → Nat}
    (C : xi_C p l s m args meth c mi_L_law D cy base lay L xs) (hfr : 12 ≤ R.frames) (hlo : 36 * 12 ≤ R.locals) (hrc : 190 ≤ R.cells) (hrs : 1841 ≤ R.slots)
    (k : xi_W p l e R s m args below meth c mi_L_law D cy base lay 0 0 Q (23, [(4, .int 0), (3, .ref 189), (2, .ref 165), (1, .ref 0), (0, .ref xi_scr)], []) (xi_hn 190 190 1841 L xs)) :
    xi_W p l e R s m args below meth c mi_L_law D cy base lay 0 0 Q (0, [(0, .ref xi_scr)], []) (xi_sc L xs xi_h0) := by
  have hk : xi_tbk mi_L_law = true := ok_tb_L_law
  have step : ∀ (fr : xFr) (h : xHp) (fr' : xFr) (h' : xHp), xi_st 12 (fun _ _ _ => none) mi_L_law fr h = some (.inl (fr', h')) → hL h = L → hX h = xs → hC h' ≤ 190 → hW h' ≤ 1841 → xi_W p l e R s m args below meth c mi_L_law D cy base lay 0 0 Q fr' h' → xi_W p l e R s m args below meth c mi_L_law D cy base lay 0 0 Q fr h := by
    intro fr h fr' h' hs e1 e2 e3 e4 k
    obtain ⟨-, a2⟩ : xi_mo h h' ∧ xi_S2 l 12 mi_L_law fr h fr' h' := xi_st_ok hk (fun _ _ _ _ _ _ _ _ _ q => by cases q) hs
    exact a2 p e R s m args below meth c Q D cy base lay 0 0 (by rw [e1, e2]; exact C) hfr hlo (Nat.zero_le _) (Nat.zero_le _) (by omega) (by omega) k
  have call : ∀ (pc ix m' po : Nat) (lv : List (Nat × Value)) (a : Nat) (h h1 : xHp) (mi' : xMi), xpg[m']? = some mi' → xi_a (xml.getD 9 []) ix = some (3, m', po) → decode cL_law pc = .ok (.invokespecial ix, 3) → xi_na mi' = 1 → xi_mo h h1 → xi_Mt l 11 mi' [.ref a] h (.inl none) h1 → xi_call (fun _ _ _ => some (.inl none, h1)) mi_L_law pc lv [.ref a, .ref a] h 3 m' = some (.inl ((pc + 3, lv, [.ref a]), h1)) → hL h = L → hX h = xs → hC h1 ≤ 190 → hW h1 ≤ 1841 →
      xi_W p l e R s m args below meth c mi_L_law D cy base lay 0 0 Q (pc + 3, lv, [.ref a]) h1 → xi_W p l e R s m args below meth c mi_L_law D cy base lay 0 0 Q (pc, lv, [.ref a, .ref a]) h := by
    intro pc ix m' po lv a h h1 mi' hpg hml hd hna hmo hM hcl e1 e2 e3 e4 k
    obtain ⟨-, a2⟩ : xi_mo h h1 ∧ xi_S2 l 12 mi_L_law (pc, lv, [.ref a, .ref a]) h (pc + 3, lv, [.ref a]) h1 := xi_call_ok (d := 12) hk (fun mi9 r9 h9 q1 _ _ q4 => by
      cases q4
      cases Option.some.inj (hpg.symm.trans q1)
      refine ⟨hmo, 11, rfl, ?_⟩
      rw [hna]
      exact hM) hml rfl hd hcl
    exact a2 p e R s m args below meth c Q D cy base lay 0 0 (by rw [e1, e2]; exact C) hfr hlo (Nat.zero_le _) (Nat.zero_le _) (by omega) (by omega) k
  obtain ⟨hA1, rA, aA⟩ := xi_agr0_sp run_A
  obtain ⟨hB1, rB, aB⟩ := xi_agr0_sp run_B
  obtain ⟨moA, sA⟩ := xi_run_ok hst 5000 11 72 mi_X7_init _ _ _ _ rfl rA
  obtain ⟨moB, sB⟩ := xi_run_ok hst 5000 11 101 mi_X8_init _ _ _ _ rfl rB
  have mA := xi_Mt_sc L xs (xi_entry hst (m' := 72) (mi' := mi_X7_init) rfl (by decide) (av := [.ref 0]) (by decide) moA sA) rfl aA
  have mB := xi_Mt_sc L xs (xi_entry hst (m' := 101) (mi' := mi_X8_init) rfl (by decide) (av := [.ref 165]) (by decide) moB sB) rfl aB
  refine step _ _ (3, [(0, .ref xi_scr)], [.ref 0]) (xi_sc L xs xi_hA) rfl rfl rfl (Nat.le_of_ble_eq_true rfl) (Nat.le_of_ble_eq_true rfl) ?_
  refine step _ _ (4, [(0, .ref xi_scr)], [.ref 0, .ref 0]) (xi_sc L xs xi_hA) rfl rfl rfl (Nat.le_of_ble_eq_true rfl) (Nat.le_of_ble_eq_true rfl) ?_
  refine call 4 72 72 _ _ 0 _ (xi_sc L xs xi_nA) mi_X7_init rfl rfl (xi_tb_at hk (pc := 4) (i := .invokespecial 72) (len := 3) rfl).1 rfl ⟨Nat.le_of_ble_eq_true rfl, Nat.le_of_ble_eq_true rfl, rfl, rfl⟩ mA rfl rfl rfl (Nat.le_of_ble_eq_true rfl) (Nat.le_of_ble_eq_true rfl) ?_
  refine step _ _ (8, [(1, .ref 0), (0, .ref xi_scr)], []) (xi_sc L xs xi_nA) rfl rfl rfl (Nat.le_of_ble_eq_true rfl) (Nat.le_of_ble_eq_true rfl) ?_
  refine step _ _ (11, [(1, .ref 0), (0, .ref xi_scr)], [.ref 165]) (xi_sc L xs xi_hB) rfl rfl rfl (Nat.le_of_ble_eq_true rfl) (Nat.le_of_ble_eq_true rfl) ?_
  refine step _ _ (12, [(1, .ref 0), (0, .ref xi_scr)], [.ref 165, .ref 165]) (xi_sc L xs xi_hB) rfl rfl rfl (Nat.le_of_ble_eq_true rfl) (Nat.le_of_ble_eq_true rfl) ?_
  refine call 12 75 101 _ _ 165 _ (xi_sc L xs xi_nB) mi_X8_init rfl rfl (xi_tb_at hk (pc := 12) (i := .invokespecial 75) (len := 3) rfl).1 rfl ⟨Nat.le_of_ble_eq_true rfl, Nat.le_of_ble_eq_true rfl, rfl, rfl⟩ mB rfl rfl rfl (Nat.le_of_ble_eq_true rfl) (Nat.le_of_ble_eq_true rfl) ?_
  refine step _ _ (16, [(2, .ref 165), (1, .ref 0), (0, .ref xi_scr)], []) (xi_sc L xs xi_nB) rfl rfl rfl (Nat.le_of_ble_eq_true rfl) (Nat.le_of_ble_eq_true rfl) ?_
  refine step _ _ (17, [(2, .ref 165), (1, .ref 0), (0, .ref xi_scr)], [.int 1]) (xi_sc L xs xi_nB) rfl rfl rfl (Nat.le_of_ble_eq_true rfl) (Nat.le_of_ble_eq_true rfl) ?_
  refine step _ _ (19, [(2, .ref 165), (1, .ref 0), (0, .ref xi_scr)], [.ref 189]) (xi_nw (xi_sc L xs xi_nB) 10 1 1) rfl rfl rfl (Nat.le_of_ble_eq_true rfl) (Nat.le_of_ble_eq_true rfl) ?_
  refine step _ _ (20, [(3, .ref 189), (2, .ref 165), (1, .ref 0), (0, .ref xi_scr)], []) (xi_nw (xi_sc L xs xi_nB) 10 1 1) rfl rfl rfl (Nat.le_of_ble_eq_true rfl) (Nat.le_of_ble_eq_true rfl) ?_
  refine step _ _ (21, [(3, .ref 189), (2, .ref 165), (1, .ref 0), (0, .ref xi_scr)], [.int 0]) (xi_nw (xi_sc L xs xi_nB) 10 1 1) rfl rfl rfl (Nat.le_of_ble_eq_true rfl) (Nat.le_of_ble_eq_true rfl) ?_
  refine step _ _ (23, [(4, .int 0), (3, .ref 189), (2, .ref 165), (1, .ref 0), (0, .ref xi_scr)], []) (xi_nw (xi_sc L xs xi_nB) 10 1 1) rfl rfl rfl (Nat.le_of_ble_eq_true rfl) (Nat.le_of_ble_eq_true rfl) ?_
  have eH : xi_nw (xi_sc L xs xi_nB) 10 1 1 = xi_hn 190 190 1841 L xs := by
    refine Prod.ext rfl (Prod.ext ?_ (Prod.ext ?_ (Prod.ext ?_ ?_)))
    · funext i
      show (if i = 189 then ((10, 1) : Nat × Nat) else xi_KK i) = xi_KK i
      by_cases h : i = 189
      · subst h
        decide
      · rw [if_neg h]
    · funext i j
      show (if i = 189 then (0 : Int32) else xi_II i j) = xi_II i j
      by_cases h : i = 189
      · subst h
        rfl
      · rw [if_neg h]
    · funext i j
      show (if i = 189 then (0 : Int64) else 0) = 0
      by_cases h : i = 189
      · rw [if_pos h]
      · rw [if_neg h]
    · funext i j
      show (if i = 189 then none else xi_RR i j) = xi_RR i j
      by_cases h : i = 189
      · subst h
        rfl
      · rw [if_neg h]
  rw [eH]
  exact k
end
section
/-! THE CLAIM OUT OF ONE WALK OF THE LAW'S BODY. Your part is whole_start (and what it stands on); all else here is the same for every law, but numbers. -/
def R_law : String := "OnionCellsLaw"
def lw_P (b : Addr) (xs : List Int32) (args : Array Value) (s : State) : Prop := args = #[.ref b] ∧ s.IntsAt b xs ∧ xs.length ≤ 2560 ∧ (Jvm.Cond.and given_1 narrow_1).before args s = true
def lw_Q (_ : Array Value) (s : State) (o : Outcome) (t : State) : Prop := o = .returned (some (.int 1)) ∧ Framed s o t [] 632981 7197160
def lw_Z (below : List Frame) (a : Array Value) (s : State) : State → Prop := fun t => ∃ o, t.status = .running ∧ Ended t below o ∧ lw_Q a s o t
/-- what holds at the law's entry: the machine, the code, the tables' words (any of lw_tbl by 'hts w (by decide +kernel)'), the script of L ints xs at the cell b, what the Statement gives of the start (any of its parts by flat_of_before) -/
def lw_At (p : Program) (s : State) (m : MethodId) (meth : Method) (c : Code) (b L : Nat) (xs : Nat → Int32) : Prop :=
  p.tables.exec = Jvm.exec ∧ c.code = code ∧ meth.sig.returnType = ret ∧ c.maxLocals = 9 ∧ s.vm.findClass R_law = some m.cls ∧ (∀ w ∈ lw_tbl, w.before #[Value.ref b] s = true) ∧ va_X b L xs s s.heap ∧ b < s.heap.size ∧ meth.locks = false ∧ (Jvm.Cond.and given_1 narrow_1).before #[Value.ref b] s = true ∧ meth.name = "law" ∧ c.exceptionTable.toList = []

theorem xk_ac {ty : FieldType} {args : Array Value} {s : State} (h : (Cond.arrayClass ty).before args s = true) : ∃ cA, ArrOfT s cA ty ∧ s.vm.findClass ("[" ++ ty.toString) = some cA := by
  obtain ⟨c, k, comp, h1, h2, h3⟩ := Cond.arrayClass_spec h
  exact ⟨c, fun N z => ⟨(fun k h => by cases h), k, h2, comp, h3⟩, h1⟩
theorem xk_ao {C : String} {s : State} (h : va_AO C s) : ∃ cA, ArrOfT s cA (.object C) ∧ va_RA s cA (.object C) := by
  obtain ⟨comp, c, k, h1, h2, h3, h4, h5⟩ := Cond.arrayOver_spec h
  exact ⟨c, fun N z => ⟨(fun k h => by cases h), k, h3, comp, h4⟩, ⟨k, comp, h3, h4, h1, h5⟩⟩
theorem xk_aa {s : State} (h : xi_AOA s) : ∃ cA, ArrOfT s cA (.array .int) ∧ va_RA s cA (.array .int) := by
  obtain ⟨comp, c, k, h1, h3, h4, h5⟩ := Cond.arrayOver_specA h
  exact ⟨c, fun N z => ⟨(fun k h => by cases h), k, h3, comp, h4⟩, h5⟩
theorem xk_all {P : Nat → Prop} : (∀ c, c < 8 → P c) → True := fun _ => trivial
set_option maxRecDepth 20000 in
theorem xi_whole {p : Program} {l : Launch} (hst : l.stackTraces = false) {e : Env} {s : State} {m : MethodId} {below : List Frame} {meth : Method} {c : Code} {b L : Nat} {xs : Nat → Int32} (C0 : lw_At p s m meth c b L xs)
    (hr : ∃ (n : Nat) (h' : xHp), xi_run n 12 177 (23, [(4, .int 0), (3, .ref 189), (2, .ref 165), (1, .ref 0), (0, .ref xi_scr)], []) (xi_hn 190 190 1841 (L + 1) xs) = some (.inl (some (.int 1)), h') ∧ hC h' ≤ 632981 ∧ hW h' ≤ 7197160) :
    W p l e room_1 s m #[Value.ref b] below meth c s.heap [] 0 0 (lw_Z below #[Value.ref b] s) (entryFrame m ([Value.ref b] : List Value).toArray 9) := by
  obtain ⟨hx, hb, hrt, hml, hown, hts, hX, hbl, hlocks, hgv, hnm, htab⟩ := C0
  have hT : ∀ w ∈ xT, w.before #[Value.ref b] s = true := fun w hw => hts w (List.mem_filter.mp hw).1
  have hcw : ∀ c, c < 8 → (Cond.instantiable (xi_cls c) (xi_nf c)).before #[Value.ref b] s = true := fun c hc => by
    have h9 := List.all_eq_true.mp ok_cw c (List.mem_range.mpr hc)
    rw [Bool.and_eq_true] at h9
    exact hT _ (xi_at_mem h9.1)
  have hk : ∀ c, c < 8 → ∃ (cC : ClassId) (iS : Nat → Nat), u_Kn s (xi_cls c) (xi_T c) (xi_nf c) cC iS := fun c hc => u_known hT (ok_ci c hc) (hcw c hc)
  obtain ⟨dC, dI, hD⟩ : ∃ (dC : Nat → ClassId) (dI : Nat → Nat → Nat), ∀ c, c < 8 → u_Kn s (xi_cls c) (xi_T c) (xi_nf c) (dC c) (dI c) :=
    ⟨fun c => if h : c < 8 then Classical.choose (hk c h) else 0, fun c => if h : c < 8 then Classical.choose (Classical.choose_spec (hk c h)) else fun _ => 0, fun c hc => by simp only [dif_pos hc]; exact Classical.choose_spec (Classical.choose_spec (hk c hc))⟩
  have o1 : va_AO RX1 s := va_AO.of (hts _ (by decide +kernel))
  have o2 : va_AO RX2 s := va_AO.of (hts _ (by decide +kernel))
  have o3 : va_AO RX3 s := va_AO.of (hts _ (by decide +kernel))
  have o4 : va_AO RX4 s := va_AO.of (hts _ (by decide +kernel))
  have o5 : va_AO RX6 s := va_AO.of (hts _ (by decide +kernel))
  have o6 : xi_AOA s := hts (.arrayOver (.array .int)) (by decide +kernel)
  obtain ⟨c0, a0, b0⟩ := xk_ac (hT _ ok_ai)
  obtain ⟨c1, a1, b1⟩ := xk_ac (hT _ ok_az)
  obtain ⟨c2, a2, b2⟩ := xk_ac (hT _ ok_aj)
  obtain ⟨c3, a3, b3⟩ := xk_ao o1
  obtain ⟨c4, a4, b4⟩ := xk_ao o2
  obtain ⟨c5, a5, b5⟩ := xk_ao o3
  obtain ⟨c6, a6, b6⟩ := xk_ao o4
  obtain ⟨c7, a7, b7⟩ := xk_ao o5
  obtain ⟨c8, a8, b8⟩ := xk_aa o6
  obtain ⟨cy, hcy⟩ : ∃ cy : Nat → ClassId, xi_tl cy = [(c0, .int), (c1, .boolean), (c2, .long), (c3, .object RX1), (c4, .object RX2), (c5, .object RX3), (c6, .object RX4), (c7, .object RX6), (c8, .array .int)] := ⟨fun k => [c0, c1, c2, c3, c4, c5, c6, c7, c8].getD k 0, rfl⟩
  have hK : va_K (dC, dI) vwCl (xi_tl cy) s := by
    refine ⟨fun k q hq => ?_, fun k q hq => ?_⟩
    · have hk8 : k < 8 := (List.getElem?_eq_some_iff.mp hq).1
      have e9 := (ok_cu k hk8).symm.trans hq
      cases e9
      exact hD k hk8
    · rw [hcy] at hq
      have hk9 : k < 9 := (List.getElem?_eq_some_iff.mp hq).1
      rcases (show k = 0 ∨ k = 1 ∨ k = 2 ∨ k = 3 ∨ k = 4 ∨ k = 5 ∨ k = 6 ∨ k = 7 ∨ k = 8 by omega) with rfl | rfl | rfl | rfl | rfl | rfl | rfl | rfl | rfl <;> cases hq
      · exact ⟨a0, b0⟩
      · exact ⟨a1, b1⟩
      · exact ⟨a2, b2⟩
      · exact ⟨a3, b3⟩
      · exact ⟨a4, b4⟩
      · exact ⟨a5, b5⟩
      · exact ⟨a6, b6⟩
      · exact ⟨a7, b7⟩
      · exact ⟨a8, b8⟩
  have hs := flat_of_before _ hgv
  have hNc : ∀ i, i < 3 → ∀ j, j < 3 → i ≠ j → va_Nc (xi_E i) (xi_E j) s := by
    intro i hi j hj hij
    rcases (show i = 0 ∨ i = 1 ∨ i = 2 by omega) with rfl | rfl | rfl <;> rcases (show j = 0 ∨ j = 1 ∨ j = 2 by omega) with rfl | rfl | rfl <;> first | exact absurd rfl hij | exact va_Nc.of (hs _ (by decide +kernel))
  have hA : ∀ a : Nat, a < s.heap.size → ¬ (fun q => s.heap.size ≤ q) a := fun a h9 => Nat.not_le.mpr h9
  have hZ1 : vx_Zq Bundle.tN "UNASSIGNED_STACK" Bundle.steD (fun q => s.heap.size ≤ q) s s.heap := vx_Zqof (args := #[Value.ref b]) (hts _ (by decide +kernel)) (hts _ (by decide +kernel)) (hs _ (by decide +kernel)) hA
  have hZ2 : vx_Zq Bundle.tN "SUPPRESSED_SENTINEL" Bundle.listD (fun q => s.heap.size ≤ q) s s.heap := vx_Zqof (args := #[Value.ref b]) (hts _ (by decide +kernel)) (hts _ (by decide +kernel)) (hs _ (by decide +kernel)) hA
  obtain ⟨lay, hlay, hscr⟩ : ∃ lay : Nat → Nat, xi_lay s.heap.size lay ∧ lay xi_scr = b := ⟨fun i => if i < 900000 then s.heap.size + i else b, fun i hi => if_pos hi, rfl⟩
  have C : xi_C p l s m #[Value.ref b] meth c mi_L_law (dC, dI) cy s.heap.size lay (L + 1) xs := ⟨hx, hb, hml, hown, hT, hlocks, hrt, hnm, htab, hst, ⟨hK, ⟨o1, o2, o3, o4, o5, o6⟩, hNc, ⟨hZ1, hZ2⟩, fun _ => by rw [hscr]; exact hX, by rw [hscr]; exact hbl, Nat.le_refl _⟩, hlay⟩
  obtain ⟨n, h', hrun, hc9, hw9⟩ := hr
  have k1 := (xi_run_ok hst n 12 177 mi_L_law _ _ _ _ rfl hrun).2 p e room_1 s m #[Value.ref b] below meth c (dC, dI) cy s.heap.size lay 0 0 C (Nat.le_of_ble_eq_true rfl) (Nat.le_of_ble_eq_true rfl) (Nat.zero_le _) (Nat.zero_le _) hc9 hw9
  have k2 := xi_head hst (L + 1) xs C (Nat.le_of_ble_eq_true rfl) (Nat.le_of_ble_eq_true rfl) (Nat.le_of_ble_eq_true rfl) (Nat.le_of_ble_eq_true rfl) k1
  have hlv := lv_entry ([Value.ref b]) (n := 9) (Nat.le_of_ble_eq_true rfl)
  rw [lg_entry_eq]
  have k3 := k2 s.heap [] _ (fun i hi => absurd hi (Nat.not_lt_zero _)) ⟨fun _ => rfl, Nat.le_refl _, Nat.zero_le _⟩ va_S.rf (by show lv_has _ 9 [(0, Value.ref (lay xi_scr))]; rw [hscr]; exact hlv)
  intro T hT9 X
  obtain ⟨t, s1, o, t1, t2, t3⟩ := k3 T hT9 X
  refine ⟨t, s1, o, t1, t2, ?_⟩
  rcases t3 with ⟨⟨v, q1, q2, -⟩, L9, q3, q4⟩ | ⟨q, -, E, ce, L9, ⟨k9, q1, -⟩, -⟩
  · cases q1
    refine ⟨q2, q3.1, q3.2.1, q3.2.2.weaken (fun y hy hlt => absurd hlt (Nat.not_lt.mpr (q4 y hy))) ?_ ?_⟩
    · exact hc9
    · exact hw9
  · cases q1
end
section
/-! THE LAW ANSWERS 0 AT ONE SCRIPT: the small machine run by the kernel, from one head of the law's loop to the next; between them the heap is told anew, as a table -/
def rf_l : List Int32 := [1, 0, 1, 1, 0, 8, 2, 0, 0, 0, 2, 0, 2, 1, 0, 7, 0, 0, 0, 0, 8, 1, 0, 0, 0, 9, 0, 1, 1, 0, 8, 1, 0, 0, 0, 11, 1, 5, 0, 0]
def rf_xs : Nat → Int32 := fun j => rf_l.getD j 0
def rf_t {α : Type} (t : List (Nat × List (Nat × α))) (f : Nat → Nat → α) : Nat → Nat → α := fun b j => match xi_a t b with
  | some r => (match xi_a r j with
    | some v => v
    | none => f b j)
  | none => f b j
def rf_h (I : List (Nat × List (Nat × Int32))) (J : List (Nat × List (Nat × Int64))) (R : List (Nat × List (Nat × Option Nat))) : xHp := ((false, 190, 190, 1841, 41, rf_xs), xi_KK, rf_t I xi_II, rf_t J (fun _ _ => 0), rf_t R xi_RR)
def rf_go (f : Nat) : Nat → xFr → xHp → Option (xFr × xHp)
  | 0, fr, h => some (fr, h)
  | n + 1, fr, h => match xi_st 12 (fun m' av h1 => xi_run f 11 m' (0, lv_args 0 av, []) h1) mi_L_law fr h with
    | some (.inl (fr', h')) => rf_go f n fr' h'
    | _ => none
def rf_ck (n : Nat) (fr : xFr) (h : xHp) (fr' : xFr) (h2 : xHp) : Bool := match rf_go 20000 n fr h with
  | some (g, a) => decide (g = fr') && xi_agr a h2
  | none => false
theorem rf_CO {l : Launch} (hst : l.stackTraces = false) (f : Nat) : xi_CO l 12 (fun m' av h1 => xi_run f 11 m' (0, lv_args 0 av, []) h1) := by
  intro m' mi' av h r h' hpg hm hsl hc
  obtain ⟨a1, a2⟩ := xi_run_ok hst f 11 m' mi' _ _ _ _ hpg hc
  exact ⟨a1, 11, rfl, xi_entry hst hpg hm hsl a1 a2⟩
theorem rf_go_ok {l : Launch} (hst : l.stackTraces = false) (f : Nat) : ∀ (n : Nat) (fr : xFr) (h : xHp) (fr' : xFr) (h' : xHp), rf_go f n fr h = some (fr', h') → xi_mo h h' ∧ xi_S2 l 12 mi_L_law fr h fr' h' := by
  intro n
  induction n with
  | zero =>
    intro fr h fr' h' hg
    unfold rf_go at hg
    cases hg
    exact ⟨xi_mo.rf _, fun p e R s m args below meth c Q D cy base lay c0 w0 C hfr hlo hc0 hw0 hrc hrs k => k⟩
  | succ n ih =>
    intro fr h fr' h' hg
    unfold rf_go at hg
    split at hg
    · next f1 h1 hs =>
      obtain ⟨a1, a2⟩ : xi_mo h h1 ∧ xi_S2 l 12 mi_L_law fr h f1 h1 := xi_st_ok ok_tb_L_law (rf_CO hst f) hs
      obtain ⟨b1, b2⟩ := ih f1 h1 fr' h' hg
      refine ⟨a1.tr b1, fun p e R s m args below meth c Q D cy base lay c0 w0 C hfr hlo hc0 hw0 hrc hrs k => ?_⟩
      obtain ⟨m1, m2, m3, m4⟩ := a1
      obtain ⟨n1, n2, n3, n4⟩ := b1
      exact a2 p e R s m args below meth c _ D cy base lay c0 w0 C hfr hlo hc0 hw0 (by omega) (by omega) (b2 p e R s m args below meth c _ D cy base lay c0 w0 (by rw [m3, m4]; exact C) hfr hlo (by omega) (by omega) hrc hrs k)
    · cases hg
theorem rf_agc {a b : xHp} (ha : xi_agr a b = true) : hC a = hC b ∧ hW a = hW b := by
  unfold xi_agr at ha
  simp only [Bool.and_eq_true, decide_eq_true_eq] at ha
  exact ⟨ha.1.1.2, ha.1.2⟩
theorem rf_agr_S3 {l : Launch} {d : Nat} {mi : xMi} {fr : xFr} {a b : xHp} {r : Option Value ⊕ Nat} {h' : xHp} (ha : xi_agr a b = true) (e1 : hL b = hL a) (e2 : hX b = hX a) (hb : xi_S3 l d mi fr b r h') : xi_S3 l d mi fr a r h' := by
  obtain ⟨q1, q2⟩ := rf_agc ha
  intro p e R s m args below meth c D cy base lay c0 w0 C hfr hlo hc0 hw0 hrc hrs H locs ls hP hZ hS hl
  have k := hb p e R s m args below meth c D cy base lay c0 w0 (by rw [e1, e2]; exact C) hfr hlo (by omega) (by omega) hrc hrs H locs ls (xi_agr_P ha hP) (xi_agr_Z ha hZ) hS hl
  rw [q1, q2]
  exact k
theorem rf_cut {l : Launch} (hst : l.stackTraces = false) {n : Nat} {fr : xFr} {h : xHp} {fr' : xFr} {h2 : xHp} {r : Option Value ⊕ Nat} {h' : xHp} (ck : rf_ck n fr h fr' h2 = true) (e1 : hL h2 = hL h) (e2 : hX h2 = hX h) (b : xi_mo h2 h' ∧ xi_S3 l 12 mi_L_law fr' h2 r h') : xi_mo h h' ∧ xi_S3 l 12 mi_L_law fr h r h' := by
  unfold rf_ck at ck
  split at ck
  · next g a hg =>
    rw [Bool.and_eq_true, decide_eq_true_eq] at ck
    obtain ⟨rfl, ha⟩ := ck
    obtain ⟨⟨m1, m2, m3, m4⟩, s1⟩ := rf_go_ok hst _ _ _ _ _ _ hg
    obtain ⟨q1, q2⟩ := rf_agc ha
    obtain ⟨⟨n1, n2, n3, n4⟩, b2⟩ := b
    have s2 := rf_agr_S3 ha (e1.trans m3.symm) (e2.trans m4.symm) b2
    refine ⟨⟨by omega, by omega, n3.trans e1, n4.trans e2⟩, fun p e R s m args below meth c D cy base lay c0 w0 C hfr hlo hc0 hw0 hrc hrs => ?_⟩
    exact s1 p e R s m args below meth c _ D cy base lay c0 w0 C hfr hlo hc0 hw0 (by omega) (by omega) (s2 p e R s m args below meth c D cy base lay c0 w0 (by rw [m3, m4]; exact C) hfr hlo (by omega) (by omega) hrc hrs)
  · cases ck
end
section
def rf_H1 : xHp := rf_h [(1, [(1, 1)]), (7, [(2, 1), (4, 1)]), (8, [(1, 17)]), (121, [(5, 1), (7, 1), (8, 1)]), (165, [(1, 1)]), (166, [(1, 1), (3, 1), (5, 17)]), (167, [(0, 1)]), (171, [(0, 1)]), (172, [(0, 1)]), (187, [(1, 17)])] [(189, [(0, 1)])] []
def rf_H2 : xHp := rf_h [(0, [(3, 2)]), (5, [(1, 1), (4, 2)]), (6, [(0, 163), (1, 169), (2, 136), (3, 246)]), (7, [(2, 1), (4, 1)]), (8, [(1, 17)]), (48, [(5, 1)]), (50, [(2, 1), (3, 0)]), (51, [(0, 2057126977), (1, 1217586269), (2, -1656994432), (3, 165772558)]), (121, [(5, 2), (6, 1), (8, 1)]), (122, [(0, 1)]), (124, [(0, 2057126977), (1, 1217586269), (2, -1656994432), (3, 165772558)]), (165, [(3, 2), (28, 35062)]), (166, [(0, 1), (3, 2), (4, 163), (5, 169), (6, 136), (7, 246)]), (167, [(0, 2)]), (168, [(0, 1)]), (169, [(0, 1)]), (170, [(0, 2057126977), (1, 1217586269), (2, -1656994432), (3, 165772558)]), (172, [(0, 1)]), (179, [(1, 1)]), (180, [(0, 1)]), (181, [(0, 0)]), (184, [(0, 2057126977), (1, 1217586269), (2, -1656994432), (3, 165772558)]), (187, [(0, 163), (1, 169), (2, 136), (3, 246)]), (188, [(0, 2057126977), (1, 1217586269), (2, -1656994432), (3, 165772558)])] [(189, [(0, 2)])] []
def rf_H3 : xHp := rf_h [(0, [(3, 2)]), (1, [(1, 1)]), (5, [(1, 1), (4, 2)]), (6, [(0, 163), (1, 169), (2, 136), (3, 246)]), (7, [(2, 1), (4, 3)]), (8, [(0, 201), (1, 130), (2, 175), (3, 248), (4, 126), (5, 77), (6, 132), (7, 96), (8, 16), (9, 98), (10, 42), (11, 81), (12, 163), (13, 154)]), (48, [(5, 1)]), (50, [(2, 1), (3, 0)]), (51, [(0, 2057126977), (1, 1217586269), (2, -1656994432), (3, 165772558)]), (121, [(5, 1), (6, 1), (7, 2), (8, 1)]), (122, [(0, 1)]), (124, [(0, -1700240633), (1, 1217586269), (2, -1771401620), (3, 165772558)]), (165, [(1, 1), (3, 2), (28, 35062)]), (166, [(1, 1), (3, 3), (4, 201), (5, 130), (6, 175), (7, 248), (8, 126), (9, 77), (10, 132), (11, 96), (12, 16), (13, 98), (14, 42), (15, 81), (16, 163), (17, 154)]), (167, [(0, 1)]), (168, [(0, 1)]), (169, [(0, 1)]), (170, [(0, -1700240633), (1, 1217586269), (2, -1771401620), (3, 165772558)]), (171, [(0, 2)]), (172, [(0, 1)]), (179, [(1, 1)]), (180, [(0, 1)]), (181, [(0, 0)]), (184, [(0, 2057126977), (1, 1217586269), (2, -1656994432), (3, 165772558)]), (187, [(0, 201), (1, 130), (2, 175), (3, 248), (4, 126), (5, 77), (6, 132), (7, 96), (8, 16), (9, 98), (10, 42), (11, 81), (12, 163), (13, 154)]), (188, [(0, 2057126977), (1, 1217586269), (2, -1656994432), (3, 165772558)])] [(189, [(0, 1)])] []
def rf_H4 : xHp := rf_h [(0, [(3, 2)]), (1, [(1, 2)]), (5, [(1, 1), (4, 2)]), (6, [(0, 163), (1, 169), (2, 136), (3, 246)]), (7, [(2, 1), (4, 3)]), (8, [(0, 201), (1, 130), (2, 175), (3, 248), (4, 126), (5, 77), (6, 132), (7, 96), (8, 16), (9, 98), (10, 42), (11, 81), (12, 163), (13, 154)]), (9, [(2, 1), (4, 4)]), (48, [(5, 1)]), (50, [(2, 1), (3, 0)]), (51, [(0, 2057126977), (1, 1217586269), (2, -1656994432), (3, 165772558)]), (121, [(5, 3), (6, 1), (8, 1)]), (122, [(0, 1)]), (124, [(0, -1700240633), (1, 1217586269), (2, -1771401620), (3, 165772558)]), (165, [(1, 2), (3, 2), (28, 35062)]), (166, [(1, 1), (3, 3), (4, 201), (5, 130), (6, 175), (7, 248), (8, 126), (9, 77), (10, 132), (11, 96), (12, 16), (13, 98), (14, 42), (15, 81), (16, 163), (17, 154), (20, 1), (22, 4)]), (167, [(0, 3)]), (168, [(0, 1)]), (169, [(0, 1)]), (170, [(0, -1700240633), (1, 1217586269), (2, -1771401620), (3, 165772558)]), (172, [(0, 1)]), (179, [(1, 1)]), (180, [(0, 1)]), (181, [(0, 0)]), (184, [(0, 2057126977), (1, 1217586269), (2, -1656994432), (3, 165772558)]), (188, [(0, 2057126977), (1, 1217586269), (2, -1656994432), (3, 165772558)])] [(189, [(0, 1)])] []
def rf_H5 : xHp := rf_h [(0, [(3, 3)]), (1, [(1, 2)]), (5, [(1, 1), (2, 2), (4, 1)]), (6, [(1, 17)]), (7, [(2, 1), (4, 3)]), (8, [(2, 150), (3, 106), (4, 1), (6, 3), (7, 2), (9, 17)]), (9, [(2, 1), (4, 4)]), (48, [(5, 1)]), (50, [(2, 1), (3, 0), (5, 2)]), (51, [(0, -1700240633), (1, 1217586269), (2, -1771401620), (3, 165772558)]), (121, [(5, 3), (6, 1), (8, 1)]), (122, [(0, 1)]), (124, [(0, -1700240633), (1, 1217586269), (2, -1771401620), (3, 165772558)]), (165, [(1, 2), (3, 3), (28, 35062)]), (166, [(1, 1), (3, 4), (19, 1), (20, 2), (22, 1), (24, 17)]), (167, [(0, 3)]), (168, [(0, 1)]), (169, [(0, 1)]), (170, [(0, -1700240633), (1, 1217586269), (2, -1771401620), (3, 165772558)]), (172, [(0, 1)]), (179, [(1, 1)]), (180, [(0, 1)]), (181, [(0, 0)]), (183, [(0, 2)]), (184, [(0, -1700240633), (1, 1217586269), (2, -1771401620), (3, 165772558)]), (187, [(1, 17)]), (188, [(0, 2057126977), (1, 1217586269), (2, -1656994432), (3, 165772558)])] [(189, [(0, 1)])] [(1, [(4, some 7)]), (2, [(0, some 9), (1, some 5)])]
def rf_H6 : xHp := rf_h [(0, [(3, 3)]), (1, [(1, 2)]), (5, [(1, 1), (2, 2), (4, 1)]), (6, [(1, 17)]), (7, [(2, 1), (4, 3)]), (8, [(2, 150), (3, 106), (4, 1), (6, 3), (7, 2), (9, 17)]), (9, [(2, 1), (4, 4)]), (10, [(1, 1)]), (48, [(5, 1)]), (50, [(2, 1), (3, 0), (5, 2)]), (51, [(0, -1700240633), (1, 1217586269), (2, -1771401620), (3, 165772558)]), (121, [(5, 3), (6, 1), (8, 1)]), (122, [(0, 1)]), (124, [(0, -1700240633), (1, 1217586269), (2, -1771401620), (3, 165772558)]), (165, [(1, 2), (3, 3), (28, 35062)]), (166, [(1, 1), (3, 4), (5, 1), (19, 1), (20, 2), (22, 1), (24, 17)]), (167, [(0, 3)]), (168, [(0, 1)]), (169, [(0, 1)]), (170, [(0, -1700240633), (1, 1217586269), (2, -1771401620), (3, 165772558)]), (172, [(0, 1)]), (179, [(1, 1)]), (180, [(0, 1)]), (181, [(0, 0)]), (183, [(0, 2)]), (184, [(0, -1700240633), (1, 1217586269), (2, -1771401620), (3, 165772558)]), (187, [(1, 17)]), (188, [(0, 2057126977), (1, 1217586269), (2, -1656994432), (3, 165772558)])] [] [(1, [(4, some 7)]), (2, [(0, some 9), (1, some 5)])]
def rf_H7 : xHp := rf_h [(0, [(3, 4)]), (1, [(1, 2)]), (5, [(1, 1), (2, 2), (4, 1)]), (6, [(1, 17)]), (7, [(1, 1), (2, 2), (4, 4)]), (8, [(1, 1)]), (9, [(2, 1), (4, 4)]), (10, [(1, 1)]), (48, [(5, 1)]), (121, [(5, 3), (6, 1), (8, 1)]), (122, [(0, 1)]), (124, [(0, -1700240633), (1, 1217586269), (2, -1771401620), (3, 165772558)]), (165, [(1, 2), (3, 4), (28, 35062)]), (166, [(0, 1), (1, 2), (3, 1), (5, 17), (19, 1), (20, 2), (22, 4)]), (167, [(0, 3)]), (168, [(0, 1)]), (169, [(0, 1)]), (170, [(0, -1700240633), (1, 1217586269), (2, -1771401620), (3, 165772558)]), (172, [(0, 1)]), (179, [(1, 1)]), (188, [(0, 2057126977), (1, 1217586269), (2, -1656994432), (3, 165772558)])] [(189, [(0, 1)])] [(1, [(4, some 9)]), (2, [(0, some 5), (1, some 7)])]
set_option maxRecDepth 100000 in
theorem rf_c0 : rf_ck 52 (23, [(4, .int (0)), (3, .ref 189), (2, .ref 165), (1, .ref 0), (0, .ref xi_scr)], []) (xi_hn 190 190 1841 41 rf_xs) (23, [(4, .int (5)), (6, .int (1)), (5, .int (0)), (3, .ref 189), (2, .ref 165), (1, .ref 0), (0, .ref xi_scr)], []) rf_H1 = true := by decide +kernel
set_option maxRecDepth 100000 in
theorem rf_c1 : rf_ck 32 (23, [(4, .int (5)), (6, .int (1)), (5, .int (0)), (3, .ref 189), (2, .ref 165), (1, .ref 0), (0, .ref xi_scr)], []) rf_H1 (23, [(4, .int (10)), (6, .int (2)), (5, .int (0)), (3, .ref 189), (2, .ref 165), (1, .ref 0), (0, .ref xi_scr)], []) rf_H2 = true := by decide +kernel
set_option maxRecDepth 100000 in
theorem rf_c2 : rf_ck 52 (23, [(4, .int (10)), (6, .int (2)), (5, .int (0)), (3, .ref 189), (2, .ref 165), (1, .ref 0), (0, .ref xi_scr)], []) rf_H2 (23, [(4, .int (15)), (6, .int (1)), (5, .int (0)), (3, .ref 189), (2, .ref 165), (1, .ref 0), (0, .ref xi_scr)], []) rf_H3 = true := by decide +kernel
set_option maxRecDepth 100000 in
theorem rf_c3 : rf_ck 30 (23, [(4, .int (15)), (6, .int (1)), (5, .int (0)), (3, .ref 189), (2, .ref 165), (1, .ref 0), (0, .ref xi_scr)], []) rf_H3 (23, [(4, .int (20)), (5, .int (0)), (6, .int (1)), (3, .ref 189), (2, .ref 165), (1, .ref 0), (0, .ref xi_scr)], []) rf_H4 = true := by decide +kernel
set_option maxRecDepth 100000 in
theorem rf_c4 : rf_ck 32 (23, [(4, .int (20)), (5, .int (0)), (6, .int (1)), (3, .ref 189), (2, .ref 165), (1, .ref 0), (0, .ref xi_scr)], []) rf_H4 (23, [(4, .int (25)), (6, .int (1)), (5, .int (0)), (3, .ref 189), (2, .ref 165), (1, .ref 0), (0, .ref xi_scr)], []) rf_H5 = true := by decide +kernel
set_option maxRecDepth 100000 in
theorem rf_c5 : rf_ck 52 (23, [(4, .int (25)), (6, .int (1)), (5, .int (0)), (3, .ref 189), (2, .ref 165), (1, .ref 0), (0, .ref xi_scr)], []) rf_H5 (23, [(4, .int (30)), (6, .int (0)), (5, .int (0)), (3, .ref 189), (2, .ref 165), (1, .ref 0), (0, .ref xi_scr)], []) rf_H6 = true := by decide +kernel
set_option maxRecDepth 100000 in
theorem rf_c6 : rf_ck 32 (23, [(4, .int (30)), (6, .int (0)), (5, .int (0)), (3, .ref 189), (2, .ref 165), (1, .ref 0), (0, .ref xi_scr)], []) rf_H6 (23, [(4, .int (35)), (6, .int (1)), (5, .int (0)), (3, .ref 189), (2, .ref 165), (1, .ref 0), (0, .ref xi_scr)], []) rf_H7 = true := by decide +kernel
def rf_e0 (r : Option xRs) : Bool := match r with
  | some (.inl (some (.int v)), h) => decide (v = 0) && (decide (hC h ≤ 632981) && decide (hW h ≤ 7197160))
  | _ => false
theorem rf_e0_sp {r : Option xRs} (h : rf_e0 r = true) : ∃ h' : xHp, r = some (.inl (some (.int 0)), h') ∧ hC h' ≤ 632981 ∧ hW h' ≤ 7197160 := by
  unfold rf_e0 at h
  split at h
  · next v h' =>
    rw [Bool.and_eq_true, Bool.and_eq_true, decide_eq_true_eq, decide_eq_true_eq, decide_eq_true_eq] at h
    obtain ⟨rfl, h1, h2⟩ := h
    exact ⟨h', rfl, h1, h2⟩
  · cases h
set_option maxRecDepth 100000 in
theorem rf_last : rf_e0 (xi_run 20000 12 177 (23, [(4, .int (35)), (6, .int (1)), (5, .int (0)), (3, .ref 189), (2, .ref 165), (1, .ref 0), (0, .ref xi_scr)], []) rf_H7) = true := by decide +kernel
theorem rf_all {l : Launch} (hst : l.stackTraces = false) : ∃ h' : xHp, (xi_mo (xi_hn 190 190 1841 41 rf_xs) h' ∧ xi_S3 l 12 mi_L_law (23, [(4, .int 0), (3, .ref 189), (2, .ref 165), (1, .ref 0), (0, .ref xi_scr)], []) (xi_hn 190 190 1841 41 rf_xs) (.inl (some (.int 0))) h') ∧ hC h' ≤ 632981 ∧ hW h' ≤ 7197160 := by
  obtain ⟨h', e, h1, h2⟩ := rf_e0_sp rf_last
  have b := xi_run_ok hst 20000 12 177 mi_L_law _ _ _ _ rfl e
  have b := rf_cut hst rf_c6 rfl rfl b
  have b := rf_cut hst rf_c5 rfl rfl b
  have b := rf_cut hst rf_c4 rfl rfl b
  have b := rf_cut hst rf_c3 rfl rfl b
  have b := rf_cut hst rf_c2 rfl rfl b
  have b := rf_cut hst rf_c1 rfl rfl b
  have b := rf_cut hst rf_c0 rfl rfl b
  exact ⟨h', b, h1, h2⟩
end
section
/-! the law's own end, with the answer 0 -/
def lw_Q0 (_ : Array Value) (s : State) (o : Outcome) (t : State) : Prop := o = .returned (some (.int 0)) ∧ Framed s o t [] 632981 7197160
def lw_Z0 (below : List Frame) (a : Array Value) (s : State) : State → Prop := fun t => ∃ o, t.status = .running ∧ Ended t below o ∧ lw_Q0 a s o t
set_option maxRecDepth 20000 in
theorem xi_whole0 {p : Program} {l : Launch} (hst : l.stackTraces = false) {e : Env} {s : State} {m : MethodId} {below : List Frame} {meth : Method} {c : Code} {b L : Nat} {xs : Nat → Int32} (C0 : lw_At p s m meth c b L xs)
    (hr : ∃ h' : xHp, (xi_mo (xi_hn 190 190 1841 (L + 1) xs) h' ∧ xi_S3 l 12 mi_L_law (23, [(4, .int 0), (3, .ref 189), (2, .ref 165), (1, .ref 0), (0, .ref xi_scr)], []) (xi_hn 190 190 1841 (L + 1) xs) (.inl (some (.int 0))) h') ∧ hC h' ≤ 632981 ∧ hW h' ≤ 7197160) :
    W p l e room_1 s m #[Value.ref b] below meth c s.heap [] 0 0 (lw_Z0 below #[Value.ref b] s) (entryFrame m ([Value.ref b] : List Value).toArray 9) := by
  obtain ⟨hx, hb, hrt, hml, hown, hts, hX, hbl, hlocks, hgv, hnm, htab⟩ := C0
  have hT : ∀ w ∈ xT, w.before #[Value.ref b] s = true := fun w hw => hts w (List.mem_filter.mp hw).1
  have hcw : ∀ c, c < 8 → (Cond.instantiable (xi_cls c) (xi_nf c)).before #[Value.ref b] s = true := fun c hc => by
    have h9 := List.all_eq_true.mp ok_cw c (List.mem_range.mpr hc)
    rw [Bool.and_eq_true] at h9
    exact hT _ (xi_at_mem h9.1)
  have hk : ∀ c, c < 8 → ∃ (cC : ClassId) (iS : Nat → Nat), u_Kn s (xi_cls c) (xi_T c) (xi_nf c) cC iS := fun c hc => u_known hT (ok_ci c hc) (hcw c hc)
  obtain ⟨dC, dI, hD⟩ : ∃ (dC : Nat → ClassId) (dI : Nat → Nat → Nat), ∀ c, c < 8 → u_Kn s (xi_cls c) (xi_T c) (xi_nf c) (dC c) (dI c) :=
    ⟨fun c => if h : c < 8 then Classical.choose (hk c h) else 0, fun c => if h : c < 8 then Classical.choose (Classical.choose_spec (hk c h)) else fun _ => 0, fun c hc => by simp only [dif_pos hc]; exact Classical.choose_spec (Classical.choose_spec (hk c hc))⟩
  have o1 : va_AO RX1 s := va_AO.of (hts _ (by decide +kernel))
  have o2 : va_AO RX2 s := va_AO.of (hts _ (by decide +kernel))
  have o3 : va_AO RX3 s := va_AO.of (hts _ (by decide +kernel))
  have o4 : va_AO RX4 s := va_AO.of (hts _ (by decide +kernel))
  have o5 : va_AO RX6 s := va_AO.of (hts _ (by decide +kernel))
  have o6 : xi_AOA s := hts (.arrayOver (.array .int)) (by decide +kernel)
  obtain ⟨c0, a0, b0⟩ := xk_ac (hT _ ok_ai)
  obtain ⟨c1, a1, b1⟩ := xk_ac (hT _ ok_az)
  obtain ⟨c2, a2, b2⟩ := xk_ac (hT _ ok_aj)
  obtain ⟨c3, a3, b3⟩ := xk_ao o1
  obtain ⟨c4, a4, b4⟩ := xk_ao o2
  obtain ⟨c5, a5, b5⟩ := xk_ao o3
  obtain ⟨c6, a6, b6⟩ := xk_ao o4
  obtain ⟨c7, a7, b7⟩ := xk_ao o5
  obtain ⟨c8, a8, b8⟩ := xk_aa o6
  obtain ⟨cy, hcy⟩ : ∃ cy : Nat → ClassId, xi_tl cy = [(c0, .int), (c1, .boolean), (c2, .long), (c3, .object RX1), (c4, .object RX2), (c5, .object RX3), (c6, .object RX4), (c7, .object RX6), (c8, .array .int)] := ⟨fun k => [c0, c1, c2, c3, c4, c5, c6, c7, c8].getD k 0, rfl⟩
  have hK : va_K (dC, dI) vwCl (xi_tl cy) s := by
    refine ⟨fun k q hq => ?_, fun k q hq => ?_⟩
    · have hk8 : k < 8 := (List.getElem?_eq_some_iff.mp hq).1
      have e9 := (ok_cu k hk8).symm.trans hq
      cases e9
      exact hD k hk8
    · rw [hcy] at hq
      have hk9 : k < 9 := (List.getElem?_eq_some_iff.mp hq).1
      rcases (show k = 0 ∨ k = 1 ∨ k = 2 ∨ k = 3 ∨ k = 4 ∨ k = 5 ∨ k = 6 ∨ k = 7 ∨ k = 8 by omega) with rfl | rfl | rfl | rfl | rfl | rfl | rfl | rfl | rfl <;> cases hq
      · exact ⟨a0, b0⟩
      · exact ⟨a1, b1⟩
      · exact ⟨a2, b2⟩
      · exact ⟨a3, b3⟩
      · exact ⟨a4, b4⟩
      · exact ⟨a5, b5⟩
      · exact ⟨a6, b6⟩
      · exact ⟨a7, b7⟩
      · exact ⟨a8, b8⟩
  have hs := flat_of_before _ hgv
  have hNc : ∀ i, i < 3 → ∀ j, j < 3 → i ≠ j → va_Nc (xi_E i) (xi_E j) s := by
    intro i hi j hj hij
    rcases (show i = 0 ∨ i = 1 ∨ i = 2 by omega) with rfl | rfl | rfl <;> rcases (show j = 0 ∨ j = 1 ∨ j = 2 by omega) with rfl | rfl | rfl <;> first | exact absurd rfl hij | exact va_Nc.of (hs _ (by decide +kernel))
  have hA : ∀ a : Nat, a < s.heap.size → ¬ (fun q => s.heap.size ≤ q) a := fun a h9 => Nat.not_le.mpr h9
  have hZ1 : vx_Zq Bundle.tN "UNASSIGNED_STACK" Bundle.steD (fun q => s.heap.size ≤ q) s s.heap := vx_Zqof (args := #[Value.ref b]) (hts _ (by decide +kernel)) (hts _ (by decide +kernel)) (hs _ (by decide +kernel)) hA
  have hZ2 : vx_Zq Bundle.tN "SUPPRESSED_SENTINEL" Bundle.listD (fun q => s.heap.size ≤ q) s s.heap := vx_Zqof (args := #[Value.ref b]) (hts _ (by decide +kernel)) (hts _ (by decide +kernel)) (hs _ (by decide +kernel)) hA
  obtain ⟨lay, hlay, hscr⟩ : ∃ lay : Nat → Nat, xi_lay s.heap.size lay ∧ lay xi_scr = b := ⟨fun i => if i < 900000 then s.heap.size + i else b, fun i hi => if_pos hi, rfl⟩
  have C : xi_C p l s m #[Value.ref b] meth c mi_L_law (dC, dI) cy s.heap.size lay (L + 1) xs := ⟨hx, hb, hml, hown, hT, hlocks, hrt, hnm, htab, hst, ⟨hK, ⟨o1, o2, o3, o4, o5, o6⟩, hNc, ⟨hZ1, hZ2⟩, fun _ => by rw [hscr]; exact hX, by rw [hscr]; exact hbl, Nat.le_refl _⟩, hlay⟩
  obtain ⟨h', ⟨-, hrun⟩, hc9, hw9⟩ := hr
  have k1 := hrun p e room_1 s m #[Value.ref b] below meth c (dC, dI) cy s.heap.size lay 0 0 C (Nat.le_of_ble_eq_true rfl) (Nat.le_of_ble_eq_true rfl) (Nat.zero_le _) (Nat.zero_le _) hc9 hw9
  have k2 := xi_head hst (L + 1) xs C (Nat.le_of_ble_eq_true rfl) (Nat.le_of_ble_eq_true rfl) (Nat.le_of_ble_eq_true rfl) (Nat.le_of_ble_eq_true rfl) k1
  have hlv := lv_entry ([Value.ref b]) (n := 9) (Nat.le_of_ble_eq_true rfl)
  rw [lg_entry_eq]
  have k3 := k2 s.heap [] _ (fun i hi => absurd hi (Nat.not_lt_zero _)) ⟨fun _ => rfl, Nat.le_refl _, Nat.zero_le _⟩ va_S.rf (by show lv_has _ 9 [(0, Value.ref (lay xi_scr))]; rw [hscr]; exact hlv)
  intro T hT9 X
  obtain ⟨t, s1, o, t1, t2, t3⟩ := k3 T hT9 X
  refine ⟨t, s1, o, t1, t2, ?_⟩
  rcases t3 with ⟨⟨v, q1, q2, -⟩, L9, q3, q4⟩ | ⟨q, -, E, ce, L9, ⟨k9, q1, -⟩, -⟩
  · cases q1
    refine ⟨q2, q3.1, q3.2.1, q3.2.2.weaken (fun y hy hlt => absurd hlt (Nat.not_lt.mpr (q4 y hy))) ?_ ?_⟩
    · exact hc9
    · exact hw9
  · cases q1
end
section
theorem whole_start0 {p : Program} {e : Env} {s : State} {m : MethodId} {below : List Frame} {meth : Method} {c : Code} (l : Launch) (hst : l.stackTraces = false) {b : Nat} (C0 : lw_At p s m meth c b 40 rf_xs) : W p l e room_1 s m #[Value.ref b] below meth c s.heap [] 0 0 (lw_Z0 below #[Value.ref b] s) (entryFrame m ([Value.ref b] : List Value).toArray 9) := xi_whole0 hst C0 (rf_all hst)
set_option maxHeartbeats 4000000 in
theorem lw_walk0 (l : Launch) (hst : l.stackTraces = false) (b : Addr) : MetFree l x (headSpec (Jvm.Cond.code x code maxLocals ret :: tables_1) room_1) (lw_P b rf_l) (fun _ _ _ _ _ => True) lw_Q0 := by
  refine MetFree.of_bodyS (code := code) (maxLocals := maxLocals) (ret := ret) (by decide) ?_ ?_
  · intro args s m h hn
    obtain ⟨meth, c, h1, h2, h3, h4, h5, h6, -, -⟩ := Cond.code_spec hn (atoms_spec (ws := Jvm.Cond.code x code maxLocals ret :: tables_1) h _ List.mem_cons_self)
    exact ⟨meth, c, h1, h2, h3, h4, h5, h6⟩
  · intro p e s m args below meth c s₁ B hml0 hP _
    obtain ⟨rfl, hx, hbd, hgv⟩ := hP
    obtain ⟨scr, harrAt, hlist, hof, hsmall⟩ := hx
    obtain ⟨hcb, hkn, -, -⟩ := State.arrayAt?_spec harrAt
    have hown : s.vm.findClass R_law = some m.cls := findClass_of_methodNamed B.named
    have hts0 : ∀ c ∈ (Jvm.Cond.code x code maxLocals ret :: tables_1), c.before #[Value.ref b] s = true := atoms_spec (ws := Jvm.Cond.code x code maxLocals ret :: tables_1) B.pre
    have hts : ∀ w ∈ lw_tbl, w.before #[Value.ref b] s = true := k2_hts_sels lw_privs (fun w hw => hts0 w (List.mem_cons_of_mem _ hw)) lw_privs_ok
    have hml : c.maxLocals = 9 := B.maxLocals_eq (hts0 _ List.mem_cons_self)
    have X₀ : Stand p l e room_1 s m #[Value.ref b] below meth c s₁ [] 0 0 := Stand.of_body B
    have hh0 : s₁.heap = s.heap := by rw [B.state]; rfl
    have hsz : scr.slots.size = rf_l.length := by rw [← Array.length_toList, hlist, List.length_map]
    have hval : ∀ j : Nat, j < rf_l.length → scr.slots[j]? = some (.int (rf_l.getD j 0)) := fun j hj => by
      rw [← Array.getElem?_toList, hlist]
      simp [hj]
    have hbl : b < s.heap.size := (Array.getElem?_eq_some_iff.mp hcb).1
    have hX : va_X b rf_l.length (fun j => rf_l.getD j 0) s s.heap := ⟨scr, hcb, hof, hkn, hsz, hval⟩
    have K : W p l e room_1 s m #[Value.ref b] below meth c s₁.heap [] 0 0 (lw_Z0 below #[Value.ref b] s) (entryFrame m ([Value.ref b] : List Value).toArray 9) := by
      rw [hh0]
      exact whole_start0 l hst ⟨B.exec, B.bytes, B.returns, hml, hown, hts, hX, hbl, B.notSynchronized, hgv, (name_of_methodNamed B.named B.method).1, by rw [Array.isEmpty_iff.mp (BodyLoose.noHandlers B (hts0 _ List.mem_cons_self))]⟩
    obtain ⟨t, a1, o, b1, b2, b3⟩ := K s₁ rfl X₀
    exact ⟨t, o, a1, b1, b2, b3⟩
/-- what the claim asks of a start, and that its script is this one -/
def rf_Pre : Tables → Env → Array Value → State → Prop := fun tb e a s => Pre_1 tb e a s ∧ ∃ b : Addr, a = #[Value.ref b] ∧ s.IntsAt b rf_l
theorem lw_comes0 (l : Launch) (hst : l.stackTraces = false) : Comes l x (Jvm.Cond.code x code maxLocals ret :: tables_1) room_1 (fun tb e args s => Calls_1 tb e args s ∧ rest_1 tb e args s ∧ rf_Pre tb e args s)
    (fun _ _ args s o t => lw_Q0 args s o t) := by
  intro p e ha hc hk s m args below hf hfit hheap happ hpre
  obtain ⟨-, -, hg, b, rfl, hx⟩ := hpre
  have hP : lw_P b rf_l #[Value.ref b] s := ⟨rfl, hx, by decide, hg⟩
  obtain ⟨k, o, h1, h2, h3, hQ⟩ := lw_walk0 l hst b p e ha hc hk s m _ below hf ((Spec.applies_iff_loose hf).mp happ).1 hP trivial
  exact ⟨k, o, h1, h2, h3, hQ⟩
/-- AT THIS SCRIPT THE LAW ANSWERS 0, at every start that the claim allows -/
theorem rf_false : ArmFor flags0 classFile x code maxLocals ret World_1 tables_1 room_1 Calls_1 rest_1 rf_Pre (fun _ _ _ _ o _ => o = .returned (some (.int 0))) := by
  intro l hfl _ _ p e ha hc hk s m args below hf hfit hheap happ hpre
  have hst : l.stackTraces = false := by
    unfold Launch.stackTraces
    rw [hfl]
    decide +kernel
  obtain ⟨k, o, h1, h2, h3, hQ⟩ := lw_comes0 l hst p e ha hc hk s m args below hf hfit hheap happ hpre
  exact ⟨k, o, h1, h2, h3, hQ.1⟩
/-- so the claim is refuted, in its own word for that, if there is such a start at all -/
theorem rf_refuted (hm : MeetableFor flags0 classFile x code maxLocals ret World_1 tables_1 room_1 Calls_1 rest_1 rf_Pre) : RefutedClaimed_1_2 := by
  obtain ⟨l, p, e, s, m, args, below, hfl, hL, hW, ha, hle, hc, hk, hf, hfit, hheap, happ, hca, hre, hpr⟩ := hm
  obtain ⟨n, o, h1, h2, h3, rfl⟩ := rf_false l hfl hL hW p e ha hc hk s m args below hf hfit hheap happ ⟨hca, hre, hpr⟩
  refine ⟨l, p, e, s, m, args, below, hfl, ⟨hL, hW, ha, hle, hc, hk, hf, hfit, hheap, happ, hca, hre, hpr.1⟩, n, _, h1, h2, h3, fun hq => ?_⟩
  have q := Cond.after_iff.mp hq.1
  rw [show limb_1_2 = Cond.eq .result (.int 1) from rfl, Cond.eq_ints (x := 0) (y := 1) rfl rfl] at q
  exact absurd q (by decide)
end
section
/-! a start whose script is this one: the witness's own start, with another script in its row -/
def rf_scr : Array Value := ⟨rf_l.map Value.int⟩
def rf_st : State := start1.aboutOf rf_scr
theorem rf_vm : rf_st.vm = start1.about.vm := rfl
theorem rf_isCode {c : Jvm.Cond} (hc : su_isCode c = true) {a : Array Value} {s t : State} (h : t.vm = s.vm) (hb : c.before a s = true) : c.before a t = true := by
  cases c
  case code y bytes mx ret =>
    simp only [Cond.before, Cond.holds, Cond.value, State.methodNamed?, h] at hb ⊢
    exact hb
  all_goals exact absurd hc Bool.false_ne_true
theorem rf_split {α : Type} (p : α → Bool) (k : Nat) {l : List α} (h1 : (l.take k).all p = true) (h2 : (l.drop k).all p = true) : l.all p = true := by
  have h : (l.take k ++ l.drop k).all p = true := by rw [List.all_append, h1, h2]; rfl
  rwa [List.take_append_drop] at h
def rf_ok : Jvm.Cond → Bool := fun c => su_isCode c || c.before start1.args0 rf_st
set_option maxRecDepth 16384 in
theorem rf_o1_0 : (tables_1_1.take 40).all rf_ok = true := by decide +kernel
set_option maxRecDepth 16384 in
theorem rf_o1_1 : ((tables_1_1.drop 40).take 40).all rf_ok = true := by decide +kernel
set_option maxRecDepth 16384 in
theorem rf_o1_2 : (((tables_1_1.drop 40).drop 40).take 40).all rf_ok = true := by decide +kernel
set_option maxRecDepth 16384 in
theorem rf_o1_3 : ((((tables_1_1.drop 40).drop 40).drop 40).take 40).all rf_ok = true := by decide +kernel
set_option maxRecDepth 16384 in
theorem rf_o1_4 : (((((tables_1_1.drop 40).drop 40).drop 40).drop 40).take 40).all rf_ok = true := by decide +kernel
set_option maxRecDepth 16384 in
theorem rf_o1_5 : ((((((tables_1_1.drop 40).drop 40).drop 40).drop 40).drop 40).take 40).all rf_ok = true := by decide +kernel
set_option maxRecDepth 16384 in
theorem rf_o1_6 : ((((((tables_1_1.drop 40).drop 40).drop 40).drop 40).drop 40).drop 40).all rf_ok = true := by decide +kernel
theorem rf_w1 : ∀ c ∈ tables_1_1, c.before start1.args0 rf_st = true := fun c h => su_words (f := fun c => c.before start1.args0 rf_st) (rf_split rf_ok 40 rf_o1_0 (rf_split rf_ok 40 rf_o1_1 (rf_split rf_ok 40 rf_o1_2 (rf_split rf_ok 40 rf_o1_3 (rf_split rf_ok 40 rf_o1_4 (rf_split rf_ok 40 rf_o1_5 rf_o1_6)))))) (fun c hc => rf_isCode (List.mem_filter.mp hc).2 rf_vm (start1.words_1 c (List.mem_filter.mp hc).1)) c h
set_option maxRecDepth 16384 in
theorem rf_o2_0 : (tables_1_2.take 40).all rf_ok = true := by decide +kernel
set_option maxRecDepth 16384 in
theorem rf_o2_1 : ((tables_1_2.drop 40).take 40).all rf_ok = true := by decide +kernel
set_option maxRecDepth 16384 in
theorem rf_o2_2 : (((tables_1_2.drop 40).drop 40).take 40).all rf_ok = true := by decide +kernel
set_option maxRecDepth 16384 in
theorem rf_o2_3 : ((((tables_1_2.drop 40).drop 40).drop 40).take 40).all rf_ok = true := by decide +kernel
set_option maxRecDepth 16384 in
theorem rf_o2_4 : (((((tables_1_2.drop 40).drop 40).drop 40).drop 40).take 40).all rf_ok = true := by decide +kernel
set_option maxRecDepth 16384 in
theorem rf_o2_5 : ((((((tables_1_2.drop 40).drop 40).drop 40).drop 40).drop 40).take 40).all rf_ok = true := by decide +kernel
set_option maxRecDepth 16384 in
theorem rf_o2_6 : ((((((tables_1_2.drop 40).drop 40).drop 40).drop 40).drop 40).drop 40).all rf_ok = true := by decide +kernel
theorem rf_w2 : ∀ c ∈ tables_1_2, c.before start1.args0 rf_st = true := fun c h => su_words (f := fun c => c.before start1.args0 rf_st) (rf_split rf_ok 40 rf_o2_0 (rf_split rf_ok 40 rf_o2_1 (rf_split rf_ok 40 rf_o2_2 (rf_split rf_ok 40 rf_o2_3 (rf_split rf_ok 40 rf_o2_4 (rf_split rf_ok 40 rf_o2_5 rf_o2_6)))))) (fun c hc => rf_isCode (List.mem_filter.mp hc).2 rf_vm (start1.words_2 c (List.mem_filter.mp hc).1)) c h
set_option maxRecDepth 16384 in
theorem rf_o3_0 : (tables_1_3.take 40).all rf_ok = true := by decide +kernel
set_option maxRecDepth 16384 in
theorem rf_o3_1 : ((tables_1_3.drop 40).take 40).all rf_ok = true := by decide +kernel
set_option maxRecDepth 16384 in
theorem rf_o3_2 : (((tables_1_3.drop 40).drop 40).take 40).all rf_ok = true := by decide +kernel
set_option maxRecDepth 16384 in
theorem rf_o3_3 : ((((tables_1_3.drop 40).drop 40).drop 40).take 40).all rf_ok = true := by decide +kernel
set_option maxRecDepth 16384 in
theorem rf_o3_4 : (((((tables_1_3.drop 40).drop 40).drop 40).drop 40).take 40).all rf_ok = true := by decide +kernel
set_option maxRecDepth 16384 in
theorem rf_o3_5 : ((((((tables_1_3.drop 40).drop 40).drop 40).drop 40).drop 40).take 40).all rf_ok = true := by decide +kernel
set_option maxRecDepth 16384 in
theorem rf_o3_6 : ((((((tables_1_3.drop 40).drop 40).drop 40).drop 40).drop 40).drop 40).all rf_ok = true := by decide +kernel
theorem rf_w3 : ∀ c ∈ tables_1_3, c.before start1.args0 rf_st = true := fun c h => su_words (f := fun c => c.before start1.args0 rf_st) (rf_split rf_ok 40 rf_o3_0 (rf_split rf_ok 40 rf_o3_1 (rf_split rf_ok 40 rf_o3_2 (rf_split rf_ok 40 rf_o3_3 (rf_split rf_ok 40 rf_o3_4 (rf_split rf_ok 40 rf_o3_5 rf_o3_6)))))) (fun c hc => rf_isCode (List.mem_filter.mp hc).2 rf_vm (start1.words_3 c (List.mem_filter.mp hc).1)) c h
set_option maxRecDepth 16384 in
theorem rf_o4_0 : (tables_1_4.take 40).all rf_ok = true := by decide +kernel
set_option maxRecDepth 16384 in
theorem rf_o4_1 : ((tables_1_4.drop 40).take 40).all rf_ok = true := by decide +kernel
set_option maxRecDepth 16384 in
theorem rf_o4_2 : (((tables_1_4.drop 40).drop 40).take 40).all rf_ok = true := by decide +kernel
set_option maxRecDepth 16384 in
theorem rf_o4_3 : ((((tables_1_4.drop 40).drop 40).drop 40).take 40).all rf_ok = true := by decide +kernel
set_option maxRecDepth 16384 in
theorem rf_o4_4 : (((((tables_1_4.drop 40).drop 40).drop 40).drop 40).take 40).all rf_ok = true := by decide +kernel
set_option maxRecDepth 16384 in
theorem rf_o4_5 : ((((((tables_1_4.drop 40).drop 40).drop 40).drop 40).drop 40).take 40).all rf_ok = true := by decide +kernel
set_option maxRecDepth 16384 in
theorem rf_o4_6 : ((((((tables_1_4.drop 40).drop 40).drop 40).drop 40).drop 40).drop 40).all rf_ok = true := by decide +kernel
theorem rf_w4 : ∀ c ∈ tables_1_4, c.before start1.args0 rf_st = true := fun c h => su_words (f := fun c => c.before start1.args0 rf_st) (rf_split rf_ok 40 rf_o4_0 (rf_split rf_ok 40 rf_o4_1 (rf_split rf_ok 40 rf_o4_2 (rf_split rf_ok 40 rf_o4_3 (rf_split rf_ok 40 rf_o4_4 (rf_split rf_ok 40 rf_o4_5 rf_o4_6)))))) (fun c hc => rf_isCode (List.mem_filter.mp hc).2 rf_vm (start1.words_4 c (List.mem_filter.mp hc).1)) c h
set_option maxRecDepth 16384 in
theorem rf_o5_0 : (tables_1_5.take 40).all rf_ok = true := by decide +kernel
set_option maxRecDepth 16384 in
theorem rf_o5_1 : ((tables_1_5.drop 40).take 40).all rf_ok = true := by decide +kernel
set_option maxRecDepth 16384 in
theorem rf_o5_2 : (((tables_1_5.drop 40).drop 40).take 40).all rf_ok = true := by decide +kernel
set_option maxRecDepth 16384 in
theorem rf_o5_3 : ((((tables_1_5.drop 40).drop 40).drop 40).take 40).all rf_ok = true := by decide +kernel
set_option maxRecDepth 16384 in
theorem rf_o5_4 : (((((tables_1_5.drop 40).drop 40).drop 40).drop 40).take 40).all rf_ok = true := by decide +kernel
set_option maxRecDepth 16384 in
theorem rf_o5_5 : ((((((tables_1_5.drop 40).drop 40).drop 40).drop 40).drop 40).take 40).all rf_ok = true := by decide +kernel
set_option maxRecDepth 16384 in
theorem rf_o5_6 : ((((((tables_1_5.drop 40).drop 40).drop 40).drop 40).drop 40).drop 40).all rf_ok = true := by decide +kernel
theorem rf_w5 : ∀ c ∈ tables_1_5, c.before start1.args0 rf_st = true := fun c h => su_words (f := fun c => c.before start1.args0 rf_st) (rf_split rf_ok 40 rf_o5_0 (rf_split rf_ok 40 rf_o5_1 (rf_split rf_ok 40 rf_o5_2 (rf_split rf_ok 40 rf_o5_3 (rf_split rf_ok 40 rf_o5_4 (rf_split rf_ok 40 rf_o5_5 rf_o5_6)))))) (fun c hc => rf_isCode (List.mem_filter.mp hc).2 rf_vm (start1.words_5 c (List.mem_filter.mp hc).1)) c h
theorem rf_words : ∀ c ∈ (Jvm.Cond.code x code maxLocals ret :: tables_1), c.before start1.args0 rf_st = true := by
  intro c hc
  rcases List.mem_cons.mp hc with h | h
  · subst h; exact rf_isCode rfl rf_vm start1.word_code
  · have h0 : c ∈ tables_1_1 ++ (tables_1_2 ++ (tables_1_3 ++ (tables_1_4 ++ tables_1_5))) := h
    rcases List.mem_append.mp h0 with h1 | h0
    · exact rf_w1 c h1
    rcases List.mem_append.mp h0 with h1 | h0
    · exact rf_w2 c h1
    rcases List.mem_append.mp h0 with h1 | h0
    · exact rf_w3 c h1
    rcases List.mem_append.mp h0 with h1 | h0
    · exact rf_w4 c h1
    exact rf_w5 c h0
end
section
/-! the script stands in that start; the claim is refuted, and the owed statement is false -/
theorem rf_ints : rf_st.IntsAt 0 rf_l := ⟨_, rfl, rfl, ⟨fun k hk => (by cases hk), _, rfl, _, rfl⟩, by decide⟩
set_option maxRecDepth 16384 in
theorem rf_at : AtStart classFile x code maxLocals ret World_1 tables_1 room_1 Calls_1 rest_1 rf_Pre launch0 start1.p0 start1.e0 rf_st ⟨0, 0⟩ start1.args0 Lib.HandBits.below0 := by
  obtain ⟨a1, a2, a3, a4, a5, a6, -⟩ := start1.atStart
  have hroom : rf_st.hasRoom start1.e0.platform room_1 = true := launch0.hasRoom_least _ room_1 (by decide +kernel) (by decide +kernel) (by decide +kernel) (by decide +kernel) (by decide +kernel) (by decide +kernel)
  have happ : (headSpec (Jvm.Cond.code x code maxLocals ret :: tables_1) room_1).applies x start1.e0.platform rf_st = true := (Spec.applies_iff (m := ⟨0, 0⟩) (args := start1.args0) (below := Lib.HandBits.below0) rfl).mpr ⟨rfl, rfl, rfl, by decide +kernel, by decide +kernel, by decide +kernel, hroom, atoms_intro rf_words⟩
  have hpre : (Jvm.Cond.and given_1 narrow_1).before start1.args0 rf_st = true := by decide +kernel
  have hrest : rest_1_c.before start1.args0 rf_st = true := by decide +kernel
  exact ⟨a1, a2, a3, a4, a5, a6, rfl, by decide +kernel, by decide +kernel, happ, trivial, hrest, hpre, 0, rfl, rf_ints⟩
theorem rf_meet : MeetableFor flags0 classFile x code maxLocals ret World_1 tables_1 room_1 Calls_1 rest_1 rf_Pre := ⟨launch0, _, _, _, _, _, _, rfl, rf_at⟩
/-- THE CLAIM IS REFUTED, in its own word for that -/
theorem rf_is_refuted : RefutedClaimed_1_2 := rf_refuted rf_meet
/-- so what is owed is false -/
theorem rf_owed_is_false : ¬ (Claimed_1_1 ∧ Claimed_1_2) := by
  rintro ⟨-, hc⟩
  obtain ⟨l, p, e, s, m, args, below, hfl, ⟨b1, b2, b3, -, b5, b6, b7, b8, b9, b10, b11, b12, b13⟩, n, o, h1, h2, h3, h4⟩ := rf_is_refuted
  obtain ⟨n2, o2, g1, g2, g3, g4⟩ := hc l hfl b1 b2 p e b3 b5 b6 s m args below b7 b8 b9 b10 ⟨b11, b12, b13⟩
  obtain ⟨rfl, rfl⟩ := the_end_unique (f := fun k => stepsAlone p.tables e k s) h1 h3 g1 g3
  exact h4 g4
end
