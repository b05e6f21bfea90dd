/-! the methods by their numbers; decided branches -/
theorem pg_0 : xpg[0]? = some mi_X0_raise := rfl
theorem pg_1 : xpg[1]? = some mi_X0_mix := rfl
theorem pg_2 : xpg[2]? = some mi_X0_shared := rfl
theorem pg_3 : xpg[3]? = some mi_X0_tag := rfl
theorem pg_4 : xpg[4]? = some mi_X0_fillKeys := rfl
theorem pg_5 : xpg[5]? = some mi_X1_init := rfl
theorem pg_6 : xpg[6]? = some mi_X1_address := rfl
theorem pg_7 : xpg[7]? = some mi_X1_writeOrder := rfl
theorem pg_8 : xpg[8]? = some mi_X1_copyBytes := rfl
theorem pg_9 : xpg[9]? = some mi_X1_pair := rfl
theorem pg_10 : xpg[10]? = some mi_X1_putPair := rfl
theorem pg_11 : xpg[11]? = some mi_X1_dataLength := rfl
theorem pg_12 : xpg[12]? = some mi_X1_wrap := rfl
theorem pg_13 : xpg[13]? = some mi_X1_fed := rfl
theorem pg_14 : xpg[14]? = some mi_X1_isKnownBy := rfl
theorem pg_15 : xpg[15]? = some mi_X2_init := rfl
theorem pg_16 : xpg[16]? = some mi_X2_isLive := rfl
theorem pg_17 : xpg[17]? = some mi_X2_hasHop := rfl
theorem pg_18 : xpg[18]? = some mi_X2_goesThrough := rfl
theorem pg_19 : xpg[19]? = some mi_X2_startAnew := rfl
theorem pg_20 : xpg[20]? = some mi_X2_askForHop := rfl
theorem pg_21 : xpg[21]? = some mi_X2_waitFor := rfl
theorem pg_22 : xpg[22]? = some mi_X2_askForStream := rfl
theorem pg_23 : xpg[23]? = some mi_X2_sendData := rfl
theorem pg_24 : xpg[24]? = some mi_X2_endStream := rfl
theorem pg_25 : xpg[25]? = some mi_X2_askToTruncate := rfl
theorem pg_26 : xpg[26]? = some mi_X2_order := rfl
theorem pg_27 : xpg[27]? = some mi_X2_sealTo := rfl
theorem pg_28 : xpg[28]? = some mi_X2_firstRelay := rfl
theorem pg_29 : xpg[29]? = some mi_X2_shut := rfl
theorem pg_30 : xpg[30]? = some mi_X2_becomeClosed := rfl
theorem pg_31 : xpg[31]? = some mi_X2_dropStreamsFrom := rfl
theorem pg_32 : xpg[32]? = some mi_X2_takes := rfl
theorem pg_33 : xpg[33]? = some mi_X2_takesCreated := rfl
theorem pg_34 : xpg[34]? = some mi_X2_takesRelay := rfl
theorem pg_35 : xpg[35]? = some mi_X2_addsHop := rfl
theorem pg_36 : xpg[36]? = some mi_X2_becomeReady := rfl
theorem pg_37 : xpg[37]? = some mi_X2_isKnown := rfl
theorem pg_38 : xpg[38]? = some mi_X2_follows := rfl
theorem pg_39 : xpg[39]? = some mi_X2_followOfStream := rfl
theorem pg_40 : xpg[40]? = some mi_X2_keepLatest := rfl
theorem pg_41 : xpg[41]? = some mi_X3_init := rfl
theorem pg_42 : xpg[42]? = some mi_X3_start := rfl
theorem pg_43 : xpg[43]? = some mi_X3_vanish := rfl
theorem pg_44 : xpg[44]? = some mi_X3_next := rfl
theorem pg_45 : xpg[45]? = some mi_X3_destroyNext := rfl
theorem pg_46 : xpg[46]? = some mi_X3_tearDown := rfl
theorem pg_47 : xpg[47]? = some mi_X3_takesCreated := rfl
theorem pg_48 : xpg[48]? = some mi_X3_takesDestroy := rfl
theorem pg_49 : xpg[49]? = some mi_X3_passOn := rfl
theorem pg_50 : xpg[50]? = some mi_X3_takesRelay := rfl
theorem pg_51 : xpg[51]? = some mi_X3_goesForward := rfl
theorem pg_52 : xpg[52]? = some mi_X3_isKnown := rfl
theorem pg_53 : xpg[53]? = some mi_X3_relayOn := rfl
theorem pg_54 : xpg[54]? = some mi_X3_follows := rfl
theorem pg_55 : xpg[55]? = some mi_X3_followsExtend := rfl
theorem pg_56 : xpg[56]? = some mi_X3_followBegin := rfl
theorem pg_57 : xpg[57]? = some mi_X3_followData := rfl
theorem pg_58 : xpg[58]? = some mi_X3_followTruncate := rfl
theorem pg_59 : xpg[59]? = some mi_X3_isOpen := rfl
theorem pg_60 : xpg[60]? = some mi_X3_orderBack := rfl
theorem pg_61 : xpg[61]? = some mi_X3_sealBack := rfl
theorem pg_62 : xpg[62]? = some mi_X4_init := rfl
theorem pg_63 : xpg[63]? = some mi_X4_takeSecret := rfl
theorem pg_64 : xpg[64]? = some mi_X4_hasPassage := rfl
theorem pg_65 : xpg[65]? = some mi_X4_takes := rfl
theorem pg_66 : xpg[66]? = some mi_X4_takesCreate := rfl
theorem pg_67 : xpg[67]? = some mi_X5_init := rfl
theorem pg_68 : xpg[68]? = some mi_X5_add := rfl
theorem pg_69 : xpg[69]? = some mi_X5_takeOut := rfl
theorem pg_70 : xpg[70]? = some mi_X6_init := rfl
theorem pg_71 : xpg[71]? = some mi_X6_become := rfl
theorem pg_72 : xpg[72]? = some mi_X7_init := rfl
theorem pg_73 : xpg[73]? = some mi_X7_secret := rfl
theorem pg_74 : xpg[74]? = some mi_X7_create := rfl
theorem pg_75 : xpg[75]? = some mi_X7_extend := rfl
theorem pg_76 : xpg[76]? = some mi_X7_begin := rfl
theorem pg_77 : xpg[77]? = some mi_X7_send := rfl
theorem pg_78 : xpg[78]? = some mi_X7_end := rfl
theorem pg_79 : xpg[79]? = some mi_X7_truncate := rfl
theorem pg_80 : xpg[80]? = some mi_X7_close := rfl
theorem pg_81 : xpg[81]? = some mi_X7_deliver := rfl
theorem pg_82 : xpg[82]? = some mi_X7_damage := rfl
theorem pg_83 : xpg[83]? = some mi_X7_lose := rfl
theorem pg_84 : xpg[84]? = some mi_X7_cell := rfl
theorem pg_85 : xpg[85]? = some mi_X7_circuit := rfl
theorem pg_86 : xpg[86]? = some mi_X7_key := rfl
theorem pg_87 : xpg[87]? = some mi_X7_relay := rfl
theorem pg_88 : xpg[88]? = some mi_X7_data := rfl
theorem pg_89 : xpg[89]? = some mi_X7_count := rfl
theorem pg_90 : xpg[90]? = some mi_X7_loss := rfl
theorem pg_91 : xpg[91]? = some mi_X7_readyCircuits := rfl
theorem pg_92 : xpg[92]? = some mi_X7_checkCircuit := rfl
theorem pg_93 : xpg[93]? = some mi_X7_checkRelay := rfl
theorem pg_94 : xpg[94]? = some mi_X7_checkStream := rfl
theorem pg_95 : xpg[95]? = some mi_X7_checkIndex := rfl
theorem pg_96 : xpg[96]? = some mi_X7_checkExponent := rfl
theorem pg_97 : xpg[97]? = some mi_X7_checkArgument := rfl
theorem pg_98 : xpg[98]? = some mi_X7_checkState := rfl
theorem pg_99 : xpg[99]? = some mi_X7_isByte := rfl
theorem pg_100 : xpg[100]? = some mi_X7_isStream := rfl
theorem pg_101 : xpg[101]? = some mi_X8_init := rfl
theorem pg_102 : xpg[102]? = some mi_X8_in := rfl
theorem pg_103 : xpg[103]? = some mi_X8_in := rfl
theorem pg_104 : xpg[104]? = some mi_X8_isCircuit := rfl
theorem pg_105 : xpg[105]? = some mi_X8_isRelay := rfl
theorem pg_106 : xpg[106]? = some mi_X8_raise := rfl
theorem pg_107 : xpg[107]? = some mi_X8_mix := rfl
theorem pg_108 : xpg[108]? = some mi_X8_agree := rfl
theorem pg_109 : xpg[109]? = some mi_X8_wrap := rfl
theorem pg_110 : xpg[110]? = some mi_X8_fed := rfl
theorem pg_111 : xpg[111]? = some mi_X8_pair := rfl
theorem pg_112 : xpg[112]? = some mi_X8_putPair := rfl
theorem pg_113 : xpg[113]? = some mi_X8_clearBytes := rfl
theorem pg_114 : xpg[114]? = some mi_X8_order := rfl
theorem pg_115 : xpg[115]? = some mi_X8_seal := rfl
theorem pg_116 : xpg[116]? = some mi_X8_isKnown := rfl
theorem pg_117 : xpg[117]? = some mi_X8_ship := rfl
theorem pg_118 : xpg[118]? = some mi_X8_destroy := rfl
theorem pg_119 : xpg[119]? = some mi_X8_remove := rfl
theorem pg_120 : xpg[120]? = some mi_X8_dropStreams := rfl
theorem pg_121 : xpg[121]? = some mi_X8_ended := rfl
theorem pg_122 : xpg[122]? = some mi_X8_closeNow := rfl
theorem pg_123 : xpg[123]? = some mi_X8_clientSends := rfl
theorem pg_124 : xpg[124]? = some mi_X8_meet := rfl
theorem pg_125 : xpg[125]? = some mi_X8_ofStream := rfl
theorem pg_126 : xpg[126]? = some mi_X8_clientFollows := rfl
theorem pg_127 : xpg[127]? = some mi_X8_toClient := rfl
theorem pg_128 : xpg[128]? = some mi_X8_place := rfl
theorem pg_129 : xpg[129]? = some mi_X8_forget := rfl
theorem pg_130 : xpg[130]? = some mi_X8_destroyOn := rfl
theorem pg_131 : xpg[131]? = some mi_X8_tear := rfl
theorem pg_132 : xpg[132]? = some mi_X8_relaySends := rfl
theorem pg_133 : xpg[133]? = some mi_X8_begun := rfl
theorem pg_134 : xpg[134]? = some mi_X8_extendAt := rfl
theorem pg_135 : xpg[135]? = some mi_X8_dataAt := rfl
theorem pg_136 : xpg[136]? = some mi_X8_relayFollows := rfl
theorem pg_137 : xpg[137]? = some mi_X8_relayed := rfl
theorem pg_138 : xpg[138]? = some mi_X8_toRelay := rfl
theorem pg_139 : xpg[139]? = some mi_X8_secret := rfl
theorem pg_140 : xpg[140]? = some mi_X8_create := rfl
theorem pg_141 : xpg[141]? = some mi_X8_extend := rfl
theorem pg_142 : xpg[142]? = some mi_X8_begin := rfl
theorem pg_143 : xpg[143]? = some mi_X8_send := rfl
theorem pg_144 : xpg[144]? = some mi_X8_end := rfl
theorem pg_145 : xpg[145]? = some mi_X8_isOn := rfl
theorem pg_146 : xpg[146]? = some mi_X8_truncate := rfl
theorem pg_147 : xpg[147]? = some mi_X8_close := rfl
theorem pg_148 : xpg[148]? = some mi_X8_deliver := rfl
theorem pg_149 : xpg[149]? = some mi_X8_damage := rfl
theorem pg_150 : xpg[150]? = some mi_X8_lose := rfl
theorem pg_151 : xpg[151]? = some mi_X8_out := rfl
theorem pg_152 : xpg[152]? = some mi_X8_cell := rfl
theorem pg_153 : xpg[153]? = some mi_X8_circuit := rfl
theorem pg_154 : xpg[154]? = some mi_X8_key := rfl
theorem pg_155 : xpg[155]? = some mi_X8_relay := rfl
theorem pg_156 : xpg[156]? = some mi_X8_data := rfl
theorem pg_157 : xpg[157]? = some mi_X8_readies := rfl
theorem pg_158 : xpg[158]? = some mi_X8_count := rfl
theorem pg_159 : xpg[159]? = some mi_X8_loss := rfl
theorem pg_160 : xpg[160]? = some mi_L_secret := rfl
theorem pg_161 : xpg[161]? = some mi_L_create := rfl
theorem pg_162 : xpg[162]? = some mi_L_extend := rfl
theorem pg_163 : xpg[163]? = some mi_L_begin := rfl
theorem pg_164 : xpg[164]? = some mi_L_send := rfl
theorem pg_165 : xpg[165]? = some mi_L_end := rfl
theorem pg_166 : xpg[166]? = some mi_L_truncate := rfl
theorem pg_167 : xpg[167]? = some mi_L_close := rfl
theorem pg_168 : xpg[168]? = some mi_L_deliver := rfl
theorem pg_169 : xpg[169]? = some mi_L_damage := rfl
theorem pg_170 : xpg[170]? = some mi_L_lose := rfl
theorem pg_171 : xpg[171]? = some mi_L_cell := rfl
theorem pg_172 : xpg[172]? = some mi_L_circuit := rfl
theorem pg_173 : xpg[173]? = some mi_L_key := rfl
theorem pg_174 : xpg[174]? = some mi_L_relay := rfl
theorem pg_175 : xpg[175]? = some mi_L_data := rfl
theorem pg_176 : xpg[176]? = some mi_L_count := rfl
theorem pg_177 : xpg[177]? = some mi_L_law := rfl
theorem xi_cp_i (c : ClassFile.Cond) (x y : Int32) : xi_cp c x y ↔ (match c with
  | .eq => x.toInt = y.toInt
  | .ne => ¬ x.toInt = y.toInt
  | .lt => x.toInt < y.toInt
  | .ge => y.toInt ≤ x.toInt
  | .gt => y.toInt < x.toInt
  | .le => x.toInt ≤ y.toInt) := by
  cases c
  · exact Int32.toInt_inj.symm
  · exact not_congr Int32.toInt_inj.symm
  · exact Int32.lt_iff_toInt_lt
  · exact Int32.le_iff_toInt_le
  · exact Int32.lt_iff_toInt_lt
  · exact Int32.le_iff_toInt_le
def xi_ci (c : ClassFile.Cond) (x y : Int) : Prop := match c with
  | .eq => x = y
  | .ne => ¬ x = y
  | .lt => x < y
  | .ge => y ≤ x
  | .gt => y < x
  | .le => x ≤ y
theorem xi_ci_cp {c : ClassFile.Cond} {x y : Int32} : xi_ci c x.toInt y.toInt ↔ xi_cp c x y := by
  rw [xi_cp_i]
  cases c <;> exact Iff.rfl
theorem xe_t2 {d m : Nat} {mi : xMi} (hp : xpg[m]? = some mi) {c : ClassFile.Cond} {off : Int} {len pc : Nat} (t : Nat) {lv : List (Nat × Value)} {x y : Int32} {st : List Value} {h : xHp} {r : xRs} (ht : xi_a (xi_tb mi) pc = some (.if_icmp c off, len)) (ho : (pc : Int) + off = (t : Int)) (hc : xi_ci c x.toInt y.toInt) (k : xe d m (t, lv, st) h r) : xe d m (pc, lv, .int y :: .int x :: st) h r :=
  xe_if2 hp t ht ho (fun _ => k) (fun q => absurd (xi_ci_cp.mp hc) q)
theorem xe_f2 {d m : Nat} {mi : xMi} (hp : xpg[m]? = some mi) {c : ClassFile.Cond} {off : Int} {len pc : Nat} (t : Nat) {lv : List (Nat × Value)} {x y : Int32} {st : List Value} {h : xHp} {r : xRs} (ht : xi_a (xi_tb mi) pc = some (.if_icmp c off, len)) (ho : (pc : Int) + off = (t : Int)) (hc : ¬ xi_ci c x.toInt y.toInt) (k : xe d m (pc + 3, lv, st) h r) : xe d m (pc, lv, .int y :: .int x :: st) h r :=
  xe_if2 hp t ht ho (fun q => absurd (xi_ci_cp.mpr q) hc) (fun _ => k)
theorem xe_t1 {d m : Nat} {mi : xMi} (hp : xpg[m]? = some mi) {c : ClassFile.Cond} {off : Int} {len pc : Nat} (t : Nat) {lv : List (Nat × Value)} {x : Int32} {st : List Value} {h : xHp} {r : xRs} (ht : xi_a (xi_tb mi) pc = some (.ifCond c off, len)) (ho : (pc : Int) + off = (t : Int)) (hc : xi_ci c x.toInt 0) (k : xe d m (t, lv, st) h r) : xe d m (pc, lv, .int x :: st) h r :=
  xe_if1 hp t ht ho (fun _ => k) (fun q => absurd (xi_ci_cp.mp hc) q)
theorem xe_f1 {d m : Nat} {mi : xMi} (hp : xpg[m]? = some mi) {c : ClassFile.Cond} {off : Int} {len pc : Nat} (t : Nat) {lv : List (Nat × Value)} {x : Int32} {st : List Value} {h : xHp} {r : xRs} (ht : xi_a (xi_tb mi) pc = some (.ifCond c off, len)) (ho : (pc : Int) + off = (t : Int)) (hc : ¬ xi_ci c x.toInt 0) (k : xe d m (pc + 3, lv, st) h r) : xe d m (pc, lv, .int x :: st) h r :=
  xe_if1 hp t ht ho (fun q => absurd (xi_ci_cp.mpr q) hc) (fun _ => k)
