/-! the code words, by their places; written by wip/whole/gen_names.py -/
set_option maxRecDepth 100000 in
theorem ax_cw_0 : lw_tbl[324]? = some (.code ⟨"RingKiln$Course", "<init>", "(LRingKiln$RuleBook;)V"⟩ prog_2_method_1_code 2 none) := by rfl
set_option maxRecDepth 100000 in
theorem ax_cw_1 : lw_tbl[798]? = some (.code ⟨"RingKiln$Course", "pass", "(LRingKiln$State;LRingKiln$Told;I)I"⟩ prog_2_method_2_code 4 (some .int)) := by rfl
set_option maxRecDepth 100000 in
theorem ax_cw_2 : lw_tbl[802]? = some (.code ⟨"RingKiln$Course", "wanted", "(LRingKiln$State;LRingKiln$Told;I)I"⟩ prog_2_method_3_code 5 (some .int)) := by rfl
set_option maxRecDepth 100000 in
theorem ax_cw_3 : lw_tbl[806]? = some (.code ⟨"RingKiln$Course", "gatherFacts", "(LRingKiln$State;LRingKiln$Told;I)V"⟩ prog_2_method_4_code 7 none) := by rfl
set_option maxRecDepth 100000 in
theorem ax_cw_4 : lw_tbl[843]? = some (.code ⟨"RingKiln$Course", "passWith", "(LRingKiln$State;LRingKiln$Told;I)I"⟩ prog_2_method_5_code 8 (some .int)) := by rfl
set_option maxRecDepth 100000 in
theorem ax_cw_5 : lw_tbl[852]? = some (.code ⟨"RingKiln$Course", "dryOrBurn", "([II)V"⟩ prog_2_method_6_code 3 none) := by rfl
set_option maxRecDepth 100000 in
theorem ax_cw_6 : lw_tbl[858]? = some (.code ⟨"RingKiln$Course", "fireBehind", "(LRingKiln$State;LRingKiln$Told;I)I"⟩ prog_2_method_7_code 4 (some .int)) := by rfl
set_option maxRecDepth 100000 in
theorem ax_cw_7 : lw_tbl[417]? = some (.code ⟨"RingKiln$Foresight", "<init>", "(LRingKiln$Works;LRingKiln$Course;)V"⟩ prog_3_method_1_code 3 none) := by rfl
set_option maxRecDepth 100000 in
theorem ax_cw_8 : lw_tbl[924]? = some (.code ⟨"RingKiln$Foresight", "stateAfter", "(I)LRingKiln$State;"⟩ prog_3_method_2_code 2 (some (.object "RingKiln$State"))) := by rfl
set_option maxRecDepth 100000 in
theorem ax_cw_9 : lw_tbl[933]? = some (.code ⟨"RingKiln$Foresight", "passDays", "(I)V"⟩ prog_3_method_3_code 3 none) := by rfl
set_option maxRecDepth 100000 in
theorem ax_cw_10 : lw_tbl[942]? = some (.code ⟨"RingKiln$Foresight", "firstDay", "(II)I"⟩ prog_3_method_4_code 6 (some .int)) := by rfl
set_option maxRecDepth 100000 in
theorem ax_cw_11 : lw_tbl[946]? = some (.code ⟨"RingKiln$Foresight", "isSo", "(III)Z"⟩ prog_3_method_5_code 5 (some .boolean)) := by rfl
set_option maxRecDepth 100000 in
theorem ax_cw_12 : lw_tbl[1007]? = some (.code ⟨"RingKiln$Foresight", "bestClay", "(III)I"⟩ prog_3_method_6_code 8 (some .int)) := by rfl
set_option maxRecDepth 100000 in
theorem ax_cw_13 : lw_tbl[1076]? = some (.code ⟨"RingKiln$Foresight", "restsOf", "(IIII)I"⟩ prog_3_method_7_code 9 (some .int)) := by rfl
set_option maxRecDepth 100000 in
theorem ax_cw_14 : lw_tbl[1080]? = some (.code ⟨"RingKiln$Foresight", "worthOf", "(I)I"⟩ prog_3_method_8_code 3 (some .int)) := by rfl
set_option maxRecDepth 100000 in
theorem ax_cw_15 : lw_tbl[1084]? = some (.code ⟨"RingKiln$Foresight", "isRest", "(III)Z"⟩ prog_3_method_9_code 5 (some .boolean)) := by rfl
set_option maxRecDepth 100000 in
theorem ax_cw_16 : lw_tbl[1092]? = some (.code ⟨"RingKiln$Foresight", "firstAlike", "(I)I"⟩ prog_3_method_10_code 4 (some .int)) := by rfl
set_option maxRecDepth 100000 in
theorem ax_cw_17 : lw_tbl[1097]? = some (.code ⟨"RingKiln$Foresight", "areAlike", "(II)Z"⟩ prog_3_method_11_code 4 (some .boolean)) := by rfl
set_option maxRecDepth 100000 in
theorem ax_cw_18 : lw_tbl[1147]? = some (.code ⟨"RingKiln$Foresight", "underRain", "(IIII)I"⟩ prog_3_method_12_code 10 (some .int)) := by rfl
set_option maxRecDepth 100000 in
theorem ax_cw_19 : lw_tbl[1150]? = some (.code ⟨"RingKiln$Foresight", "drawnBehind", "(I)I"⟩ prog_3_method_13_code 1 (some .int)) := by rfl
set_option maxRecDepth 100000 in
theorem ax_cw_20 : lw_tbl[1158]? = some (.code ⟨"RingKiln$Foresight", "rainOn", "(I)V"⟩ prog_3_method_14_code 5 none) := by rfl
set_option maxRecDepth 100000 in
theorem ax_cw_21 : lw_tbl[477]? = some (.code ⟨"RingKiln$Hindsight", "<init>", "(LRingKiln$Works;LRingKiln$Course;)V"⟩ prog_4_method_1_code 3 none) := by rfl
set_option maxRecDepth 100000 in
theorem ax_cw_22 : lw_tbl[1048]? = some (.code ⟨"RingKiln$Hindsight", "guessClay", "(IZI)I"⟩ prog_4_method_2_code 10 (some .int)) := by rfl
set_option maxRecDepth 100000 in
theorem ax_cw_23 : lw_tbl[1053]? = some (.code ⟨"RingKiln$Hindsight", "fits", "(LRingKiln$Told;I)Z"⟩ prog_4_method_3_code 5 (some .boolean)) := by rfl
set_option maxRecDepth 100000 in
theorem ax_cw_24 : lw_tbl[1118]? = some (.code ⟨"RingKiln$Hindsight", "guessRule", "(II)I"⟩ prog_4_method_4_code 6 (some .int)) := by rfl
set_option maxRecDepth 100000 in
theorem ax_cw_25 : lw_tbl[1126]? = some (.code ⟨"RingKiln$Hindsight", "bestLook", "(II)I"⟩ prog_4_method_5_code 8 (some .int)) := by rfl
set_option maxRecDepth 100000 in
theorem ax_cw_26 : lw_tbl[1130]? = some (.code ⟨"RingKiln$Hindsight", "tracePlaces", "(II)V"⟩ prog_4_method_6_code 4 none) := by rfl
set_option maxRecDepth 100000 in
theorem ax_cw_27 : lw_tbl[1134]? = some (.code ⟨"RingKiln$Hindsight", "mostAlike", "(II)I"⟩ prog_4_method_7_code 7 (some .int)) := by rfl
set_option maxRecDepth 100000 in
theorem ax_cw_28 : lw_tbl[185]? = some (.code ⟨"RingKiln$KilnReader", "<init>", "(LRingKiln$Tape;)V"⟩ prog_5_method_1_code 2 none) := by rfl
set_option maxRecDepth 100000 in
theorem ax_cw_29 : lw_tbl[549]? = some (.code ⟨"RingKiln$KilnReader", "read", "()I"⟩ prog_5_method_2_code 3 (some .int)) := by rfl
set_option maxRecDepth 100000 in
theorem ax_cw_30 : lw_tbl[623]? = some (.code ⟨"RingKiln$KilnReader", "readClause", "(I)Z"⟩ prog_5_method_3_code 3 (some .boolean)) := by rfl
set_option maxRecDepth 100000 in
theorem ax_cw_31 : lw_tbl[631]? = some (.code ⟨"RingKiln$KilnReader", "isTooMany", "(II)Z"⟩ prog_5_method_4_code 4 (some .boolean)) := by rfl
set_option maxRecDepth 100000 in
theorem ax_cw_32 : lw_tbl[636]? = some (.code ⟨"RingKiln$KilnReader", "readKiln", "()Z"⟩ prog_5_method_5_code 1 (some .boolean)) := by rfl
set_option maxRecDepth 100000 in
theorem ax_cw_33 : lw_tbl[640]? = some (.code ⟨"RingKiln$KilnReader", "isNumber", "(II)Z"⟩ prog_5_method_10_code 3 (some .boolean)) := by rfl
set_option maxRecDepth 100000 in
theorem ax_cw_34 : lw_tbl[644]? = some (.code ⟨"RingKiln$KilnReader", "takeNumber", "()I"⟩ prog_5_method_11_code 2 (some .int)) := by rfl
set_option maxRecDepth 100000 in
theorem ax_cw_35 : lw_tbl[648]? = some (.code ⟨"RingKiln$KilnReader", "readClay", "()Z"⟩ prog_5_method_6_code 2 (some .boolean)) := by rfl
set_option maxRecDepth 100000 in
theorem ax_cw_36 : lw_tbl[652]? = some (.code ⟨"RingKiln$KilnReader", "readSet", "()Z"⟩ prog_5_method_7_code 2 (some .boolean)) := by rfl
set_option maxRecDepth 100000 in
theorem ax_cw_37 : lw_tbl[656]? = some (.code ⟨"RingKiln$KilnReader", "readFire", "()Z"⟩ prog_5_method_8_code 1 (some .boolean)) := by rfl
set_option maxRecDepth 100000 in
theorem ax_cw_38 : lw_tbl[660]? = some (.code ⟨"RingKiln$KilnReader", "readOrder", "()Z"⟩ prog_5_method_9_code 2 (some .boolean)) := by rfl
set_option maxRecDepth 100000 in
theorem ax_cw_39 : lw_tbl[425]? = some (.code ⟨"RingKiln$RowSearch", "<init>", "(LRingKiln$Works;LRingKiln$Course;)V"⟩ prog_6_method_1_code 4 none) := by rfl
theorem ax_cwl_0 : ∀ q ∈ ax_Ml_0, Cond.code q.1 q.2.1 q.2.2.1 q.2.2.2.1 ∈ lw_tbl := List.forall_mem_cons.mpr ⟨List.mem_of_getElem? ax_cw_0, List.forall_mem_cons.mpr ⟨List.mem_of_getElem? ax_cw_1, List.forall_mem_cons.mpr ⟨List.mem_of_getElem? ax_cw_2, List.forall_mem_cons.mpr ⟨List.mem_of_getElem? ax_cw_3, List.forall_mem_cons.mpr ⟨List.mem_of_getElem? ax_cw_4, List.forall_mem_cons.mpr ⟨List.mem_of_getElem? ax_cw_5, List.forall_mem_cons.mpr ⟨List.mem_of_getElem? ax_cw_6, List.forall_mem_cons.mpr ⟨List.mem_of_getElem? ax_cw_7, List.forall_mem_cons.mpr ⟨List.mem_of_getElem? ax_cw_8, List.forall_mem_cons.mpr ⟨List.mem_of_getElem? ax_cw_9, List.forall_mem_cons.mpr ⟨List.mem_of_getElem? ax_cw_10, List.forall_mem_cons.mpr ⟨List.mem_of_getElem? ax_cw_11, List.forall_mem_cons.mpr ⟨List.mem_of_getElem? ax_cw_12, List.forall_mem_cons.mpr ⟨List.mem_of_getElem? ax_cw_13, List.forall_mem_cons.mpr ⟨List.mem_of_getElem? ax_cw_14, List.forall_mem_cons.mpr ⟨List.mem_of_getElem? ax_cw_15, List.forall_mem_cons.mpr ⟨List.mem_of_getElem? ax_cw_16, List.forall_mem_cons.mpr ⟨List.mem_of_getElem? ax_cw_17, List.forall_mem_cons.mpr ⟨List.mem_of_getElem? ax_cw_18, List.forall_mem_cons.mpr ⟨List.mem_of_getElem? ax_cw_19, List.forall_mem_cons.mpr ⟨List.mem_of_getElem? ax_cw_20, List.forall_mem_cons.mpr ⟨List.mem_of_getElem? ax_cw_21, List.forall_mem_cons.mpr ⟨List.mem_of_getElem? ax_cw_22, List.forall_mem_cons.mpr ⟨List.mem_of_getElem? ax_cw_23, List.forall_mem_cons.mpr ⟨List.mem_of_getElem? ax_cw_24, List.forall_mem_cons.mpr ⟨List.mem_of_getElem? ax_cw_25, List.forall_mem_cons.mpr ⟨List.mem_of_getElem? ax_cw_26, List.forall_mem_cons.mpr ⟨List.mem_of_getElem? ax_cw_27, List.forall_mem_cons.mpr ⟨List.mem_of_getElem? ax_cw_28, List.forall_mem_cons.mpr ⟨List.mem_of_getElem? ax_cw_29, List.forall_mem_cons.mpr ⟨List.mem_of_getElem? ax_cw_30, List.forall_mem_cons.mpr ⟨List.mem_of_getElem? ax_cw_31, List.forall_mem_cons.mpr ⟨List.mem_of_getElem? ax_cw_32, List.forall_mem_cons.mpr ⟨List.mem_of_getElem? ax_cw_33, List.forall_mem_cons.mpr ⟨List.mem_of_getElem? ax_cw_34, List.forall_mem_cons.mpr ⟨List.mem_of_getElem? ax_cw_35, List.forall_mem_cons.mpr ⟨List.mem_of_getElem? ax_cw_36, List.forall_mem_cons.mpr ⟨List.mem_of_getElem? ax_cw_37, List.forall_mem_cons.mpr ⟨List.mem_of_getElem? ax_cw_38, List.forall_mem_cons.mpr ⟨List.mem_of_getElem? ax_cw_39, fun _ h => absurd h List.not_mem_nil⟩⟩⟩⟩⟩⟩⟩⟩⟩⟩⟩⟩⟩⟩⟩⟩⟩⟩⟩⟩⟩⟩⟩⟩⟩⟩⟩⟩⟩⟩⟩⟩⟩⟩⟩⟩⟩⟩⟩⟩
set_option maxRecDepth 100000 in
theorem ax_cw_40 : lw_tbl[980]? = some (.code ⟨"RingKiln$RowSearch", "answer", "(III)I"⟩ prog_6_method_2_code 4 (some .int)) := by rfl
set_option maxRecDepth 100000 in
theorem ax_cw_41 : lw_tbl[985]? = some (.code ⟨"RingKiln$RowSearch", "tryAll", "(II)V"⟩ prog_6_method_3_code 6 none) := by rfl
set_option maxRecDepth 100000 in
theorem ax_cw_42 : lw_tbl[988]? = some (.code ⟨"RingKiln$RowSearch", "isAsBefore", "(LRingKiln$State;I)Z"⟩ prog_6_method_4_code 2 (some .boolean)) := by rfl
set_option maxRecDepth 100000 in
theorem ax_cw_43 : lw_tbl[993]? = some (.code ⟨"RingKiln$RowSearch", "gone", "(LRingKiln$State;)I"⟩ prog_6_method_5_code 2 (some .int)) := by rfl
set_option maxRecDepth 100000 in
theorem ax_cw_44 : lw_tbl[997]? = some (.code ⟨"RingKiln$RowSearch", "keepIfRipe", "(LRingKiln$State;I)V"⟩ prog_6_method_6_code 3 none) := by rfl
set_option maxRecDepth 100000 in
theorem ax_cw_45 : lw_tbl[279]? = some (.code ⟨"RingKiln$RuleBook", "<init>", "()V"⟩ prog_7_method_1_code 1 none) := by rfl
set_option maxRecDepth 100000 in
theorem ax_cw_46 : lw_tbl[822]? = some (.code ⟨"RingKiln$RuleBook", "wants", "(I[I)I"⟩ prog_7_method_2_code 9 (some .int)) := by rfl
set_option maxRecDepth 100000 in
theorem ax_cw_47 : lw_tbl[826]? = some (.code ⟨"RingKiln$RuleBook", "factAt", "([II)J"⟩ prog_7_method_3_code 2 (some .long)) := by rfl
set_option maxRecDepth 100000 in
theorem ax_cw_48 : lw_tbl[829]? = some (.code ⟨"RingKiln$RuleBook", "join", "(IJJ)J"⟩ prog_7_method_5_code 5 (some .long)) := by rfl
set_option maxRecDepth 100000 in
theorem ax_cw_49 : lw_tbl[832]? = some (.code ⟨"RingKiln$RuleBook", "asFed", "(J)I"⟩ prog_7_method_4_code 2 (some .int)) := by rfl
set_option maxRecDepth 100000 in
theorem ax_cw_50 : lw_tbl[305]? = some (.code ⟨"RingKiln$RuleReader", "<init>", "(LRingKiln$Tape;LRingKiln$RuleBook;)V"⟩ prog_8_method_1_code 3 none) := by rfl
set_option maxRecDepth 100000 in
theorem ax_cw_51 : lw_tbl[689]? = some (.code ⟨"RingKiln$RuleReader", "read", "()I"⟩ prog_8_method_2_code 4 (some .int)) := by rfl
set_option maxRecDepth 100000 in
theorem ax_cw_52 : lw_tbl[694]? = some (.code ⟨"RingKiln$RuleReader", "readHead", "(I)Z"⟩ prog_8_method_3_code 2 (some .boolean)) := by rfl
set_option maxRecDepth 100000 in
theorem ax_cw_53 : lw_tbl[704]? = some (.code ⟨"RingKiln$RuleReader", "readSum", "()Z"⟩ prog_8_method_8_code 5 (some .boolean)) := by rfl
set_option maxRecDepth 100000 in
theorem ax_cw_54 : lw_tbl[708]? = some (.code ⟨"RingKiln$RuleReader", "valueStep", "()I"⟩ prog_8_method_10_code 2 (some .int)) := by rfl
set_option maxRecDepth 100000 in
theorem ax_cw_55 : lw_tbl[712]? = some (.code ⟨"RingKiln$RuleReader", "countPart", "()Z"⟩ prog_8_method_9_code 1 (some .boolean)) := by rfl
set_option maxRecDepth 100000 in
theorem ax_cw_56 : lw_tbl[716]? = some (.code ⟨"RingKiln$RuleReader", "emit", "(I)V"⟩ prog_8_method_14_code 2 none) := by rfl
set_option maxRecDepth 100000 in
theorem ax_cw_57 : lw_tbl[720]? = some (.code ⟨"RingKiln$RuleReader", "productStep", "()I"⟩ prog_8_method_11_code 1 (some .int)) := by rfl
set_option maxRecDepth 100000 in
theorem ax_cw_58 : lw_tbl[725]? = some (.code ⟨"RingKiln$RuleReader", "sumStep", "()I"⟩ prog_8_method_12_code 1 (some .int)) := by rfl
set_option maxRecDepth 100000 in
theorem ax_cw_59 : lw_tbl[729]? = some (.code ⟨"RingKiln$RuleReader", "readTest", "(I)Z"⟩ prog_8_method_4_code 5 (some .boolean)) := by rfl
set_option maxRecDepth 100000 in
theorem ax_cw_60 : lw_tbl[733]? = some (.code ⟨"RingKiln$RuleReader", "readFact", "(I)Z"⟩ prog_8_method_5_code 6 (some .boolean)) := by rfl
set_option maxRecDepth 100000 in
theorem ax_cw_61 : lw_tbl[737]? = some (.code ⟨"RingKiln$RuleReader", "readBrackets", "(I)Z"⟩ prog_8_method_6_code 2 (some .boolean)) := by rfl
set_option maxRecDepth 100000 in
theorem ax_cw_62 : lw_tbl[741]? = some (.code ⟨"RingKiln$RuleReader", "takeComparison", "()I"⟩ prog_8_method_7_code 2 (some .int)) := by rfl
set_option maxRecDepth 100000 in
theorem ax_cw_63 : lw_tbl[745]? = some (.code ⟨"RingKiln$RuleReader", "comparisonStep", "()I"⟩ prog_8_method_13_code 2 (some .int)) := by rfl
set_option maxRecDepth 100000 in
theorem ax_cw_64 : lw_tbl[345]? = some (.code ⟨"RingKiln$State", "<init>", "()V"⟩ prog_9_method_1_code 1 none) := by rfl
set_option maxRecDepth 100000 in
theorem ax_cw_65 : lw_tbl[360]? = some (.code ⟨"RingKiln$State", "begin", "(LRingKiln$Told;)V"⟩ prog_9_method_3_code 3 none) := by rfl
set_option maxRecDepth 100000 in
theorem ax_cw_66 : lw_tbl[364]? = some (.code ⟨"RingKiln$State", "fill", "(LRingKiln$Told;II)V"⟩ prog_9_method_4_code 4 none) := by rfl
set_option maxRecDepth 100000 in
theorem ax_cw_67 : lw_tbl[762]? = some (.code ⟨"RingKiln$State", "kindOf", "(LRingKiln$Told;I)I"⟩ prog_9_method_8_code 6 (some .int)) := by rfl
set_option maxRecDepth 100000 in
theorem ax_cw_68 : lw_tbl[814]? = some (.code ⟨"RingKiln$State", "isSet", "(I)Z"⟩ prog_9_method_7_code 2 (some .boolean)) := by rfl
set_option maxRecDepth 100000 in
theorem ax_cw_69 : lw_tbl[818]? = some (.code ⟨"RingKiln$State", "storeOfAll", "()I"⟩ prog_9_method_12_code 3 (some .int)) := by rfl
set_option maxRecDepth 100000 in
theorem ax_cw_70 : lw_tbl[848]? = some (.code ⟨"RingKiln$State", "heat", "(II)V"⟩ prog_9_method_6_code 3 none) := by rfl
set_option maxRecDepth 100000 in
theorem ax_cw_71 : lw_tbl[886]? = some (.code ⟨"RingKiln$State", "drawFrom", "(II)V"⟩ prog_9_method_5_code 6 none) := by rfl
set_option maxRecDepth 100000 in
theorem ax_cw_72 : lw_tbl[928]? = some (.code ⟨"RingKiln$State", "copyFrom", "(LRingKiln$State;)V"⟩ prog_9_method_2_code 2 none) := by rfl
set_option maxRecDepth 100000 in
theorem ax_cw_73 : lw_tbl[971]? = some (.code ⟨"RingKiln$State", "goodBits", "(LRingKiln$Told;)I"⟩ prog_9_method_10_code 4 (some .int)) := by rfl
set_option maxRecDepth 100000 in
theorem ax_cw_74 : lw_tbl[1164]? = some (.code ⟨"RingKiln$State", "warmOfAll", "()I"⟩ prog_9_method_11_code 3 (some .int)) := by rfl
set_option maxRecDepth 100000 in
theorem ax_cw_75 : lw_tbl[1172]? = some (.code ⟨"RingKiln$State", "setBits", "()I"⟩ prog_9_method_9_code 3 (some .int)) := by rfl
set_option maxRecDepth 100000 in
theorem ax_cw_76 : lw_tbl[149]? = some (.code ⟨"RingKiln$Tape", "<init>", "()V"⟩ prog_10_method_1_code 1 none) := by rfl
set_option maxRecDepth 100000 in
theorem ax_cw_77 : lw_tbl[537]? = some (.code ⟨"RingKiln$Tape", "put", "(I)V"⟩ prog_10_method_2_code 3 none) := by rfl
set_option maxRecDepth 100000 in
theorem ax_cw_78 : lw_tbl[554]? = some (.code ⟨"RingKiln$Tape", "rewind", "()V"⟩ prog_10_method_3_code 1 none) := by rfl
set_option maxRecDepth 100000 in
theorem ax_cw_79 : lw_tbl[558]? = some (.code ⟨"RingKiln$Tape", "advance", "()V"⟩ prog_10_method_4_code 2 none) := by rfl
theorem ax_cwl_1 : ∀ q ∈ ax_Ml_1, Cond.code q.1 q.2.1 q.2.2.1 q.2.2.2.1 ∈ lw_tbl := List.forall_mem_cons.mpr ⟨List.mem_of_getElem? ax_cw_40, List.forall_mem_cons.mpr ⟨List.mem_of_getElem? ax_cw_41, List.forall_mem_cons.mpr ⟨List.mem_of_getElem? ax_cw_42, List.forall_mem_cons.mpr ⟨List.mem_of_getElem? ax_cw_43, List.forall_mem_cons.mpr ⟨List.mem_of_getElem? ax_cw_44, List.forall_mem_cons.mpr ⟨List.mem_of_getElem? ax_cw_45, List.forall_mem_cons.mpr ⟨List.mem_of_getElem? ax_cw_46, List.forall_mem_cons.mpr ⟨List.mem_of_getElem? ax_cw_47, List.forall_mem_cons.mpr ⟨List.mem_of_getElem? ax_cw_48, List.forall_mem_cons.mpr ⟨List.mem_of_getElem? ax_cw_49, List.forall_mem_cons.mpr ⟨List.mem_of_getElem? ax_cw_50, List.forall_mem_cons.mpr ⟨List.mem_of_getElem? ax_cw_51, List.forall_mem_cons.mpr ⟨List.mem_of_getElem? ax_cw_52, List.forall_mem_cons.mpr ⟨List.mem_of_getElem? ax_cw_53, List.forall_mem_cons.mpr ⟨List.mem_of_getElem? ax_cw_54, List.forall_mem_cons.mpr ⟨List.mem_of_getElem? ax_cw_55, List.forall_mem_cons.mpr ⟨List.mem_of_getElem? ax_cw_56, List.forall_mem_cons.mpr ⟨List.mem_of_getElem? ax_cw_57, List.forall_mem_cons.mpr ⟨List.mem_of_getElem? ax_cw_58, List.forall_mem_cons.mpr ⟨List.mem_of_getElem? ax_cw_59, List.forall_mem_cons.mpr ⟨List.mem_of_getElem? ax_cw_60, List.forall_mem_cons.mpr ⟨List.mem_of_getElem? ax_cw_61, List.forall_mem_cons.mpr ⟨List.mem_of_getElem? ax_cw_62, List.forall_mem_cons.mpr ⟨List.mem_of_getElem? ax_cw_63, List.forall_mem_cons.mpr ⟨List.mem_of_getElem? ax_cw_64, List.forall_mem_cons.mpr ⟨List.mem_of_getElem? ax_cw_65, List.forall_mem_cons.mpr ⟨List.mem_of_getElem? ax_cw_66, List.forall_mem_cons.mpr ⟨List.mem_of_getElem? ax_cw_67, List.forall_mem_cons.mpr ⟨List.mem_of_getElem? ax_cw_68, List.forall_mem_cons.mpr ⟨List.mem_of_getElem? ax_cw_69, List.forall_mem_cons.mpr ⟨List.mem_of_getElem? ax_cw_70, List.forall_mem_cons.mpr ⟨List.mem_of_getElem? ax_cw_71, List.forall_mem_cons.mpr ⟨List.mem_of_getElem? ax_cw_72, List.forall_mem_cons.mpr ⟨List.mem_of_getElem? ax_cw_73, List.forall_mem_cons.mpr ⟨List.mem_of_getElem? ax_cw_74, List.forall_mem_cons.mpr ⟨List.mem_of_getElem? ax_cw_75, List.forall_mem_cons.mpr ⟨List.mem_of_getElem? ax_cw_76, List.forall_mem_cons.mpr ⟨List.mem_of_getElem? ax_cw_77, List.forall_mem_cons.mpr ⟨List.mem_of_getElem? ax_cw_78, List.forall_mem_cons.mpr ⟨List.mem_of_getElem? ax_cw_79, fun _ h => absurd h List.not_mem_nil⟩⟩⟩⟩⟩⟩⟩⟩⟩⟩⟩⟩⟩⟩⟩⟩⟩⟩⟩⟩⟩⟩⟩⟩⟩⟩⟩⟩⟩⟩⟩⟩⟩⟩⟩⟩⟩⟩⟩⟩
set_option maxRecDepth 100000 in
theorem ax_cw_80 : lw_tbl[562]? = some (.code ⟨"RingKiln$Tape", "scanNumber", "()V"⟩ prog_10_method_5_code 2 none) := by rfl
set_option maxRecDepth 100000 in
theorem ax_cw_81 : lw_tbl[566]? = some (.code ⟨"RingKiln$Tape", "scanWord", "()V"⟩ prog_10_method_6_code 5 none) := by rfl
set_option maxRecDepth 100000 in
theorem ax_cw_82 : lw_tbl[619]? = some (.code ⟨"RingKiln$Tape", "scanSign", "(I)V"⟩ prog_10_method_7_code 3 none) := by rfl
set_option maxRecDepth 100000 in
theorem ax_cw_83 : lw_tbl[627]? = some (.code ⟨"RingKiln$Tape", "fail", "(I)Z"⟩ prog_10_method_11_code 2 (some .boolean)) := by rfl
set_option maxRecDepth 100000 in
theorem ax_cw_84 : lw_tbl[664]? = some (.code ⟨"RingKiln$Tape", "goesOn", "()Z"⟩ prog_10_method_10_code 1 (some .boolean)) := by rfl
set_option maxRecDepth 100000 in
theorem ax_cw_85 : lw_tbl[668]? = some (.code ⟨"RingKiln$Tape", "isSign", "(I)Z"⟩ prog_10_method_9_code 2 (some .boolean)) := by rfl
set_option maxRecDepth 100000 in
theorem ax_cw_86 : lw_tbl[698]? = some (.code ⟨"RingKiln$Tape", "isWord", "(I)Z"⟩ prog_10_method_8_code 2 (some .boolean)) := by rfl
set_option maxRecDepth 100000 in
theorem ax_cw_87 : lw_tbl[191]? = some (.code ⟨"RingKiln$Told", "<init>", "()V"⟩ prog_11_method_1_code 1 none) := by rfl
set_option maxRecDepth 100000 in
theorem ax_cw_88 : lw_tbl[196]? = some (.code ⟨"RingKiln$Told", "clear", "()V"⟩ prog_11_method_2_code 2 none) := by rfl
set_option maxRecDepth 100000 in
theorem ax_cw_89 : lw_tbl[677]? = some (.code ⟨"RingKiln$Told", "copyFrom", "(LRingKiln$Told;)V"⟩ prog_11_method_3_code 2 none) := by rfl
set_option maxRecDepth 100000 in
theorem ax_cw_90 : lw_tbl[810]? = some (.code ⟨"RingKiln$Told", "nextTo", "(I)I"⟩ prog_11_method_4_code 2 (some .int)) := by rfl
set_option maxRecDepth 100000 in
theorem ax_cw_91 : lw_tbl[337]? = some (.code ⟨"RingKiln$Works", "<init>", "()V"⟩ prog_12_method_1_code 1 none) := by rfl
set_option maxRecDepth 100000 in
theorem ax_cw_92 : lw_tbl[673]? = some (.code ⟨"RingKiln$Works", "startAs", "(LRingKiln$Told;)V"⟩ prog_12_method_2_code 2 none) := by rfl
set_option maxRecDepth 100000 in
theorem ax_cw_93 : lw_tbl[758]? = some (.code ⟨"RingKiln$Works", "hasChamber", "(I)Z"⟩ prog_12_method_7_code 2 (some .boolean)) := by rfl
set_option maxRecDepth 100000 in
theorem ax_cw_94 : lw_tbl[770]? = some (.code ⟨"RingKiln$Works", "hasClay", "(I)Z"⟩ prog_12_method_11_code 2 (some .boolean)) := by rfl
set_option maxRecDepth 100000 in
theorem ax_cw_95 : lw_tbl[778]? = some (.code ⟨"RingKiln$Works", "hasOrder", "(I)Z"⟩ prog_12_method_12_code 2 (some .boolean)) := by rfl
set_option maxRecDepth 100000 in
theorem ax_cw_96 : lw_tbl[786]? = some (.code ⟨"RingKiln$Works", "isBuilt", "()Z"⟩ prog_12_method_6_code 1 (some .boolean)) := by rfl
set_option maxRecDepth 100000 in
theorem ax_cw_97 : lw_tbl[790]? = some (.code ⟨"RingKiln$Works", "remember", "()V"⟩ prog_12_method_4_code 1 none) := by rfl
set_option maxRecDepth 100000 in
theorem ax_cw_98 : lw_tbl[867]? = some (.code ⟨"RingKiln$Works", "hasEmptyChamber", "(I)Z"⟩ prog_12_method_9_code 2 (some .boolean)) := by rfl
set_option maxRecDepth 100000 in
theorem ax_cw_99 : lw_tbl[873]? = some (.code ⟨"RingKiln$Works", "isCool", "(I)Z"⟩ prog_12_method_10_code 2 (some .boolean)) := by rfl
set_option maxRecDepth 100000 in
theorem ax_cw_100 : lw_tbl[882]? = some (.code ⟨"RingKiln$Works", "hasSetChamber", "(I)Z"⟩ prog_12_method_8_code 2 (some .boolean)) := by rfl
set_option maxRecDepth 100000 in
theorem ax_cw_101 : lw_tbl[904]? = some (.code ⟨"RingKiln$Works", "canSend", "(I)Z"⟩ prog_12_method_14_code 3 (some .boolean)) := by rfl
set_option maxRecDepth 100000 in
theorem ax_cw_102 : lw_tbl[908]? = some (.code ⟨"RingKiln$Works", "isSent", "(I)Z"⟩ prog_12_method_13_code 2 (some .boolean)) := by rfl
set_option maxRecDepth 100000 in
theorem ax_cw_103 : lw_tbl[916]? = some (.code ⟨"RingKiln$Works", "forgetLast", "()V"⟩ prog_12_method_5_code 1 none) := by rfl
set_option maxRecDepth 100000 in
theorem ax_cw_104 : lw_tbl[1023]? = some (.code ⟨"RingKiln$Works", "bestOrders", "()I"⟩ prog_12_method_16_code 5 (some .int)) := by rfl
set_option maxRecDepth 100000 in
theorem ax_cw_105 : lw_tbl[1027]? = some (.code ⟨"RingKiln$Works", "manyOf", "(I)I"⟩ prog_12_method_17_code 4 (some .int)) := by rfl
set_option maxRecDepth 100000 in
theorem ax_cw_106 : lw_tbl[1031]? = some (.code ⟨"RingKiln$Works", "canSendAll", "(I)Z"⟩ prog_12_method_18_code 6 (some .boolean)) := by rfl
set_option maxRecDepth 100000 in
theorem ax_cw_107 : lw_tbl[1040]? = some (.code ⟨"RingKiln$Works", "lateBits", "()I"⟩ prog_12_method_15_code 4 (some .int)) := by rfl
set_option maxRecDepth 100000 in
theorem ax_cw_108 : lw_tbl[1058]? = some (.code ⟨"RingKiln$Works", "lastNotedDay", "()I"⟩ prog_12_method_20_code 3 (some .int)) := by rfl
set_option maxRecDepth 100000 in
theorem ax_cw_109 : lw_tbl[1064]? = some (.code ⟨"RingKiln$Works", "notesAllow", "(II)Z"⟩ prog_12_method_21_code 4 (some .boolean)) := by rfl
set_option maxRecDepth 100000 in
theorem ax_cw_110 : lw_tbl[1105]? = some (.code ⟨"RingKiln$Works", "shareOf", "(II)I"⟩ prog_12_method_19_code 10 (some .int)) := by rfl
set_option maxRecDepth 100000 in
theorem ax_cw_111 : lw_tbl[1182]? = some (.code ⟨"RingKiln$Works", "copyFrom", "(LRingKiln$Works;)V"⟩ prog_12_method_3_code 2 none) := by rfl
set_option maxRecDepth 100000 in
theorem ax_cw_112 : lw_tbl[141]? = some (.code ⟨"RingKiln", "<init>", "()V"⟩ prog_1_method_1_code 2 none) := by rfl
set_option maxRecDepth 100000 in
theorem ax_cw_113 : lw_tbl[533]? = some (.code ⟨"RingKiln", "feed", "(IIIII)I"⟩ prog_1_method_2_code 6 (some .int)) := by rfl
set_option maxRecDepth 100000 in
theorem ax_cw_114 : lw_tbl[541]? = some (.code ⟨"RingKiln", "end", "(I)I"⟩ prog_1_method_3_code 2 (some .int)) := by rfl
set_option maxRecDepth 100000 in
theorem ax_cw_115 : lw_tbl[545]? = some (.code ⟨"RingKiln", "kiln", "()I"⟩ prog_1_method_4_code 2 (some .int)) := by rfl
set_option maxRecDepth 100000 in
theorem ax_cw_116 : lw_tbl[685]? = some (.code ⟨"RingKiln", "rule", "()I"⟩ prog_1_method_5_code 2 (some .int)) := by rfl
set_option maxRecDepth 100000 in
theorem ax_cw_117 : lw_tbl[750]? = some (.code ⟨"RingKiln", "force", "(I)I"⟩ prog_1_method_6_code 3 (some .int)) := by rfl
set_option maxRecDepth 100000 in
theorem ax_cw_118 : lw_tbl[754]? = some (.code ⟨"RingKiln", "chamber", "(II)I"⟩ prog_1_method_7_code 4 (some .int)) := by rfl
set_option maxRecDepth 100000 in
theorem ax_cw_119 : lw_tbl[766]? = some (.code ⟨"RingKiln", "clay", "(II)I"⟩ prog_1_method_8_code 3 (some .int)) := by rfl
theorem ax_cwl_2 : ∀ q ∈ ax_Ml_2, Cond.code q.1 q.2.1 q.2.2.1 q.2.2.2.1 ∈ lw_tbl := List.forall_mem_cons.mpr ⟨List.mem_of_getElem? ax_cw_80, List.forall_mem_cons.mpr ⟨List.mem_of_getElem? ax_cw_81, List.forall_mem_cons.mpr ⟨List.mem_of_getElem? ax_cw_82, List.forall_mem_cons.mpr ⟨List.mem_of_getElem? ax_cw_83, List.forall_mem_cons.mpr ⟨List.mem_of_getElem? ax_cw_84, List.forall_mem_cons.mpr ⟨List.mem_of_getElem? ax_cw_85, List.forall_mem_cons.mpr ⟨List.mem_of_getElem? ax_cw_86, List.forall_mem_cons.mpr ⟨List.mem_of_getElem? ax_cw_87, List.forall_mem_cons.mpr ⟨List.mem_of_getElem? ax_cw_88, List.forall_mem_cons.mpr ⟨List.mem_of_getElem? ax_cw_89, List.forall_mem_cons.mpr ⟨List.mem_of_getElem? ax_cw_90, List.forall_mem_cons.mpr ⟨List.mem_of_getElem? ax_cw_91, List.forall_mem_cons.mpr ⟨List.mem_of_getElem? ax_cw_92, List.forall_mem_cons.mpr ⟨List.mem_of_getElem? ax_cw_93, List.forall_mem_cons.mpr ⟨List.mem_of_getElem? ax_cw_94, List.forall_mem_cons.mpr ⟨List.mem_of_getElem? ax_cw_95, List.forall_mem_cons.mpr ⟨List.mem_of_getElem? ax_cw_96, List.forall_mem_cons.mpr ⟨List.mem_of_getElem? ax_cw_97, List.forall_mem_cons.mpr ⟨List.mem_of_getElem? ax_cw_98, List.forall_mem_cons.mpr ⟨List.mem_of_getElem? ax_cw_99, List.forall_mem_cons.mpr ⟨List.mem_of_getElem? ax_cw_100, List.forall_mem_cons.mpr ⟨List.mem_of_getElem? ax_cw_101, List.forall_mem_cons.mpr ⟨List.mem_of_getElem? ax_cw_102, List.forall_mem_cons.mpr ⟨List.mem_of_getElem? ax_cw_103, List.forall_mem_cons.mpr ⟨List.mem_of_getElem? ax_cw_104, List.forall_mem_cons.mpr ⟨List.mem_of_getElem? ax_cw_105, List.forall_mem_cons.mpr ⟨List.mem_of_getElem? ax_cw_106, List.forall_mem_cons.mpr ⟨List.mem_of_getElem? ax_cw_107, List.forall_mem_cons.mpr ⟨List.mem_of_getElem? ax_cw_108, List.forall_mem_cons.mpr ⟨List.mem_of_getElem? ax_cw_109, List.forall_mem_cons.mpr ⟨List.mem_of_getElem? ax_cw_110, List.forall_mem_cons.mpr ⟨List.mem_of_getElem? ax_cw_111, List.forall_mem_cons.mpr ⟨List.mem_of_getElem? ax_cw_112, List.forall_mem_cons.mpr ⟨List.mem_of_getElem? ax_cw_113, List.forall_mem_cons.mpr ⟨List.mem_of_getElem? ax_cw_114, List.forall_mem_cons.mpr ⟨List.mem_of_getElem? ax_cw_115, List.forall_mem_cons.mpr ⟨List.mem_of_getElem? ax_cw_116, List.forall_mem_cons.mpr ⟨List.mem_of_getElem? ax_cw_117, List.forall_mem_cons.mpr ⟨List.mem_of_getElem? ax_cw_118, List.forall_mem_cons.mpr ⟨List.mem_of_getElem? ax_cw_119, fun _ h => absurd h List.not_mem_nil⟩⟩⟩⟩⟩⟩⟩⟩⟩⟩⟩⟩⟩⟩⟩⟩⟩⟩⟩⟩⟩⟩⟩⟩⟩⟩⟩⟩⟩⟩⟩⟩⟩⟩⟩⟩⟩⟩⟩⟩
set_option maxRecDepth 100000 in
theorem ax_cw_120 : lw_tbl[774]? = some (.code ⟨"RingKiln", "order", "(II)I"⟩ prog_1_method_9_code 3 (some .int)) := by rfl
set_option maxRecDepth 100000 in
theorem ax_cw_121 : lw_tbl[782]? = some (.code ⟨"RingKiln", "day", "()I"⟩ prog_1_method_10_code 1 (some .int)) := by rfl
set_option maxRecDepth 100000 in
theorem ax_cw_122 : lw_tbl[863]? = some (.code ⟨"RingKiln", "set", "(II)I"⟩ prog_1_method_11_code 3 (some .int)) := by rfl
set_option maxRecDepth 100000 in
theorem ax_cw_123 : lw_tbl[878]? = some (.code ⟨"RingKiln", "draw", "(I)I"⟩ prog_1_method_12_code 3 (some .int)) := by rfl
set_option maxRecDepth 100000 in
theorem ax_cw_124 : lw_tbl[890]? = some (.code ⟨"RingKiln", "light", "(I)I"⟩ prog_1_method_13_code 3 (some .int)) := by rfl
set_option maxRecDepth 100000 in
theorem ax_cw_125 : lw_tbl[895]? = some (.code ⟨"RingKiln", "buy", "(I)I"⟩ prog_1_method_14_code 3 (some .int)) := by rfl
set_option maxRecDepth 100000 in
theorem ax_cw_126 : lw_tbl[900]? = some (.code ⟨"RingKiln", "send", "(I)I"⟩ prog_1_method_15_code 4 (some .int)) := by rfl
set_option maxRecDepth 100000 in
theorem ax_cw_127 : lw_tbl[912]? = some (.code ⟨"RingKiln", "undo", "()I"⟩ prog_1_method_16_code 1 (some .int)) := by rfl
set_option maxRecDepth 100000 in
theorem ax_cw_128 : lw_tbl[920]? = some (.code ⟨"RingKiln", "ahead", "(III)I"⟩ prog_1_method_17_code 5 (some .int)) := by rfl
set_option maxRecDepth 100000 in
theorem ax_cw_129 : lw_tbl[938]? = some (.code ⟨"RingKiln", "out", "()I"⟩ prog_1_method_18_code 1 (some .int)) := by rfl
set_option maxRecDepth 100000 in
theorem ax_cw_130 : lw_tbl[951]? = some (.code ⟨"RingKiln", "comes", "(I)I"⟩ prog_1_method_19_code 2 (some .int)) := by rfl
set_option maxRecDepth 100000 in
theorem ax_cw_131 : lw_tbl[955]? = some (.code ⟨"RingKiln", "ripe", "(I)I"⟩ prog_1_method_20_code 2 (some .int)) := by rfl
set_option maxRecDepth 100000 in
theorem ax_cw_132 : lw_tbl[959]? = some (.code ⟨"RingKiln", "spoilt", "(I)I"⟩ prog_1_method_21_code 2 (some .int)) := by rfl
set_option maxRecDepth 100000 in
theorem ax_cw_133 : lw_tbl[963]? = some (.code ⟨"RingKiln", "cold", "(I)I"⟩ prog_1_method_22_code 2 (some .int)) := by rfl
set_option maxRecDepth 100000 in
theorem ax_cw_134 : lw_tbl[967]? = some (.code ⟨"RingKiln", "goods", "(I)I"⟩ prog_1_method_23_code 2 (some .int)) := by rfl
set_option maxRecDepth 100000 in
theorem ax_cw_135 : lw_tbl[976]? = some (.code ⟨"RingKiln", "row", "(III)I"⟩ prog_1_method_24_code 4 (some .int)) := by rfl
set_option maxRecDepth 100000 in
theorem ax_cw_136 : lw_tbl[1003]? = some (.code ⟨"RingKiln", "plan", "(III)I"⟩ prog_1_method_25_code 4 (some .int)) := by rfl
set_option maxRecDepth 100000 in
theorem ax_cw_137 : lw_tbl[1019]? = some (.code ⟨"RingKiln", "meet", "(I)I"⟩ prog_1_method_26_code 3 (some .int)) := by rfl
set_option maxRecDepth 100000 in
theorem ax_cw_138 : lw_tbl[1036]? = some (.code ⟨"RingKiln", "late", "()I"⟩ prog_1_method_27_code 1 (some .int)) := by rfl
set_option maxRecDepth 100000 in
theorem ax_cw_139 : lw_tbl[1044]? = some (.code ⟨"RingKiln", "need", "(II)I"⟩ prog_1_method_28_code 3 (some .int)) := by rfl
set_option maxRecDepth 100000 in
theorem ax_cw_140 : lw_tbl[1068]? = some (.code ⟨"RingKiln", "damp", "(II)I"⟩ prog_1_method_29_code 3 (some .int)) := by rfl
set_option maxRecDepth 100000 in
theorem ax_cw_141 : lw_tbl[1072]? = some (.code ⟨"RingKiln", "rests", "(IIII)I"⟩ prog_1_method_30_code 5 (some .int)) := by rfl
set_option maxRecDepth 100000 in
theorem ax_cw_142 : lw_tbl[1088]? = some (.code ⟨"RingKiln", "alike", "(I)I"⟩ prog_1_method_31_code 2 (some .int)) := by rfl
set_option maxRecDepth 100000 in
theorem ax_cw_143 : lw_tbl[1101]? = some (.code ⟨"RingKiln", "pence", "(II)I"⟩ prog_1_method_32_code 3 (some .int)) := by rfl
set_option maxRecDepth 100000 in
theorem ax_cw_144 : lw_tbl[1110]? = some (.code ⟨"RingKiln", "note", "(II)I"⟩ prog_1_method_33_code 3 (some .int)) := by rfl
set_option maxRecDepth 100000 in
theorem ax_cw_145 : lw_tbl[1114]? = some (.code ⟨"RingKiln", "ruled", "(I)I"⟩ prog_1_method_34_code 2 (some .int)) := by rfl
set_option maxRecDepth 100000 in
theorem ax_cw_146 : lw_tbl[1122]? = some (.code ⟨"RingKiln", "look", "(I)I"⟩ prog_1_method_35_code 2 (some .int)) := by rfl
set_option maxRecDepth 100000 in
theorem ax_cw_147 : lw_tbl[1139]? = some (.code ⟨"RingKiln", "seed", "(I)I"⟩ prog_1_method_36_code 3 (some .int)) := by rfl
set_option maxRecDepth 100000 in
theorem ax_cw_148 : lw_tbl[1143]? = some (.code ⟨"RingKiln", "rains", "(IIII)I"⟩ prog_1_method_37_code 5 (some .int)) := by rfl
set_option maxRecDepth 100000 in
theorem ax_cw_149 : lw_tbl[1168]? = some (.code ⟨"RingKiln", "count", "(I)I"⟩ prog_1_method_38_code 3 (some .int)) := by rfl
set_option maxRecDepth 100000 in
theorem ax_cw_150 : lw_tbl[1178]? = some (.code ⟨"RingKiln", "image", "(I)I"⟩ prog_1_method_39_code 2 (some .int)) := by rfl
set_option maxRecDepth 100000 in
theorem ax_cw_151 : lw_tbl[1187]? = some (.code ⟨"RingKiln", "back", "(I)I"⟩ prog_1_method_40_code 2 (some .int)) := by rfl
set_option maxRecDepth 100000 in
theorem ax_cw_152 : lw_tbl[1192]? = some (.code ⟨"RingKilnModel", "<init>", "()V"⟩ prog_14_method_1_code 1 none) := by rfl
set_option maxRecDepth 100000 in
theorem ax_cw_153 : lw_tbl[1377]? = some (.code ⟨"RingKilnModel", "feed", "(IIIII)I"⟩ prog_14_method_12_code 6 (some .int)) := by rfl
set_option maxRecDepth 100000 in
theorem ax_cw_154 : lw_tbl[1381]? = some (.code ⟨"RingKilnModel", "put", "(I)V"⟩ prog_14_method_13_code 3 none) := by rfl
set_option maxRecDepth 100000 in
theorem ax_cw_155 : lw_tbl[1385]? = some (.code ⟨"RingKilnModel", "end", "(I)I"⟩ prog_14_method_14_code 2 (some .int)) := by rfl
set_option maxRecDepth 100000 in
theorem ax_cw_156 : lw_tbl[1389]? = some (.code ⟨"RingKilnModel", "kiln", "()I"⟩ prog_14_method_47_code 2 (some .int)) := by rfl
set_option maxRecDepth 100000 in
theorem ax_cw_157 : lw_tbl[1393]? = some (.code ⟨"RingKilnModel", "readsAll", "()V"⟩ prog_14_method_45_code 3 none) := by rfl
set_option maxRecDepth 100000 in
theorem ax_cw_158 : lw_tbl[1397]? = some (.code ⟨"RingKilnModel", "starts", "()V"⟩ prog_14_method_44_code 1 none) := by rfl
set_option maxRecDepth 100000 in
theorem ax_cw_159 : lw_tbl[1401]? = some (.code ⟨"RingKilnModel", "kilnClause", "(I)V"⟩ prog_14_method_41_code 4 none) := by rfl
theorem ax_cwl_3 : ∀ q ∈ ax_Ml_3, Cond.code q.1 q.2.1 q.2.2.1 q.2.2.2.1 ∈ lw_tbl := List.forall_mem_cons.mpr ⟨List.mem_of_getElem? ax_cw_120, List.forall_mem_cons.mpr ⟨List.mem_of_getElem? ax_cw_121, List.forall_mem_cons.mpr ⟨List.mem_of_getElem? ax_cw_122, List.forall_mem_cons.mpr ⟨List.mem_of_getElem? ax_cw_123, List.forall_mem_cons.mpr ⟨List.mem_of_getElem? ax_cw_124, List.forall_mem_cons.mpr ⟨List.mem_of_getElem? ax_cw_125, List.forall_mem_cons.mpr ⟨List.mem_of_getElem? ax_cw_126, List.forall_mem_cons.mpr ⟨List.mem_of_getElem? ax_cw_127, List.forall_mem_cons.mpr ⟨List.mem_of_getElem? ax_cw_128, List.forall_mem_cons.mpr ⟨List.mem_of_getElem? ax_cw_129, List.forall_mem_cons.mpr ⟨List.mem_of_getElem? ax_cw_130, List.forall_mem_cons.mpr ⟨List.mem_of_getElem? ax_cw_131, List.forall_mem_cons.mpr ⟨List.mem_of_getElem? ax_cw_132, List.forall_mem_cons.mpr ⟨List.mem_of_getElem? ax_cw_133, List.forall_mem_cons.mpr ⟨List.mem_of_getElem? ax_cw_134, List.forall_mem_cons.mpr ⟨List.mem_of_getElem? ax_cw_135, List.forall_mem_cons.mpr ⟨List.mem_of_getElem? ax_cw_136, List.forall_mem_cons.mpr ⟨List.mem_of_getElem? ax_cw_137, List.forall_mem_cons.mpr ⟨List.mem_of_getElem? ax_cw_138, List.forall_mem_cons.mpr ⟨List.mem_of_getElem? ax_cw_139, List.forall_mem_cons.mpr ⟨List.mem_of_getElem? ax_cw_140, List.forall_mem_cons.mpr ⟨List.mem_of_getElem? ax_cw_141, List.forall_mem_cons.mpr ⟨List.mem_of_getElem? ax_cw_142, List.forall_mem_cons.mpr ⟨List.mem_of_getElem? ax_cw_143, List.forall_mem_cons.mpr ⟨List.mem_of_getElem? ax_cw_144, List.forall_mem_cons.mpr ⟨List.mem_of_getElem? ax_cw_145, List.forall_mem_cons.mpr ⟨List.mem_of_getElem? ax_cw_146, List.forall_mem_cons.mpr ⟨List.mem_of_getElem? ax_cw_147, List.forall_mem_cons.mpr ⟨List.mem_of_getElem? ax_cw_148, List.forall_mem_cons.mpr ⟨List.mem_of_getElem? ax_cw_149, List.forall_mem_cons.mpr ⟨List.mem_of_getElem? ax_cw_150, List.forall_mem_cons.mpr ⟨List.mem_of_getElem? ax_cw_151, List.forall_mem_cons.mpr ⟨List.mem_of_getElem? ax_cw_152, List.forall_mem_cons.mpr ⟨List.mem_of_getElem? ax_cw_153, List.forall_mem_cons.mpr ⟨List.mem_of_getElem? ax_cw_154, List.forall_mem_cons.mpr ⟨List.mem_of_getElem? ax_cw_155, List.forall_mem_cons.mpr ⟨List.mem_of_getElem? ax_cw_156, List.forall_mem_cons.mpr ⟨List.mem_of_getElem? ax_cw_157, List.forall_mem_cons.mpr ⟨List.mem_of_getElem? ax_cw_158, List.forall_mem_cons.mpr ⟨List.mem_of_getElem? ax_cw_159, fun _ h => absurd h List.not_mem_nil⟩⟩⟩⟩⟩⟩⟩⟩⟩⟩⟩⟩⟩⟩⟩⟩⟩⟩⟩⟩⟩⟩⟩⟩⟩⟩⟩⟩⟩⟩⟩⟩⟩⟩⟩⟩⟩⟩⟩⟩
set_option maxRecDepth 100000 in
theorem ax_cw_160 : lw_tbl[1405]? = some (.code ⟨"RingKilnModel", "blanks", "()V"⟩ prog_14_method_18_code 1 none) := by rfl
set_option maxRecDepth 100000 in
theorem ax_cw_161 : lw_tbl[1409]? = some (.code ⟨"RingKilnModel", "sign", "()I"⟩ prog_14_method_17_code 1 (some .int)) := by rfl
set_option maxRecDepth 100000 in
theorem ax_cw_162 : lw_tbl[1412]? = some (.code ⟨"RingKilnModel", "kilnWord", "(I)Ljava/lang/String;"⟩ prog_14_method_35_code 1 (some (.object "java/lang/String"))) := by rfl
set_option maxRecDepth 100000 in
theorem ax_cw_163 : lw_tbl[1421]? = some (.code ⟨"RingKilnModel", "stood", "(Ljava/lang/String;)Z"⟩ prog_14_method_20_code 5 (some .boolean)) := by rfl
set_option maxRecDepth 100000 in
theorem ax_cw_164 : lw_tbl[1427]? = some (.code ⟨"RingKilnModel", "fails", "(II)V"⟩ prog_14_method_16_code 3 none) := by rfl
set_option maxRecDepth 100000 in
theorem ax_cw_165 : lw_tbl[1431]? = some (.code ⟨"RingKilnModel", "isOver", "(II)Z"⟩ prog_14_method_40_code 3 (some .boolean)) := by rfl
set_option maxRecDepth 100000 in
theorem ax_cw_166 : lw_tbl[1435]? = some (.code ⟨"RingKilnModel", "kilnPart", "(I)V"⟩ prog_14_method_39_code 3 none) := by rfl
set_option maxRecDepth 100000 in
theorem ax_cw_167 : lw_tbl[1439]? = some (.code ⟨"RingKilnModel", "amount", "(II)I"⟩ prog_14_method_34_code 5 (some .int)) := by rfl
set_option maxRecDepth 100000 in
theorem ax_cw_168 : lw_tbl[1444]? = some (.code ⟨"RingKilnModel", "digits", "(I)I"⟩ prog_14_method_24_code 4 (some .int)) := by rfl
set_option maxRecDepth 100000 in
theorem ax_cw_169 : lw_tbl[1448]? = some (.code ⟨"RingKilnModel", "isDigit", "()Z"⟩ prog_14_method_19_code 1 (some .boolean)) := by rfl
set_option maxRecDepth 100000 in
theorem ax_cw_170 : lw_tbl[1453]? = some (.code ⟨"RingKilnModel", "in", "(JJJ)Z"⟩ prog_14_method_3_code 6 (some .boolean)) := by rfl
set_option maxRecDepth 100000 in
theorem ax_cw_171 : lw_tbl[1457]? = some (.code ⟨"RingKilnModel", "setPart", "()V"⟩ prog_14_method_36_code 4 none) := by rfl
set_option maxRecDepth 100000 in
theorem ax_cw_172 : lw_tbl[1461]? = some (.code ⟨"RingKilnModel", "firePart", "()V"⟩ prog_14_method_37_code 3 none) := by rfl
set_option maxRecDepth 100000 in
theorem ax_cw_173 : lw_tbl[1465]? = some (.code ⟨"RingKilnModel", "orderPart", "()V"⟩ prog_14_method_38_code 2 none) := by rfl
set_option maxRecDepth 100000 in
theorem ax_cw_174 : lw_tbl[1469]? = some (.code ⟨"RingKilnModel", "goesOn", "()Z"⟩ prog_14_method_43_code 2 (some .boolean)) := by rfl
set_option maxRecDepth 100000 in
theorem ax_cw_175 : lw_tbl[1472]? = some (.code ⟨"RingKilnModel", "copies", "([I[I)V"⟩ prog_14_method_42_code 3 none) := by rfl
set_option maxRecDepth 100000 in
theorem ax_cw_176 : lw_tbl[1476]? = some (.code ⟨"RingKilnModel", "begins", "()V"⟩ prog_14_method_46_code 2 none) := by rfl
set_option maxRecDepth 100000 in
theorem ax_cw_177 : lw_tbl[1480]? = some (.code ⟨"RingKilnModel", "rule", "()I"⟩ prog_14_method_49_code 3 (some .int)) := by rfl
set_option maxRecDepth 100000 in
theorem ax_cw_178 : lw_tbl[1484]? = some (.code ⟨"RingKilnModel", "ruleClause", "(I)V"⟩ prog_14_method_48_code 4 none) := by rfl
set_option maxRecDepth 100000 in
theorem ax_cw_179 : lw_tbl[1489]? = some (.code ⟨"RingKilnModel", "sum", "()V"⟩ prog_14_method_27_code 2 none) := by rfl
set_option maxRecDepth 100000 in
theorem ax_cw_180 : lw_tbl[1493]? = some (.code ⟨"RingKilnModel", "term", "()V"⟩ prog_14_method_26_code 2 none) := by rfl
set_option maxRecDepth 100000 in
theorem ax_cw_181 : lw_tbl[1497]? = some (.code ⟨"RingKilnModel", "value", "()V"⟩ prog_14_method_25_code 3 none) := by rfl
set_option maxRecDepth 100000 in
theorem ax_cw_182 : lw_tbl[1501]? = some (.code ⟨"RingKilnModel", "isCounted", "(I)V"⟩ prog_14_method_23_code 2 none) := by rfl
set_option maxRecDepth 100000 in
theorem ax_cw_183 : lw_tbl[1505]? = some (.code ⟨"RingKilnModel", "entry", "(II)V"⟩ prog_14_method_22_code 3 none) := by rfl
set_option maxRecDepth 100000 in
theorem ax_cw_184 : lw_tbl[1508]? = some (.code ⟨"RingKilnModel", "wordOf", "(I)Ljava/lang/String;"⟩ prog_14_method_15_code 1 (some (.object "java/lang/String"))) := by rfl
set_option maxRecDepth 100000 in
theorem ax_cw_185 : lw_tbl[1525]? = some (.code ⟨"RingKilnModel", "takes", "(Ljava/lang/String;)Z"⟩ prog_14_method_21_code 3 (some .boolean)) := by rfl
set_option maxRecDepth 100000 in
theorem ax_cw_186 : lw_tbl[1529]? = some (.code ⟨"RingKilnModel", "test", "()V"⟩ prog_14_method_33_code 5 none) := by rfl
set_option maxRecDepth 100000 in
theorem ax_cw_187 : lw_tbl[1533]? = some (.code ⟨"RingKilnModel", "fact", "()Z"⟩ prog_14_method_32_code 1 (some .boolean)) := by rfl
set_option maxRecDepth 100000 in
theorem ax_cw_188 : lw_tbl[1538]? = some (.code ⟨"RingKilnModel", "opens", "(I)V"⟩ prog_14_method_30_code 2 none) := by rfl
set_option maxRecDepth 100000 in
theorem ax_cw_189 : lw_tbl[1542]? = some (.code ⟨"RingKilnModel", "compared", "()V"⟩ prog_14_method_28_code 3 none) := by rfl
set_option maxRecDepth 100000 in
theorem ax_cw_190 : lw_tbl[1546]? = some (.code ⟨"RingKilnModel", "answers", "(I)V"⟩ prog_14_method_31_code 2 none) := by rfl
set_option maxRecDepth 100000 in
theorem ax_cw_191 : lw_tbl[1550]? = some (.code ⟨"RingKilnModel", "top", "()I"⟩ prog_14_method_29_code 1 (some .int)) := by rfl
set_option maxRecDepth 100000 in
theorem ax_cw_192 : lw_tbl[1556]? = some (.code ⟨"RingKilnModel", "force", "(I)I"⟩ prog_14_method_50_code 3 (some .int)) := by rfl
set_option maxRecDepth 100000 in
theorem ax_cw_193 : lw_tbl[1561]? = some (.code ⟨"RingKilnModel", "chamber", "(II)I"⟩ prog_14_method_56_code 3 (some .int)) := by rfl
set_option maxRecDepth 100000 in
theorem ax_cw_194 : lw_tbl[1565]? = some (.code ⟨"RingKilnModel", "isChamber", "(I)Z"⟩ prog_14_method_7_code 2 (some .boolean)) := by rfl
set_option maxRecDepth 100000 in
theorem ax_cw_195 : lw_tbl[1569]? = some (.code ⟨"RingKilnModel", "stateOf", "(I)I"⟩ prog_14_method_55_code 3 (some .int)) := by rfl
set_option maxRecDepth 100000 in
theorem ax_cw_196 : lw_tbl[1573]? = some (.code ⟨"RingKilnModel", "clay", "(II)I"⟩ prog_14_method_57_code 3 (some .int)) := by rfl
set_option maxRecDepth 100000 in
theorem ax_cw_197 : lw_tbl[1577]? = some (.code ⟨"RingKilnModel", "isClay", "(I)Z"⟩ prog_14_method_8_code 2 (some .boolean)) := by rfl
set_option maxRecDepth 100000 in
theorem ax_cw_198 : lw_tbl[1582]? = some (.code ⟨"RingKilnModel", "order", "(II)I"⟩ prog_14_method_58_code 3 (some .int)) := by rfl
set_option maxRecDepth 100000 in
theorem ax_cw_199 : lw_tbl[1586]? = some (.code ⟨"RingKilnModel", "isOrder", "(I)Z"⟩ prog_14_method_9_code 2 (some .boolean)) := by rfl
theorem ax_cwl_4 : ∀ q ∈ ax_Ml_4, Cond.code q.1 q.2.1 q.2.2.1 q.2.2.2.1 ∈ lw_tbl := List.forall_mem_cons.mpr ⟨List.mem_of_getElem? ax_cw_160, List.forall_mem_cons.mpr ⟨List.mem_of_getElem? ax_cw_161, List.forall_mem_cons.mpr ⟨List.mem_of_getElem? ax_cw_162, List.forall_mem_cons.mpr ⟨List.mem_of_getElem? ax_cw_163, List.forall_mem_cons.mpr ⟨List.mem_of_getElem? ax_cw_164, List.forall_mem_cons.mpr ⟨List.mem_of_getElem? ax_cw_165, List.forall_mem_cons.mpr ⟨List.mem_of_getElem? ax_cw_166, List.forall_mem_cons.mpr ⟨List.mem_of_getElem? ax_cw_167, List.forall_mem_cons.mpr ⟨List.mem_of_getElem? ax_cw_168, List.forall_mem_cons.mpr ⟨List.mem_of_getElem? ax_cw_169, List.forall_mem_cons.mpr ⟨List.mem_of_getElem? ax_cw_170, List.forall_mem_cons.mpr ⟨List.mem_of_getElem? ax_cw_171, List.forall_mem_cons.mpr ⟨List.mem_of_getElem? ax_cw_172, List.forall_mem_cons.mpr ⟨List.mem_of_getElem? ax_cw_173, List.forall_mem_cons.mpr ⟨List.mem_of_getElem? ax_cw_174, List.forall_mem_cons.mpr ⟨List.mem_of_getElem? ax_cw_175, List.forall_mem_cons.mpr ⟨List.mem_of_getElem? ax_cw_176, List.forall_mem_cons.mpr ⟨List.mem_of_getElem? ax_cw_177, List.forall_mem_cons.mpr ⟨List.mem_of_getElem? ax_cw_178, List.forall_mem_cons.mpr ⟨List.mem_of_getElem? ax_cw_179, List.forall_mem_cons.mpr ⟨List.mem_of_getElem? ax_cw_180, List.forall_mem_cons.mpr ⟨List.mem_of_getElem? ax_cw_181, List.forall_mem_cons.mpr ⟨List.mem_of_getElem? ax_cw_182, List.forall_mem_cons.mpr ⟨List.mem_of_getElem? ax_cw_183, List.forall_mem_cons.mpr ⟨List.mem_of_getElem? ax_cw_184, List.forall_mem_cons.mpr ⟨List.mem_of_getElem? ax_cw_185, List.forall_mem_cons.mpr ⟨List.mem_of_getElem? ax_cw_186, List.forall_mem_cons.mpr ⟨List.mem_of_getElem? ax_cw_187, List.forall_mem_cons.mpr ⟨List.mem_of_getElem? ax_cw_188, List.forall_mem_cons.mpr ⟨List.mem_of_getElem? ax_cw_189, List.forall_mem_cons.mpr ⟨List.mem_of_getElem? ax_cw_190, List.forall_mem_cons.mpr ⟨List.mem_of_getElem? ax_cw_191, List.forall_mem_cons.mpr ⟨List.mem_of_getElem? ax_cw_192, List.forall_mem_cons.mpr ⟨List.mem_of_getElem? ax_cw_193, List.forall_mem_cons.mpr ⟨List.mem_of_getElem? ax_cw_194, List.forall_mem_cons.mpr ⟨List.mem_of_getElem? ax_cw_195, List.forall_mem_cons.mpr ⟨List.mem_of_getElem? ax_cw_196, List.forall_mem_cons.mpr ⟨List.mem_of_getElem? ax_cw_197, List.forall_mem_cons.mpr ⟨List.mem_of_getElem? ax_cw_198, List.forall_mem_cons.mpr ⟨List.mem_of_getElem? ax_cw_199, fun _ h => absurd h List.not_mem_nil⟩⟩⟩⟩⟩⟩⟩⟩⟩⟩⟩⟩⟩⟩⟩⟩⟩⟩⟩⟩⟩⟩⟩⟩⟩⟩⟩⟩⟩⟩⟩⟩⟩⟩⟩⟩⟩⟩⟩⟩
set_option maxRecDepth 100000 in
theorem ax_cw_200 : lw_tbl[1590]? = some (.code ⟨"RingKilnModel", "undo", "()I"⟩ prog_14_method_73_code 1 (some .int)) := by rfl
set_option maxRecDepth 100000 in
theorem ax_cw_201 : lw_tbl[1594]? = some (.code ⟨"RingKilnModel", "movesAll", "(IZ)V"⟩ prog_14_method_71_code 4 none) := by rfl
set_option maxRecDepth 100000 in
theorem ax_cw_202 : lw_tbl[1598]? = some (.code ⟨"RingKilnModel", "moves", "(I)I"⟩ prog_14_method_69_code 3 (some .int)) := by rfl
set_option maxRecDepth 100000 in
theorem ax_cw_203 : lw_tbl[1602]? = some (.code ⟨"RingKilnModel", "movesRow", "([I)V"⟩ prog_14_method_70_code 3 none) := by rfl
set_option maxRecDepth 100000 in
theorem ax_cw_204 : lw_tbl[1606]? = some (.code ⟨"RingKilnModel", "day", "()I"⟩ prog_14_method_74_code 1 (some .int)) := by rfl
set_option maxRecDepth 100000 in
theorem ax_cw_205 : lw_tbl[1610]? = some (.code ⟨"RingKilnModel", "isKiln", "()Z"⟩ prog_14_method_6_code 1 (some .boolean)) := by rfl
set_option maxRecDepth 100000 in
theorem ax_cw_206 : lw_tbl[1614]? = some (.code ⟨"RingKilnModel", "keepsAct", "()V"⟩ prog_14_method_72_code 2 none) := by rfl
set_option maxRecDepth 100000 in
theorem ax_cw_207 : lw_tbl[1618]? = some (.code ⟨"RingKilnModel", "goes", "()I"⟩ prog_14_method_67_code 2 (some .int)) := by rfl
set_option maxRecDepth 100000 in
theorem ax_cw_208 : lw_tbl[1622]? = some (.code ⟨"RingKilnModel", "feeds", "()V"⟩ prog_14_method_64_code 5 none) := by rfl
set_option maxRecDepth 100000 in
theorem ax_cw_209 : lw_tbl[1627]? = some (.code ⟨"RingKilnModel", "told", "(I)J"⟩ prog_14_method_62_code 3 (some .long)) := by rfl
set_option maxRecDepth 100000 in
theorem ax_cw_210 : lw_tbl[1631]? = some (.code ⟨"RingKilnModel", "after", "(I)I"⟩ prog_14_method_61_code 2 (some .int)) := by rfl
set_option maxRecDepth 100000 in
theorem ax_cw_211 : lw_tbl[1635]? = some (.code ⟨"RingKilnModel", "allStore", "()I"⟩ prog_14_method_59_code 3 (some .int)) := by rfl
set_option maxRecDepth 100000 in
theorem ax_cw_212 : lw_tbl[1639]? = some (.code ⟨"RingKilnModel", "wanted", "()J"⟩ prog_14_method_51_code 3 (some .long)) := by rfl
set_option maxRecDepth 100000 in
theorem ax_cw_213 : lw_tbl[1643]? = some (.code ⟨"RingKilnModel", "answer", "(III)J"⟩ prog_14_method_54_code 8 (some .long)) := by rfl
set_option maxRecDepth 100000 in
theorem ax_cw_214 : lw_tbl[1646]? = some (.code ⟨"RingKilnModel", "both", "(IJJ)J"⟩ prog_14_method_53_code 5 (some .long)) := by rfl
set_option maxRecDepth 100000 in
theorem ax_cw_215 : lw_tbl[1649]? = some (.code ⟨"RingKilnModel", "truth", "(Z)J"⟩ prog_14_method_52_code 1 (some .long)) := by rfl
set_option maxRecDepth 100000 in
theorem ax_cw_216 : lw_tbl[1654]? = some (.code ⟨"RingKilnModel", "warms", "(II)V"⟩ prog_14_method_63_code 3 none) := by rfl
set_option maxRecDepth 100000 in
theorem ax_cw_217 : lw_tbl[1658]? = some (.code ⟨"RingKilnModel", "dries", "(I)V"⟩ prog_14_method_65_code 3 none) := by rfl
set_option maxRecDepth 100000 in
theorem ax_cw_218 : lw_tbl[1662]? = some (.code ⟨"RingKilnModel", "leads", "()V"⟩ prog_14_method_66_code 2 none) := by rfl
set_option maxRecDepth 100000 in
theorem ax_cw_219 : lw_tbl[1666]? = some (.code ⟨"RingKilnModel", "set", "(II)I"⟩ prog_14_method_76_code 3 (some .int)) := by rfl
set_option maxRecDepth 100000 in
theorem ax_cw_220 : lw_tbl[1670]? = some (.code ⟨"RingKilnModel", "isFree", "(I)Z"⟩ prog_14_method_11_code 2 (some .boolean)) := by rfl
set_option maxRecDepth 100000 in
theorem ax_cw_221 : lw_tbl[1674]? = some (.code ⟨"RingKilnModel", "lays", "(II)V"⟩ prog_14_method_75_code 3 none) := by rfl
set_option maxRecDepth 100000 in
theorem ax_cw_222 : lw_tbl[1678]? = some (.code ⟨"RingKilnModel", "draw", "(I)I"⟩ prog_14_method_77_code 4 (some .int)) := by rfl
set_option maxRecDepth 100000 in
theorem ax_cw_223 : lw_tbl[1682]? = some (.code ⟨"RingKilnModel", "isFull", "(I)Z"⟩ prog_14_method_10_code 2 (some .boolean)) := by rfl
set_option maxRecDepth 100000 in
theorem ax_cw_224 : lw_tbl[1686]? = some (.code ⟨"RingKilnModel", "light", "(I)I"⟩ prog_14_method_78_code 2 (some .int)) := by rfl
set_option maxRecDepth 100000 in
theorem ax_cw_225 : lw_tbl[1690]? = some (.code ⟨"RingKilnModel", "buy", "(I)I"⟩ prog_14_method_79_code 2 (some .int)) := by rfl
set_option maxRecDepth 100000 in
theorem ax_cw_226 : lw_tbl[1695]? = some (.code ⟨"RingKilnModel", "send", "(I)I"⟩ prog_14_method_80_code 2 (some .int)) := by rfl
set_option maxRecDepth 100000 in
theorem ax_cw_227 : lw_tbl[1699]? = some (.code ⟨"RingKilnModel", "ahead", "(III)I"⟩ prog_14_method_83_code 5 (some .int)) := by rfl
set_option maxRecDepth 100000 in
theorem ax_cw_228 : lw_tbl[1704]? = some (.code ⟨"RingKilnModel", "keepsAll", "()V"⟩ prog_14_method_81_code 1 none) := by rfl
set_option maxRecDepth 100000 in
theorem ax_cw_229 : lw_tbl[1708]? = some (.code ⟨"RingKilnModel", "carriesAll", "(IZ)V"⟩ prog_14_method_125_code 3 none) := by rfl
set_option maxRecDepth 100000 in
theorem ax_cw_230 : lw_tbl[1712]? = some (.code ⟨"RingKilnModel", "carryRow", "([I)V"⟩ prog_14_method_124_code 3 none) := by rfl
set_option maxRecDepth 100000 in
theorem ax_cw_231 : lw_tbl[1716]? = some (.code ⟨"RingKilnModel", "goFor", "(I)V"⟩ prog_14_method_68_code 3 none) := by rfl
set_option maxRecDepth 100000 in
theorem ax_cw_232 : lw_tbl[1720]? = some (.code ⟨"RingKilnModel", "laysBack", "()V"⟩ prog_14_method_82_code 1 none) := by rfl
set_option maxRecDepth 100000 in
theorem ax_cw_233 : lw_tbl[1724]? = some (.code ⟨"RingKilnModel", "out", "()I"⟩ prog_14_method_86_code 1 (some .int)) := by rfl
set_option maxRecDepth 100000 in
theorem ax_cw_234 : lw_tbl[1728]? = some (.code ⟨"RingKilnModel", "firstDay", "(II)I"⟩ prog_14_method_85_code 5 (some .int)) := by rfl
set_option maxRecDepth 100000 in
theorem ax_cw_235 : lw_tbl[1732]? = some (.code ⟨"RingKilnModel", "isSo", "(II)Z"⟩ prog_14_method_84_code 3 (some .boolean)) := by rfl
set_option maxRecDepth 100000 in
theorem ax_cw_236 : lw_tbl[1736]? = some (.code ⟨"RingKilnModel", "comes", "(I)I"⟩ prog_14_method_87_code 2 (some .int)) := by rfl
set_option maxRecDepth 100000 in
theorem ax_cw_237 : lw_tbl[1740]? = some (.code ⟨"RingKilnModel", "ripe", "(I)I"⟩ prog_14_method_88_code 2 (some .int)) := by rfl
set_option maxRecDepth 100000 in
theorem ax_cw_238 : lw_tbl[1744]? = some (.code ⟨"RingKilnModel", "spoilt", "(I)I"⟩ prog_14_method_89_code 2 (some .int)) := by rfl
set_option maxRecDepth 100000 in
theorem ax_cw_239 : lw_tbl[1748]? = some (.code ⟨"RingKilnModel", "cold", "(I)I"⟩ prog_14_method_90_code 2 (some .int)) := by rfl
theorem ax_cwl_5 : ∀ q ∈ ax_Ml_5, Cond.code q.1 q.2.1 q.2.2.1 q.2.2.2.1 ∈ lw_tbl := List.forall_mem_cons.mpr ⟨List.mem_of_getElem? ax_cw_200, List.forall_mem_cons.mpr ⟨List.mem_of_getElem? ax_cw_201, List.forall_mem_cons.mpr ⟨List.mem_of_getElem? ax_cw_202, List.forall_mem_cons.mpr ⟨List.mem_of_getElem? ax_cw_203, List.forall_mem_cons.mpr ⟨List.mem_of_getElem? ax_cw_204, List.forall_mem_cons.mpr ⟨List.mem_of_getElem? ax_cw_205, List.forall_mem_cons.mpr ⟨List.mem_of_getElem? ax_cw_206, List.forall_mem_cons.mpr ⟨List.mem_of_getElem? ax_cw_207, List.forall_mem_cons.mpr ⟨List.mem_of_getElem? ax_cw_208, List.forall_mem_cons.mpr ⟨List.mem_of_getElem? ax_cw_209, List.forall_mem_cons.mpr ⟨List.mem_of_getElem? ax_cw_210, List.forall_mem_cons.mpr ⟨List.mem_of_getElem? ax_cw_211, List.forall_mem_cons.mpr ⟨List.mem_of_getElem? ax_cw_212, List.forall_mem_cons.mpr ⟨List.mem_of_getElem? ax_cw_213, List.forall_mem_cons.mpr ⟨List.mem_of_getElem? ax_cw_214, List.forall_mem_cons.mpr ⟨List.mem_of_getElem? ax_cw_215, List.forall_mem_cons.mpr ⟨List.mem_of_getElem? ax_cw_216, List.forall_mem_cons.mpr ⟨List.mem_of_getElem? ax_cw_217, List.forall_mem_cons.mpr ⟨List.mem_of_getElem? ax_cw_218, List.forall_mem_cons.mpr ⟨List.mem_of_getElem? ax_cw_219, List.forall_mem_cons.mpr ⟨List.mem_of_getElem? ax_cw_220, List.forall_mem_cons.mpr ⟨List.mem_of_getElem? ax_cw_221, List.forall_mem_cons.mpr ⟨List.mem_of_getElem? ax_cw_222, List.forall_mem_cons.mpr ⟨List.mem_of_getElem? ax_cw_223, List.forall_mem_cons.mpr ⟨List.mem_of_getElem? ax_cw_224, List.forall_mem_cons.mpr ⟨List.mem_of_getElem? ax_cw_225, List.forall_mem_cons.mpr ⟨List.mem_of_getElem? ax_cw_226, List.forall_mem_cons.mpr ⟨List.mem_of_getElem? ax_cw_227, List.forall_mem_cons.mpr ⟨List.mem_of_getElem? ax_cw_228, List.forall_mem_cons.mpr ⟨List.mem_of_getElem? ax_cw_229, List.forall_mem_cons.mpr ⟨List.mem_of_getElem? ax_cw_230, List.forall_mem_cons.mpr ⟨List.mem_of_getElem? ax_cw_231, List.forall_mem_cons.mpr ⟨List.mem_of_getElem? ax_cw_232, List.forall_mem_cons.mpr ⟨List.mem_of_getElem? ax_cw_233, List.forall_mem_cons.mpr ⟨List.mem_of_getElem? ax_cw_234, List.forall_mem_cons.mpr ⟨List.mem_of_getElem? ax_cw_235, List.forall_mem_cons.mpr ⟨List.mem_of_getElem? ax_cw_236, List.forall_mem_cons.mpr ⟨List.mem_of_getElem? ax_cw_237, List.forall_mem_cons.mpr ⟨List.mem_of_getElem? ax_cw_238, List.forall_mem_cons.mpr ⟨List.mem_of_getElem? ax_cw_239, fun _ h => absurd h List.not_mem_nil⟩⟩⟩⟩⟩⟩⟩⟩⟩⟩⟩⟩⟩⟩⟩⟩⟩⟩⟩⟩⟩⟩⟩⟩⟩⟩⟩⟩⟩⟩⟩⟩⟩⟩⟩⟩⟩⟩⟩⟩
set_option maxRecDepth 100000 in
theorem ax_cw_240 : lw_tbl[1752]? = some (.code ⟨"RingKilnModel", "goods", "(I)I"⟩ prog_14_method_91_code 3 (some .int)) := by rfl
set_option maxRecDepth 100000 in
theorem ax_cw_241 : lw_tbl[1756]? = some (.code ⟨"RingKilnModel", "goodNow", "()I"⟩ prog_14_method_60_code 3 (some .int)) := by rfl
set_option maxRecDepth 100000 in
theorem ax_cw_242 : lw_tbl[1760]? = some (.code ⟨"RingKilnModel", "row", "(III)I"⟩ prog_14_method_94_code 8 (some .int)) := by rfl
set_option maxRecDepth 100000 in
theorem ax_cw_243 : lw_tbl[1764]? = some (.code ⟨"RingKilnModel", "power", "(II)I"⟩ prog_14_method_92_code 4 (some .int)) := by rfl
set_option maxRecDepth 100000 in
theorem ax_cw_244 : lw_tbl[1768]? = some (.code ⟨"RingKilnModel", "coalBy", "(III)I"⟩ prog_14_method_93_code 7 (some .int)) := by rfl
set_option maxRecDepth 100000 in
theorem ax_cw_245 : lw_tbl[1772]? = some (.code ⟨"RingKilnModel", "plan", "(III)I"⟩ prog_14_method_95_code 8 (some .int)) := by rfl
set_option maxRecDepth 100000 in
theorem ax_cw_246 : lw_tbl[1776]? = some (.code ⟨"RingKilnModel", "bits", "(I)I"⟩ prog_14_method_4_code 3 (some .int)) := by rfl
set_option maxRecDepth 100000 in
theorem ax_cw_247 : lw_tbl[1780]? = some (.code ⟨"RingKilnModel", "meet", "(I)I"⟩ prog_14_method_98_code 4 (some .int)) := by rfl
set_option maxRecDepth 100000 in
theorem ax_cw_248 : lw_tbl[1784]? = some (.code ⟨"RingKilnModel", "canBeSent", "(I)Z"⟩ prog_14_method_97_code 3 (some .boolean)) := by rfl
set_option maxRecDepth 100000 in
theorem ax_cw_249 : lw_tbl[1787]? = some (.code ⟨"RingKilnModel", "has", "(II)Z"⟩ prog_14_method_5_code 2 (some .boolean)) := by rfl
set_option maxRecDepth 100000 in
theorem ax_cw_250 : lw_tbl[1791]? = some (.code ⟨"RingKilnModel", "manyOf", "(II)I"⟩ prog_14_method_96_code 5 (some .int)) := by rfl
set_option maxRecDepth 100000 in
theorem ax_cw_251 : lw_tbl[1795]? = some (.code ⟨"RingKilnModel", "late", "()I"⟩ prog_14_method_99_code 4 (some .int)) := by rfl
set_option maxRecDepth 100000 in
theorem ax_cw_252 : lw_tbl[1799]? = some (.code ⟨"RingKilnModel", "rests", "(IIII)I"⟩ prog_14_method_103_code 10 (some .int)) := by rfl
set_option maxRecDepth 100000 in
theorem ax_cw_253 : lw_tbl[1804]? = some (.code ⟨"RingKilnModel", "laysWays", "(III)V"⟩ prog_14_method_101_code 5 none) := by rfl
set_option maxRecDepth 100000 in
theorem ax_cw_254 : lw_tbl[1808]? = some (.code ⟨"RingKilnModel", "worthOf", "(I)I"⟩ prog_14_method_100_code 2 (some .int)) := by rfl
set_option maxRecDepth 100000 in
theorem ax_cw_255 : lw_tbl[1812]? = some (.code ⟨"RingKilnModel", "isRest", "(II)Z"⟩ prog_14_method_102_code 5 (some .boolean)) := by rfl
set_option maxRecDepth 100000 in
theorem ax_cw_256 : lw_tbl[1816]? = some (.code ⟨"RingKilnModel", "alike", "(I)I"⟩ prog_14_method_106_code 4 (some .int)) := by rfl
set_option maxRecDepth 100000 in
theorem ax_cw_257 : lw_tbl[1820]? = some (.code ⟨"RingKilnModel", "laysDay", "(I)V"⟩ prog_14_method_104_code 3 none) := by rfl
set_option maxRecDepth 100000 in
theorem ax_cw_258 : lw_tbl[1824]? = some (.code ⟨"RingKilnModel", "isAlike", "(II)Z"⟩ prog_14_method_105_code 4 (some .boolean)) := by rfl
set_option maxRecDepth 100000 in
theorem ax_cw_259 : lw_tbl[1828]? = some (.code ⟨"RingKilnModel", "pence", "(II)I"⟩ prog_14_method_107_code 10 (some .int)) := by rfl
set_option maxRecDepth 100000 in
theorem ax_cw_260 : lw_tbl[1833]? = some (.code ⟨"RingKilnModel", "note", "(II)I"⟩ prog_14_method_108_code 4 (some .int)) := by rfl
set_option maxRecDepth 100000 in
theorem ax_cw_261 : lw_tbl[1838]? = some (.code ⟨"RingKilnModel", "ruled", "(I)I"⟩ prog_14_method_111_code 5 (some .int)) := by rfl
set_option maxRecDepth 100000 in
theorem ax_cw_262 : lw_tbl[1842]? = some (.code ⟨"RingKilnModel", "couldRule", "(I)Z"⟩ prog_14_method_110_code 2 (some .boolean)) := by rfl
set_option maxRecDepth 100000 in
theorem ax_cw_263 : lw_tbl[1846]? = some (.code ⟨"RingKilnModel", "doNotesFit", "()Z"⟩ prog_14_method_109_code 2 (some .boolean)) := by rfl
set_option maxRecDepth 100000 in
theorem ax_cw_264 : lw_tbl[1850]? = some (.code ⟨"RingKilnModel", "need", "(II)I"⟩ prog_14_method_113_code 3 (some .int)) := by rfl
set_option maxRecDepth 100000 in
theorem ax_cw_265 : lw_tbl[1854]? = some (.code ⟨"RingKilnModel", "couldBe", "(IIIZI)I"⟩ prog_14_method_112_code 9 (some .int)) := by rfl
set_option maxRecDepth 100000 in
theorem ax_cw_266 : lw_tbl[1858]? = some (.code ⟨"RingKilnModel", "damp", "(II)I"⟩ prog_14_method_114_code 3 (some .int)) := by rfl
set_option maxRecDepth 100000 in
theorem ax_cw_267 : lw_tbl[1862]? = some (.code ⟨"RingKilnModel", "look", "(I)I"⟩ prog_14_method_116_code 5 (some .int)) := by rfl
set_option maxRecDepth 100000 in
theorem ax_cw_268 : lw_tbl[1866]? = some (.code ⟨"RingKilnModel", "mostAlike", "(II)I"⟩ prog_14_method_115_code 7 (some .int)) := by rfl
set_option maxRecDepth 100000 in
theorem ax_cw_269 : lw_tbl[1870]? = some (.code ⟨"RingKilnModel", "seed", "(I)I"⟩ prog_14_method_117_code 3 (some .int)) := by rfl
set_option maxRecDepth 100000 in
theorem ax_cw_270 : lw_tbl[1874]? = some (.code ⟨"RingKilnModel", "rains", "(IIII)I"⟩ prog_14_method_121_code 10 (some .int)) := by rfl
set_option maxRecDepth 100000 in
theorem ax_cw_271 : lw_tbl[1879]? = some (.code ⟨"RingKilnModel", "draws", "(I)I"⟩ prog_14_method_118_code 2 (some .int)) := by rfl
set_option maxRecDepth 100000 in
theorem ax_cw_272 : lw_tbl[1887]? = some (.code ⟨"RingKilnModel", "rainsOn", "(I)V"⟩ prog_14_method_119_code 2 none) := by rfl
set_option maxRecDepth 100000 in
theorem ax_cw_273 : lw_tbl[1891]? = some (.code ⟨"RingKilnModel", "allWarm", "()I"⟩ prog_14_method_120_code 3 (some .int)) := by rfl
set_option maxRecDepth 100000 in
theorem ax_cw_274 : lw_tbl[1895]? = some (.code ⟨"RingKilnModel", "count", "(I)I"⟩ prog_14_method_123_code 2 (some .int)) := by rfl
set_option maxRecDepth 100000 in
theorem ax_cw_275 : lw_tbl[1899]? = some (.code ⟨"RingKilnModel", "allSet", "()I"⟩ prog_14_method_122_code 3 (some .int)) := by rfl
set_option maxRecDepth 100000 in
theorem ax_cw_276 : lw_tbl[1903]? = some (.code ⟨"RingKilnModel", "image", "(I)I"⟩ prog_14_method_126_code 2 (some .int)) := by rfl
set_option maxRecDepth 100000 in
theorem ax_cw_277 : lw_tbl[1908]? = some (.code ⟨"RingKilnModel", "back", "(I)I"⟩ prog_14_method_127_code 2 (some .int)) := by rfl
set_option maxRecDepth 100000 in
theorem ax_cw_278 : lw_tbl[1012]? = some (.code ⟨"java/lang/Integer", "bitCount", "(I)I"⟩ prog_15_method_49_code 1 (some .int)) := by rfl
theorem ax_cwl_6 : ∀ q ∈ ax_Ml_6, Cond.code q.1 q.2.1 q.2.2.1 q.2.2.2.1 ∈ lw_tbl := List.forall_mem_cons.mpr ⟨List.mem_of_getElem? ax_cw_240, List.forall_mem_cons.mpr ⟨List.mem_of_getElem? ax_cw_241, List.forall_mem_cons.mpr ⟨List.mem_of_getElem? ax_cw_242, List.forall_mem_cons.mpr ⟨List.mem_of_getElem? ax_cw_243, List.forall_mem_cons.mpr ⟨List.mem_of_getElem? ax_cw_244, List.forall_mem_cons.mpr ⟨List.mem_of_getElem? ax_cw_245, List.forall_mem_cons.mpr ⟨List.mem_of_getElem? ax_cw_246, List.forall_mem_cons.mpr ⟨List.mem_of_getElem? ax_cw_247, List.forall_mem_cons.mpr ⟨List.mem_of_getElem? ax_cw_248, List.forall_mem_cons.mpr ⟨List.mem_of_getElem? ax_cw_249, List.forall_mem_cons.mpr ⟨List.mem_of_getElem? ax_cw_250, List.forall_mem_cons.mpr ⟨List.mem_of_getElem? ax_cw_251, List.forall_mem_cons.mpr ⟨List.mem_of_getElem? ax_cw_252, List.forall_mem_cons.mpr ⟨List.mem_of_getElem? ax_cw_253, List.forall_mem_cons.mpr ⟨List.mem_of_getElem? ax_cw_254, List.forall_mem_cons.mpr ⟨List.mem_of_getElem? ax_cw_255, List.forall_mem_cons.mpr ⟨List.mem_of_getElem? ax_cw_256, List.forall_mem_cons.mpr ⟨List.mem_of_getElem? ax_cw_257, List.forall_mem_cons.mpr ⟨List.mem_of_getElem? ax_cw_258, List.forall_mem_cons.mpr ⟨List.mem_of_getElem? ax_cw_259, List.forall_mem_cons.mpr ⟨List.mem_of_getElem? ax_cw_260, List.forall_mem_cons.mpr ⟨List.mem_of_getElem? ax_cw_261, List.forall_mem_cons.mpr ⟨List.mem_of_getElem? ax_cw_262, List.forall_mem_cons.mpr ⟨List.mem_of_getElem? ax_cw_263, List.forall_mem_cons.mpr ⟨List.mem_of_getElem? ax_cw_264, List.forall_mem_cons.mpr ⟨List.mem_of_getElem? ax_cw_265, List.forall_mem_cons.mpr ⟨List.mem_of_getElem? ax_cw_266, List.forall_mem_cons.mpr ⟨List.mem_of_getElem? ax_cw_267, List.forall_mem_cons.mpr ⟨List.mem_of_getElem? ax_cw_268, List.forall_mem_cons.mpr ⟨List.mem_of_getElem? ax_cw_269, List.forall_mem_cons.mpr ⟨List.mem_of_getElem? ax_cw_270, List.forall_mem_cons.mpr ⟨List.mem_of_getElem? ax_cw_271, List.forall_mem_cons.mpr ⟨List.mem_of_getElem? ax_cw_272, List.forall_mem_cons.mpr ⟨List.mem_of_getElem? ax_cw_273, List.forall_mem_cons.mpr ⟨List.mem_of_getElem? ax_cw_274, List.forall_mem_cons.mpr ⟨List.mem_of_getElem? ax_cw_275, List.forall_mem_cons.mpr ⟨List.mem_of_getElem? ax_cw_276, List.forall_mem_cons.mpr ⟨List.mem_of_getElem? ax_cw_277, List.forall_mem_cons.mpr ⟨List.mem_of_getElem? ax_cw_278, fun _ h => absurd h List.not_mem_nil⟩⟩⟩⟩⟩⟩⟩⟩⟩⟩⟩⟩⟩⟩⟩⟩⟩⟩⟩⟩⟩⟩⟩⟩⟩⟩⟩⟩⟩⟩⟩⟩⟩⟩⟩⟩⟩⟩⟩
theorem ax_cwl : ∀ q ∈ ax_Ml, Cond.code q.1 q.2.1 q.2.2.1 q.2.2.2.1 ∈ lw_tbl := by
  unfold ax_Ml
  intro q h
  simp only [List.mem_append] at h
  rcases h with h | h | h | h | h | h | h
  · exact ax_cwl_0 q h
  · exact ax_cwl_1 q h
  · exact ax_cwl_2 q h
  · exact ax_cwl_3 q h
  · exact ax_cwl_4 q h
  · exact ax_cwl_5 q h
  · exact ax_cwl_6 q h
