-- ===== PART A: goes FIRST, ahead of the names: the tables' words, and 'selects' of the private methods out of them =====
/-- a private method of a class that the tables say can be made, by its rows of tables_1 -/
def lw_okq (q : MethodName × Nat) : Prop := (q.1.cls ≠ "java/lang/invoke/MethodHandle" ∧ q.1.cls ≠ "java/lang/invoke/VarHandle") ∧ Cond.instantiable q.1.cls q.2 ∈ tables_1 ∧ Cond.privateMethod q.1 ∈ tables_1 ∧ Cond.instanceMethod q.1 ∈ tables_1
theorem lw_p0 : lw_okq (⟨"ProphetFines", "found", "(I)I"⟩, 10) := ⟨⟨by decide +kernel, by decide +kernel⟩, List.mem_of_getElem? (i := 20) (by decide +kernel), List.mem_of_getElem? (i := 309) (by decide +kernel), List.mem_of_getElem? (i := 310) (by decide +kernel)⟩
theorem lw_p1 : lw_okq (⟨"ProphetFines", "unfound", "(I)I"⟩, 10) := ⟨⟨by decide +kernel, by decide +kernel⟩, List.mem_of_getElem? (i := 20) (by decide +kernel), List.mem_of_getElem? (i := 318) (by decide +kernel), List.mem_of_getElem? (i := 319) (by decide +kernel)⟩
theorem lw_p2 : lw_okq (⟨"ProphetFines$Tape", "readLaw", "(LProphetFines$Republic;)Z"⟩, 5) := ⟨⟨by decide +kernel, by decide +kernel⟩, List.mem_of_getElem? (i := 53) (by decide +kernel), List.mem_of_getElem? (i := 369) (by decide +kernel), List.mem_of_getElem? (i := 370) (by decide +kernel)⟩
theorem lw_p3 : lw_okq (⟨"ProphetFines$Tape", "take", "(I)Z"⟩, 5) := ⟨⟨by decide +kernel, by decide +kernel⟩, List.mem_of_getElem? (i := 53) (by decide +kernel), List.mem_of_getElem? (i := 373) (by decide +kernel), List.mem_of_getElem? (i := 374) (by decide +kernel)⟩
theorem lw_p4 : lw_okq (⟨"ProphetFines$Tape", "here", "()I"⟩, 5) := ⟨⟨by decide +kernel, by decide +kernel⟩, List.mem_of_getElem? (i := 53) (by decide +kernel), List.mem_of_getElem? (i := 377) (by decide +kernel), List.mem_of_getElem? (i := 378) (by decide +kernel)⟩
theorem lw_p5 : lw_okq (⟨"ProphetFines$Tape", "wrong", "(I)Z"⟩, 5) := ⟨⟨by decide +kernel, by decide +kernel⟩, List.mem_of_getElem? (i := 53) (by decide +kernel), List.mem_of_getElem? (i := 381) (by decide +kernel), List.mem_of_getElem? (i := 382) (by decide +kernel)⟩
theorem lw_p6 : lw_okq (⟨"ProphetFines$Tape", "takeNumber", "(II)Z"⟩, 5) := ⟨⟨by decide +kernel, by decide +kernel⟩, List.mem_of_getElem? (i := 53) (by decide +kernel), List.mem_of_getElem? (i := 385) (by decide +kernel), List.mem_of_getElem? (i := 386) (by decide +kernel)⟩
theorem lw_p7 : lw_okq (⟨"ProphetFines$Tape", "readEvents", "(LProphetFines$Republic;)Z"⟩, 5) := ⟨⟨by decide +kernel, by decide +kernel⟩, List.mem_of_getElem? (i := 53) (by decide +kernel), List.mem_of_getElem? (i := 392) (by decide +kernel), List.mem_of_getElem? (i := 393) (by decide +kernel)⟩
theorem lw_p8 : lw_okq (⟨"ProphetFines$Tape", "readProphets", "(LProphetFines$Republic;)Z"⟩, 5) := ⟨⟨by decide +kernel, by decide +kernel⟩, List.mem_of_getElem? (i := 53) (by decide +kernel), List.mem_of_getElem? (i := 396) (by decide +kernel), List.mem_of_getElem? (i := 397) (by decide +kernel)⟩
theorem lw_p9 : lw_okq (⟨"ProphetFines$Tape", "kindHere", "()I"⟩, 5) := ⟨⟨by decide +kernel, by decide +kernel⟩, List.mem_of_getElem? (i := 53) (by decide +kernel), List.mem_of_getElem? (i := 400) (by decide +kernel), List.mem_of_getElem? (i := 401) (by decide +kernel)⟩
theorem lw_p10 : lw_okq (⟨"ProphetFines", "come", "(I)I"⟩, 10) := ⟨⟨by decide +kernel, by decide +kernel⟩, List.mem_of_getElem? (i := 20) (by decide +kernel), List.mem_of_getElem? (i := 523) (by decide +kernel), List.mem_of_getElem? (i := 524) (by decide +kernel)⟩
theorem lw_p11 : lw_okq (⟨"ProphetFines$Ledger", "setsOfAllHis", "(I)J"⟩, 5) := ⟨⟨by decide +kernel, by decide +kernel⟩, List.mem_of_getElem? (i := 175) (by decide +kernel), List.mem_of_getElem? (i := 571) (by decide +kernel), List.mem_of_getElem? (i := 572) (by decide +kernel)⟩
theorem lw_p12 : lw_okq (⟨"ProphetFines$Foresight", "isLoophole", "(II)Z"⟩, 11) := ⟨⟨by decide +kernel, by decide +kernel⟩, List.mem_of_getElem? (i := 200) (by decide +kernel), List.mem_of_getElem? (i := 718) (by decide +kernel), List.mem_of_getElem? (i := 719) (by decide +kernel)⟩
theorem lw_p13 : lw_okq (⟨"ProphetFines$Foresight", "pairUp", "()V"⟩, 11) := ⟨⟨by decide +kernel, by decide +kernel⟩, List.mem_of_getElem? (i := 200) (by decide +kernel), List.mem_of_getElem? (i := 735) (by decide +kernel), List.mem_of_getElem? (i := 736) (by decide +kernel)⟩
theorem lw_p14 : lw_okq (⟨"ProphetFines$Foresight", "leavesNoLoophole", "(I)Z"⟩, 11) := ⟨⟨by decide +kernel, by decide +kernel⟩, List.mem_of_getElem? (i := 200) (by decide +kernel), List.mem_of_getElem? (i := 745) (by decide +kernel), List.mem_of_getElem? (i := 746) (by decide +kernel)⟩
theorem lw_p15 : lw_okq (⟨"ProphetFines$Foresight", "listWordings", "()V"⟩, 11) := ⟨⟨by decide +kernel, by decide +kernel⟩, List.mem_of_getElem? (i := 200) (by decide +kernel), List.mem_of_getElem? (i := 757) (by decide +kernel), List.mem_of_getElem? (i := 758) (by decide +kernel)⟩
def lw_privs_1 : List (MethodName × Nat) := [(⟨"ProphetFines", "found", "(I)I"⟩, 10), (⟨"ProphetFines", "unfound", "(I)I"⟩, 10), (⟨"ProphetFines$Tape", "readLaw", "(LProphetFines$Republic;)Z"⟩, 5), (⟨"ProphetFines$Tape", "take", "(I)Z"⟩, 5), (⟨"ProphetFines$Tape", "here", "()I"⟩, 5), (⟨"ProphetFines$Tape", "wrong", "(I)Z"⟩, 5), (⟨"ProphetFines$Tape", "takeNumber", "(II)Z"⟩, 5), (⟨"ProphetFines$Tape", "readEvents", "(LProphetFines$Republic;)Z"⟩, 5), (⟨"ProphetFines$Tape", "readProphets", "(LProphetFines$Republic;)Z"⟩, 5), (⟨"ProphetFines$Tape", "kindHere", "()I"⟩, 5), (⟨"ProphetFines", "come", "(I)I"⟩, 10), (⟨"ProphetFines$Ledger", "setsOfAllHis", "(I)J"⟩, 5), (⟨"ProphetFines$Foresight", "isLoophole", "(II)Z"⟩, 11), (⟨"ProphetFines$Foresight", "pairUp", "()V"⟩, 11), (⟨"ProphetFines$Foresight", "leavesNoLoophole", "(I)Z"⟩, 11), (⟨"ProphetFines$Foresight", "listWordings", "()V"⟩, 11)]
theorem lw_r1 : ∀ q ∈ lw_privs_1, lw_okq q := List.forall_mem_cons.mpr ⟨lw_p0, List.forall_mem_cons.mpr ⟨lw_p1, List.forall_mem_cons.mpr ⟨lw_p2, List.forall_mem_cons.mpr ⟨lw_p3, List.forall_mem_cons.mpr ⟨lw_p4, List.forall_mem_cons.mpr ⟨lw_p5, List.forall_mem_cons.mpr ⟨lw_p6, List.forall_mem_cons.mpr ⟨lw_p7, List.forall_mem_cons.mpr ⟨lw_p8, List.forall_mem_cons.mpr ⟨lw_p9, List.forall_mem_cons.mpr ⟨lw_p10, List.forall_mem_cons.mpr ⟨lw_p11, List.forall_mem_cons.mpr ⟨lw_p12, List.forall_mem_cons.mpr ⟨lw_p13, List.forall_mem_cons.mpr ⟨lw_p14, List.forall_mem_cons.mpr ⟨lw_p15, fun _ h => absurd h List.not_mem_nil⟩⟩⟩⟩⟩⟩⟩⟩⟩⟩⟩⟩⟩⟩⟩⟩
theorem lw_p16 : lw_okq (⟨"ProphetFines$Foresight", "pickFrom", "(IIJI)V"⟩, 11) := ⟨⟨by decide +kernel, by decide +kernel⟩, List.mem_of_getElem? (i := 200) (by decide +kernel), List.mem_of_getElem? (i := 763) (by decide +kernel), List.mem_of_getElem? (i := 764) (by decide +kernel)⟩
theorem lw_p17 : lw_okq (⟨"ProphetFines$Foresight", "areFinedSo", "([III)Z"⟩, 11) := ⟨⟨by decide +kernel, by decide +kernel⟩, List.mem_of_getElem? (i := 200) (by decide +kernel), List.mem_of_getElem? (i := 785) (by decide +kernel), List.mem_of_getElem? (i := 786) (by decide +kernel)⟩
theorem lw_p18 : lw_okq (⟨"ProphetFines$Republic", "isMoreRight", "(II)Z"⟩, 14) := ⟨⟨by decide +kernel, by decide +kernel⟩, List.mem_of_getElem? (i := 78) (by decide +kernel), List.mem_of_getElem? (i := 823) (by decide +kernel), List.mem_of_getElem? (i := 824) (by decide +kernel)⟩
theorem lw_p19 : lw_okq (⟨"ProphetFines$Asked", "anew", "(II)I"⟩, 4) := ⟨⟨by decide +kernel, by decide +kernel⟩, List.mem_of_getElem? (i := 241) (by decide +kernel), List.mem_of_getElem? (i := 865) (by decide +kernel), List.mem_of_getElem? (i := 866) (by decide +kernel)⟩
theorem lw_p20 : lw_okq (⟨"ProphetFines$Asked", "begin", "(II)I"⟩, 4) := ⟨⟨by decide +kernel, by decide +kernel⟩, List.mem_of_getElem? (i := 241) (by decide +kernel), List.mem_of_getElem? (i := 874) (by decide +kernel), List.mem_of_getElem? (i := 875) (by decide +kernel)⟩
theorem lw_p21 : lw_okq (⟨"ProphetFines$Asked", "leave", "(I)V"⟩, 4) := ⟨⟨by decide +kernel, by decide +kernel⟩, List.mem_of_getElem? (i := 241) (by decide +kernel), List.mem_of_getElem? (i := 878) (by decide +kernel), List.mem_of_getElem? (i := 879) (by decide +kernel)⟩
theorem lw_p22 : lw_okq (⟨"ProphetFinesModel", "find", "(I)I"⟩, 26) := ⟨⟨by decide +kernel, by decide +kernel⟩, List.mem_of_getElem? (i := 900) (by decide +kernel), List.mem_of_getElem? (i := 998) (by decide +kernel), List.mem_of_getElem? (i := 999) (by decide +kernel)⟩
theorem lw_p23 : lw_okq (⟨"ProphetFinesModel", "well", "(I)I"⟩, 26) := ⟨⟨by decide +kernel, by decide +kernel⟩, List.mem_of_getElem? (i := 900) (by decide +kernel), List.mem_of_getElem? (i := 1003) (by decide +kernel), List.mem_of_getElem? (i := 1004) (by decide +kernel)⟩
theorem lw_p24 : lw_okq (⟨"ProphetFinesModel", "readAll", "()Z"⟩, 26) := ⟨⟨by decide +kernel, by decide +kernel⟩, List.mem_of_getElem? (i := 900) (by decide +kernel), List.mem_of_getElem? (i := 1029) (by decide +kernel), List.mem_of_getElem? (i := 1030) (by decide +kernel)⟩
theorem lw_p25 : lw_okq (⟨"ProphetFinesModel", "nextToken", "()V"⟩, 26) := ⟨⟨by decide +kernel, by decide +kernel⟩, List.mem_of_getElem? (i := 900) (by decide +kernel), List.mem_of_getElem? (i := 1033) (by decide +kernel), List.mem_of_getElem? (i := 1034) (by decide +kernel)⟩
theorem lw_p26 : lw_okq (⟨"ProphetFinesModel", "takes", "(I)Z"⟩, 26) := ⟨⟨by decide +kernel, by decide +kernel⟩, List.mem_of_getElem? (i := 900) (by decide +kernel), List.mem_of_getElem? (i := 1041) (by decide +kernel), List.mem_of_getElem? (i := 1042) (by decide +kernel)⟩
theorem lw_p27 : lw_okq (⟨"ProphetFinesModel", "takesNumber", "(III)Z"⟩, 26) := ⟨⟨by decide +kernel, by decide +kernel⟩, List.mem_of_getElem? (i := 900) (by decide +kernel), List.mem_of_getElem? (i := 1045) (by decide +kernel), List.mem_of_getElem? (i := 1046) (by decide +kernel)⟩
theorem lw_p28 : lw_okq (⟨"ProphetFinesModel", "readEvent", "()Z"⟩, 26) := ⟨⟨by decide +kernel, by decide +kernel⟩, List.mem_of_getElem? (i := 900) (by decide +kernel), List.mem_of_getElem? (i := 1049) (by decide +kernel), List.mem_of_getElem? (i := 1050) (by decide +kernel)⟩
theorem lw_p29 : lw_okq (⟨"ProphetFinesModel", "readProphet", "()Z"⟩, 26) := ⟨⟨by decide +kernel, by decide +kernel⟩, List.mem_of_getElem? (i := 900) (by decide +kernel), List.mem_of_getElem? (i := 1053) (by decide +kernel), List.mem_of_getElem? (i := 1054) (by decide +kernel)⟩
theorem lw_p30 : lw_okq (⟨"ProphetFinesModel", "isProphet", "(I)Z"⟩, 26) := ⟨⟨by decide +kernel, by decide +kernel⟩, List.mem_of_getElem? (i := 900) (by decide +kernel), List.mem_of_getElem? (i := 1074) (by decide +kernel), List.mem_of_getElem? (i := 1075) (by decide +kernel)⟩
theorem lw_p31 : lw_okq (⟨"ProphetFinesModel", "isWording", "(III)Z"⟩, 26) := ⟨⟨by decide +kernel, by decide +kernel⟩, List.mem_of_getElem? (i := 900) (by decide +kernel), List.mem_of_getElem? (i := 1078) (by decide +kernel), List.mem_of_getElem? (i := 1079) (by decide +kernel)⟩
def lw_privs_2 : List (MethodName × Nat) := [(⟨"ProphetFines$Foresight", "pickFrom", "(IIJI)V"⟩, 11), (⟨"ProphetFines$Foresight", "areFinedSo", "([III)Z"⟩, 11), (⟨"ProphetFines$Republic", "isMoreRight", "(II)Z"⟩, 14), (⟨"ProphetFines$Asked", "anew", "(II)I"⟩, 4), (⟨"ProphetFines$Asked", "begin", "(II)I"⟩, 4), (⟨"ProphetFines$Asked", "leave", "(I)V"⟩, 4), (⟨"ProphetFinesModel", "find", "(I)I"⟩, 26), (⟨"ProphetFinesModel", "well", "(I)I"⟩, 26), (⟨"ProphetFinesModel", "readAll", "()Z"⟩, 26), (⟨"ProphetFinesModel", "nextToken", "()V"⟩, 26), (⟨"ProphetFinesModel", "takes", "(I)Z"⟩, 26), (⟨"ProphetFinesModel", "takesNumber", "(III)Z"⟩, 26), (⟨"ProphetFinesModel", "readEvent", "()Z"⟩, 26), (⟨"ProphetFinesModel", "readProphet", "()Z"⟩, 26), (⟨"ProphetFinesModel", "isProphet", "(I)Z"⟩, 26), (⟨"ProphetFinesModel", "isWording", "(III)Z"⟩, 26)]
theorem lw_r2 : ∀ q ∈ lw_privs_2, lw_okq q := List.forall_mem_cons.mpr ⟨lw_p16, List.forall_mem_cons.mpr ⟨lw_p17, List.forall_mem_cons.mpr ⟨lw_p18, List.forall_mem_cons.mpr ⟨lw_p19, List.forall_mem_cons.mpr ⟨lw_p20, List.forall_mem_cons.mpr ⟨lw_p21, List.forall_mem_cons.mpr ⟨lw_p22, List.forall_mem_cons.mpr ⟨lw_p23, List.forall_mem_cons.mpr ⟨lw_p24, List.forall_mem_cons.mpr ⟨lw_p25, List.forall_mem_cons.mpr ⟨lw_p26, List.forall_mem_cons.mpr ⟨lw_p27, List.forall_mem_cons.mpr ⟨lw_p28, List.forall_mem_cons.mpr ⟨lw_p29, List.forall_mem_cons.mpr ⟨lw_p30, List.forall_mem_cons.mpr ⟨lw_p31, fun _ h => absurd h List.not_mem_nil⟩⟩⟩⟩⟩⟩⟩⟩⟩⟩⟩⟩⟩⟩⟩⟩
theorem lw_p32 : lw_okq (⟨"ProphetFinesModel", "isEvent", "(I)Z"⟩, 26) := ⟨⟨by decide +kernel, by decide +kernel⟩, List.mem_of_getElem? (i := 900) (by decide +kernel), List.mem_of_getElem? (i := 1083) (by decide +kernel), List.mem_of_getElem? (i := 1084) (by decide +kernel)⟩
theorem lw_p33 : lw_okq (⟨"ProphetFinesModel", "note", "()V"⟩, 26) := ⟨⟨by decide +kernel, by decide +kernel⟩, List.mem_of_getElem? (i := 900) (by decide +kernel), List.mem_of_getElem? (i := 1087) (by decide +kernel), List.mem_of_getElem? (i := 1088) (by decide +kernel)⟩
theorem lw_p34 : lw_okq (⟨"ProphetFinesModel", "isThere", "()Z"⟩, 26) := ⟨⟨by decide +kernel, by decide +kernel⟩, List.mem_of_getElem? (i := 900) (by decide +kernel), List.mem_of_getElem? (i := 1104) (by decide +kernel), List.mem_of_getElem? (i := 1105) (by decide +kernel)⟩
theorem lw_p35 : lw_okq (⟨"ProphetFinesModel", "areEvents", "(I)Z"⟩, 26) := ⟨⟨by decide +kernel, by decide +kernel⟩, List.mem_of_getElem? (i := 900) (by decide +kernel), List.mem_of_getElem? (i := 1108) (by decide +kernel), List.mem_of_getElem? (i := 1109) (by decide +kernel)⟩
theorem lw_p36 : lw_okq (⟨"ProphetFinesModel", "comes", "(I)I"⟩, 26) := ⟨⟨by decide +kernel, by decide +kernel⟩, List.mem_of_getElem? (i := 900) (by decide +kernel), List.mem_of_getElem? (i := 1112) (by decide +kernel), List.mem_of_getElem? (i := 1113) (by decide +kernel)⟩
theorem lw_p37 : lw_okq (⟨"ProphetFinesModel", "netOf", "(II)I"⟩, 26) := ⟨⟨by decide +kernel, by decide +kernel⟩, List.mem_of_getElem? (i := 900) (by decide +kernel), List.mem_of_getElem? (i := 1116) (by decide +kernel), List.mem_of_getElem? (i := 1117) (by decide +kernel)⟩
theorem lw_p38 : lw_okq (⟨"ProphetFinesModel", "gainsOf", "(II)I"⟩, 26) := ⟨⟨by decide +kernel, by decide +kernel⟩, List.mem_of_getElem? (i := 900) (by decide +kernel), List.mem_of_getElem? (i := 1120) (by decide +kernel), List.mem_of_getElem? (i := 1121) (by decide +kernel)⟩
theorem lw_p39 : lw_okq (⟨"ProphetFinesModel", "gainOf", "(II)I"⟩, 26) := ⟨⟨by decide +kernel, by decide +kernel⟩, List.mem_of_getElem? (i := 900) (by decide +kernel), List.mem_of_getElem? (i := 1124) (by decide +kernel), List.mem_of_getElem? (i := 1125) (by decide +kernel)⟩
theorem lw_p40 : lw_okq (⟨"ProphetFinesModel", "saysTrue", "(II)Z"⟩, 26) := ⟨⟨by decide +kernel, by decide +kernel⟩, List.mem_of_getElem? (i := 900) (by decide +kernel), List.mem_of_getElem? (i := 1128) (by decide +kernel), List.mem_of_getElem? (i := 1129) (by decide +kernel)⟩
theorem lw_p41 : lw_okq (⟨"ProphetFinesModel", "finesOf", "(II)I"⟩, 26) := ⟨⟨by decide +kernel, by decide +kernel⟩, List.mem_of_getElem? (i := 900) (by decide +kernel), List.mem_of_getElem? (i := 1138) (by decide +kernel), List.mem_of_getElem? (i := 1139) (by decide +kernel)⟩
theorem lw_p42 : lw_okq (⟨"ProphetFinesModel", "fineOf", "(II)I"⟩, 26) := ⟨⟨by decide +kernel, by decide +kernel⟩, List.mem_of_getElem? (i := 900) (by decide +kernel), List.mem_of_getElem? (i := 1142) (by decide +kernel), List.mem_of_getElem? (i := 1143) (by decide +kernel)⟩
theorem lw_p43 : lw_okq (⟨"ProphetFinesModel", "oddsOf", "(III)I"⟩, 26) := ⟨⟨by decide +kernel, by decide +kernel⟩, List.mem_of_getElem? (i := 900) (by decide +kernel), List.mem_of_getElem? (i := 1146) (by decide +kernel), List.mem_of_getElem? (i := 1147) (by decide +kernel)⟩
theorem lw_p44 : lw_okq (⟨"ProphetFinesModel", "isNew", "(IIII)Z"⟩, 26) := ⟨⟨by decide +kernel, by decide +kernel⟩, List.mem_of_getElem? (i := 900) (by decide +kernel), List.mem_of_getElem? (i := 1150) (by decide +kernel), List.mem_of_getElem? (i := 1151) (by decide +kernel)⟩
theorem lw_p45 : lw_okq (⟨"ProphetFinesModel", "isAlike", "(IIII)Z"⟩, 26) := ⟨⟨by decide +kernel, by decide +kernel⟩, List.mem_of_getElem? (i := 900) (by decide +kernel), List.mem_of_getElem? (i := 1154) (by decide +kernel), List.mem_of_getElem? (i := 1155) (by decide +kernel)⟩
theorem lw_p46 : lw_okq (⟨"ProphetFinesModel", "fineBy", "(IIZ)I"⟩, 26) := ⟨⟨by decide +kernel, by decide +kernel⟩, List.mem_of_getElem? (i := 900) (by decide +kernel), List.mem_of_getElem? (i := 1158) (by decide +kernel), List.mem_of_getElem? (i := 1159) (by decide +kernel)⟩
theorem lw_p47 : lw_okq (⟨"ProphetFinesModel", "standing", "(I)I"⟩, 26) := ⟨⟨by decide +kernel, by decide +kernel⟩, List.mem_of_getElem? (i := 900) (by decide +kernel), List.mem_of_getElem? (i := 1174) (by decide +kernel), List.mem_of_getElem? (i := 1175) (by decide +kernel)⟩
def lw_privs_3 : List (MethodName × Nat) := [(⟨"ProphetFinesModel", "isEvent", "(I)Z"⟩, 26), (⟨"ProphetFinesModel", "note", "()V"⟩, 26), (⟨"ProphetFinesModel", "isThere", "()Z"⟩, 26), (⟨"ProphetFinesModel", "areEvents", "(I)Z"⟩, 26), (⟨"ProphetFinesModel", "comes", "(I)I"⟩, 26), (⟨"ProphetFinesModel", "netOf", "(II)I"⟩, 26), (⟨"ProphetFinesModel", "gainsOf", "(II)I"⟩, 26), (⟨"ProphetFinesModel", "gainOf", "(II)I"⟩, 26), (⟨"ProphetFinesModel", "saysTrue", "(II)Z"⟩, 26), (⟨"ProphetFinesModel", "finesOf", "(II)I"⟩, 26), (⟨"ProphetFinesModel", "fineOf", "(II)I"⟩, 26), (⟨"ProphetFinesModel", "oddsOf", "(III)I"⟩, 26), (⟨"ProphetFinesModel", "isNew", "(IIII)Z"⟩, 26), (⟨"ProphetFinesModel", "isAlike", "(IIII)Z"⟩, 26), (⟨"ProphetFinesModel", "fineBy", "(IIZ)I"⟩, 26), (⟨"ProphetFinesModel", "standing", "(I)I"⟩, 26)]
theorem lw_r3 : ∀ q ∈ lw_privs_3, lw_okq q := List.forall_mem_cons.mpr ⟨lw_p32, List.forall_mem_cons.mpr ⟨lw_p33, List.forall_mem_cons.mpr ⟨lw_p34, List.forall_mem_cons.mpr ⟨lw_p35, List.forall_mem_cons.mpr ⟨lw_p36, List.forall_mem_cons.mpr ⟨lw_p37, List.forall_mem_cons.mpr ⟨lw_p38, List.forall_mem_cons.mpr ⟨lw_p39, List.forall_mem_cons.mpr ⟨lw_p40, List.forall_mem_cons.mpr ⟨lw_p41, List.forall_mem_cons.mpr ⟨lw_p42, List.forall_mem_cons.mpr ⟨lw_p43, List.forall_mem_cons.mpr ⟨lw_p44, List.forall_mem_cons.mpr ⟨lw_p45, List.forall_mem_cons.mpr ⟨lw_p46, List.forall_mem_cons.mpr ⟨lw_p47, fun _ h => absurd h List.not_mem_nil⟩⟩⟩⟩⟩⟩⟩⟩⟩⟩⟩⟩⟩⟩⟩⟩
theorem lw_p48 : lw_okq (⟨"ProphetFinesModel", "isSaying", "(I)Z"⟩, 26) := ⟨⟨by decide +kernel, by decide +kernel⟩, List.mem_of_getElem? (i := 900) (by decide +kernel), List.mem_of_getElem? (i := 1182) (by decide +kernel), List.mem_of_getElem? (i := 1183) (by decide +kernel)⟩
theorem lw_p49 : lw_okq (⟨"ProphetFinesModel", "sets", "()I"⟩, 26) := ⟨⟨by decide +kernel, by decide +kernel⟩, List.mem_of_getElem? (i := 900) (by decide +kernel), List.mem_of_getElem? (i := 1203) (by decide +kernel), List.mem_of_getElem? (i := 1204) (by decide +kernel)⟩
theorem lw_p50 : lw_okq (⟨"ProphetFinesModel", "often", "(I)J"⟩, 26) := ⟨⟨by decide +kernel, by decide +kernel⟩, List.mem_of_getElem? (i := 900) (by decide +kernel), List.mem_of_getElem? (i := 1207) (by decide +kernel), List.mem_of_getElem? (i := 1208) (by decide +kernel)⟩
theorem lw_p51 : lw_okq (⟨"ProphetFinesModel", "allTimes", "()J"⟩, 26) := ⟨⟨by decide +kernel, by decide +kernel⟩, List.mem_of_getElem? (i := 900) (by decide +kernel), List.mem_of_getElem? (i := 1211) (by decide +kernel), List.mem_of_getElem? (i := 1212) (by decide +kernel)⟩
theorem lw_p52 : lw_okq (⟨"ProphetFinesModel", "warns", "(IIII)Z"⟩, 26) := ⟨⟨by decide +kernel, by decide +kernel⟩, List.mem_of_getElem? (i := 900) (by decide +kernel), List.mem_of_getElem? (i := 1230) (by decide +kernel), List.mem_of_getElem? (i := 1231) (by decide +kernel)⟩
theorem lw_p53 : lw_okq (⟨"ProphetFinesModel", "isLoophole", "(II)Z"⟩, 26) := ⟨⟨by decide +kernel, by decide +kernel⟩, List.mem_of_getElem? (i := 900) (by decide +kernel), List.mem_of_getElem? (i := 1239) (by decide +kernel), List.mem_of_getElem? (i := 1240) (by decide +kernel)⟩
theorem lw_p54 : lw_okq (⟨"ProphetFinesModel", "findGroup", "(I)I"⟩, 26) := ⟨⟨by decide +kernel, by decide +kernel⟩, List.mem_of_getElem? (i := 900) (by decide +kernel), List.mem_of_getElem? (i := 1255) (by decide +kernel), List.mem_of_getElem? (i := 1256) (by decide +kernel)⟩
theorem lw_p55 : lw_okq (⟨"ProphetFinesModel", "findWordings", "()V"⟩, 26) := ⟨⟨by decide +kernel, by decide +kernel⟩, List.mem_of_getElem? (i := 900) (by decide +kernel), List.mem_of_getElem? (i := 1259) (by decide +kernel), List.mem_of_getElem? (i := 1260) (by decide +kernel)⟩
theorem lw_p56 : lw_okq (⟨"ProphetFinesModel", "couldBe", "(II)Z"⟩, 26) := ⟨⟨by decide +kernel, by decide +kernel⟩, List.mem_of_getElem? (i := 900) (by decide +kernel), List.mem_of_getElem? (i := 1267) (by decide +kernel), List.mem_of_getElem? (i := 1268) (by decide +kernel)⟩
theorem lw_p57 : lw_okq (⟨"ProphetFinesModel", "sizeOf", "(I)J"⟩, 26) := ⟨⟨by decide +kernel, by decide +kernel⟩, List.mem_of_getElem? (i := 900) (by decide +kernel), List.mem_of_getElem? (i := 1307) (by decide +kernel), List.mem_of_getElem? (i := 1308) (by decide +kernel)⟩
theorem lw_p58 : lw_okq (⟨"ProphetFinesModel", "leave", "(I)V"⟩, 26) := ⟨⟨by decide +kernel, by decide +kernel⟩, List.mem_of_getElem? (i := 900) (by decide +kernel), List.mem_of_getElem? (i := 1311) (by decide +kernel), List.mem_of_getElem? (i := 1312) (by decide +kernel)⟩
theorem lw_p59 : lw_okq (⟨"ProphetFinesModel", "simpleMark", "(I)J"⟩, 26) := ⟨⟨by decide +kernel, by decide +kernel⟩, List.mem_of_getElem? (i := 900) (by decide +kernel), List.mem_of_getElem? (i := 1316) (by decide +kernel), List.mem_of_getElem? (i := 1317) (by decide +kernel)⟩
def lw_privs_4 : List (MethodName × Nat) := [(⟨"ProphetFinesModel", "isSaying", "(I)Z"⟩, 26), (⟨"ProphetFinesModel", "sets", "()I"⟩, 26), (⟨"ProphetFinesModel", "often", "(I)J"⟩, 26), (⟨"ProphetFinesModel", "allTimes", "()J"⟩, 26), (⟨"ProphetFinesModel", "warns", "(IIII)Z"⟩, 26), (⟨"ProphetFinesModel", "isLoophole", "(II)Z"⟩, 26), (⟨"ProphetFinesModel", "findGroup", "(I)I"⟩, 26), (⟨"ProphetFinesModel", "findWordings", "()V"⟩, 26), (⟨"ProphetFinesModel", "couldBe", "(II)Z"⟩, 26), (⟨"ProphetFinesModel", "sizeOf", "(I)J"⟩, 26), (⟨"ProphetFinesModel", "leave", "(I)V"⟩, 26), (⟨"ProphetFinesModel", "simpleMark", "(I)J"⟩, 26)]
theorem lw_r4 : ∀ q ∈ lw_privs_4, lw_okq q := List.forall_mem_cons.mpr ⟨lw_p48, List.forall_mem_cons.mpr ⟨lw_p49, List.forall_mem_cons.mpr ⟨lw_p50, List.forall_mem_cons.mpr ⟨lw_p51, List.forall_mem_cons.mpr ⟨lw_p52, List.forall_mem_cons.mpr ⟨lw_p53, List.forall_mem_cons.mpr ⟨lw_p54, List.forall_mem_cons.mpr ⟨lw_p55, List.forall_mem_cons.mpr ⟨lw_p56, List.forall_mem_cons.mpr ⟨lw_p57, List.forall_mem_cons.mpr ⟨lw_p58, List.forall_mem_cons.mpr ⟨lw_p59, fun _ h => absurd h List.not_mem_nil⟩⟩⟩⟩⟩⟩⟩⟩⟩⟩⟩⟩
def lw_privs : List (MethodName × Nat) := lw_privs_1 ++ (lw_privs_2 ++ (lw_privs_3 ++ (lw_privs_4)))
def lw_tbl : List Cond := k2_sels lw_privs ++ tables_1
theorem lw_privs_ok : ∀ q ∈ lw_privs, lw_okq q := by
  show ∀ q ∈ lw_privs_1 ++ (lw_privs_2 ++ (lw_privs_3 ++ (lw_privs_4))), lw_okq q
  exact List.forall_mem_append.mpr ⟨lw_r1, List.forall_mem_append.mpr ⟨lw_r2, List.forall_mem_append.mpr ⟨lw_r3, lw_r4⟩⟩⟩
/-! ===== BEGIN words of one list among another's, by their places ===== -/
theorem goodIn_r {big : List Cond} (ws : List Cond) (ps : List Nat) (hp : ws = ps.filterMap (fun i => big[i]?)) (h : ws.all goodWord = true) : GoodIn big ws := by
  intro w hw
  have h1 := List.all_eq_true.mp h w hw
  rw [hp] at hw
  obtain ⟨i, -, hi⟩ := List.mem_filterMap.mp hw
  have hm : w ∈ big := by first | exact List.mem_of_getElem? hi | exact List.getElem?_mem hi
  exact ⟨hm, good_of_word h1⟩
theorem goodIn_app {big a b : List Cond} (ha : GoodIn big a) (hb : GoodIn big b) : GoodIn big (a ++ b) := fun w h => (List.mem_append.mp h).elim (ha w) (hb w)
theorem goodIn_ca {big a b : List Cond} {c : Cond} (ha : GoodIn big (c :: a)) (hb : GoodIn big b) : GoodIn big (c :: (a ++ b)) := fun w h => (List.mem_cons.mp h).elim (fun e => ha w (List.mem_cons.mpr (Or.inl e))) (fun h => (List.mem_append.mp h).elim (fun h => ha w (List.mem_cons.mpr (Or.inr h))) (hb w))
theorem goodIn_sub {big ws : List Cond} (hm : ∀ w ∈ ws, w ∈ big) (h : ws.all goodWord = true) : GoodIn big ws := fun w hw => ⟨hm w hw, good_of_word (List.all_eq_true.mp h w hw)⟩
/-! ===== END ===== -/


/-! ===== BEGIN printed: names, fields, word lists, decode rows ===== -/
def RX0 : String := "ProphetFines$Acts"
def TX0 : u_T := fun k => match k with
  | 0 => ("ProphetFines$Acts", "before", "[LProphetFines$Republic;", true)
  | 1 => ("ProphetFines$Acts", "oldest", "I", false)
  | _ => ("ProphetFines$Acts", "kept", "I", false)
def tyX0 : Nat → FieldType := fun k => match k with
  | 0 => .array (.object "ProphetFines$Republic")
  | 1 => .int
  | _ => .int
abbrev wsX00 : List Cond := u_ws RX0 TX0 3
theorem nmX0 : ∀ a, a < 3 → ∀ b, b < 3 → a ≠ b → (TX0 a).2.1 ≠ (TX0 b).2.1 := by decide +kernel
theorem tyX0_ok : ∀ k, k < 3 → parseFieldDescriptor (TX0 k).2.2.1 = some (tyX0 k) := by decide +kernel
abbrev cX0_init : ByteArray := prog_2_method_1_code
def yX0_init : MethodName := ⟨RX0, "<init>", "()V"⟩
abbrev cX0_keep : ByteArray := prog_2_method_2_code
def yX0_keep : MethodName := ⟨RX0, "keep", "(LProphetFines$Republic;)V"⟩
abbrev cX0_takeLatest : ByteArray := prog_2_method_3_code
def yX0_takeLatest : MethodName := ⟨RX0, "takeLatest", "()LProphetFines$Republic;"⟩
abbrev cX0_forgetAll : ByteArray := prog_2_method_4_code
def yX0_forgetAll : MethodName := ⟨RX0, "forgetAll", "()V"⟩
def RX1 : String := "ProphetFines$Asked"
def TX1 : u_T := fun k => match k with
  | 0 => ("ProphetFines$Asked", "republic", "LProphetFines$Republic;", true)
  | 1 => ("ProphetFines$Asked", "trace", "[I", true)
  | 2 => ("ProphetFines$Asked", "traced", "I", false)
  | _ => ("ProphetFines$Asked", "one", "I", false)
def tyX1 : Nat → FieldType := fun k => match k with
  | 0 => .object "ProphetFines$Republic"
  | 1 => .array .int
  | 2 => .int
  | _ => .int
abbrev wsX10 : List Cond := u_ws RX1 TX1 4
theorem nmX1 : ∀ a, a < 4 → ∀ b, b < 4 → a ≠ b → (TX1 a).2.1 ≠ (TX1 b).2.1 := by decide +kernel
theorem tyX1_ok : ∀ k, k < 4 → parseFieldDescriptor (TX1 k).2.2.1 = some (tyX1 k) := by decide +kernel
abbrev cX1_init : ByteArray := prog_3_method_1_code
def yX1_init : MethodName := ⟨RX1, "<init>", "(LProphetFines$Republic;)V"⟩
abbrev cX1_answer : ByteArray := prog_3_method_2_code
def yX1_answer : MethodName := ⟨RX1, "answer", "(II)I"⟩
abbrev cX1_anew : ByteArray := prog_3_method_3_code
def yX1_anew : MethodName := ⟨RX1, "anew", "(II)I"⟩
abbrev cX1_begin : ByteArray := prog_3_method_4_code
def yX1_begin : MethodName := ⟨RX1, "begin", "(II)I"⟩
abbrev cX1_leave : ByteArray := prog_3_method_5_code
def yX1_leave : MethodName := ⟨RX1, "leave", "(I)V"⟩
def RX2 : String := "ProphetFines$Foresight"
def TX2 : u_T := fun k => match k with
  | 0 => ("ProphetFines$Foresight", "republic", "LProphetFines$Republic;", true)
  | 1 => ("ProphetFines$Foresight", "ledger", "LProphetFines$Ledger;", true)
  | 2 => ("ProphetFines$Foresight", "partners", "[I", true)
  | 3 => ("ProphetFines$Foresight", "codes", "[I", true)
  | 4 => ("ProphetFines$Foresight", "costs", "[I", true)
  | 5 => ("ProphetFines$Foresight", "sets", "[J", true)
  | 6 => ("ProphetFines$Foresight", "wordings", "I", false)
  | 7 => ("ProphetFines$Foresight", "picked", "[I", true)
  | 8 => ("ProphetFines$Foresight", "group", "[I", true)
  | 9 => ("ProphetFines$Foresight", "groupSize", "I", false)
  | _ => ("ProphetFines$Foresight", "groupSum", "I", false)
def tyX2 : Nat → FieldType := fun k => match k with
  | 0 => .object "ProphetFines$Republic"
  | 1 => .object "ProphetFines$Ledger"
  | 2 => .array .int
  | 3 => .array .int
  | 4 => .array .int
  | 5 => .array .long
  | 6 => .int
  | 7 => .array .int
  | 8 => .array .int
  | 9 => .int
  | _ => .int
abbrev wsX20 : List Cond := u_ws RX2 TX2 11
theorem nmX2 : ∀ a, a < 11 → ∀ b, b < 11 → a ≠ b → (TX2 a).2.1 ≠ (TX2 b).2.1 := by decide +kernel
theorem tyX2_ok : ∀ k, k < 11 → parseFieldDescriptor (TX2 k).2.2.1 = some (tyX2 k) := by decide +kernel
abbrev cX2_init : ByteArray := prog_4_method_1_code
def yX2_init : MethodName := ⟨RX2, "<init>", "(LProphetFines$Republic;LProphetFines$Ledger;)V"⟩
abbrev cX2_expectedOf : ByteArray := prog_4_method_2_code
def yX2_expectedOf : MethodName := ⟨RX2, "expectedOf", "(I)J"⟩
abbrev cX2_premiumOf : ByteArray := prog_4_method_3_code
def yX2_premiumOf : MethodName := ⟨RX2, "premiumOf", "(I)J"⟩
abbrev cX2_worstSetOf : ByteArray := prog_4_method_4_code
def yX2_worstSetOf : MethodName := ⟨RX2, "worstSetOf", "(I)I"⟩
abbrev cX2_countPlain : ByteArray := prog_4_method_5_code
def yX2_countPlain : MethodName := ⟨RX2, "countPlain", "(I)I"⟩
abbrev cX2_cheapestWarning : ByteArray := prog_4_method_6_code
def yX2_cheapestWarning : MethodName := ⟨RX2, "cheapestWarning", "(II)I"⟩
abbrev cX2_costIfSaid : ByteArray := prog_4_method_7_code
def yX2_costIfSaid : MethodName := ⟨RX2, "costIfSaid", "(II)I"⟩
abbrev cX2_isLoophole : ByteArray := prog_4_method_8_code
def yX2_isLoophole : MethodName := ⟨RX2, "isLoophole", "(II)Z"⟩
abbrev cX2_countLoopholes : ByteArray := prog_4_method_9_code
def yX2_countLoopholes : MethodName := ⟨RX2, "countLoopholes", "()I"⟩
abbrev cX2_firstLoophole : ByteArray := prog_4_method_10_code
def yX2_firstLoophole : MethodName := ⟨RX2, "firstLoophole", "()I"⟩
abbrev cX2_fewestToTakeAway : ByteArray := prog_4_method_11_code
def yX2_fewestToTakeAway : MethodName := ⟨RX2, "fewestToTakeAway", "()I"⟩
abbrev cX2_pairUp : ByteArray := prog_4_method_12_code
def yX2_pairUp : MethodName := ⟨RX2, "pairUp", "()V"⟩
abbrev cX2_leavesNoLoophole : ByteArray := prog_4_method_13_code
def yX2_leavesNoLoophole : MethodName := ⟨RX2, "leavesNoLoophole", "(I)Z"⟩
abbrev cX2_findGroup : ByteArray := prog_4_method_14_code
def yX2_findGroup : MethodName := ⟨RX2, "findGroup", "(I)Z"⟩
abbrev cX2_groupCode : ByteArray := prog_4_method_15_code
def yX2_groupCode : MethodName := ⟨RX2, "groupCode", "(I)I"⟩
abbrev cX2_listWordings : ByteArray := prog_4_method_16_code
def yX2_listWordings : MethodName := ⟨RX2, "listWordings", "()V"⟩
abbrev cX2_pickFrom : ByteArray := prog_4_method_17_code
def yX2_pickFrom : MethodName := ⟨RX2, "pickFrom", "(IIJI)V"⟩
abbrev cX2_setsFined : ByteArray := prog_4_method_18_code
def yX2_setsFined : MethodName := ⟨RX2, "setsFined", "([II)J"⟩
abbrev cX2_areFinedSo : ByteArray := prog_4_method_19_code
def yX2_areFinedSo : MethodName := ⟨RX2, "areFinedSo", "([III)Z"⟩
abbrev cX2_leastSet : ByteArray := prog_4_method_20_code
def yX2_leastSet : MethodName := ⟨RX2, "leastSet", "(J)I"⟩
abbrev cX2_sureEvents : ByteArray := prog_4_method_21_code
def yX2_sureEvents : MethodName := ⟨RX2, "sureEvents", "(J)I"⟩
def RX3 : String := "ProphetFines$Ledger"
def TX3 : u_T := fun k => match k with
  | 0 => ("ProphetFines$Ledger", "republic", "LProphetFines$Republic;", true)
  | 1 => ("ProphetFines$Ledger", "trueSets", "[J", true)
  | 2 => ("ProphetFines$Ledger", "finedSets", "[J", true)
  | 3 => ("ProphetFines$Ledger", "fine", "[I", true)
  | _ => ("ProphetFines$Ledger", "gain", "[I", true)
def tyX3 : Nat → FieldType := fun k => match k with
  | 0 => .object "ProphetFines$Republic"
  | 1 => .array .long
  | 2 => .array .long
  | 3 => .array .int
  | _ => .array .int
abbrev wsX30 : List Cond := u_ws RX3 TX3 5
theorem nmX3 : ∀ a, a < 5 → ∀ b, b < 5 → a ≠ b → (TX3 a).2.1 ≠ (TX3 b).2.1 := by decide +kernel
theorem tyX3_ok : ∀ k, k < 5 → parseFieldDescriptor (TX3 k).2.2.1 = some (tyX3 k) := by decide +kernel
abbrev cX3_init : ByteArray := prog_5_method_1_code
def yX3_init : MethodName := ⟨RX3, "<init>", "(LProphetFines$Republic;)V"⟩
abbrev cX3_open : ByteArray := prog_5_method_2_code
def yX3_open : MethodName := ⟨RX3, "open", "()V"⟩
abbrev cX3_setsOfAllHis : ByteArray := prog_5_method_3_code
def yX3_setsOfAllHis : MethodName := ⟨RX3, "setsOfAllHis", "(I)J"⟩
abbrev cX3_fineIn : ByteArray := prog_5_method_4_code
def yX3_fineIn : MethodName := ⟨RX3, "fineIn", "(II)I"⟩
abbrev cX3_finesIn : ByteArray := prog_5_method_5_code
def yX3_finesIn : MethodName := ⟨RX3, "finesIn", "(II)I"⟩
abbrev cX3_gainsIn : ByteArray := prog_5_method_6_code
def yX3_gainsIn : MethodName := ⟨RX3, "gainsIn", "(II)I"⟩
abbrev cX3_netIn : ByteArray := prog_5_method_7_code
def yX3_netIn : MethodName := ⟨RX3, "netIn", "(II)I"⟩
def RX4 : String := "ProphetFines$Republic"
def TX4 : u_T := fun k => match k with
  | 0 => ("ProphetFines$Republic", "rate", "I", false)
  | 1 => ("ProphetFines$Republic", "first", "I", false)
  | 2 => ("ProphetFines$Republic", "events", "I", false)
  | 3 => ("ProphetFines$Republic", "prophets", "I", false)
  | 4 => ("ProphetFines$Republic", "standing", "I", false)
  | 5 => ("ProphetFines$Republic", "years", "I", false)
  | 6 => ("ProphetFines$Republic", "chance", "[I", true)
  | 7 => ("ProphetFines$Republic", "kind", "[I", true)
  | 8 => ("ProphetFines$Republic", "heed", "[I", true)
  | 9 => ("ProphetFines$Republic", "purse", "[I", true)
  | 10 => ("ProphetFines$Republic", "right", "[I", true)
  | 11 => ("ProphetFines$Republic", "wrong", "[I", true)
  | 12 => ("ProphetFines$Republic", "who", "[I", true)
  | _ => ("ProphetFines$Republic", "wording", "[I", true)
def tyX4 : Nat → FieldType := fun k => match k with
  | 0 => .int
  | 1 => .int
  | 2 => .int
  | 3 => .int
  | 4 => .int
  | 5 => .int
  | 6 => .array .int
  | 7 => .array .int
  | 8 => .array .int
  | 9 => .array .int
  | 10 => .array .int
  | 11 => .array .int
  | 12 => .array .int
  | _ => .array .int
abbrev wsX40 : List Cond := u_ws RX4 TX4 14
theorem nmX4 : ∀ a, a < 14 → ∀ b, b < 14 → a ≠ b → (TX4 a).2.1 ≠ (TX4 b).2.1 := by decide +kernel
theorem tyX4_ok : ∀ k, k < 14 → parseFieldDescriptor (TX4 k).2.2.1 = some (tyX4 k) := by decide +kernel
abbrev cX4_init : ByteArray := prog_6_method_1_code
def yX4_init : MethodName := ⟨RX4, "<init>", "()V"⟩
abbrev cX4_copyFrom : ByteArray := prog_6_method_2_code
def yX4_copyFrom : MethodName := ⟨RX4, "copyFrom", "(LProphetFines$Republic;)V"⟩
abbrev cX4_isThere : ByteArray := prog_6_method_3_code
def yX4_isThere : MethodName := ⟨RX4, "isThere", "()Z"⟩
abbrev cX4_hasEvent : ByteArray := prog_6_method_4_code
def yX4_hasEvent : MethodName := ⟨RX4, "hasEvent", "(I)Z"⟩
abbrev cX4_hasProphet : ByteArray := prog_6_method_5_code
def yX4_hasProphet : MethodName := ⟨RX4, "hasProphet", "(I)Z"⟩
abbrev cX4_hasSaying : ByteArray := prog_6_method_6_code
def yX4_hasSaying : MethodName := ⟨RX4, "hasSaying", "(I)Z"⟩
abbrev cX4_hasSet : ByteArray := prog_6_method_7_code
def yX4_hasSet : MethodName := ⟨RX4, "hasSet", "(I)Z"⟩
abbrev cX4_hasWording : ByteArray := prog_6_method_8_code
def yX4_hasWording : MethodName := ⟨RX4, "hasWording", "(III)Z"⟩
abbrev cX4_hasCode : ByteArray := prog_6_method_9_code
def yX4_hasCode : MethodName := ⟨RX4, "hasCode", "(I)Z"⟩
abbrev cX4_setCount : ByteArray := prog_6_method_10_code
def yX4_setCount : MethodName := ⟨RX4, "setCount", "()I"⟩
abbrev cX4_allSets : ByteArray := prog_6_method_11_code
def yX4_allSets : MethodName := ⟨RX4, "allSets", "()J"⟩
abbrev cX4_addSaying : ByteArray := prog_6_method_12_code
def yX4_addSaying : MethodName := ⟨RX4, "addSaying", "(II)V"⟩
abbrev cX4_sayingsOf : ByteArray := prog_6_method_13_code
def yX4_sayingsOf : MethodName := ⟨RX4, "sayingsOf", "(I)I"⟩
abbrev cX4_isNew : ByteArray := prog_6_method_14_code
def yX4_isNew : MethodName := ⟨RX4, "isNew", "(II)Z"⟩
abbrev cX4_oddsOf : ByteArray := prog_6_method_15_code
def yX4_oddsOf : MethodName := ⟨RX4, "oddsOf", "(I)I"⟩
abbrev cX4_setsOf : ByteArray := prog_6_method_16_code
def yX4_setsOf : MethodName := ⟨RX4, "setsOf", "(I)J"⟩
abbrev cX4_bareFine : ByteArray := prog_6_method_17_code
def yX4_bareFine : MethodName := ⟨RX4, "bareFine", "(I)I"⟩
abbrev cX4_fullFine : ByteArray := prog_6_method_18_code
def yX4_fullFine : MethodName := ⟨RX4, "fullFine", "(III)I"⟩
abbrev cX4_gainOf : ByteArray := prog_6_method_19_code
def yX4_gainOf : MethodName := ⟨RX4, "gainOf", "(I)I"⟩
abbrev cX4_setBySeed : ByteArray := prog_6_method_20_code
def yX4_setBySeed : MethodName := ⟨RX4, "setBySeed", "(I)I"⟩
abbrev cX4_endYear : ByteArray := prog_6_method_21_code
def yX4_endYear : MethodName := ⟨RX4, "endYear", "(LProphetFines$Ledger;I)I"⟩
abbrev cX4_mostRight : ByteArray := prog_6_method_22_code
def yX4_mostRight : MethodName := ⟨RX4, "mostRight", "()I"⟩
abbrev cX4_isMoreRight : ByteArray := prog_6_method_23_code
def yX4_isMoreRight : MethodName := ⟨RX4, "isMoreRight", "(II)Z"⟩
abbrev cX4_weightOf : ByteArray := prog_6_method_24_code
def yX4_weightOf : MethodName := ⟨RX4, "weightOf", "(I)J"⟩
abbrev cX4_fractionPart : ByteArray := prog_6_method_25_code
def yX4_fractionPart : MethodName := ⟨RX4, "fractionPart", "(JI)J"⟩
abbrev cX4_commonDivisor : ByteArray := prog_6_method_26_code
def yX4_commonDivisor : MethodName := ⟨RX4, "commonDivisor", "(JJ)J"⟩
def RX5 : String := "ProphetFines$Rows"
def TX5 : u_T := fun k => match k with
  | 0 => ("ProphetFines$Rows", "items", "[[I", true)
  | 1 => ("ProphetFines$Rows", "lane", "[I", true)
  | _ => ("ProphetFines$Rows", "size", "[I", true)
def tyX5 : Nat → FieldType := fun k => match k with
  | 0 => .array (.array .int)
  | 1 => .array .int
  | _ => .array .int
abbrev wsX50 : List Cond := u_ws RX5 TX5 3
theorem nmX5 : ∀ a, a < 3 → ∀ b, b < 3 → a ≠ b → (TX5 a).2.1 ≠ (TX5 b).2.1 := by decide +kernel
theorem tyX5_ok : ∀ k, k < 3 → parseFieldDescriptor (TX5 k).2.2.1 = some (tyX5 k) := by decide +kernel
abbrev cX5_init : ByteArray := prog_7_method_1_code
def yX5_init : MethodName := ⟨RX5, "<init>", "()V"⟩
abbrev cX5_isRow : ByteArray := prog_7_method_2_code
def yX5_isRow : MethodName := ⟨RX5, "isRow", "(I)Z"⟩
abbrev cX5_isLane : ByteArray := prog_7_method_3_code
def yX5_isLane : MethodName := ⟨RX5, "isLane", "(I)Z"⟩
abbrev cX5_isMissing : ByteArray := prog_7_method_4_code
def yX5_isMissing : MethodName := ⟨RX5, "isMissing", "(I)Z"⟩
abbrev cX5_hasPlaces : ByteArray := prog_7_method_5_code
def yX5_hasPlaces : MethodName := ⟨RX5, "hasPlaces", "(III)Z"⟩
abbrev cX5_make : ByteArray := prog_7_method_6_code
def yX5_make : MethodName := ⟨RX5, "make", "(III)V"⟩
abbrev cX5_put : ByteArray := prog_7_method_7_code
def yX5_put : MethodName := ⟨RX5, "put", "(III)I"⟩
abbrev cX5_hasItemBelow : ByteArray := prog_7_method_8_code
def yX5_hasItemBelow : MethodName := ⟨RX5, "hasItemBelow", "(IIII)Z"⟩
abbrev cX5_countThere : ByteArray := prog_7_method_9_code
def yX5_countThere : MethodName := ⟨RX5, "countThere", "()I"⟩
abbrev cX5_cut : ByteArray := prog_7_method_10_code
def yX5_cut : MethodName := ⟨RX5, "cut", "(II)I"⟩
def RX6 : String := "ProphetFines$Tape"
def TX6 : u_T := fun k => match k with
  | 0 => ("ProphetFines$Tape", "bytes", "[I", true)
  | 1 => ("ProphetFines$Tape", "length", "I", false)
  | 2 => ("ProphetFines$Tape", "at", "I", false)
  | 3 => ("ProphetFines$Tape", "number", "I", false)
  | _ => ("ProphetFines$Tape", "fault", "I", false)
def tyX6 : Nat → FieldType := fun k => match k with
  | 0 => .array .int
  | 1 => .int
  | 2 => .int
  | 3 => .int
  | _ => .int
abbrev wsX60 : List Cond := u_ws RX6 TX6 5
theorem nmX6 : ∀ a, a < 5 → ∀ b, b < 5 → a ≠ b → (TX6 a).2.1 ≠ (TX6 b).2.1 := by decide +kernel
theorem tyX6_ok : ∀ k, k < 5 → parseFieldDescriptor (TX6 k).2.2.1 = some (tyX6 k) := by decide +kernel
abbrev cX6_init : ByteArray := prog_8_method_1_code
def yX6_init : MethodName := ⟨RX6, "<init>", "()V"⟩
abbrev cX6_append : ByteArray := prog_8_method_2_code
def yX6_append : MethodName := ⟨RX6, "append", "(I)I"⟩
abbrev cX6_readInto : ByteArray := prog_8_method_3_code
def yX6_readInto : MethodName := ⟨RX6, "readInto", "(LProphetFines$Republic;)Z"⟩
abbrev cX6_readLaw : ByteArray := prog_8_method_4_code
def yX6_readLaw : MethodName := ⟨RX6, "readLaw", "(LProphetFines$Republic;)Z"⟩
abbrev cX6_readEvents : ByteArray := prog_8_method_5_code
def yX6_readEvents : MethodName := ⟨RX6, "readEvents", "(LProphetFines$Republic;)Z"⟩
abbrev cX6_readProphets : ByteArray := prog_8_method_6_code
def yX6_readProphets : MethodName := ⟨RX6, "readProphets", "(LProphetFines$Republic;)Z"⟩
abbrev cX6_here : ByteArray := prog_8_method_7_code
def yX6_here : MethodName := ⟨RX6, "here", "()I"⟩
abbrev cX6_kindHere : ByteArray := prog_8_method_8_code
def yX6_kindHere : MethodName := ⟨RX6, "kindHere", "()I"⟩
abbrev cX6_take : ByteArray := prog_8_method_9_code
def yX6_take : MethodName := ⟨RX6, "take", "(I)Z"⟩
abbrev cX6_takeNumber : ByteArray := prog_8_method_10_code
def yX6_takeNumber : MethodName := ⟨RX6, "takeNumber", "(II)Z"⟩
abbrev cX6_wrong : ByteArray := prog_8_method_11_code
def yX6_wrong : MethodName := ⟨RX6, "wrong", "(I)Z"⟩
abbrev cX6_isFigure : ByteArray := prog_8_method_12_code
def yX6_isFigure : MethodName := ⟨RX6, "isFigure", "(I)Z"⟩
def RX7 : String := "ProphetFines"
def TX7 : u_T := fun k => match k with
  | 0 => ("ProphetFines", "rows", "LProphetFines$Rows;", true)
  | 1 => ("ProphetFines", "tape", "LProphetFines$Tape;", true)
  | 2 => ("ProphetFines", "republic", "LProphetFines$Republic;", true)
  | 3 => ("ProphetFines", "draft", "LProphetFines$Republic;", true)
  | 4 => ("ProphetFines", "acts", "LProphetFines$Acts;", true)
  | 5 => ("ProphetFines", "images", "[LProphetFines$Republic;", true)
  | 6 => ("ProphetFines", "ledger", "LProphetFines$Ledger;", true)
  | 7 => ("ProphetFines", "foresight", "LProphetFines$Foresight;", true)
  | 8 => ("ProphetFines", "asked", "LProphetFines$Asked;", true)
  | _ => ("ProphetFines", "status", "I", false)
def tyX7 : Nat → FieldType := fun k => match k with
  | 0 => .object "ProphetFines$Rows"
  | 1 => .object "ProphetFines$Tape"
  | 2 => .object "ProphetFines$Republic"
  | 3 => .object "ProphetFines$Republic"
  | 4 => .object "ProphetFines$Acts"
  | 5 => .array (.object "ProphetFines$Republic")
  | 6 => .object "ProphetFines$Ledger"
  | 7 => .object "ProphetFines$Foresight"
  | 8 => .object "ProphetFines$Asked"
  | _ => .int
abbrev wsX70 : List Cond := u_ws RX7 TX7 10
theorem nmX7 : ∀ a, a < 10 → ∀ b, b < 10 → a ≠ b → (TX7 a).2.1 ≠ (TX7 b).2.1 := by decide +kernel
theorem tyX7_ok : ∀ k, k < 10 → parseFieldDescriptor (TX7 k).2.2.1 = some (tyX7 k) := by decide +kernel
abbrev cX7_init : ByteArray := prog_1_method_1_code
def yX7_init : MethodName := ⟨RX7, "<init>", "()V"⟩
abbrev cX7_row : ByteArray := prog_1_method_2_code
def yX7_row : MethodName := ⟨RX7, "row", "(III)I"⟩
abbrev cX7_set : ByteArray := prog_1_method_3_code
def yX7_set : MethodName := ⟨RX7, "set", "(III)I"⟩
abbrev cX7_copy : ByteArray := prog_1_method_4_code
def yX7_copy : MethodName := ⟨RX7, "copy", "(IIIII)I"⟩
abbrev cX7_drop : ByteArray := prog_1_method_5_code
def yX7_drop : MethodName := ⟨RX7, "drop", "(I)I"⟩
abbrev cX7_feed : ByteArray := prog_1_method_6_code
def yX7_feed : MethodName := ⟨RX7, "feed", "(I)I"⟩
abbrev cX7_republic : ByteArray := prog_1_method_7_code
def yX7_republic : MethodName := ⟨RX7, "republic", "()I"⟩
abbrev cX7_fault : ByteArray := prog_1_method_8_code
def yX7_fault : MethodName := ⟨RX7, "fault", "()I"⟩
abbrev cX7_undo : ByteArray := prog_1_method_9_code
def yX7_undo : MethodName := ⟨RX7, "undo", "()I"⟩
abbrev cX7_say : ByteArray := prog_1_method_10_code
def yX7_say : MethodName := ⟨RX7, "say", "(IIII)I"⟩
abbrev cX7_unsay : ByteArray := prog_1_method_11_code
def yX7_unsay : MethodName := ⟨RX7, "unsay", "()I"⟩
abbrev cX7_chance : ByteArray := prog_1_method_12_code
def yX7_chance : MethodName := ⟨RX7, "chance", "(II)I"⟩
abbrev cX7_year : ByteArray := prog_1_method_13_code
def yX7_year : MethodName := ⟨RX7, "year", "(I)I"⟩
abbrev cX7_drawn : ByteArray := prog_1_method_14_code
def yX7_drawn : MethodName := ⟨RX7, "drawn", "(I)I"⟩
abbrev cX7_prophet : ByteArray := prog_1_method_15_code
def yX7_prophet : MethodName := ⟨RX7, "prophet", "(II)I"⟩
abbrev cX7_saying : ByteArray := prog_1_method_16_code
def yX7_saying : MethodName := ⟨RX7, "saying", "(II)I"⟩
abbrev cX7_odds : ByteArray := prog_1_method_17_code
def yX7_odds : MethodName := ⟨RX7, "odds", "(III)I"⟩
abbrev cX7_fine : ByteArray := prog_1_method_18_code
def yX7_fine : MethodName := ⟨RX7, "fine", "(II)I"⟩
abbrev cX7_net : ByteArray := prog_1_method_19_code
def yX7_net : MethodName := ⟨RX7, "net", "(II)I"⟩
abbrev cX7_expected : ByteArray := prog_1_method_20_code
def yX7_expected : MethodName := ⟨RX7, "expected", "(II)J"⟩
abbrev cX7_worst : ByteArray := prog_1_method_21_code
def yX7_worst : MethodName := ⟨RX7, "worst", "(II)I"⟩
abbrev cX7_cheapest : ByteArray := prog_1_method_22_code
def yX7_cheapest : MethodName := ⟨RX7, "cheapest", "(III)I"⟩
abbrev cX7_loopholes : ByteArray := prog_1_method_23_code
def yX7_loopholes : MethodName := ⟨RX7, "loopholes", "(I)I"⟩
abbrev cX7_shut : ByteArray := prog_1_method_24_code
def yX7_shut : MethodName := ⟨RX7, "shut", "()I"⟩
abbrev cX7_group : ByteArray := prog_1_method_25_code
def yX7_group : MethodName := ⟨RX7, "group", "(II)I"⟩
abbrev cX7_could : ByteArray := prog_1_method_26_code
def yX7_could : MethodName := ⟨RX7, "could", "(III)I"⟩
abbrev cX7_premium : ByteArray := prog_1_method_27_code
def yX7_premium : MethodName := ⟨RX7, "premium", "(II)J"⟩
abbrev cX7_heeded : ByteArray := prog_1_method_28_code
def yX7_heeded : MethodName := ⟨RX7, "heeded", "()I"⟩
abbrev cX7_plain : ByteArray := prog_1_method_29_code
def yX7_plain : MethodName := ⟨RX7, "plain", "(I)I"⟩
abbrev cX7_image : ByteArray := prog_1_method_30_code
def yX7_image : MethodName := ⟨RX7, "image", "(I)I"⟩
abbrev cX7_restore : ByteArray := prog_1_method_31_code
def yX7_restore : MethodName := ⟨RX7, "restore", "(I)I"⟩
abbrev cX7_kind : ByteArray := prog_1_method_32_code
def yX7_kind : MethodName := ⟨RX7, "kind", "(I)I"⟩
abbrev cX7_as : ByteArray := prog_1_method_33_code
def yX7_as : MethodName := ⟨RX7, "as", "(II)I"⟩
abbrev cX7_ask : ByteArray := prog_1_method_34_code
def yX7_ask : MethodName := ⟨RX7, "ask", "(II)I"⟩
abbrev cX7_trace : ByteArray := prog_1_method_35_code
def yX7_trace : MethodName := ⟨RX7, "trace", "(I)I"⟩
abbrev cX7_count : ByteArray := prog_1_method_36_code
def yX7_count : MethodName := ⟨RX7, "count", "(I)I"⟩
abbrev cX7_status : ByteArray := prog_1_method_37_code
def yX7_status : MethodName := ⟨RX7, "status", "()I"⟩
abbrev cX7_found : ByteArray := prog_1_method_38_code
def yX7_found : MethodName := ⟨RX7, "found", "(I)I"⟩
abbrev cX7_unfound : ByteArray := prog_1_method_39_code
def yX7_unfound : MethodName := ⟨RX7, "unfound", "(I)I"⟩
abbrev cX7_come : ByteArray := prog_1_method_40_code
def yX7_come : MethodName := ⟨RX7, "come", "(I)I"⟩
abbrev cX7_isBelow : ByteArray := prog_1_method_41_code
def yX7_isBelow : MethodName := ⟨RX7, "isBelow", "(II)Z"⟩
abbrev cX7_codeOf : ByteArray := prog_1_method_42_code
def yX7_codeOf : MethodName := ⟨RX7, "codeOf", "(III)I"⟩
abbrev cX7_formOf : ByteArray := prog_1_method_43_code
def yX7_formOf : MethodName := ⟨RX7, "formOf", "(I)I"⟩
abbrev cX7_firstEventOf : ByteArray := prog_1_method_44_code
def yX7_firstEventOf : MethodName := ⟨RX7, "firstEventOf", "(I)I"⟩
abbrev cX7_secondEventOf : ByteArray := prog_1_method_45_code
def yX7_secondEventOf : MethodName := ⟨RX7, "secondEventOf", "(I)I"⟩
abbrev cX7_isOfKind : ByteArray := prog_1_method_46_code
def yX7_isOfKind : MethodName := ⟨RX7, "isOfKind", "(II)Z"⟩
abbrev cX7_isIn : ByteArray := prog_1_method_47_code
def yX7_isIn : MethodName := ⟨RX7, "isIn", "(JI)Z"⟩
def RX8 : String := "ProphetFinesModel"
def TX8 : u_T := fun k => match k with
  | 0 => ("ProphetFinesModel", "st", "[I", true)
  | 1 => ("ProphetFinesModel", "lanes", "[I", true)
  | 2 => ("ProphetFinesModel", "sizes", "[I", true)
  | 3 => ("ProphetFinesModel", "items", "[I", true)
  | 4 => ("ProphetFinesModel", "state", "I", false)
  | 5 => ("ProphetFinesModel", "tape", "[I", true)
  | 6 => ("ProphetFinesModel", "taped", "I", false)
  | 7 => ("ProphetFinesModel", "faulty", "I", false)
  | 8 => ("ProphetFinesModel", "moved", "[I", true)
  | 9 => ("ProphetFinesModel", "place", "I", false)
  | 10 => ("ProphetFinesModel", "token", "I", false)
  | 11 => ("ProphetFinesModel", "value", "I", false)
  | 12 => ("ProphetFinesModel", "begins", "I", false)
  | 13 => ("ProphetFinesModel", "wrong", "I", false)
  | 14 => ("ProphetFinesModel", "read", "[I", true)
  | 15 => ("ProphetFinesModel", "ahead", "[I", true)
  | 16 => ("ProphetFinesModel", "acts", "I", false)
  | 17 => ("ProphetFinesModel", "holes", "[I", true)
  | 18 => ("ProphetFinesModel", "codes", "[I", true)
  | 19 => ("ProphetFinesModel", "costs", "[I", true)
  | 20 => ("ProphetFinesModel", "truths", "[J", true)
  | 21 => ("ProphetFinesModel", "wordings", "I", false)
  | 22 => ("ProphetFinesModel", "group", "[I", true)
  | 23 => ("ProphetFinesModel", "kept", "[I", true)
  | 24 => ("ProphetFinesModel", "traces", "[I", true)
  | _ => ("ProphetFinesModel", "traced", "I", false)
def tyX8 : Nat → FieldType := fun k => match k with
  | 0 => .array .int
  | 1 => .array .int
  | 2 => .array .int
  | 3 => .array .int
  | 4 => .int
  | 5 => .array .int
  | 6 => .int
  | 7 => .int
  | 8 => .array .int
  | 9 => .int
  | 10 => .int
  | 11 => .int
  | 12 => .int
  | 13 => .int
  | 14 => .array .int
  | 15 => .array .int
  | 16 => .int
  | 17 => .array .int
  | 18 => .array .int
  | 19 => .array .int
  | 20 => .array .long
  | 21 => .int
  | 22 => .array .int
  | 23 => .array .int
  | 24 => .array .int
  | _ => .int
abbrev wsX80 : List Cond := u_ws RX8 TX8 26
theorem nmX8 : ∀ a, a < 26 → ∀ b, b < 26 → a ≠ b → (TX8 a).2.1 ≠ (TX8 b).2.1 := by decide +kernel
theorem tyX8_ok : ∀ k, k < 26 → parseFieldDescriptor (TX8 k).2.2.1 = some (tyX8 k) := by decide +kernel
abbrev cX8_init : ByteArray := prog_10_method_1_code
def yX8_init : MethodName := ⟨RX8, "<init>", "()V"⟩
abbrev cX8_in : ByteArray := prog_10_method_2_code
def yX8_in : MethodName := ⟨RX8, "in", "(JJJ)Z"⟩
abbrev cX8_has : ByteArray := prog_10_method_3_code
def yX8_has : MethodName := ⟨RX8, "has", "(II)Z"⟩
abbrev cX8_ones : ByteArray := prog_10_method_4_code
def yX8_ones : MethodName := ⟨RX8, "ones", "(I)I"⟩
abbrev cX8_isRow : ByteArray := prog_10_method_5_code
def yX8_isRow : MethodName := ⟨RX8, "isRow", "(I)Z"⟩
abbrev cX8_find : ByteArray := prog_10_method_6_code
def yX8_find : MethodName := ⟨RX8, "find", "(I)I"⟩
abbrev cX8_well : ByteArray := prog_10_method_7_code
def yX8_well : MethodName := ⟨RX8, "well", "(I)I"⟩
abbrev cX8_row : ByteArray := prog_10_method_8_code
def yX8_row : MethodName := ⟨RX8, "row", "(III)I"⟩
abbrev cX8_set : ByteArray := prog_10_method_9_code
def yX8_set : MethodName := ⟨RX8, "set", "(III)I"⟩
abbrev cX8_copy : ByteArray := prog_10_method_10_code
def yX8_copy : MethodName := ⟨RX8, "copy", "(IIIII)I"⟩
abbrev cX8_drop : ByteArray := prog_10_method_11_code
def yX8_drop : MethodName := ⟨RX8, "drop", "(I)I"⟩
abbrev cX8_feed : ByteArray := prog_10_method_12_code
def yX8_feed : MethodName := ⟨RX8, "feed", "(I)I"⟩
abbrev cX8_nextToken : ByteArray := prog_10_method_13_code
def yX8_nextToken : MethodName := ⟨RX8, "nextToken", "()V"⟩
abbrev cX8_takes : ByteArray := prog_10_method_14_code
def yX8_takes : MethodName := ⟨RX8, "takes", "(I)Z"⟩
abbrev cX8_takesNumber : ByteArray := prog_10_method_15_code
def yX8_takesNumber : MethodName := ⟨RX8, "takesNumber", "(III)Z"⟩
abbrev cX8_kindBy : ByteArray := prog_10_method_16_code
def yX8_kindBy : MethodName := ⟨RX8, "kindBy", "(I)I"⟩
abbrev cX8_readEvent : ByteArray := prog_10_method_17_code
def yX8_readEvent : MethodName := ⟨RX8, "readEvent", "()Z"⟩
abbrev cX8_readProphet : ByteArray := prog_10_method_18_code
def yX8_readProphet : MethodName := ⟨RX8, "readProphet", "()Z"⟩
abbrev cX8_readAll : ByteArray := prog_10_method_19_code
def yX8_readAll : MethodName := ⟨RX8, "readAll", "()Z"⟩
abbrev cX8_republic : ByteArray := prog_10_method_20_code
def yX8_republic : MethodName := ⟨RX8, "republic", "()I"⟩
abbrev cX8_fault : ByteArray := prog_10_method_21_code
def yX8_fault : MethodName := ⟨RX8, "fault", "()I"⟩
abbrev cX8_note : ByteArray := prog_10_method_22_code
def yX8_note : MethodName := ⟨RX8, "note", "()V"⟩
abbrev cX8_undo : ByteArray := prog_10_method_23_code
def yX8_undo : MethodName := ⟨RX8, "undo", "()I"⟩
abbrev cX8_isThere : ByteArray := prog_10_method_24_code
def yX8_isThere : MethodName := ⟨RX8, "isThere", "()Z"⟩
abbrev cX8_isEvent : ByteArray := prog_10_method_25_code
def yX8_isEvent : MethodName := ⟨RX8, "isEvent", "(I)Z"⟩
abbrev cX8_isProphet : ByteArray := prog_10_method_26_code
def yX8_isProphet : MethodName := ⟨RX8, "isProphet", "(I)Z"⟩
abbrev cX8_isSaying : ByteArray := prog_10_method_27_code
def yX8_isSaying : MethodName := ⟨RX8, "isSaying", "(I)Z"⟩
abbrev cX8_areEvents : ByteArray := prog_10_method_28_code
def yX8_areEvents : MethodName := ⟨RX8, "areEvents", "(I)Z"⟩
abbrev cX8_isWording : ByteArray := prog_10_method_29_code
def yX8_isWording : MethodName := ⟨RX8, "isWording", "(III)Z"⟩
abbrev cX8_say : ByteArray := prog_10_method_30_code
def yX8_say : MethodName := ⟨RX8, "say", "(IIII)I"⟩
abbrev cX8_unsay : ByteArray := prog_10_method_31_code
def yX8_unsay : MethodName := ⟨RX8, "unsay", "()I"⟩
abbrev cX8_chance : ByteArray := prog_10_method_32_code
def yX8_chance : MethodName := ⟨RX8, "chance", "(II)I"⟩
abbrev cX8_isTrue : ByteArray := prog_10_method_33_code
def yX8_isTrue : MethodName := ⟨RX8, "isTrue", "(IIII)Z"⟩
abbrev cX8_saysTrue : ByteArray := prog_10_method_34_code
def yX8_saysTrue : MethodName := ⟨RX8, "saysTrue", "(II)Z"⟩
abbrev cX8_oddsOf : ByteArray := prog_10_method_35_code
def yX8_oddsOf : MethodName := ⟨RX8, "oddsOf", "(III)I"⟩
abbrev cX8_isAlike : ByteArray := prog_10_method_36_code
def yX8_isAlike : MethodName := ⟨RX8, "isAlike", "(IIII)Z"⟩
abbrev cX8_isNew : ByteArray := prog_10_method_37_code
def yX8_isNew : MethodName := ⟨RX8, "isNew", "(IIII)Z"⟩
abbrev cX8_fineBy : ByteArray := prog_10_method_38_code
def yX8_fineBy : MethodName := ⟨RX8, "fineBy", "(IIZ)I"⟩
abbrev cX8_fineOf : ByteArray := prog_10_method_39_code
def yX8_fineOf : MethodName := ⟨RX8, "fineOf", "(II)I"⟩
abbrev cX8_gainOf : ByteArray := prog_10_method_40_code
def yX8_gainOf : MethodName := ⟨RX8, "gainOf", "(II)I"⟩
abbrev cX8_finesOf : ByteArray := prog_10_method_41_code
def yX8_finesOf : MethodName := ⟨RX8, "finesOf", "(II)I"⟩
abbrev cX8_gainsOf : ByteArray := prog_10_method_42_code
def yX8_gainsOf : MethodName := ⟨RX8, "gainsOf", "(II)I"⟩
abbrev cX8_netOf : ByteArray := prog_10_method_43_code
def yX8_netOf : MethodName := ⟨RX8, "netOf", "(II)I"⟩
abbrev cX8_comes : ByteArray := prog_10_method_44_code
def yX8_comes : MethodName := ⟨RX8, "comes", "(I)I"⟩
abbrev cX8_year : ByteArray := prog_10_method_45_code
def yX8_year : MethodName := ⟨RX8, "year", "(I)I"⟩
abbrev cX8_drawn : ByteArray := prog_10_method_46_code
def yX8_drawn : MethodName := ⟨RX8, "drawn", "(I)I"⟩
abbrev cX8_standing : ByteArray := prog_10_method_47_code
def yX8_standing : MethodName := ⟨RX8, "standing", "(I)I"⟩
abbrev cX8_prophet : ByteArray := prog_10_method_48_code
def yX8_prophet : MethodName := ⟨RX8, "prophet", "(II)I"⟩
abbrev cX8_saying : ByteArray := prog_10_method_49_code
def yX8_saying : MethodName := ⟨RX8, "saying", "(II)I"⟩
abbrev cX8_odds : ByteArray := prog_10_method_50_code
def yX8_odds : MethodName := ⟨RX8, "odds", "(III)I"⟩
abbrev cX8_fine : ByteArray := prog_10_method_51_code
def yX8_fine : MethodName := ⟨RX8, "fine", "(II)I"⟩
abbrev cX8_net : ByteArray := prog_10_method_52_code
def yX8_net : MethodName := ⟨RX8, "net", "(II)I"⟩
abbrev cX8_sets : ByteArray := prog_10_method_53_code
def yX8_sets : MethodName := ⟨RX8, "sets", "()I"⟩
abbrev cX8_often : ByteArray := prog_10_method_54_code
def yX8_often : MethodName := ⟨RX8, "often", "(I)J"⟩
abbrev cX8_allTimes : ByteArray := prog_10_method_55_code
def yX8_allTimes : MethodName := ⟨RX8, "allTimes", "()J"⟩
abbrev cX8_common : ByteArray := prog_10_method_56_code
def yX8_common : MethodName := ⟨RX8, "common", "(JJ)J"⟩
abbrev cX8_part : ByteArray := prog_10_method_57_code
def yX8_part : MethodName := ⟨RX8, "part", "(JJI)J"⟩
abbrev cX8_expected : ByteArray := prog_10_method_58_code
def yX8_expected : MethodName := ⟨RX8, "expected", "(II)J"⟩
abbrev cX8_worst : ByteArray := prog_10_method_59_code
def yX8_worst : MethodName := ⟨RX8, "worst", "(II)I"⟩
abbrev cX8_warns : ByteArray := prog_10_method_60_code
def yX8_warns : MethodName := ⟨RX8, "warns", "(IIII)Z"⟩
abbrev cX8_cheapest : ByteArray := prog_10_method_61_code
def yX8_cheapest : MethodName := ⟨RX8, "cheapest", "(III)I"⟩
abbrev cX8_isLoophole : ByteArray := prog_10_method_62_code
def yX8_isLoophole : MethodName := ⟨RX8, "isLoophole", "(II)Z"⟩
abbrev cX8_loopholes : ByteArray := prog_10_method_63_code
def yX8_loopholes : MethodName := ⟨RX8, "loopholes", "(I)I"⟩
abbrev cX8_shut : ByteArray := prog_10_method_64_code
def yX8_shut : MethodName := ⟨RX8, "shut", "()I"⟩
abbrev cX8_findWordings : ByteArray := prog_10_method_65_code
def yX8_findWordings : MethodName := ⟨RX8, "findWordings", "()V"⟩
abbrev cX8_findGroup : ByteArray := prog_10_method_66_code
def yX8_findGroup : MethodName := ⟨RX8, "findGroup", "(I)I"⟩
abbrev cX8_group : ByteArray := prog_10_method_67_code
def yX8_group : MethodName := ⟨RX8, "group", "(II)I"⟩
abbrev cX8_couldBe : ByteArray := prog_10_method_68_code
def yX8_couldBe : MethodName := ⟨RX8, "couldBe", "(II)Z"⟩
abbrev cX8_could : ByteArray := prog_10_method_69_code
def yX8_could : MethodName := ⟨RX8, "could", "(III)I"⟩
abbrev cX8_premium : ByteArray := prog_10_method_70_code
def yX8_premium : MethodName := ⟨RX8, "premium", "(II)J"⟩
abbrev cX8_heeded : ByteArray := prog_10_method_71_code
def yX8_heeded : MethodName := ⟨RX8, "heeded", "()I"⟩
abbrev cX8_plain : ByteArray := prog_10_method_72_code
def yX8_plain : MethodName := ⟨RX8, "plain", "(I)I"⟩
abbrev cX8_image : ByteArray := prog_10_method_73_code
def yX8_image : MethodName := ⟨RX8, "image", "(I)I"⟩
abbrev cX8_restore : ByteArray := prog_10_method_74_code
def yX8_restore : MethodName := ⟨RX8, "restore", "(I)I"⟩
abbrev cX8_kind : ByteArray := prog_10_method_75_code
def yX8_kind : MethodName := ⟨RX8, "kind", "(I)I"⟩
abbrev cX8_isKind : ByteArray := prog_10_method_76_code
def yX8_isKind : MethodName := ⟨RX8, "isKind", "(II)Z"⟩
abbrev cX8_as : ByteArray := prog_10_method_77_code
def yX8_as : MethodName := ⟨RX8, "as", "(II)I"⟩
abbrev cX8_leave : ByteArray := prog_10_method_78_code
def yX8_leave : MethodName := ⟨RX8, "leave", "(I)V"⟩
abbrev cX8_sizeOf : ByteArray := prog_10_method_79_code
def yX8_sizeOf : MethodName := ⟨RX8, "sizeOf", "(I)J"⟩
abbrev cX8_simpleMark : ByteArray := prog_10_method_80_code
def yX8_simpleMark : MethodName := ⟨RX8, "simpleMark", "(I)J"⟩
abbrev cX8_ask : ByteArray := prog_10_method_81_code
def yX8_ask : MethodName := ⟨RX8, "ask", "(II)I"⟩
abbrev cX8_trace : ByteArray := prog_10_method_82_code
def yX8_trace : MethodName := ⟨RX8, "trace", "(I)I"⟩
abbrev cX8_count : ByteArray := prog_10_method_83_code
def yX8_count : MethodName := ⟨RX8, "count", "(I)I"⟩
abbrev cX8_status : ByteArray := prog_10_method_84_code
def yX8_status : MethodName := ⟨RX8, "status", "()I"⟩
def RJx145de : String := "java/io/Serializable"
def TJx145de : u_T := fun k => match k with
  | _ => ("", "", "", false)
def tyJx145de : Nat → FieldType := fun k => match k with
  | _ => .int
abbrev wsJx145de0 : List Cond := u_ws RJx145de TJx145de 0
theorem nmJx145de : ∀ a, a < 0 → ∀ b, b < 0 → a ≠ b → (TJx145de a).2.1 ≠ (TJx145de b).2.1 := by decide +kernel
theorem tyJx145de_ok : ∀ k, k < 0 → parseFieldDescriptor (TJx145de k).2.2.1 = some (tyJx145de k) := by decide +kernel
def RJx9f9b0 : String := "java/lang/CharSequence"
def TJx9f9b0 : u_T := fun k => match k with
  | _ => ("", "", "", false)
def tyJx9f9b0 : Nat → FieldType := fun k => match k with
  | _ => .int
abbrev wsJx9f9b00 : List Cond := u_ws RJx9f9b0 TJx9f9b0 0
theorem nmJx9f9b0 : ∀ a, a < 0 → ∀ b, b < 0 → a ≠ b → (TJx9f9b0 a).2.1 ≠ (TJx9f9b0 b).2.1 := by decide +kernel
theorem tyJx9f9b0_ok : ∀ k, k < 0 → parseFieldDescriptor (TJx9f9b0 k).2.2.1 = some (tyJx9f9b0 k) := by decide +kernel
def RJxb160c : String := "java/lang/Comparable"
def TJxb160c : u_T := fun k => match k with
  | _ => ("", "", "", false)
def tyJxb160c : Nat → FieldType := fun k => match k with
  | _ => .int
abbrev wsJxb160c0 : List Cond := u_ws RJxb160c TJxb160c 0
theorem nmJxb160c : ∀ a, a < 0 → ∀ b, b < 0 → a ≠ b → (TJxb160c a).2.1 ≠ (TJxb160c b).2.1 := by decide +kernel
theorem tyJxb160c_ok : ∀ k, k < 0 → parseFieldDescriptor (TJxb160c k).2.2.1 = some (tyJxb160c k) := by decide +kernel
def RJ6 : String := "java/lang/Integer"
def TJ6 : u_T := fun k => match k with
  | _ => ("", "", "", false)
def tyJ6 : Nat → FieldType := fun k => match k with
  | _ => .int
abbrev wsJ60 : List Cond := u_ws RJ6 TJ6 0
theorem nmJ6 : ∀ a, a < 0 → ∀ b, b < 0 → a ≠ b → (TJ6 a).2.1 ≠ (TJ6 b).2.1 := by decide +kernel
theorem tyJ6_ok : ∀ k, k < 0 → parseFieldDescriptor (TJ6 k).2.2.1 = some (tyJ6 k) := by decide +kernel
abbrev cJ6_bitCount_0f7a4 : ByteArray := prog_11_method_49_code
def yJ6_bitCount_0f7a4 : MethodName := ⟨RJ6, "bitCount", "(I)I"⟩
def RJ13 : String := "java/lang/Long"
def TJ13 : u_T := fun k => match k with
  | _ => ("", "", "", false)
def tyJ13 : Nat → FieldType := fun k => match k with
  | _ => .int
abbrev wsJ130 : List Cond := u_ws RJ13 TJ13 0
theorem nmJ13 : ∀ a, a < 0 → ∀ b, b < 0 → a ≠ b → (TJ13 a).2.1 ≠ (TJ13 b).2.1 := by decide +kernel
theorem tyJ13_ok : ∀ k, k < 0 → parseFieldDescriptor (TJ13 k).2.2.1 = some (tyJ13 k) := by decide +kernel
abbrev cJ13_bitCount_95d88 : ByteArray := prog_12_method_50_code
def yJ13_bitCount_95d88 : MethodName := ⟨RJ13, "bitCount", "(J)I"⟩
def RJ9 : String := "java/lang/Math"
def TJ9 : u_T := fun k => match k with
  | _ => ("", "", "", false)
def tyJ9 : Nat → FieldType := fun k => match k with
  | _ => .int
abbrev wsJ90 : List Cond := u_ws RJ9 TJ9 0
theorem nmJ9 : ∀ a, a < 0 → ∀ b, b < 0 → a ≠ b → (TJ9 a).2.1 ≠ (TJ9 b).2.1 := by decide +kernel
theorem tyJ9_ok : ∀ k, k < 0 → parseFieldDescriptor (TJ9 k).2.2.1 = some (tyJ9 k) := by decide +kernel
abbrev cJ9_abs_067f4 : ByteArray := prog_13_method_61_code
def yJ9_abs_067f4 : MethodName := ⟨RJ9, "abs", "(J)J"⟩
abbrev cJ9_max_f86c9 : ByteArray := prog_13_method_66_code
def yJ9_max_f86c9 : MethodName := ⟨RJ9, "max", "(JJ)J"⟩
def RJ0 : String := "java/lang/String"
def TJ0 : u_T := fun k => match k with
  | _ => ("", "", "", false)
def tyJ0 : Nat → FieldType := fun k => match k with
  | _ => .int
abbrev wsJ00 : List Cond := u_ws RJ0 TJ0 0
theorem nmJ0 : ∀ a, a < 0 → ∀ b, b < 0 → a ≠ b → (TJ0 a).2.1 ≠ (TJ0 b).2.1 := by decide +kernel
theorem tyJ0_ok : ∀ k, k < 0 → parseFieldDescriptor (TJ0 k).2.2.1 = some (tyJ0 k) := by decide +kernel
abbrev cJ0_charAt_5068e : ByteArray := prog_14_method_56_code
def yJ0_charAt_5068e : MethodName := ⟨RJ0, "charAt", "(I)C"⟩
abbrev cJ0_isLatin1_aae02 : ByteArray := prog_14_method_154_code
def yJ0_isLatin1_aae02 : MethodName := ⟨RJ0, "isLatin1", "()Z"⟩
abbrev cJ0_checkIndex_df160 : ByteArray := prog_14_method_155_code
def yJ0_checkIndex_df160 : MethodName := ⟨RJ0, "checkIndex", "(II)V"⟩
def RJ1 : String := "java/lang/StringLatin1"
def TJ1 : u_T := fun k => match k with
  | _ => ("", "", "", false)
def tyJ1 : Nat → FieldType := fun k => match k with
  | _ => .int
abbrev wsJ10 : List Cond := u_ws RJ1 TJ1 0
theorem nmJ1 : ∀ a, a < 0 → ∀ b, b < 0 → a ≠ b → (TJ1 a).2.1 ≠ (TJ1 b).2.1 := by decide +kernel
theorem tyJ1_ok : ∀ k, k < 0 → parseFieldDescriptor (TJ1 k).2.2.1 = some (tyJ1 k) := by decide +kernel
abbrev cJ1_charAt_3b067 : ByteArray := prog_15_method_2_code
def yJ1_charAt_3b067 : MethodName := ⟨RJ1, "charAt", "([BI)C"⟩
def RJ2 : String := "java/lang/StringUTF16"
def TJ2 : u_T := fun k => match k with
  | _ => ("", "", "", false)
def tyJ2 : Nat → FieldType := fun k => match k with
  | _ => .int
abbrev wsJ20 : List Cond := u_ws RJ2 TJ2 0
theorem nmJ2 : ∀ a, a < 0 → ∀ b, b < 0 → a ≠ b → (TJ2 a).2.1 ≠ (TJ2 b).2.1 := by decide +kernel
theorem tyJ2_ok : ∀ k, k < 0 → parseFieldDescriptor (TJ2 k).2.2.1 = some (tyJ2 k) := by decide +kernel
abbrev cJ2_getChar_3b067 : ByteArray := prog_16_method_5_code
def yJ2_getChar_3b067 : MethodName := ⟨RJ2, "getChar", "([BI)C"⟩
abbrev cJ2_length_9d52b : ByteArray := prog_16_method_6_code
def yJ2_length_9d52b : MethodName := ⟨RJ2, "length", "([B)I"⟩
abbrev cJ2_charAt_3b067 : ByteArray := prog_16_method_83_code
def yJ2_charAt_3b067 : MethodName := ⟨RJ2, "charAt", "([BI)C"⟩
abbrev cJ2_checkIndex_2214a : ByteArray := prog_16_method_91_code
def yJ2_checkIndex_2214a : MethodName := ⟨RJ2, "checkIndex", "(I[B)V"⟩
def RJ10 : String := "java/lang/System"
def TJ10 : u_T := fun k => match k with
  | _ => ("", "", "", false)
def tyJ10 : Nat → FieldType := fun k => match k with
  | _ => .int
abbrev wsJ100 : List Cond := u_ws RJ10 TJ10 0
theorem nmJ10 : ∀ a, a < 0 → ∀ b, b < 0 → a ≠ b → (TJ10 a).2.1 ≠ (TJ10 b).2.1 := by decide +kernel
theorem tyJ10_ok : ∀ k, k < 0 → parseFieldDescriptor (TJ10 k).2.2.1 = some (tyJ10 k) := by decide +kernel
def RJxfd54e : String := "java/lang/constant/Constable"
def TJxfd54e : u_T := fun k => match k with
  | _ => ("", "", "", false)
def tyJxfd54e : Nat → FieldType := fun k => match k with
  | _ => .int
abbrev wsJxfd54e0 : List Cond := u_ws RJxfd54e TJxfd54e 0
theorem nmJxfd54e : ∀ a, a < 0 → ∀ b, b < 0 → a ≠ b → (TJxfd54e a).2.1 ≠ (TJxfd54e b).2.1 := by decide +kernel
theorem tyJxfd54e_ok : ∀ k, k < 0 → parseFieldDescriptor (TJxfd54e k).2.2.1 = some (tyJxfd54e k) := by decide +kernel
def RJx3cf43 : String := "java/lang/constant/ConstantDesc"
def TJx3cf43 : u_T := fun k => match k with
  | _ => ("", "", "", false)
def tyJx3cf43 : Nat → FieldType := fun k => match k with
  | _ => .int
abbrev wsJx3cf430 : List Cond := u_ws RJx3cf43 TJx3cf43 0
theorem nmJx3cf43 : ∀ a, a < 0 → ∀ b, b < 0 → a ≠ b → (TJx3cf43 a).2.1 ≠ (TJx3cf43 b).2.1 := by decide +kernel
theorem tyJx3cf43_ok : ∀ k, k < 0 → parseFieldDescriptor (TJx3cf43 k).2.2.1 = some (tyJx3cf43 k) := by decide +kernel
def RJ7 : String := "java/util/Arrays"
def TJ7 : u_T := fun k => match k with
  | _ => ("", "", "", false)
def tyJ7 : Nat → FieldType := fun k => match k with
  | _ => .int
abbrev wsJ70 : List Cond := u_ws RJ7 TJ7 0
theorem nmJ7 : ∀ a, a < 0 → ∀ b, b < 0 → a ≠ b → (TJ7 a).2.1 ≠ (TJ7 b).2.1 := by decide +kernel
theorem tyJ7_ok : ∀ k, k < 0 → parseFieldDescriptor (TJ7 k).2.2.1 = some (tyJ7 k) := by decide +kernel
abbrev cJ7_fill_53178 : ByteArray := prog_18_method_103_code
def yJ7_fill_53178 : MethodName := ⟨RJ7, "fill", "([II)V"⟩
def RJ3 : String := "jdk/internal/util/Preconditions"
def TJ3 : u_T := fun k => match k with
  | _ => ("", "", "", false)
def tyJ3 : Nat → FieldType := fun k => match k with
  | _ => .int
abbrev wsJ30 : List Cond := u_ws RJ3 TJ3 0
theorem nmJ3 : ∀ a, a < 0 → ∀ b, b < 0 → a ≠ b → (TJ3 a).2.1 ≠ (TJ3 b).2.1 := by decide +kernel
theorem tyJ3_ok : ∀ k, k < 0 → parseFieldDescriptor (TJ3 k).2.2.1 = some (tyJ3 k) := by decide +kernel
abbrev cJ3_checkIndex_8e157 : ByteArray := prog_19_method_11_code
def yJ3_checkIndex_8e157 : MethodName := ⟨RJ3, "checkIndex", "(IILjava/util/function/BiFunction;)I"⟩
def RL : String := "ProphetFinesLaw"
abbrev cL_law : ByteArray := code
def yL_law : MethodName := ⟨RL, "law", "([I)Z"⟩
abbrev vwCl : List vw_C := [(RX0, TX0, 3), (RX1, TX1, 4), (RX2, TX2, 11), (RX3, TX3, 5), (RX4, TX4, 14), (RX5, TX5, 3), (RX6, TX6, 5), (RX7, TX7, 10), (RX8, TX8, 26)]
