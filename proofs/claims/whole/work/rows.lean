section
-- ===== PART A: goes FIRST, ahead of the names: the tables' words, and 'selects' of the private methods out of them =====
/-- a private method of a class that the tables say can be made, by its rows of tables_1 -/
def lw_okq (q : MethodName × Nat) : Prop := (q.1.cls ≠ "java/lang/invoke/MethodHandle" ∧ q.1.cls ≠ "java/lang/invoke/VarHandle") ∧ Cond.instantiable q.1.cls q.2 ∈ tables_1 ∧ Cond.privateMethod q.1 ∈ tables_1 ∧ Cond.instanceMethod q.1 ∈ tables_1
theorem lw_p0 : lw_okq (⟨"WitnessPays$Law", "holds", "(II)Z"⟩, 8) := ⟨⟨by decide +kernel, by decide +kernel⟩, List.mem_of_getElem? (i := 35) (by decide +kernel), List.mem_of_getElem? (i := 334) (by decide +kernel), List.mem_of_getElem? (i := 335) (by decide +kernel)⟩
theorem lw_p1 : lw_okq (⟨"WitnessPays$Street", "lookBy", "(LWitnessPays$Person;)V"⟩, 5) := ⟨⟨by decide +kernel, by decide +kernel⟩, List.mem_of_getElem? (i := 148) (by decide +kernel), List.mem_of_getElem? (i := 361) (by decide +kernel), List.mem_of_getElem? (i := 362) (by decide +kernel)⟩
theorem lw_p2 : lw_okq (⟨"WitnessPays$Street", "seersBehind", "(II)I"⟩, 5) := ⟨⟨by decide +kernel, by decide +kernel⟩, List.mem_of_getElem? (i := 148) (by decide +kernel), List.mem_of_getElem? (i := 412) (by decide +kernel), List.mem_of_getElem? (i := 413) (by decide +kernel)⟩
theorem lw_p3 : lw_okq (⟨"WitnessPays$LawText", "readClause", "()Z"⟩, 4) := ⟨⟨by decide +kernel, by decide +kernel⟩, List.mem_of_getElem? (i := 29) (by decide +kernel), List.mem_of_getElem? (i := 453) (by decide +kernel), List.mem_of_getElem? (i := 454) (by decide +kernel)⟩
theorem lw_p4 : lw_okq (⟨"WitnessPays$LawText", "readWord", "()I"⟩, 4) := ⟨⟨by decide +kernel, by decide +kernel⟩, List.mem_of_getElem? (i := 29) (by decide +kernel), List.mem_of_getElem? (i := 457) (by decide +kernel), List.mem_of_getElem? (i := 458) (by decide +kernel)⟩
theorem lw_p5 : lw_okq (⟨"WitnessPays$LawText", "take", "(C)Z"⟩, 4) := ⟨⟨by decide +kernel, by decide +kernel⟩, List.mem_of_getElem? (i := 29) (by decide +kernel), List.mem_of_getElem? (i := 461) (by decide +kernel), List.mem_of_getElem? (i := 462) (by decide +kernel)⟩
theorem lw_p6 : lw_okq (⟨"WitnessPays$LawText", "readNumber", "()I"⟩, 4) := ⟨⟨by decide +kernel, by decide +kernel⟩, List.mem_of_getElem? (i := 29) (by decide +kernel), List.mem_of_getElem? (i := 465) (by decide +kernel), List.mem_of_getElem? (i := 466) (by decide +kernel)⟩
theorem lw_p7 : lw_okq (⟨"WitnessPays$LawText", "takeAnyOf", "(Ljava/lang/String;)I"⟩, 4) := ⟨⟨by decide +kernel, by decide +kernel⟩, List.mem_of_getElem? (i := 29) (by decide +kernel), List.mem_of_getElem? (i := 470) (by decide +kernel), List.mem_of_getElem? (i := 471) (by decide +kernel)⟩
theorem lw_p8 : lw_okq (⟨"WitnessPays$LawText", "readEither", "(I)Z"⟩, 4) := ⟨⟨by decide +kernel, by decide +kernel⟩, List.mem_of_getElem? (i := 29) (by decide +kernel), List.mem_of_getElem? (i := 547) (by decide +kernel), List.mem_of_getElem? (i := 548) (by decide +kernel)⟩
theorem lw_p9 : lw_okq (⟨"WitnessPays$LawText", "readBoth", "(I)Z"⟩, 4) := ⟨⟨by decide +kernel, by decide +kernel⟩, List.mem_of_getElem? (i := 29) (by decide +kernel), List.mem_of_getElem? (i := 551) (by decide +kernel), List.mem_of_getElem? (i := 552) (by decide +kernel)⟩
theorem lw_p10 : lw_okq (⟨"WitnessPays$LawText", "readFactor", "(I)Z"⟩, 4) := ⟨⟨by decide +kernel, by decide +kernel⟩, List.mem_of_getElem? (i := 29) (by decide +kernel), List.mem_of_getElem? (i := 555) (by decide +kernel), List.mem_of_getElem? (i := 556) (by decide +kernel)⟩
theorem lw_p11 : lw_okq (⟨"WitnessPays$Street", "paidBy", "(I)I"⟩, 5) := ⟨⟨by decide +kernel, by decide +kernel⟩, List.mem_of_getElem? (i := 148) (by decide +kernel), List.mem_of_getElem? (i := 594) (by decide +kernel), List.mem_of_getElem? (i := 595) (by decide +kernel)⟩
theorem lw_p12 : lw_okq (⟨"WitnessPays", "isPlanRow", "(II)Z"⟩, 8) := ⟨⟨by decide +kernel, by decide +kernel⟩, List.mem_of_getElem? (i := 21) (by decide +kernel), List.mem_of_getElem? (i := 704) (by decide +kernel), List.mem_of_getElem? (i := 705) (by decide +kernel)⟩
theorem lw_p13 : lw_okq (⟨"WitnessPays", "tapeOf", "(I)LWitnessPays$Tape;"⟩, 8) := ⟨⟨by decide +kernel, by decide +kernel⟩, List.mem_of_getElem? (i := 21) (by decide +kernel), List.mem_of_getElem? (i := 735) (by decide +kernel), List.mem_of_getElem? (i := 736) (by decide +kernel)⟩
theorem lw_p14 : lw_okq (⟨"WitnessPays$Actor", "looks", "(II)I"⟩, 5) := ⟨⟨by decide +kernel, by decide +kernel⟩, List.mem_of_getElem? (i := 96) (by decide +kernel), List.mem_of_getElem? (i := 776) (by decide +kernel), List.mem_of_getElem? (i := 777) (by decide +kernel)⟩
theorem lw_p15 : lw_okq (⟨"WitnessPays$Actor", "begin", "(I)V"⟩, 5) := ⟨⟨by decide +kernel, by decide +kernel⟩, List.mem_of_getElem? (i := 96) (by decide +kernel), List.mem_of_getElem? (i := 780) (by decide +kernel), List.mem_of_getElem? (i := 781) (by decide +kernel)⟩
def lw_privs_1 : List (MethodName × Nat) := [(⟨"WitnessPays$Law", "holds", "(II)Z"⟩, 8), (⟨"WitnessPays$Street", "lookBy", "(LWitnessPays$Person;)V"⟩, 5), (⟨"WitnessPays$Street", "seersBehind", "(II)I"⟩, 5), (⟨"WitnessPays$LawText", "readClause", "()Z"⟩, 4), (⟨"WitnessPays$LawText", "readWord", "()I"⟩, 4), (⟨"WitnessPays$LawText", "take", "(C)Z"⟩, 4), (⟨"WitnessPays$LawText", "readNumber", "()I"⟩, 4), (⟨"WitnessPays$LawText", "takeAnyOf", "(Ljava/lang/String;)I"⟩, 4), (⟨"WitnessPays$LawText", "readEither", "(I)Z"⟩, 4), (⟨"WitnessPays$LawText", "readBoth", "(I)Z"⟩, 4), (⟨"WitnessPays$LawText", "readFactor", "(I)Z"⟩, 4), (⟨"WitnessPays$Street", "paidBy", "(I)I"⟩, 5), (⟨"WitnessPays", "isPlanRow", "(II)Z"⟩, 8), (⟨"WitnessPays", "tapeOf", "(I)LWitnessPays$Tape;"⟩, 8), (⟨"WitnessPays$Actor", "looks", "(II)I"⟩, 5), (⟨"WitnessPays$Actor", "begin", "(I)V"⟩, 5)]
theorem lw_r1 : ∀ q ∈ lw_privs_1, lw_okq q := List.forall_mem_cons.mpr ⟨lw_p0, List.forall_mem_cons.mpr ⟨lw_p1, List.forall_mem_cons.mpr ⟨lw_p2, List.forall_mem_cons.mpr ⟨lw_p3, List.forall_mem_cons.mpr ⟨lw_p4, List.forall_mem_cons.mpr ⟨lw_p5, List.forall_mem_cons.mpr ⟨lw_p6, List.forall_mem_cons.mpr ⟨lw_p7, List.forall_mem_cons.mpr ⟨lw_p8, List.forall_mem_cons.mpr ⟨lw_p9, List.forall_mem_cons.mpr ⟨lw_p10, List.forall_mem_cons.mpr ⟨lw_p11, List.forall_mem_cons.mpr ⟨lw_p12, List.forall_mem_cons.mpr ⟨lw_p13, List.forall_mem_cons.mpr ⟨lw_p14, List.forall_mem_cons.mpr ⟨lw_p15, fun _ h => absurd h List.not_mem_nil⟩⟩⟩⟩⟩⟩⟩⟩⟩⟩⟩⟩⟩⟩⟩⟩
theorem lw_p16 : lw_okq (⟨"WitnessPays$Actor", "swears", "(II)I"⟩, 5) := ⟨⟨by decide +kernel, by decide +kernel⟩, List.mem_of_getElem? (i := 96) (by decide +kernel), List.mem_of_getElem? (i := 784) (by decide +kernel), List.mem_of_getElem? (i := 785) (by decide +kernel)⟩
theorem lw_p17 : lw_okq (⟨"WitnessPays$Actor", "tells", "(II)I"⟩, 5) := ⟨⟨by decide +kernel, by decide +kernel⟩, List.mem_of_getElem? (i := 96) (by decide +kernel), List.mem_of_getElem? (i := 788) (by decide +kernel), List.mem_of_getElem? (i := 789) (by decide +kernel)⟩
theorem lw_p18 : lw_okq (⟨"WitnessPaysModel", "isOne", "(I)Z"⟩, 44) := ⟨⟨by decide +kernel, by decide +kernel⟩, List.mem_of_getElem? (i := 830) (by decide +kernel), List.mem_of_getElem? (i := 984) (by decide +kernel), List.mem_of_getElem? (i := 985) (by decide +kernel)⟩
theorem lw_p19 : lw_okq (⟨"WitnessPaysModel", "reach", "(I)I"⟩, 44) := ⟨⟨by decide +kernel, by decide +kernel⟩, List.mem_of_getElem? (i := 830) (by decide +kernel), List.mem_of_getElem? (i := 988) (by decide +kernel), List.mem_of_getElem? (i := 989) (by decide +kernel)⟩
theorem lw_p20 : lw_okq (⟨"WitnessPaysModel", "sum", "(I)I"⟩, 44) := ⟨⟨by decide +kernel, by decide +kernel⟩, List.mem_of_getElem? (i := 830) (by decide +kernel), List.mem_of_getElem? (i := 992) (by decide +kernel), List.mem_of_getElem? (i := 993) (by decide +kernel)⟩
theorem lw_p21 : lw_okq (⟨"WitnessPaysModel", "isTrue", "(II)Z"⟩, 44) := ⟨⟨by decide +kernel, by decide +kernel⟩, List.mem_of_getElem? (i := 830) (by decide +kernel), List.mem_of_getElem? (i := 996) (by decide +kernel), List.mem_of_getElem? (i := 997) (by decide +kernel)⟩
theorem lw_p22 : lw_okq (⟨"WitnessPaysModel", "letterOf", "(II)I"⟩, 44) := ⟨⟨by decide +kernel, by decide +kernel⟩, List.mem_of_getElem? (i := 830) (by decide +kernel), List.mem_of_getElem? (i := 1000) (by decide +kernel), List.mem_of_getElem? (i := 1001) (by decide +kernel)⟩
theorem lw_p23 : lw_okq (⟨"WitnessPaysModel", "sight", "(I)I"⟩, 44) := ⟨⟨by decide +kernel, by decide +kernel⟩, List.mem_of_getElem? (i := 830) (by decide +kernel), List.mem_of_getElem? (i := 1006) (by decide +kernel), List.mem_of_getElem? (i := 1007) (by decide +kernel)⟩
theorem lw_p24 : lw_okq (⟨"WitnessPaysModel", "isWall", "(I)Z"⟩, 44) := ⟨⟨by decide +kernel, by decide +kernel⟩, List.mem_of_getElem? (i := 830) (by decide +kernel), List.mem_of_getElem? (i := 1010) (by decide +kernel), List.mem_of_getElem? (i := 1011) (by decide +kernel)⟩
theorem lw_p25 : lw_okq (⟨"WitnessPaysModel", "shun", "(I)I"⟩, 44) := ⟨⟨by decide +kernel, by decide +kernel⟩, List.mem_of_getElem? (i := 830) (by decide +kernel), List.mem_of_getElem? (i := 1014) (by decide +kernel), List.mem_of_getElem? (i := 1015) (by decide +kernel)⟩
theorem lw_p26 : lw_okq (⟨"WitnessPaysModel", "alone", "(I)I"⟩, 44) := ⟨⟨by decide +kernel, by decide +kernel⟩, List.mem_of_getElem? (i := 830) (by decide +kernel), List.mem_of_getElem? (i := 1019) (by decide +kernel), List.mem_of_getElem? (i := 1020) (by decide +kernel)⟩
theorem lw_p27 : lw_okq (⟨"WitnessPaysModel", "seers", "(I)I"⟩, 44) := ⟨⟨by decide +kernel, by decide +kernel⟩, List.mem_of_getElem? (i := 830) (by decide +kernel), List.mem_of_getElem? (i := 1023) (by decide +kernel), List.mem_of_getElem? (i := 1024) (by decide +kernel)⟩
theorem lw_p28 : lw_okq (⟨"WitnessPaysModel", "isClause", "(I)Z"⟩, 44) := ⟨⟨by decide +kernel, by decide +kernel⟩, List.mem_of_getElem? (i := 830) (by decide +kernel), List.mem_of_getElem? (i := 1051) (by decide +kernel), List.mem_of_getElem? (i := 1052) (by decide +kernel)⟩
theorem lw_p29 : lw_okq (⟨"WitnessPaysModel", "isAll", "(Ljava/lang/String;)Z"⟩, 44) := ⟨⟨by decide +kernel, by decide +kernel⟩, List.mem_of_getElem? (i := 830) (by decide +kernel), List.mem_of_getElem? (i := 1056) (by decide +kernel), List.mem_of_getElem? (i := 1057) (by decide +kernel)⟩
theorem lw_p30 : lw_okq (⟨"WitnessPaysModel", "is", "(I)Z"⟩, 44) := ⟨⟨by decide +kernel, by decide +kernel⟩, List.mem_of_getElem? (i := 830) (by decide +kernel), List.mem_of_getElem? (i := 1081) (by decide +kernel), List.mem_of_getElem? (i := 1082) (by decide +kernel)⟩
theorem lw_p31 : lw_okq (⟨"WitnessPaysModel", "isNumber", "()Z"⟩, 44) := ⟨⟨by decide +kernel, by decide +kernel⟩, List.mem_of_getElem? (i := 830) (by decide +kernel), List.mem_of_getElem? (i := 1087) (by decide +kernel), List.mem_of_getElem? (i := 1088) (by decide +kernel)⟩
def lw_privs_2 : List (MethodName × Nat) := [(⟨"WitnessPays$Actor", "swears", "(II)I"⟩, 5), (⟨"WitnessPays$Actor", "tells", "(II)I"⟩, 5), (⟨"WitnessPaysModel", "isOne", "(I)Z"⟩, 44), (⟨"WitnessPaysModel", "reach", "(I)I"⟩, 44), (⟨"WitnessPaysModel", "sum", "(I)I"⟩, 44), (⟨"WitnessPaysModel", "isTrue", "(II)Z"⟩, 44), (⟨"WitnessPaysModel", "letterOf", "(II)I"⟩, 44), (⟨"WitnessPaysModel", "sight", "(I)I"⟩, 44), (⟨"WitnessPaysModel", "isWall", "(I)Z"⟩, 44), (⟨"WitnessPaysModel", "shun", "(I)I"⟩, 44), (⟨"WitnessPaysModel", "alone", "(I)I"⟩, 44), (⟨"WitnessPaysModel", "seers", "(I)I"⟩, 44), (⟨"WitnessPaysModel", "isClause", "(I)Z"⟩, 44), (⟨"WitnessPaysModel", "isAll", "(Ljava/lang/String;)Z"⟩, 44), (⟨"WitnessPaysModel", "is", "(I)Z"⟩, 44), (⟨"WitnessPaysModel", "isNumber", "()Z"⟩, 44)]
theorem lw_r2 : ∀ q ∈ lw_privs_2, lw_okq q := List.forall_mem_cons.mpr ⟨lw_p16, List.forall_mem_cons.mpr ⟨lw_p17, List.forall_mem_cons.mpr ⟨lw_p18, List.forall_mem_cons.mpr ⟨lw_p19, List.forall_mem_cons.mpr ⟨lw_p20, List.forall_mem_cons.mpr ⟨lw_p21, List.forall_mem_cons.mpr ⟨lw_p22, List.forall_mem_cons.mpr ⟨lw_p23, List.forall_mem_cons.mpr ⟨lw_p24, List.forall_mem_cons.mpr ⟨lw_p25, List.forall_mem_cons.mpr ⟨lw_p26, List.forall_mem_cons.mpr ⟨lw_p27, List.forall_mem_cons.mpr ⟨lw_p28, List.forall_mem_cons.mpr ⟨lw_p29, List.forall_mem_cons.mpr ⟨lw_p30, List.forall_mem_cons.mpr ⟨lw_p31, fun _ h => absurd h List.not_mem_nil⟩⟩⟩⟩⟩⟩⟩⟩⟩⟩⟩⟩⟩⟩⟩⟩
theorem lw_p32 : lw_okq (⟨"WitnessPaysModel", "isDigit", "()Z"⟩, 44) := ⟨⟨by decide +kernel, by decide +kernel⟩, List.mem_of_getElem? (i := 830) (by decide +kernel), List.mem_of_getElem? (i := 1091) (by decide +kernel), List.mem_of_getElem? (i := 1092) (by decide +kernel)⟩
theorem lw_p33 : lw_okq (⟨"WitnessPaysModel", "isE", "()Z"⟩, 44) := ⟨⟨by decide +kernel, by decide +kernel⟩, List.mem_of_getElem? (i := 830) (by decide +kernel), List.mem_of_getElem? (i := 1095) (by decide +kernel), List.mem_of_getElem? (i := 1096) (by decide +kernel)⟩
theorem lw_p34 : lw_okq (⟨"WitnessPaysModel", "isT", "()Z"⟩, 44) := ⟨⟨by decide +kernel, by decide +kernel⟩, List.mem_of_getElem? (i := 830) (by decide +kernel), List.mem_of_getElem? (i := 1099) (by decide +kernel), List.mem_of_getElem? (i := 1100) (by decide +kernel)⟩
theorem lw_p35 : lw_okq (⟨"WitnessPaysModel", "isF", "()Z"⟩, 44) := ⟨⟨by decide +kernel, by decide +kernel⟩, List.mem_of_getElem? (i := 830) (by decide +kernel), List.mem_of_getElem? (i := 1103) (by decide +kernel), List.mem_of_getElem? (i := 1104) (by decide +kernel)⟩
theorem lw_p36 : lw_okq (⟨"WitnessPaysModel", "isOpened", "(I)Z"⟩, 44) := ⟨⟨by decide +kernel, by decide +kernel⟩, List.mem_of_getElem? (i := 830) (by decide +kernel), List.mem_of_getElem? (i := 1107) (by decide +kernel), List.mem_of_getElem? (i := 1108) (by decide +kernel)⟩
theorem lw_p37 : lw_okq (⟨"WitnessPaysModel", "codes", "(I)Z"⟩, 44) := ⟨⟨by decide +kernel, by decide +kernel⟩, List.mem_of_getElem? (i := 830) (by decide +kernel), List.mem_of_getElem? (i := 1111) (by decide +kernel), List.mem_of_getElem? (i := 1112) (by decide +kernel)⟩
theorem lw_p38 : lw_okq (⟨"WitnessPaysModel", "isTest", "()Z"⟩, 44) := ⟨⟨by decide +kernel, by decide +kernel⟩, List.mem_of_getElem? (i := 830) (by decide +kernel), List.mem_of_getElem? (i := 1115) (by decide +kernel), List.mem_of_getElem? (i := 1116) (by decide +kernel)⟩
theorem lw_p39 : lw_okq (⟨"WitnessPaysModel", "pays", "(I)I"⟩, 44) := ⟨⟨by decide +kernel, by decide +kernel⟩, List.mem_of_getElem? (i := 830) (by decide +kernel), List.mem_of_getElem? (i := 1126) (by decide +kernel), List.mem_of_getElem? (i := 1127) (by decide +kernel)⟩
theorem lw_p40 : lw_okq (⟨"WitnessPaysModel", "fine", "()I"⟩, 44) := ⟨⟨by decide +kernel, by decide +kernel⟩, List.mem_of_getElem? (i := 830) (by decide +kernel), List.mem_of_getElem? (i := 1130) (by decide +kernel), List.mem_of_getElem? (i := 1131) (by decide +kernel)⟩
theorem lw_p41 : lw_okq (⟨"WitnessPaysModel", "done", "(I)V"⟩, 44) := ⟨⟨by decide +kernel, by decide +kernel⟩, List.mem_of_getElem? (i := 830) (by decide +kernel), List.mem_of_getElem? (i := 1134) (by decide +kernel), List.mem_of_getElem? (i := 1135) (by decide +kernel)⟩
theorem lw_p42 : lw_okq (⟨"WitnessPaysModel", "allPurses", "()I"⟩, 44) := ⟨⟨by decide +kernel, by decide +kernel⟩, List.mem_of_getElem? (i := 830) (by decide +kernel), List.mem_of_getElem? (i := 1142) (by decide +kernel), List.mem_of_getElem? (i := 1143) (by decide +kernel)⟩
theorem lw_p43 : lw_okq (⟨"WitnessPaysModel", "hidden", "(I)I"⟩, 44) := ⟨⟨by decide +kernel, by decide +kernel⟩, List.mem_of_getElem? (i := 830) (by decide +kernel), List.mem_of_getElem? (i := 1146) (by decide +kernel), List.mem_of_getElem? (i := 1147) (by decide +kernel)⟩
theorem lw_p44 : lw_okq (⟨"WitnessPaysModel", "mostly", "(I)I"⟩, 44) := ⟨⟨by decide +kernel, by decide +kernel⟩, List.mem_of_getElem? (i := 830) (by decide +kernel), List.mem_of_getElem? (i := 1150) (by decide +kernel), List.mem_of_getElem? (i := 1151) (by decide +kernel)⟩
theorem lw_p45 : lw_okq (⟨"WitnessPaysModel", "goesDay", "()V"⟩, 44) := ⟨⟨by decide +kernel, by decide +kernel⟩, List.mem_of_getElem? (i := 830) (by decide +kernel), List.mem_of_getElem? (i := 1158) (by decide +kernel), List.mem_of_getElem? (i := 1159) (by decide +kernel)⟩
theorem lw_p46 : lw_okq (⟨"WitnessPaysModel", "when", "(I)I"⟩, 44) := ⟨⟨by decide +kernel, by decide +kernel⟩, List.mem_of_getElem? (i := 830) (by decide +kernel), List.mem_of_getElem? (i := 1166) (by decide +kernel), List.mem_of_getElem? (i := 1167) (by decide +kernel)⟩
theorem lw_p47 : lw_okq (⟨"WitnessPaysModel", "keep", "([I)V"⟩, 44) := ⟨⟨by decide +kernel, by decide +kernel⟩, List.mem_of_getElem? (i := 830) (by decide +kernel), List.mem_of_getElem? (i := 1170) (by decide +kernel), List.mem_of_getElem? (i := 1171) (by decide +kernel)⟩
def lw_privs_3 : List (MethodName × Nat) := [(⟨"WitnessPaysModel", "isDigit", "()Z"⟩, 44), (⟨"WitnessPaysModel", "isE", "()Z"⟩, 44), (⟨"WitnessPaysModel", "isT", "()Z"⟩, 44), (⟨"WitnessPaysModel", "isF", "()Z"⟩, 44), (⟨"WitnessPaysModel", "isOpened", "(I)Z"⟩, 44), (⟨"WitnessPaysModel", "codes", "(I)Z"⟩, 44), (⟨"WitnessPaysModel", "isTest", "()Z"⟩, 44), (⟨"WitnessPaysModel", "pays", "(I)I"⟩, 44), (⟨"WitnessPaysModel", "fine", "()I"⟩, 44), (⟨"WitnessPaysModel", "done", "(I)V"⟩, 44), (⟨"WitnessPaysModel", "allPurses", "()I"⟩, 44), (⟨"WitnessPaysModel", "hidden", "(I)I"⟩, 44), (⟨"WitnessPaysModel", "mostly", "(I)I"⟩, 44), (⟨"WitnessPaysModel", "goesDay", "()V"⟩, 44), (⟨"WitnessPaysModel", "when", "(I)I"⟩, 44), (⟨"WitnessPaysModel", "keep", "([I)V"⟩, 44)]
theorem lw_r3 : ∀ q ∈ lw_privs_3, lw_okq q := List.forall_mem_cons.mpr ⟨lw_p32, List.forall_mem_cons.mpr ⟨lw_p33, List.forall_mem_cons.mpr ⟨lw_p34, List.forall_mem_cons.mpr ⟨lw_p35, List.forall_mem_cons.mpr ⟨lw_p36, List.forall_mem_cons.mpr ⟨lw_p37, List.forall_mem_cons.mpr ⟨lw_p38, List.forall_mem_cons.mpr ⟨lw_p39, List.forall_mem_cons.mpr ⟨lw_p40, List.forall_mem_cons.mpr ⟨lw_p41, List.forall_mem_cons.mpr ⟨lw_p42, List.forall_mem_cons.mpr ⟨lw_p43, List.forall_mem_cons.mpr ⟨lw_p44, List.forall_mem_cons.mpr ⟨lw_p45, List.forall_mem_cons.mpr ⟨lw_p46, List.forall_mem_cons.mpr ⟨lw_p47, fun _ h => absurd h List.not_mem_nil⟩⟩⟩⟩⟩⟩⟩⟩⟩⟩⟩⟩⟩⟩⟩⟩
theorem lw_p48 : lw_okq (⟨"WitnessPaysModel", "again", "([I)V"⟩, 44) := ⟨⟨by decide +kernel, by decide +kernel⟩, List.mem_of_getElem? (i := 830) (by decide +kernel), List.mem_of_getElem? (i := 1174) (by decide +kernel), List.mem_of_getElem? (i := 1175) (by decide +kernel)⟩
theorem lw_p49 : lw_okq (⟨"WitnessPaysModel", "bricks", "(I)I"⟩, 44) := ⟨⟨by decide +kernel, by decide +kernel⟩, List.mem_of_getElem? (i := 830) (by decide +kernel), List.mem_of_getElem? (i := 1178) (by decide +kernel), List.mem_of_getElem? (i := 1179) (by decide +kernel)⟩
theorem lw_p50 : lw_okq (⟨"WitnessPaysModel", "wrongBy", "(I)I"⟩, 44) := ⟨⟨by decide +kernel, by decide +kernel⟩, List.mem_of_getElem? (i := 830) (by decide +kernel), List.mem_of_getElem? (i := 1194) (by decide +kernel), List.mem_of_getElem? (i := 1195) (by decide +kernel)⟩
theorem lw_p51 : lw_okq (⟨"WitnessPaysModel", "looks", "(III)I"⟩, 44) := ⟨⟨by decide +kernel, by decide +kernel⟩, List.mem_of_getElem? (i := 830) (by decide +kernel), List.mem_of_getElem? (i := 1250) (by decide +kernel), List.mem_of_getElem? (i := 1251) (by decide +kernel)⟩
theorem lw_p52 : lw_okq (⟨"WitnessPaysModel", "ran", "(I)V"⟩, 44) := ⟨⟨by decide +kernel, by decide +kernel⟩, List.mem_of_getElem? (i := 830) (by decide +kernel), List.mem_of_getElem? (i := 1254) (by decide +kernel), List.mem_of_getElem? (i := 1255) (by decide +kernel)⟩
theorem lw_p53 : lw_okq (⟨"WitnessPaysModel", "swears", "(III)I"⟩, 44) := ⟨⟨by decide +kernel, by decide +kernel⟩, List.mem_of_getElem? (i := 830) (by decide +kernel), List.mem_of_getElem? (i := 1261) (by decide +kernel), List.mem_of_getElem? (i := 1262) (by decide +kernel)⟩
theorem lw_p54 : lw_okq (⟨"WitnessPaysModel", "tells", "(III)I"⟩, 44) := ⟨⟨by decide +kernel, by decide +kernel⟩, List.mem_of_getElem? (i := 830) (by decide +kernel), List.mem_of_getElem? (i := 1265) (by decide +kernel), List.mem_of_getElem? (i := 1266) (by decide +kernel)⟩
def lw_privs_4 : List (MethodName × Nat) := [(⟨"WitnessPaysModel", "again", "([I)V"⟩, 44), (⟨"WitnessPaysModel", "bricks", "(I)I"⟩, 44), (⟨"WitnessPaysModel", "wrongBy", "(I)I"⟩, 44), (⟨"WitnessPaysModel", "looks", "(III)I"⟩, 44), (⟨"WitnessPaysModel", "ran", "(I)V"⟩, 44), (⟨"WitnessPaysModel", "swears", "(III)I"⟩, 44), (⟨"WitnessPaysModel", "tells", "(III)I"⟩, 44)]
theorem lw_r4 : ∀ q ∈ lw_privs_4, lw_okq q := List.forall_mem_cons.mpr ⟨lw_p48, List.forall_mem_cons.mpr ⟨lw_p49, List.forall_mem_cons.mpr ⟨lw_p50, List.forall_mem_cons.mpr ⟨lw_p51, List.forall_mem_cons.mpr ⟨lw_p52, List.forall_mem_cons.mpr ⟨lw_p53, List.forall_mem_cons.mpr ⟨lw_p54, fun _ h => absurd h List.not_mem_nil⟩⟩⟩⟩⟩⟩⟩
def lw_privs : List (MethodName × Nat) := lw_privs_1 ++ (lw_privs_2 ++ (lw_privs_3 ++ (lw_privs_4)))
def lw_tbl : List Cond := k2_sels lw_privs ++ tables_1
theorem lw_privs_ok : ∀ q ∈ lw_privs, lw_okq q := by
  show ∀ q ∈ lw_privs_1 ++ (lw_privs_2 ++ (lw_privs_3 ++ (lw_privs_4))), lw_okq q
  exact List.forall_mem_append.mpr ⟨lw_r1, List.forall_mem_append.mpr ⟨lw_r2, List.forall_mem_append.mpr ⟨lw_r3, lw_r4⟩⟩⟩

def RX0 : String := "WitnessPays$Actor"
def TX0 : u_T := fun k => match k with
  | 0 => ("WitnessPays$Actor", "bodies", "[I", true)
  | 1 => ("WitnessPays$Actor", "ran", "I", false)
  | 2 => ("WitnessPays$Actor", "number", "I", false)
  | 3 => ("WitnessPays$Actor", "v", "I", false)
  | _ => ("WitnessPays$Actor", "kind", "I", false)
def tyX0 : Nat → FieldType := fun k => match k with
  | 0 => .array .int
  | 1 => .int
  | 2 => .int
  | 3 => .int
  | _ => .int
abbrev wsX00 : List Cond := u_ws RX0 TX0 5
theorem nmX0 : ∀ a, a < 5 → ∀ b, b < 5 → a ≠ b → (TX0 a).2.1 ≠ (TX0 b).2.1 := by decide +kernel
theorem tyX0_ok : ∀ k, k < 5 → parseFieldDescriptor (TX0 k).2.2.1 = some (tyX0 k) := by decide +kernel
abbrev cX0_init : ByteArray := prog_2_method_1_code
def yX0_init : MethodName := ⟨RX0, "<init>", "()V"⟩
abbrev cX0_forget : ByteArray := prog_2_method_2_code
def yX0_forget : MethodName := ⟨RX0, "forget", "()V"⟩
abbrev cX0_perform : ByteArray := prog_2_method_3_code
def yX0_perform : MethodName := ⟨RX0, "perform", "(LWitnessPays$Person;II)I"⟩
abbrev cX0_begin : ByteArray := prog_2_method_4_code
def yX0_begin : MethodName := ⟨RX0, "begin", "(I)V"⟩
abbrev cX0_looks : ByteArray := prog_2_method_5_code
def yX0_looks : MethodName := ⟨RX0, "looks", "(II)I"⟩
abbrev cX0_swears : ByteArray := prog_2_method_6_code
def yX0_swears : MethodName := ⟨RX0, "swears", "(II)I"⟩
abbrev cX0_tells : ByteArray := prog_2_method_7_code
def yX0_tells : MethodName := ⟨RX0, "tells", "(II)I"⟩
def RX1 : String := "WitnessPays$Law"
def TX1 : u_T := fun k => match k with
  | 0 => ("WitnessPays$Law", "fine", "I", false)
  | 1 => ("WitnessPays$Law", "clauses", "I", false)
  | 2 => ("WitnessPays$Law", "word", "[I", true)
  | 3 => ("WitnessPays$Law", "amount", "[I", true)
  | 4 => ("WitnessPays$Law", "end", "[I", true)
  | 5 => ("WitnessPays$Law", "steps", "I", false)
  | 6 => ("WitnessPays$Law", "step", "[I", true)
  | _ => ("WitnessPays$Law", "subject", "[I", true)
def tyX1 : Nat → FieldType := fun k => match k with
  | 0 => .int
  | 1 => .int
  | 2 => .array .int
  | 3 => .array .int
  | 4 => .array .int
  | 5 => .int
  | 6 => .array .int
  | _ => .array .int
abbrev wsX10 : List Cond := u_ws RX1 TX1 8
theorem nmX1 : ∀ a, a < 8 → ∀ b, b < 8 → a ≠ b → (TX1 a).2.1 ≠ (TX1 b).2.1 := by decide +kernel
theorem tyX1_ok : ∀ k, k < 8 → parseFieldDescriptor (TX1 k).2.2.1 = some (tyX1 k) := by decide +kernel
abbrev cX1_init : ByteArray := prog_3_method_1_code
def yX1_init : MethodName := ⟨RX1, "<init>", "()V"⟩
abbrev cX1_clear : ByteArray := prog_3_method_2_code
def yX1_clear : MethodName := ⟨RX1, "clear", "()V"⟩
abbrev cX1_addStep : ByteArray := prog_3_method_3_code
def yX1_addStep : MethodName := ⟨RX1, "addStep", "(I)V"⟩
abbrev cX1_endClause : ByteArray := prog_3_method_4_code
def yX1_endClause : MethodName := ⟨RX1, "endClause", "(II)V"⟩
abbrev cX1_sum : ByteArray := prog_3_method_5_code
def yX1_sum : MethodName := ⟨RX1, "sum", "(LWitnessPays$Person;I)I"⟩
abbrev cX1_holds : ByteArray := prog_3_method_6_code
def yX1_holds : MethodName := ⟨RX1, "holds", "(II)Z"⟩
def RX2 : String := "WitnessPays$LawText"
def TX2 : u_T := fun k => match k with
  | 0 => ("WitnessPays$LawText", "signs", "[B", true)
  | 1 => ("WitnessPays$LawText", "length", "I", false)
  | 2 => ("WitnessPays$LawText", "at", "I", false)
  | _ => ("WitnessPays$LawText", "draft", "LWitnessPays$Law;", false)
def tyX2 : Nat → FieldType := fun k => match k with
  | 0 => .array .byte
  | 1 => .int
  | 2 => .int
  | _ => .object "WitnessPays$Law"
abbrev wsX20 : List Cond := u_ws RX2 TX2 4
theorem nmX2 : ∀ a, a < 4 → ∀ b, b < 4 → a ≠ b → (TX2 a).2.1 ≠ (TX2 b).2.1 := by decide +kernel
theorem tyX2_ok : ∀ k, k < 4 → parseFieldDescriptor (TX2 k).2.2.1 = some (tyX2 k) := by decide +kernel
abbrev cX2_init : ByteArray := prog_4_method_1_code
def yX2_init : MethodName := ⟨RX2, "<init>", "()V"⟩
abbrev cX2_add : ByteArray := prog_4_method_2_code
def yX2_add : MethodName := ⟨RX2, "add", "(I)I"⟩
abbrev cX2_enact : ByteArray := prog_4_method_3_code
def yX2_enact : MethodName := ⟨RX2, "enact", "()LWitnessPays$Law;"⟩
abbrev cX2_readClause : ByteArray := prog_4_method_4_code
def yX2_readClause : MethodName := ⟨RX2, "readClause", "()Z"⟩
abbrev cX2_readWord : ByteArray := prog_4_method_5_code
def yX2_readWord : MethodName := ⟨RX2, "readWord", "()I"⟩
abbrev cX2_readEither : ByteArray := prog_4_method_6_code
def yX2_readEither : MethodName := ⟨RX2, "readEither", "(I)Z"⟩
abbrev cX2_readBoth : ByteArray := prog_4_method_7_code
def yX2_readBoth : MethodName := ⟨RX2, "readBoth", "(I)Z"⟩
abbrev cX2_readFactor : ByteArray := prog_4_method_8_code
def yX2_readFactor : MethodName := ⟨RX2, "readFactor", "(I)Z"⟩
abbrev cX2_readNumber : ByteArray := prog_4_method_9_code
def yX2_readNumber : MethodName := ⟨RX2, "readNumber", "()I"⟩
abbrev cX2_take : ByteArray := prog_4_method_10_code
def yX2_take : MethodName := ⟨RX2, "take", "(C)Z"⟩
abbrev cX2_takeAnyOf : ByteArray := prog_4_method_11_code
def yX2_takeAnyOf : MethodName := ⟨RX2, "takeAnyOf", "(Ljava/lang/String;)I"⟩
def RX3 : String := "WitnessPays$Person"
def TX3 : u_T := fun k => match k with
  | 0 => ("WitnessPays$Person", "number", "I", true)
  | 1 => ("WitnessPays$Person", "kind", "I", false)
  | 2 => ("WitnessPays$Person", "v", "I", false)
  | 3 => ("WitnessPays$Person", "place", "I", false)
  | 4 => ("WitnessPays$Person", "purse", "I", false)
  | 5 => ("WitnessPays$Person", "gone", "Z", false)
  | 6 => ("WitnessPays$Person", "row", "[I", true)
  | _ => ("WitnessPays$Person", "eye", "I", false)
def tyX3 : Nat → FieldType := fun k => match k with
  | 0 => .int
  | 1 => .int
  | 2 => .int
  | 3 => .int
  | 4 => .int
  | 5 => .boolean
  | 6 => .array .int
  | _ => .int
abbrev wsX30 : List Cond := u_ws RX3 TX3 8
theorem nmX3 : ∀ a, a < 8 → ∀ b, b < 8 → a ≠ b → (TX3 a).2.1 ≠ (TX3 b).2.1 := by decide +kernel
theorem tyX3_ok : ∀ k, k < 8 → parseFieldDescriptor (TX3 k).2.2.1 = some (tyX3 k) := by decide +kernel
abbrev cX3_init : ByteArray := prog_5_method_1_code
def yX3_init : MethodName := ⟨RX3, "<init>", "(I)V"⟩
abbrev cX3_arrive : ByteArray := prog_5_method_2_code
def yX3_arrive : MethodName := ⟨RX3, "arrive", "(III)V"⟩
abbrev cX3_becomeLike : ByteArray := prog_5_method_3_code
def yX3_becomeLike : MethodName := ⟨RX3, "becomeLike", "(LWitnessPays$Person;)V"⟩
abbrev cX3_isOfKind : ByteArray := prog_5_method_4_code
def yX3_isOfKind : MethodName := ⟨RX3, "isOfKind", "(I)Z"⟩
abbrev cX3_walk : ByteArray := prog_5_method_5_code
def yX3_walk : MethodName := ⟨RX3, "walk", "(I)V"⟩
abbrev cX3_reach : ByteArray := prog_5_method_6_code
def yX3_reach : MethodName := ⟨RX3, "reach", "(II)I"⟩
abbrev cX3_sees : ByteArray := prog_5_method_7_code
def yX3_sees : MethodName := ⟨RX3, "sees", "(II)Z"⟩
abbrev cX3_sight : ByteArray := prog_5_method_8_code
def yX3_sight : MethodName := ⟨RX3, "sight", "(I)I"⟩
abbrev cX3_wayRight : ByteArray := prog_5_method_9_code
def yX3_wayRight : MethodName := ⟨RX3, "wayRight", "(II)I"⟩
def RX4 : String := "WitnessPays$Scene"
def TX4 : u_T := fun k => match k with
  | 0 => ("WitnessPays$Scene", "street", "LWitnessPays$Street;", true)
  | 1 => ("WitnessPays$Scene", "seen", "LWitnessPays$Table;", true)
  | 2 => ("WitnessPays$Scene", "plan", "LWitnessPays$Table;", true)
  | _ => ("WitnessPays$Scene", "book", "LWitnessPays$Table;", true)
def tyX4 : Nat → FieldType := fun k => match k with
  | 0 => .object "WitnessPays$Street"
  | 1 => .object "WitnessPays$Table"
  | 2 => .object "WitnessPays$Table"
  | _ => .object "WitnessPays$Table"
abbrev wsX40 : List Cond := u_ws RX4 TX4 4
theorem nmX4 : ∀ a, a < 4 → ∀ b, b < 4 → a ≠ b → (TX4 a).2.1 ≠ (TX4 b).2.1 := by decide +kernel
theorem tyX4_ok : ∀ k, k < 4 → parseFieldDescriptor (TX4 k).2.2.1 = some (tyX4 k) := by decide +kernel
abbrev cX4_init : ByteArray := prog_6_method_1_code
def yX4_init : MethodName := ⟨RX4, "<init>", "(LWitnessPays$Law;)V"⟩
abbrev cX4_becomeLike : ByteArray := prog_6_method_2_code
def yX4_becomeLike : MethodName := ⟨RX4, "becomeLike", "(LWitnessPays$Scene;)V"⟩
def RX5 : String := "WitnessPays$Street"
def TX5 : u_T := fun k => match k with
  | 0 => ("WitnessPays$Street", "people", "[LWitnessPays$Person;", true)
  | 1 => ("WitnessPays$Street", "count", "I", false)
  | 2 => ("WitnessPays$Street", "walls", "I", false)
  | 3 => ("WitnessPays$Street", "day", "I", false)
  | _ => ("WitnessPays$Street", "law", "LWitnessPays$Law;", false)
def tyX5 : Nat → FieldType := fun k => match k with
  | 0 => .array (.object "WitnessPays$Person")
  | 1 => .int
  | 2 => .int
  | 3 => .int
  | _ => .object "WitnessPays$Law"
abbrev wsX50 : List Cond := u_ws RX5 TX5 5
theorem nmX5 : ∀ a, a < 5 → ∀ b, b < 5 → a ≠ b → (TX5 a).2.1 ≠ (TX5 b).2.1 := by decide +kernel
theorem tyX5_ok : ∀ k, k < 5 → parseFieldDescriptor (TX5 k).2.2.1 = some (tyX5 k) := by decide +kernel
abbrev cX5_init : ByteArray := prog_7_method_1_code
def yX5_init : MethodName := ⟨RX5, "<init>", "(LWitnessPays$Law;)V"⟩
abbrev cX5_becomeLike : ByteArray := prog_7_method_2_code
def yX5_becomeLike : MethodName := ⟨RX5, "becomeLike", "(LWitnessPays$Street;)V"⟩
abbrev cX5_person : ByteArray := prog_7_method_3_code
def yX5_person : MethodName := ⟨RX5, "person", "(I)LWitnessPays$Person;"⟩
abbrev cX5_welcome : ByteArray := prog_7_method_4_code
def yX5_welcome : MethodName := ⟨RX5, "welcome", "(III)I"⟩
abbrev cX5_banish : ByteArray := prog_7_method_5_code
def yX5_banish : MethodName := ⟨RX5, "banish", "(I)V"⟩
abbrev cX5_goOn : ByteArray := prog_7_method_6_code
def yX5_goOn : MethodName := ⟨RX5, "goOn", "(I)V"⟩
abbrev cX5_reachOf : ByteArray := prog_7_method_7_code
def yX5_reachOf : MethodName := ⟨RX5, "reachOf", "(LWitnessPays$Person;)I"⟩
abbrev cX5_look : ByteArray := prog_7_method_8_code
def yX5_look : MethodName := ⟨RX5, "look", "()V"⟩
abbrev cX5_lookBy : ByteArray := prog_7_method_9_code
def yX5_lookBy : MethodName := ⟨RX5, "lookBy", "(LWitnessPays$Person;)V"⟩
abbrev cX5_seersInView : ByteArray := prog_7_method_10_code
def yX5_seersInView : MethodName := ⟨RX5, "seersInView", "(I)I"⟩
abbrev cX5_seersBehind : ByteArray := prog_7_method_11_code
def yX5_seersBehind : MethodName := ⟨RX5, "seersBehind", "(II)I"⟩
abbrev cX5_seers : ByteArray := prog_7_method_12_code
def yX5_seers : MethodName := ⟨RX5, "seers", "(I)I"⟩
abbrev cX5_sightOf : ByteArray := prog_7_method_13_code
def yX5_sightOf : MethodName := ⟨RX5, "sightOf", "(LWitnessPays$Person;)I"⟩
abbrev cX5_firstSeenOnlyBy : ByteArray := prog_7_method_14_code
def yX5_firstSeenOnlyBy : MethodName := ⟨RX5, "firstSeenOnlyBy", "(LWitnessPays$Person;)I"⟩
abbrev cX5_firstUnseen : ByteArray := prog_7_method_15_code
def yX5_firstUnseen : MethodName := ⟨RX5, "firstUnseen", "()I"⟩
abbrev cX5_unseenPlaces : ByteArray := prog_7_method_16_code
def yX5_unseenPlaces : MethodName := ⟨RX5, "unseenPlaces", "()I"⟩
abbrev cX5_mostSeenPlace : ByteArray := prog_7_method_17_code
def yX5_mostSeenPlace : MethodName := ⟨RX5, "mostSeenPlace", "()I"⟩
abbrev cX5_dearestPlace : ByteArray := prog_7_method_18_code
def yX5_dearestPlace : MethodName := ⟨RX5, "dearestPlace", "()I"⟩
abbrev cX5_purses : ByteArray := prog_7_method_19_code
def yX5_purses : MethodName := ⟨RX5, "purses", "()I"⟩
abbrev cX5_paidFor : ByteArray := prog_7_method_20_code
def yX5_paidFor : MethodName := ⟨RX5, "paidFor", "(I)I"⟩
abbrev cX5_paidBy : ByteArray := prog_7_method_21_code
def yX5_paidBy : MethodName := ⟨RX5, "paidBy", "(I)I"⟩
abbrev cX5_paidByOne : ByteArray := prog_7_method_22_code
def yX5_paidByOne : MethodName := ⟨RX5, "paidByOne", "(LWitnessPays$Person;I)I"⟩
abbrev cX5_collect : ByteArray := prog_7_method_23_code
def yX5_collect : MethodName := ⟨RX5, "collect", "(I)I"⟩
abbrev cX5_bricks : ByteArray := prog_7_method_24_code
def yX5_bricks : MethodName := ⟨RX5, "bricks", "(I)I"⟩
def RX6 : String := "WitnessPays$Table"
def TX6 : u_T := fun k => match k with
  | 0 => ("WitnessPays$Table", "cells", "[I", true)
  | 1 => ("WitnessPays$Table", "most", "I", true)
  | _ => ("WitnessPays$Table", "rows", "I", false)
def tyX6 : Nat → FieldType := fun k => match k with
  | 0 => .array .int
  | 1 => .int
  | _ => .int
abbrev wsX60 : List Cond := u_ws RX6 TX6 3
theorem nmX6 : ∀ a, a < 3 → ∀ b, b < 3 → a ≠ b → (TX6 a).2.1 ≠ (TX6 b).2.1 := by decide +kernel
theorem tyX6_ok : ∀ k, k < 3 → parseFieldDescriptor (TX6 k).2.2.1 = some (tyX6 k) := by decide +kernel
abbrev cX6_init : ByteArray := prog_8_method_1_code
def yX6_init : MethodName := ⟨RX6, "<init>", "(I)V"⟩
abbrev cX6_empty : ByteArray := prog_8_method_2_code
def yX6_empty : MethodName := ⟨RX6, "empty", "()I"⟩
abbrev cX6_add : ByteArray := prog_8_method_3_code
def yX6_add : MethodName := ⟨RX6, "add", "(III)I"⟩
abbrev cX6_cell : ByteArray := prog_8_method_4_code
def yX6_cell : MethodName := ⟨RX6, "cell", "(II)I"⟩
abbrev cX6_becomeLike : ByteArray := prog_8_method_5_code
def yX6_becomeLike : MethodName := ⟨RX6, "becomeLike", "(LWitnessPays$Table;)V"⟩
def RX7 : String := "WitnessPays$Tape"
def TX7 : u_T := fun k => match k with
  | 0 => ("WitnessPays$Tape", "sort", "I", false)
  | 1 => ("WitnessPays$Tape", "length", "I", false)
  | _ => ("WitnessPays$Tape", "items", "[J", true)
def tyX7 : Nat → FieldType := fun k => match k with
  | 0 => .int
  | 1 => .int
  | _ => .array .long
abbrev wsX70 : List Cond := u_ws RX7 TX7 3
theorem nmX7 : ∀ a, a < 3 → ∀ b, b < 3 → a ≠ b → (TX7 a).2.1 ≠ (TX7 b).2.1 := by decide +kernel
theorem tyX7_ok : ∀ k, k < 3 → parseFieldDescriptor (TX7 k).2.2.1 = some (tyX7 k) := by decide +kernel
abbrev cX7_init : ByteArray := prog_9_method_1_code
def yX7_init : MethodName := ⟨RX7, "<init>", "()V"⟩
abbrev cX7_become : ByteArray := prog_9_method_2_code
def yX7_become : MethodName := ⟨RX7, "become", "(II)V"⟩
abbrev cX7_reaches : ByteArray := prog_9_method_3_code
def yX7_reaches : MethodName := ⟨RX7, "reaches", "(II)Z"⟩
abbrev cX7_narrowed : ByteArray := prog_9_method_4_code
def yX7_narrowed : MethodName := ⟨RX7, "narrowed", "(J)J"⟩
def RX8 : String := "WitnessPays$WhatIf"
def TX8 : u_T := fun k => match k with
  | _ => ("WitnessPays$WhatIf", "trial", "LWitnessPays$Street;", true)
def tyX8 : Nat → FieldType := fun k => match k with
  | _ => .object "WitnessPays$Street"
abbrev wsX80 : List Cond := u_ws RX8 TX8 1
theorem nmX8 : ∀ a, a < 1 → ∀ b, b < 1 → a ≠ b → (TX8 a).2.1 ≠ (TX8 b).2.1 := by decide +kernel
theorem tyX8_ok : ∀ k, k < 1 → parseFieldDescriptor (TX8 k).2.2.1 = some (tyX8 k) := by decide +kernel
abbrev cX8_init : ByteArray := prog_10_method_1_code
def yX8_init : MethodName := ⟨RX8, "<init>", "(LWitnessPays$Law;)V"⟩
abbrev cX8_shunnedBy : ByteArray := prog_10_method_2_code
def yX8_shunnedBy : MethodName := ⟨RX8, "shunnedBy", "(ILWitnessPays$Street;)I"⟩
abbrev cX8_daysUntilUnseen : ByteArray := prog_10_method_3_code
def yX8_daysUntilUnseen : MethodName := ⟨RX8, "daysUntilUnseen", "(ILWitnessPays$Street;)I"⟩
abbrev cX8_firstFalse : ByteArray := prog_10_method_4_code
def yX8_firstFalse : MethodName := ⟨RX8, "firstFalse", "(LWitnessPays$Table;LWitnessPays$Street;)I"⟩
abbrev cX8_agrees : ByteArray := prog_10_method_5_code
def yX8_agrees : MethodName := ⟨RX8, "agrees", "(IIILWitnessPays$Table;LWitnessPays$Street;)Z"⟩
abbrev cX8_afterPlan : ByteArray := prog_10_method_6_code
def yX8_afterPlan : MethodName := ⟨RX8, "afterPlan", "(LWitnessPays$Table;LWitnessPays$Street;)LWitnessPays$Street;"⟩
def RX9 : String := "WitnessPays"
def TX9 : u_T := fun k => match k with
  | 0 => ("WitnessPays", "now", "LWitnessPays$Scene;", true)
  | 1 => ("WitnessPays", "kept", "LWitnessPays$Scene;", true)
  | 2 => ("WitnessPays", "hasKept", "Z", false)
  | 3 => ("WitnessPays", "text", "LWitnessPays$LawText;", true)
  | 4 => ("WitnessPays", "laws", "I", false)
  | 5 => ("WitnessPays", "whatIf", "LWitnessPays$WhatIf;", true)
  | 6 => ("WitnessPays", "actor", "LWitnessPays$Actor;", true)
  | _ => ("WitnessPays", "tapes", "[LWitnessPays$Tape;", true)
def tyX9 : Nat → FieldType := fun k => match k with
  | 0 => .object "WitnessPays$Scene"
  | 1 => .object "WitnessPays$Scene"
  | 2 => .boolean
  | 3 => .object "WitnessPays$LawText"
  | 4 => .int
  | 5 => .object "WitnessPays$WhatIf"
  | 6 => .object "WitnessPays$Actor"
  | _ => .array (.object "WitnessPays$Tape")
abbrev wsX90 : List Cond := u_ws RX9 TX9 8
theorem nmX9 : ∀ a, a < 8 → ∀ b, b < 8 → a ≠ b → (TX9 a).2.1 ≠ (TX9 b).2.1 := by decide +kernel
theorem tyX9_ok : ∀ k, k < 8 → parseFieldDescriptor (TX9 k).2.2.1 = some (tyX9 k) := by decide +kernel
abbrev cX9_init : ByteArray := prog_1_method_1_code
def yX9_init : MethodName := ⟨RX9, "<init>", "()V"⟩
abbrev cX9_one : ByteArray := prog_1_method_2_code
def yX9_one : MethodName := ⟨RX9, "one", "(III)I"⟩
abbrev cX9_of : ByteArray := prog_1_method_3_code
def yX9_of : MethodName := ⟨RX9, "of", "(II)I"⟩
abbrev cX9_set : ByteArray := prog_1_method_4_code
def yX9_set : MethodName := ⟨RX9, "set", "(III)I"⟩
abbrev cX9_leave : ByteArray := prog_1_method_5_code
def yX9_leave : MethodName := ⟨RX9, "leave", "(IZ)I"⟩
abbrev cX9_walls : ByteArray := prog_1_method_6_code
def yX9_walls : MethodName := ⟨RX9, "walls", "(I)I"⟩
abbrev cX9_row : ByteArray := prog_1_method_7_code
def yX9_row : MethodName := ⟨RX9, "row", "(III)I"⟩
abbrev cX9_feed : ByteArray := prog_1_method_8_code
def yX9_feed : MethodName := ⟨RX9, "feed", "(I)I"⟩
abbrev cX9_statute : ByteArray := prog_1_method_9_code
def yX9_statute : MethodName := ⟨RX9, "statute", "()I"⟩
abbrev cX9_told : ByteArray := prog_1_method_10_code
def yX9_told : MethodName := ⟨RX9, "told", "(I)I"⟩
abbrev cX9_deed : ByteArray := prog_1_method_11_code
def yX9_deed : MethodName := ⟨RX9, "deed", "(I)I"⟩
abbrev cX9_pass : ByteArray := prog_1_method_12_code
def yX9_pass : MethodName := ⟨RX9, "pass", "(I)I"⟩
abbrev cX9_at : ByteArray := prog_1_method_13_code
def yX9_at : MethodName := ⟨RX9, "at", "(II)I"⟩
abbrev cX9_share : ByteArray := prog_1_method_14_code
def yX9_share : MethodName := ⟨RX9, "share", "(II)I"⟩
abbrev cX9_see : ByteArray := prog_1_method_15_code
def yX9_see : MethodName := ⟨RX9, "see", "(III)I"⟩
abbrev cX9_wrong : ByteArray := prog_1_method_16_code
def yX9_wrong : MethodName := ⟨RX9, "wrong", "()I"⟩
abbrev cX9_from : ByteArray := prog_1_method_17_code
def yX9_from : MethodName := ⟨RX9, "from", "(I)I"⟩
abbrev cX9_can : ByteArray := prog_1_method_18_code
def yX9_can : MethodName := ⟨RX9, "can", "(II)I"⟩
abbrev cX9_odds : ByteArray := prog_1_method_19_code
def yX9_odds : MethodName := ⟨RX9, "odds", "(II)J"⟩
abbrev cX9_mean : ByteArray := prog_1_method_20_code
def yX9_mean : MethodName := ⟨RX9, "mean", "(I)J"⟩
abbrev cX9_plan : ByteArray := prog_1_method_21_code
def yX9_plan : MethodName := ⟨RX9, "plan", "(II)I"⟩
abbrev cX9_ends : ByteArray := prog_1_method_22_code
def yX9_ends : MethodName := ⟨RX9, "ends", "(I)I"⟩
abbrev cX9_book : ByteArray := prog_1_method_23_code
def yX9_book : MethodName := ⟨RX9, "book", "(II)I"⟩
abbrev cX9_looked : ByteArray := prog_1_method_24_code
def yX9_looked : MethodName := ⟨RX9, "looked", "()I"⟩
abbrev cX9_judge : ByteArray := prog_1_method_25_code
def yX9_judge : MethodName := ⟨RX9, "judge", "(II)I"⟩
abbrev cX9_image : ByteArray := prog_1_method_26_code
def yX9_image : MethodName := ⟨RX9, "image", "()I"⟩
abbrev cX9_undo : ByteArray := prog_1_method_27_code
def yX9_undo : MethodName := ⟨RX9, "undo", "()I"⟩
abbrev cX9_act : ByteArray := prog_1_method_28_code
def yX9_act : MethodName := ⟨RX9, "act", "(III)I"⟩
abbrev cX9_trace : ByteArray := prog_1_method_29_code
def yX9_trace : MethodName := ⟨RX9, "trace", "(I)I"⟩
abbrev cX9_taken : ByteArray := prog_1_method_30_code
def yX9_taken : MethodName := ⟨RX9, "taken", "(II)I"⟩
abbrev cX9_count : ByteArray := prog_1_method_31_code
def yX9_count : MethodName := ⟨RX9, "count", "(I)I"⟩
abbrev cX9_tape : ByteArray := prog_1_method_32_code
def yX9_tape : MethodName := ⟨RX9, "tape", "(III)I"⟩
abbrev cX9_item : ByteArray := prog_1_method_33_code
def yX9_item : MethodName := ⟨RX9, "item", "(IIJ)I"⟩
abbrev cX9_read : ByteArray := prog_1_method_34_code
def yX9_read : MethodName := ⟨RX9, "read", "(II)J"⟩
abbrev cX9_shift : ByteArray := prog_1_method_35_code
def yX9_shift : MethodName := ⟨RX9, "shift", "(IIIII)I"⟩
abbrev cX9_isWithin : ByteArray := prog_1_method_36_code
def yX9_isWithin : MethodName := ⟨RX9, "isWithin", "(II)Z"⟩
abbrev cX9_isPlace : ByteArray := prog_1_method_37_code
def yX9_isPlace : MethodName := ⟨RX9, "isPlace", "(I)Z"⟩
abbrev cX9_isPlanRow : ByteArray := prog_1_method_38_code
def yX9_isPlanRow : MethodName := ⟨RX9, "isPlanRow", "(II)Z"⟩
abbrev cX9_tapeOf : ByteArray := prog_1_method_39_code
def yX9_tapeOf : MethodName := ⟨RX9, "tapeOf", "(I)LWitnessPays$Tape;"⟩
abbrev cX9_lowestTerms : ByteArray := prog_1_method_40_code
def yX9_lowestTerms : MethodName := ⟨RX9, "lowestTerms", "(III)J"⟩
def RX10 : String := "WitnessPaysModel"
def TX10 : u_T := fun k => match k with
  | 0 => ("WitnessPaysModel", "people", "I", false)
  | 1 => ("WitnessPaysModel", "kind", "[I", true)
  | 2 => ("WitnessPaysModel", "v", "[I", true)
  | 3 => ("WitnessPaysModel", "place", "[I", true)
  | 4 => ("WitnessPaysModel", "purse", "[I", true)
  | 5 => ("WitnessPaysModel", "gone", "[I", true)
  | 6 => ("WitnessPaysModel", "rows", "[I", true)
  | 7 => ("WitnessPaysModel", "walls", "I", false)
  | 8 => ("WitnessPaysModel", "day", "I", false)
  | 9 => ("WitnessPaysModel", "texted", "I", false)
  | 10 => ("WitnessPaysModel", "text", "[I", true)
  | 11 => ("WitnessPaysModel", "at", "I", false)
  | 12 => ("WitnessPaysModel", "value", "I", false)
  | 13 => ("WitnessPaysModel", "digits", "I", false)
  | 14 => ("WitnessPaysModel", "open", "I", false)
  | 15 => ("WitnessPaysModel", "laws", "I", false)
  | 16 => ("WitnessPaysModel", "holds", "I", false)
  | 17 => ("WitnessPaysModel", "clauses", "[I", true)
  | 18 => ("WitnessPaysModel", "word", "[I", true)
  | 19 => ("WitnessPaysModel", "number", "[I", true)
  | 20 => ("WitnessPaysModel", "begins", "[I", true)
  | 21 => ("WitnessPaysModel", "length", "[I", true)
  | 22 => ("WitnessPaysModel", "code", "[I", true)
  | 23 => ("WitnessPaysModel", "coded", "I", false)
  | 24 => ("WitnessPaysModel", "stack", "[Z", true)
  | 25 => ("WitnessPaysModel", "seen", "I", false)
  | 26 => ("WitnessPaysModel", "seenPlace", "[I", true)
  | 27 => ("WitnessPaysModel", "seenIn", "[I", true)
  | 28 => ("WitnessPaysModel", "seenBy", "[I", true)
  | 29 => ("WitnessPaysModel", "inPlan", "I", false)
  | 30 => ("WitnessPaysModel", "goes", "[I", true)
  | 31 => ("WitnessPaysModel", "whose", "[I", true)
  | 32 => ("WitnessPaysModel", "inBook", "I", false)
  | 33 => ("WitnessPaysModel", "booked", "[I", true)
  | 34 => ("WitnessPaysModel", "bookPurse", "[I", true)
  | 35 => ("WitnessPaysModel", "traced", "I", false)
  | 36 => ("WitnessPaysModel", "traces", "[I", true)
  | 37 => ("WitnessPaysModel", "imaged", "Z", false)
  | 38 => ("WitnessPaysModel", "image", "[I", true)
  | 39 => ("WitnessPaysModel", "ahead", "[I", true)
  | 40 => ("WitnessPaysModel", "shares", "[I", true)
  | 41 => ("WitnessPaysModel", "tapeSort", "[I", true)
  | 42 => ("WitnessPaysModel", "tapeSize", "[I", true)
  | _ => ("WitnessPaysModel", "items", "[J", true)
def tyX10 : Nat → FieldType := fun k => match k with
  | 0 => .int
  | 1 => .array .int
  | 2 => .array .int
  | 3 => .array .int
  | 4 => .array .int
  | 5 => .array .int
  | 6 => .array .int
  | 7 => .int
  | 8 => .int
  | 9 => .int
  | 10 => .array .int
  | 11 => .int
  | 12 => .int
  | 13 => .int
  | 14 => .int
  | 15 => .int
  | 16 => .int
  | 17 => .array .int
  | 18 => .array .int
  | 19 => .array .int
  | 20 => .array .int
  | 21 => .array .int
  | 22 => .array .int
  | 23 => .int
  | 24 => .array .boolean
  | 25 => .int
  | 26 => .array .int
  | 27 => .array .int
  | 28 => .array .int
  | 29 => .int
  | 30 => .array .int
  | 31 => .array .int
  | 32 => .int
  | 33 => .array .int
  | 34 => .array .int
  | 35 => .int
  | 36 => .array .int
  | 37 => .boolean
  | 38 => .array .int
  | 39 => .array .int
  | 40 => .array .int
  | 41 => .array .int
  | 42 => .array .int
  | _ => .array .long
abbrev wsX100 : List Cond := u_ws RX10 TX10 44
theorem nmX10 : ∀ a, a < 44 → ∀ b, b < 44 → a ≠ b → (TX10 a).2.1 ≠ (TX10 b).2.1 := by decide +kernel
theorem tyX10_ok : ∀ k, k < 44 → parseFieldDescriptor (TX10 k).2.2.1 = some (tyX10 k) := by decide +kernel
abbrev cX10_init : ByteArray := prog_12_method_1_code
def yX10_init : MethodName := ⟨RX10, "<init>", "()V"⟩
abbrev cX10_within : ByteArray := prog_12_method_2_code
def yX10_within : MethodName := ⟨RX10, "within", "(III)Z"⟩
abbrev cX10_isOne : ByteArray := prog_12_method_3_code
def yX10_isOne : MethodName := ⟨RX10, "isOne", "(I)Z"⟩
abbrev cX10_isPlace : ByteArray := prog_12_method_4_code
def yX10_isPlace : MethodName := ⟨RX10, "isPlace", "(I)Z"⟩
abbrev cX10_one : ByteArray := prog_12_method_5_code
def yX10_one : MethodName := ⟨RX10, "one", "(III)I"⟩
abbrev cX10_of : ByteArray := prog_12_method_6_code
def yX10_of : MethodName := ⟨RX10, "of", "(II)I"⟩
abbrev cX10_set : ByteArray := prog_12_method_7_code
def yX10_set : MethodName := ⟨RX10, "set", "(III)I"⟩
abbrev cX10_leave : ByteArray := prog_12_method_8_code
def yX10_leave : MethodName := ⟨RX10, "leave", "(IZ)I"⟩
abbrev cX10_walls : ByteArray := prog_12_method_9_code
def yX10_walls : MethodName := ⟨RX10, "walls", "(I)I"⟩
abbrev cX10_row : ByteArray := prog_12_method_10_code
def yX10_row : MethodName := ⟨RX10, "row", "(III)I"⟩
abbrev cX10_feed : ByteArray := prog_12_method_11_code
def yX10_feed : MethodName := ⟨RX10, "feed", "(I)I"⟩
abbrev cX10_is : ByteArray := prog_12_method_12_code
def yX10_is : MethodName := ⟨RX10, "is", "(I)Z"⟩
abbrev cX10_isDigit : ByteArray := prog_12_method_13_code
def yX10_isDigit : MethodName := ⟨RX10, "isDigit", "()Z"⟩
abbrev cX10_isNumber : ByteArray := prog_12_method_14_code
def yX10_isNumber : MethodName := ⟨RX10, "isNumber", "()Z"⟩
abbrev cX10_isAll : ByteArray := prog_12_method_15_code
def yX10_isAll : MethodName := ⟨RX10, "isAll", "(Ljava/lang/String;)Z"⟩
abbrev cX10_codes : ByteArray := prog_12_method_16_code
def yX10_codes : MethodName := ⟨RX10, "codes", "(I)Z"⟩
abbrev cX10_isTest : ByteArray := prog_12_method_17_code
def yX10_isTest : MethodName := ⟨RX10, "isTest", "()Z"⟩
abbrev cX10_isOpened : ByteArray := prog_12_method_18_code
def yX10_isOpened : MethodName := ⟨RX10, "isOpened", "(I)Z"⟩
abbrev cX10_isF : ByteArray := prog_12_method_19_code
def yX10_isF : MethodName := ⟨RX10, "isF", "()Z"⟩
abbrev cX10_isT : ByteArray := prog_12_method_20_code
def yX10_isT : MethodName := ⟨RX10, "isT", "()Z"⟩
abbrev cX10_isE : ByteArray := prog_12_method_21_code
def yX10_isE : MethodName := ⟨RX10, "isE", "()Z"⟩
abbrev cX10_isClause : ByteArray := prog_12_method_22_code
def yX10_isClause : MethodName := ⟨RX10, "isClause", "(I)Z"⟩
abbrev cX10_statute : ByteArray := prog_12_method_23_code
def yX10_statute : MethodName := ⟨RX10, "statute", "()I"⟩
abbrev cX10_letterOf : ByteArray := prog_12_method_24_code
def yX10_letterOf : MethodName := ⟨RX10, "letterOf", "(II)I"⟩
abbrev cX10_isTrue : ByteArray := prog_12_method_25_code
def yX10_isTrue : MethodName := ⟨RX10, "isTrue", "(II)Z"⟩
abbrev cX10_sum : ByteArray := prog_12_method_26_code
def yX10_sum : MethodName := ⟨RX10, "sum", "(I)I"⟩
abbrev cX10_fine : ByteArray := prog_12_method_27_code
def yX10_fine : MethodName := ⟨RX10, "fine", "()I"⟩
abbrev cX10_reach : ByteArray := prog_12_method_28_code
def yX10_reach : MethodName := ⟨RX10, "reach", "(I)I"⟩
abbrev cX10_isWall : ByteArray := prog_12_method_29_code
def yX10_isWall : MethodName := ⟨RX10, "isWall", "(I)Z"⟩
abbrev cX10_sight : ByteArray := prog_12_method_30_code
def yX10_sight : MethodName := ⟨RX10, "sight", "(I)I"⟩
abbrev cX10_seers : ByteArray := prog_12_method_31_code
def yX10_seers : MethodName := ⟨RX10, "seers", "(I)I"⟩
abbrev cX10_shun : ByteArray := prog_12_method_32_code
def yX10_shun : MethodName := ⟨RX10, "shun", "(I)I"⟩
abbrev cX10_alone : ByteArray := prog_12_method_33_code
def yX10_alone : MethodName := ⟨RX10, "alone", "(I)I"⟩
abbrev cX10_pays : ByteArray := prog_12_method_34_code
def yX10_pays : MethodName := ⟨RX10, "pays", "(I)I"⟩
abbrev cX10_done : ByteArray := prog_12_method_35_code
def yX10_done : MethodName := ⟨RX10, "done", "(I)V"⟩
abbrev cX10_deed : ByteArray := prog_12_method_36_code
def yX10_deed : MethodName := ⟨RX10, "deed", "(I)I"⟩
abbrev cX10_hidden : ByteArray := prog_12_method_37_code
def yX10_hidden : MethodName := ⟨RX10, "hidden", "(I)I"⟩
abbrev cX10_mostly : ByteArray := prog_12_method_38_code
def yX10_mostly : MethodName := ⟨RX10, "mostly", "(I)I"⟩
abbrev cX10_allPurses : ByteArray := prog_12_method_39_code
def yX10_allPurses : MethodName := ⟨RX10, "allPurses", "()I"⟩
abbrev cX10_told : ByteArray := prog_12_method_40_code
def yX10_told : MethodName := ⟨RX10, "told", "(I)I"⟩
abbrev cX10_goesDay : ByteArray := prog_12_method_41_code
def yX10_goesDay : MethodName := ⟨RX10, "goesDay", "()V"⟩
abbrev cX10_pass : ByteArray := prog_12_method_42_code
def yX10_pass : MethodName := ⟨RX10, "pass", "(I)I"⟩
abbrev cX10_when : ByteArray := prog_12_method_43_code
def yX10_when : MethodName := ⟨RX10, "when", "(I)I"⟩
abbrev cX10_bricks : ByteArray := prog_12_method_44_code
def yX10_bricks : MethodName := ⟨RX10, "bricks", "(I)I"⟩
abbrev cX10_at : ByteArray := prog_12_method_45_code
def yX10_at : MethodName := ⟨RX10, "at", "(II)I"⟩
abbrev cX10_share : ByteArray := prog_12_method_46_code
def yX10_share : MethodName := ⟨RX10, "share", "(II)I"⟩
abbrev cX10_see : ByteArray := prog_12_method_47_code
def yX10_see : MethodName := ⟨RX10, "see", "(III)I"⟩
abbrev cX10_wrongBy : ByteArray := prog_12_method_48_code
def yX10_wrongBy : MethodName := ⟨RX10, "wrongBy", "(I)I"⟩
abbrev cX10_wrong : ByteArray := prog_12_method_49_code
def yX10_wrong : MethodName := ⟨RX10, "wrong", "()I"⟩
abbrev cX10_from : ByteArray := prog_12_method_50_code
def yX10_from : MethodName := ⟨RX10, "from", "(I)I"⟩
abbrev cX10_can : ByteArray := prog_12_method_51_code
def yX10_can : MethodName := ⟨RX10, "can", "(II)I"⟩
abbrev cX10_part : ByteArray := prog_12_method_52_code
def yX10_part : MethodName := ⟨RX10, "part", "(III)J"⟩
abbrev cX10_odds : ByteArray := prog_12_method_53_code
def yX10_odds : MethodName := ⟨RX10, "odds", "(II)J"⟩
abbrev cX10_mean : ByteArray := prog_12_method_54_code
def yX10_mean : MethodName := ⟨RX10, "mean", "(I)J"⟩
abbrev cX10_plan : ByteArray := prog_12_method_55_code
def yX10_plan : MethodName := ⟨RX10, "plan", "(II)I"⟩
abbrev cX10_ends : ByteArray := prog_12_method_56_code
def yX10_ends : MethodName := ⟨RX10, "ends", "(I)I"⟩
abbrev cX10_book : ByteArray := prog_12_method_57_code
def yX10_book : MethodName := ⟨RX10, "book", "(II)I"⟩
abbrev cX10_looked : ByteArray := prog_12_method_58_code
def yX10_looked : MethodName := ⟨RX10, "looked", "()I"⟩
abbrev cX10_judge : ByteArray := prog_12_method_59_code
def yX10_judge : MethodName := ⟨RX10, "judge", "(II)I"⟩
abbrev cX10_keep : ByteArray := prog_12_method_60_code
def yX10_keep : MethodName := ⟨RX10, "keep", "([I)V"⟩
abbrev cX10_again : ByteArray := prog_12_method_61_code
def yX10_again : MethodName := ⟨RX10, "again", "([I)V"⟩
abbrev cX10_image : ByteArray := prog_12_method_62_code
def yX10_image : MethodName := ⟨RX10, "image", "()I"⟩
abbrev cX10_undo : ByteArray := prog_12_method_63_code
def yX10_undo : MethodName := ⟨RX10, "undo", "()I"⟩
abbrev cX10_ran : ByteArray := prog_12_method_64_code
def yX10_ran : MethodName := ⟨RX10, "ran", "(I)V"⟩
abbrev cX10_above : ByteArray := prog_12_method_65_code
def yX10_above : MethodName := ⟨RX10, "above", "(I)I"⟩
abbrev cX10_looks : ByteArray := prog_12_method_66_code
def yX10_looks : MethodName := ⟨RX10, "looks", "(III)I"⟩
abbrev cX10_swears : ByteArray := prog_12_method_67_code
def yX10_swears : MethodName := ⟨RX10, "swears", "(III)I"⟩
abbrev cX10_tells : ByteArray := prog_12_method_68_code
def yX10_tells : MethodName := ⟨RX10, "tells", "(III)I"⟩
abbrev cX10_act : ByteArray := prog_12_method_69_code
def yX10_act : MethodName := ⟨RX10, "act", "(III)I"⟩
abbrev cX10_trace : ByteArray := prog_12_method_70_code
def yX10_trace : MethodName := ⟨RX10, "trace", "(I)I"⟩
abbrev cX10_taken : ByteArray := prog_12_method_71_code
def yX10_taken : MethodName := ⟨RX10, "taken", "(II)I"⟩
abbrev cX10_count : ByteArray := prog_12_method_72_code
def yX10_count : MethodName := ⟨RX10, "count", "(I)I"⟩
abbrev cX10_isTape : ByteArray := prog_12_method_73_code
def yX10_isTape : MethodName := ⟨RX10, "isTape", "(I)Z"⟩
abbrev cX10_tape : ByteArray := prog_12_method_74_code
def yX10_tape : MethodName := ⟨RX10, "tape", "(III)I"⟩
abbrev cX10_kept : ByteArray := prog_12_method_75_code
def yX10_kept : MethodName := ⟨RX10, "kept", "(IJ)J"⟩
abbrev cX10_item : ByteArray := prog_12_method_76_code
def yX10_item : MethodName := ⟨RX10, "item", "(IIJ)I"⟩
abbrev cX10_read : ByteArray := prog_12_method_77_code
def yX10_read : MethodName := ⟨RX10, "read", "(II)J"⟩
abbrev cX10_shift : ByteArray := prog_12_method_78_code
def yX10_shift : MethodName := ⟨RX10, "shift", "(IIIII)I"⟩
def RJ11 : String := "java/lang/Character"
abbrev cJ11_isValidCodePoint_9a6ad : ByteArray := prog_13_method_11_code
def yJ11_isValidCodePoint_9a6ad : MethodName := ⟨RJ11, "isValidCodePoint", "(I)Z"⟩
abbrev cJ11_highSurrogate_5068e : ByteArray := prog_13_method_28_code
def yJ11_highSurrogate_5068e : MethodName := ⟨RJ11, "highSurrogate", "(I)C"⟩
abbrev cJ11_lowSurrogate_5068e : ByteArray := prog_13_method_29_code
def yJ11_lowSurrogate_5068e : MethodName := ⟨RJ11, "lowSurrogate", "(I)C"⟩
def RJ6 : String := "java/lang/Integer"
abbrev cJ6_compare_7cf53 : ByteArray := prog_14_method_40_code
def yJ6_compare_7cf53 : MethodName := ⟨RJ6, "compare", "(II)I"⟩
abbrev cJ6_bitCount_0f7a4 : ByteArray := prog_14_method_49_code
def yJ6_bitCount_0f7a4 : MethodName := ⟨RJ6, "bitCount", "(I)I"⟩
def RJ9 : String := "java/lang/Math"
abbrev cJ9_max_7cf53 : ByteArray := prog_15_method_65_code
def yJ9_max_7cf53 : MethodName := ⟨RJ9, "max", "(II)I"⟩
abbrev cJ9_min_7cf53 : ByteArray := prog_15_method_69_code
def yJ9_min_7cf53 : MethodName := ⟨RJ9, "min", "(II)I"⟩
def RJ0 : String := "java/lang/String"
abbrev cJ0_length_8abf5 : ByteArray := prog_16_method_54_code
def yJ0_length_8abf5 : MethodName := ⟨RJ0, "length", "()I"⟩
abbrev cJ0_charAt_5068e : ByteArray := prog_16_method_56_code
def yJ0_charAt_5068e : MethodName := ⟨RJ0, "charAt", "(I)C"⟩
abbrev cJ0_indexOf_0f7a4 : ByteArray := prog_16_method_79_code
def yJ0_indexOf_0f7a4 : MethodName := ⟨RJ0, "indexOf", "(I)I"⟩
abbrev cJ0_indexOf_7cf53 : ByteArray := prog_16_method_80_code
def yJ0_indexOf_7cf53 : MethodName := ⟨RJ0, "indexOf", "(II)I"⟩
abbrev cJ0_coder_7d493 : ByteArray := prog_16_method_152_code
def yJ0_coder_7d493 : MethodName := ⟨RJ0, "coder", "()B"⟩
abbrev cJ0_isLatin1_aae02 : ByteArray := prog_16_method_154_code
def yJ0_isLatin1_aae02 : MethodName := ⟨RJ0, "isLatin1", "()Z"⟩
abbrev cJ0_checkIndex_df160 : ByteArray := prog_16_method_155_code
def yJ0_checkIndex_df160 : MethodName := ⟨RJ0, "checkIndex", "(II)V"⟩
abbrev cJ0_checkBoundsBeginEnd_23922 : ByteArray := prog_16_method_158_code
def yJ0_checkBoundsBeginEnd_23922 : MethodName := ⟨RJ0, "checkBoundsBeginEnd", "(III)V"⟩
def RJ1 : String := "java/lang/StringLatin1"
abbrev cJ1_charAt_3b067 : ByteArray := prog_17_method_2_code
def yJ1_charAt_3b067 : MethodName := ⟨RJ1, "charAt", "([BI)C"⟩
abbrev cJ1_canEncode_9a6ad : ByteArray := prog_17_method_4_code
def yJ1_canEncode_9a6ad : MethodName := ⟨RJ1, "canEncode", "(I)Z"⟩
abbrev cJ1_indexOf_4cfef : ByteArray := prog_17_method_22_code
def yJ1_indexOf_4cfef : MethodName := ⟨RJ1, "indexOf", "([BIII)I"⟩
abbrev cJ1_indexOfChar_4cfef : ByteArray := prog_17_method_23_code
def yJ1_indexOfChar_4cfef : MethodName := ⟨RJ1, "indexOfChar", "([BIII)I"⟩
def RJ2 : String := "java/lang/StringUTF16"
abbrev cJ2_getChar_3b067 : ByteArray := prog_18_method_5_code
def yJ2_getChar_3b067 : MethodName := ⟨RJ2, "getChar", "([BI)C"⟩
abbrev cJ2_length_9d52b : ByteArray := prog_18_method_6_code
def yJ2_length_9d52b : MethodName := ⟨RJ2, "length", "([B)I"⟩
abbrev cJ2_indexOf_4cfef : ByteArray := prog_18_method_40_code
def yJ2_indexOf_4cfef : MethodName := ⟨RJ2, "indexOf", "([BIII)I"⟩
abbrev cJ2_indexOfChar_4cfef : ByteArray := prog_18_method_47_code
def yJ2_indexOfChar_4cfef : MethodName := ⟨RJ2, "indexOfChar", "([BIII)I"⟩
abbrev cJ2_indexOfCharUnsafe_4cfef : ByteArray := prog_18_method_48_code
def yJ2_indexOfCharUnsafe_4cfef : MethodName := ⟨RJ2, "indexOfCharUnsafe", "([BIII)I"⟩
abbrev cJ2_indexOfSupplementary_4cfef : ByteArray := prog_18_method_49_code
def yJ2_indexOfSupplementary_4cfef : MethodName := ⟨RJ2, "indexOfSupplementary", "([BIII)I"⟩
abbrev cJ2_charAt_3b067 : ByteArray := prog_18_method_83_code
def yJ2_charAt_3b067 : MethodName := ⟨RJ2, "charAt", "([BI)C"⟩
abbrev cJ2_checkIndex_2214a : ByteArray := prog_18_method_91_code
def yJ2_checkIndex_2214a : MethodName := ⟨RJ2, "checkIndex", "(I[B)V"⟩
abbrev cJ2_checkBoundsBeginEnd_d044e : ByteArray := prog_18_method_93_code
def yJ2_checkBoundsBeginEnd_d044e : MethodName := ⟨RJ2, "checkBoundsBeginEnd", "(II[B)V"⟩
def RJ10 : String := "java/lang/System"
def RJ3 : String := "jdk/internal/util/Preconditions"
abbrev cJ3_checkIndex_8e157 : ByteArray := prog_20_method_11_code
def yJ3_checkIndex_8e157 : MethodName := ⟨RJ3, "checkIndex", "(IILjava/util/function/BiFunction;)I"⟩
abbrev cJ3_checkFromToIndex_8c36e : ByteArray := prog_20_method_12_code
def yJ3_checkFromToIndex_8c36e : MethodName := ⟨RJ3, "checkFromToIndex", "(IIILjava/util/function/BiFunction;)I"⟩
def RL : String := "WitnessPaysLaw"
abbrev cL_law : ByteArray := code
def yL_law : MethodName := ⟨RL, "law", "([I)Z"⟩
abbrev vwCl : List vw_C := [(RX0, TX0, 5), (RX1, TX1, 8), (RX2, TX2, 4), (RX3, TX3, 8), (RX4, TX4, 4), (RX5, TX5, 5), (RX6, TX6, 3), (RX7, TX7, 3), (RX8, TX8, 1), (RX9, TX9, 8), (RX10, TX10, 44)]
/-- the tables' words that stay true under warmer tables -/
def Ug : List Cond := lw_tbl.filter goodWord
theorem ugm {w : Cond} (i : Nat) (h : lw_tbl[i]? = some w) (hg : goodWord w = true) : w ∈ Ug := List.mem_filter.mpr ⟨List.mem_of_getElem? h, hg⟩
theorem ug_in {ws : List Cond} (h : ∀ w ∈ ws, w ∈ Ug) : GoodIn Ug ws := fun w hw => ⟨h w hw, good_of_word (List.mem_filter.mp (h w hw)).2⟩
theorem ug_tbl {w : Cond} (h : w ∈ Ug) : w ∈ lw_tbl := (List.mem_filter.mp h).1
theorem tb_in : (∀ w ∈ tables_1_1, w ∈ lw_tbl) ∧ (∀ w ∈ tables_1_2, w ∈ lw_tbl) ∧ (∀ w ∈ tables_1_3, w ∈ lw_tbl) ∧ (∀ w ∈ tables_1_4, w ∈ lw_tbl) ∧ (∀ w ∈ tables_1_5, w ∈ lw_tbl) ∧ ∀ w ∈ tables_1_6, w ∈ lw_tbl := by
  have h : ∀ w ∈ tables_1, w ∈ lw_tbl := fun w hw => List.mem_append_right _ hw
  exact ⟨fun w hw => h w (List.mem_append_left _ hw), fun w hw => h w (List.mem_append_right _ (List.mem_append_left _ hw)), fun w hw => h w (List.mem_append_right _ (List.mem_append_right _ (List.mem_append_left _ hw))), fun w hw => h w (List.mem_append_right _ (List.mem_append_right _ (List.mem_append_right _ (List.mem_append_left _ hw)))), fun w hw => h w (List.mem_append_right _ (List.mem_append_right _ (List.mem_append_right _ (List.mem_append_right _ (List.mem_append_left _ hw))))), fun w hw => h w (List.mem_append_right _ (List.mem_append_right _ (List.mem_append_right _ (List.mem_append_right _ (List.mem_append_right _ hw)))))⟩
theorem ug1 {w : Cond} (i : Nat) (h : tables_1_1[i]? = some w) (hg : goodWord w = true) : w ∈ Ug := List.mem_filter.mpr ⟨tb_in.1 w (List.mem_of_getElem? h), hg⟩
theorem ug2 {w : Cond} (i : Nat) (h : tables_1_2[i]? = some w) (hg : goodWord w = true) : w ∈ Ug := List.mem_filter.mpr ⟨tb_in.2.1 w (List.mem_of_getElem? h), hg⟩
theorem ug3 {w : Cond} (i : Nat) (h : tables_1_3[i]? = some w) (hg : goodWord w = true) : w ∈ Ug := List.mem_filter.mpr ⟨tb_in.2.2.1 w (List.mem_of_getElem? h), hg⟩
theorem ug4 {w : Cond} (i : Nat) (h : tables_1_4[i]? = some w) (hg : goodWord w = true) : w ∈ Ug := List.mem_filter.mpr ⟨tb_in.2.2.2.1 w (List.mem_of_getElem? h), hg⟩
theorem ug5 {w : Cond} (i : Nat) (h : tables_1_5[i]? = some w) (hg : goodWord w = true) : w ∈ Ug := List.mem_filter.mpr ⟨tb_in.2.2.2.2.1 w (List.mem_of_getElem? h), hg⟩
theorem ug6 {w : Cond} (i : Nat) (h : tables_1_6[i]? = some w) (hg : goodWord w = true) : w ∈ Ug := List.mem_filter.mpr ⟨tb_in.2.2.2.2.2 w (List.mem_of_getElem? h), hg⟩
def isNest : Cond → Bool
  | .fieldLinkNest .. => true
  | .methodLinkNest .. => true
  | _ => false
def nestW : List Cond := lw_tbl.filter isNest
theorem nwm {w : Cond} (i : Nat) (h : lw_tbl[i]? = some w) (hg : isNest w = true) : w ∈ nestW := List.mem_filter.mpr ⟨List.mem_of_getElem? h, hg⟩
theorem nw1 {w : Cond} (i : Nat) (h : tables_1_1[i]? = some w) (hg : isNest w = true) : w ∈ nestW := List.mem_filter.mpr ⟨tb_in.1 w (List.mem_of_getElem? h), hg⟩
theorem nw2 {w : Cond} (i : Nat) (h : tables_1_2[i]? = some w) (hg : isNest w = true) : w ∈ nestW := List.mem_filter.mpr ⟨tb_in.2.1 w (List.mem_of_getElem? h), hg⟩
theorem nw3 {w : Cond} (i : Nat) (h : tables_1_3[i]? = some w) (hg : isNest w = true) : w ∈ nestW := List.mem_filter.mpr ⟨tb_in.2.2.1 w (List.mem_of_getElem? h), hg⟩
theorem nw4 {w : Cond} (i : Nat) (h : tables_1_4[i]? = some w) (hg : isNest w = true) : w ∈ nestW := List.mem_filter.mpr ⟨tb_in.2.2.2.1 w (List.mem_of_getElem? h), hg⟩
theorem nw5 {w : Cond} (i : Nat) (h : tables_1_5[i]? = some w) (hg : isNest w = true) : w ∈ nestW := List.mem_filter.mpr ⟨tb_in.2.2.2.2.1 w (List.mem_of_getElem? h), hg⟩
theorem nw6 {w : Cond} (i : Nat) (h : tables_1_6[i]? = some w) (hg : isNest w = true) : w ∈ nestW := List.mem_filter.mpr ⟨tb_in.2.2.2.2.2 w (List.mem_of_getElem? h), hg⟩
end
section
/-! THE WORLD AS ONE MEMORY. Cells that the run makes are numbered 0, 1, 2 .. as they are made (cell k lies at the address base + k); M k j is the number in place j of cell k, S.2 k j the cell that place j of cell k points to (-1: null), S.1 how many cells there are. Which class or array each cell is: sh. -/
abbrev Mm : Type := Nat → Nat → Int
abbrev Sg : Type := Nat × (Nat → Nat → Int)
abbrev Ow : Type := Launch × State × va_G × (Nat → Nat)
abbrev Md : Type := MethodName × ByteArray × Nat × Option FieldType
abbrev Cg : Type := Program × Env × Room × State × MethodId × Array Value × List Frame × Method × Code
def bs (Ω : Ow) : Nat := Ω.2.1.heap.size
def vi (z : Int) : Value := .int (Int32.ofInt z)
def vl (z : Int) : Value := .long (Int64.ofInt z)
def vr (Ω : Ow) (r : Nat) : Value := .ref (bs Ω + r)
def ro (Ω : Ow) : Int → Option Nat
  | .ofNat r => some (bs Ω + r)
  | .negSucc _ => none
def rv (Ω : Ow) : Int → Value
  | .ofNat r => .ref (bs Ω + r)
  | .negSucc _ => .null
theorem rv_ro (Ω : Ow) (x : Int) : va_rf (ro Ω x) = rv Ω x := by cases x <;> rfl
theorem rv_nat (Ω : Ow) (r : Nat) : rv Ω (r : Int) = vr Ω r := rfl
def up (f : Nat → Nat → Int) (k j : Nat) (z : Int) : Nat → Nat → Int := fun a c => if a = k ∧ c = j then z else f a c
theorem up_s (f : Nat → Nat → Int) (k j : Nat) (z : Int) : up f k j z k j = z := by simp [up]
theorem up_n {f : Nat → Nat → Int} {k j a c : Nat} {z : Int} (h : ¬ (a = k ∧ c = j)) : up f k j z a c = f a c := by simp [up, h]
/-- the cells' kinds (0 .. 10 the classes in the order of vwCl; 11 bytes, 12 ints, 13 longs, 14 booleans, 15 PEOPLE, 16 tapes) and lengths, in the order in which they are made -/
def shT : List (Nat × Nat) := [(9, 0), (2, 0), (11, 100), (1, 0), (12, 10), (12, 10), (12, 10), (12, 100), (12, 6), (0, 0), (12, 20), (16, 6),
  (1, 0), (12, 10), (12, 10), (12, 10), (12, 100), (12, 6),
  (4, 0), (6, 0), (12, 15), (6, 0), (12, 30), (6, 0), (12, 24), (5, 0), (15, 6), (3, 0), (12, 4), (3, 0), (12, 4), (3, 0), (12, 4), (3, 0), (12, 4), (3, 0), (12, 4), (3, 0), (12, 4),
  (4, 0), (6, 0), (12, 15), (6, 0), (12, 30), (6, 0), (12, 24), (5, 0), (15, 6), (3, 0), (12, 4), (3, 0), (12, 4), (3, 0), (12, 4), (3, 0), (12, 4), (3, 0), (12, 4), (3, 0), (12, 4),
  (8, 0), (5, 0), (15, 6), (3, 0), (12, 4), (3, 0), (12, 4), (3, 0), (12, 4), (3, 0), (12, 4), (3, 0), (12, 4), (3, 0), (12, 4),
  (7, 0), (13, 60), (7, 0), (13, 60), (7, 0), (13, 60), (7, 0), (13, 60), (7, 0), (13, 60), (7, 0), (13, 60),
  (10, 0), (12, 6), (12, 6), (12, 6), (12, 6), (12, 6), (12, 24), (12, 100), (12, 6), (12, 61), (12, 61), (12, 61), (12, 61), (12, 800), (14, 110), (12, 5), (12, 5), (12, 5), (12, 10), (12, 10), (12, 8), (12, 8), (12, 20), (12, 112), (12, 112), (12, 6), (12, 6), (12, 6), (13, 360)]
def shL : List (Nat × Nat) := [(1, 0), (12, 10), (12, 10), (12, 10), (12, 100), (12, 6)]
def sh (k : Nat) : Nat × Nat := if k < 116 then shT.getD k (0, 0) else shL.getD ((k - 116) % 6) (0, 0)
/-- which fields point -/
def fkT : List (List Bool) := [[true, false, false, false, false], [false, false, true, true, true, false, true, true], [true, false, false, true], [false, false, false, false, false, false, true, false], [true, true, true, true], [true, false, false, false, true], [true, false, false], [false, false, true], [true], [true, true, false, true, false, true, true, true],
  [false, true, true, true, true, true, true, false, false, false, true, false, false, false, false, false, false, true, true, true, true, true, true, false, true, false, true, true, true, false, true, true, false, true, true, false, true, false, true, true, true, true, true, true]]
def fk (c : Nat) : List Bool := fkT.getD c []
def fv (Ω : Ow) (S : Sg) (M : Mm) (k j : Nat) (r : Bool) : Value := if r = true then rv Ω (S.2 k j) else vi (M k j)
def fsv (Ω : Ow) (S : Sg) (M : Mm) (k c : Nat) : List Value := (List.range (fk c).length).map fun j => fv Ω S M k j ((fk c).getD j false)
def arr (Ω : Ow) (S : Sg) (M : Mm) (k c n : Nat) : vp_A := if c = 13 then (n, .inr (.inl fun j => Int64.ofInt (M k j))) else if 15 ≤ c then (n, .inr (.inr (.inr (.inr fun j => ro Ω (S.2 k j))))) else (n, .inl fun j => Int32.ofInt (M k j))
def cont (Ω : Ow) (S : Sg) (M : Mm) (k : Nat) : va_E := if 11 ≤ (sh k).1 then .inl (Ω.2.2.1.1 (sh k).1, arr Ω S M k (sh k).1 (sh k).2) else .inr ((sh k).1, fsv Ω S M k (sh k).1)
def wsO (Ω : Ow) (S : Sg) (M : Mm) : va_W := (List.range S.1).map fun k => (bs Ω + k, cont Ω S M k)
theorem wsO_get {Ω : Ow} {S : Sg} {M : Mm} {k : Nat} (h : k < S.1) : (wsO Ω S M)[k]? = some (bs Ω + k, cont Ω S M k) := by simp [wsO, h]
theorem wsO_at {Ω : Ow} {S : Sg} {M : Mm} {k : Nat} {q : Nat × va_E} (h : (wsO Ω S M)[k]? = some q) : k < S.1 ∧ q = (bs Ω + k, cont Ω S M k) := by
  by_cases hk : k < S.1
  · rw [wsO_get hk] at h
    exact ⟨hk, (Option.some.inj h).symm⟩
  · have h1 : (wsO Ω S M)[k]? = none := List.getElem?_eq_none (by simp [wsO]; omega)
    rw [h1] at h
    cases h
theorem wsO_D {Ω : Ow} {S : Sg} {M : Mm} : va_D (fun q : Nat => bs Ω ≤ q) (wsO Ω S M) := by
  refine ⟨fun i j p q hi hj hpq => ?_, fun k q hk => ?_⟩
  · obtain ⟨-, rfl⟩ := wsO_at hi
    obtain ⟨-, rfl⟩ := wsO_at hj
    have h1 : bs Ω + i = bs Ω + j := hpq
    omega
  · obtain ⟨-, rfl⟩ := wsO_at hk
    exact Nat.le_add_right _ _
/-- what is not made yet is empty -/
def Fresh (S : Sg) (M : Mm) : Prop := ∀ k, S.1 ≤ k → ∀ j, M k j = 0 ∧ S.2 k j = -1
def HW (Ω : Ow) (S : Sg) (M : Mm) (H : Heap) : Prop := H.size = bs Ω + S.1 ∧ va_P Ω.2.2.1 vwCl (wsO Ω S M) H ∧ Fresh S M
def tys (D : va_G) : List (ClassId × FieldType) := [(D.1 11, .byte), (D.1 12, .int), (D.1 13, .long), (D.1 14, .boolean), (D.1 15, .object RX3), (D.1 16, .object RX7)]
/-- the places of the String constants: class, entry, text; its signs -/
def scT : List (String × Nat × String × List Int) := [("WitnessPays$Law", 28, "pkvamd", [112, 107, 118, 97, 109, 100]), ("WitnessPays$LawText", 73, "0123456789", [48, 49, 50, 51, 52, 53, 54, 55, 56, 57]), ("WitnessPays$LawText", 65, "pkvamd", [112, 107, 118, 97, 109, 100]), ("WitnessPays$LawText", 71, "<=>", [60, 61, 62]),
  ("WitnessPaysModel", 194, "far ", [102, 97, 114, 32]), ("WitnessPaysModel", 200, "near ", [110, 101, 97, 114, 32]), ("WitnessPaysModel", 202, "fine ", [102, 105, 110, 101, 32]), ("WitnessPaysModel", 163, "pkvamd", [112, 107, 118, 97, 109, 100]), ("WitnessPaysModel", 168, "<=>", [60, 61, 62])]
def sc (i : Nat) : String × Nat × String × List Int := scT.getD i ("", 0, "", [])
/-- the addresses of constants: 0 the table of KINDS above; 1 + i the String i, 20 + i its bytes -/
def ka (Ω : Ow) (i : Nat) : Nat := Ω.2.2.2 i
def kAb : List Int := [-1, 0, 0, 0, 1, 2, 3]
def Lo (Ω : Ow) : Nat → Prop := fun q => bs Ω ≤ q
def Fs (Ω : Ow) (i : Nat) (U : State) (H : Heap) : Prop := vk_R (sc i).1 (sc i).2.1 (sc i).2.2.1 (ka Ω (1 + i)) U ∧ va_O "java/lang/String" (ka Ω (1 + i)) (Lo Ω) U H ∧ va_OF "java/lang/String" "coder" "B" (.int 0) (ka Ω (1 + i)) (Lo Ω) U H ∧ va_OF "java/lang/String" "value" "[B" (.ref (ka Ω (20 + i))) (ka Ω (1 + i)) (Lo Ω) U H ∧ va_T .byte (ka Ω (20 + i)) (sc i).2.2.2.length (fun j => vi ((sc i).2.2.2.getD j 0)) (Lo Ω) U H
def Fx (Ω : Ow) : Prop := va_K Ω.2.2.1 vwCl (tys Ω.2.2.1) Ω.2.1 ∧ (∀ w ∈ nestW, va_Nw w Ω.2.1) ∧ va_Z RX9 "KIND_ABOVE" "[I" (.ref (ka Ω 0)) (Lo Ω) Ω.2.1 Ω.2.1.heap ∧ va_T .int (ka Ω 0) 7 (fun j => vi (kAb.getD j 0)) (Lo Ω) Ω.2.1 Ω.2.1.heap ∧
  va_Z "java/lang/String" "COMPACT_STRINGS" "Z" (.int 1) (Lo Ω) Ω.2.1 Ω.2.1.heap ∧ va_Zq "jdk/internal/util/Preconditions" "SIOOBE_FORMATTER" "Ljava/util/function/BiFunction;" (Lo Ω) Ω.2.1 Ω.2.1.heap ∧ (∀ i, i < 9 → Fs Ω i Ω.2.1 Ω.2.1.heap) ∧ va_AO RX3 Ω.2.1 ∧ va_AO RX7 Ω.2.1
abbrev cP (γ : Cg) : Program := γ.1
abbrev cE (γ : Cg) : Env := γ.2.1
abbrev cR (γ : Cg) : Room := γ.2.2.1
abbrev cS (γ : Cg) : State := γ.2.2.2.1
abbrev cM (γ : Cg) : MethodId := γ.2.2.2.2.1
abbrev cA (γ : Cg) : Array Value := γ.2.2.2.2.2.1
abbrev cB (γ : Cg) : List Frame := γ.2.2.2.2.2.2.1
abbrev cMe (γ : Cg) : Method := γ.2.2.2.2.2.2.2.1
abbrev cC (γ : Cg) : Code := γ.2.2.2.2.2.2.2.2
/-- what is known of the method that runs -/
def Cx (γ : Cg) (Ω : Ow) (Y : Md) : Prop := (cP γ).tables.exec = Jvm.exec ∧ (cC γ).code = Y.2.1 ∧ (cC γ).maxLocals = Y.2.2.1 ∧ (cS γ).vm.findClass Y.1.cls = some (cM γ).cls ∧ (∀ w ∈ Ug, w.before (cA γ) (cS γ) = true) ∧ (cMe γ).sig.returnType = Y.2.2.2 ∧ (cMe γ).locks = false ∧ (cMe γ).name = Y.1.name ∧ Fx Ω ∧ Ω.2.1.WarmedH (cS γ).vm ∧ ∀ q : Nat, q < bs Ω → (cS γ).heap[q]? = Ω.2.1.heap[q]?
/-- the locals by their places -/
def lpr : Nat → List (Option Value) → List (Nat × Value)
  | _, [] => []
  | k, none :: t => lpr (k + 1) t
  | k, some v :: t => (k, v) :: lpr (k + 1) t
def lh (L : Array Slot) (n : Nat) (ls : List (Option Value)) : Prop := lv_has L n (lpr 0 ls)
/-- from this point on the method comes to its end, and Z holds there -/
def Go (γ : Cg) (Ω : Ow) (Y : Md) (Z : State → Prop) (cs ss : Nat) (S : Sg) (M : Mm) (pc : Nat) (ls : List (Option Value)) (st : List Value) : Prop :=
  Cx γ Ω Y → ∀ (H : Heap) (locs : List Loc) (L : Array Slot), HW Ω S M H → (∀ q : Nat, q < bs Ω → H[q]? = Ω.2.1.heap[q]?) → (∀ q ∈ locs, bs Ω ≤ q.base) → lh L Y.2.2.1 ls → W (cP γ) Ω.1 (cE γ) (cR γ) (cS γ) (cM γ) (cA γ) (cB γ) (cMe γ) (cC γ) H locs cs ss Z (F0 (cM γ) pc L st)
theorem mem_lpr : ∀ (ls : List (Option Value)) (k : Nat) (q : Nat × Value), q ∈ lpr k ls ↔ ∃ i, q.1 = k + i ∧ ls[i]? = some (some q.2) := by
  intro ls
  induction ls with
  | nil => intro k q; simp [lpr]
  | cons a t ih =>
    intro k q
    cases a with
    | none =>
      simp only [lpr, ih]
      constructor
      · rintro ⟨i, h1, h2⟩
        exact ⟨i + 1, by omega, by simpa using h2⟩
      · rintro ⟨i, h1, h2⟩
        cases i with
        | zero => simp at h2
        | succ i => exact ⟨i, by omega, by simpa using h2⟩
    | some v =>
      simp only [lpr, List.mem_cons, ih]
      constructor
      · rintro (h | ⟨i, h1, h2⟩)
        · subst h
          exact ⟨0, by simp, by simp⟩
        · exact ⟨i + 1, by omega, by simpa using h2⟩
      · rintro ⟨i, h1, h2⟩
        cases i with
        | zero =>
          left
          simp at h2
          obtain ⟨a, b⟩ := q
          simp at h1 h2
          rw [h1, h2]
        | succ i => exact Or.inr ⟨i, by omega, by simpa using h2⟩
theorem lh_at {L : Array Slot} {n : Nat} {ls : List (Option Value)} {i : Nat} {v : Value} (h : lh L n ls) (hi : ls[i]? = some (some v)) : L[i]? = some (.val v) := h.2.2 (i, v) ((mem_lpr ls 0 (i, v)).mpr ⟨i, by simp, hi⟩)
/-- fewer locals are known -/
def lle : List (Option Value) → List (Option Value) → Prop
  | [], _ => True
  | none :: t, _ :: u => lle t u
  | some v :: t, x :: u => x = some v ∧ lle t u
  | none :: t, [] => lle t []
  | some _ :: _, [] => False
theorem lle_get : ∀ {l m : List (Option Value)}, lle l m → ∀ {i : Nat} {v : Value}, l[i]? = some (some v) → m[i]? = some (some v) := by
  intro l
  induction l with
  | nil => intro m _ i v h; simp at h
  | cons a t ih =>
    intro m hm i v h
    cases m with
    | nil =>
      cases a with
      | none =>
        cases i with
        | zero => simp at h
        | succ i =>
          have h1 := ih (m := []) hm (i := i) (by simpa using h)
          simp at h1
      | some w => exact hm.elim
    | cons b u =>
      cases a with
      | none =>
        cases i with
        | zero => simp at h
        | succ i => simpa using ih (m := u) hm (i := i) (by simpa using h)
      | some w =>
        cases i with
        | zero => simp at h; rw [← h]; simpa using hm.1
        | succ i => simpa using ih (m := u) hm.2 (i := i) (by simpa using h)
theorem lh_le {L : Array Slot} {n : Nat} {ls ls' : List (Option Value)} (h : lh L n ls) (hl : lle ls' ls) : lh L n ls' := by
  refine ⟨h.1, h.2.1, fun q hq => ?_⟩
  obtain ⟨i, h1, h2⟩ := (mem_lpr _ _ _).mp hq
  have h3 := lh_at h (lle_get hl h2)
  rw [h1, Nat.zero_add]
  exact h3
theorem i8a : Int8.minValue.toInt = -128 := by decide +kernel
theorem i8b : Int8.maxValue.toInt = 127 := by decide +kernel
theorem i16a : Int16.minValue.toInt = -32768 := by decide +kernel
theorem i16b : Int16.maxValue.toInt = 32767 := by decide +kernel
theorem i32a : Int32.minValue.toInt = -2147483648 := by decide +kernel
theorem i32b : Int32.maxValue.toInt = 2147483647 := by decide +kernel
theorem i64a : Int64.minValue.toInt = -9223372036854775808 := by decide +kernel
theorem i64b : Int64.maxValue.toInt = 9223372036854775807 := by decide +kernel
section GO
variable {γ : Cg} {Ω : Ow} {Y : Md} {Z : State → Prop} {cs ss : Nat} {S : Sg} {M : Mm} {pc pc' : Nat} {ls ls' : List (Option Value)} {st st' : List Value}
/-- fewer locals -/
theorem Go.le (k : Go γ Ω Y Z cs ss S M pc ls' st) (h : lle ls' ls) : Go γ Ω Y Z cs ss S M pc ls st := fun C H locs L h1 h2 h3 h4 => k C H locs L h1 h2 h3 (lh_le h4 h)
theorem Go.wide {cs' ss' : Nat} (k : Go γ Ω Y Z cs' ss' S M pc ls st) (h1 : cs ≤ cs') (h2 : ss ≤ ss') : Go γ Ω Y Z cs ss S M pc ls st := fun C H locs L a b c d => W.widen h1 h2 (k C H locs L a b c d)
abbrev D1 (cc : ByteArray) (pc : Nat) (i : Instr) (pc' : Nat) : Prop := decode cc pc = .ok (i, 1) ∧ pc + 1 = pc'
abbrev D2 (cc : ByteArray) (pc : Nat) (i : Instr) (pc' : Nat) : Prop := decode cc pc = .ok (i, 2) ∧ pc + 2 = pc'
abbrev D3 (cc : ByteArray) (pc : Nat) (i : Instr) (pc' : Nat) : Prop := decode cc pc = .ok (i, 3) ∧ pc + 3 = pc'
/-- a constant, of any kind -/
def IC (cc : ByteArray) (own : String) (pc : Nat) (z : Int) (pc' : Nat) : Prop := D1 cc pc (.iconst z) pc' ∨ (D2 cc pc (.bipush z) pc' ∧ -128 ≤ z ∧ z < 128) ∨ (D3 cc pc (.sipush z) pc' ∧ -32768 ≤ z ∧ z < 32768) ∨ (∃ i, D2 cc pc (.ldc i) pc' ∧ Jvm.Cond.constant own i (Int32.ofInt z) ∈ Ug) ∨ (∃ i, D3 cc pc (.ldc_w i) pc' ∧ Jvm.Cond.constant own i (Int32.ofInt z) ∈ Ug)
theorem g_const {z : Int} (hd : IC Y.2.1 Y.1.cls pc z pc') (k : Go γ Ω Y Z cs ss S M pc' ls (vi z :: st)) : Go γ Ω Y Z cs ss S M pc ls st := by
  intro C H locs L h1 h2 h3 h4
  have k2 := k C H locs L h1 h2 h3 h4
  rcases hd with ⟨hd, rfl⟩ | ⟨⟨hd, rfl⟩, r1, r2⟩ | ⟨⟨hd, rfl⟩, r1, r2⟩ | ⟨i, ⟨hd, rfl⟩, hw⟩ | ⟨i, ⟨hd, rfl⟩, hw⟩
  · exact lv_iconst C.1 C.2.1 hd rfl k2
  · exact lv_bipush C.1 C.2.1 hd (Int8.toInt32_ofInt (by rw [i8a]; exact r1) (by rw [i8b]; omega)) k2
  · exact lv_sipush C.1 C.2.1 hd (Int16.toInt32_ofInt (by rw [i16a]; exact r1) (by rw [i16b]; omega)) k2
  · exact lv_ldc C.1 C.2.1 C.2.2.2.1 (C.2.2.2.2.1 _ hw) hd k2
  · exact lv_ldcw C.1 C.2.1 C.2.2.2.1 (C.2.2.2.2.1 _ hw) hd k2
end GO
end
section
abbrev rg (z : Int) : Prop := -2147483648 ≤ z ∧ z ≤ 2147483647
theorem tI {z : Int} (h : rg z) : (Int32.ofInt z).toInt = z := Int32.toInt_ofInt_of_le (by omega) (by omega)
theorem tL {z : Int} (h : -9223372036854775808 ≤ z ∧ z ≤ 9223372036854775807) : (Int64.ofInt z).toInt = z := Int64.toInt_ofInt_of_le (by omega) (by omega)
theorem vi_of (x : Int32) : Value.int x = vi x.toInt := by rw [vi, Int32.ofInt_toInt]
theorem rg_of (x : Int32) : rg x.toInt := ⟨by have := Int32.le_toInt x; omega, by have := Int32.toInt_lt x; omega⟩
theorem oI_lt {a b : Int} (ha : rg a) (hb : rg b) : Int32.ofInt a < Int32.ofInt b ↔ a < b := by rw [Int32.lt_iff_toInt_lt, tI ha, tI hb]
theorem oI_le {a b : Int} (ha : rg a) (hb : rg b) : Int32.ofInt a ≤ Int32.ofInt b ↔ a ≤ b := by rw [Int32.le_iff_toInt_le, tI ha, tI hb]
theorem oI_eq {a b : Int} (ha : rg a) (hb : rg b) : Int32.ofInt a = Int32.ofInt b ↔ a = b := by rw [← Int32.toInt_inj, tI ha, tI hb]
theorem rg0 : rg 0 := by omega
theorem zI : (0 : Int32) = Int32.ofInt 0 := by decide
def bop (f : Int32 → Int32 → Int32) (a b : Int) : Int := (f (Int32.ofInt a) (Int32.ofInt b)).toInt
def bopL (f : Int64 → Int64 → Int64) (a b : Int) : Int := (f (Int64.ofInt a) (Int64.ofInt b)).toInt
abbrev band : Int → Int → Int := bop (fun x y => x &&& y)
abbrev bor : Int → Int → Int := bop (fun x y => x ||| y)
abbrev bxor : Int → Int → Int := bop (fun x y => x ^^^ y)
abbrev bshl : Int → Int → Int := bop (fun x y => x <<< (y &&& 31))
abbrev bshr : Int → Int → Int := bop (fun x y => x >>> (y &&& 31))
abbrev bushr : Int → Int → Int := bop (fun x y => (x.toUInt32 >>> (y.toUInt32 &&& Int32.toUInt32 31)).toInt32)
theorem vi_bop (f : Int32 → Int32 → Int32) (a b : Int) : vi (bop f a b) = .int (f (Int32.ofInt a) (Int32.ofInt b)) := by rw [vi, bop, Int32.ofInt_toInt]
theorem vl_bopL (f : Int64 → Int64 → Int64) (a b : Int) : vl (bopL f a b) = .long (f (Int64.ofInt a) (Int64.ofInt b)) := by rw [vl, bopL, Int64.ofInt_toInt]
def i2bI (a : Int) : Int := (Int32.ofInt a).toInt8.toInt
def i2sI (a : Int) : Int := (Int32.ofInt a).toInt16.toInt
def i2cI (a : Int) : Int := ((Int32.ofInt a).toUInt32 % 65536).toInt32.toInt
section GR
variable {γ : Cg} {Ω : Ow} {Y : Md} {Z : State → Prop} {cs ss : Nat} {S : Sg} {M : Mm} {pc pc' tgt : Nat} {ls : List (Option Value)} {st : List Value} {a b z : Int} {va vb vc : Value}
/-- an instruction that changes the stack alone -/
theorem go_st {st' : List Value} (h : Cx γ Ω Y → ∀ (H : Heap) (locs : List Loc) (L : Array Slot), W (cP γ) Ω.1 (cE γ) (cR γ) (cS γ) (cM γ) (cA γ) (cB γ) (cMe γ) (cC γ) H locs cs ss Z (F0 (cM γ) pc' L st') → W (cP γ) Ω.1 (cE γ) (cR γ) (cS γ) (cM γ) (cA γ) (cB γ) (cMe γ) (cC γ) H locs cs ss Z (F0 (cM γ) pc L st)) (k : Go γ Ω Y Z cs ss S M pc' ls st') : Go γ Ω Y Z cs ss S M pc ls st := fun C H locs L h1 h2 h3 h4 => h C H locs L (k C H locs L h1 h2 h3 h4)
theorem g_iadd (hd : D1 Y.2.1 pc .iadd pc') (k : Go γ Ω Y Z cs ss S M pc' ls (vi (a + b) :: st)) : Go γ Ω Y Z cs ss S M pc ls (vi b :: vi a :: st) := by
  obtain ⟨hd, rfl⟩ := hd
  exact go_st (fun C H locs L k => lv_iadd C.1 C.2.1 hd (by rw [← Int32.ofInt_add]; exact k)) k
theorem g_isub (hd : D1 Y.2.1 pc .isub pc') (k : Go γ Ω Y Z cs ss S M pc' ls (vi (a - b) :: st)) : Go γ Ω Y Z cs ss S M pc ls (vi b :: vi a :: st) := by
  obtain ⟨hd, rfl⟩ := hd
  exact go_st (fun C H locs L k => lv_isub C.1 C.2.1 hd (by rw [← Int32.ofInt_sub]; exact k)) k
theorem g_imul (hd : D1 Y.2.1 pc .imul pc') (k : Go γ Ω Y Z cs ss S M pc' ls (vi (a * b) :: st)) : Go γ Ω Y Z cs ss S M pc ls (vi b :: vi a :: st) := by
  obtain ⟨hd, rfl⟩ := hd
  exact go_st (fun C H locs L k => lv_imul C.1 C.2.1 hd (by rw [← Int32.ofInt_mul]; exact k)) k
theorem g_ineg (hd : D1 Y.2.1 pc .ineg pc') (k : Go γ Ω Y Z cs ss S M pc' ls (vi (-a) :: st)) : Go γ Ω Y Z cs ss S M pc ls (vi a :: st) := by
  obtain ⟨hd, rfl⟩ := hd
  exact go_st (fun C H locs L k => lv_ineg C.1 C.2.1 hd (by rw [← Int32.ofInt_neg]; exact k)) k
theorem nz_of {b : Int} (hb : rg b) (h : b ≠ 0) : ¬ Int32.ofInt b = 0 := by
  intro q
  have h1 := congrArg Int32.toInt q
  rw [tI hb] at h1
  exact h (h1.trans (by decide))
theorem div_of (ha : rg a) (hb : rg b) (h : b ≠ 0) (h1 : b ≠ -1 ∨ a ≠ -2147483648) : Int32.ofInt a / Int32.ofInt b = Int32.ofInt (Int.tdiv a b) := (Int32.ofInt_tdiv (by rw [i32a]; exact ha.1) (by rw [i32b]; exact ha.2) (by rw [i32a]; exact hb.1) (by rw [i32b]; exact hb.2)).symm
theorem g_idivT (hd : D1 Y.2.1 pc .idiv pc') (ha : rg a) (hb : rg b) (h : b ≠ 0) (h1 : b ≠ -1 ∨ a ≠ -2147483648) (k : Go γ Ω Y Z cs ss S M pc' ls (vi (Int.tdiv a b) :: st)) : Go γ Ω Y Z cs ss S M pc ls (vi b :: vi a :: st) := by
  obtain ⟨hd, rfl⟩ := hd
  exact go_st (fun C H locs L k => lv_idiv C.1 C.2.1 hd (nz_of hb h) (by rw [div_of ha hb h h1]; exact k)) k
/-- of numbers that are not below 0 -/
theorem g_idiv (hd : D1 Y.2.1 pc .idiv pc') (ha : 0 ≤ a ∧ a ≤ 2147483647) (hb : 0 < b ∧ b ≤ 2147483647) (k : Go γ Ω Y Z cs ss S M pc' ls (vi (a / b) :: st)) : Go γ Ω Y Z cs ss S M pc ls (vi b :: vi a :: st) := by
  refine g_idivT hd (by omega) (by omega) (by omega) (Or.inl (by omega)) ?_
  rw [Int.tdiv_eq_ediv_of_nonneg ha.1]
  exact k
theorem g_irem (hd : D1 Y.2.1 pc .irem pc') (ha : 0 ≤ a ∧ a ≤ 2147483647) (hb : 0 < b ∧ b ≤ 2147483647) (k : Go γ Ω Y Z cs ss S M pc' ls (vi (a % b) :: st)) : Go γ Ω Y Z cs ss S M pc ls (vi b :: vi a :: st) := by
  obtain ⟨hd, rfl⟩ := hd
  refine go_st (fun C H locs L k => lv_irem C.1 C.2.1 hd (nz_of (by omega) (by omega)) ?_) k
  rw [div_of (by omega) (by omega) (by omega) (Or.inl (by omega)), ← Int32.ofInt_mul, ← Int32.ofInt_sub, Int.tdiv_eq_ediv_of_nonneg ha.1]
  have e : a - a / b * b = a % b := by rw [Int.emod_def, Int.mul_comm]
  rw [e]
  exact k
theorem g_iand (hd : D1 Y.2.1 pc .iand pc') (k : Go γ Ω Y Z cs ss S M pc' ls (vi (band a b) :: st)) : Go γ Ω Y Z cs ss S M pc ls (vi b :: vi a :: st) := by
  obtain ⟨hd, rfl⟩ := hd
  exact go_st (fun C H locs L k => lv_iand C.1 C.2.1 hd (by rw [vi_bop] at k; exact k)) k
theorem g_ior (hd : D1 Y.2.1 pc .ior pc') (k : Go γ Ω Y Z cs ss S M pc' ls (vi (bor a b) :: st)) : Go γ Ω Y Z cs ss S M pc ls (vi b :: vi a :: st) := by
  obtain ⟨hd, rfl⟩ := hd
  exact go_st (fun C H locs L k => lv_ior C.1 C.2.1 hd (by rw [vi_bop] at k; exact k)) k
theorem g_ixor (hd : D1 Y.2.1 pc .ixor pc') (k : Go γ Ω Y Z cs ss S M pc' ls (vi (bxor a b) :: st)) : Go γ Ω Y Z cs ss S M pc ls (vi b :: vi a :: st) := by
  obtain ⟨hd, rfl⟩ := hd
  exact go_st (fun C H locs L k => lv_ixor C.1 C.2.1 hd (by rw [vi_bop] at k; exact k)) k
theorem g_ishl (hd : D1 Y.2.1 pc .ishl pc') (k : Go γ Ω Y Z cs ss S M pc' ls (vi (bshl a b) :: st)) : Go γ Ω Y Z cs ss S M pc ls (vi b :: vi a :: st) := by
  obtain ⟨hd, rfl⟩ := hd
  exact go_st (fun C H locs L k => lv_ishl C.1 C.2.1 hd (by rw [vi_bop] at k; exact k)) k
theorem g_ishr (hd : D1 Y.2.1 pc .ishr pc') (k : Go γ Ω Y Z cs ss S M pc' ls (vi (bshr a b) :: st)) : Go γ Ω Y Z cs ss S M pc ls (vi b :: vi a :: st) := by
  obtain ⟨hd, rfl⟩ := hd
  exact go_st (fun C H locs L k => lv_ishr C.1 C.2.1 hd (by rw [vi_bop] at k; exact k)) k
theorem g_iushr (hd : D1 Y.2.1 pc .iushr pc') (k : Go γ Ω Y Z cs ss S M pc' ls (vi (bushr a b) :: st)) : Go γ Ω Y Z cs ss S M pc ls (vi b :: vi a :: st) := by
  obtain ⟨hd, rfl⟩ := hd
  exact go_st (fun C H locs L k => lv_iushr C.1 C.2.1 hd rfl (by rw [vi_bop] at k; exact k)) k
theorem g_i2l (hd : D1 Y.2.1 pc .i2l pc') (ha : rg a) (k : Go γ Ω Y Z cs ss S M pc' ls (vl a :: st)) : Go γ Ω Y Z cs ss S M pc ls (vi a :: st) := by
  obtain ⟨hd, rfl⟩ := hd
  exact go_st (fun C H locs L k => lv_i2l C.1 C.2.1 hd (Int32.toInt64_ofInt (by rw [i32a]; exact ha.1) (by rw [i32b]; exact ha.2)) k) k
theorem g_l2i (hd : D1 Y.2.1 pc .l2i pc') (k : Go γ Ω Y Z cs ss S M pc' ls (vi a :: st)) : Go γ Ω Y Z cs ss S M pc ls (vl a :: st) := by
  obtain ⟨hd, rfl⟩ := hd
  exact go_st (fun C H locs L k => lv_l2i C.1 C.2.1 hd Int64.toInt32_ofInt k) k
theorem g_i2b (hd : D1 Y.2.1 pc .i2b pc') (k : Go γ Ω Y Z cs ss S M pc' ls (vi (i2bI a) :: st)) : Go γ Ω Y Z cs ss S M pc ls (vi a :: st) := by
  obtain ⟨hd, rfl⟩ := hd
  exact go_st (fun C H locs L k => lv_i2b C.1 C.2.1 hd rfl k) k
theorem g_i2s (hd : D1 Y.2.1 pc .i2s pc') (k : Go γ Ω Y Z cs ss S M pc' ls (vi (i2sI a) :: st)) : Go γ Ω Y Z cs ss S M pc ls (vi a :: st) := by
  obtain ⟨hd, rfl⟩ := hd
  exact go_st (fun C H locs L k => lv_i2s C.1 C.2.1 hd rfl k) k
theorem g_i2c (hd : D1 Y.2.1 pc .i2c pc') (k : Go γ Ω Y Z cs ss S M pc' ls (vi (i2cI a) :: st)) : Go γ Ω Y Z cs ss S M pc ls (vi a :: st) := by
  obtain ⟨hd, rfl⟩ := hd
  refine go_st (fun C H locs L k => lv_i2c C.1 C.2.1 hd rfl ?_) k
  rw [vi, i2cI, Int32.ofInt_toInt] at k
  exact k
theorem g_ladd (hd : D1 Y.2.1 pc .ladd pc') (k : Go γ Ω Y Z cs ss S M pc' ls (vl (a + b) :: st)) : Go γ Ω Y Z cs ss S M pc ls (vl b :: vl a :: st) := by
  obtain ⟨hd, rfl⟩ := hd
  exact go_st (fun C H locs L k => lv_ladd C.1 C.2.1 hd (by rw [← Int64.ofInt_add]; exact k)) k
theorem g_lor (hd : D1 Y.2.1 pc .lor pc') (k : Go γ Ω Y Z cs ss S M pc' ls (vl (bopL (fun x y => x ||| y) a b) :: st)) : Go γ Ω Y Z cs ss S M pc ls (vl b :: vl a :: st) := by
  obtain ⟨hd, rfl⟩ := hd
  exact go_st (fun C H locs L k => lv_lor C.1 C.2.1 hd (by rw [vl_bopL] at k; exact k)) k
theorem g_land (hd : D1 Y.2.1 pc .land pc') (k : Go γ Ω Y Z cs ss S M pc' ls (vl (bopL (fun x y => x &&& y) a b) :: st)) : Go γ Ω Y Z cs ss S M pc ls (vl b :: vl a :: st) := by
  obtain ⟨hd, rfl⟩ := hd
  exact go_st (fun C H locs L k => lv_land C.1 C.2.1 hd (by rw [vl_bopL] at k; exact k)) k
def blshl (a b : Int) : Int := (Int64.ofInt a <<< ((Int32.ofInt b).toInt64 &&& 63)).toInt
theorem g_lshl (hd : D1 Y.2.1 pc .lshl pc') (k : Go γ Ω Y Z cs ss S M pc' ls (vl (blshl a b) :: st)) : Go γ Ω Y Z cs ss S M pc ls (vi b :: vl a :: st) := by
  obtain ⟨hd, rfl⟩ := hd
  refine go_st (fun C H locs L k => lv_lshl C.1 C.2.1 hd rfl ?_) k
  rw [vl, blshl, Int64.ofInt_toInt] at k
  exact k
theorem g_dup (hd : D1 Y.2.1 pc .dup pc') (hc : va.category = 1) (k : Go γ Ω Y Z cs ss S M pc' ls (va :: va :: st)) : Go γ Ω Y Z cs ss S M pc ls (va :: st) := by
  obtain ⟨hd, rfl⟩ := hd
  exact go_st (fun C H locs L k => lv_dup C.1 C.2.1 hd hc k) k
theorem g_pop (hd : D1 Y.2.1 pc .pop pc') (hc : va.category = 1) (k : Go γ Ω Y Z cs ss S M pc' ls st) : Go γ Ω Y Z cs ss S M pc ls (va :: st) := by
  obtain ⟨hd, rfl⟩ := hd
  exact go_st (fun C H locs L k => lv_pop C.1 C.2.1 hd hc k) k
theorem g_dup_x1 (hd : D1 Y.2.1 pc .dup_x1 pc') (hc : va.category = 1) (hb : vb.category = 1) (k : Go γ Ω Y Z cs ss S M pc' ls (va :: vb :: va :: st)) : Go γ Ω Y Z cs ss S M pc ls (va :: vb :: st) := by
  obtain ⟨hd, rfl⟩ := hd
  exact go_st (fun C H locs L k => lv_dup_x1 C.1 C.2.1 hd hc hb k) k
theorem g_dup2 (hd : D1 Y.2.1 pc .dup2 pc') (hc : va.category = 1) (hb : vb.category = 1) (k : Go γ Ω Y Z cs ss S M pc' ls (va :: vb :: va :: vb :: st)) : Go γ Ω Y Z cs ss S M pc ls (va :: vb :: st) := by
  obtain ⟨hd, rfl⟩ := hd
  exact go_st (fun C H locs L k => lv_dup2_11 C.1 C.2.1 hd hc hb k) k
theorem g_null (hd : D1 Y.2.1 pc .aconst_null pc') (k : Go γ Ω Y Z cs ss S M pc' ls (.null :: st)) : Go γ Ω Y Z cs ss S M pc ls st := by
  obtain ⟨hd, rfl⟩ := hd
  exact go_st (fun C H locs L k => lv_null C.1 C.2.1 hd k) k
theorem g_lconst {n : Fin 2} (hd : D1 Y.2.1 pc (.lconst n) pc') (hz : ((n : Nat) : Int) = z) (k : Go γ Ω Y Z cs ss S M pc' ls (vl z :: st)) : Go γ Ω Y Z cs ss S M pc ls st := by
  obtain ⟨hd, rfl⟩ := hd
  subst hz
  exact go_st (fun C H locs L k => lv_lconst C.1 C.2.1 hd rfl (by rw [vl, Int64.ofInt_eq_ofNat] at k; exact k)) k
theorem g_ldc2 {i : Nat} (hd : D3 Y.2.1 pc (.ldc2_w i) pc') (hw : Jvm.Cond.constantLong Y.1.cls i (Int64.ofInt z) ∈ Ug) (k : Go γ Ω Y Z cs ss S M pc' ls (vl z :: st)) : Go γ Ω Y Z cs ss S M pc ls st := by
  obtain ⟨hd, rfl⟩ := hd
  exact go_st (fun C H locs L k => lv_ldc2 C.1 C.2.1 C.2.2.2.1 (C.2.2.2.2.1 _ hw) hd k) k
/-- a jump's place -/
abbrev DJ (cc : ByteArray) (pc : Nat) (i : Int → Instr) (tgt : Nat) : Prop := ∃ off : Int, decode cc pc = .ok (i off, 3) ∧ (pc : Int) + off = (tgt : Int)
theorem g_goto (hd : DJ Y.2.1 pc .goto tgt) (k : Go γ Ω Y Z cs ss S M tgt ls st) : Go γ Ω Y Z cs ss S M pc ls st := by
  obtain ⟨off, hd, ht⟩ := hd
  exact go_st (fun C H locs L k => lv_goto C.1 C.2.1 hd ht k) k
theorem g_icmp_eq (hd : DJ Y.2.1 pc (.if_icmp .eq) tgt) (hp : pc + 3 = pc') (ha : rg a) (hb : rg b) (k1 : a = b → Go γ Ω Y Z cs ss S M tgt ls st) (k2 : ¬ (a = b) → Go γ Ω Y Z cs ss S M pc' ls st) : Go γ Ω Y Z cs ss S M pc ls (vi b :: vi a :: st) := by
  obtain ⟨off, hd, ht⟩ := hd
  subst hp
  exact fun C H locs L h1 h2 h3 h4 => lv_icmp_eq C.1 C.2.1 hd ht (fun q => k1 (by simpa only [ne_eq, oI_lt, oI_le, oI_eq, ha, hb, rg, and_self, ge_iff_le, gt_iff_lt] using q) C H locs L h1 h2 h3 h4) (fun q => k2 (by simpa only [ne_eq, oI_lt, oI_le, oI_eq, ha, hb, rg, and_self, ge_iff_le, gt_iff_lt] using q) C H locs L h1 h2 h3 h4)
theorem g_if_eq (hd : DJ Y.2.1 pc (.ifCond .eq) tgt) (hp : pc + 3 = pc') (ha : rg a) (k1 : a = 0 → Go γ Ω Y Z cs ss S M tgt ls st) (k2 : ¬ (a = 0) → Go γ Ω Y Z cs ss S M pc' ls st) : Go γ Ω Y Z cs ss S M pc ls (vi a :: st) := by
  obtain ⟨off, hd, ht⟩ := hd
  subst hp
  exact fun C H locs L h1 h2 h3 h4 => lv_if_eq C.1 C.2.1 hd ht (fun q => k1 (by simpa only [ne_eq, zI, oI_lt, oI_le, oI_eq, ha, rg0, rg, and_self, ge_iff_le, gt_iff_lt] using q) C H locs L h1 h2 h3 h4) (fun q => k2 (by simpa only [ne_eq, zI, oI_lt, oI_le, oI_eq, ha, rg0, rg, and_self, ge_iff_le, gt_iff_lt] using q) C H locs L h1 h2 h3 h4)
theorem g_icmp_ne (hd : DJ Y.2.1 pc (.if_icmp .ne) tgt) (hp : pc + 3 = pc') (ha : rg a) (hb : rg b) (k1 : a ≠ b → Go γ Ω Y Z cs ss S M tgt ls st) (k2 : ¬ (a ≠ b) → Go γ Ω Y Z cs ss S M pc' ls st) : Go γ Ω Y Z cs ss S M pc ls (vi b :: vi a :: st) := by
  obtain ⟨off, hd, ht⟩ := hd
  subst hp
  exact fun C H locs L h1 h2 h3 h4 => lv_icmp_ne C.1 C.2.1 hd ht (fun q => k1 (by simpa only [ne_eq, Classical.not_not, oI_lt, oI_le, oI_eq, ha, hb, rg, and_self, ge_iff_le, gt_iff_lt] using q) C H locs L h1 h2 h3 h4) (fun q => k2 (by simpa only [ne_eq, Classical.not_not, oI_lt, oI_le, oI_eq, ha, hb, rg, and_self, ge_iff_le, gt_iff_lt] using q) C H locs L h1 h2 h3 h4)
theorem g_if_ne (hd : DJ Y.2.1 pc (.ifCond .ne) tgt) (hp : pc + 3 = pc') (ha : rg a) (k1 : a ≠ 0 → Go γ Ω Y Z cs ss S M tgt ls st) (k2 : ¬ (a ≠ 0) → Go γ Ω Y Z cs ss S M pc' ls st) : Go γ Ω Y Z cs ss S M pc ls (vi a :: st) := by
  obtain ⟨off, hd, ht⟩ := hd
  subst hp
  exact fun C H locs L h1 h2 h3 h4 => lv_if_ne C.1 C.2.1 hd ht (fun q => k1 (by simpa only [ne_eq, Classical.not_not, zI, oI_lt, oI_le, oI_eq, ha, rg0, rg, and_self, ge_iff_le, gt_iff_lt] using q) C H locs L h1 h2 h3 h4) (fun q => k2 (by simpa only [ne_eq, Classical.not_not, zI, oI_lt, oI_le, oI_eq, ha, rg0, rg, and_self, ge_iff_le, gt_iff_lt] using q) C H locs L h1 h2 h3 h4)
theorem g_icmp_lt (hd : DJ Y.2.1 pc (.if_icmp .lt) tgt) (hp : pc + 3 = pc') (ha : rg a) (hb : rg b) (k1 : a < b → Go γ Ω Y Z cs ss S M tgt ls st) (k2 : ¬ (a < b) → Go γ Ω Y Z cs ss S M pc' ls st) : Go γ Ω Y Z cs ss S M pc ls (vi b :: vi a :: st) := by
  obtain ⟨off, hd, ht⟩ := hd
  subst hp
  exact fun C H locs L h1 h2 h3 h4 => lv_icmp_lt C.1 C.2.1 hd ht (fun q => k1 (by simpa only [ne_eq, oI_lt, oI_le, oI_eq, ha, hb, rg, and_self, ge_iff_le, gt_iff_lt] using q) C H locs L h1 h2 h3 h4) (fun q => k2 (by simpa only [ne_eq, oI_lt, oI_le, oI_eq, ha, hb, rg, and_self, ge_iff_le, gt_iff_lt] using q) C H locs L h1 h2 h3 h4)
theorem g_if_lt (hd : DJ Y.2.1 pc (.ifCond .lt) tgt) (hp : pc + 3 = pc') (ha : rg a) (k1 : a < 0 → Go γ Ω Y Z cs ss S M tgt ls st) (k2 : ¬ (a < 0) → Go γ Ω Y Z cs ss S M pc' ls st) : Go γ Ω Y Z cs ss S M pc ls (vi a :: st) := by
  obtain ⟨off, hd, ht⟩ := hd
  subst hp
  exact fun C H locs L h1 h2 h3 h4 => lv_if_lt C.1 C.2.1 hd ht (fun q => k1 (by simpa only [ne_eq, zI, oI_lt, oI_le, oI_eq, ha, rg0, rg, and_self, ge_iff_le, gt_iff_lt] using q) C H locs L h1 h2 h3 h4) (fun q => k2 (by simpa only [ne_eq, zI, oI_lt, oI_le, oI_eq, ha, rg0, rg, and_self, ge_iff_le, gt_iff_lt] using q) C H locs L h1 h2 h3 h4)
theorem g_icmp_ge (hd : DJ Y.2.1 pc (.if_icmp .ge) tgt) (hp : pc + 3 = pc') (ha : rg a) (hb : rg b) (k1 : b ≤ a → Go γ Ω Y Z cs ss S M tgt ls st) (k2 : ¬ (b ≤ a) → Go γ Ω Y Z cs ss S M pc' ls st) : Go γ Ω Y Z cs ss S M pc ls (vi b :: vi a :: st) := by
  obtain ⟨off, hd, ht⟩ := hd
  subst hp
  exact fun C H locs L h1 h2 h3 h4 => lv_icmp_ge C.1 C.2.1 hd ht (fun q => k1 (by simpa only [ne_eq, oI_lt, oI_le, oI_eq, ha, hb, rg, and_self, ge_iff_le, gt_iff_lt] using q) C H locs L h1 h2 h3 h4) (fun q => k2 (by simpa only [ne_eq, oI_lt, oI_le, oI_eq, ha, hb, rg, and_self, ge_iff_le, gt_iff_lt] using q) C H locs L h1 h2 h3 h4)
theorem g_if_ge (hd : DJ Y.2.1 pc (.ifCond .ge) tgt) (hp : pc + 3 = pc') (ha : rg a) (k1 : 0 ≤ a → Go γ Ω Y Z cs ss S M tgt ls st) (k2 : ¬ (0 ≤ a) → Go γ Ω Y Z cs ss S M pc' ls st) : Go γ Ω Y Z cs ss S M pc ls (vi a :: st) := by
  obtain ⟨off, hd, ht⟩ := hd
  subst hp
  exact fun C H locs L h1 h2 h3 h4 => lv_if_ge C.1 C.2.1 hd ht (fun q => k1 (by simpa only [ne_eq, zI, oI_lt, oI_le, oI_eq, ha, rg0, rg, and_self, ge_iff_le, gt_iff_lt] using q) C H locs L h1 h2 h3 h4) (fun q => k2 (by simpa only [ne_eq, zI, oI_lt, oI_le, oI_eq, ha, rg0, rg, and_self, ge_iff_le, gt_iff_lt] using q) C H locs L h1 h2 h3 h4)
theorem g_icmp_gt (hd : DJ Y.2.1 pc (.if_icmp .gt) tgt) (hp : pc + 3 = pc') (ha : rg a) (hb : rg b) (k1 : b < a → Go γ Ω Y Z cs ss S M tgt ls st) (k2 : ¬ (b < a) → Go γ Ω Y Z cs ss S M pc' ls st) : Go γ Ω Y Z cs ss S M pc ls (vi b :: vi a :: st) := by
  obtain ⟨off, hd, ht⟩ := hd
  subst hp
  exact fun C H locs L h1 h2 h3 h4 => lv_icmp_gt C.1 C.2.1 hd ht (fun q => k1 (by simpa only [ne_eq, oI_lt, oI_le, oI_eq, ha, hb, rg, and_self, ge_iff_le, gt_iff_lt] using q) C H locs L h1 h2 h3 h4) (fun q => k2 (by simpa only [ne_eq, oI_lt, oI_le, oI_eq, ha, hb, rg, and_self, ge_iff_le, gt_iff_lt] using q) C H locs L h1 h2 h3 h4)
theorem g_if_gt (hd : DJ Y.2.1 pc (.ifCond .gt) tgt) (hp : pc + 3 = pc') (ha : rg a) (k1 : 0 < a → Go γ Ω Y Z cs ss S M tgt ls st) (k2 : ¬ (0 < a) → Go γ Ω Y Z cs ss S M pc' ls st) : Go γ Ω Y Z cs ss S M pc ls (vi a :: st) := by
  obtain ⟨off, hd, ht⟩ := hd
  subst hp
  exact fun C H locs L h1 h2 h3 h4 => lv_if_gt C.1 C.2.1 hd ht (fun q => k1 (by simpa only [ne_eq, zI, oI_lt, oI_le, oI_eq, ha, rg0, rg, and_self, ge_iff_le, gt_iff_lt] using q) C H locs L h1 h2 h3 h4) (fun q => k2 (by simpa only [ne_eq, zI, oI_lt, oI_le, oI_eq, ha, rg0, rg, and_self, ge_iff_le, gt_iff_lt] using q) C H locs L h1 h2 h3 h4)
theorem g_icmp_le (hd : DJ Y.2.1 pc (.if_icmp .le) tgt) (hp : pc + 3 = pc') (ha : rg a) (hb : rg b) (k1 : a ≤ b → Go γ Ω Y Z cs ss S M tgt ls st) (k2 : ¬ (a ≤ b) → Go γ Ω Y Z cs ss S M pc' ls st) : Go γ Ω Y Z cs ss S M pc ls (vi b :: vi a :: st) := by
  obtain ⟨off, hd, ht⟩ := hd
  subst hp
  exact fun C H locs L h1 h2 h3 h4 => lv_icmp_le C.1 C.2.1 hd ht (fun q => k1 (by simpa only [ne_eq, oI_lt, oI_le, oI_eq, ha, hb, rg, and_self, ge_iff_le, gt_iff_lt] using q) C H locs L h1 h2 h3 h4) (fun q => k2 (by simpa only [ne_eq, oI_lt, oI_le, oI_eq, ha, hb, rg, and_self, ge_iff_le, gt_iff_lt] using q) C H locs L h1 h2 h3 h4)
theorem g_if_le (hd : DJ Y.2.1 pc (.ifCond .le) tgt) (hp : pc + 3 = pc') (ha : rg a) (k1 : a ≤ 0 → Go γ Ω Y Z cs ss S M tgt ls st) (k2 : ¬ (a ≤ 0) → Go γ Ω Y Z cs ss S M pc' ls st) : Go γ Ω Y Z cs ss S M pc ls (vi a :: st) := by
  obtain ⟨off, hd, ht⟩ := hd
  subst hp
  exact fun C H locs L h1 h2 h3 h4 => lv_if_le C.1 C.2.1 hd ht (fun q => k1 (by simpa only [ne_eq, zI, oI_lt, oI_le, oI_eq, ha, rg0, rg, and_self, ge_iff_le, gt_iff_lt] using q) C H locs L h1 h2 h3 h4) (fun q => k2 (by simpa only [ne_eq, zI, oI_lt, oI_le, oI_eq, ha, rg0, rg, and_self, ge_iff_le, gt_iff_lt] using q) C H locs L h1 h2 h3 h4)
end GR
end
section
/-! the heap's rows over the one memory -/
def cl (c : Nat) : vw_C := vwCl.getD c ("", TX0, 0)
def cN (c : Nat) : String := (cl c).1
def cT (c : Nat) : u_T := (cl c).2.1
def cL (c : Nat) : Nat := (cl c).2.2
theorem cl_at {c : Nat} (h : c < 11) : vwCl[c]? = some (cN c, cT c, cL c) := by
  revert h; revert c
  have : ∀ c, c < 11 → vwCl[c]? = some (cl c) := by
    intro c h
    simp only [cl, List.getD_eq_getElem?_getD]
    have hl : c < vwCl.length := h
    rw [List.getElem?_eq_getElem hl]
    rfl
  exact fun {c} h => this c h
def tyT : List (Nat → FieldType) := [tyX0, tyX1, tyX2, tyX3, tyX4, tyX5, tyX6, tyX7, tyX8, tyX9, tyX10]
def tyC (c : Nat) : Nat → FieldType := tyT.getD c tyX0
theorem lt11 {p : Nat → Prop} (h0 : p 0) (h1 : p 1) (h2 : p 2) (h3 : p 3) (h4 : p 4) (h5 : p 5) (h6 : p 6) (h7 : p 7) (h8 : p 8) (h9 : p 9) (h10 : p 10) : ∀ c, c < 11 → p c := by
  intro c h
  rcases (show c = 0 ∨ c = 1 ∨ c = 2 ∨ c = 3 ∨ c = 4 ∨ c = 5 ∨ c = 6 ∨ c = 7 ∨ c = 8 ∨ c = 9 ∨ c = 10 by omega) with rfl | rfl | rfl | rfl | rfl | rfl | rfl | rfl | rfl | rfl | rfl <;> assumption
theorem tyC_ok : ∀ c, c < 11 → ∀ k, k < cL c → parseFieldDescriptor (cT c k).2.2.1 = some (tyC c k) := lt11 tyX0_ok tyX1_ok tyX2_ok tyX3_ok tyX4_ok tyX5_ok tyX6_ok tyX7_ok tyX8_ok tyX9_ok tyX10_ok
theorem nmC_ok : ∀ c, c < 11 → ∀ a, a < cL c → ∀ b, b < cL c → a ≠ b → (cT c a).2.1 ≠ (cT c b).2.1 := lt11 nmX0 nmX1 nmX2 nmX3 nmX4 nmX5 nmX6 nmX7 nmX8 nmX9 nmX10
theorem wsC_all (C : String) (T : u_T) (N : Nat) (h : (u_ws C T N).all (fun w => decide (w ∈ lw_tbl) && goodWord w) = true) : ∀ w ∈ u_ws C T N, w ∈ Ug := by
  intro w hw
  have h1 := List.all_eq_true.mp h w hw
  simp only [Bool.and_eq_true, decide_eq_true_eq] at h1
  exact List.mem_filter.mpr ⟨h1.1, h1.2⟩
theorem wsC_ok : ∀ c, c < 11 → ∀ w ∈ u_ws (cN c) (cT c) (cL c), w ∈ Ug :=
  lt11 (wsC_all RX0 TX0 5 (by decide +kernel)) (wsC_all RX1 TX1 8 (by decide +kernel)) (wsC_all RX2 TX2 4 (by decide +kernel)) (wsC_all RX3 TX3 8 (by decide +kernel)) (wsC_all RX4 TX4 4 (by decide +kernel)) (wsC_all RX5 TX5 5 (by decide +kernel)) (wsC_all RX6 TX6 3 (by decide +kernel)) (wsC_all RX7 TX7 3 (by decide +kernel)) (wsC_all RX8 TX8 1 (by decide +kernel)) (wsC_all RX9 TX9 8 (by decide +kernel)) (wsC_all RX10 TX10 44 (by decide +kernel))
theorem fk_len : ∀ c, c < 11 → (fk c).length = cL c := by decide +kernel
/-- cell r is there, an object of class c -/
def Ob (S : Sg) (r c : Nat) : Prop := sh r = (c, 0) ∧ r < S.1 ∧ c < 11
/-- cell r is there, an array of kind c and length n -/
def Ar (S : Sg) (r c n : Nat) : Prop := sh r = (c, n) ∧ r < S.1 ∧ 11 ≤ c
theorem cont_ob {Ω : Ow} {S : Sg} {M : Mm} {r c : Nat} (h : Ob S r c) : cont Ω S M r = .inr (c, fsv Ω S M r c) := by
  obtain ⟨h1, -, h2⟩ := h
  rw [cont, h1, if_neg (by omega)]
theorem cont_ar {Ω : Ow} {S : Sg} {M : Mm} {r c n : Nat} (h : Ar S r c n) : cont Ω S M r = .inl (Ω.2.2.1.1 c, arr Ω S M r c n) := by
  obtain ⟨h1, -, h2⟩ := h
  rw [cont, h1, if_pos h2]
theorem cont_eq {Ω : Ow} {S S' : Sg} {M M' : Mm} {k : Nat} (h1 : M' k = M k) (h2 : S'.2 k = S.2 k) : cont Ω S' M' k = cont Ω S M k := by
  unfold cont arr fsv fv
  rw [h1, h2]
theorem fsv_get {Ω : Ow} {S : Sg} {M : Mm} {r c j : Nat} {b : Bool} (h : (fk c)[j]? = some b) : (fsv Ω S M r c)[j]? = some (fv Ω S M r j b) := by
  have hl := (List.getElem?_eq_some_iff.mp h).1
  have hg : (fk c).getD j false = b := by rw [List.getD_eq_getElem?_getD, h]; rfl
  have hg2 : (fk c)[j] = b := (List.getElem?_eq_some_iff.mp h).2
  simp [fsv, hl, hg2]
theorem up_row {f : Nat → Nat → Int} {k j a : Nat} {z : Int} (h : a ≠ k) : up f k j z a = f a := by funext i; simp [up, h]
theorem fsv_set {Ω : Ow} {S S' : Sg} {M M' : Mm} {r c j : Nat} {b : Bool} {v : Value} (h : (fk c)[j]? = some b) (hv : fv Ω S' M' r j b = v) (hm : ∀ i, i ≠ j → M' r i = M r i) (hs : ∀ i, i ≠ j → S'.2 r i = S.2 r i) : (fsv Ω S M r c).set j v = fsv Ω S' M' r c := by
  have hl := (List.getElem?_eq_some_iff.mp h).1
  apply List.ext_getElem?
  intro i
  by_cases hi : i < (fk c).length
  · have hb : (fk c)[i]? = some ((fk c).getD i false) := by rw [List.getD_eq_getElem?_getD, List.getElem?_eq_getElem hi]; rfl
    by_cases hij : i = j
    · subst hij
      rw [List.getElem?_set_self (by simpa [fsv] using hl), fsv_get h, hv]
    · rw [List.getElem?_set_ne (Ne.symm hij), fsv_get hb, fsv_get hb]
      unfold fv
      rw [hm i hij, hs i hij]
  · rw [List.getElem?_eq_none (by simp [fsv]; omega), List.getElem?_eq_none (by simp [fsv]; omega)]
theorem wsO_set {Ω : Ow} {S S' : Sg} {M M' : Mm} {r : Nat} {e : va_E} (hr : r < S.1) (h1 : S'.1 = S.1) (he : cont Ω S' M' r = e) (hk : ∀ k, k ≠ r → cont Ω S' M' k = cont Ω S M k) : (wsO Ω S M).set r (bs Ω + r, e) = wsO Ω S' M' := by
  have hlen : (wsO Ω S M).length = S.1 := by simp [wsO]
  apply List.ext_getElem?
  intro i
  by_cases hi : i < S.1
  · by_cases hir : i = r
    · subst hir
      rw [List.getElem?_set_self (by omega), wsO_get (by omega), he]
    · rw [List.getElem?_set_ne (Ne.symm hir), wsO_get hi, wsO_get (by omega), hk i hir]
  · rw [List.getElem?_eq_none (by rw [List.length_set]; omega), List.getElem?_eq_none (by simp [wsO]; omega)]
theorem Fresh.upM {S : Sg} {M : Mm} (h : Fresh S M) {r j : Nat} {z : Int} (hr : r < S.1) : Fresh S (up M r j z) := fun k hk i => ⟨by rw [up_n (by omega)]; exact (h k hk i).1, (h k hk i).2⟩
theorem Fresh.upS {S : Sg} {M : Mm} (h : Fresh S M) {r j : Nat} {z : Int} (hr : r < S.1) : Fresh (S.1, up S.2 r j z) M := fun k hk i => ⟨(h k hk i).1, by show up S.2 r j z k i = -1; rw [up_n (by have : S.1 ≤ k := hk; omega)]; exact (h k hk i).2⟩
/-- after one write: the world is that of the new memory -/
theorem hw_put {Ω : Ow} {S S' : Sg} {M M' : Mm} {H H1 : Heap} {r : Nat} (hW : HW Ω S M H) (hr : r < S.1) (h1 : S'.1 = S.1) (hF : Fresh S' M') (he : va_at Ω.2.2.1 vwCl (bs Ω + r, cont Ω S' M' r) H1) (hk : ∀ k, k ≠ r → cont Ω S' M' k = cont Ω S M k) (hz : H1.size = H.size) (ho : ∀ q : Nat, q ≠ bs Ω + r → H1[q]? = H[q]?) : HW Ω S' M' H1 := by
  refine ⟨by rw [hz, hW.1, h1], ?_, hF⟩
  rw [← wsO_set hr h1 rfl hk]
  exact hW.2.1.set wsO_D (wsO_get hr) he ho
theorem lo_put {Ω : Ow} {H H1 : Heap} {H0 : Heap} {r : Nat} (h : ∀ q : Nat, q < bs Ω → H[q]? = H0[q]?) (ho : ∀ q : Nat, q ≠ bs Ω + r → H1[q]? = H[q]?) : ∀ q : Nat, q < bs Ω → H1[q]? = H0[q]? := fun q hq => (ho q (by omega)).trans (h q hq)
theorem lc_put {Ω : Ow} {locs : List Loc} {r k : Nat} (h : ∀ q ∈ locs, bs Ω ≤ q.base) : ∀ q ∈ locs ++ [⟨bs Ω + r, k⟩], bs Ω ≤ q.base := by
  intro q hq
  rcases List.mem_append.mp hq with h1 | h1
  · exact h q h1
  · rw [List.mem_singleton] at h1
    subst h1
    exact Nat.le_add_right _ _
/-- how a field is linked -/
def FL (own : String) (idx c j : Nat) : Prop := (Cond.fieldLink own idx (cT c j).1 (cT c j).2.1 (cT c j).2.2.1 ∈ Ug) ∨ ∃ host : String, Cond.fieldLinkNest own idx (cT c j).1 (cT c j).2.1 (cT c j).2.2.1 host ∈ nestW
def GF (cc : ByteArray) (own : String) (pc c j pc' : Nat) (b : Bool) : Prop := ∃ idx, D3 cc pc (.getfield idx) pc' ∧ FL own idx c j ∧ c < 11 ∧ (fk c)[j]? = some b
def PF (cc : ByteArray) (own : String) (pc c j pc' : Nat) (b : Bool) : Prop := ∃ idx, D3 cc pc (.putfield idx) pc' ∧ FL own idx c j ∧ c < 11 ∧ (fk c)[j]? = some b ∧ (cT c j).2.2.2 = false
/-- of a final field, in the constructor -/
def QF (cc : ByteArray) (own : String) (pc c j pc' : Nat) (b : Bool) : Prop := ∃ idx, D3 cc pc (.putfield idx) pc' ∧ (Cond.fieldLink own idx (cT c j).1 (cT c j).2.1 (cT c j).2.2.1 ∈ Ug) ∧ c < 11 ∧ (fk c)[j]? = some b ∧ (cT c j).2.2.2 = true ∧ (cT c j).1 = own
section GH
variable {γ : Cg} {Ω : Ow} {Y : Md} {Z : State → Prop} {cs ss : Nat} {S : Sg} {M : Mm} {pc pc' tgt : Nat} {ls : List (Option Value)} {st : List Value} {a b z : Int} {r c j n : Nat}
theorem cx_K (C : Cx γ Ω Y) : va_K Ω.2.2.1 vwCl (tys Ω.2.2.1) (cS γ) := C.2.2.2.2.2.2.2.2.1.1.moved C.2.2.2.2.2.2.2.2.2.1.alike
theorem cx_N (C : Cx γ Ω Y) {a : String} {i : Nat} {b n d h : String} (hw : Cond.fieldLinkNest a i b n d h ∈ nestW) : (Cond.fieldLinkNest a i b n d h).before (cA γ) (cS γ) = true := va_Nw.use rfl (va_Nw.warmF C.2.2.2.2.2.2.2.2.2.1 (C.2.2.2.2.2.2.2.2.1.2.1 _ hw))
theorem cx_NM (C : Cx γ Ω Y) {a : String} {i : Nat} {x : MethodName} {h : String} (hw : Cond.methodLinkNest a i x h ∈ nestW) : va_Nw (Cond.methodLinkNest a i x h) (cS γ) := va_Nw.warmM C.2.2.2.2.2.2.2.2.2.1 (C.2.2.2.2.2.2.2.2.1.2.1 _ hw)
theorem g_getv {b : Bool} (hf : GF Y.2.1 Y.1.cls pc c j pc' b) (hr : Ob S r c) (k : Go γ Ω Y Z cs ss S M pc' ls (fv Ω S M r j b :: st)) : Go γ Ω Y Z cs ss S M pc ls (vr Ω r :: st) := by
  obtain ⟨idx, ⟨hd, rfl⟩, hl, hc, hb⟩ := hf
  intro C H locs L h1 h2 h3 h4
  have hj : j < cL c := by rw [← fk_len c hc]; exact (List.getElem?_eq_some_iff.mp hb).1
  rcases hl with hl | ⟨host, hl⟩
  · exact va_get C.1 C.2.1 C.2.2.2.2.1 (wsC_ok c hc) C.2.2.2.1 (cx_K C) h1.2.1 r ((wsO_get hr.2.1).trans (by rw [cont_ob hr])) (cl_at hc) j hj (C.2.2.2.2.1 _ hl) (fun _ h => h) (fsv_get hb) hd (k C H locs L h1 h2 h3 h4)
  · exact va_getN C.1 C.2.1 C.2.2.2.2.1 (wsC_ok c hc) C.2.2.2.1 (cx_K C) h1.2.1 r ((wsO_get hr.2.1).trans (by rw [cont_ob hr])) (cl_at hc) j hj (cx_N C hl) (fun _ h => h) (fsv_get hb) hd (k C H locs L h1 h2 h3 h4)
theorem g_getI (hf : GF Y.2.1 Y.1.cls pc c j pc' false) (hr : Ob S r c) (k : Go γ Ω Y Z cs ss S M pc' ls (vi (M r j) :: st)) : Go γ Ω Y Z cs ss S M pc ls (vr Ω r :: st) := g_getv hf hr k
theorem g_getR {q : Nat} (hf : GF Y.2.1 Y.1.cls pc c j pc' true) (hr : Ob S r c) (hq : S.2 r j = (q : Int)) (k : Go γ Ω Y Z cs ss S M pc' ls (vr Ω q :: st)) : Go γ Ω Y Z cs ss S M pc ls (vr Ω r :: st) := g_getv hf hr (by rw [fv, if_pos rfl, hq]; exact k)
theorem narrow_of {ty : FieldType} {v : Value} (h : (ty = .int ∧ ∃ x, v = .int x) ∨ (ty = .boolean ∧ (v = .int 0 ∨ v = .int 1)) ∨ (ty = .long ∧ ∃ x, v = .long x) ∨ ((∃ n, ty = .object n) ∨ ∃ n, ty = .array n) ∧ (v = .null ∨ ∃ a, v = .ref a)) : narrow ty v = v ∧ fits ty v = true := by
  rcases h with ⟨rfl, x, rfl⟩ | ⟨rfl, rfl | rfl⟩ | ⟨rfl, x, rfl⟩ | ⟨⟨n, rfl⟩ | ⟨n, rfl⟩, rfl | ⟨a, rfl⟩⟩ <;> exact ⟨rfl, rfl⟩
/-- a value that fits field j of class c -/
def Fit (Ω : Ow) (c j : Nat) (b : Bool) (z : Int) : Prop := narrow (tyC c j) (if b = true then rv Ω z else vi z) = (if b = true then rv Ω z else vi z) ∧ fits (tyC c j) (if b = true then rv Ω z else vi z) = true
def putS (S : Sg) (b : Bool) (r j : Nat) (z : Int) : Sg := if b = true then (S.1, up S.2 r j z) else S
def putM (M : Mm) (b : Bool) (r j : Nat) (z : Int) : Mm := if b = true then M else up M r j z
theorem hw_putf {H H1 : Heap} {b : Bool} (hW : HW Ω S M H) (hr : Ob S r c) (hb : (fk c)[j]? = some b) (he : va_at Ω.2.2.1 vwCl (bs Ω + r, .inr (c, (fsv Ω S M r c).set j (if b = true then rv Ω z else vi z))) H1) (hz : H1.size = H.size) (ho : ∀ q : Nat, q ≠ bs Ω + r → H1[q]? = H[q]?) : HW Ω (putS S b r j z) (putM M b r j z) H1 := by
  have hr' : Ob (putS S b r j z) r c := by cases b <;> exact hr
  refine hw_put hW hr.2.1 (by cases b <;> rfl) (by cases b; exact hW.2.2.upM hr.2.1; exact hW.2.2.upS hr.2.1) ?_ (fun k hk => cont_eq (by cases b; exact up_row hk; rfl) (by cases b; rfl; exact up_row hk)) hz ho
  rw [cont_ob hr', ← fsv_set (S := S) (M := M) (S' := putS S b r j z) (M' := putM M b r j z) (v := if b = true then rv Ω z else vi z) hb (by cases b <;> simp [fv, putS, putM, up_s]) (fun i hi => by cases b; exact up_n (by omega); rfl) (fun i hi => by cases b; rfl; exact up_n (by omega))]
  exact he
theorem g_putv {b : Bool} (hf : PF Y.2.1 Y.1.cls pc c j pc' b) (hr : Ob S r c) (hz : Fit Ω c j b z) (k : Go γ Ω Y Z cs ss (putS S b r j z) (putM M b r j z) pc' ls st) : Go γ Ω Y Z cs ss S M pc ls ((if b = true then rv Ω z else vi z) :: vr Ω r :: st) := by
  obtain ⟨idx, ⟨hd, rfl⟩, hl, hc, hb, hfin⟩ := hf
  intro C H locs L h1 h2 h3 h4
  have hj : j < cL c := by rw [← fk_len c hc]; exact (List.getElem?_eq_some_iff.mp hb).1
  have hK := cx_K C
  have hts := C.2.2.2.2.1
  have hin := wsC_ok c hc
  have hap := va_apart (own := Y.1.cls) hts hin (tyC c) (tyC_ok c hc) (nmC_ok c hc) hK (cl_at hc)
  have hat : va_at Ω.2.2.1 vwCl (bs Ω + r, .inr (c, fsv Ω S M r c)) H := h1.2.1 r _ ((wsO_get hr.2.1).trans (by rw [cont_ob hr]))
  obtain ⟨rr, e1, cell, q1, q2, q3, q4⟩ := hat
  have hrr : rr = (cN c, cT c, cL c) := Option.some.inj (e1.symm.trans (cl_at hc))
  subst hrr
  obtain ⟨hSl, hfc, kC, hkC, hkind⟩ := hK.1 c _ (cl_at hc)
  obtain ⟨cf, kf, fi, f, hi, hsl⟩ := hSl j hj
  have hlay := hts _ (hin _ (u_in_lay hj))
  unfold u_lay at hlay
  rw [if_neg (by rw [hfin]; decide)] at hlay
  have hst := (u_facts hfc hkC (u_lays hts hin hj) hi).1
  have h6 := u_store hfc hkC hkind hlay hi (tyC_ok c hc j hj) hz.1 hz.2
  have hfs : j < (fsv Ω S M r c).length := by simp [fsv, fk_len c hc, hj]
  have fin : ∀ H' : Heap, H'[bs Ω + r]? = some (cell.setSlot f.slot (if b = true then rv Ω z else vi z)) → H'.size = H.size → (∀ q : Nat, q ≠ bs Ω + r → H'[q]? = H[q]?) → W (cP γ) Ω.1 (cE γ) (cR γ) (cS γ) (cM γ) (cA γ) (cB γ) (cMe γ) (cC γ) H' (locs ++ [⟨bs Ω + r, f.slot⟩]) cs ss Z (F0 (cM γ) (pc + 3) L st) := fun H' e1 e2 e3 => by
    rw [hsl] at e1
    refine k C H' _ L (hw_putf h1 hr hb ⟨_, cl_at hc, t_OB.to (V := updV (vp_V (fsv Ω S M r c)) j (if b = true then rv Ω z else vi z)) ⟨_, e1, q2, q3, t_set q4 hap hj _⟩ (fun i _ => vp_updV_set hfs _ i)⟩ e2 e3) (lo_put h2 e3) (lc_put h3) h4
  rcases hl with hl | ⟨host, hl⟩
  · exact W.putK C.1 C.2.1 (f := f) ⟨C.2.2.2.1, C.2.2.2.2.1 _ hl, ⟨_, _, _, hi⟩, hst⟩ (by rw [q2]; exact h6) q1 q3 (by rw [hsl]; exact k2_hasslot (q4 j hj)) rfl rfl hd fin
  · exact va_WputK C.1 C.2.1 (f := f) C.2.2.2.1 (cx_N C hl) hi hst (by rw [q2]; exact h6) q1 q3 (by rw [hsl]; exact k2_hasslot (q4 j hj)) rfl rfl hd fin
end GH
end
section
section GA
variable {γ : Cg} {Ω : Ow} {Y : Md} {Z : State → Prop} {cs ss : Nat} {S : Sg} {M : Mm} {pc pc' tgt : Nat} {ls : List (Option Value)} {st : List Value} {a b z : Int} {r c j n : Nat}
/-- a final field's value, in the constructor -/
theorem g_putq {b : Bool} (hf : QF Y.2.1 Y.1.cls pc c j pc' b) (hy : Y.1.name = "<init>") (hr : Ob S r c) (hz : Fit Ω c j b z) (k : Go γ Ω Y Z cs ss (putS S b r j z) (putM M b r j z) pc' ls st) : Go γ Ω Y Z cs ss S M pc ls ((if b = true then rv Ω z else vi z) :: vr Ω r :: st) := by
  obtain ⟨idx, ⟨hd, rfl⟩, hl, hc, hb, hfin, hdecl⟩ := hf
  intro C H locs L h1 h2 h3 h4
  have hj : j < cL c := by rw [← fk_len c hc]; exact (List.getElem?_eq_some_iff.mp hb).1
  have hK := cx_K C
  have hts := C.2.2.2.2.1
  have hin := wsC_ok c hc
  have hap := va_apart (own := Y.1.cls) hts hin (tyC c) (tyC_ok c hc) (nmC_ok c hc) hK (cl_at hc)
  have hat : va_at Ω.2.2.1 vwCl (bs Ω + r, .inr (c, fsv Ω S M r c)) H := h1.2.1 r _ ((wsO_get hr.2.1).trans (by rw [cont_ob hr]))
  obtain ⟨rr, e1, cell, q1, q2, q3, q4⟩ := hat
  have hrr : rr = (cN c, cT c, cL c) := Option.some.inj (e1.symm.trans (cl_at hc))
  subst hrr
  obtain ⟨hSl, hfc, kC, hkC, hkind⟩ := hK.1 c _ (cl_at hc)
  obtain ⟨cf, kf, fi, f, hi, hsl⟩ := hSl j hj
  have hlay := hts _ (hin _ (u_in_lay hj))
  unfold u_lay at hlay
  rw [if_pos hfin] at hlay
  have hst := (u_facts hfc hkC (u_lays hts hin hj) hi).1
  have hcf : (cM γ).cls = cf := by
    obtain ⟨_, _, c', _, _, _, -, -, hf', -, -, -, hown2, -⟩ := Cond.laysFinal_spec hlay
    have e1 : c' = cf := by have := hi.symm.trans hf'; simp at this; exact this.1.symm
    rw [hdecl] at hown2
    rw [← e1]; exact Option.some.inj (C.2.2.2.1.symm.trans hown2)
  have h6 := u_fits hfc hkC hkind (Or.inr hlay) hi (tyC_ok c hc j hj) hz.1 hz.2
  have hfs : j < (fsv Ω S M r c).length := by simp [fsv, fk_len c hc, hj]
  refine W.putFinK C.1 C.2.1 C.2.2.2.1 (C.2.2.2.2.1 _ hl) hi hst hcf (C.2.2.2.2.2.2.2.1.trans hy) (by rw [q2]; exact h6) q1 q3 (by rw [hsl]; exact k2_hasslot (q4 j hj)) rfl rfl hd fun H' e1 e2 e3 => ?_
  rw [hsl] at e1
  exact k C H' _ L (hw_putf h1 hr hb ⟨_, cl_at hc, t_OB.to (V := updV (vp_V (fsv Ω S M r c)) j (if b = true then rv Ω z else vi z)) ⟨_, e1, q2, q3, t_set q4 hap hj _⟩ (fun i _ => vp_updV_set hfs _ i)⟩ e2 e3) (lo_put h2 e3) (lc_put h3) h4
/-- a number's field -/
theorem fit_int {b : Bool} (hb : b = false) (h : tyC c j = .int) : Fit Ω c j b z := by
  subst hb
  rw [Fit, h]
  exact ⟨rfl, rfl⟩
theorem vi0 : vi 0 = .int 0 := by decide
theorem vi1 : vi 1 = .int 1 := by decide
theorem fit_bool {b : Bool} (hb : b = false) (h : tyC c j = .boolean) (hz : z = 0 ∨ z = 1) : Fit Ω c j b z := by
  subst hb
  rw [Fit, h]
  rcases hz with rfl | rfl
  · rw [if_neg (by decide), vi0]; exact ⟨rfl, rfl⟩
  · rw [if_neg (by decide), vi1]; exact ⟨rfl, rfl⟩
theorem fit_ref {b : Bool} (hb : b = true) (h : (∃ n, tyC c j = .object n) ∨ ∃ n, tyC c j = .array n) : Fit Ω c j b z := by
  subst hb
  unfold Fit
  rw [if_pos rfl]
  refine narrow_of (Or.inr (Or.inr (Or.inr ⟨h, ?_⟩)))
  cases z
  · exact Or.inr ⟨_, rfl⟩
  · exact Or.inl rfl
theorem g_putI (hf : PF Y.2.1 Y.1.cls pc c j pc' false) (ht : tyC c j = .int) (hr : Ob S r c) (k : Go γ Ω Y Z cs ss S (up M r j z) pc' ls st) : Go γ Ω Y Z cs ss S M pc ls (vi z :: vr Ω r :: st) := g_putv (b := false) hf hr (fit_int rfl ht) k
theorem g_putZ (hf : PF Y.2.1 Y.1.cls pc c j pc' false) (ht : tyC c j = .boolean) (hz : z = 0 ∨ z = 1) (hr : Ob S r c) (k : Go γ Ω Y Z cs ss S (up M r j z) pc' ls st) : Go γ Ω Y Z cs ss S M pc ls (vi z :: vr Ω r :: st) := g_putv (b := false) hf hr (fit_bool rfl ht hz) k
theorem g_putR {q : Nat} (hf : PF Y.2.1 Y.1.cls pc c j pc' true) (ht : (∃ n, tyC c j = .object n) ∨ ∃ n, tyC c j = .array n) (hr : Ob S r c) (k : Go γ Ω Y Z cs ss (S.1, up S.2 r j (q : Int)) M pc' ls st) : Go γ Ω Y Z cs ss S M pc ls (vr Ω q :: vr Ω r :: st) := g_putv (b := true) (z := (q : Int)) hf hr (fit_ref rfl ht) k
theorem g_putqI (hf : QF Y.2.1 Y.1.cls pc c j pc' false) (hy : Y.1.name = "<init>") (ht : tyC c j = .int) (hr : Ob S r c) (k : Go γ Ω Y Z cs ss S (up M r j z) pc' ls st) : Go γ Ω Y Z cs ss S M pc ls (vi z :: vr Ω r :: st) := g_putq (b := false) hf hy hr (fit_int rfl ht) k
theorem g_putqR {q : Nat} (hf : QF Y.2.1 Y.1.cls pc c j pc' true) (hy : Y.1.name = "<init>") (ht : (∃ n, tyC c j = .object n) ∨ ∃ n, tyC c j = .array n) (hr : Ob S r c) (k : Go γ Ω Y Z cs ss (S.1, up S.2 r j (q : Int)) M pc' ls st) : Go γ Ω Y Z cs ss S M pc ls (vr Ω q :: vr Ω r :: st) := g_putq (b := true) (z := (q : Int)) hf hy hr (fit_ref rfl ht) k
theorem clamp {j : Nat} (h : (j : Int) ≤ 2147483647) : (Int32.ofInt (j : Int)).toNatClampNeg = j := by
  show (Int32.ofInt (j : Int)).toInt.toNat = j
  rw [tI (by omega)]
  rfl
theorem vin {j n : Nat} (h : j < n) (hn : n ≤ 1000) : vp_in (Int32.ofInt (j : Int)) n := by
  intro q
  rcases q with q | q
  · rw [zI, oI_lt (by omega) (by omega)] at q
    omega
  · rw [clamp (by omega)] at q
    omega
theorem lens_le : ∀ r, (sh r).2 ≤ 1000 := by
  intro r
  unfold sh
  split
  · rename_i h
    have : ∀ r, r < 116 → (shT.getD r (0, 0)).2 ≤ 1000 := by decide +kernel
    exact this r h
  · have : ∀ r, r < 6 → (shL.getD r (0, 0)).2 ≤ 1000 := by decide +kernel
    exact this _ (Nat.mod_lt _ (by decide))
theorem ar_le (h : Ar S r c n) : n ≤ 1000 := by have := lens_le r; rw [h.1] at this; exact this
/-- reading arrays -/
theorem g_iald (hd : D1 Y.2.1 pc .iaload pc') (hr : Ar S r 12 n) (hj : j < n) (k : Go γ Ω Y Z cs ss S M pc' ls (vi (M r j) :: st)) : Go γ Ω Y Z cs ss S M pc ls (vi (j : Int) :: vr Ω r :: st) := by
  obtain ⟨hd, rfl⟩ := hd
  intro C H locs L h1 h2 h3 h4
  have hn := ar_le hr
  refine va_iald (i := Int32.ofInt (j : Int)) C.1 C.2.1 (cx_K C) h1.2.1 r 1 ((wsO_get hr.2.1).trans (by rw [cont_ar hr]; rfl)) rfl (vin hj hn) hd ?_
  rw [clamp (by omega)]
  exact k C H locs L h1 h2 h3 h4
theorem g_bald (hd : D1 Y.2.1 pc .baload pc') (hr : Ar S r 11 n) (hj : j < n) (k : Go γ Ω Y Z cs ss S M pc' ls (vi (M r j) :: st)) : Go γ Ω Y Z cs ss S M pc ls (vi (j : Int) :: vr Ω r :: st) := by
  obtain ⟨hd, rfl⟩ := hd
  intro C H locs L h1 h2 h3 h4
  have hn := ar_le hr
  refine va_bald (i := Int32.ofInt (j : Int)) C.1 C.2.1 (cx_K C) h1.2.1 r 0 ((wsO_get hr.2.1).trans (by rw [cont_ar hr]; rfl)) rfl (vin hj hn) hd ?_
  rw [clamp (by omega)]
  exact k C H locs L h1 h2 h3 h4
theorem g_zald (hd : D1 Y.2.1 pc .baload pc') (hr : Ar S r 14 n) (hj : j < n) (k : Go γ Ω Y Z cs ss S M pc' ls (vi (M r j) :: st)) : Go γ Ω Y Z cs ss S M pc ls (vi (j : Int) :: vr Ω r :: st) := by
  obtain ⟨hd, rfl⟩ := hd
  intro C H locs L h1 h2 h3 h4
  have hn := ar_le hr
  refine va_zald (i := Int32.ofInt (j : Int)) C.1 C.2.1 (cx_K C) h1.2.1 r 3 ((wsO_get hr.2.1).trans (by rw [cont_ar hr]; rfl)) rfl (vin hj hn) hd ?_
  rw [clamp (by omega)]
  exact k C H locs L h1 h2 h3 h4
theorem g_lald (hd : D1 Y.2.1 pc .laload pc') (hr : Ar S r 13 n) (hj : j < n) (k : Go γ Ω Y Z cs ss S M pc' ls (vl (M r j) :: st)) : Go γ Ω Y Z cs ss S M pc ls (vi (j : Int) :: vr Ω r :: st) := by
  obtain ⟨hd, rfl⟩ := hd
  intro C H locs L h1 h2 h3 h4
  have hn := ar_le hr
  refine va_lald (i := Int32.ofInt (j : Int)) C.1 C.2.1 (cx_K C) h1.2.1 r 2 ((wsO_get hr.2.1).trans (by rw [cont_ar hr]; rfl)) rfl (vin hj hn) hd ?_
  rw [clamp (by omega)]
  exact k C H locs L h1 h2 h3 h4
theorem g_aald {q : Nat} (hd : D1 Y.2.1 pc .aaload pc') (hr : Ar S r c n) (hc : c = 15 ∨ c = 16) (hj : j < n) (hq : S.2 r j = (q : Int)) (k : Go γ Ω Y Z cs ss S M pc' ls (vr Ω q :: st)) : Go γ Ω Y Z cs ss S M pc ls (vi (j : Int) :: vr Ω r :: st) := by
  obtain ⟨hd, rfl⟩ := hd
  intro C H locs L h1 h2 h3 h4
  have hn := ar_le hr
  have e : va_rf (ro Ω (S.2 r j)) = vr Ω q := by rw [hq]; rfl
  rcases hc with rfl | rfl
  · refine va_aldq (i := Int32.ofInt (j : Int)) (C := RX3) C.1 C.2.1 (cx_K C) h1.2.1 r 4 ((wsO_get hr.2.1).trans (by rw [cont_ar hr]; rfl)) rfl (vin hj hn) hd ?_
    rw [clamp (by omega), e]
    exact k C H locs L h1 h2 h3 h4
  · refine va_aldq (i := Int32.ofInt (j : Int)) (C := RX7) C.1 C.2.1 (cx_K C) h1.2.1 r 5 ((wsO_get hr.2.1).trans (by rw [cont_ar hr]; rfl)) rfl (vin hj hn) hd ?_
    rw [clamp (by omega), e]
    exact k C H locs L h1 h2 h3 h4
def tyi (c : Nat) : Nat := c - 11
theorem g_alen (hd : D1 Y.2.1 pc .arraylength pc') (hr : Ar S r c n) (hc : c < 17) (k : Go γ Ω Y Z cs ss S M pc' ls (vi (n : Int) :: st)) : Go γ Ω Y Z cs ss S M pc ls (vr Ω r :: st) := by
  obtain ⟨hd, rfl⟩ := hd
  intro C H locs L h1 h2 h3 h4
  have hc0 := hr.2.2
  have go : ∀ (t0 : Nat) (ty : FieldType), (tys Ω.2.2.1)[t0]? = some (Ω.2.2.1.1 c, ty) → (arr Ω S M r c n).1 = n → W (cP γ) Ω.1 (cE γ) (cR γ) (cS γ) (cM γ) (cA γ) (cB γ) (cMe γ) (cC γ) H locs cs ss Z (F0 (cM γ) pc L (vr Ω r :: st)) := fun t0 ty ht hn => va_alen C.1 C.2.1 (cx_K C) h1.2.1 r t0 ((wsO_get hr.2.1).trans (by rw [cont_ar hr])) ht (by rw [hn, ← Int32.ofInt_eq_ofNat]) hd (k C H locs L h1 h2 h3 h4)
  rcases (show c = 11 ∨ c = 12 ∨ c = 13 ∨ c = 14 ∨ c = 15 ∨ c = 16 by omega) with rfl | rfl | rfl | rfl | rfl | rfl
  · exact go 0 _ rfl rfl
  · exact go 1 _ rfl rfl
  · exact go 2 _ rfl rfl
  · exact go 3 _ rfl rfl
  · exact go 4 _ rfl rfl
  · exact go 5 _ rfl rfl
/-- writing arrays -/
theorem hat_of {H : Heap} (hW : HW Ω S M H) (hr : Ar S r c n) : H[bs Ω + r]? = some (vp_cell (Ω.2.2.1.1 c) (arr Ω S M r c n)) := by
  have h : va_at Ω.2.2.1 vwCl (bs Ω + r, .inl (Ω.2.2.1.1 c, arr Ω S M r c n)) H := hW.2.1 r _ ((wsO_get hr.2.1).trans (by rw [cont_ar hr]))
  exact h
theorem hw_puta {H H1 : Heap} (hW : HW Ω S M H) (hr : Ar S r c n) (he : H1[bs Ω + r]? = some (vp_cell (Ω.2.2.1.1 c) (arr Ω S (up M r j z) r c n))) (hz : H1.size = H.size) (ho : ∀ q : Nat, q ≠ bs Ω + r → H1[q]? = H[q]?) : HW Ω S (up M r j z) H1 := by
  refine hw_put hW hr.2.1 rfl (hW.2.2.upM hr.2.1) ?_ (fun k hk => cont_eq (up_row hk) rfl) hz ho
  rw [cont_ar hr]
  exact he
theorem g_iast (hd : D1 Y.2.1 pc .iastore pc') (hr : Ar S r 12 n) (hj : j < n) (k : Go γ Ω Y Z cs ss S (up M r j z) pc' ls st) : Go γ Ω Y Z cs ss S M pc ls (vi z :: vi (j : Int) :: vr Ω r :: st) := by
  obtain ⟨hd, rfl⟩ := hd
  intro C H locs L h1 h2 h3 h4
  have hn := ar_le hr
  have hat := hat_of h1 hr
  refine W.iast (j := Int32.ofInt (j : Int)) (x := Int32.ofInt z) C.1 C.2.1 hat (((cx_K C).2 1 _ rfl).1 n (fun j => .int (Int32.ofInt (M r j)))) (fun q => by cases q) (by show ¬ (_ ∨ (arrV _ _ _).slots.size ≤ _); rw [arrV_size]; exact vin hj hn) rfl rfl hd fun H1 e zz oq => ?_
  refine k C H1 _ L (hw_puta h1 hr ?_ zz oq) (lo_put h2 oq) (lc_put h3) h4
  rw [e, clamp (by omega)]
  show some ((vp_cell _ (n, .inl _)).setSlot j _) = some (vp_cell _ (n, .inl _))
  rw [vp_cell_i, vp_cell_i, arrV_store]
  congr 2
  funext q
  by_cases hq : q = j
  · subst hq
    simp [updV, up]
  · simp [updV, up, hq]
theorem g_bast (hd : D1 Y.2.1 pc .bastore pc') (hr : Ar S r 11 n) (hj : j < n) (hz : -128 ≤ z ∧ z < 128) (k : Go γ Ω Y Z cs ss S (up M r j z) pc' ls st) : Go γ Ω Y Z cs ss S M pc ls (vi z :: vi (j : Int) :: vr Ω r :: st) := by
  obtain ⟨hd, rfl⟩ := hd
  intro C H locs L h1 h2 h3 h4
  have hn := ar_le hr
  have hat := hat_of h1 hr
  have hnz : (Int8.ofInt z).toInt32 = Int32.ofInt z := by rw [Int8.toInt32_ofInt (by rw [i8a]; exact hz.1) (by rw [i8b]; omega)]
  refine W.bast (j := Int32.ofInt (j : Int)) (x := Int32.ofInt z) C.1 C.2.1 hat (((cx_K C).2 0 _ rfl).1 n (fun j => .int (Int32.ofInt (M r j)))) (fun q => by cases q) (by show ¬ (_ ∨ (arrV _ _ _).slots.size ≤ _); rw [arrV_size]; exact vin hj hn) rfl rfl hd fun H1 e zz oq => ?_
  refine k C H1 _ L (hw_puta h1 hr ?_ zz oq) (lo_put h2 oq) (lc_put h3) h4
  rw [e, clamp (by omega)]
  show some ((vp_cell _ (n, .inl _)).setSlot j _) = some (vp_cell _ (n, .inl _))
  rw [vp_cell_i, vp_cell_i, arrV_store]
  congr 2
  funext q
  by_cases hq : q = j
  · subst hq
    simp [updV, up, narrow, hnz]
  · simp [updV, up, hq]
theorem g_zast (hd : D1 Y.2.1 pc .bastore pc') (hr : Ar S r 14 n) (hj : j < n) (hz : z = 0 ∨ z = 1) (k : Go γ Ω Y Z cs ss S (up M r j z) pc' ls st) : Go γ Ω Y Z cs ss S M pc ls (vi z :: vi (j : Int) :: vr Ω r :: st) := by
  obtain ⟨hd, rfl⟩ := hd
  intro C H locs L h1 h2 h3 h4
  have hn := ar_le hr
  have hat := hat_of h1 hr
  refine W.zast (j := Int32.ofInt (j : Int)) (x := Int32.ofInt z) C.1 C.2.1 hat (((cx_K C).2 3 _ rfl).1 n (fun j => .int (Int32.ofInt (M r j)))) (fun q => by cases q) (by show ¬ (_ ∨ (arrV _ _ _).slots.size ≤ _); rw [arrV_size]; exact vin hj hn) rfl rfl hd fun H1 e zz oq => ?_
  refine k C H1 _ L (hw_puta h1 hr ?_ zz oq) (lo_put h2 oq) (lc_put h3) h4
  rw [e, clamp (by omega)]
  show some ((vp_cell _ (n, .inl _)).setSlot j _) = some (vp_cell _ (n, .inl _))
  rw [vp_cell_i, vp_cell_i, arrV_store]
  congr 2
  funext q
  by_cases hq : q = j
  · subst hq
    rcases hz with rfl | rfl <;> simp [updV, up, narrow] <;> decide
  · simp [updV, up, hq]
theorem g_last (hd : D1 Y.2.1 pc .lastore pc') (hr : Ar S r 13 n) (hj : j < n) (k : Go γ Ω Y Z cs ss S (up M r j z) pc' ls st) : Go γ Ω Y Z cs ss S M pc ls (vl z :: vi (j : Int) :: vr Ω r :: st) := by
  obtain ⟨hd, rfl⟩ := hd
  intro C H locs L h1 h2 h3 h4
  have hn := ar_le hr
  have hat := hat_of h1 hr
  refine W.last (j := Int32.ofInt (j : Int)) (x := Int64.ofInt z) C.1 C.2.1 hat (((cx_K C).2 2 _ rfl).1 n (fun j => .long (Int64.ofInt (M r j)))) (fun q => by cases q) (by show ¬ (_ ∨ (arrV _ _ _).slots.size ≤ _); rw [arrV_size]; exact vin hj hn) rfl rfl hd fun H1 e zz oq => ?_
  refine k C H1 _ L (hw_puta h1 hr ?_ zz oq) (lo_put h2 oq) (lc_put h3) h4
  rw [e, clamp (by omega)]
  show some ((vp_cell _ (n, .inr (.inl _))).setSlot j _) = some (vp_cell _ (n, .inr (.inl _)))
  rw [vp_cell_l, vp_cell_l, arrV_store]
  congr 2
  funext q
  by_cases hq : q = j
  · subst hq
    simp [updV, up]
  · simp [updV, up, hq]
end GA
end
section
section GL
variable {γ : Cg} {Ω : Ow} {Y : Md} {Z : State → Prop} {cs ss : Nat} {S : Sg} {M : Mm} {pc pc' tgt : Nat} {ls : List (Option Value)} {st : List Value} {a b z : Int} {r c j n i : Nat} {v : Value}
/-- loads and stores, of any kind -/
def LI (cc : ByteArray) (pc i pc' : Nat) : Prop := (∃ k : Fin 4, (k : Nat) = i ∧ D1 cc pc (.iload_n k) pc') ∨ D2 cc pc (.iload i) pc'
def LL (cc : ByteArray) (pc i pc' : Nat) : Prop := (∃ k : Fin 4, (k : Nat) = i ∧ D1 cc pc (.lload_n k) pc') ∨ D2 cc pc (.lload i) pc'
def LA (cc : ByteArray) (pc i pc' : Nat) : Prop := (∃ k : Fin 4, (k : Nat) = i ∧ D1 cc pc (.aload_n k) pc') ∨ D2 cc pc (.aload i) pc'
def SI (cc : ByteArray) (pc i pc' : Nat) : Prop := (∃ k : Fin 4, (k : Nat) = i ∧ D1 cc pc (.istore_n k) pc') ∨ D2 cc pc (.istore i) pc'
def SA (cc : ByteArray) (pc i pc' : Nat) : Prop := (∃ k : Fin 4, (k : Nat) = i ∧ D1 cc pc (.astore_n k) pc') ∨ D2 cc pc (.astore i) pc'
theorem g_ild (hd : LI Y.2.1 pc i pc') (hl : ls[i]? = some (some (vi z))) (k : Go γ Ω Y Z cs ss S M pc' ls (vi z :: st)) : Go γ Ω Y Z cs ss S M pc ls st := by
  rcases hd with ⟨q, hq, hd, rfl⟩ | ⟨hd, rfl⟩
  · exact fun C H locs L h1 h2 h3 h4 => lv_iload_n C.1 C.2.1 hd hq (lh_at h4 hl) (k C H locs L h1 h2 h3 h4)
  · exact fun C H locs L h1 h2 h3 h4 => lv_iload C.1 C.2.1 hd (lh_at h4 hl) (k C H locs L h1 h2 h3 h4)
theorem g_lld (hd : LL Y.2.1 pc i pc') (hl : ls[i]? = some (some (vl z))) (k : Go γ Ω Y Z cs ss S M pc' ls (vl z :: st)) : Go γ Ω Y Z cs ss S M pc ls st := by
  rcases hd with ⟨q, hq, hd, rfl⟩ | ⟨hd, rfl⟩
  · exact fun C H locs L h1 h2 h3 h4 => lv_lload_n C.1 C.2.1 hd hq (lh_at h4 hl) (k C H locs L h1 h2 h3 h4)
  · exact fun C H locs L h1 h2 h3 h4 => lv_lload C.1 C.2.1 hd (lh_at h4 hl) (k C H locs L h1 h2 h3 h4)
theorem g_ald {x : Nat} (hd : LA Y.2.1 pc i pc') (hl : ls[i]? = some (some (.ref x))) (k : Go γ Ω Y Z cs ss S M pc' ls (.ref x :: st)) : Go γ Ω Y Z cs ss S M pc ls st := by
  rcases hd with ⟨q, hq, hd, rfl⟩ | ⟨hd, rfl⟩
  · exact fun C H locs L h1 h2 h3 h4 => lv_aload_n C.1 C.2.1 hd hq (lh_at h4 hl) (k C H locs L h1 h2 h3 h4)
  · exact fun C H locs L h1 h2 h3 h4 => lv_aload C.1 C.2.1 hd (lh_at h4 hl) (k C H locs L h1 h2 h3 h4)
theorem g_aldN (hd : LA Y.2.1 pc i pc') (hl : ls[i]? = some (some .null)) (k : Go γ Ω Y Z cs ss S M pc' ls (.null :: st)) : Go γ Ω Y Z cs ss S M pc ls st := by
  rcases hd with ⟨q, hq, hd, rfl⟩ | ⟨hd, rfl⟩
  · exact fun C H locs L h1 h2 h3 h4 => lv_aload_nN C.1 C.2.1 hd hq (lh_at h4 hl) (k C H locs L h1 h2 h3 h4)
  · exact fun C H locs L h1 h2 h3 h4 => lv_aloadN C.1 C.2.1 hd (lh_at h4 hl) (k C H locs L h1 h2 h3 h4)
/-- no long lies just ahead of place i -/
def nol (ls : List (Option Value)) (i : Nat) : Prop := match i with
  | 0 => True
  | i + 1 => ∀ v, ls[i]? = some (some v) → v.category = 1
theorem lh_set {L : Array Slot} {n : Nat} {ls : List (Option Value)} {i : Nat} {v : Value} (hn : nol ls i) (h : lv_has L n ((i, v) :: (lpr 0 ls).filter (fun q => !(q.1 == i) && !(q.1 + 1 == i && q.2.category == 2)))) : lh L n (ls.set i (some v)) := by
  refine ⟨h.1, h.2.1, fun q hq => ?_⟩
  obtain ⟨k, h1, h2⟩ := (mem_lpr _ _ _).mp hq
  rw [Nat.zero_add] at h1
  refine h.2.2 q ?_
  by_cases hk : k = i
  · subst hk
    have h3 : q.2 = v := by
      by_cases hl : k < ls.length
      · rw [List.getElem?_set_self hl] at h2
        exact (Option.some.inj (Option.some.inj h2)).symm
      · rw [List.getElem?_eq_none (by rw [List.length_set]; omega)] at h2
        cases h2
    obtain ⟨q1, q2⟩ := q
    simp only at h1 h3
    subst h1; subst h3
    exact List.mem_cons_self
  · rw [List.getElem?_set_ne (Ne.symm hk)] at h2
    refine List.mem_cons_of_mem _ (List.mem_filter.mpr ⟨(mem_lpr _ _ _).mpr ⟨k, by omega, h2⟩, ?_⟩)
    have h4 : ¬ (q.1 + 1 = i ∧ q.2.category = 2) := by
      rintro ⟨e1, e2⟩
      subst e1
      have := hn q.2 (by rw [h1]; exact h2)
      omega
    simp only [Bool.and_eq_true, Bool.not_eq_true', beq_eq_false_iff_ne, ne_eq, Bool.and_eq_false_iff]
    refine ⟨by omega, ?_⟩
    by_cases h5 : q.1 + 1 = i
    · right; intro h6; exact h4 ⟨h5, h6⟩
    · left; exact h5
theorem g_ist (hd : SI Y.2.1 pc i pc') (hi : i < Y.2.2.1) (hn : nol ls i) (k : Go γ Ω Y Z cs ss S M pc' (ls.set i (some (vi z))) st) : Go γ Ω Y Z cs ss S M pc ls (vi z :: st) := by
  rcases hd with ⟨q, hq, hd, rfl⟩ | ⟨hd, rfl⟩
  · exact fun C H locs L h1 h2 h3 h4 => lv_istore_n C.1 C.2.1 hd hq h4 hi rfl (fun L' h5 => k C H locs L' h1 h2 h3 (lh_set hn h5))
  · exact fun C H locs L h1 h2 h3 h4 => lv_istore C.1 C.2.1 hd h4 hi rfl (fun L' h5 => k C H locs L' h1 h2 h3 (lh_set hn h5))
theorem g_ast {x : Nat} (hd : SA Y.2.1 pc i pc') (hi : i < Y.2.2.1) (hn : nol ls i) (k : Go γ Ω Y Z cs ss S M pc' (ls.set i (some (.ref x))) st) : Go γ Ω Y Z cs ss S M pc ls (.ref x :: st) := by
  rcases hd with ⟨q, hq, hd, rfl⟩ | ⟨hd, rfl⟩
  · exact fun C H locs L h1 h2 h3 h4 => lv_astore_n C.1 C.2.1 hd hq h4 hi rfl (fun L' h5 => k C H locs L' h1 h2 h3 (lh_set hn h5))
  · exact fun C H locs L h1 h2 h3 h4 => lv_astore C.1 C.2.1 hd h4 hi rfl (fun L' h5 => k C H locs L' h1 h2 h3 (lh_set hn h5))
theorem g_astN (hd : SA Y.2.1 pc i pc') (hi : i < Y.2.2.1) (hn : nol ls i) (k : Go γ Ω Y Z cs ss S M pc' (ls.set i (some .null)) st) : Go γ Ω Y Z cs ss S M pc ls (.null :: st) := by
  rcases hd with ⟨q, hq, hd, rfl⟩ | ⟨hd, rfl⟩
  · exact fun C H locs L h1 h2 h3 h4 => lv_astore_nN C.1 C.2.1 hd hq h4 hi rfl (fun L' h5 => k C H locs L' h1 h2 h3 (lh_set hn h5))
  · exact fun C H locs L h1 h2 h3 h4 => lv_astoreN C.1 C.2.1 hd h4 hi rfl (fun L' h5 => k C H locs L' h1 h2 h3 (lh_set hn h5))
theorem lpr_idx {i : Nat} {v : Value} (h : ls[i]? = some (some v)) : ∃ k : Nat, (lpr 0 ls)[k]? = some (i, v) := List.getElem?_of_mem ((mem_lpr ls 0 (i, v)).mpr ⟨i, by simp, h⟩)
theorem g_iinc {d : Int} (hd : D3 Y.2.1 pc (.iinc i d) pc') (hl : ls[i]? = some (some (vi z))) (hi : i < Y.2.2.1) (hn : nol ls i) (k : Go γ Ω Y Z cs ss S M pc' (ls.set i (some (vi (z + d)))) st) : Go γ Ω Y Z cs ss S M pc ls st := by
  obtain ⟨hd, rfl⟩ := hd
  intro C H locs L h1 h2 h3 h4
  obtain ⟨q, hq⟩ := lpr_idx hl
  exact lv_iinc (v := Int32.ofInt (z + d)) C.1 C.2.1 hd h4 hq (Int32.ofInt_add _ _).symm hi rfl (fun L' h5 => k C H locs L' h1 h2 h3 (lh_set hn h5))
/-! a method's contract -/
def rk (Ω : Ow) (κ : Nat) (x : Int) : Option Value := match κ with
  | 0 => none
  | 1 => some (vi x)
  | 2 => some (vl x)
  | _ => some (rv Ω x)
def Wd (Ω : Ow) (S : Sg) (M : Mm) (U : State) : Prop := Fx Ω ∧ Ω.2.1.WarmedH U.vm ∧ (∀ q : Nat, q < bs Ω → U.heap[q]? = Ω.2.1.heap[q]?) ∧ HW Ω S M U.heap
def Qf (Ω : Ow) (κ : Nat) (Q : Int → Sg → Mm → Prop) : Array Value → State → Outcome → State → Prop := fun _ _ o t => ∃ (x : Int) (S' : Sg) (M' : Mm), o = .returned (rk Ω κ x) ∧ Q x S' M' ∧ (∀ q : Nat, q < bs Ω → t.heap[q]? = Ω.2.1.heap[q]?) ∧ HW Ω S' M' t.heap
def wsM (Y : Md) : List Cond := .code Y.1 Y.2.1 Y.2.2.1 Y.2.2.2 :: Ug
/-- depth d: so many frames, so many words of locals -/
def rmd (d mc ms : Nat) : Room := { frames := d, cells := mc, slots := ms, locals := 40 * d }
/-- Y, called with the values As at the memory M, comes back with an answer x and a memory M' of which Q holds; it makes at most mc cells of ms places, and goes at most d deep -/
def Ct (Ω : Ow) (Y : Md) (d mc ms κ : Nat) (As : List Value) (S : Sg) (M : Mm) (Q : Int → Sg → Mm → Prop) : Prop := Met Ω.1 Y.1 (wsM Y) (rmd d mc ms) (va_Pc As (Wd Ω S M)) (Qf Ω κ Q) mc ms (Lo Ω)
/-- a method's end -/
def Zm (γ : Cg) (Ω : Ow) (κ mc ms : Nat) (Q : Int → Sg → Mm → Prop) : State → Prop := MQ (cB γ) (Qf Ω κ Q) (cA γ) (cS γ) mc ms (Lo Ω)
theorem Ct.mk {Ω : Ow} {Y : Md} {d mc ms κ : Nat} {As : List Value} {S : Sg} {M : Mm} {Q : Int → Sg → Mm → Prop} (hy : plainName Y.1.cls = true) (hlen : (lg_sl As).length ≤ Y.2.2.1) (ls : List (Option Value)) (hls : ∀ (q : Nat × Value), q ∈ lpr 0 ls → q ∈ lv_args 0 As)
    (k : ∀ γ : Cg, cR γ = rmd d mc ms → (cS γ).heap.size = bs Ω + S.1 → Go γ Ω Y (Zm γ Ω κ mc ms Q) 0 0 S M 0 ls []) : Ct Ω Y d mc ms κ As S M Q := by
  refine Met.ofW (cc := Y.2.1) (maxL := Y.2.2.1) (ret := Y.2.2.2) hy rfl ?_
  intro p e s m args below meth c s₁ B hml hv
  obtain ⟨rfl, hFx, hWm, hlo, hHW⟩ := hv
  have hl := lv_entry As (n := Y.2.2.1) hlen
  rw [lg_entry_eq]
  generalize (lg_sl As ++ List.replicate (Y.2.2.1 - (lg_sl As).length) Slot.unset).toArray = L at hl ⊢
  have hts := atoms_spec (ws := wsM Y) B.pre
  refine k (p, e, (headSpec (wsM Y) (rmd d mc ms)).room, s, m, As.toArray, below, meth, c) rfl hHW.1 ⟨B.exec, B.bytes, hml, findClass_of_methodNamed B.named, fun w hw => hts w (List.mem_cons_of_mem _ hw), B.returns, B.notSynchronized, (name_of_methodNamed B.named B.method).1, hFx, hWm, hlo⟩ s.heap [] L hHW hlo (fun q h => by cases h) ⟨hl.1, hl.2.1, fun q hq => hl.2.2 q (hls q hq)⟩
theorem Ct.weaken {Ω : Ow} {Y : Md} {d mc ms κ : Nat} {As : List Value} {S : Sg} {M : Mm} {Q Q' : Int → Sg → Mm → Prop} (h : Ct Ω Y d mc ms κ As S M Q) (hq : ∀ x S' M', Q x S' M' → Q' x S' M') : Ct Ω Y d mc ms κ As S M Q' := by
  intro p e h1 h2 h3 s m args below hf happ hP hK
  obtain ⟨n, o, a1, a2, a3, ⟨x, S', M', b1, b2, b3⟩, b4⟩ := h p e h1 h2 h3 s m args below hf happ hP hK
  exact ⟨n, o, a1, a2, a3, ⟨x, S', M', b1, hq _ _ _ b2, b3⟩, b4⟩
/-- the method's own returns -/
theorem g_ret0 {κ mc ms : Nat} {Q : Int → Sg → Mm → Prop} (hd : decode Y.2.1 pc = .ok (.return_, 1)) (hr : Y.2.2.2 = none) (x : Int) (hq : Q x S M) (h1 : cs ≤ mc) (h2 : ss ≤ ms) : Go γ Ω Y (Zm γ Ω 0 mc ms Q) cs ss S M pc ls [] := by
  intro C H locs L a1 a2 a3 a4
  refine W.widen h1 h2 ?_
  exact W.vret C.1 C.2.1 (C.2.2.2.2.2.1.trans hr) (fun t ht hW => ⟨x, S, M, rfl, hq, by rw [ht]; exact a2, by rw [ht]; exact a1⟩) a3 hd C.2.2.2.2.2.2.1
theorem g_reti {mc ms : Nat} {Q : Int → Sg → Mm → Prop} (hd : decode Y.2.1 pc = .ok (.ireturn, 1)) (hr : Y.2.2.2 = some .int) (hq : Q z S M) (h1 : cs ≤ mc) (h2 : ss ≤ ms) : Go γ Ω Y (Zm γ Ω 1 mc ms Q) cs ss S M pc ls [vi z] := by
  intro C H locs L a1 a2 a3 a4
  refine W.widen h1 h2 ?_
  exact W.iret (v := Int32.ofInt z) C.1 C.2.1 (C.2.2.2.2.2.1.trans hr) (fun t ht hW => ⟨z, S, M, rfl, hq, by rw [ht]; exact a2, by rw [ht]; exact a1⟩) a3 hd C.2.2.2.2.2.2.1
/-- of a type that narrows -/
theorem g_retn {mc ms : Nat} {Q : Int → Sg → Mm → Prop} {ty : FieldType} (hd : decode Y.2.1 pc = .ok (.ireturn, 1)) (hr : Y.2.2.2 = some ty) (hn : narrow ty (vi z) = vi z) (hq : Q z S M) (h1 : cs ≤ mc) (h2 : ss ≤ ms) : Go γ Ω Y (Zm γ Ω 1 mc ms Q) cs ss S M pc ls [vi z] := by
  intro C H locs L a1 a2 a3 a4
  refine W.widen h1 h2 ?_
  exact W.zret (v := Int32.ofInt z) C.1 C.2.1 (C.2.2.2.2.2.1.trans hr) hn (fun t ht hW => ⟨z, S, M, rfl, hq, by rw [ht]; exact a2, by rw [ht]; exact a1⟩) a3 hd C.2.2.2.2.2.2.1
theorem nar_bool (h : z = 0 ∨ z = 1) : narrow .boolean (vi z) = vi z := by
  rcases h with rfl | rfl
  · rw [vi0]; rfl
  · rw [vi1]; rfl
theorem g_retz {mc ms : Nat} {Q : Int → Sg → Mm → Prop} (hd : decode Y.2.1 pc = .ok (.ireturn, 1)) (hr : Y.2.2.2 = some .boolean) (hn : z = 0 ∨ z = 1) (hq : Q z S M) (h1 : cs ≤ mc) (h2 : ss ≤ ms) : Go γ Ω Y (Zm γ Ω 1 mc ms Q) cs ss S M pc ls [vi z] := g_retn hd hr (nar_bool hn) hq h1 h2
theorem g_retl {mc ms : Nat} {Q : Int → Sg → Mm → Prop} (hd : decode Y.2.1 pc = .ok (.lreturn, 1)) (hr : Y.2.2.2 = some .long) (hq : Q z S M) (h1 : cs ≤ mc) (h2 : ss ≤ ms) : Go γ Ω Y (Zm γ Ω 2 mc ms Q) cs ss S M pc ls [vl z] := by
  intro C H locs L a1 a2 a3 a4
  refine W.widen h1 h2 ?_
  exact W.lret (v := Int64.ofInt z) C.1 C.2.1 (C.2.2.2.2.2.1.trans hr) (fun t ht hW => ⟨z, S, M, rfl, hq, by rw [ht]; exact a2, by rw [ht]; exact a1⟩) a3 hd C.2.2.2.2.2.2.1
theorem g_reta {mc ms : Nat} {Q : Int → Sg → Mm → Prop} {rt : FieldType} (hd : decode Y.2.1 pc = .ok (.areturn, 1)) (hr : Y.2.2.2 = some rt) (hrt : (∃ n, rt = .object n) ∨ ∃ t, rt = .array t) {x : Int} (hx : v = rv Ω x) (hq : Q x S M) (h1 : cs ≤ mc) (h2 : ss ≤ ms) : Go γ Ω Y (Zm γ Ω 3 mc ms Q) cs ss S M pc ls [v] := by
  subst hx
  intro C H locs L a1 a2 a3 a4
  refine W.widen h1 h2 ?_
  exact W.aret (v := rv Ω x) C.1 C.2.1 (C.2.2.2.2.2.1.trans hr) hrt (by cases x; exact Or.inr ⟨_, rfl⟩; exact Or.inl rfl) (fun t ht hW => ⟨x, S, M, rfl, hq, by rw [ht]; exact a2, by rw [ht]; exact a1⟩) a3 hd C.2.2.2.2.2.2.1
end GL
end
section
section GN
variable {γ : Cg} {Ω : Ow} {Y : Md} {Z : State → Prop} {cs ss : Nat} {S : Sg} {M : Mm} {pc pc' tgt : Nat} {ls : List (Option Value)} {st : List Value} {a b z : Int} {r c j n i : Nat} {v : Value}
theorem g_objInit (hd : ∃ idx, D3 Y.2.1 pc (.invokespecial idx) pc' ∧ Cond.methodLink Y.1.cls idx objectInit ∈ Ug) (hi : Cond.instanceMethod objectInit ∈ Ug) (hco : Cond.code objectInit ⟨#[0xb1]⟩ 1 none ∈ Ug) (hR : 1 ≤ (cR γ).frames ∧ (st.map fun v => v.category).sum + 12 ≤ (cR γ).locals) (k : Go γ Ω Y Z cs ss S M pc' ls st) : Go γ Ω Y Z cs ss S M pc ls (vr Ω r :: st) := by
  obtain ⟨idx, ⟨hd, rfl⟩, hl⟩ := hd
  intro C H locs L h1 h2 h3 h4
  refine W.objInit (idx := idx) C.1 C.2.1 C.2.2.2.1 (C.2.2.2.2.1 _ hl) (C.2.2.2.2.1 _ hi) (C.2.2.2.2.1 _ hco) rfl (by show L.size = _; rw [C.2.2.1]; exact h4.1) rfl hd hR.1 ?_ (k C H locs L h1 h2 h3 h4)
  have h := hR.2
  show 2 * 0 + _ + 12 ≤ _
  omega
theorem dflt : ∀ c, c < 11 → ∀ j, j < cL c → defaultValue (tyC c j) = if (fk c).getD j false = true then .null else .int 0 := by decide +kernel
theorem fsv_new (hF : Fresh S M) (hc : c < 11) (hk : S.1 ≤ r) : ∀ j, j < cL c → defaultValue (tyC c j) = vp_V (fsv Ω S M r c) j := by
  intro j hj
  have hl : j < (fk c).length := by rw [fk_len c hc]; exact hj
  have hb : (fk c)[j]? = some ((fk c).getD j false) := by rw [List.getD_eq_getElem?_getD, List.getElem?_eq_getElem hl]; rfl
  have hg : (fsv Ω S M r c).getD j .null = fv Ω S M r j ((fk c).getD j false) := by rw [List.getD_eq_getElem?_getD, fsv_get hb]; rfl
  rw [dflt c hc j hj, vp_V, hg, fv, (hF r hk j).1, (hF r hk j).2]
  cases (fk c).getD j false
  · rw [if_neg (by decide), if_neg (by decide), vi0]
  · rfl
theorem wsO_push {S : Sg} {M : Mm} : wsO Ω (S.1 + 1, S.2) M = wsO Ω S M ++ [(bs Ω + S.1, cont Ω S M S.1)] := by
  unfold wsO
  rw [List.range_succ, List.map_append]
  rfl
theorem hw_new {H H1 : Heap} (hW : HW Ω S M H) (he : va_at Ω.2.2.1 vwCl (bs Ω + S.1, cont Ω S M S.1) H1) (hz : H1.size = H.size + 1) (ho : ∀ q : Nat, q < H.size → H1[q]? = H[q]?) : HW Ω (S.1 + 1, S.2) M H1 := by
  refine ⟨by rw [hz, hW.1]; rfl, ?_, fun k hk j => hW.2.2 k (by have : S.1 + 1 ≤ k := hk; omega) j⟩
  rw [wsO_push]
  refine va_P.app (hW.2.1.kept (fun k q hq => ?_)) (fun k q hq => ?_)
  · have hlt := (hW.2.1 k q hq).lt
    exact ho q.1 hlt
  · have hz : k < 1 := (List.getElem?_eq_some_iff.mp hq).1
    rw [show k = 0 by omega] at hq
    cases hq
    exact he
/-- a new object -/
theorem g_new {q : Nat} (hd : ∃ idx, D3 Y.2.1 pc (.new idx) pc' ∧ Cond.classLink Y.1.cls idx (cN c) ∈ Ug) (hin : Cond.instantiable (cN c) (cL c) ∈ Ug) (hini : Cond.initialized (cN c) ∈ Ug) (hc : c < 11) (hq : S.1 = q) (hs : sh q = (c, 0)) (hcells : cs + 1 ≤ (cR γ).cells) (hslots : ss + cL c ≤ (cR γ).slots) (k : Go γ Ω Y Z (cs + 1) (ss + cL c) (q + 1, S.2) M pc' ls (vr Ω q :: st)) : Go γ Ω Y Z cs ss S M pc ls st := by
  subst hq
  obtain ⟨idx, ⟨hd, rfl⟩, hl⟩ := hd
  intro C H locs L h1 h2 h3 h4
  have hK := cx_K C
  have hKn := hK.1 c _ (cl_at hc)
  refine W.newcK C.1 C.2.1 C.2.2.2.1 (C.2.2.2.2.1 _ hl) (C.2.2.2.2.1 _ hin) (C.2.2.2.2.1 _ hini) rfl hd hcells hslots hKn.2.1 h1.1 fun H1 kC hkC e1 z1 o1 => ?_
  refine k C H1 locs L (hw_new h1 ?_ (by rw [z1, h1.1]) (fun q hq => o1 q (by rw [← h1.1]; exact hq))) (fun q hq => (o1 q (by omega)).trans (h2 q hq)) h3 h4
  rw [cont, hs, if_neg (by have : c < 11 := hc; show ¬ 11 ≤ c; omega)]
  exact ⟨_, cl_at hc, (u_born (tyC c) C.2.2.2.2.1 (wsC_ok c hc) hKn hkC e1 (tyC_ok c hc)).to (fsv_new h1.2.2 hc (Nat.le_refl _))⟩
theorem arr_new (hF : Fresh S M) (hk : S.1 ≤ r) {cA : ClassId} {n : Nat} : vp_cell cA (arr Ω S M r 11 n) = arrV cA n (fun _ => .int 0) ∧ vp_cell cA (arr Ω S M r 12 n) = arrV cA n (fun _ => .int 0) ∧ vp_cell cA (arr Ω S M r 13 n) = arrV cA n (fun _ => .long 0) ∧ vp_cell cA (arr Ω S M r 14 n) = arrV cA n (fun _ => .int 0) ∧ vp_cell cA (arr Ω S M r 15 n) = arrV cA n (fun _ => .null) ∧ vp_cell cA (arr Ω S M r 16 n) = arrV cA n (fun _ => .null) := by
  have hm : M r = fun _ => 0 := funext fun j => (hF r hk j).1
  have hs : S.2 r = fun _ => -1 := funext fun j => (hF r hk j).2
  have z32 : Int32.ofInt 0 = 0 := by decide
  have z64 : Int64.ofInt 0 = 0 := by decide
  unfold arr
  rw [hm, hs]
  refine ⟨?_, ?_, ?_, ?_, ?_, ?_⟩
  · rw [if_neg (by decide), if_neg (by decide), vp_cell_i]; show arrV cA n (fun _ => Value.int (Int32.ofInt 0)) = _; rw [z32]
  · rw [if_neg (by decide), if_neg (by decide), vp_cell_i]; show arrV cA n (fun _ => Value.int (Int32.ofInt 0)) = _; rw [z32]
  · rw [if_pos rfl, vp_cell_l]; show arrV cA n (fun _ => Value.long (Int64.ofInt 0)) = _; rw [z64]
  · rw [if_neg (by decide), if_neg (by decide), vp_cell_i]; show arrV cA n (fun _ => Value.int (Int32.ofInt 0)) = _; rw [z32]
  · rw [if_neg (by decide), if_pos (by decide), vp_cell_q]; rfl
  · rw [if_neg (by decide), if_pos (by decide), vp_cell_q]; rfl
/-- a new array of numbers -/
theorem g_newa {q : Nat} {atype : ArrayType} (hd : D2 Y.2.1 pc (.newarray atype) pc') (hA : Cond.arrayClass (newarray.typeOf atype) ∈ Ug) (hat : (atype = .byte ∧ c = 11) ∨ (atype = .int ∧ c = 12) ∨ (atype = .long ∧ c = 13) ∨ (atype = .boolean ∧ c = 14)) (hn : n ≤ 1000) (hq : S.1 = q) (hs : sh q = (c, n)) (hcells : cs + 1 ≤ (cR γ).cells) (hslots : ss + n ≤ (cR γ).slots) (k : Go γ Ω Y Z (cs + 1) (ss + n) (q + 1, S.2) M pc' ls (vr Ω q :: st)) : Go γ Ω Y Z cs ss S M pc ls (vi (n : Int) :: st) := by
  subst hq
  obtain ⟨hd, rfl⟩ := hd
  intro C H locs L h1 h2 h3 h4
  have hK := cx_K C
  have hb : n * componentBytes (newarray.typeOf atype) ≤ 536870912 := by
    rcases hat with ⟨rfl, -⟩ | ⟨rfl, -⟩ | ⟨rfl, -⟩ | ⟨rfl, -⟩ <;> (show n * _ ≤ _; simp [newarray.typeOf, componentBytes]; omega)
  refine va_newaK (n := Int32.ofInt (n : Int)) C.1 C.2.1 (C.2.2.2.2.1 _ hA) rfl hd rfl (by rw [zI, oI_lt (by omega) (by omega)]; omega) (clamp (by omega)) hb hcells hslots h1.1 fun H1 cA e1 z1 o1 hAr hNm => ?_
  refine k C H1 locs L (hw_new h1 ?_ (by rw [z1, h1.1]) (fun q hq => o1 q (by rw [← h1.1]; exact hq))) (fun q hq => (o1 q (by omega)).trans (h2 q hq)) h3 h4
  have hnew := arr_new (Ω := Ω) h1.2.2 (Nat.le_refl S.1) (cA := cA) (n := n)
  rcases hat with ⟨rfl, rfl⟩ | ⟨rfl, rfl⟩ | ⟨rfl, rfl⟩ | ⟨rfl, rfl⟩
  · have hc : Ω.2.2.1.1 11 = cA := Option.some.inj ((hK.2 0 _ rfl).2.symm.trans hNm)
    rw [cont, hs, if_pos (show 11 ≤ 11 by decide)]
    show H1[_]? = some (vp_cell (Ω.2.2.1.1 11) _)
    rw [hc, hnew.1]
    exact e1
  · have hc : Ω.2.2.1.1 12 = cA := Option.some.inj ((hK.2 1 _ rfl).2.symm.trans hNm)
    rw [cont, hs, if_pos (show 11 ≤ 12 by decide)]
    show H1[_]? = some (vp_cell (Ω.2.2.1.1 12) _)
    rw [hc, hnew.2.1]
    exact e1
  · have hc : Ω.2.2.1.1 13 = cA := Option.some.inj ((hK.2 2 _ rfl).2.symm.trans hNm)
    rw [cont, hs, if_pos (show 11 ≤ 13 by decide)]
    show H1[_]? = some (vp_cell (Ω.2.2.1.1 13) _)
    rw [hc, hnew.2.2.1]
    exact e1
  · have hc : Ω.2.2.1.1 14 = cA := Option.some.inj ((hK.2 3 _ rfl).2.symm.trans hNm)
    rw [cont, hs, if_pos (show 11 ≤ 14 by decide)]
    show H1[_]? = some (vp_cell (Ω.2.2.1.1 14) _)
    rw [hc, hnew.2.2.2.1]
    exact e1
/-- a new array of objects -/
theorem g_newq {q : Nat} {C0 : String} (hd : ∃ idx, D3 Y.2.1 pc (.anewarray idx) pc' ∧ Cond.classLink Y.1.cls idx C0 ∈ Ug) (hat : (C0 = RX3 ∧ c = 15) ∨ (C0 = RX7 ∧ c = 16)) (hn : n ≤ 1000) (hq : S.1 = q) (hs : sh q = (c, n)) (hcells : cs + 1 ≤ (cR γ).cells) (hslots : ss + n ≤ (cR γ).slots) (k : Go γ Ω Y Z (cs + 1) (ss + n) (q + 1, S.2) M pc' ls (vr Ω q :: st)) : Go γ Ω Y Z cs ss S M pc ls (vi (n : Int) :: st) := by
  subst hq
  obtain ⟨idx, ⟨hd, rfl⟩, hl⟩ := hd
  intro C H locs L h1 h2 h3 h4
  have hK := cx_K C
  have hcl : (Int32.ofInt (n : Int)).toNatClampNeg = n := clamp (by omega)
  have hA : (Cond.arrayOver (.object C0)).before (cA γ) (cS γ) = true := by
    rcases hat with ⟨rfl, -⟩ | ⟨rfl, -⟩
    · exact va_AO.use (va_AO.moved C.2.2.2.2.2.2.2.2.2.1.alike C.2.2.2.2.2.2.2.2.1.2.2.2.2.2.2.2.1)
    · exact va_AO.use (va_AO.moved C.2.2.2.2.2.2.2.2.2.1.alike C.2.2.2.2.2.2.2.2.1.2.2.2.2.2.2.2.2)
  refine W.anew (n := Int32.ofInt (n : Int)) C.1 C.2.1 C.2.2.2.1 (C.2.2.2.2.1 _ hl) hA rfl hd rfl (by rw [zI, oI_lt (by omega) (by omega)]; omega) (by rw [hcl]; omega) hcells (by rw [hcl]; exact hslots) fun cA kA comp f1 f2 f3 f4 => ?_
  rw [hcl]
  generalize hH1 : H.push ({ cls := cA, slots := Array.replicate n .null, vm := .none } : Cell) = H1
  have z1 : H1.size = H.size + 1 := by rw [← hH1, Array.size_push]
  have e1 : H1[H.size]? = some (arrV cA n (fun _ => .null)) := by rw [← hH1, Array.getElem?_push_size, ← arrV_new]
  have o1 : ∀ q : Nat, q < H.size → H1[q]? = H[q]? := fun q hq => by rw [← hH1, Array.getElem?_push, if_neg (Nat.ne_of_lt hq)]
  rw [h1.1] at e1 ⊢
  refine k C H1 locs L (hw_new h1 ?_ z1 o1) (fun q hq => (o1 q (by rw [h1.1]; omega)).trans (h2 q hq)) h3 h4
  have hnew := arr_new (Ω := Ω) h1.2.2 (Nat.le_refl S.1) (cA := cA) (n := n)
  rcases hat with ⟨rfl, rfl⟩ | ⟨rfl, rfl⟩
  · obtain ⟨kA', comp', g1, g2, g3, g4⟩ := (hK.2 4 _ rfl).2
    have hc : Ω.2.2.1.1 15 = cA := Option.some.inj (g4.symm.trans f1)
    rw [cont, hs, if_pos (show 11 ≤ 15 by decide)]
    show H1[_]? = some (vp_cell (Ω.2.2.1.1 15) _)
    rw [hc, hnew.2.2.2.2.1]
    exact e1
  · obtain ⟨kA', comp', g1, g2, g3, g4⟩ := (hK.2 5 _ rfl).2
    have hc : Ω.2.2.1.1 16 = cA := Option.some.inj (g4.symm.trans f1)
    rw [cont, hs, if_pos (show 11 ≤ 16 by decide)]
    show H1[_]? = some (vp_cell (Ω.2.2.1.1 16) _)
    rw [hc, hnew.2.2.2.2.2]
    exact e1
/-- an object comes into an array of objects -/
theorem g_aast {q qc : Nat} (hd : D1 Y.2.1 pc .aastore pc') (hr : Ar S r c n) (hat : (c = 15 ∧ qc = 3) ∨ (c = 16 ∧ qc = 7)) (hj : j < n) (hq : Ob S q qc) (k : Go γ Ω Y Z cs ss (S.1, up S.2 r j (q : Int)) M pc' ls st) : Go γ Ω Y Z cs ss S M pc ls (vr Ω q :: vi (j : Int) :: vr Ω r :: st) := by
  obtain ⟨hd, rfl⟩ := hd
  intro C H locs L h1 h2 h3 h4
  have hn := ar_le hr
  have hK := cx_K C
  have hatv := hat_of h1 hr
  have hvt : va_at Ω.2.2.1 vwCl (bs Ω + q, .inr (qc, fsv Ω S M q qc)) H := h1.2.1 q _ ((wsO_get hq.2.1).trans (by rw [cont_ob hq]))
  obtain ⟨r', hr', cellV, g1, g2, g3, -⟩ := hvt
  have hcls := (hK.1 qc _ (cl_at hq.2.2)).2
  have go : ∀ (t0 : Nat) (kA : Class) (comp : ClassId), (cS γ).vm.classes[Ω.2.2.1.1 c]? = some kA → kA.kind = .array comp (.object (cN qc)) → (cS γ).vm.findClass (cN qc) = some comp → arr Ω S M r c n = (n, .inr (.inr (.inr (.inr fun j => ro Ω (S.2 r j))))) → arr Ω (S.1, up S.2 r j (q : Int)) M r c n = (n, .inr (.inr (.inr (.inr fun i => ro Ω (up S.2 r j (q : Int) r i))))) → W (cP γ) Ω.1 (cE γ) (cR γ) (cS γ) (cM γ) (cA γ) (cB γ) (cMe γ) (cC γ) H locs cs ss Z (F0 (cM γ) pc L (vr Ω q :: vi (j : Int) :: vr Ω r :: st)) := fun t0 kA comp k1 k2 k3 ea eb => by
    have hcomp : comp = Ω.2.2.1.1 qc := Option.some.inj (k3.symm.trans hcls.1)
    subst hcomp
    obtain ⟨kC, hkC, -⟩ := hcls.2
    have hcl : (Int32.ofInt (j : Int)).toNatClampNeg = j := clamp (by omega)
    rw [ea] at hatv
    refine W.aast (j := Int32.ofInt (j : Int)) C.1 C.2.1 hatv (fun q h => by cases h) (fun h => by cases h) k1 k2 rfl hkC ⟨by rw [zI, oI_lt (by omega) (by omega)]; omega, by show _ < (arrV _ _ _).slots.size; rw [arrV_size, hcl]; exact hj⟩ g1 (fun q h => by rw [g3] at h; cases h) (by rw [g2]; exact hkC) (by rw [g2]; exact va_assign hcls) rfl rfl hd fun H1 e zz oq => ?_
    refine k C H1 _ L (hw_put h1 hr.2.1 rfl (h1.2.2.upS hr.2.1) ?_ (fun k hk => cont_eq rfl (up_row hk)) zz oq) (lo_put h2 oq) (lc_put h3) h4
    have hr' : Ar (S.1, up S.2 r j (q : Int)) r c n := hr
    rw [cont_ar hr', eb]
    show H1[_]? = some (vp_cell _ _)
    rw [e, hcl, vp_cell_q, vp_cell_q, arrV_store]
    congr 2
    funext i
    by_cases hi : i = j
    · subst hi
      simp [updV, up, vr, ro, va_rf]
    · simp [updV, up, hi]
  rcases hat with ⟨rfl, rfl⟩ | ⟨rfl, rfl⟩
  · obtain ⟨kA, comp, k1, k2, k3, -⟩ := (hK.2 4 _ rfl).2
    exact go 4 kA comp k1 k2 k3 rfl rfl
  · obtain ⟨kA, comp, k1, k2, k3, -⟩ := (hK.2 5 _ rfl).2
    exact go 5 kA comp k1 k2 k3 rfl rfl
end GN
end
section
section GC
variable {γ : Cg} {Ω : Ow} {Y Y2 : Md} {Z : State → Prop} {cs ss : Nat} {S : Sg} {M : Mm} {pc pc' tgt : Nat} {ls : List (Option Value)} {st rest As : List Value} {a b z : Int} {r c j n i d mc ms κ : Nat} {v : Value} {Q : Int → Sg → Mm → Prop}
/-- the tables know the method: n arguments -/
def MOK (Y2 : Md) (n : Nat) : Prop := Cond.code Y2.1 Y2.2.1 Y2.2.2.1 Y2.2.2.2 ∈ Ug ∧ Cond.initialized Y2.1.cls ∈ Ug ∧ Y2.1.cls ≠ "java/lang/invoke/MethodHandle" ∧ Y2.1.cls ≠ "java/lang/invoke/VarHandle" ∧ (parseMethodDescriptor Y2.1.desc).map (fun d => d.parameters.length) = some n
def MVI (Y2 : Md) : Prop := Cond.instanceMethod Y2.1 ∈ Ug ∧ Cond.selects Y2.1.cls Y2.1 Y2.1 ∈ Ug
def MLK (own : String) (idx : Nat) (Y2 : Md) : Prop := Cond.methodLink own idx Y2.1 ∈ Ug ∨ ∃ host : String, Cond.methodLinkNest own idx Y2.1 host ∈ nestW
theorem wsM_in (h : Cond.code Y2.1 Y2.2.1 Y2.2.2.1 Y2.2.2.2 ∈ Ug) : ∀ w ∈ wsM Y2, w ∈ Ug := fun w hw => by
  rcases List.mem_cons.mp hw with h1 | h1
  · rw [h1]; exact h
  · exact h1
theorem blind {As : List Value} : FrameBlind (va_Pc As (Wd Ω S M)) := fun a U g mk h => ⟨h.1, h.2⟩
theorem wd_of (C : Cx γ Ω Y) {H : Heap} (h1 : HW Ω S M H) (h2 : ∀ q : Nat, q < bs Ω → H[q]? = Ω.2.1.heap[q]?) (U : State) (hU : U.heap = H) (hW : (cS γ).WarmedH U.vm) : Wd Ω S M U := ⟨C.2.2.2.2.2.2.2.2.1, State.WarmedH.trans C.2.2.2.2.2.2.2.2.2.1 hW, by rw [hU]; exact h2, by rw [hU]; exact h1⟩
/-- behind a call -/
theorem go_call (hr : Cx γ Ω Y → ∀ (H : Heap) (locs : List Loc) (L : Array Slot), HW Ω S M H → (∀ q : Nat, q < bs Ω → H[q]? = Ω.2.1.heap[q]?) → L.size = Y.2.2.1 → ∃ a, va_Run (cP γ) Ω.1 (cE γ) (cR γ) (cS γ) (cM γ) (cA γ) (cB γ) (cMe γ) (cC γ) H locs cs ss mc ms (F0 (cM γ) pc L st) rest (Qf Ω κ Q a) (Lo Ω))
    (k : ∀ x S' M', Q x S' M' → Go γ Ω Y Z (cs + mc) (ss + ms) S' M' (pc + 3) ls ((rk Ω κ x).toList ++ rest)) : Go γ Ω Y Z cs ss S M pc ls st := by
  intro C H locs L h1 h2 h3 h4 T hT X
  obtain ⟨a, hr⟩ := hr C H locs L h1 h2 h4.1
  obtain ⟨v, st₀, t, T', LL, h0, X', hL, e1, e2, ⟨x, S', M', hv, hQ, hlo, hHW⟩, st⟩ := hr T hT X
  cases hv
  have h5 : ∀ q ∈ locs ++ LL, bs Ω ≤ q.base := fun q hq => by
    rcases List.mem_append.mp hq with h | h
    · exact h3 q h
    · exact hL q h
  obtain ⟨t2, a1, b1⟩ := k x S' M' hQ C T'.heap (locs ++ LL) L (by rw [e1]; exact hHW) (by rw [e1]; exact hlo) h5 h4 T' rfl X'
  exact ⟨t2, st t2 a1, b1⟩
theorem g_callv0 {x : Nat} (hC : Ct Ω Y2 d mc ms κ (.ref x :: As) S M Q) (hd : ∃ idx, D3 Y.2.1 pc (.invokevirtual idx) pc' ∧ MLK Y.1.cls idx Y2) (hm : MOK Y2 As.length) (hv : MVI Y2) (hrec : Cx γ Ω Y → ∀ H : Heap, HW Ω S M H → (∀ q : Nat, q < bs Ω → H[q]? = Ω.2.1.heap[q]?) → ∃ cell : Cell, H[x]? = some cell ∧ cell.vm.isStatics = false ∧ (cS γ).vm.findClass Y2.1.cls = some cell.cls) (hs : st = As.reverse ++ (.ref x :: rest)) (hw : (rest.map fun v => v.category).sum ≤ 8)
    (hR : d + 1 ≤ (cR γ).frames ∧ 8 + (Y2.2.2.1 + 11) + 40 * d ≤ (cR γ).locals) (hf : cs + mc ≤ (cR γ).cells ∧ ss + ms ≤ (cR γ).slots) (k : ∀ x S' M', Q x S' M' → Go γ Ω Y Z (cs + mc) (ss + ms) S' M' pc' ls ((rk Ω κ x).toList ++ rest)) : Go γ Ω Y Z cs ss S M pc ls st := by
  obtain ⟨idx, ⟨hd, rfl⟩, hl⟩ := hd
  subst hs
  refine go_call (fun C H locs L h1 h2 hL => ⟨(Value.ref x :: As).toArray, ?_⟩) k
  have hts := C.2.2.2.2.1
  have hp : PreV (cS γ) H Y2.1.cls x (va_Pc (.ref x :: As) (Wd Ω S M)) As := ⟨blind, hrec C H h1 h2, fun U hU hW => ⟨rfl, wd_of C h1 h2 U hU hW⟩⟩
  rcases hl with hl | ⟨host, hl⟩
  · refine va_runV (nL := Y.2.2.1) (Ts := Ug) (own := Y.1.cls) (C := Y2.1.cls) ⟨C.1, C.2.1, C.2.2.1, C.2.2.2.1, hts⟩ hC (cwV As.length hts (ug_in fun w hw => ?_) rfl rfl rfl ⟨rfl, hm.2.2.1, hm.2.2.2.1, hm.2.2.2.2⟩ hR) hp rfl rfl hL rfl (lv_room hw) hd hf
    unfold wsV at hw
    simp only [List.cons_append, List.nil_append, List.mem_cons] at hw
    rcases hw with rfl | rfl | rfl | rfl | hw
    · exact hl
    · exact hv.1
    · exact hv.2
    · exact hm.2.1
    · exact wsM_in hm.1 w hw
  · exact va_runVN (nL := Y.2.2.1) (Ts := Ug) (own := Y.1.cls) (C := Y2.1.cls) ⟨C.1, C.2.1, C.2.2.1, C.2.2.2.1, hts⟩ hC ⟨va_cnB As.length hts (ug_in (wsM_in hm.1)) rfl rfl rfl (cx_NM C hl) (hts _ hm.2.1) ⟨hm.2.2.1, hm.2.2.2.1, hm.2.2.2.2⟩ hR, hts _ hv.1, hts _ hv.2⟩ hp rfl rfl hL rfl (lv_room hw) hd hf
theorem g_callv (hC : Ct Ω Y2 d mc ms κ (vr Ω r :: As) S M Q) (hd : ∃ idx, D3 Y.2.1 pc (.invokevirtual idx) pc' ∧ MLK Y.1.cls idx Y2) (hm : MOK Y2 As.length) (hv : MVI Y2) (hr : Ob S r c) (hcn : Y2.1.cls = cN c) (hs : st = As.reverse ++ (vr Ω r :: rest)) (hw : (rest.map fun v => v.category).sum ≤ 8)
    (hR : d + 1 ≤ (cR γ).frames ∧ 8 + (Y2.2.2.1 + 11) + 40 * d ≤ (cR γ).locals) (hf : cs + mc ≤ (cR γ).cells ∧ ss + ms ≤ (cR γ).slots) (k : ∀ x S' M', Q x S' M' → Go γ Ω Y Z (cs + mc) (ss + ms) S' M' pc' ls ((rk Ω κ x).toList ++ rest)) : Go γ Ω Y Z cs ss S M pc ls st :=
  g_callv0 hC hd hm hv (fun C H h1 h2 => by rw [hcn]; exact va_recv (cx_K C) h1.2.1 (cl_at hr.2.2) ((wsO_get hr.2.1).trans (by rw [cont_ob hr]))) hs hw hR hf k
theorem g_calls (hC : Ct Ω Y2 d mc ms κ As S M Q) (hd : ∃ idx, D3 Y.2.1 pc (.invokestatic idx) pc' ∧ MLK Y.1.cls idx Y2) (hm : MOK Y2 As.length) (hv : Cond.static Y2.1 ∈ Ug) (hs : st = As.reverse ++ rest) (hw : (rest.map fun v => v.category).sum ≤ 8)
    (hR : d + 1 ≤ (cR γ).frames ∧ 8 + (Y2.2.2.1 + 11) + 40 * d ≤ (cR γ).locals) (hf : cs + mc ≤ (cR γ).cells ∧ ss + ms ≤ (cR γ).slots) (k : ∀ x S' M', Q x S' M' → Go γ Ω Y Z (cs + mc) (ss + ms) S' M' pc' ls ((rk Ω κ x).toList ++ rest)) : Go γ Ω Y Z cs ss S M pc ls st := by
  obtain ⟨idx, ⟨hd, rfl⟩, hl⟩ := hd
  subst hs
  refine go_call (fun C H locs L h1 h2 hL => ⟨As.toArray, ?_⟩) k
  have hts := C.2.2.2.2.1
  have hp : PreS (cS γ) H (va_Pc As (Wd Ω S M)) As := ⟨blind, fun U hU hW => ⟨rfl, wd_of C h1 h2 U hU hW⟩⟩
  rcases hl with hl | ⟨host, hl⟩
  · refine va_runS (nL := Y.2.2.1) (Ts := Ug) (own := Y.1.cls) ⟨C.1, C.2.1, C.2.2.1, C.2.2.2.1, hts⟩ hC (va_cwS As.length hts (ug_in fun w hw => ?_) rfl rfl rfl ⟨hm.2.2.1, hm.2.2.2.1, hm.2.2.2.2⟩ hR) hp rfl rfl hL rfl (lv_room hw) hd hf
    unfold va_wsS at hw
    simp only [List.cons_append, List.nil_append, List.mem_cons] at hw
    rcases hw with rfl | rfl | rfl | hw
    · exact hl
    · exact hv
    · exact hm.2.1
    · exact wsM_in hm.1 w hw
  · exact va_runSN (nL := Y.2.2.1) (Ts := Ug) (own := Y.1.cls) ⟨C.1, C.2.1, C.2.2.1, C.2.2.2.1, hts⟩ hC ⟨va_cnB As.length hts (ug_in (wsM_in hm.1)) rfl rfl rfl (cx_NM C hl) (hts _ hm.2.1) ⟨hm.2.2.1, hm.2.2.2.1, hm.2.2.2.2⟩ hR, hts _ hv, trivial⟩ hp rfl rfl hL rfl (lv_room hw) hd hf
/-- a constructor -/
theorem g_calli (hC : Ct Ω Y2 d mc ms 0 (vr Ω r :: As) S M Q) (hd : ∃ idx, D3 Y.2.1 pc (.invokespecial idx) pc' ∧ MLK Y.1.cls idx Y2) (hm : MOK Y2 As.length) (hret : Y2.2.2.2 = none) (hy : Y2.1.name = "<init>") (hv : Cond.instanceMethod Y2.1 ∈ Ug) (hs : st = As.reverse ++ (vr Ω r :: rest)) (hw : (rest.map fun v => v.category).sum ≤ 8)
    (hR : d + 1 ≤ (cR γ).frames ∧ 8 + (Y2.2.2.1 + 11) + 40 * d ≤ (cR γ).locals) (hf : cs + mc ≤ (cR γ).cells ∧ ss + ms ≤ (cR γ).slots) (k : ∀ x S' M', Q x S' M' → Go γ Ω Y Z (cs + mc) (ss + ms) S' M' pc' ls rest) : Go γ Ω Y Z cs ss S M pc ls st := by
  obtain ⟨idx, ⟨hd, rfl⟩, hl⟩ := hd
  subst hs
  refine go_call (κ := 0) (fun C H locs L h1 h2 hL => ⟨(Value.ref (bs Ω + r) :: As).toArray, ?_⟩) k
  have hts := C.2.2.2.2.1
  have hp : PreS (cS γ) H (va_Pc (vr Ω r :: As) (Wd Ω S M)) (Value.ref (bs Ω + r) :: As) := ⟨blind, fun U hU hW => ⟨rfl, wd_of C h1 h2 U hU hW⟩⟩
  have hco := hm.1
  rw [hret] at hco
  have hwm : wsM Y2 = Cond.code Y2.1 Y2.2.1 Y2.2.2.1 none :: Ug := by unfold wsM; rw [hret]
  rcases hl with hl | ⟨host, hl⟩
  · exact va_runI (nL := Y.2.2.1) (Ts := Ug) (own := Y.1.cls) ⟨C.1, C.2.1, C.2.2.1, C.2.2.2.1, hts⟩ hC (cwI As.length hts (ug_in (wsM_in hm.1)) hwm rfl rfl (hts _ hm.2.1) (hts _ hl) (hts _ hv) hy ⟨hm.2.2.1, hm.2.2.2.1, hm.2.2.2.2⟩ hR) hp rfl rfl hL rfl (lv_room hw) hd hf
  · exact va_runIN (nL := Y.2.2.1) (Ts := Ug) (own := Y.1.cls) ⟨C.1, C.2.1, C.2.2.1, C.2.2.2.1, hts⟩ hC ⟨va_cnB As.length hts (ug_in (wsM_in hm.1)) hwm rfl rfl (cx_NM C hl) (hts _ hm.2.1) ⟨hm.2.2.1, hm.2.2.2.1, hm.2.2.2.2⟩ hR, hy, hts _ hv⟩ hp rfl rfl hL rfl (lv_room hw) hd hf
end GC
end
section
section GM
variable {γ : Cg} {Ω : Ow} {Y Y2 : Md} {Z : State → Prop} {cs ss : Nat} {S : Sg} {M : Mm} {pc pc' tgt : Nat} {ls : List (Option Value)} {st rest As : List Value} {a b z : Int} {r c j n i d mc ms κ : Nat} {v : Value} {Q : Int → Sg → Mm → Prop}
theorem g_ifnull (hd : DJ Y.2.1 pc .ifnull tgt) (hp : pc + 3 = pc') {x : Nat} (k : Go γ Ω Y Z cs ss S M pc' ls st) : Go γ Ω Y Z cs ss S M pc ls (.ref x :: st) := by
  obtain ⟨off, hd, ht⟩ := hd
  subst hp
  exact go_st (fun C H locs L k => lv_ifnull C.1 C.2.1 hd k) k
theorem g_ifnullN (hd : DJ Y.2.1 pc .ifnull tgt) (k : Go γ Ω Y Z cs ss S M tgt ls st) : Go γ Ω Y Z cs ss S M pc ls (.null :: st) := by
  obtain ⟨off, hd, ht⟩ := hd
  exact go_st (fun C H locs L k => lv_ifnullN C.1 C.2.1 hd ht k) k
theorem g_ifnn (hd : DJ Y.2.1 pc .ifnonnull tgt) {x : Nat} (k : Go γ Ω Y Z cs ss S M tgt ls st) : Go γ Ω Y Z cs ss S M pc ls (.ref x :: st) := by
  obtain ⟨off, hd, ht⟩ := hd
  exact go_st (fun C H locs L k => lv_ifnonnull C.1 C.2.1 hd ht k) k
theorem g_ifnnN (hd : DJ Y.2.1 pc .ifnonnull tgt) (hp : pc + 3 = pc') (k : Go γ Ω Y Z cs ss S M pc' ls st) : Go γ Ω Y Z cs ss S M pc ls (.null :: st) := by
  obtain ⟨off, hd, ht⟩ := hd
  subst hp
  exact go_st (fun C H locs L k => lv_ifnonnullN C.1 C.2.1 hd k) k
/-! switches -/
def CasG (γ : Cg) (Ω : Ow) (Y : Md) (Z : State → Prop) (cs ss : Nat) (S : Sg) (M : Mm) (ls : List (Option Value)) (st : List Value) (a : Int) : List (Int × Nat) → Prop
  | [] => True
  | q :: t => (a = q.1 → Go γ Ω Y Z cs ss S M q.2 ls st) ∧ CasG γ Ω Y Z cs ss S M ls st a t
theorem casN : CasG γ Ω Y Z cs ss S M ls st a [] := trivial
theorem casC {t : List (Int × Nat)} {q : Int} (k : a = q → Go γ Ω Y Z cs ss S M tgt ls st) (h : CasG γ Ω Y Z cs ss S M ls st a t) : CasG γ Ω Y Z cs ss S M ls st a ((q, tgt) :: t) := ⟨k, h⟩
theorem cas_get : ∀ {t : List (Int × Nat)}, CasG γ Ω Y Z cs ss S M ls st a t → ∀ q ∈ t, a = q.1 → Go γ Ω Y Z cs ss S M q.2 ls st := by
  intro t
  induction t with
  | nil => intro _ q h; cases h
  | cons x t ih =>
    intro h q hq e
    rcases List.mem_cons.mp hq with rfl | hq
    · exact h.1 e
    · exact ih h.2 q hq e
/-- a tableswitch: its cases, its default -/
def TB (cc : ByteArray) (pc : Nat) (cases : List (Int × Nat)) (dfl : Nat) : Prop := ∃ (d lo hi : Int) (offs : Array Int) (len : Nat), decode cc pc = .ok (.tableswitch d lo hi offs, len) ∧ (pc : Int) + d = (dfl : Int) ∧ hi = lo + cases.length - 1 ∧ ∀ i : Nat, i < cases.length → cases[i]? = some (lo + i, ((pc : Int) + offs.getD i 0).toNat) ∧ offs[i]? = some (offs.getD i 0) ∧ 0 ≤ (pc : Int) + offs.getD i 0
theorem g_tab {cases : List (Int × Nat)} {dfl : Nat} (f : TB Y.2.1 pc cases dfl) (ha : rg a) (kd : (∀ q ∈ cases, a ≠ q.1) → Go γ Ω Y Z cs ss S M dfl ls st) (ki : CasG γ Ω Y Z cs ss S M ls st a cases) : Go γ Ω Y Z cs ss S M pc ls (vi a :: st) := by
  obtain ⟨d, lo, hi, offs, len, hd, hdf, hhi, hall⟩ := f
  by_cases hin : lo ≤ a ∧ a ≤ hi
  · obtain ⟨i, hi0⟩ : ∃ i : Nat, a = lo + (i : Int) := ⟨(a - lo).toNat, by omega⟩
    have hil : i < cases.length := by omega
    obtain ⟨e1, e2, e3⟩ := hall i hil
    have kk := cas_get ki _ (List.mem_of_getElem? e1) hi0
    refine go_st (fun C H locs L k => lv_tableIn (tgt := ((pc : Int) + offs.getD i 0).toNat) (off := offs.getD i 0) C.1 C.2.1 hd (by rw [tI ha]; omega) (by rw [tI ha]; omega) ?_ (by omega) k) kk
    rw [tI ha, show (a - lo).toNat = i by omega]
    exact e2
  · refine go_st (fun C H locs L k => lv_tableOut C.1 C.2.1 hd (by rw [tI ha]; omega) hdf k) (kd fun q hq e => ?_)
    obtain ⟨i, hi0⟩ := List.getElem?_of_mem hq
    have hil := (List.getElem?_eq_some_iff.mp hi0).1
    have e1 := (hall i hil).1
    rw [hi0] at e1
    cases e1
    simp only at e
    omega
/-- a lookupswitch -/
def LK (cc : ByteArray) (pc : Nat) (cases : List (Int × Nat)) (dfl : Nat) : Prop := ∃ (d : Int) (ps : Array (Int × Int)) (len : Nat), decode cc pc = .ok (.lookupswitch d ps, len) ∧ (ps.toList.zip (ps.toList.drop 1)).all (fun (a, next) => a.1 < next.1) = true ∧ (pc : Int) + d = (dfl : Int) ∧ cases = ps.toList.map (fun q => (q.1, ((pc : Int) + q.2).toNat)) ∧ ps.toList.all (fun q => decide (0 ≤ (pc : Int) + q.2)) = true
theorem g_lk {cases : List (Int × Nat)} {dfl : Nat} (f : LK Y.2.1 pc cases dfl) (ha : rg a) (kd : (∀ q ∈ cases, a ≠ q.1) → Go γ Ω Y Z cs ss S M dfl ls st) (ki : CasG γ Ω Y Z cs ss S M ls st a cases) : Go γ Ω Y Z cs ss S M pc ls (vi a :: st) := by
  obtain ⟨d, ps, len, hd, hsorted, hdf, hcs, hpos⟩ := f
  have key : ∀ l : List (Int × Int), l.all (fun q => decide (0 ≤ (pc : Int) + q.2)) = true → (∃ q ∈ l, a = q.1 ∧ Op.lookupswitch.offset l d a = q.2 ∧ 0 ≤ (pc : Int) + q.2) ∨ ((∀ q ∈ l, a ≠ q.1) ∧ Op.lookupswitch.offset l d a = d) := by
    intro l
    induction l with
    | nil => intro _; exact Or.inr ⟨(fun q h => by cases h), rfl⟩
    | cons x t ih =>
      intro h
      simp only [List.all_cons, Bool.and_eq_true, decide_eq_true_eq] at h
      obtain ⟨x1, x2⟩ := x
      rw [Op.lookupswitch.offset_cons]
      by_cases hx : x1 = a
      · rw [if_pos hx]
        exact Or.inl ⟨_, List.mem_cons_self, hx.symm, rfl, h.1⟩
      · rw [if_neg hx]
        rcases ih h.2 with ⟨q, q1, q2⟩ | ⟨q1, q2⟩
        · exact Or.inl ⟨q, List.mem_cons_of_mem _ q1, q2⟩
        · refine Or.inr ⟨fun q hq => ?_, q2⟩
          rcases List.mem_cons.mp hq with rfl | hq
          · exact fun e => hx e.symm
          · exact q1 q hq
  rcases key ps.toList hpos with ⟨q, q1, q2, q3, q4⟩ | ⟨q1, q2⟩
  · have kk := cas_get ki (q.1, ((pc : Int) + q.2).toNat) (by rw [hcs]; exact List.mem_map.mpr ⟨q, q1, rfl⟩) q2
    exact go_st (fun C H locs L k => lv_lookup (tgt := ((pc : Int) + q.2).toNat) (off := q.2) C.1 C.2.1 hd hsorted (by rw [tI ha]; exact q3) (by omega) k) kk
  · refine go_st (fun C H locs L k => lv_lookup (off := d) C.1 C.2.1 hd hsorted (by rw [tI ha]; exact q2) hdf k) (kd fun q hq => ?_)
    rw [hcs] at hq
    obtain ⟨q', h1, rfl⟩ := List.mem_map.mp hq
    exact q1 q' h1
/-! Math.max, min -/
def MM (own : String) (cc : ByteArray) (pc pc' : Nat) (y : MethodName) (code : ByteArray) : Prop := ∃ idx, D3 cc pc (.invokestatic idx) pc' ∧ Cond.methodLink own idx y ∈ Ug ∧ Cond.static y ∈ Ug ∧ Cond.initialized "java/lang/Math" ∈ Ug ∧ Cond.code y code 2 (some .int) ∈ Ug
theorem g_max (hd : MM Y.1.cls Y.2.1 pc pc' Lib.Math.max.name Lib.Math.max.code) (ha : rg a) (hb : rg b) (hR : 1 ≤ (cR γ).frames ∧ (st.map fun v => v.category).sum + 13 ≤ (cR γ).locals) (hf : cs ≤ (cR γ).cells ∧ ss ≤ (cR γ).slots) (k : Go γ Ω Y Z cs ss S M pc' ls (vi (max a b) :: st)) : Go γ Ω Y Z cs ss S M pc ls (vi b :: vi a :: st) := by
  obtain ⟨idx, ⟨hd, rfl⟩, w1, w2, w3, w4⟩ := hd
  intro C H locs L h1 h2 h3 h4
  refine va_mmax C.1 C.2.1 (C.2.2.1.trans h4.1.symm) C.2.2.2.1 (C.2.2.2.2.1 _ w1) (C.2.2.2.2.1 _ w2) (C.2.2.2.2.1 _ w3) (C.2.2.2.2.1 _ w4) hR.1 hR.2 hf.1 hf.2 hd ?_
  have e : (if Int32.ofInt a < Int32.ofInt b then Int32.ofInt b else Int32.ofInt a) = Int32.ofInt (max a b) := by
    by_cases h : a < b
    · rw [if_pos ((oI_lt ha hb).mpr h), show max a b = b by omega]
    · rw [if_neg (fun q => h ((oI_lt ha hb).mp q)), show max a b = a by omega]
  rw [e]
  exact k C H locs L h1 h2 h3 h4
theorem g_min (hd : MM Y.1.cls Y.2.1 pc pc' Lib.Math.min.name Lib.Math.min.code) (ha : rg a) (hb : rg b) (hR : 1 ≤ (cR γ).frames ∧ (st.map fun v => v.category).sum + 13 ≤ (cR γ).locals) (hf : cs ≤ (cR γ).cells ∧ ss ≤ (cR γ).slots) (k : Go γ Ω Y Z cs ss S M pc' ls (vi (min a b) :: st)) : Go γ Ω Y Z cs ss S M pc ls (vi b :: vi a :: st) := by
  obtain ⟨idx, ⟨hd, rfl⟩, w1, w2, w3, w4⟩ := hd
  intro C H locs L h1 h2 h3 h4
  refine va_mmin C.1 C.2.1 (C.2.2.1.trans h4.1.symm) C.2.2.2.1 (C.2.2.2.2.1 _ w1) (C.2.2.2.2.1 _ w2) (C.2.2.2.2.1 _ w3) (C.2.2.2.2.1 _ w4) hR.1 hR.2 hf.1 hf.2 hd ?_
  have e : (if Int32.ofInt b < Int32.ofInt a then Int32.ofInt b else Int32.ofInt a) = Int32.ofInt (min a b) := by
    by_cases h : b < a
    · rw [if_pos ((oI_lt hb ha).mpr h), show min a b = b by omega]
    · rw [if_neg (fun q => h ((oI_lt hb ha).mp q)), show min a b = a by omega]
  rw [e]
  exact k C H locs L h1 h2 h3 h4
/-! System.arraycopy -/
def cpM (M : Mm) (r0 sp r1 dp n : Nat) : Mm := fun k j => if k = r1 ∧ dp ≤ j ∧ j < dp + n then M r0 (sp + (j - dp)) else M k j
theorem cpM_row {M : Mm} {r0 sp r1 dp n k : Nat} (h : k ≠ r1) : cpM M r0 sp r1 dp n k = M k := by funext i; simp [cpM, h]
def AC (own : String) (cc : ByteArray) (pc pc' : Nat) : Prop := ∃ idx, D3 cc pc (.invokestatic idx) pc' ∧ Cond.methodLink own idx arraycopyName ∈ Ug ∧ Cond.native arraycopyName ∈ Ug ∧ Cond.static arraycopyName ∈ Ug ∧ Cond.initialized "java/lang/System" ∈ Ug
theorem hw_cp {H H1 : Heap} {r0 r1 sp dp n1 c : Nat} (hW : HW Ω S M H) (hr : Ar S r1 c n1) (hP : va_P Ω.2.2.1 vwCl ((wsO Ω S M).set r1 (bs Ω + r1, .inl (Ω.2.2.1.1 c, arr Ω S (cpM M r0 sp r1 dp n) r1 c n1))) H1) (hz : H1.size = H.size) : HW Ω S (cpM M r0 sp r1 dp n) H1 := by
  refine ⟨hz.trans hW.1, ?_, fun k hk j => ⟨?_, (hW.2.2 k hk j).2⟩⟩
  · rw [wsO_set hr.2.1 rfl (cont_ar (M := cpM M r0 sp r1 dp n) hr) (fun k hk => cont_eq (cpM_row hk) rfl)] at hP
    exact hP
  · have hne : k ≠ r1 := by have := hr.2.1; omega
    rw [cpM_row hne]
    exact (hW.2.2 k hk j).1
theorem g_acopyI {r0 r1 sp dp n0 n1 : Nat} (hd : AC Y.1.cls Y.2.1 pc pc') (hr0 : Ar S r0 12 n0) (hr1 : Ar S r1 12 n1) (h4 : sp + n ≤ n0) (h5 : dp + n ≤ n1) (hR : 1 ≤ (cR γ).frames ∧ (st.map fun v => v.category).sum + (nativeFrameWords "java/lang/System" "arraycopy" 5 + 11) ≤ (cR γ).locals) (hz : (cS γ).heap.size + cs ≤ bs Ω + S.1) (k : Go γ Ω Y Z cs ss S (cpM M r0 sp r1 dp n) pc' ls st) : Go γ Ω Y Z cs ss S M pc ls (vi (n : Int) :: vi (dp : Int) :: vr Ω r1 :: vi (sp : Int) :: vr Ω r0 :: st) := by
  obtain ⟨idx, ⟨hd, rfl⟩, w1, w2, w3, w4⟩ := hd
  intro C H locs L a1 a2 a3 a4
  have hn0 := ar_le hr0
  have hn1 := ar_le hr1
  have cl : ∀ j : Nat, j ≤ 1000 → (Int32.ofInt (j : Int)).toNatClampNeg = j := fun j hj => clamp (by omega)
  have nn : ∀ j : Nat, j ≤ 1000 → ¬ Int32.ofInt (j : Int) < 0 := fun j hj => by rw [zI, oI_lt (by omega) (by omega)]; omega
  refine va_copyi (A := Lo Ω) (H0 := H) C.1 C.2.1 (C.2.2.1.trans a4.1.symm) C.2.2.2.1 (C.2.2.2.2.1 _ w1) (C.2.2.2.2.1 _ w2) (C.2.2.2.2.1 _ w3) (C.2.2.2.2.1 _ w4) (cx_K C) a1.2.1 wsO_D ⟨Nat.le_refl _, fun _ _ _ => rfl, a3⟩ r0 r1 1 1 (f := fun j => Int32.ofInt (M r0 j)) (g := fun j => Int32.ofInt (M r1 j)) (n0 := n0) (n1 := n1) ((wsO_get hr0.2.1).trans (by rw [cont_ar hr0]; rfl)) ((wsO_get hr1.2.1).trans (by rw [cont_ar hr1]; rfl)) rfl rfl rfl (nn _ (by omega)) (nn _ (by omega)) (nn _ (by omega)) (by rw [cl _ (by omega), cl _ (by omega)]; exact h4) (by rw [cl _ (by omega), cl _ (by omega)]; exact h5) (fun i _ => rfl) hR.1 hR.2 hd fun H1 locs1 hP hD hS => ?_
  intro T hT X
  have hsz : H1.size = H.size := by
    have e1 := X.heapSize
    rw [hT] at e1
    have e2 := hS.1
    have e3 := a1.1
    omega
  refine k C H1 locs1 L (hw_cp (r0 := r0) (sp := sp) (dp := dp) (n := n) a1 hr1 ?_ hsz) (fun q hq => (hS.2.1 q (by rw [a1.1]; omega) (by show ¬ bs Ω ≤ q; omega)).trans (a2 q hq)) hS.2.2 a4 T hT X
  have e : (arr Ω S (cpM M r0 sp r1 dp n) r1 12 n1) = (n1, .inl (va_cpy (fun j => Int32.ofInt (M r0 j)) (fun j => Int32.ofInt (M r1 j)) (Int32.ofInt (sp : Int)).toNatClampNeg (Int32.ofInt (dp : Int)).toNatClampNeg (Int32.ofInt (n : Int)).toNatClampNeg)) := by
    rw [cl _ (by omega), cl _ (by omega), cl _ (by omega)]
    show (n1, _) = (n1, _)
    congr 2
    funext j
    unfold cpM va_cpy
    by_cases h : dp ≤ j ∧ j < dp + n
    · rw [if_pos ⟨rfl, h⟩, if_pos h]
    · rw [if_neg (fun q => h q.2), if_neg h]
  rw [e]
  exact hP
theorem g_acopyL {r0 r1 sp dp n0 n1 : Nat} (hd : AC Y.1.cls Y.2.1 pc pc') (hr0 : Ar S r0 13 n0) (hr1 : Ar S r1 13 n1) (h4 : sp + n ≤ n0) (h5 : dp + n ≤ n1) (hR : 1 ≤ (cR γ).frames ∧ (st.map fun v => v.category).sum + (nativeFrameWords "java/lang/System" "arraycopy" 5 + 11) ≤ (cR γ).locals) (hz : (cS γ).heap.size + cs ≤ bs Ω + S.1) (k : Go γ Ω Y Z cs ss S (cpM M r0 sp r1 dp n) pc' ls st) : Go γ Ω Y Z cs ss S M pc ls (vi (n : Int) :: vi (dp : Int) :: vr Ω r1 :: vi (sp : Int) :: vr Ω r0 :: st) := by
  obtain ⟨idx, ⟨hd, rfl⟩, w1, w2, w3, w4⟩ := hd
  intro C H locs L a1 a2 a3 a4
  have hn0 := ar_le hr0
  have hn1 := ar_le hr1
  have cl : ∀ j : Nat, j ≤ 1000 → (Int32.ofInt (j : Int)).toNatClampNeg = j := fun j hj => clamp (by omega)
  have nn : ∀ j : Nat, j ≤ 1000 → ¬ Int32.ofInt (j : Int) < 0 := fun j hj => by rw [zI, oI_lt (by omega) (by omega)]; omega
  refine va_copyl (A := Lo Ω) (H0 := H) C.1 C.2.1 (C.2.2.1.trans a4.1.symm) C.2.2.2.1 (C.2.2.2.2.1 _ w1) (C.2.2.2.2.1 _ w2) (C.2.2.2.2.1 _ w3) (C.2.2.2.2.1 _ w4) (cx_K C) a1.2.1 wsO_D ⟨Nat.le_refl _, fun _ _ _ => rfl, a3⟩ r0 r1 2 2 (f := fun j => Int64.ofInt (M r0 j)) (g := fun j => Int64.ofInt (M r1 j)) (n0 := n0) (n1 := n1) ((wsO_get hr0.2.1).trans (by rw [cont_ar hr0]; rfl)) ((wsO_get hr1.2.1).trans (by rw [cont_ar hr1]; rfl)) rfl rfl rfl (nn _ (by omega)) (nn _ (by omega)) (nn _ (by omega)) (by rw [cl _ (by omega), cl _ (by omega)]; exact h4) (by rw [cl _ (by omega), cl _ (by omega)]; exact h5) (fun i _ => rfl) hR.1 hR.2 hd fun H1 locs1 hP hD hS => ?_
  intro T hT X
  have hsz : H1.size = H.size := by
    have e1 := X.heapSize
    rw [hT] at e1
    have e2 := hS.1
    have e3 := a1.1
    omega
  refine k C H1 locs1 L (hw_cp (r0 := r0) (sp := sp) (dp := dp) (n := n) a1 hr1 ?_ hsz) (fun q hq => (hS.2.1 q (by rw [a1.1]; omega) (by show ¬ bs Ω ≤ q; omega)).trans (a2 q hq)) hS.2.2 a4 T hT X
  have e : (arr Ω S (cpM M r0 sp r1 dp n) r1 13 n1) = (n1, .inr (.inl (va_cpy (fun j => Int64.ofInt (M r0 j)) (fun j => Int64.ofInt (M r1 j)) (Int32.ofInt (sp : Int)).toNatClampNeg (Int32.ofInt (dp : Int)).toNatClampNeg (Int32.ofInt (n : Int)).toNatClampNeg))) := by
    rw [cl _ (by omega), cl _ (by omega), cl _ (by omega)]
    show (n1, _) = (n1, _)
    congr 3
    funext j
    unfold cpM va_cpy
    by_cases h : dp ≤ j ∧ j < dp + n
    · rw [if_pos ⟨rfl, h⟩, if_pos h]
    · rw [if_neg (fun q => h q.2), if_neg h]
  rw [e]
  exact hP
end GM
end
section
section GS
variable {γ : Cg} {Ω : Ow} {Y Y2 : Md} {Z : State → Prop} {cs ss : Nat} {S : Sg} {M : Mm} {pc pc' tgt : Nat} {ls : List (Option Value)} {st rest As : List Value} {a b z : Int} {r c j n i d mc ms κ : Nat} {v : Value} {Q : Int → Sg → Mm → Prop}
/-! constants: the table of KINDS above, Strings -/
theorem cx_fx (C : Cx γ Ω Y) : Fx Ω := C.2.2.2.2.2.2.2.2.1
theorem cx_al (C : Cx γ Ω Y) : Ω.2.1.vm.Alike (cS γ).vm := C.2.2.2.2.2.2.2.2.2.1.alike
theorem cx_lo (C : Cx γ Ω Y) : ∀ q : Nat, q < Ω.2.1.heap.size → ¬ Lo Ω q → (cS γ).heap[q]? = Ω.2.1.heap[q]? := fun q _ h => C.2.2.2.2.2.2.2.2.2.2 q (Nat.lt_of_not_le h)
/-- the world below stands -/
theorem vaS_lo (C : Cx γ Ω Y) {H : Heap} {locs : List Loc} (h1 : HW Ω S M H) (h2 : ∀ q : Nat, q < bs Ω → H[q]? = Ω.2.1.heap[q]?) (h3 : ∀ q ∈ locs, bs Ω ≤ q.base) (hz : (cS γ).heap.size ≤ bs Ω + S.1) : va_S (Lo Ω) (cS γ).heap H locs := ⟨by rw [h1.1]; exact hz, fun q _ h => by rw [h2 q (Nat.lt_of_not_le h), C.2.2.2.2.2.2.2.2.2.2 q (Nat.lt_of_not_le h)], h3⟩
theorem g_kabS (hz : (cS γ).heap.size ≤ bs Ω + S.1) (hd : ∃ (idx : Nat) (host : String), D3 Y.2.1 pc (.getstatic idx) pc' ∧ Cond.fieldLinkNest Y.1.cls idx RX9 "KIND_ABOVE" "[I" host ∈ nestW) (k : Go γ Ω Y Z cs ss S M pc' ls (.ref (ka Ω 0) :: st)) : Go γ Ω Y Z cs ss S M pc ls st := by
  obtain ⟨idx, host, ⟨hd, rfl⟩, hl⟩ := hd
  exact fun C H locs L h1 h2 h3 h4 => va_getsN C.1 C.2.1 (((cx_fx C).2.2.1.moved (cx_al C)).kept (cx_lo C)) (vaS_lo C h1 h2 h3 hz) C.2.2.2.1 (cx_N C hl) (fun _ h => h) hd (k C H locs L h1 h2 h3 h4)
theorem g_kab (hz : (cS γ).heap.size ≤ bs Ω + S.1) (hd : D1 Y.2.1 pc .iaload pc') (hj : j < 7) (k : Go γ Ω Y Z cs ss S M pc' ls (vi (kAb.getD j 0) :: st)) : Go γ Ω Y Z cs ss S M pc ls (vi (j : Int) :: .ref (ka Ω 0) :: st) := by
  obtain ⟨hd, rfl⟩ := hd
  exact fun C H locs L h1 h2 h3 h4 => va_ti (i := Int32.ofInt (j : Int)) C.1 C.2.1 (((cx_fx C).2.2.2.1.moved (cx_al C)).kept (cx_lo C)) (vaS_lo C h1 h2 h3 hz) (vin hj (by decide)) (by rw [clamp (by omega)]) hd (k C H locs L h1 h2 h3 h4)
/-- String.COMPACT_STRINGS is true -/
theorem g_compact (hz : (cS γ).heap.size ≤ bs Ω + S.1) (hd : ∃ idx : Nat, D3 Y.2.1 pc (.getstatic idx) pc' ∧ Cond.fieldLink Y.1.cls idx "java/lang/String" "COMPACT_STRINGS" "Z" ∈ Ug) (k : Go γ Ω Y Z cs ss S M pc' ls (vi 1 :: st)) : Go γ Ω Y Z cs ss S M pc ls st := by
  obtain ⟨idx, ⟨hd, rfl⟩, hl⟩ := hd
  exact fun C H locs L h1 h2 h3 h4 => va_gets C.1 C.2.1 (((cx_fx C).2.2.2.2.1.moved (cx_al C)).kept (cx_lo C)) (vaS_lo C h1 h2 h3 hz) C.2.2.2.1 (C.2.2.2.2.1 _ hl) (fun _ h => h) hd (by have h := k C H locs L h1 h2 h3 h4; rw [vi1] at h; exact h)
/-- the formatter of refusals: null, or something -/
theorem g_siob (hz : (cS γ).heap.size ≤ bs Ω + S.1) (hd : ∃ idx : Nat, D3 Y.2.1 pc (.getstatic idx) pc' ∧ Cond.fieldLink Y.1.cls idx "jdk/internal/util/Preconditions" "SIOOBE_FORMATTER" "Ljava/util/function/BiFunction;" ∈ Ug) (k : ∀ v : Value, (v = .null ∨ ∃ x, v = .ref x) → Go γ Ω Y Z cs ss S M pc' ls (v :: st)) : Go γ Ω Y Z cs ss S M pc ls st := by
  obtain ⟨idx, ⟨hd, rfl⟩, hl⟩ := hd
  intro C H locs L h1 h2 h3 h4
  rcases ((cx_fx C).2.2.2.2.2.1.moved (cx_al C)).kept (cx_lo C) with hz0 | ⟨t, hz0⟩
  · exact va_gets C.1 C.2.1 hz0 (vaS_lo C h1 h2 h3 hz) C.2.2.2.1 (C.2.2.2.2.1 _ hl) (fun _ h => h) hd (k _ (Or.inl rfl) C H locs L h1 h2 h3 h4)
  · exact va_gets C.1 C.2.1 hz0 (vaS_lo C h1 h2 h3 hz) C.2.2.2.1 (C.2.2.2.2.1 _ hl) (fun _ h => h) hd (k _ (Or.inr ⟨_, rfl⟩) C H locs L h1 h2 h3 h4)
theorem cx_str (C : Cx γ Ω Y) (hi : i < 9) : Fs Ω i Ω.2.1 Ω.2.1.heap := (cx_fx C).2.2.2.2.2.2.1 i hi
theorem g_ldcS (hi : i < 9) (hd : D2 Y.2.1 pc (.ldc (sc i).2.1) pc') (ho : (sc i).1 = Y.1.cls) (k : Go γ Ω Y Z cs ss S M pc' ls (.ref (ka Ω (1 + i)) :: st)) : Go γ Ω Y Z cs ss S M pc ls st := by
  obtain ⟨hd, rfl⟩ := hd
  exact fun C H locs L h1 h2 h3 h4 => va_ldcS C.1 C.2.1 C.2.2.2.1 (by have h := (cx_str C hi).1.warm C.2.2.2.2.2.2.2.2.2.1; rw [ho] at h; exact h) hd (k C H locs L h1 h2 h3 h4)
theorem g_sval (hz : (cS γ).heap.size ≤ bs Ω + S.1) (hi : i < 9) (hd : ∃ idx : Nat, D3 Y.2.1 pc (.getfield idx) pc' ∧ Cond.fieldLink Y.1.cls idx "java/lang/String" "value" "[B" ∈ Ug) (k : Go γ Ω Y Z cs ss S M pc' ls (.ref (ka Ω (20 + i)) :: st)) : Go γ Ω Y Z cs ss S M pc ls (.ref (ka Ω (1 + i)) :: st) := by
  obtain ⟨idx, ⟨hd, rfl⟩, hl⟩ := hd
  exact fun C H locs L h1 h2 h3 h4 => vk_getf C.1 C.2.1 (((cx_str C hi).2.2.2.1.moved (cx_al C)).kept (cx_lo C)) (vaS_lo C h1 h2 h3 hz) C.2.2.2.1 (C.2.2.2.2.1 _ hl) (fun _ h => h) hd (k C H locs L h1 h2 h3 h4)
theorem g_scod (hz : (cS γ).heap.size ≤ bs Ω + S.1) (hi : i < 9) (hd : ∃ idx : Nat, D3 Y.2.1 pc (.getfield idx) pc' ∧ Cond.fieldLink Y.1.cls idx "java/lang/String" "coder" "B" ∈ Ug) (k : Go γ Ω Y Z cs ss S M pc' ls (vi 0 :: st)) : Go γ Ω Y Z cs ss S M pc ls (.ref (ka Ω (1 + i)) :: st) := by
  obtain ⟨idx, ⟨hd, rfl⟩, hl⟩ := hd
  exact fun C H locs L h1 h2 h3 h4 => vk_getf C.1 C.2.1 (((cx_str C hi).2.2.1.moved (cx_al C)).kept (cx_lo C)) (vaS_lo C h1 h2 h3 hz) C.2.2.2.1 (C.2.2.2.2.1 _ hl) (fun _ h => h) hd (by have h := k C H locs L h1 h2 h3 h4; rw [vi0] at h; exact h)
theorem g_slen (hz : (cS γ).heap.size ≤ bs Ω + S.1) (hi : i < 9) (hd : D1 Y.2.1 pc .arraylength pc') (k : Go γ Ω Y Z cs ss S M pc' ls (vi ((sc i).2.2.2.length : Int) :: st)) : Go γ Ω Y Z cs ss S M pc ls (.ref (ka Ω (20 + i)) :: st) := by
  obtain ⟨hd, rfl⟩ := hd
  exact fun C H locs L h1 h2 h3 h4 => va_tlen C.1 C.2.1 (((cx_str C hi).2.2.2.2.moved (cx_al C)).kept (cx_lo C)) (vaS_lo C h1 h2 h3 hz) (Int32.ofInt_eq_ofNat).symm hd (k C H locs L h1 h2 h3 h4)
theorem g_sald (hz : (cS γ).heap.size ≤ bs Ω + S.1) (hi : i < 9) (hd : D1 Y.2.1 pc .baload pc') (hj : j < (sc i).2.2.2.length) (hl : (sc i).2.2.2.length ≤ 1000) (k : Go γ Ω Y Z cs ss S M pc' ls (vi ((sc i).2.2.2.getD j 0) :: st)) : Go γ Ω Y Z cs ss S M pc ls (vi (j : Int) :: .ref (ka Ω (20 + i)) :: st) := by
  obtain ⟨hd, rfl⟩ := hd
  exact fun C H locs L h1 h2 h3 h4 => va_tb (i := Int32.ofInt (j : Int)) C.1 C.2.1 (((cx_str C hi).2.2.2.2.moved (cx_al C)).kept (cx_lo C)) (vaS_lo C h1 h2 h3 hz) (vin hj hl) (by rw [clamp (by omega)]) hd (k C H locs L h1 h2 h3 h4)
/-- a String as a receiver -/
theorem str_rec (hi : i < 9) (hcls : Y2.1.cls = "java/lang/String") : Cx γ Ω Y → ∀ H : Heap, HW Ω S M H → (∀ q : Nat, q < bs Ω → H[q]? = Ω.2.1.heap[q]?) → ∃ cell : Cell, H[ka Ω (1 + i)]? = some cell ∧ cell.vm.isStatics = false ∧ (cS γ).vm.findClass Y2.1.cls = some cell.cls := by
  intro C H h1 h2
  obtain ⟨cell, e1, e2, e3, e4⟩ := (cx_str C hi).2.1.moved (cx_al C)
  exact ⟨cell, by rw [h2 _ (Nat.lt_of_not_le e4)]; exact e1, e2, by rw [hcls]; exact e3⟩
end GS
end
section
/-! the words of the tables that are used, by their places (written by wip/whole/gen/emit_facts.py) -/
theorem w_0 : Cond.selects "WitnessPays$Law" ⟨"WitnessPays$Law", "holds", "(II)Z"⟩ ⟨"WitnessPays$Law", "holds", "(II)Z"⟩ ∈ Ug := ugm 0 (by decide +kernel) (by decide +kernel)
theorem w_1 : Cond.selects "WitnessPays$Street" ⟨"WitnessPays$Street", "lookBy", "(LWitnessPays$Person;)V"⟩ ⟨"WitnessPays$Street", "lookBy", "(LWitnessPays$Person;)V"⟩ ∈ Ug := ugm 1 (by decide +kernel) (by decide +kernel)
theorem w_2 : Cond.selects "WitnessPays$Street" ⟨"WitnessPays$Street", "seersBehind", "(II)I"⟩ ⟨"WitnessPays$Street", "seersBehind", "(II)I"⟩ ∈ Ug := ugm 2 (by decide +kernel) (by decide +kernel)
theorem w_3 : Cond.selects "WitnessPays$LawText" ⟨"WitnessPays$LawText", "readClause", "()Z"⟩ ⟨"WitnessPays$LawText", "readClause", "()Z"⟩ ∈ Ug := ugm 3 (by decide +kernel) (by decide +kernel)
theorem w_4 : Cond.selects "WitnessPays$LawText" ⟨"WitnessPays$LawText", "readWord", "()I"⟩ ⟨"WitnessPays$LawText", "readWord", "()I"⟩ ∈ Ug := ugm 4 (by decide +kernel) (by decide +kernel)
theorem w_5 : Cond.selects "WitnessPays$LawText" ⟨"WitnessPays$LawText", "take", "(C)Z"⟩ ⟨"WitnessPays$LawText", "take", "(C)Z"⟩ ∈ Ug := ugm 5 (by decide +kernel) (by decide +kernel)
theorem w_6 : Cond.selects "WitnessPays$LawText" ⟨"WitnessPays$LawText", "readNumber", "()I"⟩ ⟨"WitnessPays$LawText", "readNumber", "()I"⟩ ∈ Ug := ugm 6 (by decide +kernel) (by decide +kernel)
theorem w_7 : Cond.selects "WitnessPays$LawText" ⟨"WitnessPays$LawText", "takeAnyOf", "(Ljava/lang/String;)I"⟩ ⟨"WitnessPays$LawText", "takeAnyOf", "(Ljava/lang/String;)I"⟩ ∈ Ug := ugm 7 (by decide +kernel) (by decide +kernel)
theorem w_8 : Cond.selects "WitnessPays$LawText" ⟨"WitnessPays$LawText", "readEither", "(I)Z"⟩ ⟨"WitnessPays$LawText", "readEither", "(I)Z"⟩ ∈ Ug := ugm 8 (by decide +kernel) (by decide +kernel)
theorem w_9 : Cond.selects "WitnessPays$LawText" ⟨"WitnessPays$LawText", "readBoth", "(I)Z"⟩ ⟨"WitnessPays$LawText", "readBoth", "(I)Z"⟩ ∈ Ug := ugm 9 (by decide +kernel) (by decide +kernel)
theorem w_10 : Cond.selects "WitnessPays$LawText" ⟨"WitnessPays$LawText", "readFactor", "(I)Z"⟩ ⟨"WitnessPays$LawText", "readFactor", "(I)Z"⟩ ∈ Ug := ugm 10 (by decide +kernel) (by decide +kernel)
theorem w_11 : Cond.selects "WitnessPays$Street" ⟨"WitnessPays$Street", "paidBy", "(I)I"⟩ ⟨"WitnessPays$Street", "paidBy", "(I)I"⟩ ∈ Ug := ugm 11 (by decide +kernel) (by decide +kernel)
theorem w_12 : Cond.selects "WitnessPays" ⟨"WitnessPays", "isPlanRow", "(II)Z"⟩ ⟨"WitnessPays", "isPlanRow", "(II)Z"⟩ ∈ Ug := ugm 12 (by decide +kernel) (by decide +kernel)
theorem w_13 : Cond.selects "WitnessPays" ⟨"WitnessPays", "tapeOf", "(I)LWitnessPays$Tape;"⟩ ⟨"WitnessPays", "tapeOf", "(I)LWitnessPays$Tape;"⟩ ∈ Ug := ugm 13 (by decide +kernel) (by decide +kernel)
theorem w_14 : Cond.selects "WitnessPays$Actor" ⟨"WitnessPays$Actor", "looks", "(II)I"⟩ ⟨"WitnessPays$Actor", "looks", "(II)I"⟩ ∈ Ug := ugm 14 (by decide +kernel) (by decide +kernel)
theorem w_15 : Cond.selects "WitnessPays$Actor" ⟨"WitnessPays$Actor", "begin", "(I)V"⟩ ⟨"WitnessPays$Actor", "begin", "(I)V"⟩ ∈ Ug := ugm 15 (by decide +kernel) (by decide +kernel)
theorem w_16 : Cond.selects "WitnessPays$Actor" ⟨"WitnessPays$Actor", "swears", "(II)I"⟩ ⟨"WitnessPays$Actor", "swears", "(II)I"⟩ ∈ Ug := ugm 16 (by decide +kernel) (by decide +kernel)
theorem w_17 : Cond.selects "WitnessPays$Actor" ⟨"WitnessPays$Actor", "tells", "(II)I"⟩ ⟨"WitnessPays$Actor", "tells", "(II)I"⟩ ∈ Ug := ugm 17 (by decide +kernel) (by decide +kernel)
theorem w_18 : Cond.selects "WitnessPaysModel" ⟨"WitnessPaysModel", "isOne", "(I)Z"⟩ ⟨"WitnessPaysModel", "isOne", "(I)Z"⟩ ∈ Ug := ugm 18 (by decide +kernel) (by decide +kernel)
theorem w_19 : Cond.selects "WitnessPaysModel" ⟨"WitnessPaysModel", "reach", "(I)I"⟩ ⟨"WitnessPaysModel", "reach", "(I)I"⟩ ∈ Ug := ugm 19 (by decide +kernel) (by decide +kernel)
theorem w_20 : Cond.selects "WitnessPaysModel" ⟨"WitnessPaysModel", "sum", "(I)I"⟩ ⟨"WitnessPaysModel", "sum", "(I)I"⟩ ∈ Ug := ugm 20 (by decide +kernel) (by decide +kernel)
theorem w_21 : Cond.selects "WitnessPaysModel" ⟨"WitnessPaysModel", "isTrue", "(II)Z"⟩ ⟨"WitnessPaysModel", "isTrue", "(II)Z"⟩ ∈ Ug := ugm 21 (by decide +kernel) (by decide +kernel)
theorem w_22 : Cond.selects "WitnessPaysModel" ⟨"WitnessPaysModel", "letterOf", "(II)I"⟩ ⟨"WitnessPaysModel", "letterOf", "(II)I"⟩ ∈ Ug := ugm 22 (by decide +kernel) (by decide +kernel)
theorem w_23 : Cond.selects "WitnessPaysModel" ⟨"WitnessPaysModel", "sight", "(I)I"⟩ ⟨"WitnessPaysModel", "sight", "(I)I"⟩ ∈ Ug := ugm 23 (by decide +kernel) (by decide +kernel)
theorem w_24 : Cond.selects "WitnessPaysModel" ⟨"WitnessPaysModel", "isWall", "(I)Z"⟩ ⟨"WitnessPaysModel", "isWall", "(I)Z"⟩ ∈ Ug := ugm 24 (by decide +kernel) (by decide +kernel)
theorem w_25 : Cond.selects "WitnessPaysModel" ⟨"WitnessPaysModel", "shun", "(I)I"⟩ ⟨"WitnessPaysModel", "shun", "(I)I"⟩ ∈ Ug := ugm 25 (by decide +kernel) (by decide +kernel)
theorem w_26 : Cond.selects "WitnessPaysModel" ⟨"WitnessPaysModel", "alone", "(I)I"⟩ ⟨"WitnessPaysModel", "alone", "(I)I"⟩ ∈ Ug := ugm 26 (by decide +kernel) (by decide +kernel)
theorem w_27 : Cond.selects "WitnessPaysModel" ⟨"WitnessPaysModel", "seers", "(I)I"⟩ ⟨"WitnessPaysModel", "seers", "(I)I"⟩ ∈ Ug := ugm 27 (by decide +kernel) (by decide +kernel)
theorem w_28 : Cond.selects "WitnessPaysModel" ⟨"WitnessPaysModel", "isClause", "(I)Z"⟩ ⟨"WitnessPaysModel", "isClause", "(I)Z"⟩ ∈ Ug := ugm 28 (by decide +kernel) (by decide +kernel)
theorem w_29 : Cond.selects "WitnessPaysModel" ⟨"WitnessPaysModel", "isAll", "(Ljava/lang/String;)Z"⟩ ⟨"WitnessPaysModel", "isAll", "(Ljava/lang/String;)Z"⟩ ∈ Ug := ugm 29 (by decide +kernel) (by decide +kernel)
theorem w_30 : Cond.selects "WitnessPaysModel" ⟨"WitnessPaysModel", "is", "(I)Z"⟩ ⟨"WitnessPaysModel", "is", "(I)Z"⟩ ∈ Ug := ugm 30 (by decide +kernel) (by decide +kernel)
theorem w_31 : Cond.selects "WitnessPaysModel" ⟨"WitnessPaysModel", "isNumber", "()Z"⟩ ⟨"WitnessPaysModel", "isNumber", "()Z"⟩ ∈ Ug := ugm 31 (by decide +kernel) (by decide +kernel)
theorem w_32 : Cond.selects "WitnessPaysModel" ⟨"WitnessPaysModel", "isDigit", "()Z"⟩ ⟨"WitnessPaysModel", "isDigit", "()Z"⟩ ∈ Ug := ugm 32 (by decide +kernel) (by decide +kernel)
theorem w_33 : Cond.selects "WitnessPaysModel" ⟨"WitnessPaysModel", "isE", "()Z"⟩ ⟨"WitnessPaysModel", "isE", "()Z"⟩ ∈ Ug := ugm 33 (by decide +kernel) (by decide +kernel)
theorem w_34 : Cond.selects "WitnessPaysModel" ⟨"WitnessPaysModel", "isT", "()Z"⟩ ⟨"WitnessPaysModel", "isT", "()Z"⟩ ∈ Ug := ugm 34 (by decide +kernel) (by decide +kernel)
theorem w_35 : Cond.selects "WitnessPaysModel" ⟨"WitnessPaysModel", "isF", "()Z"⟩ ⟨"WitnessPaysModel", "isF", "()Z"⟩ ∈ Ug := ugm 35 (by decide +kernel) (by decide +kernel)
theorem w_36 : Cond.selects "WitnessPaysModel" ⟨"WitnessPaysModel", "isOpened", "(I)Z"⟩ ⟨"WitnessPaysModel", "isOpened", "(I)Z"⟩ ∈ Ug := ugm 36 (by decide +kernel) (by decide +kernel)
theorem w_37 : Cond.selects "WitnessPaysModel" ⟨"WitnessPaysModel", "codes", "(I)Z"⟩ ⟨"WitnessPaysModel", "codes", "(I)Z"⟩ ∈ Ug := ugm 37 (by decide +kernel) (by decide +kernel)
theorem w_38 : Cond.selects "WitnessPaysModel" ⟨"WitnessPaysModel", "isTest", "()Z"⟩ ⟨"WitnessPaysModel", "isTest", "()Z"⟩ ∈ Ug := ugm 38 (by decide +kernel) (by decide +kernel)
theorem w_39 : Cond.selects "WitnessPaysModel" ⟨"WitnessPaysModel", "pays", "(I)I"⟩ ⟨"WitnessPaysModel", "pays", "(I)I"⟩ ∈ Ug := ugm 39 (by decide +kernel) (by decide +kernel)
theorem w_40 : Cond.selects "WitnessPaysModel" ⟨"WitnessPaysModel", "fine", "()I"⟩ ⟨"WitnessPaysModel", "fine", "()I"⟩ ∈ Ug := ugm 40 (by decide +kernel) (by decide +kernel)
theorem w_41 : Cond.selects "WitnessPaysModel" ⟨"WitnessPaysModel", "done", "(I)V"⟩ ⟨"WitnessPaysModel", "done", "(I)V"⟩ ∈ Ug := ugm 41 (by decide +kernel) (by decide +kernel)
theorem w_42 : Cond.selects "WitnessPaysModel" ⟨"WitnessPaysModel", "allPurses", "()I"⟩ ⟨"WitnessPaysModel", "allPurses", "()I"⟩ ∈ Ug := ugm 42 (by decide +kernel) (by decide +kernel)
theorem w_43 : Cond.selects "WitnessPaysModel" ⟨"WitnessPaysModel", "hidden", "(I)I"⟩ ⟨"WitnessPaysModel", "hidden", "(I)I"⟩ ∈ Ug := ugm 43 (by decide +kernel) (by decide +kernel)
theorem w_44 : Cond.selects "WitnessPaysModel" ⟨"WitnessPaysModel", "mostly", "(I)I"⟩ ⟨"WitnessPaysModel", "mostly", "(I)I"⟩ ∈ Ug := ugm 44 (by decide +kernel) (by decide +kernel)
theorem w_45 : Cond.selects "WitnessPaysModel" ⟨"WitnessPaysModel", "goesDay", "()V"⟩ ⟨"WitnessPaysModel", "goesDay", "()V"⟩ ∈ Ug := ugm 45 (by decide +kernel) (by decide +kernel)
theorem w_46 : Cond.selects "WitnessPaysModel" ⟨"WitnessPaysModel", "when", "(I)I"⟩ ⟨"WitnessPaysModel", "when", "(I)I"⟩ ∈ Ug := ugm 46 (by decide +kernel) (by decide +kernel)
theorem w_47 : Cond.selects "WitnessPaysModel" ⟨"WitnessPaysModel", "keep", "([I)V"⟩ ⟨"WitnessPaysModel", "keep", "([I)V"⟩ ∈ Ug := ugm 47 (by decide +kernel) (by decide +kernel)
theorem w_48 : Cond.selects "WitnessPaysModel" ⟨"WitnessPaysModel", "again", "([I)V"⟩ ⟨"WitnessPaysModel", "again", "([I)V"⟩ ∈ Ug := ugm 48 (by decide +kernel) (by decide +kernel)
theorem w_49 : Cond.selects "WitnessPaysModel" ⟨"WitnessPaysModel", "bricks", "(I)I"⟩ ⟨"WitnessPaysModel", "bricks", "(I)I"⟩ ∈ Ug := ugm 49 (by decide +kernel) (by decide +kernel)
theorem w_50 : Cond.selects "WitnessPaysModel" ⟨"WitnessPaysModel", "wrongBy", "(I)I"⟩ ⟨"WitnessPaysModel", "wrongBy", "(I)I"⟩ ∈ Ug := ugm 50 (by decide +kernel) (by decide +kernel)
theorem w_51 : Cond.selects "WitnessPaysModel" ⟨"WitnessPaysModel", "looks", "(III)I"⟩ ⟨"WitnessPaysModel", "looks", "(III)I"⟩ ∈ Ug := ugm 51 (by decide +kernel) (by decide +kernel)
theorem w_52 : Cond.selects "WitnessPaysModel" ⟨"WitnessPaysModel", "ran", "(I)V"⟩ ⟨"WitnessPaysModel", "ran", "(I)V"⟩ ∈ Ug := ugm 52 (by decide +kernel) (by decide +kernel)
theorem w_53 : Cond.selects "WitnessPaysModel" ⟨"WitnessPaysModel", "swears", "(III)I"⟩ ⟨"WitnessPaysModel", "swears", "(III)I"⟩ ∈ Ug := ugm 53 (by decide +kernel) (by decide +kernel)
theorem w_54 : Cond.selects "WitnessPaysModel" ⟨"WitnessPaysModel", "tells", "(III)I"⟩ ⟨"WitnessPaysModel", "tells", "(III)I"⟩ ∈ Ug := ugm 54 (by decide +kernel) (by decide +kernel)
theorem w_56 : Cond.initialized "WitnessPays" ∈ Ug := ug1 1 (by decide +kernel) (by decide +kernel)
theorem w_57 : Cond.initialized "WitnessPays$LawText" ∈ Ug := ug1 2 (by decide +kernel) (by decide +kernel)
theorem w_58 : Cond.initialized "WitnessPays$Law" ∈ Ug := ug1 3 (by decide +kernel) (by decide +kernel)
theorem w_59 : Cond.initialized "java/lang/String" ∈ Ug := ug1 4 (by decide +kernel) (by decide +kernel)
theorem w_60 : Cond.initialized "WitnessPays$Actor" ∈ Ug := ug1 5 (by decide +kernel) (by decide +kernel)
theorem w_61 : Cond.initialized "WitnessPays$Scene" ∈ Ug := ug1 6 (by decide +kernel) (by decide +kernel)
theorem w_62 : Cond.initialized "WitnessPays$Table" ∈ Ug := ug1 7 (by decide +kernel) (by decide +kernel)
theorem w_63 : Cond.initialized "WitnessPays$Street" ∈ Ug := ug1 8 (by decide +kernel) (by decide +kernel)
theorem w_64 : Cond.initialized "WitnessPays$Person" ∈ Ug := ug1 9 (by decide +kernel) (by decide +kernel)
theorem w_65 : Cond.initialized "WitnessPays$WhatIf" ∈ Ug := ug1 10 (by decide +kernel) (by decide +kernel)
theorem w_66 : Cond.initialized "WitnessPays$Tape" ∈ Ug := ug1 11 (by decide +kernel) (by decide +kernel)
theorem w_67 : Cond.initialized "WitnessPaysModel" ∈ Ug := ug1 12 (by decide +kernel) (by decide +kernel)
theorem w_68 : Cond.initialized "java/lang/Integer" ∈ Ug := ug1 13 (by decide +kernel) (by decide +kernel)
theorem w_69 : Cond.initialized "java/lang/Math" ∈ Ug := ug1 14 (by decide +kernel) (by decide +kernel)
theorem w_70 : Cond.initialized "java/lang/System" ∈ Ug := ug1 15 (by decide +kernel) (by decide +kernel)
theorem w_71 : Cond.initialized "java/lang/StringLatin1" ∈ Ug := ug1 16 (by decide +kernel) (by decide +kernel)
theorem w_73 : Cond.initialized "jdk/internal/util/Preconditions" ∈ Ug := ug1 18 (by decide +kernel) (by decide +kernel)
theorem w_75 : Cond.classLink "WitnessPaysLaw" 7 "WitnessPays" ∈ Ug := ug1 20 (by decide +kernel) (by decide +kernel)
theorem w_76 : Cond.instantiable "WitnessPays" 8 ∈ Ug := ug1 21 (by decide +kernel) (by decide +kernel)
theorem w_77 : Cond.methodLink "WitnessPaysLaw" 9 ⟨"WitnessPays", "<init>", "()V"⟩ ∈ Ug := ug1 22 (by decide +kernel) (by decide +kernel)
theorem w_78 : Cond.instanceMethod ⟨"WitnessPays", "<init>", "()V"⟩ ∈ Ug := ug1 23 (by decide +kernel) (by decide +kernel)
theorem w_79 : Cond.code ⟨"WitnessPays", "<init>", "()V"⟩ prog_1_method_1_code 3 (Option.none : Option FieldType) ∈ Ug := ug1 24 (by decide +kernel) (by decide +kernel)
theorem w_80 : Cond.methodLink "WitnessPays" 5 ⟨"java/lang/Object", "<init>", "()V"⟩ ∈ Ug := ug1 25 (by decide +kernel) (by decide +kernel)
theorem w_81 : Cond.instanceMethod ⟨"java/lang/Object", "<init>", "()V"⟩ ∈ Ug := ug1 26 (by decide +kernel) (by decide +kernel)
theorem w_82 : Cond.code ⟨"java/lang/Object", "<init>", "()V"⟩ object_method_1_code 1 (Option.none : Option FieldType) ∈ Ug := ug1 27 (by decide +kernel) (by decide +kernel)
theorem w_83 : Cond.classLink "WitnessPays" 11 "WitnessPays$LawText" ∈ Ug := ug1 28 (by decide +kernel) (by decide +kernel)
theorem w_84 : Cond.instantiable "WitnessPays$LawText" 4 ∈ Ug := ug1 29 (by decide +kernel) (by decide +kernel)
theorem nw_85 : Cond.methodLinkNest "WitnessPays" 13 ⟨"WitnessPays$LawText", "<init>", "()V"⟩ "WitnessPays" ∈ nestW := nw1 30 (by decide +kernel) (by decide +kernel)
theorem w_86 : Cond.instanceMethod ⟨"WitnessPays$LawText", "<init>", "()V"⟩ ∈ Ug := ug1 31 (by decide +kernel) (by decide +kernel)
theorem w_87 : Cond.code ⟨"WitnessPays$LawText", "<init>", "()V"⟩ prog_4_method_1_code 1 (Option.none : Option FieldType) ∈ Ug := ug1 32 (by decide +kernel) (by decide +kernel)
theorem w_88 : Cond.methodLink "WitnessPays$LawText" 3 ⟨"java/lang/Object", "<init>", "()V"⟩ ∈ Ug := ug1 33 (by decide +kernel) (by decide +kernel)
theorem w_89 : Cond.classLink "WitnessPays$LawText" 15 "WitnessPays$Law" ∈ Ug := ug1 34 (by decide +kernel) (by decide +kernel)
theorem w_90 : Cond.instantiable "WitnessPays$Law" 8 ∈ Ug := ug1 35 (by decide +kernel) (by decide +kernel)
theorem nw_91 : Cond.methodLinkNest "WitnessPays$LawText" 17 ⟨"WitnessPays$Law", "<init>", "()V"⟩ "WitnessPays" ∈ nestW := nw1 36 (by decide +kernel) (by decide +kernel)
theorem w_92 : Cond.instanceMethod ⟨"WitnessPays$Law", "<init>", "()V"⟩ ∈ Ug := ug1 37 (by decide +kernel) (by decide +kernel)
theorem w_93 : Cond.code ⟨"WitnessPays$Law", "<init>", "()V"⟩ prog_3_method_1_code 1 (Option.none : Option FieldType) ∈ Ug := ug1 38 (by decide +kernel) (by decide +kernel)
theorem w_94 : Cond.methodLink "WitnessPays$Law" 3 ⟨"java/lang/Object", "<init>", "()V"⟩ ∈ Ug := ug1 39 (by decide +kernel) (by decide +kernel)
theorem w_96 : Cond.methodLink "WitnessPays$Law" 30 ⟨"java/lang/String", "length", "()I"⟩ ∈ Ug := ug1 41 (by decide +kernel) (by decide +kernel)
theorem w_97 : Cond.instanceMethod ⟨"java/lang/String", "length", "()I"⟩ ∈ Ug := ug1 42 (by decide +kernel) (by decide +kernel)
theorem w_98 : Cond.selects "java/lang/String" ⟨"java/lang/String", "length", "()I"⟩ ⟨"java/lang/String", "length", "()I"⟩ ∈ Ug := ug1 43 (by decide +kernel) (by decide +kernel)
theorem w_99 : Cond.code ⟨"java/lang/String", "length", "()I"⟩ prog_16_method_54_code 1 (Option.some FieldType.int) ∈ Ug := ug1 44 (by decide +kernel) (by decide +kernel)
theorem w_100 : Cond.methodLink "java/lang/String" 335 ⟨"java/lang/String", "coder", "()B"⟩ ∈ Ug := ug1 45 (by decide +kernel) (by decide +kernel)
theorem w_101 : Cond.instanceMethod ⟨"java/lang/String", "coder", "()B"⟩ ∈ Ug := ug1 46 (by decide +kernel) (by decide +kernel)
theorem w_102 : Cond.selects "java/lang/String" ⟨"java/lang/String", "coder", "()B"⟩ ⟨"java/lang/String", "coder", "()B"⟩ ∈ Ug := ug1 47 (by decide +kernel) (by decide +kernel)
theorem w_103 : Cond.code ⟨"java/lang/String", "coder", "()B"⟩ prog_16_method_152_code 1 (Option.some FieldType.byte) ∈ Ug := ug1 48 (by decide +kernel) (by decide +kernel)
theorem w_104 : Cond.fieldLink "java/lang/String" 38 "java/lang/String" "COMPACT_STRINGS" "Z" ∈ Ug := ug1 49 (by decide +kernel) (by decide +kernel)
theorem w_106 : Cond.fieldLink "WitnessPays$Law" 9 "WitnessPays$Law" "fine" "I" ∈ Ug := ug1 51 (by decide +kernel) (by decide +kernel)
theorem nw_107 : Cond.fieldLinkNest "WitnessPays" 137 "WitnessPays$Law" "fine" "I" "WitnessPays" ∈ nestW := nw1 52 (by decide +kernel) (by decide +kernel)
theorem nw_108 : Cond.fieldLinkNest "WitnessPays$Street" 110 "WitnessPays$Law" "fine" "I" "WitnessPays" ∈ nestW := nw1 53 (by decide +kernel) (by decide +kernel)
theorem w_109 : Cond.fieldLink "WitnessPays$Law" 39 "WitnessPays$Law" "clauses" "I" ∈ Ug := ug1 54 (by decide +kernel) (by decide +kernel)
theorem w_110 : Cond.fieldLink "WitnessPays$Law" 15 "WitnessPays$Law" "word" "[I" ∈ Ug := ug1 55 (by decide +kernel) (by decide +kernel)
theorem w_111 : Cond.fieldLink "WitnessPays$Law" 19 "WitnessPays$Law" "amount" "[I" ∈ Ug := ug1 56 (by decide +kernel) (by decide +kernel)
theorem w_112 : Cond.fieldLink "WitnessPays$Law" 22 "WitnessPays$Law" "end" "[I" ∈ Ug := ug1 57 (by decide +kernel) (by decide +kernel)
theorem w_113 : Cond.fieldLink "WitnessPays$Law" 42 "WitnessPays$Law" "steps" "I" ∈ Ug := ug1 58 (by decide +kernel) (by decide +kernel)
theorem w_114 : Cond.fieldLink "WitnessPays$Law" 25 "WitnessPays$Law" "step" "[I" ∈ Ug := ug1 59 (by decide +kernel) (by decide +kernel)
theorem w_115 : Cond.fieldLink "WitnessPays$Law" 36 "WitnessPays$Law" "subject" "[I" ∈ Ug := ug1 60 (by decide +kernel) (by decide +kernel)
theorem w_133 : Cond.arrayClass FieldType.byte ∈ Ug := ug1 78 (by decide +kernel) (by decide +kernel)
theorem w_134 : Cond.arrayClass FieldType.int ∈ Ug := ug1 79 (by decide +kernel) (by decide +kernel)
theorem w_135 : Cond.fieldLink "WitnessPays$LawText" 9 "WitnessPays$LawText" "signs" "[B" ∈ Ug := ug1 80 (by decide +kernel) (by decide +kernel)
theorem w_136 : Cond.fieldLink "WitnessPays$LawText" 22 "WitnessPays$LawText" "length" "I" ∈ Ug := ug1 81 (by decide +kernel) (by decide +kernel)
theorem nw_137 : Cond.fieldLinkNest "WitnessPays" 270 "WitnessPays$LawText" "length" "I" "WitnessPays" ∈ nestW := nw1 82 (by decide +kernel) (by decide +kernel)
theorem w_138 : Cond.fieldLink "WitnessPays$LawText" 26 "WitnessPays$LawText" "at" "I" ∈ Ug := ug1 83 (by decide +kernel) (by decide +kernel)
theorem nw_139 : Cond.fieldLinkNest "WitnessPays" 127 "WitnessPays$LawText" "at" "I" "WitnessPays" ∈ nestW := nw1 84 (by decide +kernel) (by decide +kernel)
theorem w_140 : Cond.fieldLink "WitnessPays$LawText" 18 "WitnessPays$LawText" "draft" "LWitnessPays$Law;" ∈ Ug := ug1 85 (by decide +kernel) (by decide +kernel)
theorem w_150 : Cond.classLink "WitnessPays" 18 "WitnessPays$Actor" ∈ Ug := ug1 95 (by decide +kernel) (by decide +kernel)
theorem w_151 : Cond.instantiable "WitnessPays$Actor" 5 ∈ Ug := ug1 96 (by decide +kernel) (by decide +kernel)
theorem nw_152 : Cond.methodLinkNest "WitnessPays" 20 ⟨"WitnessPays$Actor", "<init>", "()V"⟩ "WitnessPays" ∈ nestW := nw1 97 (by decide +kernel) (by decide +kernel)
theorem w_153 : Cond.instanceMethod ⟨"WitnessPays$Actor", "<init>", "()V"⟩ ∈ Ug := ug1 98 (by decide +kernel) (by decide +kernel)
theorem w_154 : Cond.code ⟨"WitnessPays$Actor", "<init>", "()V"⟩ prog_2_method_1_code 1 (Option.none : Option FieldType) ∈ Ug := ug1 99 (by decide +kernel) (by decide +kernel)
theorem w_155 : Cond.methodLink "WitnessPays$Actor" 3 ⟨"java/lang/Object", "<init>", "()V"⟩ ∈ Ug := ug1 100 (by decide +kernel) (by decide +kernel)
theorem w_156 : Cond.fieldLink "WitnessPays$Actor" 9 "WitnessPays$Actor" "bodies" "[I" ∈ Ug := ug1 101 (by decide +kernel) (by decide +kernel)
theorem nw_157 : Cond.fieldLinkNest "WitnessPays" 264 "WitnessPays$Actor" "bodies" "[I" "WitnessPays" ∈ nestW := nw1 102 (by decide +kernel) (by decide +kernel)
theorem w_158 : Cond.fieldLink "WitnessPays$Actor" 15 "WitnessPays$Actor" "ran" "I" ∈ Ug := ug1 103 (by decide +kernel) (by decide +kernel)
theorem nw_159 : Cond.fieldLinkNest "WitnessPays" 261 "WitnessPays$Actor" "ran" "I" "WitnessPays" ∈ nestW := nw1 104 (by decide +kernel) (by decide +kernel)
theorem w_160 : Cond.fieldLink "WitnessPays$Actor" 24 "WitnessPays$Actor" "number" "I" ∈ Ug := ug1 105 (by decide +kernel) (by decide +kernel)
theorem w_161 : Cond.fieldLink "WitnessPays$Actor" 28 "WitnessPays$Actor" "v" "I" ∈ Ug := ug1 106 (by decide +kernel) (by decide +kernel)
theorem w_162 : Cond.fieldLink "WitnessPays$Actor" 32 "WitnessPays$Actor" "kind" "I" ∈ Ug := ug1 107 (by decide +kernel) (by decide +kernel)
theorem w_174 : Cond.classLink "WitnessPays" 25 "WitnessPays$Tape" ∈ Ug := ug1 119 (by decide +kernel) (by decide +kernel)
theorem w_176 : Cond.classLink "WitnessPays" 31 "WitnessPays$Law" ∈ Ug := ug1 121 (by decide +kernel) (by decide +kernel)
theorem nw_177 : Cond.methodLinkNest "WitnessPays" 33 ⟨"WitnessPays$Law", "<init>", "()V"⟩ "WitnessPays" ∈ nestW := nw1 122 (by decide +kernel) (by decide +kernel)
theorem w_178 : Cond.classLink "WitnessPays" 34 "WitnessPays$Scene" ∈ Ug := ug1 123 (by decide +kernel) (by decide +kernel)
theorem w_179 : Cond.instantiable "WitnessPays$Scene" 4 ∈ Ug := ug1 124 (by decide +kernel) (by decide +kernel)
theorem w_180 : Cond.methodLink "WitnessPays" 36 ⟨"WitnessPays$Scene", "<init>", "(LWitnessPays$Law;)V"⟩ ∈ Ug := ug1 125 (by decide +kernel) (by decide +kernel)
theorem w_181 : Cond.instanceMethod ⟨"WitnessPays$Scene", "<init>", "(LWitnessPays$Law;)V"⟩ ∈ Ug := ug1 126 (by decide +kernel) (by decide +kernel)
theorem w_182 : Cond.code ⟨"WitnessPays$Scene", "<init>", "(LWitnessPays$Law;)V"⟩ prog_6_method_1_code 2 (Option.none : Option FieldType) ∈ Ug := ug1 127 (by decide +kernel) (by decide +kernel)
theorem w_183 : Cond.methodLink "WitnessPays$Scene" 3 ⟨"java/lang/Object", "<init>", "()V"⟩ ∈ Ug := ug1 128 (by decide +kernel) (by decide +kernel)
theorem w_184 : Cond.classLink "WitnessPays$Scene" 9 "WitnessPays$Table" ∈ Ug := ug1 129 (by decide +kernel) (by decide +kernel)
theorem w_185 : Cond.instantiable "WitnessPays$Table" 3 ∈ Ug := ug1 130 (by decide +kernel) (by decide +kernel)
theorem w_186 : Cond.methodLink "WitnessPays$Scene" 11 ⟨"WitnessPays$Table", "<init>", "(I)V"⟩ ∈ Ug := ug1 131 (by decide +kernel) (by decide +kernel)
theorem w_187 : Cond.instanceMethod ⟨"WitnessPays$Table", "<init>", "(I)V"⟩ ∈ Ug := ug1 132 (by decide +kernel) (by decide +kernel)
theorem w_188 : Cond.code ⟨"WitnessPays$Table", "<init>", "(I)V"⟩ prog_8_method_1_code 2 (Option.none : Option FieldType) ∈ Ug := ug1 133 (by decide +kernel) (by decide +kernel)
theorem w_189 : Cond.methodLink "WitnessPays$Table" 3 ⟨"java/lang/Object", "<init>", "()V"⟩ ∈ Ug := ug1 134 (by decide +kernel) (by decide +kernel)
theorem w_190 : Cond.fieldLink "WitnessPays$Table" 15 "WitnessPays$Table" "cells" "[I" ∈ Ug := ug1 135 (by decide +kernel) (by decide +kernel)
theorem w_191 : Cond.fieldLink "WitnessPays$Table" 9 "WitnessPays$Table" "most" "I" ∈ Ug := ug1 136 (by decide +kernel) (by decide +kernel)
theorem w_192 : Cond.fieldLink "WitnessPays$Table" 19 "WitnessPays$Table" "rows" "I" ∈ Ug := ug1 137 (by decide +kernel) (by decide +kernel)
theorem nw_193 : Cond.fieldLinkNest "WitnessPays$WhatIf" 51 "WitnessPays$Table" "rows" "I" "WitnessPays" ∈ nestW := nw1 138 (by decide +kernel) (by decide +kernel)
theorem nw_194 : Cond.fieldLinkNest "WitnessPays" 220 "WitnessPays$Table" "rows" "I" "WitnessPays" ∈ nestW := nw1 139 (by decide +kernel) (by decide +kernel)
theorem w_202 : Cond.classLink "WitnessPays$Scene" 26 "WitnessPays$Street" ∈ Ug := ug1 147 (by decide +kernel) (by decide +kernel)
theorem w_203 : Cond.instantiable "WitnessPays$Street" 5 ∈ Ug := ug1 148 (by decide +kernel) (by decide +kernel)
theorem w_204 : Cond.methodLink "WitnessPays$Scene" 28 ⟨"WitnessPays$Street", "<init>", "(LWitnessPays$Law;)V"⟩ ∈ Ug := ug1 149 (by decide +kernel) (by decide +kernel)
theorem w_205 : Cond.instanceMethod ⟨"WitnessPays$Street", "<init>", "(LWitnessPays$Law;)V"⟩ ∈ Ug := ug1 150 (by decide +kernel) (by decide +kernel)
theorem w_206 : Cond.code ⟨"WitnessPays$Street", "<init>", "(LWitnessPays$Law;)V"⟩ prog_7_method_1_code 3 (Option.none : Option FieldType) ∈ Ug := ug1 151 (by decide +kernel) (by decide +kernel)
theorem w_207 : Cond.methodLink "WitnessPays$Street" 3 ⟨"java/lang/Object", "<init>", "()V"⟩ ∈ Ug := ug1 152 (by decide +kernel) (by decide +kernel)
theorem w_208 : Cond.classLink "WitnessPays$Street" 9 "WitnessPays$Person" ∈ Ug := ug1 153 (by decide +kernel) (by decide +kernel)
theorem w_210 : Cond.instantiable "WitnessPays$Person" 8 ∈ Ug := ug1 155 (by decide +kernel) (by decide +kernel)
theorem w_211 : Cond.methodLink "WitnessPays$Street" 21 ⟨"WitnessPays$Person", "<init>", "(I)V"⟩ ∈ Ug := ug1 156 (by decide +kernel) (by decide +kernel)
theorem w_212 : Cond.instanceMethod ⟨"WitnessPays$Person", "<init>", "(I)V"⟩ ∈ Ug := ug1 157 (by decide +kernel) (by decide +kernel)
theorem w_213 : Cond.code ⟨"WitnessPays$Person", "<init>", "(I)V"⟩ prog_5_method_1_code 2 (Option.none : Option FieldType) ∈ Ug := ug1 158 (by decide +kernel) (by decide +kernel)
theorem w_214 : Cond.methodLink "WitnessPays$Person" 3 ⟨"java/lang/Object", "<init>", "()V"⟩ ∈ Ug := ug1 159 (by decide +kernel) (by decide +kernel)
theorem w_215 : Cond.fieldLink "WitnessPays$Person" 15 "WitnessPays$Person" "number" "I" ∈ Ug := ug1 160 (by decide +kernel) (by decide +kernel)
theorem nw_216 : Cond.fieldLinkNest "WitnessPays$Actor" 19 "WitnessPays$Person" "number" "I" "WitnessPays" ∈ nestW := nw1 161 (by decide +kernel) (by decide +kernel)
theorem nw_217 : Cond.fieldLinkNest "WitnessPays$Law" 45 "WitnessPays$Person" "number" "I" "WitnessPays" ∈ nestW := nw1 162 (by decide +kernel) (by decide +kernel)
theorem nw_218 : Cond.fieldLinkNest "WitnessPays$Street" 90 "WitnessPays$Person" "number" "I" "WitnessPays" ∈ nestW := nw1 163 (by decide +kernel) (by decide +kernel)
theorem w_219 : Cond.fieldLink "WitnessPays$Person" 19 "WitnessPays$Person" "kind" "I" ∈ Ug := ug1 164 (by decide +kernel) (by decide +kernel)
theorem nw_220 : Cond.fieldLinkNest "WitnessPays$Actor" 29 "WitnessPays$Person" "kind" "I" "WitnessPays" ∈ nestW := nw1 165 (by decide +kernel) (by decide +kernel)
theorem nw_221 : Cond.fieldLinkNest "WitnessPays" 76 "WitnessPays$Person" "kind" "I" "WitnessPays" ∈ nestW := nw1 166 (by decide +kernel) (by decide +kernel)
theorem nw_222 : Cond.fieldLinkNest "WitnessPays$Law" 50 "WitnessPays$Person" "kind" "I" "WitnessPays" ∈ nestW := nw1 167 (by decide +kernel) (by decide +kernel)
theorem nw_223 : Cond.fieldLinkNest "WitnessPays$Street" 113 "WitnessPays$Person" "kind" "I" "WitnessPays" ∈ nestW := nw1 168 (by decide +kernel) (by decide +kernel)
theorem w_224 : Cond.fieldLink "WitnessPays$Person" 22 "WitnessPays$Person" "v" "I" ∈ Ug := ug1 169 (by decide +kernel) (by decide +kernel)
theorem nw_225 : Cond.fieldLinkNest "WitnessPays$Actor" 25 "WitnessPays$Person" "v" "I" "WitnessPays" ∈ nestW := nw1 170 (by decide +kernel) (by decide +kernel)
theorem nw_226 : Cond.fieldLinkNest "WitnessPays" 82 "WitnessPays$Person" "v" "I" "WitnessPays" ∈ nestW := nw1 171 (by decide +kernel) (by decide +kernel)
theorem nw_227 : Cond.fieldLinkNest "WitnessPays$Law" 53 "WitnessPays$Person" "v" "I" "WitnessPays" ∈ nestW := nw1 172 (by decide +kernel) (by decide +kernel)
theorem nw_228 : Cond.fieldLinkNest "WitnessPays$WhatIf" 60 "WitnessPays$Person" "v" "I" "WitnessPays" ∈ nestW := nw1 173 (by decide +kernel) (by decide +kernel)
theorem w_229 : Cond.fieldLink "WitnessPays$Person" 25 "WitnessPays$Person" "place" "I" ∈ Ug := ug1 174 (by decide +kernel) (by decide +kernel)
theorem nw_230 : Cond.fieldLinkNest "WitnessPays$WhatIf" 28 "WitnessPays$Person" "place" "I" "WitnessPays" ∈ nestW := nw1 175 (by decide +kernel) (by decide +kernel)
theorem nw_231 : Cond.fieldLinkNest "WitnessPays" 85 "WitnessPays$Person" "place" "I" "WitnessPays" ∈ nestW := nw1 176 (by decide +kernel) (by decide +kernel)
theorem nw_232 : Cond.fieldLinkNest "WitnessPays$Law" 56 "WitnessPays$Person" "place" "I" "WitnessPays" ∈ nestW := nw1 177 (by decide +kernel) (by decide +kernel)
theorem w_233 : Cond.fieldLink "WitnessPays$Person" 28 "WitnessPays$Person" "purse" "I" ∈ Ug := ug1 178 (by decide +kernel) (by decide +kernel)
theorem nw_234 : Cond.fieldLinkNest "WitnessPays" 88 "WitnessPays$Person" "purse" "I" "WitnessPays" ∈ nestW := nw1 179 (by decide +kernel) (by decide +kernel)
theorem nw_235 : Cond.fieldLinkNest "WitnessPays$Law" 59 "WitnessPays$Person" "purse" "I" "WitnessPays" ∈ nestW := nw1 180 (by decide +kernel) (by decide +kernel)
theorem nw_236 : Cond.fieldLinkNest "WitnessPays$Street" 101 "WitnessPays$Person" "purse" "I" "WitnessPays" ∈ nestW := nw1 181 (by decide +kernel) (by decide +kernel)
theorem w_237 : Cond.fieldLink "WitnessPays$Person" 31 "WitnessPays$Person" "gone" "Z" ∈ Ug := ug1 182 (by decide +kernel) (by decide +kernel)
theorem nw_238 : Cond.fieldLinkNest "WitnessPays" 91 "WitnessPays$Person" "gone" "Z" "WitnessPays" ∈ nestW := nw1 183 (by decide +kernel) (by decide +kernel)
theorem nw_239 : Cond.fieldLinkNest "WitnessPays$Street" 46 "WitnessPays$Person" "gone" "Z" "WitnessPays" ∈ nestW := nw1 184 (by decide +kernel) (by decide +kernel)
theorem w_240 : Cond.fieldLink "WitnessPays$Person" 9 "WitnessPays$Person" "row" "[I" ∈ Ug := ug1 185 (by decide +kernel) (by decide +kernel)
theorem nw_241 : Cond.fieldLinkNest "WitnessPays" 112 "WitnessPays$Person" "row" "[I" "WitnessPays" ∈ nestW := nw1 186 (by decide +kernel) (by decide +kernel)
theorem w_242 : Cond.fieldLink "WitnessPays$Person" 57 "WitnessPays$Person" "eye" "I" ∈ Ug := ug1 187 (by decide +kernel) (by decide +kernel)
theorem nw_243 : Cond.fieldLinkNest "WitnessPays$Street" 70 "WitnessPays$Person" "eye" "I" "WitnessPays" ∈ nestW := nw1 188 (by decide +kernel) (by decide +kernel)
theorem w_261 : Cond.fieldLink "WitnessPays$Street" 11 "WitnessPays$Street" "people" "[LWitnessPays$Person;" ∈ Ug := ug1 206 (by decide +kernel) (by decide +kernel)
theorem w_262 : Cond.fieldLink "WitnessPays$Street" 24 "WitnessPays$Street" "count" "I" ∈ Ug := ug1 207 (by decide +kernel) (by decide +kernel)
theorem nw_263 : Cond.fieldLinkNest "WitnessPays" 198 "WitnessPays$Street" "count" "I" "WitnessPays" ∈ nestW := nw1 208 (by decide +kernel) (by decide +kernel)
theorem w_264 : Cond.fieldLink "WitnessPays$Street" 28 "WitnessPays$Street" "walls" "I" ∈ Ug := ug1 209 (by decide +kernel) (by decide +kernel)
theorem nw_265 : Cond.fieldLinkNest "WitnessPays" 109 "WitnessPays$Street" "walls" "I" "WitnessPays" ∈ nestW := nw1 210 (by decide +kernel) (by decide +kernel)
theorem nw_266 : Cond.fieldLinkNest "WitnessPays$WhatIf" 66 "WitnessPays$Street" "walls" "I" "WitnessPays" ∈ nestW := nw1 211 (by decide +kernel) (by decide +kernel)
theorem w_267 : Cond.fieldLink "WitnessPays$Street" 31 "WitnessPays$Street" "day" "I" ∈ Ug := ug1 212 (by decide +kernel) (by decide +kernel)
theorem nw_268 : Cond.fieldLinkNest "WitnessPays" 134 "WitnessPays$Street" "day" "I" "WitnessPays" ∈ nestW := nw1 213 (by decide +kernel) (by decide +kernel)
theorem w_269 : Cond.fieldLink "WitnessPays$Street" 17 "WitnessPays$Street" "law" "LWitnessPays$Law;" ∈ Ug := ug1 214 (by decide +kernel) (by decide +kernel)
theorem nw_270 : Cond.fieldLinkNest "WitnessPays" 130 "WitnessPays$Street" "law" "LWitnessPays$Law;" "WitnessPays" ∈ nestW := nw1 215 (by decide +kernel) (by decide +kernel)
theorem w_282 : Cond.fieldLink "WitnessPays$Scene" 31 "WitnessPays$Scene" "street" "LWitnessPays$Street;" ∈ Ug := ug1 227 (by decide +kernel) (by decide +kernel)
theorem nw_283 : Cond.fieldLinkNest "WitnessPays" 62 "WitnessPays$Scene" "street" "LWitnessPays$Street;" "WitnessPays" ∈ nestW := nw1 228 (by decide +kernel) (by decide +kernel)
theorem w_284 : Cond.fieldLink "WitnessPays$Scene" 14 "WitnessPays$Scene" "seen" "LWitnessPays$Table;" ∈ Ug := ug1 229 (by decide +kernel) (by decide +kernel)
theorem nw_285 : Cond.fieldLinkNest "WitnessPays" 179 "WitnessPays$Scene" "seen" "LWitnessPays$Table;" "WitnessPays" ∈ nestW := nw1 230 (by decide +kernel) (by decide +kernel)
theorem w_286 : Cond.fieldLink "WitnessPays$Scene" 20 "WitnessPays$Scene" "plan" "LWitnessPays$Table;" ∈ Ug := ug1 231 (by decide +kernel) (by decide +kernel)
theorem nw_287 : Cond.fieldLinkNest "WitnessPays" 207 "WitnessPays$Scene" "plan" "LWitnessPays$Table;" "WitnessPays" ∈ nestW := nw1 232 (by decide +kernel) (by decide +kernel)
theorem w_288 : Cond.fieldLink "WitnessPays$Scene" 23 "WitnessPays$Scene" "book" "LWitnessPays$Table;" ∈ Ug := ug1 233 (by decide +kernel) (by decide +kernel)
theorem nw_289 : Cond.fieldLinkNest "WitnessPays" 217 "WitnessPays$Scene" "book" "LWitnessPays$Table;" "WitnessPays" ∈ nestW := nw1 234 (by decide +kernel) (by decide +kernel)
theorem w_299 : Cond.classLink "WitnessPays" 46 "WitnessPays$WhatIf" ∈ Ug := ug2 4 (by decide +kernel) (by decide +kernel)
theorem w_300 : Cond.instantiable "WitnessPays$WhatIf" 1 ∈ Ug := ug2 5 (by decide +kernel) (by decide +kernel)
theorem w_301 : Cond.methodLink "WitnessPays" 48 ⟨"WitnessPays$WhatIf", "<init>", "(LWitnessPays$Law;)V"⟩ ∈ Ug := ug2 6 (by decide +kernel) (by decide +kernel)
theorem w_302 : Cond.instanceMethod ⟨"WitnessPays$WhatIf", "<init>", "(LWitnessPays$Law;)V"⟩ ∈ Ug := ug2 7 (by decide +kernel) (by decide +kernel)
theorem w_303 : Cond.code ⟨"WitnessPays$WhatIf", "<init>", "(LWitnessPays$Law;)V"⟩ prog_10_method_1_code 2 (Option.none : Option FieldType) ∈ Ug := ug2 8 (by decide +kernel) (by decide +kernel)
theorem w_304 : Cond.methodLink "WitnessPays$WhatIf" 3 ⟨"java/lang/Object", "<init>", "()V"⟩ ∈ Ug := ug2 9 (by decide +kernel) (by decide +kernel)
theorem w_305 : Cond.classLink "WitnessPays$WhatIf" 9 "WitnessPays$Street" ∈ Ug := ug2 10 (by decide +kernel) (by decide +kernel)
theorem w_306 : Cond.methodLink "WitnessPays$WhatIf" 11 ⟨"WitnessPays$Street", "<init>", "(LWitnessPays$Law;)V"⟩ ∈ Ug := ug2 11 (by decide +kernel) (by decide +kernel)
theorem w_307 : Cond.fieldLink "WitnessPays$WhatIf" 14 "WitnessPays$WhatIf" "trial" "LWitnessPays$Street;" ∈ Ug := ug2 12 (by decide +kernel) (by decide +kernel)
theorem w_311 : Cond.instantiable "WitnessPays$Tape" 3 ∈ Ug := ug2 16 (by decide +kernel) (by decide +kernel)
theorem nw_312 : Cond.methodLinkNest "WitnessPays" 53 ⟨"WitnessPays$Tape", "<init>", "()V"⟩ "WitnessPays" ∈ nestW := nw2 17 (by decide +kernel) (by decide +kernel)
theorem w_313 : Cond.instanceMethod ⟨"WitnessPays$Tape", "<init>", "()V"⟩ ∈ Ug := ug2 18 (by decide +kernel) (by decide +kernel)
theorem w_314 : Cond.code ⟨"WitnessPays$Tape", "<init>", "()V"⟩ prog_9_method_1_code 1 (Option.none : Option FieldType) ∈ Ug := ug2 19 (by decide +kernel) (by decide +kernel)
theorem w_315 : Cond.methodLink "WitnessPays$Tape" 3 ⟨"java/lang/Object", "<init>", "()V"⟩ ∈ Ug := ug2 20 (by decide +kernel) (by decide +kernel)
theorem w_316 : Cond.fieldLink "WitnessPays$Tape" 9 "WitnessPays$Tape" "sort" "I" ∈ Ug := ug2 21 (by decide +kernel) (by decide +kernel)
theorem nw_317 : Cond.fieldLinkNest "WitnessPays" 231 "WitnessPays$Tape" "sort" "I" "WitnessPays" ∈ nestW := nw2 22 (by decide +kernel) (by decide +kernel)
theorem w_318 : Cond.fieldLink "WitnessPays$Tape" 19 "WitnessPays$Tape" "length" "I" ∈ Ug := ug2 23 (by decide +kernel) (by decide +kernel)
theorem w_319 : Cond.fieldLink "WitnessPays$Tape" 15 "WitnessPays$Tape" "items" "[J" ∈ Ug := ug2 24 (by decide +kernel) (by decide +kernel)
theorem nw_320 : Cond.fieldLinkNest "WitnessPays" 243 "WitnessPays$Tape" "items" "[J" "WitnessPays" ∈ nestW := nw2 25 (by decide +kernel) (by decide +kernel)
theorem w_328 : Cond.arrayClass FieldType.long ∈ Ug := ug2 33 (by decide +kernel) (by decide +kernel)
theorem w_329 : Cond.fieldLink "WitnessPays" 39 "WitnessPays" "now" "LWitnessPays$Scene;" ∈ Ug := ug2 34 (by decide +kernel) (by decide +kernel)
theorem w_330 : Cond.fieldLink "WitnessPays" 43 "WitnessPays" "kept" "LWitnessPays$Scene;" ∈ Ug := ug2 35 (by decide +kernel) (by decide +kernel)
theorem w_331 : Cond.fieldLink "WitnessPays" 251 "WitnessPays" "hasKept" "Z" ∈ Ug := ug2 36 (by decide +kernel) (by decide +kernel)
theorem w_332 : Cond.fieldLink "WitnessPays" 14 "WitnessPays" "text" "LWitnessPays$LawText;" ∈ Ug := ug2 37 (by decide +kernel) (by decide +kernel)
theorem w_333 : Cond.fieldLink "WitnessPays" 120 "WitnessPays" "laws" "I" ∈ Ug := ug2 38 (by decide +kernel) (by decide +kernel)
theorem w_334 : Cond.fieldLink "WitnessPays" 49 "WitnessPays" "whatIf" "LWitnessPays$WhatIf;" ∈ Ug := ug2 39 (by decide +kernel) (by decide +kernel)
theorem w_335 : Cond.fieldLink "WitnessPays" 21 "WitnessPays" "actor" "LWitnessPays$Actor;" ∈ Ug := ug2 40 (by decide +kernel) (by decide +kernel)
theorem w_336 : Cond.fieldLink "WitnessPays" 27 "WitnessPays" "tapes" "[LWitnessPays$Tape;" ∈ Ug := ug2 41 (by decide +kernel) (by decide +kernel)
theorem w_354 : Cond.methodLink "WitnessPaysLaw" 13 ⟨"WitnessPays", "one", "(III)I"⟩ ∈ Ug := ug2 59 (by decide +kernel) (by decide +kernel)
theorem w_355 : Cond.instanceMethod ⟨"WitnessPays", "one", "(III)I"⟩ ∈ Ug := ug2 60 (by decide +kernel) (by decide +kernel)
theorem w_356 : Cond.selects "WitnessPays" ⟨"WitnessPays", "one", "(III)I"⟩ ⟨"WitnessPays", "one", "(III)I"⟩ ∈ Ug := ug2 61 (by decide +kernel) (by decide +kernel)
theorem w_357 : Cond.code ⟨"WitnessPays", "one", "(III)I"⟩ prog_1_method_2_code 4 (Option.some FieldType.int) ∈ Ug := ug2 62 (by decide +kernel) (by decide +kernel)
theorem w_358 : Cond.methodLink "WitnessPays" 54 ⟨"WitnessPays", "isWithin", "(II)Z"⟩ ∈ Ug := ug2 63 (by decide +kernel) (by decide +kernel)
theorem w_359 : Cond.static ⟨"WitnessPays", "isWithin", "(II)Z"⟩ ∈ Ug := ug2 64 (by decide +kernel) (by decide +kernel)
theorem w_360 : Cond.code ⟨"WitnessPays", "isWithin", "(II)Z"⟩ prog_1_method_36_code 2 (Option.some FieldType.boolean) ∈ Ug := ug2 65 (by decide +kernel) (by decide +kernel)
theorem w_361 : Cond.methodLink "WitnessPays" 58 ⟨"WitnessPays", "isPlace", "(I)Z"⟩ ∈ Ug := ug2 66 (by decide +kernel) (by decide +kernel)
theorem w_362 : Cond.static ⟨"WitnessPays", "isPlace", "(I)Z"⟩ ∈ Ug := ug2 67 (by decide +kernel) (by decide +kernel)
theorem w_363 : Cond.code ⟨"WitnessPays", "isPlace", "(I)Z"⟩ prog_1_method_37_code 1 (Option.some FieldType.boolean) ∈ Ug := ug2 68 (by decide +kernel) (by decide +kernel)
theorem w_364 : Cond.methodLink "WitnessPays" 66 ⟨"WitnessPays$Street", "welcome", "(III)I"⟩ ∈ Ug := ug2 69 (by decide +kernel) (by decide +kernel)
theorem w_365 : Cond.instanceMethod ⟨"WitnessPays$Street", "welcome", "(III)I"⟩ ∈ Ug := ug2 70 (by decide +kernel) (by decide +kernel)
theorem w_366 : Cond.selects "WitnessPays$Street" ⟨"WitnessPays$Street", "welcome", "(III)I"⟩ ⟨"WitnessPays$Street", "welcome", "(III)I"⟩ ∈ Ug := ug2 71 (by decide +kernel) (by decide +kernel)
theorem w_367 : Cond.code ⟨"WitnessPays$Street", "welcome", "(III)I"⟩ prog_7_method_4_code 4 (Option.some FieldType.int) ∈ Ug := ug2 72 (by decide +kernel) (by decide +kernel)
theorem w_368 : Cond.methodLink "WitnessPays$Street" 38 ⟨"WitnessPays$Person", "arrive", "(III)V"⟩ ∈ Ug := ug2 73 (by decide +kernel) (by decide +kernel)
theorem w_369 : Cond.instanceMethod ⟨"WitnessPays$Person", "arrive", "(III)V"⟩ ∈ Ug := ug2 74 (by decide +kernel) (by decide +kernel)
theorem w_370 : Cond.selects "WitnessPays$Person" ⟨"WitnessPays$Person", "arrive", "(III)V"⟩ ⟨"WitnessPays$Person", "arrive", "(III)V"⟩ ∈ Ug := ug2 75 (by decide +kernel) (by decide +kernel)
theorem w_371 : Cond.code ⟨"WitnessPays$Person", "arrive", "(III)V"⟩ prog_5_method_2_code 5 (Option.none : Option FieldType) ∈ Ug := ug2 76 (by decide +kernel) (by decide +kernel)
theorem w_372 : Cond.methodLink "WitnessPaysLaw" 18 ⟨"WitnessPays", "of", "(II)I"⟩ ∈ Ug := ug2 77 (by decide +kernel) (by decide +kernel)
theorem w_373 : Cond.instanceMethod ⟨"WitnessPays", "of", "(II)I"⟩ ∈ Ug := ug2 78 (by decide +kernel) (by decide +kernel)
theorem w_374 : Cond.selects "WitnessPays" ⟨"WitnessPays", "of", "(II)I"⟩ ⟨"WitnessPays", "of", "(II)I"⟩ ∈ Ug := ug2 79 (by decide +kernel) (by decide +kernel)
theorem w_375 : Cond.code ⟨"WitnessPays", "of", "(II)I"⟩ prog_1_method_3_code 4 (Option.some FieldType.int) ∈ Ug := ug2 80 (by decide +kernel) (by decide +kernel)
theorem w_376 : Cond.methodLink "WitnessPays" 72 ⟨"WitnessPays$Street", "person", "(I)LWitnessPays$Person;"⟩ ∈ Ug := ug2 81 (by decide +kernel) (by decide +kernel)
theorem w_377 : Cond.instanceMethod ⟨"WitnessPays$Street", "person", "(I)LWitnessPays$Person;"⟩ ∈ Ug := ug2 82 (by decide +kernel) (by decide +kernel)
theorem w_378 : Cond.selects "WitnessPays$Street" ⟨"WitnessPays$Street", "person", "(I)LWitnessPays$Person;"⟩ ⟨"WitnessPays$Street", "person", "(I)LWitnessPays$Person;"⟩ ∈ Ug := ug2 83 (by decide +kernel) (by decide +kernel)
theorem w_379 : Cond.code ⟨"WitnessPays$Street", "person", "(I)LWitnessPays$Person;"⟩ prog_7_method_3_code 2 (Option.some (FieldType.object "WitnessPays$Person")) ∈ Ug := ug2 84 (by decide +kernel) (by decide +kernel)
theorem w_380 : Cond.methodLink "WitnessPays" 95 ⟨"WitnessPays$Street", "reachOf", "(LWitnessPays$Person;)I"⟩ ∈ Ug := ug2 85 (by decide +kernel) (by decide +kernel)
theorem w_381 : Cond.instanceMethod ⟨"WitnessPays$Street", "reachOf", "(LWitnessPays$Person;)I"⟩ ∈ Ug := ug2 86 (by decide +kernel) (by decide +kernel)
theorem w_382 : Cond.selects "WitnessPays$Street" ⟨"WitnessPays$Street", "reachOf", "(LWitnessPays$Person;)I"⟩ ⟨"WitnessPays$Street", "reachOf", "(LWitnessPays$Person;)I"⟩ ∈ Ug := ug2 87 (by decide +kernel) (by decide +kernel)
theorem w_383 : Cond.code ⟨"WitnessPays$Street", "reachOf", "(LWitnessPays$Person;)I"⟩ prog_7_method_7_code 2 (Option.some FieldType.int) ∈ Ug := ug2 88 (by decide +kernel) (by decide +kernel)
theorem w_384 : Cond.methodLink "WitnessPays$Street" 53 ⟨"WitnessPays$Law", "sum", "(LWitnessPays$Person;I)I"⟩ ∈ Ug := ug2 89 (by decide +kernel) (by decide +kernel)
theorem w_385 : Cond.instanceMethod ⟨"WitnessPays$Law", "sum", "(LWitnessPays$Person;I)I"⟩ ∈ Ug := ug2 90 (by decide +kernel) (by decide +kernel)
theorem w_386 : Cond.selects "WitnessPays$Law" ⟨"WitnessPays$Law", "sum", "(LWitnessPays$Person;I)I"⟩ ⟨"WitnessPays$Law", "sum", "(LWitnessPays$Person;I)I"⟩ ∈ Ug := ug2 91 (by decide +kernel) (by decide +kernel)
theorem w_387 : Cond.code ⟨"WitnessPays$Law", "sum", "(LWitnessPays$Person;I)I"⟩ prog_3_method_5_code 6 (Option.some FieldType.int) ∈ Ug := ug2 92 (by decide +kernel) (by decide +kernel)
theorem w_388 : Cond.methodLink "WitnessPays$Law" 62 ⟨"WitnessPays$Law", "holds", "(II)Z"⟩ ∈ Ug := ug2 93 (by decide +kernel) (by decide +kernel)
theorem w_390 : Cond.instanceMethod ⟨"WitnessPays$Law", "holds", "(II)Z"⟩ ∈ Ug := ug2 95 (by decide +kernel) (by decide +kernel)
theorem w_391 : Cond.code ⟨"WitnessPays$Law", "holds", "(II)Z"⟩ prog_3_method_6_code 10 (Option.some FieldType.boolean) ∈ Ug := ug2 96 (by decide +kernel) (by decide +kernel)
theorem w_392 : Cond.methodLink "WitnessPays$Law" 66 ⟨"java/lang/Integer", "compare", "(II)I"⟩ ∈ Ug := ug2 97 (by decide +kernel) (by decide +kernel)
theorem w_393 : Cond.static ⟨"java/lang/Integer", "compare", "(II)I"⟩ ∈ Ug := ug2 98 (by decide +kernel) (by decide +kernel)
theorem w_394 : Cond.code ⟨"java/lang/Integer", "compare", "(II)I"⟩ prog_14_method_40_code 2 (Option.some FieldType.int) ∈ Ug := ug2 99 (by decide +kernel) (by decide +kernel)
theorem w_395 : Cond.methodLink "WitnessPays$Street" 59 ⟨"WitnessPays$Person", "reach", "(II)I"⟩ ∈ Ug := ug2 100 (by decide +kernel) (by decide +kernel)
theorem w_396 : Cond.instanceMethod ⟨"WitnessPays$Person", "reach", "(II)I"⟩ ∈ Ug := ug2 101 (by decide +kernel) (by decide +kernel)
theorem w_397 : Cond.selects "WitnessPays$Person" ⟨"WitnessPays$Person", "reach", "(II)I"⟩ ⟨"WitnessPays$Person", "reach", "(II)I"⟩ ∈ Ug := ug2 102 (by decide +kernel) (by decide +kernel)
theorem w_398 : Cond.code ⟨"WitnessPays$Person", "reach", "(II)I"⟩ prog_5_method_6_code 4 (Option.some FieldType.int) ∈ Ug := ug2 103 (by decide +kernel) (by decide +kernel)
theorem w_399 : Cond.methodLink "WitnessPays$Person" 44 ⟨"WitnessPays$Person", "isOfKind", "(I)Z"⟩ ∈ Ug := ug2 104 (by decide +kernel) (by decide +kernel)
theorem w_400 : Cond.instanceMethod ⟨"WitnessPays$Person", "isOfKind", "(I)Z"⟩ ∈ Ug := ug2 105 (by decide +kernel) (by decide +kernel)
theorem w_401 : Cond.selects "WitnessPays$Person" ⟨"WitnessPays$Person", "isOfKind", "(I)Z"⟩ ⟨"WitnessPays$Person", "isOfKind", "(I)Z"⟩ ∈ Ug := ug2 106 (by decide +kernel) (by decide +kernel)
theorem w_402 : Cond.code ⟨"WitnessPays$Person", "isOfKind", "(I)Z"⟩ prog_5_method_4_code 2 (Option.some FieldType.boolean) ∈ Ug := ug2 107 (by decide +kernel) (by decide +kernel)
theorem nw_403 : Cond.fieldLinkNest "WitnessPays$Person" 41 "WitnessPays" "KIND_ABOVE" "[I" "WitnessPays" ∈ nestW := nw2 108 (by decide +kernel) (by decide +kernel)
theorem w_405 : Cond.methodLink "WitnessPays$Person" 48 ⟨"java/lang/Math", "min", "(II)I"⟩ ∈ Ug := ug2 110 (by decide +kernel) (by decide +kernel)
theorem w_406 : Cond.static ⟨"java/lang/Math", "min", "(II)I"⟩ ∈ Ug := ug2 111 (by decide +kernel) (by decide +kernel)
theorem w_407 : Cond.code ⟨"java/lang/Math", "min", "(II)I"⟩ prog_15_method_69_code 2 (Option.some FieldType.int) ∈ Ug := ug2 112 (by decide +kernel) (by decide +kernel)
theorem w_408 : Cond.methodLink "WitnessPays$Person" 54 ⟨"java/lang/Math", "max", "(II)I"⟩ ∈ Ug := ug2 113 (by decide +kernel) (by decide +kernel)
theorem w_409 : Cond.static ⟨"java/lang/Math", "max", "(II)I"⟩ ∈ Ug := ug2 114 (by decide +kernel) (by decide +kernel)
theorem w_410 : Cond.code ⟨"java/lang/Math", "max", "(II)I"⟩ prog_15_method_65_code 2 (Option.some FieldType.int) ∈ Ug := ug2 115 (by decide +kernel) (by decide +kernel)
theorem w_411 : Cond.methodLink "WitnessPays" 99 ⟨"WitnessPays$Street", "sightOf", "(LWitnessPays$Person;)I"⟩ ∈ Ug := ug2 116 (by decide +kernel) (by decide +kernel)
theorem w_412 : Cond.instanceMethod ⟨"WitnessPays$Street", "sightOf", "(LWitnessPays$Person;)I"⟩ ∈ Ug := ug2 117 (by decide +kernel) (by decide +kernel)
theorem w_413 : Cond.selects "WitnessPays$Street" ⟨"WitnessPays$Street", "sightOf", "(LWitnessPays$Person;)I"⟩ ⟨"WitnessPays$Street", "sightOf", "(LWitnessPays$Person;)I"⟩ ∈ Ug := ug2 118 (by decide +kernel) (by decide +kernel)
theorem w_414 : Cond.code ⟨"WitnessPays$Street", "sightOf", "(LWitnessPays$Person;)I"⟩ prog_7_method_13_code 2 (Option.some FieldType.int) ∈ Ug := ug2 119 (by decide +kernel) (by decide +kernel)
theorem w_415 : Cond.methodLink "WitnessPays$Street" 63 ⟨"WitnessPays$Street", "lookBy", "(LWitnessPays$Person;)V"⟩ ∈ Ug := ug2 120 (by decide +kernel) (by decide +kernel)
theorem w_417 : Cond.instanceMethod ⟨"WitnessPays$Street", "lookBy", "(LWitnessPays$Person;)V"⟩ ∈ Ug := ug2 122 (by decide +kernel) (by decide +kernel)
theorem w_418 : Cond.code ⟨"WitnessPays$Street", "lookBy", "(LWitnessPays$Person;)V"⟩ prog_7_method_9_code 2 (Option.none : Option FieldType) ∈ Ug := ug2 123 (by decide +kernel) (by decide +kernel)
theorem w_419 : Cond.methodLink "WitnessPays$Street" 66 ⟨"WitnessPays$Street", "reachOf", "(LWitnessPays$Person;)I"⟩ ∈ Ug := ug2 124 (by decide +kernel) (by decide +kernel)
theorem w_420 : Cond.methodLink "WitnessPays$Street" 83 ⟨"WitnessPays$Person", "sight", "(I)I"⟩ ∈ Ug := ug2 125 (by decide +kernel) (by decide +kernel)
theorem w_421 : Cond.instanceMethod ⟨"WitnessPays$Person", "sight", "(I)I"⟩ ∈ Ug := ug2 126 (by decide +kernel) (by decide +kernel)
theorem w_422 : Cond.selects "WitnessPays$Person" ⟨"WitnessPays$Person", "sight", "(I)I"⟩ ⟨"WitnessPays$Person", "sight", "(I)I"⟩ ∈ Ug := ug2 127 (by decide +kernel) (by decide +kernel)
theorem w_423 : Cond.code ⟨"WitnessPays$Person", "sight", "(I)I"⟩ prog_5_method_8_code 4 (Option.some FieldType.int) ∈ Ug := ug2 128 (by decide +kernel) (by decide +kernel)
theorem w_424 : Cond.methodLink "WitnessPays$Person" 63 ⟨"WitnessPays$Person", "sees", "(II)Z"⟩ ∈ Ug := ug2 129 (by decide +kernel) (by decide +kernel)
theorem w_425 : Cond.instanceMethod ⟨"WitnessPays$Person", "sees", "(II)Z"⟩ ∈ Ug := ug2 130 (by decide +kernel) (by decide +kernel)
theorem w_426 : Cond.selects "WitnessPays$Person" ⟨"WitnessPays$Person", "sees", "(II)Z"⟩ ⟨"WitnessPays$Person", "sees", "(II)Z"⟩ ∈ Ug := ug2 131 (by decide +kernel) (by decide +kernel)
theorem w_427 : Cond.code ⟨"WitnessPays$Person", "sees", "(II)Z"⟩ prog_5_method_7_code 5 (Option.some FieldType.boolean) ∈ Ug := ug2 132 (by decide +kernel) (by decide +kernel)
theorem w_428 : Cond.methodLink "WitnessPays$Person" 60 ⟨"WitnessPays$Person", "wayRight", "(II)I"⟩ ∈ Ug := ug2 133 (by decide +kernel) (by decide +kernel)
theorem w_429 : Cond.static ⟨"WitnessPays$Person", "wayRight", "(II)I"⟩ ∈ Ug := ug2 134 (by decide +kernel) (by decide +kernel)
theorem w_430 : Cond.code ⟨"WitnessPays$Person", "wayRight", "(II)I"⟩ prog_5_method_9_code 3 (Option.some FieldType.int) ∈ Ug := ug2 135 (by decide +kernel) (by decide +kernel)
theorem w_431 : Cond.methodLink "WitnessPays" 102 ⟨"WitnessPays$WhatIf", "shunnedBy", "(ILWitnessPays$Street;)I"⟩ ∈ Ug := ug2 136 (by decide +kernel) (by decide +kernel)
theorem w_432 : Cond.instanceMethod ⟨"WitnessPays$WhatIf", "shunnedBy", "(ILWitnessPays$Street;)I"⟩ ∈ Ug := ug2 137 (by decide +kernel) (by decide +kernel)
theorem w_433 : Cond.selects "WitnessPays$WhatIf" ⟨"WitnessPays$WhatIf", "shunnedBy", "(ILWitnessPays$Street;)I"⟩ ⟨"WitnessPays$WhatIf", "shunnedBy", "(ILWitnessPays$Street;)I"⟩ ∈ Ug := ug2 138 (by decide +kernel) (by decide +kernel)
theorem w_434 : Cond.code ⟨"WitnessPays$WhatIf", "shunnedBy", "(ILWitnessPays$Street;)I"⟩ prog_10_method_2_code 8 (Option.some FieldType.int) ∈ Ug := ug2 139 (by decide +kernel) (by decide +kernel)
theorem w_435 : Cond.methodLink "WitnessPays$WhatIf" 20 ⟨"WitnessPays$Street", "becomeLike", "(LWitnessPays$Street;)V"⟩ ∈ Ug := ug2 140 (by decide +kernel) (by decide +kernel)
theorem w_436 : Cond.instanceMethod ⟨"WitnessPays$Street", "becomeLike", "(LWitnessPays$Street;)V"⟩ ∈ Ug := ug2 141 (by decide +kernel) (by decide +kernel)
theorem w_437 : Cond.selects "WitnessPays$Street" ⟨"WitnessPays$Street", "becomeLike", "(LWitnessPays$Street;)V"⟩ ⟨"WitnessPays$Street", "becomeLike", "(LWitnessPays$Street;)V"⟩ ∈ Ug := ug2 142 (by decide +kernel) (by decide +kernel)
theorem w_438 : Cond.code ⟨"WitnessPays$Street", "becomeLike", "(LWitnessPays$Street;)V"⟩ prog_7_method_2_code 3 (Option.none : Option FieldType) ∈ Ug := ug2 143 (by decide +kernel) (by decide +kernel)
theorem w_439 : Cond.methodLink "WitnessPays$Street" 34 ⟨"WitnessPays$Person", "becomeLike", "(LWitnessPays$Person;)V"⟩ ∈ Ug := ug2 144 (by decide +kernel) (by decide +kernel)
theorem w_440 : Cond.instanceMethod ⟨"WitnessPays$Person", "becomeLike", "(LWitnessPays$Person;)V"⟩ ∈ Ug := ug2 145 (by decide +kernel) (by decide +kernel)
theorem w_441 : Cond.selects "WitnessPays$Person" ⟨"WitnessPays$Person", "becomeLike", "(LWitnessPays$Person;)V"⟩ ⟨"WitnessPays$Person", "becomeLike", "(LWitnessPays$Person;)V"⟩ ∈ Ug := ug2 146 (by decide +kernel) (by decide +kernel)
theorem w_442 : Cond.code ⟨"WitnessPays$Person", "becomeLike", "(LWitnessPays$Person;)V"⟩ prog_5_method_3_code 2 (Option.none : Option FieldType) ∈ Ug := ug2 147 (by decide +kernel) (by decide +kernel)
theorem w_443 : Cond.methodLink "WitnessPays$Person" 35 ⟨"java/lang/System", "arraycopy", "(Ljava/lang/Object;ILjava/lang/Object;II)V"⟩ ∈ Ug := ug2 148 (by decide +kernel) (by decide +kernel)
theorem w_444 : Cond.static ⟨"java/lang/System", "arraycopy", "(Ljava/lang/Object;ILjava/lang/Object;II)V"⟩ ∈ Ug := ug2 149 (by decide +kernel) (by decide +kernel)
theorem w_445 : Cond.native ⟨"java/lang/System", "arraycopy", "(Ljava/lang/Object;ILjava/lang/Object;II)V"⟩ ∈ Ug := ug2 150 (by decide +kernel) (by decide +kernel)
theorem w_446 : Cond.methodLink "WitnessPays$WhatIf" 24 ⟨"WitnessPays$Street", "person", "(I)LWitnessPays$Person;"⟩ ∈ Ug := ug2 151 (by decide +kernel) (by decide +kernel)
theorem w_447 : Cond.methodLink "WitnessPays$WhatIf" 34 ⟨"WitnessPays$Street", "sightOf", "(LWitnessPays$Person;)I"⟩ ∈ Ug := ug2 152 (by decide +kernel) (by decide +kernel)
theorem w_448 : Cond.methodLink "WitnessPays$WhatIf" 38 ⟨"java/lang/Integer", "bitCount", "(I)I"⟩ ∈ Ug := ug2 153 (by decide +kernel) (by decide +kernel)
theorem w_449 : Cond.static ⟨"java/lang/Integer", "bitCount", "(I)I"⟩ ∈ Ug := ug2 154 (by decide +kernel) (by decide +kernel)
theorem w_450 : Cond.code ⟨"java/lang/Integer", "bitCount", "(I)I"⟩ prog_14_method_49_code 1 (Option.some FieldType.int) ∈ Ug := ug2 155 (by decide +kernel) (by decide +kernel)
theorem w_451 : Cond.constant "java/lang/Integer" 265 1431655765 ∈ Ug := ug2 156 (by decide +kernel) (by decide +kernel)
theorem w_452 : Cond.constant "java/lang/Integer" 266 858993459 ∈ Ug := ug2 157 (by decide +kernel) (by decide +kernel)
theorem w_453 : Cond.constant "java/lang/Integer" 267 252645135 ∈ Ug := ug2 158 (by decide +kernel) (by decide +kernel)
theorem w_454 : Cond.methodLink "WitnessPays" 106 ⟨"WitnessPays$Street", "firstSeenOnlyBy", "(LWitnessPays$Person;)I"⟩ ∈ Ug := ug2 159 (by decide +kernel) (by decide +kernel)
theorem w_455 : Cond.instanceMethod ⟨"WitnessPays$Street", "firstSeenOnlyBy", "(LWitnessPays$Person;)I"⟩ ∈ Ug := ug2 160 (by decide +kernel) (by decide +kernel)
theorem w_456 : Cond.selects "WitnessPays$Street" ⟨"WitnessPays$Street", "firstSeenOnlyBy", "(LWitnessPays$Person;)I"⟩ ⟨"WitnessPays$Street", "firstSeenOnlyBy", "(LWitnessPays$Person;)I"⟩ ∈ Ug := ug2 161 (by decide +kernel) (by decide +kernel)
theorem w_457 : Cond.code ⟨"WitnessPays$Street", "firstSeenOnlyBy", "(LWitnessPays$Person;)I"⟩ prog_7_method_14_code 3 (Option.some FieldType.int) ∈ Ug := ug2 162 (by decide +kernel) (by decide +kernel)
theorem w_458 : Cond.methodLink "WitnessPays$Street" 80 ⟨"WitnessPays$Street", "look", "()V"⟩ ∈ Ug := ug2 163 (by decide +kernel) (by decide +kernel)
theorem w_459 : Cond.instanceMethod ⟨"WitnessPays$Street", "look", "()V"⟩ ∈ Ug := ug2 164 (by decide +kernel) (by decide +kernel)
theorem w_460 : Cond.selects "WitnessPays$Street" ⟨"WitnessPays$Street", "look", "()V"⟩ ⟨"WitnessPays$Street", "look", "()V"⟩ ∈ Ug := ug2 165 (by decide +kernel) (by decide +kernel)
theorem w_461 : Cond.code ⟨"WitnessPays$Street", "look", "()V"⟩ prog_7_method_8_code 2 (Option.none : Option FieldType) ∈ Ug := ug2 166 (by decide +kernel) (by decide +kernel)
theorem w_462 : Cond.methodLink "WitnessPays$Street" 87 ⟨"WitnessPays$Street", "seersInView", "(I)I"⟩ ∈ Ug := ug2 167 (by decide +kernel) (by decide +kernel)
theorem w_463 : Cond.instanceMethod ⟨"WitnessPays$Street", "seersInView", "(I)I"⟩ ∈ Ug := ug2 168 (by decide +kernel) (by decide +kernel)
theorem w_464 : Cond.selects "WitnessPays$Street" ⟨"WitnessPays$Street", "seersInView", "(I)I"⟩ ⟨"WitnessPays$Street", "seersInView", "(I)I"⟩ ∈ Ug := ug2 169 (by decide +kernel) (by decide +kernel)
theorem w_465 : Cond.code ⟨"WitnessPays$Street", "seersInView", "(I)I"⟩ prog_7_method_10_code 2 (Option.some FieldType.int) ∈ Ug := ug2 170 (by decide +kernel) (by decide +kernel)
theorem w_466 : Cond.methodLink "WitnessPays$Street" 73 ⟨"WitnessPays$Street", "seersBehind", "(II)I"⟩ ∈ Ug := ug2 171 (by decide +kernel) (by decide +kernel)
theorem w_468 : Cond.instanceMethod ⟨"WitnessPays$Street", "seersBehind", "(II)I"⟩ ∈ Ug := ug2 173 (by decide +kernel) (by decide +kernel)
theorem w_469 : Cond.code ⟨"WitnessPays$Street", "seersBehind", "(II)I"⟩ prog_7_method_11_code 5 (Option.some FieldType.int) ∈ Ug := ug2 174 (by decide +kernel) (by decide +kernel)
theorem w_470 : Cond.methodLink "WitnessPays$Street" 76 ⟨"WitnessPays$Person", "sees", "(II)Z"⟩ ∈ Ug := ug2 175 (by decide +kernel) (by decide +kernel)
theorem w_471 : Cond.methodLink "WitnessPaysLaw" 23 ⟨"WitnessPays", "set", "(III)I"⟩ ∈ Ug := ug2 176 (by decide +kernel) (by decide +kernel)
theorem w_472 : Cond.instanceMethod ⟨"WitnessPays", "set", "(III)I"⟩ ∈ Ug := ug2 177 (by decide +kernel) (by decide +kernel)
theorem w_473 : Cond.selects "WitnessPays" ⟨"WitnessPays", "set", "(III)I"⟩ ⟨"WitnessPays", "set", "(III)I"⟩ ∈ Ug := ug2 178 (by decide +kernel) (by decide +kernel)
theorem w_474 : Cond.code ⟨"WitnessPays", "set", "(III)I"⟩ prog_1_method_4_code 6 (Option.some FieldType.int) ∈ Ug := ug2 179 (by decide +kernel) (by decide +kernel)
theorem w_475 : Cond.methodLink "WitnessPaysLaw" 27 ⟨"WitnessPays", "leave", "(IZ)I"⟩ ∈ Ug := ug2 180 (by decide +kernel) (by decide +kernel)
theorem w_476 : Cond.instanceMethod ⟨"WitnessPays", "leave", "(IZ)I"⟩ ∈ Ug := ug2 181 (by decide +kernel) (by decide +kernel)
theorem w_477 : Cond.selects "WitnessPays" ⟨"WitnessPays", "leave", "(IZ)I"⟩ ⟨"WitnessPays", "leave", "(IZ)I"⟩ ∈ Ug := ug2 182 (by decide +kernel) (by decide +kernel)
theorem w_478 : Cond.code ⟨"WitnessPays", "leave", "(IZ)I"⟩ prog_1_method_5_code 5 (Option.some FieldType.int) ∈ Ug := ug2 183 (by decide +kernel) (by decide +kernel)
theorem w_479 : Cond.methodLink "WitnessPaysLaw" 32 ⟨"WitnessPays", "walls", "(I)I"⟩ ∈ Ug := ug2 184 (by decide +kernel) (by decide +kernel)
theorem w_480 : Cond.instanceMethod ⟨"WitnessPays", "walls", "(I)I"⟩ ∈ Ug := ug2 185 (by decide +kernel) (by decide +kernel)
theorem w_481 : Cond.selects "WitnessPays" ⟨"WitnessPays", "walls", "(I)I"⟩ ⟨"WitnessPays", "walls", "(I)I"⟩ ∈ Ug := ug2 186 (by decide +kernel) (by decide +kernel)
theorem w_482 : Cond.code ⟨"WitnessPays", "walls", "(I)I"⟩ prog_1_method_6_code 3 (Option.some FieldType.int) ∈ Ug := ug2 187 (by decide +kernel) (by decide +kernel)
theorem w_483 : Cond.methodLink "WitnessPaysLaw" 37 ⟨"WitnessPays", "row", "(III)I"⟩ ∈ Ug := ug2 188 (by decide +kernel) (by decide +kernel)
theorem w_484 : Cond.instanceMethod ⟨"WitnessPays", "row", "(III)I"⟩ ∈ Ug := ug2 189 (by decide +kernel) (by decide +kernel)
theorem w_485 : Cond.selects "WitnessPays" ⟨"WitnessPays", "row", "(III)I"⟩ ⟨"WitnessPays", "row", "(III)I"⟩ ∈ Ug := ug2 190 (by decide +kernel) (by decide +kernel)
theorem w_486 : Cond.code ⟨"WitnessPays", "row", "(III)I"⟩ prog_1_method_7_code 6 (Option.some FieldType.int) ∈ Ug := ug2 191 (by decide +kernel) (by decide +kernel)
theorem w_487 : Cond.methodLink "WitnessPaysLaw" 41 ⟨"WitnessPays", "feed", "(I)I"⟩ ∈ Ug := ug2 192 (by decide +kernel) (by decide +kernel)
theorem w_488 : Cond.instanceMethod ⟨"WitnessPays", "feed", "(I)I"⟩ ∈ Ug := ug2 193 (by decide +kernel) (by decide +kernel)
theorem w_489 : Cond.selects "WitnessPays" ⟨"WitnessPays", "feed", "(I)I"⟩ ⟨"WitnessPays", "feed", "(I)I"⟩ ∈ Ug := ug2 194 (by decide +kernel) (by decide +kernel)
theorem w_490 : Cond.code ⟨"WitnessPays", "feed", "(I)I"⟩ prog_1_method_8_code 2 (Option.some FieldType.int) ∈ Ug := ug2 195 (by decide +kernel) (by decide +kernel)
theorem w_491 : Cond.methodLink "WitnessPays" 116 ⟨"WitnessPays$LawText", "add", "(I)I"⟩ ∈ Ug := ug2 196 (by decide +kernel) (by decide +kernel)
theorem w_492 : Cond.instanceMethod ⟨"WitnessPays$LawText", "add", "(I)I"⟩ ∈ Ug := ug2 197 (by decide +kernel) (by decide +kernel)
theorem w_493 : Cond.selects "WitnessPays$LawText" ⟨"WitnessPays$LawText", "add", "(I)I"⟩ ⟨"WitnessPays$LawText", "add", "(I)I"⟩ ∈ Ug := ug2 198 (by decide +kernel) (by decide +kernel)
theorem w_494 : Cond.code ⟨"WitnessPays$LawText", "add", "(I)I"⟩ prog_4_method_2_code 2 (Option.some FieldType.int) ∈ Ug := ug2 199 (by decide +kernel) (by decide +kernel)
theorem w_495 : Cond.methodLink "WitnessPaysLaw" 45 ⟨"WitnessPays", "statute", "()I"⟩ ∈ Ug := ug2 200 (by decide +kernel) (by decide +kernel)
theorem w_496 : Cond.instanceMethod ⟨"WitnessPays", "statute", "()I"⟩ ∈ Ug := ug2 201 (by decide +kernel) (by decide +kernel)
theorem w_497 : Cond.selects "WitnessPays" ⟨"WitnessPays", "statute", "()I"⟩ ⟨"WitnessPays", "statute", "()I"⟩ ∈ Ug := ug2 202 (by decide +kernel) (by decide +kernel)
theorem w_498 : Cond.code ⟨"WitnessPays", "statute", "()I"⟩ prog_1_method_9_code 2 (Option.some FieldType.int) ∈ Ug := ug2 203 (by decide +kernel) (by decide +kernel)
theorem w_499 : Cond.methodLink "WitnessPays" 123 ⟨"WitnessPays$LawText", "enact", "()LWitnessPays$Law;"⟩ ∈ Ug := ug2 204 (by decide +kernel) (by decide +kernel)
theorem w_500 : Cond.instanceMethod ⟨"WitnessPays$LawText", "enact", "()LWitnessPays$Law;"⟩ ∈ Ug := ug2 205 (by decide +kernel) (by decide +kernel)
theorem w_501 : Cond.selects "WitnessPays$LawText" ⟨"WitnessPays$LawText", "enact", "()LWitnessPays$Law;"⟩ ⟨"WitnessPays$LawText", "enact", "()LWitnessPays$Law;"⟩ ∈ Ug := ug2 206 (by decide +kernel) (by decide +kernel)
theorem w_502 : Cond.code ⟨"WitnessPays$LawText", "enact", "()LWitnessPays$Law;"⟩ prog_4_method_3_code 3 (Option.some (FieldType.object "WitnessPays$Law")) ∈ Ug := ug2 207 (by decide +kernel) (by decide +kernel)
theorem w_503 : Cond.methodLink "WitnessPays$LawText" 29 ⟨"WitnessPays$Law", "clear", "()V"⟩ ∈ Ug := ug2 208 (by decide +kernel) (by decide +kernel)
theorem w_504 : Cond.instanceMethod ⟨"WitnessPays$Law", "clear", "()V"⟩ ∈ Ug := ug2 209 (by decide +kernel) (by decide +kernel)
theorem w_505 : Cond.selects "WitnessPays$Law" ⟨"WitnessPays$Law", "clear", "()V"⟩ ⟨"WitnessPays$Law", "clear", "()V"⟩ ∈ Ug := ug2 210 (by decide +kernel) (by decide +kernel)
theorem w_506 : Cond.code ⟨"WitnessPays$Law", "clear", "()V"⟩ prog_3_method_2_code 1 (Option.none : Option FieldType) ∈ Ug := ug2 211 (by decide +kernel) (by decide +kernel)
theorem w_507 : Cond.methodLink "WitnessPays$LawText" 32 ⟨"WitnessPays$LawText", "readClause", "()Z"⟩ ∈ Ug := ug2 212 (by decide +kernel) (by decide +kernel)
theorem w_509 : Cond.instanceMethod ⟨"WitnessPays$LawText", "readClause", "()Z"⟩ ∈ Ug := ug2 214 (by decide +kernel) (by decide +kernel)
theorem w_510 : Cond.code ⟨"WitnessPays$LawText", "readClause", "()Z"⟩ prog_4_method_4_code 3 (Option.some FieldType.boolean) ∈ Ug := ug2 215 (by decide +kernel) (by decide +kernel)
theorem w_511 : Cond.methodLink "WitnessPays$LawText" 40 ⟨"WitnessPays$LawText", "readWord", "()I"⟩ ∈ Ug := ug2 216 (by decide +kernel) (by decide +kernel)
theorem w_513 : Cond.instanceMethod ⟨"WitnessPays$LawText", "readWord", "()I"⟩ ∈ Ug := ug2 218 (by decide +kernel) (by decide +kernel)
theorem w_514 : Cond.code ⟨"WitnessPays$LawText", "readWord", "()I"⟩ prog_4_method_5_code 1 (Option.some FieldType.int) ∈ Ug := ug2 219 (by decide +kernel) (by decide +kernel)
theorem w_515 : Cond.methodLink "WitnessPays$LawText" 36 ⟨"WitnessPays$LawText", "take", "(C)Z"⟩ ∈ Ug := ug2 220 (by decide +kernel) (by decide +kernel)
theorem w_517 : Cond.instanceMethod ⟨"WitnessPays$LawText", "take", "(C)Z"⟩ ∈ Ug := ug2 222 (by decide +kernel) (by decide +kernel)
theorem w_518 : Cond.code ⟨"WitnessPays$LawText", "take", "(C)Z"⟩ prog_4_method_10_code 2 (Option.some FieldType.boolean) ∈ Ug := ug2 223 (by decide +kernel) (by decide +kernel)
theorem w_519 : Cond.methodLink "WitnessPays$LawText" 44 ⟨"WitnessPays$LawText", "readNumber", "()I"⟩ ∈ Ug := ug2 224 (by decide +kernel) (by decide +kernel)
theorem w_521 : Cond.instanceMethod ⟨"WitnessPays$LawText", "readNumber", "()I"⟩ ∈ Ug := ug2 226 (by decide +kernel) (by decide +kernel)
theorem w_522 : Cond.code ⟨"WitnessPays$LawText", "readNumber", "()I"⟩ prog_4_method_9_code 3 (Option.some FieldType.int) ∈ Ug := ug2 227 (by decide +kernel) (by decide +kernel)
theorem w_524 : Cond.methodLink "WitnessPays$LawText" 67 ⟨"WitnessPays$LawText", "takeAnyOf", "(Ljava/lang/String;)I"⟩ ∈ Ug := ug2 229 (by decide +kernel) (by decide +kernel)
theorem w_526 : Cond.instanceMethod ⟨"WitnessPays$LawText", "takeAnyOf", "(Ljava/lang/String;)I"⟩ ∈ Ug := ug2 231 (by decide +kernel) (by decide +kernel)
theorem w_527 : Cond.code ⟨"WitnessPays$LawText", "takeAnyOf", "(Ljava/lang/String;)I"⟩ prog_4_method_11_code 3 (Option.some FieldType.int) ∈ Ug := ug2 232 (by decide +kernel) (by decide +kernel)
theorem w_528 : Cond.methodLink "WitnessPays$LawText" 75 ⟨"java/lang/String", "indexOf", "(I)I"⟩ ∈ Ug := ug2 233 (by decide +kernel) (by decide +kernel)
theorem w_529 : Cond.instanceMethod ⟨"java/lang/String", "indexOf", "(I)I"⟩ ∈ Ug := ug2 234 (by decide +kernel) (by decide +kernel)
theorem w_530 : Cond.selects "java/lang/String" ⟨"java/lang/String", "indexOf", "(I)I"⟩ ⟨"java/lang/String", "indexOf", "(I)I"⟩ ∈ Ug := ug2 235 (by decide +kernel) (by decide +kernel)
theorem w_531 : Cond.code ⟨"java/lang/String", "indexOf", "(I)I"⟩ prog_16_method_79_code 2 (Option.some FieldType.int) ∈ Ug := ug2 236 (by decide +kernel) (by decide +kernel)
theorem w_532 : Cond.methodLink "java/lang/String" 633 ⟨"java/lang/String", "indexOf", "(II)I"⟩ ∈ Ug := ug2 237 (by decide +kernel) (by decide +kernel)
theorem w_533 : Cond.instanceMethod ⟨"java/lang/String", "indexOf", "(II)I"⟩ ∈ Ug := ug2 238 (by decide +kernel) (by decide +kernel)
theorem w_534 : Cond.selects "java/lang/String" ⟨"java/lang/String", "indexOf", "(II)I"⟩ ⟨"java/lang/String", "indexOf", "(II)I"⟩ ∈ Ug := ug2 239 (by decide +kernel) (by decide +kernel)
theorem w_535 : Cond.code ⟨"java/lang/String", "indexOf", "(II)I"⟩ prog_16_method_80_code 3 (Option.some FieldType.int) ∈ Ug := ug3 0 (by decide +kernel) (by decide +kernel)
theorem w_536 : Cond.methodLink "java/lang/String" 492 ⟨"java/lang/String", "isLatin1", "()Z"⟩ ∈ Ug := ug3 1 (by decide +kernel) (by decide +kernel)
theorem w_537 : Cond.instanceMethod ⟨"java/lang/String", "isLatin1", "()Z"⟩ ∈ Ug := ug3 2 (by decide +kernel) (by decide +kernel)
theorem w_538 : Cond.selects "java/lang/String" ⟨"java/lang/String", "isLatin1", "()Z"⟩ ⟨"java/lang/String", "isLatin1", "()Z"⟩ ∈ Ug := ug3 3 (by decide +kernel) (by decide +kernel)
theorem w_539 : Cond.code ⟨"java/lang/String", "isLatin1", "()Z"⟩ prog_16_method_154_code 1 (Option.some FieldType.boolean) ∈ Ug := ug3 4 (by decide +kernel) (by decide +kernel)
theorem w_540 : Cond.methodLink "java/lang/String" 505 ⟨"java/lang/String", "length", "()I"⟩ ∈ Ug := ug3 5 (by decide +kernel) (by decide +kernel)
theorem w_541 : Cond.methodLink "java/lang/String" 637 ⟨"java/lang/StringLatin1", "indexOf", "([BIII)I"⟩ ∈ Ug := ug3 6 (by decide +kernel) (by decide +kernel)
theorem w_542 : Cond.static ⟨"java/lang/StringLatin1", "indexOf", "([BIII)I"⟩ ∈ Ug := ug3 7 (by decide +kernel) (by decide +kernel)
theorem w_543 : Cond.code ⟨"java/lang/StringLatin1", "indexOf", "([BIII)I"⟩ prog_17_method_22_code 4 (Option.some FieldType.int) ∈ Ug := ug3 8 (by decide +kernel) (by decide +kernel)
theorem w_544 : Cond.methodLink "java/lang/StringLatin1" 88 ⟨"java/lang/StringLatin1", "canEncode", "(I)Z"⟩ ∈ Ug := ug3 9 (by decide +kernel) (by decide +kernel)
theorem w_545 : Cond.static ⟨"java/lang/StringLatin1", "canEncode", "(I)Z"⟩ ∈ Ug := ug3 10 (by decide +kernel) (by decide +kernel)
theorem w_546 : Cond.code ⟨"java/lang/StringLatin1", "canEncode", "(I)Z"⟩ prog_17_method_4_code 1 (Option.some FieldType.boolean) ∈ Ug := ug3 11 (by decide +kernel) (by decide +kernel)
theorem w_547 : Cond.methodLink "java/lang/StringLatin1" 92 ⟨"java/lang/Math", "max", "(II)I"⟩ ∈ Ug := ug3 12 (by decide +kernel) (by decide +kernel)
theorem w_548 : Cond.methodLink "java/lang/StringLatin1" 38 ⟨"java/lang/Math", "min", "(II)I"⟩ ∈ Ug := ug3 13 (by decide +kernel) (by decide +kernel)
theorem w_549 : Cond.methodLink "java/lang/StringLatin1" 95 ⟨"java/lang/StringLatin1", "indexOfChar", "([BIII)I"⟩ ∈ Ug := ug3 14 (by decide +kernel) (by decide +kernel)
theorem w_550 : Cond.static ⟨"java/lang/StringLatin1", "indexOfChar", "([BIII)I"⟩ ∈ Ug := ug3 15 (by decide +kernel) (by decide +kernel)
theorem w_551 : Cond.code ⟨"java/lang/StringLatin1", "indexOfChar", "([BIII)I"⟩ prog_17_method_23_code 6 (Option.some FieldType.int) ∈ Ug := ug3 16 (by decide +kernel) (by decide +kernel)
theorem w_552 : Cond.methodLink "java/lang/String" 640 ⟨"java/lang/StringUTF16", "indexOf", "([BIII)I"⟩ ∈ Ug := ug3 17 (by decide +kernel) (by decide +kernel)
theorem w_570 : Cond.fieldLink "java/lang/String" 1053 "jdk/internal/util/Preconditions" "SIOOBE_FORMATTER" "Ljava/util/function/BiFunction;" ∈ Ug := ug3 35 (by decide +kernel) (by decide +kernel)
theorem w_601 : Cond.methodLink "WitnessPays$LawText" 47 ⟨"WitnessPays$LawText", "readEither", "(I)Z"⟩ ∈ Ug := ug3 66 (by decide +kernel) (by decide +kernel)
theorem w_603 : Cond.instanceMethod ⟨"WitnessPays$LawText", "readEither", "(I)Z"⟩ ∈ Ug := ug3 68 (by decide +kernel) (by decide +kernel)
theorem w_604 : Cond.code ⟨"WitnessPays$LawText", "readEither", "(I)Z"⟩ prog_4_method_6_code 3 (Option.some FieldType.boolean) ∈ Ug := ug3 69 (by decide +kernel) (by decide +kernel)
theorem w_605 : Cond.methodLink "WitnessPays$LawText" 55 ⟨"WitnessPays$LawText", "readBoth", "(I)Z"⟩ ∈ Ug := ug3 70 (by decide +kernel) (by decide +kernel)
theorem w_607 : Cond.instanceMethod ⟨"WitnessPays$LawText", "readBoth", "(I)Z"⟩ ∈ Ug := ug3 72 (by decide +kernel) (by decide +kernel)
theorem w_608 : Cond.code ⟨"WitnessPays$LawText", "readBoth", "(I)Z"⟩ prog_4_method_7_code 3 (Option.some FieldType.boolean) ∈ Ug := ug3 73 (by decide +kernel) (by decide +kernel)
theorem w_609 : Cond.methodLink "WitnessPays$LawText" 62 ⟨"WitnessPays$LawText", "readFactor", "(I)Z"⟩ ∈ Ug := ug3 74 (by decide +kernel) (by decide +kernel)
theorem w_611 : Cond.instanceMethod ⟨"WitnessPays$LawText", "readFactor", "(I)Z"⟩ ∈ Ug := ug3 76 (by decide +kernel) (by decide +kernel)
theorem w_612 : Cond.code ⟨"WitnessPays$LawText", "readFactor", "(I)Z"⟩ prog_4_method_8_code 5 (Option.some FieldType.boolean) ∈ Ug := ug3 77 (by decide +kernel) (by decide +kernel)
theorem w_613 : Cond.methodLink "WitnessPays$LawText" 58 ⟨"WitnessPays$Law", "addStep", "(I)V"⟩ ∈ Ug := ug3 78 (by decide +kernel) (by decide +kernel)
theorem w_614 : Cond.instanceMethod ⟨"WitnessPays$Law", "addStep", "(I)V"⟩ ∈ Ug := ug3 79 (by decide +kernel) (by decide +kernel)
theorem w_615 : Cond.selects "WitnessPays$Law" ⟨"WitnessPays$Law", "addStep", "(I)V"⟩ ⟨"WitnessPays$Law", "addStep", "(I)V"⟩ ∈ Ug := ug3 80 (by decide +kernel) (by decide +kernel)
theorem w_616 : Cond.code ⟨"WitnessPays$Law", "addStep", "(I)V"⟩ prog_3_method_3_code 2 (Option.none : Option FieldType) ∈ Ug := ug3 81 (by decide +kernel) (by decide +kernel)
theorem w_619 : Cond.methodLink "WitnessPays$LawText" 51 ⟨"WitnessPays$Law", "endClause", "(II)V"⟩ ∈ Ug := ug3 84 (by decide +kernel) (by decide +kernel)
theorem w_620 : Cond.instanceMethod ⟨"WitnessPays$Law", "endClause", "(II)V"⟩ ∈ Ug := ug3 85 (by decide +kernel) (by decide +kernel)
theorem w_621 : Cond.selects "WitnessPays$Law" ⟨"WitnessPays$Law", "endClause", "(II)V"⟩ ⟨"WitnessPays$Law", "endClause", "(II)V"⟩ ∈ Ug := ug3 86 (by decide +kernel) (by decide +kernel)
theorem w_622 : Cond.code ⟨"WitnessPays$Law", "endClause", "(II)V"⟩ prog_3_method_4_code 3 (Option.none : Option FieldType) ∈ Ug := ug3 87 (by decide +kernel) (by decide +kernel)
theorem w_623 : Cond.methodLink "WitnessPaysLaw" 50 ⟨"WitnessPays", "told", "(I)I"⟩ ∈ Ug := ug3 88 (by decide +kernel) (by decide +kernel)
theorem w_624 : Cond.instanceMethod ⟨"WitnessPays", "told", "(I)I"⟩ ∈ Ug := ug3 89 (by decide +kernel) (by decide +kernel)
theorem w_625 : Cond.selects "WitnessPays" ⟨"WitnessPays", "told", "(I)I"⟩ ⟨"WitnessPays", "told", "(I)I"⟩ ∈ Ug := ug3 90 (by decide +kernel) (by decide +kernel)
theorem w_626 : Cond.code ⟨"WitnessPays", "told", "(I)I"⟩ prog_1_method_10_code 3 (Option.some FieldType.int) ∈ Ug := ug3 91 (by decide +kernel) (by decide +kernel)
theorem w_627 : Cond.methodLink "WitnessPays" 140 ⟨"WitnessPays$Street", "purses", "()I"⟩ ∈ Ug := ug3 92 (by decide +kernel) (by decide +kernel)
theorem w_628 : Cond.instanceMethod ⟨"WitnessPays$Street", "purses", "()I"⟩ ∈ Ug := ug3 93 (by decide +kernel) (by decide +kernel)
theorem w_629 : Cond.selects "WitnessPays$Street" ⟨"WitnessPays$Street", "purses", "()I"⟩ ⟨"WitnessPays$Street", "purses", "()I"⟩ ∈ Ug := ug3 94 (by decide +kernel) (by decide +kernel)
theorem w_630 : Cond.code ⟨"WitnessPays$Street", "purses", "()I"⟩ prog_7_method_19_code 3 (Option.some FieldType.int) ∈ Ug := ug3 95 (by decide +kernel) (by decide +kernel)
theorem w_631 : Cond.methodLink "WitnessPays" 144 ⟨"WitnessPays$Street", "firstUnseen", "()I"⟩ ∈ Ug := ug3 96 (by decide +kernel) (by decide +kernel)
theorem w_632 : Cond.instanceMethod ⟨"WitnessPays$Street", "firstUnseen", "()I"⟩ ∈ Ug := ug3 97 (by decide +kernel) (by decide +kernel)
theorem w_633 : Cond.selects "WitnessPays$Street" ⟨"WitnessPays$Street", "firstUnseen", "()I"⟩ ⟨"WitnessPays$Street", "firstUnseen", "()I"⟩ ∈ Ug := ug3 98 (by decide +kernel) (by decide +kernel)
theorem w_634 : Cond.code ⟨"WitnessPays$Street", "firstUnseen", "()I"⟩ prog_7_method_15_code 2 (Option.some FieldType.int) ∈ Ug := ug3 99 (by decide +kernel) (by decide +kernel)
theorem w_635 : Cond.methodLink "WitnessPays" 147 ⟨"WitnessPays$Street", "unseenPlaces", "()I"⟩ ∈ Ug := ug3 100 (by decide +kernel) (by decide +kernel)
theorem w_636 : Cond.instanceMethod ⟨"WitnessPays$Street", "unseenPlaces", "()I"⟩ ∈ Ug := ug3 101 (by decide +kernel) (by decide +kernel)
theorem w_637 : Cond.selects "WitnessPays$Street" ⟨"WitnessPays$Street", "unseenPlaces", "()I"⟩ ⟨"WitnessPays$Street", "unseenPlaces", "()I"⟩ ∈ Ug := ug3 102 (by decide +kernel) (by decide +kernel)
theorem w_638 : Cond.code ⟨"WitnessPays$Street", "unseenPlaces", "()I"⟩ prog_7_method_16_code 3 (Option.some FieldType.int) ∈ Ug := ug3 103 (by decide +kernel) (by decide +kernel)
theorem w_639 : Cond.methodLink "WitnessPays" 150 ⟨"WitnessPays$Street", "mostSeenPlace", "()I"⟩ ∈ Ug := ug3 104 (by decide +kernel) (by decide +kernel)
theorem w_640 : Cond.instanceMethod ⟨"WitnessPays$Street", "mostSeenPlace", "()I"⟩ ∈ Ug := ug3 105 (by decide +kernel) (by decide +kernel)
theorem w_641 : Cond.selects "WitnessPays$Street" ⟨"WitnessPays$Street", "mostSeenPlace", "()I"⟩ ⟨"WitnessPays$Street", "mostSeenPlace", "()I"⟩ ∈ Ug := ug3 106 (by decide +kernel) (by decide +kernel)
theorem w_642 : Cond.code ⟨"WitnessPays$Street", "mostSeenPlace", "()I"⟩ prog_7_method_17_code 5 (Option.some FieldType.int) ∈ Ug := ug3 107 (by decide +kernel) (by decide +kernel)
theorem w_643 : Cond.methodLink "WitnessPays$Street" 93 ⟨"java/lang/Integer", "bitCount", "(I)I"⟩ ∈ Ug := ug3 108 (by decide +kernel) (by decide +kernel)
theorem w_644 : Cond.methodLink "WitnessPays" 153 ⟨"WitnessPays$Street", "dearestPlace", "()I"⟩ ∈ Ug := ug3 109 (by decide +kernel) (by decide +kernel)
theorem w_645 : Cond.instanceMethod ⟨"WitnessPays$Street", "dearestPlace", "()I"⟩ ∈ Ug := ug3 110 (by decide +kernel) (by decide +kernel)
theorem w_646 : Cond.selects "WitnessPays$Street" ⟨"WitnessPays$Street", "dearestPlace", "()I"⟩ ⟨"WitnessPays$Street", "dearestPlace", "()I"⟩ ∈ Ug := ug3 111 (by decide +kernel) (by decide +kernel)
theorem w_647 : Cond.code ⟨"WitnessPays$Street", "dearestPlace", "()I"⟩ prog_7_method_18_code 5 (Option.some FieldType.int) ∈ Ug := ug3 112 (by decide +kernel) (by decide +kernel)
theorem w_648 : Cond.methodLink "WitnessPays$Street" 98 ⟨"WitnessPays$Street", "paidBy", "(I)I"⟩ ∈ Ug := ug3 113 (by decide +kernel) (by decide +kernel)
theorem w_650 : Cond.instanceMethod ⟨"WitnessPays$Street", "paidBy", "(I)I"⟩ ∈ Ug := ug3 115 (by decide +kernel) (by decide +kernel)
theorem w_651 : Cond.code ⟨"WitnessPays$Street", "paidBy", "(I)I"⟩ prog_7_method_21_code 4 (Option.some FieldType.int) ∈ Ug := ug3 116 (by decide +kernel) (by decide +kernel)
theorem w_652 : Cond.methodLink "WitnessPays$Street" 107 ⟨"WitnessPays$Street", "paidByOne", "(LWitnessPays$Person;I)I"⟩ ∈ Ug := ug3 117 (by decide +kernel) (by decide +kernel)
theorem w_653 : Cond.instanceMethod ⟨"WitnessPays$Street", "paidByOne", "(LWitnessPays$Person;I)I"⟩ ∈ Ug := ug3 118 (by decide +kernel) (by decide +kernel)
theorem w_654 : Cond.selects "WitnessPays$Street" ⟨"WitnessPays$Street", "paidByOne", "(LWitnessPays$Person;I)I"⟩ ⟨"WitnessPays$Street", "paidByOne", "(LWitnessPays$Person;I)I"⟩ ∈ Ug := ug3 119 (by decide +kernel) (by decide +kernel)
theorem w_655 : Cond.code ⟨"WitnessPays$Street", "paidByOne", "(LWitnessPays$Person;I)I"⟩ prog_7_method_22_code 6 (Option.some FieldType.int) ∈ Ug := ug3 120 (by decide +kernel) (by decide +kernel)
theorem w_656 : Cond.methodLink "WitnessPays$Street" 116 ⟨"java/lang/Math", "min", "(II)I"⟩ ∈ Ug := ug3 121 (by decide +kernel) (by decide +kernel)
theorem w_657 : Cond.methodLink "WitnessPaysLaw" 54 ⟨"WitnessPays", "deed", "(I)I"⟩ ∈ Ug := ug3 122 (by decide +kernel) (by decide +kernel)
theorem w_658 : Cond.instanceMethod ⟨"WitnessPays", "deed", "(I)I"⟩ ∈ Ug := ug3 123 (by decide +kernel) (by decide +kernel)
theorem w_659 : Cond.selects "WitnessPays" ⟨"WitnessPays", "deed", "(I)I"⟩ ⟨"WitnessPays", "deed", "(I)I"⟩ ∈ Ug := ug3 124 (by decide +kernel) (by decide +kernel)
theorem w_660 : Cond.code ⟨"WitnessPays", "deed", "(I)I"⟩ prog_1_method_11_code 2 (Option.some FieldType.int) ∈ Ug := ug3 125 (by decide +kernel) (by decide +kernel)
theorem w_661 : Cond.methodLink "WitnessPays" 156 ⟨"WitnessPays$Street", "collect", "(I)I"⟩ ∈ Ug := ug3 126 (by decide +kernel) (by decide +kernel)
theorem w_662 : Cond.instanceMethod ⟨"WitnessPays$Street", "collect", "(I)I"⟩ ∈ Ug := ug3 127 (by decide +kernel) (by decide +kernel)
theorem w_663 : Cond.selects "WitnessPays$Street" ⟨"WitnessPays$Street", "collect", "(I)I"⟩ ⟨"WitnessPays$Street", "collect", "(I)I"⟩ ∈ Ug := ug3 128 (by decide +kernel) (by decide +kernel)
theorem w_664 : Cond.code ⟨"WitnessPays$Street", "collect", "(I)I"⟩ prog_7_method_23_code 6 (Option.some FieldType.int) ∈ Ug := ug3 129 (by decide +kernel) (by decide +kernel)
theorem w_665 : Cond.methodLink "WitnessPaysLaw" 58 ⟨"WitnessPays", "pass", "(I)I"⟩ ∈ Ug := ug3 130 (by decide +kernel) (by decide +kernel)
theorem w_666 : Cond.instanceMethod ⟨"WitnessPays", "pass", "(I)I"⟩ ∈ Ug := ug3 131 (by decide +kernel) (by decide +kernel)
theorem w_667 : Cond.selects "WitnessPays" ⟨"WitnessPays", "pass", "(I)I"⟩ ⟨"WitnessPays", "pass", "(I)I"⟩ ∈ Ug := ug3 132 (by decide +kernel) (by decide +kernel)
theorem w_668 : Cond.code ⟨"WitnessPays", "pass", "(I)I"⟩ prog_1_method_12_code 2 (Option.some FieldType.int) ∈ Ug := ug3 133 (by decide +kernel) (by decide +kernel)
theorem w_669 : Cond.methodLink "WitnessPays" 159 ⟨"WitnessPays$Street", "goOn", "(I)V"⟩ ∈ Ug := ug3 134 (by decide +kernel) (by decide +kernel)
theorem w_670 : Cond.instanceMethod ⟨"WitnessPays$Street", "goOn", "(I)V"⟩ ∈ Ug := ug3 135 (by decide +kernel) (by decide +kernel)
theorem w_671 : Cond.selects "WitnessPays$Street" ⟨"WitnessPays$Street", "goOn", "(I)V"⟩ ⟨"WitnessPays$Street", "goOn", "(I)V"⟩ ∈ Ug := ug3 136 (by decide +kernel) (by decide +kernel)
theorem w_672 : Cond.code ⟨"WitnessPays$Street", "goOn", "(I)V"⟩ prog_7_method_6_code 3 (Option.none : Option FieldType) ∈ Ug := ug3 137 (by decide +kernel) (by decide +kernel)
theorem w_673 : Cond.methodLink "WitnessPays$Street" 50 ⟨"WitnessPays$Person", "walk", "(I)V"⟩ ∈ Ug := ug3 138 (by decide +kernel) (by decide +kernel)
theorem w_674 : Cond.instanceMethod ⟨"WitnessPays$Person", "walk", "(I)V"⟩ ∈ Ug := ug3 139 (by decide +kernel) (by decide +kernel)
theorem w_675 : Cond.selects "WitnessPays$Person" ⟨"WitnessPays$Person", "walk", "(I)V"⟩ ⟨"WitnessPays$Person", "walk", "(I)V"⟩ ∈ Ug := ug3 140 (by decide +kernel) (by decide +kernel)
theorem w_676 : Cond.code ⟨"WitnessPays$Person", "walk", "(I)V"⟩ prog_5_method_5_code 2 (Option.none : Option FieldType) ∈ Ug := ug3 141 (by decide +kernel) (by decide +kernel)
theorem w_677 : Cond.methodLink "WitnessPaysLaw" 62 ⟨"WitnessPays", "at", "(II)I"⟩ ∈ Ug := ug3 142 (by decide +kernel) (by decide +kernel)
theorem w_678 : Cond.instanceMethod ⟨"WitnessPays", "at", "(II)I"⟩ ∈ Ug := ug3 143 (by decide +kernel) (by decide +kernel)
theorem w_679 : Cond.selects "WitnessPays" ⟨"WitnessPays", "at", "(II)I"⟩ ⟨"WitnessPays", "at", "(II)I"⟩ ∈ Ug := ug3 144 (by decide +kernel) (by decide +kernel)
theorem w_680 : Cond.code ⟨"WitnessPays", "at", "(II)I"⟩ prog_1_method_13_code 3 (Option.some FieldType.int) ∈ Ug := ug3 145 (by decide +kernel) (by decide +kernel)
theorem w_681 : Cond.methodLink "WitnessPays" 163 ⟨"WitnessPays$Street", "seers", "(I)I"⟩ ∈ Ug := ug3 146 (by decide +kernel) (by decide +kernel)
theorem w_682 : Cond.instanceMethod ⟨"WitnessPays$Street", "seers", "(I)I"⟩ ∈ Ug := ug3 147 (by decide +kernel) (by decide +kernel)
theorem w_683 : Cond.selects "WitnessPays$Street" ⟨"WitnessPays$Street", "seers", "(I)I"⟩ ⟨"WitnessPays$Street", "seers", "(I)I"⟩ ∈ Ug := ug3 148 (by decide +kernel) (by decide +kernel)
theorem w_684 : Cond.code ⟨"WitnessPays$Street", "seers", "(I)I"⟩ prog_7_method_12_code 2 (Option.some FieldType.int) ∈ Ug := ug3 149 (by decide +kernel) (by decide +kernel)
theorem w_685 : Cond.methodLink "WitnessPays" 166 ⟨"WitnessPays$Street", "paidFor", "(I)I"⟩ ∈ Ug := ug3 150 (by decide +kernel) (by decide +kernel)
theorem w_686 : Cond.instanceMethod ⟨"WitnessPays$Street", "paidFor", "(I)I"⟩ ∈ Ug := ug3 151 (by decide +kernel) (by decide +kernel)
theorem w_687 : Cond.selects "WitnessPays$Street" ⟨"WitnessPays$Street", "paidFor", "(I)I"⟩ ⟨"WitnessPays$Street", "paidFor", "(I)I"⟩ ∈ Ug := ug3 152 (by decide +kernel) (by decide +kernel)
theorem w_688 : Cond.code ⟨"WitnessPays$Street", "paidFor", "(I)I"⟩ prog_7_method_20_code 2 (Option.some FieldType.int) ∈ Ug := ug3 153 (by decide +kernel) (by decide +kernel)
theorem w_689 : Cond.methodLink "WitnessPays$Street" 104 ⟨"WitnessPays$Street", "seers", "(I)I"⟩ ∈ Ug := ug3 154 (by decide +kernel) (by decide +kernel)
theorem w_690 : Cond.methodLink "WitnessPays" 169 ⟨"WitnessPays$WhatIf", "daysUntilUnseen", "(ILWitnessPays$Street;)I"⟩ ∈ Ug := ug3 155 (by decide +kernel) (by decide +kernel)
theorem w_691 : Cond.instanceMethod ⟨"WitnessPays$WhatIf", "daysUntilUnseen", "(ILWitnessPays$Street;)I"⟩ ∈ Ug := ug3 156 (by decide +kernel) (by decide +kernel)
theorem w_692 : Cond.selects "WitnessPays$WhatIf" ⟨"WitnessPays$WhatIf", "daysUntilUnseen", "(ILWitnessPays$Street;)I"⟩ ⟨"WitnessPays$WhatIf", "daysUntilUnseen", "(ILWitnessPays$Street;)I"⟩ ∈ Ug := ug3 157 (by decide +kernel) (by decide +kernel)
theorem w_693 : Cond.code ⟨"WitnessPays$WhatIf", "daysUntilUnseen", "(ILWitnessPays$Street;)I"⟩ prog_10_method_3_code 4 (Option.some FieldType.int) ∈ Ug := ug3 158 (by decide +kernel) (by decide +kernel)
theorem w_694 : Cond.methodLink "WitnessPays$WhatIf" 44 ⟨"WitnessPays$Street", "seers", "(I)I"⟩ ∈ Ug := ug3 159 (by decide +kernel) (by decide +kernel)
theorem w_695 : Cond.methodLink "WitnessPays$WhatIf" 47 ⟨"WitnessPays$Street", "goOn", "(I)V"⟩ ∈ Ug := ug3 160 (by decide +kernel) (by decide +kernel)
theorem w_696 : Cond.methodLink "WitnessPays" 172 ⟨"WitnessPays$Street", "bricks", "(I)I"⟩ ∈ Ug := ug3 161 (by decide +kernel) (by decide +kernel)
theorem w_697 : Cond.instanceMethod ⟨"WitnessPays$Street", "bricks", "(I)I"⟩ ∈ Ug := ug3 162 (by decide +kernel) (by decide +kernel)
theorem w_698 : Cond.selects "WitnessPays$Street" ⟨"WitnessPays$Street", "bricks", "(I)I"⟩ ⟨"WitnessPays$Street", "bricks", "(I)I"⟩ ∈ Ug := ug3 163 (by decide +kernel) (by decide +kernel)
theorem w_699 : Cond.code ⟨"WitnessPays$Street", "bricks", "(I)I"⟩ prog_7_method_24_code 5 (Option.some FieldType.int) ∈ Ug := ug3 164 (by decide +kernel) (by decide +kernel)
theorem w_700 : Cond.methodLink "WitnessPaysLaw" 66 ⟨"WitnessPays", "share", "(II)I"⟩ ∈ Ug := ug3 165 (by decide +kernel) (by decide +kernel)
theorem w_701 : Cond.instanceMethod ⟨"WitnessPays", "share", "(II)I"⟩ ∈ Ug := ug3 166 (by decide +kernel) (by decide +kernel)
theorem w_702 : Cond.selects "WitnessPays" ⟨"WitnessPays", "share", "(II)I"⟩ ⟨"WitnessPays", "share", "(II)I"⟩ ∈ Ug := ug3 167 (by decide +kernel) (by decide +kernel)
theorem w_703 : Cond.code ⟨"WitnessPays", "share", "(II)I"⟩ prog_1_method_14_code 4 (Option.some FieldType.int) ∈ Ug := ug3 168 (by decide +kernel) (by decide +kernel)
theorem w_704 : Cond.methodLink "WitnessPays" 175 ⟨"WitnessPays$Street", "paidByOne", "(LWitnessPays$Person;I)I"⟩ ∈ Ug := ug3 169 (by decide +kernel) (by decide +kernel)
theorem w_705 : Cond.methodLink "WitnessPaysLaw" 70 ⟨"WitnessPays", "see", "(III)I"⟩ ∈ Ug := ug3 170 (by decide +kernel) (by decide +kernel)
theorem w_706 : Cond.instanceMethod ⟨"WitnessPays", "see", "(III)I"⟩ ∈ Ug := ug3 171 (by decide +kernel) (by decide +kernel)
theorem w_707 : Cond.selects "WitnessPays" ⟨"WitnessPays", "see", "(III)I"⟩ ⟨"WitnessPays", "see", "(III)I"⟩ ∈ Ug := ug3 172 (by decide +kernel) (by decide +kernel)
theorem w_708 : Cond.code ⟨"WitnessPays", "see", "(III)I"⟩ prog_1_method_15_code 4 (Option.some FieldType.int) ∈ Ug := ug3 173 (by decide +kernel) (by decide +kernel)
theorem w_709 : Cond.methodLink "WitnessPays" 183 ⟨"WitnessPays$Table", "empty", "()I"⟩ ∈ Ug := ug3 174 (by decide +kernel) (by decide +kernel)
theorem w_710 : Cond.instanceMethod ⟨"WitnessPays$Table", "empty", "()I"⟩ ∈ Ug := ug3 175 (by decide +kernel) (by decide +kernel)
theorem w_711 : Cond.selects "WitnessPays$Table" ⟨"WitnessPays$Table", "empty", "()I"⟩ ⟨"WitnessPays$Table", "empty", "()I"⟩ ∈ Ug := ug3 176 (by decide +kernel) (by decide +kernel)
theorem w_712 : Cond.code ⟨"WitnessPays$Table", "empty", "()I"⟩ prog_8_method_2_code 1 (Option.some FieldType.int) ∈ Ug := ug3 177 (by decide +kernel) (by decide +kernel)
theorem w_713 : Cond.methodLink "WitnessPays" 188 ⟨"WitnessPays$Table", "add", "(III)I"⟩ ∈ Ug := ug3 178 (by decide +kernel) (by decide +kernel)
theorem w_714 : Cond.instanceMethod ⟨"WitnessPays$Table", "add", "(III)I"⟩ ∈ Ug := ug3 179 (by decide +kernel) (by decide +kernel)
theorem w_715 : Cond.selects "WitnessPays$Table" ⟨"WitnessPays$Table", "add", "(III)I"⟩ ⟨"WitnessPays$Table", "add", "(III)I"⟩ ∈ Ug := ug3 180 (by decide +kernel) (by decide +kernel)
theorem w_716 : Cond.code ⟨"WitnessPays$Table", "add", "(III)I"⟩ prog_8_method_3_code 5 (Option.some FieldType.int) ∈ Ug := ug3 181 (by decide +kernel) (by decide +kernel)
theorem w_717 : Cond.methodLink "WitnessPaysLaw" 74 ⟨"WitnessPays", "wrong", "()I"⟩ ∈ Ug := ug3 182 (by decide +kernel) (by decide +kernel)
theorem w_718 : Cond.instanceMethod ⟨"WitnessPays", "wrong", "()I"⟩ ∈ Ug := ug3 183 (by decide +kernel) (by decide +kernel)
theorem w_719 : Cond.selects "WitnessPays" ⟨"WitnessPays", "wrong", "()I"⟩ ⟨"WitnessPays", "wrong", "()I"⟩ ∈ Ug := ug3 184 (by decide +kernel) (by decide +kernel)
theorem w_720 : Cond.code ⟨"WitnessPays", "wrong", "()I"⟩ prog_1_method_16_code 1 (Option.some FieldType.int) ∈ Ug := ug3 185 (by decide +kernel) (by decide +kernel)
theorem w_721 : Cond.methodLink "WitnessPays" 190 ⟨"WitnessPays$WhatIf", "firstFalse", "(LWitnessPays$Table;LWitnessPays$Street;)I"⟩ ∈ Ug := ug3 186 (by decide +kernel) (by decide +kernel)
theorem w_722 : Cond.instanceMethod ⟨"WitnessPays$WhatIf", "firstFalse", "(LWitnessPays$Table;LWitnessPays$Street;)I"⟩ ∈ Ug := ug3 187 (by decide +kernel) (by decide +kernel)
theorem w_723 : Cond.selects "WitnessPays$WhatIf" ⟨"WitnessPays$WhatIf", "firstFalse", "(LWitnessPays$Table;LWitnessPays$Street;)I"⟩ ⟨"WitnessPays$WhatIf", "firstFalse", "(LWitnessPays$Table;LWitnessPays$Street;)I"⟩ ∈ Ug := ug3 188 (by decide +kernel) (by decide +kernel)
theorem w_724 : Cond.code ⟨"WitnessPays$WhatIf", "firstFalse", "(LWitnessPays$Table;LWitnessPays$Street;)I"⟩ prog_10_method_4_code 4 (Option.some FieldType.int) ∈ Ug := ug3 189 (by decide +kernel) (by decide +kernel)
theorem w_725 : Cond.methodLink "WitnessPays$WhatIf" 56 ⟨"WitnessPays$Table", "cell", "(II)I"⟩ ∈ Ug := ug3 190 (by decide +kernel) (by decide +kernel)
theorem w_726 : Cond.instanceMethod ⟨"WitnessPays$Table", "cell", "(II)I"⟩ ∈ Ug := ug3 191 (by decide +kernel) (by decide +kernel)
theorem w_727 : Cond.selects "WitnessPays$Table" ⟨"WitnessPays$Table", "cell", "(II)I"⟩ ⟨"WitnessPays$Table", "cell", "(II)I"⟩ ∈ Ug := ug3 192 (by decide +kernel) (by decide +kernel)
theorem w_728 : Cond.code ⟨"WitnessPays$Table", "cell", "(II)I"⟩ prog_8_method_4_code 4 (Option.some FieldType.int) ∈ Ug := ug3 193 (by decide +kernel) (by decide +kernel)
theorem nw_729 : Cond.methodLinkNest "WitnessPays$Table" 22 ⟨"WitnessPays", "isWithin", "(II)Z"⟩ "WitnessPays" ∈ nestW := nw3 194 (by decide +kernel) (by decide +kernel)
theorem w_730 : Cond.methodLink "WitnessPaysLaw" 78 ⟨"WitnessPays", "from", "(I)I"⟩ ∈ Ug := ug3 195 (by decide +kernel) (by decide +kernel)
theorem w_731 : Cond.instanceMethod ⟨"WitnessPays", "from", "(I)I"⟩ ∈ Ug := ug3 196 (by decide +kernel) (by decide +kernel)
theorem w_732 : Cond.selects "WitnessPays" ⟨"WitnessPays", "from", "(I)I"⟩ ⟨"WitnessPays", "from", "(I)I"⟩ ∈ Ug := ug3 197 (by decide +kernel) (by decide +kernel)
theorem w_733 : Cond.code ⟨"WitnessPays", "from", "(I)I"⟩ prog_1_method_17_code 5 (Option.some FieldType.int) ∈ Ug := ug3 198 (by decide +kernel) (by decide +kernel)
theorem w_734 : Cond.methodLink "WitnessPays" 194 ⟨"WitnessPays$WhatIf", "agrees", "(IIILWitnessPays$Table;LWitnessPays$Street;)Z"⟩ ∈ Ug := ug3 199 (by decide +kernel) (by decide +kernel)
theorem w_735 : Cond.instanceMethod ⟨"WitnessPays$WhatIf", "agrees", "(IIILWitnessPays$Table;LWitnessPays$Street;)Z"⟩ ∈ Ug := ug3 200 (by decide +kernel) (by decide +kernel)
theorem w_736 : Cond.selects "WitnessPays$WhatIf" ⟨"WitnessPays$WhatIf", "agrees", "(IIILWitnessPays$Table;LWitnessPays$Street;)Z"⟩ ⟨"WitnessPays$WhatIf", "agrees", "(IIILWitnessPays$Table;LWitnessPays$Street;)Z"⟩ ∈ Ug := ug3 201 (by decide +kernel) (by decide +kernel)
theorem w_737 : Cond.code ⟨"WitnessPays$WhatIf", "agrees", "(IIILWitnessPays$Table;LWitnessPays$Street;)Z"⟩ prog_10_method_5_code 9 (Option.some FieldType.boolean) ∈ Ug := ug3 202 (by decide +kernel) (by decide +kernel)
theorem w_738 : Cond.methodLink "WitnessPaysLaw" 82 ⟨"WitnessPays", "can", "(II)I"⟩ ∈ Ug := ug3 203 (by decide +kernel) (by decide +kernel)
theorem w_739 : Cond.instanceMethod ⟨"WitnessPays", "can", "(II)I"⟩ ∈ Ug := ug3 204 (by decide +kernel) (by decide +kernel)
theorem w_740 : Cond.selects "WitnessPays" ⟨"WitnessPays", "can", "(II)I"⟩ ⟨"WitnessPays", "can", "(II)I"⟩ ∈ Ug := ug3 205 (by decide +kernel) (by decide +kernel)
theorem w_741 : Cond.code ⟨"WitnessPays", "can", "(II)I"⟩ prog_1_method_18_code 7 (Option.some FieldType.int) ∈ Ug := ug3 206 (by decide +kernel) (by decide +kernel)
theorem w_742 : Cond.methodLink "WitnessPaysLaw" 86 ⟨"WitnessPays", "odds", "(II)J"⟩ ∈ Ug := ug3 207 (by decide +kernel) (by decide +kernel)
theorem w_743 : Cond.instanceMethod ⟨"WitnessPays", "odds", "(II)J"⟩ ∈ Ug := ug3 208 (by decide +kernel) (by decide +kernel)
theorem w_744 : Cond.selects "WitnessPays" ⟨"WitnessPays", "odds", "(II)J"⟩ ⟨"WitnessPays", "odds", "(II)J"⟩ ∈ Ug := ug3 209 (by decide +kernel) (by decide +kernel)
theorem w_745 : Cond.code ⟨"WitnessPays", "odds", "(II)J"⟩ prog_1_method_19_code 7 (Option.some FieldType.long) ∈ Ug := ug3 210 (by decide +kernel) (by decide +kernel)
theorem w_746 : Cond.constantLong "WitnessPays" 201 (-9223372036854775808) ∈ Ug := ug3 211 (by decide +kernel) (by decide +kernel)
theorem w_747 : Cond.methodLink "WitnessPays" 203 ⟨"WitnessPays", "lowestTerms", "(III)J"⟩ ∈ Ug := ug3 212 (by decide +kernel) (by decide +kernel)
theorem w_748 : Cond.static ⟨"WitnessPays", "lowestTerms", "(III)J"⟩ ∈ Ug := ug3 213 (by decide +kernel) (by decide +kernel)
theorem w_749 : Cond.code ⟨"WitnessPays", "lowestTerms", "(III)J"⟩ prog_1_method_40_code 7 (Option.some FieldType.long) ∈ Ug := ug3 214 (by decide +kernel) (by decide +kernel)
theorem w_750 : Cond.methodLink "WitnessPaysLaw" 91 ⟨"WitnessPays", "mean", "(I)J"⟩ ∈ Ug := ug3 215 (by decide +kernel) (by decide +kernel)
theorem w_751 : Cond.instanceMethod ⟨"WitnessPays", "mean", "(I)J"⟩ ∈ Ug := ug3 216 (by decide +kernel) (by decide +kernel)
theorem w_752 : Cond.selects "WitnessPays" ⟨"WitnessPays", "mean", "(I)J"⟩ ⟨"WitnessPays", "mean", "(I)J"⟩ ∈ Ug := ug3 217 (by decide +kernel) (by decide +kernel)
theorem w_753 : Cond.code ⟨"WitnessPays", "mean", "(I)J"⟩ prog_1_method_20_code 4 (Option.some FieldType.long) ∈ Ug := ug3 218 (by decide +kernel) (by decide +kernel)
theorem w_754 : Cond.methodLink "WitnessPaysLaw" 96 ⟨"WitnessPays", "plan", "(II)I"⟩ ∈ Ug := ug3 219 (by decide +kernel) (by decide +kernel)
theorem w_755 : Cond.instanceMethod ⟨"WitnessPays", "plan", "(II)I"⟩ ∈ Ug := ug3 220 (by decide +kernel) (by decide +kernel)
theorem w_756 : Cond.selects "WitnessPays" ⟨"WitnessPays", "plan", "(II)I"⟩ ⟨"WitnessPays", "plan", "(II)I"⟩ ∈ Ug := ug3 221 (by decide +kernel) (by decide +kernel)
theorem w_757 : Cond.code ⟨"WitnessPays", "plan", "(II)I"⟩ prog_1_method_21_code 3 (Option.some FieldType.int) ∈ Ug := ug3 222 (by decide +kernel) (by decide +kernel)
theorem w_758 : Cond.methodLink "WitnessPays" 210 ⟨"WitnessPays", "isPlanRow", "(II)Z"⟩ ∈ Ug := ug3 223 (by decide +kernel) (by decide +kernel)
theorem w_760 : Cond.instanceMethod ⟨"WitnessPays", "isPlanRow", "(II)Z"⟩ ∈ Ug := ug3 225 (by decide +kernel) (by decide +kernel)
theorem w_761 : Cond.code ⟨"WitnessPays", "isPlanRow", "(II)Z"⟩ prog_1_method_38_code 3 (Option.some FieldType.boolean) ∈ Ug := ug3 226 (by decide +kernel) (by decide +kernel)
theorem w_762 : Cond.methodLink "WitnessPaysLaw" 100 ⟨"WitnessPays", "ends", "(I)I"⟩ ∈ Ug := ug3 227 (by decide +kernel) (by decide +kernel)
theorem w_763 : Cond.instanceMethod ⟨"WitnessPays", "ends", "(I)I"⟩ ∈ Ug := ug3 228 (by decide +kernel) (by decide +kernel)
theorem w_764 : Cond.selects "WitnessPays" ⟨"WitnessPays", "ends", "(I)I"⟩ ⟨"WitnessPays", "ends", "(I)I"⟩ ∈ Ug := ug3 229 (by decide +kernel) (by decide +kernel)
theorem w_765 : Cond.code ⟨"WitnessPays", "ends", "(I)I"⟩ prog_1_method_22_code 3 (Option.some FieldType.int) ∈ Ug := ug3 230 (by decide +kernel) (by decide +kernel)
theorem w_766 : Cond.methodLink "WitnessPays" 213 ⟨"WitnessPays$WhatIf", "afterPlan", "(LWitnessPays$Table;LWitnessPays$Street;)LWitnessPays$Street;"⟩ ∈ Ug := ug3 231 (by decide +kernel) (by decide +kernel)
theorem w_767 : Cond.instanceMethod ⟨"WitnessPays$WhatIf", "afterPlan", "(LWitnessPays$Table;LWitnessPays$Street;)LWitnessPays$Street;"⟩ ∈ Ug := ug3 232 (by decide +kernel) (by decide +kernel)
theorem w_768 : Cond.selects "WitnessPays$WhatIf" ⟨"WitnessPays$WhatIf", "afterPlan", "(LWitnessPays$Table;LWitnessPays$Street;)LWitnessPays$Street;"⟩ ⟨"WitnessPays$WhatIf", "afterPlan", "(LWitnessPays$Table;LWitnessPays$Street;)LWitnessPays$Street;"⟩ ∈ Ug := ug3 233 (by decide +kernel) (by decide +kernel)
theorem w_769 : Cond.code ⟨"WitnessPays$WhatIf", "afterPlan", "(LWitnessPays$Table;LWitnessPays$Street;)LWitnessPays$Street;"⟩ prog_10_method_6_code 5 (Option.some (FieldType.object "WitnessPays$Street")) ∈ Ug := ug3 234 (by decide +kernel) (by decide +kernel)
theorem w_770 : Cond.methodLink "WitnessPays$WhatIf" 63 ⟨"WitnessPays$Street", "collect", "(I)I"⟩ ∈ Ug := ug3 235 (by decide +kernel) (by decide +kernel)
theorem w_771 : Cond.methodLink "WitnessPays$WhatIf" 69 ⟨"WitnessPays$Street", "banish", "(I)V"⟩ ∈ Ug := ug3 236 (by decide +kernel) (by decide +kernel)
theorem w_772 : Cond.instanceMethod ⟨"WitnessPays$Street", "banish", "(I)V"⟩ ∈ Ug := ug3 237 (by decide +kernel) (by decide +kernel)
theorem w_773 : Cond.selects "WitnessPays$Street" ⟨"WitnessPays$Street", "banish", "(I)V"⟩ ⟨"WitnessPays$Street", "banish", "(I)V"⟩ ∈ Ug := ug3 238 (by decide +kernel) (by decide +kernel)
theorem w_774 : Cond.code ⟨"WitnessPays$Street", "banish", "(I)V"⟩ prog_7_method_5_code 3 (Option.none : Option FieldType) ∈ Ug := ug3 239 (by decide +kernel) (by decide +kernel)
theorem w_775 : Cond.methodLink "WitnessPays$Street" 42 ⟨"WitnessPays$Street", "person", "(I)LWitnessPays$Person;"⟩ ∈ Ug := ug4 0 (by decide +kernel) (by decide +kernel)
theorem w_776 : Cond.methodLink "WitnessPaysLaw" 104 ⟨"WitnessPays", "book", "(II)I"⟩ ∈ Ug := ug4 1 (by decide +kernel) (by decide +kernel)
theorem w_777 : Cond.instanceMethod ⟨"WitnessPays", "book", "(II)I"⟩ ∈ Ug := ug4 2 (by decide +kernel) (by decide +kernel)
theorem w_778 : Cond.selects "WitnessPays" ⟨"WitnessPays", "book", "(II)I"⟩ ⟨"WitnessPays", "book", "(II)I"⟩ ∈ Ug := ug4 3 (by decide +kernel) (by decide +kernel)
theorem w_779 : Cond.code ⟨"WitnessPays", "book", "(II)I"⟩ prog_1_method_23_code 3 (Option.some FieldType.int) ∈ Ug := ug4 4 (by decide +kernel) (by decide +kernel)
theorem w_780 : Cond.methodLink "WitnessPaysLaw" 108 ⟨"WitnessPays", "looked", "()I"⟩ ∈ Ug := ug4 5 (by decide +kernel) (by decide +kernel)
theorem w_781 : Cond.instanceMethod ⟨"WitnessPays", "looked", "()I"⟩ ∈ Ug := ug4 6 (by decide +kernel) (by decide +kernel)
theorem w_782 : Cond.selects "WitnessPays" ⟨"WitnessPays", "looked", "()I"⟩ ⟨"WitnessPays", "looked", "()I"⟩ ∈ Ug := ug4 7 (by decide +kernel) (by decide +kernel)
theorem w_783 : Cond.code ⟨"WitnessPays", "looked", "()I"⟩ prog_1_method_24_code 3 (Option.some FieldType.int) ∈ Ug := ug4 8 (by decide +kernel) (by decide +kernel)
theorem w_784 : Cond.methodLink "WitnessPays" 223 ⟨"WitnessPays$Table", "cell", "(II)I"⟩ ∈ Ug := ug4 9 (by decide +kernel) (by decide +kernel)
theorem w_785 : Cond.methodLink "WitnessPaysLaw" 112 ⟨"WitnessPays", "judge", "(II)I"⟩ ∈ Ug := ug4 10 (by decide +kernel) (by decide +kernel)
theorem w_786 : Cond.instanceMethod ⟨"WitnessPays", "judge", "(II)I"⟩ ∈ Ug := ug4 11 (by decide +kernel) (by decide +kernel)
theorem w_787 : Cond.selects "WitnessPays" ⟨"WitnessPays", "judge", "(II)I"⟩ ⟨"WitnessPays", "judge", "(II)I"⟩ ∈ Ug := ug4 12 (by decide +kernel) (by decide +kernel)
theorem w_788 : Cond.code ⟨"WitnessPays", "judge", "(II)I"⟩ prog_1_method_25_code 7 (Option.some FieldType.int) ∈ Ug := ug4 13 (by decide +kernel) (by decide +kernel)
theorem w_789 : Cond.methodLink "WitnessPays" 227 ⟨"WitnessPays", "tapeOf", "(I)LWitnessPays$Tape;"⟩ ∈ Ug := ug4 14 (by decide +kernel) (by decide +kernel)
theorem w_791 : Cond.instanceMethod ⟨"WitnessPays", "tapeOf", "(I)LWitnessPays$Tape;"⟩ ∈ Ug := ug4 16 (by decide +kernel) (by decide +kernel)
theorem w_792 : Cond.code ⟨"WitnessPays", "tapeOf", "(I)LWitnessPays$Tape;"⟩ prog_1_method_39_code 2 (Option.some (FieldType.object "WitnessPays$Tape")) ∈ Ug := ug4 17 (by decide +kernel) (by decide +kernel)
theorem w_793 : Cond.methodLink "WitnessPays" 234 ⟨"WitnessPays$Street", "look", "()V"⟩ ∈ Ug := ug4 18 (by decide +kernel) (by decide +kernel)
theorem w_794 : Cond.methodLink "WitnessPays" 237 ⟨"WitnessPays$Tape", "reaches", "(II)Z"⟩ ∈ Ug := ug4 19 (by decide +kernel) (by decide +kernel)
theorem w_795 : Cond.instanceMethod ⟨"WitnessPays$Tape", "reaches", "(II)Z"⟩ ∈ Ug := ug4 20 (by decide +kernel) (by decide +kernel)
theorem w_796 : Cond.selects "WitnessPays$Tape" ⟨"WitnessPays$Tape", "reaches", "(II)Z"⟩ ⟨"WitnessPays$Tape", "reaches", "(II)Z"⟩ ∈ Ug := ug4 21 (by decide +kernel) (by decide +kernel)
theorem w_797 : Cond.code ⟨"WitnessPays$Tape", "reaches", "(II)Z"⟩ prog_9_method_3_code 3 (Option.some FieldType.boolean) ∈ Ug := ug4 22 (by decide +kernel) (by decide +kernel)
theorem w_798 : Cond.methodLink "WitnessPays" 240 ⟨"WitnessPays$Street", "seersInView", "(I)I"⟩ ∈ Ug := ug4 23 (by decide +kernel) (by decide +kernel)
theorem w_799 : Cond.methodLink "WitnessPaysLaw" 116 ⟨"WitnessPays", "image", "()I"⟩ ∈ Ug := ug4 24 (by decide +kernel) (by decide +kernel)
theorem w_800 : Cond.instanceMethod ⟨"WitnessPays", "image", "()I"⟩ ∈ Ug := ug4 25 (by decide +kernel) (by decide +kernel)
theorem w_801 : Cond.selects "WitnessPays" ⟨"WitnessPays", "image", "()I"⟩ ⟨"WitnessPays", "image", "()I"⟩ ∈ Ug := ug4 26 (by decide +kernel) (by decide +kernel)
theorem w_802 : Cond.code ⟨"WitnessPays", "image", "()I"⟩ prog_1_method_26_code 1 (Option.some FieldType.int) ∈ Ug := ug4 27 (by decide +kernel) (by decide +kernel)
theorem w_803 : Cond.methodLink "WitnessPays" 247 ⟨"WitnessPays$Scene", "becomeLike", "(LWitnessPays$Scene;)V"⟩ ∈ Ug := ug4 28 (by decide +kernel) (by decide +kernel)
theorem w_804 : Cond.instanceMethod ⟨"WitnessPays$Scene", "becomeLike", "(LWitnessPays$Scene;)V"⟩ ∈ Ug := ug4 29 (by decide +kernel) (by decide +kernel)
theorem w_805 : Cond.selects "WitnessPays$Scene" ⟨"WitnessPays$Scene", "becomeLike", "(LWitnessPays$Scene;)V"⟩ ⟨"WitnessPays$Scene", "becomeLike", "(LWitnessPays$Scene;)V"⟩ ∈ Ug := ug4 30 (by decide +kernel) (by decide +kernel)
theorem w_806 : Cond.code ⟨"WitnessPays$Scene", "becomeLike", "(LWitnessPays$Scene;)V"⟩ prog_6_method_2_code 2 (Option.none : Option FieldType) ∈ Ug := ug4 31 (by decide +kernel) (by decide +kernel)
theorem w_807 : Cond.methodLink "WitnessPays$Scene" 35 ⟨"WitnessPays$Street", "becomeLike", "(LWitnessPays$Street;)V"⟩ ∈ Ug := ug4 32 (by decide +kernel) (by decide +kernel)
theorem w_808 : Cond.methodLink "WitnessPays$Scene" 39 ⟨"WitnessPays$Table", "becomeLike", "(LWitnessPays$Table;)V"⟩ ∈ Ug := ug4 33 (by decide +kernel) (by decide +kernel)
theorem w_809 : Cond.instanceMethod ⟨"WitnessPays$Table", "becomeLike", "(LWitnessPays$Table;)V"⟩ ∈ Ug := ug4 34 (by decide +kernel) (by decide +kernel)
theorem w_810 : Cond.selects "WitnessPays$Table" ⟨"WitnessPays$Table", "becomeLike", "(LWitnessPays$Table;)V"⟩ ⟨"WitnessPays$Table", "becomeLike", "(LWitnessPays$Table;)V"⟩ ∈ Ug := ug4 35 (by decide +kernel) (by decide +kernel)
theorem w_811 : Cond.code ⟨"WitnessPays$Table", "becomeLike", "(LWitnessPays$Table;)V"⟩ prog_8_method_5_code 2 (Option.none : Option FieldType) ∈ Ug := ug4 36 (by decide +kernel) (by decide +kernel)
theorem w_812 : Cond.methodLink "WitnessPays$Table" 26 ⟨"java/lang/Math", "min", "(II)I"⟩ ∈ Ug := ug4 37 (by decide +kernel) (by decide +kernel)
theorem w_813 : Cond.methodLink "WitnessPays$Table" 32 ⟨"java/lang/System", "arraycopy", "(Ljava/lang/Object;ILjava/lang/Object;II)V"⟩ ∈ Ug := ug4 38 (by decide +kernel) (by decide +kernel)
theorem w_814 : Cond.methodLink "WitnessPaysLaw" 120 ⟨"WitnessPays", "undo", "()I"⟩ ∈ Ug := ug4 39 (by decide +kernel) (by decide +kernel)
theorem w_815 : Cond.instanceMethod ⟨"WitnessPays", "undo", "()I"⟩ ∈ Ug := ug4 40 (by decide +kernel) (by decide +kernel)
theorem w_816 : Cond.selects "WitnessPays" ⟨"WitnessPays", "undo", "()I"⟩ ⟨"WitnessPays", "undo", "()I"⟩ ∈ Ug := ug4 41 (by decide +kernel) (by decide +kernel)
theorem w_817 : Cond.code ⟨"WitnessPays", "undo", "()I"⟩ prog_1_method_27_code 1 (Option.some FieldType.int) ∈ Ug := ug4 42 (by decide +kernel) (by decide +kernel)
theorem w_818 : Cond.methodLink "WitnessPaysLaw" 124 ⟨"WitnessPays", "act", "(III)I"⟩ ∈ Ug := ug4 43 (by decide +kernel) (by decide +kernel)
theorem w_819 : Cond.instanceMethod ⟨"WitnessPays", "act", "(III)I"⟩ ∈ Ug := ug4 44 (by decide +kernel) (by decide +kernel)
theorem w_820 : Cond.selects "WitnessPays" ⟨"WitnessPays", "act", "(III)I"⟩ ⟨"WitnessPays", "act", "(III)I"⟩ ∈ Ug := ug4 45 (by decide +kernel) (by decide +kernel)
theorem w_821 : Cond.code ⟨"WitnessPays", "act", "(III)I"⟩ prog_1_method_28_code 5 (Option.some FieldType.int) ∈ Ug := ug4 46 (by decide +kernel) (by decide +kernel)
theorem w_822 : Cond.methodLink "WitnessPays" 254 ⟨"WitnessPays$Actor", "forget", "()V"⟩ ∈ Ug := ug4 47 (by decide +kernel) (by decide +kernel)
theorem w_823 : Cond.instanceMethod ⟨"WitnessPays$Actor", "forget", "()V"⟩ ∈ Ug := ug4 48 (by decide +kernel) (by decide +kernel)
theorem w_824 : Cond.selects "WitnessPays$Actor" ⟨"WitnessPays$Actor", "forget", "()V"⟩ ⟨"WitnessPays$Actor", "forget", "()V"⟩ ∈ Ug := ug4 49 (by decide +kernel) (by decide +kernel)
theorem w_825 : Cond.code ⟨"WitnessPays$Actor", "forget", "()V"⟩ prog_2_method_2_code 1 (Option.none : Option FieldType) ∈ Ug := ug4 50 (by decide +kernel) (by decide +kernel)
theorem w_826 : Cond.methodLink "WitnessPays" 257 ⟨"WitnessPays$Actor", "perform", "(LWitnessPays$Person;II)I"⟩ ∈ Ug := ug4 51 (by decide +kernel) (by decide +kernel)
theorem w_827 : Cond.instanceMethod ⟨"WitnessPays$Actor", "perform", "(LWitnessPays$Person;II)I"⟩ ∈ Ug := ug4 52 (by decide +kernel) (by decide +kernel)
theorem w_828 : Cond.selects "WitnessPays$Actor" ⟨"WitnessPays$Actor", "perform", "(LWitnessPays$Person;II)I"⟩ ⟨"WitnessPays$Actor", "perform", "(LWitnessPays$Person;II)I"⟩ ∈ Ug := ug4 53 (by decide +kernel) (by decide +kernel)
theorem w_829 : Cond.code ⟨"WitnessPays$Actor", "perform", "(LWitnessPays$Person;II)I"⟩ prog_2_method_3_code 4 (Option.some FieldType.int) ∈ Ug := ug4 54 (by decide +kernel) (by decide +kernel)
theorem w_830 : Cond.methodLink "WitnessPays$Actor" 33 ⟨"WitnessPays$Actor", "looks", "(II)I"⟩ ∈ Ug := ug4 55 (by decide +kernel) (by decide +kernel)
theorem w_832 : Cond.instanceMethod ⟨"WitnessPays$Actor", "looks", "(II)I"⟩ ∈ Ug := ug4 57 (by decide +kernel) (by decide +kernel)
theorem w_833 : Cond.code ⟨"WitnessPays$Actor", "looks", "(II)I"⟩ prog_2_method_5_code 3 (Option.some FieldType.int) ∈ Ug := ug4 58 (by decide +kernel) (by decide +kernel)
theorem w_834 : Cond.methodLink "WitnessPays$Actor" 43 ⟨"WitnessPays$Actor", "begin", "(I)V"⟩ ∈ Ug := ug4 59 (by decide +kernel) (by decide +kernel)
theorem w_836 : Cond.instanceMethod ⟨"WitnessPays$Actor", "begin", "(I)V"⟩ ∈ Ug := ug4 61 (by decide +kernel) (by decide +kernel)
theorem w_837 : Cond.code ⟨"WitnessPays$Actor", "begin", "(I)V"⟩ prog_2_method_4_code 2 (Option.none : Option FieldType) ∈ Ug := ug4 62 (by decide +kernel) (by decide +kernel)
theorem w_838 : Cond.methodLink "WitnessPays$Actor" 37 ⟨"WitnessPays$Actor", "swears", "(II)I"⟩ ∈ Ug := ug4 63 (by decide +kernel) (by decide +kernel)
theorem w_840 : Cond.instanceMethod ⟨"WitnessPays$Actor", "swears", "(II)I"⟩ ∈ Ug := ug4 65 (by decide +kernel) (by decide +kernel)
theorem w_841 : Cond.code ⟨"WitnessPays$Actor", "swears", "(II)I"⟩ prog_2_method_6_code 3 (Option.some FieldType.int) ∈ Ug := ug4 66 (by decide +kernel) (by decide +kernel)
theorem w_842 : Cond.methodLink "WitnessPays$Actor" 40 ⟨"WitnessPays$Actor", "tells", "(II)I"⟩ ∈ Ug := ug4 67 (by decide +kernel) (by decide +kernel)
theorem w_844 : Cond.instanceMethod ⟨"WitnessPays$Actor", "tells", "(II)I"⟩ ∈ Ug := ug4 69 (by decide +kernel) (by decide +kernel)
theorem w_845 : Cond.code ⟨"WitnessPays$Actor", "tells", "(II)I"⟩ prog_2_method_7_code 3 (Option.some FieldType.int) ∈ Ug := ug4 70 (by decide +kernel) (by decide +kernel)
theorem w_846 : Cond.methodLink "WitnessPaysLaw" 128 ⟨"WitnessPays", "trace", "(I)I"⟩ ∈ Ug := ug4 71 (by decide +kernel) (by decide +kernel)
theorem w_847 : Cond.instanceMethod ⟨"WitnessPays", "trace", "(I)I"⟩ ∈ Ug := ug4 72 (by decide +kernel) (by decide +kernel)
theorem w_848 : Cond.selects "WitnessPays" ⟨"WitnessPays", "trace", "(I)I"⟩ ⟨"WitnessPays", "trace", "(I)I"⟩ ∈ Ug := ug4 73 (by decide +kernel) (by decide +kernel)
theorem w_849 : Cond.code ⟨"WitnessPays", "trace", "(I)I"⟩ prog_1_method_29_code 2 (Option.some FieldType.int) ∈ Ug := ug4 74 (by decide +kernel) (by decide +kernel)
theorem w_850 : Cond.methodLink "WitnessPaysLaw" 132 ⟨"WitnessPays", "taken", "(II)I"⟩ ∈ Ug := ug4 75 (by decide +kernel) (by decide +kernel)
theorem w_851 : Cond.instanceMethod ⟨"WitnessPays", "taken", "(II)I"⟩ ∈ Ug := ug4 76 (by decide +kernel) (by decide +kernel)
theorem w_852 : Cond.selects "WitnessPays" ⟨"WitnessPays", "taken", "(II)I"⟩ ⟨"WitnessPays", "taken", "(II)I"⟩ ∈ Ug := ug4 77 (by decide +kernel) (by decide +kernel)
theorem w_853 : Cond.code ⟨"WitnessPays", "taken", "(II)I"⟩ prog_1_method_30_code 4 (Option.some FieldType.int) ∈ Ug := ug4 78 (by decide +kernel) (by decide +kernel)
theorem w_854 : Cond.methodLink "WitnessPays" 267 ⟨"WitnessPays$Person", "isOfKind", "(I)Z"⟩ ∈ Ug := ug4 79 (by decide +kernel) (by decide +kernel)
theorem w_855 : Cond.methodLink "WitnessPaysLaw" 136 ⟨"WitnessPays", "count", "(I)I"⟩ ∈ Ug := ug4 80 (by decide +kernel) (by decide +kernel)
theorem w_856 : Cond.instanceMethod ⟨"WitnessPays", "count", "(I)I"⟩ ∈ Ug := ug4 81 (by decide +kernel) (by decide +kernel)
theorem w_857 : Cond.selects "WitnessPays" ⟨"WitnessPays", "count", "(I)I"⟩ ⟨"WitnessPays", "count", "(I)I"⟩ ∈ Ug := ug4 82 (by decide +kernel) (by decide +kernel)
theorem w_858 : Cond.code ⟨"WitnessPays", "count", "(I)I"⟩ prog_1_method_31_code 2 (Option.some FieldType.int) ∈ Ug := ug4 83 (by decide +kernel) (by decide +kernel)
theorem w_859 : Cond.methodLink "WitnessPaysLaw" 140 ⟨"WitnessPays", "tape", "(III)I"⟩ ∈ Ug := ug4 84 (by decide +kernel) (by decide +kernel)
theorem w_860 : Cond.instanceMethod ⟨"WitnessPays", "tape", "(III)I"⟩ ∈ Ug := ug4 85 (by decide +kernel) (by decide +kernel)
theorem w_861 : Cond.selects "WitnessPays" ⟨"WitnessPays", "tape", "(III)I"⟩ ⟨"WitnessPays", "tape", "(III)I"⟩ ∈ Ug := ug4 86 (by decide +kernel) (by decide +kernel)
theorem w_862 : Cond.code ⟨"WitnessPays", "tape", "(III)I"⟩ prog_1_method_32_code 5 (Option.some FieldType.int) ∈ Ug := ug4 87 (by decide +kernel) (by decide +kernel)
theorem w_863 : Cond.methodLink "WitnessPays" 273 ⟨"WitnessPays$Tape", "become", "(II)V"⟩ ∈ Ug := ug4 88 (by decide +kernel) (by decide +kernel)
theorem w_864 : Cond.instanceMethod ⟨"WitnessPays$Tape", "become", "(II)V"⟩ ∈ Ug := ug4 89 (by decide +kernel) (by decide +kernel)
theorem w_865 : Cond.selects "WitnessPays$Tape" ⟨"WitnessPays$Tape", "become", "(II)V"⟩ ⟨"WitnessPays$Tape", "become", "(II)V"⟩ ∈ Ug := ug4 90 (by decide +kernel) (by decide +kernel)
theorem w_866 : Cond.code ⟨"WitnessPays$Tape", "become", "(II)V"⟩ prog_9_method_2_code 4 (Option.none : Option FieldType) ∈ Ug := ug4 91 (by decide +kernel) (by decide +kernel)
theorem w_867 : Cond.methodLink "WitnessPaysLaw" 146 ⟨"WitnessPays", "item", "(IIJ)I"⟩ ∈ Ug := ug4 92 (by decide +kernel) (by decide +kernel)
theorem w_868 : Cond.instanceMethod ⟨"WitnessPays", "item", "(IIJ)I"⟩ ∈ Ug := ug4 93 (by decide +kernel) (by decide +kernel)
theorem w_869 : Cond.selects "WitnessPays" ⟨"WitnessPays", "item", "(IIJ)I"⟩ ⟨"WitnessPays", "item", "(IIJ)I"⟩ ∈ Ug := ug4 94 (by decide +kernel) (by decide +kernel)
theorem w_870 : Cond.code ⟨"WitnessPays", "item", "(IIJ)I"⟩ prog_1_method_33_code 6 (Option.some FieldType.int) ∈ Ug := ug4 95 (by decide +kernel) (by decide +kernel)
theorem w_871 : Cond.methodLink "WitnessPays" 277 ⟨"WitnessPays$Tape", "narrowed", "(J)J"⟩ ∈ Ug := ug4 96 (by decide +kernel) (by decide +kernel)
theorem w_872 : Cond.instanceMethod ⟨"WitnessPays$Tape", "narrowed", "(J)J"⟩ ∈ Ug := ug4 97 (by decide +kernel) (by decide +kernel)
theorem w_873 : Cond.selects "WitnessPays$Tape" ⟨"WitnessPays$Tape", "narrowed", "(J)J"⟩ ⟨"WitnessPays$Tape", "narrowed", "(J)J"⟩ ∈ Ug := ug4 98 (by decide +kernel) (by decide +kernel)
theorem w_874 : Cond.code ⟨"WitnessPays$Tape", "narrowed", "(J)J"⟩ prog_9_method_4_code 3 (Option.some FieldType.long) ∈ Ug := ug4 99 (by decide +kernel) (by decide +kernel)
theorem w_875 : Cond.methodLink "WitnessPaysLaw" 151 ⟨"WitnessPays", "read", "(II)J"⟩ ∈ Ug := ug4 100 (by decide +kernel) (by decide +kernel)
theorem w_876 : Cond.instanceMethod ⟨"WitnessPays", "read", "(II)J"⟩ ∈ Ug := ug4 101 (by decide +kernel) (by decide +kernel)
theorem w_877 : Cond.selects "WitnessPays" ⟨"WitnessPays", "read", "(II)J"⟩ ⟨"WitnessPays", "read", "(II)J"⟩ ∈ Ug := ug4 102 (by decide +kernel) (by decide +kernel)
theorem w_878 : Cond.code ⟨"WitnessPays", "read", "(II)J"⟩ prog_1_method_34_code 4 (Option.some FieldType.long) ∈ Ug := ug4 103 (by decide +kernel) (by decide +kernel)
theorem w_879 : Cond.methodLink "WitnessPaysLaw" 155 ⟨"WitnessPays", "shift", "(IIIII)I"⟩ ∈ Ug := ug4 104 (by decide +kernel) (by decide +kernel)
theorem w_880 : Cond.instanceMethod ⟨"WitnessPays", "shift", "(IIIII)I"⟩ ∈ Ug := ug4 105 (by decide +kernel) (by decide +kernel)
theorem w_881 : Cond.selects "WitnessPays" ⟨"WitnessPays", "shift", "(IIIII)I"⟩ ⟨"WitnessPays", "shift", "(IIIII)I"⟩ ∈ Ug := ug4 106 (by decide +kernel) (by decide +kernel)
theorem w_882 : Cond.code ⟨"WitnessPays", "shift", "(IIIII)I"⟩ prog_1_method_35_code 8 (Option.some FieldType.int) ∈ Ug := ug4 107 (by decide +kernel) (by decide +kernel)
theorem w_883 : Cond.methodLink "WitnessPays" 281 ⟨"java/lang/System", "arraycopy", "(Ljava/lang/Object;ILjava/lang/Object;II)V"⟩ ∈ Ug := ug4 108 (by decide +kernel) (by decide +kernel)
theorem w_884 : Cond.classLink "WitnessPaysLaw" 10 "WitnessPaysModel" ∈ Ug := ug4 109 (by decide +kernel) (by decide +kernel)
theorem w_885 : Cond.instantiable "WitnessPaysModel" 44 ∈ Ug := ug4 110 (by decide +kernel) (by decide +kernel)
theorem w_886 : Cond.methodLink "WitnessPaysLaw" 12 ⟨"WitnessPaysModel", "<init>", "()V"⟩ ∈ Ug := ug4 111 (by decide +kernel) (by decide +kernel)
theorem w_887 : Cond.instanceMethod ⟨"WitnessPaysModel", "<init>", "()V"⟩ ∈ Ug := ug4 112 (by decide +kernel) (by decide +kernel)
theorem w_888 : Cond.code ⟨"WitnessPaysModel", "<init>", "()V"⟩ prog_12_method_1_code 2 (Option.none : Option FieldType) ∈ Ug := ug4 113 (by decide +kernel) (by decide +kernel)
theorem w_889 : Cond.methodLink "WitnessPaysModel" 3 ⟨"java/lang/Object", "<init>", "()V"⟩ ∈ Ug := ug4 114 (by decide +kernel) (by decide +kernel)
theorem w_890 : Cond.fieldLink "WitnessPaysModel" 102 "WitnessPaysModel" "people" "I" ∈ Ug := ug4 115 (by decide +kernel) (by decide +kernel)
theorem w_891 : Cond.fieldLink "WitnessPaysModel" 9 "WitnessPaysModel" "kind" "[I" ∈ Ug := ug4 116 (by decide +kernel) (by decide +kernel)
theorem w_892 : Cond.fieldLink "WitnessPaysModel" 15 "WitnessPaysModel" "v" "[I" ∈ Ug := ug4 117 (by decide +kernel) (by decide +kernel)
theorem w_893 : Cond.fieldLink "WitnessPaysModel" 18 "WitnessPaysModel" "place" "[I" ∈ Ug := ug4 118 (by decide +kernel) (by decide +kernel)
theorem w_894 : Cond.fieldLink "WitnessPaysModel" 21 "WitnessPaysModel" "purse" "[I" ∈ Ug := ug4 119 (by decide +kernel) (by decide +kernel)
theorem w_895 : Cond.fieldLink "WitnessPaysModel" 24 "WitnessPaysModel" "gone" "[I" ∈ Ug := ug4 120 (by decide +kernel) (by decide +kernel)
theorem w_896 : Cond.fieldLink "WitnessPaysModel" 27 "WitnessPaysModel" "rows" "[I" ∈ Ug := ug4 121 (by decide +kernel) (by decide +kernel)
theorem w_897 : Cond.fieldLink "WitnessPaysModel" 129 "WitnessPaysModel" "walls" "I" ∈ Ug := ug4 122 (by decide +kernel) (by decide +kernel)
theorem w_898 : Cond.fieldLink "WitnessPaysModel" 210 "WitnessPaysModel" "day" "I" ∈ Ug := ug4 123 (by decide +kernel) (by decide +kernel)
theorem w_899 : Cond.fieldLink "WitnessPaysModel" 132 "WitnessPaysModel" "texted" "I" ∈ Ug := ug4 124 (by decide +kernel) (by decide +kernel)
theorem w_900 : Cond.fieldLink "WitnessPaysModel" 30 "WitnessPaysModel" "text" "[I" ∈ Ug := ug4 125 (by decide +kernel) (by decide +kernel)
theorem w_901 : Cond.fieldLink "WitnessPaysModel" 135 "WitnessPaysModel" "at" "I" ∈ Ug := ug4 126 (by decide +kernel) (by decide +kernel)
theorem w_902 : Cond.fieldLink "WitnessPaysModel" 138 "WitnessPaysModel" "value" "I" ∈ Ug := ug4 127 (by decide +kernel) (by decide +kernel)
theorem w_903 : Cond.fieldLink "WitnessPaysModel" 141 "WitnessPaysModel" "digits" "I" ∈ Ug := ug4 128 (by decide +kernel) (by decide +kernel)
theorem w_904 : Cond.fieldLink "WitnessPaysModel" 176 "WitnessPaysModel" "open" "I" ∈ Ug := ug4 129 (by decide +kernel) (by decide +kernel)
theorem w_905 : Cond.fieldLink "WitnessPaysModel" 204 "WitnessPaysModel" "laws" "I" ∈ Ug := ug4 130 (by decide +kernel) (by decide +kernel)
theorem w_906 : Cond.fieldLink "WitnessPaysModel" 98 "WitnessPaysModel" "holds" "I" ∈ Ug := ug4 131 (by decide +kernel) (by decide +kernel)
theorem w_907 : Cond.fieldLink "WitnessPaysModel" 33 "WitnessPaysModel" "clauses" "[I" ∈ Ug := ug4 132 (by decide +kernel) (by decide +kernel)
theorem w_908 : Cond.fieldLink "WitnessPaysModel" 36 "WitnessPaysModel" "word" "[I" ∈ Ug := ug4 133 (by decide +kernel) (by decide +kernel)
theorem w_909 : Cond.fieldLink "WitnessPaysModel" 39 "WitnessPaysModel" "number" "[I" ∈ Ug := ug4 134 (by decide +kernel) (by decide +kernel)
theorem w_910 : Cond.fieldLink "WitnessPaysModel" 42 "WitnessPaysModel" "begins" "[I" ∈ Ug := ug4 135 (by decide +kernel) (by decide +kernel)
theorem w_911 : Cond.fieldLink "WitnessPaysModel" 45 "WitnessPaysModel" "length" "[I" ∈ Ug := ug4 136 (by decide +kernel) (by decide +kernel)
theorem w_912 : Cond.fieldLink "WitnessPaysModel" 48 "WitnessPaysModel" "code" "[I" ∈ Ug := ug4 137 (by decide +kernel) (by decide +kernel)
theorem w_913 : Cond.fieldLink "WitnessPaysModel" 160 "WitnessPaysModel" "coded" "I" ∈ Ug := ug4 138 (by decide +kernel) (by decide +kernel)
theorem w_914 : Cond.fieldLink "WitnessPaysModel" 51 "WitnessPaysModel" "stack" "[Z" ∈ Ug := ug4 139 (by decide +kernel) (by decide +kernel)
theorem w_915 : Cond.fieldLink "WitnessPaysModel" 278 "WitnessPaysModel" "seen" "I" ∈ Ug := ug4 140 (by decide +kernel) (by decide +kernel)
theorem w_916 : Cond.fieldLink "WitnessPaysModel" 55 "WitnessPaysModel" "seenPlace" "[I" ∈ Ug := ug4 141 (by decide +kernel) (by decide +kernel)
theorem w_917 : Cond.fieldLink "WitnessPaysModel" 58 "WitnessPaysModel" "seenIn" "[I" ∈ Ug := ug4 142 (by decide +kernel) (by decide +kernel)
theorem w_918 : Cond.fieldLink "WitnessPaysModel" 61 "WitnessPaysModel" "seenBy" "[I" ∈ Ug := ug4 143 (by decide +kernel) (by decide +kernel)
theorem w_919 : Cond.fieldLink "WitnessPaysModel" 290 "WitnessPaysModel" "inPlan" "I" ∈ Ug := ug4 144 (by decide +kernel) (by decide +kernel)
theorem w_920 : Cond.fieldLink "WitnessPaysModel" 64 "WitnessPaysModel" "goes" "[I" ∈ Ug := ug4 145 (by decide +kernel) (by decide +kernel)
theorem w_921 : Cond.fieldLink "WitnessPaysModel" 67 "WitnessPaysModel" "whose" "[I" ∈ Ug := ug4 146 (by decide +kernel) (by decide +kernel)
theorem w_922 : Cond.fieldLink "WitnessPaysModel" 293 "WitnessPaysModel" "inBook" "I" ∈ Ug := ug4 147 (by decide +kernel) (by decide +kernel)
theorem w_923 : Cond.fieldLink "WitnessPaysModel" 70 "WitnessPaysModel" "booked" "[I" ∈ Ug := ug4 148 (by decide +kernel) (by decide +kernel)
theorem w_924 : Cond.fieldLink "WitnessPaysModel" 73 "WitnessPaysModel" "bookPurse" "[I" ∈ Ug := ug4 149 (by decide +kernel) (by decide +kernel)
theorem w_925 : Cond.fieldLink "WitnessPaysModel" 300 "WitnessPaysModel" "traced" "I" ∈ Ug := ug4 150 (by decide +kernel) (by decide +kernel)
theorem w_926 : Cond.fieldLink "WitnessPaysModel" 76 "WitnessPaysModel" "traces" "[I" ∈ Ug := ug4 151 (by decide +kernel) (by decide +kernel)
theorem w_927 : Cond.fieldLink "WitnessPaysModel" 296 "WitnessPaysModel" "imaged" "Z" ∈ Ug := ug4 152 (by decide +kernel) (by decide +kernel)
theorem w_928 : Cond.fieldLink "WitnessPaysModel" 79 "WitnessPaysModel" "image" "[I" ∈ Ug := ug4 153 (by decide +kernel) (by decide +kernel)
theorem w_929 : Cond.fieldLink "WitnessPaysModel" 82 "WitnessPaysModel" "ahead" "[I" ∈ Ug := ug4 154 (by decide +kernel) (by decide +kernel)
theorem w_930 : Cond.fieldLink "WitnessPaysModel" 85 "WitnessPaysModel" "shares" "[I" ∈ Ug := ug4 155 (by decide +kernel) (by decide +kernel)
theorem w_931 : Cond.fieldLink "WitnessPaysModel" 88 "WitnessPaysModel" "tapeSort" "[I" ∈ Ug := ug4 156 (by decide +kernel) (by decide +kernel)
theorem w_932 : Cond.fieldLink "WitnessPaysModel" 91 "WitnessPaysModel" "tapeSize" "[I" ∈ Ug := ug4 157 (by decide +kernel) (by decide +kernel)
theorem w_933 : Cond.fieldLink "WitnessPaysModel" 94 "WitnessPaysModel" "items" "[J" ∈ Ug := ug4 158 (by decide +kernel) (by decide +kernel)
theorem w_1023 : Cond.arrayClass FieldType.boolean ∈ Ug := ug5 8 (by decide +kernel) (by decide +kernel)
theorem w_1024 : Cond.methodLink "WitnessPaysLaw" 17 ⟨"WitnessPaysModel", "one", "(III)I"⟩ ∈ Ug := ug5 9 (by decide +kernel) (by decide +kernel)
theorem w_1025 : Cond.instanceMethod ⟨"WitnessPaysModel", "one", "(III)I"⟩ ∈ Ug := ug5 10 (by decide +kernel) (by decide +kernel)
theorem w_1026 : Cond.selects "WitnessPaysModel" ⟨"WitnessPaysModel", "one", "(III)I"⟩ ⟨"WitnessPaysModel", "one", "(III)I"⟩ ∈ Ug := ug5 11 (by decide +kernel) (by decide +kernel)
theorem w_1027 : Cond.code ⟨"WitnessPaysModel", "one", "(III)I"⟩ prog_12_method_5_code 5 (Option.some FieldType.int) ∈ Ug := ug5 12 (by decide +kernel) (by decide +kernel)
theorem w_1028 : Cond.methodLink "WitnessPaysModel" 105 ⟨"WitnessPaysModel", "within", "(III)Z"⟩ ∈ Ug := ug5 13 (by decide +kernel) (by decide +kernel)
theorem w_1029 : Cond.static ⟨"WitnessPaysModel", "within", "(III)Z"⟩ ∈ Ug := ug5 14 (by decide +kernel) (by decide +kernel)
theorem w_1030 : Cond.code ⟨"WitnessPaysModel", "within", "(III)Z"⟩ prog_12_method_2_code 3 (Option.some FieldType.boolean) ∈ Ug := ug5 15 (by decide +kernel) (by decide +kernel)
theorem w_1031 : Cond.methodLink "WitnessPaysModel" 109 ⟨"WitnessPaysModel", "isPlace", "(I)Z"⟩ ∈ Ug := ug5 16 (by decide +kernel) (by decide +kernel)
theorem w_1032 : Cond.static ⟨"WitnessPaysModel", "isPlace", "(I)Z"⟩ ∈ Ug := ug5 17 (by decide +kernel) (by decide +kernel)
theorem w_1033 : Cond.code ⟨"WitnessPaysModel", "isPlace", "(I)Z"⟩ prog_12_method_4_code 1 (Option.some FieldType.boolean) ∈ Ug := ug5 18 (by decide +kernel) (by decide +kernel)
theorem w_1034 : Cond.methodLink "WitnessPaysLaw" 22 ⟨"WitnessPaysModel", "of", "(II)I"⟩ ∈ Ug := ug5 19 (by decide +kernel) (by decide +kernel)
theorem w_1035 : Cond.instanceMethod ⟨"WitnessPaysModel", "of", "(II)I"⟩ ∈ Ug := ug5 20 (by decide +kernel) (by decide +kernel)
theorem w_1036 : Cond.selects "WitnessPaysModel" ⟨"WitnessPaysModel", "of", "(II)I"⟩ ⟨"WitnessPaysModel", "of", "(II)I"⟩ ∈ Ug := ug5 21 (by decide +kernel) (by decide +kernel)
theorem w_1037 : Cond.code ⟨"WitnessPaysModel", "of", "(II)I"⟩ prog_12_method_6_code 3 (Option.some FieldType.int) ∈ Ug := ug5 22 (by decide +kernel) (by decide +kernel)
theorem w_1038 : Cond.methodLink "WitnessPaysModel" 113 ⟨"WitnessPaysModel", "isOne", "(I)Z"⟩ ∈ Ug := ug5 23 (by decide +kernel) (by decide +kernel)
theorem w_1040 : Cond.instanceMethod ⟨"WitnessPaysModel", "isOne", "(I)Z"⟩ ∈ Ug := ug5 25 (by decide +kernel) (by decide +kernel)
theorem w_1041 : Cond.code ⟨"WitnessPaysModel", "isOne", "(I)Z"⟩ prog_12_method_3_code 2 (Option.some FieldType.boolean) ∈ Ug := ug5 26 (by decide +kernel) (by decide +kernel)
theorem w_1042 : Cond.methodLink "WitnessPaysModel" 116 ⟨"WitnessPaysModel", "reach", "(I)I"⟩ ∈ Ug := ug5 27 (by decide +kernel) (by decide +kernel)
theorem w_1044 : Cond.instanceMethod ⟨"WitnessPaysModel", "reach", "(I)I"⟩ ∈ Ug := ug5 29 (by decide +kernel) (by decide +kernel)
theorem w_1045 : Cond.code ⟨"WitnessPaysModel", "reach", "(I)I"⟩ prog_12_method_28_code 3 (Option.some FieldType.int) ∈ Ug := ug5 30 (by decide +kernel) (by decide +kernel)
theorem w_1046 : Cond.methodLink "WitnessPaysModel" 221 ⟨"WitnessPaysModel", "sum", "(I)I"⟩ ∈ Ug := ug5 31 (by decide +kernel) (by decide +kernel)
theorem w_1048 : Cond.instanceMethod ⟨"WitnessPaysModel", "sum", "(I)I"⟩ ∈ Ug := ug5 33 (by decide +kernel) (by decide +kernel)
theorem w_1049 : Cond.code ⟨"WitnessPaysModel", "sum", "(I)I"⟩ prog_12_method_26_code 5 (Option.some FieldType.int) ∈ Ug := ug5 34 (by decide +kernel) (by decide +kernel)
theorem w_1050 : Cond.methodLink "WitnessPaysModel" 217 ⟨"WitnessPaysModel", "isTrue", "(II)Z"⟩ ∈ Ug := ug5 35 (by decide +kernel) (by decide +kernel)
theorem w_1052 : Cond.instanceMethod ⟨"WitnessPaysModel", "isTrue", "(II)Z"⟩ ∈ Ug := ug5 37 (by decide +kernel) (by decide +kernel)
theorem w_1053 : Cond.code ⟨"WitnessPaysModel", "isTrue", "(II)Z"⟩ prog_12_method_25_code 9 (Option.some FieldType.boolean) ∈ Ug := ug5 38 (by decide +kernel) (by decide +kernel)
theorem w_1054 : Cond.methodLink "WitnessPaysModel" 213 ⟨"WitnessPaysModel", "letterOf", "(II)I"⟩ ∈ Ug := ug5 39 (by decide +kernel) (by decide +kernel)
theorem w_1056 : Cond.instanceMethod ⟨"WitnessPaysModel", "letterOf", "(II)I"⟩ ∈ Ug := ug5 41 (by decide +kernel) (by decide +kernel)
theorem w_1057 : Cond.code ⟨"WitnessPaysModel", "letterOf", "(II)I"⟩ prog_12_method_24_code 3 (Option.some FieldType.int) ∈ Ug := ug5 42 (by decide +kernel) (by decide +kernel)
theorem w_1058 : Cond.methodLink "WitnessPaysModel" 224 ⟨"java/lang/Math", "min", "(II)I"⟩ ∈ Ug := ug5 43 (by decide +kernel) (by decide +kernel)
theorem w_1059 : Cond.methodLink "WitnessPaysModel" 229 ⟨"java/lang/Math", "max", "(II)I"⟩ ∈ Ug := ug5 44 (by decide +kernel) (by decide +kernel)
theorem w_1060 : Cond.methodLink "WitnessPaysModel" 120 ⟨"WitnessPaysModel", "sight", "(I)I"⟩ ∈ Ug := ug5 45 (by decide +kernel) (by decide +kernel)
theorem w_1062 : Cond.instanceMethod ⟨"WitnessPaysModel", "sight", "(I)I"⟩ ∈ Ug := ug5 47 (by decide +kernel) (by decide +kernel)
theorem w_1063 : Cond.code ⟨"WitnessPaysModel", "sight", "(I)I"⟩ prog_12_method_30_code 6 (Option.some FieldType.int) ∈ Ug := ug5 48 (by decide +kernel) (by decide +kernel)
theorem w_1064 : Cond.methodLink "WitnessPaysModel" 232 ⟨"WitnessPaysModel", "isWall", "(I)Z"⟩ ∈ Ug := ug5 49 (by decide +kernel) (by decide +kernel)
theorem w_1066 : Cond.instanceMethod ⟨"WitnessPaysModel", "isWall", "(I)Z"⟩ ∈ Ug := ug5 51 (by decide +kernel) (by decide +kernel)
theorem w_1067 : Cond.code ⟨"WitnessPaysModel", "isWall", "(I)Z"⟩ prog_12_method_29_code 2 (Option.some FieldType.boolean) ∈ Ug := ug5 52 (by decide +kernel) (by decide +kernel)
theorem w_1068 : Cond.methodLink "WitnessPaysModel" 123 ⟨"WitnessPaysModel", "shun", "(I)I"⟩ ∈ Ug := ug5 53 (by decide +kernel) (by decide +kernel)
theorem w_1070 : Cond.instanceMethod ⟨"WitnessPaysModel", "shun", "(I)I"⟩ ∈ Ug := ug5 55 (by decide +kernel) (by decide +kernel)
theorem w_1071 : Cond.code ⟨"WitnessPaysModel", "shun", "(I)I"⟩ prog_12_method_32_code 7 (Option.some FieldType.int) ∈ Ug := ug5 56 (by decide +kernel) (by decide +kernel)
theorem w_1072 : Cond.methodLink "WitnessPaysModel" 235 ⟨"java/lang/Integer", "bitCount", "(I)I"⟩ ∈ Ug := ug5 57 (by decide +kernel) (by decide +kernel)
theorem w_1073 : Cond.methodLink "WitnessPaysModel" 126 ⟨"WitnessPaysModel", "alone", "(I)I"⟩ ∈ Ug := ug5 58 (by decide +kernel) (by decide +kernel)
theorem w_1075 : Cond.instanceMethod ⟨"WitnessPaysModel", "alone", "(I)I"⟩ ∈ Ug := ug5 60 (by decide +kernel) (by decide +kernel)
theorem w_1076 : Cond.code ⟨"WitnessPaysModel", "alone", "(I)I"⟩ prog_12_method_33_code 3 (Option.some FieldType.int) ∈ Ug := ug5 61 (by decide +kernel) (by decide +kernel)
theorem w_1077 : Cond.methodLink "WitnessPaysModel" 240 ⟨"WitnessPaysModel", "seers", "(I)I"⟩ ∈ Ug := ug5 62 (by decide +kernel) (by decide +kernel)
theorem w_1079 : Cond.instanceMethod ⟨"WitnessPaysModel", "seers", "(I)I"⟩ ∈ Ug := ug5 64 (by decide +kernel) (by decide +kernel)
theorem w_1080 : Cond.code ⟨"WitnessPaysModel", "seers", "(I)I"⟩ prog_12_method_31_code 4 (Option.some FieldType.int) ∈ Ug := ug5 65 (by decide +kernel) (by decide +kernel)
theorem w_1081 : Cond.methodLink "WitnessPaysLaw" 26 ⟨"WitnessPaysModel", "set", "(III)I"⟩ ∈ Ug := ug5 66 (by decide +kernel) (by decide +kernel)
theorem w_1082 : Cond.instanceMethod ⟨"WitnessPaysModel", "set", "(III)I"⟩ ∈ Ug := ug5 67 (by decide +kernel) (by decide +kernel)
theorem w_1083 : Cond.selects "WitnessPaysModel" ⟨"WitnessPaysModel", "set", "(III)I"⟩ ⟨"WitnessPaysModel", "set", "(III)I"⟩ ∈ Ug := ug5 68 (by decide +kernel) (by decide +kernel)
theorem w_1084 : Cond.code ⟨"WitnessPaysModel", "set", "(III)I"⟩ prog_12_method_7_code 5 (Option.some FieldType.int) ∈ Ug := ug5 69 (by decide +kernel) (by decide +kernel)
theorem w_1085 : Cond.methodLink "WitnessPaysLaw" 31 ⟨"WitnessPaysModel", "leave", "(IZ)I"⟩ ∈ Ug := ug5 70 (by decide +kernel) (by decide +kernel)
theorem w_1086 : Cond.instanceMethod ⟨"WitnessPaysModel", "leave", "(IZ)I"⟩ ∈ Ug := ug5 71 (by decide +kernel) (by decide +kernel)
theorem w_1087 : Cond.selects "WitnessPaysModel" ⟨"WitnessPaysModel", "leave", "(IZ)I"⟩ ⟨"WitnessPaysModel", "leave", "(IZ)I"⟩ ∈ Ug := ug5 72 (by decide +kernel) (by decide +kernel)
theorem w_1088 : Cond.code ⟨"WitnessPaysModel", "leave", "(IZ)I"⟩ prog_12_method_8_code 4 (Option.some FieldType.int) ∈ Ug := ug5 73 (by decide +kernel) (by decide +kernel)
theorem w_1089 : Cond.methodLink "WitnessPaysLaw" 36 ⟨"WitnessPaysModel", "walls", "(I)I"⟩ ∈ Ug := ug5 74 (by decide +kernel) (by decide +kernel)
theorem w_1090 : Cond.instanceMethod ⟨"WitnessPaysModel", "walls", "(I)I"⟩ ∈ Ug := ug5 75 (by decide +kernel) (by decide +kernel)
theorem w_1091 : Cond.selects "WitnessPaysModel" ⟨"WitnessPaysModel", "walls", "(I)I"⟩ ⟨"WitnessPaysModel", "walls", "(I)I"⟩ ∈ Ug := ug5 76 (by decide +kernel) (by decide +kernel)
theorem w_1092 : Cond.code ⟨"WitnessPaysModel", "walls", "(I)I"⟩ prog_12_method_9_code 3 (Option.some FieldType.int) ∈ Ug := ug5 77 (by decide +kernel) (by decide +kernel)
theorem w_1093 : Cond.methodLink "WitnessPaysLaw" 40 ⟨"WitnessPaysModel", "row", "(III)I"⟩ ∈ Ug := ug5 78 (by decide +kernel) (by decide +kernel)
theorem w_1094 : Cond.instanceMethod ⟨"WitnessPaysModel", "row", "(III)I"⟩ ∈ Ug := ug5 79 (by decide +kernel) (by decide +kernel)
theorem w_1095 : Cond.selects "WitnessPaysModel" ⟨"WitnessPaysModel", "row", "(III)I"⟩ ⟨"WitnessPaysModel", "row", "(III)I"⟩ ∈ Ug := ug5 80 (by decide +kernel) (by decide +kernel)
theorem w_1096 : Cond.code ⟨"WitnessPaysModel", "row", "(III)I"⟩ prog_12_method_10_code 5 (Option.some FieldType.int) ∈ Ug := ug5 81 (by decide +kernel) (by decide +kernel)
theorem w_1097 : Cond.methodLink "WitnessPaysLaw" 44 ⟨"WitnessPaysModel", "feed", "(I)I"⟩ ∈ Ug := ug5 82 (by decide +kernel) (by decide +kernel)
theorem w_1098 : Cond.instanceMethod ⟨"WitnessPaysModel", "feed", "(I)I"⟩ ∈ Ug := ug5 83 (by decide +kernel) (by decide +kernel)
theorem w_1099 : Cond.selects "WitnessPaysModel" ⟨"WitnessPaysModel", "feed", "(I)I"⟩ ⟨"WitnessPaysModel", "feed", "(I)I"⟩ ∈ Ug := ug5 84 (by decide +kernel) (by decide +kernel)
theorem w_1100 : Cond.code ⟨"WitnessPaysModel", "feed", "(I)I"⟩ prog_12_method_11_code 2 (Option.some FieldType.int) ∈ Ug := ug5 85 (by decide +kernel) (by decide +kernel)
theorem w_1101 : Cond.methodLink "WitnessPaysLaw" 49 ⟨"WitnessPaysModel", "statute", "()I"⟩ ∈ Ug := ug5 86 (by decide +kernel) (by decide +kernel)
theorem w_1102 : Cond.instanceMethod ⟨"WitnessPaysModel", "statute", "()I"⟩ ∈ Ug := ug5 87 (by decide +kernel) (by decide +kernel)
theorem w_1103 : Cond.selects "WitnessPaysModel" ⟨"WitnessPaysModel", "statute", "()I"⟩ ⟨"WitnessPaysModel", "statute", "()I"⟩ ∈ Ug := ug5 88 (by decide +kernel) (by decide +kernel)
theorem w_1104 : Cond.code ⟨"WitnessPaysModel", "statute", "()I"⟩ prog_12_method_23_code 5 (Option.some FieldType.int) ∈ Ug := ug5 89 (by decide +kernel) (by decide +kernel)
theorem w_1105 : Cond.methodLink "WitnessPaysModel" 207 ⟨"WitnessPaysModel", "isClause", "(I)Z"⟩ ∈ Ug := ug5 90 (by decide +kernel) (by decide +kernel)
theorem w_1107 : Cond.instanceMethod ⟨"WitnessPaysModel", "isClause", "(I)Z"⟩ ∈ Ug := ug5 92 (by decide +kernel) (by decide +kernel)
theorem w_1108 : Cond.code ⟨"WitnessPaysModel", "isClause", "(I)Z"⟩ prog_12_method_22_code 4 (Option.some FieldType.boolean) ∈ Ug := ug5 93 (by decide +kernel) (by decide +kernel)
theorem w_1110 : Cond.methodLink "WitnessPaysModel" 196 ⟨"WitnessPaysModel", "isAll", "(Ljava/lang/String;)Z"⟩ ∈ Ug := ug5 95 (by decide +kernel) (by decide +kernel)
theorem w_1112 : Cond.instanceMethod ⟨"WitnessPaysModel", "isAll", "(Ljava/lang/String;)Z"⟩ ∈ Ug := ug5 97 (by decide +kernel) (by decide +kernel)
theorem w_1113 : Cond.code ⟨"WitnessPaysModel", "isAll", "(Ljava/lang/String;)Z"⟩ prog_12_method_15_code 3 (Option.some FieldType.boolean) ∈ Ug := ug5 98 (by decide +kernel) (by decide +kernel)
theorem w_1114 : Cond.methodLink "WitnessPaysModel" 148 ⟨"java/lang/String", "length", "()I"⟩ ∈ Ug := ug5 99 (by decide +kernel) (by decide +kernel)
theorem w_1115 : Cond.methodLink "WitnessPaysModel" 153 ⟨"java/lang/String", "charAt", "(I)C"⟩ ∈ Ug := ug5 100 (by decide +kernel) (by decide +kernel)
theorem w_1116 : Cond.instanceMethod ⟨"java/lang/String", "charAt", "(I)C"⟩ ∈ Ug := ug5 101 (by decide +kernel) (by decide +kernel)
theorem w_1117 : Cond.selects "java/lang/String" ⟨"java/lang/String", "charAt", "(I)C"⟩ ⟨"java/lang/String", "charAt", "(I)C"⟩ ∈ Ug := ug5 102 (by decide +kernel) (by decide +kernel)
theorem w_1118 : Cond.code ⟨"java/lang/String", "charAt", "(I)C"⟩ prog_16_method_56_code 2 (Option.some FieldType.char) ∈ Ug := ug5 103 (by decide +kernel) (by decide +kernel)
theorem w_1119 : Cond.methodLink "java/lang/String" 495 ⟨"java/lang/StringLatin1", "charAt", "([BI)C"⟩ ∈ Ug := ug5 104 (by decide +kernel) (by decide +kernel)
theorem w_1120 : Cond.static ⟨"java/lang/StringLatin1", "charAt", "([BI)C"⟩ ∈ Ug := ug5 105 (by decide +kernel) (by decide +kernel)
theorem w_1121 : Cond.code ⟨"java/lang/StringLatin1", "charAt", "([BI)C"⟩ prog_17_method_2_code 2 (Option.some FieldType.char) ∈ Ug := ug5 106 (by decide +kernel) (by decide +kernel)
theorem w_1122 : Cond.methodLink "java/lang/StringLatin1" 9 ⟨"java/lang/String", "checkIndex", "(II)V"⟩ ∈ Ug := ug5 107 (by decide +kernel) (by decide +kernel)
theorem w_1123 : Cond.static ⟨"java/lang/String", "checkIndex", "(II)V"⟩ ∈ Ug := ug5 108 (by decide +kernel) (by decide +kernel)
theorem w_1124 : Cond.code ⟨"java/lang/String", "checkIndex", "(II)V"⟩ prog_16_method_155_code 2 (Option.none : Option FieldType) ∈ Ug := ug5 109 (by decide +kernel) (by decide +kernel)
theorem w_1125 : Cond.methodLink "java/lang/String" 1059 ⟨"jdk/internal/util/Preconditions", "checkIndex", "(IILjava/util/function/BiFunction;)I"⟩ ∈ Ug := ug5 110 (by decide +kernel) (by decide +kernel)
theorem w_1126 : Cond.static ⟨"jdk/internal/util/Preconditions", "checkIndex", "(IILjava/util/function/BiFunction;)I"⟩ ∈ Ug := ug5 111 (by decide +kernel) (by decide +kernel)
theorem w_1127 : Cond.code ⟨"jdk/internal/util/Preconditions", "checkIndex", "(IILjava/util/function/BiFunction;)I"⟩ prog_20_method_11_code 3 (Option.some FieldType.int) ∈ Ug := ug5 112 (by decide +kernel) (by decide +kernel)
theorem w_1128 : Cond.methodLink "java/lang/String" 498 ⟨"java/lang/StringUTF16", "charAt", "([BI)C"⟩ ∈ Ug := ug5 113 (by decide +kernel) (by decide +kernel)
theorem w_1135 : Cond.methodLink "WitnessPaysModel" 157 ⟨"WitnessPaysModel", "is", "(I)Z"⟩ ∈ Ug := ug5 120 (by decide +kernel) (by decide +kernel)
theorem w_1137 : Cond.instanceMethod ⟨"WitnessPaysModel", "is", "(I)Z"⟩ ∈ Ug := ug5 122 (by decide +kernel) (by decide +kernel)
theorem w_1138 : Cond.code ⟨"WitnessPaysModel", "is", "(I)Z"⟩ prog_12_method_12_code 2 (Option.some FieldType.boolean) ∈ Ug := ug5 123 (by decide +kernel) (by decide +kernel)
theorem w_1141 : Cond.methodLink "WitnessPaysModel" 170 ⟨"WitnessPaysModel", "isNumber", "()Z"⟩ ∈ Ug := ug5 126 (by decide +kernel) (by decide +kernel)
theorem w_1143 : Cond.instanceMethod ⟨"WitnessPaysModel", "isNumber", "()Z"⟩ ∈ Ug := ug5 128 (by decide +kernel) (by decide +kernel)
theorem w_1144 : Cond.code ⟨"WitnessPaysModel", "isNumber", "()Z"⟩ prog_12_method_14_code 1 (Option.some FieldType.boolean) ∈ Ug := ug5 129 (by decide +kernel) (by decide +kernel)
theorem w_1145 : Cond.methodLink "WitnessPaysModel" 144 ⟨"WitnessPaysModel", "isDigit", "()Z"⟩ ∈ Ug := ug5 130 (by decide +kernel) (by decide +kernel)
theorem w_1147 : Cond.instanceMethod ⟨"WitnessPaysModel", "isDigit", "()Z"⟩ ∈ Ug := ug5 132 (by decide +kernel) (by decide +kernel)
theorem w_1148 : Cond.code ⟨"WitnessPaysModel", "isDigit", "()Z"⟩ prog_12_method_13_code 1 (Option.some FieldType.boolean) ∈ Ug := ug5 133 (by decide +kernel) (by decide +kernel)
theorem w_1149 : Cond.methodLink "WitnessPaysModel" 185 ⟨"WitnessPaysModel", "isE", "()Z"⟩ ∈ Ug := ug5 134 (by decide +kernel) (by decide +kernel)
theorem w_1151 : Cond.instanceMethod ⟨"WitnessPaysModel", "isE", "()Z"⟩ ∈ Ug := ug5 136 (by decide +kernel) (by decide +kernel)
theorem w_1152 : Cond.code ⟨"WitnessPaysModel", "isE", "()Z"⟩ prog_12_method_21_code 1 (Option.some FieldType.boolean) ∈ Ug := ug5 137 (by decide +kernel) (by decide +kernel)
theorem w_1153 : Cond.methodLink "WitnessPaysModel" 191 ⟨"WitnessPaysModel", "isT", "()Z"⟩ ∈ Ug := ug5 138 (by decide +kernel) (by decide +kernel)
theorem w_1155 : Cond.instanceMethod ⟨"WitnessPaysModel", "isT", "()Z"⟩ ∈ Ug := ug5 140 (by decide +kernel) (by decide +kernel)
theorem w_1156 : Cond.code ⟨"WitnessPaysModel", "isT", "()Z"⟩ prog_12_method_20_code 1 (Option.some FieldType.boolean) ∈ Ug := ug5 141 (by decide +kernel) (by decide +kernel)
theorem w_1157 : Cond.methodLink "WitnessPaysModel" 182 ⟨"WitnessPaysModel", "isF", "()Z"⟩ ∈ Ug := ug5 142 (by decide +kernel) (by decide +kernel)
theorem w_1159 : Cond.instanceMethod ⟨"WitnessPaysModel", "isF", "()Z"⟩ ∈ Ug := ug5 144 (by decide +kernel) (by decide +kernel)
theorem w_1160 : Cond.code ⟨"WitnessPaysModel", "isF", "()Z"⟩ prog_12_method_19_code 2 (Option.some FieldType.boolean) ∈ Ug := ug5 145 (by decide +kernel) (by decide +kernel)
theorem w_1161 : Cond.methodLink "WitnessPaysModel" 179 ⟨"WitnessPaysModel", "isOpened", "(I)Z"⟩ ∈ Ug := ug5 146 (by decide +kernel) (by decide +kernel)
theorem w_1163 : Cond.instanceMethod ⟨"WitnessPaysModel", "isOpened", "(I)Z"⟩ ∈ Ug := ug5 148 (by decide +kernel) (by decide +kernel)
theorem w_1164 : Cond.code ⟨"WitnessPaysModel", "isOpened", "(I)Z"⟩ prog_12_method_18_code 2 (Option.some FieldType.boolean) ∈ Ug := ug5 149 (by decide +kernel) (by decide +kernel)
theorem w_1165 : Cond.methodLink "WitnessPaysModel" 173 ⟨"WitnessPaysModel", "codes", "(I)Z"⟩ ∈ Ug := ug5 150 (by decide +kernel) (by decide +kernel)
theorem w_1167 : Cond.instanceMethod ⟨"WitnessPaysModel", "codes", "(I)Z"⟩ ∈ Ug := ug5 152 (by decide +kernel) (by decide +kernel)
theorem w_1168 : Cond.code ⟨"WitnessPaysModel", "codes", "(I)Z"⟩ prog_12_method_16_code 2 (Option.some FieldType.boolean) ∈ Ug := ug5 153 (by decide +kernel) (by decide +kernel)
theorem w_1169 : Cond.methodLink "WitnessPaysModel" 188 ⟨"WitnessPaysModel", "isTest", "()Z"⟩ ∈ Ug := ug5 154 (by decide +kernel) (by decide +kernel)
theorem w_1171 : Cond.instanceMethod ⟨"WitnessPaysModel", "isTest", "()Z"⟩ ∈ Ug := ug5 156 (by decide +kernel) (by decide +kernel)
theorem w_1172 : Cond.code ⟨"WitnessPaysModel", "isTest", "()Z"⟩ prog_12_method_17_code 3 (Option.some FieldType.boolean) ∈ Ug := ug5 157 (by decide +kernel) (by decide +kernel)
theorem w_1174 : Cond.methodLink "WitnessPaysModel" 165 ⟨"java/lang/String", "indexOf", "(I)I"⟩ ∈ Ug := ug5 159 (by decide +kernel) (by decide +kernel)
theorem w_1176 : Cond.methodLink "WitnessPaysLaw" 57 ⟨"WitnessPaysModel", "deed", "(I)I"⟩ ∈ Ug := ug5 161 (by decide +kernel) (by decide +kernel)
theorem w_1177 : Cond.instanceMethod ⟨"WitnessPaysModel", "deed", "(I)I"⟩ ∈ Ug := ug5 162 (by decide +kernel) (by decide +kernel)
theorem w_1178 : Cond.selects "WitnessPaysModel" ⟨"WitnessPaysModel", "deed", "(I)I"⟩ ⟨"WitnessPaysModel", "deed", "(I)I"⟩ ∈ Ug := ug5 163 (by decide +kernel) (by decide +kernel)
theorem w_1179 : Cond.code ⟨"WitnessPaysModel", "deed", "(I)I"⟩ prog_12_method_36_code 3 (Option.some FieldType.int) ∈ Ug := ug5 164 (by decide +kernel) (by decide +kernel)
theorem w_1180 : Cond.methodLink "WitnessPaysModel" 246 ⟨"WitnessPaysModel", "pays", "(I)I"⟩ ∈ Ug := ug5 165 (by decide +kernel) (by decide +kernel)
theorem w_1182 : Cond.instanceMethod ⟨"WitnessPaysModel", "pays", "(I)I"⟩ ∈ Ug := ug5 167 (by decide +kernel) (by decide +kernel)
theorem w_1183 : Cond.code ⟨"WitnessPaysModel", "pays", "(I)I"⟩ prog_12_method_34_code 9 (Option.some FieldType.int) ∈ Ug := ug5 168 (by decide +kernel) (by decide +kernel)
theorem w_1184 : Cond.methodLink "WitnessPaysModel" 243 ⟨"WitnessPaysModel", "fine", "()I"⟩ ∈ Ug := ug5 169 (by decide +kernel) (by decide +kernel)
theorem w_1186 : Cond.instanceMethod ⟨"WitnessPaysModel", "fine", "()I"⟩ ∈ Ug := ug5 171 (by decide +kernel) (by decide +kernel)
theorem w_1187 : Cond.code ⟨"WitnessPaysModel", "fine", "()I"⟩ prog_12_method_27_code 3 (Option.some FieldType.int) ∈ Ug := ug5 172 (by decide +kernel) (by decide +kernel)
theorem w_1188 : Cond.methodLink "WitnessPaysModel" 249 ⟨"WitnessPaysModel", "done", "(I)V"⟩ ∈ Ug := ug5 173 (by decide +kernel) (by decide +kernel)
theorem w_1190 : Cond.instanceMethod ⟨"WitnessPaysModel", "done", "(I)V"⟩ ∈ Ug := ug5 175 (by decide +kernel) (by decide +kernel)
theorem w_1191 : Cond.code ⟨"WitnessPaysModel", "done", "(I)V"⟩ prog_12_method_35_code 3 (Option.none : Option FieldType) ∈ Ug := ug5 176 (by decide +kernel) (by decide +kernel)
theorem w_1192 : Cond.methodLink "WitnessPaysLaw" 53 ⟨"WitnessPaysModel", "told", "(I)I"⟩ ∈ Ug := ug5 177 (by decide +kernel) (by decide +kernel)
theorem w_1193 : Cond.instanceMethod ⟨"WitnessPaysModel", "told", "(I)I"⟩ ∈ Ug := ug5 178 (by decide +kernel) (by decide +kernel)
theorem w_1194 : Cond.selects "WitnessPaysModel" ⟨"WitnessPaysModel", "told", "(I)I"⟩ ⟨"WitnessPaysModel", "told", "(I)I"⟩ ∈ Ug := ug5 179 (by decide +kernel) (by decide +kernel)
theorem w_1195 : Cond.code ⟨"WitnessPaysModel", "told", "(I)I"⟩ prog_12_method_40_code 2 (Option.some FieldType.int) ∈ Ug := ug5 180 (by decide +kernel) (by decide +kernel)
theorem w_1196 : Cond.methodLink "WitnessPaysModel" 253 ⟨"WitnessPaysModel", "allPurses", "()I"⟩ ∈ Ug := ug5 181 (by decide +kernel) (by decide +kernel)
theorem w_1198 : Cond.instanceMethod ⟨"WitnessPaysModel", "allPurses", "()I"⟩ ∈ Ug := ug5 183 (by decide +kernel) (by decide +kernel)
theorem w_1199 : Cond.code ⟨"WitnessPaysModel", "allPurses", "()I"⟩ prog_12_method_39_code 3 (Option.some FieldType.int) ∈ Ug := ug5 184 (by decide +kernel) (by decide +kernel)
theorem w_1200 : Cond.methodLink "WitnessPaysModel" 256 ⟨"WitnessPaysModel", "hidden", "(I)I"⟩ ∈ Ug := ug5 185 (by decide +kernel) (by decide +kernel)
theorem w_1202 : Cond.instanceMethod ⟨"WitnessPaysModel", "hidden", "(I)I"⟩ ∈ Ug := ug5 187 (by decide +kernel) (by decide +kernel)
theorem w_1203 : Cond.code ⟨"WitnessPaysModel", "hidden", "(I)I"⟩ prog_12_method_37_code 5 (Option.some FieldType.int) ∈ Ug := ug5 188 (by decide +kernel) (by decide +kernel)
theorem w_1204 : Cond.methodLink "WitnessPaysModel" 259 ⟨"WitnessPaysModel", "mostly", "(I)I"⟩ ∈ Ug := ug5 189 (by decide +kernel) (by decide +kernel)
theorem w_1206 : Cond.instanceMethod ⟨"WitnessPaysModel", "mostly", "(I)I"⟩ ∈ Ug := ug5 191 (by decide +kernel) (by decide +kernel)
theorem w_1207 : Cond.code ⟨"WitnessPaysModel", "mostly", "(I)I"⟩ prog_12_method_38_code 6 (Option.some FieldType.int) ∈ Ug := ug5 192 (by decide +kernel) (by decide +kernel)
theorem w_1208 : Cond.methodLink "WitnessPaysLaw" 61 ⟨"WitnessPaysModel", "pass", "(I)I"⟩ ∈ Ug := ug5 193 (by decide +kernel) (by decide +kernel)
theorem w_1209 : Cond.instanceMethod ⟨"WitnessPaysModel", "pass", "(I)I"⟩ ∈ Ug := ug5 194 (by decide +kernel) (by decide +kernel)
theorem w_1210 : Cond.selects "WitnessPaysModel" ⟨"WitnessPaysModel", "pass", "(I)I"⟩ ⟨"WitnessPaysModel", "pass", "(I)I"⟩ ∈ Ug := ug5 195 (by decide +kernel) (by decide +kernel)
theorem w_1211 : Cond.code ⟨"WitnessPaysModel", "pass", "(I)I"⟩ prog_12_method_42_code 3 (Option.some FieldType.int) ∈ Ug := ug5 196 (by decide +kernel) (by decide +kernel)
theorem w_1212 : Cond.methodLink "WitnessPaysModel" 262 ⟨"WitnessPaysModel", "goesDay", "()V"⟩ ∈ Ug := ug5 197 (by decide +kernel) (by decide +kernel)
theorem w_1214 : Cond.instanceMethod ⟨"WitnessPaysModel", "goesDay", "()V"⟩ ∈ Ug := ug5 199 (by decide +kernel) (by decide +kernel)
theorem w_1215 : Cond.code ⟨"WitnessPaysModel", "goesDay", "()V"⟩ prog_12_method_41_code 2 (Option.none : Option FieldType) ∈ Ug := ug5 200 (by decide +kernel) (by decide +kernel)
theorem w_1216 : Cond.methodLink "WitnessPaysLaw" 65 ⟨"WitnessPaysModel", "at", "(II)I"⟩ ∈ Ug := ug5 201 (by decide +kernel) (by decide +kernel)
theorem w_1217 : Cond.instanceMethod ⟨"WitnessPaysModel", "at", "(II)I"⟩ ∈ Ug := ug5 202 (by decide +kernel) (by decide +kernel)
theorem w_1218 : Cond.selects "WitnessPaysModel" ⟨"WitnessPaysModel", "at", "(II)I"⟩ ⟨"WitnessPaysModel", "at", "(II)I"⟩ ∈ Ug := ug5 203 (by decide +kernel) (by decide +kernel)
theorem w_1219 : Cond.code ⟨"WitnessPaysModel", "at", "(II)I"⟩ prog_12_method_45_code 3 (Option.some FieldType.int) ∈ Ug := ug5 204 (by decide +kernel) (by decide +kernel)
theorem w_1220 : Cond.methodLink "WitnessPaysModel" 272 ⟨"WitnessPaysModel", "when", "(I)I"⟩ ∈ Ug := ug5 205 (by decide +kernel) (by decide +kernel)
theorem w_1222 : Cond.instanceMethod ⟨"WitnessPaysModel", "when", "(I)I"⟩ ∈ Ug := ug5 207 (by decide +kernel) (by decide +kernel)
theorem w_1223 : Cond.code ⟨"WitnessPaysModel", "when", "(I)I"⟩ prog_12_method_43_code 4 (Option.some FieldType.int) ∈ Ug := ug5 208 (by decide +kernel) (by decide +kernel)
theorem w_1224 : Cond.methodLink "WitnessPaysModel" 265 ⟨"WitnessPaysModel", "keep", "([I)V"⟩ ∈ Ug := ug5 209 (by decide +kernel) (by decide +kernel)
theorem w_1226 : Cond.instanceMethod ⟨"WitnessPaysModel", "keep", "([I)V"⟩ ∈ Ug := ug5 211 (by decide +kernel) (by decide +kernel)
theorem w_1227 : Cond.code ⟨"WitnessPaysModel", "keep", "([I)V"⟩ prog_12_method_60_code 3 (Option.none : Option FieldType) ∈ Ug := ug5 212 (by decide +kernel) (by decide +kernel)
theorem w_1228 : Cond.methodLink "WitnessPaysModel" 269 ⟨"WitnessPaysModel", "again", "([I)V"⟩ ∈ Ug := ug5 213 (by decide +kernel) (by decide +kernel)
theorem w_1230 : Cond.instanceMethod ⟨"WitnessPaysModel", "again", "([I)V"⟩ ∈ Ug := ug5 215 (by decide +kernel) (by decide +kernel)
theorem w_1231 : Cond.code ⟨"WitnessPaysModel", "again", "([I)V"⟩ prog_12_method_61_code 3 (Option.none : Option FieldType) ∈ Ug := ug5 216 (by decide +kernel) (by decide +kernel)
theorem w_1232 : Cond.methodLink "WitnessPaysModel" 275 ⟨"WitnessPaysModel", "bricks", "(I)I"⟩ ∈ Ug := ug5 217 (by decide +kernel) (by decide +kernel)
theorem w_1234 : Cond.instanceMethod ⟨"WitnessPaysModel", "bricks", "(I)I"⟩ ∈ Ug := ug5 219 (by decide +kernel) (by decide +kernel)
theorem w_1235 : Cond.code ⟨"WitnessPaysModel", "bricks", "(I)I"⟩ prog_12_method_44_code 5 (Option.some FieldType.int) ∈ Ug := ug5 220 (by decide +kernel) (by decide +kernel)
theorem w_1236 : Cond.methodLink "WitnessPaysLaw" 69 ⟨"WitnessPaysModel", "share", "(II)I"⟩ ∈ Ug := ug5 221 (by decide +kernel) (by decide +kernel)
theorem w_1237 : Cond.instanceMethod ⟨"WitnessPaysModel", "share", "(II)I"⟩ ∈ Ug := ug5 222 (by decide +kernel) (by decide +kernel)
theorem w_1238 : Cond.selects "WitnessPaysModel" ⟨"WitnessPaysModel", "share", "(II)I"⟩ ⟨"WitnessPaysModel", "share", "(II)I"⟩ ∈ Ug := ug5 223 (by decide +kernel) (by decide +kernel)
theorem w_1239 : Cond.code ⟨"WitnessPaysModel", "share", "(II)I"⟩ prog_12_method_46_code 3 (Option.some FieldType.int) ∈ Ug := ug5 224 (by decide +kernel) (by decide +kernel)
theorem w_1240 : Cond.methodLink "WitnessPaysLaw" 73 ⟨"WitnessPaysModel", "see", "(III)I"⟩ ∈ Ug := ug5 225 (by decide +kernel) (by decide +kernel)
theorem w_1241 : Cond.instanceMethod ⟨"WitnessPaysModel", "see", "(III)I"⟩ ∈ Ug := ug5 226 (by decide +kernel) (by decide +kernel)
theorem w_1242 : Cond.selects "WitnessPaysModel" ⟨"WitnessPaysModel", "see", "(III)I"⟩ ⟨"WitnessPaysModel", "see", "(III)I"⟩ ∈ Ug := ug5 227 (by decide +kernel) (by decide +kernel)
theorem w_1243 : Cond.code ⟨"WitnessPaysModel", "see", "(III)I"⟩ prog_12_method_47_code 4 (Option.some FieldType.int) ∈ Ug := ug5 228 (by decide +kernel) (by decide +kernel)
theorem w_1244 : Cond.methodLink "WitnessPaysLaw" 77 ⟨"WitnessPaysModel", "wrong", "()I"⟩ ∈ Ug := ug5 229 (by decide +kernel) (by decide +kernel)
theorem w_1245 : Cond.instanceMethod ⟨"WitnessPaysModel", "wrong", "()I"⟩ ∈ Ug := ug5 230 (by decide +kernel) (by decide +kernel)
theorem w_1246 : Cond.selects "WitnessPaysModel" ⟨"WitnessPaysModel", "wrong", "()I"⟩ ⟨"WitnessPaysModel", "wrong", "()I"⟩ ∈ Ug := ug5 231 (by decide +kernel) (by decide +kernel)
theorem w_1247 : Cond.code ⟨"WitnessPaysModel", "wrong", "()I"⟩ prog_12_method_49_code 1 (Option.some FieldType.int) ∈ Ug := ug5 232 (by decide +kernel) (by decide +kernel)
theorem w_1248 : Cond.methodLink "WitnessPaysModel" 281 ⟨"WitnessPaysModel", "wrongBy", "(I)I"⟩ ∈ Ug := ug5 233 (by decide +kernel) (by decide +kernel)
theorem w_1250 : Cond.instanceMethod ⟨"WitnessPaysModel", "wrongBy", "(I)I"⟩ ∈ Ug := ug5 235 (by decide +kernel) (by decide +kernel)
theorem w_1251 : Cond.code ⟨"WitnessPaysModel", "wrongBy", "(I)I"⟩ prog_12_method_48_code 5 (Option.some FieldType.int) ∈ Ug := ug5 236 (by decide +kernel) (by decide +kernel)
theorem w_1252 : Cond.methodLink "WitnessPaysLaw" 81 ⟨"WitnessPaysModel", "from", "(I)I"⟩ ∈ Ug := ug5 237 (by decide +kernel) (by decide +kernel)
theorem w_1253 : Cond.instanceMethod ⟨"WitnessPaysModel", "from", "(I)I"⟩ ∈ Ug := ug5 238 (by decide +kernel) (by decide +kernel)
theorem w_1254 : Cond.selects "WitnessPaysModel" ⟨"WitnessPaysModel", "from", "(I)I"⟩ ⟨"WitnessPaysModel", "from", "(I)I"⟩ ∈ Ug := ug5 239 (by decide +kernel) (by decide +kernel)
theorem w_1255 : Cond.code ⟨"WitnessPaysModel", "from", "(I)I"⟩ prog_12_method_50_code 5 (Option.some FieldType.int) ∈ Ug := ug6 0 (by decide +kernel) (by decide +kernel)
theorem w_1256 : Cond.methodLink "WitnessPaysLaw" 85 ⟨"WitnessPaysModel", "can", "(II)I"⟩ ∈ Ug := ug6 1 (by decide +kernel) (by decide +kernel)
theorem w_1257 : Cond.instanceMethod ⟨"WitnessPaysModel", "can", "(II)I"⟩ ∈ Ug := ug6 2 (by decide +kernel) (by decide +kernel)
theorem w_1258 : Cond.selects "WitnessPaysModel" ⟨"WitnessPaysModel", "can", "(II)I"⟩ ⟨"WitnessPaysModel", "can", "(II)I"⟩ ∈ Ug := ug6 3 (by decide +kernel) (by decide +kernel)
theorem w_1259 : Cond.code ⟨"WitnessPaysModel", "can", "(II)I"⟩ prog_12_method_51_code 7 (Option.some FieldType.int) ∈ Ug := ug6 4 (by decide +kernel) (by decide +kernel)
theorem w_1260 : Cond.methodLink "WitnessPaysLaw" 90 ⟨"WitnessPaysModel", "odds", "(II)J"⟩ ∈ Ug := ug6 5 (by decide +kernel) (by decide +kernel)
theorem w_1261 : Cond.instanceMethod ⟨"WitnessPaysModel", "odds", "(II)J"⟩ ∈ Ug := ug6 6 (by decide +kernel) (by decide +kernel)
theorem w_1262 : Cond.selects "WitnessPaysModel" ⟨"WitnessPaysModel", "odds", "(II)J"⟩ ⟨"WitnessPaysModel", "odds", "(II)J"⟩ ∈ Ug := ug6 7 (by decide +kernel) (by decide +kernel)
theorem w_1263 : Cond.code ⟨"WitnessPaysModel", "odds", "(II)J"⟩ prog_12_method_53_code 6 (Option.some FieldType.long) ∈ Ug := ug6 8 (by decide +kernel) (by decide +kernel)
theorem w_1264 : Cond.constantLong "WitnessPaysModel" 284 (-9223372036854775808) ∈ Ug := ug6 9 (by decide +kernel) (by decide +kernel)
theorem w_1265 : Cond.methodLink "WitnessPaysModel" 286 ⟨"WitnessPaysModel", "part", "(III)J"⟩ ∈ Ug := ug6 10 (by decide +kernel) (by decide +kernel)
theorem w_1266 : Cond.static ⟨"WitnessPaysModel", "part", "(III)J"⟩ ∈ Ug := ug6 11 (by decide +kernel) (by decide +kernel)
theorem w_1267 : Cond.code ⟨"WitnessPaysModel", "part", "(III)J"⟩ prog_12_method_52_code 6 (Option.some FieldType.long) ∈ Ug := ug6 12 (by decide +kernel) (by decide +kernel)
theorem w_1268 : Cond.methodLink "WitnessPaysLaw" 95 ⟨"WitnessPaysModel", "mean", "(I)J"⟩ ∈ Ug := ug6 13 (by decide +kernel) (by decide +kernel)
theorem w_1269 : Cond.instanceMethod ⟨"WitnessPaysModel", "mean", "(I)J"⟩ ∈ Ug := ug6 14 (by decide +kernel) (by decide +kernel)
theorem w_1270 : Cond.selects "WitnessPaysModel" ⟨"WitnessPaysModel", "mean", "(I)J"⟩ ⟨"WitnessPaysModel", "mean", "(I)J"⟩ ∈ Ug := ug6 15 (by decide +kernel) (by decide +kernel)
theorem w_1271 : Cond.code ⟨"WitnessPaysModel", "mean", "(I)J"⟩ prog_12_method_54_code 4 (Option.some FieldType.long) ∈ Ug := ug6 16 (by decide +kernel) (by decide +kernel)
theorem w_1272 : Cond.methodLink "WitnessPaysLaw" 99 ⟨"WitnessPaysModel", "plan", "(II)I"⟩ ∈ Ug := ug6 17 (by decide +kernel) (by decide +kernel)
theorem w_1273 : Cond.instanceMethod ⟨"WitnessPaysModel", "plan", "(II)I"⟩ ∈ Ug := ug6 18 (by decide +kernel) (by decide +kernel)
theorem w_1274 : Cond.selects "WitnessPaysModel" ⟨"WitnessPaysModel", "plan", "(II)I"⟩ ⟨"WitnessPaysModel", "plan", "(II)I"⟩ ∈ Ug := ug6 19 (by decide +kernel) (by decide +kernel)
theorem w_1275 : Cond.code ⟨"WitnessPaysModel", "plan", "(II)I"⟩ prog_12_method_55_code 3 (Option.some FieldType.int) ∈ Ug := ug6 20 (by decide +kernel) (by decide +kernel)
theorem w_1276 : Cond.methodLink "WitnessPaysLaw" 103 ⟨"WitnessPaysModel", "ends", "(I)I"⟩ ∈ Ug := ug6 21 (by decide +kernel) (by decide +kernel)
theorem w_1277 : Cond.instanceMethod ⟨"WitnessPaysModel", "ends", "(I)I"⟩ ∈ Ug := ug6 22 (by decide +kernel) (by decide +kernel)
theorem w_1278 : Cond.selects "WitnessPaysModel" ⟨"WitnessPaysModel", "ends", "(I)I"⟩ ⟨"WitnessPaysModel", "ends", "(I)I"⟩ ∈ Ug := ug6 23 (by decide +kernel) (by decide +kernel)
theorem w_1279 : Cond.code ⟨"WitnessPaysModel", "ends", "(I)I"⟩ prog_12_method_56_code 4 (Option.some FieldType.int) ∈ Ug := ug6 24 (by decide +kernel) (by decide +kernel)
theorem w_1280 : Cond.methodLink "WitnessPaysLaw" 107 ⟨"WitnessPaysModel", "book", "(II)I"⟩ ∈ Ug := ug6 25 (by decide +kernel) (by decide +kernel)
theorem w_1281 : Cond.instanceMethod ⟨"WitnessPaysModel", "book", "(II)I"⟩ ∈ Ug := ug6 26 (by decide +kernel) (by decide +kernel)
theorem w_1282 : Cond.selects "WitnessPaysModel" ⟨"WitnessPaysModel", "book", "(II)I"⟩ ⟨"WitnessPaysModel", "book", "(II)I"⟩ ∈ Ug := ug6 27 (by decide +kernel) (by decide +kernel)
theorem w_1283 : Cond.code ⟨"WitnessPaysModel", "book", "(II)I"⟩ prog_12_method_57_code 3 (Option.some FieldType.int) ∈ Ug := ug6 28 (by decide +kernel) (by decide +kernel)
theorem w_1284 : Cond.methodLink "WitnessPaysLaw" 111 ⟨"WitnessPaysModel", "looked", "()I"⟩ ∈ Ug := ug6 29 (by decide +kernel) (by decide +kernel)
theorem w_1285 : Cond.instanceMethod ⟨"WitnessPaysModel", "looked", "()I"⟩ ∈ Ug := ug6 30 (by decide +kernel) (by decide +kernel)
theorem w_1286 : Cond.selects "WitnessPaysModel" ⟨"WitnessPaysModel", "looked", "()I"⟩ ⟨"WitnessPaysModel", "looked", "()I"⟩ ∈ Ug := ug6 31 (by decide +kernel) (by decide +kernel)
theorem w_1287 : Cond.code ⟨"WitnessPaysModel", "looked", "()I"⟩ prog_12_method_58_code 2 (Option.some FieldType.int) ∈ Ug := ug6 32 (by decide +kernel) (by decide +kernel)
theorem w_1288 : Cond.methodLink "WitnessPaysLaw" 115 ⟨"WitnessPaysModel", "judge", "(II)I"⟩ ∈ Ug := ug6 33 (by decide +kernel) (by decide +kernel)
theorem w_1289 : Cond.instanceMethod ⟨"WitnessPaysModel", "judge", "(II)I"⟩ ∈ Ug := ug6 34 (by decide +kernel) (by decide +kernel)
theorem w_1290 : Cond.selects "WitnessPaysModel" ⟨"WitnessPaysModel", "judge", "(II)I"⟩ ⟨"WitnessPaysModel", "judge", "(II)I"⟩ ∈ Ug := ug6 35 (by decide +kernel) (by decide +kernel)
theorem w_1291 : Cond.code ⟨"WitnessPaysModel", "judge", "(II)I"⟩ prog_12_method_59_code 4 (Option.some FieldType.int) ∈ Ug := ug6 36 (by decide +kernel) (by decide +kernel)
theorem w_1292 : Cond.methodLink "WitnessPaysLaw" 119 ⟨"WitnessPaysModel", "image", "()I"⟩ ∈ Ug := ug6 37 (by decide +kernel) (by decide +kernel)
theorem w_1293 : Cond.instanceMethod ⟨"WitnessPaysModel", "image", "()I"⟩ ∈ Ug := ug6 38 (by decide +kernel) (by decide +kernel)
theorem w_1294 : Cond.selects "WitnessPaysModel" ⟨"WitnessPaysModel", "image", "()I"⟩ ⟨"WitnessPaysModel", "image", "()I"⟩ ∈ Ug := ug6 39 (by decide +kernel) (by decide +kernel)
theorem w_1295 : Cond.code ⟨"WitnessPaysModel", "image", "()I"⟩ prog_12_method_62_code 1 (Option.some FieldType.int) ∈ Ug := ug6 40 (by decide +kernel) (by decide +kernel)
theorem w_1296 : Cond.methodLink "WitnessPaysLaw" 123 ⟨"WitnessPaysModel", "undo", "()I"⟩ ∈ Ug := ug6 41 (by decide +kernel) (by decide +kernel)
theorem w_1297 : Cond.instanceMethod ⟨"WitnessPaysModel", "undo", "()I"⟩ ∈ Ug := ug6 42 (by decide +kernel) (by decide +kernel)
theorem w_1298 : Cond.selects "WitnessPaysModel" ⟨"WitnessPaysModel", "undo", "()I"⟩ ⟨"WitnessPaysModel", "undo", "()I"⟩ ∈ Ug := ug6 43 (by decide +kernel) (by decide +kernel)
theorem w_1299 : Cond.code ⟨"WitnessPaysModel", "undo", "()I"⟩ prog_12_method_63_code 1 (Option.some FieldType.int) ∈ Ug := ug6 44 (by decide +kernel) (by decide +kernel)
theorem w_1300 : Cond.methodLink "WitnessPaysLaw" 127 ⟨"WitnessPaysModel", "act", "(III)I"⟩ ∈ Ug := ug6 45 (by decide +kernel) (by decide +kernel)
theorem w_1301 : Cond.instanceMethod ⟨"WitnessPaysModel", "act", "(III)I"⟩ ∈ Ug := ug6 46 (by decide +kernel) (by decide +kernel)
theorem w_1302 : Cond.selects "WitnessPaysModel" ⟨"WitnessPaysModel", "act", "(III)I"⟩ ⟨"WitnessPaysModel", "act", "(III)I"⟩ ∈ Ug := ug6 47 (by decide +kernel) (by decide +kernel)
theorem w_1303 : Cond.code ⟨"WitnessPaysModel", "act", "(III)I"⟩ prog_12_method_69_code 5 (Option.some FieldType.int) ∈ Ug := ug6 48 (by decide +kernel) (by decide +kernel)
theorem w_1304 : Cond.methodLink "WitnessPaysModel" 306 ⟨"WitnessPaysModel", "looks", "(III)I"⟩ ∈ Ug := ug6 49 (by decide +kernel) (by decide +kernel)
theorem w_1306 : Cond.instanceMethod ⟨"WitnessPaysModel", "looks", "(III)I"⟩ ∈ Ug := ug6 51 (by decide +kernel) (by decide +kernel)
theorem w_1307 : Cond.code ⟨"WitnessPaysModel", "looks", "(III)I"⟩ prog_12_method_66_code 4 (Option.some FieldType.int) ∈ Ug := ug6 52 (by decide +kernel) (by decide +kernel)
theorem w_1308 : Cond.methodLink "WitnessPaysModel" 303 ⟨"WitnessPaysModel", "ran", "(I)V"⟩ ∈ Ug := ug6 53 (by decide +kernel) (by decide +kernel)
theorem w_1310 : Cond.instanceMethod ⟨"WitnessPaysModel", "ran", "(I)V"⟩ ∈ Ug := ug6 55 (by decide +kernel) (by decide +kernel)
theorem w_1311 : Cond.code ⟨"WitnessPaysModel", "ran", "(I)V"⟩ prog_12_method_64_code 2 (Option.none : Option FieldType) ∈ Ug := ug6 56 (by decide +kernel) (by decide +kernel)
theorem w_1312 : Cond.methodLink "WitnessPaysModel" 310 ⟨"WitnessPaysModel", "above", "(I)I"⟩ ∈ Ug := ug6 57 (by decide +kernel) (by decide +kernel)
theorem w_1313 : Cond.static ⟨"WitnessPaysModel", "above", "(I)I"⟩ ∈ Ug := ug6 58 (by decide +kernel) (by decide +kernel)
theorem w_1314 : Cond.code ⟨"WitnessPaysModel", "above", "(I)I"⟩ prog_12_method_65_code 1 (Option.some FieldType.int) ∈ Ug := ug6 59 (by decide +kernel) (by decide +kernel)
theorem w_1315 : Cond.methodLink "WitnessPaysModel" 313 ⟨"WitnessPaysModel", "swears", "(III)I"⟩ ∈ Ug := ug6 60 (by decide +kernel) (by decide +kernel)
theorem w_1317 : Cond.instanceMethod ⟨"WitnessPaysModel", "swears", "(III)I"⟩ ∈ Ug := ug6 62 (by decide +kernel) (by decide +kernel)
theorem w_1318 : Cond.code ⟨"WitnessPaysModel", "swears", "(III)I"⟩ prog_12_method_67_code 5 (Option.some FieldType.int) ∈ Ug := ug6 63 (by decide +kernel) (by decide +kernel)
theorem w_1319 : Cond.methodLink "WitnessPaysModel" 316 ⟨"WitnessPaysModel", "tells", "(III)I"⟩ ∈ Ug := ug6 64 (by decide +kernel) (by decide +kernel)
theorem w_1321 : Cond.instanceMethod ⟨"WitnessPaysModel", "tells", "(III)I"⟩ ∈ Ug := ug6 66 (by decide +kernel) (by decide +kernel)
theorem w_1322 : Cond.code ⟨"WitnessPaysModel", "tells", "(III)I"⟩ prog_12_method_68_code 5 (Option.some FieldType.int) ∈ Ug := ug6 67 (by decide +kernel) (by decide +kernel)
theorem w_1323 : Cond.methodLink "WitnessPaysLaw" 131 ⟨"WitnessPaysModel", "trace", "(I)I"⟩ ∈ Ug := ug6 68 (by decide +kernel) (by decide +kernel)
theorem w_1324 : Cond.instanceMethod ⟨"WitnessPaysModel", "trace", "(I)I"⟩ ∈ Ug := ug6 69 (by decide +kernel) (by decide +kernel)
theorem w_1325 : Cond.selects "WitnessPaysModel" ⟨"WitnessPaysModel", "trace", "(I)I"⟩ ⟨"WitnessPaysModel", "trace", "(I)I"⟩ ∈ Ug := ug6 70 (by decide +kernel) (by decide +kernel)
theorem w_1326 : Cond.code ⟨"WitnessPaysModel", "trace", "(I)I"⟩ prog_12_method_70_code 2 (Option.some FieldType.int) ∈ Ug := ug6 71 (by decide +kernel) (by decide +kernel)
theorem w_1327 : Cond.methodLink "WitnessPaysLaw" 135 ⟨"WitnessPaysModel", "taken", "(II)I"⟩ ∈ Ug := ug6 72 (by decide +kernel) (by decide +kernel)
theorem w_1328 : Cond.instanceMethod ⟨"WitnessPaysModel", "taken", "(II)I"⟩ ∈ Ug := ug6 73 (by decide +kernel) (by decide +kernel)
theorem w_1329 : Cond.selects "WitnessPaysModel" ⟨"WitnessPaysModel", "taken", "(II)I"⟩ ⟨"WitnessPaysModel", "taken", "(II)I"⟩ ∈ Ug := ug6 74 (by decide +kernel) (by decide +kernel)
theorem w_1330 : Cond.code ⟨"WitnessPaysModel", "taken", "(II)I"⟩ prog_12_method_71_code 4 (Option.some FieldType.int) ∈ Ug := ug6 75 (by decide +kernel) (by decide +kernel)
theorem w_1331 : Cond.methodLink "WitnessPaysLaw" 139 ⟨"WitnessPaysModel", "count", "(I)I"⟩ ∈ Ug := ug6 76 (by decide +kernel) (by decide +kernel)
theorem w_1332 : Cond.instanceMethod ⟨"WitnessPaysModel", "count", "(I)I"⟩ ∈ Ug := ug6 77 (by decide +kernel) (by decide +kernel)
theorem w_1333 : Cond.selects "WitnessPaysModel" ⟨"WitnessPaysModel", "count", "(I)I"⟩ ⟨"WitnessPaysModel", "count", "(I)I"⟩ ∈ Ug := ug6 78 (by decide +kernel) (by decide +kernel)
theorem w_1334 : Cond.code ⟨"WitnessPaysModel", "count", "(I)I"⟩ prog_12_method_72_code 2 (Option.some FieldType.int) ∈ Ug := ug6 79 (by decide +kernel) (by decide +kernel)
theorem w_1335 : Cond.methodLink "WitnessPaysLaw" 143 ⟨"WitnessPaysModel", "tape", "(III)I"⟩ ∈ Ug := ug6 80 (by decide +kernel) (by decide +kernel)
theorem w_1336 : Cond.instanceMethod ⟨"WitnessPaysModel", "tape", "(III)I"⟩ ∈ Ug := ug6 81 (by decide +kernel) (by decide +kernel)
theorem w_1337 : Cond.selects "WitnessPaysModel" ⟨"WitnessPaysModel", "tape", "(III)I"⟩ ⟨"WitnessPaysModel", "tape", "(III)I"⟩ ∈ Ug := ug6 82 (by decide +kernel) (by decide +kernel)
theorem w_1338 : Cond.code ⟨"WitnessPaysModel", "tape", "(III)I"⟩ prog_12_method_74_code 5 (Option.some FieldType.int) ∈ Ug := ug6 83 (by decide +kernel) (by decide +kernel)
theorem w_1339 : Cond.methodLink "WitnessPaysModel" 319 ⟨"WitnessPaysModel", "isTape", "(I)Z"⟩ ∈ Ug := ug6 84 (by decide +kernel) (by decide +kernel)
theorem w_1340 : Cond.static ⟨"WitnessPaysModel", "isTape", "(I)Z"⟩ ∈ Ug := ug6 85 (by decide +kernel) (by decide +kernel)
theorem w_1341 : Cond.code ⟨"WitnessPaysModel", "isTape", "(I)Z"⟩ prog_12_method_73_code 1 (Option.some FieldType.boolean) ∈ Ug := ug6 86 (by decide +kernel) (by decide +kernel)
theorem w_1342 : Cond.methodLink "WitnessPaysLaw" 150 ⟨"WitnessPaysModel", "item", "(IIJ)I"⟩ ∈ Ug := ug6 87 (by decide +kernel) (by decide +kernel)
theorem w_1343 : Cond.instanceMethod ⟨"WitnessPaysModel", "item", "(IIJ)I"⟩ ∈ Ug := ug6 88 (by decide +kernel) (by decide +kernel)
theorem w_1344 : Cond.selects "WitnessPaysModel" ⟨"WitnessPaysModel", "item", "(IIJ)I"⟩ ⟨"WitnessPaysModel", "item", "(IIJ)I"⟩ ∈ Ug := ug6 89 (by decide +kernel) (by decide +kernel)
theorem w_1345 : Cond.code ⟨"WitnessPaysModel", "item", "(IIJ)I"⟩ prog_12_method_76_code 5 (Option.some FieldType.int) ∈ Ug := ug6 90 (by decide +kernel) (by decide +kernel)
theorem w_1346 : Cond.methodLink "WitnessPaysModel" 322 ⟨"WitnessPaysModel", "kept", "(IJ)J"⟩ ∈ Ug := ug6 91 (by decide +kernel) (by decide +kernel)
theorem w_1347 : Cond.static ⟨"WitnessPaysModel", "kept", "(IJ)J"⟩ ∈ Ug := ug6 92 (by decide +kernel) (by decide +kernel)
theorem w_1348 : Cond.code ⟨"WitnessPaysModel", "kept", "(IJ)J"⟩ prog_12_method_75_code 3 (Option.some FieldType.long) ∈ Ug := ug6 93 (by decide +kernel) (by decide +kernel)
theorem w_1349 : Cond.methodLink "WitnessPaysLaw" 154 ⟨"WitnessPaysModel", "read", "(II)J"⟩ ∈ Ug := ug6 94 (by decide +kernel) (by decide +kernel)
theorem w_1350 : Cond.instanceMethod ⟨"WitnessPaysModel", "read", "(II)J"⟩ ∈ Ug := ug6 95 (by decide +kernel) (by decide +kernel)
theorem w_1351 : Cond.selects "WitnessPaysModel" ⟨"WitnessPaysModel", "read", "(II)J"⟩ ⟨"WitnessPaysModel", "read", "(II)J"⟩ ∈ Ug := ug6 96 (by decide +kernel) (by decide +kernel)
theorem w_1352 : Cond.code ⟨"WitnessPaysModel", "read", "(II)J"⟩ prog_12_method_77_code 3 (Option.some FieldType.long) ∈ Ug := ug6 97 (by decide +kernel) (by decide +kernel)
theorem w_1353 : Cond.methodLink "WitnessPaysLaw" 159 ⟨"WitnessPaysModel", "shift", "(IIIII)I"⟩ ∈ Ug := ug6 98 (by decide +kernel) (by decide +kernel)
theorem w_1354 : Cond.instanceMethod ⟨"WitnessPaysModel", "shift", "(IIIII)I"⟩ ∈ Ug := ug6 99 (by decide +kernel) (by decide +kernel)
theorem w_1355 : Cond.selects "WitnessPaysModel" ⟨"WitnessPaysModel", "shift", "(IIIII)I"⟩ ⟨"WitnessPaysModel", "shift", "(IIIII)I"⟩ ∈ Ug := ug6 100 (by decide +kernel) (by decide +kernel)
theorem w_1356 : Cond.code ⟨"WitnessPaysModel", "shift", "(IIIII)I"⟩ prog_12_method_78_code 7 (Option.some FieldType.int) ∈ Ug := ug6 101 (by decide +kernel) (by decide +kernel)
theorem w_1357 : Cond.constantLong "WitnessPaysLaw" 144 4294967295 ∈ Ug := ug6 102 (by decide +kernel) (by decide +kernel)
theorem w_1358 : Cond.fieldLink "java/lang/String" 9 "java/lang/String" "value" "[B" ∈ Ug := ug6 103 (by decide +kernel) (by decide +kernel)
theorem w_1359 : Cond.fieldLink "java/lang/String" 15 "java/lang/String" "coder" "B" ∈ Ug := ug6 104 (by decide +kernel) (by decide +kernel)
abbrev mX0_init : Md := (yX0_init, cX0_init, 1, none)
abbrev mX0_forget : Md := (yX0_forget, cX0_forget, 1, none)
abbrev mX0_perform : Md := (yX0_perform, cX0_perform, 4, (some .int))
abbrev mX0_begin : Md := (yX0_begin, cX0_begin, 2, none)
abbrev mX0_looks : Md := (yX0_looks, cX0_looks, 3, (some .int))
abbrev mX0_swears : Md := (yX0_swears, cX0_swears, 3, (some .int))
abbrev mX0_tells : Md := (yX0_tells, cX0_tells, 3, (some .int))
abbrev mX1_init : Md := (yX1_init, cX1_init, 1, none)
abbrev mX1_clear : Md := (yX1_clear, cX1_clear, 1, none)
abbrev mX1_addStep : Md := (yX1_addStep, cX1_addStep, 2, none)
abbrev mX1_endClause : Md := (yX1_endClause, cX1_endClause, 3, none)
abbrev mX1_sum : Md := (yX1_sum, cX1_sum, 6, (some .int))
abbrev mX1_holds : Md := (yX1_holds, cX1_holds, 10, (some .boolean))
abbrev mX2_init : Md := (yX2_init, cX2_init, 1, none)
abbrev mX2_add : Md := (yX2_add, cX2_add, 2, (some .int))
abbrev mX2_enact : Md := (yX2_enact, cX2_enact, 3, (some (.object "WitnessPays$Law")))
abbrev mX2_readClause : Md := (yX2_readClause, cX2_readClause, 3, (some .boolean))
abbrev mX2_readWord : Md := (yX2_readWord, cX2_readWord, 1, (some .int))
abbrev mX2_readEither : Md := (yX2_readEither, cX2_readEither, 3, (some .boolean))
abbrev mX2_readBoth : Md := (yX2_readBoth, cX2_readBoth, 3, (some .boolean))
abbrev mX2_readFactor : Md := (yX2_readFactor, cX2_readFactor, 5, (some .boolean))
abbrev mX2_readNumber : Md := (yX2_readNumber, cX2_readNumber, 3, (some .int))
abbrev mX2_take : Md := (yX2_take, cX2_take, 2, (some .boolean))
abbrev mX2_takeAnyOf : Md := (yX2_takeAnyOf, cX2_takeAnyOf, 3, (some .int))
abbrev mX3_init : Md := (yX3_init, cX3_init, 2, none)
abbrev mX3_arrive : Md := (yX3_arrive, cX3_arrive, 5, none)
abbrev mX3_becomeLike : Md := (yX3_becomeLike, cX3_becomeLike, 2, none)
abbrev mX3_isOfKind : Md := (yX3_isOfKind, cX3_isOfKind, 2, (some .boolean))
abbrev mX3_walk : Md := (yX3_walk, cX3_walk, 2, none)
abbrev mX3_reach : Md := (yX3_reach, cX3_reach, 4, (some .int))
abbrev mX3_sees : Md := (yX3_sees, cX3_sees, 5, (some .boolean))
abbrev mX3_sight : Md := (yX3_sight, cX3_sight, 4, (some .int))
abbrev mX3_wayRight : Md := (yX3_wayRight, cX3_wayRight, 3, (some .int))
abbrev mX4_init : Md := (yX4_init, cX4_init, 2, none)
abbrev mX4_becomeLike : Md := (yX4_becomeLike, cX4_becomeLike, 2, none)
abbrev mX5_init : Md := (yX5_init, cX5_init, 3, none)
abbrev mX5_becomeLike : Md := (yX5_becomeLike, cX5_becomeLike, 3, none)
abbrev mX5_person : Md := (yX5_person, cX5_person, 2, (some (.object "WitnessPays$Person")))
abbrev mX5_welcome : Md := (yX5_welcome, cX5_welcome, 4, (some .int))
abbrev mX5_banish : Md := (yX5_banish, cX5_banish, 3, none)
abbrev mX5_goOn : Md := (yX5_goOn, cX5_goOn, 3, none)
abbrev mX5_reachOf : Md := (yX5_reachOf, cX5_reachOf, 2, (some .int))
abbrev mX5_look : Md := (yX5_look, cX5_look, 2, none)
abbrev mX5_lookBy : Md := (yX5_lookBy, cX5_lookBy, 2, none)
abbrev mX5_seersInView : Md := (yX5_seersInView, cX5_seersInView, 2, (some .int))
abbrev mX5_seersBehind : Md := (yX5_seersBehind, cX5_seersBehind, 5, (some .int))
abbrev mX5_seers : Md := (yX5_seers, cX5_seers, 2, (some .int))
abbrev mX5_sightOf : Md := (yX5_sightOf, cX5_sightOf, 2, (some .int))
abbrev mX5_firstSeenOnlyBy : Md := (yX5_firstSeenOnlyBy, cX5_firstSeenOnlyBy, 3, (some .int))
abbrev mX5_firstUnseen : Md := (yX5_firstUnseen, cX5_firstUnseen, 2, (some .int))
abbrev mX5_unseenPlaces : Md := (yX5_unseenPlaces, cX5_unseenPlaces, 3, (some .int))
abbrev mX5_mostSeenPlace : Md := (yX5_mostSeenPlace, cX5_mostSeenPlace, 5, (some .int))
abbrev mX5_dearestPlace : Md := (yX5_dearestPlace, cX5_dearestPlace, 5, (some .int))
abbrev mX5_purses : Md := (yX5_purses, cX5_purses, 3, (some .int))
abbrev mX5_paidFor : Md := (yX5_paidFor, cX5_paidFor, 2, (some .int))
abbrev mX5_paidBy : Md := (yX5_paidBy, cX5_paidBy, 4, (some .int))
abbrev mX5_paidByOne : Md := (yX5_paidByOne, cX5_paidByOne, 6, (some .int))
abbrev mX5_collect : Md := (yX5_collect, cX5_collect, 6, (some .int))
abbrev mX5_bricks : Md := (yX5_bricks, cX5_bricks, 5, (some .int))
abbrev mX6_init : Md := (yX6_init, cX6_init, 2, none)
abbrev mX6_empty : Md := (yX6_empty, cX6_empty, 1, (some .int))
abbrev mX6_add : Md := (yX6_add, cX6_add, 5, (some .int))
abbrev mX6_cell : Md := (yX6_cell, cX6_cell, 4, (some .int))
abbrev mX6_becomeLike : Md := (yX6_becomeLike, cX6_becomeLike, 2, none)
abbrev mX7_init : Md := (yX7_init, cX7_init, 1, none)
abbrev mX7_become : Md := (yX7_become, cX7_become, 4, none)
abbrev mX7_reaches : Md := (yX7_reaches, cX7_reaches, 3, (some .boolean))
abbrev mX7_narrowed : Md := (yX7_narrowed, cX7_narrowed, 3, (some .long))
abbrev mX8_init : Md := (yX8_init, cX8_init, 2, none)
abbrev mX8_shunnedBy : Md := (yX8_shunnedBy, cX8_shunnedBy, 8, (some .int))
abbrev mX8_daysUntilUnseen : Md := (yX8_daysUntilUnseen, cX8_daysUntilUnseen, 4, (some .int))
abbrev mX8_firstFalse : Md := (yX8_firstFalse, cX8_firstFalse, 4, (some .int))
abbrev mX8_agrees : Md := (yX8_agrees, cX8_agrees, 9, (some .boolean))
abbrev mX8_afterPlan : Md := (yX8_afterPlan, cX8_afterPlan, 5, (some (.object "WitnessPays$Street")))
abbrev mX9_init : Md := (yX9_init, cX9_init, 3, none)
abbrev mX9_one : Md := (yX9_one, cX9_one, 4, (some .int))
abbrev mX9_of : Md := (yX9_of, cX9_of, 4, (some .int))
abbrev mX9_set : Md := (yX9_set, cX9_set, 6, (some .int))
abbrev mX9_leave : Md := (yX9_leave, cX9_leave, 5, (some .int))
abbrev mX9_walls : Md := (yX9_walls, cX9_walls, 3, (some .int))
abbrev mX9_row : Md := (yX9_row, cX9_row, 6, (some .int))
abbrev mX9_feed : Md := (yX9_feed, cX9_feed, 2, (some .int))
abbrev mX9_statute : Md := (yX9_statute, cX9_statute, 2, (some .int))
abbrev mX9_told : Md := (yX9_told, cX9_told, 3, (some .int))
abbrev mX9_deed : Md := (yX9_deed, cX9_deed, 2, (some .int))
abbrev mX9_pass : Md := (yX9_pass, cX9_pass, 2, (some .int))
abbrev mX9_at : Md := (yX9_at, cX9_at, 3, (some .int))
abbrev mX9_share : Md := (yX9_share, cX9_share, 4, (some .int))
abbrev mX9_see : Md := (yX9_see, cX9_see, 4, (some .int))
abbrev mX9_wrong : Md := (yX9_wrong, cX9_wrong, 1, (some .int))
abbrev mX9_from : Md := (yX9_from, cX9_from, 5, (some .int))
abbrev mX9_can : Md := (yX9_can, cX9_can, 7, (some .int))
abbrev mX9_odds : Md := (yX9_odds, cX9_odds, 7, (some .long))
abbrev mX9_mean : Md := (yX9_mean, cX9_mean, 4, (some .long))
abbrev mX9_plan : Md := (yX9_plan, cX9_plan, 3, (some .int))
abbrev mX9_ends : Md := (yX9_ends, cX9_ends, 3, (some .int))
abbrev mX9_book : Md := (yX9_book, cX9_book, 3, (some .int))
abbrev mX9_looked : Md := (yX9_looked, cX9_looked, 3, (some .int))
abbrev mX9_judge : Md := (yX9_judge, cX9_judge, 7, (some .int))
abbrev mX9_image : Md := (yX9_image, cX9_image, 1, (some .int))
abbrev mX9_undo : Md := (yX9_undo, cX9_undo, 1, (some .int))
abbrev mX9_act : Md := (yX9_act, cX9_act, 5, (some .int))
abbrev mX9_trace : Md := (yX9_trace, cX9_trace, 2, (some .int))
abbrev mX9_taken : Md := (yX9_taken, cX9_taken, 4, (some .int))
abbrev mX9_count : Md := (yX9_count, cX9_count, 2, (some .int))
abbrev mX9_tape : Md := (yX9_tape, cX9_tape, 5, (some .int))
abbrev mX9_item : Md := (yX9_item, cX9_item, 6, (some .int))
abbrev mX9_read : Md := (yX9_read, cX9_read, 4, (some .long))
abbrev mX9_shift : Md := (yX9_shift, cX9_shift, 8, (some .int))
abbrev mX9_isWithin : Md := (yX9_isWithin, cX9_isWithin, 2, (some .boolean))
abbrev mX9_isPlace : Md := (yX9_isPlace, cX9_isPlace, 1, (some .boolean))
abbrev mX9_isPlanRow : Md := (yX9_isPlanRow, cX9_isPlanRow, 3, (some .boolean))
abbrev mX9_tapeOf : Md := (yX9_tapeOf, cX9_tapeOf, 2, (some (.object "WitnessPays$Tape")))
abbrev mX9_lowestTerms : Md := (yX9_lowestTerms, cX9_lowestTerms, 7, (some .long))
abbrev mX10_init : Md := (yX10_init, cX10_init, 2, none)
abbrev mX10_within : Md := (yX10_within, cX10_within, 3, (some .boolean))
abbrev mX10_isOne : Md := (yX10_isOne, cX10_isOne, 2, (some .boolean))
abbrev mX10_isPlace : Md := (yX10_isPlace, cX10_isPlace, 1, (some .boolean))
abbrev mX10_one : Md := (yX10_one, cX10_one, 5, (some .int))
abbrev mX10_of : Md := (yX10_of, cX10_of, 3, (some .int))
abbrev mX10_set : Md := (yX10_set, cX10_set, 5, (some .int))
abbrev mX10_leave : Md := (yX10_leave, cX10_leave, 4, (some .int))
abbrev mX10_walls : Md := (yX10_walls, cX10_walls, 3, (some .int))
abbrev mX10_row : Md := (yX10_row, cX10_row, 5, (some .int))
abbrev mX10_feed : Md := (yX10_feed, cX10_feed, 2, (some .int))
abbrev mX10_is : Md := (yX10_is, cX10_is, 2, (some .boolean))
abbrev mX10_isDigit : Md := (yX10_isDigit, cX10_isDigit, 1, (some .boolean))
abbrev mX10_isNumber : Md := (yX10_isNumber, cX10_isNumber, 1, (some .boolean))
abbrev mX10_isAll : Md := (yX10_isAll, cX10_isAll, 3, (some .boolean))
abbrev mX10_codes : Md := (yX10_codes, cX10_codes, 2, (some .boolean))
abbrev mX10_isTest : Md := (yX10_isTest, cX10_isTest, 3, (some .boolean))
abbrev mX10_isOpened : Md := (yX10_isOpened, cX10_isOpened, 2, (some .boolean))
abbrev mX10_isF : Md := (yX10_isF, cX10_isF, 2, (some .boolean))
abbrev mX10_isT : Md := (yX10_isT, cX10_isT, 1, (some .boolean))
abbrev mX10_isE : Md := (yX10_isE, cX10_isE, 1, (some .boolean))
abbrev mX10_isClause : Md := (yX10_isClause, cX10_isClause, 4, (some .boolean))
abbrev mX10_statute : Md := (yX10_statute, cX10_statute, 5, (some .int))
abbrev mX10_letterOf : Md := (yX10_letterOf, cX10_letterOf, 3, (some .int))
abbrev mX10_isTrue : Md := (yX10_isTrue, cX10_isTrue, 9, (some .boolean))
abbrev mX10_sum : Md := (yX10_sum, cX10_sum, 5, (some .int))
abbrev mX10_fine : Md := (yX10_fine, cX10_fine, 3, (some .int))
abbrev mX10_reach : Md := (yX10_reach, cX10_reach, 3, (some .int))
abbrev mX10_isWall : Md := (yX10_isWall, cX10_isWall, 2, (some .boolean))
abbrev mX10_sight : Md := (yX10_sight, cX10_sight, 6, (some .int))
abbrev mX10_seers : Md := (yX10_seers, cX10_seers, 4, (some .int))
abbrev mX10_shun : Md := (yX10_shun, cX10_shun, 7, (some .int))
abbrev mX10_alone : Md := (yX10_alone, cX10_alone, 3, (some .int))
abbrev mX10_pays : Md := (yX10_pays, cX10_pays, 9, (some .int))
abbrev mX10_done : Md := (yX10_done, cX10_done, 3, none)
abbrev mX10_deed : Md := (yX10_deed, cX10_deed, 3, (some .int))
abbrev mX10_hidden : Md := (yX10_hidden, cX10_hidden, 5, (some .int))
abbrev mX10_mostly : Md := (yX10_mostly, cX10_mostly, 6, (some .int))
abbrev mX10_allPurses : Md := (yX10_allPurses, cX10_allPurses, 3, (some .int))
abbrev mX10_told : Md := (yX10_told, cX10_told, 2, (some .int))
abbrev mX10_goesDay : Md := (yX10_goesDay, cX10_goesDay, 2, none)
abbrev mX10_pass : Md := (yX10_pass, cX10_pass, 3, (some .int))
abbrev mX10_when : Md := (yX10_when, cX10_when, 4, (some .int))
abbrev mX10_bricks : Md := (yX10_bricks, cX10_bricks, 5, (some .int))
abbrev mX10_at : Md := (yX10_at, cX10_at, 3, (some .int))
abbrev mX10_share : Md := (yX10_share, cX10_share, 3, (some .int))
abbrev mX10_see : Md := (yX10_see, cX10_see, 4, (some .int))
abbrev mX10_wrongBy : Md := (yX10_wrongBy, cX10_wrongBy, 5, (some .int))
abbrev mX10_wrong : Md := (yX10_wrong, cX10_wrong, 1, (some .int))
abbrev mX10_from : Md := (yX10_from, cX10_from, 5, (some .int))
abbrev mX10_can : Md := (yX10_can, cX10_can, 7, (some .int))
abbrev mX10_part : Md := (yX10_part, cX10_part, 6, (some .long))
abbrev mX10_odds : Md := (yX10_odds, cX10_odds, 6, (some .long))
abbrev mX10_mean : Md := (yX10_mean, cX10_mean, 4, (some .long))
abbrev mX10_plan : Md := (yX10_plan, cX10_plan, 3, (some .int))
abbrev mX10_ends : Md := (yX10_ends, cX10_ends, 4, (some .int))
abbrev mX10_book : Md := (yX10_book, cX10_book, 3, (some .int))
abbrev mX10_looked : Md := (yX10_looked, cX10_looked, 2, (some .int))
abbrev mX10_judge : Md := (yX10_judge, cX10_judge, 4, (some .int))
abbrev mX10_keep : Md := (yX10_keep, cX10_keep, 3, none)
abbrev mX10_again : Md := (yX10_again, cX10_again, 3, none)
abbrev mX10_image : Md := (yX10_image, cX10_image, 1, (some .int))
abbrev mX10_undo : Md := (yX10_undo, cX10_undo, 1, (some .int))
abbrev mX10_ran : Md := (yX10_ran, cX10_ran, 2, none)
abbrev mX10_above : Md := (yX10_above, cX10_above, 1, (some .int))
abbrev mX10_looks : Md := (yX10_looks, cX10_looks, 4, (some .int))
abbrev mX10_swears : Md := (yX10_swears, cX10_swears, 5, (some .int))
abbrev mX10_tells : Md := (yX10_tells, cX10_tells, 5, (some .int))
abbrev mX10_act : Md := (yX10_act, cX10_act, 5, (some .int))
abbrev mX10_trace : Md := (yX10_trace, cX10_trace, 2, (some .int))
abbrev mX10_taken : Md := (yX10_taken, cX10_taken, 4, (some .int))
abbrev mX10_count : Md := (yX10_count, cX10_count, 2, (some .int))
abbrev mX10_isTape : Md := (yX10_isTape, cX10_isTape, 1, (some .boolean))
abbrev mX10_tape : Md := (yX10_tape, cX10_tape, 5, (some .int))
abbrev mX10_kept : Md := (yX10_kept, cX10_kept, 3, (some .long))
abbrev mX10_item : Md := (yX10_item, cX10_item, 5, (some .int))
abbrev mX10_read : Md := (yX10_read, cX10_read, 3, (some .long))
abbrev mX10_shift : Md := (yX10_shift, cX10_shift, 7, (some .int))
abbrev mJ6_compare_7cf53 : Md := (yJ6_compare_7cf53, cJ6_compare_7cf53, 2, (some .int))
abbrev mJ6_bitCount_0f7a4 : Md := (yJ6_bitCount_0f7a4, cJ6_bitCount_0f7a4, 1, (some .int))
abbrev mJ0_length_8abf5 : Md := (yJ0_length_8abf5, cJ0_length_8abf5, 1, (some .int))
abbrev mJ0_charAt_5068e : Md := (yJ0_charAt_5068e, cJ0_charAt_5068e, 2, (some .char))
abbrev mJ0_indexOf_0f7a4 : Md := (yJ0_indexOf_0f7a4, cJ0_indexOf_0f7a4, 2, (some .int))
abbrev mJ0_indexOf_7cf53 : Md := (yJ0_indexOf_7cf53, cJ0_indexOf_7cf53, 3, (some .int))
abbrev mJ0_coder_7d493 : Md := (yJ0_coder_7d493, cJ0_coder_7d493, 1, (some .byte))
abbrev mJ0_isLatin1_aae02 : Md := (yJ0_isLatin1_aae02, cJ0_isLatin1_aae02, 1, (some .boolean))
abbrev mJ0_checkIndex_df160 : Md := (yJ0_checkIndex_df160, cJ0_checkIndex_df160, 2, none)
abbrev mJ1_charAt_3b067 : Md := (yJ1_charAt_3b067, cJ1_charAt_3b067, 2, (some .char))
abbrev mJ1_canEncode_9a6ad : Md := (yJ1_canEncode_9a6ad, cJ1_canEncode_9a6ad, 1, (some .boolean))
abbrev mJ1_indexOf_4cfef : Md := (yJ1_indexOf_4cfef, cJ1_indexOf_4cfef, 4, (some .int))
abbrev mJ1_indexOfChar_4cfef : Md := (yJ1_indexOfChar_4cfef, cJ1_indexOfChar_4cfef, 6, (some .int))
abbrev mJ3_checkIndex_8e157 : Md := (yJ3_checkIndex_8e157, cJ3_checkIndex_8e157, 3, (some .int))
theorem mo_X0_init : MOK mX0_init 0 := ⟨w_154, w_60, by decide +kernel, by decide +kernel, by decide +kernel⟩
theorem mi_X0_init : Cond.instanceMethod yX0_init ∈ Ug := w_153
theorem mo_X0_forget : MOK mX0_forget 0 := ⟨w_825, w_60, by decide +kernel, by decide +kernel, by decide +kernel⟩
theorem mv_X0_forget : MVI mX0_forget := ⟨w_823, w_824⟩
theorem mo_X0_perform : MOK mX0_perform 3 := ⟨w_829, w_60, by decide +kernel, by decide +kernel, by decide +kernel⟩
theorem mv_X0_perform : MVI mX0_perform := ⟨w_827, w_828⟩
theorem mo_X0_begin : MOK mX0_begin 1 := ⟨w_837, w_60, by decide +kernel, by decide +kernel, by decide +kernel⟩
theorem mv_X0_begin : MVI mX0_begin := ⟨w_836, w_15⟩
theorem mo_X0_looks : MOK mX0_looks 2 := ⟨w_833, w_60, by decide +kernel, by decide +kernel, by decide +kernel⟩
theorem mv_X0_looks : MVI mX0_looks := ⟨w_832, w_14⟩
theorem mo_X0_swears : MOK mX0_swears 2 := ⟨w_841, w_60, by decide +kernel, by decide +kernel, by decide +kernel⟩
theorem mv_X0_swears : MVI mX0_swears := ⟨w_840, w_16⟩
theorem mo_X0_tells : MOK mX0_tells 2 := ⟨w_845, w_60, by decide +kernel, by decide +kernel, by decide +kernel⟩
theorem mv_X0_tells : MVI mX0_tells := ⟨w_844, w_17⟩
theorem mo_X1_init : MOK mX1_init 0 := ⟨w_93, w_58, by decide +kernel, by decide +kernel, by decide +kernel⟩
theorem mi_X1_init : Cond.instanceMethod yX1_init ∈ Ug := w_92
theorem mo_X1_clear : MOK mX1_clear 0 := ⟨w_506, w_58, by decide +kernel, by decide +kernel, by decide +kernel⟩
theorem mv_X1_clear : MVI mX1_clear := ⟨w_504, w_505⟩
theorem mo_X1_addStep : MOK mX1_addStep 1 := ⟨w_616, w_58, by decide +kernel, by decide +kernel, by decide +kernel⟩
theorem mv_X1_addStep : MVI mX1_addStep := ⟨w_614, w_615⟩
theorem mo_X1_endClause : MOK mX1_endClause 2 := ⟨w_622, w_58, by decide +kernel, by decide +kernel, by decide +kernel⟩
theorem mv_X1_endClause : MVI mX1_endClause := ⟨w_620, w_621⟩
theorem mo_X1_sum : MOK mX1_sum 2 := ⟨w_387, w_58, by decide +kernel, by decide +kernel, by decide +kernel⟩
theorem mv_X1_sum : MVI mX1_sum := ⟨w_385, w_386⟩
theorem mo_X1_holds : MOK mX1_holds 2 := ⟨w_391, w_58, by decide +kernel, by decide +kernel, by decide +kernel⟩
theorem mv_X1_holds : MVI mX1_holds := ⟨w_390, w_0⟩
theorem mo_X2_init : MOK mX2_init 0 := ⟨w_87, w_57, by decide +kernel, by decide +kernel, by decide +kernel⟩
theorem mi_X2_init : Cond.instanceMethod yX2_init ∈ Ug := w_86
theorem mo_X2_add : MOK mX2_add 1 := ⟨w_494, w_57, by decide +kernel, by decide +kernel, by decide +kernel⟩
theorem mv_X2_add : MVI mX2_add := ⟨w_492, w_493⟩
theorem mo_X2_enact : MOK mX2_enact 0 := ⟨w_502, w_57, by decide +kernel, by decide +kernel, by decide +kernel⟩
theorem mv_X2_enact : MVI mX2_enact := ⟨w_500, w_501⟩
theorem mo_X2_readClause : MOK mX2_readClause 0 := ⟨w_510, w_57, by decide +kernel, by decide +kernel, by decide +kernel⟩
theorem mv_X2_readClause : MVI mX2_readClause := ⟨w_509, w_3⟩
theorem mo_X2_readWord : MOK mX2_readWord 0 := ⟨w_514, w_57, by decide +kernel, by decide +kernel, by decide +kernel⟩
theorem mv_X2_readWord : MVI mX2_readWord := ⟨w_513, w_4⟩
theorem mo_X2_readEither : MOK mX2_readEither 1 := ⟨w_604, w_57, by decide +kernel, by decide +kernel, by decide +kernel⟩
theorem mv_X2_readEither : MVI mX2_readEither := ⟨w_603, w_8⟩
theorem mo_X2_readBoth : MOK mX2_readBoth 1 := ⟨w_608, w_57, by decide +kernel, by decide +kernel, by decide +kernel⟩
theorem mv_X2_readBoth : MVI mX2_readBoth := ⟨w_607, w_9⟩
theorem mo_X2_readFactor : MOK mX2_readFactor 1 := ⟨w_612, w_57, by decide +kernel, by decide +kernel, by decide +kernel⟩
theorem mv_X2_readFactor : MVI mX2_readFactor := ⟨w_611, w_10⟩
theorem mo_X2_readNumber : MOK mX2_readNumber 0 := ⟨w_522, w_57, by decide +kernel, by decide +kernel, by decide +kernel⟩
theorem mv_X2_readNumber : MVI mX2_readNumber := ⟨w_521, w_6⟩
theorem mo_X2_take : MOK mX2_take 1 := ⟨w_518, w_57, by decide +kernel, by decide +kernel, by decide +kernel⟩
theorem mv_X2_take : MVI mX2_take := ⟨w_517, w_5⟩
theorem mo_X2_takeAnyOf : MOK mX2_takeAnyOf 1 := ⟨w_527, w_57, by decide +kernel, by decide +kernel, by decide +kernel⟩
theorem mv_X2_takeAnyOf : MVI mX2_takeAnyOf := ⟨w_526, w_7⟩
theorem mo_X3_init : MOK mX3_init 1 := ⟨w_213, w_64, by decide +kernel, by decide +kernel, by decide +kernel⟩
theorem mi_X3_init : Cond.instanceMethod yX3_init ∈ Ug := w_212
theorem mo_X3_arrive : MOK mX3_arrive 3 := ⟨w_371, w_64, by decide +kernel, by decide +kernel, by decide +kernel⟩
theorem mv_X3_arrive : MVI mX3_arrive := ⟨w_369, w_370⟩
theorem mo_X3_becomeLike : MOK mX3_becomeLike 1 := ⟨w_442, w_64, by decide +kernel, by decide +kernel, by decide +kernel⟩
theorem mv_X3_becomeLike : MVI mX3_becomeLike := ⟨w_440, w_441⟩
theorem mo_X3_isOfKind : MOK mX3_isOfKind 1 := ⟨w_402, w_64, by decide +kernel, by decide +kernel, by decide +kernel⟩
theorem mv_X3_isOfKind : MVI mX3_isOfKind := ⟨w_400, w_401⟩
theorem mo_X3_walk : MOK mX3_walk 1 := ⟨w_676, w_64, by decide +kernel, by decide +kernel, by decide +kernel⟩
theorem mv_X3_walk : MVI mX3_walk := ⟨w_674, w_675⟩
theorem mo_X3_reach : MOK mX3_reach 2 := ⟨w_398, w_64, by decide +kernel, by decide +kernel, by decide +kernel⟩
theorem mv_X3_reach : MVI mX3_reach := ⟨w_396, w_397⟩
theorem mo_X3_sees : MOK mX3_sees 2 := ⟨w_427, w_64, by decide +kernel, by decide +kernel, by decide +kernel⟩
theorem mv_X3_sees : MVI mX3_sees := ⟨w_425, w_426⟩
theorem mo_X3_sight : MOK mX3_sight 1 := ⟨w_423, w_64, by decide +kernel, by decide +kernel, by decide +kernel⟩
theorem mv_X3_sight : MVI mX3_sight := ⟨w_421, w_422⟩
theorem mo_X3_wayRight : MOK mX3_wayRight 2 := ⟨w_430, w_64, by decide +kernel, by decide +kernel, by decide +kernel⟩
theorem mt_X3_wayRight : Cond.static yX3_wayRight ∈ Ug := w_429
theorem mo_X4_init : MOK mX4_init 1 := ⟨w_182, w_61, by decide +kernel, by decide +kernel, by decide +kernel⟩
theorem mi_X4_init : Cond.instanceMethod yX4_init ∈ Ug := w_181
theorem mo_X4_becomeLike : MOK mX4_becomeLike 1 := ⟨w_806, w_61, by decide +kernel, by decide +kernel, by decide +kernel⟩
theorem mv_X4_becomeLike : MVI mX4_becomeLike := ⟨w_804, w_805⟩
theorem mo_X5_init : MOK mX5_init 1 := ⟨w_206, w_63, by decide +kernel, by decide +kernel, by decide +kernel⟩
theorem mi_X5_init : Cond.instanceMethod yX5_init ∈ Ug := w_205
theorem mo_X5_becomeLike : MOK mX5_becomeLike 1 := ⟨w_438, w_63, by decide +kernel, by decide +kernel, by decide +kernel⟩
theorem mv_X5_becomeLike : MVI mX5_becomeLike := ⟨w_436, w_437⟩
theorem mo_X5_person : MOK mX5_person 1 := ⟨w_379, w_63, by decide +kernel, by decide +kernel, by decide +kernel⟩
theorem mv_X5_person : MVI mX5_person := ⟨w_377, w_378⟩
theorem mo_X5_welcome : MOK mX5_welcome 3 := ⟨w_367, w_63, by decide +kernel, by decide +kernel, by decide +kernel⟩
theorem mv_X5_welcome : MVI mX5_welcome := ⟨w_365, w_366⟩
theorem mo_X5_banish : MOK mX5_banish 1 := ⟨w_774, w_63, by decide +kernel, by decide +kernel, by decide +kernel⟩
theorem mv_X5_banish : MVI mX5_banish := ⟨w_772, w_773⟩
theorem mo_X5_goOn : MOK mX5_goOn 1 := ⟨w_672, w_63, by decide +kernel, by decide +kernel, by decide +kernel⟩
theorem mv_X5_goOn : MVI mX5_goOn := ⟨w_670, w_671⟩
theorem mo_X5_reachOf : MOK mX5_reachOf 1 := ⟨w_383, w_63, by decide +kernel, by decide +kernel, by decide +kernel⟩
theorem mv_X5_reachOf : MVI mX5_reachOf := ⟨w_381, w_382⟩
theorem mo_X5_look : MOK mX5_look 0 := ⟨w_461, w_63, by decide +kernel, by decide +kernel, by decide +kernel⟩
theorem mv_X5_look : MVI mX5_look := ⟨w_459, w_460⟩
theorem mo_X5_lookBy : MOK mX5_lookBy 1 := ⟨w_418, w_63, by decide +kernel, by decide +kernel, by decide +kernel⟩
theorem mv_X5_lookBy : MVI mX5_lookBy := ⟨w_417, w_1⟩
theorem mo_X5_seersInView : MOK mX5_seersInView 1 := ⟨w_465, w_63, by decide +kernel, by decide +kernel, by decide +kernel⟩
theorem mv_X5_seersInView : MVI mX5_seersInView := ⟨w_463, w_464⟩
theorem mo_X5_seersBehind : MOK mX5_seersBehind 2 := ⟨w_469, w_63, by decide +kernel, by decide +kernel, by decide +kernel⟩
theorem mv_X5_seersBehind : MVI mX5_seersBehind := ⟨w_468, w_2⟩
theorem mo_X5_seers : MOK mX5_seers 1 := ⟨w_684, w_63, by decide +kernel, by decide +kernel, by decide +kernel⟩
theorem mv_X5_seers : MVI mX5_seers := ⟨w_682, w_683⟩
theorem mo_X5_sightOf : MOK mX5_sightOf 1 := ⟨w_414, w_63, by decide +kernel, by decide +kernel, by decide +kernel⟩
theorem mv_X5_sightOf : MVI mX5_sightOf := ⟨w_412, w_413⟩
theorem mo_X5_firstSeenOnlyBy : MOK mX5_firstSeenOnlyBy 1 := ⟨w_457, w_63, by decide +kernel, by decide +kernel, by decide +kernel⟩
theorem mv_X5_firstSeenOnlyBy : MVI mX5_firstSeenOnlyBy := ⟨w_455, w_456⟩
theorem mo_X5_firstUnseen : MOK mX5_firstUnseen 0 := ⟨w_634, w_63, by decide +kernel, by decide +kernel, by decide +kernel⟩
theorem mv_X5_firstUnseen : MVI mX5_firstUnseen := ⟨w_632, w_633⟩
theorem mo_X5_unseenPlaces : MOK mX5_unseenPlaces 0 := ⟨w_638, w_63, by decide +kernel, by decide +kernel, by decide +kernel⟩
theorem mv_X5_unseenPlaces : MVI mX5_unseenPlaces := ⟨w_636, w_637⟩
theorem mo_X5_mostSeenPlace : MOK mX5_mostSeenPlace 0 := ⟨w_642, w_63, by decide +kernel, by decide +kernel, by decide +kernel⟩
theorem mv_X5_mostSeenPlace : MVI mX5_mostSeenPlace := ⟨w_640, w_641⟩
theorem mo_X5_dearestPlace : MOK mX5_dearestPlace 0 := ⟨w_647, w_63, by decide +kernel, by decide +kernel, by decide +kernel⟩
theorem mv_X5_dearestPlace : MVI mX5_dearestPlace := ⟨w_645, w_646⟩
theorem mo_X5_purses : MOK mX5_purses 0 := ⟨w_630, w_63, by decide +kernel, by decide +kernel, by decide +kernel⟩
theorem mv_X5_purses : MVI mX5_purses := ⟨w_628, w_629⟩
theorem mo_X5_paidFor : MOK mX5_paidFor 1 := ⟨w_688, w_63, by decide +kernel, by decide +kernel, by decide +kernel⟩
theorem mv_X5_paidFor : MVI mX5_paidFor := ⟨w_686, w_687⟩
theorem mo_X5_paidBy : MOK mX5_paidBy 1 := ⟨w_651, w_63, by decide +kernel, by decide +kernel, by decide +kernel⟩
theorem mv_X5_paidBy : MVI mX5_paidBy := ⟨w_650, w_11⟩
theorem mo_X5_paidByOne : MOK mX5_paidByOne 2 := ⟨w_655, w_63, by decide +kernel, by decide +kernel, by decide +kernel⟩
theorem mv_X5_paidByOne : MVI mX5_paidByOne := ⟨w_653, w_654⟩
theorem mo_X5_collect : MOK mX5_collect 1 := ⟨w_664, w_63, by decide +kernel, by decide +kernel, by decide +kernel⟩
theorem mv_X5_collect : MVI mX5_collect := ⟨w_662, w_663⟩
theorem mo_X5_bricks : MOK mX5_bricks 1 := ⟨w_699, w_63, by decide +kernel, by decide +kernel, by decide +kernel⟩
theorem mv_X5_bricks : MVI mX5_bricks := ⟨w_697, w_698⟩
theorem mo_X6_init : MOK mX6_init 1 := ⟨w_188, w_62, by decide +kernel, by decide +kernel, by decide +kernel⟩
theorem mi_X6_init : Cond.instanceMethod yX6_init ∈ Ug := w_187
theorem mo_X6_empty : MOK mX6_empty 0 := ⟨w_712, w_62, by decide +kernel, by decide +kernel, by decide +kernel⟩
theorem mv_X6_empty : MVI mX6_empty := ⟨w_710, w_711⟩
theorem mo_X6_add : MOK mX6_add 3 := ⟨w_716, w_62, by decide +kernel, by decide +kernel, by decide +kernel⟩
theorem mv_X6_add : MVI mX6_add := ⟨w_714, w_715⟩
theorem mo_X6_cell : MOK mX6_cell 2 := ⟨w_728, w_62, by decide +kernel, by decide +kernel, by decide +kernel⟩
theorem mv_X6_cell : MVI mX6_cell := ⟨w_726, w_727⟩
theorem mo_X6_becomeLike : MOK mX6_becomeLike 1 := ⟨w_811, w_62, by decide +kernel, by decide +kernel, by decide +kernel⟩
theorem mv_X6_becomeLike : MVI mX6_becomeLike := ⟨w_809, w_810⟩
theorem mo_X7_init : MOK mX7_init 0 := ⟨w_314, w_66, by decide +kernel, by decide +kernel, by decide +kernel⟩
theorem mi_X7_init : Cond.instanceMethod yX7_init ∈ Ug := w_313
theorem mo_X7_become : MOK mX7_become 2 := ⟨w_866, w_66, by decide +kernel, by decide +kernel, by decide +kernel⟩
theorem mv_X7_become : MVI mX7_become := ⟨w_864, w_865⟩
theorem mo_X7_reaches : MOK mX7_reaches 2 := ⟨w_797, w_66, by decide +kernel, by decide +kernel, by decide +kernel⟩
theorem mv_X7_reaches : MVI mX7_reaches := ⟨w_795, w_796⟩
theorem mo_X7_narrowed : MOK mX7_narrowed 1 := ⟨w_874, w_66, by decide +kernel, by decide +kernel, by decide +kernel⟩
theorem mv_X7_narrowed : MVI mX7_narrowed := ⟨w_872, w_873⟩
theorem mo_X8_init : MOK mX8_init 1 := ⟨w_303, w_65, by decide +kernel, by decide +kernel, by decide +kernel⟩
theorem mi_X8_init : Cond.instanceMethod yX8_init ∈ Ug := w_302
theorem mo_X8_shunnedBy : MOK mX8_shunnedBy 2 := ⟨w_434, w_65, by decide +kernel, by decide +kernel, by decide +kernel⟩
theorem mv_X8_shunnedBy : MVI mX8_shunnedBy := ⟨w_432, w_433⟩
theorem mo_X8_daysUntilUnseen : MOK mX8_daysUntilUnseen 2 := ⟨w_693, w_65, by decide +kernel, by decide +kernel, by decide +kernel⟩
theorem mv_X8_daysUntilUnseen : MVI mX8_daysUntilUnseen := ⟨w_691, w_692⟩
theorem mo_X8_firstFalse : MOK mX8_firstFalse 2 := ⟨w_724, w_65, by decide +kernel, by decide +kernel, by decide +kernel⟩
theorem mv_X8_firstFalse : MVI mX8_firstFalse := ⟨w_722, w_723⟩
theorem mo_X8_agrees : MOK mX8_agrees 5 := ⟨w_737, w_65, by decide +kernel, by decide +kernel, by decide +kernel⟩
theorem mv_X8_agrees : MVI mX8_agrees := ⟨w_735, w_736⟩
theorem mo_X8_afterPlan : MOK mX8_afterPlan 2 := ⟨w_769, w_65, by decide +kernel, by decide +kernel, by decide +kernel⟩
theorem mv_X8_afterPlan : MVI mX8_afterPlan := ⟨w_767, w_768⟩
theorem mo_X9_init : MOK mX9_init 0 := ⟨w_79, w_56, by decide +kernel, by decide +kernel, by decide +kernel⟩
theorem mi_X9_init : Cond.instanceMethod yX9_init ∈ Ug := w_78
theorem mo_X9_one : MOK mX9_one 3 := ⟨w_357, w_56, by decide +kernel, by decide +kernel, by decide +kernel⟩
theorem mv_X9_one : MVI mX9_one := ⟨w_355, w_356⟩
theorem mo_X9_of : MOK mX9_of 2 := ⟨w_375, w_56, by decide +kernel, by decide +kernel, by decide +kernel⟩
theorem mv_X9_of : MVI mX9_of := ⟨w_373, w_374⟩
theorem mo_X9_set : MOK mX9_set 3 := ⟨w_474, w_56, by decide +kernel, by decide +kernel, by decide +kernel⟩
theorem mv_X9_set : MVI mX9_set := ⟨w_472, w_473⟩
theorem mo_X9_leave : MOK mX9_leave 2 := ⟨w_478, w_56, by decide +kernel, by decide +kernel, by decide +kernel⟩
theorem mv_X9_leave : MVI mX9_leave := ⟨w_476, w_477⟩
theorem mo_X9_walls : MOK mX9_walls 1 := ⟨w_482, w_56, by decide +kernel, by decide +kernel, by decide +kernel⟩
theorem mv_X9_walls : MVI mX9_walls := ⟨w_480, w_481⟩
theorem mo_X9_row : MOK mX9_row 3 := ⟨w_486, w_56, by decide +kernel, by decide +kernel, by decide +kernel⟩
theorem mv_X9_row : MVI mX9_row := ⟨w_484, w_485⟩
theorem mo_X9_feed : MOK mX9_feed 1 := ⟨w_490, w_56, by decide +kernel, by decide +kernel, by decide +kernel⟩
theorem mv_X9_feed : MVI mX9_feed := ⟨w_488, w_489⟩
theorem mo_X9_statute : MOK mX9_statute 0 := ⟨w_498, w_56, by decide +kernel, by decide +kernel, by decide +kernel⟩
theorem mv_X9_statute : MVI mX9_statute := ⟨w_496, w_497⟩
theorem mo_X9_told : MOK mX9_told 1 := ⟨w_626, w_56, by decide +kernel, by decide +kernel, by decide +kernel⟩
theorem mv_X9_told : MVI mX9_told := ⟨w_624, w_625⟩
theorem mo_X9_deed : MOK mX9_deed 1 := ⟨w_660, w_56, by decide +kernel, by decide +kernel, by decide +kernel⟩
theorem mv_X9_deed : MVI mX9_deed := ⟨w_658, w_659⟩
theorem mo_X9_pass : MOK mX9_pass 1 := ⟨w_668, w_56, by decide +kernel, by decide +kernel, by decide +kernel⟩
theorem mv_X9_pass : MVI mX9_pass := ⟨w_666, w_667⟩
theorem mo_X9_at : MOK mX9_at 2 := ⟨w_680, w_56, by decide +kernel, by decide +kernel, by decide +kernel⟩
theorem mv_X9_at : MVI mX9_at := ⟨w_678, w_679⟩
theorem mo_X9_share : MOK mX9_share 2 := ⟨w_703, w_56, by decide +kernel, by decide +kernel, by decide +kernel⟩
theorem mv_X9_share : MVI mX9_share := ⟨w_701, w_702⟩
theorem mo_X9_see : MOK mX9_see 3 := ⟨w_708, w_56, by decide +kernel, by decide +kernel, by decide +kernel⟩
theorem mv_X9_see : MVI mX9_see := ⟨w_706, w_707⟩
theorem mo_X9_wrong : MOK mX9_wrong 0 := ⟨w_720, w_56, by decide +kernel, by decide +kernel, by decide +kernel⟩
theorem mv_X9_wrong : MVI mX9_wrong := ⟨w_718, w_719⟩
theorem mo_X9_from : MOK mX9_from 1 := ⟨w_733, w_56, by decide +kernel, by decide +kernel, by decide +kernel⟩
theorem mv_X9_from : MVI mX9_from := ⟨w_731, w_732⟩
theorem mo_X9_can : MOK mX9_can 2 := ⟨w_741, w_56, by decide +kernel, by decide +kernel, by decide +kernel⟩
theorem mv_X9_can : MVI mX9_can := ⟨w_739, w_740⟩
theorem mo_X9_odds : MOK mX9_odds 2 := ⟨w_745, w_56, by decide +kernel, by decide +kernel, by decide +kernel⟩
theorem mv_X9_odds : MVI mX9_odds := ⟨w_743, w_744⟩
theorem mo_X9_mean : MOK mX9_mean 1 := ⟨w_753, w_56, by decide +kernel, by decide +kernel, by decide +kernel⟩
theorem mv_X9_mean : MVI mX9_mean := ⟨w_751, w_752⟩
theorem mo_X9_plan : MOK mX9_plan 2 := ⟨w_757, w_56, by decide +kernel, by decide +kernel, by decide +kernel⟩
theorem mv_X9_plan : MVI mX9_plan := ⟨w_755, w_756⟩
theorem mo_X9_ends : MOK mX9_ends 1 := ⟨w_765, w_56, by decide +kernel, by decide +kernel, by decide +kernel⟩
theorem mv_X9_ends : MVI mX9_ends := ⟨w_763, w_764⟩
theorem mo_X9_book : MOK mX9_book 2 := ⟨w_779, w_56, by decide +kernel, by decide +kernel, by decide +kernel⟩
theorem mv_X9_book : MVI mX9_book := ⟨w_777, w_778⟩
theorem mo_X9_looked : MOK mX9_looked 0 := ⟨w_783, w_56, by decide +kernel, by decide +kernel, by decide +kernel⟩
theorem mv_X9_looked : MVI mX9_looked := ⟨w_781, w_782⟩
theorem mo_X9_judge : MOK mX9_judge 2 := ⟨w_788, w_56, by decide +kernel, by decide +kernel, by decide +kernel⟩
theorem mv_X9_judge : MVI mX9_judge := ⟨w_786, w_787⟩
theorem mo_X9_image : MOK mX9_image 0 := ⟨w_802, w_56, by decide +kernel, by decide +kernel, by decide +kernel⟩
theorem mv_X9_image : MVI mX9_image := ⟨w_800, w_801⟩
theorem mo_X9_undo : MOK mX9_undo 0 := ⟨w_817, w_56, by decide +kernel, by decide +kernel, by decide +kernel⟩
theorem mv_X9_undo : MVI mX9_undo := ⟨w_815, w_816⟩
theorem mo_X9_act : MOK mX9_act 3 := ⟨w_821, w_56, by decide +kernel, by decide +kernel, by decide +kernel⟩
theorem mv_X9_act : MVI mX9_act := ⟨w_819, w_820⟩
theorem mo_X9_trace : MOK mX9_trace 1 := ⟨w_849, w_56, by decide +kernel, by decide +kernel, by decide +kernel⟩
theorem mv_X9_trace : MVI mX9_trace := ⟨w_847, w_848⟩
theorem mo_X9_taken : MOK mX9_taken 2 := ⟨w_853, w_56, by decide +kernel, by decide +kernel, by decide +kernel⟩
theorem mv_X9_taken : MVI mX9_taken := ⟨w_851, w_852⟩
theorem mo_X9_count : MOK mX9_count 1 := ⟨w_858, w_56, by decide +kernel, by decide +kernel, by decide +kernel⟩
theorem mv_X9_count : MVI mX9_count := ⟨w_856, w_857⟩
theorem mo_X9_tape : MOK mX9_tape 3 := ⟨w_862, w_56, by decide +kernel, by decide +kernel, by decide +kernel⟩
theorem mv_X9_tape : MVI mX9_tape := ⟨w_860, w_861⟩
theorem mo_X9_item : MOK mX9_item 3 := ⟨w_870, w_56, by decide +kernel, by decide +kernel, by decide +kernel⟩
theorem mv_X9_item : MVI mX9_item := ⟨w_868, w_869⟩
theorem mo_X9_read : MOK mX9_read 2 := ⟨w_878, w_56, by decide +kernel, by decide +kernel, by decide +kernel⟩
theorem mv_X9_read : MVI mX9_read := ⟨w_876, w_877⟩
theorem mo_X9_shift : MOK mX9_shift 5 := ⟨w_882, w_56, by decide +kernel, by decide +kernel, by decide +kernel⟩
theorem mv_X9_shift : MVI mX9_shift := ⟨w_880, w_881⟩
theorem mo_X9_isWithin : MOK mX9_isWithin 2 := ⟨w_360, w_56, by decide +kernel, by decide +kernel, by decide +kernel⟩
theorem mt_X9_isWithin : Cond.static yX9_isWithin ∈ Ug := w_359
theorem mo_X9_isPlace : MOK mX9_isPlace 1 := ⟨w_363, w_56, by decide +kernel, by decide +kernel, by decide +kernel⟩
theorem mt_X9_isPlace : Cond.static yX9_isPlace ∈ Ug := w_362
theorem mo_X9_isPlanRow : MOK mX9_isPlanRow 2 := ⟨w_761, w_56, by decide +kernel, by decide +kernel, by decide +kernel⟩
theorem mv_X9_isPlanRow : MVI mX9_isPlanRow := ⟨w_760, w_12⟩
theorem mo_X9_tapeOf : MOK mX9_tapeOf 1 := ⟨w_792, w_56, by decide +kernel, by decide +kernel, by decide +kernel⟩
theorem mv_X9_tapeOf : MVI mX9_tapeOf := ⟨w_791, w_13⟩
theorem mo_X9_lowestTerms : MOK mX9_lowestTerms 3 := ⟨w_749, w_56, by decide +kernel, by decide +kernel, by decide +kernel⟩
theorem mt_X9_lowestTerms : Cond.static yX9_lowestTerms ∈ Ug := w_748
theorem mo_X10_init : MOK mX10_init 0 := ⟨w_888, w_67, by decide +kernel, by decide +kernel, by decide +kernel⟩
theorem mi_X10_init : Cond.instanceMethod yX10_init ∈ Ug := w_887
theorem mo_X10_within : MOK mX10_within 3 := ⟨w_1030, w_67, by decide +kernel, by decide +kernel, by decide +kernel⟩
theorem mt_X10_within : Cond.static yX10_within ∈ Ug := w_1029
theorem mo_X10_isOne : MOK mX10_isOne 1 := ⟨w_1041, w_67, by decide +kernel, by decide +kernel, by decide +kernel⟩
theorem mv_X10_isOne : MVI mX10_isOne := ⟨w_1040, w_18⟩
theorem mo_X10_isPlace : MOK mX10_isPlace 1 := ⟨w_1033, w_67, by decide +kernel, by decide +kernel, by decide +kernel⟩
theorem mt_X10_isPlace : Cond.static yX10_isPlace ∈ Ug := w_1032
theorem mo_X10_one : MOK mX10_one 3 := ⟨w_1027, w_67, by decide +kernel, by decide +kernel, by decide +kernel⟩
theorem mv_X10_one : MVI mX10_one := ⟨w_1025, w_1026⟩
theorem mo_X10_of : MOK mX10_of 2 := ⟨w_1037, w_67, by decide +kernel, by decide +kernel, by decide +kernel⟩
theorem mv_X10_of : MVI mX10_of := ⟨w_1035, w_1036⟩
theorem mo_X10_set : MOK mX10_set 3 := ⟨w_1084, w_67, by decide +kernel, by decide +kernel, by decide +kernel⟩
theorem mv_X10_set : MVI mX10_set := ⟨w_1082, w_1083⟩
theorem mo_X10_leave : MOK mX10_leave 2 := ⟨w_1088, w_67, by decide +kernel, by decide +kernel, by decide +kernel⟩
theorem mv_X10_leave : MVI mX10_leave := ⟨w_1086, w_1087⟩
theorem mo_X10_walls : MOK mX10_walls 1 := ⟨w_1092, w_67, by decide +kernel, by decide +kernel, by decide +kernel⟩
theorem mv_X10_walls : MVI mX10_walls := ⟨w_1090, w_1091⟩
theorem mo_X10_row : MOK mX10_row 3 := ⟨w_1096, w_67, by decide +kernel, by decide +kernel, by decide +kernel⟩
theorem mv_X10_row : MVI mX10_row := ⟨w_1094, w_1095⟩
theorem mo_X10_feed : MOK mX10_feed 1 := ⟨w_1100, w_67, by decide +kernel, by decide +kernel, by decide +kernel⟩
theorem mv_X10_feed : MVI mX10_feed := ⟨w_1098, w_1099⟩
theorem mo_X10_is : MOK mX10_is 1 := ⟨w_1138, w_67, by decide +kernel, by decide +kernel, by decide +kernel⟩
theorem mv_X10_is : MVI mX10_is := ⟨w_1137, w_30⟩
theorem mo_X10_isDigit : MOK mX10_isDigit 0 := ⟨w_1148, w_67, by decide +kernel, by decide +kernel, by decide +kernel⟩
theorem mv_X10_isDigit : MVI mX10_isDigit := ⟨w_1147, w_32⟩
theorem mo_X10_isNumber : MOK mX10_isNumber 0 := ⟨w_1144, w_67, by decide +kernel, by decide +kernel, by decide +kernel⟩
theorem mv_X10_isNumber : MVI mX10_isNumber := ⟨w_1143, w_31⟩
theorem mo_X10_isAll : MOK mX10_isAll 1 := ⟨w_1113, w_67, by decide +kernel, by decide +kernel, by decide +kernel⟩
theorem mv_X10_isAll : MVI mX10_isAll := ⟨w_1112, w_29⟩
theorem mo_X10_codes : MOK mX10_codes 1 := ⟨w_1168, w_67, by decide +kernel, by decide +kernel, by decide +kernel⟩
theorem mv_X10_codes : MVI mX10_codes := ⟨w_1167, w_37⟩
theorem mo_X10_isTest : MOK mX10_isTest 0 := ⟨w_1172, w_67, by decide +kernel, by decide +kernel, by decide +kernel⟩
theorem mv_X10_isTest : MVI mX10_isTest := ⟨w_1171, w_38⟩
theorem mo_X10_isOpened : MOK mX10_isOpened 1 := ⟨w_1164, w_67, by decide +kernel, by decide +kernel, by decide +kernel⟩
theorem mv_X10_isOpened : MVI mX10_isOpened := ⟨w_1163, w_36⟩
theorem mo_X10_isF : MOK mX10_isF 0 := ⟨w_1160, w_67, by decide +kernel, by decide +kernel, by decide +kernel⟩
theorem mv_X10_isF : MVI mX10_isF := ⟨w_1159, w_35⟩
theorem mo_X10_isT : MOK mX10_isT 0 := ⟨w_1156, w_67, by decide +kernel, by decide +kernel, by decide +kernel⟩
theorem mv_X10_isT : MVI mX10_isT := ⟨w_1155, w_34⟩
theorem mo_X10_isE : MOK mX10_isE 0 := ⟨w_1152, w_67, by decide +kernel, by decide +kernel, by decide +kernel⟩
theorem mv_X10_isE : MVI mX10_isE := ⟨w_1151, w_33⟩
theorem mo_X10_isClause : MOK mX10_isClause 1 := ⟨w_1108, w_67, by decide +kernel, by decide +kernel, by decide +kernel⟩
theorem mv_X10_isClause : MVI mX10_isClause := ⟨w_1107, w_28⟩
theorem mo_X10_statute : MOK mX10_statute 0 := ⟨w_1104, w_67, by decide +kernel, by decide +kernel, by decide +kernel⟩
theorem mv_X10_statute : MVI mX10_statute := ⟨w_1102, w_1103⟩
theorem mo_X10_letterOf : MOK mX10_letterOf 2 := ⟨w_1057, w_67, by decide +kernel, by decide +kernel, by decide +kernel⟩
theorem mv_X10_letterOf : MVI mX10_letterOf := ⟨w_1056, w_22⟩
theorem mo_X10_isTrue : MOK mX10_isTrue 2 := ⟨w_1053, w_67, by decide +kernel, by decide +kernel, by decide +kernel⟩
theorem mv_X10_isTrue : MVI mX10_isTrue := ⟨w_1052, w_21⟩
theorem mo_X10_sum : MOK mX10_sum 1 := ⟨w_1049, w_67, by decide +kernel, by decide +kernel, by decide +kernel⟩
theorem mv_X10_sum : MVI mX10_sum := ⟨w_1048, w_20⟩
theorem mo_X10_fine : MOK mX10_fine 0 := ⟨w_1187, w_67, by decide +kernel, by decide +kernel, by decide +kernel⟩
theorem mv_X10_fine : MVI mX10_fine := ⟨w_1186, w_40⟩
theorem mo_X10_reach : MOK mX10_reach 1 := ⟨w_1045, w_67, by decide +kernel, by decide +kernel, by decide +kernel⟩
theorem mv_X10_reach : MVI mX10_reach := ⟨w_1044, w_19⟩
theorem mo_X10_isWall : MOK mX10_isWall 1 := ⟨w_1067, w_67, by decide +kernel, by decide +kernel, by decide +kernel⟩
theorem mv_X10_isWall : MVI mX10_isWall := ⟨w_1066, w_24⟩
theorem mo_X10_sight : MOK mX10_sight 1 := ⟨w_1063, w_67, by decide +kernel, by decide +kernel, by decide +kernel⟩
theorem mv_X10_sight : MVI mX10_sight := ⟨w_1062, w_23⟩
theorem mo_X10_seers : MOK mX10_seers 1 := ⟨w_1080, w_67, by decide +kernel, by decide +kernel, by decide +kernel⟩
theorem mv_X10_seers : MVI mX10_seers := ⟨w_1079, w_27⟩
theorem mo_X10_shun : MOK mX10_shun 1 := ⟨w_1071, w_67, by decide +kernel, by decide +kernel, by decide +kernel⟩
theorem mv_X10_shun : MVI mX10_shun := ⟨w_1070, w_25⟩
theorem mo_X10_alone : MOK mX10_alone 1 := ⟨w_1076, w_67, by decide +kernel, by decide +kernel, by decide +kernel⟩
theorem mv_X10_alone : MVI mX10_alone := ⟨w_1075, w_26⟩
theorem mo_X10_pays : MOK mX10_pays 1 := ⟨w_1183, w_67, by decide +kernel, by decide +kernel, by decide +kernel⟩
theorem mv_X10_pays : MVI mX10_pays := ⟨w_1182, w_39⟩
theorem mo_X10_done : MOK mX10_done 1 := ⟨w_1191, w_67, by decide +kernel, by decide +kernel, by decide +kernel⟩
theorem mv_X10_done : MVI mX10_done := ⟨w_1190, w_41⟩
theorem mo_X10_deed : MOK mX10_deed 1 := ⟨w_1179, w_67, by decide +kernel, by decide +kernel, by decide +kernel⟩
theorem mv_X10_deed : MVI mX10_deed := ⟨w_1177, w_1178⟩
theorem mo_X10_hidden : MOK mX10_hidden 1 := ⟨w_1203, w_67, by decide +kernel, by decide +kernel, by decide +kernel⟩
theorem mv_X10_hidden : MVI mX10_hidden := ⟨w_1202, w_43⟩
theorem mo_X10_mostly : MOK mX10_mostly 1 := ⟨w_1207, w_67, by decide +kernel, by decide +kernel, by decide +kernel⟩
theorem mv_X10_mostly : MVI mX10_mostly := ⟨w_1206, w_44⟩
theorem mo_X10_allPurses : MOK mX10_allPurses 0 := ⟨w_1199, w_67, by decide +kernel, by decide +kernel, by decide +kernel⟩
theorem mv_X10_allPurses : MVI mX10_allPurses := ⟨w_1198, w_42⟩
theorem mo_X10_told : MOK mX10_told 1 := ⟨w_1195, w_67, by decide +kernel, by decide +kernel, by decide +kernel⟩
theorem mv_X10_told : MVI mX10_told := ⟨w_1193, w_1194⟩
theorem mo_X10_goesDay : MOK mX10_goesDay 0 := ⟨w_1215, w_67, by decide +kernel, by decide +kernel, by decide +kernel⟩
theorem mv_X10_goesDay : MVI mX10_goesDay := ⟨w_1214, w_45⟩
theorem mo_X10_pass : MOK mX10_pass 1 := ⟨w_1211, w_67, by decide +kernel, by decide +kernel, by decide +kernel⟩
theorem mv_X10_pass : MVI mX10_pass := ⟨w_1209, w_1210⟩
theorem mo_X10_when : MOK mX10_when 1 := ⟨w_1223, w_67, by decide +kernel, by decide +kernel, by decide +kernel⟩
theorem mv_X10_when : MVI mX10_when := ⟨w_1222, w_46⟩
theorem mo_X10_bricks : MOK mX10_bricks 1 := ⟨w_1235, w_67, by decide +kernel, by decide +kernel, by decide +kernel⟩
theorem mv_X10_bricks : MVI mX10_bricks := ⟨w_1234, w_49⟩
theorem mo_X10_at : MOK mX10_at 2 := ⟨w_1219, w_67, by decide +kernel, by decide +kernel, by decide +kernel⟩
theorem mv_X10_at : MVI mX10_at := ⟨w_1217, w_1218⟩
theorem mo_X10_share : MOK mX10_share 2 := ⟨w_1239, w_67, by decide +kernel, by decide +kernel, by decide +kernel⟩
theorem mv_X10_share : MVI mX10_share := ⟨w_1237, w_1238⟩
theorem mo_X10_see : MOK mX10_see 3 := ⟨w_1243, w_67, by decide +kernel, by decide +kernel, by decide +kernel⟩
theorem mv_X10_see : MVI mX10_see := ⟨w_1241, w_1242⟩
theorem mo_X10_wrongBy : MOK mX10_wrongBy 1 := ⟨w_1251, w_67, by decide +kernel, by decide +kernel, by decide +kernel⟩
theorem mv_X10_wrongBy : MVI mX10_wrongBy := ⟨w_1250, w_50⟩
theorem mo_X10_wrong : MOK mX10_wrong 0 := ⟨w_1247, w_67, by decide +kernel, by decide +kernel, by decide +kernel⟩
theorem mv_X10_wrong : MVI mX10_wrong := ⟨w_1245, w_1246⟩
theorem mo_X10_from : MOK mX10_from 1 := ⟨w_1255, w_67, by decide +kernel, by decide +kernel, by decide +kernel⟩
theorem mv_X10_from : MVI mX10_from := ⟨w_1253, w_1254⟩
theorem mo_X10_can : MOK mX10_can 2 := ⟨w_1259, w_67, by decide +kernel, by decide +kernel, by decide +kernel⟩
theorem mv_X10_can : MVI mX10_can := ⟨w_1257, w_1258⟩
theorem mo_X10_part : MOK mX10_part 3 := ⟨w_1267, w_67, by decide +kernel, by decide +kernel, by decide +kernel⟩
theorem mt_X10_part : Cond.static yX10_part ∈ Ug := w_1266
theorem mo_X10_odds : MOK mX10_odds 2 := ⟨w_1263, w_67, by decide +kernel, by decide +kernel, by decide +kernel⟩
theorem mv_X10_odds : MVI mX10_odds := ⟨w_1261, w_1262⟩
theorem mo_X10_mean : MOK mX10_mean 1 := ⟨w_1271, w_67, by decide +kernel, by decide +kernel, by decide +kernel⟩
theorem mv_X10_mean : MVI mX10_mean := ⟨w_1269, w_1270⟩
theorem mo_X10_plan : MOK mX10_plan 2 := ⟨w_1275, w_67, by decide +kernel, by decide +kernel, by decide +kernel⟩
theorem mv_X10_plan : MVI mX10_plan := ⟨w_1273, w_1274⟩
theorem mo_X10_ends : MOK mX10_ends 1 := ⟨w_1279, w_67, by decide +kernel, by decide +kernel, by decide +kernel⟩
theorem mv_X10_ends : MVI mX10_ends := ⟨w_1277, w_1278⟩
theorem mo_X10_book : MOK mX10_book 2 := ⟨w_1283, w_67, by decide +kernel, by decide +kernel, by decide +kernel⟩
theorem mv_X10_book : MVI mX10_book := ⟨w_1281, w_1282⟩
theorem mo_X10_looked : MOK mX10_looked 0 := ⟨w_1287, w_67, by decide +kernel, by decide +kernel, by decide +kernel⟩
theorem mv_X10_looked : MVI mX10_looked := ⟨w_1285, w_1286⟩
theorem mo_X10_judge : MOK mX10_judge 2 := ⟨w_1291, w_67, by decide +kernel, by decide +kernel, by decide +kernel⟩
theorem mv_X10_judge : MVI mX10_judge := ⟨w_1289, w_1290⟩
theorem mo_X10_keep : MOK mX10_keep 1 := ⟨w_1227, w_67, by decide +kernel, by decide +kernel, by decide +kernel⟩
theorem mv_X10_keep : MVI mX10_keep := ⟨w_1226, w_47⟩
theorem mo_X10_again : MOK mX10_again 1 := ⟨w_1231, w_67, by decide +kernel, by decide +kernel, by decide +kernel⟩
theorem mv_X10_again : MVI mX10_again := ⟨w_1230, w_48⟩
theorem mo_X10_image : MOK mX10_image 0 := ⟨w_1295, w_67, by decide +kernel, by decide +kernel, by decide +kernel⟩
theorem mv_X10_image : MVI mX10_image := ⟨w_1293, w_1294⟩
theorem mo_X10_undo : MOK mX10_undo 0 := ⟨w_1299, w_67, by decide +kernel, by decide +kernel, by decide +kernel⟩
theorem mv_X10_undo : MVI mX10_undo := ⟨w_1297, w_1298⟩
theorem mo_X10_ran : MOK mX10_ran 1 := ⟨w_1311, w_67, by decide +kernel, by decide +kernel, by decide +kernel⟩
theorem mv_X10_ran : MVI mX10_ran := ⟨w_1310, w_52⟩
theorem mo_X10_above : MOK mX10_above 1 := ⟨w_1314, w_67, by decide +kernel, by decide +kernel, by decide +kernel⟩
theorem mt_X10_above : Cond.static yX10_above ∈ Ug := w_1313
theorem mo_X10_looks : MOK mX10_looks 3 := ⟨w_1307, w_67, by decide +kernel, by decide +kernel, by decide +kernel⟩
theorem mv_X10_looks : MVI mX10_looks := ⟨w_1306, w_51⟩
theorem mo_X10_swears : MOK mX10_swears 3 := ⟨w_1318, w_67, by decide +kernel, by decide +kernel, by decide +kernel⟩
theorem mv_X10_swears : MVI mX10_swears := ⟨w_1317, w_53⟩
theorem mo_X10_tells : MOK mX10_tells 3 := ⟨w_1322, w_67, by decide +kernel, by decide +kernel, by decide +kernel⟩
theorem mv_X10_tells : MVI mX10_tells := ⟨w_1321, w_54⟩
theorem mo_X10_act : MOK mX10_act 3 := ⟨w_1303, w_67, by decide +kernel, by decide +kernel, by decide +kernel⟩
theorem mv_X10_act : MVI mX10_act := ⟨w_1301, w_1302⟩
theorem mo_X10_trace : MOK mX10_trace 1 := ⟨w_1326, w_67, by decide +kernel, by decide +kernel, by decide +kernel⟩
theorem mv_X10_trace : MVI mX10_trace := ⟨w_1324, w_1325⟩
theorem mo_X10_taken : MOK mX10_taken 2 := ⟨w_1330, w_67, by decide +kernel, by decide +kernel, by decide +kernel⟩
theorem mv_X10_taken : MVI mX10_taken := ⟨w_1328, w_1329⟩
theorem mo_X10_count : MOK mX10_count 1 := ⟨w_1334, w_67, by decide +kernel, by decide +kernel, by decide +kernel⟩
theorem mv_X10_count : MVI mX10_count := ⟨w_1332, w_1333⟩
theorem mo_X10_isTape : MOK mX10_isTape 1 := ⟨w_1341, w_67, by decide +kernel, by decide +kernel, by decide +kernel⟩
theorem mt_X10_isTape : Cond.static yX10_isTape ∈ Ug := w_1340
theorem mo_X10_tape : MOK mX10_tape 3 := ⟨w_1338, w_67, by decide +kernel, by decide +kernel, by decide +kernel⟩
theorem mv_X10_tape : MVI mX10_tape := ⟨w_1336, w_1337⟩
theorem mo_X10_kept : MOK mX10_kept 2 := ⟨w_1348, w_67, by decide +kernel, by decide +kernel, by decide +kernel⟩
theorem mt_X10_kept : Cond.static yX10_kept ∈ Ug := w_1347
theorem mo_X10_item : MOK mX10_item 3 := ⟨w_1345, w_67, by decide +kernel, by decide +kernel, by decide +kernel⟩
theorem mv_X10_item : MVI mX10_item := ⟨w_1343, w_1344⟩
theorem mo_X10_read : MOK mX10_read 2 := ⟨w_1352, w_67, by decide +kernel, by decide +kernel, by decide +kernel⟩
theorem mv_X10_read : MVI mX10_read := ⟨w_1350, w_1351⟩
theorem mo_X10_shift : MOK mX10_shift 5 := ⟨w_1356, w_67, by decide +kernel, by decide +kernel, by decide +kernel⟩
theorem mv_X10_shift : MVI mX10_shift := ⟨w_1354, w_1355⟩
theorem mo_J6_compare_7cf53 : MOK mJ6_compare_7cf53 2 := ⟨w_394, w_68, by decide +kernel, by decide +kernel, by decide +kernel⟩
theorem mt_J6_compare_7cf53 : Cond.static yJ6_compare_7cf53 ∈ Ug := w_393
theorem mo_J6_bitCount_0f7a4 : MOK mJ6_bitCount_0f7a4 1 := ⟨w_450, w_68, by decide +kernel, by decide +kernel, by decide +kernel⟩
theorem mt_J6_bitCount_0f7a4 : Cond.static yJ6_bitCount_0f7a4 ∈ Ug := w_449
theorem mo_J0_length_8abf5 : MOK mJ0_length_8abf5 0 := ⟨w_99, w_59, by decide +kernel, by decide +kernel, by decide +kernel⟩
theorem mv_J0_length_8abf5 : MVI mJ0_length_8abf5 := ⟨w_97, w_98⟩
theorem mo_J0_charAt_5068e : MOK mJ0_charAt_5068e 1 := ⟨w_1118, w_59, by decide +kernel, by decide +kernel, by decide +kernel⟩
theorem mv_J0_charAt_5068e : MVI mJ0_charAt_5068e := ⟨w_1116, w_1117⟩
theorem mo_J0_indexOf_0f7a4 : MOK mJ0_indexOf_0f7a4 1 := ⟨w_531, w_59, by decide +kernel, by decide +kernel, by decide +kernel⟩
theorem mv_J0_indexOf_0f7a4 : MVI mJ0_indexOf_0f7a4 := ⟨w_529, w_530⟩
theorem mo_J0_indexOf_7cf53 : MOK mJ0_indexOf_7cf53 2 := ⟨w_535, w_59, by decide +kernel, by decide +kernel, by decide +kernel⟩
theorem mv_J0_indexOf_7cf53 : MVI mJ0_indexOf_7cf53 := ⟨w_533, w_534⟩
theorem mo_J0_coder_7d493 : MOK mJ0_coder_7d493 0 := ⟨w_103, w_59, by decide +kernel, by decide +kernel, by decide +kernel⟩
theorem mv_J0_coder_7d493 : MVI mJ0_coder_7d493 := ⟨w_101, w_102⟩
theorem mo_J0_isLatin1_aae02 : MOK mJ0_isLatin1_aae02 0 := ⟨w_539, w_59, by decide +kernel, by decide +kernel, by decide +kernel⟩
theorem mv_J0_isLatin1_aae02 : MVI mJ0_isLatin1_aae02 := ⟨w_537, w_538⟩
theorem mo_J0_checkIndex_df160 : MOK mJ0_checkIndex_df160 2 := ⟨w_1124, w_59, by decide +kernel, by decide +kernel, by decide +kernel⟩
theorem mt_J0_checkIndex_df160 : Cond.static yJ0_checkIndex_df160 ∈ Ug := w_1123
theorem mo_J1_charAt_3b067 : MOK mJ1_charAt_3b067 2 := ⟨w_1121, w_71, by decide +kernel, by decide +kernel, by decide +kernel⟩
theorem mt_J1_charAt_3b067 : Cond.static yJ1_charAt_3b067 ∈ Ug := w_1120
theorem mo_J1_canEncode_9a6ad : MOK mJ1_canEncode_9a6ad 1 := ⟨w_546, w_71, by decide +kernel, by decide +kernel, by decide +kernel⟩
theorem mt_J1_canEncode_9a6ad : Cond.static yJ1_canEncode_9a6ad ∈ Ug := w_545
theorem mo_J1_indexOf_4cfef : MOK mJ1_indexOf_4cfef 4 := ⟨w_543, w_71, by decide +kernel, by decide +kernel, by decide +kernel⟩
theorem mt_J1_indexOf_4cfef : Cond.static yJ1_indexOf_4cfef ∈ Ug := w_542
theorem mo_J1_indexOfChar_4cfef : MOK mJ1_indexOfChar_4cfef 4 := ⟨w_551, w_71, by decide +kernel, by decide +kernel, by decide +kernel⟩
theorem mt_J1_indexOfChar_4cfef : Cond.static yJ1_indexOfChar_4cfef ∈ Ug := w_550
theorem mo_J3_checkIndex_8e157 : MOK mJ3_checkIndex_8e157 3 := ⟨w_1127, w_73, by decide +kernel, by decide +kernel, by decide +kernel⟩
theorem mt_J3_checkIndex_8e157 : Cond.static yJ3_checkIndex_8e157 ∈ Ug := w_1126
theorem ins_0 : Cond.instantiable (cN 0) (cL 0) ∈ Ug := w_151
theorem ini_0 : Cond.initialized (cN 0) ∈ Ug := w_60
theorem ins_1 : Cond.instantiable (cN 1) (cL 1) ∈ Ug := w_90
theorem ini_1 : Cond.initialized (cN 1) ∈ Ug := w_58
theorem ins_2 : Cond.instantiable (cN 2) (cL 2) ∈ Ug := w_84
theorem ini_2 : Cond.initialized (cN 2) ∈ Ug := w_57
theorem ins_3 : Cond.instantiable (cN 3) (cL 3) ∈ Ug := w_210
theorem ini_3 : Cond.initialized (cN 3) ∈ Ug := w_64
theorem ins_4 : Cond.instantiable (cN 4) (cL 4) ∈ Ug := w_179
theorem ini_4 : Cond.initialized (cN 4) ∈ Ug := w_61
theorem ins_5 : Cond.instantiable (cN 5) (cL 5) ∈ Ug := w_203
theorem ini_5 : Cond.initialized (cN 5) ∈ Ug := w_63
theorem ins_6 : Cond.instantiable (cN 6) (cL 6) ∈ Ug := w_185
theorem ini_6 : Cond.initialized (cN 6) ∈ Ug := w_62
theorem ins_7 : Cond.instantiable (cN 7) (cL 7) ∈ Ug := w_311
theorem ini_7 : Cond.initialized (cN 7) ∈ Ug := w_66
theorem ins_8 : Cond.instantiable (cN 8) (cL 8) ∈ Ug := w_300
theorem ini_8 : Cond.initialized (cN 8) ∈ Ug := w_65
theorem ins_9 : Cond.instantiable (cN 9) (cL 9) ∈ Ug := w_76
theorem ini_9 : Cond.initialized (cN 9) ∈ Ug := w_56
theorem ins_10 : Cond.instantiable (cN 10) (cL 10) ∈ Ug := w_885
theorem ini_10 : Cond.initialized (cN 10) ∈ Ug := w_67
theorem ac_byte : Cond.arrayClass .byte ∈ Ug := w_133
theorem ac_int : Cond.arrayClass .int ∈ Ug := w_134
theorem ac_long : Cond.arrayClass .long ∈ Ug := w_328
theorem ac_boolean : Cond.arrayClass .boolean ∈ Ug := w_1023
theorem oi_1 : Cond.instanceMethod objectInit ∈ Ug := w_81
theorem oi_2 : Cond.code objectInit ⟨#[0xb1]⟩ 1 none ∈ Ug := w_82
end
