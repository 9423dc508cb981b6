section
-- ===== PART A: goes FIRST, ahead of the names: the tables' words, and 'selects' of the private methods out of them =====
/-- a private method of a class that the tables say can be made, by its rows of tables_1 -/
def lw_okq (q : MethodName × Nat) : Prop := (q.1.cls ≠ "java/lang/invoke/MethodHandle" ∧ q.1.cls ≠ "java/lang/invoke/VarHandle") ∧ Cond.instantiable q.1.cls q.2 ∈ tables_1 ∧ Cond.privateMethod q.1 ∈ tables_1 ∧ Cond.instanceMethod q.1 ∈ tables_1
theorem lw_p0 : lw_okq (⟨"WitnessPays$Law", "holds", "(II)Z"⟩, 8) := ⟨⟨by decide +kernel, by decide +kernel⟩, List.mem_of_getElem? (i := 35) (by decide +kernel), List.mem_of_getElem? (i := 334) (by decide +kernel), List.mem_of_getElem? (i := 335) (by decide +kernel)⟩
theorem lw_p1 : lw_okq (⟨"WitnessPays$Street", "lookBy", "(LWitnessPays$Person;)V"⟩, 5) := ⟨⟨by decide +kernel, by decide +kernel⟩, List.mem_of_getElem? (i := 148) (by decide +kernel), List.mem_of_getElem? (i := 361) (by decide +kernel), List.mem_of_getElem? (i := 362) (by decide +kernel)⟩
theorem lw_p2 : lw_okq (⟨"WitnessPays$Street", "seersBehind", "(II)I"⟩, 5) := ⟨⟨by decide +kernel, by decide +kernel⟩, List.mem_of_getElem? (i := 148) (by decide +kernel), List.mem_of_getElem? (i := 412) (by decide +kernel), List.mem_of_getElem? (i := 413) (by decide +kernel)⟩
theorem lw_p3 : lw_okq (⟨"WitnessPays$LawText", "readClause", "()Z"⟩, 4) := ⟨⟨by decide +kernel, by decide +kernel⟩, List.mem_of_getElem? (i := 29) (by decide +kernel), List.mem_of_getElem? (i := 453) (by decide +kernel), List.mem_of_getElem? (i := 454) (by decide +kernel)⟩
theorem lw_p4 : lw_okq (⟨"WitnessPays$LawText", "readWord", "()I"⟩, 4) := ⟨⟨by decide +kernel, by decide +kernel⟩, List.mem_of_getElem? (i := 29) (by decide +kernel), List.mem_of_getElem? (i := 457) (by decide +kernel), List.mem_of_getElem? (i := 458) (by decide +kernel)⟩
theorem lw_p5 : lw_okq (⟨"WitnessPays$LawText", "take", "(C)Z"⟩, 4) := ⟨⟨by decide +kernel, by decide +kernel⟩, List.mem_of_getElem? (i := 29) (by decide +kernel), List.mem_of_getElem? (i := 461) (by decide +kernel), List.mem_of_getElem? (i := 462) (by decide +kernel)⟩
theorem lw_p6 : lw_okq (⟨"WitnessPays$LawText", "readNumber", "()I"⟩, 4) := ⟨⟨by decide +kernel, by decide +kernel⟩, List.mem_of_getElem? (i := 29) (by decide +kernel), List.mem_of_getElem? (i := 465) (by decide +kernel), List.mem_of_getElem? (i := 466) (by decide +kernel)⟩
theorem lw_p7 : lw_okq (⟨"WitnessPays$LawText", "takeAnyOf", "(Ljava/lang/String;)I"⟩, 4) := ⟨⟨by decide +kernel, by decide +kernel⟩, List.mem_of_getElem? (i := 29) (by decide +kernel), List.mem_of_getElem? (i := 470) (by decide +kernel), List.mem_of_getElem? (i := 471) (by decide +kernel)⟩
theorem lw_p8 : lw_okq (⟨"WitnessPays$LawText", "readEither", "(I)Z"⟩, 4) := ⟨⟨by decide +kernel, by decide +kernel⟩, List.mem_of_getElem? (i := 29) (by decide +kernel), List.mem_of_getElem? (i := 547) (by decide +kernel), List.mem_of_getElem? (i := 548) (by decide +kernel)⟩
theorem lw_p9 : lw_okq (⟨"WitnessPays$LawText", "readBoth", "(I)Z"⟩, 4) := ⟨⟨by decide +kernel, by decide +kernel⟩, List.mem_of_getElem? (i := 29) (by decide +kernel), List.mem_of_getElem? (i := 551) (by decide +kernel), List.mem_of_getElem? (i := 552) (by decide +kernel)⟩
theorem lw_p10 : lw_okq (⟨"WitnessPays$LawText", "readFactor", "(I)Z"⟩, 4) := ⟨⟨by decide +kernel, by decide +kernel⟩, List.mem_of_getElem? (i := 29) (by decide +kernel), List.mem_of_getElem? (i := 555) (by decide +kernel), List.mem_of_getElem? (i := 556) (by decide +kernel)⟩
theorem lw_p11 : lw_okq (⟨"WitnessPays$Street", "paidBy", "(I)I"⟩, 5) := ⟨⟨by decide +kernel, by decide +kernel⟩, List.mem_of_getElem? (i := 148) (by decide +kernel), List.mem_of_getElem? (i := 594) (by decide +kernel), List.mem_of_getElem? (i := 595) (by decide +kernel)⟩
theorem lw_p12 : lw_okq (⟨"WitnessPays", "isPlanRow", "(II)Z"⟩, 8) := ⟨⟨by decide +kernel, by decide +kernel⟩, List.mem_of_getElem? (i := 21) (by decide +kernel), List.mem_of_getElem? (i := 704) (by decide +kernel), List.mem_of_getElem? (i := 705) (by decide +kernel)⟩
theorem lw_p13 : lw_okq (⟨"WitnessPays", "tapeOf", "(I)LWitnessPays$Tape;"⟩, 8) := ⟨⟨by decide +kernel, by decide +kernel⟩, List.mem_of_getElem? (i := 21) (by decide +kernel), List.mem_of_getElem? (i := 735) (by decide +kernel), List.mem_of_getElem? (i := 736) (by decide +kernel)⟩
theorem lw_p14 : lw_okq (⟨"WitnessPays$Actor", "looks", "(II)I"⟩, 5) := ⟨⟨by decide +kernel, by decide +kernel⟩, List.mem_of_getElem? (i := 96) (by decide +kernel), List.mem_of_getElem? (i := 776) (by decide +kernel), List.mem_of_getElem? (i := 777) (by decide +kernel)⟩
theorem lw_p15 : lw_okq (⟨"WitnessPays$Actor", "begin", "(I)V"⟩, 5) := ⟨⟨by decide +kernel, by decide +kernel⟩, List.mem_of_getElem? (i := 96) (by decide +kernel), List.mem_of_getElem? (i := 780) (by decide +kernel), List.mem_of_getElem? (i := 781) (by decide +kernel)⟩
def lw_privs_1 : List (MethodName × Nat) := [(⟨"WitnessPays$Law", "holds", "(II)Z"⟩, 8), (⟨"WitnessPays$Street", "lookBy", "(LWitnessPays$Person;)V"⟩, 5), (⟨"WitnessPays$Street", "seersBehind", "(II)I"⟩, 5), (⟨"WitnessPays$LawText", "readClause", "()Z"⟩, 4), (⟨"WitnessPays$LawText", "readWord", "()I"⟩, 4), (⟨"WitnessPays$LawText", "take", "(C)Z"⟩, 4), (⟨"WitnessPays$LawText", "readNumber", "()I"⟩, 4), (⟨"WitnessPays$LawText", "takeAnyOf", "(Ljava/lang/String;)I"⟩, 4), (⟨"WitnessPays$LawText", "readEither", "(I)Z"⟩, 4), (⟨"WitnessPays$LawText", "readBoth", "(I)Z"⟩, 4), (⟨"WitnessPays$LawText", "readFactor", "(I)Z"⟩, 4), (⟨"WitnessPays$Street", "paidBy", "(I)I"⟩, 5), (⟨"WitnessPays", "isPlanRow", "(II)Z"⟩, 8), (⟨"WitnessPays", "tapeOf", "(I)LWitnessPays$Tape;"⟩, 8), (⟨"WitnessPays$Actor", "looks", "(II)I"⟩, 5), (⟨"WitnessPays$Actor", "begin", "(I)V"⟩, 5)]
theorem lw_r1 : ∀ q ∈ lw_privs_1, lw_okq q := List.forall_mem_cons.mpr ⟨lw_p0, List.forall_mem_cons.mpr ⟨lw_p1, List.forall_mem_cons.mpr ⟨lw_p2, List.forall_mem_cons.mpr ⟨lw_p3, List.forall_mem_cons.mpr ⟨lw_p4, List.forall_mem_cons.mpr ⟨lw_p5, List.forall_mem_cons.mpr ⟨lw_p6, List.forall_mem_cons.mpr ⟨lw_p7, List.forall_mem_cons.mpr ⟨lw_p8, List.forall_mem_cons.mpr ⟨lw_p9, List.forall_mem_cons.mpr ⟨lw_p10, List.forall_mem_cons.mpr ⟨lw_p11, List.forall_mem_cons.mpr ⟨lw_p12, List.forall_mem_cons.mpr ⟨lw_p13, List.forall_mem_cons.mpr ⟨lw_p14, List.forall_mem_cons.mpr ⟨lw_p15, fun _ h => absurd h List.not_mem_nil⟩⟩⟩⟩⟩⟩⟩⟩⟩⟩⟩⟩⟩⟩⟩⟩
theorem lw_p16 : lw_okq (⟨"WitnessPays$Actor", "swears", "(II)I"⟩, 5) := ⟨⟨by decide +kernel, by decide +kernel⟩, List.mem_of_getElem? (i := 96) (by decide +kernel), List.mem_of_getElem? (i := 784) (by decide +kernel), List.mem_of_getElem? (i := 785) (by decide +kernel)⟩
theorem lw_p17 : lw_okq (⟨"WitnessPays$Actor", "tells", "(II)I"⟩, 5) := ⟨⟨by decide +kernel, by decide +kernel⟩, List.mem_of_getElem? (i := 96) (by decide +kernel), List.mem_of_getElem? (i := 788) (by decide +kernel), List.mem_of_getElem? (i := 789) (by decide +kernel)⟩
theorem lw_p18 : lw_okq (⟨"WitnessPaysModel", "isOne", "(I)Z"⟩, 44) := ⟨⟨by decide +kernel, by decide +kernel⟩, List.mem_of_getElem? (i := 830) (by decide +kernel), List.mem_of_getElem? (i := 984) (by decide +kernel), List.mem_of_getElem? (i := 985) (by decide +kernel)⟩
theorem lw_p19 : lw_okq (⟨"WitnessPaysModel", "reach", "(I)I"⟩, 44) := ⟨⟨by decide +kernel, by decide +kernel⟩, List.mem_of_getElem? (i := 830) (by decide +kernel), List.mem_of_getElem? (i := 988) (by decide +kernel), List.mem_of_getElem? (i := 989) (by decide +kernel)⟩
theorem lw_p20 : lw_okq (⟨"WitnessPaysModel", "sum", "(I)I"⟩, 44) := ⟨⟨by decide +kernel, by decide +kernel⟩, List.mem_of_getElem? (i := 830) (by decide +kernel), List.mem_of_getElem? (i := 992) (by decide +kernel), List.mem_of_getElem? (i := 993) (by decide +kernel)⟩
theorem lw_p21 : lw_okq (⟨"WitnessPaysModel", "isTrue", "(II)Z"⟩, 44) := ⟨⟨by decide +kernel, by decide +kernel⟩, List.mem_of_getElem? (i := 830) (by decide +kernel), List.mem_of_getElem? (i := 996) (by decide +kernel), List.mem_of_getElem? (i := 997) (by decide +kernel)⟩
theorem lw_p22 : lw_okq (⟨"WitnessPaysModel", "letterOf", "(II)I"⟩, 44) := ⟨⟨by decide +kernel, by decide +kernel⟩, List.mem_of_getElem? (i := 830) (by decide +kernel), List.mem_of_getElem? (i := 1000) (by decide +kernel), List.mem_of_getElem? (i := 1001) (by decide +kernel)⟩
theorem lw_p23 : lw_okq (⟨"WitnessPaysModel", "sight", "(I)I"⟩, 44) := ⟨⟨by decide +kernel, by decide +kernel⟩, List.mem_of_getElem? (i := 830) (by decide +kernel), List.mem_of_getElem? (i := 1006) (by decide +kernel), List.mem_of_getElem? (i := 1007) (by decide +kernel)⟩
theorem lw_p24 : lw_okq (⟨"WitnessPaysModel", "isWall", "(I)Z"⟩, 44) := ⟨⟨by decide +kernel, by decide +kernel⟩, List.mem_of_getElem? (i := 830) (by decide +kernel), List.mem_of_getElem? (i := 1010) (by decide +kernel), List.mem_of_getElem? (i := 1011) (by decide +kernel)⟩
theorem lw_p25 : lw_okq (⟨"WitnessPaysModel", "shun", "(I)I"⟩, 44) := ⟨⟨by decide +kernel, by decide +kernel⟩, List.mem_of_getElem? (i := 830) (by decide +kernel), List.mem_of_getElem? (i := 1014) (by decide +kernel), List.mem_of_getElem? (i := 1015) (by decide +kernel)⟩
theorem lw_p26 : lw_okq (⟨"WitnessPaysModel", "alone", "(I)I"⟩, 44) := ⟨⟨by decide +kernel, by decide +kernel⟩, List.mem_of_getElem? (i := 830) (by decide +kernel), List.mem_of_getElem? (i := 1019) (by decide +kernel), List.mem_of_getElem? (i := 1020) (by decide +kernel)⟩
theorem lw_p27 : lw_okq (⟨"WitnessPaysModel", "seers", "(I)I"⟩, 44) := ⟨⟨by decide +kernel, by decide +kernel⟩, List.mem_of_getElem? (i := 830) (by decide +kernel), List.mem_of_getElem? (i := 1023) (by decide +kernel), List.mem_of_getElem? (i := 1024) (by decide +kernel)⟩
theorem lw_p28 : lw_okq (⟨"WitnessPaysModel", "isClause", "(I)Z"⟩, 44) := ⟨⟨by decide +kernel, by decide +kernel⟩, List.mem_of_getElem? (i := 830) (by decide +kernel), List.mem_of_getElem? (i := 1051) (by decide +kernel), List.mem_of_getElem? (i := 1052) (by decide +kernel)⟩
theorem lw_p29 : lw_okq (⟨"WitnessPaysModel", "isAll", "(Ljava/lang/String;)Z"⟩, 44) := ⟨⟨by decide +kernel, by decide +kernel⟩, List.mem_of_getElem? (i := 830) (by decide +kernel), List.mem_of_getElem? (i := 1056) (by decide +kernel), List.mem_of_getElem? (i := 1057) (by decide +kernel)⟩
theorem lw_p30 : lw_okq (⟨"WitnessPaysModel", "is", "(I)Z"⟩, 44) := ⟨⟨by decide +kernel, by decide +kernel⟩, List.mem_of_getElem? (i := 830) (by decide +kernel), List.mem_of_getElem? (i := 1081) (by decide +kernel), List.mem_of_getElem? (i := 1082) (by decide +kernel)⟩
theorem lw_p31 : lw_okq (⟨"WitnessPaysModel", "isNumber", "()Z"⟩, 44) := ⟨⟨by decide +kernel, by decide +kernel⟩, List.mem_of_getElem? (i := 830) (by decide +kernel), List.mem_of_getElem? (i := 1087) (by decide +kernel), List.mem_of_getElem? (i := 1088) (by decide +kernel)⟩
def lw_privs_2 : List (MethodName × Nat) := [(⟨"WitnessPays$Actor", "swears", "(II)I"⟩, 5), (⟨"WitnessPays$Actor", "tells", "(II)I"⟩, 5), (⟨"WitnessPaysModel", "isOne", "(I)Z"⟩, 44), (⟨"WitnessPaysModel", "reach", "(I)I"⟩, 44), (⟨"WitnessPaysModel", "sum", "(I)I"⟩, 44), (⟨"WitnessPaysModel", "isTrue", "(II)Z"⟩, 44), (⟨"WitnessPaysModel", "letterOf", "(II)I"⟩, 44), (⟨"WitnessPaysModel", "sight", "(I)I"⟩, 44), (⟨"WitnessPaysModel", "isWall", "(I)Z"⟩, 44), (⟨"WitnessPaysModel", "shun", "(I)I"⟩, 44), (⟨"WitnessPaysModel", "alone", "(I)I"⟩, 44), (⟨"WitnessPaysModel", "seers", "(I)I"⟩, 44), (⟨"WitnessPaysModel", "isClause", "(I)Z"⟩, 44), (⟨"WitnessPaysModel", "isAll", "(Ljava/lang/String;)Z"⟩, 44), (⟨"WitnessPaysModel", "is", "(I)Z"⟩, 44), (⟨"WitnessPaysModel", "isNumber", "()Z"⟩, 44)]
theorem lw_r2 : ∀ q ∈ lw_privs_2, lw_okq q := List.forall_mem_cons.mpr ⟨lw_p16, List.forall_mem_cons.mpr ⟨lw_p17, List.forall_mem_cons.mpr ⟨lw_p18, List.forall_mem_cons.mpr ⟨lw_p19, List.forall_mem_cons.mpr ⟨lw_p20, List.forall_mem_cons.mpr ⟨lw_p21, List.forall_mem_cons.mpr ⟨lw_p22, List.forall_mem_cons.mpr ⟨lw_p23, List.forall_mem_cons.mpr ⟨lw_p24, List.forall_mem_cons.mpr ⟨lw_p25, List.forall_mem_cons.mpr ⟨lw_p26, List.forall_mem_cons.mpr ⟨lw_p27, List.forall_mem_cons.mpr ⟨lw_p28, List.forall_mem_cons.mpr ⟨lw_p29, List.forall_mem_cons.mpr ⟨lw_p30, List.forall_mem_cons.mpr ⟨lw_p31, fun _ h => absurd h List.not_mem_nil⟩⟩⟩⟩⟩⟩⟩⟩⟩⟩⟩⟩⟩⟩⟩⟩
theorem lw_p32 : lw_okq (⟨"WitnessPaysModel", "isDigit", "()Z"⟩, 44) := ⟨⟨by decide +kernel, by decide +kernel⟩, List.mem_of_getElem? (i := 830) (by decide +kernel), List.mem_of_getElem? (i := 1091) (by decide +kernel), List.mem_of_getElem? (i := 1092) (by decide +kernel)⟩
theorem lw_p33 : lw_okq (⟨"WitnessPaysModel", "isE", "()Z"⟩, 44) := ⟨⟨by decide +kernel, by decide +kernel⟩, List.mem_of_getElem? (i := 830) (by decide +kernel), List.mem_of_getElem? (i := 1095) (by decide +kernel), List.mem_of_getElem? (i := 1096) (by decide +kernel)⟩
theorem lw_p34 : lw_okq (⟨"WitnessPaysModel", "isT", "()Z"⟩, 44) := ⟨⟨by decide +kernel, by decide +kernel⟩, List.mem_of_getElem? (i := 830) (by decide +kernel), List.mem_of_getElem? (i := 1099) (by decide +kernel), List.mem_of_getElem? (i := 1100) (by decide +kernel)⟩
theorem lw_p35 : lw_okq (⟨"WitnessPaysModel", "isF", "()Z"⟩, 44) := ⟨⟨by decide +kernel, by decide +kernel⟩, List.mem_of_getElem? (i := 830) (by decide +kernel), List.mem_of_getElem? (i := 1103) (by decide +kernel), List.mem_of_getElem? (i := 1104) (by decide +kernel)⟩
theorem lw_p36 : lw_okq (⟨"WitnessPaysModel", "isOpened", "(I)Z"⟩, 44) := ⟨⟨by decide +kernel, by decide +kernel⟩, List.mem_of_getElem? (i := 830) (by decide +kernel), List.mem_of_getElem? (i := 1107) (by decide +kernel), List.mem_of_getElem? (i := 1108) (by decide +kernel)⟩
theorem lw_p37 : lw_okq (⟨"WitnessPaysModel", "codes", "(I)Z"⟩, 44) := ⟨⟨by decide +kernel, by decide +kernel⟩, List.mem_of_getElem? (i := 830) (by decide +kernel), List.mem_of_getElem? (i := 1111) (by decide +kernel), List.mem_of_getElem? (i := 1112) (by decide +kernel)⟩
theorem lw_p38 : lw_okq (⟨"WitnessPaysModel", "isTest", "()Z"⟩, 44) := ⟨⟨by decide +kernel, by decide +kernel⟩, List.mem_of_getElem? (i := 830) (by decide +kernel), List.mem_of_getElem? (i := 1115) (by decide +kernel), List.mem_of_getElem? (i := 1116) (by decide +kernel)⟩
theorem lw_p39 : lw_okq (⟨"WitnessPaysModel", "pays", "(I)I"⟩, 44) := ⟨⟨by decide +kernel, by decide +kernel⟩, List.mem_of_getElem? (i := 830) (by decide +kernel), List.mem_of_getElem? (i := 1126) (by decide +kernel), List.mem_of_getElem? (i := 1127) (by decide +kernel)⟩
theorem lw_p40 : lw_okq (⟨"WitnessPaysModel", "fine", "()I"⟩, 44) := ⟨⟨by decide +kernel, by decide +kernel⟩, List.mem_of_getElem? (i := 830) (by decide +kernel), List.mem_of_getElem? (i := 1130) (by decide +kernel), List.mem_of_getElem? (i := 1131) (by decide +kernel)⟩
theorem lw_p41 : lw_okq (⟨"WitnessPaysModel", "done", "(I)V"⟩, 44) := ⟨⟨by decide +kernel, by decide +kernel⟩, List.mem_of_getElem? (i := 830) (by decide +kernel), List.mem_of_getElem? (i := 1134) (by decide +kernel), List.mem_of_getElem? (i := 1135) (by decide +kernel)⟩
theorem lw_p42 : lw_okq (⟨"WitnessPaysModel", "allPurses", "()I"⟩, 44) := ⟨⟨by decide +kernel, by decide +kernel⟩, List.mem_of_getElem? (i := 830) (by decide +kernel), List.mem_of_getElem? (i := 1142) (by decide +kernel), List.mem_of_getElem? (i := 1143) (by decide +kernel)⟩
theorem lw_p43 : lw_okq (⟨"WitnessPaysModel", "hidden", "(I)I"⟩, 44) := ⟨⟨by decide +kernel, by decide +kernel⟩, List.mem_of_getElem? (i := 830) (by decide +kernel), List.mem_of_getElem? (i := 1146) (by decide +kernel), List.mem_of_getElem? (i := 1147) (by decide +kernel)⟩
theorem lw_p44 : lw_okq (⟨"WitnessPaysModel", "mostly", "(I)I"⟩, 44) := ⟨⟨by decide +kernel, by decide +kernel⟩, List.mem_of_getElem? (i := 830) (by decide +kernel), List.mem_of_getElem? (i := 1150) (by decide +kernel), List.mem_of_getElem? (i := 1151) (by decide +kernel)⟩
theorem lw_p45 : lw_okq (⟨"WitnessPaysModel", "goesDay", "()V"⟩, 44) := ⟨⟨by decide +kernel, by decide +kernel⟩, List.mem_of_getElem? (i := 830) (by decide +kernel), List.mem_of_getElem? (i := 1158) (by decide +kernel), List.mem_of_getElem? (i := 1159) (by decide +kernel)⟩
theorem lw_p46 : lw_okq (⟨"WitnessPaysModel", "when", "(I)I"⟩, 44) := ⟨⟨by decide +kernel, by decide +kernel⟩, List.mem_of_getElem? (i := 830) (by decide +kernel), List.mem_of_getElem? (i := 1166) (by decide +kernel), List.mem_of_getElem? (i := 1167) (by decide +kernel)⟩
theorem lw_p47 : lw_okq (⟨"WitnessPaysModel", "keep", "([I)V"⟩, 44) := ⟨⟨by decide +kernel, by decide +kernel⟩, List.mem_of_getElem? (i := 830) (by decide +kernel), List.mem_of_getElem? (i := 1170) (by decide +kernel), List.mem_of_getElem? (i := 1171) (by decide +kernel)⟩
def lw_privs_3 : List (MethodName × Nat) := [(⟨"WitnessPaysModel", "isDigit", "()Z"⟩, 44), (⟨"WitnessPaysModel", "isE", "()Z"⟩, 44), (⟨"WitnessPaysModel", "isT", "()Z"⟩, 44), (⟨"WitnessPaysModel", "isF", "()Z"⟩, 44), (⟨"WitnessPaysModel", "isOpened", "(I)Z"⟩, 44), (⟨"WitnessPaysModel", "codes", "(I)Z"⟩, 44), (⟨"WitnessPaysModel", "isTest", "()Z"⟩, 44), (⟨"WitnessPaysModel", "pays", "(I)I"⟩, 44), (⟨"WitnessPaysModel", "fine", "()I"⟩, 44), (⟨"WitnessPaysModel", "done", "(I)V"⟩, 44), (⟨"WitnessPaysModel", "allPurses", "()I"⟩, 44), (⟨"WitnessPaysModel", "hidden", "(I)I"⟩, 44), (⟨"WitnessPaysModel", "mostly", "(I)I"⟩, 44), (⟨"WitnessPaysModel", "goesDay", "()V"⟩, 44), (⟨"WitnessPaysModel", "when", "(I)I"⟩, 44), (⟨"WitnessPaysModel", "keep", "([I)V"⟩, 44)]
theorem lw_r3 : ∀ q ∈ lw_privs_3, lw_okq q := List.forall_mem_cons.mpr ⟨lw_p32, List.forall_mem_cons.mpr ⟨lw_p33, List.forall_mem_cons.mpr ⟨lw_p34, List.forall_mem_cons.mpr ⟨lw_p35, List.forall_mem_cons.mpr ⟨lw_p36, List.forall_mem_cons.mpr ⟨lw_p37, List.forall_mem_cons.mpr ⟨lw_p38, List.forall_mem_cons.mpr ⟨lw_p39, List.forall_mem_cons.mpr ⟨lw_p40, List.forall_mem_cons.mpr ⟨lw_p41, List.forall_mem_cons.mpr ⟨lw_p42, List.forall_mem_cons.mpr ⟨lw_p43, List.forall_mem_cons.mpr ⟨lw_p44, List.forall_mem_cons.mpr ⟨lw_p45, List.forall_mem_cons.mpr ⟨lw_p46, List.forall_mem_cons.mpr ⟨lw_p47, fun _ h => absurd h List.not_mem_nil⟩⟩⟩⟩⟩⟩⟩⟩⟩⟩⟩⟩⟩⟩⟩⟩
theorem lw_p48 : lw_okq (⟨"WitnessPaysModel", "again", "([I)V"⟩, 44) := ⟨⟨by decide +kernel, by decide +kernel⟩, List.mem_of_getElem? (i := 830) (by decide +kernel), List.mem_of_getElem? (i := 1174) (by decide +kernel), List.mem_of_getElem? (i := 1175) (by decide +kernel)⟩
theorem lw_p49 : lw_okq (⟨"WitnessPaysModel", "bricks", "(I)I"⟩, 44) := ⟨⟨by decide +kernel, by decide +kernel⟩, List.mem_of_getElem? (i := 830) (by decide +kernel), List.mem_of_getElem? (i := 1178) (by decide +kernel), List.mem_of_getElem? (i := 1179) (by decide +kernel)⟩
theorem lw_p50 : lw_okq (⟨"WitnessPaysModel", "wrongBy", "(I)I"⟩, 44) := ⟨⟨by decide +kernel, by decide +kernel⟩, List.mem_of_getElem? (i := 830) (by decide +kernel), List.mem_of_getElem? (i := 1194) (by decide +kernel), List.mem_of_getElem? (i := 1195) (by decide +kernel)⟩
theorem lw_p51 : lw_okq (⟨"WitnessPaysModel", "looks", "(III)I"⟩, 44) := ⟨⟨by decide +kernel, by decide +kernel⟩, List.mem_of_getElem? (i := 830) (by decide +kernel), List.mem_of_getElem? (i := 1250) (by decide +kernel), List.mem_of_getElem? (i := 1251) (by decide +kernel)⟩
theorem lw_p52 : lw_okq (⟨"WitnessPaysModel", "ran", "(I)V"⟩, 44) := ⟨⟨by decide +kernel, by decide +kernel⟩, List.mem_of_getElem? (i := 830) (by decide +kernel), List.mem_of_getElem? (i := 1254) (by decide +kernel), List.mem_of_getElem? (i := 1255) (by decide +kernel)⟩
theorem lw_p53 : lw_okq (⟨"WitnessPaysModel", "swears", "(III)I"⟩, 44) := ⟨⟨by decide +kernel, by decide +kernel⟩, List.mem_of_getElem? (i := 830) (by decide +kernel), List.mem_of_getElem? (i := 1261) (by decide +kernel), List.mem_of_getElem? (i := 1262) (by decide +kernel)⟩
theorem lw_p54 : lw_okq (⟨"WitnessPaysModel", "tells", "(III)I"⟩, 44) := ⟨⟨by decide +kernel, by decide +kernel⟩, List.mem_of_getElem? (i := 830) (by decide +kernel), List.mem_of_getElem? (i := 1265) (by decide +kernel), List.mem_of_getElem? (i := 1266) (by decide +kernel)⟩
def lw_privs_4 : List (MethodName × Nat) := [(⟨"WitnessPaysModel", "again", "([I)V"⟩, 44), (⟨"WitnessPaysModel", "bricks", "(I)I"⟩, 44), (⟨"WitnessPaysModel", "wrongBy", "(I)I"⟩, 44), (⟨"WitnessPaysModel", "looks", "(III)I"⟩, 44), (⟨"WitnessPaysModel", "ran", "(I)V"⟩, 44), (⟨"WitnessPaysModel", "swears", "(III)I"⟩, 44), (⟨"WitnessPaysModel", "tells", "(III)I"⟩, 44)]
theorem lw_r4 : ∀ q ∈ lw_privs_4, lw_okq q := List.forall_mem_cons.mpr ⟨lw_p48, List.forall_mem_cons.mpr ⟨lw_p49, List.forall_mem_cons.mpr ⟨lw_p50, List.forall_mem_cons.mpr ⟨lw_p51, List.forall_mem_cons.mpr ⟨lw_p52, List.forall_mem_cons.mpr ⟨lw_p53, List.forall_mem_cons.mpr ⟨lw_p54, fun _ h => absurd h List.not_mem_nil⟩⟩⟩⟩⟩⟩⟩
def lw_privs : List (MethodName × Nat) := lw_privs_1 ++ (lw_privs_2 ++ (lw_privs_3 ++ (lw_privs_4)))
def lw_tbl : List Cond := k2_sels lw_privs ++ tables_1
theorem lw_privs_ok : ∀ q ∈ lw_privs, lw_okq q := by
  show ∀ q ∈ lw_privs_1 ++ (lw_privs_2 ++ (lw_privs_3 ++ (lw_privs_4))), lw_okq q
  exact List.forall_mem_append.mpr ⟨lw_r1, List.forall_mem_append.mpr ⟨lw_r2, List.forall_mem_append.mpr ⟨lw_r3, lw_r4⟩⟩⟩

def RX0 : String := "WitnessPays$Actor"
def TX0 : u_T := fun k => match k with
  | 0 => ("WitnessPays$Actor", "bodies", "[I", true)
  | 1 => ("WitnessPays$Actor", "ran", "I", false)
  | 2 => ("WitnessPays$Actor", "number", "I", false)
  | 3 => ("WitnessPays$Actor", "v", "I", false)
  | _ => ("WitnessPays$Actor", "kind", "I", false)
def tyX0 : Nat → FieldType := fun k => match k with
  | 0 => .array .int
  | 1 => .int
  | 2 => .int
  | 3 => .int
  | _ => .int
abbrev wsX00 : List Cond := u_ws RX0 TX0 5
theorem nmX0 : ∀ a, a < 5 → ∀ b, b < 5 → a ≠ b → (TX0 a).2.1 ≠ (TX0 b).2.1 := by decide +kernel
theorem tyX0_ok : ∀ k, k < 5 → parseFieldDescriptor (TX0 k).2.2.1 = some (tyX0 k) := by decide +kernel
abbrev cX0_init : ByteArray := prog_2_method_1_code
def yX0_init : MethodName := ⟨RX0, "<init>", "()V"⟩
abbrev cX0_forget : ByteArray := prog_2_method_2_code
def yX0_forget : MethodName := ⟨RX0, "forget", "()V"⟩
abbrev cX0_perform : ByteArray := prog_2_method_3_code
def yX0_perform : MethodName := ⟨RX0, "perform", "(LWitnessPays$Person;II)I"⟩
abbrev cX0_begin : ByteArray := prog_2_method_4_code
def yX0_begin : MethodName := ⟨RX0, "begin", "(I)V"⟩
abbrev cX0_looks : ByteArray := prog_2_method_5_code
def yX0_looks : MethodName := ⟨RX0, "looks", "(II)I"⟩
abbrev cX0_swears : ByteArray := prog_2_method_6_code
def yX0_swears : MethodName := ⟨RX0, "swears", "(II)I"⟩
abbrev cX0_tells : ByteArray := prog_2_method_7_code
def yX0_tells : MethodName := ⟨RX0, "tells", "(II)I"⟩
def RX1 : String := "WitnessPays$Law"
def TX1 : u_T := fun k => match k with
  | 0 => ("WitnessPays$Law", "fine", "I", false)
  | 1 => ("WitnessPays$Law", "clauses", "I", false)
  | 2 => ("WitnessPays$Law", "word", "[I", true)
  | 3 => ("WitnessPays$Law", "amount", "[I", true)
  | 4 => ("WitnessPays$Law", "end", "[I", true)
  | 5 => ("WitnessPays$Law", "steps", "I", false)
  | 6 => ("WitnessPays$Law", "step", "[I", true)
  | _ => ("WitnessPays$Law", "subject", "[I", true)
def tyX1 : Nat → FieldType := fun k => match k with
  | 0 => .int
  | 1 => .int
  | 2 => .array .int
  | 3 => .array .int
  | 4 => .array .int
  | 5 => .int
  | 6 => .array .int
  | _ => .array .int
abbrev wsX10 : List Cond := u_ws RX1 TX1 8
theorem nmX1 : ∀ a, a < 8 → ∀ b, b < 8 → a ≠ b → (TX1 a).2.1 ≠ (TX1 b).2.1 := by decide +kernel
theorem tyX1_ok : ∀ k, k < 8 → parseFieldDescriptor (TX1 k).2.2.1 = some (tyX1 k) := by decide +kernel
abbrev cX1_init : ByteArray := prog_3_method_1_code
def yX1_init : MethodName := ⟨RX1, "<init>", "()V"⟩
abbrev cX1_clear : ByteArray := prog_3_method_2_code
def yX1_clear : MethodName := ⟨RX1, "clear", "()V"⟩
abbrev cX1_addStep : ByteArray := prog_3_method_3_code
def yX1_addStep : MethodName := ⟨RX1, "addStep", "(I)V"⟩
abbrev cX1_endClause : ByteArray := prog_3_method_4_code
def yX1_endClause : MethodName := ⟨RX1, "endClause", "(II)V"⟩
abbrev cX1_sum : ByteArray := prog_3_method_5_code
def yX1_sum : MethodName := ⟨RX1, "sum", "(LWitnessPays$Person;I)I"⟩
abbrev cX1_holds : ByteArray := prog_3_method_6_code
def yX1_holds : MethodName := ⟨RX1, "holds", "(II)Z"⟩
def RX2 : String := "WitnessPays$LawText"
def TX2 : u_T := fun k => match k with
  | 0 => ("WitnessPays$LawText", "signs", "[B", true)
  | 1 => ("WitnessPays$LawText", "length", "I", false)
  | 2 => ("WitnessPays$LawText", "at", "I", false)
  | _ => ("WitnessPays$LawText", "draft", "LWitnessPays$Law;", false)
def tyX2 : Nat → FieldType := fun k => match k with
  | 0 => .array .byte
  | 1 => .int
  | 2 => .int
  | _ => .object "WitnessPays$Law"
abbrev wsX20 : List Cond := u_ws RX2 TX2 4
theorem nmX2 : ∀ a, a < 4 → ∀ b, b < 4 → a ≠ b → (TX2 a).2.1 ≠ (TX2 b).2.1 := by decide +kernel
theorem tyX2_ok : ∀ k, k < 4 → parseFieldDescriptor (TX2 k).2.2.1 = some (tyX2 k) := by decide +kernel
abbrev cX2_init : ByteArray := prog_4_method_1_code
def yX2_init : MethodName := ⟨RX2, "<init>", "()V"⟩
abbrev cX2_add : ByteArray := prog_4_method_2_code
def yX2_add : MethodName := ⟨RX2, "add", "(I)I"⟩
abbrev cX2_enact : ByteArray := prog_4_method_3_code
def yX2_enact : MethodName := ⟨RX2, "enact", "()LWitnessPays$Law;"⟩
abbrev cX2_readClause : ByteArray := prog_4_method_4_code
def yX2_readClause : MethodName := ⟨RX2, "readClause", "()Z"⟩
abbrev cX2_readWord : ByteArray := prog_4_method_5_code
def yX2_readWord : MethodName := ⟨RX2, "readWord", "()I"⟩
abbrev cX2_readEither : ByteArray := prog_4_method_6_code
def yX2_readEither : MethodName := ⟨RX2, "readEither", "(I)Z"⟩
abbrev cX2_readBoth : ByteArray := prog_4_method_7_code
def yX2_readBoth : MethodName := ⟨RX2, "readBoth", "(I)Z"⟩
abbrev cX2_readFactor : ByteArray := prog_4_method_8_code
def yX2_readFactor : MethodName := ⟨RX2, "readFactor", "(I)Z"⟩
abbrev cX2_readNumber : ByteArray := prog_4_method_9_code
def yX2_readNumber : MethodName := ⟨RX2, "readNumber", "()I"⟩
abbrev cX2_take : ByteArray := prog_4_method_10_code
def yX2_take : MethodName := ⟨RX2, "take", "(C)Z"⟩
abbrev cX2_takeAnyOf : ByteArray := prog_4_method_11_code
def yX2_takeAnyOf : MethodName := ⟨RX2, "takeAnyOf", "(Ljava/lang/String;)I"⟩
def RX3 : String := "WitnessPays$Person"
def TX3 : u_T := fun k => match k with
  | 0 => ("WitnessPays$Person", "number", "I", true)
  | 1 => ("WitnessPays$Person", "kind", "I", false)
  | 2 => ("WitnessPays$Person", "v", "I", false)
  | 3 => ("WitnessPays$Person", "place", "I", false)
  | 4 => ("WitnessPays$Person", "purse", "I", false)
  | 5 => ("WitnessPays$Person", "gone", "Z", false)
  | 6 => ("WitnessPays$Person", "row", "[I", true)
  | _ => ("WitnessPays$Person", "eye", "I", false)
def tyX3 : Nat → FieldType := fun k => match k with
  | 0 => .int
  | 1 => .int
  | 2 => .int
  | 3 => .int
  | 4 => .int
  | 5 => .boolean
  | 6 => .array .int
  | _ => .int
abbrev wsX30 : List Cond := u_ws RX3 TX3 8
theorem nmX3 : ∀ a, a < 8 → ∀ b, b < 8 → a ≠ b → (TX3 a).2.1 ≠ (TX3 b).2.1 := by decide +kernel
theorem tyX3_ok : ∀ k, k < 8 → parseFieldDescriptor (TX3 k).2.2.1 = some (tyX3 k) := by decide +kernel
abbrev cX3_init : ByteArray := prog_5_method_1_code
def yX3_init : MethodName := ⟨RX3, "<init>", "(I)V"⟩
abbrev cX3_arrive : ByteArray := prog_5_method_2_code
def yX3_arrive : MethodName := ⟨RX3, "arrive", "(III)V"⟩
abbrev cX3_becomeLike : ByteArray := prog_5_method_3_code
def yX3_becomeLike : MethodName := ⟨RX3, "becomeLike", "(LWitnessPays$Person;)V"⟩
abbrev cX3_isOfKind : ByteArray := prog_5_method_4_code
def yX3_isOfKind : MethodName := ⟨RX3, "isOfKind", "(I)Z"⟩
abbrev cX3_walk : ByteArray := prog_5_method_5_code
def yX3_walk : MethodName := ⟨RX3, "walk", "(I)V"⟩
abbrev cX3_reach : ByteArray := prog_5_method_6_code
def yX3_reach : MethodName := ⟨RX3, "reach", "(II)I"⟩
abbrev cX3_sees : ByteArray := prog_5_method_7_code
def yX3_sees : MethodName := ⟨RX3, "sees", "(II)Z"⟩
abbrev cX3_sight : ByteArray := prog_5_method_8_code
def yX3_sight : MethodName := ⟨RX3, "sight", "(I)I"⟩
abbrev cX3_wayRight : ByteArray := prog_5_method_9_code
def yX3_wayRight : MethodName := ⟨RX3, "wayRight", "(II)I"⟩
def RX4 : String := "WitnessPays$Scene"
def TX4 : u_T := fun k => match k with
  | 0 => ("WitnessPays$Scene", "street", "LWitnessPays$Street;", true)
  | 1 => ("WitnessPays$Scene", "seen", "LWitnessPays$Table;", true)
  | 2 => ("WitnessPays$Scene", "plan", "LWitnessPays$Table;", true)
  | _ => ("WitnessPays$Scene", "book", "LWitnessPays$Table;", true)
def tyX4 : Nat → FieldType := fun k => match k with
  | 0 => .object "WitnessPays$Street"
  | 1 => .object "WitnessPays$Table"
  | 2 => .object "WitnessPays$Table"
  | _ => .object "WitnessPays$Table"
abbrev wsX40 : List Cond := u_ws RX4 TX4 4
theorem nmX4 : ∀ a, a < 4 → ∀ b, b < 4 → a ≠ b → (TX4 a).2.1 ≠ (TX4 b).2.1 := by decide +kernel
theorem tyX4_ok : ∀ k, k < 4 → parseFieldDescriptor (TX4 k).2.2.1 = some (tyX4 k) := by decide +kernel
abbrev cX4_init : ByteArray := prog_6_method_1_code
def yX4_init : MethodName := ⟨RX4, "<init>", "(LWitnessPays$Law;)V"⟩
abbrev cX4_becomeLike : ByteArray := prog_6_method_2_code
def yX4_becomeLike : MethodName := ⟨RX4, "becomeLike", "(LWitnessPays$Scene;)V"⟩
def RX5 : String := "WitnessPays$Street"
def TX5 : u_T := fun k => match k with
  | 0 => ("WitnessPays$Street", "people", "[LWitnessPays$Person;", true)
  | 1 => ("WitnessPays$Street", "count", "I", false)
  | 2 => ("WitnessPays$Street", "walls", "I", false)
  | 3 => ("WitnessPays$Street", "day", "I", false)
  | _ => ("WitnessPays$Street", "law", "LWitnessPays$Law;", false)
def tyX5 : Nat → FieldType := fun k => match k with
  | 0 => .array (.object "WitnessPays$Person")
  | 1 => .int
  | 2 => .int
  | 3 => .int
  | _ => .object "WitnessPays$Law"
abbrev wsX50 : List Cond := u_ws RX5 TX5 5
theorem nmX5 : ∀ a, a < 5 → ∀ b, b < 5 → a ≠ b → (TX5 a).2.1 ≠ (TX5 b).2.1 := by decide +kernel
theorem tyX5_ok : ∀ k, k < 5 → parseFieldDescriptor (TX5 k).2.2.1 = some (tyX5 k) := by decide +kernel
abbrev cX5_init : ByteArray := prog_7_method_1_code
def yX5_init : MethodName := ⟨RX5, "<init>", "(LWitnessPays$Law;)V"⟩
abbrev cX5_becomeLike : ByteArray := prog_7_method_2_code
def yX5_becomeLike : MethodName := ⟨RX5, "becomeLike", "(LWitnessPays$Street;)V"⟩
abbrev cX5_person : ByteArray := prog_7_method_3_code
def yX5_person : MethodName := ⟨RX5, "person", "(I)LWitnessPays$Person;"⟩
abbrev cX5_welcome : ByteArray := prog_7_method_4_code
def yX5_welcome : MethodName := ⟨RX5, "welcome", "(III)I"⟩
abbrev cX5_banish : ByteArray := prog_7_method_5_code
def yX5_banish : MethodName := ⟨RX5, "banish", "(I)V"⟩
abbrev cX5_goOn : ByteArray := prog_7_method_6_code
def yX5_goOn : MethodName := ⟨RX5, "goOn", "(I)V"⟩
abbrev cX5_reachOf : ByteArray := prog_7_method_7_code
def yX5_reachOf : MethodName := ⟨RX5, "reachOf", "(LWitnessPays$Person;)I"⟩
abbrev cX5_look : ByteArray := prog_7_method_8_code
def yX5_look : MethodName := ⟨RX5, "look", "()V"⟩
abbrev cX5_lookBy : ByteArray := prog_7_method_9_code
def yX5_lookBy : MethodName := ⟨RX5, "lookBy", "(LWitnessPays$Person;)V"⟩
abbrev cX5_seersInView : ByteArray := prog_7_method_10_code
def yX5_seersInView : MethodName := ⟨RX5, "seersInView", "(I)I"⟩
abbrev cX5_seersBehind : ByteArray := prog_7_method_11_code
def yX5_seersBehind : MethodName := ⟨RX5, "seersBehind", "(II)I"⟩
abbrev cX5_seers : ByteArray := prog_7_method_12_code
def yX5_seers : MethodName := ⟨RX5, "seers", "(I)I"⟩
abbrev cX5_sightOf : ByteArray := prog_7_method_13_code
def yX5_sightOf : MethodName := ⟨RX5, "sightOf", "(LWitnessPays$Person;)I"⟩
abbrev cX5_firstSeenOnlyBy : ByteArray := prog_7_method_14_code
def yX5_firstSeenOnlyBy : MethodName := ⟨RX5, "firstSeenOnlyBy", "(LWitnessPays$Person;)I"⟩
abbrev cX5_firstUnseen : ByteArray := prog_7_method_15_code
def yX5_firstUnseen : MethodName := ⟨RX5, "firstUnseen", "()I"⟩
abbrev cX5_unseenPlaces : ByteArray := prog_7_method_16_code
def yX5_unseenPlaces : MethodName := ⟨RX5, "unseenPlaces", "()I"⟩
abbrev cX5_mostSeenPlace : ByteArray := prog_7_method_17_code
def yX5_mostSeenPlace : MethodName := ⟨RX5, "mostSeenPlace", "()I"⟩
abbrev cX5_dearestPlace : ByteArray := prog_7_method_18_code
def yX5_dearestPlace : MethodName := ⟨RX5, "dearestPlace", "()I"⟩
abbrev cX5_purses : ByteArray := prog_7_method_19_code
def yX5_purses : MethodName := ⟨RX5, "purses", "()I"⟩
abbrev cX5_paidFor : ByteArray := prog_7_method_20_code
def yX5_paidFor : MethodName := ⟨RX5, "paidFor", "(I)I"⟩
abbrev cX5_paidBy : ByteArray := prog_7_method_21_code
def yX5_paidBy : MethodName := ⟨RX5, "paidBy", "(I)I"⟩
abbrev cX5_paidByOne : ByteArray := prog_7_method_22_code
def yX5_paidByOne : MethodName := ⟨RX5, "paidByOne", "(LWitnessPays$Person;I)I"⟩
abbrev cX5_collect : ByteArray := prog_7_method_23_code
def yX5_collect : MethodName := ⟨RX5, "collect", "(I)I"⟩
abbrev cX5_bricks : ByteArray := prog_7_method_24_code
def yX5_bricks : MethodName := ⟨RX5, "bricks", "(I)I"⟩
def RX6 : String := "WitnessPays$Table"
def TX6 : u_T := fun k => match k with
  | 0 => ("WitnessPays$Table", "cells", "[I", true)
  | 1 => ("WitnessPays$Table", "most", "I", true)
  | _ => ("WitnessPays$Table", "rows", "I", false)
def tyX6 : Nat → FieldType := fun k => match k with
  | 0 => .array .int
  | 1 => .int
  | _ => .int
abbrev wsX60 : List Cond := u_ws RX6 TX6 3
theorem nmX6 : ∀ a, a < 3 → ∀ b, b < 3 → a ≠ b → (TX6 a).2.1 ≠ (TX6 b).2.1 := by decide +kernel
theorem tyX6_ok : ∀ k, k < 3 → parseFieldDescriptor (TX6 k).2.2.1 = some (tyX6 k) := by decide +kernel
abbrev cX6_init : ByteArray := prog_8_method_1_code
def yX6_init : MethodName := ⟨RX6, "<init>", "(I)V"⟩
abbrev cX6_empty : ByteArray := prog_8_method_2_code
def yX6_empty : MethodName := ⟨RX6, "empty", "()I"⟩
abbrev cX6_add : ByteArray := prog_8_method_3_code
def yX6_add : MethodName := ⟨RX6, "add", "(III)I"⟩
abbrev cX6_cell : ByteArray := prog_8_method_4_code
def yX6_cell : MethodName := ⟨RX6, "cell", "(II)I"⟩
abbrev cX6_becomeLike : ByteArray := prog_8_method_5_code
def yX6_becomeLike : MethodName := ⟨RX6, "becomeLike", "(LWitnessPays$Table;)V"⟩
def RX7 : String := "WitnessPays$Tape"
def TX7 : u_T := fun k => match k with
  | 0 => ("WitnessPays$Tape", "sort", "I", false)
  | 1 => ("WitnessPays$Tape", "length", "I", false)
  | _ => ("WitnessPays$Tape", "items", "[J", true)
def tyX7 : Nat → FieldType := fun k => match k with
  | 0 => .int
  | 1 => .int
  | _ => .array .long
abbrev wsX70 : List Cond := u_ws RX7 TX7 3
theorem nmX7 : ∀ a, a < 3 → ∀ b, b < 3 → a ≠ b → (TX7 a).2.1 ≠ (TX7 b).2.1 := by decide +kernel
theorem tyX7_ok : ∀ k, k < 3 → parseFieldDescriptor (TX7 k).2.2.1 = some (tyX7 k) := by decide +kernel
abbrev cX7_init : ByteArray := prog_9_method_1_code
def yX7_init : MethodName := ⟨RX7, "<init>", "()V"⟩
abbrev cX7_become : ByteArray := prog_9_method_2_code
def yX7_become : MethodName := ⟨RX7, "become", "(II)V"⟩
abbrev cX7_reaches : ByteArray := prog_9_method_3_code
def yX7_reaches : MethodName := ⟨RX7, "reaches", "(II)Z"⟩
abbrev cX7_narrowed : ByteArray := prog_9_method_4_code
def yX7_narrowed : MethodName := ⟨RX7, "narrowed", "(J)J"⟩
def RX8 : String := "WitnessPays$WhatIf"
def TX8 : u_T := fun k => match k with
  | _ => ("WitnessPays$WhatIf", "trial", "LWitnessPays$Street;", true)
def tyX8 : Nat → FieldType := fun k => match k with
  | _ => .object "WitnessPays$Street"
abbrev wsX80 : List Cond := u_ws RX8 TX8 1
theorem nmX8 : ∀ a, a < 1 → ∀ b, b < 1 → a ≠ b → (TX8 a).2.1 ≠ (TX8 b).2.1 := by decide +kernel
theorem tyX8_ok : ∀ k, k < 1 → parseFieldDescriptor (TX8 k).2.2.1 = some (tyX8 k) := by decide +kernel
abbrev cX8_init : ByteArray := prog_10_method_1_code
def yX8_init : MethodName := ⟨RX8, "<init>", "(LWitnessPays$Law;)V"⟩
abbrev cX8_shunnedBy : ByteArray := prog_10_method_2_code
def yX8_shunnedBy : MethodName := ⟨RX8, "shunnedBy", "(ILWitnessPays$Street;)I"⟩
abbrev cX8_daysUntilUnseen : ByteArray := prog_10_method_3_code
def yX8_daysUntilUnseen : MethodName := ⟨RX8, "daysUntilUnseen", "(ILWitnessPays$Street;)I"⟩
abbrev cX8_firstFalse : ByteArray := prog_10_method_4_code
def yX8_firstFalse : MethodName := ⟨RX8, "firstFalse", "(LWitnessPays$Table;LWitnessPays$Street;)I"⟩
abbrev cX8_agrees : ByteArray := prog_10_method_5_code
def yX8_agrees : MethodName := ⟨RX8, "agrees", "(IIILWitnessPays$Table;LWitnessPays$Street;)Z"⟩
abbrev cX8_afterPlan : ByteArray := prog_10_method_6_code
def yX8_afterPlan : MethodName := ⟨RX8, "afterPlan", "(LWitnessPays$Table;LWitnessPays$Street;)LWitnessPays$Street;"⟩
def RX9 : String := "WitnessPays"
def TX9 : u_T := fun k => match k with
  | 0 => ("WitnessPays", "now", "LWitnessPays$Scene;", true)
  | 1 => ("WitnessPays", "kept", "LWitnessPays$Scene;", true)
  | 2 => ("WitnessPays", "hasKept", "Z", false)
  | 3 => ("WitnessPays", "text", "LWitnessPays$LawText;", true)
  | 4 => ("WitnessPays", "laws", "I", false)
  | 5 => ("WitnessPays", "whatIf", "LWitnessPays$WhatIf;", true)
  | 6 => ("WitnessPays", "actor", "LWitnessPays$Actor;", true)
  | _ => ("WitnessPays", "tapes", "[LWitnessPays$Tape;", true)
def tyX9 : Nat → FieldType := fun k => match k with
  | 0 => .object "WitnessPays$Scene"
  | 1 => .object "WitnessPays$Scene"
  | 2 => .boolean
  | 3 => .object "WitnessPays$LawText"
  | 4 => .int
  | 5 => .object "WitnessPays$WhatIf"
  | 6 => .object "WitnessPays$Actor"
  | _ => .array (.object "WitnessPays$Tape")
abbrev wsX90 : List Cond := u_ws RX9 TX9 8
theorem nmX9 : ∀ a, a < 8 → ∀ b, b < 8 → a ≠ b → (TX9 a).2.1 ≠ (TX9 b).2.1 := by decide +kernel
theorem tyX9_ok : ∀ k, k < 8 → parseFieldDescriptor (TX9 k).2.2.1 = some (tyX9 k) := by decide +kernel
abbrev cX9_init : ByteArray := prog_1_method_1_code
def yX9_init : MethodName := ⟨RX9, "<init>", "()V"⟩
abbrev cX9_one : ByteArray := prog_1_method_2_code
def yX9_one : MethodName := ⟨RX9, "one", "(III)I"⟩
abbrev cX9_of : ByteArray := prog_1_method_3_code
def yX9_of : MethodName := ⟨RX9, "of", "(II)I"⟩
abbrev cX9_set : ByteArray := prog_1_method_4_code
def yX9_set : MethodName := ⟨RX9, "set", "(III)I"⟩
abbrev cX9_leave : ByteArray := prog_1_method_5_code
def yX9_leave : MethodName := ⟨RX9, "leave", "(IZ)I"⟩
abbrev cX9_walls : ByteArray := prog_1_method_6_code
def yX9_walls : MethodName := ⟨RX9, "walls", "(I)I"⟩
abbrev cX9_row : ByteArray := prog_1_method_7_code
def yX9_row : MethodName := ⟨RX9, "row", "(III)I"⟩
abbrev cX9_feed : ByteArray := prog_1_method_8_code
def yX9_feed : MethodName := ⟨RX9, "feed", "(I)I"⟩
abbrev cX9_statute : ByteArray := prog_1_method_9_code
def yX9_statute : MethodName := ⟨RX9, "statute", "()I"⟩
abbrev cX9_told : ByteArray := prog_1_method_10_code
def yX9_told : MethodName := ⟨RX9, "told", "(I)I"⟩
abbrev cX9_deed : ByteArray := prog_1_method_11_code
def yX9_deed : MethodName := ⟨RX9, "deed", "(I)I"⟩
abbrev cX9_pass : ByteArray := prog_1_method_12_code
def yX9_pass : MethodName := ⟨RX9, "pass", "(I)I"⟩
abbrev cX9_at : ByteArray := prog_1_method_13_code
def yX9_at : MethodName := ⟨RX9, "at", "(II)I"⟩
abbrev cX9_share : ByteArray := prog_1_method_14_code
def yX9_share : MethodName := ⟨RX9, "share", "(II)I"⟩
abbrev cX9_see : ByteArray := prog_1_method_15_code
def yX9_see : MethodName := ⟨RX9, "see", "(III)I"⟩
abbrev cX9_wrong : ByteArray := prog_1_method_16_code
def yX9_wrong : MethodName := ⟨RX9, "wrong", "()I"⟩
abbrev cX9_from : ByteArray := prog_1_method_17_code
def yX9_from : MethodName := ⟨RX9, "from", "(I)I"⟩
abbrev cX9_can : ByteArray := prog_1_method_18_code
def yX9_can : MethodName := ⟨RX9, "can", "(II)I"⟩
abbrev cX9_odds : ByteArray := prog_1_method_19_code
def yX9_odds : MethodName := ⟨RX9, "odds", "(II)J"⟩
abbrev cX9_mean : ByteArray := prog_1_method_20_code
def yX9_mean : MethodName := ⟨RX9, "mean", "(I)J"⟩
abbrev cX9_plan : ByteArray := prog_1_method_21_code
def yX9_plan : MethodName := ⟨RX9, "plan", "(II)I"⟩
abbrev cX9_ends : ByteArray := prog_1_method_22_code
def yX9_ends : MethodName := ⟨RX9, "ends", "(I)I"⟩
abbrev cX9_book : ByteArray := prog_1_method_23_code
def yX9_book : MethodName := ⟨RX9, "book", "(II)I"⟩
abbrev cX9_looked : ByteArray := prog_1_method_24_code
def yX9_looked : MethodName := ⟨RX9, "looked", "()I"⟩
abbrev cX9_judge : ByteArray := prog_1_method_25_code
def yX9_judge : MethodName := ⟨RX9, "judge", "(II)I"⟩
abbrev cX9_image : ByteArray := prog_1_method_26_code
def yX9_image : MethodName := ⟨RX9, "image", "()I"⟩
abbrev cX9_undo : ByteArray := prog_1_method_27_code
def yX9_undo : MethodName := ⟨RX9, "undo", "()I"⟩
abbrev cX9_act : ByteArray := prog_1_method_28_code
def yX9_act : MethodName := ⟨RX9, "act", "(III)I"⟩
abbrev cX9_trace : ByteArray := prog_1_method_29_code
def yX9_trace : MethodName := ⟨RX9, "trace", "(I)I"⟩
abbrev cX9_taken : ByteArray := prog_1_method_30_code
def yX9_taken : MethodName := ⟨RX9, "taken", "(II)I"⟩
abbrev cX9_count : ByteArray := prog_1_method_31_code
def yX9_count : MethodName := ⟨RX9, "count", "(I)I"⟩
abbrev cX9_tape : ByteArray := prog_1_method_32_code
def yX9_tape : MethodName := ⟨RX9, "tape", "(III)I"⟩
abbrev cX9_item : ByteArray := prog_1_method_33_code
def yX9_item : MethodName := ⟨RX9, "item", "(IIJ)I"⟩
abbrev cX9_read : ByteArray := prog_1_method_34_code
def yX9_read : MethodName := ⟨RX9, "read", "(II)J"⟩
abbrev cX9_shift : ByteArray := prog_1_method_35_code
def yX9_shift : MethodName := ⟨RX9, "shift", "(IIIII)I"⟩
abbrev cX9_isWithin : ByteArray := prog_1_method_36_code
def yX9_isWithin : MethodName := ⟨RX9, "isWithin", "(II)Z"⟩
abbrev cX9_isPlace : ByteArray := prog_1_method_37_code
def yX9_isPlace : MethodName := ⟨RX9, "isPlace", "(I)Z"⟩
abbrev cX9_isPlanRow : ByteArray := prog_1_method_38_code
def yX9_isPlanRow : MethodName := ⟨RX9, "isPlanRow", "(II)Z"⟩
abbrev cX9_tapeOf : ByteArray := prog_1_method_39_code
def yX9_tapeOf : MethodName := ⟨RX9, "tapeOf", "(I)LWitnessPays$Tape;"⟩
abbrev cX9_lowestTerms : ByteArray := prog_1_method_40_code
def yX9_lowestTerms : MethodName := ⟨RX9, "lowestTerms", "(III)J"⟩
def RX10 : String := "WitnessPaysModel"
def TX10 : u_T := fun k => match k with
  | 0 => ("WitnessPaysModel", "people", "I", false)
  | 1 => ("WitnessPaysModel", "kind", "[I", true)
  | 2 => ("WitnessPaysModel", "v", "[I", true)
  | 3 => ("WitnessPaysModel", "place", "[I", true)
  | 4 => ("WitnessPaysModel", "purse", "[I", true)
  | 5 => ("WitnessPaysModel", "gone", "[I", true)
  | 6 => ("WitnessPaysModel", "rows", "[I", true)
  | 7 => ("WitnessPaysModel", "walls", "I", false)
  | 8 => ("WitnessPaysModel", "day", "I", false)
  | 9 => ("WitnessPaysModel", "texted", "I", false)
  | 10 => ("WitnessPaysModel", "text", "[I", true)
  | 11 => ("WitnessPaysModel", "at", "I", false)
  | 12 => ("WitnessPaysModel", "value", "I", false)
  | 13 => ("WitnessPaysModel", "digits", "I", false)
  | 14 => ("WitnessPaysModel", "open", "I", false)
  | 15 => ("WitnessPaysModel", "laws", "I", false)
  | 16 => ("WitnessPaysModel", "holds", "I", false)
  | 17 => ("WitnessPaysModel", "clauses", "[I", true)
  | 18 => ("WitnessPaysModel", "word", "[I", true)
  | 19 => ("WitnessPaysModel", "number", "[I", true)
  | 20 => ("WitnessPaysModel", "begins", "[I", true)
  | 21 => ("WitnessPaysModel", "length", "[I", true)
  | 22 => ("WitnessPaysModel", "code", "[I", true)
  | 23 => ("WitnessPaysModel", "coded", "I", false)
  | 24 => ("WitnessPaysModel", "stack", "[Z", true)
  | 25 => ("WitnessPaysModel", "seen", "I", false)
  | 26 => ("WitnessPaysModel", "seenPlace", "[I", true)
  | 27 => ("WitnessPaysModel", "seenIn", "[I", true)
  | 28 => ("WitnessPaysModel", "seenBy", "[I", true)
  | 29 => ("WitnessPaysModel", "inPlan", "I", false)
  | 30 => ("WitnessPaysModel", "goes", "[I", true)
  | 31 => ("WitnessPaysModel", "whose", "[I", true)
  | 32 => ("WitnessPaysModel", "inBook", "I", false)
  | 33 => ("WitnessPaysModel", "booked", "[I", true)
  | 34 => ("WitnessPaysModel", "bookPurse", "[I", true)
  | 35 => ("WitnessPaysModel", "traced", "I", false)
  | 36 => ("WitnessPaysModel", "traces", "[I", true)
  | 37 => ("WitnessPaysModel", "imaged", "Z", false)
  | 38 => ("WitnessPaysModel", "image", "[I", true)
  | 39 => ("WitnessPaysModel", "ahead", "[I", true)
  | 40 => ("WitnessPaysModel", "shares", "[I", true)
  | 41 => ("WitnessPaysModel", "tapeSort", "[I", true)
  | 42 => ("WitnessPaysModel", "tapeSize", "[I", true)
  | _ => ("WitnessPaysModel", "items", "[J", true)
def tyX10 : Nat → FieldType := fun k => match k with
  | 0 => .int
  | 1 => .array .int
  | 2 => .array .int
  | 3 => .array .int
  | 4 => .array .int
  | 5 => .array .int
  | 6 => .array .int
  | 7 => .int
  | 8 => .int
  | 9 => .int
  | 10 => .array .int
  | 11 => .int
  | 12 => .int
  | 13 => .int
  | 14 => .int
  | 15 => .int
  | 16 => .int
  | 17 => .array .int
  | 18 => .array .int
  | 19 => .array .int
  | 20 => .array .int
  | 21 => .array .int
  | 22 => .array .int
  | 23 => .int
  | 24 => .array .boolean
  | 25 => .int
  | 26 => .array .int
  | 27 => .array .int
  | 28 => .array .int
  | 29 => .int
  | 30 => .array .int
  | 31 => .array .int
  | 32 => .int
  | 33 => .array .int
  | 34 => .array .int
  | 35 => .int
  | 36 => .array .int
  | 37 => .boolean
  | 38 => .array .int
  | 39 => .array .int
  | 40 => .array .int
  | 41 => .array .int
  | 42 => .array .int
  | _ => .array .long
abbrev wsX100 : List Cond := u_ws RX10 TX10 44
theorem nmX10 : ∀ a, a < 44 → ∀ b, b < 44 → a ≠ b → (TX10 a).2.1 ≠ (TX10 b).2.1 := by decide +kernel
theorem tyX10_ok : ∀ k, k < 44 → parseFieldDescriptor (TX10 k).2.2.1 = some (tyX10 k) := by decide +kernel
abbrev cX10_init : ByteArray := prog_12_method_1_code
def yX10_init : MethodName := ⟨RX10, "<init>", "()V"⟩
abbrev cX10_within : ByteArray := prog_12_method_2_code
def yX10_within : MethodName := ⟨RX10, "within", "(III)Z"⟩
abbrev cX10_isOne : ByteArray := prog_12_method_3_code
def yX10_isOne : MethodName := ⟨RX10, "isOne", "(I)Z"⟩
abbrev cX10_isPlace : ByteArray := prog_12_method_4_code
def yX10_isPlace : MethodName := ⟨RX10, "isPlace", "(I)Z"⟩
abbrev cX10_one : ByteArray := prog_12_method_5_code
def yX10_one : MethodName := ⟨RX10, "one", "(III)I"⟩
abbrev cX10_of : ByteArray := prog_12_method_6_code
def yX10_of : MethodName := ⟨RX10, "of", "(II)I"⟩
abbrev cX10_set : ByteArray := prog_12_method_7_code
def yX10_set : MethodName := ⟨RX10, "set", "(III)I"⟩
abbrev cX10_leave : ByteArray := prog_12_method_8_code
def yX10_leave : MethodName := ⟨RX10, "leave", "(IZ)I"⟩
abbrev cX10_walls : ByteArray := prog_12_method_9_code
def yX10_walls : MethodName := ⟨RX10, "walls", "(I)I"⟩
abbrev cX10_row : ByteArray := prog_12_method_10_code
def yX10_row : MethodName := ⟨RX10, "row", "(III)I"⟩
abbrev cX10_feed : ByteArray := prog_12_method_11_code
def yX10_feed : MethodName := ⟨RX10, "feed", "(I)I"⟩
abbrev cX10_is : ByteArray := prog_12_method_12_code
def yX10_is : MethodName := ⟨RX10, "is", "(I)Z"⟩
abbrev cX10_isDigit : ByteArray := prog_12_method_13_code
def yX10_isDigit : MethodName := ⟨RX10, "isDigit", "()Z"⟩
abbrev cX10_isNumber : ByteArray := prog_12_method_14_code
def yX10_isNumber : MethodName := ⟨RX10, "isNumber", "()Z"⟩
abbrev cX10_isAll : ByteArray := prog_12_method_15_code
def yX10_isAll : MethodName := ⟨RX10, "isAll", "(Ljava/lang/String;)Z"⟩
abbrev cX10_codes : ByteArray := prog_12_method_16_code
def yX10_codes : MethodName := ⟨RX10, "codes", "(I)Z"⟩
abbrev cX10_isTest : ByteArray := prog_12_method_17_code
def yX10_isTest : MethodName := ⟨RX10, "isTest", "()Z"⟩
abbrev cX10_isOpened : ByteArray := prog_12_method_18_code
def yX10_isOpened : MethodName := ⟨RX10, "isOpened", "(I)Z"⟩
abbrev cX10_isF : ByteArray := prog_12_method_19_code
def yX10_isF : MethodName := ⟨RX10, "isF", "()Z"⟩
abbrev cX10_isT : ByteArray := prog_12_method_20_code
def yX10_isT : MethodName := ⟨RX10, "isT", "()Z"⟩
abbrev cX10_isE : ByteArray := prog_12_method_21_code
def yX10_isE : MethodName := ⟨RX10, "isE", "()Z"⟩
abbrev cX10_isClause : ByteArray := prog_12_method_22_code
def yX10_isClause : MethodName := ⟨RX10, "isClause", "(I)Z"⟩
abbrev cX10_statute : ByteArray := prog_12_method_23_code
def yX10_statute : MethodName := ⟨RX10, "statute", "()I"⟩
abbrev cX10_letterOf : ByteArray := prog_12_method_24_code
def yX10_letterOf : MethodName := ⟨RX10, "letterOf", "(II)I"⟩
abbrev cX10_isTrue : ByteArray := prog_12_method_25_code
def yX10_isTrue : MethodName := ⟨RX10, "isTrue", "(II)Z"⟩
abbrev cX10_sum : ByteArray := prog_12_method_26_code
def yX10_sum : MethodName := ⟨RX10, "sum", "(I)I"⟩
abbrev cX10_fine : ByteArray := prog_12_method_27_code
def yX10_fine : MethodName := ⟨RX10, "fine", "()I"⟩
abbrev cX10_reach : ByteArray := prog_12_method_28_code
def yX10_reach : MethodName := ⟨RX10, "reach", "(I)I"⟩
abbrev cX10_isWall : ByteArray := prog_12_method_29_code
def yX10_isWall : MethodName := ⟨RX10, "isWall", "(I)Z"⟩
abbrev cX10_sight : ByteArray := prog_12_method_30_code
def yX10_sight : MethodName := ⟨RX10, "sight", "(I)I"⟩
abbrev cX10_seers : ByteArray := prog_12_method_31_code
def yX10_seers : MethodName := ⟨RX10, "seers", "(I)I"⟩
abbrev cX10_shun : ByteArray := prog_12_method_32_code
def yX10_shun : MethodName := ⟨RX10, "shun", "(I)I"⟩
abbrev cX10_alone : ByteArray := prog_12_method_33_code
def yX10_alone : MethodName := ⟨RX10, "alone", "(I)I"⟩
abbrev cX10_pays : ByteArray := prog_12_method_34_code
def yX10_pays : MethodName := ⟨RX10, "pays", "(I)I"⟩
abbrev cX10_done : ByteArray := prog_12_method_35_code
def yX10_done : MethodName := ⟨RX10, "done", "(I)V"⟩
abbrev cX10_deed : ByteArray := prog_12_method_36_code
def yX10_deed : MethodName := ⟨RX10, "deed", "(I)I"⟩
abbrev cX10_hidden : ByteArray := prog_12_method_37_code
def yX10_hidden : MethodName := ⟨RX10, "hidden", "(I)I"⟩
abbrev cX10_mostly : ByteArray := prog_12_method_38_code
def yX10_mostly : MethodName := ⟨RX10, "mostly", "(I)I"⟩
abbrev cX10_allPurses : ByteArray := prog_12_method_39_code
def yX10_allPurses : MethodName := ⟨RX10, "allPurses", "()I"⟩
abbrev cX10_told : ByteArray := prog_12_method_40_code
def yX10_told : MethodName := ⟨RX10, "told", "(I)I"⟩
abbrev cX10_goesDay : ByteArray := prog_12_method_41_code
def yX10_goesDay : MethodName := ⟨RX10, "goesDay", "()V"⟩
abbrev cX10_pass : ByteArray := prog_12_method_42_code
def yX10_pass : MethodName := ⟨RX10, "pass", "(I)I"⟩
abbrev cX10_when : ByteArray := prog_12_method_43_code
def yX10_when : MethodName := ⟨RX10, "when", "(I)I"⟩
abbrev cX10_bricks : ByteArray := prog_12_method_44_code
def yX10_bricks : MethodName := ⟨RX10, "bricks", "(I)I"⟩
abbrev cX10_at : ByteArray := prog_12_method_45_code
def yX10_at : MethodName := ⟨RX10, "at", "(II)I"⟩
abbrev cX10_share : ByteArray := prog_12_method_46_code
def yX10_share : MethodName := ⟨RX10, "share", "(II)I"⟩
abbrev cX10_see : ByteArray := prog_12_method_47_code
def yX10_see : MethodName := ⟨RX10, "see", "(III)I"⟩
abbrev cX10_wrongBy : ByteArray := prog_12_method_48_code
def yX10_wrongBy : MethodName := ⟨RX10, "wrongBy", "(I)I"⟩
abbrev cX10_wrong : ByteArray := prog_12_method_49_code
def yX10_wrong : MethodName := ⟨RX10, "wrong", "()I"⟩
abbrev cX10_from : ByteArray := prog_12_method_50_code
def yX10_from : MethodName := ⟨RX10, "from", "(I)I"⟩
abbrev cX10_can : ByteArray := prog_12_method_51_code
def yX10_can : MethodName := ⟨RX10, "can", "(II)I"⟩
abbrev cX10_part : ByteArray := prog_12_method_52_code
def yX10_part : MethodName := ⟨RX10, "part", "(III)J"⟩
abbrev cX10_odds : ByteArray := prog_12_method_53_code
def yX10_odds : MethodName := ⟨RX10, "odds", "(II)J"⟩
abbrev cX10_mean : ByteArray := prog_12_method_54_code
def yX10_mean : MethodName := ⟨RX10, "mean", "(I)J"⟩
abbrev cX10_plan : ByteArray := prog_12_method_55_code
def yX10_plan : MethodName := ⟨RX10, "plan", "(II)I"⟩
abbrev cX10_ends : ByteArray := prog_12_method_56_code
def yX10_ends : MethodName := ⟨RX10, "ends", "(I)I"⟩
abbrev cX10_book : ByteArray := prog_12_method_57_code
def yX10_book : MethodName := ⟨RX10, "book", "(II)I"⟩
abbrev cX10_looked : ByteArray := prog_12_method_58_code
def yX10_looked : MethodName := ⟨RX10, "looked", "()I"⟩
abbrev cX10_judge : ByteArray := prog_12_method_59_code
def yX10_judge : MethodName := ⟨RX10, "judge", "(II)I"⟩
abbrev cX10_keep : ByteArray := prog_12_method_60_code
def yX10_keep : MethodName := ⟨RX10, "keep", "([I)V"⟩
abbrev cX10_again : ByteArray := prog_12_method_61_code
def yX10_again : MethodName := ⟨RX10, "again", "([I)V"⟩
abbrev cX10_image : ByteArray := prog_12_method_62_code
def yX10_image : MethodName := ⟨RX10, "image", "()I"⟩
abbrev cX10_undo : ByteArray := prog_12_method_63_code
def yX10_undo : MethodName := ⟨RX10, "undo", "()I"⟩
abbrev cX10_ran : ByteArray := prog_12_method_64_code
def yX10_ran : MethodName := ⟨RX10, "ran", "(I)V"⟩
abbrev cX10_above : ByteArray := prog_12_method_65_code
def yX10_above : MethodName := ⟨RX10, "above", "(I)I"⟩
abbrev cX10_looks : ByteArray := prog_12_method_66_code
def yX10_looks : MethodName := ⟨RX10, "looks", "(III)I"⟩
abbrev cX10_swears : ByteArray := prog_12_method_67_code
def yX10_swears : MethodName := ⟨RX10, "swears", "(III)I"⟩
abbrev cX10_tells : ByteArray := prog_12_method_68_code
def yX10_tells : MethodName := ⟨RX10, "tells", "(III)I"⟩
abbrev cX10_act : ByteArray := prog_12_method_69_code
def yX10_act : MethodName := ⟨RX10, "act", "(III)I"⟩
abbrev cX10_trace : ByteArray := prog_12_method_70_code
def yX10_trace : MethodName := ⟨RX10, "trace", "(I)I"⟩
abbrev cX10_taken : ByteArray := prog_12_method_71_code
def yX10_taken : MethodName := ⟨RX10, "taken", "(II)I"⟩
abbrev cX10_count : ByteArray := prog_12_method_72_code
def yX10_count : MethodName := ⟨RX10, "count", "(I)I"⟩
abbrev cX10_isTape : ByteArray := prog_12_method_73_code
def yX10_isTape : MethodName := ⟨RX10, "isTape", "(I)Z"⟩
abbrev cX10_tape : ByteArray := prog_12_method_74_code
def yX10_tape : MethodName := ⟨RX10, "tape", "(III)I"⟩
abbrev cX10_kept : ByteArray := prog_12_method_75_code
def yX10_kept : MethodName := ⟨RX10, "kept", "(IJ)J"⟩
abbrev cX10_item : ByteArray := prog_12_method_76_code
def yX10_item : MethodName := ⟨RX10, "item", "(IIJ)I"⟩
abbrev cX10_read : ByteArray := prog_12_method_77_code
def yX10_read : MethodName := ⟨RX10, "read", "(II)J"⟩
abbrev cX10_shift : ByteArray := prog_12_method_78_code
def yX10_shift : MethodName := ⟨RX10, "shift", "(IIIII)I"⟩
def RJ11 : String := "java/lang/Character"
abbrev cJ11_isValidCodePoint_9a6ad : ByteArray := prog_13_method_11_code
def yJ11_isValidCodePoint_9a6ad : MethodName := ⟨RJ11, "isValidCodePoint", "(I)Z"⟩
abbrev cJ11_highSurrogate_5068e : ByteArray := prog_13_method_28_code
def yJ11_highSurrogate_5068e : MethodName := ⟨RJ11, "highSurrogate", "(I)C"⟩
abbrev cJ11_lowSurrogate_5068e : ByteArray := prog_13_method_29_code
def yJ11_lowSurrogate_5068e : MethodName := ⟨RJ11, "lowSurrogate", "(I)C"⟩
def RJ6 : String := "java/lang/Integer"
abbrev cJ6_compare_7cf53 : ByteArray := prog_14_method_40_code
def yJ6_compare_7cf53 : MethodName := ⟨RJ6, "compare", "(II)I"⟩
abbrev cJ6_bitCount_0f7a4 : ByteArray := prog_14_method_49_code
def yJ6_bitCount_0f7a4 : MethodName := ⟨RJ6, "bitCount", "(I)I"⟩
def RJ9 : String := "java/lang/Math"
abbrev cJ9_max_7cf53 : ByteArray := prog_15_method_65_code
def yJ9_max_7cf53 : MethodName := ⟨RJ9, "max", "(II)I"⟩
abbrev cJ9_min_7cf53 : ByteArray := prog_15_method_69_code
def yJ9_min_7cf53 : MethodName := ⟨RJ9, "min", "(II)I"⟩
def RJ0 : String := "java/lang/String"
abbrev cJ0_length_8abf5 : ByteArray := prog_16_method_54_code
def yJ0_length_8abf5 : MethodName := ⟨RJ0, "length", "()I"⟩
abbrev cJ0_charAt_5068e : ByteArray := prog_16_method_56_code
def yJ0_charAt_5068e : MethodName := ⟨RJ0, "charAt", "(I)C"⟩
abbrev cJ0_indexOf_0f7a4 : ByteArray := prog_16_method_79_code
def yJ0_indexOf_0f7a4 : MethodName := ⟨RJ0, "indexOf", "(I)I"⟩
abbrev cJ0_indexOf_7cf53 : ByteArray := prog_16_method_80_code
def yJ0_indexOf_7cf53 : MethodName := ⟨RJ0, "indexOf", "(II)I"⟩
abbrev cJ0_coder_7d493 : ByteArray := prog_16_method_152_code
def yJ0_coder_7d493 : MethodName := ⟨RJ0, "coder", "()B"⟩
abbrev cJ0_isLatin1_aae02 : ByteArray := prog_16_method_154_code
def yJ0_isLatin1_aae02 : MethodName := ⟨RJ0, "isLatin1", "()Z"⟩
abbrev cJ0_checkIndex_df160 : ByteArray := prog_16_method_155_code
def yJ0_checkIndex_df160 : MethodName := ⟨RJ0, "checkIndex", "(II)V"⟩
abbrev cJ0_checkBoundsBeginEnd_23922 : ByteArray := prog_16_method_158_code
def yJ0_checkBoundsBeginEnd_23922 : MethodName := ⟨RJ0, "checkBoundsBeginEnd", "(III)V"⟩
def RJ1 : String := "java/lang/StringLatin1"
abbrev cJ1_charAt_3b067 : ByteArray := prog_17_method_2_code
def yJ1_charAt_3b067 : MethodName := ⟨RJ1, "charAt", "([BI)C"⟩
abbrev cJ1_canEncode_9a6ad : ByteArray := prog_17_method_4_code
def yJ1_canEncode_9a6ad : MethodName := ⟨RJ1, "canEncode", "(I)Z"⟩
abbrev cJ1_indexOf_4cfef : ByteArray := prog_17_method_22_code
def yJ1_indexOf_4cfef : MethodName := ⟨RJ1, "indexOf", "([BIII)I"⟩
abbrev cJ1_indexOfChar_4cfef : ByteArray := prog_17_method_23_code
def yJ1_indexOfChar_4cfef : MethodName := ⟨RJ1, "indexOfChar", "([BIII)I"⟩
def RJ2 : String := "java/lang/StringUTF16"
abbrev cJ2_getChar_3b067 : ByteArray := prog_18_method_5_code
def yJ2_getChar_3b067 : MethodName := ⟨RJ2, "getChar", "([BI)C"⟩
abbrev cJ2_length_9d52b : ByteArray := prog_18_method_6_code
def yJ2_length_9d52b : MethodName := ⟨RJ2, "length", "([B)I"⟩
abbrev cJ2_indexOf_4cfef : ByteArray := prog_18_method_40_code
def yJ2_indexOf_4cfef : MethodName := ⟨RJ2, "indexOf", "([BIII)I"⟩
abbrev cJ2_indexOfChar_4cfef : ByteArray := prog_18_method_47_code
def yJ2_indexOfChar_4cfef : MethodName := ⟨RJ2, "indexOfChar", "([BIII)I"⟩
abbrev cJ2_indexOfCharUnsafe_4cfef : ByteArray := prog_18_method_48_code
def yJ2_indexOfCharUnsafe_4cfef : MethodName := ⟨RJ2, "indexOfCharUnsafe", "([BIII)I"⟩
abbrev cJ2_indexOfSupplementary_4cfef : ByteArray := prog_18_method_49_code
def yJ2_indexOfSupplementary_4cfef : MethodName := ⟨RJ2, "indexOfSupplementary", "([BIII)I"⟩
abbrev cJ2_charAt_3b067 : ByteArray := prog_18_method_83_code
def yJ2_charAt_3b067 : MethodName := ⟨RJ2, "charAt", "([BI)C"⟩
abbrev cJ2_checkIndex_2214a : ByteArray := prog_18_method_91_code
def yJ2_checkIndex_2214a : MethodName := ⟨RJ2, "checkIndex", "(I[B)V"⟩
abbrev cJ2_checkBoundsBeginEnd_d044e : ByteArray := prog_18_method_93_code
def yJ2_checkBoundsBeginEnd_d044e : MethodName := ⟨RJ2, "checkBoundsBeginEnd", "(II[B)V"⟩
def RJ10 : String := "java/lang/System"
def RJ3 : String := "jdk/internal/util/Preconditions"
abbrev cJ3_checkIndex_8e157 : ByteArray := prog_20_method_11_code
def yJ3_checkIndex_8e157 : MethodName := ⟨RJ3, "checkIndex", "(IILjava/util/function/BiFunction;)I"⟩
abbrev cJ3_checkFromToIndex_8c36e : ByteArray := prog_20_method_12_code
def yJ3_checkFromToIndex_8c36e : MethodName := ⟨RJ3, "checkFromToIndex", "(IIILjava/util/function/BiFunction;)I"⟩
def RL : String := "WitnessPaysLaw"
abbrev cL_law : ByteArray := code
def yL_law : MethodName := ⟨RL, "law", "([I)Z"⟩
abbrev vwCl : List vw_C := [(RX0, TX0, 5), (RX1, TX1, 8), (RX2, TX2, 4), (RX3, TX3, 8), (RX4, TX4, 4), (RX5, TX5, 5), (RX6, TX6, 3), (RX7, TX7, 3), (RX8, TX8, 1), (RX9, TX9, 8), (RX10, TX10, 44)]
/-- the tables' words that stay true under warmer tables -/
def Ug : List Cond := lw_tbl.filter goodWord
theorem ugm {w : Cond} (i : Nat) (h : lw_tbl[i]? = some w) (hg : goodWord w = true) : w ∈ Ug := List.mem_filter.mpr ⟨List.mem_of_getElem? h, hg⟩
theorem ug_in {ws : List Cond} (h : ∀ w ∈ ws, w ∈ Ug) : GoodIn Ug ws := fun w hw => ⟨h w hw, good_of_word (List.mem_filter.mp (h w hw)).2⟩
theorem ug_tbl {w : Cond} (h : w ∈ Ug) : w ∈ lw_tbl := (List.mem_filter.mp h).1
def isNest : Cond → Bool
  | .fieldLinkNest .. => true
  | .methodLinkNest .. => true
  | _ => false
def nestW : List Cond := lw_tbl.filter isNest
theorem nwm {w : Cond} (i : Nat) (h : lw_tbl[i]? = some w) (hg : isNest w = true) : w ∈ nestW := List.mem_filter.mpr ⟨List.mem_of_getElem? h, hg⟩
end
section
/-! THE WORLD AS ONE MEMORY. Cells that the run makes are numbered 0, 1, 2 .. as they are made (cell k lies at the address base + k); M k j is the number in place j of cell k, S.2 k j the cell that place j of cell k points to (-1: null), S.1 how many cells there are. Which class or array each cell is: sh. -/
abbrev Mm : Type := Nat → Nat → Int
abbrev Sg : Type := Nat × (Nat → Nat → Int)
abbrev Ow : Type := Launch × State × va_G × (Nat → Nat)
abbrev Md : Type := MethodName × ByteArray × Nat × Option FieldType
abbrev Cg : Type := Program × Env × Room × State × MethodId × Array Value × List Frame × Method × Code
def bs (Ω : Ow) : Nat := Ω.2.1.heap.size
def vi (z : Int) : Value := .int (Int32.ofInt z)
def vl (z : Int) : Value := .long (Int64.ofInt z)
def vr (Ω : Ow) (r : Nat) : Value := .ref (bs Ω + r)
def ro (Ω : Ow) : Int → Option Nat
  | .ofNat r => some (bs Ω + r)
  | .negSucc _ => none
def rv (Ω : Ow) : Int → Value
  | .ofNat r => .ref (bs Ω + r)
  | .negSucc _ => .null
theorem rv_ro (Ω : Ow) (x : Int) : va_rf (ro Ω x) = rv Ω x := by cases x <;> rfl
theorem rv_nat (Ω : Ow) (r : Nat) : rv Ω (r : Int) = vr Ω r := rfl
def up (f : Nat → Nat → Int) (k j : Nat) (z : Int) : Nat → Nat → Int := fun a c => if a = k ∧ c = j then z else f a c
theorem up_s (f : Nat → Nat → Int) (k j : Nat) (z : Int) : up f k j z k j = z := by simp [up]
theorem up_n {f : Nat → Nat → Int} {k j a c : Nat} {z : Int} (h : ¬ (a = k ∧ c = j)) : up f k j z a c = f a c := by simp [up, h]
/-- the cells' kinds (0 .. 10 the classes in the order of vwCl; 11 bytes, 12 ints, 13 longs, 14 booleans, 15 PEOPLE, 16 tapes) and lengths, in the order in which they are made -/
def shT : List (Nat × Nat) := [(9, 0), (2, 0), (11, 100), (1, 0), (12, 10), (12, 10), (12, 10), (12, 100), (12, 6), (0, 0), (12, 20), (16, 6),
  (1, 0), (12, 10), (12, 10), (12, 10), (12, 100), (12, 6),
  (4, 0), (6, 0), (12, 15), (6, 0), (12, 30), (6, 0), (12, 24), (5, 0), (15, 6), (3, 0), (12, 4), (3, 0), (12, 4), (3, 0), (12, 4), (3, 0), (12, 4), (3, 0), (12, 4), (3, 0), (12, 4),
  (4, 0), (6, 0), (12, 15), (6, 0), (12, 30), (6, 0), (12, 24), (5, 0), (15, 6), (3, 0), (12, 4), (3, 0), (12, 4), (3, 0), (12, 4), (3, 0), (12, 4), (3, 0), (12, 4), (3, 0), (12, 4),
  (8, 0), (5, 0), (15, 6), (3, 0), (12, 4), (3, 0), (12, 4), (3, 0), (12, 4), (3, 0), (12, 4), (3, 0), (12, 4), (3, 0), (12, 4),
  (7, 0), (13, 60), (7, 0), (13, 60), (7, 0), (13, 60), (7, 0), (13, 60), (7, 0), (13, 60), (7, 0), (13, 60),
  (10, 0), (12, 6), (12, 6), (12, 6), (12, 6), (12, 6), (12, 24), (12, 100), (12, 6), (12, 61), (12, 61), (12, 61), (12, 61), (12, 800), (14, 110), (12, 5), (12, 5), (12, 5), (12, 10), (12, 10), (12, 8), (12, 8), (12, 20), (12, 112), (12, 112), (12, 6), (12, 6), (12, 6), (13, 360)]
def shL : List (Nat × Nat) := [(1, 0), (12, 10), (12, 10), (12, 10), (12, 100), (12, 6)]
def sh (k : Nat) : Nat × Nat := if k < 116 then shT.getD k (0, 0) else shL.getD ((k - 116) % 6) (0, 0)
/-- which fields point -/
def fkT : List (List Bool) := [[true, false, false, false, false], [false, false, true, true, true, false, true, true], [true, false, false, true], [false, false, false, false, false, false, true, false], [true, true, true, true], [true, false, false, false, true], [true, false, false], [false, false, true], [true], [true, true, false, true, false, true, true, true],
  [false, true, true, true, true, true, true, false, false, false, true, false, false, false, false, false, false, true, true, true, true, true, true, false, true, false, true, true, true, false, true, true, false, true, true, false, true, false, true, true, true, true, true, true]]
def fk (c : Nat) : List Bool := fkT.getD c []
def fv (Ω : Ow) (S : Sg) (M : Mm) (k j : Nat) (r : Bool) : Value := if r = true then rv Ω (S.2 k j) else vi (M k j)
def fsv (Ω : Ow) (S : Sg) (M : Mm) (k c : Nat) : List Value := (List.range (fk c).length).map fun j => fv Ω S M k j ((fk c).getD j false)
def arr (Ω : Ow) (S : Sg) (M : Mm) (k c n : Nat) : vp_A := if c = 13 then (n, .inr (.inl fun j => Int64.ofInt (M k j))) else if 15 ≤ c then (n, .inr (.inr (.inr (.inr fun j => ro Ω (S.2 k j))))) else (n, .inl fun j => Int32.ofInt (M k j))
def cont (Ω : Ow) (S : Sg) (M : Mm) (k : Nat) : va_E := if 11 ≤ (sh k).1 then .inl (Ω.2.2.1.1 (sh k).1, arr Ω S M k (sh k).1 (sh k).2) else .inr ((sh k).1, fsv Ω S M k (sh k).1)
def wsO (Ω : Ow) (S : Sg) (M : Mm) : va_W := (List.range S.1).map fun k => (bs Ω + k, cont Ω S M k)
theorem wsO_get {Ω : Ow} {S : Sg} {M : Mm} {k : Nat} (h : k < S.1) : (wsO Ω S M)[k]? = some (bs Ω + k, cont Ω S M k) := by simp [wsO, h]
theorem wsO_at {Ω : Ow} {S : Sg} {M : Mm} {k : Nat} {q : Nat × va_E} (h : (wsO Ω S M)[k]? = some q) : k < S.1 ∧ q = (bs Ω + k, cont Ω S M k) := by
  by_cases hk : k < S.1
  · rw [wsO_get hk] at h
    exact ⟨hk, (Option.some.inj h).symm⟩
  · have h1 : (wsO Ω S M)[k]? = none := List.getElem?_eq_none (by simp [wsO]; omega)
    rw [h1] at h
    cases h
theorem wsO_D {Ω : Ow} {S : Sg} {M : Mm} : va_D (fun q : Nat => bs Ω ≤ q) (wsO Ω S M) := by
  refine ⟨fun i j p q hi hj hpq => ?_, fun k q hk => ?_⟩
  · obtain ⟨-, rfl⟩ := wsO_at hi
    obtain ⟨-, rfl⟩ := wsO_at hj
    have h1 : bs Ω + i = bs Ω + j := hpq
    omega
  · obtain ⟨-, rfl⟩ := wsO_at hk
    exact Nat.le_add_right _ _
/-- what is not made yet is empty -/
def Fresh (S : Sg) (M : Mm) : Prop := ∀ k, S.1 ≤ k → ∀ j, M k j = 0 ∧ S.2 k j = -1
def HW (Ω : Ow) (S : Sg) (M : Mm) (H : Heap) : Prop := H.size = bs Ω + S.1 ∧ va_P Ω.2.2.1 vwCl (wsO Ω S M) H ∧ Fresh S M
def tys (D : va_G) : List (ClassId × FieldType) := [(D.1 11, .byte), (D.1 12, .int), (D.1 13, .long), (D.1 14, .boolean), (D.1 15, .object RX3), (D.1 16, .object RX7)]
/-- the places of the String constants: class, entry, text; its signs -/
def scT : List (String × Nat × String × List Int) := [("WitnessPays$Law", 28, "pkvamd", [112, 107, 118, 97, 109, 100]), ("WitnessPays$LawText", 73, "0123456789", [48, 49, 50, 51, 52, 53, 54, 55, 56, 57]), ("WitnessPays$LawText", 65, "pkvamd", [112, 107, 118, 97, 109, 100]), ("WitnessPays$LawText", 71, "<=>", [60, 61, 62]),
  ("WitnessPaysModel", 194, "far ", [102, 97, 114, 32]), ("WitnessPaysModel", 200, "near ", [110, 101, 97, 114, 32]), ("WitnessPaysModel", 202, "fine ", [102, 105, 110, 101, 32]), ("WitnessPaysModel", 163, "pkvamd", [112, 107, 118, 97, 109, 100]), ("WitnessPaysModel", 168, "<=>", [60, 61, 62])]
def sc (i : Nat) : String × Nat × String × List Int := scT.getD i ("", 0, "", [])
/-- the addresses of constants: 0 the table of KINDS above; 1 + i the String i, 20 + i its bytes -/
def ka (Ω : Ow) (i : Nat) : Nat := Ω.2.2.2 i
def kAb : List Int := [-1, 0, 0, 0, 1, 2, 3]
def Lo (Ω : Ow) : Nat → Prop := fun q => bs Ω ≤ q
def Fs (Ω : Ow) (i : Nat) (U : State) (H : Heap) : Prop := vk_R (sc i).1 (sc i).2.1 (sc i).2.2.1 (ka Ω (1 + i)) U ∧ va_O "java/lang/String" (ka Ω (1 + i)) (Lo Ω) U H ∧ va_OF "java/lang/String" "coder" "B" (.int 0) (ka Ω (1 + i)) (Lo Ω) U H ∧ va_OF "java/lang/String" "value" "[B" (.ref (ka Ω (20 + i))) (ka Ω (1 + i)) (Lo Ω) U H ∧ va_T .byte (ka Ω (20 + i)) (sc i).2.2.2.length (fun j => vi ((sc i).2.2.2.getD j 0)) (Lo Ω) U H
def Fx (Ω : Ow) : Prop := va_K Ω.2.2.1 vwCl (tys Ω.2.2.1) Ω.2.1 ∧ (∀ w ∈ nestW, va_Nw w Ω.2.1) ∧ va_Z RX9 "KIND_ABOVE" "[I" (.ref (ka Ω 0)) (Lo Ω) Ω.2.1 Ω.2.1.heap ∧ va_T .int (ka Ω 0) 7 (fun j => vi (kAb.getD j 0)) (Lo Ω) Ω.2.1 Ω.2.1.heap ∧
  va_Z "java/lang/String" "COMPACT_STRINGS" "Z" (.int 1) (Lo Ω) Ω.2.1 Ω.2.1.heap ∧ va_Zq "jdk/internal/util/Preconditions" "SIOOBE_FORMATTER" "Ljava/util/function/BiFunction;" (Lo Ω) Ω.2.1 Ω.2.1.heap ∧ ∀ i, i < 9 → Fs Ω i Ω.2.1 Ω.2.1.heap
abbrev cP (γ : Cg) : Program := γ.1
abbrev cE (γ : Cg) : Env := γ.2.1
abbrev cR (γ : Cg) : Room := γ.2.2.1
abbrev cS (γ : Cg) : State := γ.2.2.2.1
abbrev cM (γ : Cg) : MethodId := γ.2.2.2.2.1
abbrev cA (γ : Cg) : Array Value := γ.2.2.2.2.2.1
abbrev cB (γ : Cg) : List Frame := γ.2.2.2.2.2.2.1
abbrev cMe (γ : Cg) : Method := γ.2.2.2.2.2.2.2.1
abbrev cC (γ : Cg) : Code := γ.2.2.2.2.2.2.2.2
/-- what is known of the method that runs -/
def Cx (γ : Cg) (Ω : Ow) (Y : Md) : Prop := (cP γ).tables.exec = Jvm.exec ∧ (cC γ).code = Y.2.1 ∧ (cC γ).maxLocals = Y.2.2.1 ∧ (cS γ).vm.findClass Y.1.cls = some (cM γ).cls ∧ (∀ w ∈ Ug, w.before (cA γ) (cS γ) = true) ∧ (cMe γ).sig.returnType = Y.2.2.2 ∧ (cMe γ).locks = false ∧ (cMe γ).name = Y.1.name ∧ Fx Ω ∧ Ω.2.1.WarmedH (cS γ).vm ∧ ∀ q : Nat, q < bs Ω → (cS γ).heap[q]? = Ω.2.1.heap[q]?
/-- the locals by their places -/
def lpr : Nat → List (Option Value) → List (Nat × Value)
  | _, [] => []
  | k, none :: t => lpr (k + 1) t
  | k, some v :: t => (k, v) :: lpr (k + 1) t
def lh (L : Array Slot) (n : Nat) (ls : List (Option Value)) : Prop := lv_has L n (lpr 0 ls)
/-- from this point on the method comes to its end, and Z holds there -/
def Go (γ : Cg) (Ω : Ow) (Y : Md) (Z : State → Prop) (cs ss : Nat) (S : Sg) (M : Mm) (pc : Nat) (ls : List (Option Value)) (st : List Value) : Prop :=
  Cx γ Ω Y → ∀ (H : Heap) (locs : List Loc) (L : Array Slot), HW Ω S M H → (∀ q : Nat, q < bs Ω → H[q]? = Ω.2.1.heap[q]?) → (∀ q ∈ locs, bs Ω ≤ q.base) → lh L Y.2.2.1 ls → W (cP γ) Ω.1 (cE γ) (cR γ) (cS γ) (cM γ) (cA γ) (cB γ) (cMe γ) (cC γ) H locs cs ss Z (F0 (cM γ) pc L st)
theorem mem_lpr : ∀ (ls : List (Option Value)) (k : Nat) (q : Nat × Value), q ∈ lpr k ls ↔ ∃ i, q.1 = k + i ∧ ls[i]? = some (some q.2) := by
  intro ls
  induction ls with
  | nil => intro k q; simp [lpr]
  | cons a t ih =>
    intro k q
    cases a with
    | none =>
      simp only [lpr, ih]
      constructor
      · rintro ⟨i, h1, h2⟩
        exact ⟨i + 1, by omega, by simpa using h2⟩
      · rintro ⟨i, h1, h2⟩
        cases i with
        | zero => simp at h2
        | succ i => exact ⟨i, by omega, by simpa using h2⟩
    | some v =>
      simp only [lpr, List.mem_cons, ih]
      constructor
      · rintro (h | ⟨i, h1, h2⟩)
        · subst h
          exact ⟨0, by simp, by simp⟩
        · exact ⟨i + 1, by omega, by simpa using h2⟩
      · rintro ⟨i, h1, h2⟩
        cases i with
        | zero =>
          left
          simp at h2
          obtain ⟨a, b⟩ := q
          simp at h1 h2
          rw [h1, h2]
        | succ i => exact Or.inr ⟨i, by omega, by simpa using h2⟩
theorem lh_at {L : Array Slot} {n : Nat} {ls : List (Option Value)} {i : Nat} {v : Value} (h : lh L n ls) (hi : ls[i]? = some (some v)) : L[i]? = some (.val v) := h.2.2 (i, v) ((mem_lpr ls 0 (i, v)).mpr ⟨i, by simp, hi⟩)
/-- fewer locals are known -/
def lle : List (Option Value) → List (Option Value) → Prop
  | [], _ => True
  | none :: t, _ :: u => lle t u
  | some v :: t, x :: u => x = some v ∧ lle t u
  | none :: t, [] => lle t []
  | some _ :: _, [] => False
theorem lle_get : ∀ {l m : List (Option Value)}, lle l m → ∀ {i : Nat} {v : Value}, l[i]? = some (some v) → m[i]? = some (some v) := by
  intro l
  induction l with
  | nil => intro m _ i v h; simp at h
  | cons a t ih =>
    intro m hm i v h
    cases m with
    | nil =>
      cases a with
      | none =>
        cases i with
        | zero => simp at h
        | succ i =>
          have h1 := ih (m := []) hm (i := i) (by simpa using h)
          simp at h1
      | some w => exact hm.elim
    | cons b u =>
      cases a with
      | none =>
        cases i with
        | zero => simp at h
        | succ i => simpa using ih (m := u) hm (i := i) (by simpa using h)
      | some w =>
        cases i with
        | zero => simp at h; rw [← h]; simpa using hm.1
        | succ i => simpa using ih (m := u) hm.2 (i := i) (by simpa using h)
theorem lh_le {L : Array Slot} {n : Nat} {ls ls' : List (Option Value)} (h : lh L n ls) (hl : lle ls' ls) : lh L n ls' := by
  refine ⟨h.1, h.2.1, fun q hq => ?_⟩
  obtain ⟨i, h1, h2⟩ := (mem_lpr _ _ _).mp hq
  have h3 := lh_at h (lle_get hl h2)
  rw [h1, Nat.zero_add]
  exact h3
theorem i8a : Int8.minValue.toInt = -128 := by decide +kernel
theorem i8b : Int8.maxValue.toInt = 127 := by decide +kernel
theorem i16a : Int16.minValue.toInt = -32768 := by decide +kernel
theorem i16b : Int16.maxValue.toInt = 32767 := by decide +kernel
theorem i32a : Int32.minValue.toInt = -2147483648 := by decide +kernel
theorem i32b : Int32.maxValue.toInt = 2147483647 := by decide +kernel
theorem i64a : Int64.minValue.toInt = -9223372036854775808 := by decide +kernel
theorem i64b : Int64.maxValue.toInt = 9223372036854775807 := by decide +kernel
section GO
variable {γ : Cg} {Ω : Ow} {Y : Md} {Z : State → Prop} {cs ss : Nat} {S : Sg} {M : Mm} {pc pc' : Nat} {ls ls' : List (Option Value)} {st st' : List Value}
/-- fewer locals -/
theorem Go.le (k : Go γ Ω Y Z cs ss S M pc ls' st) (h : lle ls' ls) : Go γ Ω Y Z cs ss S M pc ls st := fun C H locs L h1 h2 h3 h4 => k C H locs L h1 h2 h3 (lh_le h4 h)
theorem Go.wide {cs' ss' : Nat} (k : Go γ Ω Y Z cs' ss' S M pc ls st) (h1 : cs ≤ cs') (h2 : ss ≤ ss') : Go γ Ω Y Z cs ss S M pc ls st := fun C H locs L a b c d => W.widen h1 h2 (k C H locs L a b c d)
abbrev D1 (cc : ByteArray) (pc : Nat) (i : Instr) (pc' : Nat) : Prop := decode cc pc = .ok (i, 1) ∧ pc + 1 = pc'
abbrev D2 (cc : ByteArray) (pc : Nat) (i : Instr) (pc' : Nat) : Prop := decode cc pc = .ok (i, 2) ∧ pc + 2 = pc'
abbrev D3 (cc : ByteArray) (pc : Nat) (i : Instr) (pc' : Nat) : Prop := decode cc pc = .ok (i, 3) ∧ pc + 3 = pc'
/-- a constant, of any kind -/
def IC (cc : ByteArray) (own : String) (pc : Nat) (z : Int) (pc' : Nat) : Prop := D1 cc pc (.iconst z) pc' ∨ (D2 cc pc (.bipush z) pc' ∧ -128 ≤ z ∧ z < 128) ∨ (D3 cc pc (.sipush z) pc' ∧ -32768 ≤ z ∧ z < 32768) ∨ (∃ i, D2 cc pc (.ldc i) pc' ∧ Jvm.Cond.constant own i (Int32.ofInt z) ∈ Ug) ∨ (∃ i, D3 cc pc (.ldc_w i) pc' ∧ Jvm.Cond.constant own i (Int32.ofInt z) ∈ Ug)
theorem g_const {z : Int} (hd : IC Y.2.1 Y.1.cls pc z pc') (k : Go γ Ω Y Z cs ss S M pc' ls (vi z :: st)) : Go γ Ω Y Z cs ss S M pc ls st := by
  intro C H locs L h1 h2 h3 h4
  have k2 := k C H locs L h1 h2 h3 h4
  rcases hd with ⟨hd, rfl⟩ | ⟨⟨hd, rfl⟩, r1, r2⟩ | ⟨⟨hd, rfl⟩, r1, r2⟩ | ⟨i, ⟨hd, rfl⟩, hw⟩ | ⟨i, ⟨hd, rfl⟩, hw⟩
  · exact lv_iconst C.1 C.2.1 hd rfl k2
  · exact lv_bipush C.1 C.2.1 hd (Int8.toInt32_ofInt (by rw [i8a]; exact r1) (by rw [i8b]; omega)) k2
  · exact lv_sipush C.1 C.2.1 hd (Int16.toInt32_ofInt (by rw [i16a]; exact r1) (by rw [i16b]; omega)) k2
  · exact lv_ldc C.1 C.2.1 C.2.2.2.1 (C.2.2.2.2.1 _ hw) hd k2
  · exact lv_ldcw C.1 C.2.1 C.2.2.2.1 (C.2.2.2.2.1 _ hw) hd k2
end GO
end
section
abbrev rg (z : Int) : Prop := -2147483648 ≤ z ∧ z ≤ 2147483647
theorem tI {z : Int} (h : rg z) : (Int32.ofInt z).toInt = z := Int32.toInt_ofInt_of_le (by omega) (by omega)
theorem tL {z : Int} (h : -9223372036854775808 ≤ z ∧ z ≤ 9223372036854775807) : (Int64.ofInt z).toInt = z := Int64.toInt_ofInt_of_le (by omega) (by omega)
theorem vi_of (x : Int32) : Value.int x = vi x.toInt := by rw [vi, Int32.ofInt_toInt]
theorem rg_of (x : Int32) : rg x.toInt := ⟨by have := Int32.le_toInt x; omega, by have := Int32.toInt_lt x; omega⟩
theorem oI_lt {a b : Int} (ha : rg a) (hb : rg b) : Int32.ofInt a < Int32.ofInt b ↔ a < b := by rw [Int32.lt_iff_toInt_lt, tI ha, tI hb]
theorem oI_le {a b : Int} (ha : rg a) (hb : rg b) : Int32.ofInt a ≤ Int32.ofInt b ↔ a ≤ b := by rw [Int32.le_iff_toInt_le, tI ha, tI hb]
theorem oI_eq {a b : Int} (ha : rg a) (hb : rg b) : Int32.ofInt a = Int32.ofInt b ↔ a = b := by rw [← Int32.toInt_inj, tI ha, tI hb]
theorem rg0 : rg 0 := by omega
theorem zI : (0 : Int32) = Int32.ofInt 0 := by decide
def bop (f : Int32 → Int32 → Int32) (a b : Int) : Int := (f (Int32.ofInt a) (Int32.ofInt b)).toInt
def bopL (f : Int64 → Int64 → Int64) (a b : Int) : Int := (f (Int64.ofInt a) (Int64.ofInt b)).toInt
abbrev band : Int → Int → Int := bop (fun x y => x &&& y)
abbrev bor : Int → Int → Int := bop (fun x y => x ||| y)
abbrev bxor : Int → Int → Int := bop (fun x y => x ^^^ y)
abbrev bshl : Int → Int → Int := bop (fun x y => x <<< (y &&& 31))
abbrev bshr : Int → Int → Int := bop (fun x y => x >>> (y &&& 31))
abbrev bushr : Int → Int → Int := bop (fun x y => (x.toUInt32 >>> (y.toUInt32 &&& Int32.toUInt32 31)).toInt32)
theorem vi_bop (f : Int32 → Int32 → Int32) (a b : Int) : vi (bop f a b) = .int (f (Int32.ofInt a) (Int32.ofInt b)) := by rw [vi, bop, Int32.ofInt_toInt]
theorem vl_bopL (f : Int64 → Int64 → Int64) (a b : Int) : vl (bopL f a b) = .long (f (Int64.ofInt a) (Int64.ofInt b)) := by rw [vl, bopL, Int64.ofInt_toInt]
def i2bI (a : Int) : Int := (Int32.ofInt a).toInt8.toInt
def i2sI (a : Int) : Int := (Int32.ofInt a).toInt16.toInt
def i2cI (a : Int) : Int := ((Int32.ofInt a).toUInt32 % 65536).toInt32.toInt
section GR
variable {γ : Cg} {Ω : Ow} {Y : Md} {Z : State → Prop} {cs ss : Nat} {S : Sg} {M : Mm} {pc pc' tgt : Nat} {ls : List (Option Value)} {st : List Value} {a b z : Int} {va vb vc : Value}
/-- an instruction that changes the stack alone -/
theorem go_st {st' : List Value} (h : Cx γ Ω Y → ∀ (H : Heap) (locs : List Loc) (L : Array Slot), W (cP γ) Ω.1 (cE γ) (cR γ) (cS γ) (cM γ) (cA γ) (cB γ) (cMe γ) (cC γ) H locs cs ss Z (F0 (cM γ) pc' L st') → W (cP γ) Ω.1 (cE γ) (cR γ) (cS γ) (cM γ) (cA γ) (cB γ) (cMe γ) (cC γ) H locs cs ss Z (F0 (cM γ) pc L st)) (k : Go γ Ω Y Z cs ss S M pc' ls st') : Go γ Ω Y Z cs ss S M pc ls st := fun C H locs L h1 h2 h3 h4 => h C H locs L (k C H locs L h1 h2 h3 h4)
theorem g_iadd (hd : D1 Y.2.1 pc .iadd pc') (k : Go γ Ω Y Z cs ss S M pc' ls (vi (a + b) :: st)) : Go γ Ω Y Z cs ss S M pc ls (vi b :: vi a :: st) := by
  obtain ⟨hd, rfl⟩ := hd
  exact go_st (fun C H locs L k => lv_iadd C.1 C.2.1 hd (by rw [← Int32.ofInt_add]; exact k)) k
theorem g_isub (hd : D1 Y.2.1 pc .isub pc') (k : Go γ Ω Y Z cs ss S M pc' ls (vi (a - b) :: st)) : Go γ Ω Y Z cs ss S M pc ls (vi b :: vi a :: st) := by
  obtain ⟨hd, rfl⟩ := hd
  exact go_st (fun C H locs L k => lv_isub C.1 C.2.1 hd (by rw [← Int32.ofInt_sub]; exact k)) k
theorem g_imul (hd : D1 Y.2.1 pc .imul pc') (k : Go γ Ω Y Z cs ss S M pc' ls (vi (a * b) :: st)) : Go γ Ω Y Z cs ss S M pc ls (vi b :: vi a :: st) := by
  obtain ⟨hd, rfl⟩ := hd
  exact go_st (fun C H locs L k => lv_imul C.1 C.2.1 hd (by rw [← Int32.ofInt_mul]; exact k)) k
theorem g_ineg (hd : D1 Y.2.1 pc .ineg pc') (k : Go γ Ω Y Z cs ss S M pc' ls (vi (-a) :: st)) : Go γ Ω Y Z cs ss S M pc ls (vi a :: st) := by
  obtain ⟨hd, rfl⟩ := hd
  exact go_st (fun C H locs L k => lv_ineg C.1 C.2.1 hd (by rw [← Int32.ofInt_neg]; exact k)) k
theorem nz_of {b : Int} (hb : rg b) (h : b ≠ 0) : ¬ Int32.ofInt b = 0 := by
  intro q
  have h1 := congrArg Int32.toInt q
  rw [tI hb] at h1
  exact h (h1.trans (by decide))
theorem div_of (ha : rg a) (hb : rg b) (h : b ≠ 0) (h1 : b ≠ -1 ∨ a ≠ -2147483648) : Int32.ofInt a / Int32.ofInt b = Int32.ofInt (Int.tdiv a b) := (Int32.ofInt_tdiv (by rw [i32a]; exact ha.1) (by rw [i32b]; exact ha.2) (by rw [i32a]; exact hb.1) (by rw [i32b]; exact hb.2)).symm
theorem g_idivT (hd : D1 Y.2.1 pc .idiv pc') (ha : rg a) (hb : rg b) (h : b ≠ 0) (h1 : b ≠ -1 ∨ a ≠ -2147483648) (k : Go γ Ω Y Z cs ss S M pc' ls (vi (Int.tdiv a b) :: st)) : Go γ Ω Y Z cs ss S M pc ls (vi b :: vi a :: st) := by
  obtain ⟨hd, rfl⟩ := hd
  exact go_st (fun C H locs L k => lv_idiv C.1 C.2.1 hd (nz_of hb h) (by rw [div_of ha hb h h1]; exact k)) k
/-- of numbers that are not below 0 -/
theorem g_idiv (hd : D1 Y.2.1 pc .idiv pc') (ha : 0 ≤ a ∧ a ≤ 2147483647) (hb : 0 < b ∧ b ≤ 2147483647) (k : Go γ Ω Y Z cs ss S M pc' ls (vi (a / b) :: st)) : Go γ Ω Y Z cs ss S M pc ls (vi b :: vi a :: st) := by
  refine g_idivT hd (by omega) (by omega) (by omega) (Or.inl (by omega)) ?_
  rw [Int.tdiv_eq_ediv_of_nonneg ha.1]
  exact k
theorem g_irem (hd : D1 Y.2.1 pc .irem pc') (ha : 0 ≤ a ∧ a ≤ 2147483647) (hb : 0 < b ∧ b ≤ 2147483647) (k : Go γ Ω Y Z cs ss S M pc' ls (vi (a % b) :: st)) : Go γ Ω Y Z cs ss S M pc ls (vi b :: vi a :: st) := by
  obtain ⟨hd, rfl⟩ := hd
  refine go_st (fun C H locs L k => lv_irem C.1 C.2.1 hd (nz_of (by omega) (by omega)) ?_) k
  rw [div_of (by omega) (by omega) (by omega) (Or.inl (by omega)), ← Int32.ofInt_mul, ← Int32.ofInt_sub, Int.tdiv_eq_ediv_of_nonneg ha.1]
  have e : a - a / b * b = a % b := by rw [Int.emod_def, Int.mul_comm]
  rw [e]
  exact k
theorem g_iand (hd : D1 Y.2.1 pc .iand pc') (k : Go γ Ω Y Z cs ss S M pc' ls (vi (band a b) :: st)) : Go γ Ω Y Z cs ss S M pc ls (vi b :: vi a :: st) := by
  obtain ⟨hd, rfl⟩ := hd
  exact go_st (fun C H locs L k => lv_iand C.1 C.2.1 hd (by rw [vi_bop] at k; exact k)) k
theorem g_ior (hd : D1 Y.2.1 pc .ior pc') (k : Go γ Ω Y Z cs ss S M pc' ls (vi (bor a b) :: st)) : Go γ Ω Y Z cs ss S M pc ls (vi b :: vi a :: st) := by
  obtain ⟨hd, rfl⟩ := hd
  exact go_st (fun C H locs L k => lv_ior C.1 C.2.1 hd (by rw [vi_bop] at k; exact k)) k
theorem g_ixor (hd : D1 Y.2.1 pc .ixor pc') (k : Go γ Ω Y Z cs ss S M pc' ls (vi (bxor a b) :: st)) : Go γ Ω Y Z cs ss S M pc ls (vi b :: vi a :: st) := by
  obtain ⟨hd, rfl⟩ := hd
  exact go_st (fun C H locs L k => lv_ixor C.1 C.2.1 hd (by rw [vi_bop] at k; exact k)) k
theorem g_ishl (hd : D1 Y.2.1 pc .ishl pc') (k : Go γ Ω Y Z cs ss S M pc' ls (vi (bshl a b) :: st)) : Go γ Ω Y Z cs ss S M pc ls (vi b :: vi a :: st) := by
  obtain ⟨hd, rfl⟩ := hd
  exact go_st (fun C H locs L k => lv_ishl C.1 C.2.1 hd (by rw [vi_bop] at k; exact k)) k
theorem g_ishr (hd : D1 Y.2.1 pc .ishr pc') (k : Go γ Ω Y Z cs ss S M pc' ls (vi (bshr a b) :: st)) : Go γ Ω Y Z cs ss S M pc ls (vi b :: vi a :: st) := by
  obtain ⟨hd, rfl⟩ := hd
  exact go_st (fun C H locs L k => lv_ishr C.1 C.2.1 hd (by rw [vi_bop] at k; exact k)) k
theorem g_iushr (hd : D1 Y.2.1 pc .iushr pc') (k : Go γ Ω Y Z cs ss S M pc' ls (vi (bushr a b) :: st)) : Go γ Ω Y Z cs ss S M pc ls (vi b :: vi a :: st) := by
  obtain ⟨hd, rfl⟩ := hd
  exact go_st (fun C H locs L k => lv_iushr C.1 C.2.1 hd rfl (by rw [vi_bop] at k; exact k)) k
theorem g_i2l (hd : D1 Y.2.1 pc .i2l pc') (ha : rg a) (k : Go γ Ω Y Z cs ss S M pc' ls (vl a :: st)) : Go γ Ω Y Z cs ss S M pc ls (vi a :: st) := by
  obtain ⟨hd, rfl⟩ := hd
  exact go_st (fun C H locs L k => lv_i2l C.1 C.2.1 hd (Int32.toInt64_ofInt (by rw [i32a]; exact ha.1) (by rw [i32b]; exact ha.2)) k) k
theorem g_l2i (hd : D1 Y.2.1 pc .l2i pc') (k : Go γ Ω Y Z cs ss S M pc' ls (vi a :: st)) : Go γ Ω Y Z cs ss S M pc ls (vl a :: st) := by
  obtain ⟨hd, rfl⟩ := hd
  exact go_st (fun C H locs L k => lv_l2i C.1 C.2.1 hd Int64.toInt32_ofInt k) k
theorem g_i2b (hd : D1 Y.2.1 pc .i2b pc') (k : Go γ Ω Y Z cs ss S M pc' ls (vi (i2bI a) :: st)) : Go γ Ω Y Z cs ss S M pc ls (vi a :: st) := by
  obtain ⟨hd, rfl⟩ := hd
  exact go_st (fun C H locs L k => lv_i2b C.1 C.2.1 hd rfl k) k
theorem g_i2s (hd : D1 Y.2.1 pc .i2s pc') (k : Go γ Ω Y Z cs ss S M pc' ls (vi (i2sI a) :: st)) : Go γ Ω Y Z cs ss S M pc ls (vi a :: st) := by
  obtain ⟨hd, rfl⟩ := hd
  exact go_st (fun C H locs L k => lv_i2s C.1 C.2.1 hd rfl k) k
theorem g_i2c (hd : D1 Y.2.1 pc .i2c pc') (k : Go γ Ω Y Z cs ss S M pc' ls (vi (i2cI a) :: st)) : Go γ Ω Y Z cs ss S M pc ls (vi a :: st) := by
  obtain ⟨hd, rfl⟩ := hd
  refine go_st (fun C H locs L k => lv_i2c C.1 C.2.1 hd rfl ?_) k
  rw [vi, i2cI, Int32.ofInt_toInt] at k
  exact k
theorem g_ladd (hd : D1 Y.2.1 pc .ladd pc') (k : Go γ Ω Y Z cs ss S M pc' ls (vl (a + b) :: st)) : Go γ Ω Y Z cs ss S M pc ls (vl b :: vl a :: st) := by
  obtain ⟨hd, rfl⟩ := hd
  exact go_st (fun C H locs L k => lv_ladd C.1 C.2.1 hd (by rw [← Int64.ofInt_add]; exact k)) k
theorem g_lor (hd : D1 Y.2.1 pc .lor pc') (k : Go γ Ω Y Z cs ss S M pc' ls (vl (bopL (fun x y => x ||| y) a b) :: st)) : Go γ Ω Y Z cs ss S M pc ls (vl b :: vl a :: st) := by
  obtain ⟨hd, rfl⟩ := hd
  exact go_st (fun C H locs L k => lv_lor C.1 C.2.1 hd (by rw [vl_bopL] at k; exact k)) k
theorem g_land (hd : D1 Y.2.1 pc .land pc') (k : Go γ Ω Y Z cs ss S M pc' ls (vl (bopL (fun x y => x &&& y) a b) :: st)) : Go γ Ω Y Z cs ss S M pc ls (vl b :: vl a :: st) := by
  obtain ⟨hd, rfl⟩ := hd
  exact go_st (fun C H locs L k => lv_land C.1 C.2.1 hd (by rw [vl_bopL] at k; exact k)) k
def blshl (a b : Int) : Int := (Int64.ofInt a <<< ((Int32.ofInt b).toInt64 &&& 63)).toInt
theorem g_lshl (hd : D1 Y.2.1 pc .lshl pc') (k : Go γ Ω Y Z cs ss S M pc' ls (vl (blshl a b) :: st)) : Go γ Ω Y Z cs ss S M pc ls (vi b :: vl a :: st) := by
  obtain ⟨hd, rfl⟩ := hd
  refine go_st (fun C H locs L k => lv_lshl C.1 C.2.1 hd rfl ?_) k
  rw [vl, blshl, Int64.ofInt_toInt] at k
  exact k
theorem g_dup (hd : D1 Y.2.1 pc .dup pc') (hc : va.category = 1) (k : Go γ Ω Y Z cs ss S M pc' ls (va :: va :: st)) : Go γ Ω Y Z cs ss S M pc ls (va :: st) := by
  obtain ⟨hd, rfl⟩ := hd
  exact go_st (fun C H locs L k => lv_dup C.1 C.2.1 hd hc k) k
theorem g_pop (hd : D1 Y.2.1 pc .pop pc') (hc : va.category = 1) (k : Go γ Ω Y Z cs ss S M pc' ls st) : Go γ Ω Y Z cs ss S M pc ls (va :: st) := by
  obtain ⟨hd, rfl⟩ := hd
  exact go_st (fun C H locs L k => lv_pop C.1 C.2.1 hd hc k) k
theorem g_dup_x1 (hd : D1 Y.2.1 pc .dup_x1 pc') (hc : va.category = 1) (hb : vb.category = 1) (k : Go γ Ω Y Z cs ss S M pc' ls (va :: vb :: va :: st)) : Go γ Ω Y Z cs ss S M pc ls (va :: vb :: st) := by
  obtain ⟨hd, rfl⟩ := hd
  exact go_st (fun C H locs L k => lv_dup_x1 C.1 C.2.1 hd hc hb k) k
theorem g_dup2 (hd : D1 Y.2.1 pc .dup2 pc') (hc : va.category = 1) (hb : vb.category = 1) (k : Go γ Ω Y Z cs ss S M pc' ls (va :: vb :: va :: vb :: st)) : Go γ Ω Y Z cs ss S M pc ls (va :: vb :: st) := by
  obtain ⟨hd, rfl⟩ := hd
  exact go_st (fun C H locs L k => lv_dup2_11 C.1 C.2.1 hd hc hb k) k
theorem g_null (hd : D1 Y.2.1 pc .aconst_null pc') (k : Go γ Ω Y Z cs ss S M pc' ls (.null :: st)) : Go γ Ω Y Z cs ss S M pc ls st := by
  obtain ⟨hd, rfl⟩ := hd
  exact go_st (fun C H locs L k => lv_null C.1 C.2.1 hd k) k
theorem g_lconst {n : Fin 2} (hd : D1 Y.2.1 pc (.lconst n) pc') (hz : ((n : Nat) : Int) = z) (k : Go γ Ω Y Z cs ss S M pc' ls (vl z :: st)) : Go γ Ω Y Z cs ss S M pc ls st := by
  obtain ⟨hd, rfl⟩ := hd
  subst hz
  exact go_st (fun C H locs L k => lv_lconst C.1 C.2.1 hd rfl (by rw [vl, Int64.ofInt_eq_ofNat] at k; exact k)) k
theorem g_ldc2 {i : Nat} (hd : D3 Y.2.1 pc (.ldc2_w i) pc') (hw : Jvm.Cond.constantLong Y.1.cls i (Int64.ofInt z) ∈ Ug) (k : Go γ Ω Y Z cs ss S M pc' ls (vl z :: st)) : Go γ Ω Y Z cs ss S M pc ls st := by
  obtain ⟨hd, rfl⟩ := hd
  exact go_st (fun C H locs L k => lv_ldc2 C.1 C.2.1 C.2.2.2.1 (C.2.2.2.2.1 _ hw) hd k) k
/-- a jump's place -/
abbrev DJ (cc : ByteArray) (pc : Nat) (i : Int → Instr) (tgt : Nat) : Prop := ∃ off : Int, decode cc pc = .ok (i off, 3) ∧ (pc : Int) + off = (tgt : Int)
theorem g_goto (hd : DJ Y.2.1 pc .goto tgt) (k : Go γ Ω Y Z cs ss S M tgt ls st) : Go γ Ω Y Z cs ss S M pc ls st := by
  obtain ⟨off, hd, ht⟩ := hd
  exact go_st (fun C H locs L k => lv_goto C.1 C.2.1 hd ht k) k
theorem g_icmp_eq (hd : DJ Y.2.1 pc (.if_icmp .eq) tgt) (hp : pc + 3 = pc') (ha : rg a) (hb : rg b) (k1 : a = b → Go γ Ω Y Z cs ss S M tgt ls st) (k2 : ¬ (a = b) → Go γ Ω Y Z cs ss S M pc' ls st) : Go γ Ω Y Z cs ss S M pc ls (vi b :: vi a :: st) := by
  obtain ⟨off, hd, ht⟩ := hd
  subst hp
  exact fun C H locs L h1 h2 h3 h4 => lv_icmp_eq C.1 C.2.1 hd ht (fun q => k1 (by simpa only [ne_eq, oI_lt, oI_le, oI_eq, ha, hb, rg, and_self, ge_iff_le, gt_iff_lt] using q) C H locs L h1 h2 h3 h4) (fun q => k2 (by simpa only [ne_eq, oI_lt, oI_le, oI_eq, ha, hb, rg, and_self, ge_iff_le, gt_iff_lt] using q) C H locs L h1 h2 h3 h4)
theorem g_if_eq (hd : DJ Y.2.1 pc (.ifCond .eq) tgt) (hp : pc + 3 = pc') (ha : rg a) (k1 : a = 0 → Go γ Ω Y Z cs ss S M tgt ls st) (k2 : ¬ (a = 0) → Go γ Ω Y Z cs ss S M pc' ls st) : Go γ Ω Y Z cs ss S M pc ls (vi a :: st) := by
  obtain ⟨off, hd, ht⟩ := hd
  subst hp
  exact fun C H locs L h1 h2 h3 h4 => lv_if_eq C.1 C.2.1 hd ht (fun q => k1 (by simpa only [ne_eq, zI, oI_lt, oI_le, oI_eq, ha, rg0, rg, and_self, ge_iff_le, gt_iff_lt] using q) C H locs L h1 h2 h3 h4) (fun q => k2 (by simpa only [ne_eq, zI, oI_lt, oI_le, oI_eq, ha, rg0, rg, and_self, ge_iff_le, gt_iff_lt] using q) C H locs L h1 h2 h3 h4)
theorem g_icmp_ne (hd : DJ Y.2.1 pc (.if_icmp .ne) tgt) (hp : pc + 3 = pc') (ha : rg a) (hb : rg b) (k1 : a ≠ b → Go γ Ω Y Z cs ss S M tgt ls st) (k2 : ¬ (a ≠ b) → Go γ Ω Y Z cs ss S M pc' ls st) : Go γ Ω Y Z cs ss S M pc ls (vi b :: vi a :: st) := by
  obtain ⟨off, hd, ht⟩ := hd
  subst hp
  exact fun C H locs L h1 h2 h3 h4 => lv_icmp_ne C.1 C.2.1 hd ht (fun q => k1 (by simpa only [ne_eq, Classical.not_not, oI_lt, oI_le, oI_eq, ha, hb, rg, and_self, ge_iff_le, gt_iff_lt] using q) C H locs L h1 h2 h3 h4) (fun q => k2 (by simpa only [ne_eq, Classical.not_not, oI_lt, oI_le, oI_eq, ha, hb, rg, and_self, ge_iff_le, gt_iff_lt] using q) C H locs L h1 h2 h3 h4)
theorem g_if_ne (hd : DJ Y.2.1 pc (.ifCond .ne) tgt) (hp : pc + 3 = pc') (ha : rg a) (k1 : a ≠ 0 → Go γ Ω Y Z cs ss S M tgt ls st) (k2 : ¬ (a ≠ 0) → Go γ Ω Y Z cs ss S M pc' ls st) : Go γ Ω Y Z cs ss S M pc ls (vi a :: st) := by
  obtain ⟨off, hd, ht⟩ := hd
  subst hp
  exact fun C H locs L h1 h2 h3 h4 => lv_if_ne C.1 C.2.1 hd ht (fun q => k1 (by simpa only [ne_eq, Classical.not_not, zI, oI_lt, oI_le, oI_eq, ha, rg0, rg, and_self, ge_iff_le, gt_iff_lt] using q) C H locs L h1 h2 h3 h4) (fun q => k2 (by simpa only [ne_eq, Classical.not_not, zI, oI_lt, oI_le, oI_eq, ha, rg0, rg, and_self, ge_iff_le, gt_iff_lt] using q) C H locs L h1 h2 h3 h4)
theorem g_icmp_lt (hd : DJ Y.2.1 pc (.if_icmp .lt) tgt) (hp : pc + 3 = pc') (ha : rg a) (hb : rg b) (k1 : a < b → Go γ Ω Y Z cs ss S M tgt ls st) (k2 : ¬ (a < b) → Go γ Ω Y Z cs ss S M pc' ls st) : Go γ Ω Y Z cs ss S M pc ls (vi b :: vi a :: st) := by
  obtain ⟨off, hd, ht⟩ := hd
  subst hp
  exact fun C H locs L h1 h2 h3 h4 => lv_icmp_lt C.1 C.2.1 hd ht (fun q => k1 (by simpa only [ne_eq, oI_lt, oI_le, oI_eq, ha, hb, rg, and_self, ge_iff_le, gt_iff_lt] using q) C H locs L h1 h2 h3 h4) (fun q => k2 (by simpa only [ne_eq, oI_lt, oI_le, oI_eq, ha, hb, rg, and_self, ge_iff_le, gt_iff_lt] using q) C H locs L h1 h2 h3 h4)
theorem g_if_lt (hd : DJ Y.2.1 pc (.ifCond .lt) tgt) (hp : pc + 3 = pc') (ha : rg a) (k1 : a < 0 → Go γ Ω Y Z cs ss S M tgt ls st) (k2 : ¬ (a < 0) → Go γ Ω Y Z cs ss S M pc' ls st) : Go γ Ω Y Z cs ss S M pc ls (vi a :: st) := by
  obtain ⟨off, hd, ht⟩ := hd
  subst hp
  exact fun C H locs L h1 h2 h3 h4 => lv_if_lt C.1 C.2.1 hd ht (fun q => k1 (by simpa only [ne_eq, zI, oI_lt, oI_le, oI_eq, ha, rg0, rg, and_self, ge_iff_le, gt_iff_lt] using q) C H locs L h1 h2 h3 h4) (fun q => k2 (by simpa only [ne_eq, zI, oI_lt, oI_le, oI_eq, ha, rg0, rg, and_self, ge_iff_le, gt_iff_lt] using q) C H locs L h1 h2 h3 h4)
theorem g_icmp_ge (hd : DJ Y.2.1 pc (.if_icmp .ge) tgt) (hp : pc + 3 = pc') (ha : rg a) (hb : rg b) (k1 : b ≤ a → Go γ Ω Y Z cs ss S M tgt ls st) (k2 : ¬ (b ≤ a) → Go γ Ω Y Z cs ss S M pc' ls st) : Go γ Ω Y Z cs ss S M pc ls (vi b :: vi a :: st) := by
  obtain ⟨off, hd, ht⟩ := hd
  subst hp
  exact fun C H locs L h1 h2 h3 h4 => lv_icmp_ge C.1 C.2.1 hd ht (fun q => k1 (by simpa only [ne_eq, oI_lt, oI_le, oI_eq, ha, hb, rg, and_self, ge_iff_le, gt_iff_lt] using q) C H locs L h1 h2 h3 h4) (fun q => k2 (by simpa only [ne_eq, oI_lt, oI_le, oI_eq, ha, hb, rg, and_self, ge_iff_le, gt_iff_lt] using q) C H locs L h1 h2 h3 h4)
theorem g_if_ge (hd : DJ Y.2.1 pc (.ifCond .ge) tgt) (hp : pc + 3 = pc') (ha : rg a) (k1 : 0 ≤ a → Go γ Ω Y Z cs ss S M tgt ls st) (k2 : ¬ (0 ≤ a) → Go γ Ω Y Z cs ss S M pc' ls st) : Go γ Ω Y Z cs ss S M pc ls (vi a :: st) := by
  obtain ⟨off, hd, ht⟩ := hd
  subst hp
  exact fun C H locs L h1 h2 h3 h4 => lv_if_ge C.1 C.2.1 hd ht (fun q => k1 (by simpa only [ne_eq, zI, oI_lt, oI_le, oI_eq, ha, rg0, rg, and_self, ge_iff_le, gt_iff_lt] using q) C H locs L h1 h2 h3 h4) (fun q => k2 (by simpa only [ne_eq, zI, oI_lt, oI_le, oI_eq, ha, rg0, rg, and_self, ge_iff_le, gt_iff_lt] using q) C H locs L h1 h2 h3 h4)
theorem g_icmp_gt (hd : DJ Y.2.1 pc (.if_icmp .gt) tgt) (hp : pc + 3 = pc') (ha : rg a) (hb : rg b) (k1 : b < a → Go γ Ω Y Z cs ss S M tgt ls st) (k2 : ¬ (b < a) → Go γ Ω Y Z cs ss S M pc' ls st) : Go γ Ω Y Z cs ss S M pc ls (vi b :: vi a :: st) := by
  obtain ⟨off, hd, ht⟩ := hd
  subst hp
  exact fun C H locs L h1 h2 h3 h4 => lv_icmp_gt C.1 C.2.1 hd ht (fun q => k1 (by simpa only [ne_eq, oI_lt, oI_le, oI_eq, ha, hb, rg, and_self, ge_iff_le, gt_iff_lt] using q) C H locs L h1 h2 h3 h4) (fun q => k2 (by simpa only [ne_eq, oI_lt, oI_le, oI_eq, ha, hb, rg, and_self, ge_iff_le, gt_iff_lt] using q) C H locs L h1 h2 h3 h4)
theorem g_if_gt (hd : DJ Y.2.1 pc (.ifCond .gt) tgt) (hp : pc + 3 = pc') (ha : rg a) (k1 : 0 < a → Go γ Ω Y Z cs ss S M tgt ls st) (k2 : ¬ (0 < a) → Go γ Ω Y Z cs ss S M pc' ls st) : Go γ Ω Y Z cs ss S M pc ls (vi a :: st) := by
  obtain ⟨off, hd, ht⟩ := hd
  subst hp
  exact fun C H locs L h1 h2 h3 h4 => lv_if_gt C.1 C.2.1 hd ht (fun q => k1 (by simpa only [ne_eq, zI, oI_lt, oI_le, oI_eq, ha, rg0, rg, and_self, ge_iff_le, gt_iff_lt] using q) C H locs L h1 h2 h3 h4) (fun q => k2 (by simpa only [ne_eq, zI, oI_lt, oI_le, oI_eq, ha, rg0, rg, and_self, ge_iff_le, gt_iff_lt] using q) C H locs L h1 h2 h3 h4)
theorem g_icmp_le (hd : DJ Y.2.1 pc (.if_icmp .le) tgt) (hp : pc + 3 = pc') (ha : rg a) (hb : rg b) (k1 : a ≤ b → Go γ Ω Y Z cs ss S M tgt ls st) (k2 : ¬ (a ≤ b) → Go γ Ω Y Z cs ss S M pc' ls st) : Go γ Ω Y Z cs ss S M pc ls (vi b :: vi a :: st) := by
  obtain ⟨off, hd, ht⟩ := hd
  subst hp
  exact fun C H locs L h1 h2 h3 h4 => lv_icmp_le C.1 C.2.1 hd ht (fun q => k1 (by simpa only [ne_eq, oI_lt, oI_le, oI_eq, ha, hb, rg, and_self, ge_iff_le, gt_iff_lt] using q) C H locs L h1 h2 h3 h4) (fun q => k2 (by simpa only [ne_eq, oI_lt, oI_le, oI_eq, ha, hb, rg, and_self, ge_iff_le, gt_iff_lt] using q) C H locs L h1 h2 h3 h4)
theorem g_if_le (hd : DJ Y.2.1 pc (.ifCond .le) tgt) (hp : pc + 3 = pc') (ha : rg a) (k1 : a ≤ 0 → Go γ Ω Y Z cs ss S M tgt ls st) (k2 : ¬ (a ≤ 0) → Go γ Ω Y Z cs ss S M pc' ls st) : Go γ Ω Y Z cs ss S M pc ls (vi a :: st) := by
  obtain ⟨off, hd, ht⟩ := hd
  subst hp
  exact fun C H locs L h1 h2 h3 h4 => lv_if_le C.1 C.2.1 hd ht (fun q => k1 (by simpa only [ne_eq, zI, oI_lt, oI_le, oI_eq, ha, rg0, rg, and_self, ge_iff_le, gt_iff_lt] using q) C H locs L h1 h2 h3 h4) (fun q => k2 (by simpa only [ne_eq, zI, oI_lt, oI_le, oI_eq, ha, rg0, rg, and_self, ge_iff_le, gt_iff_lt] using q) C H locs L h1 h2 h3 h4)
end GR
end
section
/-! the heap's rows over the one memory -/
def cl (c : Nat) : vw_C := vwCl.getD c ("", TX0, 0)
def cN (c : Nat) : String := (cl c).1
def cT (c : Nat) : u_T := (cl c).2.1
def cL (c : Nat) : Nat := (cl c).2.2
theorem cl_at {c : Nat} (h : c < 11) : vwCl[c]? = some (cN c, cT c, cL c) := by
  revert h; revert c
  have : ∀ c, c < 11 → vwCl[c]? = some (cl c) := by
    intro c h
    simp only [cl, List.getD_eq_getElem?_getD]
    have hl : c < vwCl.length := h
    rw [List.getElem?_eq_getElem hl]
    rfl
  exact fun {c} h => this c h
def tyT : List (Nat → FieldType) := [tyX0, tyX1, tyX2, tyX3, tyX4, tyX5, tyX6, tyX7, tyX8, tyX9, tyX10]
def tyC (c : Nat) : Nat → FieldType := tyT.getD c tyX0
theorem lt11 {p : Nat → Prop} (h0 : p 0) (h1 : p 1) (h2 : p 2) (h3 : p 3) (h4 : p 4) (h5 : p 5) (h6 : p 6) (h7 : p 7) (h8 : p 8) (h9 : p 9) (h10 : p 10) : ∀ c, c < 11 → p c := by
  intro c h
  rcases (show c = 0 ∨ c = 1 ∨ c = 2 ∨ c = 3 ∨ c = 4 ∨ c = 5 ∨ c = 6 ∨ c = 7 ∨ c = 8 ∨ c = 9 ∨ c = 10 by omega) with rfl | rfl | rfl | rfl | rfl | rfl | rfl | rfl | rfl | rfl | rfl <;> assumption
theorem tyC_ok : ∀ c, c < 11 → ∀ k, k < cL c → parseFieldDescriptor (cT c k).2.2.1 = some (tyC c k) := lt11 tyX0_ok tyX1_ok tyX2_ok tyX3_ok tyX4_ok tyX5_ok tyX6_ok tyX7_ok tyX8_ok tyX9_ok tyX10_ok
theorem nmC_ok : ∀ c, c < 11 → ∀ a, a < cL c → ∀ b, b < cL c → a ≠ b → (cT c a).2.1 ≠ (cT c b).2.1 := lt11 nmX0 nmX1 nmX2 nmX3 nmX4 nmX5 nmX6 nmX7 nmX8 nmX9 nmX10
theorem wsC_all (C : String) (T : u_T) (N : Nat) (h : (u_ws C T N).all (fun w => decide (w ∈ lw_tbl) && goodWord w) = true) : ∀ w ∈ u_ws C T N, w ∈ Ug := by
  intro w hw
  have h1 := List.all_eq_true.mp h w hw
  simp only [Bool.and_eq_true, decide_eq_true_eq] at h1
  exact List.mem_filter.mpr ⟨h1.1, h1.2⟩
theorem wsC_ok : ∀ c, c < 11 → ∀ w ∈ u_ws (cN c) (cT c) (cL c), w ∈ Ug :=
  lt11 (wsC_all RX0 TX0 5 (by decide +kernel)) (wsC_all RX1 TX1 8 (by decide +kernel)) (wsC_all RX2 TX2 4 (by decide +kernel)) (wsC_all RX3 TX3 8 (by decide +kernel)) (wsC_all RX4 TX4 4 (by decide +kernel)) (wsC_all RX5 TX5 5 (by decide +kernel)) (wsC_all RX6 TX6 3 (by decide +kernel)) (wsC_all RX7 TX7 3 (by decide +kernel)) (wsC_all RX8 TX8 1 (by decide +kernel)) (wsC_all RX9 TX9 8 (by decide +kernel)) (wsC_all RX10 TX10 44 (by decide +kernel))
theorem fk_len : ∀ c, c < 11 → (fk c).length = cL c := by decide +kernel
/-- cell r is there, an object of class c -/
def Ob (S : Sg) (r c : Nat) : Prop := sh r = (c, 0) ∧ r < S.1 ∧ c < 11
/-- cell r is there, an array of kind c and length n -/
def Ar (S : Sg) (r c n : Nat) : Prop := sh r = (c, n) ∧ r < S.1 ∧ 11 ≤ c
theorem cont_ob {Ω : Ow} {S : Sg} {M : Mm} {r c : Nat} (h : Ob S r c) : cont Ω S M r = .inr (c, fsv Ω S M r c) := by
  obtain ⟨h1, -, h2⟩ := h
  rw [cont, h1, if_neg (by omega)]
theorem cont_ar {Ω : Ow} {S : Sg} {M : Mm} {r c n : Nat} (h : Ar S r c n) : cont Ω S M r = .inl (Ω.2.2.1.1 c, arr Ω S M r c n) := by
  obtain ⟨h1, -, h2⟩ := h
  rw [cont, h1, if_pos h2]
theorem cont_eq {Ω : Ow} {S S' : Sg} {M M' : Mm} {k : Nat} (h1 : M' k = M k) (h2 : S'.2 k = S.2 k) : cont Ω S' M' k = cont Ω S M k := by
  unfold cont arr fsv fv
  rw [h1, h2]
theorem fsv_get {Ω : Ow} {S : Sg} {M : Mm} {r c j : Nat} {b : Bool} (h : (fk c)[j]? = some b) : (fsv Ω S M r c)[j]? = some (fv Ω S M r j b) := by
  have hl := (List.getElem?_eq_some_iff.mp h).1
  have hg : (fk c).getD j false = b := by rw [List.getD_eq_getElem?_getD, h]; rfl
  have hg2 : (fk c)[j] = b := (List.getElem?_eq_some_iff.mp h).2
  simp [fsv, hl, hg2]
theorem up_row {f : Nat → Nat → Int} {k j a : Nat} {z : Int} (h : a ≠ k) : up f k j z a = f a := by funext i; simp [up, h]
theorem fsv_set {Ω : Ow} {S S' : Sg} {M M' : Mm} {r c j : Nat} {b : Bool} {v : Value} (h : (fk c)[j]? = some b) (hv : fv Ω S' M' r j b = v) (hm : ∀ i, i ≠ j → M' r i = M r i) (hs : ∀ i, i ≠ j → S'.2 r i = S.2 r i) : (fsv Ω S M r c).set j v = fsv Ω S' M' r c := by
  have hl := (List.getElem?_eq_some_iff.mp h).1
  apply List.ext_getElem?
  intro i
  by_cases hi : i < (fk c).length
  · have hb : (fk c)[i]? = some ((fk c).getD i false) := by rw [List.getD_eq_getElem?_getD, List.getElem?_eq_getElem hi]; rfl
    by_cases hij : i = j
    · subst hij
      rw [List.getElem?_set_self (by simpa [fsv] using hl), fsv_get h, hv]
    · rw [List.getElem?_set_ne (Ne.symm hij), fsv_get hb, fsv_get hb]
      unfold fv
      rw [hm i hij, hs i hij]
  · rw [List.getElem?_eq_none (by simp [fsv]; omega), List.getElem?_eq_none (by simp [fsv]; omega)]
theorem wsO_set {Ω : Ow} {S S' : Sg} {M M' : Mm} {r : Nat} {e : va_E} (hr : r < S.1) (h1 : S'.1 = S.1) (he : cont Ω S' M' r = e) (hk : ∀ k, k ≠ r → cont Ω S' M' k = cont Ω S M k) : (wsO Ω S M).set r (bs Ω + r, e) = wsO Ω S' M' := by
  have hlen : (wsO Ω S M).length = S.1 := by simp [wsO]
  apply List.ext_getElem?
  intro i
  by_cases hi : i < S.1
  · by_cases hir : i = r
    · subst hir
      rw [List.getElem?_set_self (by omega), wsO_get (by omega), he]
    · rw [List.getElem?_set_ne (Ne.symm hir), wsO_get hi, wsO_get (by omega), hk i hir]
  · rw [List.getElem?_eq_none (by rw [List.length_set]; omega), List.getElem?_eq_none (by simp [wsO]; omega)]
theorem Fresh.upM {S : Sg} {M : Mm} (h : Fresh S M) {r j : Nat} {z : Int} (hr : r < S.1) : Fresh S (up M r j z) := fun k hk i => ⟨by rw [up_n (by omega)]; exact (h k hk i).1, (h k hk i).2⟩
theorem Fresh.upS {S : Sg} {M : Mm} (h : Fresh S M) {r j : Nat} {z : Int} (hr : r < S.1) : Fresh (S.1, up S.2 r j z) M := fun k hk i => ⟨(h k hk i).1, by show up S.2 r j z k i = -1; rw [up_n (by have : S.1 ≤ k := hk; omega)]; exact (h k hk i).2⟩
/-- after one write: the world is that of the new memory -/
theorem hw_put {Ω : Ow} {S S' : Sg} {M M' : Mm} {H H1 : Heap} {r : Nat} (hW : HW Ω S M H) (hr : r < S.1) (h1 : S'.1 = S.1) (hF : Fresh S' M') (he : va_at Ω.2.2.1 vwCl (bs Ω + r, cont Ω S' M' r) H1) (hk : ∀ k, k ≠ r → cont Ω S' M' k = cont Ω S M k) (hz : H1.size = H.size) (ho : ∀ q : Nat, q ≠ bs Ω + r → H1[q]? = H[q]?) : HW Ω S' M' H1 := by
  refine ⟨by rw [hz, hW.1, h1], ?_, hF⟩
  rw [← wsO_set hr h1 rfl hk]
  exact hW.2.1.set wsO_D (wsO_get hr) he ho
theorem lo_put {Ω : Ow} {H H1 : Heap} {H0 : Heap} {r : Nat} (h : ∀ q : Nat, q < bs Ω → H[q]? = H0[q]?) (ho : ∀ q : Nat, q ≠ bs Ω + r → H1[q]? = H[q]?) : ∀ q : Nat, q < bs Ω → H1[q]? = H0[q]? := fun q hq => (ho q (by omega)).trans (h q hq)
theorem lc_put {Ω : Ow} {locs : List Loc} {r k : Nat} (h : ∀ q ∈ locs, bs Ω ≤ q.base) : ∀ q ∈ locs ++ [⟨bs Ω + r, k⟩], bs Ω ≤ q.base := by
  intro q hq
  rcases List.mem_append.mp hq with h1 | h1
  · exact h q h1
  · rw [List.mem_singleton] at h1
    subst h1
    exact Nat.le_add_right _ _
/-- how a field is linked -/
def FL (own : String) (idx c j : Nat) : Prop := (Cond.fieldLink own idx (cT c j).1 (cT c j).2.1 (cT c j).2.2.1 ∈ Ug) ∨ ∃ host : String, Cond.fieldLinkNest own idx (cT c j).1 (cT c j).2.1 (cT c j).2.2.1 host ∈ nestW
def GF (cc : ByteArray) (own : String) (pc c j pc' : Nat) (b : Bool) : Prop := ∃ idx, D3 cc pc (.getfield idx) pc' ∧ FL own idx c j ∧ c < 11 ∧ (fk c)[j]? = some b
def PF (cc : ByteArray) (own : String) (pc c j pc' : Nat) (b : Bool) : Prop := ∃ idx, D3 cc pc (.putfield idx) pc' ∧ FL own idx c j ∧ c < 11 ∧ (fk c)[j]? = some b ∧ (cT c j).2.2.2 = false
/-- of a final field, in the constructor -/
def QF (cc : ByteArray) (own : String) (pc c j pc' : Nat) (b : Bool) : Prop := ∃ idx, D3 cc pc (.putfield idx) pc' ∧ (Cond.fieldLink own idx (cT c j).1 (cT c j).2.1 (cT c j).2.2.1 ∈ Ug) ∧ c < 11 ∧ (fk c)[j]? = some b ∧ (cT c j).2.2.2 = true ∧ (cT c j).1 = own
section GH
variable {γ : Cg} {Ω : Ow} {Y : Md} {Z : State → Prop} {cs ss : Nat} {S : Sg} {M : Mm} {pc pc' tgt : Nat} {ls : List (Option Value)} {st : List Value} {a b z : Int} {r c j n : Nat}
theorem cx_K (C : Cx γ Ω Y) : va_K Ω.2.2.1 vwCl (tys Ω.2.2.1) (cS γ) := C.2.2.2.2.2.2.2.2.1.1.moved C.2.2.2.2.2.2.2.2.2.1.alike
theorem cx_N (C : Cx γ Ω Y) {a : String} {i : Nat} {b n d h : String} (hw : Cond.fieldLinkNest a i b n d h ∈ nestW) : (Cond.fieldLinkNest a i b n d h).before (cA γ) (cS γ) = true := va_Nw.use rfl (va_Nw.warmF C.2.2.2.2.2.2.2.2.2.1 (C.2.2.2.2.2.2.2.2.1.2.1 _ hw))
theorem cx_NM (C : Cx γ Ω Y) {a : String} {i : Nat} {x : MethodName} {h : String} (hw : Cond.methodLinkNest a i x h ∈ nestW) : va_Nw (Cond.methodLinkNest a i x h) (cS γ) := va_Nw.warmM C.2.2.2.2.2.2.2.2.2.1 (C.2.2.2.2.2.2.2.2.1.2.1 _ hw)
theorem g_getv {b : Bool} (hf : GF Y.2.1 Y.1.cls pc c j pc' b) (hr : Ob S r c) (k : Go γ Ω Y Z cs ss S M pc' ls (fv Ω S M r j b :: st)) : Go γ Ω Y Z cs ss S M pc ls (vr Ω r :: st) := by
  obtain ⟨idx, ⟨hd, rfl⟩, hl, hc, hb⟩ := hf
  intro C H locs L h1 h2 h3 h4
  have hj : j < cL c := by rw [← fk_len c hc]; exact (List.getElem?_eq_some_iff.mp hb).1
  rcases hl with hl | ⟨host, hl⟩
  · exact va_get C.1 C.2.1 C.2.2.2.2.1 (wsC_ok c hc) C.2.2.2.1 (cx_K C) h1.2.1 r ((wsO_get hr.2.1).trans (by rw [cont_ob hr])) (cl_at hc) j hj (C.2.2.2.2.1 _ hl) (fun _ h => h) (fsv_get hb) hd (k C H locs L h1 h2 h3 h4)
  · exact va_getN C.1 C.2.1 C.2.2.2.2.1 (wsC_ok c hc) C.2.2.2.1 (cx_K C) h1.2.1 r ((wsO_get hr.2.1).trans (by rw [cont_ob hr])) (cl_at hc) j hj (cx_N C hl) (fun _ h => h) (fsv_get hb) hd (k C H locs L h1 h2 h3 h4)
theorem g_getI (hf : GF Y.2.1 Y.1.cls pc c j pc' false) (hr : Ob S r c) (k : Go γ Ω Y Z cs ss S M pc' ls (vi (M r j) :: st)) : Go γ Ω Y Z cs ss S M pc ls (vr Ω r :: st) := g_getv hf hr k
theorem g_getR {q : Nat} (hf : GF Y.2.1 Y.1.cls pc c j pc' true) (hr : Ob S r c) (hq : S.2 r j = (q : Int)) (k : Go γ Ω Y Z cs ss S M pc' ls (vr Ω q :: st)) : Go γ Ω Y Z cs ss S M pc ls (vr Ω r :: st) := g_getv hf hr (by rw [fv, if_pos rfl, hq]; exact k)
theorem narrow_of {ty : FieldType} {v : Value} (h : (ty = .int ∧ ∃ x, v = .int x) ∨ (ty = .boolean ∧ (v = .int 0 ∨ v = .int 1)) ∨ (ty = .long ∧ ∃ x, v = .long x) ∨ ((∃ n, ty = .object n) ∨ ∃ n, ty = .array n) ∧ (v = .null ∨ ∃ a, v = .ref a)) : narrow ty v = v ∧ fits ty v = true := by
  rcases h with ⟨rfl, x, rfl⟩ | ⟨rfl, rfl | rfl⟩ | ⟨rfl, x, rfl⟩ | ⟨⟨n, rfl⟩ | ⟨n, rfl⟩, rfl | ⟨a, rfl⟩⟩ <;> exact ⟨rfl, rfl⟩
/-- a value that fits field j of class c -/
def Fit (Ω : Ow) (c j : Nat) (b : Bool) (z : Int) : Prop := narrow (tyC c j) (if b = true then rv Ω z else vi z) = (if b = true then rv Ω z else vi z) ∧ fits (tyC c j) (if b = true then rv Ω z else vi z) = true
def putS (S : Sg) (b : Bool) (r j : Nat) (z : Int) : Sg := if b = true then (S.1, up S.2 r j z) else S
def putM (M : Mm) (b : Bool) (r j : Nat) (z : Int) : Mm := if b = true then M else up M r j z
theorem hw_putf {H H1 : Heap} {b : Bool} (hW : HW Ω S M H) (hr : Ob S r c) (hb : (fk c)[j]? = some b) (he : va_at Ω.2.2.1 vwCl (bs Ω + r, .inr (c, (fsv Ω S M r c).set j (if b = true then rv Ω z else vi z))) H1) (hz : H1.size = H.size) (ho : ∀ q : Nat, q ≠ bs Ω + r → H1[q]? = H[q]?) : HW Ω (putS S b r j z) (putM M b r j z) H1 := by
  have hr' : Ob (putS S b r j z) r c := by cases b <;> exact hr
  refine hw_put hW hr.2.1 (by cases b <;> rfl) (by cases b; exact hW.2.2.upM hr.2.1; exact hW.2.2.upS hr.2.1) ?_ (fun k hk => cont_eq (by cases b; exact up_row hk; rfl) (by cases b; rfl; exact up_row hk)) hz ho
  rw [cont_ob hr', ← fsv_set (S := S) (M := M) (S' := putS S b r j z) (M' := putM M b r j z) (v := if b = true then rv Ω z else vi z) hb (by cases b <;> simp [fv, putS, putM, up_s]) (fun i hi => by cases b; exact up_n (by omega); rfl) (fun i hi => by cases b; rfl; exact up_n (by omega))]
  exact he
theorem g_putv {b : Bool} (hf : PF Y.2.1 Y.1.cls pc c j pc' b) (hr : Ob S r c) (hz : Fit Ω c j b z) (k : Go γ Ω Y Z cs ss (putS S b r j z) (putM M b r j z) pc' ls st) : Go γ Ω Y Z cs ss S M pc ls ((if b = true then rv Ω z else vi z) :: vr Ω r :: st) := by
  obtain ⟨idx, ⟨hd, rfl⟩, hl, hc, hb, hfin⟩ := hf
  intro C H locs L h1 h2 h3 h4
  have hj : j < cL c := by rw [← fk_len c hc]; exact (List.getElem?_eq_some_iff.mp hb).1
  have hK := cx_K C
  have hts := C.2.2.2.2.1
  have hin := wsC_ok c hc
  have hap := va_apart (own := Y.1.cls) hts hin (tyC c) (tyC_ok c hc) (nmC_ok c hc) hK (cl_at hc)
  have hat : va_at Ω.2.2.1 vwCl (bs Ω + r, .inr (c, fsv Ω S M r c)) H := h1.2.1 r _ ((wsO_get hr.2.1).trans (by rw [cont_ob hr]))
  obtain ⟨rr, e1, cell, q1, q2, q3, q4⟩ := hat
  have hrr : rr = (cN c, cT c, cL c) := Option.some.inj (e1.symm.trans (cl_at hc))
  subst hrr
  obtain ⟨hSl, hfc, kC, hkC, hkind⟩ := hK.1 c _ (cl_at hc)
  obtain ⟨cf, kf, fi, f, hi, hsl⟩ := hSl j hj
  have hlay := hts _ (hin _ (u_in_lay hj))
  unfold u_lay at hlay
  rw [if_neg (by rw [hfin]; decide)] at hlay
  have hst := (u_facts hfc hkC (u_lays hts hin hj) hi).1
  have h6 := u_store hfc hkC hkind hlay hi (tyC_ok c hc j hj) hz.1 hz.2
  have hfs : j < (fsv Ω S M r c).length := by simp [fsv, fk_len c hc, hj]
  have fin : ∀ H' : Heap, H'[bs Ω + r]? = some (cell.setSlot f.slot (if b = true then rv Ω z else vi z)) → H'.size = H.size → (∀ q : Nat, q ≠ bs Ω + r → H'[q]? = H[q]?) → W (cP γ) Ω.1 (cE γ) (cR γ) (cS γ) (cM γ) (cA γ) (cB γ) (cMe γ) (cC γ) H' (locs ++ [⟨bs Ω + r, f.slot⟩]) cs ss Z (F0 (cM γ) (pc + 3) L st) := fun H' e1 e2 e3 => by
    rw [hsl] at e1
    refine k C H' _ L (hw_putf h1 hr hb ⟨_, cl_at hc, t_OB.to (V := updV (vp_V (fsv Ω S M r c)) j (if b = true then rv Ω z else vi z)) ⟨_, e1, q2, q3, t_set q4 hap hj _⟩ (fun i _ => vp_updV_set hfs _ i)⟩ e2 e3) (lo_put h2 e3) (lc_put h3) h4
  rcases hl with hl | ⟨host, hl⟩
  · exact W.putK C.1 C.2.1 (f := f) ⟨C.2.2.2.1, C.2.2.2.2.1 _ hl, ⟨_, _, _, hi⟩, hst⟩ (by rw [q2]; exact h6) q1 q3 (by rw [hsl]; exact k2_hasslot (q4 j hj)) rfl rfl hd fin
  · exact va_WputK C.1 C.2.1 (f := f) C.2.2.2.1 (cx_N C hl) hi hst (by rw [q2]; exact h6) q1 q3 (by rw [hsl]; exact k2_hasslot (q4 j hj)) rfl rfl hd fin
end GH
end
section
section GA
variable {γ : Cg} {Ω : Ow} {Y : Md} {Z : State → Prop} {cs ss : Nat} {S : Sg} {M : Mm} {pc pc' tgt : Nat} {ls : List (Option Value)} {st : List Value} {a b z : Int} {r c j n : Nat}
/-- a final field's value, in the constructor -/
theorem g_putq {b : Bool} (hf : QF Y.2.1 Y.1.cls pc c j pc' b) (hy : Y.1.name = "<init>") (hr : Ob S r c) (hz : Fit Ω c j b z) (k : Go γ Ω Y Z cs ss (putS S b r j z) (putM M b r j z) pc' ls st) : Go γ Ω Y Z cs ss S M pc ls ((if b = true then rv Ω z else vi z) :: vr Ω r :: st) := by
  obtain ⟨idx, ⟨hd, rfl⟩, hl, hc, hb, hfin, hdecl⟩ := hf
  intro C H locs L h1 h2 h3 h4
  have hj : j < cL c := by rw [← fk_len c hc]; exact (List.getElem?_eq_some_iff.mp hb).1
  have hK := cx_K C
  have hts := C.2.2.2.2.1
  have hin := wsC_ok c hc
  have hap := va_apart (own := Y.1.cls) hts hin (tyC c) (tyC_ok c hc) (nmC_ok c hc) hK (cl_at hc)
  have hat : va_at Ω.2.2.1 vwCl (bs Ω + r, .inr (c, fsv Ω S M r c)) H := h1.2.1 r _ ((wsO_get hr.2.1).trans (by rw [cont_ob hr]))
  obtain ⟨rr, e1, cell, q1, q2, q3, q4⟩ := hat
  have hrr : rr = (cN c, cT c, cL c) := Option.some.inj (e1.symm.trans (cl_at hc))
  subst hrr
  obtain ⟨hSl, hfc, kC, hkC, hkind⟩ := hK.1 c _ (cl_at hc)
  obtain ⟨cf, kf, fi, f, hi, hsl⟩ := hSl j hj
  have hlay := hts _ (hin _ (u_in_lay hj))
  unfold u_lay at hlay
  rw [if_pos hfin] at hlay
  have hst := (u_facts hfc hkC (u_lays hts hin hj) hi).1
  have hcf : (cM γ).cls = cf := by
    obtain ⟨_, _, c', _, _, _, -, -, hf', -, -, -, hown2, -⟩ := Cond.laysFinal_spec hlay
    have e1 : c' = cf := by have := hi.symm.trans hf'; simp at this; exact this.1.symm
    rw [hdecl] at hown2
    rw [← e1]; exact Option.some.inj (C.2.2.2.1.symm.trans hown2)
  have h6 := u_fits hfc hkC hkind (Or.inr hlay) hi (tyC_ok c hc j hj) hz.1 hz.2
  have hfs : j < (fsv Ω S M r c).length := by simp [fsv, fk_len c hc, hj]
  refine W.putFinK C.1 C.2.1 C.2.2.2.1 (C.2.2.2.2.1 _ hl) hi hst hcf (C.2.2.2.2.2.2.2.1.trans hy) (by rw [q2]; exact h6) q1 q3 (by rw [hsl]; exact k2_hasslot (q4 j hj)) rfl rfl hd fun H' e1 e2 e3 => ?_
  rw [hsl] at e1
  exact k C H' _ L (hw_putf h1 hr hb ⟨_, cl_at hc, t_OB.to (V := updV (vp_V (fsv Ω S M r c)) j (if b = true then rv Ω z else vi z)) ⟨_, e1, q2, q3, t_set q4 hap hj _⟩ (fun i _ => vp_updV_set hfs _ i)⟩ e2 e3) (lo_put h2 e3) (lc_put h3) h4
/-- a number's field -/
theorem fit_int {b : Bool} (hb : b = false) (h : tyC c j = .int) : Fit Ω c j b z := by
  subst hb
  rw [Fit, h]
  exact ⟨rfl, rfl⟩
theorem vi0 : vi 0 = .int 0 := by decide
theorem vi1 : vi 1 = .int 1 := by decide
theorem fit_bool {b : Bool} (hb : b = false) (h : tyC c j = .boolean) (hz : z = 0 ∨ z = 1) : Fit Ω c j b z := by
  subst hb
  rw [Fit, h]
  rcases hz with rfl | rfl
  · rw [if_neg (by decide), vi0]; exact ⟨rfl, rfl⟩
  · rw [if_neg (by decide), vi1]; exact ⟨rfl, rfl⟩
theorem fit_ref {b : Bool} (hb : b = true) (h : (∃ n, tyC c j = .object n) ∨ ∃ n, tyC c j = .array n) : Fit Ω c j b z := by
  subst hb
  unfold Fit
  rw [if_pos rfl]
  refine narrow_of (Or.inr (Or.inr (Or.inr ⟨h, ?_⟩)))
  cases z
  · exact Or.inr ⟨_, rfl⟩
  · exact Or.inl rfl
theorem g_putI (hf : PF Y.2.1 Y.1.cls pc c j pc' false) (ht : tyC c j = .int) (hr : Ob S r c) (k : Go γ Ω Y Z cs ss S (up M r j z) pc' ls st) : Go γ Ω Y Z cs ss S M pc ls (vi z :: vr Ω r :: st) := g_putv (b := false) hf hr (fit_int rfl ht) k
theorem g_putZ (hf : PF Y.2.1 Y.1.cls pc c j pc' false) (ht : tyC c j = .boolean) (hz : z = 0 ∨ z = 1) (hr : Ob S r c) (k : Go γ Ω Y Z cs ss S (up M r j z) pc' ls st) : Go γ Ω Y Z cs ss S M pc ls (vi z :: vr Ω r :: st) := g_putv (b := false) hf hr (fit_bool rfl ht hz) k
theorem g_putR {q : Nat} (hf : PF Y.2.1 Y.1.cls pc c j pc' true) (ht : (∃ n, tyC c j = .object n) ∨ ∃ n, tyC c j = .array n) (hr : Ob S r c) (k : Go γ Ω Y Z cs ss (S.1, up S.2 r j (q : Int)) M pc' ls st) : Go γ Ω Y Z cs ss S M pc ls (vr Ω q :: vr Ω r :: st) := g_putv (b := true) (z := (q : Int)) hf hr (fit_ref rfl ht) k
theorem g_putqI (hf : QF Y.2.1 Y.1.cls pc c j pc' false) (hy : Y.1.name = "<init>") (ht : tyC c j = .int) (hr : Ob S r c) (k : Go γ Ω Y Z cs ss S (up M r j z) pc' ls st) : Go γ Ω Y Z cs ss S M pc ls (vi z :: vr Ω r :: st) := g_putq (b := false) hf hy hr (fit_int rfl ht) k
theorem g_putqR {q : Nat} (hf : QF Y.2.1 Y.1.cls pc c j pc' true) (hy : Y.1.name = "<init>") (ht : (∃ n, tyC c j = .object n) ∨ ∃ n, tyC c j = .array n) (hr : Ob S r c) (k : Go γ Ω Y Z cs ss (S.1, up S.2 r j (q : Int)) M pc' ls st) : Go γ Ω Y Z cs ss S M pc ls (vr Ω q :: vr Ω r :: st) := g_putq (b := true) (z := (q : Int)) hf hy hr (fit_ref rfl ht) k
theorem clamp {j : Nat} (h : (j : Int) ≤ 2147483647) : (Int32.ofInt (j : Int)).toNatClampNeg = j := by
  show (Int32.ofInt (j : Int)).toInt.toNat = j
  rw [tI (by omega)]
  rfl
theorem vin {j n : Nat} (h : j < n) (hn : n ≤ 1000) : vp_in (Int32.ofInt (j : Int)) n := by
  intro q
  rcases q with q | q
  · rw [zI, oI_lt (by omega) (by omega)] at q
    omega
  · rw [clamp (by omega)] at q
    omega
theorem lens_le : ∀ r, (sh r).2 ≤ 1000 := by
  intro r
  unfold sh
  split
  · rename_i h
    have : ∀ r, r < 116 → (shT.getD r (0, 0)).2 ≤ 1000 := by decide +kernel
    exact this r h
  · have : ∀ r, r < 6 → (shL.getD r (0, 0)).2 ≤ 1000 := by decide +kernel
    exact this _ (Nat.mod_lt _ (by decide))
theorem ar_le (h : Ar S r c n) : n ≤ 1000 := by have := lens_le r; rw [h.1] at this; exact this
/-- reading arrays -/
theorem g_iald (hd : D1 Y.2.1 pc .iaload pc') (hr : Ar S r 12 n) (hj : j < n) (k : Go γ Ω Y Z cs ss S M pc' ls (vi (M r j) :: st)) : Go γ Ω Y Z cs ss S M pc ls (vi (j : Int) :: vr Ω r :: st) := by
  obtain ⟨hd, rfl⟩ := hd
  intro C H locs L h1 h2 h3 h4
  have hn := ar_le hr
  refine va_iald (i := Int32.ofInt (j : Int)) C.1 C.2.1 (cx_K C) h1.2.1 r 1 ((wsO_get hr.2.1).trans (by rw [cont_ar hr]; rfl)) rfl (vin hj hn) hd ?_
  rw [clamp (by omega)]
  exact k C H locs L h1 h2 h3 h4
theorem g_bald (hd : D1 Y.2.1 pc .baload pc') (hr : Ar S r 11 n) (hj : j < n) (k : Go γ Ω Y Z cs ss S M pc' ls (vi (M r j) :: st)) : Go γ Ω Y Z cs ss S M pc ls (vi (j : Int) :: vr Ω r :: st) := by
  obtain ⟨hd, rfl⟩ := hd
  intro C H locs L h1 h2 h3 h4
  have hn := ar_le hr
  refine va_bald (i := Int32.ofInt (j : Int)) C.1 C.2.1 (cx_K C) h1.2.1 r 0 ((wsO_get hr.2.1).trans (by rw [cont_ar hr]; rfl)) rfl (vin hj hn) hd ?_
  rw [clamp (by omega)]
  exact k C H locs L h1 h2 h3 h4
theorem g_zald (hd : D1 Y.2.1 pc .baload pc') (hr : Ar S r 14 n) (hj : j < n) (k : Go γ Ω Y Z cs ss S M pc' ls (vi (M r j) :: st)) : Go γ Ω Y Z cs ss S M pc ls (vi (j : Int) :: vr Ω r :: st) := by
  obtain ⟨hd, rfl⟩ := hd
  intro C H locs L h1 h2 h3 h4
  have hn := ar_le hr
  refine va_zald (i := Int32.ofInt (j : Int)) C.1 C.2.1 (cx_K C) h1.2.1 r 3 ((wsO_get hr.2.1).trans (by rw [cont_ar hr]; rfl)) rfl (vin hj hn) hd ?_
  rw [clamp (by omega)]
  exact k C H locs L h1 h2 h3 h4
theorem g_lald (hd : D1 Y.2.1 pc .laload pc') (hr : Ar S r 13 n) (hj : j < n) (k : Go γ Ω Y Z cs ss S M pc' ls (vl (M r j) :: st)) : Go γ Ω Y Z cs ss S M pc ls (vi (j : Int) :: vr Ω r :: st) := by
  obtain ⟨hd, rfl⟩ := hd
  intro C H locs L h1 h2 h3 h4
  have hn := ar_le hr
  refine va_lald (i := Int32.ofInt (j : Int)) C.1 C.2.1 (cx_K C) h1.2.1 r 2 ((wsO_get hr.2.1).trans (by rw [cont_ar hr]; rfl)) rfl (vin hj hn) hd ?_
  rw [clamp (by omega)]
  exact k C H locs L h1 h2 h3 h4
theorem g_aald {q : Nat} (hd : D1 Y.2.1 pc .aaload pc') (hr : Ar S r c n) (hc : c = 15 ∨ c = 16) (hj : j < n) (hq : S.2 r j = (q : Int)) (k : Go γ Ω Y Z cs ss S M pc' ls (vr Ω q :: st)) : Go γ Ω Y Z cs ss S M pc ls (vi (j : Int) :: vr Ω r :: st) := by
  obtain ⟨hd, rfl⟩ := hd
  intro C H locs L h1 h2 h3 h4
  have hn := ar_le hr
  have e : va_rf (ro Ω (S.2 r j)) = vr Ω q := by rw [hq]; rfl
  rcases hc with rfl | rfl
  · refine va_aldq (i := Int32.ofInt (j : Int)) (C := RX3) C.1 C.2.1 (cx_K C) h1.2.1 r 4 ((wsO_get hr.2.1).trans (by rw [cont_ar hr]; rfl)) rfl (vin hj hn) hd ?_
    rw [clamp (by omega), e]
    exact k C H locs L h1 h2 h3 h4
  · refine va_aldq (i := Int32.ofInt (j : Int)) (C := RX7) C.1 C.2.1 (cx_K C) h1.2.1 r 5 ((wsO_get hr.2.1).trans (by rw [cont_ar hr]; rfl)) rfl (vin hj hn) hd ?_
    rw [clamp (by omega), e]
    exact k C H locs L h1 h2 h3 h4
def tyi (c : Nat) : Nat := c - 11
theorem g_alen (hd : D1 Y.2.1 pc .arraylength pc') (hr : Ar S r c n) (hc : c < 17) (k : Go γ Ω Y Z cs ss S M pc' ls (vi (n : Int) :: st)) : Go γ Ω Y Z cs ss S M pc ls (vr Ω r :: st) := by
  obtain ⟨hd, rfl⟩ := hd
  intro C H locs L h1 h2 h3 h4
  have hc0 := hr.2.2
  have go : ∀ (t0 : Nat) (ty : FieldType), (tys Ω.2.2.1)[t0]? = some (Ω.2.2.1.1 c, ty) → (arr Ω S M r c n).1 = n → W (cP γ) Ω.1 (cE γ) (cR γ) (cS γ) (cM γ) (cA γ) (cB γ) (cMe γ) (cC γ) H locs cs ss Z (F0 (cM γ) pc L (vr Ω r :: st)) := fun t0 ty ht hn => va_alen C.1 C.2.1 (cx_K C) h1.2.1 r t0 ((wsO_get hr.2.1).trans (by rw [cont_ar hr])) ht (by rw [hn, ← Int32.ofInt_eq_ofNat]) hd (k C H locs L h1 h2 h3 h4)
  rcases (show c = 11 ∨ c = 12 ∨ c = 13 ∨ c = 14 ∨ c = 15 ∨ c = 16 by omega) with rfl | rfl | rfl | rfl | rfl | rfl
  · exact go 0 _ rfl rfl
  · exact go 1 _ rfl rfl
  · exact go 2 _ rfl rfl
  · exact go 3 _ rfl rfl
  · exact go 4 _ rfl rfl
  · exact go 5 _ rfl rfl
/-- writing arrays -/
theorem hat_of {H : Heap} (hW : HW Ω S M H) (hr : Ar S r c n) : H[bs Ω + r]? = some (vp_cell (Ω.2.2.1.1 c) (arr Ω S M r c n)) := by
  have h : va_at Ω.2.2.1 vwCl (bs Ω + r, .inl (Ω.2.2.1.1 c, arr Ω S M r c n)) H := hW.2.1 r _ ((wsO_get hr.2.1).trans (by rw [cont_ar hr]))
  exact h
theorem hw_puta {H H1 : Heap} (hW : HW Ω S M H) (hr : Ar S r c n) (he : H1[bs Ω + r]? = some (vp_cell (Ω.2.2.1.1 c) (arr Ω S (up M r j z) r c n))) (hz : H1.size = H.size) (ho : ∀ q : Nat, q ≠ bs Ω + r → H1[q]? = H[q]?) : HW Ω S (up M r j z) H1 := by
  refine hw_put hW hr.2.1 rfl (hW.2.2.upM hr.2.1) ?_ (fun k hk => cont_eq (up_row hk) rfl) hz ho
  rw [cont_ar hr]
  exact he
theorem g_iast (hd : D1 Y.2.1 pc .iastore pc') (hr : Ar S r 12 n) (hj : j < n) (k : Go γ Ω Y Z cs ss S (up M r j z) pc' ls st) : Go γ Ω Y Z cs ss S M pc ls (vi z :: vi (j : Int) :: vr Ω r :: st) := by
  obtain ⟨hd, rfl⟩ := hd
  intro C H locs L h1 h2 h3 h4
  have hn := ar_le hr
  have hat := hat_of h1 hr
  refine W.iast (j := Int32.ofInt (j : Int)) (x := Int32.ofInt z) C.1 C.2.1 hat (((cx_K C).2 1 _ rfl).1 n (fun j => .int (Int32.ofInt (M r j)))) (fun q => by cases q) (by show ¬ (_ ∨ (arrV _ _ _).slots.size ≤ _); rw [arrV_size]; exact vin hj hn) rfl rfl hd fun H1 e zz oq => ?_
  refine k C H1 _ L (hw_puta h1 hr ?_ zz oq) (lo_put h2 oq) (lc_put h3) h4
  rw [e, clamp (by omega)]
  show some ((vp_cell _ (n, .inl _)).setSlot j _) = some (vp_cell _ (n, .inl _))
  rw [vp_cell_i, vp_cell_i, arrV_store]
  congr 2
  funext q
  by_cases hq : q = j
  · subst hq
    simp [updV, up]
  · simp [updV, up, hq]
theorem g_bast (hd : D1 Y.2.1 pc .bastore pc') (hr : Ar S r 11 n) (hj : j < n) (hz : -128 ≤ z ∧ z < 128) (k : Go γ Ω Y Z cs ss S (up M r j z) pc' ls st) : Go γ Ω Y Z cs ss S M pc ls (vi z :: vi (j : Int) :: vr Ω r :: st) := by
  obtain ⟨hd, rfl⟩ := hd
  intro C H locs L h1 h2 h3 h4
  have hn := ar_le hr
  have hat := hat_of h1 hr
  have hnz : (Int8.ofInt z).toInt32 = Int32.ofInt z := by rw [Int8.toInt32_ofInt (by rw [i8a]; exact hz.1) (by rw [i8b]; omega)]
  refine W.bast (j := Int32.ofInt (j : Int)) (x := Int32.ofInt z) C.1 C.2.1 hat (((cx_K C).2 0 _ rfl).1 n (fun j => .int (Int32.ofInt (M r j)))) (fun q => by cases q) (by show ¬ (_ ∨ (arrV _ _ _).slots.size ≤ _); rw [arrV_size]; exact vin hj hn) rfl rfl hd fun H1 e zz oq => ?_
  refine k C H1 _ L (hw_puta h1 hr ?_ zz oq) (lo_put h2 oq) (lc_put h3) h4
  rw [e, clamp (by omega)]
  show some ((vp_cell _ (n, .inl _)).setSlot j _) = some (vp_cell _ (n, .inl _))
  rw [vp_cell_i, vp_cell_i, arrV_store]
  congr 2
  funext q
  by_cases hq : q = j
  · subst hq
    simp [updV, up, narrow, hnz]
  · simp [updV, up, hq]
theorem g_zast (hd : D1 Y.2.1 pc .bastore pc') (hr : Ar S r 14 n) (hj : j < n) (hz : z = 0 ∨ z = 1) (k : Go γ Ω Y Z cs ss S (up M r j z) pc' ls st) : Go γ Ω Y Z cs ss S M pc ls (vi z :: vi (j : Int) :: vr Ω r :: st) := by
  obtain ⟨hd, rfl⟩ := hd
  intro C H locs L h1 h2 h3 h4
  have hn := ar_le hr
  have hat := hat_of h1 hr
  refine W.zast (j := Int32.ofInt (j : Int)) (x := Int32.ofInt z) C.1 C.2.1 hat (((cx_K C).2 3 _ rfl).1 n (fun j => .int (Int32.ofInt (M r j)))) (fun q => by cases q) (by show ¬ (_ ∨ (arrV _ _ _).slots.size ≤ _); rw [arrV_size]; exact vin hj hn) rfl rfl hd fun H1 e zz oq => ?_
  refine k C H1 _ L (hw_puta h1 hr ?_ zz oq) (lo_put h2 oq) (lc_put h3) h4
  rw [e, clamp (by omega)]
  show some ((vp_cell _ (n, .inl _)).setSlot j _) = some (vp_cell _ (n, .inl _))
  rw [vp_cell_i, vp_cell_i, arrV_store]
  congr 2
  funext q
  by_cases hq : q = j
  · subst hq
    rcases hz with rfl | rfl <;> simp [updV, up, narrow] <;> decide
  · simp [updV, up, hq]
theorem g_last (hd : D1 Y.2.1 pc .lastore pc') (hr : Ar S r 13 n) (hj : j < n) (k : Go γ Ω Y Z cs ss S (up M r j z) pc' ls st) : Go γ Ω Y Z cs ss S M pc ls (vl z :: vi (j : Int) :: vr Ω r :: st) := by
  obtain ⟨hd, rfl⟩ := hd
  intro C H locs L h1 h2 h3 h4
  have hn := ar_le hr
  have hat := hat_of h1 hr
  refine W.last (j := Int32.ofInt (j : Int)) (x := Int64.ofInt z) C.1 C.2.1 hat (((cx_K C).2 2 _ rfl).1 n (fun j => .long (Int64.ofInt (M r j)))) (fun q => by cases q) (by show ¬ (_ ∨ (arrV _ _ _).slots.size ≤ _); rw [arrV_size]; exact vin hj hn) rfl rfl hd fun H1 e zz oq => ?_
  refine k C H1 _ L (hw_puta h1 hr ?_ zz oq) (lo_put h2 oq) (lc_put h3) h4
  rw [e, clamp (by omega)]
  show some ((vp_cell _ (n, .inr (.inl _))).setSlot j _) = some (vp_cell _ (n, .inr (.inl _)))
  rw [vp_cell_l, vp_cell_l, arrV_store]
  congr 2
  funext q
  by_cases hq : q = j
  · subst hq
    simp [updV, up]
  · simp [updV, up, hq]
end GA
end
section
section GL
variable {γ : Cg} {Ω : Ow} {Y : Md} {Z : State → Prop} {cs ss : Nat} {S : Sg} {M : Mm} {pc pc' tgt : Nat} {ls : List (Option Value)} {st : List Value} {a b z : Int} {r c j n i : Nat} {v : Value}
/-- loads and stores, of any kind -/
def LI (cc : ByteArray) (pc i pc' : Nat) : Prop := (∃ k : Fin 4, (k : Nat) = i ∧ D1 cc pc (.iload_n k) pc') ∨ D2 cc pc (.iload i) pc'
def LL (cc : ByteArray) (pc i pc' : Nat) : Prop := (∃ k : Fin 4, (k : Nat) = i ∧ D1 cc pc (.lload_n k) pc') ∨ D2 cc pc (.lload i) pc'
def LA (cc : ByteArray) (pc i pc' : Nat) : Prop := (∃ k : Fin 4, (k : Nat) = i ∧ D1 cc pc (.aload_n k) pc') ∨ D2 cc pc (.aload i) pc'
def SI (cc : ByteArray) (pc i pc' : Nat) : Prop := (∃ k : Fin 4, (k : Nat) = i ∧ D1 cc pc (.istore_n k) pc') ∨ D2 cc pc (.istore i) pc'
def SA (cc : ByteArray) (pc i pc' : Nat) : Prop := (∃ k : Fin 4, (k : Nat) = i ∧ D1 cc pc (.astore_n k) pc') ∨ D2 cc pc (.astore i) pc'
theorem g_ild (hd : LI Y.2.1 pc i pc') (hl : ls[i]? = some (some (vi z))) (k : Go γ Ω Y Z cs ss S M pc' ls (vi z :: st)) : Go γ Ω Y Z cs ss S M pc ls st := by
  rcases hd with ⟨q, hq, hd, rfl⟩ | ⟨hd, rfl⟩
  · exact fun C H locs L h1 h2 h3 h4 => lv_iload_n C.1 C.2.1 hd hq (lh_at h4 hl) (k C H locs L h1 h2 h3 h4)
  · exact fun C H locs L h1 h2 h3 h4 => lv_iload C.1 C.2.1 hd (lh_at h4 hl) (k C H locs L h1 h2 h3 h4)
theorem g_lld (hd : LL Y.2.1 pc i pc') (hl : ls[i]? = some (some (vl z))) (k : Go γ Ω Y Z cs ss S M pc' ls (vl z :: st)) : Go γ Ω Y Z cs ss S M pc ls st := by
  rcases hd with ⟨q, hq, hd, rfl⟩ | ⟨hd, rfl⟩
  · exact fun C H locs L h1 h2 h3 h4 => lv_lload_n C.1 C.2.1 hd hq (lh_at h4 hl) (k C H locs L h1 h2 h3 h4)
  · exact fun C H locs L h1 h2 h3 h4 => lv_lload C.1 C.2.1 hd (lh_at h4 hl) (k C H locs L h1 h2 h3 h4)
theorem g_ald {x : Nat} (hd : LA Y.2.1 pc i pc') (hl : ls[i]? = some (some (.ref x))) (k : Go γ Ω Y Z cs ss S M pc' ls (.ref x :: st)) : Go γ Ω Y Z cs ss S M pc ls st := by
  rcases hd with ⟨q, hq, hd, rfl⟩ | ⟨hd, rfl⟩
  · exact fun C H locs L h1 h2 h3 h4 => lv_aload_n C.1 C.2.1 hd hq (lh_at h4 hl) (k C H locs L h1 h2 h3 h4)
  · exact fun C H locs L h1 h2 h3 h4 => lv_aload C.1 C.2.1 hd (lh_at h4 hl) (k C H locs L h1 h2 h3 h4)
theorem g_aldN (hd : LA Y.2.1 pc i pc') (hl : ls[i]? = some (some .null)) (k : Go γ Ω Y Z cs ss S M pc' ls (.null :: st)) : Go γ Ω Y Z cs ss S M pc ls st := by
  rcases hd with ⟨q, hq, hd, rfl⟩ | ⟨hd, rfl⟩
  · exact fun C H locs L h1 h2 h3 h4 => lv_aload_nN C.1 C.2.1 hd hq (lh_at h4 hl) (k C H locs L h1 h2 h3 h4)
  · exact fun C H locs L h1 h2 h3 h4 => lv_aloadN C.1 C.2.1 hd (lh_at h4 hl) (k C H locs L h1 h2 h3 h4)
/-- no long lies just ahead of place i -/
def nol (ls : List (Option Value)) (i : Nat) : Prop := match i with
  | 0 => True
  | i + 1 => ∀ v, ls[i]? = some (some v) → v.category = 1
theorem lh_set {L : Array Slot} {n : Nat} {ls : List (Option Value)} {i : Nat} {v : Value} (hn : nol ls i) (h : lv_has L n ((i, v) :: (lpr 0 ls).filter (fun q => !(q.1 == i) && !(q.1 + 1 == i && q.2.category == 2)))) : lh L n (ls.set i (some v)) := by
  refine ⟨h.1, h.2.1, fun q hq => ?_⟩
  obtain ⟨k, h1, h2⟩ := (mem_lpr _ _ _).mp hq
  rw [Nat.zero_add] at h1
  refine h.2.2 q ?_
  by_cases hk : k = i
  · subst hk
    have h3 : q.2 = v := by
      by_cases hl : k < ls.length
      · rw [List.getElem?_set_self hl] at h2
        exact (Option.some.inj (Option.some.inj h2)).symm
      · rw [List.getElem?_eq_none (by rw [List.length_set]; omega)] at h2
        cases h2
    obtain ⟨q1, q2⟩ := q
    simp only at h1 h3
    subst h1; subst h3
    exact List.mem_cons_self
  · rw [List.getElem?_set_ne (Ne.symm hk)] at h2
    refine List.mem_cons_of_mem _ (List.mem_filter.mpr ⟨(mem_lpr _ _ _).mpr ⟨k, by omega, h2⟩, ?_⟩)
    have h4 : ¬ (q.1 + 1 = i ∧ q.2.category = 2) := by
      rintro ⟨e1, e2⟩
      subst e1
      have := hn q.2 (by rw [h1]; exact h2)
      omega
    simp only [Bool.and_eq_true, Bool.not_eq_true', beq_eq_false_iff_ne, ne_eq, Bool.and_eq_false_iff]
    refine ⟨by omega, ?_⟩
    by_cases h5 : q.1 + 1 = i
    · right; intro h6; exact h4 ⟨h5, h6⟩
    · left; exact h5
theorem g_ist (hd : SI Y.2.1 pc i pc') (hi : i < Y.2.2.1) (hn : nol ls i) (k : Go γ Ω Y Z cs ss S M pc' (ls.set i (some (vi z))) st) : Go γ Ω Y Z cs ss S M pc ls (vi z :: st) := by
  rcases hd with ⟨q, hq, hd, rfl⟩ | ⟨hd, rfl⟩
  · exact fun C H locs L h1 h2 h3 h4 => lv_istore_n C.1 C.2.1 hd hq h4 hi rfl (fun L' h5 => k C H locs L' h1 h2 h3 (lh_set hn h5))
  · exact fun C H locs L h1 h2 h3 h4 => lv_istore C.1 C.2.1 hd h4 hi rfl (fun L' h5 => k C H locs L' h1 h2 h3 (lh_set hn h5))
theorem g_ast {x : Nat} (hd : SA Y.2.1 pc i pc') (hi : i < Y.2.2.1) (hn : nol ls i) (k : Go γ Ω Y Z cs ss S M pc' (ls.set i (some (.ref x))) st) : Go γ Ω Y Z cs ss S M pc ls (.ref x :: st) := by
  rcases hd with ⟨q, hq, hd, rfl⟩ | ⟨hd, rfl⟩
  · exact fun C H locs L h1 h2 h3 h4 => lv_astore_n C.1 C.2.1 hd hq h4 hi rfl (fun L' h5 => k C H locs L' h1 h2 h3 (lh_set hn h5))
  · exact fun C H locs L h1 h2 h3 h4 => lv_astore C.1 C.2.1 hd h4 hi rfl (fun L' h5 => k C H locs L' h1 h2 h3 (lh_set hn h5))
theorem g_astN (hd : SA Y.2.1 pc i pc') (hi : i < Y.2.2.1) (hn : nol ls i) (k : Go γ Ω Y Z cs ss S M pc' (ls.set i (some .null)) st) : Go γ Ω Y Z cs ss S M pc ls (.null :: st) := by
  rcases hd with ⟨q, hq, hd, rfl⟩ | ⟨hd, rfl⟩
  · exact fun C H locs L h1 h2 h3 h4 => lv_astore_nN C.1 C.2.1 hd hq h4 hi rfl (fun L' h5 => k C H locs L' h1 h2 h3 (lh_set hn h5))
  · exact fun C H locs L h1 h2 h3 h4 => lv_astoreN C.1 C.2.1 hd h4 hi rfl (fun L' h5 => k C H locs L' h1 h2 h3 (lh_set hn h5))
theorem lpr_idx {i : Nat} {v : Value} (h : ls[i]? = some (some v)) : ∃ k : Nat, (lpr 0 ls)[k]? = some (i, v) := List.getElem?_of_mem ((mem_lpr ls 0 (i, v)).mpr ⟨i, by simp, h⟩)
theorem g_iinc {d : Int} (hd : D3 Y.2.1 pc (.iinc i d) pc') (hl : ls[i]? = some (some (vi z))) (hi : i < Y.2.2.1) (hn : nol ls i) (k : Go γ Ω Y Z cs ss S M pc' (ls.set i (some (vi (z + d)))) st) : Go γ Ω Y Z cs ss S M pc ls st := by
  obtain ⟨hd, rfl⟩ := hd
  intro C H locs L h1 h2 h3 h4
  obtain ⟨q, hq⟩ := lpr_idx hl
  exact lv_iinc (v := Int32.ofInt (z + d)) C.1 C.2.1 hd h4 hq (Int32.ofInt_add _ _).symm hi rfl (fun L' h5 => k C H locs L' h1 h2 h3 (lh_set hn h5))
/-! a method's contract -/
def rk (Ω : Ow) (κ : Nat) (x : Int) : Option Value := match κ with
  | 0 => none
  | 1 => some (vi x)
  | 2 => some (vl x)
  | _ => some (rv Ω x)
def Wd (Ω : Ow) (S : Sg) (M : Mm) (U : State) : Prop := Fx Ω ∧ Ω.2.1.WarmedH U.vm ∧ (∀ q : Nat, q < bs Ω → U.heap[q]? = Ω.2.1.heap[q]?) ∧ HW Ω S M U.heap
def Qf (Ω : Ow) (κ : Nat) (Q : Int → Sg → Mm → Prop) : Array Value → State → Outcome → State → Prop := fun _ _ o t => ∃ (x : Int) (S' : Sg) (M' : Mm), o = .returned (rk Ω κ x) ∧ Q x S' M' ∧ (∀ q : Nat, q < bs Ω → t.heap[q]? = Ω.2.1.heap[q]?) ∧ HW Ω S' M' t.heap
def wsM (Y : Md) : List Cond := .code Y.1 Y.2.1 Y.2.2.1 Y.2.2.2 :: Ug
/-- depth d: so many frames, so many words of locals -/
def rmd (d mc ms : Nat) : Room := { frames := d, cells := mc, slots := ms, locals := 40 * d }
/-- Y, called with the values As at the memory M, comes back with an answer x and a memory M' of which Q holds; it makes at most mc cells of ms places, and goes at most d deep -/
def Ct (Ω : Ow) (Y : Md) (d mc ms κ : Nat) (As : List Value) (S : Sg) (M : Mm) (Q : Int → Sg → Mm → Prop) : Prop := Met Ω.1 Y.1 (wsM Y) (rmd d mc ms) (va_Pc As (Wd Ω S M)) (Qf Ω κ Q) mc ms (Lo Ω)
/-- a method's end -/
def Zm (γ : Cg) (Ω : Ow) (κ mc ms : Nat) (Q : Int → Sg → Mm → Prop) : State → Prop := MQ (cB γ) (Qf Ω κ Q) (cA γ) (cS γ) mc ms (Lo Ω)
theorem Ct.mk {Ω : Ow} {Y : Md} {d mc ms κ : Nat} {As : List Value} {S : Sg} {M : Mm} {Q : Int → Sg → Mm → Prop} (hy : plainName Y.1.cls = true) (hlen : (lg_sl As).length ≤ Y.2.2.1) (ls : List (Option Value)) (hls : ∀ (q : Nat × Value), q ∈ lpr 0 ls → q ∈ lv_args 0 As)
    (k : ∀ γ : Cg, cR γ = rmd d mc ms → (cS γ).heap.size = bs Ω + S.1 → Go γ Ω Y (Zm γ Ω κ mc ms Q) 0 0 S M 0 ls []) : Ct Ω Y d mc ms κ As S M Q := by
  refine Met.ofW (cc := Y.2.1) (maxL := Y.2.2.1) (ret := Y.2.2.2) hy rfl ?_
  intro p e s m args below meth c s₁ B hml hv
  obtain ⟨rfl, hFx, hWm, hlo, hHW⟩ := hv
  have hl := lv_entry As (n := Y.2.2.1) hlen
  rw [lg_entry_eq]
  generalize (lg_sl As ++ List.replicate (Y.2.2.1 - (lg_sl As).length) Slot.unset).toArray = L at hl ⊢
  have hts := atoms_spec (ws := wsM Y) B.pre
  refine k (p, e, (headSpec (wsM Y) (rmd d mc ms)).room, s, m, As.toArray, below, meth, c) rfl hHW.1 ⟨B.exec, B.bytes, hml, findClass_of_methodNamed B.named, fun w hw => hts w (List.mem_cons_of_mem _ hw), B.returns, B.notSynchronized, (name_of_methodNamed B.named B.method).1, hFx, hWm, hlo⟩ s.heap [] L hHW hlo (fun q h => by cases h) ⟨hl.1, hl.2.1, fun q hq => hl.2.2 q (hls q hq)⟩
theorem Ct.weaken {Ω : Ow} {Y : Md} {d mc ms κ : Nat} {As : List Value} {S : Sg} {M : Mm} {Q Q' : Int → Sg → Mm → Prop} (h : Ct Ω Y d mc ms κ As S M Q) (hq : ∀ x S' M', Q x S' M' → Q' x S' M') : Ct Ω Y d mc ms κ As S M Q' := by
  intro p e h1 h2 h3 s m args below hf happ hP hK
  obtain ⟨n, o, a1, a2, a3, ⟨x, S', M', b1, b2, b3⟩, b4⟩ := h p e h1 h2 h3 s m args below hf happ hP hK
  exact ⟨n, o, a1, a2, a3, ⟨x, S', M', b1, hq _ _ _ b2, b3⟩, b4⟩
/-- the method's own returns -/
theorem g_ret0 {κ mc ms : Nat} {Q : Int → Sg → Mm → Prop} (hd : decode Y.2.1 pc = .ok (.return_, 1)) (hr : Y.2.2.2 = none) (x : Int) (hq : Q x S M) (h1 : cs ≤ mc) (h2 : ss ≤ ms) : Go γ Ω Y (Zm γ Ω 0 mc ms Q) cs ss S M pc ls [] := by
  intro C H locs L a1 a2 a3 a4
  refine W.widen h1 h2 ?_
  exact W.vret C.1 C.2.1 (C.2.2.2.2.2.1.trans hr) (fun t ht hW => ⟨x, S, M, rfl, hq, by rw [ht]; exact a2, by rw [ht]; exact a1⟩) a3 hd C.2.2.2.2.2.2.1
theorem g_reti {mc ms : Nat} {Q : Int → Sg → Mm → Prop} (hd : decode Y.2.1 pc = .ok (.ireturn, 1)) (hr : Y.2.2.2 = some .int) (hq : Q z S M) (h1 : cs ≤ mc) (h2 : ss ≤ ms) : Go γ Ω Y (Zm γ Ω 1 mc ms Q) cs ss S M pc ls [vi z] := by
  intro C H locs L a1 a2 a3 a4
  refine W.widen h1 h2 ?_
  exact W.iret (v := Int32.ofInt z) C.1 C.2.1 (C.2.2.2.2.2.1.trans hr) (fun t ht hW => ⟨z, S, M, rfl, hq, by rw [ht]; exact a2, by rw [ht]; exact a1⟩) a3 hd C.2.2.2.2.2.2.1
/-- of a type that narrows -/
theorem g_retn {mc ms : Nat} {Q : Int → Sg → Mm → Prop} {ty : FieldType} (hd : decode Y.2.1 pc = .ok (.ireturn, 1)) (hr : Y.2.2.2 = some ty) (hn : narrow ty (vi z) = vi z) (hq : Q z S M) (h1 : cs ≤ mc) (h2 : ss ≤ ms) : Go γ Ω Y (Zm γ Ω 1 mc ms Q) cs ss S M pc ls [vi z] := by
  intro C H locs L a1 a2 a3 a4
  refine W.widen h1 h2 ?_
  exact W.zret (v := Int32.ofInt z) C.1 C.2.1 (C.2.2.2.2.2.1.trans hr) hn (fun t ht hW => ⟨z, S, M, rfl, hq, by rw [ht]; exact a2, by rw [ht]; exact a1⟩) a3 hd C.2.2.2.2.2.2.1
theorem nar_bool (h : z = 0 ∨ z = 1) : narrow .boolean (vi z) = vi z := by
  rcases h with rfl | rfl
  · rw [vi0]; rfl
  · rw [vi1]; rfl
theorem g_retz {mc ms : Nat} {Q : Int → Sg → Mm → Prop} (hd : decode Y.2.1 pc = .ok (.ireturn, 1)) (hr : Y.2.2.2 = some .boolean) (hn : z = 0 ∨ z = 1) (hq : Q z S M) (h1 : cs ≤ mc) (h2 : ss ≤ ms) : Go γ Ω Y (Zm γ Ω 1 mc ms Q) cs ss S M pc ls [vi z] := g_retn hd hr (nar_bool hn) hq h1 h2
theorem g_retl {mc ms : Nat} {Q : Int → Sg → Mm → Prop} (hd : decode Y.2.1 pc = .ok (.lreturn, 1)) (hr : Y.2.2.2 = some .long) (hq : Q z S M) (h1 : cs ≤ mc) (h2 : ss ≤ ms) : Go γ Ω Y (Zm γ Ω 2 mc ms Q) cs ss S M pc ls [vl z] := by
  intro C H locs L a1 a2 a3 a4
  refine W.widen h1 h2 ?_
  exact W.lret (v := Int64.ofInt z) C.1 C.2.1 (C.2.2.2.2.2.1.trans hr) (fun t ht hW => ⟨z, S, M, rfl, hq, by rw [ht]; exact a2, by rw [ht]; exact a1⟩) a3 hd C.2.2.2.2.2.2.1
theorem g_reta {mc ms : Nat} {Q : Int → Sg → Mm → Prop} {rt : FieldType} (hd : decode Y.2.1 pc = .ok (.areturn, 1)) (hr : Y.2.2.2 = some rt) (hrt : (∃ n, rt = .object n) ∨ ∃ t, rt = .array t) {x : Int} (hx : v = rv Ω x) (hq : Q x S M) (h1 : cs ≤ mc) (h2 : ss ≤ ms) : Go γ Ω Y (Zm γ Ω 3 mc ms Q) cs ss S M pc ls [v] := by
  subst hx
  intro C H locs L a1 a2 a3 a4
  refine W.widen h1 h2 ?_
  exact W.aret (v := rv Ω x) C.1 C.2.1 (C.2.2.2.2.2.1.trans hr) hrt (by cases x; exact Or.inr ⟨_, rfl⟩; exact Or.inl rfl) (fun t ht hW => ⟨x, S, M, rfl, hq, by rw [ht]; exact a2, by rw [ht]; exact a1⟩) a3 hd C.2.2.2.2.2.2.1
end GL
end
section
section GN
variable {γ : Cg} {Ω : Ow} {Y : Md} {Z : State → Prop} {cs ss : Nat} {S : Sg} {M : Mm} {pc pc' tgt : Nat} {ls : List (Option Value)} {st : List Value} {a b z : Int} {r c j n i : Nat} {v : Value}
theorem g_objInit (hd : ∃ idx, D3 Y.2.1 pc (.invokespecial idx) pc' ∧ Cond.methodLink Y.1.cls idx objectInit ∈ Ug) (hi : Cond.instanceMethod objectInit ∈ Ug) (hco : Cond.code objectInit ⟨#[0xb1]⟩ 1 none ∈ Ug) (hR : 1 ≤ (cR γ).frames ∧ (st.map fun v => v.category).sum + 12 ≤ (cR γ).locals) (k : Go γ Ω Y Z cs ss S M pc' ls st) : Go γ Ω Y Z cs ss S M pc ls (vr Ω r :: st) := by
  obtain ⟨idx, ⟨hd, rfl⟩, hl⟩ := hd
  intro C H locs L h1 h2 h3 h4
  refine W.objInit (idx := idx) C.1 C.2.1 C.2.2.2.1 (C.2.2.2.2.1 _ hl) (C.2.2.2.2.1 _ hi) (C.2.2.2.2.1 _ hco) rfl (by show L.size = _; rw [C.2.2.1]; exact h4.1) rfl hd hR.1 ?_ (k C H locs L h1 h2 h3 h4)
  have h := hR.2
  show 2 * 0 + _ + 12 ≤ _
  omega
theorem dflt : ∀ c, c < 11 → ∀ j, j < cL c → defaultValue (tyC c j) = if (fk c).getD j false = true then .null else .int 0 := by decide +kernel
theorem fsv_new (hF : Fresh S M) (hc : c < 11) (hk : S.1 ≤ r) : ∀ j, j < cL c → defaultValue (tyC c j) = vp_V (fsv Ω S M r c) j := by
  intro j hj
  have hl : j < (fk c).length := by rw [fk_len c hc]; exact hj
  have hb : (fk c)[j]? = some ((fk c).getD j false) := by rw [List.getD_eq_getElem?_getD, List.getElem?_eq_getElem hl]; rfl
  have hg : (fsv Ω S M r c).getD j .null = fv Ω S M r j ((fk c).getD j false) := by rw [List.getD_eq_getElem?_getD, fsv_get hb]; rfl
  rw [dflt c hc j hj, vp_V, hg, fv, (hF r hk j).1, (hF r hk j).2]
  cases (fk c).getD j false
  · rw [if_neg (by decide), if_neg (by decide), vi0]
  · rfl
theorem wsO_push {S : Sg} {M : Mm} : wsO Ω (S.1 + 1, S.2) M = wsO Ω S M ++ [(bs Ω + S.1, cont Ω S M S.1)] := by
  unfold wsO
  rw [List.range_succ, List.map_append]
  rfl
theorem hw_new {H H1 : Heap} (hW : HW Ω S M H) (he : va_at Ω.2.2.1 vwCl (bs Ω + S.1, cont Ω S M S.1) H1) (hz : H1.size = H.size + 1) (ho : ∀ q : Nat, q < H.size → H1[q]? = H[q]?) : HW Ω (S.1 + 1, S.2) M H1 := by
  refine ⟨by rw [hz, hW.1]; rfl, ?_, fun k hk j => hW.2.2 k (by have : S.1 + 1 ≤ k := hk; omega) j⟩
  rw [wsO_push]
  refine va_P.app (hW.2.1.kept (fun k q hq => ?_)) (fun k q hq => ?_)
  · have hlt := (hW.2.1 k q hq).lt
    exact ho q.1 hlt
  · have hz : k < 1 := (List.getElem?_eq_some_iff.mp hq).1
    rw [show k = 0 by omega] at hq
    cases hq
    exact he
/-- a new object -/
theorem g_new {q : Nat} (hd : ∃ idx, D3 Y.2.1 pc (.new idx) pc' ∧ Cond.classLink Y.1.cls idx (cN c) ∈ Ug) (hin : Cond.instantiable (cN c) (cL c) ∈ Ug) (hini : Cond.initialized (cN c) ∈ Ug) (hc : c < 11) (hq : S.1 = q) (hs : sh q = (c, 0)) (hcells : cs + 1 ≤ (cR γ).cells) (hslots : ss + cL c ≤ (cR γ).slots) (k : Go γ Ω Y Z (cs + 1) (ss + cL c) (q + 1, S.2) M pc' ls (vr Ω q :: st)) : Go γ Ω Y Z cs ss S M pc ls st := by
  subst hq
  obtain ⟨idx, ⟨hd, rfl⟩, hl⟩ := hd
  intro C H locs L h1 h2 h3 h4
  have hK := cx_K C
  have hKn := hK.1 c _ (cl_at hc)
  refine W.newcK C.1 C.2.1 C.2.2.2.1 (C.2.2.2.2.1 _ hl) (C.2.2.2.2.1 _ hin) (C.2.2.2.2.1 _ hini) rfl hd hcells hslots hKn.2.1 h1.1 fun H1 kC hkC e1 z1 o1 => ?_
  refine k C H1 locs L (hw_new h1 ?_ (by rw [z1, h1.1]) (fun q hq => o1 q (by rw [← h1.1]; exact hq))) (fun q hq => (o1 q (by omega)).trans (h2 q hq)) h3 h4
  rw [cont, hs, if_neg (by have : c < 11 := hc; show ¬ 11 ≤ c; omega)]
  exact ⟨_, cl_at hc, (u_born (tyC c) C.2.2.2.2.1 (wsC_ok c hc) hKn hkC e1 (tyC_ok c hc)).to (fsv_new h1.2.2 hc (Nat.le_refl _))⟩
theorem arr_new (hF : Fresh S M) (hk : S.1 ≤ r) {cA : ClassId} {n : Nat} : vp_cell cA (arr Ω S M r 11 n) = arrV cA n (fun _ => .int 0) ∧ vp_cell cA (arr Ω S M r 12 n) = arrV cA n (fun _ => .int 0) ∧ vp_cell cA (arr Ω S M r 13 n) = arrV cA n (fun _ => .long 0) ∧ vp_cell cA (arr Ω S M r 14 n) = arrV cA n (fun _ => .int 0) ∧ vp_cell cA (arr Ω S M r 15 n) = arrV cA n (fun _ => .null) ∧ vp_cell cA (arr Ω S M r 16 n) = arrV cA n (fun _ => .null) := by
  have hm : M r = fun _ => 0 := funext fun j => (hF r hk j).1
  have hs : S.2 r = fun _ => -1 := funext fun j => (hF r hk j).2
  have z32 : Int32.ofInt 0 = 0 := by decide
  have z64 : Int64.ofInt 0 = 0 := by decide
  unfold arr
  rw [hm, hs]
  refine ⟨?_, ?_, ?_, ?_, ?_, ?_⟩
  · rw [if_neg (by decide), if_neg (by decide), vp_cell_i]; show arrV cA n (fun _ => Value.int (Int32.ofInt 0)) = _; rw [z32]
  · rw [if_neg (by decide), if_neg (by decide), vp_cell_i]; show arrV cA n (fun _ => Value.int (Int32.ofInt 0)) = _; rw [z32]
  · rw [if_pos rfl, vp_cell_l]; show arrV cA n (fun _ => Value.long (Int64.ofInt 0)) = _; rw [z64]
  · rw [if_neg (by decide), if_neg (by decide), vp_cell_i]; show arrV cA n (fun _ => Value.int (Int32.ofInt 0)) = _; rw [z32]
  · rw [if_neg (by decide), if_pos (by decide), vp_cell_q]; rfl
  · rw [if_neg (by decide), if_pos (by decide), vp_cell_q]; rfl
/-- a new array of numbers -/
theorem g_newa {q : Nat} {atype : ArrayType} (hd : D2 Y.2.1 pc (.newarray atype) pc') (hA : Cond.arrayClass (newarray.typeOf atype) ∈ Ug) (hat : (atype = .byte ∧ c = 11) ∨ (atype = .int ∧ c = 12) ∨ (atype = .long ∧ c = 13) ∨ (atype = .boolean ∧ c = 14)) (hn : n ≤ 1000) (hq : S.1 = q) (hs : sh q = (c, n)) (hcells : cs + 1 ≤ (cR γ).cells) (hslots : ss + n ≤ (cR γ).slots) (k : Go γ Ω Y Z (cs + 1) (ss + n) (q + 1, S.2) M pc' ls (vr Ω q :: st)) : Go γ Ω Y Z cs ss S M pc ls (vi (n : Int) :: st) := by
  subst hq
  obtain ⟨hd, rfl⟩ := hd
  intro C H locs L h1 h2 h3 h4
  have hK := cx_K C
  have hb : n * componentBytes (newarray.typeOf atype) ≤ 536870912 := by
    rcases hat with ⟨rfl, -⟩ | ⟨rfl, -⟩ | ⟨rfl, -⟩ | ⟨rfl, -⟩ <;> (show n * _ ≤ _; simp [newarray.typeOf, componentBytes]; omega)
  refine va_newaK (n := Int32.ofInt (n : Int)) C.1 C.2.1 (C.2.2.2.2.1 _ hA) rfl hd rfl (by rw [zI, oI_lt (by omega) (by omega)]; omega) (clamp (by omega)) hb hcells hslots h1.1 fun H1 cA e1 z1 o1 hAr hNm => ?_
  refine k C H1 locs L (hw_new h1 ?_ (by rw [z1, h1.1]) (fun q hq => o1 q (by rw [← h1.1]; exact hq))) (fun q hq => (o1 q (by omega)).trans (h2 q hq)) h3 h4
  have hnew := arr_new (Ω := Ω) h1.2.2 (Nat.le_refl S.1) (cA := cA) (n := n)
  rcases hat with ⟨rfl, rfl⟩ | ⟨rfl, rfl⟩ | ⟨rfl, rfl⟩ | ⟨rfl, rfl⟩
  · have hc : Ω.2.2.1.1 11 = cA := Option.some.inj ((hK.2 0 _ rfl).2.symm.trans hNm)
    rw [cont, hs, if_pos (show 11 ≤ 11 by decide)]
    show H1[_]? = some (vp_cell (Ω.2.2.1.1 11) _)
    rw [hc, hnew.1]
    exact e1
  · have hc : Ω.2.2.1.1 12 = cA := Option.some.inj ((hK.2 1 _ rfl).2.symm.trans hNm)
    rw [cont, hs, if_pos (show 11 ≤ 12 by decide)]
    show H1[_]? = some (vp_cell (Ω.2.2.1.1 12) _)
    rw [hc, hnew.2.1]
    exact e1
  · have hc : Ω.2.2.1.1 13 = cA := Option.some.inj ((hK.2 2 _ rfl).2.symm.trans hNm)
    rw [cont, hs, if_pos (show 11 ≤ 13 by decide)]
    show H1[_]? = some (vp_cell (Ω.2.2.1.1 13) _)
    rw [hc, hnew.2.2.1]
    exact e1
  · have hc : Ω.2.2.1.1 14 = cA := Option.some.inj ((hK.2 3 _ rfl).2.symm.trans hNm)
    rw [cont, hs, if_pos (show 11 ≤ 14 by decide)]
    show H1[_]? = some (vp_cell (Ω.2.2.1.1 14) _)
    rw [hc, hnew.2.2.2.1]
    exact e1
/-- a new array of objects -/
theorem g_newq {q : Nat} {C0 : String} (hd : ∃ idx, D3 Y.2.1 pc (.anewarray idx) pc' ∧ Cond.classLink Y.1.cls idx C0 ∈ Ug) (hA : Cond.arrayOver (.object C0) ∈ Ug) (hat : (C0 = RX3 ∧ c = 15) ∨ (C0 = RX7 ∧ c = 16)) (hn : n ≤ 1000) (hq : S.1 = q) (hs : sh q = (c, n)) (hcells : cs + 1 ≤ (cR γ).cells) (hslots : ss + n ≤ (cR γ).slots) (k : Go γ Ω Y Z (cs + 1) (ss + n) (q + 1, S.2) M pc' ls (vr Ω q :: st)) : Go γ Ω Y Z cs ss S M pc ls (vi (n : Int) :: st) := by
  subst hq
  obtain ⟨idx, ⟨hd, rfl⟩, hl⟩ := hd
  intro C H locs L h1 h2 h3 h4
  have hK := cx_K C
  have hcl : (Int32.ofInt (n : Int)).toNatClampNeg = n := clamp (by omega)
  refine W.anew (n := Int32.ofInt (n : Int)) C.1 C.2.1 C.2.2.2.1 (C.2.2.2.2.1 _ hl) (C.2.2.2.2.1 _ hA) rfl hd rfl (by rw [zI, oI_lt (by omega) (by omega)]; omega) (by rw [hcl]; omega) hcells (by rw [hcl]; exact hslots) fun cA kA comp f1 f2 f3 f4 => ?_
  rw [hcl]
  generalize hH1 : H.push ({ cls := cA, slots := Array.replicate n .null, vm := .none } : Cell) = H1
  have z1 : H1.size = H.size + 1 := by rw [← hH1, Array.size_push]
  have e1 : H1[H.size]? = some (arrV cA n (fun _ => .null)) := by rw [← hH1, Array.getElem?_push_size, ← arrV_new]
  have o1 : ∀ q : Nat, q < H.size → H1[q]? = H[q]? := fun q hq => by rw [← hH1, Array.getElem?_push, if_neg (Nat.ne_of_lt hq)]
  rw [h1.1] at e1 ⊢
  refine k C H1 locs L (hw_new h1 ?_ z1 o1) (fun q hq => (o1 q (by rw [h1.1]; omega)).trans (h2 q hq)) h3 h4
  have hnew := arr_new (Ω := Ω) h1.2.2 (Nat.le_refl S.1) (cA := cA) (n := n)
  rcases hat with ⟨rfl, rfl⟩ | ⟨rfl, rfl⟩
  · obtain ⟨kA', comp', g1, g2, g3, g4⟩ := (hK.2 4 _ rfl).2
    have hc : Ω.2.2.1.1 15 = cA := Option.some.inj (g4.symm.trans f1)
    rw [cont, hs, if_pos (show 11 ≤ 15 by decide)]
    show H1[_]? = some (vp_cell (Ω.2.2.1.1 15) _)
    rw [hc, hnew.2.2.2.2.1]
    exact e1
  · obtain ⟨kA', comp', g1, g2, g3, g4⟩ := (hK.2 5 _ rfl).2
    have hc : Ω.2.2.1.1 16 = cA := Option.some.inj (g4.symm.trans f1)
    rw [cont, hs, if_pos (show 11 ≤ 16 by decide)]
    show H1[_]? = some (vp_cell (Ω.2.2.1.1 16) _)
    rw [hc, hnew.2.2.2.2.2]
    exact e1
/-- an object comes into an array of objects -/
theorem g_aast {q qc : Nat} (hd : D1 Y.2.1 pc .aastore pc') (hr : Ar S r c n) (hat : (c = 15 ∧ qc = 3) ∨ (c = 16 ∧ qc = 7)) (hj : j < n) (hq : Ob S q qc) (k : Go γ Ω Y Z cs ss (S.1, up S.2 r j (q : Int)) M pc' ls st) : Go γ Ω Y Z cs ss S M pc ls (vr Ω q :: vi (j : Int) :: vr Ω r :: st) := by
  obtain ⟨hd, rfl⟩ := hd
  intro C H locs L h1 h2 h3 h4
  have hn := ar_le hr
  have hK := cx_K C
  have hatv := hat_of h1 hr
  have hvt : va_at Ω.2.2.1 vwCl (bs Ω + q, .inr (qc, fsv Ω S M q qc)) H := h1.2.1 q _ ((wsO_get hq.2.1).trans (by rw [cont_ob hq]))
  obtain ⟨r', hr', cellV, g1, g2, g3, -⟩ := hvt
  have hcls := (hK.1 qc _ (cl_at hq.2.2)).2
  have go : ∀ (t0 : Nat) (kA : Class) (comp : ClassId), (cS γ).vm.classes[Ω.2.2.1.1 c]? = some kA → kA.kind = .array comp (.object (cN qc)) → (cS γ).vm.findClass (cN qc) = some comp → arr Ω S M r c n = (n, .inr (.inr (.inr (.inr fun j => ro Ω (S.2 r j))))) → arr Ω (S.1, up S.2 r j (q : Int)) M r c n = (n, .inr (.inr (.inr (.inr fun i => ro Ω (up S.2 r j (q : Int) r i))))) → W (cP γ) Ω.1 (cE γ) (cR γ) (cS γ) (cM γ) (cA γ) (cB γ) (cMe γ) (cC γ) H locs cs ss Z (F0 (cM γ) pc L (vr Ω q :: vi (j : Int) :: vr Ω r :: st)) := fun t0 kA comp k1 k2 k3 ea eb => by
    have hcomp : comp = Ω.2.2.1.1 qc := Option.some.inj (k3.symm.trans hcls.1)
    subst hcomp
    obtain ⟨kC, hkC, -⟩ := hcls.2
    have hcl : (Int32.ofInt (j : Int)).toNatClampNeg = j := clamp (by omega)
    rw [ea] at hatv
    refine W.aast (j := Int32.ofInt (j : Int)) C.1 C.2.1 hatv (fun q h => by cases h) (fun h => by cases h) k1 k2 rfl hkC ⟨by rw [zI, oI_lt (by omega) (by omega)]; omega, by show _ < (arrV _ _ _).slots.size; rw [arrV_size, hcl]; exact hj⟩ g1 (fun q h => by rw [g3] at h; cases h) (by rw [g2]; exact hkC) (by rw [g2]; exact va_assign hcls) rfl rfl hd fun H1 e zz oq => ?_
    refine k C H1 _ L (hw_put h1 hr.2.1 rfl (h1.2.2.upS hr.2.1) ?_ (fun k hk => cont_eq rfl (up_row hk)) zz oq) (lo_put h2 oq) (lc_put h3) h4
    have hr' : Ar (S.1, up S.2 r j (q : Int)) r c n := hr
    rw [cont_ar hr', eb]
    show H1[_]? = some (vp_cell _ _)
    rw [e, hcl, vp_cell_q, vp_cell_q, arrV_store]
    congr 2
    funext i
    by_cases hi : i = j
    · subst hi
      simp [updV, up, vr, ro, va_rf]
    · simp [updV, up, hi]
  rcases hat with ⟨rfl, rfl⟩ | ⟨rfl, rfl⟩
  · obtain ⟨kA, comp, k1, k2, k3, -⟩ := (hK.2 4 _ rfl).2
    exact go 4 kA comp k1 k2 k3 rfl rfl
  · obtain ⟨kA, comp, k1, k2, k3, -⟩ := (hK.2 5 _ rfl).2
    exact go 5 kA comp k1 k2 k3 rfl rfl
end GN
end
section
section GC
variable {γ : Cg} {Ω : Ow} {Y Y2 : Md} {Z : State → Prop} {cs ss : Nat} {S : Sg} {M : Mm} {pc pc' tgt : Nat} {ls : List (Option Value)} {st rest As : List Value} {a b z : Int} {r c j n i d mc ms κ : Nat} {v : Value} {Q : Int → Sg → Mm → Prop}
/-- the tables know the method: n arguments -/
def MOK (Y2 : Md) (n : Nat) : Prop := Cond.code Y2.1 Y2.2.1 Y2.2.2.1 Y2.2.2.2 ∈ Ug ∧ Cond.initialized Y2.1.cls ∈ Ug ∧ Y2.1.cls ≠ "java/lang/invoke/MethodHandle" ∧ Y2.1.cls ≠ "java/lang/invoke/VarHandle" ∧ (parseMethodDescriptor Y2.1.desc).map (fun d => d.parameters.length) = some n
def MVI (Y2 : Md) : Prop := Cond.instanceMethod Y2.1 ∈ Ug ∧ Cond.selects Y2.1.cls Y2.1 Y2.1 ∈ Ug
def MLK (own : String) (idx : Nat) (Y2 : Md) : Prop := Cond.methodLink own idx Y2.1 ∈ Ug ∨ ∃ host : String, Cond.methodLinkNest own idx Y2.1 host ∈ nestW
theorem wsM_in (h : Cond.code Y2.1 Y2.2.1 Y2.2.2.1 Y2.2.2.2 ∈ Ug) : ∀ w ∈ wsM Y2, w ∈ Ug := fun w hw => by
  rcases List.mem_cons.mp hw with h1 | h1
  · rw [h1]; exact h
  · exact h1
theorem blind {As : List Value} : FrameBlind (va_Pc As (Wd Ω S M)) := fun a U g mk h => ⟨h.1, h.2⟩
theorem wd_of (C : Cx γ Ω Y) {H : Heap} (h1 : HW Ω S M H) (h2 : ∀ q : Nat, q < bs Ω → H[q]? = Ω.2.1.heap[q]?) (U : State) (hU : U.heap = H) (hW : (cS γ).WarmedH U.vm) : Wd Ω S M U := ⟨C.2.2.2.2.2.2.2.2.1, State.WarmedH.trans C.2.2.2.2.2.2.2.2.2.1 hW, by rw [hU]; exact h2, by rw [hU]; exact h1⟩
/-- behind a call -/
theorem go_call (hr : Cx γ Ω Y → ∀ (H : Heap) (locs : List Loc) (L : Array Slot), HW Ω S M H → (∀ q : Nat, q < bs Ω → H[q]? = Ω.2.1.heap[q]?) → L.size = Y.2.2.1 → ∃ a, va_Run (cP γ) Ω.1 (cE γ) (cR γ) (cS γ) (cM γ) (cA γ) (cB γ) (cMe γ) (cC γ) H locs cs ss mc ms (F0 (cM γ) pc L st) rest (Qf Ω κ Q a) (Lo Ω))
    (k : ∀ x S' M', Q x S' M' → Go γ Ω Y Z (cs + mc) (ss + ms) S' M' (pc + 3) ls ((rk Ω κ x).toList ++ rest)) : Go γ Ω Y Z cs ss S M pc ls st := by
  intro C H locs L h1 h2 h3 h4 T hT X
  obtain ⟨a, hr⟩ := hr C H locs L h1 h2 h4.1
  obtain ⟨v, st₀, t, T', LL, h0, X', hL, e1, e2, ⟨x, S', M', hv, hQ, hlo, hHW⟩, st⟩ := hr T hT X
  cases hv
  have h5 : ∀ q ∈ locs ++ LL, bs Ω ≤ q.base := fun q hq => by
    rcases List.mem_append.mp hq with h | h
    · exact h3 q h
    · exact hL q h
  obtain ⟨t2, a1, b1⟩ := k x S' M' hQ C T'.heap (locs ++ LL) L (by rw [e1]; exact hHW) (by rw [e1]; exact hlo) h5 h4 T' rfl X'
  exact ⟨t2, st t2 a1, b1⟩
theorem g_callv0 {x : Nat} (hC : Ct Ω Y2 d mc ms κ (.ref x :: As) S M Q) (hd : ∃ idx, D3 Y.2.1 pc (.invokevirtual idx) pc' ∧ MLK Y.1.cls idx Y2) (hm : MOK Y2 As.length) (hv : MVI Y2) (hrec : Cx γ Ω Y → ∀ H : Heap, HW Ω S M H → (∀ q : Nat, q < bs Ω → H[q]? = Ω.2.1.heap[q]?) → ∃ cell : Cell, H[x]? = some cell ∧ cell.vm.isStatics = false ∧ (cS γ).vm.findClass Y2.1.cls = some cell.cls) (hs : st = As.reverse ++ (.ref x :: rest)) (hw : (rest.map fun v => v.category).sum ≤ 8)
    (hR : d + 1 ≤ (cR γ).frames ∧ 8 + (Y2.2.2.1 + 11) + 40 * d ≤ (cR γ).locals) (hf : cs + mc ≤ (cR γ).cells ∧ ss + ms ≤ (cR γ).slots) (k : ∀ x S' M', Q x S' M' → Go γ Ω Y Z (cs + mc) (ss + ms) S' M' pc' ls ((rk Ω κ x).toList ++ rest)) : Go γ Ω Y Z cs ss S M pc ls st := by
  obtain ⟨idx, ⟨hd, rfl⟩, hl⟩ := hd
  subst hs
  refine go_call (fun C H locs L h1 h2 hL => ⟨(Value.ref x :: As).toArray, ?_⟩) k
  have hts := C.2.2.2.2.1
  have hp : PreV (cS γ) H Y2.1.cls x (va_Pc (.ref x :: As) (Wd Ω S M)) As := ⟨blind, hrec C H h1 h2, fun U hU hW => ⟨rfl, wd_of C h1 h2 U hU hW⟩⟩
  rcases hl with hl | ⟨host, hl⟩
  · refine va_runV (nL := Y.2.2.1) (Ts := Ug) (own := Y.1.cls) (C := Y2.1.cls) ⟨C.1, C.2.1, C.2.2.1, C.2.2.2.1, hts⟩ hC (cwV As.length hts (ug_in fun w hw => ?_) rfl rfl rfl ⟨rfl, hm.2.2.1, hm.2.2.2.1, hm.2.2.2.2⟩ hR) hp rfl rfl hL rfl (lv_room hw) hd hf
    unfold wsV at hw
    simp only [List.cons_append, List.nil_append, List.mem_cons] at hw
    rcases hw with rfl | rfl | rfl | rfl | hw
    · exact hl
    · exact hv.1
    · exact hv.2
    · exact hm.2.1
    · exact wsM_in hm.1 w hw
  · exact va_runVN (nL := Y.2.2.1) (Ts := Ug) (own := Y.1.cls) (C := Y2.1.cls) ⟨C.1, C.2.1, C.2.2.1, C.2.2.2.1, hts⟩ hC ⟨va_cnB As.length hts (ug_in (wsM_in hm.1)) rfl rfl rfl (cx_NM C hl) (hts _ hm.2.1) ⟨hm.2.2.1, hm.2.2.2.1, hm.2.2.2.2⟩ hR, hts _ hv.1, hts _ hv.2⟩ hp rfl rfl hL rfl (lv_room hw) hd hf
theorem g_callv (hC : Ct Ω Y2 d mc ms κ (vr Ω r :: As) S M Q) (hd : ∃ idx, D3 Y.2.1 pc (.invokevirtual idx) pc' ∧ MLK Y.1.cls idx Y2) (hm : MOK Y2 As.length) (hv : MVI Y2) (hr : Ob S r c) (hcn : Y2.1.cls = cN c) (hs : st = As.reverse ++ (vr Ω r :: rest)) (hw : (rest.map fun v => v.category).sum ≤ 8)
    (hR : d + 1 ≤ (cR γ).frames ∧ 8 + (Y2.2.2.1 + 11) + 40 * d ≤ (cR γ).locals) (hf : cs + mc ≤ (cR γ).cells ∧ ss + ms ≤ (cR γ).slots) (k : ∀ x S' M', Q x S' M' → Go γ Ω Y Z (cs + mc) (ss + ms) S' M' pc' ls ((rk Ω κ x).toList ++ rest)) : Go γ Ω Y Z cs ss S M pc ls st :=
  g_callv0 hC hd hm hv (fun C H h1 h2 => by rw [hcn]; exact va_recv (cx_K C) h1.2.1 (cl_at hr.2.2) ((wsO_get hr.2.1).trans (by rw [cont_ob hr]))) hs hw hR hf k
theorem g_calls (hC : Ct Ω Y2 d mc ms κ As S M Q) (hd : ∃ idx, D3 Y.2.1 pc (.invokestatic idx) pc' ∧ MLK Y.1.cls idx Y2) (hm : MOK Y2 As.length) (hv : Cond.static Y2.1 ∈ Ug) (hs : st = As.reverse ++ rest) (hw : (rest.map fun v => v.category).sum ≤ 8)
    (hR : d + 1 ≤ (cR γ).frames ∧ 8 + (Y2.2.2.1 + 11) + 40 * d ≤ (cR γ).locals) (hf : cs + mc ≤ (cR γ).cells ∧ ss + ms ≤ (cR γ).slots) (k : ∀ x S' M', Q x S' M' → Go γ Ω Y Z (cs + mc) (ss + ms) S' M' pc' ls ((rk Ω κ x).toList ++ rest)) : Go γ Ω Y Z cs ss S M pc ls st := by
  obtain ⟨idx, ⟨hd, rfl⟩, hl⟩ := hd
  subst hs
  refine go_call (fun C H locs L h1 h2 hL => ⟨As.toArray, ?_⟩) k
  have hts := C.2.2.2.2.1
  have hp : PreS (cS γ) H (va_Pc As (Wd Ω S M)) As := ⟨blind, fun U hU hW => ⟨rfl, wd_of C h1 h2 U hU hW⟩⟩
  rcases hl with hl | ⟨host, hl⟩
  · refine va_runS (nL := Y.2.2.1) (Ts := Ug) (own := Y.1.cls) ⟨C.1, C.2.1, C.2.2.1, C.2.2.2.1, hts⟩ hC (va_cwS As.length hts (ug_in fun w hw => ?_) rfl rfl rfl ⟨hm.2.2.1, hm.2.2.2.1, hm.2.2.2.2⟩ hR) hp rfl rfl hL rfl (lv_room hw) hd hf
    unfold va_wsS at hw
    simp only [List.cons_append, List.nil_append, List.mem_cons] at hw
    rcases hw with rfl | rfl | rfl | hw
    · exact hl
    · exact hv
    · exact hm.2.1
    · exact wsM_in hm.1 w hw
  · exact va_runSN (nL := Y.2.2.1) (Ts := Ug) (own := Y.1.cls) ⟨C.1, C.2.1, C.2.2.1, C.2.2.2.1, hts⟩ hC ⟨va_cnB As.length hts (ug_in (wsM_in hm.1)) rfl rfl rfl (cx_NM C hl) (hts _ hm.2.1) ⟨hm.2.2.1, hm.2.2.2.1, hm.2.2.2.2⟩ hR, hts _ hv, trivial⟩ hp rfl rfl hL rfl (lv_room hw) hd hf
/-- a constructor -/
theorem g_calli (hC : Ct Ω Y2 d mc ms 0 (vr Ω r :: As) S M Q) (hd : ∃ idx, D3 Y.2.1 pc (.invokespecial idx) pc' ∧ MLK Y.1.cls idx Y2) (hm : MOK Y2 As.length) (hret : Y2.2.2.2 = none) (hy : Y2.1.name = "<init>") (hv : Cond.instanceMethod Y2.1 ∈ Ug) (hs : st = As.reverse ++ (vr Ω r :: rest)) (hw : (rest.map fun v => v.category).sum ≤ 8)
    (hR : d + 1 ≤ (cR γ).frames ∧ 8 + (Y2.2.2.1 + 11) + 40 * d ≤ (cR γ).locals) (hf : cs + mc ≤ (cR γ).cells ∧ ss + ms ≤ (cR γ).slots) (k : ∀ x S' M', Q x S' M' → Go γ Ω Y Z (cs + mc) (ss + ms) S' M' pc' ls rest) : Go γ Ω Y Z cs ss S M pc ls st := by
  obtain ⟨idx, ⟨hd, rfl⟩, hl⟩ := hd
  subst hs
  refine go_call (κ := 0) (fun C H locs L h1 h2 hL => ⟨(Value.ref (bs Ω + r) :: As).toArray, ?_⟩) k
  have hts := C.2.2.2.2.1
  have hp : PreS (cS γ) H (va_Pc (vr Ω r :: As) (Wd Ω S M)) (Value.ref (bs Ω + r) :: As) := ⟨blind, fun U hU hW => ⟨rfl, wd_of C h1 h2 U hU hW⟩⟩
  have hco := hm.1
  rw [hret] at hco
  have hwm : wsM Y2 = Cond.code Y2.1 Y2.2.1 Y2.2.2.1 none :: Ug := by unfold wsM; rw [hret]
  rcases hl with hl | ⟨host, hl⟩
  · exact va_runI (nL := Y.2.2.1) (Ts := Ug) (own := Y.1.cls) ⟨C.1, C.2.1, C.2.2.1, C.2.2.2.1, hts⟩ hC (cwI As.length hts (ug_in (wsM_in hm.1)) hwm rfl rfl (hts _ hm.2.1) (hts _ hl) (hts _ hv) hy ⟨hm.2.2.1, hm.2.2.2.1, hm.2.2.2.2⟩ hR) hp rfl rfl hL rfl (lv_room hw) hd hf
  · exact va_runIN (nL := Y.2.2.1) (Ts := Ug) (own := Y.1.cls) ⟨C.1, C.2.1, C.2.2.1, C.2.2.2.1, hts⟩ hC ⟨va_cnB As.length hts (ug_in (wsM_in hm.1)) hwm rfl rfl (cx_NM C hl) (hts _ hm.2.1) ⟨hm.2.2.1, hm.2.2.2.1, hm.2.2.2.2⟩ hR, hy, hts _ hv⟩ hp rfl rfl hL rfl (lv_room hw) hd hf
end GC
end
section
section GM
variable {γ : Cg} {Ω : Ow} {Y Y2 : Md} {Z : State → Prop} {cs ss : Nat} {S : Sg} {M : Mm} {pc pc' tgt : Nat} {ls : List (Option Value)} {st rest As : List Value} {a b z : Int} {r c j n i d mc ms κ : Nat} {v : Value} {Q : Int → Sg → Mm → Prop}
theorem g_ifnull (hd : DJ Y.2.1 pc .ifnull tgt) (hp : pc + 3 = pc') {x : Nat} (k : Go γ Ω Y Z cs ss S M pc' ls st) : Go γ Ω Y Z cs ss S M pc ls (.ref x :: st) := by
  obtain ⟨off, hd, ht⟩ := hd
  subst hp
  exact go_st (fun C H locs L k => lv_ifnull C.1 C.2.1 hd k) k
theorem g_ifnullN (hd : DJ Y.2.1 pc .ifnull tgt) (k : Go γ Ω Y Z cs ss S M tgt ls st) : Go γ Ω Y Z cs ss S M pc ls (.null :: st) := by
  obtain ⟨off, hd, ht⟩ := hd
  exact go_st (fun C H locs L k => lv_ifnullN C.1 C.2.1 hd ht k) k
theorem g_ifnn (hd : DJ Y.2.1 pc .ifnonnull tgt) {x : Nat} (k : Go γ Ω Y Z cs ss S M tgt ls st) : Go γ Ω Y Z cs ss S M pc ls (.ref x :: st) := by
  obtain ⟨off, hd, ht⟩ := hd
  exact go_st (fun C H locs L k => lv_ifnonnull C.1 C.2.1 hd ht k) k
theorem g_ifnnN (hd : DJ Y.2.1 pc .ifnonnull tgt) (hp : pc + 3 = pc') (k : Go γ Ω Y Z cs ss S M pc' ls st) : Go γ Ω Y Z cs ss S M pc ls (.null :: st) := by
  obtain ⟨off, hd, ht⟩ := hd
  subst hp
  exact go_st (fun C H locs L k => lv_ifnonnullN C.1 C.2.1 hd k) k
/-! switches -/
def CasG (γ : Cg) (Ω : Ow) (Y : Md) (Z : State → Prop) (cs ss : Nat) (S : Sg) (M : Mm) (ls : List (Option Value)) (st : List Value) (a : Int) : List (Int × Nat) → Prop
  | [] => True
  | q :: t => (a = q.1 → Go γ Ω Y Z cs ss S M q.2 ls st) ∧ CasG γ Ω Y Z cs ss S M ls st a t
theorem casN : CasG γ Ω Y Z cs ss S M ls st a [] := trivial
theorem casC {t : List (Int × Nat)} {q : Int} (k : a = q → Go γ Ω Y Z cs ss S M tgt ls st) (h : CasG γ Ω Y Z cs ss S M ls st a t) : CasG γ Ω Y Z cs ss S M ls st a ((q, tgt) :: t) := ⟨k, h⟩
theorem cas_get : ∀ {t : List (Int × Nat)}, CasG γ Ω Y Z cs ss S M ls st a t → ∀ q ∈ t, a = q.1 → Go γ Ω Y Z cs ss S M q.2 ls st := by
  intro t
  induction t with
  | nil => intro _ q h; cases h
  | cons x t ih =>
    intro h q hq e
    rcases List.mem_cons.mp hq with rfl | hq
    · exact h.1 e
    · exact ih h.2 q hq e
/-- a tableswitch: its cases, its default -/
def TB (cc : ByteArray) (pc : Nat) (cases : List (Int × Nat)) (dfl : Nat) : Prop := ∃ (d lo hi : Int) (offs : Array Int) (len : Nat), decode cc pc = .ok (.tableswitch d lo hi offs, len) ∧ (pc : Int) + d = (dfl : Int) ∧ hi = lo + cases.length - 1 ∧ ∀ i : Nat, i < cases.length → cases[i]? = some (lo + i, ((pc : Int) + offs.getD i 0).toNat) ∧ offs[i]? = some (offs.getD i 0) ∧ 0 ≤ (pc : Int) + offs.getD i 0
theorem g_tab {cases : List (Int × Nat)} {dfl : Nat} (f : TB Y.2.1 pc cases dfl) (ha : rg a) (kd : (∀ q ∈ cases, a ≠ q.1) → Go γ Ω Y Z cs ss S M dfl ls st) (ki : CasG γ Ω Y Z cs ss S M ls st a cases) : Go γ Ω Y Z cs ss S M pc ls (vi a :: st) := by
  obtain ⟨d, lo, hi, offs, len, hd, hdf, hhi, hall⟩ := f
  by_cases hin : lo ≤ a ∧ a ≤ hi
  · obtain ⟨i, hi0⟩ : ∃ i : Nat, a = lo + (i : Int) := ⟨(a - lo).toNat, by omega⟩
    have hil : i < cases.length := by omega
    obtain ⟨e1, e2, e3⟩ := hall i hil
    have kk := cas_get ki _ (List.mem_of_getElem? e1) hi0
    refine go_st (fun C H locs L k => lv_tableIn (tgt := ((pc : Int) + offs.getD i 0).toNat) (off := offs.getD i 0) C.1 C.2.1 hd (by rw [tI ha]; omega) (by rw [tI ha]; omega) ?_ (by omega) k) kk
    rw [tI ha, show (a - lo).toNat = i by omega]
    exact e2
  · refine go_st (fun C H locs L k => lv_tableOut C.1 C.2.1 hd (by rw [tI ha]; omega) hdf k) (kd fun q hq e => ?_)
    obtain ⟨i, hi0⟩ := List.getElem?_of_mem hq
    have hil := (List.getElem?_eq_some_iff.mp hi0).1
    have e1 := (hall i hil).1
    rw [hi0] at e1
    cases e1
    simp only at e
    omega
/-- a lookupswitch -/
def LK (cc : ByteArray) (pc : Nat) (cases : List (Int × Nat)) (dfl : Nat) : Prop := ∃ (d : Int) (ps : Array (Int × Int)) (len : Nat), decode cc pc = .ok (.lookupswitch d ps, len) ∧ (ps.toList.zip (ps.toList.drop 1)).all (fun (a, next) => a.1 < next.1) = true ∧ (pc : Int) + d = (dfl : Int) ∧ cases = ps.toList.map (fun q => (q.1, ((pc : Int) + q.2).toNat)) ∧ ps.toList.all (fun q => decide (0 ≤ (pc : Int) + q.2)) = true
theorem g_lk {cases : List (Int × Nat)} {dfl : Nat} (f : LK Y.2.1 pc cases dfl) (ha : rg a) (kd : (∀ q ∈ cases, a ≠ q.1) → Go γ Ω Y Z cs ss S M dfl ls st) (ki : CasG γ Ω Y Z cs ss S M ls st a cases) : Go γ Ω Y Z cs ss S M pc ls (vi a :: st) := by
  obtain ⟨d, ps, len, hd, hsorted, hdf, hcs, hpos⟩ := f
  have key : ∀ l : List (Int × Int), l.all (fun q => decide (0 ≤ (pc : Int) + q.2)) = true → (∃ q ∈ l, a = q.1 ∧ Op.lookupswitch.offset l d a = q.2 ∧ 0 ≤ (pc : Int) + q.2) ∨ ((∀ q ∈ l, a ≠ q.1) ∧ Op.lookupswitch.offset l d a = d) := by
    intro l
    induction l with
    | nil => intro _; exact Or.inr ⟨(fun q h => by cases h), rfl⟩
    | cons x t ih =>
      intro h
      simp only [List.all_cons, Bool.and_eq_true, decide_eq_true_eq] at h
      obtain ⟨x1, x2⟩ := x
      rw [Op.lookupswitch.offset_cons]
      by_cases hx : x1 = a
      · rw [if_pos hx]
        exact Or.inl ⟨_, List.mem_cons_self, hx.symm, rfl, h.1⟩
      · rw [if_neg hx]
        rcases ih h.2 with ⟨q, q1, q2⟩ | ⟨q1, q2⟩
        · exact Or.inl ⟨q, List.mem_cons_of_mem _ q1, q2⟩
        · refine Or.inr ⟨fun q hq => ?_, q2⟩
          rcases List.mem_cons.mp hq with rfl | hq
          · exact fun e => hx e.symm
          · exact q1 q hq
  rcases key ps.toList hpos with ⟨q, q1, q2, q3, q4⟩ | ⟨q1, q2⟩
  · have kk := cas_get ki (q.1, ((pc : Int) + q.2).toNat) (by rw [hcs]; exact List.mem_map.mpr ⟨q, q1, rfl⟩) q2
    exact go_st (fun C H locs L k => lv_lookup (tgt := ((pc : Int) + q.2).toNat) (off := q.2) C.1 C.2.1 hd hsorted (by rw [tI ha]; exact q3) (by omega) k) kk
  · refine go_st (fun C H locs L k => lv_lookup (off := d) C.1 C.2.1 hd hsorted (by rw [tI ha]; exact q2) hdf k) (kd fun q hq => ?_)
    rw [hcs] at hq
    obtain ⟨q', h1, rfl⟩ := List.mem_map.mp hq
    exact q1 q' h1
/-! Math.max, min -/
def MM (own : String) (cc : ByteArray) (pc pc' : Nat) (y : MethodName) (code : ByteArray) : Prop := ∃ idx, D3 cc pc (.invokestatic idx) pc' ∧ Cond.methodLink own idx y ∈ Ug ∧ Cond.static y ∈ Ug ∧ Cond.initialized "java/lang/Math" ∈ Ug ∧ Cond.code y code 2 (some .int) ∈ Ug
theorem g_max (hd : MM Y.1.cls Y.2.1 pc pc' Lib.Math.max.name Lib.Math.max.code) (ha : rg a) (hb : rg b) (hR : 1 ≤ (cR γ).frames ∧ (st.map fun v => v.category).sum + 13 ≤ (cR γ).locals) (hf : cs ≤ (cR γ).cells ∧ ss ≤ (cR γ).slots) (k : Go γ Ω Y Z cs ss S M pc' ls (vi (max a b) :: st)) : Go γ Ω Y Z cs ss S M pc ls (vi b :: vi a :: st) := by
  obtain ⟨idx, ⟨hd, rfl⟩, w1, w2, w3, w4⟩ := hd
  intro C H locs L h1 h2 h3 h4
  refine va_mmax C.1 C.2.1 (C.2.2.1.trans h4.1.symm) C.2.2.2.1 (C.2.2.2.2.1 _ w1) (C.2.2.2.2.1 _ w2) (C.2.2.2.2.1 _ w3) (C.2.2.2.2.1 _ w4) hR.1 hR.2 hf.1 hf.2 hd ?_
  have e : (if Int32.ofInt a < Int32.ofInt b then Int32.ofInt b else Int32.ofInt a) = Int32.ofInt (max a b) := by
    by_cases h : a < b
    · rw [if_pos ((oI_lt ha hb).mpr h), show max a b = b by omega]
    · rw [if_neg (fun q => h ((oI_lt ha hb).mp q)), show max a b = a by omega]
  rw [e]
  exact k C H locs L h1 h2 h3 h4
theorem g_min (hd : MM Y.1.cls Y.2.1 pc pc' Lib.Math.min.name Lib.Math.min.code) (ha : rg a) (hb : rg b) (hR : 1 ≤ (cR γ).frames ∧ (st.map fun v => v.category).sum + 13 ≤ (cR γ).locals) (hf : cs ≤ (cR γ).cells ∧ ss ≤ (cR γ).slots) (k : Go γ Ω Y Z cs ss S M pc' ls (vi (min a b) :: st)) : Go γ Ω Y Z cs ss S M pc ls (vi b :: vi a :: st) := by
  obtain ⟨idx, ⟨hd, rfl⟩, w1, w2, w3, w4⟩ := hd
  intro C H locs L h1 h2 h3 h4
  refine va_mmin C.1 C.2.1 (C.2.2.1.trans h4.1.symm) C.2.2.2.1 (C.2.2.2.2.1 _ w1) (C.2.2.2.2.1 _ w2) (C.2.2.2.2.1 _ w3) (C.2.2.2.2.1 _ w4) hR.1 hR.2 hf.1 hf.2 hd ?_
  have e : (if Int32.ofInt b < Int32.ofInt a then Int32.ofInt b else Int32.ofInt a) = Int32.ofInt (min a b) := by
    by_cases h : b < a
    · rw [if_pos ((oI_lt hb ha).mpr h), show min a b = b by omega]
    · rw [if_neg (fun q => h ((oI_lt hb ha).mp q)), show min a b = a by omega]
  rw [e]
  exact k C H locs L h1 h2 h3 h4
/-! System.arraycopy -/
def cpM (M : Mm) (r0 sp r1 dp n : Nat) : Mm := fun k j => if k = r1 ∧ dp ≤ j ∧ j < dp + n then M r0 (sp + (j - dp)) else M k j
theorem cpM_row {M : Mm} {r0 sp r1 dp n k : Nat} (h : k ≠ r1) : cpM M r0 sp r1 dp n k = M k := by funext i; simp [cpM, h]
def AC (own : String) (cc : ByteArray) (pc pc' : Nat) : Prop := ∃ idx, D3 cc pc (.invokestatic idx) pc' ∧ Cond.methodLink own idx arraycopyName ∈ Ug ∧ Cond.native arraycopyName ∈ Ug ∧ Cond.static arraycopyName ∈ Ug ∧ Cond.initialized "java/lang/System" ∈ Ug
theorem hw_cp {H H1 : Heap} {r0 r1 sp dp n1 c : Nat} (hW : HW Ω S M H) (hr : Ar S r1 c n1) (hP : va_P Ω.2.2.1 vwCl ((wsO Ω S M).set r1 (bs Ω + r1, .inl (Ω.2.2.1.1 c, arr Ω S (cpM M r0 sp r1 dp n) r1 c n1))) H1) (hz : H1.size = H.size) : HW Ω S (cpM M r0 sp r1 dp n) H1 := by
  refine ⟨hz.trans hW.1, ?_, fun k hk j => ⟨?_, (hW.2.2 k hk j).2⟩⟩
  · rw [wsO_set hr.2.1 rfl (cont_ar (M := cpM M r0 sp r1 dp n) hr) (fun k hk => cont_eq (cpM_row hk) rfl)] at hP
    exact hP
  · have hne : k ≠ r1 := by have := hr.2.1; omega
    rw [cpM_row hne]
    exact (hW.2.2 k hk j).1
theorem g_acopyI {r0 r1 sp dp n0 n1 : Nat} (hd : AC Y.1.cls Y.2.1 pc pc') (hr0 : Ar S r0 12 n0) (hr1 : Ar S r1 12 n1) (h4 : sp + n ≤ n0) (h5 : dp + n ≤ n1) (hR : 1 ≤ (cR γ).frames ∧ (st.map fun v => v.category).sum + (nativeFrameWords "java/lang/System" "arraycopy" 5 + 11) ≤ (cR γ).locals) (hz : (cS γ).heap.size + cs ≤ bs Ω + S.1) (k : Go γ Ω Y Z cs ss S (cpM M r0 sp r1 dp n) pc' ls st) : Go γ Ω Y Z cs ss S M pc ls (vi (n : Int) :: vi (dp : Int) :: vr Ω r1 :: vi (sp : Int) :: vr Ω r0 :: st) := by
  obtain ⟨idx, ⟨hd, rfl⟩, w1, w2, w3, w4⟩ := hd
  intro C H locs L a1 a2 a3 a4
  have hn0 := ar_le hr0
  have hn1 := ar_le hr1
  have cl : ∀ j : Nat, j ≤ 1000 → (Int32.ofInt (j : Int)).toNatClampNeg = j := fun j hj => clamp (by omega)
  have nn : ∀ j : Nat, j ≤ 1000 → ¬ Int32.ofInt (j : Int) < 0 := fun j hj => by rw [zI, oI_lt (by omega) (by omega)]; omega
  refine va_copyi (A := Lo Ω) (H0 := H) C.1 C.2.1 (C.2.2.1.trans a4.1.symm) C.2.2.2.1 (C.2.2.2.2.1 _ w1) (C.2.2.2.2.1 _ w2) (C.2.2.2.2.1 _ w3) (C.2.2.2.2.1 _ w4) (cx_K C) a1.2.1 wsO_D ⟨Nat.le_refl _, fun _ _ _ => rfl, a3⟩ r0 r1 1 1 (f := fun j => Int32.ofInt (M r0 j)) (g := fun j => Int32.ofInt (M r1 j)) (n0 := n0) (n1 := n1) ((wsO_get hr0.2.1).trans (by rw [cont_ar hr0]; rfl)) ((wsO_get hr1.2.1).trans (by rw [cont_ar hr1]; rfl)) rfl rfl rfl (nn _ (by omega)) (nn _ (by omega)) (nn _ (by omega)) (by rw [cl _ (by omega), cl _ (by omega)]; exact h4) (by rw [cl _ (by omega), cl _ (by omega)]; exact h5) (fun i _ => rfl) hR.1 hR.2 hd fun H1 locs1 hP hD hS => ?_
  intro T hT X
  have hsz : H1.size = H.size := by
    have e1 := X.heapSize
    rw [hT] at e1
    have e2 := hS.1
    have e3 := a1.1
    omega
  refine k C H1 locs1 L (hw_cp (r0 := r0) (sp := sp) (dp := dp) (n := n) a1 hr1 ?_ hsz) (fun q hq => (hS.2.1 q (by rw [a1.1]; omega) (by show ¬ bs Ω ≤ q; omega)).trans (a2 q hq)) hS.2.2 a4 T hT X
  have e : (arr Ω S (cpM M r0 sp r1 dp n) r1 12 n1) = (n1, .inl (va_cpy (fun j => Int32.ofInt (M r0 j)) (fun j => Int32.ofInt (M r1 j)) (Int32.ofInt (sp : Int)).toNatClampNeg (Int32.ofInt (dp : Int)).toNatClampNeg (Int32.ofInt (n : Int)).toNatClampNeg)) := by
    rw [cl _ (by omega), cl _ (by omega), cl _ (by omega)]
    show (n1, _) = (n1, _)
    congr 2
    funext j
    unfold cpM va_cpy
    by_cases h : dp ≤ j ∧ j < dp + n
    · rw [if_pos ⟨rfl, h⟩, if_pos h]
    · rw [if_neg (fun q => h q.2), if_neg h]
  rw [e]
  exact hP
theorem g_acopyL {r0 r1 sp dp n0 n1 : Nat} (hd : AC Y.1.cls Y.2.1 pc pc') (hr0 : Ar S r0 13 n0) (hr1 : Ar S r1 13 n1) (h4 : sp + n ≤ n0) (h5 : dp + n ≤ n1) (hR : 1 ≤ (cR γ).frames ∧ (st.map fun v => v.category).sum + (nativeFrameWords "java/lang/System" "arraycopy" 5 + 11) ≤ (cR γ).locals) (hz : (cS γ).heap.size + cs ≤ bs Ω + S.1) (k : Go γ Ω Y Z cs ss S (cpM M r0 sp r1 dp n) pc' ls st) : Go γ Ω Y Z cs ss S M pc ls (vi (n : Int) :: vi (dp : Int) :: vr Ω r1 :: vi (sp : Int) :: vr Ω r0 :: st) := by
  obtain ⟨idx, ⟨hd, rfl⟩, w1, w2, w3, w4⟩ := hd
  intro C H locs L a1 a2 a3 a4
  have hn0 := ar_le hr0
  have hn1 := ar_le hr1
  have cl : ∀ j : Nat, j ≤ 1000 → (Int32.ofInt (j : Int)).toNatClampNeg = j := fun j hj => clamp (by omega)
  have nn : ∀ j : Nat, j ≤ 1000 → ¬ Int32.ofInt (j : Int) < 0 := fun j hj => by rw [zI, oI_lt (by omega) (by omega)]; omega
  refine va_copyl (A := Lo Ω) (H0 := H) C.1 C.2.1 (C.2.2.1.trans a4.1.symm) C.2.2.2.1 (C.2.2.2.2.1 _ w1) (C.2.2.2.2.1 _ w2) (C.2.2.2.2.1 _ w3) (C.2.2.2.2.1 _ w4) (cx_K C) a1.2.1 wsO_D ⟨Nat.le_refl _, fun _ _ _ => rfl, a3⟩ r0 r1 2 2 (f := fun j => Int64.ofInt (M r0 j)) (g := fun j => Int64.ofInt (M r1 j)) (n0 := n0) (n1 := n1) ((wsO_get hr0.2.1).trans (by rw [cont_ar hr0]; rfl)) ((wsO_get hr1.2.1).trans (by rw [cont_ar hr1]; rfl)) rfl rfl rfl (nn _ (by omega)) (nn _ (by omega)) (nn _ (by omega)) (by rw [cl _ (by omega), cl _ (by omega)]; exact h4) (by rw [cl _ (by omega), cl _ (by omega)]; exact h5) (fun i _ => rfl) hR.1 hR.2 hd fun H1 locs1 hP hD hS => ?_
  intro T hT X
  have hsz : H1.size = H.size := by
    have e1 := X.heapSize
    rw [hT] at e1
    have e2 := hS.1
    have e3 := a1.1
    omega
  refine k C H1 locs1 L (hw_cp (r0 := r0) (sp := sp) (dp := dp) (n := n) a1 hr1 ?_ hsz) (fun q hq => (hS.2.1 q (by rw [a1.1]; omega) (by show ¬ bs Ω ≤ q; omega)).trans (a2 q hq)) hS.2.2 a4 T hT X
  have e : (arr Ω S (cpM M r0 sp r1 dp n) r1 13 n1) = (n1, .inr (.inl (va_cpy (fun j => Int64.ofInt (M r0 j)) (fun j => Int64.ofInt (M r1 j)) (Int32.ofInt (sp : Int)).toNatClampNeg (Int32.ofInt (dp : Int)).toNatClampNeg (Int32.ofInt (n : Int)).toNatClampNeg))) := by
    rw [cl _ (by omega), cl _ (by omega), cl _ (by omega)]
    show (n1, _) = (n1, _)
    congr 3
    funext j
    unfold cpM va_cpy
    by_cases h : dp ≤ j ∧ j < dp + n
    · rw [if_pos ⟨rfl, h⟩, if_pos h]
    · rw [if_neg (fun q => h q.2), if_neg h]
  rw [e]
  exact hP
end GM
end
section
section GS
variable {γ : Cg} {Ω : Ow} {Y Y2 : Md} {Z : State → Prop} {cs ss : Nat} {S : Sg} {M : Mm} {pc pc' tgt : Nat} {ls : List (Option Value)} {st rest As : List Value} {a b z : Int} {r c j n i d mc ms κ : Nat} {v : Value} {Q : Int → Sg → Mm → Prop}
/-! constants: the table of KINDS above, Strings -/
theorem cx_fx (C : Cx γ Ω Y) : Fx Ω := C.2.2.2.2.2.2.2.2.1
theorem cx_al (C : Cx γ Ω Y) : Ω.2.1.vm.Alike (cS γ).vm := C.2.2.2.2.2.2.2.2.2.1.alike
theorem cx_lo (C : Cx γ Ω Y) : ∀ q : Nat, q < Ω.2.1.heap.size → ¬ Lo Ω q → (cS γ).heap[q]? = Ω.2.1.heap[q]? := fun q _ h => C.2.2.2.2.2.2.2.2.2.2 q (Nat.lt_of_not_le h)
/-- the world below stands -/
theorem vaS_lo (C : Cx γ Ω Y) {H : Heap} {locs : List Loc} (h1 : HW Ω S M H) (h2 : ∀ q : Nat, q < bs Ω → H[q]? = Ω.2.1.heap[q]?) (h3 : ∀ q ∈ locs, bs Ω ≤ q.base) (hz : (cS γ).heap.size ≤ bs Ω + S.1) : va_S (Lo Ω) (cS γ).heap H locs := ⟨by rw [h1.1]; exact hz, fun q _ h => by rw [h2 q (Nat.lt_of_not_le h), C.2.2.2.2.2.2.2.2.2.2 q (Nat.lt_of_not_le h)], h3⟩
theorem g_kabS (hz : (cS γ).heap.size ≤ bs Ω + S.1) (hd : ∃ (idx : Nat) (host : String), D3 Y.2.1 pc (.getstatic idx) pc' ∧ Cond.fieldLinkNest Y.1.cls idx RX9 "KIND_ABOVE" "[I" host ∈ nestW) (k : Go γ Ω Y Z cs ss S M pc' ls (.ref (ka Ω 0) :: st)) : Go γ Ω Y Z cs ss S M pc ls st := by
  obtain ⟨idx, host, ⟨hd, rfl⟩, hl⟩ := hd
  exact fun C H locs L h1 h2 h3 h4 => va_getsN C.1 C.2.1 (((cx_fx C).2.2.1.moved (cx_al C)).kept (cx_lo C)) (vaS_lo C h1 h2 h3 hz) C.2.2.2.1 (cx_N C hl) (fun _ h => h) hd (k C H locs L h1 h2 h3 h4)
theorem g_kab (hz : (cS γ).heap.size ≤ bs Ω + S.1) (hd : D1 Y.2.1 pc .iaload pc') (hj : j < 7) (k : Go γ Ω Y Z cs ss S M pc' ls (vi (kAb.getD j 0) :: st)) : Go γ Ω Y Z cs ss S M pc ls (vi (j : Int) :: .ref (ka Ω 0) :: st) := by
  obtain ⟨hd, rfl⟩ := hd
  exact fun C H locs L h1 h2 h3 h4 => va_ti (i := Int32.ofInt (j : Int)) C.1 C.2.1 (((cx_fx C).2.2.2.1.moved (cx_al C)).kept (cx_lo C)) (vaS_lo C h1 h2 h3 hz) (vin hj (by decide)) (by rw [clamp (by omega)]) hd (k C H locs L h1 h2 h3 h4)
/-- String.COMPACT_STRINGS is true -/
theorem g_compact (hz : (cS γ).heap.size ≤ bs Ω + S.1) (hd : ∃ idx : Nat, D3 Y.2.1 pc (.getstatic idx) pc' ∧ Cond.fieldLink Y.1.cls idx "java/lang/String" "COMPACT_STRINGS" "Z" ∈ Ug) (k : Go γ Ω Y Z cs ss S M pc' ls (vi 1 :: st)) : Go γ Ω Y Z cs ss S M pc ls st := by
  obtain ⟨idx, ⟨hd, rfl⟩, hl⟩ := hd
  exact fun C H locs L h1 h2 h3 h4 => va_gets C.1 C.2.1 (((cx_fx C).2.2.2.2.1.moved (cx_al C)).kept (cx_lo C)) (vaS_lo C h1 h2 h3 hz) C.2.2.2.1 (C.2.2.2.2.1 _ hl) (fun _ h => h) hd (by have h := k C H locs L h1 h2 h3 h4; rw [vi1] at h; exact h)
/-- the formatter of refusals: null, or something -/
theorem g_siob (hz : (cS γ).heap.size ≤ bs Ω + S.1) (hd : ∃ idx : Nat, D3 Y.2.1 pc (.getstatic idx) pc' ∧ Cond.fieldLink Y.1.cls idx "jdk/internal/util/Preconditions" "SIOOBE_FORMATTER" "Ljava/util/function/BiFunction;" ∈ Ug) (k : ∀ v : Value, (v = .null ∨ ∃ x, v = .ref x) → Go γ Ω Y Z cs ss S M pc' ls (v :: st)) : Go γ Ω Y Z cs ss S M pc ls st := by
  obtain ⟨idx, ⟨hd, rfl⟩, hl⟩ := hd
  intro C H locs L h1 h2 h3 h4
  rcases ((cx_fx C).2.2.2.2.2.1.moved (cx_al C)).kept (cx_lo C) with hz0 | ⟨t, hz0⟩
  · exact va_gets C.1 C.2.1 hz0 (vaS_lo C h1 h2 h3 hz) C.2.2.2.1 (C.2.2.2.2.1 _ hl) (fun _ h => h) hd (k _ (Or.inl rfl) C H locs L h1 h2 h3 h4)
  · exact va_gets C.1 C.2.1 hz0 (vaS_lo C h1 h2 h3 hz) C.2.2.2.1 (C.2.2.2.2.1 _ hl) (fun _ h => h) hd (k _ (Or.inr ⟨_, rfl⟩) C H locs L h1 h2 h3 h4)
theorem cx_str (C : Cx γ Ω Y) (hi : i < 9) : Fs Ω i Ω.2.1 Ω.2.1.heap := (cx_fx C).2.2.2.2.2.2 i hi
theorem g_ldcS (hi : i < 9) (hd : D2 Y.2.1 pc (.ldc (sc i).2.1) pc') (ho : (sc i).1 = Y.1.cls) (k : Go γ Ω Y Z cs ss S M pc' ls (.ref (ka Ω (1 + i)) :: st)) : Go γ Ω Y Z cs ss S M pc ls st := by
  obtain ⟨hd, rfl⟩ := hd
  exact fun C H locs L h1 h2 h3 h4 => va_ldcS C.1 C.2.1 C.2.2.2.1 (by have h := (cx_str C hi).1.warm C.2.2.2.2.2.2.2.2.2.1; rw [ho] at h; exact h) hd (k C H locs L h1 h2 h3 h4)
theorem g_sval (hz : (cS γ).heap.size ≤ bs Ω + S.1) (hi : i < 9) (hd : ∃ idx : Nat, D3 Y.2.1 pc (.getfield idx) pc' ∧ Cond.fieldLink Y.1.cls idx "java/lang/String" "value" "[B" ∈ Ug) (k : Go γ Ω Y Z cs ss S M pc' ls (.ref (ka Ω (20 + i)) :: st)) : Go γ Ω Y Z cs ss S M pc ls (.ref (ka Ω (1 + i)) :: st) := by
  obtain ⟨idx, ⟨hd, rfl⟩, hl⟩ := hd
  exact fun C H locs L h1 h2 h3 h4 => vk_getf C.1 C.2.1 (((cx_str C hi).2.2.2.1.moved (cx_al C)).kept (cx_lo C)) (vaS_lo C h1 h2 h3 hz) C.2.2.2.1 (C.2.2.2.2.1 _ hl) (fun _ h => h) hd (k C H locs L h1 h2 h3 h4)
theorem g_scod (hz : (cS γ).heap.size ≤ bs Ω + S.1) (hi : i < 9) (hd : ∃ idx : Nat, D3 Y.2.1 pc (.getfield idx) pc' ∧ Cond.fieldLink Y.1.cls idx "java/lang/String" "coder" "B" ∈ Ug) (k : Go γ Ω Y Z cs ss S M pc' ls (vi 0 :: st)) : Go γ Ω Y Z cs ss S M pc ls (.ref (ka Ω (1 + i)) :: st) := by
  obtain ⟨idx, ⟨hd, rfl⟩, hl⟩ := hd
  exact fun C H locs L h1 h2 h3 h4 => vk_getf C.1 C.2.1 (((cx_str C hi).2.2.1.moved (cx_al C)).kept (cx_lo C)) (vaS_lo C h1 h2 h3 hz) C.2.2.2.1 (C.2.2.2.2.1 _ hl) (fun _ h => h) hd (by have h := k C H locs L h1 h2 h3 h4; rw [vi0] at h; exact h)
theorem g_slen (hz : (cS γ).heap.size ≤ bs Ω + S.1) (hi : i < 9) (hd : D1 Y.2.1 pc .arraylength pc') (k : Go γ Ω Y Z cs ss S M pc' ls (vi ((sc i).2.2.2.length : Int) :: st)) : Go γ Ω Y Z cs ss S M pc ls (.ref (ka Ω (20 + i)) :: st) := by
  obtain ⟨hd, rfl⟩ := hd
  exact fun C H locs L h1 h2 h3 h4 => va_tlen C.1 C.2.1 (((cx_str C hi).2.2.2.2.moved (cx_al C)).kept (cx_lo C)) (vaS_lo C h1 h2 h3 hz) (Int32.ofInt_eq_ofNat).symm hd (k C H locs L h1 h2 h3 h4)
theorem g_sald (hz : (cS γ).heap.size ≤ bs Ω + S.1) (hi : i < 9) (hd : D1 Y.2.1 pc .baload pc') (hj : j < (sc i).2.2.2.length) (hl : (sc i).2.2.2.length ≤ 1000) (k : Go γ Ω Y Z cs ss S M pc' ls (vi ((sc i).2.2.2.getD j 0) :: st)) : Go γ Ω Y Z cs ss S M pc ls (vi (j : Int) :: .ref (ka Ω (20 + i)) :: st) := by
  obtain ⟨hd, rfl⟩ := hd
  exact fun C H locs L h1 h2 h3 h4 => va_tb (i := Int32.ofInt (j : Int)) C.1 C.2.1 (((cx_str C hi).2.2.2.2.moved (cx_al C)).kept (cx_lo C)) (vaS_lo C h1 h2 h3 hz) (vin hj hl) (by rw [clamp (by omega)]) hd (k C H locs L h1 h2 h3 h4)
/-- a String as a receiver -/
theorem str_rec (hi : i < 9) (hcls : Y2.1.cls = "java/lang/String") : Cx γ Ω Y → ∀ H : Heap, HW Ω S M H → (∀ q : Nat, q < bs Ω → H[q]? = Ω.2.1.heap[q]?) → ∃ cell : Cell, H[ka Ω (1 + i)]? = some cell ∧ cell.vm.isStatics = false ∧ (cS γ).vm.findClass Y2.1.cls = some cell.cls := by
  intro C H h1 h2
  obtain ⟨cell, e1, e2, e3, e4⟩ := (cx_str C hi).2.1.moved (cx_al C)
  exact ⟨cell, by rw [h2 _ (Nat.lt_of_not_le e4)]; exact e1, e2, by rw [hcls]; exact e3⟩
end GS
end
