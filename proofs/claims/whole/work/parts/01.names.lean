-- ===== PART A: goes FIRST, ahead of the names: the tables' words, and 'selects' of the private methods out of them =====
/-- a private method of a class that the tables say can be made, by its rows of tables_1 -/
def lw_okq (q : MethodName × Nat) : Prop := (q.1.cls ≠ "java/lang/invoke/MethodHandle" ∧ q.1.cls ≠ "java/lang/invoke/VarHandle") ∧ Cond.instantiable q.1.cls q.2 ∈ tables_1 ∧ Cond.privateMethod q.1 ∈ tables_1 ∧ Cond.instanceMethod q.1 ∈ tables_1
theorem lw_p0 : lw_okq (⟨"WitnessPays$Law", "holds", "(II)Z"⟩, 8) := ⟨⟨by decide +kernel, by decide +kernel⟩, List.mem_of_getElem? (i := 35) (by decide +kernel), List.mem_of_getElem? (i := 334) (by decide +kernel), List.mem_of_getElem? (i := 335) (by decide +kernel)⟩
theorem lw_p1 : lw_okq (⟨"WitnessPays$Street", "lookBy", "(LWitnessPays$Person;)V"⟩, 5) := ⟨⟨by decide +kernel, by decide +kernel⟩, List.mem_of_getElem? (i := 148) (by decide +kernel), List.mem_of_getElem? (i := 358) (by decide +kernel), List.mem_of_getElem? (i := 359) (by decide +kernel)⟩
theorem lw_p2 : lw_okq (⟨"WitnessPays$Street", "seersBehind", "(II)I"⟩, 5) := ⟨⟨by decide +kernel, by decide +kernel⟩, List.mem_of_getElem? (i := 148) (by decide +kernel), List.mem_of_getElem? (i := 409) (by decide +kernel), List.mem_of_getElem? (i := 410) (by decide +kernel)⟩
theorem lw_p3 : lw_okq (⟨"WitnessPays$LawText", "readClause", "()Z"⟩, 4) := ⟨⟨by decide +kernel, by decide +kernel⟩, List.mem_of_getElem? (i := 29) (by decide +kernel), List.mem_of_getElem? (i := 450) (by decide +kernel), List.mem_of_getElem? (i := 451) (by decide +kernel)⟩
theorem lw_p4 : lw_okq (⟨"WitnessPays$LawText", "readWord", "()I"⟩, 4) := ⟨⟨by decide +kernel, by decide +kernel⟩, List.mem_of_getElem? (i := 29) (by decide +kernel), List.mem_of_getElem? (i := 454) (by decide +kernel), List.mem_of_getElem? (i := 455) (by decide +kernel)⟩
theorem lw_p5 : lw_okq (⟨"WitnessPays$LawText", "take", "(C)Z"⟩, 4) := ⟨⟨by decide +kernel, by decide +kernel⟩, List.mem_of_getElem? (i := 29) (by decide +kernel), List.mem_of_getElem? (i := 458) (by decide +kernel), List.mem_of_getElem? (i := 459) (by decide +kernel)⟩
theorem lw_p6 : lw_okq (⟨"WitnessPays$LawText", "readNumber", "()I"⟩, 4) := ⟨⟨by decide +kernel, by decide +kernel⟩, List.mem_of_getElem? (i := 29) (by decide +kernel), List.mem_of_getElem? (i := 462) (by decide +kernel), List.mem_of_getElem? (i := 463) (by decide +kernel)⟩
theorem lw_p7 : lw_okq (⟨"WitnessPays$LawText", "takeAnyOf", "(Ljava/lang/String;)I"⟩, 4) := ⟨⟨by decide +kernel, by decide +kernel⟩, List.mem_of_getElem? (i := 29) (by decide +kernel), List.mem_of_getElem? (i := 467) (by decide +kernel), List.mem_of_getElem? (i := 468) (by decide +kernel)⟩
theorem lw_p8 : lw_okq (⟨"WitnessPays$LawText", "readEither", "(I)Z"⟩, 4) := ⟨⟨by decide +kernel, by decide +kernel⟩, List.mem_of_getElem? (i := 29) (by decide +kernel), List.mem_of_getElem? (i := 544) (by decide +kernel), List.mem_of_getElem? (i := 545) (by decide +kernel)⟩
theorem lw_p9 : lw_okq (⟨"WitnessPays$LawText", "readBoth", "(I)Z"⟩, 4) := ⟨⟨by decide +kernel, by decide +kernel⟩, List.mem_of_getElem? (i := 29) (by decide +kernel), List.mem_of_getElem? (i := 548) (by decide +kernel), List.mem_of_getElem? (i := 549) (by decide +kernel)⟩
theorem lw_p10 : lw_okq (⟨"WitnessPays$LawText", "readFactor", "(I)Z"⟩, 4) := ⟨⟨by decide +kernel, by decide +kernel⟩, List.mem_of_getElem? (i := 29) (by decide +kernel), List.mem_of_getElem? (i := 552) (by decide +kernel), List.mem_of_getElem? (i := 553) (by decide +kernel)⟩
theorem lw_p11 : lw_okq (⟨"WitnessPays$Street", "paidBy", "(I)I"⟩, 5) := ⟨⟨by decide +kernel, by decide +kernel⟩, List.mem_of_getElem? (i := 148) (by decide +kernel), List.mem_of_getElem? (i := 591) (by decide +kernel), List.mem_of_getElem? (i := 592) (by decide +kernel)⟩
theorem lw_p12 : lw_okq (⟨"WitnessPays", "isPlanRow", "(II)Z"⟩, 8) := ⟨⟨by decide +kernel, by decide +kernel⟩, List.mem_of_getElem? (i := 21) (by decide +kernel), List.mem_of_getElem? (i := 701) (by decide +kernel), List.mem_of_getElem? (i := 702) (by decide +kernel)⟩
theorem lw_p13 : lw_okq (⟨"WitnessPays", "tapeOf", "(I)LWitnessPays$Tape;"⟩, 8) := ⟨⟨by decide +kernel, by decide +kernel⟩, List.mem_of_getElem? (i := 21) (by decide +kernel), List.mem_of_getElem? (i := 732) (by decide +kernel), List.mem_of_getElem? (i := 733) (by decide +kernel)⟩
theorem lw_p14 : lw_okq (⟨"WitnessPays$Actor", "looks", "(II)I"⟩, 5) := ⟨⟨by decide +kernel, by decide +kernel⟩, List.mem_of_getElem? (i := 96) (by decide +kernel), List.mem_of_getElem? (i := 773) (by decide +kernel), List.mem_of_getElem? (i := 774) (by decide +kernel)⟩
theorem lw_p15 : lw_okq (⟨"WitnessPays$Actor", "begin", "(I)V"⟩, 5) := ⟨⟨by decide +kernel, by decide +kernel⟩, List.mem_of_getElem? (i := 96) (by decide +kernel), List.mem_of_getElem? (i := 777) (by decide +kernel), List.mem_of_getElem? (i := 778) (by decide +kernel)⟩
def lw_privs_1 : List (MethodName × Nat) := [(⟨"WitnessPays$Law", "holds", "(II)Z"⟩, 8), (⟨"WitnessPays$Street", "lookBy", "(LWitnessPays$Person;)V"⟩, 5), (⟨"WitnessPays$Street", "seersBehind", "(II)I"⟩, 5), (⟨"WitnessPays$LawText", "readClause", "()Z"⟩, 4), (⟨"WitnessPays$LawText", "readWord", "()I"⟩, 4), (⟨"WitnessPays$LawText", "take", "(C)Z"⟩, 4), (⟨"WitnessPays$LawText", "readNumber", "()I"⟩, 4), (⟨"WitnessPays$LawText", "takeAnyOf", "(Ljava/lang/String;)I"⟩, 4), (⟨"WitnessPays$LawText", "readEither", "(I)Z"⟩, 4), (⟨"WitnessPays$LawText", "readBoth", "(I)Z"⟩, 4), (⟨"WitnessPays$LawText", "readFactor", "(I)Z"⟩, 4), (⟨"WitnessPays$Street", "paidBy", "(I)I"⟩, 5), (⟨"WitnessPays", "isPlanRow", "(II)Z"⟩, 8), (⟨"WitnessPays", "tapeOf", "(I)LWitnessPays$Tape;"⟩, 8), (⟨"WitnessPays$Actor", "looks", "(II)I"⟩, 5), (⟨"WitnessPays$Actor", "begin", "(I)V"⟩, 5)]
theorem lw_r1 : ∀ q ∈ lw_privs_1, lw_okq q := List.forall_mem_cons.mpr ⟨lw_p0, List.forall_mem_cons.mpr ⟨lw_p1, List.forall_mem_cons.mpr ⟨lw_p2, List.forall_mem_cons.mpr ⟨lw_p3, List.forall_mem_cons.mpr ⟨lw_p4, List.forall_mem_cons.mpr ⟨lw_p5, List.forall_mem_cons.mpr ⟨lw_p6, List.forall_mem_cons.mpr ⟨lw_p7, List.forall_mem_cons.mpr ⟨lw_p8, List.forall_mem_cons.mpr ⟨lw_p9, List.forall_mem_cons.mpr ⟨lw_p10, List.forall_mem_cons.mpr ⟨lw_p11, List.forall_mem_cons.mpr ⟨lw_p12, List.forall_mem_cons.mpr ⟨lw_p13, List.forall_mem_cons.mpr ⟨lw_p14, List.forall_mem_cons.mpr ⟨lw_p15, fun _ h => absurd h List.not_mem_nil⟩⟩⟩⟩⟩⟩⟩⟩⟩⟩⟩⟩⟩⟩⟩⟩
theorem lw_p16 : lw_okq (⟨"WitnessPays$Actor", "swears", "(II)I"⟩, 5) := ⟨⟨by decide +kernel, by decide +kernel⟩, List.mem_of_getElem? (i := 96) (by decide +kernel), List.mem_of_getElem? (i := 781) (by decide +kernel), List.mem_of_getElem? (i := 782) (by decide +kernel)⟩
theorem lw_p17 : lw_okq (⟨"WitnessPays$Actor", "tells", "(II)I"⟩, 5) := ⟨⟨by decide +kernel, by decide +kernel⟩, List.mem_of_getElem? (i := 96) (by decide +kernel), List.mem_of_getElem? (i := 785) (by decide +kernel), List.mem_of_getElem? (i := 786) (by decide +kernel)⟩
theorem lw_p18 : lw_okq (⟨"WitnessPaysModel", "isOne", "(I)Z"⟩, 44) := ⟨⟨by decide +kernel, by decide +kernel⟩, List.mem_of_getElem? (i := 827) (by decide +kernel), List.mem_of_getElem? (i := 981) (by decide +kernel), List.mem_of_getElem? (i := 982) (by decide +kernel)⟩
theorem lw_p19 : lw_okq (⟨"WitnessPaysModel", "reach", "(I)I"⟩, 44) := ⟨⟨by decide +kernel, by decide +kernel⟩, List.mem_of_getElem? (i := 827) (by decide +kernel), List.mem_of_getElem? (i := 985) (by decide +kernel), List.mem_of_getElem? (i := 986) (by decide +kernel)⟩
theorem lw_p20 : lw_okq (⟨"WitnessPaysModel", "sum", "(I)I"⟩, 44) := ⟨⟨by decide +kernel, by decide +kernel⟩, List.mem_of_getElem? (i := 827) (by decide +kernel), List.mem_of_getElem? (i := 989) (by decide +kernel), List.mem_of_getElem? (i := 990) (by decide +kernel)⟩
theorem lw_p21 : lw_okq (⟨"WitnessPaysModel", "isTrue", "(II)Z"⟩, 44) := ⟨⟨by decide +kernel, by decide +kernel⟩, List.mem_of_getElem? (i := 827) (by decide +kernel), List.mem_of_getElem? (i := 993) (by decide +kernel), List.mem_of_getElem? (i := 994) (by decide +kernel)⟩
theorem lw_p22 : lw_okq (⟨"WitnessPaysModel", "letterOf", "(II)I"⟩, 44) := ⟨⟨by decide +kernel, by decide +kernel⟩, List.mem_of_getElem? (i := 827) (by decide +kernel), List.mem_of_getElem? (i := 997) (by decide +kernel), List.mem_of_getElem? (i := 998) (by decide +kernel)⟩
theorem lw_p23 : lw_okq (⟨"WitnessPaysModel", "sight", "(I)I"⟩, 44) := ⟨⟨by decide +kernel, by decide +kernel⟩, List.mem_of_getElem? (i := 827) (by decide +kernel), List.mem_of_getElem? (i := 1003) (by decide +kernel), List.mem_of_getElem? (i := 1004) (by decide +kernel)⟩
theorem lw_p24 : lw_okq (⟨"WitnessPaysModel", "isWall", "(I)Z"⟩, 44) := ⟨⟨by decide +kernel, by decide +kernel⟩, List.mem_of_getElem? (i := 827) (by decide +kernel), List.mem_of_getElem? (i := 1007) (by decide +kernel), List.mem_of_getElem? (i := 1008) (by decide +kernel)⟩
theorem lw_p25 : lw_okq (⟨"WitnessPaysModel", "shun", "(I)I"⟩, 44) := ⟨⟨by decide +kernel, by decide +kernel⟩, List.mem_of_getElem? (i := 827) (by decide +kernel), List.mem_of_getElem? (i := 1011) (by decide +kernel), List.mem_of_getElem? (i := 1012) (by decide +kernel)⟩
theorem lw_p26 : lw_okq (⟨"WitnessPaysModel", "alone", "(I)I"⟩, 44) := ⟨⟨by decide +kernel, by decide +kernel⟩, List.mem_of_getElem? (i := 827) (by decide +kernel), List.mem_of_getElem? (i := 1016) (by decide +kernel), List.mem_of_getElem? (i := 1017) (by decide +kernel)⟩
theorem lw_p27 : lw_okq (⟨"WitnessPaysModel", "seers", "(I)I"⟩, 44) := ⟨⟨by decide +kernel, by decide +kernel⟩, List.mem_of_getElem? (i := 827) (by decide +kernel), List.mem_of_getElem? (i := 1020) (by decide +kernel), List.mem_of_getElem? (i := 1021) (by decide +kernel)⟩
theorem lw_p28 : lw_okq (⟨"WitnessPaysModel", "isClause", "(I)Z"⟩, 44) := ⟨⟨by decide +kernel, by decide +kernel⟩, List.mem_of_getElem? (i := 827) (by decide +kernel), List.mem_of_getElem? (i := 1048) (by decide +kernel), List.mem_of_getElem? (i := 1049) (by decide +kernel)⟩
theorem lw_p29 : lw_okq (⟨"WitnessPaysModel", "isAll", "(Ljava/lang/String;)Z"⟩, 44) := ⟨⟨by decide +kernel, by decide +kernel⟩, List.mem_of_getElem? (i := 827) (by decide +kernel), List.mem_of_getElem? (i := 1053) (by decide +kernel), List.mem_of_getElem? (i := 1054) (by decide +kernel)⟩
theorem lw_p30 : lw_okq (⟨"WitnessPaysModel", "is", "(I)Z"⟩, 44) := ⟨⟨by decide +kernel, by decide +kernel⟩, List.mem_of_getElem? (i := 827) (by decide +kernel), List.mem_of_getElem? (i := 1078) (by decide +kernel), List.mem_of_getElem? (i := 1079) (by decide +kernel)⟩
theorem lw_p31 : lw_okq (⟨"WitnessPaysModel", "isNumber", "()Z"⟩, 44) := ⟨⟨by decide +kernel, by decide +kernel⟩, List.mem_of_getElem? (i := 827) (by decide +kernel), List.mem_of_getElem? (i := 1084) (by decide +kernel), List.mem_of_getElem? (i := 1085) (by decide +kernel)⟩
def lw_privs_2 : List (MethodName × Nat) := [(⟨"WitnessPays$Actor", "swears", "(II)I"⟩, 5), (⟨"WitnessPays$Actor", "tells", "(II)I"⟩, 5), (⟨"WitnessPaysModel", "isOne", "(I)Z"⟩, 44), (⟨"WitnessPaysModel", "reach", "(I)I"⟩, 44), (⟨"WitnessPaysModel", "sum", "(I)I"⟩, 44), (⟨"WitnessPaysModel", "isTrue", "(II)Z"⟩, 44), (⟨"WitnessPaysModel", "letterOf", "(II)I"⟩, 44), (⟨"WitnessPaysModel", "sight", "(I)I"⟩, 44), (⟨"WitnessPaysModel", "isWall", "(I)Z"⟩, 44), (⟨"WitnessPaysModel", "shun", "(I)I"⟩, 44), (⟨"WitnessPaysModel", "alone", "(I)I"⟩, 44), (⟨"WitnessPaysModel", "seers", "(I)I"⟩, 44), (⟨"WitnessPaysModel", "isClause", "(I)Z"⟩, 44), (⟨"WitnessPaysModel", "isAll", "(Ljava/lang/String;)Z"⟩, 44), (⟨"WitnessPaysModel", "is", "(I)Z"⟩, 44), (⟨"WitnessPaysModel", "isNumber", "()Z"⟩, 44)]
theorem lw_r2 : ∀ q ∈ lw_privs_2, lw_okq q := List.forall_mem_cons.mpr ⟨lw_p16, List.forall_mem_cons.mpr ⟨lw_p17, List.forall_mem_cons.mpr ⟨lw_p18, List.forall_mem_cons.mpr ⟨lw_p19, List.forall_mem_cons.mpr ⟨lw_p20, List.forall_mem_cons.mpr ⟨lw_p21, List.forall_mem_cons.mpr ⟨lw_p22, List.forall_mem_cons.mpr ⟨lw_p23, List.forall_mem_cons.mpr ⟨lw_p24, List.forall_mem_cons.mpr ⟨lw_p25, List.forall_mem_cons.mpr ⟨lw_p26, List.forall_mem_cons.mpr ⟨lw_p27, List.forall_mem_cons.mpr ⟨lw_p28, List.forall_mem_cons.mpr ⟨lw_p29, List.forall_mem_cons.mpr ⟨lw_p30, List.forall_mem_cons.mpr ⟨lw_p31, fun _ h => absurd h List.not_mem_nil⟩⟩⟩⟩⟩⟩⟩⟩⟩⟩⟩⟩⟩⟩⟩⟩
theorem lw_p32 : lw_okq (⟨"WitnessPaysModel", "isDigit", "()Z"⟩, 44) := ⟨⟨by decide +kernel, by decide +kernel⟩, List.mem_of_getElem? (i := 827) (by decide +kernel), List.mem_of_getElem? (i := 1088) (by decide +kernel), List.mem_of_getElem? (i := 1089) (by decide +kernel)⟩
theorem lw_p33 : lw_okq (⟨"WitnessPaysModel", "isE", "()Z"⟩, 44) := ⟨⟨by decide +kernel, by decide +kernel⟩, List.mem_of_getElem? (i := 827) (by decide +kernel), List.mem_of_getElem? (i := 1092) (by decide +kernel), List.mem_of_getElem? (i := 1093) (by decide +kernel)⟩
theorem lw_p34 : lw_okq (⟨"WitnessPaysModel", "isT", "()Z"⟩, 44) := ⟨⟨by decide +kernel, by decide +kernel⟩, List.mem_of_getElem? (i := 827) (by decide +kernel), List.mem_of_getElem? (i := 1096) (by decide +kernel), List.mem_of_getElem? (i := 1097) (by decide +kernel)⟩
theorem lw_p35 : lw_okq (⟨"WitnessPaysModel", "isF", "()Z"⟩, 44) := ⟨⟨by decide +kernel, by decide +kernel⟩, List.mem_of_getElem? (i := 827) (by decide +kernel), List.mem_of_getElem? (i := 1100) (by decide +kernel), List.mem_of_getElem? (i := 1101) (by decide +kernel)⟩
theorem lw_p36 : lw_okq (⟨"WitnessPaysModel", "isOpened", "(I)Z"⟩, 44) := ⟨⟨by decide +kernel, by decide +kernel⟩, List.mem_of_getElem? (i := 827) (by decide +kernel), List.mem_of_getElem? (i := 1104) (by decide +kernel), List.mem_of_getElem? (i := 1105) (by decide +kernel)⟩
theorem lw_p37 : lw_okq (⟨"WitnessPaysModel", "codes", "(I)Z"⟩, 44) := ⟨⟨by decide +kernel, by decide +kernel⟩, List.mem_of_getElem? (i := 827) (by decide +kernel), List.mem_of_getElem? (i := 1108) (by decide +kernel), List.mem_of_getElem? (i := 1109) (by decide +kernel)⟩
theorem lw_p38 : lw_okq (⟨"WitnessPaysModel", "isTest", "()Z"⟩, 44) := ⟨⟨by decide +kernel, by decide +kernel⟩, List.mem_of_getElem? (i := 827) (by decide +kernel), List.mem_of_getElem? (i := 1112) (by decide +kernel), List.mem_of_getElem? (i := 1113) (by decide +kernel)⟩
theorem lw_p39 : lw_okq (⟨"WitnessPaysModel", "pays", "(I)I"⟩, 44) := ⟨⟨by decide +kernel, by decide +kernel⟩, List.mem_of_getElem? (i := 827) (by decide +kernel), List.mem_of_getElem? (i := 1123) (by decide +kernel), List.mem_of_getElem? (i := 1124) (by decide +kernel)⟩
theorem lw_p40 : lw_okq (⟨"WitnessPaysModel", "fine", "()I"⟩, 44) := ⟨⟨by decide +kernel, by decide +kernel⟩, List.mem_of_getElem? (i := 827) (by decide +kernel), List.mem_of_getElem? (i := 1127) (by decide +kernel), List.mem_of_getElem? (i := 1128) (by decide +kernel)⟩
theorem lw_p41 : lw_okq (⟨"WitnessPaysModel", "done", "(I)V"⟩, 44) := ⟨⟨by decide +kernel, by decide +kernel⟩, List.mem_of_getElem? (i := 827) (by decide +kernel), List.mem_of_getElem? (i := 1131) (by decide +kernel), List.mem_of_getElem? (i := 1132) (by decide +kernel)⟩
theorem lw_p42 : lw_okq (⟨"WitnessPaysModel", "allPurses", "()I"⟩, 44) := ⟨⟨by decide +kernel, by decide +kernel⟩, List.mem_of_getElem? (i := 827) (by decide +kernel), List.mem_of_getElem? (i := 1139) (by decide +kernel), List.mem_of_getElem? (i := 1140) (by decide +kernel)⟩
theorem lw_p43 : lw_okq (⟨"WitnessPaysModel", "hidden", "(I)I"⟩, 44) := ⟨⟨by decide +kernel, by decide +kernel⟩, List.mem_of_getElem? (i := 827) (by decide +kernel), List.mem_of_getElem? (i := 1143) (by decide +kernel), List.mem_of_getElem? (i := 1144) (by decide +kernel)⟩
theorem lw_p44 : lw_okq (⟨"WitnessPaysModel", "mostly", "(I)I"⟩, 44) := ⟨⟨by decide +kernel, by decide +kernel⟩, List.mem_of_getElem? (i := 827) (by decide +kernel), List.mem_of_getElem? (i := 1147) (by decide +kernel), List.mem_of_getElem? (i := 1148) (by decide +kernel)⟩
theorem lw_p45 : lw_okq (⟨"WitnessPaysModel", "goesDay", "()V"⟩, 44) := ⟨⟨by decide +kernel, by decide +kernel⟩, List.mem_of_getElem? (i := 827) (by decide +kernel), List.mem_of_getElem? (i := 1155) (by decide +kernel), List.mem_of_getElem? (i := 1156) (by decide +kernel)⟩
theorem lw_p46 : lw_okq (⟨"WitnessPaysModel", "when", "(I)I"⟩, 44) := ⟨⟨by decide +kernel, by decide +kernel⟩, List.mem_of_getElem? (i := 827) (by decide +kernel), List.mem_of_getElem? (i := 1163) (by decide +kernel), List.mem_of_getElem? (i := 1164) (by decide +kernel)⟩
theorem lw_p47 : lw_okq (⟨"WitnessPaysModel", "keep", "([I)V"⟩, 44) := ⟨⟨by decide +kernel, by decide +kernel⟩, List.mem_of_getElem? (i := 827) (by decide +kernel), List.mem_of_getElem? (i := 1167) (by decide +kernel), List.mem_of_getElem? (i := 1168) (by decide +kernel)⟩
def lw_privs_3 : List (MethodName × Nat) := [(⟨"WitnessPaysModel", "isDigit", "()Z"⟩, 44), (⟨"WitnessPaysModel", "isE", "()Z"⟩, 44), (⟨"WitnessPaysModel", "isT", "()Z"⟩, 44), (⟨"WitnessPaysModel", "isF", "()Z"⟩, 44), (⟨"WitnessPaysModel", "isOpened", "(I)Z"⟩, 44), (⟨"WitnessPaysModel", "codes", "(I)Z"⟩, 44), (⟨"WitnessPaysModel", "isTest", "()Z"⟩, 44), (⟨"WitnessPaysModel", "pays", "(I)I"⟩, 44), (⟨"WitnessPaysModel", "fine", "()I"⟩, 44), (⟨"WitnessPaysModel", "done", "(I)V"⟩, 44), (⟨"WitnessPaysModel", "allPurses", "()I"⟩, 44), (⟨"WitnessPaysModel", "hidden", "(I)I"⟩, 44), (⟨"WitnessPaysModel", "mostly", "(I)I"⟩, 44), (⟨"WitnessPaysModel", "goesDay", "()V"⟩, 44), (⟨"WitnessPaysModel", "when", "(I)I"⟩, 44), (⟨"WitnessPaysModel", "keep", "([I)V"⟩, 44)]
theorem lw_r3 : ∀ q ∈ lw_privs_3, lw_okq q := List.forall_mem_cons.mpr ⟨lw_p32, List.forall_mem_cons.mpr ⟨lw_p33, List.forall_mem_cons.mpr ⟨lw_p34, List.forall_mem_cons.mpr ⟨lw_p35, List.forall_mem_cons.mpr ⟨lw_p36, List.forall_mem_cons.mpr ⟨lw_p37, List.forall_mem_cons.mpr ⟨lw_p38, List.forall_mem_cons.mpr ⟨lw_p39, List.forall_mem_cons.mpr ⟨lw_p40, List.forall_mem_cons.mpr ⟨lw_p41, List.forall_mem_cons.mpr ⟨lw_p42, List.forall_mem_cons.mpr ⟨lw_p43, List.forall_mem_cons.mpr ⟨lw_p44, List.forall_mem_cons.mpr ⟨lw_p45, List.forall_mem_cons.mpr ⟨lw_p46, List.forall_mem_cons.mpr ⟨lw_p47, fun _ h => absurd h List.not_mem_nil⟩⟩⟩⟩⟩⟩⟩⟩⟩⟩⟩⟩⟩⟩⟩⟩
theorem lw_p48 : lw_okq (⟨"WitnessPaysModel", "again", "([I)V"⟩, 44) := ⟨⟨by decide +kernel, by decide +kernel⟩, List.mem_of_getElem? (i := 827) (by decide +kernel), List.mem_of_getElem? (i := 1171) (by decide +kernel), List.mem_of_getElem? (i := 1172) (by decide +kernel)⟩
theorem lw_p49 : lw_okq (⟨"WitnessPaysModel", "bricks", "(I)I"⟩, 44) := ⟨⟨by decide +kernel, by decide +kernel⟩, List.mem_of_getElem? (i := 827) (by decide +kernel), List.mem_of_getElem? (i := 1175) (by decide +kernel), List.mem_of_getElem? (i := 1176) (by decide +kernel)⟩
theorem lw_p50 : lw_okq (⟨"WitnessPaysModel", "wrongBy", "(I)I"⟩, 44) := ⟨⟨by decide +kernel, by decide +kernel⟩, List.mem_of_getElem? (i := 827) (by decide +kernel), List.mem_of_getElem? (i := 1191) (by decide +kernel), List.mem_of_getElem? (i := 1192) (by decide +kernel)⟩
theorem lw_p51 : lw_okq (⟨"WitnessPaysModel", "looks", "(III)I"⟩, 44) := ⟨⟨by decide +kernel, by decide +kernel⟩, List.mem_of_getElem? (i := 827) (by decide +kernel), List.mem_of_getElem? (i := 1247) (by decide +kernel), List.mem_of_getElem? (i := 1248) (by decide +kernel)⟩
theorem lw_p52 : lw_okq (⟨"WitnessPaysModel", "ran", "(I)V"⟩, 44) := ⟨⟨by decide +kernel, by decide +kernel⟩, List.mem_of_getElem? (i := 827) (by decide +kernel), List.mem_of_getElem? (i := 1251) (by decide +kernel), List.mem_of_getElem? (i := 1252) (by decide +kernel)⟩
theorem lw_p53 : lw_okq (⟨"WitnessPaysModel", "swears", "(III)I"⟩, 44) := ⟨⟨by decide +kernel, by decide +kernel⟩, List.mem_of_getElem? (i := 827) (by decide +kernel), List.mem_of_getElem? (i := 1258) (by decide +kernel), List.mem_of_getElem? (i := 1259) (by decide +kernel)⟩
theorem lw_p54 : lw_okq (⟨"WitnessPaysModel", "tells", "(III)I"⟩, 44) := ⟨⟨by decide +kernel, by decide +kernel⟩, List.mem_of_getElem? (i := 827) (by decide +kernel), List.mem_of_getElem? (i := 1262) (by decide +kernel), List.mem_of_getElem? (i := 1263) (by decide +kernel)⟩
def lw_privs_4 : List (MethodName × Nat) := [(⟨"WitnessPaysModel", "again", "([I)V"⟩, 44), (⟨"WitnessPaysModel", "bricks", "(I)I"⟩, 44), (⟨"WitnessPaysModel", "wrongBy", "(I)I"⟩, 44), (⟨"WitnessPaysModel", "looks", "(III)I"⟩, 44), (⟨"WitnessPaysModel", "ran", "(I)V"⟩, 44), (⟨"WitnessPaysModel", "swears", "(III)I"⟩, 44), (⟨"WitnessPaysModel", "tells", "(III)I"⟩, 44)]
theorem lw_r4 : ∀ q ∈ lw_privs_4, lw_okq q := List.forall_mem_cons.mpr ⟨lw_p48, List.forall_mem_cons.mpr ⟨lw_p49, List.forall_mem_cons.mpr ⟨lw_p50, List.forall_mem_cons.mpr ⟨lw_p51, List.forall_mem_cons.mpr ⟨lw_p52, List.forall_mem_cons.mpr ⟨lw_p53, List.forall_mem_cons.mpr ⟨lw_p54, fun _ h => absurd h List.not_mem_nil⟩⟩⟩⟩⟩⟩⟩
def lw_privs : List (MethodName × Nat) := lw_privs_1 ++ (lw_privs_2 ++ (lw_privs_3 ++ (lw_privs_4)))
def lw_tbl : List Cond := k2_sels lw_privs ++ tables_1
theorem lw_privs_ok : ∀ q ∈ lw_privs, lw_okq q := by
  show ∀ q ∈ lw_privs_1 ++ (lw_privs_2 ++ (lw_privs_3 ++ (lw_privs_4))), lw_okq q
  exact List.forall_mem_append.mpr ⟨lw_r1, List.forall_mem_append.mpr ⟨lw_r2, List.forall_mem_append.mpr ⟨lw_r3, lw_r4⟩⟩⟩

def RX0 : String := "WitnessPays$Actor"
def TX0 : u_T := fun k => match k with
  | 0 => ("WitnessPays$Actor", "bodies", "[I", true)
  | 1 => ("WitnessPays$Actor", "ran", "I", false)
  | 2 => ("WitnessPays$Actor", "number", "I", false)
  | 3 => ("WitnessPays$Actor", "v", "I", false)
  | _ => ("WitnessPays$Actor", "kind", "I", false)
def tyX0 : Nat → FieldType := fun k => match k with
  | 0 => .array .int
  | 1 => .int
  | 2 => .int
  | 3 => .int
  | _ => .int
abbrev wsX00 : List Cond := u_ws RX0 TX0 5
theorem nmX0 : ∀ a, a < 5 → ∀ b, b < 5 → a ≠ b → (TX0 a).2.1 ≠ (TX0 b).2.1 := by decide +kernel
theorem tyX0_ok : ∀ k, k < 5 → parseFieldDescriptor (TX0 k).2.2.1 = some (tyX0 k) := by decide +kernel
abbrev cX0_init : ByteArray := prog_2_method_1_code
def yX0_init : MethodName := ⟨RX0, "<init>", "()V"⟩
abbrev cX0_forget : ByteArray := prog_2_method_2_code
def yX0_forget : MethodName := ⟨RX0, "forget", "()V"⟩
abbrev cX0_perform : ByteArray := prog_2_method_3_code
def yX0_perform : MethodName := ⟨RX0, "perform", "(LWitnessPays$Person;II)I"⟩
abbrev cX0_begin : ByteArray := prog_2_method_4_code
def yX0_begin : MethodName := ⟨RX0, "begin", "(I)V"⟩
abbrev cX0_looks : ByteArray := prog_2_method_5_code
def yX0_looks : MethodName := ⟨RX0, "looks", "(II)I"⟩
abbrev cX0_swears : ByteArray := prog_2_method_6_code
def yX0_swears : MethodName := ⟨RX0, "swears", "(II)I"⟩
abbrev cX0_tells : ByteArray := prog_2_method_7_code
def yX0_tells : MethodName := ⟨RX0, "tells", "(II)I"⟩
def RX1 : String := "WitnessPays$Law"
def TX1 : u_T := fun k => match k with
  | 0 => ("WitnessPays$Law", "fine", "I", false)
  | 1 => ("WitnessPays$Law", "clauses", "I", false)
  | 2 => ("WitnessPays$Law", "word", "[I", true)
  | 3 => ("WitnessPays$Law", "amount", "[I", true)
  | 4 => ("WitnessPays$Law", "end", "[I", true)
  | 5 => ("WitnessPays$Law", "steps", "I", false)
  | 6 => ("WitnessPays$Law", "step", "[I", true)
  | _ => ("WitnessPays$Law", "subject", "[I", true)
def tyX1 : Nat → FieldType := fun k => match k with
  | 0 => .int
  | 1 => .int
  | 2 => .array .int
  | 3 => .array .int
  | 4 => .array .int
  | 5 => .int
  | 6 => .array .int
  | _ => .array .int
abbrev wsX10 : List Cond := u_ws RX1 TX1 8
theorem nmX1 : ∀ a, a < 8 → ∀ b, b < 8 → a ≠ b → (TX1 a).2.1 ≠ (TX1 b).2.1 := by decide +kernel
theorem tyX1_ok : ∀ k, k < 8 → parseFieldDescriptor (TX1 k).2.2.1 = some (tyX1 k) := by decide +kernel
abbrev cX1_init : ByteArray := prog_3_method_1_code
def yX1_init : MethodName := ⟨RX1, "<init>", "()V"⟩
abbrev cX1_clear : ByteArray := prog_3_method_2_code
def yX1_clear : MethodName := ⟨RX1, "clear", "()V"⟩
abbrev cX1_addStep : ByteArray := prog_3_method_3_code
def yX1_addStep : MethodName := ⟨RX1, "addStep", "(I)V"⟩
abbrev cX1_endClause : ByteArray := prog_3_method_4_code
def yX1_endClause : MethodName := ⟨RX1, "endClause", "(II)V"⟩
abbrev cX1_sum : ByteArray := prog_3_method_5_code
def yX1_sum : MethodName := ⟨RX1, "sum", "(LWitnessPays$Person;I)I"⟩
abbrev cX1_holds : ByteArray := prog_3_method_6_code
def yX1_holds : MethodName := ⟨RX1, "holds", "(II)Z"⟩
def RX2 : String := "WitnessPays$LawText"
def TX2 : u_T := fun k => match k with
  | 0 => ("WitnessPays$LawText", "signs", "[B", true)
  | 1 => ("WitnessPays$LawText", "length", "I", false)
  | 2 => ("WitnessPays$LawText", "at", "I", false)
  | _ => ("WitnessPays$LawText", "draft", "LWitnessPays$Law;", false)
def tyX2 : Nat → FieldType := fun k => match k with
  | 0 => .array .byte
  | 1 => .int
  | 2 => .int
  | _ => .object "WitnessPays$Law"
abbrev wsX20 : List Cond := u_ws RX2 TX2 4
theorem nmX2 : ∀ a, a < 4 → ∀ b, b < 4 → a ≠ b → (TX2 a).2.1 ≠ (TX2 b).2.1 := by decide +kernel
theorem tyX2_ok : ∀ k, k < 4 → parseFieldDescriptor (TX2 k).2.2.1 = some (tyX2 k) := by decide +kernel
abbrev cX2_init : ByteArray := prog_4_method_1_code
def yX2_init : MethodName := ⟨RX2, "<init>", "()V"⟩
abbrev cX2_add : ByteArray := prog_4_method_2_code
def yX2_add : MethodName := ⟨RX2, "add", "(I)I"⟩
abbrev cX2_enact : ByteArray := prog_4_method_3_code
def yX2_enact : MethodName := ⟨RX2, "enact", "()LWitnessPays$Law;"⟩
abbrev cX2_readClause : ByteArray := prog_4_method_4_code
def yX2_readClause : MethodName := ⟨RX2, "readClause", "()Z"⟩
abbrev cX2_readWord : ByteArray := prog_4_method_5_code
def yX2_readWord : MethodName := ⟨RX2, "readWord", "()I"⟩
abbrev cX2_readEither : ByteArray := prog_4_method_6_code
def yX2_readEither : MethodName := ⟨RX2, "readEither", "(I)Z"⟩
abbrev cX2_readBoth : ByteArray := prog_4_method_7_code
def yX2_readBoth : MethodName := ⟨RX2, "readBoth", "(I)Z"⟩
abbrev cX2_readFactor : ByteArray := prog_4_method_8_code
def yX2_readFactor : MethodName := ⟨RX2, "readFactor", "(I)Z"⟩
abbrev cX2_readNumber : ByteArray := prog_4_method_9_code
def yX2_readNumber : MethodName := ⟨RX2, "readNumber", "()I"⟩
abbrev cX2_take : ByteArray := prog_4_method_10_code
def yX2_take : MethodName := ⟨RX2, "take", "(C)Z"⟩
abbrev cX2_takeAnyOf : ByteArray := prog_4_method_11_code
def yX2_takeAnyOf : MethodName := ⟨RX2, "takeAnyOf", "(Ljava/lang/String;)I"⟩
def RX3 : String := "WitnessPays$Person"
def TX3 : u_T := fun k => match k with
  | 0 => ("WitnessPays$Person", "number", "I", true)
  | 1 => ("WitnessPays$Person", "kind", "I", false)
  | 2 => ("WitnessPays$Person", "v", "I", false)
  | 3 => ("WitnessPays$Person", "place", "I", false)
  | 4 => ("WitnessPays$Person", "purse", "I", false)
  | 5 => ("WitnessPays$Person", "gone", "Z", false)
  | 6 => ("WitnessPays$Person", "row", "[I", true)
  | _ => ("WitnessPays$Person", "eye", "I", false)
def tyX3 : Nat → FieldType := fun k => match k with
  | 0 => .int
  | 1 => .int
  | 2 => .int
  | 3 => .int
  | 4 => .int
  | 5 => .boolean
  | 6 => .array .int
  | _ => .int
abbrev wsX30 : List Cond := u_ws RX3 TX3 8
theorem nmX3 : ∀ a, a < 8 → ∀ b, b < 8 → a ≠ b → (TX3 a).2.1 ≠ (TX3 b).2.1 := by decide +kernel
theorem tyX3_ok : ∀ k, k < 8 → parseFieldDescriptor (TX3 k).2.2.1 = some (tyX3 k) := by decide +kernel
abbrev cX3_init : ByteArray := prog_5_method_1_code
def yX3_init : MethodName := ⟨RX3, "<init>", "(I)V"⟩
abbrev cX3_arrive : ByteArray := prog_5_method_2_code
def yX3_arrive : MethodName := ⟨RX3, "arrive", "(III)V"⟩
abbrev cX3_becomeLike : ByteArray := prog_5_method_3_code
def yX3_becomeLike : MethodName := ⟨RX3, "becomeLike", "(LWitnessPays$Person;)V"⟩
abbrev cX3_isOfKind : ByteArray := prog_5_method_4_code
def yX3_isOfKind : MethodName := ⟨RX3, "isOfKind", "(I)Z"⟩
abbrev cX3_walk : ByteArray := prog_5_method_5_code
def yX3_walk : MethodName := ⟨RX3, "walk", "(I)V"⟩
abbrev cX3_reach : ByteArray := prog_5_method_6_code
def yX3_reach : MethodName := ⟨RX3, "reach", "(II)I"⟩
abbrev cX3_sees : ByteArray := prog_5_method_7_code
def yX3_sees : MethodName := ⟨RX3, "sees", "(II)Z"⟩
abbrev cX3_sight : ByteArray := prog_5_method_8_code
def yX3_sight : MethodName := ⟨RX3, "sight", "(I)I"⟩
abbrev cX3_wayRight : ByteArray := prog_5_method_9_code
def yX3_wayRight : MethodName := ⟨RX3, "wayRight", "(II)I"⟩
def RX4 : String := "WitnessPays$Scene"
def TX4 : u_T := fun k => match k with
  | 0 => ("WitnessPays$Scene", "street", "LWitnessPays$Street;", true)
  | 1 => ("WitnessPays$Scene", "seen", "LWitnessPays$Table;", true)
  | 2 => ("WitnessPays$Scene", "plan", "LWitnessPays$Table;", true)
  | _ => ("WitnessPays$Scene", "book", "LWitnessPays$Table;", true)
def tyX4 : Nat → FieldType := fun k => match k with
  | 0 => .object "WitnessPays$Street"
  | 1 => .object "WitnessPays$Table"
  | 2 => .object "WitnessPays$Table"
  | _ => .object "WitnessPays$Table"
abbrev wsX40 : List Cond := u_ws RX4 TX4 4
theorem nmX4 : ∀ a, a < 4 → ∀ b, b < 4 → a ≠ b → (TX4 a).2.1 ≠ (TX4 b).2.1 := by decide +kernel
theorem tyX4_ok : ∀ k, k < 4 → parseFieldDescriptor (TX4 k).2.2.1 = some (tyX4 k) := by decide +kernel
abbrev cX4_init : ByteArray := prog_6_method_1_code
def yX4_init : MethodName := ⟨RX4, "<init>", "(LWitnessPays$Law;)V"⟩
abbrev cX4_becomeLike : ByteArray := prog_6_method_2_code
def yX4_becomeLike : MethodName := ⟨RX4, "becomeLike", "(LWitnessPays$Scene;)V"⟩
def RX5 : String := "WitnessPays$Street"
def TX5 : u_T := fun k => match k with
  | 0 => ("WitnessPays$Street", "people", "[LWitnessPays$Person;", true)
  | 1 => ("WitnessPays$Street", "count", "I", false)
  | 2 => ("WitnessPays$Street", "walls", "I", false)
  | 3 => ("WitnessPays$Street", "day", "I", false)
  | _ => ("WitnessPays$Street", "law", "LWitnessPays$Law;", false)
def tyX5 : Nat → FieldType := fun k => match k with
  | 0 => .array (.object "WitnessPays$Person")
  | 1 => .int
  | 2 => .int
  | 3 => .int
  | _ => .object "WitnessPays$Law"
abbrev wsX50 : List Cond := u_ws RX5 TX5 5
theorem nmX5 : ∀ a, a < 5 → ∀ b, b < 5 → a ≠ b → (TX5 a).2.1 ≠ (TX5 b).2.1 := by decide +kernel
theorem tyX5_ok : ∀ k, k < 5 → parseFieldDescriptor (TX5 k).2.2.1 = some (tyX5 k) := by decide +kernel
abbrev cX5_init : ByteArray := prog_7_method_1_code
def yX5_init : MethodName := ⟨RX5, "<init>", "(LWitnessPays$Law;)V"⟩
abbrev cX5_becomeLike : ByteArray := prog_7_method_2_code
def yX5_becomeLike : MethodName := ⟨RX5, "becomeLike", "(LWitnessPays$Street;)V"⟩
abbrev cX5_person : ByteArray := prog_7_method_3_code
def yX5_person : MethodName := ⟨RX5, "person", "(I)LWitnessPays$Person;"⟩
abbrev cX5_welcome : ByteArray := prog_7_method_4_code
def yX5_welcome : MethodName := ⟨RX5, "welcome", "(III)I"⟩
abbrev cX5_banish : ByteArray := prog_7_method_5_code
def yX5_banish : MethodName := ⟨RX5, "banish", "(I)V"⟩
abbrev cX5_goOn : ByteArray := prog_7_method_6_code
def yX5_goOn : MethodName := ⟨RX5, "goOn", "(I)V"⟩
abbrev cX5_reachOf : ByteArray := prog_7_method_7_code
def yX5_reachOf : MethodName := ⟨RX5, "reachOf", "(LWitnessPays$Person;)I"⟩
abbrev cX5_look : ByteArray := prog_7_method_8_code
def yX5_look : MethodName := ⟨RX5, "look", "()V"⟩
abbrev cX5_lookBy : ByteArray := prog_7_method_9_code
def yX5_lookBy : MethodName := ⟨RX5, "lookBy", "(LWitnessPays$Person;)V"⟩
abbrev cX5_seersInView : ByteArray := prog_7_method_10_code
def yX5_seersInView : MethodName := ⟨RX5, "seersInView", "(I)I"⟩
abbrev cX5_seersBehind : ByteArray := prog_7_method_11_code
def yX5_seersBehind : MethodName := ⟨RX5, "seersBehind", "(II)I"⟩
abbrev cX5_seers : ByteArray := prog_7_method_12_code
def yX5_seers : MethodName := ⟨RX5, "seers", "(I)I"⟩
abbrev cX5_sightOf : ByteArray := prog_7_method_13_code
def yX5_sightOf : MethodName := ⟨RX5, "sightOf", "(LWitnessPays$Person;)I"⟩
abbrev cX5_firstSeenOnlyBy : ByteArray := prog_7_method_14_code
def yX5_firstSeenOnlyBy : MethodName := ⟨RX5, "firstSeenOnlyBy", "(LWitnessPays$Person;)I"⟩
abbrev cX5_firstUnseen : ByteArray := prog_7_method_15_code
def yX5_firstUnseen : MethodName := ⟨RX5, "firstUnseen", "()I"⟩
abbrev cX5_unseenPlaces : ByteArray := prog_7_method_16_code
def yX5_unseenPlaces : MethodName := ⟨RX5, "unseenPlaces", "()I"⟩
abbrev cX5_mostSeenPlace : ByteArray := prog_7_method_17_code
def yX5_mostSeenPlace : MethodName := ⟨RX5, "mostSeenPlace", "()I"⟩
abbrev cX5_dearestPlace : ByteArray := prog_7_method_18_code
def yX5_dearestPlace : MethodName := ⟨RX5, "dearestPlace", "()I"⟩
abbrev cX5_purses : ByteArray := prog_7_method_19_code
def yX5_purses : MethodName := ⟨RX5, "purses", "()I"⟩
abbrev cX5_paidFor : ByteArray := prog_7_method_20_code
def yX5_paidFor : MethodName := ⟨RX5, "paidFor", "(I)I"⟩
abbrev cX5_paidBy : ByteArray := prog_7_method_21_code
def yX5_paidBy : MethodName := ⟨RX5, "paidBy", "(I)I"⟩
abbrev cX5_paidByOne : ByteArray := prog_7_method_22_code
def yX5_paidByOne : MethodName := ⟨RX5, "paidByOne", "(LWitnessPays$Person;I)I"⟩
abbrev cX5_collect : ByteArray := prog_7_method_23_code
def yX5_collect : MethodName := ⟨RX5, "collect", "(I)I"⟩
abbrev cX5_bricks : ByteArray := prog_7_method_24_code
def yX5_bricks : MethodName := ⟨RX5, "bricks", "(I)I"⟩
def RX6 : String := "WitnessPays$Table"
def TX6 : u_T := fun k => match k with
  | 0 => ("WitnessPays$Table", "cells", "[I", true)
  | 1 => ("WitnessPays$Table", "most", "I", true)
  | _ => ("WitnessPays$Table", "rows", "I", false)
def tyX6 : Nat → FieldType := fun k => match k with
  | 0 => .array .int
  | 1 => .int
  | _ => .int
abbrev wsX60 : List Cond := u_ws RX6 TX6 3
theorem nmX6 : ∀ a, a < 3 → ∀ b, b < 3 → a ≠ b → (TX6 a).2.1 ≠ (TX6 b).2.1 := by decide +kernel
theorem tyX6_ok : ∀ k, k < 3 → parseFieldDescriptor (TX6 k).2.2.1 = some (tyX6 k) := by decide +kernel
abbrev cX6_init : ByteArray := prog_8_method_1_code
def yX6_init : MethodName := ⟨RX6, "<init>", "(I)V"⟩
abbrev cX6_empty : ByteArray := prog_8_method_2_code
def yX6_empty : MethodName := ⟨RX6, "empty", "()I"⟩
abbrev cX6_add : ByteArray := prog_8_method_3_code
def yX6_add : MethodName := ⟨RX6, "add", "(III)I"⟩
abbrev cX6_cell : ByteArray := prog_8_method_4_code
def yX6_cell : MethodName := ⟨RX6, "cell", "(II)I"⟩
abbrev cX6_becomeLike : ByteArray := prog_8_method_5_code
def yX6_becomeLike : MethodName := ⟨RX6, "becomeLike", "(LWitnessPays$Table;)V"⟩
def RX7 : String := "WitnessPays$Tape"
def TX7 : u_T := fun k => match k with
  | 0 => ("WitnessPays$Tape", "sort", "I", false)
  | 1 => ("WitnessPays$Tape", "length", "I", false)
  | _ => ("WitnessPays$Tape", "items", "[J", true)
def tyX7 : Nat → FieldType := fun k => match k with
  | 0 => .int
  | 1 => .int
  | _ => .array .long
abbrev wsX70 : List Cond := u_ws RX7 TX7 3
theorem nmX7 : ∀ a, a < 3 → ∀ b, b < 3 → a ≠ b → (TX7 a).2.1 ≠ (TX7 b).2.1 := by decide +kernel
theorem tyX7_ok : ∀ k, k < 3 → parseFieldDescriptor (TX7 k).2.2.1 = some (tyX7 k) := by decide +kernel
abbrev cX7_init : ByteArray := prog_9_method_1_code
def yX7_init : MethodName := ⟨RX7, "<init>", "()V"⟩
abbrev cX7_become : ByteArray := prog_9_method_2_code
def yX7_become : MethodName := ⟨RX7, "become", "(II)V"⟩
abbrev cX7_reaches : ByteArray := prog_9_method_3_code
def yX7_reaches : MethodName := ⟨RX7, "reaches", "(II)Z"⟩
abbrev cX7_narrowed : ByteArray := prog_9_method_4_code
def yX7_narrowed : MethodName := ⟨RX7, "narrowed", "(J)J"⟩
def RX8 : String := "WitnessPays$WhatIf"
def TX8 : u_T := fun k => match k with
  | _ => ("WitnessPays$WhatIf", "trial", "LWitnessPays$Street;", true)
def tyX8 : Nat → FieldType := fun k => match k with
  | _ => .object "WitnessPays$Street"
abbrev wsX80 : List Cond := u_ws RX8 TX8 1
theorem nmX8 : ∀ a, a < 1 → ∀ b, b < 1 → a ≠ b → (TX8 a).2.1 ≠ (TX8 b).2.1 := by decide +kernel
theorem tyX8_ok : ∀ k, k < 1 → parseFieldDescriptor (TX8 k).2.2.1 = some (tyX8 k) := by decide +kernel
abbrev cX8_init : ByteArray := prog_10_method_1_code
def yX8_init : MethodName := ⟨RX8, "<init>", "(LWitnessPays$Law;)V"⟩
abbrev cX8_shunnedBy : ByteArray := prog_10_method_2_code
def yX8_shunnedBy : MethodName := ⟨RX8, "shunnedBy", "(ILWitnessPays$Street;)I"⟩
abbrev cX8_daysUntilUnseen : ByteArray := prog_10_method_3_code
def yX8_daysUntilUnseen : MethodName := ⟨RX8, "daysUntilUnseen", "(ILWitnessPays$Street;)I"⟩
abbrev cX8_firstFalse : ByteArray := prog_10_method_4_code
def yX8_firstFalse : MethodName := ⟨RX8, "firstFalse", "(LWitnessPays$Table;LWitnessPays$Street;)I"⟩
abbrev cX8_agrees : ByteArray := prog_10_method_5_code
def yX8_agrees : MethodName := ⟨RX8, "agrees", "(IIILWitnessPays$Table;LWitnessPays$Street;)Z"⟩
abbrev cX8_afterPlan : ByteArray := prog_10_method_6_code
def yX8_afterPlan : MethodName := ⟨RX8, "afterPlan", "(LWitnessPays$Table;LWitnessPays$Street;)LWitnessPays$Street;"⟩
def RX9 : String := "WitnessPays"
def TX9 : u_T := fun k => match k with
  | 0 => ("WitnessPays", "now", "LWitnessPays$Scene;", true)
  | 1 => ("WitnessPays", "kept", "LWitnessPays$Scene;", true)
  | 2 => ("WitnessPays", "hasKept", "Z", false)
  | 3 => ("WitnessPays", "text", "LWitnessPays$LawText;", true)
  | 4 => ("WitnessPays", "laws", "I", false)
  | 5 => ("WitnessPays", "whatIf", "LWitnessPays$WhatIf;", true)
  | 6 => ("WitnessPays", "actor", "LWitnessPays$Actor;", true)
  | _ => ("WitnessPays", "tapes", "[LWitnessPays$Tape;", true)
def tyX9 : Nat → FieldType := fun k => match k with
  | 0 => .object "WitnessPays$Scene"
  | 1 => .object "WitnessPays$Scene"
  | 2 => .boolean
  | 3 => .object "WitnessPays$LawText"
  | 4 => .int
  | 5 => .object "WitnessPays$WhatIf"
  | 6 => .object "WitnessPays$Actor"
  | _ => .array (.object "WitnessPays$Tape")
abbrev wsX90 : List Cond := u_ws RX9 TX9 8
theorem nmX9 : ∀ a, a < 8 → ∀ b, b < 8 → a ≠ b → (TX9 a).2.1 ≠ (TX9 b).2.1 := by decide +kernel
theorem tyX9_ok : ∀ k, k < 8 → parseFieldDescriptor (TX9 k).2.2.1 = some (tyX9 k) := by decide +kernel
abbrev cX9_init : ByteArray := prog_1_method_1_code
def yX9_init : MethodName := ⟨RX9, "<init>", "()V"⟩
abbrev cX9_one : ByteArray := prog_1_method_2_code
def yX9_one : MethodName := ⟨RX9, "one", "(III)I"⟩
abbrev cX9_of : ByteArray := prog_1_method_3_code
def yX9_of : MethodName := ⟨RX9, "of", "(II)I"⟩
abbrev cX9_set : ByteArray := prog_1_method_4_code
def yX9_set : MethodName := ⟨RX9, "set", "(III)I"⟩
abbrev cX9_leave : ByteArray := prog_1_method_5_code
def yX9_leave : MethodName := ⟨RX9, "leave", "(IZ)I"⟩
abbrev cX9_walls : ByteArray := prog_1_method_6_code
def yX9_walls : MethodName := ⟨RX9, "walls", "(I)I"⟩
abbrev cX9_row : ByteArray := prog_1_method_7_code
def yX9_row : MethodName := ⟨RX9, "row", "(III)I"⟩
abbrev cX9_feed : ByteArray := prog_1_method_8_code
def yX9_feed : MethodName := ⟨RX9, "feed", "(I)I"⟩
abbrev cX9_statute : ByteArray := prog_1_method_9_code
def yX9_statute : MethodName := ⟨RX9, "statute", "()I"⟩
abbrev cX9_told : ByteArray := prog_1_method_10_code
def yX9_told : MethodName := ⟨RX9, "told", "(I)I"⟩
abbrev cX9_deed : ByteArray := prog_1_method_11_code
def yX9_deed : MethodName := ⟨RX9, "deed", "(I)I"⟩
abbrev cX9_pass : ByteArray := prog_1_method_12_code
def yX9_pass : MethodName := ⟨RX9, "pass", "(I)I"⟩
abbrev cX9_at : ByteArray := prog_1_method_13_code
def yX9_at : MethodName := ⟨RX9, "at", "(II)I"⟩
abbrev cX9_share : ByteArray := prog_1_method_14_code
def yX9_share : MethodName := ⟨RX9, "share", "(II)I"⟩
abbrev cX9_see : ByteArray := prog_1_method_15_code
def yX9_see : MethodName := ⟨RX9, "see", "(III)I"⟩
abbrev cX9_wrong : ByteArray := prog_1_method_16_code
def yX9_wrong : MethodName := ⟨RX9, "wrong", "()I"⟩
abbrev cX9_from : ByteArray := prog_1_method_17_code
def yX9_from : MethodName := ⟨RX9, "from", "(I)I"⟩
abbrev cX9_can : ByteArray := prog_1_method_18_code
def yX9_can : MethodName := ⟨RX9, "can", "(II)I"⟩
abbrev cX9_odds : ByteArray := prog_1_method_19_code
def yX9_odds : MethodName := ⟨RX9, "odds", "(II)J"⟩
abbrev cX9_mean : ByteArray := prog_1_method_20_code
def yX9_mean : MethodName := ⟨RX9, "mean", "(I)J"⟩
abbrev cX9_plan : ByteArray := prog_1_method_21_code
def yX9_plan : MethodName := ⟨RX9, "plan", "(II)I"⟩
abbrev cX9_ends : ByteArray := prog_1_method_22_code
def yX9_ends : MethodName := ⟨RX9, "ends", "(I)I"⟩
abbrev cX9_book : ByteArray := prog_1_method_23_code
def yX9_book : MethodName := ⟨RX9, "book", "(II)I"⟩
abbrev cX9_looked : ByteArray := prog_1_method_24_code
def yX9_looked : MethodName := ⟨RX9, "looked", "()I"⟩
abbrev cX9_judge : ByteArray := prog_1_method_25_code
def yX9_judge : MethodName := ⟨RX9, "judge", "(II)I"⟩
abbrev cX9_image : ByteArray := prog_1_method_26_code
def yX9_image : MethodName := ⟨RX9, "image", "()I"⟩
abbrev cX9_undo : ByteArray := prog_1_method_27_code
def yX9_undo : MethodName := ⟨RX9, "undo", "()I"⟩
abbrev cX9_act : ByteArray := prog_1_method_28_code
def yX9_act : MethodName := ⟨RX9, "act", "(III)I"⟩
abbrev cX9_trace : ByteArray := prog_1_method_29_code
def yX9_trace : MethodName := ⟨RX9, "trace", "(I)I"⟩
abbrev cX9_taken : ByteArray := prog_1_method_30_code
def yX9_taken : MethodName := ⟨RX9, "taken", "(II)I"⟩
abbrev cX9_count : ByteArray := prog_1_method_31_code
def yX9_count : MethodName := ⟨RX9, "count", "(I)I"⟩
abbrev cX9_tape : ByteArray := prog_1_method_32_code
def yX9_tape : MethodName := ⟨RX9, "tape", "(III)I"⟩
abbrev cX9_item : ByteArray := prog_1_method_33_code
def yX9_item : MethodName := ⟨RX9, "item", "(IIJ)I"⟩
abbrev cX9_read : ByteArray := prog_1_method_34_code
def yX9_read : MethodName := ⟨RX9, "read", "(II)J"⟩
abbrev cX9_shift : ByteArray := prog_1_method_35_code
def yX9_shift : MethodName := ⟨RX9, "shift", "(IIIII)I"⟩
abbrev cX9_isWithin : ByteArray := prog_1_method_36_code
def yX9_isWithin : MethodName := ⟨RX9, "isWithin", "(II)Z"⟩
abbrev cX9_isPlace : ByteArray := prog_1_method_37_code
def yX9_isPlace : MethodName := ⟨RX9, "isPlace", "(I)Z"⟩
abbrev cX9_isPlanRow : ByteArray := prog_1_method_38_code
def yX9_isPlanRow : MethodName := ⟨RX9, "isPlanRow", "(II)Z"⟩
abbrev cX9_tapeOf : ByteArray := prog_1_method_39_code
def yX9_tapeOf : MethodName := ⟨RX9, "tapeOf", "(I)LWitnessPays$Tape;"⟩
abbrev cX9_lowestTerms : ByteArray := prog_1_method_40_code
def yX9_lowestTerms : MethodName := ⟨RX9, "lowestTerms", "(III)J"⟩
def RX10 : String := "WitnessPaysModel"
def TX10 : u_T := fun k => match k with
  | 0 => ("WitnessPaysModel", "people", "I", false)
  | 1 => ("WitnessPaysModel", "kind", "[I", true)
  | 2 => ("WitnessPaysModel", "v", "[I", true)
  | 3 => ("WitnessPaysModel", "place", "[I", true)
  | 4 => ("WitnessPaysModel", "purse", "[I", true)
  | 5 => ("WitnessPaysModel", "gone", "[I", true)
  | 6 => ("WitnessPaysModel", "rows", "[I", true)
  | 7 => ("WitnessPaysModel", "walls", "I", false)
  | 8 => ("WitnessPaysModel", "day", "I", false)
  | 9 => ("WitnessPaysModel", "texted", "I", false)
  | 10 => ("WitnessPaysModel", "text", "[I", true)
  | 11 => ("WitnessPaysModel", "at", "I", false)
  | 12 => ("WitnessPaysModel", "value", "I", false)
  | 13 => ("WitnessPaysModel", "digits", "I", false)
  | 14 => ("WitnessPaysModel", "open", "I", false)
  | 15 => ("WitnessPaysModel", "laws", "I", false)
  | 16 => ("WitnessPaysModel", "holds", "I", false)
  | 17 => ("WitnessPaysModel", "clauses", "[I", true)
  | 18 => ("WitnessPaysModel", "word", "[I", true)
  | 19 => ("WitnessPaysModel", "number", "[I", true)
  | 20 => ("WitnessPaysModel", "begins", "[I", true)
  | 21 => ("WitnessPaysModel", "length", "[I", true)
  | 22 => ("WitnessPaysModel", "code", "[I", true)
  | 23 => ("WitnessPaysModel", "coded", "I", false)
  | 24 => ("WitnessPaysModel", "stack", "[Z", true)
  | 25 => ("WitnessPaysModel", "seen", "I", false)
  | 26 => ("WitnessPaysModel", "seenPlace", "[I", true)
  | 27 => ("WitnessPaysModel", "seenIn", "[I", true)
  | 28 => ("WitnessPaysModel", "seenBy", "[I", true)
  | 29 => ("WitnessPaysModel", "inPlan", "I", false)
  | 30 => ("WitnessPaysModel", "goes", "[I", true)
  | 31 => ("WitnessPaysModel", "whose", "[I", true)
  | 32 => ("WitnessPaysModel", "inBook", "I", false)
  | 33 => ("WitnessPaysModel", "booked", "[I", true)
  | 34 => ("WitnessPaysModel", "bookPurse", "[I", true)
  | 35 => ("WitnessPaysModel", "traced", "I", false)
  | 36 => ("WitnessPaysModel", "traces", "[I", true)
  | 37 => ("WitnessPaysModel", "imaged", "Z", false)
  | 38 => ("WitnessPaysModel", "image", "[I", true)
  | 39 => ("WitnessPaysModel", "ahead", "[I", true)
  | 40 => ("WitnessPaysModel", "shares", "[I", true)
  | 41 => ("WitnessPaysModel", "tapeSort", "[I", true)
  | 42 => ("WitnessPaysModel", "tapeSize", "[I", true)
  | _ => ("WitnessPaysModel", "items", "[J", true)
def tyX10 : Nat → FieldType := fun k => match k with
  | 0 => .int
  | 1 => .array .int
  | 2 => .array .int
  | 3 => .array .int
  | 4 => .array .int
  | 5 => .array .int
  | 6 => .array .int
  | 7 => .int
  | 8 => .int
  | 9 => .int
  | 10 => .array .int
  | 11 => .int
  | 12 => .int
  | 13 => .int
  | 14 => .int
  | 15 => .int
  | 16 => .int
  | 17 => .array .int
  | 18 => .array .int
  | 19 => .array .int
  | 20 => .array .int
  | 21 => .array .int
  | 22 => .array .int
  | 23 => .int
  | 24 => .array .boolean
  | 25 => .int
  | 26 => .array .int
  | 27 => .array .int
  | 28 => .array .int
  | 29 => .int
  | 30 => .array .int
  | 31 => .array .int
  | 32 => .int
  | 33 => .array .int
  | 34 => .array .int
  | 35 => .int
  | 36 => .array .int
  | 37 => .boolean
  | 38 => .array .int
  | 39 => .array .int
  | 40 => .array .int
  | 41 => .array .int
  | 42 => .array .int
  | _ => .array .long
abbrev wsX100 : List Cond := u_ws RX10 TX10 44
theorem nmX10 : ∀ a, a < 44 → ∀ b, b < 44 → a ≠ b → (TX10 a).2.1 ≠ (TX10 b).2.1 := by decide +kernel
theorem tyX10_ok : ∀ k, k < 44 → parseFieldDescriptor (TX10 k).2.2.1 = some (tyX10 k) := by decide +kernel
abbrev cX10_init : ByteArray := prog_12_method_1_code
def yX10_init : MethodName := ⟨RX10, "<init>", "()V"⟩
abbrev cX10_within : ByteArray := prog_12_method_2_code
def yX10_within : MethodName := ⟨RX10, "within", "(III)Z"⟩
abbrev cX10_isOne : ByteArray := prog_12_method_3_code
def yX10_isOne : MethodName := ⟨RX10, "isOne", "(I)Z"⟩
abbrev cX10_isPlace : ByteArray := prog_12_method_4_code
def yX10_isPlace : MethodName := ⟨RX10, "isPlace", "(I)Z"⟩
abbrev cX10_one : ByteArray := prog_12_method_5_code
def yX10_one : MethodName := ⟨RX10, "one", "(III)I"⟩
abbrev cX10_of : ByteArray := prog_12_method_6_code
def yX10_of : MethodName := ⟨RX10, "of", "(II)I"⟩
abbrev cX10_set : ByteArray := prog_12_method_7_code
def yX10_set : MethodName := ⟨RX10, "set", "(III)I"⟩
abbrev cX10_leave : ByteArray := prog_12_method_8_code
def yX10_leave : MethodName := ⟨RX10, "leave", "(IZ)I"⟩
abbrev cX10_walls : ByteArray := prog_12_method_9_code
def yX10_walls : MethodName := ⟨RX10, "walls", "(I)I"⟩
abbrev cX10_row : ByteArray := prog_12_method_10_code
def yX10_row : MethodName := ⟨RX10, "row", "(III)I"⟩
abbrev cX10_feed : ByteArray := prog_12_method_11_code
def yX10_feed : MethodName := ⟨RX10, "feed", "(I)I"⟩
abbrev cX10_is : ByteArray := prog_12_method_12_code
def yX10_is : MethodName := ⟨RX10, "is", "(I)Z"⟩
abbrev cX10_isDigit : ByteArray := prog_12_method_13_code
def yX10_isDigit : MethodName := ⟨RX10, "isDigit", "()Z"⟩
abbrev cX10_isNumber : ByteArray := prog_12_method_14_code
def yX10_isNumber : MethodName := ⟨RX10, "isNumber", "()Z"⟩
abbrev cX10_isAll : ByteArray := prog_12_method_15_code
def yX10_isAll : MethodName := ⟨RX10, "isAll", "(Ljava/lang/String;)Z"⟩
abbrev cX10_codes : ByteArray := prog_12_method_16_code
def yX10_codes : MethodName := ⟨RX10, "codes", "(I)Z"⟩
abbrev cX10_isTest : ByteArray := prog_12_method_17_code
def yX10_isTest : MethodName := ⟨RX10, "isTest", "()Z"⟩
abbrev cX10_isOpened : ByteArray := prog_12_method_18_code
def yX10_isOpened : MethodName := ⟨RX10, "isOpened", "(I)Z"⟩
abbrev cX10_isF : ByteArray := prog_12_method_19_code
def yX10_isF : MethodName := ⟨RX10, "isF", "()Z"⟩
abbrev cX10_isT : ByteArray := prog_12_method_20_code
def yX10_isT : MethodName := ⟨RX10, "isT", "()Z"⟩
abbrev cX10_isE : ByteArray := prog_12_method_21_code
def yX10_isE : MethodName := ⟨RX10, "isE", "()Z"⟩
abbrev cX10_isClause : ByteArray := prog_12_method_22_code
def yX10_isClause : MethodName := ⟨RX10, "isClause", "(I)Z"⟩
abbrev cX10_statute : ByteArray := prog_12_method_23_code
def yX10_statute : MethodName := ⟨RX10, "statute", "()I"⟩
abbrev cX10_letterOf : ByteArray := prog_12_method_24_code
def yX10_letterOf : MethodName := ⟨RX10, "letterOf", "(II)I"⟩
abbrev cX10_isTrue : ByteArray := prog_12_method_25_code
def yX10_isTrue : MethodName := ⟨RX10, "isTrue", "(II)Z"⟩
abbrev cX10_sum : ByteArray := prog_12_method_26_code
def yX10_sum : MethodName := ⟨RX10, "sum", "(I)I"⟩
abbrev cX10_fine : ByteArray := prog_12_method_27_code
def yX10_fine : MethodName := ⟨RX10, "fine", "()I"⟩
abbrev cX10_reach : ByteArray := prog_12_method_28_code
def yX10_reach : MethodName := ⟨RX10, "reach", "(I)I"⟩
abbrev cX10_isWall : ByteArray := prog_12_method_29_code
def yX10_isWall : MethodName := ⟨RX10, "isWall", "(I)Z"⟩
abbrev cX10_sight : ByteArray := prog_12_method_30_code
def yX10_sight : MethodName := ⟨RX10, "sight", "(I)I"⟩
abbrev cX10_seers : ByteArray := prog_12_method_31_code
def yX10_seers : MethodName := ⟨RX10, "seers", "(I)I"⟩
abbrev cX10_shun : ByteArray := prog_12_method_32_code
def yX10_shun : MethodName := ⟨RX10, "shun", "(I)I"⟩
abbrev cX10_alone : ByteArray := prog_12_method_33_code
def yX10_alone : MethodName := ⟨RX10, "alone", "(I)I"⟩
abbrev cX10_pays : ByteArray := prog_12_method_34_code
def yX10_pays : MethodName := ⟨RX10, "pays", "(I)I"⟩
abbrev cX10_done : ByteArray := prog_12_method_35_code
def yX10_done : MethodName := ⟨RX10, "done", "(I)V"⟩
abbrev cX10_deed : ByteArray := prog_12_method_36_code
def yX10_deed : MethodName := ⟨RX10, "deed", "(I)I"⟩
abbrev cX10_hidden : ByteArray := prog_12_method_37_code
def yX10_hidden : MethodName := ⟨RX10, "hidden", "(I)I"⟩
abbrev cX10_mostly : ByteArray := prog_12_method_38_code
def yX10_mostly : MethodName := ⟨RX10, "mostly", "(I)I"⟩
abbrev cX10_allPurses : ByteArray := prog_12_method_39_code
def yX10_allPurses : MethodName := ⟨RX10, "allPurses", "()I"⟩
abbrev cX10_told : ByteArray := prog_12_method_40_code
def yX10_told : MethodName := ⟨RX10, "told", "(I)I"⟩
abbrev cX10_goesDay : ByteArray := prog_12_method_41_code
def yX10_goesDay : MethodName := ⟨RX10, "goesDay", "()V"⟩
abbrev cX10_pass : ByteArray := prog_12_method_42_code
def yX10_pass : MethodName := ⟨RX10, "pass", "(I)I"⟩
abbrev cX10_when : ByteArray := prog_12_method_43_code
def yX10_when : MethodName := ⟨RX10, "when", "(I)I"⟩
abbrev cX10_bricks : ByteArray := prog_12_method_44_code
def yX10_bricks : MethodName := ⟨RX10, "bricks", "(I)I"⟩
abbrev cX10_at : ByteArray := prog_12_method_45_code
def yX10_at : MethodName := ⟨RX10, "at", "(II)I"⟩
abbrev cX10_share : ByteArray := prog_12_method_46_code
def yX10_share : MethodName := ⟨RX10, "share", "(II)I"⟩
abbrev cX10_see : ByteArray := prog_12_method_47_code
def yX10_see : MethodName := ⟨RX10, "see", "(III)I"⟩
abbrev cX10_wrongBy : ByteArray := prog_12_method_48_code
def yX10_wrongBy : MethodName := ⟨RX10, "wrongBy", "(I)I"⟩
abbrev cX10_wrong : ByteArray := prog_12_method_49_code
def yX10_wrong : MethodName := ⟨RX10, "wrong", "()I"⟩
abbrev cX10_from : ByteArray := prog_12_method_50_code
def yX10_from : MethodName := ⟨RX10, "from", "(I)I"⟩
abbrev cX10_can : ByteArray := prog_12_method_51_code
def yX10_can : MethodName := ⟨RX10, "can", "(II)I"⟩
abbrev cX10_part : ByteArray := prog_12_method_52_code
def yX10_part : MethodName := ⟨RX10, "part", "(III)J"⟩
abbrev cX10_odds : ByteArray := prog_12_method_53_code
def yX10_odds : MethodName := ⟨RX10, "odds", "(II)J"⟩
abbrev cX10_mean : ByteArray := prog_12_method_54_code
def yX10_mean : MethodName := ⟨RX10, "mean", "(I)J"⟩
abbrev cX10_plan : ByteArray := prog_12_method_55_code
def yX10_plan : MethodName := ⟨RX10, "plan", "(II)I"⟩
abbrev cX10_ends : ByteArray := prog_12_method_56_code
def yX10_ends : MethodName := ⟨RX10, "ends", "(I)I"⟩
abbrev cX10_book : ByteArray := prog_12_method_57_code
def yX10_book : MethodName := ⟨RX10, "book", "(II)I"⟩
abbrev cX10_looked : ByteArray := prog_12_method_58_code
def yX10_looked : MethodName := ⟨RX10, "looked", "()I"⟩
abbrev cX10_judge : ByteArray := prog_12_method_59_code
def yX10_judge : MethodName := ⟨RX10, "judge", "(II)I"⟩
abbrev cX10_keep : ByteArray := prog_12_method_60_code
def yX10_keep : MethodName := ⟨RX10, "keep", "([I)V"⟩
abbrev cX10_again : ByteArray := prog_12_method_61_code
def yX10_again : MethodName := ⟨RX10, "again", "([I)V"⟩
abbrev cX10_image : ByteArray := prog_12_method_62_code
def yX10_image : MethodName := ⟨RX10, "image", "()I"⟩
abbrev cX10_undo : ByteArray := prog_12_method_63_code
def yX10_undo : MethodName := ⟨RX10, "undo", "()I"⟩
abbrev cX10_ran : ByteArray := prog_12_method_64_code
def yX10_ran : MethodName := ⟨RX10, "ran", "(I)V"⟩
abbrev cX10_above : ByteArray := prog_12_method_65_code
def yX10_above : MethodName := ⟨RX10, "above", "(I)I"⟩
abbrev cX10_looks : ByteArray := prog_12_method_66_code
def yX10_looks : MethodName := ⟨RX10, "looks", "(III)I"⟩
abbrev cX10_swears : ByteArray := prog_12_method_67_code
def yX10_swears : MethodName := ⟨RX10, "swears", "(III)I"⟩
abbrev cX10_tells : ByteArray := prog_12_method_68_code
def yX10_tells : MethodName := ⟨RX10, "tells", "(III)I"⟩
abbrev cX10_act : ByteArray := prog_12_method_69_code
def yX10_act : MethodName := ⟨RX10, "act", "(III)I"⟩
abbrev cX10_trace : ByteArray := prog_12_method_70_code
def yX10_trace : MethodName := ⟨RX10, "trace", "(I)I"⟩
abbrev cX10_taken : ByteArray := prog_12_method_71_code
def yX10_taken : MethodName := ⟨RX10, "taken", "(II)I"⟩
abbrev cX10_count : ByteArray := prog_12_method_72_code
def yX10_count : MethodName := ⟨RX10, "count", "(I)I"⟩
abbrev cX10_isTape : ByteArray := prog_12_method_73_code
def yX10_isTape : MethodName := ⟨RX10, "isTape", "(I)Z"⟩
abbrev cX10_tape : ByteArray := prog_12_method_74_code
def yX10_tape : MethodName := ⟨RX10, "tape", "(III)I"⟩
abbrev cX10_kept : ByteArray := prog_12_method_75_code
def yX10_kept : MethodName := ⟨RX10, "kept", "(IJ)J"⟩
abbrev cX10_item : ByteArray := prog_12_method_76_code
def yX10_item : MethodName := ⟨RX10, "item", "(IIJ)I"⟩
abbrev cX10_read : ByteArray := prog_12_method_77_code
def yX10_read : MethodName := ⟨RX10, "read", "(II)J"⟩
abbrev cX10_shift : ByteArray := prog_12_method_78_code
def yX10_shift : MethodName := ⟨RX10, "shift", "(IIIII)I"⟩
def RJ11 : String := "java/lang/Character"
abbrev cJ11_isValidCodePoint_9a6ad : ByteArray := prog_13_method_11_code
def yJ11_isValidCodePoint_9a6ad : MethodName := ⟨RJ11, "isValidCodePoint", "(I)Z"⟩
abbrev cJ11_highSurrogate_5068e : ByteArray := prog_13_method_28_code
def yJ11_highSurrogate_5068e : MethodName := ⟨RJ11, "highSurrogate", "(I)C"⟩
abbrev cJ11_lowSurrogate_5068e : ByteArray := prog_13_method_29_code
def yJ11_lowSurrogate_5068e : MethodName := ⟨RJ11, "lowSurrogate", "(I)C"⟩
def RJ6 : String := "java/lang/Integer"
abbrev cJ6_bitCount_0f7a4 : ByteArray := prog_14_method_49_code
def yJ6_bitCount_0f7a4 : MethodName := ⟨RJ6, "bitCount", "(I)I"⟩
def RJ9 : String := "java/lang/Math"
abbrev cJ9_max_7cf53 : ByteArray := prog_15_method_65_code
def yJ9_max_7cf53 : MethodName := ⟨RJ9, "max", "(II)I"⟩
abbrev cJ9_min_7cf53 : ByteArray := prog_15_method_69_code
def yJ9_min_7cf53 : MethodName := ⟨RJ9, "min", "(II)I"⟩
def RJ0 : String := "java/lang/String"
abbrev cJ0_length_8abf5 : ByteArray := prog_16_method_54_code
def yJ0_length_8abf5 : MethodName := ⟨RJ0, "length", "()I"⟩
abbrev cJ0_charAt_5068e : ByteArray := prog_16_method_56_code
def yJ0_charAt_5068e : MethodName := ⟨RJ0, "charAt", "(I)C"⟩
abbrev cJ0_indexOf_0f7a4 : ByteArray := prog_16_method_79_code
def yJ0_indexOf_0f7a4 : MethodName := ⟨RJ0, "indexOf", "(I)I"⟩
abbrev cJ0_indexOf_7cf53 : ByteArray := prog_16_method_80_code
def yJ0_indexOf_7cf53 : MethodName := ⟨RJ0, "indexOf", "(II)I"⟩
abbrev cJ0_coder_7d493 : ByteArray := prog_16_method_152_code
def yJ0_coder_7d493 : MethodName := ⟨RJ0, "coder", "()B"⟩
abbrev cJ0_isLatin1_aae02 : ByteArray := prog_16_method_154_code
def yJ0_isLatin1_aae02 : MethodName := ⟨RJ0, "isLatin1", "()Z"⟩
abbrev cJ0_checkIndex_df160 : ByteArray := prog_16_method_155_code
def yJ0_checkIndex_df160 : MethodName := ⟨RJ0, "checkIndex", "(II)V"⟩
abbrev cJ0_checkBoundsBeginEnd_23922 : ByteArray := prog_16_method_158_code
def yJ0_checkBoundsBeginEnd_23922 : MethodName := ⟨RJ0, "checkBoundsBeginEnd", "(III)V"⟩
def RJ1 : String := "java/lang/StringLatin1"
abbrev cJ1_charAt_3b067 : ByteArray := prog_17_method_2_code
def yJ1_charAt_3b067 : MethodName := ⟨RJ1, "charAt", "([BI)C"⟩
abbrev cJ1_canEncode_9a6ad : ByteArray := prog_17_method_4_code
def yJ1_canEncode_9a6ad : MethodName := ⟨RJ1, "canEncode", "(I)Z"⟩
abbrev cJ1_indexOf_4cfef : ByteArray := prog_17_method_22_code
def yJ1_indexOf_4cfef : MethodName := ⟨RJ1, "indexOf", "([BIII)I"⟩
abbrev cJ1_indexOfChar_4cfef : ByteArray := prog_17_method_23_code
def yJ1_indexOfChar_4cfef : MethodName := ⟨RJ1, "indexOfChar", "([BIII)I"⟩
def RJ2 : String := "java/lang/StringUTF16"
abbrev cJ2_getChar_3b067 : ByteArray := prog_18_method_5_code
def yJ2_getChar_3b067 : MethodName := ⟨RJ2, "getChar", "([BI)C"⟩
abbrev cJ2_length_9d52b : ByteArray := prog_18_method_6_code
def yJ2_length_9d52b : MethodName := ⟨RJ2, "length", "([B)I"⟩
abbrev cJ2_indexOf_4cfef : ByteArray := prog_18_method_40_code
def yJ2_indexOf_4cfef : MethodName := ⟨RJ2, "indexOf", "([BIII)I"⟩
abbrev cJ2_indexOfChar_4cfef : ByteArray := prog_18_method_47_code
def yJ2_indexOfChar_4cfef : MethodName := ⟨RJ2, "indexOfChar", "([BIII)I"⟩
abbrev cJ2_indexOfCharUnsafe_4cfef : ByteArray := prog_18_method_48_code
def yJ2_indexOfCharUnsafe_4cfef : MethodName := ⟨RJ2, "indexOfCharUnsafe", "([BIII)I"⟩
abbrev cJ2_indexOfSupplementary_4cfef : ByteArray := prog_18_method_49_code
def yJ2_indexOfSupplementary_4cfef : MethodName := ⟨RJ2, "indexOfSupplementary", "([BIII)I"⟩
abbrev cJ2_charAt_3b067 : ByteArray := prog_18_method_83_code
def yJ2_charAt_3b067 : MethodName := ⟨RJ2, "charAt", "([BI)C"⟩
abbrev cJ2_checkIndex_2214a : ByteArray := prog_18_method_91_code
def yJ2_checkIndex_2214a : MethodName := ⟨RJ2, "checkIndex", "(I[B)V"⟩
abbrev cJ2_checkBoundsBeginEnd_d044e : ByteArray := prog_18_method_93_code
def yJ2_checkBoundsBeginEnd_d044e : MethodName := ⟨RJ2, "checkBoundsBeginEnd", "(II[B)V"⟩
def RJ10 : String := "java/lang/System"
def RJ3 : String := "jdk/internal/util/Preconditions"
abbrev cJ3_checkIndex_8e157 : ByteArray := prog_20_method_11_code
def yJ3_checkIndex_8e157 : MethodName := ⟨RJ3, "checkIndex", "(IILjava/util/function/BiFunction;)I"⟩
abbrev cJ3_checkFromToIndex_8c36e : ByteArray := prog_20_method_12_code
def yJ3_checkFromToIndex_8c36e : MethodName := ⟨RJ3, "checkFromToIndex", "(IIILjava/util/function/BiFunction;)I"⟩
def RL : String := "WitnessPaysLaw"
abbrev cL_law : ByteArray := code
def yL_law : MethodName := ⟨RL, "law", "([I)Z"⟩
abbrev vwCl : List vw_C := [(RX0, TX0, 5), (RX1, TX1, 8), (RX2, TX2, 4), (RX3, TX3, 8), (RX4, TX4, 4), (RX5, TX5, 5), (RX6, TX6, 3), (RX7, TX7, 3), (RX8, TX8, 1), (RX9, TX9, 8), (RX10, TX10, 44)]
/-- the tables' words that stay true under warmer tables -/
def Ug : List Cond := lw_tbl.filter goodWord
theorem ugm {w : Cond} (i : Nat) (h : lw_tbl[i]? = some w) (hg : goodWord w = true) : w ∈ Ug := List.mem_filter.mpr ⟨List.mem_of_getElem? h, hg⟩
theorem ug_in {ws : List Cond} (h : ∀ w ∈ ws, w ∈ Ug) : GoodIn Ug ws := fun w hw => ⟨h w hw, good_of_word (List.mem_filter.mp (h w hw)).2⟩
theorem ug_tbl {w : Cond} (h : w ∈ Ug) : w ∈ lw_tbl := (List.mem_filter.mp h).1
theorem tb_in : (∀ w ∈ tables_1_1, w ∈ lw_tbl) ∧ (∀ w ∈ tables_1_2, w ∈ lw_tbl) ∧ (∀ w ∈ tables_1_3, w ∈ lw_tbl) ∧ (∀ w ∈ tables_1_4, w ∈ lw_tbl) ∧ (∀ w ∈ tables_1_5, w ∈ lw_tbl) ∧ ∀ w ∈ tables_1_6, w ∈ lw_tbl := by
  have h : ∀ w ∈ tables_1, w ∈ lw_tbl := fun w hw => List.mem_append_right _ hw
  exact ⟨fun w hw => h w (List.mem_append_left _ hw), fun w hw => h w (List.mem_append_right _ (List.mem_append_left _ hw)), fun w hw => h w (List.mem_append_right _ (List.mem_append_right _ (List.mem_append_left _ hw))), fun w hw => h w (List.mem_append_right _ (List.mem_append_right _ (List.mem_append_right _ (List.mem_append_left _ hw)))), fun w hw => h w (List.mem_append_right _ (List.mem_append_right _ (List.mem_append_right _ (List.mem_append_right _ (List.mem_append_left _ hw))))), fun w hw => h w (List.mem_append_right _ (List.mem_append_right _ (List.mem_append_right _ (List.mem_append_right _ (List.mem_append_right _ hw)))))⟩
theorem ug1 {w : Cond} (i : Nat) (h : tables_1_1[i]? = some w) (hg : goodWord w = true) : w ∈ Ug := List.mem_filter.mpr ⟨tb_in.1 w (List.mem_of_getElem? h), hg⟩
theorem ug2 {w : Cond} (i : Nat) (h : tables_1_2[i]? = some w) (hg : goodWord w = true) : w ∈ Ug := List.mem_filter.mpr ⟨tb_in.2.1 w (List.mem_of_getElem? h), hg⟩
theorem ug3 {w : Cond} (i : Nat) (h : tables_1_3[i]? = some w) (hg : goodWord w = true) : w ∈ Ug := List.mem_filter.mpr ⟨tb_in.2.2.1 w (List.mem_of_getElem? h), hg⟩
theorem ug4 {w : Cond} (i : Nat) (h : tables_1_4[i]? = some w) (hg : goodWord w = true) : w ∈ Ug := List.mem_filter.mpr ⟨tb_in.2.2.2.1 w (List.mem_of_getElem? h), hg⟩
theorem ug5 {w : Cond} (i : Nat) (h : tables_1_5[i]? = some w) (hg : goodWord w = true) : w ∈ Ug := List.mem_filter.mpr ⟨tb_in.2.2.2.2.1 w (List.mem_of_getElem? h), hg⟩
theorem ug6 {w : Cond} (i : Nat) (h : tables_1_6[i]? = some w) (hg : goodWord w = true) : w ∈ Ug := List.mem_filter.mpr ⟨tb_in.2.2.2.2.2 w (List.mem_of_getElem? h), hg⟩
def isNest : Cond → Bool
  | .fieldLinkNest .. => true
  | .methodLinkNest .. => true
  | _ => false
def nestW : List Cond := lw_tbl.filter isNest
theorem nwm {w : Cond} (i : Nat) (h : lw_tbl[i]? = some w) (hg : isNest w = true) : w ∈ nestW := List.mem_filter.mpr ⟨List.mem_of_getElem? h, hg⟩
theorem nw1 {w : Cond} (i : Nat) (h : tables_1_1[i]? = some w) (hg : isNest w = true) : w ∈ nestW := List.mem_filter.mpr ⟨tb_in.1 w (List.mem_of_getElem? h), hg⟩
theorem nw2 {w : Cond} (i : Nat) (h : tables_1_2[i]? = some w) (hg : isNest w = true) : w ∈ nestW := List.mem_filter.mpr ⟨tb_in.2.1 w (List.mem_of_getElem? h), hg⟩
theorem nw3 {w : Cond} (i : Nat) (h : tables_1_3[i]? = some w) (hg : isNest w = true) : w ∈ nestW := List.mem_filter.mpr ⟨tb_in.2.2.1 w (List.mem_of_getElem? h), hg⟩
theorem nw4 {w : Cond} (i : Nat) (h : tables_1_4[i]? = some w) (hg : isNest w = true) : w ∈ nestW := List.mem_filter.mpr ⟨tb_in.2.2.2.1 w (List.mem_of_getElem? h), hg⟩
theorem nw5 {w : Cond} (i : Nat) (h : tables_1_5[i]? = some w) (hg : isNest w = true) : w ∈ nestW := List.mem_filter.mpr ⟨tb_in.2.2.2.2.1 w (List.mem_of_getElem? h), hg⟩
theorem nw6 {w : Cond} (i : Nat) (h : tables_1_6[i]? = some w) (hg : isNest w = true) : w ∈ nestW := List.mem_filter.mpr ⟨tb_in.2.2.2.2.2 w (List.mem_of_getElem? h), hg⟩
