section
-- ===== PART A: goes FIRST, ahead of the names: the tables' words, and 'selects' of the private methods out of them =====
/-- a private method of a class that the tables say can be made, by its rows of tables_1 -/
def lw_okq (q : MethodName × Nat) : Prop := (q.1.cls ≠ "java/lang/invoke/MethodHandle" ∧ q.1.cls ≠ "java/lang/invoke/VarHandle") ∧ Cond.instantiable q.1.cls q.2 ∈ tables_1 ∧ Cond.privateMethod q.1 ∈ tables_1 ∧ Cond.instanceMethod q.1 ∈ tables_1
theorem lw_p0 : lw_okq (⟨"TomorrowBells$Reader", "skipBlanks", "()V"⟩, 6) := ⟨⟨by decide +kernel, by decide +kernel⟩, List.mem_of_getElem? (i := 29) (by decide +kernel), List.mem_of_getElem? (i := 318) (by decide +kernel), List.mem_of_getElem? (i := 319) (by decide +kernel)⟩
theorem lw_p1 : lw_okq (⟨"TomorrowBells$Reader", "readClause", "(LTomorrowBells$Town;)V"⟩, 6) := ⟨⟨by decide +kernel, by decide +kernel⟩, List.mem_of_getElem? (i := 29) (by decide +kernel), List.mem_of_getElem? (i := 322) (by decide +kernel), List.mem_of_getElem? (i := 323) (by decide +kernel)⟩
theorem lw_p2 : lw_okq (⟨"TomorrowBells$Reader", "readBell", "(LTomorrowBells$Town;I)V"⟩, 6) := ⟨⟨by decide +kernel, by decide +kernel⟩, List.mem_of_getElem? (i := 29) (by decide +kernel), List.mem_of_getElem? (i := 326) (by decide +kernel), List.mem_of_getElem? (i := 327) (by decide +kernel)⟩
theorem lw_p3 : lw_okq (⟨"TomorrowBells$Reader", "blame", "(II)V"⟩, 6) := ⟨⟨by decide +kernel, by decide +kernel⟩, List.mem_of_getElem? (i := 29) (by decide +kernel), List.mem_of_getElem? (i := 330) (by decide +kernel), List.mem_of_getElem? (i := 331) (by decide +kernel)⟩
theorem lw_p4 : lw_okq (⟨"TomorrowBells$Reader", "readKind", "()I"⟩, 6) := ⟨⟨by decide +kernel, by decide +kernel⟩, List.mem_of_getElem? (i := 29) (by decide +kernel), List.mem_of_getElem? (i := 334) (by decide +kernel), List.mem_of_getElem? (i := 335) (by decide +kernel)⟩
theorem lw_p5 : lw_okq (⟨"TomorrowBells$Reader", "readNumber", "(II)I"⟩, 6) := ⟨⟨by decide +kernel, by decide +kernel⟩, List.mem_of_getElem? (i := 29) (by decide +kernel), List.mem_of_getElem? (i := 423) (by decide +kernel), List.mem_of_getElem? (i := 424) (by decide +kernel)⟩
theorem lw_p6 : lw_okq (⟨"TomorrowBells$Reader", "clauseEnds", "()Z"⟩, 6) := ⟨⟨by decide +kernel, by decide +kernel⟩, List.mem_of_getElem? (i := 29) (by decide +kernel), List.mem_of_getElem? (i := 427) (by decide +kernel), List.mem_of_getElem? (i := 428) (by decide +kernel)⟩
theorem lw_p7 : lw_okq (⟨"TomorrowBells$Reader", "readGroup", "(LTomorrowBells$Town;I)V"⟩, 6) := ⟨⟨by decide +kernel, by decide +kernel⟩, List.mem_of_getElem? (i := 29) (by decide +kernel), List.mem_of_getElem? (i := 435) (by decide +kernel), List.mem_of_getElem? (i := 436) (by decide +kernel)⟩
theorem lw_p8 : lw_okq (⟨"TomorrowBells$Reader", "readThreshold", "(LTomorrowBells$Thresholds;I)V"⟩, 6) := ⟨⟨by decide +kernel, by decide +kernel⟩, List.mem_of_getElem? (i := 29) (by decide +kernel), List.mem_of_getElem? (i := 443) (by decide +kernel), List.mem_of_getElem? (i := 444) (by decide +kernel)⟩
theorem lw_p9 : lw_okq (⟨"TomorrowBells$Reader", "readSelf", "(LTomorrowBells$Town;I)V"⟩, 6) := ⟨⟨by decide +kernel, by decide +kernel⟩, List.mem_of_getElem? (i := 29) (by decide +kernel), List.mem_of_getElem? (i := 456) (by decide +kernel), List.mem_of_getElem? (i := 457) (by decide +kernel)⟩
theorem lw_p10 : lw_okq (⟨"TomorrowBells$Reader", "readHarm", "(LTomorrowBells$Town;)V"⟩, 6) := ⟨⟨by decide +kernel, by decide +kernel⟩, List.mem_of_getElem? (i := 29) (by decide +kernel), List.mem_of_getElem? (i := 464) (by decide +kernel), List.mem_of_getElem? (i := 465) (by decide +kernel)⟩
theorem lw_p11 : lw_okq (⟨"TomorrowBells", "fittingDays", "(II)J"⟩, 8) := ⟨⟨by decide +kernel, by decide +kernel⟩, List.mem_of_getElem? (i := 21) (by decide +kernel), List.mem_of_getElem? (i := 514) (by decide +kernel), List.mem_of_getElem? (i := 515) (by decide +kernel)⟩
theorem lw_p12 : lw_okq (⟨"TomorrowBells", "supposeNow", "()V"⟩, 8) := ⟨⟨by decide +kernel, by decide +kernel⟩, List.mem_of_getElem? (i := 21) (by decide +kernel), List.mem_of_getElem? (i := 518) (by decide +kernel), List.mem_of_getElem? (i := 519) (by decide +kernel)⟩
theorem lw_p13 : lw_okq (⟨"TomorrowBells", "isBell", "(I)Z"⟩, 8) := ⟨⟨by decide +kernel, by decide +kernel⟩, List.mem_of_getElem? (i := 21) (by decide +kernel), List.mem_of_getElem? (i := 585) (by decide +kernel), List.mem_of_getElem? (i := 586) (by decide +kernel)⟩
theorem lw_p14 : lw_okq (⟨"TomorrowBells", "isGroup", "(I)Z"⟩, 8) := ⟨⟨by decide +kernel, by decide +kernel⟩, List.mem_of_getElem? (i := 21) (by decide +kernel), List.mem_of_getElem? (i := 602) (by decide +kernel), List.mem_of_getElem? (i := 603) (by decide +kernel)⟩
theorem lw_p15 : lw_okq (⟨"TomorrowBells", "isRing", "(I)Z"⟩, 8) := ⟨⟨by decide +kernel, by decide +kernel⟩, List.mem_of_getElem? (i := 21) (by decide +kernel), List.mem_of_getElem? (i := 626) (by decide +kernel), List.mem_of_getElem? (i := 627) (by decide +kernel)⟩
def lw_privs_1 : List (MethodName × Nat) := [(⟨"TomorrowBells$Reader", "skipBlanks", "()V"⟩, 6), (⟨"TomorrowBells$Reader", "readClause", "(LTomorrowBells$Town;)V"⟩, 6), (⟨"TomorrowBells$Reader", "readBell", "(LTomorrowBells$Town;I)V"⟩, 6), (⟨"TomorrowBells$Reader", "blame", "(II)V"⟩, 6), (⟨"TomorrowBells$Reader", "readKind", "()I"⟩, 6), (⟨"TomorrowBells$Reader", "readNumber", "(II)I"⟩, 6), (⟨"TomorrowBells$Reader", "clauseEnds", "()Z"⟩, 6), (⟨"TomorrowBells$Reader", "readGroup", "(LTomorrowBells$Town;I)V"⟩, 6), (⟨"TomorrowBells$Reader", "readThreshold", "(LTomorrowBells$Thresholds;I)V"⟩, 6), (⟨"TomorrowBells$Reader", "readSelf", "(LTomorrowBells$Town;I)V"⟩, 6), (⟨"TomorrowBells$Reader", "readHarm", "(LTomorrowBells$Town;)V"⟩, 6), (⟨"TomorrowBells", "fittingDays", "(II)J"⟩, 8), (⟨"TomorrowBells", "supposeNow", "()V"⟩, 8), (⟨"TomorrowBells", "isBell", "(I)Z"⟩, 8), (⟨"TomorrowBells", "isGroup", "(I)Z"⟩, 8), (⟨"TomorrowBells", "isRing", "(I)Z"⟩, 8)]
theorem lw_r1 : ∀ q ∈ lw_privs_1, lw_okq q := List.forall_mem_cons.mpr ⟨lw_p0, List.forall_mem_cons.mpr ⟨lw_p1, List.forall_mem_cons.mpr ⟨lw_p2, List.forall_mem_cons.mpr ⟨lw_p3, List.forall_mem_cons.mpr ⟨lw_p4, List.forall_mem_cons.mpr ⟨lw_p5, List.forall_mem_cons.mpr ⟨lw_p6, List.forall_mem_cons.mpr ⟨lw_p7, List.forall_mem_cons.mpr ⟨lw_p8, List.forall_mem_cons.mpr ⟨lw_p9, List.forall_mem_cons.mpr ⟨lw_p10, List.forall_mem_cons.mpr ⟨lw_p11, List.forall_mem_cons.mpr ⟨lw_p12, List.forall_mem_cons.mpr ⟨lw_p13, List.forall_mem_cons.mpr ⟨lw_p14, List.forall_mem_cons.mpr ⟨lw_p15, fun _ h => absurd h List.not_mem_nil⟩⟩⟩⟩⟩⟩⟩⟩⟩⟩⟩⟩⟩⟩⟩⟩
theorem lw_p16 : lw_okq (⟨"TomorrowBells", "possibleDays", "()J"⟩, 8) := ⟨⟨by decide +kernel, by decide +kernel⟩, List.mem_of_getElem? (i := 21) (by decide +kernel), List.mem_of_getElem? (i := 642) (by decide +kernel), List.mem_of_getElem? (i := 643) (by decide +kernel)⟩
theorem lw_p17 : lw_okq (⟨"TomorrowBells", "possibleAsSupposed", "()J"⟩, 8) := ⟨⟨by decide +kernel, by decide +kernel⟩, List.mem_of_getElem? (i := 21) (by decide +kernel), List.mem_of_getElem? (i := 646) (by decide +kernel), List.mem_of_getElem? (i := 647) (by decide +kernel)⟩
theorem lw_p18 : lw_okq (⟨"TomorrowBells", "greatestHarmIfMay", "(I)I"⟩, 8) := ⟨⟨by decide +kernel, by decide +kernel⟩, List.mem_of_getElem? (i := 21) (by decide +kernel), List.mem_of_getElem? (i := 722) (by decide +kernel), List.mem_of_getElem? (i := 723) (by decide +kernel)⟩
theorem lw_p19 : lw_okq (⟨"TomorrowBells", "isKeptOffIfDeaf", "(II)Z"⟩, 8) := ⟨⟨by decide +kernel, by decide +kernel⟩, List.mem_of_getElem? (i := 21) (by decide +kernel), List.mem_of_getElem? (i := 745) (by decide +kernel), List.mem_of_getElem? (i := 746) (by decide +kernel)⟩
theorem lw_p20 : lw_okq (⟨"TomorrowBells$Answering", "follow", "(LTomorrowBells$Town;LTomorrowBells$Trial;II)I"⟩, 4) := ⟨⟨by decide +kernel, by decide +kernel⟩, List.mem_of_getElem? (i := 139) (by decide +kernel), List.mem_of_getElem? (i := 790) (by decide +kernel), List.mem_of_getElem? (i := 791) (by decide +kernel)⟩
theorem lw_p21 : lw_okq (⟨"TomorrowBells$Sightings", "agrees", "(IIII)Z"⟩, 6) := ⟨⟨by decide +kernel, by decide +kernel⟩, List.mem_of_getElem? (i := 93) (by decide +kernel), List.mem_of_getElem? (i := 821) (by decide +kernel), List.mem_of_getElem? (i := 822) (by decide +kernel)⟩
theorem lw_p22 : lw_okq (⟨"TomorrowBells$Sightings", "countRinging", "(I)I"⟩, 6) := ⟨⟨by decide +kernel, by decide +kernel⟩, List.mem_of_getElem? (i := 93) (by decide +kernel), List.mem_of_getElem? (i := 842) (by decide +kernel), List.mem_of_getElem? (i := 843) (by decide +kernel)⟩
theorem lw_p23 : lw_okq (⟨"TomorrowBellsModel", "reads", "()Z"⟩, 24) := ⟨⟨by decide +kernel, by decide +kernel⟩, List.mem_of_getElem? (i := 870) (by decide +kernel), List.mem_of_getElem? (i := 963) (by decide +kernel), List.mem_of_getElem? (i := 964) (by decide +kernel)⟩
theorem lw_p24 : lw_okq (⟨"TomorrowBellsModel", "blanks", "()V"⟩, 24) := ⟨⟨by decide +kernel, by decide +kernel⟩, List.mem_of_getElem? (i := 870) (by decide +kernel), List.mem_of_getElem? (i := 967) (by decide +kernel), List.mem_of_getElem? (i := 968) (by decide +kernel)⟩
theorem lw_p25 : lw_okq (⟨"TomorrowBellsModel", "letterAt", "(I)I"⟩, 24) := ⟨⟨by decide +kernel, by decide +kernel⟩, List.mem_of_getElem? (i := 870) (by decide +kernel), List.mem_of_getElem? (i := 971) (by decide +kernel), List.mem_of_getElem? (i := 972) (by decide +kernel)⟩
theorem lw_p26 : lw_okq (⟨"TomorrowBellsModel", "readsClause", "()Z"⟩, 24) := ⟨⟨by decide +kernel, by decide +kernel⟩, List.mem_of_getElem? (i := 870) (by decide +kernel), List.mem_of_getElem? (i := 975) (by decide +kernel), List.mem_of_getElem? (i := 976) (by decide +kernel)⟩
theorem lw_p27 : lw_okq (⟨"TomorrowBellsModel", "readsBell", "()Z"⟩, 24) := ⟨⟨by decide +kernel, by decide +kernel⟩, List.mem_of_getElem? (i := 870) (by decide +kernel), List.mem_of_getElem? (i := 979) (by decide +kernel), List.mem_of_getElem? (i := 980) (by decide +kernel)⟩
theorem lw_p28 : lw_okq (⟨"TomorrowBellsModel", "isRoom", "(II)Z"⟩, 24) := ⟨⟨by decide +kernel, by decide +kernel⟩, List.mem_of_getElem? (i := 870) (by decide +kernel), List.mem_of_getElem? (i := 983) (by decide +kernel), List.mem_of_getElem? (i := 984) (by decide +kernel)⟩
theorem lw_p29 : lw_okq (⟨"TomorrowBellsModel", "lays", "(III)Z"⟩, 24) := ⟨⟨by decide +kernel, by decide +kernel⟩, List.mem_of_getElem? (i := 870) (by decide +kernel), List.mem_of_getElem? (i := 990) (by decide +kernel), List.mem_of_getElem? (i := 991) (by decide +kernel)⟩
theorem lw_p30 : lw_okq (⟨"TomorrowBellsModel", "number", "(II)Z"⟩, 24) := ⟨⟨by decide +kernel, by decide +kernel⟩, List.mem_of_getElem? (i := 870) (by decide +kernel), List.mem_of_getElem? (i := 994) (by decide +kernel), List.mem_of_getElem? (i := 995) (by decide +kernel)⟩
theorem lw_p31 : lw_okq (⟨"TomorrowBellsModel", "readsGroup", "()Z"⟩, 24) := ⟨⟨by decide +kernel, by decide +kernel⟩, List.mem_of_getElem? (i := 870) (by decide +kernel), List.mem_of_getElem? (i := 998) (by decide +kernel), List.mem_of_getElem? (i := 999) (by decide +kernel)⟩
def lw_privs_2 : List (MethodName × Nat) := [(⟨"TomorrowBells", "possibleDays", "()J"⟩, 8), (⟨"TomorrowBells", "possibleAsSupposed", "()J"⟩, 8), (⟨"TomorrowBells", "greatestHarmIfMay", "(I)I"⟩, 8), (⟨"TomorrowBells", "isKeptOffIfDeaf", "(II)Z"⟩, 8), (⟨"TomorrowBells$Answering", "follow", "(LTomorrowBells$Town;LTomorrowBells$Trial;II)I"⟩, 4), (⟨"TomorrowBells$Sightings", "agrees", "(IIII)Z"⟩, 6), (⟨"TomorrowBells$Sightings", "countRinging", "(I)I"⟩, 6), (⟨"TomorrowBellsModel", "reads", "()Z"⟩, 24), (⟨"TomorrowBellsModel", "blanks", "()V"⟩, 24), (⟨"TomorrowBellsModel", "letterAt", "(I)I"⟩, 24), (⟨"TomorrowBellsModel", "readsClause", "()Z"⟩, 24), (⟨"TomorrowBellsModel", "readsBell", "()Z"⟩, 24), (⟨"TomorrowBellsModel", "isRoom", "(II)Z"⟩, 24), (⟨"TomorrowBellsModel", "lays", "(III)Z"⟩, 24), (⟨"TomorrowBellsModel", "number", "(II)Z"⟩, 24), (⟨"TomorrowBellsModel", "readsGroup", "()Z"⟩, 24)]
theorem lw_r2 : ∀ q ∈ lw_privs_2, lw_okq q := List.forall_mem_cons.mpr ⟨lw_p16, List.forall_mem_cons.mpr ⟨lw_p17, List.forall_mem_cons.mpr ⟨lw_p18, List.forall_mem_cons.mpr ⟨lw_p19, List.forall_mem_cons.mpr ⟨lw_p20, List.forall_mem_cons.mpr ⟨lw_p21, List.forall_mem_cons.mpr ⟨lw_p22, List.forall_mem_cons.mpr ⟨lw_p23, List.forall_mem_cons.mpr ⟨lw_p24, List.forall_mem_cons.mpr ⟨lw_p25, List.forall_mem_cons.mpr ⟨lw_p26, List.forall_mem_cons.mpr ⟨lw_p27, List.forall_mem_cons.mpr ⟨lw_p28, List.forall_mem_cons.mpr ⟨lw_p29, List.forall_mem_cons.mpr ⟨lw_p30, List.forall_mem_cons.mpr ⟨lw_p31, fun _ h => absurd h List.not_mem_nil⟩⟩⟩⟩⟩⟩⟩⟩⟩⟩⟩⟩⟩⟩⟩⟩
theorem lw_p32 : lw_okq (⟨"TomorrowBellsModel", "readsThree", "(IIIIIII)Z"⟩, 24) := ⟨⟨by decide +kernel, by decide +kernel⟩, List.mem_of_getElem? (i := 870) (by decide +kernel), List.mem_of_getElem? (i := 1002) (by decide +kernel), List.mem_of_getElem? (i := 1003) (by decide +kernel)⟩
theorem lw_p33 : lw_okq (⟨"TomorrowBellsModel", "readsHarm", "()Z"⟩, 24) := ⟨⟨by decide +kernel, by decide +kernel⟩, List.mem_of_getElem? (i := 870) (by decide +kernel), List.mem_of_getElem? (i := 1006) (by decide +kernel), List.mem_of_getElem? (i := 1007) (by decide +kernel)⟩
theorem lw_p34 : lw_okq (⟨"TomorrowBellsModel", "trying", "()V"⟩, 24) := ⟨⟨by decide +kernel, by decide +kernel⟩, List.mem_of_getElem? (i := 870) (by decide +kernel), List.mem_of_getElem? (i := 1018) (by decide +kernel), List.mem_of_getElem? (i := 1019) (by decide +kernel)⟩
theorem lw_p35 : lw_okq (⟨"TomorrowBellsModel", "yesterdayNow", "()I"⟩, 24) := ⟨⟨by decide +kernel, by decide +kernel⟩, List.mem_of_getElem? (i := 870) (by decide +kernel), List.mem_of_getElem? (i := 1022) (by decide +kernel), List.mem_of_getElem? (i := 1023) (by decide +kernel)⟩
theorem lw_p36 : lw_okq (⟨"TomorrowBellsModel", "harmFrom", "(I)I"⟩, 24) := ⟨⟨by decide +kernel, by decide +kernel⟩, List.mem_of_getElem? (i := 870) (by decide +kernel), List.mem_of_getElem? (i := 1026) (by decide +kernel), List.mem_of_getElem? (i := 1027) (by decide +kernel)⟩
theorem lw_p37 : lw_okq (⟨"TomorrowBellsModel", "harmOf", "(I)I"⟩, 24) := ⟨⟨by decide +kernel, by decide +kernel⟩, List.mem_of_getElem? (i := 870) (by decide +kernel), List.mem_of_getElem? (i := 1030) (by decide +kernel), List.mem_of_getElem? (i := 1031) (by decide +kernel)⟩
theorem lw_p38 : lw_okq (⟨"TomorrowBellsModel", "fits", "()I"⟩, 24) := ⟨⟨by decide +kernel, by decide +kernel⟩, List.mem_of_getElem? (i := 870) (by decide +kernel), List.mem_of_getElem? (i := 1034) (by decide +kernel), List.mem_of_getElem? (i := 1035) (by decide +kernel)⟩
theorem lw_p39 : lw_okq (⟨"TomorrowBellsModel", "ringOf", "(I)I"⟩, 24) := ⟨⟨by decide +kernel, by decide +kernel⟩, List.mem_of_getElem? (i := 870) (by decide +kernel), List.mem_of_getElem? (i := 1038) (by decide +kernel), List.mem_of_getElem? (i := 1039) (by decide +kernel)⟩
theorem lw_p40 : lw_okq (⟨"TomorrowBellsModel", "comesBy", "(I)I"⟩, 24) := ⟨⟨by decide +kernel, by decide +kernel⟩, List.mem_of_getElem? (i := 870) (by decide +kernel), List.mem_of_getElem? (i := 1045) (by decide +kernel), List.mem_of_getElem? (i := 1046) (by decide +kernel)⟩
theorem lw_p41 : lw_okq (⟨"TomorrowBellsModel", "doneBy", "(II)I"⟩, 24) := ⟨⟨by decide +kernel, by decide +kernel⟩, List.mem_of_getElem? (i := 870) (by decide +kernel), List.mem_of_getElem? (i := 1049) (by decide +kernel), List.mem_of_getElem? (i := 1050) (by decide +kernel)⟩
theorem lw_p42 : lw_okq (⟨"TomorrowBellsModel", "isBell", "(I)Z"⟩, 24) := ⟨⟨by decide +kernel, by decide +kernel⟩, List.mem_of_getElem? (i := 870) (by decide +kernel), List.mem_of_getElem? (i := 1057) (by decide +kernel), List.mem_of_getElem? (i := 1058) (by decide +kernel)⟩
theorem lw_p43 : lw_okq (⟨"TomorrowBellsModel", "isGroup", "(I)Z"⟩, 24) := ⟨⟨by decide +kernel, by decide +kernel⟩, List.mem_of_getElem? (i := 870) (by decide +kernel), List.mem_of_getElem? (i := 1066) (by decide +kernel), List.mem_of_getElem? (i := 1067) (by decide +kernel)⟩
theorem lw_p44 : lw_okq (⟨"TomorrowBellsModel", "isRing", "(I)Z"⟩, 24) := ⟨⟨by decide +kernel, by decide +kernel⟩, List.mem_of_getElem? (i := 870) (by decide +kernel), List.mem_of_getElem? (i := 1085) (by decide +kernel), List.mem_of_getElem? (i := 1086) (by decide +kernel)⟩
theorem lw_p45 : lw_okq (⟨"TomorrowBellsModel", "gathers", "()V"⟩, 24) := ⟨⟨by decide +kernel, by decide +kernel⟩, List.mem_of_getElem? (i := 870) (by decide +kernel), List.mem_of_getElem? (i := 1097) (by decide +kernel), List.mem_of_getElem? (i := 1098) (by decide +kernel)⟩
theorem lw_p46 : lw_okq (⟨"TomorrowBellsModel", "met", "(Z)I"⟩, 24) := ⟨⟨by decide +kernel, by decide +kernel⟩, List.mem_of_getElem? (i := 870) (by decide +kernel), List.mem_of_getElem? (i := 1105) (by decide +kernel), List.mem_of_getElem? (i := 1106) (by decide +kernel)⟩
theorem lw_p47 : lw_okq (⟨"TomorrowBellsModel", "isGroups", "(I)Z"⟩, 24) := ⟨⟨by decide +kernel, by decide +kernel⟩, List.mem_of_getElem? (i := 870) (by decide +kernel), List.mem_of_getElem? (i := 1130) (by decide +kernel), List.mem_of_getElem? (i := 1131) (by decide +kernel)⟩
def lw_privs_3 : List (MethodName × Nat) := [(⟨"TomorrowBellsModel", "readsThree", "(IIIIIII)Z"⟩, 24), (⟨"TomorrowBellsModel", "readsHarm", "()Z"⟩, 24), (⟨"TomorrowBellsModel", "trying", "()V"⟩, 24), (⟨"TomorrowBellsModel", "yesterdayNow", "()I"⟩, 24), (⟨"TomorrowBellsModel", "harmFrom", "(I)I"⟩, 24), (⟨"TomorrowBellsModel", "harmOf", "(I)I"⟩, 24), (⟨"TomorrowBellsModel", "fits", "()I"⟩, 24), (⟨"TomorrowBellsModel", "ringOf", "(I)I"⟩, 24), (⟨"TomorrowBellsModel", "comesBy", "(I)I"⟩, 24), (⟨"TomorrowBellsModel", "doneBy", "(II)I"⟩, 24), (⟨"TomorrowBellsModel", "isBell", "(I)Z"⟩, 24), (⟨"TomorrowBellsModel", "isGroup", "(I)Z"⟩, 24), (⟨"TomorrowBellsModel", "isRing", "(I)Z"⟩, 24), (⟨"TomorrowBellsModel", "gathers", "()V"⟩, 24), (⟨"TomorrowBellsModel", "met", "(Z)I"⟩, 24), (⟨"TomorrowBellsModel", "isGroups", "(I)Z"⟩, 24)]
theorem lw_r3 : ∀ q ∈ lw_privs_3, lw_okq q := List.forall_mem_cons.mpr ⟨lw_p32, List.forall_mem_cons.mpr ⟨lw_p33, List.forall_mem_cons.mpr ⟨lw_p34, List.forall_mem_cons.mpr ⟨lw_p35, List.forall_mem_cons.mpr ⟨lw_p36, List.forall_mem_cons.mpr ⟨lw_p37, List.forall_mem_cons.mpr ⟨lw_p38, List.forall_mem_cons.mpr ⟨lw_p39, List.forall_mem_cons.mpr ⟨lw_p40, List.forall_mem_cons.mpr ⟨lw_p41, List.forall_mem_cons.mpr ⟨lw_p42, List.forall_mem_cons.mpr ⟨lw_p43, List.forall_mem_cons.mpr ⟨lw_p44, List.forall_mem_cons.mpr ⟨lw_p45, List.forall_mem_cons.mpr ⟨lw_p46, List.forall_mem_cons.mpr ⟨lw_p47, fun _ h => absurd h List.not_mem_nil⟩⟩⟩⟩⟩⟩⟩⟩⟩⟩⟩⟩⟩⟩⟩⟩
theorem lw_p48 : lw_okq (⟨"TomorrowBellsModel", "draw", "(I)I"⟩, 24) := ⟨⟨by decide +kernel, by decide +kernel⟩, List.mem_of_getElem? (i := 870) (by decide +kernel), List.mem_of_getElem? (i := 1138) (by decide +kernel), List.mem_of_getElem? (i := 1139) (by decide +kernel)⟩
theorem lw_p49 : lw_okq (⟨"TomorrowBellsModel", "greatest", "()I"⟩, 24) := ⟨⟨by decide +kernel, by decide +kernel⟩, List.mem_of_getElem? (i := 870) (by decide +kernel), List.mem_of_getElem? (i := 1149) (by decide +kernel), List.mem_of_getElem? (i := 1150) (by decide +kernel)⟩
theorem lw_p50 : lw_okq (⟨"TomorrowBellsModel", "round", "()I"⟩, 24) := ⟨⟨by decide +kernel, by decide +kernel⟩, List.mem_of_getElem? (i := 870) (by decide +kernel), List.mem_of_getElem? (i := 1176) (by decide +kernel), List.mem_of_getElem? (i := 1177) (by decide +kernel)⟩
theorem lw_p51 : lw_okq (⟨"TomorrowBellsModel", "days", "(I)I"⟩, 24) := ⟨⟨by decide +kernel, by decide +kernel⟩, List.mem_of_getElem? (i := 870) (by decide +kernel), List.mem_of_getElem? (i := 1184) (by decide +kernel), List.mem_of_getElem? (i := 1185) (by decide +kernel)⟩
theorem lw_p52 : lw_okq (⟨"TomorrowBellsModel", "isSo", "(II)Z"⟩, 24) := ⟨⟨by decide +kernel, by decide +kernel⟩, List.mem_of_getElem? (i := 870) (by decide +kernel), List.mem_of_getElem? (i := 1196) (by decide +kernel), List.mem_of_getElem? (i := 1197) (by decide +kernel)⟩
def lw_privs_4 : List (MethodName × Nat) := [(⟨"TomorrowBellsModel", "draw", "(I)I"⟩, 24), (⟨"TomorrowBellsModel", "greatest", "()I"⟩, 24), (⟨"TomorrowBellsModel", "round", "()I"⟩, 24), (⟨"TomorrowBellsModel", "days", "(I)I"⟩, 24), (⟨"TomorrowBellsModel", "isSo", "(II)Z"⟩, 24)]
theorem lw_r4 : ∀ q ∈ lw_privs_4, lw_okq q := List.forall_mem_cons.mpr ⟨lw_p48, List.forall_mem_cons.mpr ⟨lw_p49, List.forall_mem_cons.mpr ⟨lw_p50, List.forall_mem_cons.mpr ⟨lw_p51, List.forall_mem_cons.mpr ⟨lw_p52, fun _ h => absurd h List.not_mem_nil⟩⟩⟩⟩⟩
def lw_privs : List (MethodName × Nat) := lw_privs_1 ++ (lw_privs_2 ++ (lw_privs_3 ++ (lw_privs_4)))
def lw_tbl : List Cond := k2_sels lw_privs ++ tables_1
theorem lw_privs_ok : ∀ q ∈ lw_privs, lw_okq q := by
  show ∀ q ∈ lw_privs_1 ++ (lw_privs_2 ++ (lw_privs_3 ++ (lw_privs_4))), lw_okq q
  exact List.forall_mem_append.mpr ⟨lw_r1, List.forall_mem_append.mpr ⟨lw_r2, List.forall_mem_append.mpr ⟨lw_r3, lw_r4⟩⟩⟩
end
section
def RX0 : String := "TomorrowBells$Answering"
def TX0 : u_T := fun k => match k with
  | 0 => ("TomorrowBells$Answering", "following", "[I", true)
  | 1 => ("TomorrowBells$Answering", "turnOf", "[I", true)
  | 2 => ("TomorrowBells$Answering", "firstDay", "I", false)
  | _ => ("TomorrowBells$Answering", "turn", "I", false)
def tyX0 : Nat → FieldType := fun k => match k with
  | 0 => .array .int
  | 1 => .array .int
  | 2 => .int
  | _ => .int
abbrev wsX00 : List Cond := u_ws RX0 TX0 4
theorem nmX0 : ∀ a, a < 4 → ∀ b, b < 4 → a ≠ b → (TX0 a).2.1 ≠ (TX0 b).2.1 := by decide +kernel
theorem tyX0_ok : ∀ k, k < 4 → parseFieldDescriptor (TX0 k).2.2.1 = some (tyX0 k) := by decide +kernel
abbrev cX0_init : ByteArray := prog_2_method_1_code
def yX0_init : MethodName := ⟨RX0, "<init>", "()V"⟩
abbrev cX0_begin : ByteArray := prog_2_method_2_code
def yX0_begin : MethodName := ⟨RX0, "begin", "(II)V"⟩
abbrev cX0_loopFrom : ByteArray := prog_2_method_3_code
def yX0_loopFrom : MethodName := ⟨RX0, "loopFrom", "(LTomorrowBells$Town;LTomorrowBells$Trial;I)I"⟩
abbrev cX0_leadFrom : ByteArray := prog_2_method_4_code
def yX0_leadFrom : MethodName := ⟨RX0, "leadFrom", "(LTomorrowBells$Town;LTomorrowBells$Trial;II)I"⟩
abbrev cX0_follow : ByteArray := prog_2_method_5_code
def yX0_follow : MethodName := ⟨RX0, "follow", "(LTomorrowBells$Town;LTomorrowBells$Trial;II)I"⟩
def RX1 : String := "TomorrowBells$Course"
def TX1 : u_T := fun k => match k with
  | 0 => ("TomorrowBells$Course", "aheadOfAll", "I", false)
  | 1 => ("TomorrowBells$Course", "lived", "[I", true)
  | 2 => ("TomorrowBells$Course", "days", "I", false)
  | 3 => ("TomorrowBells$Course", "harmSoFar", "I", false)
  | 4 => ("TomorrowBells$Course", "deafSet", "I", false)
  | 5 => ("TomorrowBells$Course", "maySet", "I", false)
  | 6 => ("TomorrowBells$Course", "drawn", "I", false)
  | _ => ("TomorrowBells$Course", "isKept", "Z", false)
def tyX1 : Nat → FieldType := fun k => match k with
  | 0 => .int
  | 1 => .array .int
  | 2 => .int
  | 3 => .int
  | 4 => .int
  | 5 => .int
  | 6 => .int
  | _ => .boolean
abbrev wsX10 : List Cond := u_ws RX1 TX1 8
theorem nmX1 : ∀ a, a < 8 → ∀ b, b < 8 → a ≠ b → (TX1 a).2.1 ≠ (TX1 b).2.1 := by decide +kernel
theorem tyX1_ok : ∀ k, k < 8 → parseFieldDescriptor (TX1 k).2.2.1 = some (tyX1 k) := by decide +kernel
abbrev cX1_init : ByteArray := prog_3_method_1_code
def yX1_init : MethodName := ⟨RX1, "<init>", "()V"⟩
abbrev cX1_startAnew : ByteArray := prog_3_method_2_code
def yX1_startAnew : MethodName := ⟨RX1, "startAnew", "(I)V"⟩
abbrev cX1_becomeLike : ByteArray := prog_3_method_3_code
def yX1_becomeLike : MethodName := ⟨RX1, "becomeLike", "(LTomorrowBells$Course;)V"⟩
abbrev cX1_dayBefore : ByteArray := prog_3_method_4_code
def yX1_dayBefore : MethodName := ⟨RX1, "dayBefore", "()I"⟩
abbrev cX1_pass : ByteArray := prog_3_method_5_code
def yX1_pass : MethodName := ⟨RX1, "pass", "(II)V"⟩
abbrev cX1_takeBack : ByteArray := prog_3_method_6_code
def yX1_takeBack : MethodName := ⟨RX1, "takeBack", "(I)V"⟩
abbrev cX1_draw : ByteArray := prog_3_method_7_code
def yX1_draw : MethodName := ⟨RX1, "draw", "(I)I"⟩
def RX2 : String := "TomorrowBells$Reader"
def TX2 : u_T := fun k => match k with
  | 0 => ("TomorrowBells$Reader", "text", "[I", true)
  | 1 => ("TomorrowBells$Reader", "length", "I", false)
  | 2 => ("TomorrowBells$Reader", "at", "I", false)
  | 3 => ("TomorrowBells$Reader", "numberAt", "I", false)
  | 4 => ("TomorrowBells$Reader", "faultNumber", "I", false)
  | _ => ("TomorrowBells$Reader", "faultLetter", "I", false)
def tyX2 : Nat → FieldType := fun k => match k with
  | 0 => .array .int
  | 1 => .int
  | 2 => .int
  | 3 => .int
  | 4 => .int
  | _ => .int
abbrev wsX20 : List Cond := u_ws RX2 TX2 6
theorem nmX2 : ∀ a, a < 6 → ∀ b, b < 6 → a ≠ b → (TX2 a).2.1 ≠ (TX2 b).2.1 := by decide +kernel
theorem tyX2_ok : ∀ k, k < 6 → parseFieldDescriptor (TX2 k).2.2.1 = some (tyX2 k) := by decide +kernel
abbrev cX2_init : ByteArray := prog_4_method_1_code
def yX2_init : MethodName := ⟨RX2, "<init>", "()V"⟩
abbrev cX2_letters : ByteArray := prog_4_method_2_code
def yX2_letters : MethodName := ⟨RX2, "letters", "()I"⟩
abbrev cX2_faultAt : ByteArray := prog_4_method_3_code
def yX2_faultAt : MethodName := ⟨RX2, "faultAt", "()I"⟩
abbrev cX2_append : ByteArray := prog_4_method_4_code
def yX2_append : MethodName := ⟨RX2, "append", "(I)Z"⟩
abbrev cX2_readInto : ByteArray := prog_4_method_5_code
def yX2_readInto : MethodName := ⟨RX2, "readInto", "(LTomorrowBells$Town;)I"⟩
abbrev cX2_readClause : ByteArray := prog_4_method_6_code
def yX2_readClause : MethodName := ⟨RX2, "readClause", "(LTomorrowBells$Town;)V"⟩
abbrev cX2_readBell : ByteArray := prog_4_method_7_code
def yX2_readBell : MethodName := ⟨RX2, "readBell", "(LTomorrowBells$Town;I)V"⟩
abbrev cX2_readGroup : ByteArray := prog_4_method_8_code
def yX2_readGroup : MethodName := ⟨RX2, "readGroup", "(LTomorrowBells$Town;I)V"⟩
abbrev cX2_readThreshold : ByteArray := prog_4_method_9_code
def yX2_readThreshold : MethodName := ⟨RX2, "readThreshold", "(LTomorrowBells$Thresholds;I)V"⟩
abbrev cX2_readSelf : ByteArray := prog_4_method_10_code
def yX2_readSelf : MethodName := ⟨RX2, "readSelf", "(LTomorrowBells$Town;I)V"⟩
abbrev cX2_readHarm : ByteArray := prog_4_method_11_code
def yX2_readHarm : MethodName := ⟨RX2, "readHarm", "(LTomorrowBells$Town;)V"⟩
abbrev cX2_readKind : ByteArray := prog_4_method_12_code
def yX2_readKind : MethodName := ⟨RX2, "readKind", "()I"⟩
abbrev cX2_readNumber : ByteArray := prog_4_method_13_code
def yX2_readNumber : MethodName := ⟨RX2, "readNumber", "(II)I"⟩
abbrev cX2_clauseEnds : ByteArray := prog_4_method_14_code
def yX2_clauseEnds : MethodName := ⟨RX2, "clauseEnds", "()Z"⟩
abbrev cX2_skipBlanks : ByteArray := prog_4_method_15_code
def yX2_skipBlanks : MethodName := ⟨RX2, "skipBlanks", "()V"⟩
abbrev cX2_blame : ByteArray := prog_4_method_16_code
def yX2_blame : MethodName := ⟨RX2, "blame", "(II)V"⟩
def RX3 : String := "TomorrowBells$Sightings"
def TX3 : u_T := fun k => match k with
  | 0 => ("TomorrowBells$Sightings", "count", "[I", true)
  | 1 => ("TomorrowBells$Sightings", "rang", "[Z", true)
  | 2 => ("TomorrowBells$Sightings", "before", "[I", true)
  | 3 => ("TomorrowBells$Sightings", "day", "[I", true)
  | 4 => ("TomorrowBells$Sightings", "signs", "[I", true)
  | _ => ("TomorrowBells$Sightings", "left", "I", false)
def tyX3 : Nat → FieldType := fun k => match k with
  | 0 => .array .int
  | 1 => .array .boolean
  | 2 => .array .int
  | 3 => .array .int
  | 4 => .array .int
  | _ => .int
abbrev wsX30 : List Cond := u_ws RX3 TX3 6
theorem nmX3 : ∀ a, a < 6 → ∀ b, b < 6 → a ≠ b → (TX3 a).2.1 ≠ (TX3 b).2.1 := by decide +kernel
theorem tyX3_ok : ∀ k, k < 6 → parseFieldDescriptor (TX3 k).2.2.1 = some (tyX3 k) := by decide +kernel
abbrev cX3_init : ByteArray := prog_5_method_1_code
def yX3_init : MethodName := ⟨RX3, "<init>", "()V"⟩
abbrev cX3_countOf : ByteArray := prog_5_method_2_code
def yX3_countOf : MethodName := ⟨RX3, "countOf", "(I)I"⟩
abbrev cX3_countAll : ByteArray := prog_5_method_3_code
def yX3_countAll : MethodName := ⟨RX3, "countAll", "()I"⟩
abbrev cX3_forgetAll : ByteArray := prog_5_method_4_code
def yX3_forgetAll : MethodName := ⟨RX3, "forgetAll", "()V"⟩
abbrev cX3_add : ByteArray := prog_5_method_5_code
def yX3_add : MethodName := ⟨RX3, "add", "(IZII)Z"⟩
abbrev cX3_findSigns : ByteArray := prog_5_method_6_code
def yX3_findSigns : MethodName := ⟨RX3, "findSigns", "(I)V"⟩
abbrev cX3_agrees : ByteArray := prog_5_method_7_code
def yX3_agrees : MethodName := ⟨RX3, "agrees", "(IIII)Z"⟩
abbrev cX3_signsLeft : ByteArray := prog_5_method_8_code
def yX3_signsLeft : MethodName := ⟨RX3, "signsLeft", "()I"⟩
abbrev cX3_signAt : ByteArray := prog_5_method_9_code
def yX3_signAt : MethodName := ⟨RX3, "signAt", "(I)I"⟩
abbrev cX3_dayThatParts : ByteArray := prog_5_method_10_code
def yX3_dayThatParts : MethodName := ⟨RX3, "dayThatParts", "()I"⟩
abbrev cX3_countRinging : ByteArray := prog_5_method_11_code
def yX3_countRinging : MethodName := ⟨RX3, "countRinging", "(I)I"⟩
def RX4 : String := "TomorrowBells$Thresholds"
def TX4 : u_T := fun k => match k with
  | 0 => ("TomorrowBells$Thresholds", "happening", "[I", true)
  | 1 => ("TomorrowBells$Thresholds", "deed", "[I", true)
  | 2 => ("TomorrowBells$Thresholds", "needed", "[I", true)
  | _ => ("TomorrowBells$Thresholds", "count", "I", false)
def tyX4 : Nat → FieldType := fun k => match k with
  | 0 => .array .int
  | 1 => .array .int
  | 2 => .array .int
  | _ => .int
abbrev wsX40 : List Cond := u_ws RX4 TX4 4
theorem nmX4 : ∀ a, a < 4 → ∀ b, b < 4 → a ≠ b → (TX4 a).2.1 ≠ (TX4 b).2.1 := by decide +kernel
theorem tyX4_ok : ∀ k, k < 4 → parseFieldDescriptor (TX4 k).2.2.1 = some (tyX4 k) := by decide +kernel
abbrev cX4_init : ByteArray := prog_6_method_1_code
def yX4_init : MethodName := ⟨RX4, "<init>", "(I)V"⟩
abbrev cX4_size : ByteArray := prog_6_method_2_code
def yX4_size : MethodName := ⟨RX4, "size", "()I"⟩
abbrev cX4_isFull : ByteArray := prog_6_method_3_code
def yX4_isFull : MethodName := ⟨RX4, "isFull", "()Z"⟩
abbrev cX4_forgetAll : ByteArray := prog_6_method_4_code
def yX4_forgetAll : MethodName := ⟨RX4, "forgetAll", "()V"⟩
abbrev cX4_add : ByteArray := prog_6_method_5_code
def yX4_add : MethodName := ⟨RX4, "add", "(III)V"⟩
abbrev cX4_metBy : ByteArray := prog_6_method_6_code
def yX4_metBy : MethodName := ⟨RX4, "metBy", "([I)I"⟩
abbrev cX4_gapAbove : ByteArray := prog_6_method_7_code
def yX4_gapAbove : MethodName := ⟨RX4, "gapAbove", "(II)I"⟩
def RX5 : String := "TomorrowBells$Town"
def TX5 : u_T := fun k => match k with
  | 0 => ("TomorrowBells$Town", "bells", "I", false)
  | 1 => ("TomorrowBells$Town", "kind", "[I", true)
  | 2 => ("TomorrowBells$Town", "first", "[I", true)
  | 3 => ("TomorrowBells$Town", "second", "[I", true)
  | 4 => ("TomorrowBells$Town", "groups", "I", false)
  | 5 => ("TomorrowBells$Town", "people", "[I", true)
  | 6 => ("TomorrowBells$Town", "heard", "[I", true)
  | 7 => ("TomorrowBells$Town", "ifRung", "[I", true)
  | 8 => ("TomorrowBells$Town", "ifSilent", "[I", true)
  | 9 => ("TomorrowBells$Town", "causes", "LTomorrowBells$Thresholds;", true)
  | 10 => ("TomorrowBells$Town", "stops", "LTomorrowBells$Thresholds;", true)
  | 11 => ("TomorrowBells$Town", "selves", "I", false)
  | 12 => ("TomorrowBells$Town", "selfHappening", "[I", true)
  | 13 => ("TomorrowBells$Town", "selfEvery", "[I", true)
  | 14 => ("TomorrowBells$Town", "selfOver", "[I", true)
  | 15 => ("TomorrowBells$Town", "harms", "[I", true)
  | _ => ("TomorrowBells$Town", "harmsTold", "I", false)
def tyX5 : Nat → FieldType := fun k => match k with
  | 0 => .int
  | 1 => .array .int
  | 2 => .array .int
  | 3 => .array .int
  | 4 => .int
  | 5 => .array .int
  | 6 => .array .int
  | 7 => .array .int
  | 8 => .array .int
  | 9 => .object "TomorrowBells$Thresholds"
  | 10 => .object "TomorrowBells$Thresholds"
  | 11 => .int
  | 12 => .array .int
  | 13 => .array .int
  | 14 => .array .int
  | 15 => .array .int
  | _ => .int
abbrev wsX50 : List Cond := u_ws RX5 TX5 17
theorem nmX5 : ∀ a, a < 17 → ∀ b, b < 17 → a ≠ b → (TX5 a).2.1 ≠ (TX5 b).2.1 := by decide +kernel
theorem tyX5_ok : ∀ k, k < 17 → parseFieldDescriptor (TX5 k).2.2.1 = some (tyX5 k) := by decide +kernel
abbrev cX5_init : ByteArray := prog_7_method_1_code
def yX5_init : MethodName := ⟨RX5, "<init>", "()V"⟩
abbrev cX5_forgetAll : ByteArray := prog_7_method_2_code
def yX5_forgetAll : MethodName := ⟨RX5, "forgetAll", "()V"⟩
abbrev cX5_addBell : ByteArray := prog_7_method_3_code
def yX5_addBell : MethodName := ⟨RX5, "addBell", "(III)V"⟩
abbrev cX5_addGroup : ByteArray := prog_7_method_4_code
def yX5_addGroup : MethodName := ⟨RX5, "addGroup", "(IIII)V"⟩
abbrev cX5_addSelf : ByteArray := prog_7_method_5_code
def yX5_addSelf : MethodName := ⟨RX5, "addSelf", "(III)V"⟩
abbrev cX5_isHarmTold : ByteArray := prog_7_method_6_code
def yX5_isHarmTold : MethodName := ⟨RX5, "isHarmTold", "(I)Z"⟩
abbrev cX5_tellHarm : ByteArray := prog_7_method_7_code
def yX5_tellHarm : MethodName := ⟨RX5, "tellHarm", "(II)V"⟩
abbrev cX5_allGroups : ByteArray := prog_7_method_8_code
def yX5_allGroups : MethodName := ⟨RX5, "allGroups", "()I"⟩
abbrev cX5_countRings : ByteArray := prog_7_method_9_code
def yX5_countRings : MethodName := ⟨RX5, "countRings", "()I"⟩
abbrev cX5_hearersOf : ByteArray := prog_7_method_10_code
def yX5_hearersOf : MethodName := ⟨RX5, "hearersOf", "(I)I"⟩
abbrev cX5_ringFor : ByteArray := prog_7_method_11_code
def yX5_ringFor : MethodName := ⟨RX5, "ringFor", "(II)I"⟩
abbrev cX5_deedOf : ByteArray := prog_7_method_12_code
def yX5_deedOf : MethodName := ⟨RX5, "deedOf", "(IIII)I"⟩
abbrev cX5_selvesOn : ByteArray := prog_7_method_13_code
def yX5_selvesOn : MethodName := ⟨RX5, "selvesOn", "(I)I"⟩
abbrev cX5_comingOfItself : ByteArray := prog_7_method_14_code
def yX5_comingOfItself : MethodName := ⟨RX5, "comingOfItself", "(I)I"⟩
abbrev cX5_turn : ByteArray := prog_7_method_15_code
def yX5_turn : MethodName := ⟨RX5, "turn", "()I"⟩
abbrev cX5_harmOf : ByteArray := prog_7_method_16_code
def yX5_harmOf : MethodName := ⟨RX5, "harmOf", "(I)I"⟩
abbrev cX5_greatestHarm : ByteArray := prog_7_method_17_code
def yX5_greatestHarm : MethodName := ⟨RX5, "greatestHarm", "(J)I"⟩
def RX6 : String := "TomorrowBells$Trial"
def TX6 : u_T := fun k => match k with
  | 0 => ("TomorrowBells$Trial", "doing", "[I", true)
  | 1 => ("TomorrowBells$Trial", "caused", "[I", true)
  | 2 => ("TomorrowBells$Trial", "stopped", "[I", true)
  | _ => ("TomorrowBells$Trial", "gap", "I", false)
def tyX6 : Nat → FieldType := fun k => match k with
  | 0 => .array .int
  | 1 => .array .int
  | 2 => .array .int
  | _ => .int
abbrev wsX60 : List Cond := u_ws RX6 TX6 4
theorem nmX6 : ∀ a, a < 4 → ∀ b, b < 4 → a ≠ b → (TX6 a).2.1 ≠ (TX6 b).2.1 := by decide +kernel
theorem tyX6_ok : ∀ k, k < 4 → parseFieldDescriptor (TX6 k).2.2.1 = some (tyX6 k) := by decide +kernel
abbrev cX6_init : ByteArray := prog_8_method_1_code
def yX6_init : MethodName := ⟨RX6, "<init>", "()V"⟩
abbrev cX6_suppose : ByteArray := prog_8_method_2_code
def yX6_suppose : MethodName := ⟨RX6, "suppose", "(LTomorrowBells$Town;IIII)V"⟩
abbrev cX6_gap : ByteArray := prog_8_method_3_code
def yX6_gap : MethodName := ⟨RX6, "gap", "()I"⟩
abbrev cX6_countDoing : ByteArray := prog_8_method_4_code
def yX6_countDoing : MethodName := ⟨RX6, "countDoing", "(LTomorrowBells$Town;IIIII)V"⟩
abbrev cX6_comingBy : ByteArray := prog_8_method_5_code
def yX6_comingBy : MethodName := ⟨RX6, "comingBy", "(II)I"⟩
abbrev cX6_fitting : ByteArray := prog_8_method_6_code
def yX6_fitting : MethodName := ⟨RX6, "fitting", "(LTomorrowBells$Town;IIII)J"⟩
abbrev cX6_possible : ByteArray := prog_8_method_7_code
def yX6_possible : MethodName := ⟨RX6, "possible", "(LTomorrowBells$Town;II)J"⟩
abbrev cX6_wireUp : ByteArray := prog_8_method_8_code
def yX6_wireUp : MethodName := ⟨RX6, "wireUp", "(III)I"⟩
def RX7 : String := "TomorrowBells"
def TX7 : u_T := fun k => match k with
  | 0 => ("TomorrowBells", "reader", "LTomorrowBells$Reader;", true)
  | 1 => ("TomorrowBells", "now", "LTomorrowBells$Course;", true)
  | 2 => ("TomorrowBells", "images", "[LTomorrowBells$Course;", true)
  | 3 => ("TomorrowBells", "sightings", "LTomorrowBells$Sightings;", true)
  | 4 => ("TomorrowBells", "trial", "LTomorrowBells$Trial;", true)
  | 5 => ("TomorrowBells", "answering", "LTomorrowBells$Answering;", true)
  | 6 => ("TomorrowBells", "here", "LTomorrowBells$Town;", false)
  | _ => ("TomorrowBells", "spare", "LTomorrowBells$Town;", false)
def tyX7 : Nat → FieldType := fun k => match k with
  | 0 => .object "TomorrowBells$Reader"
  | 1 => .object "TomorrowBells$Course"
  | 2 => .array (.object "TomorrowBells$Course")
  | 3 => .object "TomorrowBells$Sightings"
  | 4 => .object "TomorrowBells$Trial"
  | 5 => .object "TomorrowBells$Answering"
  | 6 => .object "TomorrowBells$Town"
  | _ => .object "TomorrowBells$Town"
abbrev wsX70 : List Cond := u_ws RX7 TX7 8
theorem nmX7 : ∀ a, a < 8 → ∀ b, b < 8 → a ≠ b → (TX7 a).2.1 ≠ (TX7 b).2.1 := by decide +kernel
theorem tyX7_ok : ∀ k, k < 8 → parseFieldDescriptor (TX7 k).2.2.1 = some (tyX7 k) := by decide +kernel
abbrev cX7_init : ByteArray := prog_1_method_1_code
def yX7_init : MethodName := ⟨RX7, "<init>", "()V"⟩
abbrev cX7_feed : ByteArray := prog_1_method_2_code
def yX7_feed : MethodName := ⟨RX7, "feed", "(I)I"⟩
abbrev cX7_town : ByteArray := prog_1_method_3_code
def yX7_town : MethodName := ⟨RX7, "town", "()I"⟩
abbrev cX7_fault : ByteArray := prog_1_method_4_code
def yX7_fault : MethodName := ⟨RX7, "fault", "()I"⟩
abbrev cX7_told : ByteArray := prog_1_method_5_code
def yX7_told : MethodName := ⟨RX7, "told", "(I)I"⟩
abbrev cX7_bell : ByteArray := prog_1_method_6_code
def yX7_bell : MethodName := ⟨RX7, "bell", "(II)I"⟩
abbrev cX7_group : ByteArray := prog_1_method_7_code
def yX7_group : MethodName := ⟨RX7, "group", "(II)I"⟩
abbrev cX7_harm : ByteArray := prog_1_method_8_code
def yX7_harm : MethodName := ⟨RX7, "harm", "(I)I"⟩
abbrev cX7_ring : ByteArray := prog_1_method_9_code
def yX7_ring : MethodName := ⟨RX7, "ring", "(I)I"⟩
abbrev cX7_done : ByteArray := prog_1_method_10_code
def yX7_done : MethodName := ⟨RX7, "done", "(II)I"⟩
abbrev cX7_comes : ByteArray := prog_1_method_11_code
def yX7_comes : MethodName := ⟨RX7, "comes", "(I)I"⟩
abbrev cX7_could : ByteArray := prog_1_method_12_code
def yX7_could : MethodName := ⟨RX7, "could", "(I)I"⟩
abbrev cX7_sure : ByteArray := prog_1_method_13_code
def yX7_sure : MethodName := ⟨RX7, "sure", "(I)I"⟩
abbrev cX7_live : ByteArray := prog_1_method_14_code
def yX7_live : MethodName := ⟨RX7, "live", "(I)I"⟩
abbrev cX7_undo : ByteArray := prog_1_method_15_code
def yX7_undo : MethodName := ⟨RX7, "undo", "(I)I"⟩
abbrev cX7_yesterday : ByteArray := prog_1_method_16_code
def yX7_yesterday : MethodName := ⟨RX7, "yesterday", "(I)I"⟩
abbrev cX7_deaf : ByteArray := prog_1_method_17_code
def yX7_deaf : MethodName := ⟨RX7, "deaf", "(IZ)I"⟩
abbrev cX7_may : ByteArray := prog_1_method_18_code
def yX7_may : MethodName := ⟨RX7, "may", "(I)I"⟩
abbrev cX7_drift : ByteArray := prog_1_method_19_code
def yX7_drift : MethodName := ⟨RX7, "drift", "(I)I"⟩
abbrev cX7_rule : ByteArray := prog_1_method_20_code
def yX7_rule : MethodName := ⟨RX7, "rule", "(II)I"⟩
abbrev cX7_hush : ByteArray := prog_1_method_21_code
def yX7_hush : MethodName := ⟨RX7, "hush", "(II)I"⟩
abbrev cX7_run : ByteArray := prog_1_method_22_code
def yX7_run : MethodName := ⟨RX7, "run", "(II)I"⟩
abbrev cX7_takes : ByteArray := prog_1_method_23_code
def yX7_takes : MethodName := ⟨RX7, "takes", "(I)I"⟩
abbrev cX7_wire : ByteArray := prog_1_method_24_code
def yX7_wire : MethodName := ⟨RX7, "wire", "(II)I"⟩
abbrev cX7_answers : ByteArray := prog_1_method_25_code
def yX7_answers : MethodName := ⟨RX7, "answers", "(I)I"⟩
abbrev cX7_send : ByteArray := prog_1_method_26_code
def yX7_send : MethodName := ⟨RX7, "send", "(II)I"⟩
abbrev cX7_see : ByteArray := prog_1_method_27_code
def yX7_see : MethodName := ⟨RX7, "see", "(IZII)I"⟩
abbrev cX7_means : ByteArray := prog_1_method_28_code
def yX7_means : MethodName := ⟨RX7, "means", "(II)I"⟩
abbrev cX7_watch : ByteArray := prog_1_method_29_code
def yX7_watch : MethodName := ⟨RX7, "watch", "(I)I"⟩
abbrev cX7_tear : ByteArray := prog_1_method_30_code
def yX7_tear : MethodName := ⟨RX7, "tear", "()I"⟩
abbrev cX7_seed : ByteArray := prog_1_method_31_code
def yX7_seed : MethodName := ⟨RX7, "seed", "(I)I"⟩
abbrev cX7_keep : ByteArray := prog_1_method_32_code
def yX7_keep : MethodName := ⟨RX7, "keep", "(I)I"⟩
abbrev cX7_goBack : ByteArray := prog_1_method_33_code
def yX7_goBack : MethodName := ⟨RX7, "goBack", "(I)I"⟩
abbrev cX7_isBell : ByteArray := prog_1_method_34_code
def yX7_isBell : MethodName := ⟨RX7, "isBell", "(I)Z"⟩
abbrev cX7_isGroup : ByteArray := prog_1_method_35_code
def yX7_isGroup : MethodName := ⟨RX7, "isGroup", "(I)Z"⟩
abbrev cX7_isRing : ByteArray := prog_1_method_36_code
def yX7_isRing : MethodName := ⟨RX7, "isRing", "(I)Z"⟩
abbrev cX7_isDay : ByteArray := prog_1_method_37_code
def yX7_isDay : MethodName := ⟨RX7, "isDay", "(I)Z"⟩
abbrev cX7_isHappening : ByteArray := prog_1_method_38_code
def yX7_isHappening : MethodName := ⟨RX7, "isHappening", "(I)Z"⟩
abbrev cX7_isChoice : ByteArray := prog_1_method_39_code
def yX7_isChoice : MethodName := ⟨RX7, "isChoice", "(I)Z"⟩
abbrev cX7_supposeNow : ByteArray := prog_1_method_40_code
def yX7_supposeNow : MethodName := ⟨RX7, "supposeNow", "()V"⟩
abbrev cX7_possibleAsSupposed : ByteArray := prog_1_method_41_code
def yX7_possibleAsSupposed : MethodName := ⟨RX7, "possibleAsSupposed", "()J"⟩
abbrev cX7_possibleDays : ByteArray := prog_1_method_42_code
def yX7_possibleDays : MethodName := ⟨RX7, "possibleDays", "()J"⟩
abbrev cX7_fittingDays : ByteArray := prog_1_method_43_code
def yX7_fittingDays : MethodName := ⟨RX7, "fittingDays", "(II)J"⟩
abbrev cX7_greatestHarmIfMay : ByteArray := prog_1_method_44_code
def yX7_greatestHarmIfMay : MethodName := ⟨RX7, "greatestHarmIfMay", "(I)I"⟩
abbrev cX7_isKeptOffIfDeaf : ByteArray := prog_1_method_45_code
def yX7_isKeptOffIfDeaf : MethodName := ⟨RX7, "isKeptOffIfDeaf", "(II)Z"⟩
abbrev cX7_timesComing : ByteArray := prog_1_method_46_code
def yX7_timesComing : MethodName := ⟨RX7, "timesComing", "(JI)I"⟩
abbrev cX7_onAll : ByteArray := prog_1_method_47_code
def yX7_onAll : MethodName := ⟨RX7, "onAll", "(J)I"⟩
abbrev cX7_onNone : ByteArray := prog_1_method_48_code
def yX7_onNone : MethodName := ⟨RX7, "onNone", "(J)I"⟩
abbrev cX7_dayAt : ByteArray := prog_1_method_49_code
def yX7_dayAt : MethodName := ⟨RX7, "dayAt", "(JI)I"⟩
abbrev cX7_greatestDivisor : ByteArray := prog_1_method_50_code
def yX7_greatestDivisor : MethodName := ⟨RX7, "greatestDivisor", "(II)I"⟩
abbrev cX7_rings : ByteArray := prog_1_method_51_code
def yX7_rings : MethodName := ⟨RX7, "rings", "(IIIII)Z"⟩
def RX8 : String := "TomorrowBellsModel"
def TX8 : u_T := fun k => match k with
  | 0 => ("TomorrowBellsModel", "text", "[I", true)
  | 1 => ("TomorrowBellsModel", "typed", "I", false)
  | 2 => ("TomorrowBellsModel", "town", "[I", true)
  | 3 => ("TomorrowBellsModel", "draft", "[I", true)
  | 4 => ("TomorrowBellsModel", "s", "[I", true)
  | 5 => ("TomorrowBellsModel", "images", "[I", true)
  | 6 => ("TomorrowBellsModel", "kept", "[Z", true)
  | 7 => ("TomorrowBellsModel", "seens", "[I", true)
  | 8 => ("TomorrowBellsModel", "seen", "[I", true)
  | 9 => ("TomorrowBellsModel", "fault", "I", false)
  | 10 => ("TomorrowBellsModel", "at", "I", false)
  | 11 => ("TomorrowBellsModel", "wrong", "I", false)
  | 12 => ("TomorrowBellsModel", "value", "I", false)
  | 13 => ("TomorrowBellsModel", "deaf", "I", false)
  | 14 => ("TomorrowBellsModel", "may", "I", false)
  | 15 => ("TomorrowBellsModel", "grown", "I", false)
  | 16 => ("TomorrowBellsModel", "more", "I", false)
  | 17 => ("TomorrowBellsModel", "wired", "I", false)
  | 18 => ("TomorrowBellsModel", "source", "I", false)
  | 19 => ("TomorrowBellsModel", "before", "I", false)
  | 20 => ("TomorrowBellsModel", "number", "I", false)
  | 21 => ("TomorrowBellsModel", "row", "[I", true)
  | 22 => ("TomorrowBellsModel", "many", "I", false)
  | _ => ("TomorrowBellsModel", "stood", "[I", true)
def tyX8 : Nat → FieldType := fun k => match k with
  | 0 => .array .int
  | 1 => .int
  | 2 => .array .int
  | 3 => .array .int
  | 4 => .array .int
  | 5 => .array .int
  | 6 => .array .boolean
  | 7 => .array .int
  | 8 => .array .int
  | 9 => .int
  | 10 => .int
  | 11 => .int
  | 12 => .int
  | 13 => .int
  | 14 => .int
  | 15 => .int
  | 16 => .int
  | 17 => .int
  | 18 => .int
  | 19 => .int
  | 20 => .int
  | 21 => .array .int
  | 22 => .int
  | _ => .array .int
abbrev wsX80 : List Cond := u_ws RX8 TX8 24
theorem nmX8 : ∀ a, a < 24 → ∀ b, b < 24 → a ≠ b → (TX8 a).2.1 ≠ (TX8 b).2.1 := by decide +kernel
theorem tyX8_ok : ∀ k, k < 24 → parseFieldDescriptor (TX8 k).2.2.1 = some (tyX8 k) := by decide +kernel
abbrev cX8_init : ByteArray := prog_10_method_1_code
def yX8_init : MethodName := ⟨RX8, "<init>", "()V"⟩
abbrev cX8_in : ByteArray := prog_10_method_3_code
def yX8_in : MethodName := ⟨RX8, "in", "(III)Z"⟩
abbrev cX8_isBell : ByteArray := prog_10_method_4_code
def yX8_isBell : MethodName := ⟨RX8, "isBell", "(I)Z"⟩
abbrev cX8_isGroup : ByteArray := prog_10_method_5_code
def yX8_isGroup : MethodName := ⟨RX8, "isGroup", "(I)Z"⟩
abbrev cX8_isDay : ByteArray := prog_10_method_6_code
def yX8_isDay : MethodName := ⟨RX8, "isDay", "(I)Z"⟩
abbrev cX8_ones : ByteArray := prog_10_method_7_code
def yX8_ones : MethodName := ⟨RX8, "ones", "(I)I"⟩
abbrev cX8_feed : ByteArray := prog_10_method_8_code
def yX8_feed : MethodName := ⟨RX8, "feed", "(I)I"⟩
abbrev cX8_letterAt : ByteArray := prog_10_method_9_code
def yX8_letterAt : MethodName := ⟨RX8, "letterAt", "(I)I"⟩
abbrev cX8_blanks : ByteArray := prog_10_method_10_code
def yX8_blanks : MethodName := ⟨RX8, "blanks", "()V"⟩
abbrev cX8_number : ByteArray := prog_10_method_11_code
def yX8_number : MethodName := ⟨RX8, "number", "(II)Z"⟩
abbrev cX8_lays : ByteArray := prog_10_method_12_code
def yX8_lays : MethodName := ⟨RX8, "lays", "(III)Z"⟩
abbrev cX8_kindOf : ByteArray := prog_10_method_13_code
def yX8_kindOf : MethodName := ⟨RX8, "kindOf", "(I)I"⟩
abbrev cX8_isRoom : ByteArray := prog_10_method_14_code
def yX8_isRoom : MethodName := ⟨RX8, "isRoom", "(II)Z"⟩
abbrev cX8_readsBell : ByteArray := prog_10_method_15_code
def yX8_readsBell : MethodName := ⟨RX8, "readsBell", "()Z"⟩
abbrev cX8_readsGroup : ByteArray := prog_10_method_16_code
def yX8_readsGroup : MethodName := ⟨RX8, "readsGroup", "()Z"⟩
abbrev cX8_readsThree : ByteArray := prog_10_method_17_code
def yX8_readsThree : MethodName := ⟨RX8, "readsThree", "(IIIIIII)Z"⟩
abbrev cX8_readsHarm : ByteArray := prog_10_method_18_code
def yX8_readsHarm : MethodName := ⟨RX8, "readsHarm", "()Z"⟩
abbrev cX8_readsClause : ByteArray := prog_10_method_19_code
def yX8_readsClause : MethodName := ⟨RX8, "readsClause", "()Z"⟩
abbrev cX8_reads : ByteArray := prog_10_method_20_code
def yX8_reads : MethodName := ⟨RX8, "reads", "()Z"⟩
abbrev cX8_town : ByteArray := prog_10_method_21_code
def yX8_town : MethodName := ⟨RX8, "town", "()I"⟩
abbrev cX8_fault : ByteArray := prog_10_method_22_code
def yX8_fault : MethodName := ⟨RX8, "fault", "()I"⟩
abbrev cX8_yesterdayNow : ByteArray := prog_10_method_23_code
def yX8_yesterdayNow : MethodName := ⟨RX8, "yesterdayNow", "()I"⟩
abbrev cX8_harmFrom : ByteArray := prog_10_method_24_code
def yX8_harmFrom : MethodName := ⟨RX8, "harmFrom", "(I)I"⟩
abbrev cX8_told : ByteArray := prog_10_method_25_code
def yX8_told : MethodName := ⟨RX8, "told", "(I)I"⟩
abbrev cX8_bell : ByteArray := prog_10_method_26_code
def yX8_bell : MethodName := ⟨RX8, "bell", "(II)I"⟩
abbrev cX8_group : ByteArray := prog_10_method_27_code
def yX8_group : MethodName := ⟨RX8, "group", "(II)I"⟩
abbrev cX8_harmOf : ByteArray := prog_10_method_28_code
def yX8_harmOf : MethodName := ⟨RX8, "harmOf", "(I)I"⟩
abbrev cX8_harm : ByteArray := prog_10_method_29_code
def yX8_harm : MethodName := ⟨RX8, "harm", "(I)I"⟩
abbrev cX8_trying : ByteArray := prog_10_method_30_code
def yX8_trying : MethodName := ⟨RX8, "trying", "()V"⟩
abbrev cX8_rings : ByteArray := prog_10_method_31_code
def yX8_rings : MethodName := ⟨RX8, "rings", "(IIIII)Z"⟩
abbrev cX8_ringOf : ByteArray := prog_10_method_32_code
def yX8_ringOf : MethodName := ⟨RX8, "ringOf", "(I)I"⟩
abbrev cX8_doneBy : ByteArray := prog_10_method_33_code
def yX8_doneBy : MethodName := ⟨RX8, "doneBy", "(II)I"⟩
abbrev cX8_comesBy : ByteArray := prog_10_method_34_code
def yX8_comesBy : MethodName := ⟨RX8, "comesBy", "(I)I"⟩
abbrev cX8_fits : ByteArray := prog_10_method_35_code
def yX8_fits : MethodName := ⟨RX8, "fits", "()I"⟩
abbrev cX8_gathers : ByteArray := prog_10_method_36_code
def yX8_gathers : MethodName := ⟨RX8, "gathers", "()V"⟩
abbrev cX8_ring : ByteArray := prog_10_method_37_code
def yX8_ring : MethodName := ⟨RX8, "ring", "(I)I"⟩
abbrev cX8_isRing : ByteArray := prog_10_method_38_code
def yX8_isRing : MethodName := ⟨RX8, "isRing", "(I)Z"⟩
abbrev cX8_done : ByteArray := prog_10_method_39_code
def yX8_done : MethodName := ⟨RX8, "done", "(II)I"⟩
abbrev cX8_comes : ByteArray := prog_10_method_40_code
def yX8_comes : MethodName := ⟨RX8, "comes", "(I)I"⟩
abbrev cX8_could : ByteArray := prog_10_method_41_code
def yX8_could : MethodName := ⟨RX8, "could", "(I)I"⟩
abbrev cX8_met : ByteArray := prog_10_method_42_code
def yX8_met : MethodName := ⟨RX8, "met", "(Z)I"⟩
abbrev cX8_sure : ByteArray := prog_10_method_43_code
def yX8_sure : MethodName := ⟨RX8, "sure", "(I)I"⟩
abbrev cX8_live : ByteArray := prog_10_method_44_code
def yX8_live : MethodName := ⟨RX8, "live", "(I)I"⟩
abbrev cX8_undo : ByteArray := prog_10_method_45_code
def yX8_undo : MethodName := ⟨RX8, "undo", "(I)I"⟩
abbrev cX8_yesterday : ByteArray := prog_10_method_46_code
def yX8_yesterday : MethodName := ⟨RX8, "yesterday", "(I)I"⟩
abbrev cX8_deaf : ByteArray := prog_10_method_47_code
def yX8_deaf : MethodName := ⟨RX8, "deaf", "(IZ)I"⟩
abbrev cX8_isGroups : ByteArray := prog_10_method_48_code
def yX8_isGroups : MethodName := ⟨RX8, "isGroups", "(I)Z"⟩
abbrev cX8_may : ByteArray := prog_10_method_49_code
def yX8_may : MethodName := ⟨RX8, "may", "(I)I"⟩
abbrev cX8_draw : ByteArray := prog_10_method_50_code
def yX8_draw : MethodName := ⟨RX8, "draw", "(I)I"⟩
abbrev cX8_drift : ByteArray := prog_10_method_51_code
def yX8_drift : MethodName := ⟨RX8, "drift", "(I)I"⟩
abbrev cX8_greatest : ByteArray := prog_10_method_52_code
def yX8_greatest : MethodName := ⟨RX8, "greatest", "()I"⟩
abbrev cX8_rule : ByteArray := prog_10_method_53_code
def yX8_rule : MethodName := ⟨RX8, "rule", "(II)I"⟩
abbrev cX8_hush : ByteArray := prog_10_method_54_code
def yX8_hush : MethodName := ⟨RX8, "hush", "(II)I"⟩
abbrev cX8_run : ByteArray := prog_10_method_55_code
def yX8_run : MethodName := ⟨RX8, "run", "(II)I"⟩
abbrev cX8_takes : ByteArray := prog_10_method_56_code
def yX8_takes : MethodName := ⟨RX8, "takes", "(I)I"⟩
abbrev cX8_wire : ByteArray := prog_10_method_57_code
def yX8_wire : MethodName := ⟨RX8, "wire", "(II)I"⟩
abbrev cX8_round : ByteArray := prog_10_method_58_code
def yX8_round : MethodName := ⟨RX8, "round", "()I"⟩
abbrev cX8_answers : ByteArray := prog_10_method_59_code
def yX8_answers : MethodName := ⟨RX8, "answers", "(I)I"⟩
abbrev cX8_send : ByteArray := prog_10_method_60_code
def yX8_send : MethodName := ⟨RX8, "send", "(II)I"⟩
abbrev cX8_days : ByteArray := prog_10_method_61_code
def yX8_days : MethodName := ⟨RX8, "days", "(I)I"⟩
abbrev cX8_see : ByteArray := prog_10_method_62_code
def yX8_see : MethodName := ⟨RX8, "see", "(IZII)I"⟩
abbrev cX8_isSign : ByteArray := prog_10_method_63_code
def yX8_isSign : MethodName := ⟨RX8, "isSign", "(I)Z"⟩
abbrev cX8_isSo : ByteArray := prog_10_method_64_code
def yX8_isSo : MethodName := ⟨RX8, "isSo", "(II)Z"⟩
abbrev cX8_means : ByteArray := prog_10_method_65_code
def yX8_means : MethodName := ⟨RX8, "means", "(II)I"⟩
abbrev cX8_watch : ByteArray := prog_10_method_66_code
def yX8_watch : MethodName := ⟨RX8, "watch", "(I)I"⟩
abbrev cX8_tear : ByteArray := prog_10_method_67_code
def yX8_tear : MethodName := ⟨RX8, "tear", "()I"⟩
abbrev cX8_seed : ByteArray := prog_10_method_68_code
def yX8_seed : MethodName := ⟨RX8, "seed", "(I)I"⟩
abbrev cX8_keep : ByteArray := prog_10_method_69_code
def yX8_keep : MethodName := ⟨RX8, "keep", "(I)I"⟩
abbrev cX8_goBack : ByteArray := prog_10_method_70_code
def yX8_goBack : MethodName := ⟨RX8, "goBack", "(I)I"⟩
def RJx145de : String := "java/io/Serializable"
def TJx145de : u_T := fun k => match k with
  | _ => ("", "", "", false)
def tyJx145de : Nat → FieldType := fun k => match k with
  | _ => .int
abbrev wsJx145de0 : List Cond := u_ws RJx145de TJx145de 0
theorem nmJx145de : ∀ a, a < 0 → ∀ b, b < 0 → a ≠ b → (TJx145de a).2.1 ≠ (TJx145de b).2.1 := by decide +kernel
theorem tyJx145de_ok : ∀ k, k < 0 → parseFieldDescriptor (TJx145de k).2.2.1 = some (tyJx145de k) := by decide +kernel
def RJx9f9b0 : String := "java/lang/CharSequence"
def TJx9f9b0 : u_T := fun k => match k with
  | _ => ("", "", "", false)
def tyJx9f9b0 : Nat → FieldType := fun k => match k with
  | _ => .int
abbrev wsJx9f9b00 : List Cond := u_ws RJx9f9b0 TJx9f9b0 0
theorem nmJx9f9b0 : ∀ a, a < 0 → ∀ b, b < 0 → a ≠ b → (TJx9f9b0 a).2.1 ≠ (TJx9f9b0 b).2.1 := by decide +kernel
theorem tyJx9f9b0_ok : ∀ k, k < 0 → parseFieldDescriptor (TJx9f9b0 k).2.2.1 = some (tyJx9f9b0 k) := by decide +kernel
def RJ11 : String := "java/lang/Character"
def TJ11 : u_T := fun k => match k with
  | _ => ("", "", "", false)
def tyJ11 : Nat → FieldType := fun k => match k with
  | _ => .int
abbrev wsJ110 : List Cond := u_ws RJ11 TJ11 0
theorem nmJ11 : ∀ a, a < 0 → ∀ b, b < 0 → a ≠ b → (TJ11 a).2.1 ≠ (TJ11 b).2.1 := by decide +kernel
theorem tyJ11_ok : ∀ k, k < 0 → parseFieldDescriptor (TJ11 k).2.2.1 = some (tyJ11 k) := by decide +kernel
abbrev cJ11_isValidCodePoint_9a6ad : ByteArray := prog_11_method_11_code
def yJ11_isValidCodePoint_9a6ad : MethodName := ⟨RJ11, "isValidCodePoint", "(I)Z"⟩
abbrev cJ11_highSurrogate_5068e : ByteArray := prog_11_method_28_code
def yJ11_highSurrogate_5068e : MethodName := ⟨RJ11, "highSurrogate", "(I)C"⟩
abbrev cJ11_lowSurrogate_5068e : ByteArray := prog_11_method_29_code
def yJ11_lowSurrogate_5068e : MethodName := ⟨RJ11, "lowSurrogate", "(I)C"⟩
def RJxb160c : String := "java/lang/Comparable"
def TJxb160c : u_T := fun k => match k with
  | _ => ("", "", "", false)
def tyJxb160c : Nat → FieldType := fun k => match k with
  | _ => .int
abbrev wsJxb160c0 : List Cond := u_ws RJxb160c TJxb160c 0
theorem nmJxb160c : ∀ a, a < 0 → ∀ b, b < 0 → a ≠ b → (TJxb160c a).2.1 ≠ (TJxb160c b).2.1 := by decide +kernel
theorem tyJxb160c_ok : ∀ k, k < 0 → parseFieldDescriptor (TJxb160c k).2.2.1 = some (tyJxb160c k) := by decide +kernel
def RJ6 : String := "java/lang/Integer"
def TJ6 : u_T := fun k => match k with
  | _ => ("", "", "", false)
def tyJ6 : Nat → FieldType := fun k => match k with
  | _ => .int
abbrev wsJ60 : List Cond := u_ws RJ6 TJ6 0
theorem nmJ6 : ∀ a, a < 0 → ∀ b, b < 0 → a ≠ b → (TJ6 a).2.1 ≠ (TJ6 b).2.1 := by decide +kernel
theorem tyJ6_ok : ∀ k, k < 0 → parseFieldDescriptor (TJ6 k).2.2.1 = some (tyJ6 k) := by decide +kernel
abbrev cJ6_bitCount_0f7a4 : ByteArray := prog_12_method_49_code
def yJ6_bitCount_0f7a4 : MethodName := ⟨RJ6, "bitCount", "(I)I"⟩
def RJ13 : String := "java/lang/Long"
def TJ13 : u_T := fun k => match k with
  | _ => ("", "", "", false)
def tyJ13 : Nat → FieldType := fun k => match k with
  | _ => .int
abbrev wsJ130 : List Cond := u_ws RJ13 TJ13 0
theorem nmJ13 : ∀ a, a < 0 → ∀ b, b < 0 → a ≠ b → (TJ13 a).2.1 ≠ (TJ13 b).2.1 := by decide +kernel
theorem tyJ13_ok : ∀ k, k < 0 → parseFieldDescriptor (TJ13 k).2.2.1 = some (tyJ13 k) := by decide +kernel
abbrev cJ13_bitCount_95d88 : ByteArray := prog_13_method_50_code
def yJ13_bitCount_95d88 : MethodName := ⟨RJ13, "bitCount", "(J)I"⟩
def RJ9 : String := "java/lang/Math"
def TJ9 : u_T := fun k => match k with
  | _ => ("", "", "", false)
def tyJ9 : Nat → FieldType := fun k => match k with
  | _ => .int
abbrev wsJ90 : List Cond := u_ws RJ9 TJ9 0
theorem nmJ9 : ∀ a, a < 0 → ∀ b, b < 0 → a ≠ b → (TJ9 a).2.1 ≠ (TJ9 b).2.1 := by decide +kernel
theorem tyJ9_ok : ∀ k, k < 0 → parseFieldDescriptor (TJ9 k).2.2.1 = some (tyJ9 k) := by decide +kernel
abbrev cJ9_abs_0f7a4 : ByteArray := prog_14_method_59_code
def yJ9_abs_0f7a4 : MethodName := ⟨RJ9, "abs", "(I)I"⟩
abbrev cJ9_max_7cf53 : ByteArray := prog_14_method_65_code
def yJ9_max_7cf53 : MethodName := ⟨RJ9, "max", "(II)I"⟩
abbrev cJ9_min_7cf53 : ByteArray := prog_14_method_69_code
def yJ9_min_7cf53 : MethodName := ⟨RJ9, "min", "(II)I"⟩
def RJ0 : String := "java/lang/String"
def TJ0 : u_T := fun k => match k with
  | _ => ("", "", "", false)
def tyJ0 : Nat → FieldType := fun k => match k with
  | _ => .int
abbrev wsJ00 : List Cond := u_ws RJ0 TJ0 0
theorem nmJ0 : ∀ a, a < 0 → ∀ b, b < 0 → a ≠ b → (TJ0 a).2.1 ≠ (TJ0 b).2.1 := by decide +kernel
theorem tyJ0_ok : ∀ k, k < 0 → parseFieldDescriptor (TJ0 k).2.2.1 = some (tyJ0 k) := by decide +kernel
abbrev cJ0_length_8abf5 : ByteArray := prog_15_method_54_code
def yJ0_length_8abf5 : MethodName := ⟨RJ0, "length", "()I"⟩
abbrev cJ0_indexOf_0f7a4 : ByteArray := prog_15_method_79_code
def yJ0_indexOf_0f7a4 : MethodName := ⟨RJ0, "indexOf", "(I)I"⟩
abbrev cJ0_indexOf_7cf53 : ByteArray := prog_15_method_80_code
def yJ0_indexOf_7cf53 : MethodName := ⟨RJ0, "indexOf", "(II)I"⟩
abbrev cJ0_coder_7d493 : ByteArray := prog_15_method_152_code
def yJ0_coder_7d493 : MethodName := ⟨RJ0, "coder", "()B"⟩
abbrev cJ0_isLatin1_aae02 : ByteArray := prog_15_method_154_code
def yJ0_isLatin1_aae02 : MethodName := ⟨RJ0, "isLatin1", "()Z"⟩
abbrev cJ0_checkBoundsBeginEnd_23922 : ByteArray := prog_15_method_158_code
def yJ0_checkBoundsBeginEnd_23922 : MethodName := ⟨RJ0, "checkBoundsBeginEnd", "(III)V"⟩
def RJ1 : String := "java/lang/StringLatin1"
def TJ1 : u_T := fun k => match k with
  | _ => ("", "", "", false)
def tyJ1 : Nat → FieldType := fun k => match k with
  | _ => .int
abbrev wsJ10 : List Cond := u_ws RJ1 TJ1 0
theorem nmJ1 : ∀ a, a < 0 → ∀ b, b < 0 → a ≠ b → (TJ1 a).2.1 ≠ (TJ1 b).2.1 := by decide +kernel
theorem tyJ1_ok : ∀ k, k < 0 → parseFieldDescriptor (TJ1 k).2.2.1 = some (tyJ1 k) := by decide +kernel
abbrev cJ1_canEncode_9a6ad : ByteArray := prog_16_method_4_code
def yJ1_canEncode_9a6ad : MethodName := ⟨RJ1, "canEncode", "(I)Z"⟩
abbrev cJ1_indexOf_4cfef : ByteArray := prog_16_method_22_code
def yJ1_indexOf_4cfef : MethodName := ⟨RJ1, "indexOf", "([BIII)I"⟩
abbrev cJ1_indexOfChar_4cfef : ByteArray := prog_16_method_23_code
def yJ1_indexOfChar_4cfef : MethodName := ⟨RJ1, "indexOfChar", "([BIII)I"⟩
def RJ2 : String := "java/lang/StringUTF16"
def TJ2 : u_T := fun k => match k with
  | _ => ("", "", "", false)
def tyJ2 : Nat → FieldType := fun k => match k with
  | _ => .int
abbrev wsJ20 : List Cond := u_ws RJ2 TJ2 0
theorem nmJ2 : ∀ a, a < 0 → ∀ b, b < 0 → a ≠ b → (TJ2 a).2.1 ≠ (TJ2 b).2.1 := by decide +kernel
theorem tyJ2_ok : ∀ k, k < 0 → parseFieldDescriptor (TJ2 k).2.2.1 = some (tyJ2 k) := by decide +kernel
abbrev cJ2_getChar_3b067 : ByteArray := prog_17_method_5_code
def yJ2_getChar_3b067 : MethodName := ⟨RJ2, "getChar", "([BI)C"⟩
abbrev cJ2_length_9d52b : ByteArray := prog_17_method_6_code
def yJ2_length_9d52b : MethodName := ⟨RJ2, "length", "([B)I"⟩
abbrev cJ2_indexOf_4cfef : ByteArray := prog_17_method_40_code
def yJ2_indexOf_4cfef : MethodName := ⟨RJ2, "indexOf", "([BIII)I"⟩
abbrev cJ2_indexOfChar_4cfef : ByteArray := prog_17_method_47_code
def yJ2_indexOfChar_4cfef : MethodName := ⟨RJ2, "indexOfChar", "([BIII)I"⟩
abbrev cJ2_indexOfCharUnsafe_4cfef : ByteArray := prog_17_method_48_code
def yJ2_indexOfCharUnsafe_4cfef : MethodName := ⟨RJ2, "indexOfCharUnsafe", "([BIII)I"⟩
abbrev cJ2_indexOfSupplementary_4cfef : ByteArray := prog_17_method_49_code
def yJ2_indexOfSupplementary_4cfef : MethodName := ⟨RJ2, "indexOfSupplementary", "([BIII)I"⟩
abbrev cJ2_checkBoundsBeginEnd_d044e : ByteArray := prog_17_method_93_code
def yJ2_checkBoundsBeginEnd_d044e : MethodName := ⟨RJ2, "checkBoundsBeginEnd", "(II[B)V"⟩
def RJ10 : String := "java/lang/System"
def TJ10 : u_T := fun k => match k with
  | _ => ("", "", "", false)
def tyJ10 : Nat → FieldType := fun k => match k with
  | _ => .int
abbrev wsJ100 : List Cond := u_ws RJ10 TJ10 0
theorem nmJ10 : ∀ a, a < 0 → ∀ b, b < 0 → a ≠ b → (TJ10 a).2.1 ≠ (TJ10 b).2.1 := by decide +kernel
theorem tyJ10_ok : ∀ k, k < 0 → parseFieldDescriptor (TJ10 k).2.2.1 = some (tyJ10 k) := by decide +kernel
def RJxfd54e : String := "java/lang/constant/Constable"
def TJxfd54e : u_T := fun k => match k with
  | _ => ("", "", "", false)
def tyJxfd54e : Nat → FieldType := fun k => match k with
  | _ => .int
abbrev wsJxfd54e0 : List Cond := u_ws RJxfd54e TJxfd54e 0
theorem nmJxfd54e : ∀ a, a < 0 → ∀ b, b < 0 → a ≠ b → (TJxfd54e a).2.1 ≠ (TJxfd54e b).2.1 := by decide +kernel
theorem tyJxfd54e_ok : ∀ k, k < 0 → parseFieldDescriptor (TJxfd54e k).2.2.1 = some (tyJxfd54e k) := by decide +kernel
def RJx3cf43 : String := "java/lang/constant/ConstantDesc"
def TJx3cf43 : u_T := fun k => match k with
  | _ => ("", "", "", false)
def tyJx3cf43 : Nat → FieldType := fun k => match k with
  | _ => .int
abbrev wsJx3cf430 : List Cond := u_ws RJx3cf43 TJx3cf43 0
theorem nmJx3cf43 : ∀ a, a < 0 → ∀ b, b < 0 → a ≠ b → (TJx3cf43 a).2.1 ≠ (TJx3cf43 b).2.1 := by decide +kernel
theorem tyJx3cf43_ok : ∀ k, k < 0 → parseFieldDescriptor (TJx3cf43 k).2.2.1 = some (tyJx3cf43 k) := by decide +kernel
def RJ7 : String := "java/util/Arrays"
def TJ7 : u_T := fun k => match k with
  | _ => ("", "", "", false)
def tyJ7 : Nat → FieldType := fun k => match k with
  | _ => .int
abbrev wsJ70 : List Cond := u_ws RJ7 TJ7 0
theorem nmJ7 : ∀ a, a < 0 → ∀ b, b < 0 → a ≠ b → (TJ7 a).2.1 ≠ (TJ7 b).2.1 := by decide +kernel
theorem tyJ7_ok : ∀ k, k < 0 → parseFieldDescriptor (TJ7 k).2.2.1 = some (tyJ7 k) := by decide +kernel
abbrev cJ7_fill_53178 : ByteArray := prog_19_method_103_code
def yJ7_fill_53178 : MethodName := ⟨RJ7, "fill", "([II)V"⟩
def RJ3 : String := "jdk/internal/util/Preconditions"
def TJ3 : u_T := fun k => match k with
  | _ => ("", "", "", false)
def tyJ3 : Nat → FieldType := fun k => match k with
  | _ => .int
abbrev wsJ30 : List Cond := u_ws RJ3 TJ3 0
theorem nmJ3 : ∀ a, a < 0 → ∀ b, b < 0 → a ≠ b → (TJ3 a).2.1 ≠ (TJ3 b).2.1 := by decide +kernel
theorem tyJ3_ok : ∀ k, k < 0 → parseFieldDescriptor (TJ3 k).2.2.1 = some (tyJ3 k) := by decide +kernel
abbrev cJ3_checkFromToIndex_8c36e : ByteArray := prog_20_method_12_code
def yJ3_checkFromToIndex_8c36e : MethodName := ⟨RJ3, "checkFromToIndex", "(IIILjava/util/function/BiFunction;)I"⟩
def RL : String := "TomorrowBellsLaw"
abbrev cL_law : ByteArray := code
def yL_law : MethodName := ⟨RL, "law", "([I)Z"⟩
abbrev vwCl : List vw_C := [(RX0, TX0, 4), (RX1, TX1, 8), (RX2, TX2, 6), (RX3, TX3, 6), (RX4, TX4, 4), (RX5, TX5, 17), (RX6, TX6, 4), (RX7, TX7, 8), (RX8, TX8, 24)]
end
section
def mn_YL : List MethodName := [yX0_begin, yX0_loopFrom, yX0_leadFrom, yX0_follow, yX1_startAnew, yX1_becomeLike,
  yX1_dayBefore, yX1_pass, yX1_takeBack, yX1_draw, yX2_letters, yX2_faultAt,
  yX2_append, yX2_readInto, yX2_readClause, yX2_readBell, yX2_readGroup, yX2_readThreshold,
  yX2_readSelf, yX2_readHarm, yX2_readKind, yX2_readNumber, yX2_clauseEnds, yX2_skipBlanks,
  yX2_blame, yX3_countOf, yX3_countAll, yX3_forgetAll, yX3_add, yX3_findSigns,
  yX3_agrees, yX3_signsLeft, yX3_signAt, yX3_dayThatParts, yX3_countRinging, yX4_size,
  yX4_isFull, yX4_forgetAll, yX4_add, yX4_metBy, yX4_gapAbove, yX5_forgetAll,
  yX5_addBell, yX5_addGroup, yX5_addSelf, yX5_isHarmTold, yX5_tellHarm, yX5_allGroups,
  yX5_countRings, yX5_hearersOf, yX5_ringFor, yX5_deedOf, yX5_selvesOn, yX5_comingOfItself,
  yX5_turn, yX5_harmOf, yX5_greatestHarm, yX6_suppose, yX6_gap, yX6_countDoing,
  yX6_comingBy, yX6_fitting, yX6_possible, yX6_wireUp, yX7_feed, yX7_town,
  yX7_fault, yX7_told, yX7_bell, yX7_group, yX7_harm, yX7_ring,
  yX7_done, yX7_comes, yX7_could, yX7_sure, yX7_live, yX7_undo,
  yX7_yesterday, yX7_deaf, yX7_may, yX7_drift, yX7_rule, yX7_hush,
  yX7_run, yX7_takes, yX7_wire, yX7_answers, yX7_send, yX7_see,
  yX7_means, yX7_watch, yX7_tear, yX7_seed, yX7_keep, yX7_goBack,
  yX7_isBell, yX7_isGroup, yX7_isRing, yX7_isDay, yX7_isHappening, yX7_isChoice,
  yX7_supposeNow, yX7_possibleAsSupposed, yX7_possibleDays, yX7_fittingDays, yX7_greatestHarmIfMay, yX7_isKeptOffIfDeaf,
  yX7_timesComing, yX7_onAll, yX7_onNone, yX7_dayAt, yX7_greatestDivisor, yX7_rings,
  yX8_in, yX8_isBell, yX8_isGroup, yX8_isDay, yX8_ones, yX8_feed,
  yX8_letterAt, yX8_blanks, yX8_number, yX8_lays, yX8_kindOf, yX8_isRoom,
  yX8_readsBell, yX8_readsGroup, yX8_readsThree, yX8_readsHarm, yX8_readsClause, yX8_reads,
  yX8_town, yX8_fault, yX8_yesterdayNow, yX8_harmFrom, yX8_told, yX8_bell,
  yX8_group, yX8_harmOf, yX8_harm, yX8_trying, yX8_rings, yX8_ringOf,
  yX8_doneBy, yX8_comesBy, yX8_fits, yX8_gathers, yX8_ring, yX8_isRing,
  yX8_done, yX8_comes, yX8_could, yX8_met, yX8_sure, yX8_live,
  yX8_undo, yX8_yesterday, yX8_deaf, yX8_isGroups, yX8_may, yX8_draw,
  yX8_drift, yX8_greatest, yX8_rule, yX8_hush, yX8_run, yX8_takes,
  yX8_wire, yX8_round, yX8_answers, yX8_send, yX8_days, yX8_see,
  yX8_isSign, yX8_isSo, yX8_means, yX8_watch, yX8_tear, yX8_seed,
  yX8_keep, yX8_goBack, yJ0_indexOf_0f7a4, yJ0_indexOf_7cf53, yJ0_isLatin1_aae02, yJ0_length_8abf5,
  yJ0_coder_7d493, yJ1_canEncode_9a6ad, yJ1_indexOf_4cfef, yJ1_indexOfChar_4cfef, yJ6_bitCount_0f7a4, yJ13_bitCount_95d88,
  yJ7_fill_53178]
def mn_CL : List ByteArray := [cX0_begin, cX0_loopFrom, cX0_leadFrom, cX0_follow, cX1_startAnew, cX1_becomeLike,
  cX1_dayBefore, cX1_pass, cX1_takeBack, cX1_draw, cX2_letters, cX2_faultAt,
  cX2_append, cX2_readInto, cX2_readClause, cX2_readBell, cX2_readGroup, cX2_readThreshold,
  cX2_readSelf, cX2_readHarm, cX2_readKind, cX2_readNumber, cX2_clauseEnds, cX2_skipBlanks,
  cX2_blame, cX3_countOf, cX3_countAll, cX3_forgetAll, cX3_add, cX3_findSigns,
  cX3_agrees, cX3_signsLeft, cX3_signAt, cX3_dayThatParts, cX3_countRinging, cX4_size,
  cX4_isFull, cX4_forgetAll, cX4_add, cX4_metBy, cX4_gapAbove, cX5_forgetAll,
  cX5_addBell, cX5_addGroup, cX5_addSelf, cX5_isHarmTold, cX5_tellHarm, cX5_allGroups,
  cX5_countRings, cX5_hearersOf, cX5_ringFor, cX5_deedOf, cX5_selvesOn, cX5_comingOfItself,
  cX5_turn, cX5_harmOf, cX5_greatestHarm, cX6_suppose, cX6_gap, cX6_countDoing,
  cX6_comingBy, cX6_fitting, cX6_possible, cX6_wireUp, cX7_feed, cX7_town,
  cX7_fault, cX7_told, cX7_bell, cX7_group, cX7_harm, cX7_ring,
  cX7_done, cX7_comes, cX7_could, cX7_sure, cX7_live, cX7_undo,
  cX7_yesterday, cX7_deaf, cX7_may, cX7_drift, cX7_rule, cX7_hush,
  cX7_run, cX7_takes, cX7_wire, cX7_answers, cX7_send, cX7_see,
  cX7_means, cX7_watch, cX7_tear, cX7_seed, cX7_keep, cX7_goBack,
  cX7_isBell, cX7_isGroup, cX7_isRing, cX7_isDay, cX7_isHappening, cX7_isChoice,
  cX7_supposeNow, cX7_possibleAsSupposed, cX7_possibleDays, cX7_fittingDays, cX7_greatestHarmIfMay, cX7_isKeptOffIfDeaf,
  cX7_timesComing, cX7_onAll, cX7_onNone, cX7_dayAt, cX7_greatestDivisor, cX7_rings,
  cX8_in, cX8_isBell, cX8_isGroup, cX8_isDay, cX8_ones, cX8_feed,
  cX8_letterAt, cX8_blanks, cX8_number, cX8_lays, cX8_kindOf, cX8_isRoom,
  cX8_readsBell, cX8_readsGroup, cX8_readsThree, cX8_readsHarm, cX8_readsClause, cX8_reads,
  cX8_town, cX8_fault, cX8_yesterdayNow, cX8_harmFrom, cX8_told, cX8_bell,
  cX8_group, cX8_harmOf, cX8_harm, cX8_trying, cX8_rings, cX8_ringOf,
  cX8_doneBy, cX8_comesBy, cX8_fits, cX8_gathers, cX8_ring, cX8_isRing,
  cX8_done, cX8_comes, cX8_could, cX8_met, cX8_sure, cX8_live,
  cX8_undo, cX8_yesterday, cX8_deaf, cX8_isGroups, cX8_may, cX8_draw,
  cX8_drift, cX8_greatest, cX8_rule, cX8_hush, cX8_run, cX8_takes,
  cX8_wire, cX8_round, cX8_answers, cX8_send, cX8_days, cX8_see,
  cX8_isSign, cX8_isSo, cX8_means, cX8_watch, cX8_tear, cX8_seed,
  cX8_keep, cX8_goBack, cJ0_indexOf_0f7a4, cJ0_indexOf_7cf53, cJ0_isLatin1_aae02, cJ0_length_8abf5,
  cJ0_coder_7d493, cJ1_canEncode_9a6ad, cJ1_indexOf_4cfef, cJ1_indexOfChar_4cfef, cJ6_bitCount_0f7a4, cJ13_bitCount_95d88,
  cJ7_fill_53178]
def mn_LL : List Nat := [3, 7, 8, 7, 2, 2, 1, 3, 2, 2, 1, 1, 2, 3, 4, 6, 7, 6, 6, 4, 2, 4, 1, 1, 3, 2, 3, 1, 6, 6, 7, 1, 2, 6, 4, 1, 1, 1, 4, 4,
  5, 1, 4, 5, 4, 2, 3, 1, 1, 4, 5, 6, 4, 4, 4, 4, 5, 8, 1, 8, 3, 11, 6, 3, 2, 4, 1, 2, 3, 3, 2, 2, 3, 2, 4, 4, 3, 3, 3, 4,
  3, 7, 8, 7, 5, 7, 3, 3, 11, 5, 3, 2, 2, 3, 2, 2, 2, 2, 2, 1, 1, 1, 1, 1, 1, 3, 2, 3, 3, 4, 4, 5, 6, 7, 3, 2, 2, 1, 3, 2,
  2, 1, 4, 5, 1, 3, 2, 2, 9, 4, 1, 2, 4, 1, 1, 4, 4, 5, 3, 4, 2, 1, 7, 5, 8, 5, 3, 2, 2, 2, 3, 2, 2, 4, 2, 2, 2, 3, 4, 2,
  3, 2, 5, 4, 8, 6, 3, 6, 3, 4, 5, 9, 4, 5, 4, 6, 6, 8, 3, 3, 3, 3, 2, 3, 1, 1, 1, 1, 4, 6, 1, 2, 4]
def mn_RL : List (Option FieldType) := [none, (some .int), (some .int), (some .int), none, none, (some .int), none, none, (some .int), (some .int), (some .int),
  (some .boolean), (some .int), none, none, none, none, none, none, (some .int), (some .int), (some .boolean), none,
  none, (some .int), (some .int), none, (some .boolean), none, (some .boolean), (some .int), (some .int), (some .int), (some .int), (some .int),
  (some .boolean), none, none, (some .int), (some .int), none, none, none, none, (some .boolean), none, (some .int),
  (some .int), (some .int), (some .int), (some .int), (some .int), (some .int), (some .int), (some .int), (some .int), none, (some .int), none,
  (some .int), (some .long), (some .long), (some .int), (some .int), (some .int), (some .int), (some .int), (some .int), (some .int), (some .int), (some .int),
  (some .int), (some .int), (some .int), (some .int), (some .int), (some .int), (some .int), (some .int), (some .int), (some .int), (some .int), (some .int),
  (some .int), (some .int), (some .int), (some .int), (some .int), (some .int), (some .int), (some .int), (some .int), (some .int), (some .int), (some .int),
  (some .boolean), (some .boolean), (some .boolean), (some .boolean), (some .boolean), (some .boolean), none, (some .long), (some .long), (some .long), (some .int), (some .boolean),
  (some .int), (some .int), (some .int), (some .int), (some .int), (some .boolean), (some .boolean), (some .boolean), (some .boolean), (some .boolean), (some .int), (some .int),
  (some .int), none, (some .boolean), (some .boolean), (some .int), (some .boolean), (some .boolean), (some .boolean), (some .boolean), (some .boolean), (some .boolean), (some .boolean),
  (some .int), (some .int), (some .int), (some .int), (some .int), (some .int), (some .int), (some .int), (some .int), none, (some .boolean), (some .int),
  (some .int), (some .int), (some .int), none, (some .int), (some .boolean), (some .int), (some .int), (some .int), (some .int), (some .int), (some .int),
  (some .int), (some .int), (some .int), (some .boolean), (some .int), (some .int), (some .int), (some .int), (some .int), (some .int), (some .int), (some .int),
  (some .int), (some .int), (some .int), (some .int), (some .int), (some .int), (some .boolean), (some .boolean), (some .int), (some .int), (some .int), (some .int),
  (some .int), (some .int), (some .int), (some .int), (some .boolean), (some .int), (some .byte), (some .boolean), (some .int), (some .int), (some .int), (some .int),
  none]
def mn_OL : List Nat := [0, 0, 0, 0, 1, 1, 1, 1, 1, 1, 2, 2, 2, 2, 2, 2, 2, 2, 2, 2, 2, 2, 2, 2, 2, 3, 3, 3, 3, 3, 3, 3, 3, 3, 3, 4, 4, 4, 4, 4,
  4, 5, 5, 5, 5, 5, 5, 5, 5, 5, 5, 5, 5, 5, 5, 5, 5, 6, 6, 6, 6, 6, 6, 6, 7, 7, 7, 7, 7, 7, 7, 7, 7, 7, 7, 7, 7, 7, 7, 7,
  7, 7, 7, 7, 7, 7, 7, 7, 7, 7, 7, 7, 7, 7, 7, 7, 7, 7, 7, 7, 7, 7, 7, 7, 7, 7, 7, 7, 7, 7, 7, 7, 7, 7, 8, 8, 8, 8, 8, 8,
  8, 8, 8, 8, 8, 8, 8, 8, 8, 8, 8, 8, 8, 8, 8, 8, 8, 8, 8, 8, 8, 8, 8, 8, 8, 8, 8, 8, 8, 8, 8, 8, 8, 8, 8, 8, 8, 8, 8, 8,
  8, 8, 8, 8, 8, 8, 8, 8, 8, 8, 8, 8, 8, 8, 8, 8, 8, 8, 8, 8, 8, 8, 9, 9, 9, 9, 9, 10, 10, 10, 11, 12, 14]
def mn_FrL : List Nat := [1, 5, 5, 4, 0, 1, 0, 0, 0, 0, 0, 0, 0, 7, 6, 5, 2, 2, 2, 2, 4, 1, 1, 0, 0, 0, 0, 1, 0, 2, 1, 0, 0, 2, 1, 0, 0, 0, 1, 0,
  1, 1, 0, 0, 0, 0, 0, 0, 0, 0, 1, 0, 0, 0, 1, 0, 1, 2, 0, 1, 0, 2, 3, 0, 1, 8, 1, 5, 1, 1, 1, 2, 2, 4, 6, 6, 6, 1, 1, 1,
  1, 4, 6, 6, 5, 6, 5, 6, 6, 1, 3, 3, 2, 0, 2, 2, 0, 0, 1, 0, 0, 0, 3, 4, 5, 4, 5, 5, 1, 0, 2, 0, 0, 0, 0, 1, 1, 1, 0, 1,
  0, 1, 2, 3, 0, 0, 4, 4, 4, 3, 5, 6, 7, 0, 0, 1, 3, 2, 2, 0, 2, 1, 0, 1, 0, 1, 2, 2, 2, 1, 2, 2, 3, 0, 3, 3, 1, 2, 2, 1,
  2, 0, 3, 3, 4, 3, 3, 3, 3, 0, 3, 3, 0, 2, 0, 1, 2, 3, 0, 0, 1, 1, 3, 2, 0, 1, 0, 0, 1, 0, 0, 0, 0]
def mn_WL : List Nat := [23, 131, 131, 105, 0, 90, 0, 0, 0, 0, 0, 0, 0, 160, 137, 112, 45, 45, 45, 45, 91, 22, 22, 0, 0, 0, 0, 23, 0, 52, 26, 0, 0, 49, 26, 0, 0, 0, 20, 0,
  21, 23, 0, 0, 0, 0, 0, 0, 0, 0, 26, 0, 0, 0, 25, 0, 23, 52, 0, 25, 0, 50, 80, 0, 21, 182, 20, 121, 23, 21, 23, 50, 52, 99, 145, 145, 145, 23, 20, 21,
  20, 105, 146, 147, 125, 145, 121, 158, 145, 25, 77, 77, 43, 0, 111, 111, 0, 0, 20, 0, 0, 0, 79, 105, 125, 99, 125, 125, 21, 0, 43, 0, 0, 0, 0, 22, 22, 22, 0, 22,
  0, 21, 41, 64, 0, 0, 88, 88, 88, 64, 116, 136, 157, 0, 0, 23, 73, 43, 43, 0, 42, 20, 0, 26, 0, 27, 51, 51, 50, 22, 43, 51, 72, 0, 72, 72, 22, 42, 43, 22,
  43, 0, 72, 72, 95, 72, 72, 72, 73, 0, 72, 72, 0, 43, 0, 26, 51, 76, 0, 0, 22, 22, 70, 48, 0, 20, 0, 0, 25, 0, 0, 0, 0]
def mn_NL : List (List Nat) := [[], [], [], [], [], [], [], [], [], [], [], [], [], [], [], [], [], [], [], [],
  [], [], [], [], [], [], [], [], [], [], [], [], [], [], [], [], [], [], [], [],
  [], [], [], [], [], [], [], [], [], [], [], [], [], [], [], [], [1], [], [], [],
  [], [7], [4], [], [], [], [], [], [], [], [], [], [], [], [2], [2], [], [], [], [],
  [], [4], [], [], [], [2], [], [], [3], [], [], [], [], [], [], [], [], [], [], [],
  [], [], [], [], [], [], [], [], [0], [0], [0], [0], [], [], [], [], [], [], [], [],
  [], [], [], [], [], [], [], [], [], [], [], [], [], [], [], [], [], [], [], [],
  [], [], [], [], [], [], [], [], [], [], [], [], [], [], [], [], [], [], [], [],
  [], [], [], [], [], [], [], [], [], [], [], [], [], [], [], [], [], [], [], [],
  [], [], [], [], [], [], [], [], [], [], [], [0], []]
def mn_SL : List Bool := [false, false, false, false, false, false, false, false, false, false, false, false, false, false, false, false, false, false, false, false, false, false, false, false, false, false, false, false, false, false,
  false, false, false, false, false, false, false, false, false, false, false, false, false, false, false, false, false, false, false, false, false, false, false, false, false, false, false, false, false, false,
  false, false, false, true, false, false, false, false, false, false, false, false, false, false, false, false, false, false, false, false, false, false, false, false, false, false, false, false, false, false,
  false, false, false, false, false, false, false, false, false, true, true, true, false, false, false, false, false, false, true, true, true, true, true, true, true, false, false, true, true, false,
  false, false, false, false, true, false, false, false, false, false, false, false, false, false, false, false, false, false, false, false, false, false, true, false, false, false, false, false, false, false,
  false, false, false, false, false, false, false, false, false, false, false, false, false, false, false, false, false, false, false, false, false, false, false, false, true, false, false, false, false, false,
  false, false, false, false, false, false, false, true, true, true, true, true, true]
def mn_PL : List Nat := [2, 3, 4, 4, 1, 1, 0, 2, 1, 1, 0, 0, 1, 1, 1, 2, 2, 2, 2, 1, 0, 2, 0, 0, 2, 1, 0, 0, 4, 1, 4, 0, 1, 0, 1, 0, 0, 0, 3, 1,
  2, 0, 3, 4, 3, 1, 2, 0, 0, 1, 2, 4, 1, 1, 0, 1, 1, 5, 0, 6, 2, 5, 3, 3, 1, 0, 0, 1, 2, 2, 1, 1, 2, 1, 1, 1, 1, 1, 1, 2,
  1, 1, 2, 2, 2, 1, 2, 1, 2, 4, 2, 1, 0, 1, 1, 1, 1, 1, 1, 1, 1, 1, 0, 0, 0, 2, 1, 2, 2, 1, 1, 2, 2, 5, 3, 1, 1, 1, 1, 1,
  1, 0, 2, 3, 1, 2, 0, 0, 7, 0, 0, 0, 0, 0, 0, 1, 1, 2, 2, 1, 1, 0, 5, 1, 2, 1, 0, 0, 1, 1, 2, 1, 1, 1, 1, 1, 1, 1, 2, 1,
  1, 1, 1, 0, 2, 2, 2, 1, 2, 0, 1, 2, 1, 4, 1, 2, 2, 1, 0, 1, 1, 1, 1, 2, 0, 0, 0, 1, 4, 4, 1, 1, 2]
def mY (M : Nat) : MethodName := mn_YL.getD M ⟨"", "", ""⟩
def mC (M : Nat) : ByteArray := mn_CL.getD M ⟨#[]⟩
def mL (M : Nat) : Nat := mn_LL.getD M 0
def mR (M : Nat) : Option FieldType := mn_RL.getD M none
def mO (M : Nat) : Nat := mn_OL.getD M 99
def mF (M : Nat) : Nat := mn_FrL.getD M 0
def mW (M : Nat) : Nat := mn_WL.getD M 0
def mN (M : Nat) : List Nat := mn_NL.getD M []
def mP (M : Nat) : Nat := mn_PL.getD M 0
def mSt (M : Nat) : Bool := mn_SL.getD M false
def mn_cN : List String := [RX0, RX1, RX2, RX3, RX4, RX5, RX6, RX7,
  RX8, RJ0, RJ1, RJ6, RJ13, RJ9, RJ7]
def mn_shL : List (Nat × Nat) := [(0, 7), (0, 2), (1, 250), (0, 1), (1, 60), (0, 1), (1, 60), (0, 1), (1, 60), (3, 2), (0, 3), (1, 5), (2, 60), (1, 60),
  (1, 60), (1, 48), (0, 6), (1, 7), (1, 32), (1, 32), (0, 0), (1, 512), (1, 64), (0, 5), (1, 5), (1, 5), (1, 5), (1, 6),
  (1, 6), (1, 6), (1, 6), (0, 4), (1, 8), (1, 8), (1, 8), (0, 4), (1, 4), (1, 4), (1, 4), (1, 3), (1, 3), (1, 3),
  (1, 6), (0, 5), (1, 5), (1, 5), (1, 5), (1, 6), (1, 6), (1, 6), (1, 6), (0, 4), (1, 8), (1, 8), (1, 8), (0, 4),
  (1, 4), (1, 4), (1, 4), (1, 3), (1, 3), (1, 3), (1, 6), (0, 8), (1, 250), (1, 96), (1, 96), (1, 65), (1, 130), (2, 2),
  (1, 5), (1, 60), (1, 64), (1, 63360), (4, 6), (0, 9), (5, 5)]
def mn_sh (a : Nat) : Nat × Nat := mn_shL.getD a (9, 9)
def mn_isrL : List (List Bool) := [[true, true, false, false], [false, true, false, false, false, false, false, false],
  [true, false, false, false, false, false], [true, true, true, true, true, false],
  [true, true, true, false], [false, true, true, true, false, true, true, true, true, true, true, false, true, true, true, true, false],
  [true, true, true, false], [true, true, true, true, true, true, true, true],
  [true, false, true, true, true, true, true, true, true, false, false, false, false, false, false, false, false, false, false, false, false, true, false, true]]
def mn_nfL : List Nat := [4, 8, 6, 6, 4, 17, 4, 8, 24]
def mn_isr (ci k : Nat) : Bool := (mn_isrL.getD ci []).getD k false
def mn_nf (ci : Nat) : Nat := mn_nfL.getD ci 0
def mn_finL : List (List Bool) := [[true, true, false, false],
  [false, true, false, false, false, false, false, false],
  [true, false, false, false, false, false],
  [true, true, true, true, true, false],
  [true, true, true, false],
  [false, true, true, true, false, true, true, true, true, true, true, false, true, true, true, true, false],
  [true, true, true, false],
  [true, true, true, true, true, true, false, false],
  [true, false, true, true, true, true, true, true, true, false, false, false, false, false, false, false, false, false, false, false, false, true, false, true]]
def mn_fin (ci k : Nat) : Bool := (mn_finL.getD ci []).getD k true
def mn_rfL : List (List Nat) := [[1, 3, 9, 10, 16, 20], [2], [], [0, 4], [], [0, 6], [], [0, 8],
  [], [], [11, 12, 13, 14, 15], [], [], [], [], [],
  [17, 18, 19], [], [], [], [21, 22], [], [], [0, 24, 25, 26, 0, 27, 28, 29, 30, 31, 35, 0, 39, 40, 41, 42],
  [], [], [], [], [], [], [], [32, 33, 34],
  [], [], [], [36, 37, 38], [], [], [], [],
  [], [], [], [0, 44, 45, 46, 0, 47, 48, 49, 50, 51, 55, 0, 59, 60, 61, 62], [], [], [], [],
  [], [], [], [52, 53, 54], [], [], [], [56, 57, 58],
  [], [], [], [], [], [], [], [64, 0, 65, 66, 67, 68, 69, 70, 71, 0, 0, 0, 0, 0, 0, 0, 0, 0, 0, 0, 0, 72, 0, 73],
  [], [], [], [], [], [], [], [],
  [], []]
def mn_FLT : List (Nat × Nat × Nat × Nat) := [(0, 9, 0, 0), (0, 15, 0, 1), (0, 18, 0, 3), (0, 22, 0, 2), (1, 9, 1, 1), (1, 15, 1, 0), (1, 19, 1, 2), (1, 22, 1, 3), (1, 25, 1, 4), (1, 28, 1, 5),
  (1, 37, 1, 6), (2, 9, 2, 0), (2, 15, 2, 5), (2, 19, 2, 1), (2, 27, 2, 2), (2, 30, 2, 4), (2, 47, 5, 9), (2, 55, 5, 10), (2, 68, 5, 0), (2, 87, 5, 4),
  (2, 102, 5, 11), (2, 112, 2, 3), (3, 9, 3, 0), (3, 15, 3, 1), (3, 19, 3, 2), (3, 22, 3, 3), (3, 25, 3, 4), (3, 34, 3, 5), (4, 15, 4, 0), (4, 21, 4, 1),
  (4, 24, 4, 2), (4, 27, 4, 3), (5, 9, 5, 1), (5, 15, 5, 2), (5, 18, 5, 3), (5, 21, 5, 5), (5, 24, 5, 6), (5, 27, 5, 7), (5, 30, 5, 8), (5, 38, 5, 9),
  (5, 42, 5, 10), (5, 45, 5, 12), (5, 48, 5, 13), (5, 51, 5, 14), (5, 54, 5, 15), (5, 63, 5, 0), (5, 67, 5, 4), (5, 73, 5, 11), (5, 76, 5, 16), (6, 9, 6, 0),
  (6, 15, 6, 1), (6, 18, 6, 2), (6, 21, 6, 3), (6, 35, 5, 9), (6, 45, 5, 10), (6, 67, 5, 4), (6, 70, 5, 5), (7, 10, 7, 0), (7, 19, 7, 1), (7, 23, 7, 2),
  (7, 30, 7, 3), (7, 37, 7, 4), (7, 44, 7, 5), (7, 51, 7, 6), (7, 55, 7, 7), (7, 82, 1, 7), (7, 86, 5, 0), (7, 93, 5, 4), (7, 96, 5, 9), (7, 105, 5, 10),
  (7, 108, 5, 11), (7, 111, 1, 2), (7, 117, 1, 3), (7, 120, 1, 4), (7, 123, 1, 5), (7, 143, 5, 1), (7, 147, 5, 2), (7, 150, 5, 3), (7, 163, 5, 5), (7, 166, 5, 6),
  (7, 169, 5, 7), (7, 172, 5, 8), (7, 192, 6, 0), (7, 232, 1, 0), (7, 266, 5, 15), (7, 313, 1, 6), (8, 7, 8, 0), (8, 13, 8, 2), (8, 16, 8, 3), (8, 19, 8, 4),
  (8, 22, 8, 5), (8, 25, 8, 6), (8, 29, 8, 7), (8, 32, 8, 8), (8, 35, 8, 9), (8, 39, 8, 21), (8, 43, 8, 23), (8, 51, 8, 1), (8, 55, 8, 10), (8, 65, 8, 12),
  (8, 68, 8, 11), (8, 131, 8, 13), (8, 134, 8, 14), (8, 137, 8, 15), (8, 140, 8, 16), (8, 143, 8, 17), (8, 146, 8, 19), (8, 149, 8, 20), (8, 151, 8, 18), (8, 168, 8, 22),
  (9, 9, 9, 0), (9, 15, 9, 1)]
def mn_MLT : List (Nat × Nat × Nat) := [(0, 25, 192), (0, 31, 3), (0, 35, 52), (0, 41, 62), (2, 22, 41), (2, 33, 23), (2, 36, 14), (2, 40, 15), (2, 44, 16), (2, 51, 17), (2, 58, 18), (2, 61, 19),
  (2, 64, 24), (2, 71, 20), (2, 75, 21), (2, 79, 22), (2, 83, 42), (2, 90, 43), (2, 94, 36), (2, 99, 38), (2, 105, 44), (2, 108, 45), (2, 115, 46), (2, 120, 182),
  (3, 28, 192), (3, 38, 30), (3, 46, 34), (4, 31, 36), (5, 57, 192), (5, 70, 37), (5, 92, 55), (6, 25, 48), (6, 31, 59), (6, 39, 39), (6, 48, 51), (6, 52, 40),
  (6, 61, 192), (6, 73, 53), (6, 77, 60), (6, 80, 50), (6, 83, 63), (6, 87, 61), (7, 59, 12), (7, 63, 10), (7, 68, 13), (7, 72, 47), (7, 75, 4), (7, 79, 27),
  (7, 90, 11), (7, 100, 35), (7, 114, 6), (7, 126, 26), (7, 129, 105), (7, 133, 191), (7, 139, 96), (7, 153, 49), (7, 157, 25), (7, 160, 97), (7, 175, 99), (7, 178, 55),
  (7, 181, 50), (7, 185, 98), (7, 188, 59), (7, 195, 102), (7, 198, 52), (7, 201, 53), (7, 204, 60), (7, 207, 104), (7, 211, 111), (7, 215, 101), (7, 218, 109), (7, 221, 110),
  (7, 224, 7), (7, 228, 8), (7, 235, 62), (7, 239, 9), (7, 242, 106), (7, 245, 190), (7, 249, 100), (7, 252, 107), (7, 256, 57), (7, 260, 103), (7, 263, 58), (7, 269, 108),
  (7, 277, 112), (7, 283, 54), (7, 286, 0), (7, 289, 1), (7, 293, 2), (7, 297, 28), (7, 301, 29), (7, 304, 31), (7, 307, 32), (7, 310, 33), (7, 316, 5), (7, 320, 48),
  (7, 323, 61), (7, 327, 56), (8, 46, 114), (8, 58, 120), (8, 62, 121), (8, 71, 122), (8, 75, 125), (8, 78, 124), (8, 81, 123), (8, 84, 126), (8, 88, 127), (8, 91, 128),
  (8, 95, 129), (8, 98, 130), (8, 101, 131), (8, 104, 139), (8, 107, 141), (8, 110, 134), (8, 114, 135), (8, 117, 146), (8, 120, 115), (8, 125, 116), (8, 128, 117), (8, 154, 142),
  (8, 158, 144), (8, 162, 143), (8, 165, 145), (8, 171, 149), (8, 174, 147), (8, 177, 153), (8, 182, 159), (8, 188, 161), (8, 191, 163), (8, 194, 118), (8, 197, 169), (8, 200, 172),
  (8, 203, 174), (8, 206, 175), (8, 209, 176), (9, 335, 186), (9, 492, 184), (9, 505, 185), (9, 633, 183), (9, 637, 188), (10, 88, 187), (10, 95, 189)]
def mn_NLT : List (Nat × Nat × Nat) := [(0, 47, 111), (3, 42, 113), (5, 79, 113), (5, 83, 112)]
def mn_MAT : List (Nat × Nat × Nat) := [(3, 50, 0), (4, 9, 0), (4, 35, 1), (5, 87, 0), (6, 56, 1), (7, 272, 2), (7, 280, 0), (10, 38, 1), (10, 92, 0)]
def mn_CT : List (Nat × Nat × Int32) := [(7, 58, -1000000002), (7, 67, -1000000004), (7, 142, -1000000001), (7, 231, -1000000003), (1, 46, 65536), (8, 42, 63360),
  (8, 50, -1000000002), (8, 54, -1000000004), (8, 124, -1000000001), (8, 181, -1000000003), (8, 185, 1103515245), (8, 186, 2147483647),
  (8, 187, 65536), (11, 265, 1431655765), (11, 266, 858993459), (11, 267, 252645135)]
def mn_CLT : List (Nat × Nat × Int64) := [(7, 334, -1), (1, 40, 1103515245), (1, 42, 12345), (1, 44, 2147483647),
  (12, 314, 6148914691236517205), (12, 316, 3689348814741910323), (12, 318, 1085102592571150095)]
def mn_fl (o i : Nat) : Option (Nat × Nat) := (mn_FLT.find? (fun e => e.1 == o && e.2.1 == i)).map (fun e => e.2.2)
def mn_ml (o i : Nat) : Option Nat := (mn_MLT.find? (fun e => e.1 == o && e.2.1 == i)).map (fun e => e.2.2)
def mn_nl (o i : Nat) : Option Nat := (mn_NLT.find? (fun e => e.1 == o && e.2.1 == i)).map (fun e => e.2.2)
def mn_ma (o i : Nat) : Option Nat := (mn_MAT.find? (fun e => e.1 == o && e.2.1 == i)).map (fun e => e.2.2)
def mn_cst (o i : Nat) : Option Int32 := (mn_CT.find? (fun e => e.1 == o && e.2.1 == i)).map (fun e => e.2.2)
def mn_cstl (o i : Nat) : Option Int64 := (mn_CLT.find? (fun e => e.1 == o && e.2.1 == i)).map (fun e => e.2.2)
/-- whole numbers by place and slot: fields of objects, elements of rows -/
abbrev mn_H : Type := Nat → Nat → Int32
def mn_up (h : mn_H) (a k : Nat) (x : Int32) : mn_H := fun b => if b = a then upd (h a) k x else h b
def mn_set (h : mn_H) (a : Nat) (f : Nat → Int32) : mn_H := fun b => if b = a then f else h b
/-- the place that a reference slot names -/
def mn_rf (f : Nat → Int32) (a k : Nat) : Nat := if a = 0 ∧ 6 ≤ k then (f k).toNatClampNeg else (mn_rfL.getD a []).getD k 0
def mn_dw (i : Nat) : Int64 := [-6148914691236517206, -3689348814741910324, -1085102592571150096, -71777214294589696, -281470681808896, -4294967296].getD i 0
def mn_byt (i : Nat) : Int32 := [99, 109, 100, 107, 121].getD i 0
/-- pc, locals, operands, heap -/
abbrev mn_S : Type := Nat × List Value × List Value × mn_H
/-- goes on; returns; calls (method, arguments, pc behind it, operands behind it) -/
abbrev mn_R : Type := mn_S ⊕ (Option Value ⊕ (Nat × List Value × Nat × List Value))
def mn_go (pc : Nat) (ls st : List Value) (h : mn_H) : Option mn_R := some (.inl (pc, ls, st, h))
def mn_jmp (pc : Nat) (off : Int) (ls st : List Value) (h : mn_H) : Option mn_R := if 0 ≤ (pc : Int) + off then mn_go ((pc : Int) + off).toNat ls st h else none
def mn_il (pc : Nat) (ls st : List Value) (h : mn_H) (i : Nat) : Option mn_R := match ls[i]? with
  | some (.int x) => mn_go pc ls (.int x :: st) h
  | _ => none
def mn_ll (pc : Nat) (ls st : List Value) (h : mn_H) (i : Nat) : Option mn_R := match ls[i]? with
  | some (.long x) => mn_go pc ls (.long x :: st) h
  | _ => none
def mn_al (pc : Nat) (ls st : List Value) (h : mn_H) (i : Nat) : Option mn_R := match ls[i]? with
  | some (.ref x) => mn_go pc ls (.ref x :: st) h
  | _ => none
/-- a store of one slot keeps clear of the longs of this method -/
def mn_so (M i : Nat) (ls : List Value) : Bool := decide (i < mL M) && (mN M).all (fun j => decide (j ≠ i) && decide (j + 1 ≠ i))
def mn_so2 (M i : Nat) (ls : List Value) : Bool := decide (i + 1 < mL M) && (mN M).contains i && (mN M).all (fun j => decide (j ≠ i + 1) && decide (j + 1 ≠ i))
def mn_is (M pc : Nat) (ls st : List Value) (h : mn_H) (i : Nat) : Option mn_R := match st with
  | .int x :: st => if mn_so M i ls then mn_go pc (ls.set i (.int x)) st h else none
  | _ => none
def mn_as (M pc : Nat) (ls st : List Value) (h : mn_H) (i : Nat) : Option mn_R := match st with
  | .ref x :: st => if mn_so M i ls then mn_go pc (ls.set i (.ref x)) st h else none
  | _ => none
def mn_ls (M pc : Nat) (ls st : List Value) (h : mn_H) (i : Nat) : Option mn_R := match st with
  | .long x :: st => if mn_so2 M i ls then mn_go pc (ls.set i (.long x)) st h else none
  | _ => none
def mn_cond (c : Jvm.ClassFile.Cond) (x y : Int32) : Bool := match c with
  | .eq => decide (x = y) | .ne => decide (¬ x = y) | .lt => decide (x < y) | .ge => decide (y ≤ x) | .gt => decide (y < x) | .le => decide (x ≤ y)
def mn_i2 (pc : Nat) (ls st : List Value) (h : mn_H) (f : Int32 → Int32 → Int32) : Option mn_R := match st with
  | .int y :: .int x :: st => mn_go pc ls (.int (f x y) :: st) h
  | _ => none
def mn_l2 (pc : Nat) (ls st : List Value) (h : mn_H) (f : Int64 → Int64 → Int64) : Option mn_R := match st with
  | .long y :: .long x :: st => mn_go pc ls (.long (f x y) :: st) h
  | _ => none
def mn_ls2 (pc : Nat) (ls st : List Value) (h : mn_H) (f : Int64 → Int32 → Int64) : Option mn_R := match st with
  | .int y :: .long x :: st => mn_go pc ls (.long (f x y) :: st) h
  | _ => none
def mn_i1 (pc : Nat) (ls st : List Value) (h : mn_H) (f : Int32 → Int32) : Option mn_R := match st with
  | .int x :: st => mn_go pc ls (.int (f x) :: st) h
  | _ => none
def mn_slot (h : mn_H) (a ci k : Nat) : Value := if mn_isr ci k = true then .ref (mn_rf (h a) a k) else .int (h a k)
def mn_get (o pc : Nat) (ls st : List Value) (h : mn_H) (i : Nat) : Option mn_R := match st, mn_fl o i with
  | .ref a :: st, some (ci, k) => if mn_sh a = (0, ci) then (if ci = 9 then mn_go pc ls ((if k = 0 then .ref 76 else .int 0) :: st) h else if a < 74 ∧ k < mn_nf ci then mn_go pc ls (mn_slot h a ci k :: st) h else none) else none
  | _, _ => none
def mn_put (o pc : Nat) (ls st : List Value) (h : mn_H) (i : Nat) : Option mn_R := match st, mn_fl o i with
  | v :: .ref a :: st, some (ci, k) => if mn_sh a = (0, ci) ∧ ci < 9 ∧ a < 74 ∧ k < mn_nf ci then (match v with
    | .int x => if mn_isr ci k = false ∧ (¬ (ci = 1 ∧ k = 7) ∨ x = 0 ∨ x = 1) ∧ mn_fin ci k = false then mn_go pc ls st (mn_up h a k x) else none
    | .ref b => if a = 0 ∧ 6 ≤ k ∧ (b = 23 ∨ b = 43) then mn_go pc ls st (mn_up h a k (nI b)) else none
    | _ => none) else none
  | _, _ => none
def mn_in (i : Int32) (n : Nat) : Bool := decide (¬ (i < 0 ∨ n ≤ i.toNatClampNeg))
def mn_iald (pc : Nat) (ls st : List Value) (h : mn_H) : Option mn_R := match st with
  | .int i :: .ref a :: st => if a < 74 ∧ (mn_sh a).1 = 1 ∧ mn_in i (mn_sh a).2 = true then mn_go pc ls (.int (h a i.toNatClampNeg) :: st) h else none
  | _ => none
def mn_bald (pc : Nat) (ls st : List Value) (h : mn_H) : Option mn_R := match st with
  | .int i :: .ref a :: st => if a < 74 ∧ (mn_sh a).1 = 2 ∧ mn_in i (mn_sh a).2 = true then mn_go pc ls (.int (h a i.toNatClampNeg) :: st) h else if a = 76 ∧ mn_in i 5 = true then mn_go pc ls (.int (mn_byt i.toNatClampNeg) :: st) h else none
  | _ => none
def mn_lald (pc : Nat) (ls st : List Value) (h : mn_H) : Option mn_R := match st with
  | .int i :: .ref a :: st => if a = 74 ∧ mn_in i 6 = true then mn_go pc ls (.long (mn_dw i.toNatClampNeg) :: st) h else none
  | _ => none
def mn_aald (pc : Nat) (ls st : List Value) (h : mn_H) : Option mn_R := match st with
  | .int i :: .ref a :: st => if a = 9 ∧ mn_in i 2 = true then mn_go pc ls (.ref (5 + 2 * i.toNatClampNeg) :: st) h else none
  | _ => none
def mn_iast (pc : Nat) (ls st : List Value) (h : mn_H) : Option mn_R := match st with
  | .int x :: .int i :: .ref a :: st => if a < 74 ∧ (mn_sh a).1 = 1 ∧ mn_in i (mn_sh a).2 = true then mn_go pc ls st (mn_up h a i.toNatClampNeg x) else none
  | _ => none
def mn_bast (pc : Nat) (ls st : List Value) (h : mn_H) : Option mn_R := match st with
  | .int x :: .int i :: .ref a :: st => if a < 74 ∧ (mn_sh a).1 = 2 ∧ mn_in i (mn_sh a).2 = true ∧ (x = 0 ∨ x = 1) then mn_go pc ls st (mn_up h a i.toNatClampNeg x) else none
  | _ => none
def mn_alen (pc : Nat) (ls st : List Value) (h : mn_H) : Option mn_R := match st with
  | .ref a :: st => if (a < 74 ∧ (mn_sh a).1 = 1) ∨ a = 76 then mn_go pc ls (.int (Int32.ofNat (mn_sh a).2) :: st) h else none
  | _ => none
/-- the locals at a method's entry -/
def mn_flat : List Value → List Value
  | [] => []
  | v :: vs => if v.category = 2 then v :: .null :: mn_flat vs else v :: mn_flat vs
def mn_ent (vs : List Value) (n : Nat) : List Value := mn_flat vs ++ List.replicate (n - (mn_flat vs).length) .null
def mn_isl (v : Value) : Bool := v.category == 2
def mn_isn (v : Value) : Bool := match v with | .null => true | _ => false
/-- locals that fit the method's longs -/
def mn_g (M : Nat) (ls : List Value) : Bool := (List.range ls.length).all (fun k => !(mn_isl (ls.getD k .null)) || (mN M).contains k) && (mN M).all (fun j => mn_isn (ls.getD (j + 1) .null))
def mn_cat (st : List Value) : Nat := (st.map fun v => v.category).sum
/-- a call that the callee's room, its locals and the operands behind it allow -/
def mn_cok (M C : Nat) (vs st : List Value) : Bool := decide (mF C + 1 ≤ mF M) && decide (8 + (mL C + 11) + mW C ≤ mW M) && decide ((mn_flat vs).length ≤ mL C) && mn_g C (mn_ent vs (mL C)) && decide (mn_cat st ≤ 8) && vs.all (fun v => !(mn_isn v)) && decide (C < 193)
def mn_csta (M pc C : Nat) (st : List Value) : Option mn_R := if mn_cok M C (st.take (mP C)).reverse (st.drop (mP C)) = true ∧ mP C ≤ st.length ∧ mSt C = true then some (.inr (.inr (C, (st.take (mP C)).reverse, pc + 3, st.drop (mP C)))) else none
def mn_math (M pc k : Nat) (ls st : List Value) (h : mn_H) : Option mn_R := match k, st with
  | 0, .int y :: .int x :: st => if 1 ≤ mF M ∧ mn_cat st + 13 ≤ mW M then mn_go (pc + 3) ls (.int (if x < y then y else x) :: st) h else none
  | 1, .int y :: .int x :: st => if 1 ≤ mF M ∧ mn_cat st + 13 ≤ mW M then mn_go (pc + 3) ls (.int (if y < x then y else x) :: st) h else none
  | 2, .int x :: st => if 1 ≤ mF M ∧ mn_cat st + 13 ≤ mW M then mn_go (pc + 3) ls (.int (if 0 ≤ x then x else 0 - x) :: st) h else none
  | _, _ => none
def mn_acpy (M pc : Nat) (ls st : List Value) (h : mn_H) : Option mn_R := match st with
  | .int n :: .int dp :: .ref b :: .int sp :: .ref a :: st => if a < 74 ∧ b < 74 ∧ (mn_sh a).1 = 1 ∧ (mn_sh b).1 = 1 ∧ ¬ sp < 0 ∧ ¬ dp < 0 ∧ ¬ n < 0 ∧ sp.toNatClampNeg + n.toNatClampNeg ≤ (mn_sh a).2 ∧ dp.toNatClampNeg + n.toNatClampNeg ≤ (mn_sh b).2 ∧ 1 ≤ mF M ∧ mn_cat st + 80 ≤ mW M then mn_go (pc + 3) ls st (mn_set h b (va_cpy (h a) (h b) sp.toNatClampNeg dp.toNatClampNeg n.toNatClampNeg)) else none
  | _ => none
def mn_stat (M o pc : Nat) (ls st : List Value) (h : mn_H) (i : Nat) : Option mn_R := match mn_ml o i with
  | some C => mn_csta M pc C st
  | none => (match mn_nl o i with
    | some C => mn_csta M pc C st
    | none => (match mn_ma o i with
      | some k => mn_math M pc k ls st h
      | none => if o = 1 ∧ i = 31 then mn_acpy M pc ls st h else none))
def mn_virt (M o pc : Nat) (ls st : List Value) (h : mn_H) (i : Nat) : Option mn_R := match mn_ml o i with
  | some C => (match st.drop (mP C) with
    | .ref a :: st' => if mn_cok M C (.ref a :: (st.take (mP C)).reverse) st' = true ∧ mn_sh a = (0, mO C) ∧ mP C ≤ st.length ∧ mSt C = false then some (.inr (.inr (C, .ref a :: (st.take (mP C)).reverse, pc + 3, st'))) else none
    | _ => none)
  | none => none
def mn_tsw (pc : Nat) (d lo hi : Int) (offs : Array Int) (x : Int32) : Int := (pc : Int) + (if x.toInt < lo ∨ hi < x.toInt then d else offs.getD (x.toInt - lo).toNat d)
def mn_op (M pc len : Nat) (op : Instr) (ls st : List Value) (h : mn_H) : Option mn_R := match op with
  | .iconst n => if len = 1 then mn_go (pc + 1) ls (.int (Int32.ofInt n) :: st) h else none
  | .bipush n => if len = 2 then mn_go (pc + 2) ls (.int (Int8.ofInt n).toInt32 :: st) h else none
  | .sipush n => if len = 3 then mn_go (pc + 3) ls (.int (Int16.ofInt n).toInt32 :: st) h else none
  | .lconst n => if len = 1 then mn_go (pc + 1) ls (.long (Int64.ofNat n.val) :: st) h else none
  | .ldc i => if len = 2 then (if mO M = 2 ∧ i = 118 then mn_go (pc + 2) ls (.ref 75 :: st) h else match mn_cst (mO M) i with
    | some v => mn_go (pc + 2) ls (.int v :: st) h
    | none => none) else none
  | .ldc_w i => if len = 3 then (match mn_cst (mO M) i with
    | some v => mn_go (pc + 3) ls (.int v :: st) h
    | none => none) else none
  | .ldc2_w i => if len = 3 then (match mn_cstl (mO M) i with
    | some v => mn_go (pc + 3) ls (.long v :: st) h
    | none => none) else none
  | .iload_n k => if len = 1 then mn_il (pc + 1) ls st h k.val else none
  | .iload i => if len = 2 then mn_il (pc + 2) ls st h i else none
  | .lload_n k => if len = 1 then mn_ll (pc + 1) ls st h k.val else none
  | .lload i => if len = 2 then mn_ll (pc + 2) ls st h i else none
  | .aload_n k => if len = 1 then mn_al (pc + 1) ls st h k.val else none
  | .aload i => if len = 2 then mn_al (pc + 2) ls st h i else none
  | .istore_n k => if len = 1 then mn_is M (pc + 1) ls st h k.val else none
  | .istore i => if len = 2 then mn_is M (pc + 2) ls st h i else none
  | .lstore_n k => if len = 1 then mn_ls M (pc + 1) ls st h k.val else none
  | .lstore i => if len = 2 then mn_ls M (pc + 2) ls st h i else none
  | .astore_n k => if len = 1 then mn_as M (pc + 1) ls st h k.val else none
  | .astore i => if len = 2 then mn_as M (pc + 2) ls st h i else none
  | .iinc i n => if len = 3 then (match ls[i]? with
    | some (.int x) => if mn_so M i ls then mn_go (pc + 3) (ls.set i (.int (x + Int32.ofInt n))) st h else none
    | _ => none) else none
  | .iadd => if len = 1 then mn_i2 (pc + 1) ls st h (fun x y => x + y) else none
  | .isub => if len = 1 then mn_i2 (pc + 1) ls st h (fun x y => x - y) else none
  | .imul => if len = 1 then mn_i2 (pc + 1) ls st h (fun x y => x * y) else none
  | .iand => if len = 1 then mn_i2 (pc + 1) ls st h (fun x y => x &&& y) else none
  | .ior => if len = 1 then mn_i2 (pc + 1) ls st h (fun x y => x ||| y) else none
  | .ixor => if len = 1 then mn_i2 (pc + 1) ls st h (fun x y => x ^^^ y) else none
  | .ishl => if len = 1 then mn_i2 (pc + 1) ls st h (fun x y => x <<< (y &&& 31)) else none
  | .ishr => if len = 1 then mn_i2 (pc + 1) ls st h (fun x y => x >>> (y &&& 31)) else none
  | .iushr => if len = 1 then mn_i2 (pc + 1) ls st h (fun x y => (x.toUInt32 >>> (y.toUInt32 &&& Int32.toUInt32 31)).toInt32) else none
  | .idiv => if len = 1 then (match st with
    | .int y :: .int x :: st => if y = 0 then none else mn_go (pc + 1) ls (.int (x / y) :: st) h
    | _ => none) else none
  | .irem => if len = 1 then (match st with
    | .int y :: .int x :: st => if y = 0 then none else mn_go (pc + 1) ls (.int (x - x / y * y) :: st) h
    | _ => none) else none
  | .ineg => if len = 1 then mn_i1 (pc + 1) ls st h (fun x => -x) else none
  | .i2b => if len = 1 then mn_i1 (pc + 1) ls st h (fun x => x.toInt8.toInt32) else none
  | .i2c => if len = 1 then mn_i1 (pc + 1) ls st h (fun x => (x.toUInt32 % 65536).toInt32) else none
  | .i2l => if len = 1 then (match st with
    | .int x :: st => mn_go (pc + 1) ls (.long x.toInt64 :: st) h
    | _ => none) else none
  | .l2i => if len = 1 then (match st with
    | .long x :: st => mn_go (pc + 1) ls (.int x.toInt32 :: st) h
    | _ => none) else none
  | .ladd => if len = 1 then mn_l2 (pc + 1) ls st h (fun x y => x + y) else none
  | .lsub => if len = 1 then mn_l2 (pc + 1) ls st h (fun x y => x - y) else none
  | .lmul => if len = 1 then mn_l2 (pc + 1) ls st h (fun x y => x * y) else none
  | .land => if len = 1 then mn_l2 (pc + 1) ls st h (fun x y => x &&& y) else none
  | .lor => if len = 1 then mn_l2 (pc + 1) ls st h (fun x y => x ||| y) else none
  | .lxor => if len = 1 then mn_l2 (pc + 1) ls st h (fun x y => x ^^^ y) else none
  | .lshl => if len = 1 then mn_ls2 (pc + 1) ls st h (fun x y => x <<< (y.toInt64 &&& 63)) else none
  | .lushr => if len = 1 then mn_ls2 (pc + 1) ls st h (fun x y => (x.toUInt64 >>> (y.toInt64.toUInt64 &&& Int64.toUInt64 63)).toInt64) else none
  | .lcmp => if len = 1 then (match st with
    | .long y :: .long x :: st => mn_go (pc + 1) ls (.int (lg_cmp x y) :: st) h
    | _ => none) else none
  | .dup => if len = 1 then (match st with
    | v :: st => if v.category = 1 then mn_go (pc + 1) ls (v :: v :: st) h else none
    | _ => none) else none
  | .dup2 => if len = 1 then (match st with
    | v :: w :: st => if v.category = 1 ∧ w.category = 1 then mn_go (pc + 1) ls (v :: w :: v :: w :: st) h else none
    | _ => none) else none
  | .ifCond c off => if len = 3 then (match st with
    | .int x :: st => if 0 ≤ (pc : Int) + off then (if mn_cond c x 0 = true then mn_go ((pc : Int) + off).toNat ls st h else mn_go (pc + 3) ls st h) else none
    | _ => none) else none
  | .if_icmp c off => if len = 3 then (match st with
    | .int y :: .int x :: st => if 0 ≤ (pc : Int) + off then (if mn_cond c x y = true then mn_go ((pc : Int) + off).toNat ls st h else mn_go (pc + 3) ls st h) else none
    | _ => none) else none
  | .goto off => if len = 3 then mn_jmp pc off ls st h else none
  | .tableswitch d lo hi offs => (match st with
    | .int x :: st => if (hi - lo + 1).toNat = offs.size ∧ 0 ≤ mn_tsw pc d lo hi offs x then mn_go (mn_tsw pc d lo hi offs x).toNat ls st h else none
    | _ => none)
  | .getfield i => if len = 3 then mn_get (mO M) (pc + 3) ls st h i else none
  | .putfield i => if len = 3 then mn_put (mO M) (pc + 3) ls st h i else none
  | .getstatic i => if len = 3 then (if mO M = 7 ∧ i = 330 then mn_go (pc + 3) ls (.ref 74 :: st) h else if mO M = 9 ∧ i = 38 then mn_go (pc + 3) ls (.int 1 :: st) h else none) else none
  | .iaload => if len = 1 then mn_iald (pc + 1) ls st h else none
  | .baload => if len = 1 then mn_bald (pc + 1) ls st h else none
  | .laload => if len = 1 then mn_lald (pc + 1) ls st h else none
  | .aaload => if len = 1 then mn_aald (pc + 1) ls st h else none
  | .iastore => if len = 1 then mn_iast (pc + 1) ls st h else none
  | .bastore => if len = 1 then mn_bast (pc + 1) ls st h else none
  | .arraylength => if len = 1 then mn_alen (pc + 1) ls st h else none
  | .invokestatic i => if len = 3 then mn_stat M (mO M) pc ls st h i else none
  | .invokevirtual i => if len = 3 then mn_virt M (mO M) pc ls st h i else none
  | .ireturn => if len = 1 then (match st with
    | [.int x] => if mR M = some .int ∨ (mR M = some .boolean ∧ (x = 0 ∨ x = 1)) ∨ (mR M = some .byte ∧ x = 0) then some (.inr (.inl (some (.int x)))) else none
    | _ => none) else none
  | .lreturn => if len = 1 then (match st with
    | [.long x] => if mR M = some .long then some (.inr (.inl (some (.long x)))) else none
    | _ => none) else none
  | .return_ => if len = 1 then (match st with
    | [] => if mR M = none then some (.inr (.inl none)) else none
    | _ => none) else none
  | _ => none
def mn_stp (M pc : Nat) (ls st : List Value) (h : mn_H) : Option mn_R := match decode (mC M) pc with
  | .error _ => none
  | .ok (op, len) => mn_op M pc len op ls st h
def mn_ev : Nat → Nat → Nat → List Value → List Value → mn_H → Option (Option Value × mn_H)
  | 0, _, _, _, _, _ => none
  | n + 1, M, pc, ls, st, h => match mn_stp M pc ls st h with
    | none => none
    | some (.inl (pc', ls', st', h')) => mn_ev n M pc' ls' st' h'
    | some (.inr (.inl v)) => some (v, h)
    | some (.inr (.inr (C, vs, pc', st'))) => match mn_ev n C 0 (mn_ent vs (mL C)) [] h with
      | none => none
      | some (v, h1) => mn_ev n M pc' ls (v.toList ++ st') h1
theorem mn_ev_mono : ∀ (n k M pc : Nat) (ls st : List Value) (h : mn_H) (x : Option Value × mn_H), mn_ev n M pc ls st h = some x → mn_ev (n + k) M pc ls st h = some x := by
  intro n
  induction n with
  | zero => intro k M pc ls st h x e; simp [mn_ev] at e
  | succ n ih =>
    intro k M pc ls st h x e
    rw [Nat.add_right_comm n 1 k]
    simp only [mn_ev] at e ⊢
    cases hs : mn_stp M pc ls st h with
    | none => rw [hs] at e; cases e
    | some q =>
      rw [hs] at e
      rcases q with ⟨pc', ls', st', h'⟩ | v | ⟨C, vs, pc', st'⟩
      · exact ih k _ _ _ _ _ _ e
      · exact e
      · dsimp only at e ⊢
        cases hc : mn_ev n C 0 (mn_ent vs (mL C)) [] h with
        | none => rw [hc] at e; cases e
        | some w =>
          rw [hc] at e
          rw [ih k _ _ _ _ _ _ hc]
          exact ih k _ _ _ _ _ _ e
/-- from here the method returns r, and the heap is h' -/
def mn_E (M pc : Nat) (ls st : List Value) (h : mn_H) (r : Option Value) (h' : mn_H) : Prop := ∃ n, mn_ev n M pc ls st h = some (r, h')
/-- a method, called with vs -/
def mn_X (M : Nat) (vs : List Value) (h : mn_H) (r : Option Value) (h' : mn_H) : Prop := mn_E M 0 (mn_ent vs (mL M)) [] h r h'
section MNR
variable {M pc : Nat} {ls st : List Value} {h h' : mn_H} {r : Option Value}
theorem mn_E_go {pc' : Nat} {ls' st' : List Value} {h1 : mn_H} (hs : mn_stp M pc ls st h = some (.inl (pc', ls', st', h1))) : mn_E M pc ls st h r h' ↔ mn_E M pc' ls' st' h1 r h' := by
  constructor
  · rintro ⟨n, e⟩
    cases n with
    | zero => simp [mn_ev] at e
    | succ n => simp only [mn_ev, hs] at e; exact ⟨n, e⟩
  · rintro ⟨n, e⟩
    exact ⟨n + 1, by simp only [mn_ev, hs]; exact e⟩
theorem mn_E_ret {v : Option Value} (hs : mn_stp M pc ls st h = some (.inr (.inl v))) : mn_E M pc ls st h r h' ↔ r = v ∧ h' = h := by
  constructor
  · rintro ⟨n, e⟩
    cases n with
    | zero => simp [mn_ev] at e
    | succ n => simp only [mn_ev, hs, Option.some.injEq, Prod.mk.injEq] at e; exact ⟨e.1.symm, e.2.symm⟩
  · rintro ⟨rfl, rfl⟩
    exact ⟨1, by simp only [mn_ev, hs]⟩
theorem mn_E_call {C pc' : Nat} {vs st' : List Value} (hs : mn_stp M pc ls st h = some (.inr (.inr (C, vs, pc', st')))) : mn_E M pc ls st h r h' ↔ ∃ v h1, mn_X C vs h v h1 ∧ mn_E M pc' ls (v.toList ++ st') h1 r h' := by
  constructor
  · rintro ⟨n, e⟩
    cases n with
    | zero => simp [mn_ev] at e
    | succ n =>
      simp only [mn_ev, hs] at e
      cases hc : mn_ev n C 0 (mn_ent vs (mL C)) [] h with
      | none => rw [hc] at e; cases e
      | some w => rw [hc] at e; exact ⟨w.1, w.2, ⟨n, hc⟩, ⟨n, e⟩⟩
  · rintro ⟨v, h1, ⟨n, e1⟩, ⟨k, e2⟩⟩
    refine ⟨n + k + 1, ?_⟩
    simp only [mn_ev, hs, mn_ev_mono n k _ _ _ _ _ _ e1]
    rw [Nat.add_comm n k]
    exact mn_ev_mono k n _ _ _ _ _ _ e2
theorem mn_E_det {r1 r2 : Option Value} {h1 h2 : mn_H} (a : mn_E M pc ls st h r1 h1) (b : mn_E M pc ls st h r2 h2) : r2 = r1 ∧ h2 = h1 := by
  obtain ⟨n, e1⟩ := a
  obtain ⟨k, e2⟩ := b
  have e1 := mn_ev_mono n k _ _ _ _ _ _ e1
  have e2 := mn_ev_mono k n _ _ _ _ _ _ e2
  rw [Nat.add_comm k n, e1] at e2
  cases e2
  exact ⟨rfl, rfl⟩
theorem mn_X_iff {vs : List Value} {r1 : Option Value} {h1 : mn_H} (a : mn_X M vs h r1 h1) : mn_X M vs h r h' ↔ r = r1 ∧ h' = h1 := ⟨fun b => mn_E_det a b, fun b => by rw [b.1, b.2]; exact a⟩
/-- a call whose answer is known -/
theorem mn_E_step {C pc' : Nat} {vs st' : List Value} {v : Option Value} {h1 : mn_H} (hs : mn_stp M pc ls st h = some (.inr (.inr (C, vs, pc', st')))) (a : mn_X C vs h v h1) : mn_E M pc ls st h r h' ↔ mn_E M pc' ls (v.toList ++ st') h1 r h' := by
  rw [mn_E_call hs]
  constructor
  · rintro ⟨v2, h2, b, c⟩
    obtain ⟨rfl, rfl⟩ := mn_E_det a b
    exact c
  · exact fun b => ⟨v, h1, a, b⟩
-- the rules, an instruction each
theorem mX_iconst {n : Int} {v : Int32} (hd : decode (mC M) pc = .ok (.iconst n, 1)) (hv : Int32.ofInt n = v) : mn_E M pc ls st h r h' ↔ mn_E M (pc + 1) ls (.int v :: st) h r h' := mn_E_go (by subst hv; simp only [mn_stp, hd, mn_op, mn_go, if_pos])
theorem mX_bipush {n : Int} {v : Int32} (hd : decode (mC M) pc = .ok (.bipush n, 2)) (hv : (Int8.ofInt n).toInt32 = v) : mn_E M pc ls st h r h' ↔ mn_E M (pc + 2) ls (.int v :: st) h r h' := mn_E_go (by subst hv; simp only [mn_stp, hd, mn_op, mn_go, if_pos])
theorem mX_sipush {n : Int} {v : Int32} (hd : decode (mC M) pc = .ok (.sipush n, 3)) (hv : (Int16.ofInt n).toInt32 = v) : mn_E M pc ls st h r h' ↔ mn_E M (pc + 3) ls (.int v :: st) h r h' := mn_E_go (by subst hv; simp only [mn_stp, hd, mn_op, mn_go, if_pos])
theorem mX_lconst {n : Fin 2} {v : Int64} (hd : decode (mC M) pc = .ok (.lconst n, 1)) (hv : Int64.ofNat n.val = v) : mn_E M pc ls st h r h' ↔ mn_E M (pc + 1) ls (.long v :: st) h r h' := mn_E_go (by subst hv; simp only [mn_stp, hd, mn_op, mn_go, if_pos])
theorem mX_ldc {i o : Nat} {v : Int32} (hd : decode (mC M) pc = .ok (.ldc i, 2)) (ho : mO M = o) (hv : mn_cst o i = some v) (hn : ¬ (o = 2 ∧ i = 118)) : mn_E M pc ls st h r h' ↔ mn_E M (pc + 2) ls (.int v :: st) h r h' := mn_E_go (by subst ho; simp only [mn_stp, hd, mn_op, mn_go, if_pos, if_neg hn, hv])
theorem mX_ldcS {i o : Nat} (hd : decode (mC M) pc = .ok (.ldc i, 2)) (ho : mO M = o) (hn : o = 2 ∧ i = 118) : mn_E M pc ls st h r h' ↔ mn_E M (pc + 2) ls (.ref 75 :: st) h r h' := mn_E_go (by subst ho; simp only [mn_stp, hd, mn_op, mn_go, if_pos, if_pos hn])
theorem mX_ldcw {i o : Nat} {v : Int32} (hd : decode (mC M) pc = .ok (.ldc_w i, 3)) (ho : mO M = o) (hv : mn_cst o i = some v) : mn_E M pc ls st h r h' ↔ mn_E M (pc + 3) ls (.int v :: st) h r h' := mn_E_go (by subst ho; simp only [mn_stp, hd, mn_op, mn_go, if_pos, hv])
theorem mX_ldc2 {i o : Nat} {v : Int64} (hd : decode (mC M) pc = .ok (.ldc2_w i, 3)) (ho : mO M = o) (hv : mn_cstl o i = some v) : mn_E M pc ls st h r h' ↔ mn_E M (pc + 3) ls (.long v :: st) h r h' := mn_E_go (by subst ho; simp only [mn_stp, hd, mn_op, mn_go, if_pos, hv])
theorem mX_iload_n {k : Fin 4} {x : Int32} (hd : decode (mC M) pc = .ok (.iload_n k, 1)) (hl : ls[k.val]? = some (.int x)) : mn_E M pc ls st h r h' ↔ mn_E M (pc + 1) ls (.int x :: st) h r h' := mn_E_go (by simp only [mn_stp, hd, mn_op, mn_il, hl, mn_go, if_pos])
theorem mX_iload {i : Nat} {x : Int32} (hd : decode (mC M) pc = .ok (.iload i, 2)) (hl : ls[i]? = some (.int x)) : mn_E M pc ls st h r h' ↔ mn_E M (pc + 2) ls (.int x :: st) h r h' := mn_E_go (by simp only [mn_stp, hd, mn_op, mn_il, hl, mn_go, if_pos])
theorem mX_lload_n {k : Fin 4} {x : Int64} (hd : decode (mC M) pc = .ok (.lload_n k, 1)) (hl : ls[k.val]? = some (.long x)) : mn_E M pc ls st h r h' ↔ mn_E M (pc + 1) ls (.long x :: st) h r h' := mn_E_go (by simp only [mn_stp, hd, mn_op, mn_ll, hl, mn_go, if_pos])
theorem mX_lload {i : Nat} {x : Int64} (hd : decode (mC M) pc = .ok (.lload i, 2)) (hl : ls[i]? = some (.long x)) : mn_E M pc ls st h r h' ↔ mn_E M (pc + 2) ls (.long x :: st) h r h' := mn_E_go (by simp only [mn_stp, hd, mn_op, mn_ll, hl, mn_go, if_pos])
theorem mX_aload_n {k : Fin 4} {x : Nat} (hd : decode (mC M) pc = .ok (.aload_n k, 1)) (hl : ls[k.val]? = some (.ref x)) : mn_E M pc ls st h r h' ↔ mn_E M (pc + 1) ls (.ref x :: st) h r h' := mn_E_go (by simp only [mn_stp, hd, mn_op, mn_al, hl, mn_go, if_pos])
theorem mX_aload {i : Nat} {x : Nat} (hd : decode (mC M) pc = .ok (.aload i, 2)) (hl : ls[i]? = some (.ref x)) : mn_E M pc ls st h r h' ↔ mn_E M (pc + 2) ls (.ref x :: st) h r h' := mn_E_go (by simp only [mn_stp, hd, mn_op, mn_al, hl, mn_go, if_pos])
theorem mX_istore_n {k : Fin 4} {x : Int32} {ls' : List Value} (hd : decode (mC M) pc = .ok (.istore_n k, 1)) (hs : mn_so M k.val ls = true) (hl : ls.set k.val (.int x) = ls') : mn_E M pc ls (.int x :: st) h r h' ↔ mn_E M (pc + 1) ls' st h r h' := mn_E_go (by subst hl; simp only [mn_stp, hd, mn_op, mn_is, hs, mn_go, if_pos])
theorem mX_istore {i : Nat} {x : Int32} {ls' : List Value} (hd : decode (mC M) pc = .ok (.istore i, 2)) (hs : mn_so M i ls = true) (hl : ls.set i (.int x) = ls') : mn_E M pc ls (.int x :: st) h r h' ↔ mn_E M (pc + 2) ls' st h r h' := mn_E_go (by subst hl; simp only [mn_stp, hd, mn_op, mn_is, hs, mn_go, if_pos])
theorem mX_lstore_n {k : Fin 4} {x : Int64} {ls' : List Value} (hd : decode (mC M) pc = .ok (.lstore_n k, 1)) (hs : mn_so2 M k.val ls = true) (hl : ls.set k.val (.long x) = ls') : mn_E M pc ls (.long x :: st) h r h' ↔ mn_E M (pc + 1) ls' st h r h' := mn_E_go (by subst hl; simp only [mn_stp, hd, mn_op, mn_ls, hs, mn_go, if_pos])
theorem mX_lstore {i : Nat} {x : Int64} {ls' : List Value} (hd : decode (mC M) pc = .ok (.lstore i, 2)) (hs : mn_so2 M i ls = true) (hl : ls.set i (.long x) = ls') : mn_E M pc ls (.long x :: st) h r h' ↔ mn_E M (pc + 2) ls' st h r h' := mn_E_go (by subst hl; simp only [mn_stp, hd, mn_op, mn_ls, hs, mn_go, if_pos])
theorem mX_astore_n {k : Fin 4} {x : Nat} {ls' : List Value} (hd : decode (mC M) pc = .ok (.astore_n k, 1)) (hs : mn_so M k.val ls = true) (hl : ls.set k.val (.ref x) = ls') : mn_E M pc ls (.ref x :: st) h r h' ↔ mn_E M (pc + 1) ls' st h r h' := mn_E_go (by subst hl; simp only [mn_stp, hd, mn_op, mn_as, hs, mn_go, if_pos])
theorem mX_iinc {i : Nat} {n : Int} {x v : Int32} {ls' : List Value} (hd : decode (mC M) pc = .ok (.iinc i n, 3)) (hg : ls[i]? = some (.int x)) (hv : Int32.ofInt n = v) (hs : mn_so M i ls = true) (hl : ls.set i (.int (x + v)) = ls') : mn_E M pc ls st h r h' ↔ mn_E M (pc + 3) ls' st h r h' := mn_E_go (by subst hl; subst hv; simp only [mn_stp, hd, mn_op, hg, hs, mn_go, if_pos])
theorem mX_iadd {x y : Int32} (hd : decode (mC M) pc = .ok (.iadd, 1)) : mn_E M pc ls (.int y :: .int x :: st) h r h' ↔ mn_E M (pc + 1) ls (.int (x + y) :: st) h r h' := mn_E_go (by simp only [mn_stp, hd, mn_op, mn_i2, mn_go, if_pos])
theorem mX_isub {x y : Int32} (hd : decode (mC M) pc = .ok (.isub, 1)) : mn_E M pc ls (.int y :: .int x :: st) h r h' ↔ mn_E M (pc + 1) ls (.int (x - y) :: st) h r h' := mn_E_go (by simp only [mn_stp, hd, mn_op, mn_i2, mn_go, if_pos])
theorem mX_imul {x y : Int32} (hd : decode (mC M) pc = .ok (.imul, 1)) : mn_E M pc ls (.int y :: .int x :: st) h r h' ↔ mn_E M (pc + 1) ls (.int (x * y) :: st) h r h' := mn_E_go (by simp only [mn_stp, hd, mn_op, mn_i2, mn_go, if_pos])
theorem mX_iand {x y : Int32} (hd : decode (mC M) pc = .ok (.iand, 1)) : mn_E M pc ls (.int y :: .int x :: st) h r h' ↔ mn_E M (pc + 1) ls (.int (x &&& y) :: st) h r h' := mn_E_go (by simp only [mn_stp, hd, mn_op, mn_i2, mn_go, if_pos])
theorem mX_ior {x y : Int32} (hd : decode (mC M) pc = .ok (.ior, 1)) : mn_E M pc ls (.int y :: .int x :: st) h r h' ↔ mn_E M (pc + 1) ls (.int (x ||| y) :: st) h r h' := mn_E_go (by simp only [mn_stp, hd, mn_op, mn_i2, mn_go, if_pos])
theorem mX_ixor {x y : Int32} (hd : decode (mC M) pc = .ok (.ixor, 1)) : mn_E M pc ls (.int y :: .int x :: st) h r h' ↔ mn_E M (pc + 1) ls (.int (x ^^^ y) :: st) h r h' := mn_E_go (by simp only [mn_stp, hd, mn_op, mn_i2, mn_go, if_pos])
theorem mX_ishl {x y : Int32} (hd : decode (mC M) pc = .ok (.ishl, 1)) : mn_E M pc ls (.int y :: .int x :: st) h r h' ↔ mn_E M (pc + 1) ls (.int (x <<< (y &&& 31)) :: st) h r h' := mn_E_go (by simp only [mn_stp, hd, mn_op, mn_i2, mn_go, if_pos])
theorem mX_ishr {x y : Int32} (hd : decode (mC M) pc = .ok (.ishr, 1)) : mn_E M pc ls (.int y :: .int x :: st) h r h' ↔ mn_E M (pc + 1) ls (.int (x >>> (y &&& 31)) :: st) h r h' := mn_E_go (by simp only [mn_stp, hd, mn_op, mn_i2, mn_go, if_pos])
theorem mX_iushr {x y : Int32} (hd : decode (mC M) pc = .ok (.iushr, 1)) : mn_E M pc ls (.int y :: .int x :: st) h r h' ↔ mn_E M (pc + 1) ls (.int (x.toUInt32 >>> (y.toUInt32 &&& Int32.toUInt32 31)).toInt32 :: st) h r h' := mn_E_go (by simp only [mn_stp, hd, mn_op, mn_i2, mn_go, if_pos])
theorem mX_idiv {x y : Int32} (hd : decode (mC M) pc = .ok (.idiv, 1)) (hy : ¬ y = 0) : mn_E M pc ls (.int y :: .int x :: st) h r h' ↔ mn_E M (pc + 1) ls (.int (x / y) :: st) h r h' := mn_E_go (by simp only [mn_stp, hd, mn_op, mn_go, if_pos, if_neg hy])
theorem mX_irem {x y : Int32} (hd : decode (mC M) pc = .ok (.irem, 1)) (hy : ¬ y = 0) : mn_E M pc ls (.int y :: .int x :: st) h r h' ↔ mn_E M (pc + 1) ls (.int (x - x / y * y) :: st) h r h' := mn_E_go (by simp only [mn_stp, hd, mn_op, mn_go, if_pos, if_neg hy])
theorem mX_ineg {x : Int32} (hd : decode (mC M) pc = .ok (.ineg, 1)) : mn_E M pc ls (.int x :: st) h r h' ↔ mn_E M (pc + 1) ls (.int (-x) :: st) h r h' := mn_E_go (by simp only [mn_stp, hd, mn_op, mn_i1, mn_go, if_pos])
theorem mX_i2b {x : Int32} (hd : decode (mC M) pc = .ok (.i2b, 1)) : mn_E M pc ls (.int x :: st) h r h' ↔ mn_E M (pc + 1) ls (.int x.toInt8.toInt32 :: st) h r h' := mn_E_go (by simp only [mn_stp, hd, mn_op, mn_i1, mn_go, if_pos])
theorem mX_i2c {x : Int32} (hd : decode (mC M) pc = .ok (.i2c, 1)) : mn_E M pc ls (.int x :: st) h r h' ↔ mn_E M (pc + 1) ls (.int (x.toUInt32 % 65536).toInt32 :: st) h r h' := mn_E_go (by simp only [mn_stp, hd, mn_op, mn_i1, mn_go, if_pos])
theorem mX_i2l {x : Int32} (hd : decode (mC M) pc = .ok (.i2l, 1)) : mn_E M pc ls (.int x :: st) h r h' ↔ mn_E M (pc + 1) ls (.long x.toInt64 :: st) h r h' := mn_E_go (by simp only [mn_stp, hd, mn_op, mn_go, if_pos])
theorem mX_l2i {x : Int64} (hd : decode (mC M) pc = .ok (.l2i, 1)) : mn_E M pc ls (.long x :: st) h r h' ↔ mn_E M (pc + 1) ls (.int x.toInt32 :: st) h r h' := mn_E_go (by simp only [mn_stp, hd, mn_op, mn_go, if_pos])
theorem mX_ladd {x y : Int64} (hd : decode (mC M) pc = .ok (.ladd, 1)) : mn_E M pc ls (.long y :: .long x :: st) h r h' ↔ mn_E M (pc + 1) ls (.long (x + y) :: st) h r h' := mn_E_go (by simp only [mn_stp, hd, mn_op, mn_l2, mn_go, if_pos])
theorem mX_lsub {x y : Int64} (hd : decode (mC M) pc = .ok (.lsub, 1)) : mn_E M pc ls (.long y :: .long x :: st) h r h' ↔ mn_E M (pc + 1) ls (.long (x - y) :: st) h r h' := mn_E_go (by simp only [mn_stp, hd, mn_op, mn_l2, mn_go, if_pos])
theorem mX_lmul {x y : Int64} (hd : decode (mC M) pc = .ok (.lmul, 1)) : mn_E M pc ls (.long y :: .long x :: st) h r h' ↔ mn_E M (pc + 1) ls (.long (x * y) :: st) h r h' := mn_E_go (by simp only [mn_stp, hd, mn_op, mn_l2, mn_go, if_pos])
theorem mX_land {x y : Int64} (hd : decode (mC M) pc = .ok (.land, 1)) : mn_E M pc ls (.long y :: .long x :: st) h r h' ↔ mn_E M (pc + 1) ls (.long (x &&& y) :: st) h r h' := mn_E_go (by simp only [mn_stp, hd, mn_op, mn_l2, mn_go, if_pos])
theorem mX_lor {x y : Int64} (hd : decode (mC M) pc = .ok (.lor, 1)) : mn_E M pc ls (.long y :: .long x :: st) h r h' ↔ mn_E M (pc + 1) ls (.long (x ||| y) :: st) h r h' := mn_E_go (by simp only [mn_stp, hd, mn_op, mn_l2, mn_go, if_pos])
theorem mX_lxor {x y : Int64} (hd : decode (mC M) pc = .ok (.lxor, 1)) : mn_E M pc ls (.long y :: .long x :: st) h r h' ↔ mn_E M (pc + 1) ls (.long (x ^^^ y) :: st) h r h' := mn_E_go (by simp only [mn_stp, hd, mn_op, mn_l2, mn_go, if_pos])
theorem mX_lshl {x : Int64} {y : Int32} (hd : decode (mC M) pc = .ok (.lshl, 1)) : mn_E M pc ls (.int y :: .long x :: st) h r h' ↔ mn_E M (pc + 1) ls (.long (x <<< (y.toInt64 &&& 63)) :: st) h r h' := mn_E_go (by simp only [mn_stp, hd, mn_op, mn_ls2, mn_go, if_pos])
theorem mX_lushr {x : Int64} {y : Int32} (hd : decode (mC M) pc = .ok (.lushr, 1)) : mn_E M pc ls (.int y :: .long x :: st) h r h' ↔ mn_E M (pc + 1) ls (.long (x.toUInt64 >>> (y.toInt64.toUInt64 &&& Int64.toUInt64 63)).toInt64 :: st) h r h' := mn_E_go (by simp only [mn_stp, hd, mn_op, mn_ls2, mn_go, if_pos])
theorem mX_lcmp {x y : Int64} (hd : decode (mC M) pc = .ok (.lcmp, 1)) : mn_E M pc ls (.long y :: .long x :: st) h r h' ↔ mn_E M (pc + 1) ls (.int (lg_cmp x y) :: st) h r h' := mn_E_go (by simp only [mn_stp, hd, mn_op, mn_go, if_pos])
theorem mX_dup {v : Value} (hd : decode (mC M) pc = .ok (.dup, 1)) (hc : v.category = 1) : mn_E M pc ls (v :: st) h r h' ↔ mn_E M (pc + 1) ls (v :: v :: st) h r h' := mn_E_go (by simp only [mn_stp, hd, mn_op, hc, mn_go, if_pos])
theorem mX_dup2 {v w : Value} (hd : decode (mC M) pc = .ok (.dup2, 1)) (hc : v.category = 1 ∧ w.category = 1) : mn_E M pc ls (v :: w :: st) h r h' ↔ mn_E M (pc + 1) ls (v :: w :: v :: w :: st) h r h' := mn_E_go (by simp only [mn_stp, hd, mn_op, hc, mn_go, if_pos, and_self])
theorem mn_jmp_eq {off : Int} {tgt : Nat} (ht : (pc : Int) + off = (tgt : Int)) : mn_jmp pc off ls st h = some (.inl (tgt, ls, st, h)) := by
  unfold mn_jmp mn_go
  rw [ht, if_pos (Int.natCast_nonneg tgt), Int.toNat_natCast]
theorem mX_goto {off : Int} {tgt : Nat} (hd : decode (mC M) pc = .ok (.goto off, 3)) (ht : (pc : Int) + off = (tgt : Int)) : mn_E M pc ls st h r h' ↔ mn_E M tgt ls st h r h' := mn_E_go (by simp only [mn_stp, hd, mn_op, if_pos]; exact mn_jmp_eq ht)
theorem mX_br {c : Bool} {off : Int} {tgt n : Nat} {st0 : List Value} (ht : (pc : Int) + off = (tgt : Int)) (hs : mn_stp M pc ls st0 h = (if 0 ≤ (pc : Int) + off then (if c = true then mn_go ((pc : Int) + off).toNat ls st h else mn_go n ls st h) else none)) : mn_E M pc ls st0 h r h' ↔ if c = true then mn_E M tgt ls st h r h' else mn_E M n ls st h r h' := by
  rw [if_pos (by rw [ht]; exact Int.natCast_nonneg tgt), ht, Int.toNat_natCast] at hs
  cases c with
  | true => rw [if_pos rfl]; exact mn_E_go (by rw [hs, if_pos rfl]; rfl)
  | false => rw [if_neg (by decide)]; exact mn_E_go (by rw [hs, if_neg (by decide)]; rfl)
theorem mX_if {c : Jvm.ClassFile.Cond} {x : Int32} {off : Int} {tgt : Nat} (hd : decode (mC M) pc = .ok (.ifCond c off, 3)) (ht : (pc : Int) + off = (tgt : Int)) : mn_E M pc ls (.int x :: st) h r h' ↔ if mn_cond c x 0 = true then mn_E M tgt ls st h r h' else mn_E M (pc + 3) ls st h r h' := mX_br ht (by simp only [mn_stp, hd, mn_op, if_pos])
theorem mX_icmp {c : Jvm.ClassFile.Cond} {x y : Int32} {off : Int} {tgt : Nat} (hd : decode (mC M) pc = .ok (.if_icmp c off, 3)) (ht : (pc : Int) + off = (tgt : Int)) : mn_E M pc ls (.int y :: .int x :: st) h r h' ↔ if mn_cond c x y = true then mn_E M tgt ls st h r h' else mn_E M (pc + 3) ls st h r h' := mX_br ht (by simp only [mn_stp, hd, mn_op, if_pos])
theorem mn_ite {b : Bool} {p A B : Prop} {_ : Decidable p} (hb : b = decide p) : (if b = true then A else B) ↔ (if p then A else B) := by
  subst hb
  by_cases hp : p <;> simp [hp]
theorem mX_if_eq {x : Int32} {off : Int} {tgt : Nat} (hd : decode (mC M) pc = .ok (.ifCond .eq off, 3)) (ht : (pc : Int) + off = (tgt : Int)) : mn_E M pc ls (.int x :: st) h r h' ↔ if x = 0 then mn_E M tgt ls st h r h' else mn_E M (pc + 3) ls st h r h' := (mX_if hd ht).trans (mn_ite rfl)
theorem mX_if_ne {x : Int32} {off : Int} {tgt : Nat} (hd : decode (mC M) pc = .ok (.ifCond .ne off, 3)) (ht : (pc : Int) + off = (tgt : Int)) : mn_E M pc ls (.int x :: st) h r h' ↔ if ¬ x = 0 then mn_E M tgt ls st h r h' else mn_E M (pc + 3) ls st h r h' := (mX_if hd ht).trans (mn_ite rfl)
theorem mX_if_lt {x : Int32} {off : Int} {tgt : Nat} (hd : decode (mC M) pc = .ok (.ifCond .lt off, 3)) (ht : (pc : Int) + off = (tgt : Int)) : mn_E M pc ls (.int x :: st) h r h' ↔ if x < 0 then mn_E M tgt ls st h r h' else mn_E M (pc + 3) ls st h r h' := (mX_if hd ht).trans (mn_ite rfl)
theorem mX_if_ge {x : Int32} {off : Int} {tgt : Nat} (hd : decode (mC M) pc = .ok (.ifCond .ge off, 3)) (ht : (pc : Int) + off = (tgt : Int)) : mn_E M pc ls (.int x :: st) h r h' ↔ if 0 ≤ x then mn_E M tgt ls st h r h' else mn_E M (pc + 3) ls st h r h' := (mX_if hd ht).trans (mn_ite rfl)
theorem mX_if_gt {x : Int32} {off : Int} {tgt : Nat} (hd : decode (mC M) pc = .ok (.ifCond .gt off, 3)) (ht : (pc : Int) + off = (tgt : Int)) : mn_E M pc ls (.int x :: st) h r h' ↔ if 0 < x then mn_E M tgt ls st h r h' else mn_E M (pc + 3) ls st h r h' := (mX_if hd ht).trans (mn_ite rfl)
theorem mX_if_le {x : Int32} {off : Int} {tgt : Nat} (hd : decode (mC M) pc = .ok (.ifCond .le off, 3)) (ht : (pc : Int) + off = (tgt : Int)) : mn_E M pc ls (.int x :: st) h r h' ↔ if x ≤ 0 then mn_E M tgt ls st h r h' else mn_E M (pc + 3) ls st h r h' := (mX_if hd ht).trans (mn_ite rfl)
theorem mX_icmp_eq {x y : Int32} {off : Int} {tgt : Nat} (hd : decode (mC M) pc = .ok (.if_icmp .eq off, 3)) (ht : (pc : Int) + off = (tgt : Int)) : mn_E M pc ls (.int y :: .int x :: st) h r h' ↔ if x = y then mn_E M tgt ls st h r h' else mn_E M (pc + 3) ls st h r h' := (mX_icmp hd ht).trans (mn_ite rfl)
theorem mX_icmp_ne {x y : Int32} {off : Int} {tgt : Nat} (hd : decode (mC M) pc = .ok (.if_icmp .ne off, 3)) (ht : (pc : Int) + off = (tgt : Int)) : mn_E M pc ls (.int y :: .int x :: st) h r h' ↔ if ¬ x = y then mn_E M tgt ls st h r h' else mn_E M (pc + 3) ls st h r h' := (mX_icmp hd ht).trans (mn_ite rfl)
theorem mX_icmp_lt {x y : Int32} {off : Int} {tgt : Nat} (hd : decode (mC M) pc = .ok (.if_icmp .lt off, 3)) (ht : (pc : Int) + off = (tgt : Int)) : mn_E M pc ls (.int y :: .int x :: st) h r h' ↔ if x < y then mn_E M tgt ls st h r h' else mn_E M (pc + 3) ls st h r h' := (mX_icmp hd ht).trans (mn_ite rfl)
theorem mX_icmp_ge {x y : Int32} {off : Int} {tgt : Nat} (hd : decode (mC M) pc = .ok (.if_icmp .ge off, 3)) (ht : (pc : Int) + off = (tgt : Int)) : mn_E M pc ls (.int y :: .int x :: st) h r h' ↔ if y ≤ x then mn_E M tgt ls st h r h' else mn_E M (pc + 3) ls st h r h' := (mX_icmp hd ht).trans (mn_ite rfl)
theorem mX_icmp_gt {x y : Int32} {off : Int} {tgt : Nat} (hd : decode (mC M) pc = .ok (.if_icmp .gt off, 3)) (ht : (pc : Int) + off = (tgt : Int)) : mn_E M pc ls (.int y :: .int x :: st) h r h' ↔ if y < x then mn_E M tgt ls st h r h' else mn_E M (pc + 3) ls st h r h' := (mX_icmp hd ht).trans (mn_ite rfl)
theorem mX_icmp_le {x y : Int32} {off : Int} {tgt : Nat} (hd : decode (mC M) pc = .ok (.if_icmp .le off, 3)) (ht : (pc : Int) + off = (tgt : Int)) : mn_E M pc ls (.int y :: .int x :: st) h r h' ↔ if x ≤ y then mn_E M tgt ls st h r h' else mn_E M (pc + 3) ls st h r h' := (mX_icmp hd ht).trans (mn_ite rfl)
theorem mX_tsw {d lo hi : Int} {offs : Array Int} {len tgt : Nat} {x : Int32} (hd : decode (mC M) pc = .ok (.tableswitch d lo hi offs, len)) (hz : (hi - lo + 1).toNat = offs.size) (ht : mn_tsw pc d lo hi offs x = (tgt : Int)) : mn_E M pc ls (.int x :: st) h r h' ↔ mn_E M tgt ls st h r h' := mn_E_go (by
  simp only [mn_stp, hd, mn_op, mn_go, ht]
  rw [if_pos ⟨hz, Int.natCast_nonneg tgt⟩, Int.toNat_natCast])
theorem mX_geti {a i o ci k : Nat} (hd : decode (mC M) pc = .ok (.getfield i, 3)) (ho : mO M = o) (hf : mn_fl o i = some (ci, k)) (hs : mn_sh a = (0, ci)) (hb : ci < 9 ∧ a < 74 ∧ k < mn_nf ci ∧ mn_isr ci k = false) : mn_E M pc ls (.ref a :: st) h r h' ↔ mn_E M (pc + 3) ls (.int (h a k) :: st) h r h' := mn_E_go (by
  subst ho
  obtain ⟨h1, h2, h3, h4⟩ := hb
  have h9 : ¬ ci = 9 := by omega
  simp only [mn_stp, hd, mn_op, mn_get, hf, hs, if_pos, mn_go, mn_slot, h4]
  rw [if_neg h9, if_pos ⟨h2, h3⟩, if_neg (by decide)])
theorem mX_getr {a b i o ci k : Nat} (hd : decode (mC M) pc = .ok (.getfield i, 3)) (ho : mO M = o) (hf : mn_fl o i = some (ci, k)) (hs : mn_sh a = (0, ci)) (hb : ci < 9 ∧ a < 74 ∧ k < mn_nf ci ∧ mn_isr ci k = true) (hr : mn_rf (h a) a k = b) : mn_E M pc ls (.ref a :: st) h r h' ↔ mn_E M (pc + 3) ls (.ref b :: st) h r h' := mn_E_go (by
  subst ho; subst hr
  obtain ⟨h1, h2, h3, h4⟩ := hb
  have h9 : ¬ ci = 9 := by omega
  simp only [mn_stp, hd, mn_op, mn_get, hf, hs, if_pos, mn_go, mn_slot, h4]
  rw [if_neg h9, if_pos ⟨h2, h3⟩])
theorem mX_getv {i o : Nat} (hd : decode (mC M) pc = .ok (.getfield i, 3)) (ho : mO M = o) (hf : mn_fl o i = some (9, 0)) : mn_E M pc ls (.ref 75 :: st) h r h' ↔ mn_E M (pc + 3) ls (.ref 76 :: st) h r h' := mn_E_go (by
  subst ho
  simp only [mn_stp, hd, mn_op, mn_get, hf, if_pos, mn_go]
  rfl)
theorem mX_getc {i o : Nat} (hd : decode (mC M) pc = .ok (.getfield i, 3)) (ho : mO M = o) (hf : mn_fl o i = some (9, 1)) : mn_E M pc ls (.ref 75 :: st) h r h' ↔ mn_E M (pc + 3) ls (.int 0 :: st) h r h' := mn_E_go (by
  subst ho
  simp only [mn_stp, hd, mn_op, mn_get, hf, if_pos, mn_go]
  rfl)
theorem mX_puti {a i o ci k : Nat} {x : Int32} (hd : decode (mC M) pc = .ok (.putfield i, 3)) (ho : mO M = o) (hf : mn_fl o i = some (ci, k)) (hs : mn_sh a = (0, ci)) (hb : ci < 9 ∧ a < 74 ∧ k < mn_nf ci ∧ mn_isr ci k = false ∧ mn_fin ci k = false) (hz : ¬ (ci = 1 ∧ k = 7) ∨ x = 0 ∨ x = 1) : mn_E M pc ls (.int x :: .ref a :: st) h r h' ↔ mn_E M (pc + 3) ls st (mn_up h a k x) r h' := mn_E_go (by
  subst ho
  obtain ⟨h1, h2, h3, h4, h5⟩ := hb
  simp only [mn_stp, hd, mn_op, mn_put, hf, hs, if_pos, mn_go]
  rw [if_pos ⟨trivial, h1, h2, h3⟩, if_pos ⟨h4, hz, h5⟩])
theorem mX_putr {b i o k : Nat} (hd : decode (mC M) pc = .ok (.putfield i, 3)) (ho : mO M = o) (hf : mn_fl o i = some (7, k)) (hk : 6 ≤ k ∧ k < 8) (hb : b = 23 ∨ b = 43) : mn_E M pc ls (.ref b :: .ref 0 :: st) h r h' ↔ mn_E M (pc + 3) ls st (mn_up h 0 k (nI b)) r h' := mn_E_go (by
  subst ho
  simp only [mn_stp, hd, mn_op, mn_put, hf, if_pos, mn_go]
  rw [if_pos ⟨rfl, by decide, by decide, hk.2⟩, if_pos ⟨trivial, hk.1, hb⟩])
theorem mn_in_of {i : Int32} {n : Nat} (h : vp_in i n) : mn_in i n = true := decide_eq_true h
theorem mX_iaload {a n : Nat} {i : Int32} (hd : decode (mC M) pc = .ok (.iaload, 1)) (hs : mn_sh a = (1, n)) (ha : a < 74) (hb : vp_in i n) : mn_E M pc ls (.int i :: .ref a :: st) h r h' ↔ mn_E M (pc + 1) ls (.int (h a i.toNatClampNeg) :: st) h r h' := mn_E_go (by
  simp only [mn_stp, hd, mn_op, mn_iald, hs, if_pos, mn_go]
  rw [if_pos ⟨ha, trivial, mn_in_of hb⟩])
theorem mX_baload {a n : Nat} {i : Int32} (hd : decode (mC M) pc = .ok (.baload, 1)) (hs : mn_sh a = (2, n)) (ha : a < 74) (hb : vp_in i n) : mn_E M pc ls (.int i :: .ref a :: st) h r h' ↔ mn_E M (pc + 1) ls (.int (h a i.toNatClampNeg) :: st) h r h' := mn_E_go (by
  simp only [mn_stp, hd, mn_op, mn_bald, hs, if_pos, mn_go]
  rw [if_pos ⟨ha, trivial, mn_in_of hb⟩])
theorem mX_baloadB {i : Int32} (hd : decode (mC M) pc = .ok (.baload, 1)) (hb : vp_in i 5) : mn_E M pc ls (.int i :: .ref 76 :: st) h r h' ↔ mn_E M (pc + 1) ls (.int (mn_byt i.toNatClampNeg) :: st) h r h' := mn_E_go (by
  simp only [mn_stp, hd, mn_op, mn_bald, if_pos, mn_go]
  rw [if_neg (fun q => absurd q.1 (by decide)), if_pos ⟨trivial, mn_in_of hb⟩])
theorem mX_laload {i : Int32} (hd : decode (mC M) pc = .ok (.laload, 1)) (hb : vp_in i 6) : mn_E M pc ls (.int i :: .ref 74 :: st) h r h' ↔ mn_E M (pc + 1) ls (.long (mn_dw i.toNatClampNeg) :: st) h r h' := mn_E_go (by
  simp only [mn_stp, hd, mn_op, mn_lald, if_pos, mn_go]
  rw [if_pos ⟨trivial, mn_in_of hb⟩])
theorem mX_aaload {i : Int32} (hd : decode (mC M) pc = .ok (.aaload, 1)) (hb : vp_in i 2) : mn_E M pc ls (.int i :: .ref 9 :: st) h r h' ↔ mn_E M (pc + 1) ls (.ref (5 + 2 * i.toNatClampNeg) :: st) h r h' := mn_E_go (by
  simp only [mn_stp, hd, mn_op, mn_aald, if_pos, mn_go]
  rw [if_pos ⟨trivial, mn_in_of hb⟩])
theorem mX_iastore {a n : Nat} {i x : Int32} (hd : decode (mC M) pc = .ok (.iastore, 1)) (hs : mn_sh a = (1, n)) (ha : a < 74) (hb : vp_in i n) : mn_E M pc ls (.int x :: .int i :: .ref a :: st) h r h' ↔ mn_E M (pc + 1) ls st (mn_up h a i.toNatClampNeg x) r h' := mn_E_go (by
  simp only [mn_stp, hd, mn_op, mn_iast, hs, if_pos, mn_go]
  rw [if_pos ⟨ha, trivial, mn_in_of hb⟩])
theorem mX_bastore {a n : Nat} {i x : Int32} (hd : decode (mC M) pc = .ok (.bastore, 1)) (hs : mn_sh a = (2, n)) (ha : a < 74) (hb : vp_in i n) (hz : x = 0 ∨ x = 1) : mn_E M pc ls (.int x :: .int i :: .ref a :: st) h r h' ↔ mn_E M (pc + 1) ls st (mn_up h a i.toNatClampNeg x) r h' := mn_E_go (by
  simp only [mn_stp, hd, mn_op, mn_bast, hs, if_pos, mn_go]
  rw [if_pos ⟨ha, trivial, mn_in_of hb, hz⟩])
theorem mX_alen {a n : Nat} {v : Int32} (hd : decode (mC M) pc = .ok (.arraylength, 1)) (hs : (mn_sh a).2 = n) (ha : (a < 74 ∧ (mn_sh a).1 = 1) ∨ a = 76) (hv : Int32.ofNat n = v) : mn_E M pc ls (.ref a :: st) h r h' ↔ mn_E M (pc + 1) ls (.int v :: st) h r h' := mn_E_go (by
  subst hv; subst hs
  simp only [mn_stp, hd, mn_op, mn_alen, if_pos, mn_go]
  rw [if_pos ha])
theorem mX_gstD {i o : Nat} (hd : decode (mC M) pc = .ok (.getstatic i, 3)) (ho : mO M = o) (hn : o = 7 ∧ i = 330) : mn_E M pc ls st h r h' ↔ mn_E M (pc + 3) ls (.ref 74 :: st) h r h' := mn_E_go (by subst ho; simp only [mn_stp, hd, mn_op, mn_go, if_pos, if_pos hn])
theorem mX_gstC {i o : Nat} (hd : decode (mC M) pc = .ok (.getstatic i, 3)) (ho : mO M = o) (hn : o = 9 ∧ i = 38) : mn_E M pc ls st h r h' ↔ mn_E M (pc + 3) ls (.int 1 :: st) h r h' := mn_E_go (by
  subst ho
  simp only [mn_stp, hd, mn_op, mn_go, if_pos]
  rw [if_neg (by omega), if_pos hn])
theorem mX_iret {x : Int32} (hd : decode (mC M) pc = .ok (.ireturn, 1)) (hr : mR M = some .int) : mn_E M pc ls [.int x] h r h' ↔ r = some (.int x) ∧ h' = h := mn_E_ret (by simp only [mn_stp, hd, mn_op, if_pos, hr, true_or])
theorem mX_zret {x : Int32} (hd : decode (mC M) pc = .ok (.ireturn, 1)) (hr : mR M = some .boolean) (hx : x = 0 ∨ x = 1) : mn_E M pc ls [.int x] h r h' ↔ r = some (.int x) ∧ h' = h := mn_E_ret (by
  simp only [mn_stp, hd, mn_op, if_pos]
  rw [if_pos (Or.inr (Or.inl ⟨hr, hx⟩))])
theorem mX_bret {x : Int32} (hd : decode (mC M) pc = .ok (.ireturn, 1)) (hr : mR M = some .byte) (hx : x = 0) : mn_E M pc ls [.int x] h r h' ↔ r = some (.int x) ∧ h' = h := mn_E_ret (by
  simp only [mn_stp, hd, mn_op, if_pos]
  rw [if_pos (Or.inr (Or.inr ⟨hr, hx⟩))])
theorem mX_lret {x : Int64} (hd : decode (mC M) pc = .ok (.lreturn, 1)) (hr : mR M = some .long) : mn_E M pc ls [.long x] h r h' ↔ r = some (.long x) ∧ h' = h := mn_E_ret (by simp only [mn_stp, hd, mn_op, if_pos, hr])
theorem mX_vret (hd : decode (mC M) pc = .ok (.return_, 1)) (hr : mR M = none) : mn_E M pc ls [] h r h' ↔ r = none ∧ h' = h := mn_E_ret (by simp only [mn_stp, hd, mn_op, if_pos, hr])
theorem mX_stat {i o C : Nat} {vs st' : List Value} (hd : decode (mC M) pc = .ok (.invokestatic i, 3)) (ho : mO M = o) (hm : mn_ml o i = some C ∨ (mn_ml o i = none ∧ mn_nl o i = some C)) (hp : mP C ≤ st.length) (h1 : (st.take (mP C)).reverse = vs) (h2 : st.drop (mP C) = st') (hc : mn_cok M C vs st' = true) (hst : mSt C = true) : mn_E M pc ls st h r h' ↔ ∃ v h1, mn_X C vs h v h1 ∧ mn_E M (pc + 3) ls (v.toList ++ st') h1 r h' := mn_E_call (by
  subst ho
  have e : mn_csta M pc C st = some (.inr (.inr (C, vs, pc + 3, st'))) := by
    subst h1; subst h2
    unfold mn_csta
    rw [if_pos ⟨hc, hp, hst⟩]
  rcases hm with hm | ⟨hm, hn⟩
  · simp only [mn_stp, hd, mn_op, if_pos, mn_stat, hm]
    exact e
  · simp only [mn_stp, hd, mn_op, if_pos, mn_stat, hm, hn]
    exact e)
theorem mX_max {i o : Nat} {x y : Int32} (hd : decode (mC M) pc = .ok (.invokestatic i, 3)) (ho : mO M = o) (hm : mn_ml o i = none ∧ mn_nl o i = none ∧ mn_ma o i = some 0) (hc : 1 ≤ mF M ∧ mn_cat st + 13 ≤ mW M) : mn_E M pc ls (.int y :: .int x :: st) h r h' ↔ mn_E M (pc + 3) ls (.int (if x < y then y else x) :: st) h r h' := mn_E_go (by
  subst ho
  simp only [mn_stp, hd, mn_op, if_pos, mn_stat, hm.1, hm.2.1, hm.2.2, mn_math, mn_go, if_pos hc])
theorem mX_min {i o : Nat} {x y : Int32} (hd : decode (mC M) pc = .ok (.invokestatic i, 3)) (ho : mO M = o) (hm : mn_ml o i = none ∧ mn_nl o i = none ∧ mn_ma o i = some 1) (hc : 1 ≤ mF M ∧ mn_cat st + 13 ≤ mW M) : mn_E M pc ls (.int y :: .int x :: st) h r h' ↔ mn_E M (pc + 3) ls (.int (if y < x then y else x) :: st) h r h' := mn_E_go (by
  subst ho
  simp only [mn_stp, hd, mn_op, if_pos, mn_stat, hm.1, hm.2.1, hm.2.2, mn_math, mn_go, if_pos hc])
theorem mX_abs {i o : Nat} {x : Int32} (hd : decode (mC M) pc = .ok (.invokestatic i, 3)) (ho : mO M = o) (hm : mn_ml o i = none ∧ mn_nl o i = none ∧ mn_ma o i = some 2) (hc : 1 ≤ mF M ∧ mn_cat st + 13 ≤ mW M) : mn_E M pc ls (.int x :: st) h r h' ↔ mn_E M (pc + 3) ls (.int (if 0 ≤ x then x else 0 - x) :: st) h r h' := mn_E_go (by
  subst ho
  simp only [mn_stp, hd, mn_op, if_pos, mn_stat, hm.1, hm.2.1, hm.2.2, mn_math, mn_go, if_pos hc])
theorem mX_virt {i o C a : Nat} {vs st' : List Value} (hd : decode (mC M) pc = .ok (.invokevirtual i, 3)) (ho : mO M = o) (hm : mn_ml o i = some C) (hp : mP C ≤ st.length) (h1 : (st.take (mP C)).reverse = vs) (h2 : st.drop (mP C) = .ref a :: st') (hs : mn_sh a = (0, mO C)) (hc : mn_cok M C (.ref a :: vs) st' = true) (hst : mSt C = false) : mn_E M pc ls st h r h' ↔ ∃ v h1, mn_X C (.ref a :: vs) h v h1 ∧ mn_E M (pc + 3) ls (v.toList ++ st') h1 r h' := mn_E_call (by
  subst ho; subst h1
  simp only [mn_stp, hd, mn_op, if_pos, mn_virt, hm, h2]
  rw [if_pos ⟨hc, hs, hp, hst⟩])
theorem mX_acopy {i o a b na nb : Nat} {n dp sp : Int32} (hd : decode (mC M) pc = .ok (.invokestatic i, 3)) (ho : mO M = o) (hi : o = 1 ∧ i = 31) (hs : mn_sh a = (1, na) ∧ mn_sh b = (1, nb) ∧ a < 74 ∧ b < 74) (hb : ¬ sp < 0 ∧ ¬ dp < 0 ∧ ¬ n < 0 ∧ sp.toNatClampNeg + n.toNatClampNeg ≤ na ∧ dp.toNatClampNeg + n.toNatClampNeg ≤ nb) (hc : 1 ≤ mF M ∧ mn_cat st + 80 ≤ mW M) : mn_E M pc ls (.int n :: .int dp :: .ref b :: .int sp :: .ref a :: st) h r h' ↔ mn_E M (pc + 3) ls st (mn_set h b (va_cpy (h a) (h b) sp.toNatClampNeg dp.toNatClampNeg n.toNatClampNeg)) r h' := mn_E_go (by
  subst ho
  obtain ⟨s1, s2, s3, s4⟩ := hs
  obtain ⟨b1, b2, b3, b4, b5⟩ := hb
  have e1 : mn_ml (mO M) i = none := by rw [hi.1, hi.2]; decide
  have e2 : mn_nl (mO M) i = none := by rw [hi.1, hi.2]; decide
  have e3 : mn_ma (mO M) i = none := by rw [hi.1, hi.2]; decide
  simp only [mn_stp, hd, mn_op, if_pos, mn_stat, e1, e2, e3, mn_go, mn_acpy, s1, s2]
  rw [if_pos hi, if_pos ⟨s3, s4, trivial, trivial, b1, b2, b3, b4, b5, hc⟩])
end MNR
end
section
theorem goodIn_r {big : List Cond} (ws : List Cond) (ps : List Nat) (hp : ws = ps.filterMap (fun i => big[i]?)) (h : ws.all goodWord = true) : GoodIn big ws := by
  intro w hw
  have h1 := List.all_eq_true.mp h w hw
  rw [hp] at hw
  obtain ⟨i, -, hi⟩ := List.mem_filterMap.mp hw
  have hm : w ∈ big := by first | exact List.mem_of_getElem? hi | exact List.getElem?_mem hi
  exact ⟨hm, good_of_word h1⟩
def mn_Wc (M : Nat) : Cond := .code (mY M) (mC M) (mL M) (mR M)
set_option maxRecDepth 100000 in
theorem mn_Gc : GoodIn lw_tbl ((List.range 193).map mn_Wc) := goodIn_r _ [836, 841, 852, 845, 535, 914, 561, 736, 744, 765, 352, 549, 348, 361, 377, 381, 490, 498, 511, 519, 389, 478, 482, 373, 385, 649, 565, 539, 864, 872, 876, 881, 885, 893, 897, 557, 502, 369, 506, 594, 598, 365, 486, 494, 515, 523, 527, 531, 581, 645, 620, 590, 604, 612, 831, 668, 781, 577, 808, 585, 616, 608, 705, 626, 343, 357, 545, 553, 636, 653, 661, 672, 677, 687, 693, 713, 732, 740, 748, 753, 757, 761, 773, 793, 804, 812, 823, 827, 856, 860, 868, 889, 902, 906, 910, 921, 640, 657, 681, 664, 796, 716, 573, 701, 697, 569, 777, 800, 728, 719, 725, 709, 818, 623, 1008, 1112, 1121, 1128, 1207, 1005, 1026, 1022, 1049, 1045, 1041, 1038, 1034, 1053, 1057, 1061, 1030, 1018, 1014, 1065, 1077, 1081, 1069, 1108, 1117, 1085, 1125, 1073, 1096, 1093, 1104, 1100, 1089, 1152, 1132, 1140, 1136, 1144, 1148, 1160, 1156, 1164, 1168, 1172, 1177, 1185, 1181, 1193, 1189, 1204, 1200, 1211, 1215, 1219, 1223, 1231, 1227, 1235, 1239, 1243, 1254, 1251, 1247, 1258, 1263, 1267, 1271, 1275, 394, 398, 402, 408, 412, 418, 415, 425, 786, 629, 240] (by rfl) (by decide +kernel)
def mn_cn (o : Nat) : String := mn_cN.getD o ""
set_option maxRecDepth 100000 in
theorem mn_Gm : GoodIn lw_tbl (mn_MLT.map (fun e => Cond.methodLink (mn_cn e.1) e.2.1 (mY e.2.2))) := goodIn_r _ [837, 842, 846, 847, 362, 370, 374, 378, 487, 495, 508, 516, 382, 386, 475, 479, 483, 491, 499, 503, 512, 520, 524, 391, 540, 873, 894, 507, 238, 366, 782, 578, 582, 591, 587, 595, 586, 609, 613, 617, 624, 706, 345, 349, 358, 528, 532, 536, 546, 554, 558, 562, 566, 627, 637, 642, 646, 654, 662, 665, 673, 678, 683, 570, 601, 688, 689, 694, 707, 714, 717, 723, 733, 741, 702, 762, 774, 784, 794, 797, 574, 698, 805, 726, 816, 828, 833, 838, 849, 861, 869, 878, 882, 890, 911, 682, 605, 778, 1006, 1023, 1019, 1046, 1035, 1039, 1042, 1031, 1050, 1054, 1058, 1027, 1015, 1082, 1070, 1074, 1078, 1086, 1109, 1118, 1126, 1094, 1101, 1090, 1097, 1137, 1149, 1157, 1182, 1190, 1201, 1205, 1228, 1236, 1252, 1248, 1259, 409, 399, 405, 395, 413, 416, 423] (by decide +kernel) (by decide +kernel)
set_option maxRecDepth 100000 in
theorem mn_Gn : mn_NLT.map (fun e => Cond.methodLinkNest (mn_cn e.1) e.2.1 (mY e.2.2) "TomorrowBells") = ([848, 877, 621, 832] : List Nat).filterMap (fun i => lw_tbl[i]?) := by decide +kernel
def mn_mn (k : Nat) : MethodName := if k = 0 then Lib.Math.max.name else if k = 1 then Lib.Math.min.name else Lib.Math.abs.name
set_option maxRecDepth 100000 in
theorem mn_Gh : GoodIn lw_tbl (mn_MAT.map (fun e => Cond.methodLink (mn_cn e.1) e.2.1 (mn_mn e.2.2))) := goodIn_r _ [898, 222, 599, 783, 600, 813, 819, 420, 419] (by decide +kernel) (by decide +kernel)
set_option maxRecDepth 100000 in
theorem mn_Gj : GoodIn lw_tbl [.code Lib.Math.max.name Lib.Math.max.code 2 (some .int), .static Lib.Math.max.name, .code Lib.Math.min.name Lib.Math.min.code 2 (some .int), .static Lib.Math.min.name, .code Lib.Math.abs.name Lib.Math.abs.code 1 (some .int), .static Lib.Math.abs.name] := goodIn_r _ [224, 223, 422, 421, 815, 814] (by decide +kernel) (by decide +kernel)
def mn_virtL : List Nat := (List.range 193).filter (fun M => !mSt M)
def mn_statL : List Nat := (List.range 193).filter (fun M => mSt M)
set_option maxRecDepth 100000 in
theorem mn_Gi : GoodIn lw_tbl (mn_virtL.map (fun M => Cond.instanceMethod (mY M))) := goodIn_r _ [834, 839, 850, 844, 533, 912, 559, 734, 742, 763, 350, 547, 346, 359, 376, 380, 489, 497, 510, 518, 388, 477, 481, 372, 384, 647, 563, 537, 862, 870, 875, 879, 883, 891, 896, 555, 500, 367, 504, 592, 596, 363, 484, 492, 513, 521, 525, 529, 579, 643, 618, 588, 602, 610, 829, 666, 779, 575, 806, 583, 614, 606, 703, 341, 355, 543, 551, 634, 651, 659, 670, 675, 685, 691, 711, 730, 738, 746, 751, 755, 759, 771, 791, 802, 810, 821, 825, 854, 858, 866, 887, 900, 904, 908, 919, 639, 656, 680, 572, 700, 696, 568, 776, 799, 1111, 1120, 1003, 1025, 1021, 1048, 1044, 1037, 1033, 1052, 1056, 1060, 1029, 1017, 1012, 1063, 1076, 1080, 1067, 1106, 1115, 1084, 1123, 1072, 1092, 1103, 1099, 1088, 1151, 1130, 1139, 1134, 1142, 1146, 1159, 1154, 1162, 1166, 1170, 1175, 1184, 1179, 1192, 1187, 1203, 1198, 1209, 1213, 1217, 1221, 1230, 1225, 1233, 1238, 1241, 1250, 1245, 1256, 1261, 1265, 1269, 1273, 392, 396, 400, 406, 410] (by decide +kernel) (by decide +kernel)
set_option maxRecDepth 100000 in
theorem mn_Gs : GoodIn lw_tbl (mn_virtL.map (fun M => Cond.selects (mn_cn (mO M)) (mY M) (mY M))) := goodIn_r _ [835, 840, 851, 20, 534, 913, 560, 735, 743, 764, 351, 548, 347, 360, 1, 2, 7, 8, 9, 10, 4, 5, 6, 0, 3, 648, 564, 538, 863, 871, 21, 880, 884, 892, 22, 556, 501, 368, 505, 593, 597, 364, 485, 493, 514, 522, 526, 530, 580, 644, 619, 589, 603, 611, 830, 667, 780, 576, 807, 584, 615, 607, 704, 342, 356, 544, 552, 635, 652, 660, 671, 676, 686, 692, 712, 731, 739, 747, 752, 756, 760, 772, 792, 803, 811, 822, 826, 855, 859, 867, 888, 901, 905, 909, 920, 13, 14, 15, 12, 17, 16, 11, 18, 19, 42, 43, 1004, 25, 24, 30, 29, 28, 27, 31, 32, 33, 26, 23, 1013, 1064, 35, 36, 1068, 1107, 1116, 37, 1124, 34, 39, 41, 40, 38, 45, 1131, 44, 1135, 1143, 1147, 46, 1155, 1163, 1167, 1171, 1176, 47, 1180, 48, 1188, 49, 1199, 1210, 1214, 1218, 1222, 50, 1226, 1234, 51, 1242, 52, 1246, 1257, 1262, 1266, 1270, 1274, 393, 397, 401, 407, 411] (by decide +kernel) (by decide +kernel)
set_option maxRecDepth 100000 in
theorem mn_Gt : GoodIn lw_tbl (mn_statL.map (fun M => Cond.static (mY M))) := goodIn_r _ [625, 663, 795, 715, 727, 718, 724, 708, 817, 622, 1007, 1127, 1206, 1040, 1095, 1253, 417, 414, 424, 785, 628, 239] (by decide +kernel) (by decide +kernel)
set_option maxRecDepth 100000 in
theorem mn_Gz : GoodIn lw_tbl ((List.range 15).map (fun o => Cond.initialized (mn_cn o))) := goodIn_r _ [59, 56, 55, 57, 61, 60, 58, 54, 64, 65, 66, 71, 70, 62, 63] (by decide +kernel) (by decide +kernel)
def mn_fT (ci k : Nat) : String × String × String × Bool := if ci = 9 then (if k = 0 then ("java/lang/String", "value", "[B", true) else ("java/lang/String", "coder", "B", true)) else match vwCl[ci]? with
  | some q => q.2.1 k
  | none => ("", "", "", false)
set_option maxRecDepth 100000 in
theorem mn_Gf : GoodIn lw_tbl (mn_FLT.map (fun e => Cond.fieldLink (mn_cn e.1) e.2.1 (mn_cn e.2.2.1) (mn_fT e.2.2.1 e.2.2.2).2.1 (mn_fT e.2.2.1 e.2.2.2).2.2.1)) := goodIn_r _ [197, 198, 200, 199, 115, 113, 116, 118, 120, 122, 124, 87, 92, 88, 89, 91, 266, 270, 243, 253, 273, 90, 151, 152, 153, 154, 155, 156, 225, 226, 227, 228, 244, 246, 248, 254, 257, 259, 261, 263, 267, 274, 275, 276, 277, 241, 250, 271, 279, 177, 179, 180, 181, 264, 268, 251, 255, 315, 316, 317, 318, 319, 320, 321, 322, 126, 242, 252, 265, 269, 272, 117, 119, 121, 123, 245, 247, 249, 256, 258, 260, 262, 178, 114, 278, 125, 929, 931, 932, 933, 934, 935, 936, 937, 938, 950, 952, 930, 939, 941, 940, 942, 943, 944, 945, 946, 948, 949, 947, 951, 1277, 1276] (by decide +kernel) (by decide +kernel)
set_option maxRecDepth 100000 in
theorem mn_Gl : GoodIn lw_tbl (vwCl.flatMap (fun q => u_ws q.1 q.2.1 q.2.2)) := goodIn_r _ [201, 203, 205, 207, 127, 129, 131, 133, 135, 137, 139, 141, 93, 95, 97, 99, 101, 103, 157, 159, 161, 163, 165, 167, 229, 231, 233, 235, 280, 282, 284, 286, 288, 290, 292, 294, 296, 298, 300, 302, 304, 306, 308, 310, 312, 182, 184, 186, 188, 323, 325, 327, 329, 331, 333, 335, 337, 953, 955, 957, 959, 961, 963, 965, 967, 969, 971, 973, 975, 977, 979, 981, 983, 985, 987, 989, 991, 993, 995, 997, 999] (by decide +kernel) (by decide +kernel)
set_option maxRecDepth 100000 in
theorem mn_Gk : GoodIn lw_tbl (mn_CT.map (fun e => Cond.constant (mn_cn e.1) e.2.1 e.2.2)) := goodIn_r _ [344, 353, 641, 749, 769, 928, 1009, 1010, 1113, 1173, 1194, 1195, 1196, 787, 788, 789] (by decide +kernel) (by decide +kernel)
set_option maxRecDepth 100000 in
theorem mn_GK : GoodIn lw_tbl (mn_CLT.map (fun e => Cond.constantLong (mn_cn e.1) e.2.1 e.2.2)) := goodIn_r _ [722, 766, 767, 768, 630, 631, 632] (by decide +kernel) (by decide +kernel)
def mn_Wr : List Cond := [.fieldLink "TomorrowBells" 330 "TomorrowBells" "DAYS_WITH" "[J", .fieldLink "java/lang/String" 38 "java/lang/String" "COMPACT_STRINGS" "Z", .methodLink "TomorrowBells$Course" 31 arraycopyName, .native arraycopyName, .static arraycopyName, .initialized "java/lang/System"]
set_option maxRecDepth 100000 in
theorem mn_Gr : GoodIn lw_tbl mn_Wr := goodIn_r _ [720, 403, 915, 917, 916, 72] (by decide +kernel) (by decide +kernel)
set_option maxRecDepth 100000 in
theorem mn_ycls : ∀ M, M < 193 → (mY M).cls = mn_cn (mO M) ∧ (mY M).cls ≠ "java/lang/invoke/MethodHandle" ∧ (mY M).cls ≠ "java/lang/invoke/VarHandle" ∧ (parseMethodDescriptor (mY M).desc).map (fun d => d.parameters.length) = some (mP M) ∧ plainName (mY M).cls = true ∧ mO M < 15 := by decide +kernel
set_option maxRecDepth 100000 in
theorem mn_mlv : ∀ e ∈ mn_MLT, e.2.2 < 193 := by decide +kernel
end
section
def mn_WS (M : Nat) : List Cond := mn_Wc M :: lw_tbl.filter goodWord
theorem mn_wf {ws : List Cond} (h : GoodIn lw_tbl ws) {w : Cond} (hw : w ∈ ws) : w ∈ lw_tbl.filter goodWord := by
  obtain ⟨h1, h2⟩ := h w hw
  refine List.mem_filter.mpr ⟨h1, ?_⟩
  rcases h2 with h2 | ⟨ty, rfl⟩
  · cases w <;> first | exact h2 | rfl
  · rfl
theorem mn_wt {ws : List Cond} (h : GoodIn lw_tbl ws) {w : Cond} (hw : w ∈ ws) {M : Nat} : w ∈ mn_WS M := List.mem_cons_of_mem _ (mn_wf h hw)
theorem mn_wc {M C : Nat} (hC : C < 193) : mn_Wc C ∈ mn_WS M := mn_wt mn_Gc (List.mem_map.mpr ⟨C, List.mem_range.mpr hC, rfl⟩)
theorem mn_good {M C : Nat} (hC : C < 193) : GoodIn (mn_WS M) (mn_WS C) := by
  intro w hw
  rcases List.mem_cons.mp hw with rfl | hw
  · exact ⟨mn_wc hC, Or.inl rfl⟩
  · exact ⟨List.mem_cons_of_mem _ hw, good_of_word (List.mem_filter.mp hw).2⟩
def mn_cv (ad : Nat → Nat) : Value → Value
  | .ref a => .ref (ad a)
  | v => v
theorem mn_cv_cat (ad : Nat → Nat) (v : Value) : (mn_cv ad v).category = v.category := by cases v <;> rfl
def mn_val (ad : Nat → Nat) (f : Nat → Int32) (a ci k : Nat) : Value := if mn_isr ci k = true then .ref (ad (mn_rf f a k)) else .int (f k)
def mn_tys (cI cZ cO : ClassId) : List (ClassId × FieldType) := [(cI, .int), (cZ, .boolean), (cO, .object "TomorrowBells$Course")]
def mn_cell (cI cZ cO : ClassId) (ad : Nat → Nat) (f : Nat → Int32) (a : Nat) : va_E :=
  if (mn_sh a).1 = 0 then .inr ((mn_sh a).2, (List.range (mn_nf (mn_sh a).2)).map (mn_val ad f a (mn_sh a).2))
  else if (mn_sh a).1 = 1 then .inl (cI, (mn_sh a).2, .inl f)
  else if (mn_sh a).1 = 2 then .inl (cZ, (mn_sh a).2, .inl f)
  else .inl (cO, 2, .inr (.inr (.inr (.inr (fun i => some (ad (5 + 2 * i)))))))
def mn_ws (cI cZ cO : ClassId) (ad : Nat → Nat) (h : mn_H) : va_W := (List.range 74).map (fun a => (ad a, mn_cell cI cZ cO ad (h a) a))
theorem mn_ws_at {cI cZ cO : ClassId} {ad : Nat → Nat} {h : mn_H} {a : Nat} (ha : a < 74) : (mn_ws cI cZ cO ad h)[a]? = some (ad a, mn_cell cI cZ cO ad (h a) a) := by
  unfold mn_ws
  rw [List.getElem?_map, List.getElem?_range ha]
  rfl
theorem mn_ws_none {cI cZ cO : ClassId} {ad : Nat → Nat} {h : mn_H} {a : Nat} (ha : ¬ a < 74) : (mn_ws cI cZ cO ad h)[a]? = none := by
  apply List.getElem?_eq_none
  simp [mn_ws]
  omega
theorem mn_ws_set {cI cZ cO : ClassId} {ad : Nat → Nat} {h h1 : mn_H} {a : Nat} {e : va_E} (ha : a < 74) (he : mn_cell cI cZ cO ad (h1 a) a = e) (hh : ∀ b, b ≠ a → h1 b = h b) : (mn_ws cI cZ cO ad h).set a (ad a, e) = mn_ws cI cZ cO ad h1 := by
  apply List.ext_getElem?
  intro k
  by_cases hk : k = a
  · subst hk
    rw [List.getElem?_set_self (by simp [mn_ws]; exact ha), mn_ws_at ha, he]
  · rw [List.getElem?_set_ne (Ne.symm hk)]
    by_cases hl : k < 74
    · rw [mn_ws_at hl, mn_ws_at hl, hh k hk]
    · rw [mn_ws_none hl, mn_ws_none hl]
theorem mn_ws_D {cI cZ cO : ClassId} {ad : Nat → Nat} {h h1 : mn_H} {A : Nat → Prop} (hD : va_D A (mn_ws cI cZ cO ad h)) : va_D A (mn_ws cI cZ cO ad h1) := by
  have key : ∀ (k : Nat) (q : Nat × va_E), (mn_ws cI cZ cO ad h1)[k]? = some q → (mn_ws cI cZ cO ad h)[k]? = some (q.1, mn_cell cI cZ cO ad (h k) k) := by
    intro k q hq
    by_cases hl : k < 74
    · rw [mn_ws_at hl] at hq ⊢
      cases hq
      rfl
    · rw [mn_ws_none hl] at hq
      cases hq
  exact ⟨fun i j p q hp hq hpq => hD.1 i j _ _ (key i p hp) (key j q hq) hpq, fun k q hq => hD.2 k (q.1, mn_cell cI cZ cO ad (h k) k) (key k q hq)⟩
/-- what stands before the law begins, and is never written -/
def mn_K (ad : Nat → Nat) (lo : Nat) (U : State) (H : Heap) : Prop :=
  va_Z "TomorrowBells" "DAYS_WITH" "[J" (.ref (ad 74)) (fun q => lo ≤ q) U H ∧ va_T .long (ad 74) 6 (fun j => .long (mn_dw j)) (fun q => lo ≤ q) U H ∧
  va_Z "java/lang/String" "COMPACT_STRINGS" "Z" (.int 1) (fun q => lo ≤ q) U H ∧ vk_R "TomorrowBells$Reader" 118 "cmdky" (ad 75) U ∧
  va_O "java/lang/String" (ad 75) (fun q => lo ≤ q) U H ∧ va_OF "java/lang/String" "coder" "B" (.int 0) (ad 75) (fun q => lo ≤ q) U H ∧
  va_OF "java/lang/String" "value" "[B" (.ref (ad 76)) (ad 75) (fun q => lo ≤ q) U H ∧ va_T .byte (ad 76) 5 (fun j => .int (mn_byt j)) (fun q => lo ≤ q) U H ∧
  ∀ e ∈ mn_NLT, va_Nw (.methodLinkNest (mn_cn e.1) e.2.1 (mY e.2.2) "TomorrowBells") U
theorem mn_K.moved {ad : Nat → Nat} {lo : Nat} {s U : State} {H : Heap} (hW : s.WarmedH U.vm) (h : mn_K ad lo s H) : mn_K ad lo U H := by
  obtain ⟨h1, h2, h3, h4, h5, h6, h7, h8, h9⟩ := h
  exact ⟨h1.moved hW.alike, h2.moved hW.alike, h3.moved hW.alike, h4.warm hW, h5.moved hW.alike, h6.moved hW.alike, h7.moved hW.alike, h8.moved hW.alike, fun e he => va_Nw.warmM hW (h9 e he)⟩
theorem mn_K.same {ad : Nat → Nat} {lo : Nat} {s U : State} {H : Heap} (hv : U.vm = s.vm) (h : mn_K ad lo s H) : mn_K ad lo U H := by
  have ha : s.vm.Alike U.vm := by rw [hv]; exact Vm.Alike.refl _
  obtain ⟨h1, h2, h3, h4, h5, h6, h7, h8, h9⟩ := h
  exact ⟨h1.moved ha, h2.moved ha, h3.moved ha, h4.same hv, h5.moved ha, h6.moved ha, h7.moved ha, h8.moved ha, fun e he => va_Nw.same rfl hv.symm (h9 e he)⟩
theorem mn_K.kept {ad : Nat → Nat} {lo : Nat} {s : State} {H H1 : Heap} (h : mn_K ad lo s H) (hq : ∀ a : Nat, a < H.size → ¬ lo ≤ a → H1[a]? = H[a]?) : mn_K ad lo s H1 := by
  obtain ⟨h1, h2, h3, h4, h5, h6, h7, h8, h9⟩ := h
  exact ⟨h1.kept hq, h2.kept hq, h3.kept hq, h4, h5.kept hq, h6.kept hq, h7.kept hq, h8.kept hq, h9⟩
/-- the world that a method finds -/
def mn_Wd (D : va_G) (cI cZ cO : ClassId) (ad : Nat → Nat) (lo : Nat) (h : mn_H) (U : State) : Prop :=
  va_P D vwCl (mn_ws cI cZ cO ad h) U.heap ∧ va_D (fun q => lo ≤ q) (mn_ws cI cZ cO ad h) ∧ va_K D vwCl (mn_tys cI cZ cO) U ∧ mn_K ad lo U U.heap
def mn_Qc (D : va_G) (cI cZ cO : ClassId) (ad : Nat → Nat) (lo : Nat) (r : Option Value) (h' : mn_H) : Array Value → State → Outcome → State → Prop :=
  fun _ st oc t => oc = .returned (r.map (mn_cv ad)) ∧ va_P D vwCl (mn_ws cI cZ cO ad h') t.heap ∧ va_F (fun q => lo ≤ q) st t
def mn_rm (M : Nat) : Room := { frames := mF M, cells := 0, slots := 0, locals := mW M }
/-- the locals that are known -/
def mn_lv (ad : Nat → Nat) (ls : List Value) : List (Nat × Value) := (List.range ls.length).filterMap (fun k => if mn_isn (ls.getD k .null) = true then none else some (k, mn_cv ad (ls.getD k .null)))
theorem mn_lv_mem {ad : Nat → Nat} {ls : List Value} {q : Nat × Value} : q ∈ mn_lv ad ls ↔ ∃ v, ls[q.1]? = some v ∧ mn_isn v = false ∧ q.2 = mn_cv ad v := by
  obtain ⟨k, w⟩ := q
  unfold mn_lv
  simp only [List.mem_filterMap, List.mem_range, List.getD_eq_getElem?_getD]
  constructor
  · rintro ⟨j, hj, e⟩
    rw [List.getElem?_eq_getElem hj, Option.getD_some] at e
    by_cases hn : mn_isn ls[j] = true
    · rw [if_pos hn] at e; cases e
    · rw [if_neg hn] at e
      cases e
      exact ⟨ls[k], List.getElem?_eq_getElem hj, by simpa using hn, rfl⟩
  · rintro ⟨v, hv, hn, e⟩
    have hj := (List.getElem?_eq_some_iff.mp hv).1
    refine ⟨k, hj, ?_⟩
    rw [show ls[k]? = some v from hv, Option.getD_some, if_neg (by rw [hn]; decide)]
    exact congrArg some (congrArg (Prod.mk k) e.symm)
theorem mn_lvsub {ls : Array Slot} {n : Nat} {l l' : List (Nat × Value)} (h : lv_has ls n l) (hs : ∀ q ∈ l', q ∈ l) : lv_has ls n l' := ⟨h.1, h.2.1, fun q hq => h.2.2 q (hs q hq)⟩
theorem mn_at {ad : Nat → Nat} {lsA : Array Slot} {n i : Nat} {ls : List Value} {v : Value} (h : lv_has lsA n (mn_lv ad ls)) (hv : ls[i]? = some v) (hn : mn_isn v = false) : lsA[i]? = some (.val (mn_cv ad v)) := h.2.2 (i, mn_cv ad v) (mn_lv_mem.mpr ⟨v, hv, hn, rfl⟩)
theorem mn_g_cat {M k : Nat} {ls : List Value} {v : Value} (hg : mn_g M ls = true) (hv : ls[k]? = some v) (hc : v.category = 2) : k ∈ mN M := by
  unfold mn_g at hg
  rw [Bool.and_eq_true] at hg
  have h1 := List.all_eq_true.mp hg.1 k (List.mem_range.mpr (List.getElem?_eq_some_iff.mp hv).1)
  rw [List.getD_eq_getElem?_getD, hv, Option.getD_some] at h1
  simp [mn_isl, hc] at h1
  exact h1
theorem mn_g_nul {M j : Nat} {ls : List Value} {v : Value} (hg : mn_g M ls = true) (hj : j ∈ mN M) (hv : ls[j + 1]? = some v) : mn_isn v = true := by
  unfold mn_g at hg
  rw [Bool.and_eq_true] at hg
  have h1 := List.all_eq_true.mp hg.2 j hj
  rw [List.getD_eq_getElem?_getD, hv, Option.getD_some] at h1
  exact h1
theorem mn_g_of {M : Nat} {ls : List Value} (h1 : ∀ k v, ls[k]? = some v → v.category = 2 → k ∈ mN M) (h2 : ∀ j v, j ∈ mN M → ls[j + 1]? = some v → mn_isn v = true) : mn_g M ls = true := by
  unfold mn_g
  rw [Bool.and_eq_true]
  refine ⟨List.all_eq_true.mpr fun k hk => ?_, List.all_eq_true.mpr fun j hj => ?_⟩
  · have hl := List.mem_range.mp hk
    rw [List.getD_eq_getElem?_getD, List.getElem?_eq_getElem hl, Option.getD_some]
    by_cases hc : ls[k].category = 2
    · have := h1 k _ (List.getElem?_eq_getElem hl) hc
      simp [this]
    · simp [mn_isl, hc]
  · rw [List.getD_eq_getElem?_getD]
    cases hv : ls[j + 1]? with
    | none => rfl
    | some v => exact h2 j v hj hv
theorem mn_so_of {M i : Nat} {ls : List Value} (h : mn_so M i ls = true) : i < mL M ∧ ∀ j ∈ mN M, j ≠ i ∧ j + 1 ≠ i := by
  unfold mn_so at h
  rw [Bool.and_eq_true] at h
  refine ⟨of_decide_eq_true h.1, fun j hj => ?_⟩
  have := List.all_eq_true.mp h.2 j hj
  rw [Bool.and_eq_true] at this
  exact ⟨of_decide_eq_true this.1, of_decide_eq_true this.2⟩
theorem mn_so2_of {M i : Nat} {ls : List Value} (h : mn_so2 M i ls = true) : i + 1 < mL M ∧ i ∈ mN M ∧ ∀ j ∈ mN M, j ≠ i + 1 ∧ j + 1 ≠ i := by
  unfold mn_so2 at h
  rw [Bool.and_eq_true, Bool.and_eq_true] at h
  refine ⟨of_decide_eq_true h.1.1, by simpa using h.1.2, fun j hj => ?_⟩
  have := List.all_eq_true.mp h.2 j hj
  rw [Bool.and_eq_true] at this
  exact ⟨of_decide_eq_true this.1, of_decide_eq_true this.2⟩
theorem mn_set_get {ls : List Value} {i k : Nat} {x v : Value} (h : (ls.set i x)[k]? = some v) : (k = i ∧ v = x) ∨ (k ≠ i ∧ ls[k]? = some v) := by
  by_cases hk : k = i
  · subst hk
    by_cases hl : k < ls.length
    · rw [List.getElem?_set_self hl] at h; cases h; exact Or.inl ⟨rfl, rfl⟩
    · rw [List.getElem?_eq_none (by simpa using hl)] at h; cases h
  · rw [List.getElem?_set_ne (Ne.symm hk)] at h; exact Or.inr ⟨hk, h⟩
theorem mn_g1 {M i : Nat} {ls : List Value} {x : Value} (hg : mn_g M ls = true) (hs : mn_so M i ls = true) (hc : x.category = 1) : mn_g M (ls.set i x) = true := by
  obtain ⟨-, h2⟩ := mn_so_of hs
  refine mn_g_of (fun k v hv hv2 => ?_) (fun j v hj hv => ?_)
  · rcases mn_set_get hv with ⟨-, rfl⟩ | ⟨-, h⟩
    · omega
    · exact mn_g_cat hg h hv2
  · rcases mn_set_get hv with ⟨e, -⟩ | ⟨-, h⟩
    · exact absurd e (h2 j hj).2
    · exact mn_g_nul hg hj h
theorem mn_g2 {M i : Nat} {ls : List Value} {x : Value} (hg : mn_g M ls = true) (hs : mn_so2 M i ls = true) : mn_g M (ls.set i x) = true := by
  obtain ⟨-, h1, h2⟩ := mn_so2_of hs
  refine mn_g_of (fun k v hv hv2 => ?_) (fun j v hj hv => ?_)
  · rcases mn_set_get hv with ⟨rfl, -⟩ | ⟨-, h⟩
    · exact h1
    · exact mn_g_cat hg h hv2
  · rcases mn_set_get hv with ⟨e, -⟩ | ⟨-, h⟩
    · exact absurd e (h2 j hj).2
    · exact mn_g_nul hg hj h
theorem mn_lv1 {ad : Nat → Nat} {M i : Nat} {ls : List Value} {x : Value} (hg : mn_g M ls = true) (hs : mn_so M i ls = true) : ∀ q ∈ mn_lv ad (ls.set i x), q ∈ (i, mn_cv ad x) :: (mn_lv ad ls).filter (fun q => !(q.1 == i) && !(q.1 + 1 == i && q.2.category == 2)) := by
  obtain ⟨-, h2⟩ := mn_so_of hs
  intro q hq
  obtain ⟨v, hv, hn, e⟩ := mn_lv_mem.mp hq
  rcases mn_set_get hv with ⟨rfl, rfl⟩ | ⟨hk, h⟩
  · exact List.mem_cons.mpr (Or.inl (by rw [← e]))
  · refine List.mem_cons_of_mem _ (List.mem_filter.mpr ⟨mn_lv_mem.mpr ⟨v, h, hn, e⟩, ?_⟩)
    have h3 : ¬ (q.1 + 1 = i ∧ q.2.category = 2) := fun ⟨a, b⟩ => (h2 q.1 (mn_g_cat hg h (by rw [e, mn_cv_cat] at b; exact b))).2 a
    simp only [Bool.and_eq_true, Bool.not_eq_true', beq_eq_false_iff_ne, Bool.and_eq_false_iff]
    refine ⟨hk, ?_⟩
    by_cases ha : q.1 + 1 = i
    · exact Or.inr (fun b => h3 ⟨ha, b⟩)
    · exact Or.inl ha
theorem mn_lv2 {ad : Nat → Nat} {M i : Nat} {ls : List Value} {x : Value} (hg : mn_g M ls = true) (hs : mn_so2 M i ls = true) : ∀ q ∈ mn_lv ad (ls.set i x), q ∈ (i, mn_cv ad x) :: (mn_lv ad ls).filter (fun q => !(q.1 == i) && (!(q.1 == i + 1) && !(q.1 + 1 == i && q.2.category == 2))) := by
  obtain ⟨-, h1, h2⟩ := mn_so2_of hs
  intro q hq
  obtain ⟨v, hv, hn, e⟩ := mn_lv_mem.mp hq
  rcases mn_set_get hv with ⟨rfl, rfl⟩ | ⟨hk, h⟩
  · exact List.mem_cons.mpr (Or.inl (by rw [← e]))
  · refine List.mem_cons_of_mem _ (List.mem_filter.mpr ⟨mn_lv_mem.mpr ⟨v, h, hn, e⟩, ?_⟩)
    have h3 : ¬ (q.1 + 1 = i ∧ q.2.category = 2) := fun ⟨a, b⟩ => (h2 q.1 (mn_g_cat hg h (by rw [e, mn_cv_cat] at b; exact b))).2 a
    have h4 : q.1 ≠ i + 1 := fun a => by
      rw [a] at h
      have := mn_g_nul hg h1 h
      rw [hn] at this
      cases this
    simp only [Bool.and_eq_true, Bool.not_eq_true', beq_eq_false_iff_ne, Bool.and_eq_false_iff]
    refine ⟨hk, h4, ?_⟩
    by_cases ha : q.1 + 1 = i
    · exact Or.inr (fun b => h3 ⟨ha, b⟩)
    · exact Or.inl ha
theorem mn_ifn {α : Type} {c : Prop} {_ : Decidable c} {x : Option α} {q : α} (h : (if c then x else none) = some q) : c ∧ x = some q := by
  by_cases hc : c
  · rw [if_pos hc] at h; exact ⟨hc, h⟩
  · rw [if_neg hc] at h; cases h
end
section
/-- the machine at a method of the table -/
def mn_Cx (D : va_G) (cI cZ cO : ClassId) (ad : Nat → Nat) (lo M : Nat) (p : Program) (s : State) (m : MethodId) (args : Array Value) (meth : Method) (c : Code) : Prop :=
  p.tables.exec = Jvm.exec ∧ c.code = mC M ∧ meth.sig.returnType = mR M ∧ c.maxLocals = mL M ∧ s.vm.findClass (mn_cn (mO M)) = some m.cls ∧ (∀ w ∈ mn_WS M, w.before args s = true) ∧ meth.locks = false ∧ va_K D vwCl (mn_tys cI cZ cO) s ∧ mn_K ad lo s s.heap ∧ M < 193
def mn_Sx (D : va_G) (cI cZ cO : ClassId) (ad : Nat → Nat) (lo M : Nat) (s : State) (H : Heap) (locs : List Loc) (lsA : Array Slot) (h : mn_H) (ls : List Value) : Prop :=
  va_P D vwCl (mn_ws cI cZ cO ad h) H ∧ va_D (fun q => lo ≤ q) (mn_ws cI cZ cO ad h) ∧ va_S (fun q => lo ≤ q) s.heap H locs ∧ lv_has lsA (mL M) (mn_lv ad ls) ∧ mn_g M ls = true
theorem mn_cl9 : ∀ ci, ci < 9 → ∃ q, vwCl[ci]? = some q ∧ q.2.2 = mn_nf ci ∧ q.1 = mn_cn ci ∧ ∀ k, mn_fT ci k = q.2.1 k := by
  intro ci h
  have : ci = 0 ∨ ci = 1 ∨ ci = 2 ∨ ci = 3 ∨ ci = 4 ∨ ci = 5 ∨ ci = 6 ∨ ci = 7 ∨ ci = 8 := by omega
  rcases this with rfl | rfl | rfl | rfl | rfl | rfl | rfl | rfl | rfl <;> exact ⟨_, rfl, rfl, rfl, fun _ => rfl⟩
theorem mn_tyX : ∀ ci, ci < 9 → ∀ q, vwCl[ci]? = some q → ∃ ty0 : Nat → FieldType, (∀ k, k < q.2.2 → parseFieldDescriptor (q.2.1 k).2.2.1 = some (ty0 k)) ∧ (∀ a, a < q.2.2 → ∀ b, b < q.2.2 → a ≠ b → (q.2.1 a).2.1 ≠ (q.2.1 b).2.1) := by
  intro ci h q hq
  have : ci = 0 ∨ ci = 1 ∨ ci = 2 ∨ ci = 3 ∨ ci = 4 ∨ ci = 5 ∨ ci = 6 ∨ ci = 7 ∨ ci = 8 := by omega
  rcases this with rfl | rfl | rfl | rfl | rfl | rfl | rfl | rfl | rfl <;> cases hq
  · exact ⟨tyX0, tyX0_ok, nmX0⟩
  · exact ⟨tyX1, tyX1_ok, nmX1⟩
  · exact ⟨tyX2, tyX2_ok, nmX2⟩
  · exact ⟨tyX3, tyX3_ok, nmX3⟩
  · exact ⟨tyX4, tyX4_ok, nmX4⟩
  · exact ⟨tyX5, tyX5_ok, nmX5⟩
  · exact ⟨tyX6, tyX6_ok, nmX6⟩
  · exact ⟨tyX7, tyX7_ok, nmX7⟩
  · exact ⟨tyX8, tyX8_ok, nmX8⟩
theorem mn_fTs : ∀ ci, ci < 9 → ∀ k, k < mn_nf ci → (mn_fT ci k).1 = mn_cn ci ∧ (mn_fT ci k).2.2.2 = mn_fin ci k := by decide +kernel
theorem mn_fTt : ∀ ci, ci < 9 → ∀ k, k < mn_nf ci → mn_isr ci k = true ∨ (parseFieldDescriptor (mn_fT ci k).2.2.1 = some .int ∧ ¬ (ci = 1 ∧ k = 7)) ∨ (parseFieldDescriptor (mn_fT ci k).2.2.1 = some .boolean ∧ ci = 1 ∧ k = 7) := by decide +kernel
theorem mn_fl_of {o i ci k : Nat} (h : mn_fl o i = some (ci, k)) : (o, i, ci, k) ∈ mn_FLT := by
  unfold mn_fl at h
  cases hf : mn_FLT.find? (fun e => e.1 == o && e.2.1 == i) with
  | none => rw [hf] at h; cases h
  | some e =>
    rw [hf] at h
    have h1 := List.mem_of_find?_eq_some hf
    have h2 := List.find?_some hf
    obtain ⟨a, b, c, d⟩ := e
    simp at h2 h
    rw [h2.1, h2.2, h.1, h.2] at h1
    exact h1
theorem mn_ml_of {o i C : Nat} (h : mn_ml o i = some C) : (o, i, C) ∈ mn_MLT := by
  unfold mn_ml at h
  cases hf : mn_MLT.find? (fun e => e.1 == o && e.2.1 == i) with
  | none => rw [hf] at h; cases h
  | some e =>
    rw [hf] at h
    have h1 := List.mem_of_find?_eq_some hf
    have h2 := List.find?_some hf
    obtain ⟨a, b, c⟩ := e
    simp at h2 h
    rw [h2.1, h2.2, h] at h1
    exact h1
theorem mn_nl_of {o i C : Nat} (h : mn_nl o i = some C) : (o, i, C) ∈ mn_NLT := by
  unfold mn_nl at h
  cases hf : mn_NLT.find? (fun e => e.1 == o && e.2.1 == i) with
  | none => rw [hf] at h; cases h
  | some e =>
    rw [hf] at h
    have h1 := List.mem_of_find?_eq_some hf
    have h2 := List.find?_some hf
    obtain ⟨a, b, c⟩ := e
    simp at h2 h
    rw [h2.1, h2.2, h] at h1
    exact h1
theorem mn_ma_of {o i C : Nat} (h : mn_ma o i = some C) : (o, i, C) ∈ mn_MAT := by
  unfold mn_ma at h
  cases hf : mn_MAT.find? (fun e => e.1 == o && e.2.1 == i) with
  | none => rw [hf] at h; cases h
  | some e =>
    rw [hf] at h
    have h1 := List.mem_of_find?_eq_some hf
    have h2 := List.find?_some hf
    obtain ⟨a, b, c⟩ := e
    simp at h2 h
    rw [h2.1, h2.2, h] at h1
    exact h1
theorem mn_cst_of {o i : Nat} {v : Int32} (h : mn_cst o i = some v) : (o, i, v) ∈ mn_CT := by
  unfold mn_cst at h
  cases hf : mn_CT.find? (fun e => e.1 == o && e.2.1 == i) with
  | none => rw [hf] at h; cases h
  | some e =>
    rw [hf] at h
    have h1 := List.mem_of_find?_eq_some hf
    have h2 := List.find?_some hf
    obtain ⟨a, b, c⟩ := e
    simp at h2 h
    rw [h2.1, h2.2, h] at h1
    exact h1
theorem mn_cstl_of {o i : Nat} {v : Int64} (h : mn_cstl o i = some v) : (o, i, v) ∈ mn_CLT := by
  unfold mn_cstl at h
  cases hf : mn_CLT.find? (fun e => e.1 == o && e.2.1 == i) with
  | none => rw [hf] at h; cases h
  | some e =>
    rw [hf] at h
    have h1 := List.mem_of_find?_eq_some hf
    have h2 := List.find?_some hf
    obtain ⟨a, b, c⟩ := e
    simp at h2 h
    rw [h2.1, h2.2, h] at h1
    exact h1
theorem mn_val_set {ad : Nat → Nat} {f : Nat → Int32} {a ci n k : Nat} {x : Int32} {v : Value} (hk : k < n) (hv : mn_val ad (upd f k x) a ci k = v) (hr : ∀ j, j ≠ k → mn_isr ci j = true → mn_rf (upd f k x) a j = mn_rf f a j) : ((List.range n).map (mn_val ad f a ci)).set k v = (List.range n).map (mn_val ad (upd f k x) a ci) := by
  apply List.ext_getElem?
  intro j
  by_cases hj : j = k
  · subst hj
    rw [List.getElem?_set_self (by simpa using hk), List.getElem?_map, List.getElem?_range hk]
    simp [hv]
  · rw [List.getElem?_set_ne (Ne.symm hj), List.getElem?_map, List.getElem?_map]
    cases he : (List.range n)[j]? with
    | none => rfl
    | some i =>
      have hi : i = j := by
        have := (List.getElem?_eq_some_iff.mp he)
        obtain ⟨h1, h2⟩ := this
        simpa using h2.symm
      subst hi
      simp only [Option.map_some, Option.some.injEq]
      unfold mn_val
      by_cases hc : mn_isr ci i = true
      · rw [if_pos hc, if_pos hc, hr i hj hc]
      · rw [if_neg hc, if_neg hc]
        simp [upd, hj]
theorem mn_cell0 {cI cZ cO : ClassId} {ad : Nat → Nat} {f : Nat → Int32} {a ci : Nat} (hs : mn_sh a = (0, ci)) : mn_cell cI cZ cO ad f a = .inr (ci, (List.range (mn_nf ci)).map (mn_val ad f a ci)) := by
  unfold mn_cell; rw [hs]; rfl
theorem mn_cell1 {cI cZ cO : ClassId} {ad : Nat → Nat} {f : Nat → Int32} {a : Nat} (hs : (mn_sh a).1 = 1) : mn_cell cI cZ cO ad f a = .inl (cI, (mn_sh a).2, .inl f) := by
  unfold mn_cell; rw [if_neg (by rw [hs]; decide), if_pos hs]
theorem mn_cell2 {cI cZ cO : ClassId} {ad : Nat → Nat} {f : Nat → Int32} {a : Nat} (hs : (mn_sh a).1 = 2) : mn_cell cI cZ cO ad f a = .inl (cZ, (mn_sh a).2, .inl f) := by
  unfold mn_cell; rw [if_neg (by rw [hs]; decide), if_neg (by rw [hs]; decide), if_pos hs]
theorem mn_in_iff {i : Int32} {n : Nat} (h : mn_in i n = true) : vp_in i n := show ¬ (i < 0 ∨ n ≤ i.toNatClampNeg) from of_decide_eq_true h
theorem mn_nfw : nativeFrameWords "java/lang/System" "arraycopy" 5 + 11 ≤ 80 := by decide +kernel
theorem mn_up_self {h : mn_H} {a k : Nat} {x : Int32} : mn_up h a k x a = upd (h a) k x := by simp [mn_up]
theorem mn_up_ne {h : mn_H} {a b k : Nat} {x : Int32} (hb : b ≠ a) : mn_up h a k x b = h b := by simp [mn_up, hb]
section MNS
variable {D : va_G} {cI cZ cO : ClassId} {ad : Nat → Nat} {lo M : Nat}
variable {p : Program} {l : Launch} {e : Env} {s : State} {m : MethodId} {args : Array Value} {below : List Frame} {meth : Method} {c : Code} {Q : State → Prop}
/-- an own field is read -/
theorem mn_s_get {H : Heap} {locs : List Loc} {lsA : Array Slot} {h : mn_H} {ls st : List Value} {pc a i ci k : Nat} (C : mn_Cx D cI cZ cO ad lo M p s m args meth c) (S : mn_Sx D cI cZ cO ad lo M s H locs lsA h ls) (hd : decode (mC M) pc = .ok (.getfield i, 3)) (hf : mn_fl (mO M) i = some (ci, k)) (hs : mn_sh a = (0, ci)) (hci : ci < 9) (ha : a < 74) (hk : k < mn_nf ci)
    (kk : W p l e (mn_rm M) s m args below meth c H locs 0 0 Q (F0 m (pc + 3) lsA (mn_cv ad (mn_slot h a ci k) :: st))) : W p l e (mn_rm M) s m args below meth c H locs 0 0 Q (F0 m pc lsA (.ref (ad a) :: st)) := by
  obtain ⟨hx, hb, hr, hml, hown, hts, hlk, hK, hC, hM⟩ := C
  obtain ⟨hP, hD, hS, hl, hg⟩ := S
  obtain ⟨⟨C0, T0, N0⟩, q1, q2, q3, q4⟩ := mn_cl9 ci hci
  dsimp only at q2 q3 q4
  have hcv : mn_cv ad (mn_slot h a ci k) = mn_val ad (h a) a ci k := by
    unfold mn_slot mn_val
    by_cases hz : mn_isr ci k = true
    · rw [if_pos hz, if_pos hz]; rfl
    · rw [if_neg hz, if_neg hz]; rfl
  rw [hcv] at kk
  have hfl := hts _ (mn_wt mn_Gf (List.mem_map.mpr ⟨_, mn_fl_of hf, rfl⟩))
  dsimp only at hfl
  rw [q4 k] at hfl
  refine va_get (D := D) (cl := vwCl) (tys := mn_tys cI cZ cO) (ws := mn_ws cI cZ cO ad h) (C := C0) (T := T0) (N := N0) (ci := ci) (own := mn_cn (mO M)) hx hb hts (fun w hw => mn_wt mn_Gl (List.mem_flatMap.mpr ⟨_, List.mem_of_getElem? q1, hw⟩)) hown hK hP a (by rw [mn_ws_at ha, mn_cell0 hs]) q1 k (by rw [q2]; exact hk) hfl (fun x hx => ?_) (v := mn_val ad (h a) a ci k) ?_ hd kk
  · have := (mn_fTs ci hci k hk).1
    rw [q4 k] at this
    rw [this] at hx
    exact hx
  · rw [List.getElem?_map, List.getElem?_range hk]; rfl
/-- an own field is written -/
theorem mn_s_put {H : Heap} {locs : List Loc} {lsA : Array Slot} {h : mn_H} {ls st : List Value} {pc a i ci k : Nat} {v : Value} {x : Int32} (C : mn_Cx D cI cZ cO ad lo M p s m args meth c) (S : mn_Sx D cI cZ cO ad lo M s H locs lsA h ls) (hd : decode (mC M) pc = .ok (.putfield i, 3)) (hf : mn_fl (mO M) i = some (ci, k)) (hs : mn_sh a = (0, ci)) (hci : ci < 9) (ha : a < 74) (hk : k < mn_nf ci) (hfin : mn_fin ci k = false)
    {ty : FieldType} (hty : parseFieldDescriptor (mn_fT ci k).2.2.1 = some ty) (hn : narrow ty v = v) (hfit : fits ty v = true) (hv : mn_val ad (upd (h a) k x) a ci k = v) (hrf : ∀ j, j ≠ k → mn_isr ci j = true → mn_rf (upd (h a) k x) a j = mn_rf (h a) a j)
    (kk : ∀ (H1 : Heap) (locs1 : List Loc), mn_Sx D cI cZ cO ad lo M s H1 locs1 lsA (mn_up h a k x) ls → W p l e (mn_rm M) s m args below meth c H1 locs1 0 0 Q (F0 m (pc + 3) lsA st)) : W p l e (mn_rm M) s m args below meth c H locs 0 0 Q (F0 m pc lsA (v :: .ref (ad a) :: st)) := by
  obtain ⟨hx, hb, hr, hml, hown, hts, hlk, hK, hC, hM⟩ := C
  obtain ⟨hP, hD, hS, hl, hg⟩ := S
  obtain ⟨⟨C0, T0, N0⟩, q1, q2, q3, q4⟩ := mn_cl9 ci hci
  obtain ⟨ty0, t1, t2⟩ := mn_tyX ci hci _ q1
  dsimp only at q2 q3 q4 t1 t2
  have hfl := hts _ (mn_wt mn_Gf (List.mem_map.mpr ⟨_, mn_fl_of hf, rfl⟩))
  dsimp only at hfl
  rw [q4 k] at hfl hty
  have hset : (mn_ws cI cZ cO ad h).set a (ad a, .inr (ci, ((List.range (mn_nf ci)).map (mn_val ad (h a) a ci)).set k v)) = mn_ws cI cZ cO ad (mn_up h a k x) := by
    refine mn_ws_set ha ?_ (fun b hb => mn_up_ne hb)
    rw [mn_up_self, mn_cell0 hs, mn_val_set hk hv hrf]
  refine va_put (D := D) (cl := vwCl) (tys := mn_tys cI cZ cO) (ws := mn_ws cI cZ cO ad h) (C := C0) (T := T0) (N := N0) (ci := ci) (own := mn_cn (mO M)) hx hb hts (fun w hw => mn_wt mn_Gl (List.mem_flatMap.mpr ⟨_, List.mem_of_getElem? q1, hw⟩)) ty0 t1 t2 hown hK hP hD hS a (by rw [mn_ws_at ha, mn_cell0 hs]) q1 k (by rw [q2]; exact hk) hfl (fun y hy => ?_) ?_ (ty := ty) hty hn hfit (by simpa using hk) hd (fun H1 locs1 p1 p2 p3 => kk H1 locs1 ⟨?_, ?_, p3, hl, hg⟩)
  · have := (mn_fTs ci hci k hk).1
    rw [q4 k] at this
    rw [this] at hy
    exact hy
  · have := (mn_fTs ci hci k hk).2
    rw [q4 k] at this
    rw [this]; exact hfin
  · rw [hset] at p1; exact p1
  · exact mn_ws_D hD
end MNS
end
section
theorem mn_go_inj {pc pc' : Nat} {ls st ls' st' : List Value} {h h' : mn_H} (e : mn_go pc ls st h = some (.inl (pc', ls', st', h'))) : pc = pc' ∧ ls = ls' ∧ st = st' ∧ h = h' := by
  unfold mn_go at e
  cases e
  exact ⟨rfl, rfl, rfl, rfl⟩
theorem mn_il_inv {pc i pc' : Nat} {ls st ls' st' : List Value} {h h' : mn_H} (e : mn_il pc ls st h i = some (.inl (pc', ls', st', h'))) : ∃ x, ls[i]? = some (.int x) ∧ pc = pc' ∧ ls = ls' ∧ .int x :: st = st' ∧ h = h' := by
  unfold mn_il at e
  split at e
  · next x hx => exact ⟨x, hx, mn_go_inj e⟩
  · cases e
theorem mn_ll_inv {pc i pc' : Nat} {ls st ls' st' : List Value} {h h' : mn_H} (e : mn_ll pc ls st h i = some (.inl (pc', ls', st', h'))) : ∃ x, ls[i]? = some (.long x) ∧ pc = pc' ∧ ls = ls' ∧ .long x :: st = st' ∧ h = h' := by
  unfold mn_ll at e
  split at e
  · next x hx => exact ⟨x, hx, mn_go_inj e⟩
  · cases e
theorem mn_al_inv {pc i pc' : Nat} {ls st ls' st' : List Value} {h h' : mn_H} (e : mn_al pc ls st h i = some (.inl (pc', ls', st', h'))) : ∃ x, ls[i]? = some (.ref x) ∧ pc = pc' ∧ ls = ls' ∧ .ref x :: st = st' ∧ h = h' := by
  unfold mn_al at e
  split at e
  · next x hx => exact ⟨x, hx, mn_go_inj e⟩
  · cases e
theorem mn_is_inv {M pc i pc' : Nat} {ls st ls' st' : List Value} {h h' : mn_H} (e : mn_is M pc ls st h i = some (.inl (pc', ls', st', h'))) : ∃ x, st = .int x :: st' ∧ mn_so M i ls = true ∧ pc = pc' ∧ ls.set i (.int x) = ls' ∧ h = h' := by
  unfold mn_is at e
  split at e
  · next x st0 =>
    obtain ⟨e1, e2⟩ := mn_ifn e
    obtain ⟨a, b, c, d⟩ := mn_go_inj e2
    exact ⟨x, by rw [c], e1, a, b, d⟩
  · cases e
theorem mn_as_inv {M pc i pc' : Nat} {ls st ls' st' : List Value} {h h' : mn_H} (e : mn_as M pc ls st h i = some (.inl (pc', ls', st', h'))) : ∃ x, st = .ref x :: st' ∧ mn_so M i ls = true ∧ pc = pc' ∧ ls.set i (.ref x) = ls' ∧ h = h' := by
  unfold mn_as at e
  split at e
  · next x st0 =>
    obtain ⟨e1, e2⟩ := mn_ifn e
    obtain ⟨a, b, c, d⟩ := mn_go_inj e2
    exact ⟨x, by rw [c], e1, a, b, d⟩
  · cases e
theorem mn_ls_inv {M pc i pc' : Nat} {ls st ls' st' : List Value} {h h' : mn_H} (e : mn_ls M pc ls st h i = some (.inl (pc', ls', st', h'))) : ∃ x, st = .long x :: st' ∧ mn_so2 M i ls = true ∧ pc = pc' ∧ ls.set i (.long x) = ls' ∧ h = h' := by
  unfold mn_ls at e
  split at e
  · next x st0 =>
    obtain ⟨e1, e2⟩ := mn_ifn e
    obtain ⟨a, b, c, d⟩ := mn_go_inj e2
    exact ⟨x, by rw [c], e1, a, b, d⟩
  · cases e
theorem mn_i2_inv {pc pc' : Nat} {ls st ls' st' : List Value} {h h' : mn_H} {f : Int32 → Int32 → Int32} (e : mn_i2 pc ls st h f = some (.inl (pc', ls', st', h'))) : ∃ x y st0, st = .int y :: .int x :: st0 ∧ pc = pc' ∧ ls = ls' ∧ .int (f x y) :: st0 = st' ∧ h = h' := by
  unfold mn_i2 at e
  split at e
  · next y x st0 => exact ⟨x, y, st0, rfl, mn_go_inj e⟩
  · cases e
theorem mn_l2_inv {pc pc' : Nat} {ls st ls' st' : List Value} {h h' : mn_H} {f : Int64 → Int64 → Int64} (e : mn_l2 pc ls st h f = some (.inl (pc', ls', st', h'))) : ∃ x y st0, st = .long y :: .long x :: st0 ∧ pc = pc' ∧ ls = ls' ∧ .long (f x y) :: st0 = st' ∧ h = h' := by
  unfold mn_l2 at e
  split at e
  · next y x st0 => exact ⟨x, y, st0, rfl, mn_go_inj e⟩
  · cases e
theorem mn_ls2_inv {pc pc' : Nat} {ls st ls' st' : List Value} {h h' : mn_H} {f : Int64 → Int32 → Int64} (e : mn_ls2 pc ls st h f = some (.inl (pc', ls', st', h'))) : ∃ x y st0, st = .int y :: .long x :: st0 ∧ pc = pc' ∧ ls = ls' ∧ .long (f x y) :: st0 = st' ∧ h = h' := by
  unfold mn_ls2 at e
  split at e
  · next y x st0 => exact ⟨x, y, st0, rfl, mn_go_inj e⟩
  · cases e
theorem mn_i1_inv {pc pc' : Nat} {ls st ls' st' : List Value} {h h' : mn_H} {f : Int32 → Int32} (e : mn_i1 pc ls st h f = some (.inl (pc', ls', st', h'))) : ∃ x st0, st = .int x :: st0 ∧ pc = pc' ∧ ls = ls' ∧ .int (f x) :: st0 = st' ∧ h = h' := by
  unfold mn_i1 at e
  split at e
  · next x st0 => exact ⟨x, st0, rfl, mn_go_inj e⟩
  · cases e
theorem mn_jmp_inv {pc pc' : Nat} {off : Int} {ls st ls' st' : List Value} {h h' : mn_H} (e : mn_jmp pc off ls st h = some (.inl (pc', ls', st', h'))) : (pc : Int) + off = (pc' : Int) ∧ ls = ls' ∧ st = st' ∧ h = h' := by
  unfold mn_jmp at e
  obtain ⟨e1, e2⟩ := mn_ifn e
  obtain ⟨a, b, c, d⟩ := mn_go_inj e2
  exact ⟨by omega, b, c, d⟩
theorem mn_csta_no {M pc C : Nat} {st : List Value} {q : mn_S} (e : mn_csta M pc C st = some (.inl q)) : False := by
  unfold mn_csta at e
  obtain ⟨-, e2⟩ := mn_ifn e
  cases e2
theorem mn_virt_no {M o pc i : Nat} {ls st : List Value} {h : mn_H} {q : mn_S} (e : mn_virt M o pc ls st h i = some (.inl q)) : False := by
  unfold mn_virt at e
  split at e
  · split at e
    · obtain ⟨-, e2⟩ := mn_ifn e
      cases e2
    · cases e
  · cases e
theorem mn_sh9 : ∀ a, a < 77 → mn_sh a = (0, 9) → a = 75 := by decide +kernel
section MNS
variable {D : va_G} {cI cZ cO : ClassId} {ad : Nat → Nat} {lo M : Nat}
variable {p : Program} {l : Launch} {e : Env} {s : State} {m : MethodId} {args : Array Value} {below : List Frame} {meth : Method} {c : Code} {Q : State → Prop}
theorem mn_sG {H : Heap} {locs : List Loc} {lsA : Array Slot} {h : mn_H} {ls : List Value} (S : mn_Sx D cI cZ cO ad lo M s H locs lsA h ls) : mn_Sx D cI cZ cO ad lo M s H locs lsA h ls := S
/-- a store of one slot -/
theorem mn_sS {H : Heap} {locs : List Loc} {lsA lsB : Array Slot} {h : mn_H} {ls : List Value} {i : Nat} {x : Value} (S : mn_Sx D cI cZ cO ad lo M s H locs lsA h ls) (hs : mn_so M i ls = true) (hc : x.category = 1) (hl : lv_has lsB (mL M) ((i, mn_cv ad x) :: (mn_lv ad ls).filter (fun q => !(q.1 == i) && !(q.1 + 1 == i && q.2.category == 2)))) : mn_Sx D cI cZ cO ad lo M s H locs lsB h (ls.set i x) :=
  ⟨S.1, S.2.1, S.2.2.1, mn_lvsub hl (mn_lv1 S.2.2.2.2 hs), mn_g1 S.2.2.2.2 hs hc⟩
theorem mn_sS2 {H : Heap} {locs : List Loc} {lsA lsB : Array Slot} {h : mn_H} {ls : List Value} {i : Nat} {x : Value} (S : mn_Sx D cI cZ cO ad lo M s H locs lsA h ls) (hs : mn_so2 M i ls = true) (hl : lv_has lsB (mL M) ((i, mn_cv ad x) :: (mn_lv ad ls).filter (fun q => !(q.1 == i) && (!(q.1 == i + 1) && !(q.1 + 1 == i && q.2.category == 2))))) : mn_Sx D cI cZ cO ad lo M s H locs lsB h (ls.set i x) :=
  ⟨S.1, S.2.1, S.2.2.1, mn_lvsub hl (mn_lv2 S.2.2.2.2 hs), mn_g2 S.2.2.2.2 hs⟩
theorem mn_lvk {ls : List Value} {i : Nat} {v : Value} (hv : ls[i]? = some v) (hn : mn_isn v = false) : ∃ k : Nat, (mn_lv ad ls)[k]? = some (i, mn_cv ad v) := by
  have := mn_lv_mem (ad := ad) (ls := ls) (q := (i, mn_cv ad v)) |>.mpr ⟨v, hv, hn, rfl⟩
  exact List.getElem?_of_mem this
theorem mn_s_getfield {H : Heap} {locs : List Loc} {lsA : Array Slot} {h h1 : mn_H} {ls st ls' st' : List Value} {pc pc' i : Nat} (C : mn_Cx D cI cZ cO ad lo M p s m args meth c) (S : mn_Sx D cI cZ cO ad lo M s H locs lsA h ls) (hd : decode (mC M) pc = .ok (.getfield i, 3)) (hs : mn_get (mO M) (pc + 3) ls st h i = some (.inl (pc', ls', st', h1)))
    (kk : ∀ (H1 : Heap) (locs1 : List Loc) (lsB : Array Slot), mn_Sx D cI cZ cO ad lo M s H1 locs1 lsB h1 ls' → W p l e (mn_rm M) s m args below meth c H1 locs1 0 0 Q (F0 m pc' lsB (st'.map (mn_cv ad)))) : W p l e (mn_rm M) s m args below meth c H locs 0 0 Q (F0 m pc lsA (st.map (mn_cv ad))) := by
  unfold mn_get at hs
  split at hs
  · next a st0 ci k hf =>
    obtain ⟨hsh, hs⟩ := mn_ifn hs
    by_cases h9 : ci = 9
    · subst h9
      rw [if_pos rfl] at hs
      obtain ⟨rfl, rfl, rfl, rfl⟩ := mn_go_inj hs
      have hK := kk H locs lsA S
      obtain ⟨hx, hb, hr, hml, hown, hts, hlk, hKK, hC, hM⟩ := C
      obtain ⟨hP, hD, hS, hl, hg⟩ := S
      obtain ⟨c1, c2, c3, c4, c5, c6, c7, c8, c9⟩ := hC
      have ha : a = 75 := by
        have h77 : a < 77 := by
          rcases Nat.lt_or_ge a 77 with hn | hn
          · exact hn
          have : mn_sh a = (9, 9) := by
            unfold mn_sh
            rw [List.getD_eq_getElem?_getD, List.getElem?_eq_none (show mn_shL.length ≤ a from hn)]
            rfl
          rw [this] at hsh; cases hsh
        exact mn_sh9 a h77 hsh
      subst ha
      have hfl := hts _ (mn_wt mn_Gf (List.mem_map.mpr ⟨_, mn_fl_of hf, rfl⟩))
      dsimp only at hfl
      by_cases hk : k = 0
      · subst hk
        exact vk_getf hx hb c7 hS hown hfl (fun _ q => q) hd hK
      · rw [if_neg hk] at hK
        have e1 : mn_fT 9 k = ("java/lang/String", "coder", "B", true) := by
          unfold mn_fT
          rw [if_pos rfl, if_neg hk]
        rw [e1] at hfl
        exact vk_getf hx hb c6 hS hown hfl (fun _ q => q) hd hK
    · rw [if_neg h9] at hs
      obtain ⟨⟨ha, hk⟩, hs⟩ := mn_ifn hs
      obtain ⟨rfl, rfl, rfl, rfl⟩ := mn_go_inj hs
      have hci : ci < 9 := by
        apply Classical.byContradiction
        intro hn
        have : mn_nf ci = 0 := by
          unfold mn_nf
          rw [List.getD_eq_getElem?_getD, List.getElem?_eq_none (show mn_nfL.length ≤ ci from by rw [show mn_nfL.length = 9 from rfl]; omega)]
          rfl
        omega
      exact mn_s_get C S hd hf hsh hci ha hk (kk H locs lsA S)
  · cases hs
end MNS
end
section
section MNS
variable {D : va_G} {cI cZ cO : ClassId} {ad : Nat → Nat} {lo M : Nat}
variable {p : Program} {l : Launch} {e : Env} {s : State} {m : MethodId} {args : Array Value} {below : List Frame} {meth : Method} {c : Code} {Q : State → Prop}
variable {H : Heap} {locs : List Loc} {lsA : Array Slot} {h h1 : mn_H} {ls st ls' st' : List Value} {pc pc' : Nat}
theorem mn_s_putfield {i : Nat} (C : mn_Cx D cI cZ cO ad lo M p s m args meth c) (S : mn_Sx D cI cZ cO ad lo M s H locs lsA h ls) (hd : decode (mC M) pc = .ok (.putfield i, 3)) (hs : mn_put (mO M) (pc + 3) ls st h i = some (.inl (pc', ls', st', h1)))
    (kk : ∀ (H1 : Heap) (locs1 : List Loc) (lsB : Array Slot), mn_Sx D cI cZ cO ad lo M s H1 locs1 lsB h1 ls' → W p l e (mn_rm M) s m args below meth c H1 locs1 0 0 Q (F0 m pc' lsB (st'.map (mn_cv ad)))) : W p l e (mn_rm M) s m args below meth c H locs 0 0 Q (F0 m pc lsA (st.map (mn_cv ad))) := by
  unfold mn_put at hs
  split at hs
  · next v a st0 ci k hf =>
    obtain ⟨⟨hsh, hci, ha, hk⟩, hs⟩ := mn_ifn hs
    cases v with
    | int x =>
      dsimp only at hs
      obtain ⟨⟨hr, hz, hfin⟩, hs⟩ := mn_ifn hs
      obtain ⟨rfl, rfl, rfl, rfl⟩ := mn_go_inj hs
      have hrf : ∀ j, j ≠ k → mn_isr ci j = true → mn_rf (upd (h a) k x) a j = mn_rf (h a) a j := by
        intro j hj _
        unfold mn_rf
        simp [upd, hj]
      have hv : mn_val ad (upd (h a) k x) a ci k = .int x := by
        unfold mn_val
        rw [if_neg (by rw [hr]; decide)]
        simp [upd]
      rcases mn_fTt ci hci k hk with h0 | ⟨h0, -⟩ | ⟨h0, h7⟩
      · rw [hr] at h0; cases h0
      · exact mn_s_put C S hd hf hsh hci ha hk hfin h0 rfl rfl hv hrf (fun H1 locs1 S1 => kk H1 locs1 lsA S1)
      · have hx : x = 0 ∨ x = 1 := hz.resolve_left (fun q => q h7)
        rcases hx with rfl | rfl
        · exact mn_s_put C S hd hf hsh hci ha hk hfin h0 rfl rfl hv hrf (fun H1 locs1 S1 => kk H1 locs1 lsA S1)
        · exact mn_s_put C S hd hf hsh hci ha hk hfin h0 rfl rfl hv hrf (fun H1 locs1 S1 => kk H1 locs1 lsA S1)
    | ref b =>
      dsimp only at hs
      obtain ⟨⟨ha0, hk6, hb⟩, hs⟩ := mn_ifn hs
      obtain ⟨rfl, rfl, rfl, rfl⟩ := mn_go_inj hs
      subst ha0
      have hci7 : ci = 7 := by
        have : mn_sh 0 = (0, 7) := rfl
        rw [this] at hsh
        cases hsh; rfl
      subst hci7
      have hk8 : k < 8 := hk
      have hb74 : b < 2 ^ 31 := by rcases hb with hb | hb <;> (rw [hb]; decide)
      have hrf : ∀ j, j ≠ k → mn_isr 7 j = true → mn_rf (upd (h 0) k (nI b)) 0 j = mn_rf (h 0) 0 j := by
        intro j hj _
        unfold mn_rf
        simp [upd, hj]
      have hv : mn_val ad (upd (h 0) k (nI b)) 0 7 k = .ref (ad b) := by
        have : k = 6 ∨ k = 7 := by omega
        have hi : mn_isr 7 k = true := by rcases this with rfl | rfl <;> rfl
        unfold mn_val
        rw [if_pos hi]
        unfold mn_rf
        rw [if_pos ⟨rfl, hk6⟩]
        simp [upd, nI_clamp hb74]
      have : k = 6 ∨ k = 7 := by omega
      rcases this with rfl | rfl
      · exact mn_s_put C S hd hf hsh hci ha hk rfl (ty := .object "TomorrowBells$Town") (by decide +kernel) rfl rfl hv hrf (fun H1 locs1 S1 => kk H1 locs1 lsA S1)
      · exact mn_s_put C S hd hf hsh hci ha hk rfl (ty := .object "TomorrowBells$Town") (by decide +kernel) rfl rfl hv hrf (fun H1 locs1 S1 => kk H1 locs1 lsA S1)
    | _ => cases hs
  · cases hs
theorem mn_s_iast (C : mn_Cx D cI cZ cO ad lo M p s m args meth c) (S : mn_Sx D cI cZ cO ad lo M s H locs lsA h ls) (hd : decode (mC M) pc = .ok (.iastore, 1)) (hs : mn_iast (pc + 1) ls st h = some (.inl (pc', ls', st', h1)))
    (kk : ∀ (H1 : Heap) (locs1 : List Loc) (lsB : Array Slot), mn_Sx D cI cZ cO ad lo M s H1 locs1 lsB h1 ls' → W p l e (mn_rm M) s m args below meth c H1 locs1 0 0 Q (F0 m pc' lsB (st'.map (mn_cv ad)))) : W p l e (mn_rm M) s m args below meth c H locs 0 0 Q (F0 m pc lsA (st.map (mn_cv ad))) := by
  unfold mn_iast at hs
  split at hs
  · next x i a st0 =>
    obtain ⟨⟨ha, hsh, hin⟩, hs⟩ := mn_ifn hs
    obtain ⟨rfl, rfl, rfl, rfl⟩ := mn_go_inj hs
    obtain ⟨hx, hb, hr, hml, hown, hts, hlk, hKK, hC, hM⟩ := C
    obtain ⟨hP, hD, hS, hl, hg⟩ := S
    refine va_iast (x := x) hx hb hKK hP hD hS a 0 (n := (mn_sh a).2) (f := h a) (by rw [mn_ws_at ha, mn_cell1 hsh]) rfl (mn_in_iff hin) hd (fun H1 locs1 p1 p2 p3 => kk H1 locs1 lsA ⟨?_, mn_ws_D hD, p3, hl, hg⟩)
    rw [mn_ws_set (h1 := mn_up h a i.toNatClampNeg x) ha (by rw [mn_up_self, mn_cell1 hsh]) (fun b hb => mn_up_ne hb)] at p1
    exact p1
  · cases hs
theorem mn_nar01 {x : Int32} (hx : x = 0 ∨ x = 1) : vp_nar .boolean x = x := by
  rcases hx with rfl | rfl <;> decide +kernel
theorem mn_s_bast (C : mn_Cx D cI cZ cO ad lo M p s m args meth c) (S : mn_Sx D cI cZ cO ad lo M s H locs lsA h ls) (hd : decode (mC M) pc = .ok (.bastore, 1)) (hs : mn_bast (pc + 1) ls st h = some (.inl (pc', ls', st', h1)))
    (kk : ∀ (H1 : Heap) (locs1 : List Loc) (lsB : Array Slot), mn_Sx D cI cZ cO ad lo M s H1 locs1 lsB h1 ls' → W p l e (mn_rm M) s m args below meth c H1 locs1 0 0 Q (F0 m pc' lsB (st'.map (mn_cv ad)))) : W p l e (mn_rm M) s m args below meth c H locs 0 0 Q (F0 m pc lsA (st.map (mn_cv ad))) := by
  unfold mn_bast at hs
  split at hs
  · next x i a st0 =>
    obtain ⟨⟨ha, hsh, hin, hz⟩, hs⟩ := mn_ifn hs
    obtain ⟨rfl, rfl, rfl, rfl⟩ := mn_go_inj hs
    obtain ⟨hx, hb, hr, hml, hown, hts, hlk, hKK, hC, hM⟩ := C
    obtain ⟨hP, hD, hS, hl, hg⟩ := S
    refine va_zast (x := x) hx hb hKK hP hD hS a 1 (n := (mn_sh a).2) (f := h a) (by rw [mn_ws_at ha, mn_cell2 hsh]) rfl (mn_in_iff hin) hd (fun H1 locs1 p1 p2 p3 => kk H1 locs1 lsA ⟨?_, mn_ws_D hD, p3, hl, hg⟩)
    rw [mn_nar01 hz, mn_ws_set (h1 := mn_up h a i.toNatClampNeg x) ha (by rw [mn_up_self, mn_cell2 hsh]) (fun b hb => mn_up_ne hb)] at p1
    exact p1
  · cases hs
theorem mn_s_iald (C : mn_Cx D cI cZ cO ad lo M p s m args meth c) (S : mn_Sx D cI cZ cO ad lo M s H locs lsA h ls) (hd : decode (mC M) pc = .ok (.iaload, 1)) (hs : mn_iald (pc + 1) ls st h = some (.inl (pc', ls', st', h1)))
    (kk : ∀ (H1 : Heap) (locs1 : List Loc) (lsB : Array Slot), mn_Sx D cI cZ cO ad lo M s H1 locs1 lsB h1 ls' → W p l e (mn_rm M) s m args below meth c H1 locs1 0 0 Q (F0 m pc' lsB (st'.map (mn_cv ad)))) : W p l e (mn_rm M) s m args below meth c H locs 0 0 Q (F0 m pc lsA (st.map (mn_cv ad))) := by
  unfold mn_iald at hs
  split at hs
  · next i a st0 =>
    obtain ⟨⟨ha, hsh, hin⟩, hs⟩ := mn_ifn hs
    obtain ⟨rfl, rfl, rfl, rfl⟩ := mn_go_inj hs
    have hK := kk H locs lsA S
    obtain ⟨hx, hb, hr, hml, hown, hts, hlk, hKK, hC, hM⟩ := C
    obtain ⟨hP, hD, hS, hl, hg⟩ := S
    exact va_iald hx hb hKK hP a 0 (n := (mn_sh a).2) (f := h a) (by rw [mn_ws_at ha, mn_cell1 hsh]) rfl (mn_in_iff hin) hd hK
  · cases hs
theorem mn_s_bald (C : mn_Cx D cI cZ cO ad lo M p s m args meth c) (S : mn_Sx D cI cZ cO ad lo M s H locs lsA h ls) (hd : decode (mC M) pc = .ok (.baload, 1)) (hs : mn_bald (pc + 1) ls st h = some (.inl (pc', ls', st', h1)))
    (kk : ∀ (H1 : Heap) (locs1 : List Loc) (lsB : Array Slot), mn_Sx D cI cZ cO ad lo M s H1 locs1 lsB h1 ls' → W p l e (mn_rm M) s m args below meth c H1 locs1 0 0 Q (F0 m pc' lsB (st'.map (mn_cv ad)))) : W p l e (mn_rm M) s m args below meth c H locs 0 0 Q (F0 m pc lsA (st.map (mn_cv ad))) := by
  unfold mn_bald at hs
  split at hs
  · next i a st0 =>
    by_cases h2 : a < 74 ∧ (mn_sh a).1 = 2 ∧ mn_in i (mn_sh a).2 = true
    · rw [if_pos h2] at hs
      obtain ⟨ha, hsh, hin⟩ := h2
      obtain ⟨rfl, rfl, rfl, rfl⟩ := mn_go_inj hs
      have hK := kk H locs lsA S
      obtain ⟨hx, hb, hr, hml, hown, hts, hlk, hKK, hC, hM⟩ := C
      obtain ⟨hP, hD, hS, hl, hg⟩ := S
      exact va_zald hx hb hKK hP a 1 (n := (mn_sh a).2) (f := h a) (by rw [mn_ws_at ha, mn_cell2 hsh]) rfl (mn_in_iff hin) hd hK
    · rw [if_neg h2] at hs
      obtain ⟨⟨ha, hin⟩, hs2⟩ := mn_ifn hs
      obtain ⟨rfl, rfl, rfl, rfl⟩ := mn_go_inj hs2
      clear hs hs2
      subst ha
      have hK := kk H locs lsA S
      obtain ⟨hx, hb, hr, hml, hown, hts, hlk, hKK, hC, hM⟩ := C
      obtain ⟨hP, hD, hS, hl, hg⟩ := S
      obtain ⟨c1, c2, c3, c4, c5, c6, c7, c8, c9⟩ := hC
      exact va_tb hx hb c8 hS (mn_in_iff hin) rfl hd hK
  · cases hs
theorem mn_s_lald (C : mn_Cx D cI cZ cO ad lo M p s m args meth c) (S : mn_Sx D cI cZ cO ad lo M s H locs lsA h ls) (hd : decode (mC M) pc = .ok (.laload, 1)) (hs : mn_lald (pc + 1) ls st h = some (.inl (pc', ls', st', h1)))
    (kk : ∀ (H1 : Heap) (locs1 : List Loc) (lsB : Array Slot), mn_Sx D cI cZ cO ad lo M s H1 locs1 lsB h1 ls' → W p l e (mn_rm M) s m args below meth c H1 locs1 0 0 Q (F0 m pc' lsB (st'.map (mn_cv ad)))) : W p l e (mn_rm M) s m args below meth c H locs 0 0 Q (F0 m pc lsA (st.map (mn_cv ad))) := by
  unfold mn_lald at hs
  split at hs
  · next i a st0 =>
    obtain ⟨⟨ha, hin⟩, hs2⟩ := mn_ifn hs
    obtain ⟨rfl, rfl, rfl, rfl⟩ := mn_go_inj hs2
    clear hs hs2
    subst ha
    have hK := kk H locs lsA S
    obtain ⟨hx, hb, hr, hml, hown, hts, hlk, hKK, hC, hM⟩ := C
    obtain ⟨hP, hD, hS, hl, hg⟩ := S
    obtain ⟨c1, c2, c3, c4, c5, c6, c7, c8, c9⟩ := hC
    exact va_tl hx hb c2 hS (mn_in_iff hin) rfl hd hK
  · cases hs
theorem mn_s_aald (C : mn_Cx D cI cZ cO ad lo M p s m args meth c) (S : mn_Sx D cI cZ cO ad lo M s H locs lsA h ls) (hd : decode (mC M) pc = .ok (.aaload, 1)) (hs : mn_aald (pc + 1) ls st h = some (.inl (pc', ls', st', h1)))
    (kk : ∀ (H1 : Heap) (locs1 : List Loc) (lsB : Array Slot), mn_Sx D cI cZ cO ad lo M s H1 locs1 lsB h1 ls' → W p l e (mn_rm M) s m args below meth c H1 locs1 0 0 Q (F0 m pc' lsB (st'.map (mn_cv ad)))) : W p l e (mn_rm M) s m args below meth c H locs 0 0 Q (F0 m pc lsA (st.map (mn_cv ad))) := by
  unfold mn_aald at hs
  split at hs
  · next i a st0 =>
    obtain ⟨⟨ha, hin⟩, hs2⟩ := mn_ifn hs
    obtain ⟨rfl, rfl, rfl, rfl⟩ := mn_go_inj hs2
    clear hs hs2
    subst ha
    have hK := kk H locs lsA S
    obtain ⟨hx, hb, hr, hml, hown, hts, hlk, hKK, hC, hM⟩ := C
    obtain ⟨hP, hD, hS, hl, hg⟩ := S
    exact va_aldq hx hb hKK hP 9 2 (C := "TomorrowBells$Course") (n := 2) (f := fun i => some (ad (5 + 2 * i))) (by rw [mn_ws_at (by decide)]; rfl) rfl (mn_in_iff hin) hd hK
  · cases hs
theorem mn_s_alen (C : mn_Cx D cI cZ cO ad lo M p s m args meth c) (S : mn_Sx D cI cZ cO ad lo M s H locs lsA h ls) (hd : decode (mC M) pc = .ok (.arraylength, 1)) (hs : mn_alen (pc + 1) ls st h = some (.inl (pc', ls', st', h1)))
    (kk : ∀ (H1 : Heap) (locs1 : List Loc) (lsB : Array Slot), mn_Sx D cI cZ cO ad lo M s H1 locs1 lsB h1 ls' → W p l e (mn_rm M) s m args below meth c H1 locs1 0 0 Q (F0 m pc' lsB (st'.map (mn_cv ad)))) : W p l e (mn_rm M) s m args below meth c H locs 0 0 Q (F0 m pc lsA (st.map (mn_cv ad))) := by
  unfold mn_alen at hs
  split at hs
  · next a st0 =>
    obtain ⟨ha, hs⟩ := mn_ifn hs
    obtain ⟨rfl, rfl, rfl, rfl⟩ := mn_go_inj hs
    have hK := kk H locs lsA S
    obtain ⟨hx, hb, hr, hml, hown, hts, hlk, hKK, hC, hM⟩ := C
    obtain ⟨hP, hD, hS, hl, hg⟩ := S
    obtain ⟨c1, c2, c3, c4, c5, c6, c7, c8, c9⟩ := hC
    rcases ha with ⟨ha, hsh⟩ | rfl
    · exact va_alen hx hb hKK hP a 0 (x := ((mn_sh a).2, .inl (h a))) (by rw [mn_ws_at ha, mn_cell1 hsh]) rfl rfl hd hK
    · exact va_tlen hx hb c8 hS rfl hd hK
  · cases hs
theorem mn_s_math {i k : Nat} (C : mn_Cx D cI cZ cO ad lo M p s m args meth c) (S : mn_Sx D cI cZ cO ad lo M s H locs lsA h ls) (hd : decode (mC M) pc = .ok (.invokestatic i, 3)) (hm : mn_ma (mO M) i = some k) (hs : mn_math M pc k ls st h = some (.inl (pc', ls', st', h1)))
    (kk : ∀ (H1 : Heap) (locs1 : List Loc) (lsB : Array Slot), mn_Sx D cI cZ cO ad lo M s H1 locs1 lsB h1 ls' → W p l e (mn_rm M) s m args below meth c H1 locs1 0 0 Q (F0 m pc' lsB (st'.map (mn_cv ad)))) : W p l e (mn_rm M) s m args below meth c H locs 0 0 Q (F0 m pc lsA (st.map (mn_cv ad))) := by
  have hcat : ∀ v : List Value, ((v.map (mn_cv ad)).map fun v => v.category).sum = mn_cat v := by
    intro v
    unfold mn_cat
    rw [List.map_map]
    congr 1
    apply List.map_congr_left
    intro a _
    exact mn_cv_cat ad a
  unfold mn_math at hs
  split at hs
  · next y x st0 =>
    obtain ⟨⟨hf, hw⟩, hs⟩ := mn_ifn hs
    obtain ⟨rfl, rfl, rfl, rfl⟩ := mn_go_inj hs
    have hK := kk H locs lsA S
    obtain ⟨hx, hb, hr, hml, hown, hts, hlk, hKK, hC, hM⟩ := C
    obtain ⟨hP, hD, hS, hl, hg⟩ := S
    exact va_mmax hx hb (hml.trans hl.1.symm) hown (hts _ (mn_wt mn_Gh (List.mem_map.mpr ⟨_, mn_ma_of hm, rfl⟩))) (hts _ (mn_wt mn_Gj (List.mem_of_getElem? (i := 1) rfl))) (hts _ (mn_wt mn_Gz (List.mem_map.mpr ⟨13, by decide, rfl⟩))) (hts _ (mn_wt mn_Gj (List.mem_of_getElem? (i := 0) rfl))) hf (by rw [hcat]; exact hw) (Nat.zero_le _) (Nat.zero_le _) hd hK
  · next y x st0 =>
    obtain ⟨⟨hf, hw⟩, hs⟩ := mn_ifn hs
    obtain ⟨rfl, rfl, rfl, rfl⟩ := mn_go_inj hs
    have hK := kk H locs lsA S
    obtain ⟨hx, hb, hr, hml, hown, hts, hlk, hKK, hC, hM⟩ := C
    obtain ⟨hP, hD, hS, hl, hg⟩ := S
    exact va_mmin hx hb (hml.trans hl.1.symm) hown (hts _ (mn_wt mn_Gh (List.mem_map.mpr ⟨_, mn_ma_of hm, rfl⟩))) (hts _ (mn_wt mn_Gj (List.mem_of_getElem? (i := 3) rfl))) (hts _ (mn_wt mn_Gz (List.mem_map.mpr ⟨13, by decide, rfl⟩))) (hts _ (mn_wt mn_Gj (List.mem_of_getElem? (i := 2) rfl))) hf (by rw [hcat]; exact hw) (Nat.zero_le _) (Nat.zero_le _) hd hK
  · next x st0 =>
    obtain ⟨⟨hf, hw⟩, hs⟩ := mn_ifn hs
    obtain ⟨rfl, rfl, rfl, rfl⟩ := mn_go_inj hs
    have hK := kk H locs lsA S
    obtain ⟨hx, hb, hr, hml, hown, hts, hlk, hKK, hC, hM⟩ := C
    obtain ⟨hP, hD, hS, hl, hg⟩ := S
    exact va_mabs hx hb (hml.trans hl.1.symm) hown (hts _ (mn_wt mn_Gh (List.mem_map.mpr ⟨_, mn_ma_of hm, rfl⟩))) (hts _ (mn_wt mn_Gj (List.mem_of_getElem? (i := 5) rfl))) (hts _ (mn_wt mn_Gz (List.mem_map.mpr ⟨13, by decide, rfl⟩))) (hts _ (mn_wt mn_Gj (List.mem_of_getElem? (i := 4) rfl))) hf (by rw [hcat]; exact hw) (Nat.zero_le _) (Nat.zero_le _) hd hK
  · cases hs
theorem mn_s_acpy {i : Nat} (C : mn_Cx D cI cZ cO ad lo M p s m args meth c) (S : mn_Sx D cI cZ cO ad lo M s H locs lsA h ls) (hd : decode (mC M) pc = .ok (.invokestatic i, 3)) (hm : mO M = 1 ∧ i = 31) (hs : mn_acpy M pc ls st h = some (.inl (pc', ls', st', h1)))
    (kk : ∀ (H1 : Heap) (locs1 : List Loc) (lsB : Array Slot), mn_Sx D cI cZ cO ad lo M s H1 locs1 lsB h1 ls' → W p l e (mn_rm M) s m args below meth c H1 locs1 0 0 Q (F0 m pc' lsB (st'.map (mn_cv ad)))) : W p l e (mn_rm M) s m args below meth c H locs 0 0 Q (F0 m pc lsA (st.map (mn_cv ad))) := by
  have hcat : ∀ v : List Value, ((v.map (mn_cv ad)).map fun v => v.category).sum = mn_cat v := by
    intro v
    unfold mn_cat
    rw [List.map_map]
    congr 1
    apply List.map_congr_left
    intro a _
    exact mn_cv_cat ad a
  unfold mn_acpy at hs
  split at hs
  · next n dp b sp a st0 =>
    obtain ⟨⟨ha, hb', s1, s2, b1, b2, b3, b4, b5, hf, hw⟩, hs⟩ := mn_ifn hs
    obtain ⟨rfl, rfl, rfl, rfl⟩ := mn_go_inj hs
    obtain ⟨hx, hb, hr, hml, hown, hts, hlk, hKK, hC, hM⟩ := C
    obtain ⟨hP, hD, hS, hl, hg⟩ := S
    have ho : mn_cn (mO M) = "TomorrowBells$Course" := by rw [hm.1]; rfl
    rw [ho] at hown
    rw [hm.2] at hd
    refine va_copyi hx hb (hml.trans hl.1.symm) hown (hts _ (mn_wt mn_Gr (List.mem_of_getElem? (i := 2) rfl))) (hts _ (mn_wt mn_Gr (List.mem_of_getElem? (i := 3) rfl))) (hts _ (mn_wt mn_Gr (List.mem_of_getElem? (i := 4) rfl))) (hts _ (mn_wt mn_Gr (List.mem_of_getElem? (i := 5) rfl))) hKK hP hD hS a b 0 0 (n0 := (mn_sh a).2) (n1 := (mn_sh b).2) (f := h a) (g := h b) (ty := .int) (by rw [mn_ws_at ha, mn_cell1 s1]) (by rw [mn_ws_at hb', mn_cell1 s2]) rfl rfl rfl b1 b2 b3 b4 b5 (fun _ _ => rfl) hf (by rw [hcat]; exact Nat.le_trans (Nat.add_le_add_left mn_nfw _) hw) hd (fun H1 locs1 p1 p2 p3 => kk H1 locs1 lsA ⟨?_, mn_ws_D hD, p3, hl, hg⟩)
    rw [mn_ws_set (h1 := mn_set h b (va_cpy (h a) (h b) sp.toNatClampNeg dp.toNatClampNeg n.toNatClampNeg)) hb' (by simp only [mn_set, if_pos]; rw [mn_cell1 s2]) (fun q hq => by simp [mn_set, hq])] at p1
    exact p1
  · cases hs
end MNS
end
section
section MNS
variable {D : va_G} {cI cZ cO : ClassId} {ad : Nat → Nat} {lo M : Nat}
variable {p : Program} {l : Launch} {e : Env} {s : State} {m : MethodId} {args : Array Value} {below : List Frame} {meth : Method} {c : Code} {Q : State → Prop}
variable {H : Heap} {locs : List Loc} {lsA : Array Slot} {h h1 : mn_H} {ls st ls' st' : List Value} {pc pc' : Nat}
theorem mn_s_if {off : Int} {cd : Jvm.ClassFile.Cond} (C : mn_Cx D cI cZ cO ad lo M p s m args meth c) (S : mn_Sx D cI cZ cO ad lo M s H locs lsA h ls) (hd : decode (mC M) pc = .ok (.ifCond cd off, 3)) (hs : (match st with
    | .int x :: st => if 0 ≤ (pc : Int) + off then (if mn_cond cd x 0 = true then mn_go ((pc : Int) + off).toNat ls st h else mn_go (pc + 3) ls st h) else none
    | _ => none) = some (.inl (pc', ls', st', h1)))
    (kk : ∀ (H1 : Heap) (locs1 : List Loc) (lsB : Array Slot), mn_Sx D cI cZ cO ad lo M s H1 locs1 lsB h1 ls' → W p l e (mn_rm M) s m args below meth c H1 locs1 0 0 Q (F0 m pc' lsB (st'.map (mn_cv ad)))) : W p l e (mn_rm M) s m args below meth c H locs 0 0 Q (F0 m pc lsA (st.map (mn_cv ad))) := by
  have hx := C.1
  have hb := C.2.1
  split at hs
  · next x st0 =>
    replace hs := mn_ifn hs; obtain ⟨h0, hs⟩ := hs
    have ht : (pc : Int) + off = ((((pc : Int) + off).toNat : Nat) : Int) := by omega
    by_cases hz : mn_cond cd x 0 = true
    · rw [if_pos hz] at hs
      obtain ⟨rfl, rfl, rfl, rfl⟩ := mn_go_inj hs
      have K := kk H locs lsA S
      cases cd with
      | eq => exact lv_if_eq hx hb hd ht (fun _ => K) (fun q => absurd (of_decide_eq_true hz) q)
      | ne => exact lv_if_ne hx hb hd ht (fun _ => K) (fun q => absurd q (of_decide_eq_true hz))
      | lt => exact lv_if_lt hx hb hd ht (fun _ => K) (fun q => absurd (of_decide_eq_true hz) q)
      | ge => exact lv_if_ge hx hb hd ht (fun _ => K) (fun q => absurd (of_decide_eq_true hz) q)
      | gt => exact lv_if_gt hx hb hd ht (fun _ => K) (fun q => absurd (of_decide_eq_true hz) q)
      | le => exact lv_if_le hx hb hd ht (fun _ => K) (fun q => absurd (of_decide_eq_true hz) q)
    · rw [if_neg hz] at hs
      obtain ⟨rfl, rfl, rfl, rfl⟩ := mn_go_inj hs
      have K := kk H locs lsA S
      cases cd with
      | eq => exact lv_if_eq hx hb hd ht (fun q => absurd (decide_eq_true q) hz) (fun _ => K)
      | ne => exact lv_if_ne hx hb hd ht (fun q => absurd (decide_eq_true q) hz) (fun _ => K)
      | lt => exact lv_if_lt hx hb hd ht (fun q => absurd (decide_eq_true q) hz) (fun _ => K)
      | ge => exact lv_if_ge hx hb hd ht (fun q => absurd (decide_eq_true q) hz) (fun _ => K)
      | gt => exact lv_if_gt hx hb hd ht (fun q => absurd (decide_eq_true q) hz) (fun _ => K)
      | le => exact lv_if_le hx hb hd ht (fun q => absurd (decide_eq_true q) hz) (fun _ => K)
  · cases hs
theorem mn_s_icmp {off : Int} {cd : Jvm.ClassFile.Cond} (C : mn_Cx D cI cZ cO ad lo M p s m args meth c) (S : mn_Sx D cI cZ cO ad lo M s H locs lsA h ls) (hd : decode (mC M) pc = .ok (.if_icmp cd off, 3)) (hs : (match st with
    | .int y :: .int x :: st => if 0 ≤ (pc : Int) + off then (if mn_cond cd x y = true then mn_go ((pc : Int) + off).toNat ls st h else mn_go (pc + 3) ls st h) else none
    | _ => none) = some (.inl (pc', ls', st', h1)))
    (kk : ∀ (H1 : Heap) (locs1 : List Loc) (lsB : Array Slot), mn_Sx D cI cZ cO ad lo M s H1 locs1 lsB h1 ls' → W p l e (mn_rm M) s m args below meth c H1 locs1 0 0 Q (F0 m pc' lsB (st'.map (mn_cv ad)))) : W p l e (mn_rm M) s m args below meth c H locs 0 0 Q (F0 m pc lsA (st.map (mn_cv ad))) := by
  have hx := C.1
  have hb := C.2.1
  split at hs
  · next y x st0 =>
    replace hs := mn_ifn hs; obtain ⟨h0, hs⟩ := hs
    have ht : (pc : Int) + off = ((((pc : Int) + off).toNat : Nat) : Int) := by omega
    by_cases hz : mn_cond cd x y = true
    · rw [if_pos hz] at hs
      obtain ⟨rfl, rfl, rfl, rfl⟩ := mn_go_inj hs
      have K := kk H locs lsA S
      cases cd with
      | eq => exact lv_icmp_eq hx hb hd ht (fun _ => K) (fun q => absurd (of_decide_eq_true hz) q)
      | ne => exact lv_icmp_ne hx hb hd ht (fun _ => K) (fun q => absurd q (of_decide_eq_true hz))
      | lt => exact lv_icmp_lt hx hb hd ht (fun _ => K) (fun q => absurd (of_decide_eq_true hz) q)
      | ge => exact lv_icmp_ge hx hb hd ht (fun _ => K) (fun q => absurd (of_decide_eq_true hz) q)
      | gt => exact lv_icmp_gt hx hb hd ht (fun _ => K) (fun q => absurd (of_decide_eq_true hz) q)
      | le => exact lv_icmp_le hx hb hd ht (fun _ => K) (fun q => absurd (of_decide_eq_true hz) q)
    · rw [if_neg hz] at hs
      obtain ⟨rfl, rfl, rfl, rfl⟩ := mn_go_inj hs
      have K := kk H locs lsA S
      cases cd with
      | eq => exact lv_icmp_eq hx hb hd ht (fun q => absurd (decide_eq_true q) hz) (fun _ => K)
      | ne => exact lv_icmp_ne hx hb hd ht (fun q => absurd (decide_eq_true q) hz) (fun _ => K)
      | lt => exact lv_icmp_lt hx hb hd ht (fun q => absurd (decide_eq_true q) hz) (fun _ => K)
      | ge => exact lv_icmp_ge hx hb hd ht (fun q => absurd (decide_eq_true q) hz) (fun _ => K)
      | gt => exact lv_icmp_gt hx hb hd ht (fun q => absurd (decide_eq_true q) hz) (fun _ => K)
      | le => exact lv_icmp_le hx hb hd ht (fun q => absurd (decide_eq_true q) hz) (fun _ => K)
  · cases hs
set_option maxHeartbeats 4000000 in
theorem mn_s_go (C : mn_Cx D cI cZ cO ad lo M p s m args meth c) (S : mn_Sx D cI cZ cO ad lo M s H locs lsA h ls) (hs : mn_stp M pc ls st h = some (.inl (pc', ls', st', h1)))
    (kk : ∀ (H1 : Heap) (locs1 : List Loc) (lsB : Array Slot), mn_Sx D cI cZ cO ad lo M s H1 locs1 lsB h1 ls' → W p l e (mn_rm M) s m args below meth c H1 locs1 0 0 Q (F0 m pc' lsB (st'.map (mn_cv ad)))) : W p l e (mn_rm M) s m args below meth c H locs 0 0 Q (F0 m pc lsA (st.map (mn_cv ad))) := by
  unfold mn_stp at hs
  cases hd : decode (mC M) pc with
  | error x => rw [hd] at hs; cases hs
  | ok q =>
  obtain ⟨op, len⟩ := q
  rw [hd] at hs
  dsimp only at hs
  have hx := C.1
  have hb := C.2.1
  have hl := S.2.2.2.1
  cases op with
  | iconst n =>
    dsimp only [mn_op] at hs
    replace hs := mn_ifn hs; obtain ⟨hlen, hs⟩ := hs; subst hlen
    obtain ⟨rfl, rfl, rfl, rfl⟩ := mn_go_inj hs
    exact lv_iconst hx hb hd rfl (kk H locs lsA S)
  | bipush n =>
    dsimp only [mn_op] at hs
    replace hs := mn_ifn hs; obtain ⟨hlen, hs⟩ := hs; subst hlen
    obtain ⟨rfl, rfl, rfl, rfl⟩ := mn_go_inj hs
    exact lv_bipush hx hb hd rfl (kk H locs lsA S)
  | sipush n =>
    dsimp only [mn_op] at hs
    replace hs := mn_ifn hs; obtain ⟨hlen, hs⟩ := hs; subst hlen
    obtain ⟨rfl, rfl, rfl, rfl⟩ := mn_go_inj hs
    exact lv_sipush hx hb hd rfl (kk H locs lsA S)
  | lconst n =>
    dsimp only [mn_op] at hs
    replace hs := mn_ifn hs; obtain ⟨hlen, hs⟩ := hs; subst hlen
    obtain ⟨rfl, rfl, rfl, rfl⟩ := mn_go_inj hs
    exact lv_lconst hx hb hd rfl (kk H locs lsA S)
  | ldc i =>
    dsimp only [mn_op] at hs
    replace hs := mn_ifn hs; obtain ⟨hlen, hs⟩ := hs; subst hlen
    have hown := C.2.2.2.2.1
    have hts := C.2.2.2.2.2.1
    by_cases hz : mO M = 2 ∧ i = 118
    · rw [if_pos hz] at hs
      obtain ⟨rfl, rfl, rfl, rfl⟩ := mn_go_inj hs
      have ho : mn_cn (mO M) = "TomorrowBells$Reader" := by rw [hz.1]; rfl
      rw [ho] at hown
      rw [hz.2] at hd
      exact va_ldcS hx hb hown C.2.2.2.2.2.2.2.2.1.2.2.2.1 hd (kk H locs lsA S)
    · rw [if_neg hz] at hs
      split at hs
      · next v hv =>
        obtain ⟨rfl, rfl, rfl, rfl⟩ := mn_go_inj hs
        exact lv_ldc hx hb hown (hts _ (mn_wt mn_Gk (List.mem_map.mpr ⟨_, mn_cst_of hv, rfl⟩))) hd (kk H locs lsA S)
      · cases hs
  | ldc_w i =>
    dsimp only [mn_op] at hs
    replace hs := mn_ifn hs; obtain ⟨hlen, hs⟩ := hs; subst hlen
    have hown := C.2.2.2.2.1
    have hts := C.2.2.2.2.2.1
    split at hs
    · next v hv =>
      obtain ⟨rfl, rfl, rfl, rfl⟩ := mn_go_inj hs
      exact lv_ldcw hx hb hown (hts _ (mn_wt mn_Gk (List.mem_map.mpr ⟨_, mn_cst_of hv, rfl⟩))) hd (kk H locs lsA S)
    · cases hs
  | ldc2_w i =>
    dsimp only [mn_op] at hs
    replace hs := mn_ifn hs; obtain ⟨hlen, hs⟩ := hs; subst hlen
    have hown := C.2.2.2.2.1
    have hts := C.2.2.2.2.2.1
    split at hs
    · next v hv =>
      obtain ⟨rfl, rfl, rfl, rfl⟩ := mn_go_inj hs
      exact lv_ldc2 hx hb hown (hts _ (mn_wt mn_GK (List.mem_map.mpr ⟨_, mn_cstl_of hv, rfl⟩))) hd (kk H locs lsA S)
    · cases hs
  | iload_n k =>
    dsimp only [mn_op] at hs
    replace hs := mn_ifn hs; obtain ⟨hlen, hs⟩ := hs; subst hlen
    obtain ⟨x, hv, rfl, rfl, rfl, rfl⟩ := mn_il_inv hs
    exact lv_iload_n hx hb hd rfl (mn_at hl hv rfl) (kk H locs lsA S)
  | iload i =>
    dsimp only [mn_op] at hs
    replace hs := mn_ifn hs; obtain ⟨hlen, hs⟩ := hs; subst hlen
    obtain ⟨x, hv, rfl, rfl, rfl, rfl⟩ := mn_il_inv hs
    exact lv_iload hx hb hd (mn_at hl hv rfl) (kk H locs lsA S)
  | lload_n k =>
    dsimp only [mn_op] at hs
    replace hs := mn_ifn hs; obtain ⟨hlen, hs⟩ := hs; subst hlen
    obtain ⟨x, hv, rfl, rfl, rfl, rfl⟩ := mn_ll_inv hs
    exact lv_lload_n hx hb hd rfl (mn_at hl hv rfl) (kk H locs lsA S)
  | lload i =>
    dsimp only [mn_op] at hs
    replace hs := mn_ifn hs; obtain ⟨hlen, hs⟩ := hs; subst hlen
    obtain ⟨x, hv, rfl, rfl, rfl, rfl⟩ := mn_ll_inv hs
    exact lv_lload hx hb hd (mn_at hl hv rfl) (kk H locs lsA S)
  | aload_n k =>
    dsimp only [mn_op] at hs
    replace hs := mn_ifn hs; obtain ⟨hlen, hs⟩ := hs; subst hlen
    obtain ⟨x, hv, rfl, rfl, rfl, rfl⟩ := mn_al_inv hs
    exact lv_aload_n hx hb hd rfl (mn_at hl hv rfl) (kk H locs lsA S)
  | aload i =>
    dsimp only [mn_op] at hs
    replace hs := mn_ifn hs; obtain ⟨hlen, hs⟩ := hs; subst hlen
    obtain ⟨x, hv, rfl, rfl, rfl, rfl⟩ := mn_al_inv hs
    exact lv_aload hx hb hd (mn_at hl hv rfl) (kk H locs lsA S)
  | istore_n k =>
    dsimp only [mn_op] at hs
    replace hs := mn_ifn hs; obtain ⟨hlen, hs⟩ := hs; subst hlen
    obtain ⟨x, rfl, hz, rfl, rfl, rfl⟩ := mn_is_inv hs
    exact lv_istore_n hx hb hd rfl hl (mn_so_of hz).1 rfl (fun lsB hB => kk H locs lsB (mn_sS S hz rfl hB))
  | istore i =>
    dsimp only [mn_op] at hs
    replace hs := mn_ifn hs; obtain ⟨hlen, hs⟩ := hs; subst hlen
    obtain ⟨x, rfl, hz, rfl, rfl, rfl⟩ := mn_is_inv hs
    exact lv_istore hx hb hd hl (mn_so_of hz).1 rfl (fun lsB hB => kk H locs lsB (mn_sS S hz rfl hB))
  | astore_n k =>
    dsimp only [mn_op] at hs
    replace hs := mn_ifn hs; obtain ⟨hlen, hs⟩ := hs; subst hlen
    obtain ⟨x, rfl, hz, rfl, rfl, rfl⟩ := mn_as_inv hs
    exact lv_astore_n hx hb hd rfl hl (mn_so_of hz).1 rfl (fun lsB hB => kk H locs lsB (mn_sS S hz rfl hB))
  | astore i =>
    dsimp only [mn_op] at hs
    replace hs := mn_ifn hs; obtain ⟨hlen, hs⟩ := hs; subst hlen
    obtain ⟨x, rfl, hz, rfl, rfl, rfl⟩ := mn_as_inv hs
    exact lv_astore hx hb hd hl (mn_so_of hz).1 rfl (fun lsB hB => kk H locs lsB (mn_sS S hz rfl hB))
  | lstore_n k =>
    dsimp only [mn_op] at hs
    replace hs := mn_ifn hs; obtain ⟨hlen, hs⟩ := hs; subst hlen
    obtain ⟨x, rfl, hz, rfl, rfl, rfl⟩ := mn_ls_inv hs
    exact lv_lstore_n hx hb hd rfl hl (mn_so2_of hz).1 rfl (fun lsB hB => kk H locs lsB (mn_sS2 S hz hB))
  | lstore i =>
    dsimp only [mn_op] at hs
    replace hs := mn_ifn hs; obtain ⟨hlen, hs⟩ := hs; subst hlen
    obtain ⟨x, rfl, hz, rfl, rfl, rfl⟩ := mn_ls_inv hs
    exact lv_lstore hx hb hd hl (mn_so2_of hz).1 rfl (fun lsB hB => kk H locs lsB (mn_sS2 S hz hB))
  | iinc i n =>
    dsimp only [mn_op] at hs
    replace hs := mn_ifn hs; obtain ⟨hlen, hs⟩ := hs; subst hlen
    split at hs
    · next x hv =>
      replace hs := mn_ifn hs; obtain ⟨hz, hs⟩ := hs
      obtain ⟨rfl, rfl, rfl, rfl⟩ := mn_go_inj hs
      obtain ⟨k, hk⟩ := mn_lvk (ad := ad) hv rfl
      exact lv_iinc hx hb hd hl hk rfl (mn_so_of hz).1 rfl (fun lsB hB => kk H locs lsB (mn_sS S hz rfl hB))
    · cases hs
  | iadd =>
    dsimp only [mn_op] at hs
    replace hs := mn_ifn hs; obtain ⟨hlen, hs⟩ := hs; subst hlen
    obtain ⟨x, y, st0, rfl, rfl, rfl, rfl, rfl⟩ := mn_i2_inv hs
    exact lv_iadd hx hb hd (kk H locs lsA S)
  | isub =>
    dsimp only [mn_op] at hs
    replace hs := mn_ifn hs; obtain ⟨hlen, hs⟩ := hs; subst hlen
    obtain ⟨x, y, st0, rfl, rfl, rfl, rfl, rfl⟩ := mn_i2_inv hs
    exact lv_isub hx hb hd (kk H locs lsA S)
  | imul =>
    dsimp only [mn_op] at hs
    replace hs := mn_ifn hs; obtain ⟨hlen, hs⟩ := hs; subst hlen
    obtain ⟨x, y, st0, rfl, rfl, rfl, rfl, rfl⟩ := mn_i2_inv hs
    exact lv_imul hx hb hd (kk H locs lsA S)
  | iand =>
    dsimp only [mn_op] at hs
    replace hs := mn_ifn hs; obtain ⟨hlen, hs⟩ := hs; subst hlen
    obtain ⟨x, y, st0, rfl, rfl, rfl, rfl, rfl⟩ := mn_i2_inv hs
    exact lv_iand hx hb hd (kk H locs lsA S)
  | ior =>
    dsimp only [mn_op] at hs
    replace hs := mn_ifn hs; obtain ⟨hlen, hs⟩ := hs; subst hlen
    obtain ⟨x, y, st0, rfl, rfl, rfl, rfl, rfl⟩ := mn_i2_inv hs
    exact lv_ior hx hb hd (kk H locs lsA S)
  | ixor =>
    dsimp only [mn_op] at hs
    replace hs := mn_ifn hs; obtain ⟨hlen, hs⟩ := hs; subst hlen
    obtain ⟨x, y, st0, rfl, rfl, rfl, rfl, rfl⟩ := mn_i2_inv hs
    exact lv_ixor hx hb hd (kk H locs lsA S)
  | ishl =>
    dsimp only [mn_op] at hs
    replace hs := mn_ifn hs; obtain ⟨hlen, hs⟩ := hs; subst hlen
    obtain ⟨x, y, st0, rfl, rfl, rfl, rfl, rfl⟩ := mn_i2_inv hs
    exact lv_ishl hx hb hd (kk H locs lsA S)
  | ishr =>
    dsimp only [mn_op] at hs
    replace hs := mn_ifn hs; obtain ⟨hlen, hs⟩ := hs; subst hlen
    obtain ⟨x, y, st0, rfl, rfl, rfl, rfl, rfl⟩ := mn_i2_inv hs
    exact lv_ishr hx hb hd (kk H locs lsA S)
  | iushr =>
    dsimp only [mn_op] at hs
    replace hs := mn_ifn hs; obtain ⟨hlen, hs⟩ := hs; subst hlen
    obtain ⟨x, y, st0, rfl, rfl, rfl, rfl, rfl⟩ := mn_i2_inv hs
    exact lv_iushr hx hb hd rfl (kk H locs lsA S)
  | idiv =>
    dsimp only [mn_op] at hs
    replace hs := mn_ifn hs; obtain ⟨hlen, hs⟩ := hs; subst hlen
    split at hs
    · next y x st0 =>
      by_cases hy : y = 0
      · rw [if_pos hy] at hs; cases hs
      · rw [if_neg hy] at hs
        obtain ⟨rfl, rfl, rfl, rfl⟩ := mn_go_inj hs
        exact lv_idiv hx hb hd hy (kk H locs lsA S)
    · cases hs
  | irem =>
    dsimp only [mn_op] at hs
    replace hs := mn_ifn hs; obtain ⟨hlen, hs⟩ := hs; subst hlen
    split at hs
    · next y x st0 =>
      by_cases hy : y = 0
      · rw [if_pos hy] at hs; cases hs
      · rw [if_neg hy] at hs
        obtain ⟨rfl, rfl, rfl, rfl⟩ := mn_go_inj hs
        exact lv_irem hx hb hd hy (kk H locs lsA S)
    · cases hs
  | ineg =>
    dsimp only [mn_op] at hs
    replace hs := mn_ifn hs; obtain ⟨hlen, hs⟩ := hs; subst hlen
    obtain ⟨x, st0, rfl, rfl, rfl, rfl, rfl⟩ := mn_i1_inv hs
    exact lv_ineg hx hb hd (kk H locs lsA S)
  | i2b =>
    dsimp only [mn_op] at hs
    replace hs := mn_ifn hs; obtain ⟨hlen, hs⟩ := hs; subst hlen
    obtain ⟨x, st0, rfl, rfl, rfl, rfl, rfl⟩ := mn_i1_inv hs
    exact lv_i2b hx hb hd rfl (kk H locs lsA S)
  | i2c =>
    dsimp only [mn_op] at hs
    replace hs := mn_ifn hs; obtain ⟨hlen, hs⟩ := hs; subst hlen
    obtain ⟨x, st0, rfl, rfl, rfl, rfl, rfl⟩ := mn_i1_inv hs
    exact lv_i2c hx hb hd rfl (kk H locs lsA S)
  | i2l =>
    dsimp only [mn_op] at hs
    replace hs := mn_ifn hs; obtain ⟨hlen, hs⟩ := hs; subst hlen
    split at hs
    · obtain ⟨rfl, rfl, rfl, rfl⟩ := mn_go_inj hs
      exact lv_i2l hx hb hd rfl (kk H locs lsA S)
    · cases hs
  | l2i =>
    dsimp only [mn_op] at hs
    replace hs := mn_ifn hs; obtain ⟨hlen, hs⟩ := hs; subst hlen
    split at hs
    · obtain ⟨rfl, rfl, rfl, rfl⟩ := mn_go_inj hs
      exact lv_l2i hx hb hd rfl (kk H locs lsA S)
    · cases hs
  | ladd =>
    dsimp only [mn_op] at hs
    replace hs := mn_ifn hs; obtain ⟨hlen, hs⟩ := hs; subst hlen
    obtain ⟨x, y, st0, rfl, rfl, rfl, rfl, rfl⟩ := mn_l2_inv hs
    exact lv_ladd hx hb hd (kk H locs lsA S)
  | lsub =>
    dsimp only [mn_op] at hs
    replace hs := mn_ifn hs; obtain ⟨hlen, hs⟩ := hs; subst hlen
    obtain ⟨x, y, st0, rfl, rfl, rfl, rfl, rfl⟩ := mn_l2_inv hs
    exact lv_lsub hx hb hd (kk H locs lsA S)
  | lmul =>
    dsimp only [mn_op] at hs
    replace hs := mn_ifn hs; obtain ⟨hlen, hs⟩ := hs; subst hlen
    obtain ⟨x, y, st0, rfl, rfl, rfl, rfl, rfl⟩ := mn_l2_inv hs
    exact lv_lmul hx hb hd (kk H locs lsA S)
  | land =>
    dsimp only [mn_op] at hs
    replace hs := mn_ifn hs; obtain ⟨hlen, hs⟩ := hs; subst hlen
    obtain ⟨x, y, st0, rfl, rfl, rfl, rfl, rfl⟩ := mn_l2_inv hs
    exact lv_land hx hb hd (kk H locs lsA S)
  | lor =>
    dsimp only [mn_op] at hs
    replace hs := mn_ifn hs; obtain ⟨hlen, hs⟩ := hs; subst hlen
    obtain ⟨x, y, st0, rfl, rfl, rfl, rfl, rfl⟩ := mn_l2_inv hs
    exact lv_lor hx hb hd (kk H locs lsA S)
  | lxor =>
    dsimp only [mn_op] at hs
    replace hs := mn_ifn hs; obtain ⟨hlen, hs⟩ := hs; subst hlen
    obtain ⟨x, y, st0, rfl, rfl, rfl, rfl, rfl⟩ := mn_l2_inv hs
    exact lv_lxor hx hb hd (kk H locs lsA S)
  | lshl =>
    dsimp only [mn_op] at hs
    replace hs := mn_ifn hs; obtain ⟨hlen, hs⟩ := hs; subst hlen
    obtain ⟨x, y, st0, rfl, rfl, rfl, rfl, rfl⟩ := mn_ls2_inv hs
    exact lv_lshl hx hb hd rfl (kk H locs lsA S)
  | lushr =>
    dsimp only [mn_op] at hs
    replace hs := mn_ifn hs; obtain ⟨hlen, hs⟩ := hs; subst hlen
    obtain ⟨x, y, st0, rfl, rfl, rfl, rfl, rfl⟩ := mn_ls2_inv hs
    exact lv_lushr hx hb hd rfl (kk H locs lsA S)
  | lcmp =>
    dsimp only [mn_op] at hs
    replace hs := mn_ifn hs; obtain ⟨hlen, hs⟩ := hs; subst hlen
    split at hs
    · obtain ⟨rfl, rfl, rfl, rfl⟩ := mn_go_inj hs
      exact W.lcmp hx hb hd (kk H locs lsA S)
    · cases hs
  | dup =>
    dsimp only [mn_op] at hs
    replace hs := mn_ifn hs; obtain ⟨hlen, hs⟩ := hs; subst hlen
    split at hs
    · next v st0 =>
      replace hs := mn_ifn hs; obtain ⟨hc, hs⟩ := hs
      obtain ⟨rfl, rfl, rfl, rfl⟩ := mn_go_inj hs
      exact lv_dup hx hb hd (by rw [mn_cv_cat]; exact hc) (kk H locs lsA S)
    · cases hs
  | dup2 =>
    dsimp only [mn_op] at hs
    replace hs := mn_ifn hs; obtain ⟨hlen, hs⟩ := hs; subst hlen
    split at hs
    · next v w st0 =>
      replace hs := mn_ifn hs; obtain ⟨⟨hc1, hc2⟩, hs⟩ := hs
      obtain ⟨rfl, rfl, rfl, rfl⟩ := mn_go_inj hs
      exact lv_dup2_11 hx hb hd (by rw [mn_cv_cat]; exact hc1) (by rw [mn_cv_cat]; exact hc2) (kk H locs lsA S)
    · cases hs
  | ifCond cd off =>
    dsimp only [mn_op] at hs
    replace hs := mn_ifn hs; obtain ⟨hlen, hs⟩ := hs; subst hlen
    exact mn_s_if C S hd hs kk
  | if_icmp cd off =>
    dsimp only [mn_op] at hs
    replace hs := mn_ifn hs; obtain ⟨hlen, hs⟩ := hs; subst hlen
    exact mn_s_icmp C S hd hs kk
  | goto off =>
    dsimp only [mn_op] at hs
    replace hs := mn_ifn hs; obtain ⟨hlen, hs⟩ := hs; subst hlen
    obtain ⟨ht, rfl, rfl, rfl⟩ := mn_jmp_inv hs
    exact lv_goto hx hb hd ht (kk H locs lsA S)
  | tableswitch d lo2 hi offs =>
    dsimp only [mn_op] at hs
    split at hs
    · next x st0 =>
      replace hs := mn_ifn hs; obtain ⟨⟨hz, hn⟩, hs⟩ := hs
      obtain ⟨rfl, rfl, rfl, rfl⟩ := mn_go_inj hs
      have K := kk H locs lsA S
      have ht : mn_tsw pc d lo2 hi offs x = (((mn_tsw pc d lo2 hi offs x).toNat : Nat) : Int) := by omega
      generalize (mn_tsw pc d lo2 hi offs x).toNat = tgt at ht K
      unfold mn_tsw at ht
      by_cases ho : x.toInt < lo2 ∨ hi < x.toInt
      · rw [if_pos ho] at ht
        exact lv_tableOut hx hb hd ho ht K
      · rw [if_neg ho] at ht
        have hi2 : (x.toInt - lo2).toNat < offs.size := by omega
        refine lv_tableIn hx hb hd (fun q => ho (Or.inl q)) (fun q => ho (Or.inr q)) (Array.getElem?_eq_getElem hi2) ?_ K
        rw [← ht]; simp [Array.getD, hi2]
    · cases hs
  | getfield i =>
    dsimp only [mn_op] at hs
    replace hs := mn_ifn hs; obtain ⟨hlen, hs⟩ := hs; subst hlen
    exact mn_s_getfield C S hd hs kk
  | putfield i =>
    dsimp only [mn_op] at hs
    replace hs := mn_ifn hs; obtain ⟨hlen, hs⟩ := hs; subst hlen
    exact mn_s_putfield C S hd hs kk
  | getstatic i =>
    dsimp only [mn_op] at hs
    replace hs := mn_ifn hs; obtain ⟨hlen, hs⟩ := hs; subst hlen
    have hown := C.2.2.2.2.1
    have hts := C.2.2.2.2.2.1
    have hC := C.2.2.2.2.2.2.2.2.1
    have hS := S.2.2.1
    by_cases hz : mO M = 7 ∧ i = 330
    · rw [if_pos hz] at hs
      obtain ⟨rfl, rfl, rfl, rfl⟩ := mn_go_inj hs
      have ho : mn_cn (mO M) = "TomorrowBells" := by rw [hz.1]; rfl
      rw [ho] at hown
      rw [hz.2] at hd
      exact va_gets hx hb hC.1 hS hown (hts _ (mn_wt mn_Gr (List.mem_of_getElem? (i := 0) rfl))) (fun _ q => q) hd (kk H locs lsA S)
    · rw [if_neg hz] at hs
      replace hs := mn_ifn hs; obtain ⟨hz, hs⟩ := hs
      obtain ⟨rfl, rfl, rfl, rfl⟩ := mn_go_inj hs
      have ho : mn_cn (mO M) = "java/lang/String" := by rw [hz.1]; rfl
      rw [ho] at hown
      rw [hz.2] at hd
      exact va_gets hx hb hC.2.2.1 hS hown (hts _ (mn_wt mn_Gr (List.mem_of_getElem? (i := 1) rfl))) (fun _ q => q) hd (kk H locs lsA S)
  | iaload =>
    dsimp only [mn_op] at hs
    replace hs := mn_ifn hs; obtain ⟨hlen, hs⟩ := hs; subst hlen
    exact mn_s_iald C S hd hs kk
  | baload =>
    dsimp only [mn_op] at hs
    replace hs := mn_ifn hs; obtain ⟨hlen, hs⟩ := hs; subst hlen
    exact mn_s_bald C S hd hs kk
  | laload =>
    dsimp only [mn_op] at hs
    replace hs := mn_ifn hs; obtain ⟨hlen, hs⟩ := hs; subst hlen
    exact mn_s_lald C S hd hs kk
  | aaload =>
    dsimp only [mn_op] at hs
    replace hs := mn_ifn hs; obtain ⟨hlen, hs⟩ := hs; subst hlen
    exact mn_s_aald C S hd hs kk
  | iastore =>
    dsimp only [mn_op] at hs
    replace hs := mn_ifn hs; obtain ⟨hlen, hs⟩ := hs; subst hlen
    exact mn_s_iast C S hd hs kk
  | bastore =>
    dsimp only [mn_op] at hs
    replace hs := mn_ifn hs; obtain ⟨hlen, hs⟩ := hs; subst hlen
    exact mn_s_bast C S hd hs kk
  | arraylength =>
    dsimp only [mn_op] at hs
    replace hs := mn_ifn hs; obtain ⟨hlen, hs⟩ := hs; subst hlen
    exact mn_s_alen C S hd hs kk
  | invokestatic i =>
    dsimp only [mn_op] at hs
    replace hs := mn_ifn hs; obtain ⟨hlen, hs⟩ := hs; subst hlen
    unfold mn_stat at hs
    split at hs
    · exact absurd hs (fun q => mn_csta_no q)
    · split at hs
      · exact absurd hs (fun q => mn_csta_no q)
      · split at hs
        · next k hk => exact mn_s_math C S hd hk hs kk
        · replace hs := mn_ifn hs; obtain ⟨hz, hs⟩ := hs
          exact mn_s_acpy C S hd hz hs kk
  | invokevirtual i =>
    dsimp only [mn_op] at hs
    replace hs := mn_ifn hs; obtain ⟨hlen, hs⟩ := hs; subst hlen
    exact absurd hs (fun q => mn_virt_no q)
  | ireturn =>
    dsimp only [mn_op] at hs
    replace hs := mn_ifn hs; obtain ⟨hlen, hs⟩ := hs; subst hlen
    split at hs
    · replace hs := mn_ifn hs; obtain ⟨-, hs⟩ := hs
      cases hs
    · cases hs
  | lreturn =>
    dsimp only [mn_op] at hs
    replace hs := mn_ifn hs; obtain ⟨hlen, hs⟩ := hs; subst hlen
    split at hs
    · replace hs := mn_ifn hs; obtain ⟨-, hs⟩ := hs
      cases hs
    · cases hs
  | return_ =>
    dsimp only [mn_op] at hs
    replace hs := mn_ifn hs; obtain ⟨hlen, hs⟩ := hs; subst hlen
    split at hs
    · replace hs := mn_ifn hs; obtain ⟨-, hs⟩ := hs
      cases hs
    · cases hs
  | _ => cases hs
end MNS
end
section
theorem mn_flat_len (ad : Nat → Nat) (vs : List Value) : (lg_sl (vs.map (mn_cv ad))).length = (mn_flat vs).length := by
  induction vs with
  | nil => rfl
  | cons v vs ih =>
    simp only [List.map_cons, lg_sl, List.flatMap_cons, List.length_append, mn_flat, mn_cv_cat] at ih ⊢
    by_cases hc : v.category = 2
    · simp only [hc, if_pos, List.length_cons, List.length_nil]; rw [ih]; omega
    · simp only [if_neg hc, List.length_cons, List.length_nil]; rw [ih]; omega
theorem mn_args_mem (ad : Nat → Nat) (m : Nat) : ∀ (vs : List Value) (i k : Nat) (v : Value), (mn_flat vs ++ List.replicate m .null)[k]? = some v → mn_isn v = false → (i + k, mn_cv ad v) ∈ lv_args i (vs.map (mn_cv ad)) := by
  intro vs
  induction vs with
  | nil =>
    intro i k v hv hn
    simp only [mn_flat, List.nil_append] at hv
    obtain ⟨h1, h2⟩ := List.getElem?_eq_some_iff.mp hv
    rw [List.getElem_replicate] at h2
    subst h2
    cases hn
  | cons w vs ih =>
    intro i k v hv hn
    simp only [List.map_cons, lv_args, mn_cv_cat]
    simp only [mn_flat] at hv
    by_cases hc : w.category = 2
    · rw [if_pos hc] at hv ⊢
      match k, hv with
      | 0, hv => cases hv; exact List.mem_cons_self
      | 1, hv => cases hv; cases hn
      | k + 2, hv =>
        have := ih (i + 2) k v hv hn
        rw [show i + 2 + k = i + (k + 2) by omega] at this
        exact List.mem_cons_of_mem _ this
    · rw [if_neg hc] at hv ⊢
      match k, hv with
      | 0, hv => cases hv; exact List.mem_cons_self
      | k + 1, hv =>
        have := ih (i + 1) k v hv hn
        rw [show i + 1 + k = i + (k + 1) by omega] at this
        exact List.mem_cons_of_mem _ this
theorem mn_entry (ad : Nat → Nat) (vs : List Value) {n : Nat} (hn : (mn_flat vs).length ≤ n) : lv_has ((lg_sl (vs.map (mn_cv ad)) ++ List.replicate (n - (lg_sl (vs.map (mn_cv ad))).length) Slot.unset).toArray) n (mn_lv ad (mn_ent vs n)) := by
  refine mn_lvsub (lv_entry (vs.map (mn_cv ad)) (n := n) (by rw [mn_flat_len]; exact hn)) (fun q hq => ?_)
  obtain ⟨v, hv, hn, e⟩ := mn_lv_mem.mp hq
  have := mn_args_mem ad _ vs 0 q.1 v hv hn
  rw [Nat.zero_add, ← e] at this
  exact this
theorem mn_sh0 : ∀ a, a < 77 → (mn_sh a).1 = 0 → ((mn_sh a).2 < 9 ∧ a < 74) ∨ ((mn_sh a).2 = 9 ∧ a = 75) := by decide +kernel
theorem mn_sh0' {a ci : Nat} (hs : mn_sh a = (0, ci)) : (ci < 9 ∧ a < 74) ∨ (ci = 9 ∧ a = 75) := by
  have h77 : a < 77 := by
    rcases Nat.lt_or_ge a 77 with hn | hn
    · exact hn
    · have : mn_sh a = (9, 9) := by
        unfold mn_sh
        rw [List.getD_eq_getElem?_getD, List.getElem?_eq_none (show mn_shL.length ≤ a from hn)]
        rfl
      rw [this] at hs; cases hs
  have := mn_sh0 a h77 (by rw [hs])
  rw [hs] at this
  exact this
theorem mn_csta_inv {M pc C pc' K : Nat} {st vs st' : List Value} (e : mn_csta M pc K st = some (.inr (.inr (C, vs, pc', st')))) : K = C ∧ st = vs.reverse ++ st' ∧ vs.length = mP C ∧ mn_cok M C vs st' = true ∧ mSt C = true ∧ pc' = pc + 3 := by
  unfold mn_csta at e
  obtain ⟨⟨h1, h2, h3⟩, e⟩ := mn_ifn e
  cases e
  refine ⟨rfl, ?_, ?_, h1, h3, rfl⟩
  · rw [List.reverse_reverse, List.take_append_drop]
  · rw [List.length_reverse, List.length_take]; omega
theorem mn_stp_call {M pc C pc' : Nat} {ls st vs st' : List Value} {h : mn_H} (hs : mn_stp M pc ls st h = some (.inr (.inr (C, vs, pc', st')))) :
    (∃ i, decode (mC M) pc = .ok (.invokestatic i, 3) ∧ (mn_ml (mO M) i = some C ∨ mn_nl (mO M) i = some C) ∧ st = vs.reverse ++ st' ∧ vs.length = mP C ∧ mn_cok M C vs st' = true ∧ mSt C = true ∧ pc' = pc + 3) ∨
    (∃ i a vs0, decode (mC M) pc = .ok (.invokevirtual i, 3) ∧ mn_ml (mO M) i = some C ∧ vs = .ref a :: vs0 ∧ st = vs0.reverse ++ .ref a :: st' ∧ vs0.length = mP C ∧ mn_sh a = (0, mO C) ∧ mn_cok M C vs st' = true ∧ mSt C = false ∧ pc' = pc + 3) := by
  unfold mn_stp at hs
  cases hd : decode (mC M) pc with
  | error x => rw [hd] at hs; cases hs
  | ok q =>
  obtain ⟨op, len⟩ := q
  rw [hd] at hs
  dsimp only at hs
  cases op with
  | invokestatic i =>
    dsimp only [mn_op] at hs
    replace hs := mn_ifn hs; obtain ⟨hlen, hs⟩ := hs; subst hlen
    unfold mn_stat at hs
    left
    split at hs
    · next K hK =>
      obtain ⟨rfl, h1, h2, h3, h4, h5⟩ := mn_csta_inv hs
      exact ⟨i, rfl, Or.inl hK, h1, h2, h3, h4, h5⟩
    · split at hs
      · next K hK =>
        obtain ⟨rfl, h1, h2, h3, h4, h5⟩ := mn_csta_inv hs
        exact ⟨i, rfl, Or.inr hK, h1, h2, h3, h4, h5⟩
      · split at hs
        · next k hk =>
          unfold mn_math at hs
          split at hs
          · replace hs := mn_ifn hs; obtain ⟨-, hs⟩ := hs; cases hs
          · replace hs := mn_ifn hs; obtain ⟨-, hs⟩ := hs; cases hs
          · replace hs := mn_ifn hs; obtain ⟨-, hs⟩ := hs; cases hs
          · cases hs
        · replace hs := mn_ifn hs; obtain ⟨-, hs⟩ := hs
          unfold mn_acpy at hs
          split at hs
          · replace hs := mn_ifn hs; obtain ⟨-, hs⟩ := hs; cases hs
          · cases hs
  | invokevirtual i =>
    dsimp only [mn_op] at hs
    replace hs := mn_ifn hs; obtain ⟨hlen, hs⟩ := hs; subst hlen
    unfold mn_virt at hs
    right
    split at hs
    · next K hK =>
      split at hs
      · next a st0 hdr =>
        replace hs := mn_ifn hs; obtain ⟨⟨h1, h2, h3, h4⟩, hs⟩ := hs
        cases hs
        refine ⟨i, a, _, rfl, hK, rfl, ?_, ?_, h2, h1, h4, rfl⟩
        · rw [List.reverse_reverse, ← hdr, List.take_append_drop]
        · rw [List.length_reverse, List.length_take]; omega
      · cases hs
    · cases hs
  | ireturn =>
    dsimp only [mn_op] at hs
    replace hs := mn_ifn hs; obtain ⟨-, hs⟩ := hs
    split at hs
    · replace hs := mn_ifn hs; obtain ⟨-, hs⟩ := hs; cases hs
    · cases hs
  | lreturn =>
    dsimp only [mn_op] at hs
    replace hs := mn_ifn hs; obtain ⟨-, hs⟩ := hs
    split at hs
    · replace hs := mn_ifn hs; obtain ⟨-, hs⟩ := hs; cases hs
    · cases hs
  | return_ =>
    dsimp only [mn_op] at hs
    replace hs := mn_ifn hs; obtain ⟨-, hs⟩ := hs
    split at hs
    · replace hs := mn_ifn hs; obtain ⟨-, hs⟩ := hs; cases hs
    · cases hs
  | _ =>
    exfalso
    first
      | (cases hs; done)
      | (simp only [mn_op, mn_il, mn_ll, mn_al, mn_is, mn_as, mn_ls, mn_i2, mn_l2, mn_ls2, mn_i1, mn_get, mn_put, mn_iald, mn_bald, mn_lald, mn_aald, mn_iast, mn_bast, mn_alen, mn_jmp, mn_go] at hs
         repeat' (first | (cases hs; done) | split at hs))
theorem mn_stp_ret {M pc : Nat} {ls st : List Value} {h : mn_H} {v : Option Value} (hs : mn_stp M pc ls st h = some (.inr (.inl v))) :
    (∃ x, decode (mC M) pc = .ok (.ireturn, 1) ∧ st = [.int x] ∧ v = some (.int x) ∧ (mR M = some .int ∨ (mR M = some .boolean ∧ (x = 0 ∨ x = 1)) ∨ (mR M = some .byte ∧ x = 0))) ∨
    (∃ x, decode (mC M) pc = .ok (.lreturn, 1) ∧ st = [.long x] ∧ v = some (.long x) ∧ mR M = some .long) ∨
    (decode (mC M) pc = .ok (.return_, 1) ∧ st = [] ∧ v = none ∧ mR M = none) := by
  unfold mn_stp at hs
  cases hd : decode (mC M) pc with
  | error x => rw [hd] at hs; cases hs
  | ok q =>
  obtain ⟨op, len⟩ := q
  rw [hd] at hs
  dsimp only at hs
  cases op with
  | ireturn =>
    dsimp only [mn_op] at hs
    replace hs := mn_ifn hs; obtain ⟨hlen, hs⟩ := hs; subst hlen
    split at hs
    · next x => replace hs := mn_ifn hs; obtain ⟨h1, hs⟩ := hs; cases hs; exact Or.inl ⟨x, rfl, rfl, rfl, h1⟩
    · cases hs
  | lreturn =>
    dsimp only [mn_op] at hs
    replace hs := mn_ifn hs; obtain ⟨hlen, hs⟩ := hs; subst hlen
    split at hs
    · next x => replace hs := mn_ifn hs; obtain ⟨h1, hs⟩ := hs; cases hs; exact Or.inr (Or.inl ⟨x, rfl, rfl, rfl, h1⟩)
    · cases hs
  | return_ =>
    dsimp only [mn_op] at hs
    replace hs := mn_ifn hs; obtain ⟨hlen, hs⟩ := hs; subst hlen
    split at hs
    · replace hs := mn_ifn hs; obtain ⟨h1, hs⟩ := hs; cases hs; exact Or.inr (Or.inr ⟨rfl, rfl, rfl, h1⟩)
    · cases hs
  | invokestatic i =>
    exfalso
    dsimp only [mn_op] at hs
    replace hs := mn_ifn hs; obtain ⟨-, hs⟩ := hs
    simp only [mn_stat, mn_csta, mn_math, mn_acpy, mn_go] at hs
    repeat' (first | (cases hs; done) | split at hs)
  | invokevirtual i =>
    exfalso
    dsimp only [mn_op] at hs
    replace hs := mn_ifn hs; obtain ⟨-, hs⟩ := hs
    simp only [mn_virt] at hs
    repeat' (first | (cases hs; done) | split at hs)
  | _ =>
    exfalso
    first
      | (cases hs; done)
      | (simp only [mn_op, mn_il, mn_ll, mn_al, mn_is, mn_as, mn_ls, mn_i2, mn_l2, mn_ls2, mn_i1, mn_get, mn_put, mn_iald, mn_bald, mn_lald, mn_aald, mn_iast, mn_bast, mn_alen, mn_jmp, mn_go] at hs
         repeat' (first | (cases hs; done) | split at hs))
end
section
section MNT
variable {D : va_G} {cI cZ cO : ClassId} {ad : Nat → Nat} {lo M : Nat}
variable {p : Program} {l : Launch} {e : Env} {s : State} {m : MethodId} {args : Array Value} {below : List Frame} {meth : Method} {c : Code} {Q : State → Prop}
variable {H : Heap} {locs : List Loc} {lsA : Array Slot}
theorem mn_cont {R : Room} {pc : Nat} {st0 rest : List Value} {v : Option Value} {ws1 : va_W} {A : Nat → Prop} {H0 : Heap} (hr : va_Run p l e R s m args below meth c H locs 0 0 0 0 (F0 m pc lsA st0) rest (fun st oc t => oc = .returned v ∧ va_P D vwCl ws1 t.heap ∧ va_F A st t) A) (hS : va_S A H0 H locs)
    (kk : ∀ (H1 : Heap) (locs1 : List Loc), va_P D vwCl ws1 H1 → va_S A H0 H1 locs1 → W p l e R s m args below meth c H1 locs1 0 0 Q (F0 m (pc + 3) lsA (v.toList ++ rest))) : W p l e R s m args below meth c H locs 0 0 Q (F0 m pc lsA st0) := by
  intro T hT X
  obtain ⟨v2, st₀, t, T', L, h0, X', hL, e1, e2, ⟨hv, hp, hz, hk⟩, st⟩ := hr T hT X
  cases hv
  rw [h0] at hz hk
  obtain ⟨t2, a1, b1⟩ := kk T'.heap (locs ++ L) (by rw [e1]; exact hp)
    ⟨Nat.le_trans hS.1 (by rw [e1]; exact hz), fun q h1 h2 => by rw [e1, hk q (Nat.lt_of_lt_of_le h1 hS.1) h2]; exact hS.2.1 q h1 h2, fun q hq => by
      rcases List.mem_append.mp hq with h | h
      · exact hS.2.2 q h
      · exact hL q h⟩ T' rfl X'
  exact ⟨t2, st t2 a1, b1⟩
theorem mn_catm (v : List Value) : ((v.map (mn_cv ad)).map fun v => v.category).sum = mn_cat v := by
  unfold mn_cat
  rw [List.map_map]
  congr 1
  apply List.map_congr_left
  intro a _
  exact mn_cv_cat ad a
theorem mn_blind {vs : List Value} {h : mn_H} : FrameBlind (va_Pc vs (mn_Wd D cI cZ cO ad lo h)) := by
  intro a U g mk q
  obtain ⟨q0, q1, q2, q3, q4⟩ := q
  exact ⟨q0, q1, q2, va_K.moved (u := U) (U := U.calling g mk a) (Vm.Alike.refl U.vm) q3, mn_K.same (s := U) (U := U.calling g mk a) rfl q4⟩
theorem mn_cokD {C : Nat} {vs st : List Value} (h : mn_cok M C vs st = true) : mF C + 1 ≤ mF M ∧ 8 + (mL C + 11) + mW C ≤ mW M ∧ (mn_flat vs).length ≤ mL C ∧ mn_g C (mn_ent vs (mL C)) = true ∧ mn_cat st ≤ 8 ∧ C < 193 := by
  unfold mn_cok at h
  simp only [Bool.and_eq_true, decide_eq_true_eq] at h
  exact ⟨h.1.1.1.1.1.1, h.1.1.1.1.1.2, h.1.1.1.1.2, h.1.1.1.2, h.1.1.2, h.2⟩
/-- what the table says of a run: the machine runs so -/
def mn_Ok (l : Launch) (D : va_G) (cI cZ cO : ClassId) (ad : Nat → Nat) (lo n : Nat) : Prop :=
  ∀ (M pc : Nat) (ls st : List Value) (h : mn_H) (r : Option Value) (h' : mn_H), mn_ev n M pc ls st h = some (r, h') →
    ∀ (p : Program) (e : Env) (s : State) (m : MethodId) (args : Array Value) (below : List Frame) (meth : Method) (c : Code) (H : Heap) (locs : List Loc) (lsA : Array Slot),
      mn_Cx D cI cZ cO ad lo M p s m args meth c → mn_Sx D cI cZ cO ad lo M s H locs lsA h ls →
      W p l e (mn_rm M) s m args below meth c H locs 0 0 (MQ below (mn_Qc D cI cZ cO ad lo r h') args s 0 0 (fun q => lo ≤ q)) (F0 m pc lsA (st.map (mn_cv ad)))
theorem mn_met {n C : Nat} (ih : mn_Ok l D cI cZ cO ad lo n) {vs : List Value} {h h1 : mn_H} {v : Option Value} (hC : C < 193) (hfl : (mn_flat vs).length ≤ mL C) (hg : mn_g C (mn_ent vs (mL C)) = true) (he : mn_ev n C 0 (mn_ent vs (mL C)) [] h = some (v, h1)) :
    Met l (mY C) (mn_WS C) (mn_rm C) (va_Pc (vs.map (mn_cv ad)) (mn_Wd D cI cZ cO ad lo h)) (mn_Qc D cI cZ cO ad lo v h1) 0 0 (fun q => lo ≤ q) := by
  obtain ⟨y1, y2, y3, y4, y5, y6⟩ := mn_ycls C hC
  refine Met.ofW (cc := mC C) (maxL := mL C) (ret := mR C) y5 (show mn_WS C = _ from rfl) ?_
  intro p e s m args below meth c s₁ B hml hv
  obtain ⟨rfl, hP, hD, hK, hKc⟩ := hv
  have hts := atoms_spec (ws := mn_WS C) B.pre
  have hown : s.vm.findClass (mY C).cls = some m.cls := findClass_of_methodNamed B.named
  rw [y1] at hown
  rw [lg_entry_eq]
  exact ih C 0 (mn_ent vs (mL C)) [] h v h1 he p e s m _ below meth c s.heap [] _ ⟨B.exec, B.bytes, B.returns, hml, hown, hts, B.notSynchronized, hK, hKc, hC⟩ ⟨hP, hD, va_S.rf, mn_entry ad vs hfl, hg⟩
theorem mn_pre {h : mn_H} {U : State} (C : mn_Cx D cI cZ cO ad lo M p s m args meth c) (hP : va_P D vwCl (mn_ws cI cZ cO ad h) H) (hD : va_D (fun q => lo ≤ q) (mn_ws cI cZ cO ad h)) (hS : va_S (fun q => lo ≤ q) s.heap H locs) (hU : U.heap = H) (hW : s.WarmedH U.vm) : mn_Wd D cI cZ cO ad lo h U := by
  obtain ⟨hx, hb, hr, hml, hown, hts, hlk, hK, hC, hM⟩ := C
  refine ⟨by rw [hU]; exact hP, hD, va_K.moved hW.alike hK, ?_⟩
  have := (hC.kept (H1 := H) hS.2.1).moved hW
  rw [hU]; exact this
set_option maxHeartbeats 4000000 in
theorem mn_sound (l : Launch) (D : va_G) (cI cZ cO : ClassId) (ad : Nat → Nat) (lo : Nat) : ∀ n, mn_Ok l D cI cZ cO ad lo n := by
  intro n
  induction n with
  | zero => intro M pc ls st h r h' e0; simp [mn_ev] at e0
  | succ n ih =>
    intro M pc ls st h r h' e0 p e s m args below meth c H locs lsA C S
    simp only [mn_ev] at e0
    cases hs : mn_stp M pc ls st h with
    | none => rw [hs] at e0; cases e0
    | some q =>
      rw [hs] at e0
      rcases q with ⟨pc', ls', st', h1⟩ | v | ⟨K, vs, pc', st'⟩
      · exact mn_s_go C S hs (fun H1 locs1 lsB S1 => ih M pc' ls' st' h1 r h' e0 p e s m args below meth c H1 locs1 lsB C S1)
      · cases e0
        obtain ⟨hx, hb, hr, hml, hown, hts, hlk, hK, hC, hM⟩ := C
        obtain ⟨hP, hD, hS, hl, hg⟩ := S
        rcases mn_stp_ret hs with ⟨x, hd, rfl, rfl, hz⟩ | ⟨x, hd, rfl, rfl, hz⟩ | ⟨hd, rfl, rfl, hz⟩
        · rcases hz with hz | ⟨hz, hx2⟩ | ⟨hz, hx2⟩
          · exact W.iret hx hb (hr.trans hz) (fun t ht hW => ⟨rfl, by rw [ht]; exact hP, hS.F ht⟩) hS.2.2 hd hlk
          · exact W.zret (ty := .boolean) hx hb (hr.trans hz) (by rcases hx2 with rfl | rfl <;> rfl) (fun t ht hW => ⟨rfl, by rw [ht]; exact hP, hS.F ht⟩) hS.2.2 hd hlk
          · exact W.zret (ty := .byte) hx hb (hr.trans hz) (by rw [hx2]; rfl) (fun t ht hW => ⟨rfl, by rw [ht]; exact hP, hS.F ht⟩) hS.2.2 hd hlk
        · exact W.lret hx hb (hr.trans hz) (fun t ht hW => ⟨rfl, by rw [ht]; exact hP, hS.F ht⟩) hS.2.2 hd hlk
        · exact W.vret hx hb (hr.trans hz) (fun t ht hW => ⟨rfl, by rw [ht]; exact hP, hS.F ht⟩) hS.2.2 hd hlk
      · dsimp only at e0
        cases hc : mn_ev n K 0 (mn_ent vs (mL K)) [] h with
        | none => rw [hc] at e0; cases e0
        | some w =>
          obtain ⟨v, h1⟩ := w
          rw [hc] at e0
          dsimp only at e0
          have C0 := C
          have S0 := S
          obtain ⟨hx, hb, hr, hml, hown, hts, hlk, hK, hC, hM⟩ := C
          obtain ⟨hP, hD, hS, hl, hg⟩ := S
          have kk : ∀ (H1 : Heap) (locs1 : List Loc), va_P D vwCl (mn_ws cI cZ cO ad h1) H1 → va_S (fun q => lo ≤ q) s.heap H1 locs1 → W p l e (mn_rm M) s m args below meth c H1 locs1 0 0 (MQ below (mn_Qc D cI cZ cO ad lo r h') args s 0 0 (fun q => lo ≤ q)) (F0 m pc' lsA ((v.map (mn_cv ad)).toList ++ st'.map (mn_cv ad))) := by
            intro H1 locs1 p1 p2
            have := ih M pc' ls (v.toList ++ st') h1 r h' e0 p e s m args below meth c H1 locs1 lsA C0 ⟨p1, mn_ws_D hD, p2, hl, hg⟩
            have e2 : (v.toList ++ st').map (mn_cv ad) = (v.map (mn_cv ad)).toList ++ st'.map (mn_cv ad) := by cases v <;> rfl
            rw [e2] at this
            exact this
          rcases mn_stp_call hs with ⟨i, hd, hm, rfl, hlen, hok, hst, rfl⟩ | ⟨i, a, vs0, hd, hm, rfl, rfl, hlen, hsh, hok, hst, rfl⟩
          · obtain ⟨k1, k2, k3, k4, k5, k6⟩ := mn_cokD hok
            have hMet := mn_met ih k6 k3 k4 hc
            obtain ⟨y1, y2, y3, y4, y5, y6⟩ := mn_ycls K k6
            have hini : (Cond.initialized (mY K).cls).before args s = true := by rw [y1]; exact hts _ (mn_wt mn_Gz (List.mem_map.mpr ⟨_, List.mem_range.mpr y6, rfl⟩))
            have hstat : (Cond.static (mY K)).before args s = true := hts _ (mn_wt mn_Gt (List.mem_map.mpr ⟨K, List.mem_filter.mpr ⟨List.mem_range.mpr k6, hst⟩, rfl⟩))
            have hpre : PreS s H (va_Pc (vs.map (mn_cv ad)) (mn_Wd D cI cZ cO ad lo h)) (vs.map (mn_cv ad)) := ⟨mn_blind, fun U hU hW => ⟨rfl, mn_pre C0 hP hD hS hU hW⟩⟩
            have hstk : (vs.reverse ++ st').map (mn_cv ad) = (vs.map (mn_cv ad)).reverse ++ st'.map (mn_cv ad) := by rw [List.map_append, List.map_reverse]
            rw [hstk]
            rcases hm with hm | hm
            · have cb : CallB (mn_rm M) s args (mn_cn (mO M)) i (mY K) (mC K) (mL K) (mR K) (mn_WS K) (mn_rm K) 0 0 (mP K) :=
                callB_of (mP K) hts (mn_good k6) (show mn_WS K = _ from rfl) rfl rfl hini (hts _ (mn_wt mn_Gm (List.mem_map.mpr ⟨_, mn_ml_of hm, rfl⟩))) ⟨y2, y3, y4⟩ ⟨k1, k2⟩
              exact mn_cont (va_runS (As := vs.map (mn_cv ad)) (rest := st'.map (mn_cv ad)) (g := F0 m pc lsA _) ⟨hx, hb, hml, hown, hts⟩ hMet ⟨cb, hstat⟩ hpre rfl (by rw [List.length_map]; exact hlen) hl.1 rfl (lv_room (m := m) (pc := pc) (ls := lsA) (rest := []) (by rw [mn_catm]; exact k5)) hd ⟨Nat.zero_le _, Nat.zero_le _⟩) hS kk
            · have cb := va_cnB (R := mn_rm M) (rm := mn_rm K) (ret := mR K) (maxL := mL K) (bytes := mC K) (mc := 0) (ms := 0) (mP K) hts (mn_good k6) (show mn_WS K = _ from rfl) rfl rfl (hC.2.2.2.2.2.2.2.2 _ (mn_nl_of hm)) hini ⟨y2, y3, y4⟩ ⟨k1, k2⟩
              exact mn_cont (va_runSN (As := vs.map (mn_cv ad)) (rest := st'.map (mn_cv ad)) (g := F0 m pc lsA _) ⟨hx, hb, hml, hown, hts⟩ hMet ⟨cb, hstat, trivial⟩ hpre rfl (by rw [List.length_map]; exact hlen) hl.1 rfl (lv_room (m := m) (pc := pc) (ls := lsA) (rest := []) (by rw [mn_catm]; exact k5)) hd ⟨Nat.zero_le _, Nat.zero_le _⟩) hS kk
          · obtain ⟨k1, k2, k3, k4, k5, k6⟩ := mn_cokD hok
            have hMet := mn_met ih k6 k3 k4 hc
            obtain ⟨y1, y2, y3, y4, y5, y6⟩ := mn_ycls K k6
            have hini : (Cond.initialized (mY K).cls).before args s = true := by rw [y1]; exact hts _ (mn_wt mn_Gz (List.mem_map.mpr ⟨_, List.mem_range.mpr y6, rfl⟩))
            have hKv : K ∈ mn_virtL := List.mem_filter.mpr ⟨List.mem_range.mpr k6, by rw [hst]; rfl⟩
            have hinst : (Cond.instanceMethod (mY K)).before args s = true := hts _ (mn_wt mn_Gi (List.mem_map.mpr ⟨K, hKv, rfl⟩))
            have hsel : (Cond.selects (mn_cn (mO K)) (mY K) (mY K)).before args s = true := hts _ (mn_wt mn_Gs (List.mem_map.mpr ⟨K, hKv, rfl⟩))
            have hrec : ∃ cellB : Cell, H[ad a]? = some cellB ∧ cellB.vm.isStatics = false ∧ s.vm.findClass (mn_cn (mO K)) = some cellB.cls := by
              rcases mn_sh0' hsh with ⟨q1, q2⟩ | ⟨q1, q2⟩
              · obtain ⟨w, w1, w2, w3, w4⟩ := mn_cl9 (mO K) q1
                have := va_recv hK hP (ci := mO K) (q0 := a) w1 (by rw [mn_ws_at q2, mn_cell0 hsh])
                rw [w3] at this
                exact this
              · subst q2
                obtain ⟨cell, z1, z2, z3, -⟩ := hC.2.2.2.2.1.kept hS.2.1
                refine ⟨cell, z1, z2, ?_⟩
                rw [q1]; exact z3
            have hpre : PreV s H (mn_cn (mO K)) (ad a) (va_Pc ((.ref a :: vs0).map (mn_cv ad)) (mn_Wd D cI cZ cO ad lo h)) (vs0.map (mn_cv ad)) := ⟨mn_blind, hrec, fun U hU hW => ⟨rfl, mn_pre C0 hP hD hS hU hW⟩⟩
            have hstk : (vs0.reverse ++ .ref a :: st').map (mn_cv ad) = (vs0.map (mn_cv ad)).reverse ++ .ref (ad a) :: st'.map (mn_cv ad) := by rw [List.map_append, List.map_reverse]; rfl
            rw [hstk]
            have cb : CallB (mn_rm M) s args (mn_cn (mO M)) i (mY K) (mC K) (mL K) (mR K) (mn_WS K) (mn_rm K) 0 0 (mP K) :=
              callB_of (mP K) hts (mn_good k6) (show mn_WS K = _ from rfl) rfl rfl hini (hts _ (mn_wt mn_Gm (List.mem_map.mpr ⟨_, mn_ml_of hm, rfl⟩))) ⟨y2, y3, y4⟩ ⟨k1, k2⟩
            exact mn_cont (va_runV (As := vs0.map (mn_cv ad)) (rest := st'.map (mn_cv ad)) (g := F0 m pc lsA _) (C := mn_cn (mO K)) ⟨hx, hb, hml, hown, hts⟩ hMet ⟨cb, hinst, hsel⟩ hpre rfl (by rw [List.length_map]; exact hlen) hl.1 rfl (lv_room (m := m) (pc := pc) (ls := lsA) (rest := []) (by rw [mn_catm]; exact k5)) hd ⟨Nat.zero_le _, Nat.zero_le _⟩) hS kk
end MNT
end
section
theorem mn_ev_ty : ∀ (n M pc : Nat) (ls st : List Value) (h : mn_H) (r : Option Value) (h' : mn_H), mn_ev n M pc ls st h = some (r, h') → ((mR M = some .int ∨ mR M = some .boolean ∨ mR M = some .byte) → ∃ x, r = some (.int x)) ∧ (mR M = some .long → ∃ x, r = some (.long x)) ∧ (mR M = none → r = none) := by
  intro n
  induction n with
  | zero => intro M pc ls st h r h' e; simp [mn_ev] at e
  | succ n ih =>
    intro M pc ls st h r h' e
    simp only [mn_ev] at e
    cases hs : mn_stp M pc ls st h with
    | none => rw [hs] at e; cases e
    | some q =>
      rw [hs] at e
      rcases q with ⟨pc', ls', st', h1⟩ | v | ⟨K, vs, pc', st'⟩
      · exact ih _ _ _ _ _ _ _ e
      · cases e
        rcases mn_stp_ret hs with ⟨x, -, -, rfl, hz⟩ | ⟨x, -, -, rfl, hz⟩ | ⟨-, -, rfl, hz⟩
        · refine ⟨fun _ => ⟨x, rfl⟩, fun q => ?_, fun q => ?_⟩
          · rw [q] at hz; rcases hz with hz | ⟨hz, -⟩ | ⟨hz, -⟩ <;> cases hz
          · rw [q] at hz; rcases hz with hz | ⟨hz, -⟩ | ⟨hz, -⟩ <;> cases hz
        · refine ⟨fun q => ?_, fun _ => ⟨x, rfl⟩, fun q => ?_⟩
          · rw [hz] at q; rcases q with q | q | q <;> cases q
          · rw [hz] at q; cases q
        · refine ⟨fun q => ?_, fun q => ?_, fun _ => rfl⟩
          · rw [hz] at q; rcases q with q | q | q <;> cases q
          · rw [hz] at q; cases q
      · dsimp only at e
        cases hc : mn_ev n K 0 (mn_ent vs (mL K)) [] h with
        | none => rw [hc] at e; cases e
        | some w => rw [hc] at e; exact ih _ _ _ _ _ _ _ e
section MNR
variable {M pc : Nat} {ls st : List Value} {h h' : mn_H} {r : Option Value}
theorem mn_exi {C : Nat} {vs : List Value} {P : Option Value → mn_H → Prop} (hr : mR C = some .int ∨ mR C = some .boolean ∨ mR C = some .byte) : (∃ v h1, mn_X C vs h v h1 ∧ P v h1) ↔ ∃ x h1, mn_X C vs h (some (.int x)) h1 ∧ P (some (.int x)) h1 := by
  constructor
  · rintro ⟨v, h1, a, b⟩
    obtain ⟨n, e⟩ := id a
    obtain ⟨x, rfl⟩ := (mn_ev_ty n _ _ _ _ _ _ _ e).1 hr
    exact ⟨x, h1, a, b⟩
  · rintro ⟨x, h1, a, b⟩
    exact ⟨_, h1, a, b⟩
theorem mn_exl {C : Nat} {vs : List Value} {P : Option Value → mn_H → Prop} (hr : mR C = some .long) : (∃ v h1, mn_X C vs h v h1 ∧ P v h1) ↔ ∃ x h1, mn_X C vs h (some (.long x)) h1 ∧ P (some (.long x)) h1 := by
  constructor
  · rintro ⟨v, h1, a, b⟩
    obtain ⟨n, e⟩ := id a
    obtain ⟨x, rfl⟩ := (mn_ev_ty n _ _ _ _ _ _ _ e).2.1 hr
    exact ⟨x, h1, a, b⟩
  · rintro ⟨x, h1, a, b⟩
    exact ⟨_, h1, a, b⟩
theorem mn_exv {C : Nat} {vs : List Value} {P : Option Value → mn_H → Prop} (hr : mR C = none) : (∃ v h1, mn_X C vs h v h1 ∧ P v h1) ↔ ∃ h1, mn_X C vs h none h1 ∧ P none h1 := by
  constructor
  · rintro ⟨v, h1, a, b⟩
    obtain ⟨n, e⟩ := id a
    have := (mn_ev_ty n _ _ _ _ _ _ _ e).2.2 hr
    subst this
    exact ⟨h1, a, b⟩
  · rintro ⟨h1, a, b⟩
    exact ⟨_, h1, a, b⟩
/-- all that a call of a static method asks of the table -/
def mn_cs (M o i C : Nat) : Bool := decide (mO M = o) && (mn_ml o i == some C || (mn_ml o i == none && mn_nl o i == some C)) && mSt C
def mn_cvt (M o i C : Nat) : Bool := decide (mO M = o) && (mn_ml o i == some C) && !(mSt C)
theorem mn_csD {o i C : Nat} (h : mn_cs M o i C = true) : mO M = o ∧ (mn_ml o i = some C ∨ (mn_ml o i = none ∧ mn_nl o i = some C)) ∧ mSt C = true := by
  unfold mn_cs at h
  simp only [Bool.and_eq_true, Bool.or_eq_true, decide_eq_true_eq, beq_iff_eq] at h
  exact ⟨h.1.1, h.1.2, h.2⟩
theorem mn_cvD {o i C : Nat} (h : mn_cvt M o i C = true) : mO M = o ∧ mn_ml o i = some C ∧ mSt C = false := by
  unfold mn_cvt at h
  simp only [Bool.and_eq_true, Bool.not_eq_true', decide_eq_true_eq, beq_iff_eq] at h
  exact ⟨h.1.1, h.1.2, h.2⟩
theorem mS_i {i o C : Nat} {vs st' : List Value} (hd : decode (mC M) pc = .ok (.invokestatic i, 3)) (ht : mn_cs M o i C = true) (hr : mR C = some .int ∨ mR C = some .boolean ∨ mR C = some .byte) (hp : mP C ≤ st.length) (h1 : (st.take (mP C)).reverse = vs) (h2 : st.drop (mP C) = st') (hc : mn_cok M C vs st' = true) : mn_E M pc ls st h r h' ↔ ∃ x h1, mn_X C vs h (some (.int x)) h1 ∧ mn_E M (pc + 3) ls (.int x :: st') h1 r h' := (mX_stat hd (mn_csD ht).1 (mn_csD ht).2.1 hp h1 h2 hc (mn_csD ht).2.2).trans (mn_exi hr)
theorem mS_l {i o C : Nat} {vs st' : List Value} (hd : decode (mC M) pc = .ok (.invokestatic i, 3)) (ht : mn_cs M o i C = true) (hr : mR C = some .long) (hp : mP C ≤ st.length) (h1 : (st.take (mP C)).reverse = vs) (h2 : st.drop (mP C) = st') (hc : mn_cok M C vs st' = true) : mn_E M pc ls st h r h' ↔ ∃ x h1, mn_X C vs h (some (.long x)) h1 ∧ mn_E M (pc + 3) ls (.long x :: st') h1 r h' := (mX_stat hd (mn_csD ht).1 (mn_csD ht).2.1 hp h1 h2 hc (mn_csD ht).2.2).trans (mn_exl hr)
theorem mS_v {i o C : Nat} {vs st' : List Value} (hd : decode (mC M) pc = .ok (.invokestatic i, 3)) (ht : mn_cs M o i C = true) (hr : mR C = none) (hp : mP C ≤ st.length) (h1 : (st.take (mP C)).reverse = vs) (h2 : st.drop (mP C) = st') (hc : mn_cok M C vs st' = true) : mn_E M pc ls st h r h' ↔ ∃ h1, mn_X C vs h none h1 ∧ mn_E M (pc + 3) ls st' h1 r h' := (mX_stat hd (mn_csD ht).1 (mn_csD ht).2.1 hp h1 h2 hc (mn_csD ht).2.2).trans (mn_exv hr)
theorem mV_i {i o C a : Nat} {vs st' : List Value} (hd : decode (mC M) pc = .ok (.invokevirtual i, 3)) (ht : mn_cvt M o i C = true) (hr : mR C = some .int ∨ mR C = some .boolean ∨ mR C = some .byte) (hp : mP C ≤ st.length) (h1 : (st.take (mP C)).reverse = vs) (h2 : st.drop (mP C) = .ref a :: st') (hs : mn_sh a = (0, mO C)) (hc : mn_cok M C (.ref a :: vs) st' = true) : mn_E M pc ls st h r h' ↔ ∃ x h1, mn_X C (.ref a :: vs) h (some (.int x)) h1 ∧ mn_E M (pc + 3) ls (.int x :: st') h1 r h' := (mX_virt hd (mn_cvD ht).1 (mn_cvD ht).2.1 hp h1 h2 hs hc (mn_cvD ht).2.2).trans (mn_exi hr)
theorem mV_l {i o C a : Nat} {vs st' : List Value} (hd : decode (mC M) pc = .ok (.invokevirtual i, 3)) (ht : mn_cvt M o i C = true) (hr : mR C = some .long) (hp : mP C ≤ st.length) (h1 : (st.take (mP C)).reverse = vs) (h2 : st.drop (mP C) = .ref a :: st') (hs : mn_sh a = (0, mO C)) (hc : mn_cok M C (.ref a :: vs) st' = true) : mn_E M pc ls st h r h' ↔ ∃ x h1, mn_X C (.ref a :: vs) h (some (.long x)) h1 ∧ mn_E M (pc + 3) ls (.long x :: st') h1 r h' := (mX_virt hd (mn_cvD ht).1 (mn_cvD ht).2.1 hp h1 h2 hs hc (mn_cvD ht).2.2).trans (mn_exl hr)
theorem mV_v {i o C a : Nat} {vs st' : List Value} (hd : decode (mC M) pc = .ok (.invokevirtual i, 3)) (ht : mn_cvt M o i C = true) (hr : mR C = none) (hp : mP C ≤ st.length) (h1 : (st.take (mP C)).reverse = vs) (h2 : st.drop (mP C) = .ref a :: st') (hs : mn_sh a = (0, mO C)) (hc : mn_cok M C (.ref a :: vs) st' = true) : mn_E M pc ls st h r h' ↔ ∃ h1, mn_X C (.ref a :: vs) h none h1 ∧ mn_E M (pc + 3) ls st' h1 r h' := (mX_virt hd (mn_cvD ht).1 (mn_cvD ht).2.1 hp h1 h2 hs hc (mn_cvD ht).2.2).trans (mn_exv hr)
/-- all that a field asks of the table: an int slot, a reference slot -/
def mn_fi (M o i ci k : Nat) : Bool := decide (mO M = o) && (mn_fl o i == some (ci, k)) && decide (ci < 9) && decide (k < mn_nf ci) && !(mn_isr ci k)
def mn_fr (M o i ci k : Nat) : Bool := decide (mO M = o) && (mn_fl o i == some (ci, k)) && decide (ci < 9) && decide (k < mn_nf ci) && (mn_isr ci k)
theorem mG_i {a i o ci k : Nat} (hd : decode (mC M) pc = .ok (.getfield i, 3)) (hf : mn_fi M o i ci k = true) (hs : mn_sh a = (0, ci)) (ha : a < 74) : mn_E M pc ls (.ref a :: st) h r h' ↔ mn_E M (pc + 3) ls (.int (h a k) :: st) h r h' := by
  unfold mn_fi at hf
  simp only [Bool.and_eq_true, Bool.not_eq_true', decide_eq_true_eq, beq_iff_eq] at hf
  exact mX_geti hd hf.1.1.1.1 hf.1.1.1.2 hs ⟨hf.1.1.2, ha, hf.1.2, hf.2⟩
theorem mG_r {a b i o ci k : Nat} (hd : decode (mC M) pc = .ok (.getfield i, 3)) (hf : mn_fr M o i ci k = true) (hs : mn_sh a = (0, ci)) (ha : a < 74) (hr : mn_rf (h a) a k = b) : mn_E M pc ls (.ref a :: st) h r h' ↔ mn_E M (pc + 3) ls (.ref b :: st) h r h' := by
  unfold mn_fr at hf
  simp only [Bool.and_eq_true, decide_eq_true_eq, beq_iff_eq] at hf
  exact mX_getr hd hf.1.1.1.1 hf.1.1.1.2 hs ⟨hf.1.1.2, ha, hf.1.2, hf.2⟩ hr
theorem mP_i {a i o ci k : Nat} {x : Int32} (hd : decode (mC M) pc = .ok (.putfield i, 3)) (hf : mn_fi M o i ci k = true) (hs : mn_sh a = (0, ci)) (ha : a < 74) (hfin : mn_fin ci k = false) (hz : ¬ (ci = 1 ∧ k = 7) ∨ x = 0 ∨ x = 1) : mn_E M pc ls (.int x :: .ref a :: st) h r h' ↔ mn_E M (pc + 3) ls st (mn_up h a k x) r h' := by
  unfold mn_fi at hf
  simp only [Bool.and_eq_true, Bool.not_eq_true', decide_eq_true_eq, beq_iff_eq] at hf
  exact mX_puti hd hf.1.1.1.1 hf.1.1.1.2 hs ⟨hf.1.1.2, ha, hf.1.2, hf.2, hfin⟩ hz
end MNR
-- places of objects of which there are several
def mn_isT (t : Nat) : Prop := t = 23 ∨ t = 43
def mn_isQ (q : Nat) : Prop := q = 31 ∨ q = 35 ∨ q = 51 ∨ q = 55
def mn_isC (c : Nat) : Prop := c = 3 ∨ c = 5 ∨ c = 7
def mn_qn (q : Nat) : Nat := if q = 31 ∨ q = 51 then 8 else 4
def mn_hr (h : mn_H) : Nat := (h 0 6).toNatClampNeg
def mn_sp (h : mn_H) : Nat := (h 0 7).toNatClampNeg
theorem mn_ltT {t : Nat} (ht : mn_isT t) {k : Nat} (hk : k < 20) : t + k < 74 := by rcases ht with rfl | rfl <;> omega
theorem mn_ltT0 {t : Nat} (ht : mn_isT t) : t < 74 := by rcases ht with rfl | rfl <;> decide
theorem mn_ltQ {t : Nat} (ht : mn_isQ t) {k : Nat} (hk : k < 4) : t + k < 74 := by rcases ht with rfl | rfl | rfl | rfl <;> omega
theorem mn_ltQ0 {t : Nat} (ht : mn_isQ t) : t < 74 := by rcases ht with rfl | rfl | rfl | rfl <;> decide
theorem mn_ltC {t : Nat} (ht : mn_isC t) {k : Nat} (hk : k < 2) : t + k < 74 := by rcases ht with rfl | rfl | rfl <;> omega
theorem mn_ltC0 {t : Nat} (ht : mn_isC t) : t < 74 := by rcases ht with rfl | rfl | rfl <;> decide
theorem mn_Tc {t : Nat} (ht : mn_isT t) : mn_isQ (t + 8) := by rcases ht with rfl | rfl <;> simp [mn_isQ]
theorem mn_Ts {t : Nat} (ht : mn_isT t) : mn_isQ (t + 12) := by rcases ht with rfl | rfl <;> simp [mn_isQ]
theorem mn_shT0 {t : Nat} (ht : mn_isT t) : mn_sh (t) = (0, 5) := by rcases ht with rfl | rfl <;> rfl
theorem mn_shT1 {t : Nat} (ht : mn_isT t) : mn_sh (t + 1) = (1, 5) := by rcases ht with rfl | rfl <;> rfl
theorem mn_shT2 {t : Nat} (ht : mn_isT t) : mn_sh (t + 2) = (1, 5) := by rcases ht with rfl | rfl <;> rfl
theorem mn_shT3 {t : Nat} (ht : mn_isT t) : mn_sh (t + 3) = (1, 5) := by rcases ht with rfl | rfl <;> rfl
theorem mn_shT4 {t : Nat} (ht : mn_isT t) : mn_sh (t + 4) = (1, 6) := by rcases ht with rfl | rfl <;> rfl
theorem mn_shT5 {t : Nat} (ht : mn_isT t) : mn_sh (t + 5) = (1, 6) := by rcases ht with rfl | rfl <;> rfl
theorem mn_shT6 {t : Nat} (ht : mn_isT t) : mn_sh (t + 6) = (1, 6) := by rcases ht with rfl | rfl <;> rfl
theorem mn_shT7 {t : Nat} (ht : mn_isT t) : mn_sh (t + 7) = (1, 6) := by rcases ht with rfl | rfl <;> rfl
theorem mn_shT8 {t : Nat} (ht : mn_isT t) : mn_sh (t + 8) = (0, 4) := by rcases ht with rfl | rfl <;> rfl
theorem mn_shT9 {t : Nat} (ht : mn_isT t) : mn_sh (t + 9) = (1, 8) := by rcases ht with rfl | rfl <;> rfl
theorem mn_shT10 {t : Nat} (ht : mn_isT t) : mn_sh (t + 10) = (1, 8) := by rcases ht with rfl | rfl <;> rfl
theorem mn_shT11 {t : Nat} (ht : mn_isT t) : mn_sh (t + 11) = (1, 8) := by rcases ht with rfl | rfl <;> rfl
theorem mn_shT12 {t : Nat} (ht : mn_isT t) : mn_sh (t + 12) = (0, 4) := by rcases ht with rfl | rfl <;> rfl
theorem mn_shT13 {t : Nat} (ht : mn_isT t) : mn_sh (t + 13) = (1, 4) := by rcases ht with rfl | rfl <;> rfl
theorem mn_shT14 {t : Nat} (ht : mn_isT t) : mn_sh (t + 14) = (1, 4) := by rcases ht with rfl | rfl <;> rfl
theorem mn_shT15 {t : Nat} (ht : mn_isT t) : mn_sh (t + 15) = (1, 4) := by rcases ht with rfl | rfl <;> rfl
theorem mn_shT16 {t : Nat} (ht : mn_isT t) : mn_sh (t + 16) = (1, 3) := by rcases ht with rfl | rfl <;> rfl
theorem mn_shT17 {t : Nat} (ht : mn_isT t) : mn_sh (t + 17) = (1, 3) := by rcases ht with rfl | rfl <;> rfl
theorem mn_shT18 {t : Nat} (ht : mn_isT t) : mn_sh (t + 18) = (1, 3) := by rcases ht with rfl | rfl <;> rfl
theorem mn_shT19 {t : Nat} (ht : mn_isT t) : mn_sh (t + 19) = (1, 6) := by rcases ht with rfl | rfl <;> rfl
theorem mn_shQ0 {t : Nat} (ht : mn_isQ t) : mn_sh t = (0, 4) := by rcases ht with rfl | rfl | rfl | rfl <;> rfl
theorem mn_shQ1 {t : Nat} (ht : mn_isQ t) : mn_sh (t + 1) = (1, mn_qn t) := by rcases ht with rfl | rfl | rfl | rfl <;> rfl
theorem mn_shQ2 {t : Nat} (ht : mn_isQ t) : mn_sh (t + 2) = (1, mn_qn t) := by rcases ht with rfl | rfl | rfl | rfl <;> rfl
theorem mn_shQ3 {t : Nat} (ht : mn_isQ t) : mn_sh (t + 3) = (1, mn_qn t) := by rcases ht with rfl | rfl | rfl | rfl <;> rfl
theorem mn_shC0 {t : Nat} (ht : mn_isC t) : mn_sh t = (0, 1) := by rcases ht with rfl | rfl | rfl <;> rfl
theorem mn_shC1 {t : Nat} (ht : mn_isC t) : mn_sh (t + 1) = (1, 60) := by rcases ht with rfl | rfl | rfl <;> rfl
theorem mn_rfT1 {t : Nat} (ht : mn_isT t) (f : Nat → Int32) : mn_rf f t 1 = t + 1 := by rcases ht with rfl | rfl <;> rfl
theorem mn_rfT2 {t : Nat} (ht : mn_isT t) (f : Nat → Int32) : mn_rf f t 2 = t + 2 := by rcases ht with rfl | rfl <;> rfl
theorem mn_rfT3 {t : Nat} (ht : mn_isT t) (f : Nat → Int32) : mn_rf f t 3 = t + 3 := by rcases ht with rfl | rfl <;> rfl
theorem mn_rfT5 {t : Nat} (ht : mn_isT t) (f : Nat → Int32) : mn_rf f t 5 = t + 4 := by rcases ht with rfl | rfl <;> rfl
theorem mn_rfT6 {t : Nat} (ht : mn_isT t) (f : Nat → Int32) : mn_rf f t 6 = t + 5 := by rcases ht with rfl | rfl <;> rfl
theorem mn_rfT7 {t : Nat} (ht : mn_isT t) (f : Nat → Int32) : mn_rf f t 7 = t + 6 := by rcases ht with rfl | rfl <;> rfl
theorem mn_rfT8 {t : Nat} (ht : mn_isT t) (f : Nat → Int32) : mn_rf f t 8 = t + 7 := by rcases ht with rfl | rfl <;> rfl
theorem mn_rfT9 {t : Nat} (ht : mn_isT t) (f : Nat → Int32) : mn_rf f t 9 = t + 8 := by rcases ht with rfl | rfl <;> rfl
theorem mn_rfT10 {t : Nat} (ht : mn_isT t) (f : Nat → Int32) : mn_rf f t 10 = t + 12 := by rcases ht with rfl | rfl <;> rfl
theorem mn_rfT12 {t : Nat} (ht : mn_isT t) (f : Nat → Int32) : mn_rf f t 12 = t + 16 := by rcases ht with rfl | rfl <;> rfl
theorem mn_rfT13 {t : Nat} (ht : mn_isT t) (f : Nat → Int32) : mn_rf f t 13 = t + 17 := by rcases ht with rfl | rfl <;> rfl
theorem mn_rfT14 {t : Nat} (ht : mn_isT t) (f : Nat → Int32) : mn_rf f t 14 = t + 18 := by rcases ht with rfl | rfl <;> rfl
theorem mn_rfT15 {t : Nat} (ht : mn_isT t) (f : Nat → Int32) : mn_rf f t 15 = t + 19 := by rcases ht with rfl | rfl <;> rfl
theorem mn_rfQ0 {t : Nat} (ht : mn_isQ t) (f : Nat → Int32) : mn_rf f t 0 = t + 1 := by rcases ht with rfl | rfl | rfl | rfl <;> rfl
theorem mn_rfQ1 {t : Nat} (ht : mn_isQ t) (f : Nat → Int32) : mn_rf f t 1 = t + 2 := by rcases ht with rfl | rfl | rfl | rfl <;> rfl
theorem mn_rfQ2 {t : Nat} (ht : mn_isQ t) (f : Nat → Int32) : mn_rf f t 2 = t + 3 := by rcases ht with rfl | rfl | rfl | rfl <;> rfl
theorem mn_rfC1 {t : Nat} (ht : mn_isC t) (f : Nat → Int32) : mn_rf f t 1 = t + 1 := by rcases ht with rfl | rfl | rfl <;> rfl
theorem mn_im {i : Int32} (hb : vp_in i 2) : mn_isC (5 + 2 * i.toNatClampNeg) := by
  have h2 : i.toNatClampNeg < 2 := Nat.not_le.mp fun q => hb (Or.inr q)
  have : i.toNatClampNeg = 0 ∨ i.toNatClampNeg = 1 := by omega
  rcases this with e | e <;> rw [e] <;> simp [mn_isC]
end
section
theorem fs_0 : mn_fl 9 9 = some (9, 0) := by decide +kernel
theorem fs_1 : mn_fl 9 15 = some (9, 1) := by decide +kernel
theorem kc_7_58 : mn_cst 7 58 = some (-1000000002) := by decide +kernel
theorem kc_7_67 : mn_cst 7 67 = some (-1000000004) := by decide +kernel
theorem kc_7_142 : mn_cst 7 142 = some (-1000000001) := by decide +kernel
theorem kc_7_231 : mn_cst 7 231 = some (-1000000003) := by decide +kernel
theorem kc_1_46 : mn_cst 1 46 = some (65536) := by decide +kernel
theorem kc_8_42 : mn_cst 8 42 = some (63360) := by decide +kernel
theorem kc_8_50 : mn_cst 8 50 = some (-1000000002) := by decide +kernel
theorem kc_8_54 : mn_cst 8 54 = some (-1000000004) := by decide +kernel
theorem kc_8_124 : mn_cst 8 124 = some (-1000000001) := by decide +kernel
theorem kc_8_181 : mn_cst 8 181 = some (-1000000003) := by decide +kernel
theorem kc_8_185 : mn_cst 8 185 = some (1103515245) := by decide +kernel
theorem kc_8_186 : mn_cst 8 186 = some (2147483647) := by decide +kernel
theorem kc_8_187 : mn_cst 8 187 = some (65536) := by decide +kernel
theorem kc_11_265 : mn_cst 11 265 = some (1431655765) := by decide +kernel
theorem kc_11_266 : mn_cst 11 266 = some (858993459) := by decide +kernel
theorem kc_11_267 : mn_cst 11 267 = some (252645135) := by decide +kernel
theorem kl_7_334 : mn_cstl 7 334 = some (-1) := by decide +kernel
theorem kl_1_40 : mn_cstl 1 40 = some (1103515245) := by decide +kernel
theorem kl_1_42 : mn_cstl 1 42 = some (12345) := by decide +kernel
theorem kl_1_44 : mn_cstl 1 44 = some (2147483647) := by decide +kernel
theorem kl_12_314 : mn_cstl 12 314 = some (6148914691236517205) := by decide +kernel
theorem kl_12_316 : mn_cstl 12 316 = some (3689348814741910323) := by decide +kernel
theorem kl_12_318 : mn_cstl 12 318 = some (1085102592571150095) := by decide +kernel
theorem fq_6 : mn_fl 7 51 = some (7, 6) := by decide +kernel
theorem fq_7 : mn_fl 7 55 = some (7, 7) := by decide +kernel
theorem cl_0 : Int64.ofNat ((0 : Fin 2).val) = 0 := by decide +kernel
theorem cl_1 : Int64.ofNat ((1 : Fin 2).val) = 1 := by decide +kernel
theorem ci_m1 : Int32.ofInt (-1) = (-1) := by decide +kernel
theorem ci_0 : Int32.ofInt 0 = 0 := by decide +kernel
theorem ci_1 : Int32.ofInt 1 = 1 := by decide +kernel
theorem ci_2 : Int32.ofInt 2 = 2 := by decide +kernel
theorem ci_3 : Int32.ofInt 3 = 3 := by decide +kernel
theorem ci_4 : Int32.ofInt 4 = 4 := by decide +kernel
theorem ci_5 : Int32.ofInt 5 = 5 := by decide +kernel
theorem cb_m10 : (Int8.ofInt (-10)).toInt32 = (-10) := by decide +kernel
theorem cb_6 : (Int8.ofInt 6).toInt32 = 6 := by decide +kernel
theorem cb_7 : (Int8.ofInt 7).toInt32 = 7 := by decide +kernel
theorem cb_8 : (Int8.ofInt 8).toInt32 = 8 := by decide +kernel
theorem cb_9 : (Int8.ofInt 9).toInt32 = 9 := by decide +kernel
theorem cb_10 : (Int8.ofInt 10).toInt32 = 10 := by decide +kernel
theorem cb_11 : (Int8.ofInt 11).toInt32 = 11 := by decide +kernel
theorem cb_12 : (Int8.ofInt 12).toInt32 = 12 := by decide +kernel
theorem cb_16 : (Int8.ofInt 16).toInt32 = 16 := by decide +kernel
theorem cb_20 : (Int8.ofInt 20).toInt32 = 20 := by decide +kernel
theorem cb_32 : (Int8.ofInt 32).toInt32 = 32 := by decide +kernel
theorem cb_36 : (Int8.ofInt 36).toInt32 = 36 := by decide +kernel
theorem cb_44 : (Int8.ofInt 44).toInt32 = 44 := by decide +kernel
theorem cb_48 : (Int8.ofInt 48).toInt32 = 48 := by decide +kernel
theorem cb_50 : (Int8.ofInt 50).toInt32 = 50 := by decide +kernel
theorem cb_57 : (Int8.ofInt 57).toInt32 = 57 := by decide +kernel
theorem cb_59 : (Int8.ofInt 59).toInt32 = 59 := by decide +kernel
theorem cb_60 : (Int8.ofInt 60).toInt32 = 60 := by decide +kernel
theorem cb_63 : (Int8.ofInt 63).toInt32 = 63 := by decide +kernel
theorem cb_64 : (Int8.ofInt 64).toInt32 = 64 := by decide +kernel
theorem cb_65 : (Int8.ofInt 65).toInt32 = 65 := by decide +kernel
theorem cb_68 : (Int8.ofInt 68).toInt32 = 68 := by decide +kernel
theorem cb_80 : (Int8.ofInt 80).toInt32 = 80 := by decide +kernel
theorem cb_89 : (Int8.ofInt 89).toInt32 = 89 := by decide +kernel
theorem cb_95 : (Int8.ofInt 95).toInt32 = 95 := by decide +kernel
theorem cb_96 : (Int8.ofInt 96).toInt32 = 96 := by decide +kernel
theorem cb_99 : (Int8.ofInt 99).toInt32 = 99 := by decide +kernel
theorem cb_100 : (Int8.ofInt 100).toInt32 = 100 := by decide +kernel
theorem cb_107 : (Int8.ofInt 107).toInt32 = 107 := by decide +kernel
theorem cb_109 : (Int8.ofInt 109).toInt32 = 109 := by decide +kernel
theorem cb_121 : (Int8.ofInt 121).toInt32 = 121 := by decide +kernel
theorem cb_127 : (Int8.ofInt 127).toInt32 = 127 := by decide +kernel
theorem cs_m300 : (Int16.ofInt (-300)).toInt32 = (-300) := by decide +kernel
theorem cs_180 : (Int16.ofInt 180).toInt32 = 180 := by decide +kernel
theorem cs_250 : (Int16.ofInt 250).toInt32 = 250 := by decide +kernel
theorem cs_255 : (Int16.ofInt 255).toInt32 = 255 := by decide +kernel
theorem cs_999 : (Int16.ofInt 999).toInt32 = 999 := by decide +kernel
theorem cs_1000 : (Int16.ofInt 1000).toInt32 = 1000 := by decide +kernel
theorem cs_4095 : (Int16.ofInt 4095).toInt32 = 4095 := by decide +kernel
theorem cs_4096 : (Int16.ofInt 4096).toInt32 = 4096 := by decide +kernel
theorem cs_12345 : (Int16.ofInt 12345).toInt32 = 12345 := by decide +kernel
-- X0_begin
theorem mo_0 : mO 0 = 0 := rfl
theorem d_X0_begin_0 : decode (mC 0) 0 = .ok (.aload_n 0, 1) := by decide +kernel
theorem d_X0_begin_1 : decode (mC 0) 1 = .ok (.iload_n 1, 1) := by decide +kernel
theorem d_X0_begin_2 : decode (mC 0) 2 = .ok (.putfield 18, 3) := by decide +kernel
theorem d_X0_begin_5 : decode (mC 0) 5 = .ok (.aload_n 0, 1) := by decide +kernel
theorem d_X0_begin_6 : decode (mC 0) 6 = .ok (.iload_n 2, 1) := by decide +kernel
theorem d_X0_begin_7 : decode (mC 0) 7 = .ok (.putfield 22, 3) := by decide +kernel
theorem d_X0_begin_10 : decode (mC 0) 10 = .ok (.aload_n 0, 1) := by decide +kernel
theorem d_X0_begin_11 : decode (mC 0) 11 = .ok (.getfield 9, 3) := by decide +kernel
theorem d_X0_begin_14 : decode (mC 0) 14 = .ok (.iconst (-1), 1) := by decide +kernel
theorem d_X0_begin_15 : decode (mC 0) 15 = .ok (.invokestatic 25, 3) := by decide +kernel
theorem d_X0_begin_18 : decode (mC 0) 18 = .ok (.return_, 1) := by decide +kernel
theorem fi_0_18 : mn_fi 0 0 18 0 3 = true := by decide +kernel
theorem fi_0_22 : mn_fi 0 0 22 0 2 = true := by decide +kernel
theorem fr_0_9 : mn_fr 0 0 9 0 0 = true := by decide +kernel
theorem cs_0_25 : mn_cs 0 0 25 192 = true := by decide +kernel
theorem b_X0_begin_0 {x1 x2 : Int32} {h h' : mn_H} {r : Option Value} : mn_E 0 0 [.ref 20, .int x1, .int x2] [] h r h' ↔ ∃ h1, mn_X 192 [.ref 21, .int (-1)] (mn_up (mn_up h 20 3 x1) 20 2 x2) none h1 ∧ mn_E 0 18 [.ref 20, .int x1, .int x2] [] h1 r h' :=
  (mX_aload_n d_X0_begin_0 rfl).trans <| (mX_iload_n d_X0_begin_1 rfl).trans <| (mP_i d_X0_begin_2 fi_0_18 rfl (by decide) rfl (Or.inl (by decide))).trans <| (mX_aload_n d_X0_begin_5 rfl).trans <| (mX_iload_n d_X0_begin_6 rfl).trans <| (mP_i d_X0_begin_7 fi_0_22 rfl (by decide) rfl (Or.inl (by decide))).trans <| (mX_aload_n d_X0_begin_10 rfl).trans <| (mG_r (b := 21) d_X0_begin_11 fr_0_9 rfl (by decide) rfl).trans <| (mX_iconst d_X0_begin_14 ci_m1).trans <| mS_v (vs := [.ref 21, .int (-1)]) (st' := []) d_X0_begin_15 cs_0_25 rfl (Nat.le_of_ble_eq_true rfl) rfl rfl rfl
theorem b_X0_begin_18 {x1 x2 : Int32} {h h' : mn_H} {r : Option Value} : mn_E 0 18 [.ref 20, .int x1, .int x2] [] h r h' ↔ r = none ∧ h' = h :=
  mX_vret d_X0_begin_18 rfl
-- X0_loopFrom
theorem mo_1 : mO 1 = 0 := rfl
theorem d_X0_loopFrom_0 : decode (mC 1) 0 = .ok (.aload_n 0, 1) := by decide +kernel
theorem d_X0_loopFrom_1 : decode (mC 1) 1 = .ok (.getfield 15, 3) := by decide +kernel
theorem d_X0_loopFrom_4 : decode (mC 1) 4 = .ok (.iconst (-1), 1) := by decide +kernel
theorem d_X0_loopFrom_5 : decode (mC 1) 5 = .ok (.invokestatic 25, 3) := by decide +kernel
theorem d_X0_loopFrom_8 : decode (mC 1) 8 = .ok (.iload_n 3, 1) := by decide +kernel
theorem d_X0_loopFrom_9 : decode (mC 1) 9 = .ok (.istore 4, 2) := by decide +kernel
theorem d_X0_loopFrom_11 : decode (mC 1) 11 = .ok (.iconst 0, 1) := by decide +kernel
theorem d_X0_loopFrom_12 : decode (mC 1) 12 = .ok (.istore 5, 2) := by decide +kernel
theorem d_X0_loopFrom_14 : decode (mC 1) 14 = .ok (.iload 5, 2) := by decide +kernel
theorem d_X0_loopFrom_16 : decode (mC 1) 16 = .ok (.bipush 64, 2) := by decide +kernel
theorem d_X0_loopFrom_18 : decode (mC 1) 18 = .ok (.if_icmp .gt 80, 3) := by decide +kernel
theorem d_X0_loopFrom_21 : decode (mC 1) 21 = .ok (.aload_n 0, 1) := by decide +kernel
theorem d_X0_loopFrom_22 : decode (mC 1) 22 = .ok (.getfield 15, 3) := by decide +kernel
theorem d_X0_loopFrom_25 : decode (mC 1) 25 = .ok (.iload 4, 2) := by decide +kernel
theorem d_X0_loopFrom_27 : decode (mC 1) 27 = .ok (.iaload, 1) := by decide +kernel
theorem d_X0_loopFrom_28 : decode (mC 1) 28 = .ok (.iconst (-1), 1) := by decide +kernel
theorem d_X0_loopFrom_29 : decode (mC 1) 29 = .ok (.if_icmp .eq 19, 3) := by decide +kernel
theorem d_X0_loopFrom_32 : decode (mC 1) 32 = .ok (.iload 5, 2) := by decide +kernel
theorem d_X0_loopFrom_34 : decode (mC 1) 34 = .ok (.aload_n 0, 1) := by decide +kernel
theorem d_X0_loopFrom_35 : decode (mC 1) 35 = .ok (.getfield 15, 3) := by decide +kernel
theorem d_X0_loopFrom_38 : decode (mC 1) 38 = .ok (.iload 4, 2) := by decide +kernel
theorem d_X0_loopFrom_40 : decode (mC 1) 40 = .ok (.iaload, 1) := by decide +kernel
theorem d_X0_loopFrom_41 : decode (mC 1) 41 = .ok (.isub, 1) := by decide +kernel
theorem d_X0_loopFrom_42 : decode (mC 1) 42 = .ok (.aload_n 0, 1) := by decide +kernel
theorem d_X0_loopFrom_43 : decode (mC 1) 43 = .ok (.getfield 18, 3) := by decide +kernel
theorem d_X0_loopFrom_46 : decode (mC 1) 46 = .ok (.imul, 1) := by decide +kernel
theorem d_X0_loopFrom_47 : decode (mC 1) 47 = .ok (.ireturn, 1) := by decide +kernel
theorem d_X0_loopFrom_48 : decode (mC 1) 48 = .ok (.aload_n 0, 1) := by decide +kernel
theorem d_X0_loopFrom_49 : decode (mC 1) 49 = .ok (.getfield 15, 3) := by decide +kernel
theorem d_X0_loopFrom_52 : decode (mC 1) 52 = .ok (.iload 4, 2) := by decide +kernel
theorem d_X0_loopFrom_54 : decode (mC 1) 54 = .ok (.iload 5, 2) := by decide +kernel
theorem d_X0_loopFrom_56 : decode (mC 1) 56 = .ok (.iastore, 1) := by decide +kernel
theorem d_X0_loopFrom_57 : decode (mC 1) 57 = .ok (.iconst 0, 1) := by decide +kernel
theorem d_X0_loopFrom_58 : decode (mC 1) 58 = .ok (.istore 6, 2) := by decide +kernel
theorem d_X0_loopFrom_60 : decode (mC 1) 60 = .ok (.iload 6, 2) := by decide +kernel
theorem d_X0_loopFrom_62 : decode (mC 1) 62 = .ok (.aload_n 0, 1) := by decide +kernel
theorem d_X0_loopFrom_63 : decode (mC 1) 63 = .ok (.getfield 18, 3) := by decide +kernel
theorem d_X0_loopFrom_66 : decode (mC 1) 66 = .ok (.if_icmp .ge 26, 3) := by decide +kernel
theorem d_X0_loopFrom_69 : decode (mC 1) 69 = .ok (.aload_n 0, 1) := by decide +kernel
theorem d_X0_loopFrom_70 : decode (mC 1) 70 = .ok (.aload_n 1, 1) := by decide +kernel
theorem d_X0_loopFrom_71 : decode (mC 1) 71 = .ok (.aload_n 2, 1) := by decide +kernel
theorem d_X0_loopFrom_72 : decode (mC 1) 72 = .ok (.iload 4, 2) := by decide +kernel
theorem d_X0_loopFrom_74 : decode (mC 1) 74 = .ok (.aload_n 0, 1) := by decide +kernel
theorem d_X0_loopFrom_75 : decode (mC 1) 75 = .ok (.getfield 22, 3) := by decide +kernel
theorem d_X0_loopFrom_78 : decode (mC 1) 78 = .ok (.iload 6, 2) := by decide +kernel
theorem d_X0_loopFrom_80 : decode (mC 1) 80 = .ok (.iadd, 1) := by decide +kernel
theorem d_X0_loopFrom_81 : decode (mC 1) 81 = .ok (.invokevirtual 31, 3) := by decide +kernel
theorem d_X0_loopFrom_84 : decode (mC 1) 84 = .ok (.istore 4, 2) := by decide +kernel
theorem d_X0_loopFrom_86 : decode (mC 1) 86 = .ok (.iinc 6 1, 3) := by decide +kernel
theorem d_X0_loopFrom_89 : decode (mC 1) 89 = .ok (.goto (-29), 3) := by decide +kernel
theorem d_X0_loopFrom_92 : decode (mC 1) 92 = .ok (.iinc 5 1, 3) := by decide +kernel
theorem d_X0_loopFrom_95 : decode (mC 1) 95 = .ok (.goto (-81), 3) := by decide +kernel
theorem d_X0_loopFrom_98 : decode (mC 1) 98 = .ok (.iconst 0, 1) := by decide +kernel
theorem d_X0_loopFrom_99 : decode (mC 1) 99 = .ok (.ireturn, 1) := by decide +kernel
theorem fr_1_15 : mn_fr 1 0 15 0 1 = true := by decide +kernel
theorem cs_1_25 : mn_cs 1 0 25 192 = true := by decide +kernel
theorem fi_1_18 : mn_fi 1 0 18 0 3 = true := by decide +kernel
theorem fi_1_22 : mn_fi 1 0 22 0 2 = true := by decide +kernel
theorem cv_1_31 : mn_cvt 1 0 31 3 = true := by decide +kernel
theorem b_X0_loopFrom_0 {x3 : Int32} {a1 : Nat} {h h' : mn_H} {r : Option Value} (ha1 : mn_isT a1) : mn_E 1 0 [.ref 20, .ref a1, .ref 16, .int x3, .null, .null, .null] [] h r h' ↔ ∃ h1, mn_X 192 [.ref 22, .int (-1)] h none h1 ∧ mn_E 1 8 [.ref 20, .ref a1, .ref 16, .int x3, .null, .null, .null] [] h1 r h' :=
  (mX_aload_n d_X0_loopFrom_0 rfl).trans <| (mG_r (b := 22) d_X0_loopFrom_1 fr_1_15 rfl (by decide) rfl).trans <| (mX_iconst d_X0_loopFrom_4 ci_m1).trans <| mS_v (vs := [.ref 22, .int (-1)]) (st' := []) d_X0_loopFrom_5 cs_1_25 rfl (Nat.le_of_ble_eq_true rfl) rfl rfl rfl
theorem b_X0_loopFrom_8 {x3 : Int32} {a1 : Nat} {h h' : mn_H} {r : Option Value} (ha1 : mn_isT a1) : mn_E 1 8 [.ref 20, .ref a1, .ref 16, .int x3, .null, .null, .null] [] h r h' ↔ mn_E 1 14 [.ref 20, .ref a1, .ref 16, .int x3, .int x3, .int 0, .null] [] h r h' :=
  (mX_iload_n d_X0_loopFrom_8 rfl).trans <| (mX_istore (ls' := [.ref 20, .ref a1, .ref 16, .int x3, .int x3, .null, .null]) d_X0_loopFrom_9 rfl rfl).trans <| (mX_iconst d_X0_loopFrom_11 ci_0).trans <| mX_istore (ls' := [.ref 20, .ref a1, .ref 16, .int x3, .int x3, .int 0, .null]) d_X0_loopFrom_12 rfl rfl
theorem b_X0_loopFrom_14 {x3 x4 x5 : Int32} {a1 : Nat} {h h' : mn_H} {r : Option Value} (ha1 : mn_isT a1) : mn_E 1 14 [.ref 20, .ref a1, .ref 16, .int x3, .int x4, .int x5, .null] [] h r h' ↔ if (64 : Int32) < x5 then mn_E 1 98 [.ref 20, .ref a1, .ref 16, .int x3, .int x4, .int x5, .null] [] h r h' else mn_E 1 21 [.ref 20, .ref a1, .ref 16, .int x3, .int x4, .int x5, .null] [] h r h' :=
  (mX_iload d_X0_loopFrom_14 rfl).trans <| (mX_bipush d_X0_loopFrom_16 cb_64).trans <| mX_icmp_gt d_X0_loopFrom_18 rfl
theorem b_X0_loopFrom_21 {x3 x4 x5 : Int32} {a1 : Nat} {h h' : mn_H} {r : Option Value} (ha1 : mn_isT a1) (hy1 : vp_in x4 64) : mn_E 1 21 [.ref 20, .ref a1, .ref 16, .int x3, .int x4, .int x5, .null] [] h r h' ↔ if (h 22 x4.toNatClampNeg) = (-1) then mn_E 1 48 [.ref 20, .ref a1, .ref 16, .int x3, .int x4, .int x5, .null] [] h r h' else mn_E 1 32 [.ref 20, .ref a1, .ref 16, .int x3, .int x4, .int x5, .null] [] h r h' :=
  (mX_aload_n d_X0_loopFrom_21 rfl).trans <| (mG_r (b := 22) d_X0_loopFrom_22 fr_1_15 rfl (by decide) rfl).trans <| (mX_iload d_X0_loopFrom_25 rfl).trans <| (mX_iaload d_X0_loopFrom_27 rfl (by decide) hy1).trans <| (mX_iconst d_X0_loopFrom_28 ci_m1).trans <| mX_icmp_eq d_X0_loopFrom_29 rfl
theorem b_X0_loopFrom_32 {x3 x4 x5 : Int32} {a1 : Nat} {h h' : mn_H} {r : Option Value} (ha1 : mn_isT a1) (hy1 : vp_in x4 64) : mn_E 1 32 [.ref 20, .ref a1, .ref 16, .int x3, .int x4, .int x5, .null] [] h r h' ↔ r = some (.int ((x5 - (h 22 x4.toNatClampNeg)) * (h 20 3))) ∧ h' = h :=
  (mX_iload d_X0_loopFrom_32 rfl).trans <| (mX_aload_n d_X0_loopFrom_34 rfl).trans <| (mG_r (b := 22) d_X0_loopFrom_35 fr_1_15 rfl (by decide) rfl).trans <| (mX_iload d_X0_loopFrom_38 rfl).trans <| (mX_iaload d_X0_loopFrom_40 rfl (by decide) hy1).trans <| (mX_isub d_X0_loopFrom_41).trans <| (mX_aload_n d_X0_loopFrom_42 rfl).trans <| (mG_i d_X0_loopFrom_43 fi_1_18 rfl (by decide)).trans <| (mX_imul d_X0_loopFrom_46).trans <| mX_iret d_X0_loopFrom_47 rfl
theorem b_X0_loopFrom_48 {x3 x4 x5 : Int32} {a1 : Nat} {h h' : mn_H} {r : Option Value} (ha1 : mn_isT a1) (hy1 : vp_in x4 64) : mn_E 1 48 [.ref 20, .ref a1, .ref 16, .int x3, .int x4, .int x5, .null] [] h r h' ↔ mn_E 1 60 [.ref 20, .ref a1, .ref 16, .int x3, .int x4, .int x5, .int 0] [] (mn_up h 22 (x4.toNatClampNeg) x5) r h' :=
  (mX_aload_n d_X0_loopFrom_48 rfl).trans <| (mG_r (b := 22) d_X0_loopFrom_49 fr_1_15 rfl (by decide) rfl).trans <| (mX_iload d_X0_loopFrom_52 rfl).trans <| (mX_iload d_X0_loopFrom_54 rfl).trans <| (mX_iastore d_X0_loopFrom_56 rfl (by decide) hy1).trans <| (mX_iconst d_X0_loopFrom_57 ci_0).trans <| mX_istore (ls' := [.ref 20, .ref a1, .ref 16, .int x3, .int x4, .int x5, .int 0]) d_X0_loopFrom_58 rfl rfl
theorem b_X0_loopFrom_60 {x3 x4 x5 x6 : Int32} {a1 : Nat} {h h' : mn_H} {r : Option Value} (ha1 : mn_isT a1) : mn_E 1 60 [.ref 20, .ref a1, .ref 16, .int x3, .int x4, .int x5, .int x6] [] h r h' ↔ if (h 20 3) ≤ x6 then mn_E 1 92 [.ref 20, .ref a1, .ref 16, .int x3, .int x4, .int x5, .int x6] [] h r h' else mn_E 1 69 [.ref 20, .ref a1, .ref 16, .int x3, .int x4, .int x5, .int x6] [] h r h' :=
  (mX_iload d_X0_loopFrom_60 rfl).trans <| (mX_aload_n d_X0_loopFrom_62 rfl).trans <| (mG_i d_X0_loopFrom_63 fi_1_18 rfl (by decide)).trans <| mX_icmp_ge d_X0_loopFrom_66 rfl
theorem b_X0_loopFrom_69 {x3 x4 x5 x6 : Int32} {a1 : Nat} {h h' : mn_H} {r : Option Value} (ha1 : mn_isT a1) : mn_E 1 69 [.ref 20, .ref a1, .ref 16, .int x3, .int x4, .int x5, .int x6] [] h r h' ↔ ∃ x h1, mn_X 3 [.ref 20, .ref a1, .ref 16, .int x4, .int ((h 20 2) + x6)] h (some (.int x)) h1 ∧ mn_E 1 84 [.ref 20, .ref a1, .ref 16, .int x3, .int x4, .int x5, .int x6] [.int x] h1 r h' :=
  (mX_aload_n d_X0_loopFrom_69 rfl).trans <| (mX_aload_n d_X0_loopFrom_70 rfl).trans <| (mX_aload_n d_X0_loopFrom_71 rfl).trans <| (mX_iload d_X0_loopFrom_72 rfl).trans <| (mX_aload_n d_X0_loopFrom_74 rfl).trans <| (mG_i d_X0_loopFrom_75 fi_1_22 rfl (by decide)).trans <| (mX_iload d_X0_loopFrom_78 rfl).trans <| (mX_iadd d_X0_loopFrom_80).trans <| mV_i (a := 20) (vs := [.ref a1, .ref 16, .int x4, .int ((h 20 2) + x6)]) (st' := []) d_X0_loopFrom_81 cv_1_31 (Or.inl rfl) (Nat.le_of_ble_eq_true rfl) rfl rfl rfl rfl
theorem b_X0_loopFrom_84 {x3 x4 x5 x6 s0 : Int32} {a1 : Nat} {h h' : mn_H} {r : Option Value} (ha1 : mn_isT a1) : mn_E 1 84 [.ref 20, .ref a1, .ref 16, .int x3, .int x4, .int x5, .int x6] [.int s0] h r h' ↔ mn_E 1 60 [.ref 20, .ref a1, .ref 16, .int x3, .int s0, .int x5, .int (x6 + 1)] [] h r h' :=
  (mX_istore (ls' := [.ref 20, .ref a1, .ref 16, .int x3, .int s0, .int x5, .int x6]) d_X0_loopFrom_84 rfl rfl).trans <| (mX_iinc (ls' := [.ref 20, .ref a1, .ref 16, .int x3, .int s0, .int x5, .int (x6 + 1)]) d_X0_loopFrom_86 rfl ci_1 rfl rfl).trans <| mX_goto d_X0_loopFrom_89 rfl
theorem b_X0_loopFrom_92 {x3 x4 x5 x6 : Int32} {a1 : Nat} {h h' : mn_H} {r : Option Value} (ha1 : mn_isT a1) : mn_E 1 92 [.ref 20, .ref a1, .ref 16, .int x3, .int x4, .int x5, .int x6] [] h r h' ↔ mn_E 1 14 [.ref 20, .ref a1, .ref 16, .int x3, .int x4, .int (x5 + 1), .int x6] [] h r h' :=
  (mX_iinc (ls' := [.ref 20, .ref a1, .ref 16, .int x3, .int x4, .int (x5 + 1), .int x6]) d_X0_loopFrom_92 rfl ci_1 rfl rfl).trans <| mX_goto d_X0_loopFrom_95 rfl
theorem b_X0_loopFrom_98 {x3 x4 x5 : Int32} {a1 : Nat} {h h' : mn_H} {r : Option Value} (ha1 : mn_isT a1) : mn_E 1 98 [.ref 20, .ref a1, .ref 16, .int x3, .int x4, .int x5, .null] [] h r h' ↔ r = some (.int 0) ∧ h' = h :=
  (mX_iconst d_X0_loopFrom_98 ci_0).trans <| mX_iret d_X0_loopFrom_99 rfl
-- X0_leadFrom
theorem mo_2 : mO 2 = 0 := rfl
theorem d_X0_leadFrom_0 : decode (mC 2) 0 = .ok (.iload_n 3, 1) := by decide +kernel
theorem d_X0_leadFrom_1 : decode (mC 2) 1 = .ok (.istore 5, 2) := by decide +kernel
theorem d_X0_leadFrom_3 : decode (mC 2) 3 = .ok (.iconst 0, 1) := by decide +kernel
theorem d_X0_leadFrom_4 : decode (mC 2) 4 = .ok (.istore 6, 2) := by decide +kernel
theorem d_X0_leadFrom_6 : decode (mC 2) 6 = .ok (.iload 6, 2) := by decide +kernel
theorem d_X0_leadFrom_8 : decode (mC 2) 8 = .ok (.iload 4, 2) := by decide +kernel
theorem d_X0_leadFrom_10 : decode (mC 2) 10 = .ok (.if_icmp .ge 26, 3) := by decide +kernel
theorem d_X0_leadFrom_13 : decode (mC 2) 13 = .ok (.aload_n 0, 1) := by decide +kernel
theorem d_X0_leadFrom_14 : decode (mC 2) 14 = .ok (.aload_n 1, 1) := by decide +kernel
theorem d_X0_leadFrom_15 : decode (mC 2) 15 = .ok (.aload_n 2, 1) := by decide +kernel
theorem d_X0_leadFrom_16 : decode (mC 2) 16 = .ok (.iload 5, 2) := by decide +kernel
theorem d_X0_leadFrom_18 : decode (mC 2) 18 = .ok (.aload_n 0, 1) := by decide +kernel
theorem d_X0_leadFrom_19 : decode (mC 2) 19 = .ok (.getfield 22, 3) := by decide +kernel
theorem d_X0_leadFrom_22 : decode (mC 2) 22 = .ok (.iload 6, 2) := by decide +kernel
theorem d_X0_leadFrom_24 : decode (mC 2) 24 = .ok (.iadd, 1) := by decide +kernel
theorem d_X0_leadFrom_25 : decode (mC 2) 25 = .ok (.invokevirtual 31, 3) := by decide +kernel
theorem d_X0_leadFrom_28 : decode (mC 2) 28 = .ok (.istore 5, 2) := by decide +kernel
theorem d_X0_leadFrom_30 : decode (mC 2) 30 = .ok (.iinc 6 1, 3) := by decide +kernel
theorem d_X0_leadFrom_33 : decode (mC 2) 33 = .ok (.goto (-27), 3) := by decide +kernel
theorem d_X0_leadFrom_36 : decode (mC 2) 36 = .ok (.iload_n 3, 1) := by decide +kernel
theorem d_X0_leadFrom_37 : decode (mC 2) 37 = .ok (.istore 6, 2) := by decide +kernel
theorem d_X0_leadFrom_39 : decode (mC 2) 39 = .ok (.iconst 0, 1) := by decide +kernel
theorem d_X0_leadFrom_40 : decode (mC 2) 40 = .ok (.istore 7, 2) := by decide +kernel
theorem d_X0_leadFrom_42 : decode (mC 2) 42 = .ok (.iload 7, 2) := by decide +kernel
theorem d_X0_leadFrom_44 : decode (mC 2) 44 = .ok (.bipush 64, 2) := by decide +kernel
theorem d_X0_leadFrom_46 : decode (mC 2) 46 = .ok (.aload_n 0, 1) := by decide +kernel
theorem d_X0_leadFrom_47 : decode (mC 2) 47 = .ok (.getfield 18, 3) := by decide +kernel
theorem d_X0_leadFrom_50 : decode (mC 2) 50 = .ok (.imul, 1) := by decide +kernel
theorem d_X0_leadFrom_51 : decode (mC 2) 51 = .ok (.if_icmp .ge 50, 3) := by decide +kernel
theorem d_X0_leadFrom_54 : decode (mC 2) 54 = .ok (.iload 6, 2) := by decide +kernel
theorem d_X0_leadFrom_56 : decode (mC 2) 56 = .ok (.iload 5, 2) := by decide +kernel
theorem d_X0_leadFrom_58 : decode (mC 2) 58 = .ok (.if_icmp .eq 43, 3) := by decide +kernel
theorem d_X0_leadFrom_61 : decode (mC 2) 61 = .ok (.aload_n 0, 1) := by decide +kernel
theorem d_X0_leadFrom_62 : decode (mC 2) 62 = .ok (.aload_n 1, 1) := by decide +kernel
theorem d_X0_leadFrom_63 : decode (mC 2) 63 = .ok (.aload_n 2, 1) := by decide +kernel
theorem d_X0_leadFrom_64 : decode (mC 2) 64 = .ok (.iload 6, 2) := by decide +kernel
theorem d_X0_leadFrom_66 : decode (mC 2) 66 = .ok (.aload_n 0, 1) := by decide +kernel
theorem d_X0_leadFrom_67 : decode (mC 2) 67 = .ok (.getfield 22, 3) := by decide +kernel
theorem d_X0_leadFrom_70 : decode (mC 2) 70 = .ok (.iload 7, 2) := by decide +kernel
theorem d_X0_leadFrom_72 : decode (mC 2) 72 = .ok (.iadd, 1) := by decide +kernel
theorem d_X0_leadFrom_73 : decode (mC 2) 73 = .ok (.invokevirtual 31, 3) := by decide +kernel
theorem d_X0_leadFrom_76 : decode (mC 2) 76 = .ok (.istore 6, 2) := by decide +kernel
theorem d_X0_leadFrom_78 : decode (mC 2) 78 = .ok (.aload_n 0, 1) := by decide +kernel
theorem d_X0_leadFrom_79 : decode (mC 2) 79 = .ok (.aload_n 1, 1) := by decide +kernel
theorem d_X0_leadFrom_80 : decode (mC 2) 80 = .ok (.aload_n 2, 1) := by decide +kernel
theorem d_X0_leadFrom_81 : decode (mC 2) 81 = .ok (.iload 5, 2) := by decide +kernel
theorem d_X0_leadFrom_83 : decode (mC 2) 83 = .ok (.aload_n 0, 1) := by decide +kernel
theorem d_X0_leadFrom_84 : decode (mC 2) 84 = .ok (.getfield 22, 3) := by decide +kernel
theorem d_X0_leadFrom_87 : decode (mC 2) 87 = .ok (.iload 7, 2) := by decide +kernel
theorem d_X0_leadFrom_89 : decode (mC 2) 89 = .ok (.iadd, 1) := by decide +kernel
theorem d_X0_leadFrom_90 : decode (mC 2) 90 = .ok (.invokevirtual 31, 3) := by decide +kernel
theorem d_X0_leadFrom_93 : decode (mC 2) 93 = .ok (.istore 5, 2) := by decide +kernel
theorem d_X0_leadFrom_95 : decode (mC 2) 95 = .ok (.iinc 7 1, 3) := by decide +kernel
theorem d_X0_leadFrom_98 : decode (mC 2) 98 = .ok (.goto (-56), 3) := by decide +kernel
theorem d_X0_leadFrom_101 : decode (mC 2) 101 = .ok (.iload 7, 2) := by decide +kernel
theorem d_X0_leadFrom_103 : decode (mC 2) 103 = .ok (.ireturn, 1) := by decide +kernel
theorem fi_2_22 : mn_fi 2 0 22 0 2 = true := by decide +kernel
theorem cv_2_31 : mn_cvt 2 0 31 3 = true := by decide +kernel
theorem fi_2_18 : mn_fi 2 0 18 0 3 = true := by decide +kernel
theorem b_X0_leadFrom_0 {x3 x4 : Int32} {a1 : Nat} {h h' : mn_H} {r : Option Value} (ha1 : mn_isT a1) : mn_E 2 0 [.ref 20, .ref a1, .ref 16, .int x3, .int x4, .null, .null, .null] [] h r h' ↔ mn_E 2 6 [.ref 20, .ref a1, .ref 16, .int x3, .int x4, .int x3, .int 0, .null] [] h r h' :=
  (mX_iload_n d_X0_leadFrom_0 rfl).trans <| (mX_istore (ls' := [.ref 20, .ref a1, .ref 16, .int x3, .int x4, .int x3, .null, .null]) d_X0_leadFrom_1 rfl rfl).trans <| (mX_iconst d_X0_leadFrom_3 ci_0).trans <| mX_istore (ls' := [.ref 20, .ref a1, .ref 16, .int x3, .int x4, .int x3, .int 0, .null]) d_X0_leadFrom_4 rfl rfl
theorem b_X0_leadFrom_6 {x3 x4 x5 x6 : Int32} {a1 : Nat} {h h' : mn_H} {r : Option Value} (ha1 : mn_isT a1) : mn_E 2 6 [.ref 20, .ref a1, .ref 16, .int x3, .int x4, .int x5, .int x6, .null] [] h r h' ↔ if x4 ≤ x6 then mn_E 2 36 [.ref 20, .ref a1, .ref 16, .int x3, .int x4, .int x5, .int x6, .null] [] h r h' else mn_E 2 13 [.ref 20, .ref a1, .ref 16, .int x3, .int x4, .int x5, .int x6, .null] [] h r h' :=
  (mX_iload d_X0_leadFrom_6 rfl).trans <| (mX_iload d_X0_leadFrom_8 rfl).trans <| mX_icmp_ge d_X0_leadFrom_10 rfl
theorem b_X0_leadFrom_13 {x3 x4 x5 x6 : Int32} {a1 : Nat} {h h' : mn_H} {r : Option Value} (ha1 : mn_isT a1) : mn_E 2 13 [.ref 20, .ref a1, .ref 16, .int x3, .int x4, .int x5, .int x6, .null] [] h r h' ↔ ∃ x h1, mn_X 3 [.ref 20, .ref a1, .ref 16, .int x5, .int ((h 20 2) + x6)] h (some (.int x)) h1 ∧ mn_E 2 28 [.ref 20, .ref a1, .ref 16, .int x3, .int x4, .int x5, .int x6, .null] [.int x] h1 r h' :=
  (mX_aload_n d_X0_leadFrom_13 rfl).trans <| (mX_aload_n d_X0_leadFrom_14 rfl).trans <| (mX_aload_n d_X0_leadFrom_15 rfl).trans <| (mX_iload d_X0_leadFrom_16 rfl).trans <| (mX_aload_n d_X0_leadFrom_18 rfl).trans <| (mG_i d_X0_leadFrom_19 fi_2_22 rfl (by decide)).trans <| (mX_iload d_X0_leadFrom_22 rfl).trans <| (mX_iadd d_X0_leadFrom_24).trans <| mV_i (a := 20) (vs := [.ref a1, .ref 16, .int x5, .int ((h 20 2) + x6)]) (st' := []) d_X0_leadFrom_25 cv_2_31 (Or.inl rfl) (Nat.le_of_ble_eq_true rfl) rfl rfl rfl rfl
theorem b_X0_leadFrom_28 {x3 x4 x5 x6 s0 : Int32} {a1 : Nat} {h h' : mn_H} {r : Option Value} (ha1 : mn_isT a1) : mn_E 2 28 [.ref 20, .ref a1, .ref 16, .int x3, .int x4, .int x5, .int x6, .null] [.int s0] h r h' ↔ mn_E 2 6 [.ref 20, .ref a1, .ref 16, .int x3, .int x4, .int s0, .int (x6 + 1), .null] [] h r h' :=
  (mX_istore (ls' := [.ref 20, .ref a1, .ref 16, .int x3, .int x4, .int s0, .int x6, .null]) d_X0_leadFrom_28 rfl rfl).trans <| (mX_iinc (ls' := [.ref 20, .ref a1, .ref 16, .int x3, .int x4, .int s0, .int (x6 + 1), .null]) d_X0_leadFrom_30 rfl ci_1 rfl rfl).trans <| mX_goto d_X0_leadFrom_33 rfl
theorem b_X0_leadFrom_36 {x3 x4 x5 x6 : Int32} {a1 : Nat} {h h' : mn_H} {r : Option Value} (ha1 : mn_isT a1) : mn_E 2 36 [.ref 20, .ref a1, .ref 16, .int x3, .int x4, .int x5, .int x6, .null] [] h r h' ↔ mn_E 2 42 [.ref 20, .ref a1, .ref 16, .int x3, .int x4, .int x5, .int x3, .int 0] [] h r h' :=
  (mX_iload_n d_X0_leadFrom_36 rfl).trans <| (mX_istore (ls' := [.ref 20, .ref a1, .ref 16, .int x3, .int x4, .int x5, .int x3, .null]) d_X0_leadFrom_37 rfl rfl).trans <| (mX_iconst d_X0_leadFrom_39 ci_0).trans <| mX_istore (ls' := [.ref 20, .ref a1, .ref 16, .int x3, .int x4, .int x5, .int x3, .int 0]) d_X0_leadFrom_40 rfl rfl
theorem b_X0_leadFrom_42 {x3 x4 x5 x6 x7 : Int32} {a1 : Nat} {h h' : mn_H} {r : Option Value} (ha1 : mn_isT a1) : mn_E 2 42 [.ref 20, .ref a1, .ref 16, .int x3, .int x4, .int x5, .int x6, .int x7] [] h r h' ↔ if (64 * (h 20 3)) ≤ x7 then mn_E 2 101 [.ref 20, .ref a1, .ref 16, .int x3, .int x4, .int x5, .int x6, .int x7] [] h r h' else mn_E 2 54 [.ref 20, .ref a1, .ref 16, .int x3, .int x4, .int x5, .int x6, .int x7] [] h r h' :=
  (mX_iload d_X0_leadFrom_42 rfl).trans <| (mX_bipush d_X0_leadFrom_44 cb_64).trans <| (mX_aload_n d_X0_leadFrom_46 rfl).trans <| (mG_i d_X0_leadFrom_47 fi_2_18 rfl (by decide)).trans <| (mX_imul d_X0_leadFrom_50).trans <| mX_icmp_ge d_X0_leadFrom_51 rfl
theorem b_X0_leadFrom_54 {x3 x4 x5 x6 x7 : Int32} {a1 : Nat} {h h' : mn_H} {r : Option Value} (ha1 : mn_isT a1) : mn_E 2 54 [.ref 20, .ref a1, .ref 16, .int x3, .int x4, .int x5, .int x6, .int x7] [] h r h' ↔ if x6 = x5 then mn_E 2 101 [.ref 20, .ref a1, .ref 16, .int x3, .int x4, .int x5, .int x6, .int x7] [] h r h' else mn_E 2 61 [.ref 20, .ref a1, .ref 16, .int x3, .int x4, .int x5, .int x6, .int x7] [] h r h' :=
  (mX_iload d_X0_leadFrom_54 rfl).trans <| (mX_iload d_X0_leadFrom_56 rfl).trans <| mX_icmp_eq d_X0_leadFrom_58 rfl
theorem b_X0_leadFrom_61 {x3 x4 x5 x6 x7 : Int32} {a1 : Nat} {h h' : mn_H} {r : Option Value} (ha1 : mn_isT a1) : mn_E 2 61 [.ref 20, .ref a1, .ref 16, .int x3, .int x4, .int x5, .int x6, .int x7] [] h r h' ↔ ∃ x h1, mn_X 3 [.ref 20, .ref a1, .ref 16, .int x6, .int ((h 20 2) + x7)] h (some (.int x)) h1 ∧ mn_E 2 76 [.ref 20, .ref a1, .ref 16, .int x3, .int x4, .int x5, .int x6, .int x7] [.int x] h1 r h' :=
  (mX_aload_n d_X0_leadFrom_61 rfl).trans <| (mX_aload_n d_X0_leadFrom_62 rfl).trans <| (mX_aload_n d_X0_leadFrom_63 rfl).trans <| (mX_iload d_X0_leadFrom_64 rfl).trans <| (mX_aload_n d_X0_leadFrom_66 rfl).trans <| (mG_i d_X0_leadFrom_67 fi_2_22 rfl (by decide)).trans <| (mX_iload d_X0_leadFrom_70 rfl).trans <| (mX_iadd d_X0_leadFrom_72).trans <| mV_i (a := 20) (vs := [.ref a1, .ref 16, .int x6, .int ((h 20 2) + x7)]) (st' := []) d_X0_leadFrom_73 cv_2_31 (Or.inl rfl) (Nat.le_of_ble_eq_true rfl) rfl rfl rfl rfl
theorem b_X0_leadFrom_76 {x3 x4 x5 x6 x7 s0 : Int32} {a1 : Nat} {h h' : mn_H} {r : Option Value} (ha1 : mn_isT a1) : mn_E 2 76 [.ref 20, .ref a1, .ref 16, .int x3, .int x4, .int x5, .int x6, .int x7] [.int s0] h r h' ↔ ∃ x h1, mn_X 3 [.ref 20, .ref a1, .ref 16, .int x5, .int ((h 20 2) + x7)] h (some (.int x)) h1 ∧ mn_E 2 93 [.ref 20, .ref a1, .ref 16, .int x3, .int x4, .int x5, .int s0, .int x7] [.int x] h1 r h' :=
  (mX_istore (ls' := [.ref 20, .ref a1, .ref 16, .int x3, .int x4, .int x5, .int s0, .int x7]) d_X0_leadFrom_76 rfl rfl).trans <| (mX_aload_n d_X0_leadFrom_78 rfl).trans <| (mX_aload_n d_X0_leadFrom_79 rfl).trans <| (mX_aload_n d_X0_leadFrom_80 rfl).trans <| (mX_iload d_X0_leadFrom_81 rfl).trans <| (mX_aload_n d_X0_leadFrom_83 rfl).trans <| (mG_i d_X0_leadFrom_84 fi_2_22 rfl (by decide)).trans <| (mX_iload d_X0_leadFrom_87 rfl).trans <| (mX_iadd d_X0_leadFrom_89).trans <| mV_i (a := 20) (vs := [.ref a1, .ref 16, .int x5, .int ((h 20 2) + x7)]) (st' := []) d_X0_leadFrom_90 cv_2_31 (Or.inl rfl) (Nat.le_of_ble_eq_true rfl) rfl rfl rfl rfl
theorem b_X0_leadFrom_93 {x3 x4 x5 x6 x7 s0 : Int32} {a1 : Nat} {h h' : mn_H} {r : Option Value} (ha1 : mn_isT a1) : mn_E 2 93 [.ref 20, .ref a1, .ref 16, .int x3, .int x4, .int x5, .int x6, .int x7] [.int s0] h r h' ↔ mn_E 2 42 [.ref 20, .ref a1, .ref 16, .int x3, .int x4, .int s0, .int x6, .int (x7 + 1)] [] h r h' :=
  (mX_istore (ls' := [.ref 20, .ref a1, .ref 16, .int x3, .int x4, .int s0, .int x6, .int x7]) d_X0_leadFrom_93 rfl rfl).trans <| (mX_iinc (ls' := [.ref 20, .ref a1, .ref 16, .int x3, .int x4, .int s0, .int x6, .int (x7 + 1)]) d_X0_leadFrom_95 rfl ci_1 rfl rfl).trans <| mX_goto d_X0_leadFrom_98 rfl
theorem b_X0_leadFrom_101 {x3 x4 x5 x6 x7 : Int32} {a1 : Nat} {h h' : mn_H} {r : Option Value} (ha1 : mn_isT a1) : mn_E 2 101 [.ref 20, .ref a1, .ref 16, .int x3, .int x4, .int x5, .int x6, .int x7] [] h r h' ↔ r = some (.int x7) ∧ h' = h :=
  (mX_iload d_X0_leadFrom_101 rfl).trans <| mX_iret d_X0_leadFrom_103 rfl
-- X0_follow
theorem mo_3 : mO 3 = 0 := rfl
theorem d_X0_follow_0 : decode (mC 3) 0 = .ok (.aload_n 1, 1) := by decide +kernel
theorem d_X0_follow_1 : decode (mC 3) 1 = .ok (.iload 4, 2) := by decide +kernel
theorem d_X0_follow_3 : decode (mC 3) 3 = .ok (.invokevirtual 35, 3) := by decide +kernel
theorem d_X0_follow_6 : decode (mC 3) 6 = .ok (.istore 5, 2) := by decide +kernel
theorem d_X0_follow_8 : decode (mC 3) 8 = .ok (.iload 5, 2) := by decide +kernel
theorem d_X0_follow_10 : decode (mC 3) 10 = .ok (.bipush 64, 2) := by decide +kernel
theorem d_X0_follow_12 : decode (mC 3) 12 = .ok (.imul, 1) := by decide +kernel
theorem d_X0_follow_13 : decode (mC 3) 13 = .ok (.iload_n 3, 1) := by decide +kernel
theorem d_X0_follow_14 : decode (mC 3) 14 = .ok (.iadd, 1) := by decide +kernel
theorem d_X0_follow_15 : decode (mC 3) 15 = .ok (.istore 6, 2) := by decide +kernel
theorem d_X0_follow_17 : decode (mC 3) 17 = .ok (.aload_n 0, 1) := by decide +kernel
theorem d_X0_follow_18 : decode (mC 3) 18 = .ok (.getfield 9, 3) := by decide +kernel
theorem d_X0_follow_21 : decode (mC 3) 21 = .ok (.iload 6, 2) := by decide +kernel
theorem d_X0_follow_23 : decode (mC 3) 23 = .ok (.iaload, 1) := by decide +kernel
theorem d_X0_follow_24 : decode (mC 3) 24 = .ok (.iconst (-1), 1) := by decide +kernel
theorem d_X0_follow_25 : decode (mC 3) 25 = .ok (.if_icmp .ne 22, 3) := by decide +kernel
theorem d_X0_follow_28 : decode (mC 3) 28 = .ok (.aload_n 0, 1) := by decide +kernel
theorem d_X0_follow_29 : decode (mC 3) 29 = .ok (.getfield 9, 3) := by decide +kernel
theorem d_X0_follow_32 : decode (mC 3) 32 = .ok (.iload 6, 2) := by decide +kernel
theorem d_X0_follow_34 : decode (mC 3) 34 = .ok (.aload_n 2, 1) := by decide +kernel
theorem d_X0_follow_35 : decode (mC 3) 35 = .ok (.aload_n 1, 1) := by decide +kernel
theorem d_X0_follow_36 : decode (mC 3) 36 = .ok (.iload_n 3, 1) := by decide +kernel
theorem d_X0_follow_37 : decode (mC 3) 37 = .ok (.iload 5, 2) := by decide +kernel
theorem d_X0_follow_39 : decode (mC 3) 39 = .ok (.invokevirtual 41, 3) := by decide +kernel
theorem d_X0_follow_42 : decode (mC 3) 42 = .ok (.iconst 0, 1) := by decide +kernel
theorem d_X0_follow_43 : decode (mC 3) 43 = .ok (.invokestatic 47, 3) := by decide +kernel
theorem d_X0_follow_46 : decode (mC 3) 46 = .ok (.iastore, 1) := by decide +kernel
theorem d_X0_follow_47 : decode (mC 3) 47 = .ok (.aload_n 0, 1) := by decide +kernel
theorem d_X0_follow_48 : decode (mC 3) 48 = .ok (.getfield 9, 3) := by decide +kernel
theorem d_X0_follow_51 : decode (mC 3) 51 = .ok (.iload 6, 2) := by decide +kernel
theorem d_X0_follow_53 : decode (mC 3) 53 = .ok (.iaload, 1) := by decide +kernel
theorem d_X0_follow_54 : decode (mC 3) 54 = .ok (.ireturn, 1) := by decide +kernel
theorem cv_3_35 : mn_cvt 3 0 35 52 = true := by decide +kernel
theorem fr_3_9 : mn_fr 3 0 9 0 0 = true := by decide +kernel
theorem cv_3_41 : mn_cvt 3 0 41 62 = true := by decide +kernel
theorem cs_3_47 : mn_cs 3 0 47 111 = true := by decide +kernel
theorem b_X0_follow_0 {x3 x4 : Int32} {a1 : Nat} {h h' : mn_H} {r : Option Value} (ha1 : mn_isT a1) : mn_E 3 0 [.ref 20, .ref a1, .ref 16, .int x3, .int x4, .null, .null] [] h r h' ↔ ∃ x h1, mn_X 52 [.ref a1, .int x4] h (some (.int x)) h1 ∧ mn_E 3 6 [.ref 20, .ref a1, .ref 16, .int x3, .int x4, .null, .null] [.int x] h1 r h' :=
  (mX_aload_n d_X0_follow_0 rfl).trans <| (mX_iload d_X0_follow_1 rfl).trans <| mV_i (a := a1) (vs := [.int x4]) (st' := []) d_X0_follow_3 cv_3_35 (Or.inl rfl) (Nat.le_of_ble_eq_true rfl) rfl rfl (mn_shT0 ha1) rfl
theorem b_X0_follow_6 {x3 x4 s0 : Int32} {a1 : Nat} {h h' : mn_H} {r : Option Value} (ha1 : mn_isT a1) (hy1 : vp_in ((s0 * 64) + x3) 512) : mn_E 3 6 [.ref 20, .ref a1, .ref 16, .int x3, .int x4, .null, .null] [.int s0] h r h' ↔ if ¬ (h 21 ((s0 * 64) + x3).toNatClampNeg) = (-1) then mn_E 3 47 [.ref 20, .ref a1, .ref 16, .int x3, .int x4, .int s0, .int ((s0 * 64) + x3)] [] h r h' else mn_E 3 28 [.ref 20, .ref a1, .ref 16, .int x3, .int x4, .int s0, .int ((s0 * 64) + x3)] [] h r h' :=
  (mX_istore (ls' := [.ref 20, .ref a1, .ref 16, .int x3, .int x4, .int s0, .null]) d_X0_follow_6 rfl rfl).trans <| (mX_iload d_X0_follow_8 rfl).trans <| (mX_bipush d_X0_follow_10 cb_64).trans <| (mX_imul d_X0_follow_12).trans <| (mX_iload_n d_X0_follow_13 rfl).trans <| (mX_iadd d_X0_follow_14).trans <| (mX_istore (ls' := [.ref 20, .ref a1, .ref 16, .int x3, .int x4, .int s0, .int ((s0 * 64) + x3)]) d_X0_follow_15 rfl rfl).trans <| (mX_aload_n d_X0_follow_17 rfl).trans <| (mG_r (b := 21) d_X0_follow_18 fr_3_9 rfl (by decide) rfl).trans <| (mX_iload d_X0_follow_21 rfl).trans <| (mX_iaload d_X0_follow_23 rfl (by decide) hy1).trans <| (mX_iconst d_X0_follow_24 ci_m1).trans <| mX_icmp_ne d_X0_follow_25 rfl
theorem b_X0_follow_28 {x3 x4 x5 x6 : Int32} {a1 : Nat} {h h' : mn_H} {r : Option Value} (ha1 : mn_isT a1) : mn_E 3 28 [.ref 20, .ref a1, .ref 16, .int x3, .int x4, .int x5, .int x6] [] h r h' ↔ ∃ x h1, mn_X 62 [.ref 16, .ref a1, .int x3, .int x5] h (some (.long x)) h1 ∧ mn_E 3 42 [.ref 20, .ref a1, .ref 16, .int x3, .int x4, .int x5, .int x6] [.long x, .int x6, .ref 21] h1 r h' :=
  (mX_aload_n d_X0_follow_28 rfl).trans <| (mG_r (b := 21) d_X0_follow_29 fr_3_9 rfl (by decide) rfl).trans <| (mX_iload d_X0_follow_32 rfl).trans <| (mX_aload_n d_X0_follow_34 rfl).trans <| (mX_aload_n d_X0_follow_35 rfl).trans <| (mX_iload_n d_X0_follow_36 rfl).trans <| (mX_iload d_X0_follow_37 rfl).trans <| mV_l (a := 16) (vs := [.ref a1, .int x3, .int x5]) (st' := [.int x6, .ref 21]) d_X0_follow_39 cv_3_41 rfl (Nat.le_of_ble_eq_true rfl) rfl rfl rfl rfl
theorem b_X0_follow_42 {x3 x4 x5 x6 s1 : Int32} {m0 : Int64} {a1 : Nat} {h h' : mn_H} {r : Option Value} (ha1 : mn_isT a1) : mn_E 3 42 [.ref 20, .ref a1, .ref 16, .int x3, .int x4, .int x5, .int x6] [.long m0, .int s1, .ref 21] h r h' ↔ ∃ x h1, mn_X 111 [.long m0, .int 0] h (some (.int x)) h1 ∧ mn_E 3 46 [.ref 20, .ref a1, .ref 16, .int x3, .int x4, .int x5, .int x6] [.int x, .int s1, .ref 21] h1 r h' :=
  (mX_iconst d_X0_follow_42 ci_0).trans <| mS_i (vs := [.long m0, .int 0]) (st' := [.int s1, .ref 21]) d_X0_follow_43 cs_3_47 (Or.inl rfl) (Nat.le_of_ble_eq_true rfl) rfl rfl rfl
theorem b_X0_follow_46 {x3 x4 x5 x6 s0 s1 : Int32} {a1 : Nat} {h h' : mn_H} {r : Option Value} (ha1 : mn_isT a1) (hy1 : vp_in s1 512) : mn_E 3 46 [.ref 20, .ref a1, .ref 16, .int x3, .int x4, .int x5, .int x6] [.int s0, .int s1, .ref 21] h r h' ↔ mn_E 3 47 [.ref 20, .ref a1, .ref 16, .int x3, .int x4, .int x5, .int x6] [] (mn_up h 21 (s1.toNatClampNeg) s0) r h' :=
  mX_iastore d_X0_follow_46 rfl (by decide) hy1
theorem b_X0_follow_47 {x3 x4 x5 x6 : Int32} {a1 : Nat} {h h' : mn_H} {r : Option Value} (ha1 : mn_isT a1) (hy1 : vp_in x6 512) : mn_E 3 47 [.ref 20, .ref a1, .ref 16, .int x3, .int x4, .int x5, .int x6] [] h r h' ↔ r = some (.int (h 21 x6.toNatClampNeg)) ∧ h' = h :=
  (mX_aload_n d_X0_follow_47 rfl).trans <| (mG_r (b := 21) d_X0_follow_48 fr_3_9 rfl (by decide) rfl).trans <| (mX_iload d_X0_follow_51 rfl).trans <| (mX_iaload d_X0_follow_53 rfl (by decide) hy1).trans <| mX_iret d_X0_follow_54 rfl
-- X1_startAnew
theorem mo_4 : mO 4 = 1 := rfl
theorem d_X1_startAnew_0 : decode (mC 4) 0 = .ok (.aload_n 0, 1) := by decide +kernel
theorem d_X1_startAnew_1 : decode (mC 4) 1 = .ok (.iconst 0, 1) := by decide +kernel
theorem d_X1_startAnew_2 : decode (mC 4) 2 = .ok (.putfield 15, 3) := by decide +kernel
theorem d_X1_startAnew_5 : decode (mC 4) 5 = .ok (.aload_n 0, 1) := by decide +kernel
theorem d_X1_startAnew_6 : decode (mC 4) 6 = .ok (.iconst 0, 1) := by decide +kernel
theorem d_X1_startAnew_7 : decode (mC 4) 7 = .ok (.putfield 19, 3) := by decide +kernel
theorem d_X1_startAnew_10 : decode (mC 4) 10 = .ok (.aload_n 0, 1) := by decide +kernel
theorem d_X1_startAnew_11 : decode (mC 4) 11 = .ok (.iconst 0, 1) := by decide +kernel
theorem d_X1_startAnew_12 : decode (mC 4) 12 = .ok (.putfield 22, 3) := by decide +kernel
theorem d_X1_startAnew_15 : decode (mC 4) 15 = .ok (.aload_n 0, 1) := by decide +kernel
theorem d_X1_startAnew_16 : decode (mC 4) 16 = .ok (.iconst 0, 1) := by decide +kernel
theorem d_X1_startAnew_17 : decode (mC 4) 17 = .ok (.putfield 25, 3) := by decide +kernel
theorem d_X1_startAnew_20 : decode (mC 4) 20 = .ok (.aload_n 0, 1) := by decide +kernel
theorem d_X1_startAnew_21 : decode (mC 4) 21 = .ok (.iload_n 1, 1) := by decide +kernel
theorem d_X1_startAnew_22 : decode (mC 4) 22 = .ok (.putfield 28, 3) := by decide +kernel
theorem d_X1_startAnew_25 : decode (mC 4) 25 = .ok (.return_, 1) := by decide +kernel
theorem fi_4_15 : mn_fi 4 1 15 1 0 = true := by decide +kernel
theorem fi_4_19 : mn_fi 4 1 19 1 2 = true := by decide +kernel
theorem fi_4_22 : mn_fi 4 1 22 1 3 = true := by decide +kernel
theorem fi_4_25 : mn_fi 4 1 25 1 4 = true := by decide +kernel
theorem fi_4_28 : mn_fi 4 1 28 1 5 = true := by decide +kernel
theorem b_X1_startAnew_0 {x1 : Int32} {a0 : Nat} {h h' : mn_H} {r : Option Value} (ha0 : mn_isC a0) : mn_E 4 0 [.ref a0, .int x1] [] h r h' ↔ r = none ∧ h' = mn_up (mn_up (mn_up (mn_up (mn_up h a0 0 0) a0 2 0) a0 3 0) a0 4 0) a0 5 x1 :=
  (mX_aload_n d_X1_startAnew_0 rfl).trans <| (mX_iconst d_X1_startAnew_1 ci_0).trans <| (mP_i d_X1_startAnew_2 fi_4_15 (mn_shC0 ha0) (mn_ltC0 ha0) rfl (Or.inl (by decide))).trans <| (mX_aload_n d_X1_startAnew_5 rfl).trans <| (mX_iconst d_X1_startAnew_6 ci_0).trans <| (mP_i d_X1_startAnew_7 fi_4_19 (mn_shC0 ha0) (mn_ltC0 ha0) rfl (Or.inl (by decide))).trans <| (mX_aload_n d_X1_startAnew_10 rfl).trans <| (mX_iconst d_X1_startAnew_11 ci_0).trans <| (mP_i d_X1_startAnew_12 fi_4_22 (mn_shC0 ha0) (mn_ltC0 ha0) rfl (Or.inl (by decide))).trans <| (mX_aload_n d_X1_startAnew_15 rfl).trans <| (mX_iconst d_X1_startAnew_16 ci_0).trans <| (mP_i d_X1_startAnew_17 fi_4_25 (mn_shC0 ha0) (mn_ltC0 ha0) rfl (Or.inl (by decide))).trans <| (mX_aload_n d_X1_startAnew_20 rfl).trans <| (mX_iload_n d_X1_startAnew_21 rfl).trans <| (mP_i d_X1_startAnew_22 fi_4_28 (mn_shC0 ha0) (mn_ltC0 ha0) rfl (Or.inl (by decide))).trans <| mX_vret d_X1_startAnew_25 rfl
-- X1_becomeLike
theorem mo_5 : mO 5 = 1 := rfl
theorem d_X1_becomeLike_0 : decode (mC 5) 0 = .ok (.aload_n 0, 1) := by decide +kernel
theorem d_X1_becomeLike_1 : decode (mC 5) 1 = .ok (.aload_n 1, 1) := by decide +kernel
theorem d_X1_becomeLike_2 : decode (mC 5) 2 = .ok (.getfield 15, 3) := by decide +kernel
theorem d_X1_becomeLike_5 : decode (mC 5) 5 = .ok (.putfield 15, 3) := by decide +kernel
theorem d_X1_becomeLike_8 : decode (mC 5) 8 = .ok (.aload_n 1, 1) := by decide +kernel
theorem d_X1_becomeLike_9 : decode (mC 5) 9 = .ok (.getfield 9, 3) := by decide +kernel
theorem d_X1_becomeLike_12 : decode (mC 5) 12 = .ok (.iconst 0, 1) := by decide +kernel
theorem d_X1_becomeLike_13 : decode (mC 5) 13 = .ok (.aload_n 0, 1) := by decide +kernel
theorem d_X1_becomeLike_14 : decode (mC 5) 14 = .ok (.getfield 9, 3) := by decide +kernel
theorem d_X1_becomeLike_17 : decode (mC 5) 17 = .ok (.iconst 0, 1) := by decide +kernel
theorem d_X1_becomeLike_18 : decode (mC 5) 18 = .ok (.bipush 60, 2) := by decide +kernel
theorem d_X1_becomeLike_20 : decode (mC 5) 20 = .ok (.invokestatic 31, 3) := by decide +kernel
theorem d_X1_becomeLike_23 : decode (mC 5) 23 = .ok (.aload_n 0, 1) := by decide +kernel
theorem d_X1_becomeLike_24 : decode (mC 5) 24 = .ok (.aload_n 1, 1) := by decide +kernel
theorem d_X1_becomeLike_25 : decode (mC 5) 25 = .ok (.getfield 19, 3) := by decide +kernel
theorem d_X1_becomeLike_28 : decode (mC 5) 28 = .ok (.putfield 19, 3) := by decide +kernel
theorem d_X1_becomeLike_31 : decode (mC 5) 31 = .ok (.aload_n 0, 1) := by decide +kernel
theorem d_X1_becomeLike_32 : decode (mC 5) 32 = .ok (.aload_n 1, 1) := by decide +kernel
theorem d_X1_becomeLike_33 : decode (mC 5) 33 = .ok (.getfield 22, 3) := by decide +kernel
theorem d_X1_becomeLike_36 : decode (mC 5) 36 = .ok (.putfield 22, 3) := by decide +kernel
theorem d_X1_becomeLike_39 : decode (mC 5) 39 = .ok (.aload_n 0, 1) := by decide +kernel
theorem d_X1_becomeLike_40 : decode (mC 5) 40 = .ok (.aload_n 1, 1) := by decide +kernel
theorem d_X1_becomeLike_41 : decode (mC 5) 41 = .ok (.getfield 25, 3) := by decide +kernel
theorem d_X1_becomeLike_44 : decode (mC 5) 44 = .ok (.putfield 25, 3) := by decide +kernel
theorem d_X1_becomeLike_47 : decode (mC 5) 47 = .ok (.aload_n 0, 1) := by decide +kernel
theorem d_X1_becomeLike_48 : decode (mC 5) 48 = .ok (.aload_n 1, 1) := by decide +kernel
theorem d_X1_becomeLike_49 : decode (mC 5) 49 = .ok (.getfield 28, 3) := by decide +kernel
theorem d_X1_becomeLike_52 : decode (mC 5) 52 = .ok (.putfield 28, 3) := by decide +kernel
theorem d_X1_becomeLike_55 : decode (mC 5) 55 = .ok (.aload_n 0, 1) := by decide +kernel
theorem d_X1_becomeLike_56 : decode (mC 5) 56 = .ok (.aload_n 1, 1) := by decide +kernel
theorem d_X1_becomeLike_57 : decode (mC 5) 57 = .ok (.getfield 37, 3) := by decide +kernel
theorem d_X1_becomeLike_60 : decode (mC 5) 60 = .ok (.putfield 37, 3) := by decide +kernel
theorem d_X1_becomeLike_63 : decode (mC 5) 63 = .ok (.return_, 1) := by decide +kernel
theorem fi_5_15 : mn_fi 5 1 15 1 0 = true := by decide +kernel
theorem fr_5_9 : mn_fr 5 1 9 1 1 = true := by decide +kernel
theorem fi_5_19 : mn_fi 5 1 19 1 2 = true := by decide +kernel
theorem fi_5_22 : mn_fi 5 1 22 1 3 = true := by decide +kernel
theorem fi_5_25 : mn_fi 5 1 25 1 4 = true := by decide +kernel
theorem fi_5_28 : mn_fi 5 1 28 1 5 = true := by decide +kernel
theorem fi_5_37 : mn_fi 5 1 37 1 6 = true := by decide +kernel
theorem b_X1_becomeLike_0 {a0 a1 : Nat} {h h' : mn_H} {r : Option Value} (ha0 : mn_isC a0) (ha1 : mn_isC a1) : mn_E 5 0 [.ref a0, .ref a1] [] h r h' ↔ r = none ∧ h' = mn_up (mn_up (mn_up (mn_up (mn_up (mn_set (mn_up h a0 0 (h a1 0)) (a0 + 1) (va_cpy ((mn_up h a0 0 (h a1 0)) (a1 + 1)) ((mn_up h a0 0 (h a1 0)) (a0 + 1)) ((0 : Int32).toNatClampNeg) ((0 : Int32).toNatClampNeg) ((60 : Int32).toNatClampNeg))) a0 2 ((mn_set (mn_up h a0 0 (h a1 0)) (a0 + 1) (va_cpy ((mn_up h a0 0 (h a1 0)) (a1 + 1)) ((mn_up h a0 0 (h a1 0)) (a0 + 1)) ((0 : Int32).toNatClampNeg) ((0 : Int32).toNatClampNeg) ((60 : Int32).toNatClampNeg))) a1 2)) a0 3 ((mn_up (mn_set (mn_up h a0 0 (h a1 0)) (a0 + 1) (va_cpy ((mn_up h a0 0 (h a1 0)) (a1 + 1)) ((mn_up h a0 0 (h a1 0)) (a0 + 1)) ((0 : Int32).toNatClampNeg) ((0 : Int32).toNatClampNeg) ((60 : Int32).toNatClampNeg))) a0 2 ((mn_set (mn_up h a0 0 (h a1 0)) (a0 + 1) (va_cpy ((mn_up h a0 0 (h a1 0)) (a1 + 1)) ((mn_up h a0 0 (h a1 0)) (a0 + 1)) ((0 : Int32).toNatClampNeg) ((0 : Int32).toNatClampNeg) ((60 : Int32).toNatClampNeg))) a1 2)) a1 3)) a0 4 ((mn_up (mn_up (mn_set (mn_up h a0 0 (h a1 0)) (a0 + 1) (va_cpy ((mn_up h a0 0 (h a1 0)) (a1 + 1)) ((mn_up h a0 0 (h a1 0)) (a0 + 1)) ((0 : Int32).toNatClampNeg) ((0 : Int32).toNatClampNeg) ((60 : Int32).toNatClampNeg))) a0 2 ((mn_set (mn_up h a0 0 (h a1 0)) (a0 + 1) (va_cpy ((mn_up h a0 0 (h a1 0)) (a1 + 1)) ((mn_up h a0 0 (h a1 0)) (a0 + 1)) ((0 : Int32).toNatClampNeg) ((0 : Int32).toNatClampNeg) ((60 : Int32).toNatClampNeg))) a1 2)) a0 3 ((mn_up (mn_set (mn_up h a0 0 (h a1 0)) (a0 + 1) (va_cpy ((mn_up h a0 0 (h a1 0)) (a1 + 1)) ((mn_up h a0 0 (h a1 0)) (a0 + 1)) ((0 : Int32).toNatClampNeg) ((0 : Int32).toNatClampNeg) ((60 : Int32).toNatClampNeg))) a0 2 ((mn_set (mn_up h a0 0 (h a1 0)) (a0 + 1) (va_cpy ((mn_up h a0 0 (h a1 0)) (a1 + 1)) ((mn_up h a0 0 (h a1 0)) (a0 + 1)) ((0 : Int32).toNatClampNeg) ((0 : Int32).toNatClampNeg) ((60 : Int32).toNatClampNeg))) a1 2)) a1 3)) a1 4)) a0 5 ((mn_up (mn_up (mn_up (mn_set (mn_up h a0 0 (h a1 0)) (a0 + 1) (va_cpy ((mn_up h a0 0 (h a1 0)) (a1 + 1)) ((mn_up h a0 0 (h a1 0)) (a0 + 1)) ((0 : Int32).toNatClampNeg) ((0 : Int32).toNatClampNeg) ((60 : Int32).toNatClampNeg))) a0 2 ((mn_set (mn_up h a0 0 (h a1 0)) (a0 + 1) (va_cpy ((mn_up h a0 0 (h a1 0)) (a1 + 1)) ((mn_up h a0 0 (h a1 0)) (a0 + 1)) ((0 : Int32).toNatClampNeg) ((0 : Int32).toNatClampNeg) ((60 : Int32).toNatClampNeg))) a1 2)) a0 3 ((mn_up (mn_set (mn_up h a0 0 (h a1 0)) (a0 + 1) (va_cpy ((mn_up h a0 0 (h a1 0)) (a1 + 1)) ((mn_up h a0 0 (h a1 0)) (a0 + 1)) ((0 : Int32).toNatClampNeg) ((0 : Int32).toNatClampNeg) ((60 : Int32).toNatClampNeg))) a0 2 ((mn_set (mn_up h a0 0 (h a1 0)) (a0 + 1) (va_cpy ((mn_up h a0 0 (h a1 0)) (a1 + 1)) ((mn_up h a0 0 (h a1 0)) (a0 + 1)) ((0 : Int32).toNatClampNeg) ((0 : Int32).toNatClampNeg) ((60 : Int32).toNatClampNeg))) a1 2)) a1 3)) a0 4 ((mn_up (mn_up (mn_set (mn_up h a0 0 (h a1 0)) (a0 + 1) (va_cpy ((mn_up h a0 0 (h a1 0)) (a1 + 1)) ((mn_up h a0 0 (h a1 0)) (a0 + 1)) ((0 : Int32).toNatClampNeg) ((0 : Int32).toNatClampNeg) ((60 : Int32).toNatClampNeg))) a0 2 ((mn_set (mn_up h a0 0 (h a1 0)) (a0 + 1) (va_cpy ((mn_up h a0 0 (h a1 0)) (a1 + 1)) ((mn_up h a0 0 (h a1 0)) (a0 + 1)) ((0 : Int32).toNatClampNeg) ((0 : Int32).toNatClampNeg) ((60 : Int32).toNatClampNeg))) a1 2)) a0 3 ((mn_up (mn_set (mn_up h a0 0 (h a1 0)) (a0 + 1) (va_cpy ((mn_up h a0 0 (h a1 0)) (a1 + 1)) ((mn_up h a0 0 (h a1 0)) (a0 + 1)) ((0 : Int32).toNatClampNeg) ((0 : Int32).toNatClampNeg) ((60 : Int32).toNatClampNeg))) a0 2 ((mn_set (mn_up h a0 0 (h a1 0)) (a0 + 1) (va_cpy ((mn_up h a0 0 (h a1 0)) (a1 + 1)) ((mn_up h a0 0 (h a1 0)) (a0 + 1)) ((0 : Int32).toNatClampNeg) ((0 : Int32).toNatClampNeg) ((60 : Int32).toNatClampNeg))) a1 2)) a1 3)) a1 4)) a1 5)) a0 6 ((mn_up (mn_up (mn_up (mn_up (mn_set (mn_up h a0 0 (h a1 0)) (a0 + 1) (va_cpy ((mn_up h a0 0 (h a1 0)) (a1 + 1)) ((mn_up h a0 0 (h a1 0)) (a0 + 1)) ((0 : Int32).toNatClampNeg) ((0 : Int32).toNatClampNeg) ((60 : Int32).toNatClampNeg))) a0 2 ((mn_set (mn_up h a0 0 (h a1 0)) (a0 + 1) (va_cpy ((mn_up h a0 0 (h a1 0)) (a1 + 1)) ((mn_up h a0 0 (h a1 0)) (a0 + 1)) ((0 : Int32).toNatClampNeg) ((0 : Int32).toNatClampNeg) ((60 : Int32).toNatClampNeg))) a1 2)) a0 3 ((mn_up (mn_set (mn_up h a0 0 (h a1 0)) (a0 + 1) (va_cpy ((mn_up h a0 0 (h a1 0)) (a1 + 1)) ((mn_up h a0 0 (h a1 0)) (a0 + 1)) ((0 : Int32).toNatClampNeg) ((0 : Int32).toNatClampNeg) ((60 : Int32).toNatClampNeg))) a0 2 ((mn_set (mn_up h a0 0 (h a1 0)) (a0 + 1) (va_cpy ((mn_up h a0 0 (h a1 0)) (a1 + 1)) ((mn_up h a0 0 (h a1 0)) (a0 + 1)) ((0 : Int32).toNatClampNeg) ((0 : Int32).toNatClampNeg) ((60 : Int32).toNatClampNeg))) a1 2)) a1 3)) a0 4 ((mn_up (mn_up (mn_set (mn_up h a0 0 (h a1 0)) (a0 + 1) (va_cpy ((mn_up h a0 0 (h a1 0)) (a1 + 1)) ((mn_up h a0 0 (h a1 0)) (a0 + 1)) ((0 : Int32).toNatClampNeg) ((0 : Int32).toNatClampNeg) ((60 : Int32).toNatClampNeg))) a0 2 ((mn_set (mn_up h a0 0 (h a1 0)) (a0 + 1) (va_cpy ((mn_up h a0 0 (h a1 0)) (a1 + 1)) ((mn_up h a0 0 (h a1 0)) (a0 + 1)) ((0 : Int32).toNatClampNeg) ((0 : Int32).toNatClampNeg) ((60 : Int32).toNatClampNeg))) a1 2)) a0 3 ((mn_up (mn_set (mn_up h a0 0 (h a1 0)) (a0 + 1) (va_cpy ((mn_up h a0 0 (h a1 0)) (a1 + 1)) ((mn_up h a0 0 (h a1 0)) (a0 + 1)) ((0 : Int32).toNatClampNeg) ((0 : Int32).toNatClampNeg) ((60 : Int32).toNatClampNeg))) a0 2 ((mn_set (mn_up h a0 0 (h a1 0)) (a0 + 1) (va_cpy ((mn_up h a0 0 (h a1 0)) (a1 + 1)) ((mn_up h a0 0 (h a1 0)) (a0 + 1)) ((0 : Int32).toNatClampNeg) ((0 : Int32).toNatClampNeg) ((60 : Int32).toNatClampNeg))) a1 2)) a1 3)) a1 4)) a0 5 ((mn_up (mn_up (mn_up (mn_set (mn_up h a0 0 (h a1 0)) (a0 + 1) (va_cpy ((mn_up h a0 0 (h a1 0)) (a1 + 1)) ((mn_up h a0 0 (h a1 0)) (a0 + 1)) ((0 : Int32).toNatClampNeg) ((0 : Int32).toNatClampNeg) ((60 : Int32).toNatClampNeg))) a0 2 ((mn_set (mn_up h a0 0 (h a1 0)) (a0 + 1) (va_cpy ((mn_up h a0 0 (h a1 0)) (a1 + 1)) ((mn_up h a0 0 (h a1 0)) (a0 + 1)) ((0 : Int32).toNatClampNeg) ((0 : Int32).toNatClampNeg) ((60 : Int32).toNatClampNeg))) a1 2)) a0 3 ((mn_up (mn_set (mn_up h a0 0 (h a1 0)) (a0 + 1) (va_cpy ((mn_up h a0 0 (h a1 0)) (a1 + 1)) ((mn_up h a0 0 (h a1 0)) (a0 + 1)) ((0 : Int32).toNatClampNeg) ((0 : Int32).toNatClampNeg) ((60 : Int32).toNatClampNeg))) a0 2 ((mn_set (mn_up h a0 0 (h a1 0)) (a0 + 1) (va_cpy ((mn_up h a0 0 (h a1 0)) (a1 + 1)) ((mn_up h a0 0 (h a1 0)) (a0 + 1)) ((0 : Int32).toNatClampNeg) ((0 : Int32).toNatClampNeg) ((60 : Int32).toNatClampNeg))) a1 2)) a1 3)) a0 4 ((mn_up (mn_up (mn_set (mn_up h a0 0 (h a1 0)) (a0 + 1) (va_cpy ((mn_up h a0 0 (h a1 0)) (a1 + 1)) ((mn_up h a0 0 (h a1 0)) (a0 + 1)) ((0 : Int32).toNatClampNeg) ((0 : Int32).toNatClampNeg) ((60 : Int32).toNatClampNeg))) a0 2 ((mn_set (mn_up h a0 0 (h a1 0)) (a0 + 1) (va_cpy ((mn_up h a0 0 (h a1 0)) (a1 + 1)) ((mn_up h a0 0 (h a1 0)) (a0 + 1)) ((0 : Int32).toNatClampNeg) ((0 : Int32).toNatClampNeg) ((60 : Int32).toNatClampNeg))) a1 2)) a0 3 ((mn_up (mn_set (mn_up h a0 0 (h a1 0)) (a0 + 1) (va_cpy ((mn_up h a0 0 (h a1 0)) (a1 + 1)) ((mn_up h a0 0 (h a1 0)) (a0 + 1)) ((0 : Int32).toNatClampNeg) ((0 : Int32).toNatClampNeg) ((60 : Int32).toNatClampNeg))) a0 2 ((mn_set (mn_up h a0 0 (h a1 0)) (a0 + 1) (va_cpy ((mn_up h a0 0 (h a1 0)) (a1 + 1)) ((mn_up h a0 0 (h a1 0)) (a0 + 1)) ((0 : Int32).toNatClampNeg) ((0 : Int32).toNatClampNeg) ((60 : Int32).toNatClampNeg))) a1 2)) a1 3)) a1 4)) a1 5)) a1 6) :=
  (mX_aload_n d_X1_becomeLike_0 rfl).trans <| (mX_aload_n d_X1_becomeLike_1 rfl).trans <| (mG_i d_X1_becomeLike_2 fi_5_15 (mn_shC0 ha1) (mn_ltC0 ha1)).trans <| (mP_i d_X1_becomeLike_5 fi_5_15 (mn_shC0 ha0) (mn_ltC0 ha0) rfl (Or.inl (by decide))).trans <| (mX_aload_n d_X1_becomeLike_8 rfl).trans <| (mG_r (b := (a1 + 1)) d_X1_becomeLike_9 fr_5_9 (mn_shC0 ha1) (mn_ltC0 ha1) (mn_rfC1 ha1 _)).trans <| (mX_iconst d_X1_becomeLike_12 ci_0).trans <| (mX_aload_n d_X1_becomeLike_13 rfl).trans <| (mG_r (b := (a0 + 1)) d_X1_becomeLike_14 fr_5_9 (mn_shC0 ha0) (mn_ltC0 ha0) (mn_rfC1 ha0 _)).trans <| (mX_iconst d_X1_becomeLike_17 ci_0).trans <| (mX_bipush d_X1_becomeLike_18 cb_60).trans <| (mX_acopy d_X1_becomeLike_20 mo_5 ⟨rfl, rfl⟩ ⟨(mn_shC1 ha1), (mn_shC1 ha0), (mn_ltC ha1 (by decide)), (mn_ltC ha0 (by decide))⟩ (by decide +kernel) (by decide)).trans <| (mX_aload_n d_X1_becomeLike_23 rfl).trans <| (mX_aload_n d_X1_becomeLike_24 rfl).trans <| (mG_i d_X1_becomeLike_25 fi_5_19 (mn_shC0 ha1) (mn_ltC0 ha1)).trans <| (mP_i d_X1_becomeLike_28 fi_5_19 (mn_shC0 ha0) (mn_ltC0 ha0) rfl (Or.inl (by decide))).trans <| (mX_aload_n d_X1_becomeLike_31 rfl).trans <| (mX_aload_n d_X1_becomeLike_32 rfl).trans <| (mG_i d_X1_becomeLike_33 fi_5_22 (mn_shC0 ha1) (mn_ltC0 ha1)).trans <| (mP_i d_X1_becomeLike_36 fi_5_22 (mn_shC0 ha0) (mn_ltC0 ha0) rfl (Or.inl (by decide))).trans <| (mX_aload_n d_X1_becomeLike_39 rfl).trans <| (mX_aload_n d_X1_becomeLike_40 rfl).trans <| (mG_i d_X1_becomeLike_41 fi_5_25 (mn_shC0 ha1) (mn_ltC0 ha1)).trans <| (mP_i d_X1_becomeLike_44 fi_5_25 (mn_shC0 ha0) (mn_ltC0 ha0) rfl (Or.inl (by decide))).trans <| (mX_aload_n d_X1_becomeLike_47 rfl).trans <| (mX_aload_n d_X1_becomeLike_48 rfl).trans <| (mG_i d_X1_becomeLike_49 fi_5_28 (mn_shC0 ha1) (mn_ltC0 ha1)).trans <| (mP_i d_X1_becomeLike_52 fi_5_28 (mn_shC0 ha0) (mn_ltC0 ha0) rfl (Or.inl (by decide))).trans <| (mX_aload_n d_X1_becomeLike_55 rfl).trans <| (mX_aload_n d_X1_becomeLike_56 rfl).trans <| (mG_i d_X1_becomeLike_57 fi_5_37 (mn_shC0 ha1) (mn_ltC0 ha1)).trans <| (mP_i d_X1_becomeLike_60 fi_5_37 (mn_shC0 ha0) (mn_ltC0 ha0) rfl (Or.inl (by decide))).trans <| mX_vret d_X1_becomeLike_63 rfl
-- X1_dayBefore
theorem mo_6 : mO 6 = 1 := rfl
theorem d_X1_dayBefore_0 : decode (mC 6) 0 = .ok (.aload_n 0, 1) := by decide +kernel
theorem d_X1_dayBefore_1 : decode (mC 6) 1 = .ok (.getfield 19, 3) := by decide +kernel
theorem d_X1_dayBefore_4 : decode (mC 6) 4 = .ok (.ifCond .le 17, 3) := by decide +kernel
theorem d_X1_dayBefore_7 : decode (mC 6) 7 = .ok (.aload_n 0, 1) := by decide +kernel
theorem d_X1_dayBefore_8 : decode (mC 6) 8 = .ok (.getfield 9, 3) := by decide +kernel
theorem d_X1_dayBefore_11 : decode (mC 6) 11 = .ok (.aload_n 0, 1) := by decide +kernel
theorem d_X1_dayBefore_12 : decode (mC 6) 12 = .ok (.getfield 19, 3) := by decide +kernel
theorem d_X1_dayBefore_15 : decode (mC 6) 15 = .ok (.iconst 1, 1) := by decide +kernel
theorem d_X1_dayBefore_16 : decode (mC 6) 16 = .ok (.isub, 1) := by decide +kernel
theorem d_X1_dayBefore_17 : decode (mC 6) 17 = .ok (.iaload, 1) := by decide +kernel
theorem d_X1_dayBefore_18 : decode (mC 6) 18 = .ok (.goto 7, 3) := by decide +kernel
theorem d_X1_dayBefore_21 : decode (mC 6) 21 = .ok (.aload_n 0, 1) := by decide +kernel
theorem d_X1_dayBefore_22 : decode (mC 6) 22 = .ok (.getfield 15, 3) := by decide +kernel
theorem d_X1_dayBefore_25 : decode (mC 6) 25 = .ok (.ireturn, 1) := by decide +kernel
theorem fi_6_19 : mn_fi 6 1 19 1 2 = true := by decide +kernel
theorem fr_6_9 : mn_fr 6 1 9 1 1 = true := by decide +kernel
theorem fi_6_15 : mn_fi 6 1 15 1 0 = true := by decide +kernel
theorem b_X1_dayBefore_0 {a0 : Nat} {h h' : mn_H} {r : Option Value} (ha0 : mn_isC a0) : mn_E 6 0 [.ref a0] [] h r h' ↔ if (h a0 2) ≤ 0 then mn_E 6 21 [.ref a0] [] h r h' else mn_E 6 7 [.ref a0] [] h r h' :=
  (mX_aload_n d_X1_dayBefore_0 rfl).trans <| (mG_i d_X1_dayBefore_1 fi_6_19 (mn_shC0 ha0) (mn_ltC0 ha0)).trans <| mX_if_le d_X1_dayBefore_4 rfl
theorem b_X1_dayBefore_7 {a0 : Nat} {h h' : mn_H} {r : Option Value} (ha0 : mn_isC a0) (hy1 : vp_in ((h a0 2) - 1) 60) : mn_E 6 7 [.ref a0] [] h r h' ↔ mn_E 6 25 [.ref a0] [.int (h (a0 + 1) ((h a0 2) - 1).toNatClampNeg)] h r h' :=
  (mX_aload_n d_X1_dayBefore_7 rfl).trans <| (mG_r (b := (a0 + 1)) d_X1_dayBefore_8 fr_6_9 (mn_shC0 ha0) (mn_ltC0 ha0) (mn_rfC1 ha0 _)).trans <| (mX_aload_n d_X1_dayBefore_11 rfl).trans <| (mG_i d_X1_dayBefore_12 fi_6_19 (mn_shC0 ha0) (mn_ltC0 ha0)).trans <| (mX_iconst d_X1_dayBefore_15 ci_1).trans <| (mX_isub d_X1_dayBefore_16).trans <| (mX_iaload d_X1_dayBefore_17 (mn_shC1 ha0) (mn_ltC ha0 (by decide)) hy1).trans <| mX_goto d_X1_dayBefore_18 rfl
theorem b_X1_dayBefore_21 {a0 : Nat} {h h' : mn_H} {r : Option Value} (ha0 : mn_isC a0) : mn_E 6 21 [.ref a0] [] h r h' ↔ mn_E 6 25 [.ref a0] [.int (h a0 0)] h r h' :=
  (mX_aload_n d_X1_dayBefore_21 rfl).trans <| mG_i d_X1_dayBefore_22 fi_6_15 (mn_shC0 ha0) (mn_ltC0 ha0)
theorem b_X1_dayBefore_25 {s0 : Int32} {a0 : Nat} {h h' : mn_H} {r : Option Value} (ha0 : mn_isC a0) : mn_E 6 25 [.ref a0] [.int s0] h r h' ↔ r = some (.int s0) ∧ h' = h :=
  mX_iret d_X1_dayBefore_25 rfl
-- X1_pass
theorem mo_7 : mO 7 = 1 := rfl
theorem d_X1_pass_0 : decode (mC 7) 0 = .ok (.aload_n 0, 1) := by decide +kernel
theorem d_X1_pass_1 : decode (mC 7) 1 = .ok (.getfield 19, 3) := by decide +kernel
theorem d_X1_pass_4 : decode (mC 7) 4 = .ok (.bipush 60, 2) := by decide +kernel
theorem d_X1_pass_6 : decode (mC 7) 6 = .ok (.if_icmp .ge 33, 3) := by decide +kernel
theorem d_X1_pass_9 : decode (mC 7) 9 = .ok (.aload_n 0, 1) := by decide +kernel
theorem d_X1_pass_10 : decode (mC 7) 10 = .ok (.getfield 9, 3) := by decide +kernel
theorem d_X1_pass_13 : decode (mC 7) 13 = .ok (.aload_n 0, 1) := by decide +kernel
theorem d_X1_pass_14 : decode (mC 7) 14 = .ok (.getfield 19, 3) := by decide +kernel
theorem d_X1_pass_17 : decode (mC 7) 17 = .ok (.iload_n 1, 1) := by decide +kernel
theorem d_X1_pass_18 : decode (mC 7) 18 = .ok (.iastore, 1) := by decide +kernel
theorem d_X1_pass_19 : decode (mC 7) 19 = .ok (.aload_n 0, 1) := by decide +kernel
theorem d_X1_pass_20 : decode (mC 7) 20 = .ok (.dup, 1) := by decide +kernel
theorem d_X1_pass_21 : decode (mC 7) 21 = .ok (.getfield 19, 3) := by decide +kernel
theorem d_X1_pass_24 : decode (mC 7) 24 = .ok (.iconst 1, 1) := by decide +kernel
theorem d_X1_pass_25 : decode (mC 7) 25 = .ok (.iadd, 1) := by decide +kernel
theorem d_X1_pass_26 : decode (mC 7) 26 = .ok (.putfield 19, 3) := by decide +kernel
theorem d_X1_pass_29 : decode (mC 7) 29 = .ok (.aload_n 0, 1) := by decide +kernel
theorem d_X1_pass_30 : decode (mC 7) 30 = .ok (.dup, 1) := by decide +kernel
theorem d_X1_pass_31 : decode (mC 7) 31 = .ok (.getfield 22, 3) := by decide +kernel
theorem d_X1_pass_34 : decode (mC 7) 34 = .ok (.iload_n 2, 1) := by decide +kernel
theorem d_X1_pass_35 : decode (mC 7) 35 = .ok (.iadd, 1) := by decide +kernel
theorem d_X1_pass_36 : decode (mC 7) 36 = .ok (.putfield 22, 3) := by decide +kernel
theorem d_X1_pass_39 : decode (mC 7) 39 = .ok (.return_, 1) := by decide +kernel
theorem fi_7_19 : mn_fi 7 1 19 1 2 = true := by decide +kernel
theorem fr_7_9 : mn_fr 7 1 9 1 1 = true := by decide +kernel
theorem fi_7_22 : mn_fi 7 1 22 1 3 = true := by decide +kernel
theorem b_X1_pass_0 {x1 x2 : Int32} {a0 : Nat} {h h' : mn_H} {r : Option Value} (ha0 : mn_isC a0) : mn_E 7 0 [.ref a0, .int x1, .int x2] [] h r h' ↔ if (60 : Int32) ≤ (h a0 2) then mn_E 7 39 [.ref a0, .int x1, .int x2] [] h r h' else mn_E 7 9 [.ref a0, .int x1, .int x2] [] h r h' :=
  (mX_aload_n d_X1_pass_0 rfl).trans <| (mG_i d_X1_pass_1 fi_7_19 (mn_shC0 ha0) (mn_ltC0 ha0)).trans <| (mX_bipush d_X1_pass_4 cb_60).trans <| mX_icmp_ge d_X1_pass_6 rfl
theorem b_X1_pass_9 {x1 x2 : Int32} {a0 : Nat} {h h' : mn_H} {r : Option Value} (ha0 : mn_isC a0) (hy1 : vp_in (h a0 2) 60) : mn_E 7 9 [.ref a0, .int x1, .int x2] [] h r h' ↔ mn_E 7 39 [.ref a0, .int x1, .int x2] [] (mn_up (mn_up (mn_up h (a0 + 1) ((h a0 2).toNatClampNeg) x1) a0 2 (((mn_up h (a0 + 1) ((h a0 2).toNatClampNeg) x1) a0 2) + 1)) a0 3 (((mn_up (mn_up h (a0 + 1) ((h a0 2).toNatClampNeg) x1) a0 2 (((mn_up h (a0 + 1) ((h a0 2).toNatClampNeg) x1) a0 2) + 1)) a0 3) + x2)) r h' :=
  (mX_aload_n d_X1_pass_9 rfl).trans <| (mG_r (b := (a0 + 1)) d_X1_pass_10 fr_7_9 (mn_shC0 ha0) (mn_ltC0 ha0) (mn_rfC1 ha0 _)).trans <| (mX_aload_n d_X1_pass_13 rfl).trans <| (mG_i d_X1_pass_14 fi_7_19 (mn_shC0 ha0) (mn_ltC0 ha0)).trans <| (mX_iload_n d_X1_pass_17 rfl).trans <| (mX_iastore d_X1_pass_18 (mn_shC1 ha0) (mn_ltC ha0 (by decide)) hy1).trans <| (mX_aload_n d_X1_pass_19 rfl).trans <| (mX_dup d_X1_pass_20 rfl).trans <| (mG_i d_X1_pass_21 fi_7_19 (mn_shC0 ha0) (mn_ltC0 ha0)).trans <| (mX_iconst d_X1_pass_24 ci_1).trans <| (mX_iadd d_X1_pass_25).trans <| (mP_i d_X1_pass_26 fi_7_19 (mn_shC0 ha0) (mn_ltC0 ha0) rfl (Or.inl (by decide))).trans <| (mX_aload_n d_X1_pass_29 rfl).trans <| (mX_dup d_X1_pass_30 rfl).trans <| (mG_i d_X1_pass_31 fi_7_22 (mn_shC0 ha0) (mn_ltC0 ha0)).trans <| (mX_iload_n d_X1_pass_34 rfl).trans <| (mX_iadd d_X1_pass_35).trans <| mP_i d_X1_pass_36 fi_7_22 (mn_shC0 ha0) (mn_ltC0 ha0) rfl (Or.inl (by decide))
theorem b_X1_pass_39 {x1 x2 : Int32} {a0 : Nat} {h h' : mn_H} {r : Option Value} (ha0 : mn_isC a0) : mn_E 7 39 [.ref a0, .int x1, .int x2] [] h r h' ↔ r = none ∧ h' = h :=
  mX_vret d_X1_pass_39 rfl
-- X1_takeBack
theorem mo_8 : mO 8 = 1 := rfl
theorem d_X1_takeBack_0 : decode (mC 8) 0 = .ok (.aload_n 0, 1) := by decide +kernel
theorem d_X1_takeBack_1 : decode (mC 8) 1 = .ok (.getfield 19, 3) := by decide +kernel
theorem d_X1_takeBack_4 : decode (mC 8) 4 = .ok (.ifCond .le 23, 3) := by decide +kernel
theorem d_X1_takeBack_7 : decode (mC 8) 7 = .ok (.aload_n 0, 1) := by decide +kernel
theorem d_X1_takeBack_8 : decode (mC 8) 8 = .ok (.dup, 1) := by decide +kernel
theorem d_X1_takeBack_9 : decode (mC 8) 9 = .ok (.getfield 19, 3) := by decide +kernel
theorem d_X1_takeBack_12 : decode (mC 8) 12 = .ok (.iconst 1, 1) := by decide +kernel
theorem d_X1_takeBack_13 : decode (mC 8) 13 = .ok (.isub, 1) := by decide +kernel
theorem d_X1_takeBack_14 : decode (mC 8) 14 = .ok (.putfield 19, 3) := by decide +kernel
theorem d_X1_takeBack_17 : decode (mC 8) 17 = .ok (.aload_n 0, 1) := by decide +kernel
theorem d_X1_takeBack_18 : decode (mC 8) 18 = .ok (.dup, 1) := by decide +kernel
theorem d_X1_takeBack_19 : decode (mC 8) 19 = .ok (.getfield 22, 3) := by decide +kernel
theorem d_X1_takeBack_22 : decode (mC 8) 22 = .ok (.iload_n 1, 1) := by decide +kernel
theorem d_X1_takeBack_23 : decode (mC 8) 23 = .ok (.isub, 1) := by decide +kernel
theorem d_X1_takeBack_24 : decode (mC 8) 24 = .ok (.putfield 22, 3) := by decide +kernel
theorem d_X1_takeBack_27 : decode (mC 8) 27 = .ok (.return_, 1) := by decide +kernel
theorem fi_8_19 : mn_fi 8 1 19 1 2 = true := by decide +kernel
theorem fi_8_22 : mn_fi 8 1 22 1 3 = true := by decide +kernel
theorem b_X1_takeBack_0 {x1 : Int32} {a0 : Nat} {h h' : mn_H} {r : Option Value} (ha0 : mn_isC a0) : mn_E 8 0 [.ref a0, .int x1] [] h r h' ↔ if (h a0 2) ≤ 0 then mn_E 8 27 [.ref a0, .int x1] [] h r h' else mn_E 8 7 [.ref a0, .int x1] [] h r h' :=
  (mX_aload_n d_X1_takeBack_0 rfl).trans <| (mG_i d_X1_takeBack_1 fi_8_19 (mn_shC0 ha0) (mn_ltC0 ha0)).trans <| mX_if_le d_X1_takeBack_4 rfl
theorem b_X1_takeBack_7 {x1 : Int32} {a0 : Nat} {h h' : mn_H} {r : Option Value} (ha0 : mn_isC a0) : mn_E 8 7 [.ref a0, .int x1] [] h r h' ↔ mn_E 8 27 [.ref a0, .int x1] [] (mn_up (mn_up h a0 2 ((h a0 2) - 1)) a0 3 (((mn_up h a0 2 ((h a0 2) - 1)) a0 3) - x1)) r h' :=
  (mX_aload_n d_X1_takeBack_7 rfl).trans <| (mX_dup d_X1_takeBack_8 rfl).trans <| (mG_i d_X1_takeBack_9 fi_8_19 (mn_shC0 ha0) (mn_ltC0 ha0)).trans <| (mX_iconst d_X1_takeBack_12 ci_1).trans <| (mX_isub d_X1_takeBack_13).trans <| (mP_i d_X1_takeBack_14 fi_8_19 (mn_shC0 ha0) (mn_ltC0 ha0) rfl (Or.inl (by decide))).trans <| (mX_aload_n d_X1_takeBack_17 rfl).trans <| (mX_dup d_X1_takeBack_18 rfl).trans <| (mG_i d_X1_takeBack_19 fi_8_22 (mn_shC0 ha0) (mn_ltC0 ha0)).trans <| (mX_iload_n d_X1_takeBack_22 rfl).trans <| (mX_isub d_X1_takeBack_23).trans <| mP_i d_X1_takeBack_24 fi_8_22 (mn_shC0 ha0) (mn_ltC0 ha0) rfl (Or.inl (by decide))
theorem b_X1_takeBack_27 {x1 : Int32} {a0 : Nat} {h h' : mn_H} {r : Option Value} (ha0 : mn_isC a0) : mn_E 8 27 [.ref a0, .int x1] [] h r h' ↔ r = none ∧ h' = h :=
  mX_vret d_X1_takeBack_27 rfl
-- X1_draw
theorem mo_9 : mO 9 = 1 := rfl
theorem d_X1_draw_0 : decode (mC 9) 0 = .ok (.aload_n 0, 1) := by decide +kernel
theorem d_X1_draw_1 : decode (mC 9) 1 = .ok (.aload_n 0, 1) := by decide +kernel
theorem d_X1_draw_2 : decode (mC 9) 2 = .ok (.getfield 37, 3) := by decide +kernel
theorem d_X1_draw_5 : decode (mC 9) 5 = .ok (.i2l, 1) := by decide +kernel
theorem d_X1_draw_6 : decode (mC 9) 6 = .ok (.ldc2_w 40, 3) := by decide +kernel
theorem d_X1_draw_9 : decode (mC 9) 9 = .ok (.lmul, 1) := by decide +kernel
theorem d_X1_draw_10 : decode (mC 9) 10 = .ok (.ldc2_w 42, 3) := by decide +kernel
theorem d_X1_draw_13 : decode (mC 9) 13 = .ok (.ladd, 1) := by decide +kernel
theorem d_X1_draw_14 : decode (mC 9) 14 = .ok (.ldc2_w 44, 3) := by decide +kernel
theorem d_X1_draw_17 : decode (mC 9) 17 = .ok (.land, 1) := by decide +kernel
theorem d_X1_draw_18 : decode (mC 9) 18 = .ok (.l2i, 1) := by decide +kernel
theorem d_X1_draw_19 : decode (mC 9) 19 = .ok (.putfield 37, 3) := by decide +kernel
theorem d_X1_draw_22 : decode (mC 9) 22 = .ok (.iload_n 1, 1) := by decide +kernel
theorem d_X1_draw_23 : decode (mC 9) 23 = .ok (.ifCond .le 15, 3) := by decide +kernel
theorem d_X1_draw_26 : decode (mC 9) 26 = .ok (.aload_n 0, 1) := by decide +kernel
theorem d_X1_draw_27 : decode (mC 9) 27 = .ok (.getfield 37, 3) := by decide +kernel
theorem d_X1_draw_30 : decode (mC 9) 30 = .ok (.ldc 46, 2) := by decide +kernel
theorem d_X1_draw_32 : decode (mC 9) 32 = .ok (.idiv, 1) := by decide +kernel
theorem d_X1_draw_33 : decode (mC 9) 33 = .ok (.iload_n 1, 1) := by decide +kernel
theorem d_X1_draw_34 : decode (mC 9) 34 = .ok (.irem, 1) := by decide +kernel
theorem d_X1_draw_35 : decode (mC 9) 35 = .ok (.goto 4, 3) := by decide +kernel
theorem d_X1_draw_38 : decode (mC 9) 38 = .ok (.iconst 0, 1) := by decide +kernel
theorem d_X1_draw_39 : decode (mC 9) 39 = .ok (.ireturn, 1) := by decide +kernel
theorem fi_9_37 : mn_fi 9 1 37 1 6 = true := by decide +kernel
theorem b_X1_draw_0 {x1 : Int32} {a0 : Nat} {h h' : mn_H} {r : Option Value} (ha0 : mn_isC a0) : mn_E 9 0 [.ref a0, .int x1] [] h r h' ↔ if x1 ≤ 0 then mn_E 9 38 [.ref a0, .int x1] [] (mn_up h a0 6 ((((((h a0 6)).toInt64 * 1103515245) + 12345) &&& 2147483647)).toInt32) r h' else mn_E 9 26 [.ref a0, .int x1] [] (mn_up h a0 6 ((((((h a0 6)).toInt64 * 1103515245) + 12345) &&& 2147483647)).toInt32) r h' :=
  (mX_aload_n d_X1_draw_0 rfl).trans <| (mX_aload_n d_X1_draw_1 rfl).trans <| (mG_i d_X1_draw_2 fi_9_37 (mn_shC0 ha0) (mn_ltC0 ha0)).trans <| (mX_i2l d_X1_draw_5).trans <| (mX_ldc2 d_X1_draw_6 mo_9 kl_1_40).trans <| (mX_lmul d_X1_draw_9).trans <| (mX_ldc2 d_X1_draw_10 mo_9 kl_1_42).trans <| (mX_ladd d_X1_draw_13).trans <| (mX_ldc2 d_X1_draw_14 mo_9 kl_1_44).trans <| (mX_land d_X1_draw_17).trans <| (mX_l2i d_X1_draw_18).trans <| (mP_i d_X1_draw_19 fi_9_37 (mn_shC0 ha0) (mn_ltC0 ha0) rfl (Or.inl (by decide))).trans <| (mX_iload_n d_X1_draw_22 rfl).trans <| mX_if_le d_X1_draw_23 rfl
theorem b_X1_draw_26 {x1 : Int32} {a0 : Nat} {h h' : mn_H} {r : Option Value} (ha0 : mn_isC a0) (hy1 : ¬ x1 = 0) : mn_E 9 26 [.ref a0, .int x1] [] h r h' ↔ mn_E 9 39 [.ref a0, .int x1] [.int (((h a0 6) / 65536) - ((h a0 6) / 65536) / x1 * x1)] h r h' :=
  (mX_aload_n d_X1_draw_26 rfl).trans <| (mG_i d_X1_draw_27 fi_9_37 (mn_shC0 ha0) (mn_ltC0 ha0)).trans <| (mX_ldc d_X1_draw_30 mo_9 kc_1_46 (by decide)).trans <| (mX_idiv d_X1_draw_32 (by decide)).trans <| (mX_iload_n d_X1_draw_33 rfl).trans <| (mX_irem d_X1_draw_34 hy1).trans <| mX_goto d_X1_draw_35 rfl
theorem b_X1_draw_38 {x1 : Int32} {a0 : Nat} {h h' : mn_H} {r : Option Value} (ha0 : mn_isC a0) : mn_E 9 38 [.ref a0, .int x1] [] h r h' ↔ mn_E 9 39 [.ref a0, .int x1] [.int 0] h r h' :=
  mX_iconst d_X1_draw_38 ci_0
theorem b_X1_draw_39 {x1 s0 : Int32} {a0 : Nat} {h h' : mn_H} {r : Option Value} (ha0 : mn_isC a0) : mn_E 9 39 [.ref a0, .int x1] [.int s0] h r h' ↔ r = some (.int s0) ∧ h' = h :=
  mX_iret d_X1_draw_39 rfl
-- X2_letters
theorem mo_10 : mO 10 = 2 := rfl
theorem d_X2_letters_0 : decode (mC 10) 0 = .ok (.aload_n 0, 1) := by decide +kernel
theorem d_X2_letters_1 : decode (mC 10) 1 = .ok (.getfield 19, 3) := by decide +kernel
theorem d_X2_letters_4 : decode (mC 10) 4 = .ok (.ireturn, 1) := by decide +kernel
theorem fi_10_19 : mn_fi 10 2 19 2 1 = true := by decide +kernel
theorem b_X2_letters_0 {h h' : mn_H} {r : Option Value} : mn_E 10 0 [.ref 1] [] h r h' ↔ r = some (.int (h 1 1)) ∧ h' = h :=
  (mX_aload_n d_X2_letters_0 rfl).trans <| (mG_i d_X2_letters_1 fi_10_19 rfl (by decide)).trans <| mX_iret d_X2_letters_4 rfl
-- X2_faultAt
theorem mo_11 : mO 11 = 2 := rfl
theorem d_X2_faultAt_0 : decode (mC 11) 0 = .ok (.aload_n 0, 1) := by decide +kernel
theorem d_X2_faultAt_1 : decode (mC 11) 1 = .ok (.getfield 15, 3) := by decide +kernel
theorem d_X2_faultAt_4 : decode (mC 11) 4 = .ok (.ireturn, 1) := by decide +kernel
theorem fi_11_15 : mn_fi 11 2 15 2 5 = true := by decide +kernel
theorem b_X2_faultAt_0 {h h' : mn_H} {r : Option Value} : mn_E 11 0 [.ref 1] [] h r h' ↔ r = some (.int (h 1 5)) ∧ h' = h :=
  (mX_aload_n d_X2_faultAt_0 rfl).trans <| (mG_i d_X2_faultAt_1 fi_11_15 rfl (by decide)).trans <| mX_iret d_X2_faultAt_4 rfl
-- X2_append
theorem mo_12 : mO 12 = 2 := rfl
theorem d_X2_append_0 : decode (mC 12) 0 = .ok (.aload_n 0, 1) := by decide +kernel
theorem d_X2_append_1 : decode (mC 12) 1 = .ok (.getfield 19, 3) := by decide +kernel
theorem d_X2_append_4 : decode (mC 12) 4 = .ok (.sipush 250, 3) := by decide +kernel
theorem d_X2_append_7 : decode (mC 12) 7 = .ok (.if_icmp .lt 5, 3) := by decide +kernel
theorem d_X2_append_10 : decode (mC 12) 10 = .ok (.iconst 0, 1) := by decide +kernel
theorem d_X2_append_11 : decode (mC 12) 11 = .ok (.ireturn, 1) := by decide +kernel
theorem d_X2_append_12 : decode (mC 12) 12 = .ok (.aload_n 0, 1) := by decide +kernel
theorem d_X2_append_13 : decode (mC 12) 13 = .ok (.getfield 9, 3) := by decide +kernel
theorem d_X2_append_16 : decode (mC 12) 16 = .ok (.aload_n 0, 1) := by decide +kernel
theorem d_X2_append_17 : decode (mC 12) 17 = .ok (.getfield 19, 3) := by decide +kernel
theorem d_X2_append_20 : decode (mC 12) 20 = .ok (.iload_n 1, 1) := by decide +kernel
theorem d_X2_append_21 : decode (mC 12) 21 = .ok (.iastore, 1) := by decide +kernel
theorem d_X2_append_22 : decode (mC 12) 22 = .ok (.aload_n 0, 1) := by decide +kernel
theorem d_X2_append_23 : decode (mC 12) 23 = .ok (.dup, 1) := by decide +kernel
theorem d_X2_append_24 : decode (mC 12) 24 = .ok (.getfield 19, 3) := by decide +kernel
theorem d_X2_append_27 : decode (mC 12) 27 = .ok (.iconst 1, 1) := by decide +kernel
theorem d_X2_append_28 : decode (mC 12) 28 = .ok (.iadd, 1) := by decide +kernel
theorem d_X2_append_29 : decode (mC 12) 29 = .ok (.putfield 19, 3) := by decide +kernel
theorem d_X2_append_32 : decode (mC 12) 32 = .ok (.iconst 1, 1) := by decide +kernel
theorem d_X2_append_33 : decode (mC 12) 33 = .ok (.ireturn, 1) := by decide +kernel
theorem fi_12_19 : mn_fi 12 2 19 2 1 = true := by decide +kernel
theorem fr_12_9 : mn_fr 12 2 9 2 0 = true := by decide +kernel
theorem b_X2_append_0 {x1 : Int32} {h h' : mn_H} {r : Option Value} : mn_E 12 0 [.ref 1, .int x1] [] h r h' ↔ if (h 1 1) < 250 then mn_E 12 12 [.ref 1, .int x1] [] h r h' else mn_E 12 10 [.ref 1, .int x1] [] h r h' :=
  (mX_aload_n d_X2_append_0 rfl).trans <| (mG_i d_X2_append_1 fi_12_19 rfl (by decide)).trans <| (mX_sipush d_X2_append_4 cs_250).trans <| mX_icmp_lt d_X2_append_7 rfl
theorem b_X2_append_10 {x1 : Int32} {h h' : mn_H} {r : Option Value} : mn_E 12 10 [.ref 1, .int x1] [] h r h' ↔ r = some (.int 0) ∧ h' = h :=
  (mX_iconst d_X2_append_10 ci_0).trans <| mX_zret d_X2_append_11 rfl (by decide)
theorem b_X2_append_12 {x1 : Int32} {h h' : mn_H} {r : Option Value} (hy0 : vp_in (h 1 1) 250) : mn_E 12 12 [.ref 1, .int x1] [] h r h' ↔ r = some (.int 1) ∧ h' = mn_up (mn_up h 2 ((h 1 1).toNatClampNeg) x1) 1 1 (((mn_up h 2 ((h 1 1).toNatClampNeg) x1) 1 1) + 1) :=
  (mX_aload_n d_X2_append_12 rfl).trans <| (mG_r (b := 2) d_X2_append_13 fr_12_9 rfl (by decide) rfl).trans <| (mX_aload_n d_X2_append_16 rfl).trans <| (mG_i d_X2_append_17 fi_12_19 rfl (by decide)).trans <| (mX_iload_n d_X2_append_20 rfl).trans <| (mX_iastore d_X2_append_21 rfl (by decide) hy0).trans <| (mX_aload_n d_X2_append_22 rfl).trans <| (mX_dup d_X2_append_23 rfl).trans <| (mG_i d_X2_append_24 fi_12_19 rfl (by decide)).trans <| (mX_iconst d_X2_append_27 ci_1).trans <| (mX_iadd d_X2_append_28).trans <| (mP_i d_X2_append_29 fi_12_19 rfl (by decide) rfl (Or.inl (by decide))).trans <| (mX_iconst d_X2_append_32 ci_1).trans <| mX_zret d_X2_append_33 rfl (by decide)
-- X2_readInto
theorem mo_13 : mO 13 = 2 := rfl
theorem d_X2_readInto_0 : decode (mC 13) 0 = .ok (.aload_n 1, 1) := by decide +kernel
theorem d_X2_readInto_1 : decode (mC 13) 1 = .ok (.invokevirtual 22, 3) := by decide +kernel
theorem d_X2_readInto_4 : decode (mC 13) 4 = .ok (.aload_n 0, 1) := by decide +kernel
theorem d_X2_readInto_5 : decode (mC 13) 5 = .ok (.iconst 0, 1) := by decide +kernel
theorem d_X2_readInto_6 : decode (mC 13) 6 = .ok (.putfield 27, 3) := by decide +kernel
theorem d_X2_readInto_9 : decode (mC 13) 9 = .ok (.aload_n 0, 1) := by decide +kernel
theorem d_X2_readInto_10 : decode (mC 13) 10 = .ok (.iconst 0, 1) := by decide +kernel
theorem d_X2_readInto_11 : decode (mC 13) 11 = .ok (.putfield 30, 3) := by decide +kernel
theorem d_X2_readInto_14 : decode (mC 13) 14 = .ok (.aload_n 0, 1) := by decide +kernel
theorem d_X2_readInto_15 : decode (mC 13) 15 = .ok (.iconst (-1), 1) := by decide +kernel
theorem d_X2_readInto_16 : decode (mC 13) 16 = .ok (.putfield 15, 3) := by decide +kernel
theorem d_X2_readInto_19 : decode (mC 13) 19 = .ok (.aload_n 0, 1) := by decide +kernel
theorem d_X2_readInto_20 : decode (mC 13) 20 = .ok (.invokevirtual 33, 3) := by decide +kernel
theorem d_X2_readInto_23 : decode (mC 13) 23 = .ok (.iconst 0, 1) := by decide +kernel
theorem d_X2_readInto_24 : decode (mC 13) 24 = .ok (.istore_n 2, 1) := by decide +kernel
theorem d_X2_readInto_25 : decode (mC 13) 25 = .ok (.iload_n 2, 1) := by decide +kernel
theorem d_X2_readInto_26 : decode (mC 13) 26 = .ok (.sipush 250, 3) := by decide +kernel
theorem d_X2_readInto_29 : decode (mC 13) 29 = .ok (.if_icmp .ge 36, 3) := by decide +kernel
theorem d_X2_readInto_32 : decode (mC 13) 32 = .ok (.aload_n 0, 1) := by decide +kernel
theorem d_X2_readInto_33 : decode (mC 13) 33 = .ok (.getfield 27, 3) := by decide +kernel
theorem d_X2_readInto_36 : decode (mC 13) 36 = .ok (.aload_n 0, 1) := by decide +kernel
theorem d_X2_readInto_37 : decode (mC 13) 37 = .ok (.getfield 19, 3) := by decide +kernel
theorem d_X2_readInto_40 : decode (mC 13) 40 = .ok (.if_icmp .ge 25, 3) := by decide +kernel
theorem d_X2_readInto_43 : decode (mC 13) 43 = .ok (.aload_n 0, 1) := by decide +kernel
theorem d_X2_readInto_44 : decode (mC 13) 44 = .ok (.getfield 30, 3) := by decide +kernel
theorem d_X2_readInto_47 : decode (mC 13) 47 = .ok (.ifCond .ne 18, 3) := by decide +kernel
theorem d_X2_readInto_50 : decode (mC 13) 50 = .ok (.aload_n 0, 1) := by decide +kernel
theorem d_X2_readInto_51 : decode (mC 13) 51 = .ok (.aload_n 1, 1) := by decide +kernel
theorem d_X2_readInto_52 : decode (mC 13) 52 = .ok (.invokevirtual 36, 3) := by decide +kernel
theorem d_X2_readInto_55 : decode (mC 13) 55 = .ok (.aload_n 0, 1) := by decide +kernel
theorem d_X2_readInto_56 : decode (mC 13) 56 = .ok (.invokevirtual 33, 3) := by decide +kernel
theorem d_X2_readInto_59 : decode (mC 13) 59 = .ok (.iinc 2 1, 3) := by decide +kernel
theorem d_X2_readInto_62 : decode (mC 13) 62 = .ok (.goto (-37), 3) := by decide +kernel
theorem d_X2_readInto_65 : decode (mC 13) 65 = .ok (.aload_n 0, 1) := by decide +kernel
theorem d_X2_readInto_66 : decode (mC 13) 66 = .ok (.iconst 0, 1) := by decide +kernel
theorem d_X2_readInto_67 : decode (mC 13) 67 = .ok (.putfield 19, 3) := by decide +kernel
theorem d_X2_readInto_70 : decode (mC 13) 70 = .ok (.aload_n 0, 1) := by decide +kernel
theorem d_X2_readInto_71 : decode (mC 13) 71 = .ok (.getfield 30, 3) := by decide +kernel
theorem d_X2_readInto_74 : decode (mC 13) 74 = .ok (.ireturn, 1) := by decide +kernel
theorem cv_13_22 : mn_cvt 13 2 22 41 = true := by decide +kernel
theorem fi_13_27 : mn_fi 13 2 27 2 2 = true := by decide +kernel
theorem fi_13_30 : mn_fi 13 2 30 2 4 = true := by decide +kernel
theorem fi_13_15 : mn_fi 13 2 15 2 5 = true := by decide +kernel
theorem cv_13_33 : mn_cvt 13 2 33 23 = true := by decide +kernel
theorem fi_13_19 : mn_fi 13 2 19 2 1 = true := by decide +kernel
theorem cv_13_36 : mn_cvt 13 2 36 14 = true := by decide +kernel
theorem b_X2_readInto_0 {a1 : Nat} {h h' : mn_H} {r : Option Value} (ha1 : mn_isT a1) : mn_E 13 0 [.ref 1, .ref a1, .null] [] h r h' ↔ ∃ h1, mn_X 41 [.ref a1] h none h1 ∧ mn_E 13 4 [.ref 1, .ref a1, .null] [] h1 r h' :=
  (mX_aload_n d_X2_readInto_0 rfl).trans <| mV_v (a := a1) (vs := []) (st' := []) d_X2_readInto_1 cv_13_22 rfl (Nat.le_of_ble_eq_true rfl) rfl rfl (mn_shT0 ha1) rfl
theorem b_X2_readInto_4 {a1 : Nat} {h h' : mn_H} {r : Option Value} (ha1 : mn_isT a1) : mn_E 13 4 [.ref 1, .ref a1, .null] [] h r h' ↔ ∃ h1, mn_X 23 [.ref 1] (mn_up (mn_up (mn_up h 1 2 0) 1 4 0) 1 5 (-1)) none h1 ∧ mn_E 13 23 [.ref 1, .ref a1, .null] [] h1 r h' :=
  (mX_aload_n d_X2_readInto_4 rfl).trans <| (mX_iconst d_X2_readInto_5 ci_0).trans <| (mP_i d_X2_readInto_6 fi_13_27 rfl (by decide) rfl (Or.inl (by decide))).trans <| (mX_aload_n d_X2_readInto_9 rfl).trans <| (mX_iconst d_X2_readInto_10 ci_0).trans <| (mP_i d_X2_readInto_11 fi_13_30 rfl (by decide) rfl (Or.inl (by decide))).trans <| (mX_aload_n d_X2_readInto_14 rfl).trans <| (mX_iconst d_X2_readInto_15 ci_m1).trans <| (mP_i d_X2_readInto_16 fi_13_15 rfl (by decide) rfl (Or.inl (by decide))).trans <| (mX_aload_n d_X2_readInto_19 rfl).trans <| mV_v (a := 1) (vs := []) (st' := []) d_X2_readInto_20 cv_13_33 rfl (Nat.le_of_ble_eq_true rfl) rfl rfl rfl rfl
theorem b_X2_readInto_23 {a1 : Nat} {h h' : mn_H} {r : Option Value} (ha1 : mn_isT a1) : mn_E 13 23 [.ref 1, .ref a1, .null] [] h r h' ↔ mn_E 13 25 [.ref 1, .ref a1, .int 0] [] h r h' :=
  (mX_iconst d_X2_readInto_23 ci_0).trans <| mX_istore_n (ls' := [.ref 1, .ref a1, .int 0]) d_X2_readInto_24 rfl rfl
theorem b_X2_readInto_25 {x2 : Int32} {a1 : Nat} {h h' : mn_H} {r : Option Value} (ha1 : mn_isT a1) : mn_E 13 25 [.ref 1, .ref a1, .int x2] [] h r h' ↔ if (250 : Int32) ≤ x2 then mn_E 13 65 [.ref 1, .ref a1, .int x2] [] h r h' else mn_E 13 32 [.ref 1, .ref a1, .int x2] [] h r h' :=
  (mX_iload_n d_X2_readInto_25 rfl).trans <| (mX_sipush d_X2_readInto_26 cs_250).trans <| mX_icmp_ge d_X2_readInto_29 rfl
theorem b_X2_readInto_32 {x2 : Int32} {a1 : Nat} {h h' : mn_H} {r : Option Value} (ha1 : mn_isT a1) : mn_E 13 32 [.ref 1, .ref a1, .int x2] [] h r h' ↔ if (h 1 1) ≤ (h 1 2) then mn_E 13 65 [.ref 1, .ref a1, .int x2] [] h r h' else mn_E 13 43 [.ref 1, .ref a1, .int x2] [] h r h' :=
  (mX_aload_n d_X2_readInto_32 rfl).trans <| (mG_i d_X2_readInto_33 fi_13_27 rfl (by decide)).trans <| (mX_aload_n d_X2_readInto_36 rfl).trans <| (mG_i d_X2_readInto_37 fi_13_19 rfl (by decide)).trans <| mX_icmp_ge d_X2_readInto_40 rfl
theorem b_X2_readInto_43 {x2 : Int32} {a1 : Nat} {h h' : mn_H} {r : Option Value} (ha1 : mn_isT a1) : mn_E 13 43 [.ref 1, .ref a1, .int x2] [] h r h' ↔ if ¬ (h 1 4) = 0 then mn_E 13 65 [.ref 1, .ref a1, .int x2] [] h r h' else mn_E 13 50 [.ref 1, .ref a1, .int x2] [] h r h' :=
  (mX_aload_n d_X2_readInto_43 rfl).trans <| (mG_i d_X2_readInto_44 fi_13_30 rfl (by decide)).trans <| mX_if_ne d_X2_readInto_47 rfl
theorem b_X2_readInto_50 {x2 : Int32} {a1 : Nat} {h h' : mn_H} {r : Option Value} (ha1 : mn_isT a1) : mn_E 13 50 [.ref 1, .ref a1, .int x2] [] h r h' ↔ ∃ h1, mn_X 14 [.ref 1, .ref a1] h none h1 ∧ mn_E 13 55 [.ref 1, .ref a1, .int x2] [] h1 r h' :=
  (mX_aload_n d_X2_readInto_50 rfl).trans <| (mX_aload_n d_X2_readInto_51 rfl).trans <| mV_v (a := 1) (vs := [.ref a1]) (st' := []) d_X2_readInto_52 cv_13_36 rfl (Nat.le_of_ble_eq_true rfl) rfl rfl rfl rfl
theorem b_X2_readInto_55 {x2 : Int32} {a1 : Nat} {h h' : mn_H} {r : Option Value} (ha1 : mn_isT a1) : mn_E 13 55 [.ref 1, .ref a1, .int x2] [] h r h' ↔ ∃ h1, mn_X 23 [.ref 1] h none h1 ∧ mn_E 13 59 [.ref 1, .ref a1, .int x2] [] h1 r h' :=
  (mX_aload_n d_X2_readInto_55 rfl).trans <| mV_v (a := 1) (vs := []) (st' := []) d_X2_readInto_56 cv_13_33 rfl (Nat.le_of_ble_eq_true rfl) rfl rfl rfl rfl
theorem b_X2_readInto_59 {x2 : Int32} {a1 : Nat} {h h' : mn_H} {r : Option Value} (ha1 : mn_isT a1) : mn_E 13 59 [.ref 1, .ref a1, .int x2] [] h r h' ↔ mn_E 13 25 [.ref 1, .ref a1, .int (x2 + 1)] [] h r h' :=
  (mX_iinc (ls' := [.ref 1, .ref a1, .int (x2 + 1)]) d_X2_readInto_59 rfl ci_1 rfl rfl).trans <| mX_goto d_X2_readInto_62 rfl
theorem b_X2_readInto_65 {x2 : Int32} {a1 : Nat} {h h' : mn_H} {r : Option Value} (ha1 : mn_isT a1) : mn_E 13 65 [.ref 1, .ref a1, .int x2] [] h r h' ↔ r = some (.int ((mn_up h 1 1 0) 1 4)) ∧ h' = mn_up h 1 1 0 :=
  (mX_aload_n d_X2_readInto_65 rfl).trans <| (mX_iconst d_X2_readInto_66 ci_0).trans <| (mP_i d_X2_readInto_67 fi_13_19 rfl (by decide) rfl (Or.inl (by decide))).trans <| (mX_aload_n d_X2_readInto_70 rfl).trans <| (mG_i d_X2_readInto_71 fi_13_30 rfl (by decide)).trans <| mX_iret d_X2_readInto_74 rfl
-- X2_readClause
theorem mo_14 : mO 14 = 2 := rfl
theorem d_X2_readClause_0 : decode (mC 14) 0 = .ok (.aload_n 0, 1) := by decide +kernel
theorem d_X2_readClause_1 : decode (mC 14) 1 = .ok (.getfield 27, 3) := by decide +kernel
theorem d_X2_readClause_4 : decode (mC 14) 4 = .ok (.istore_n 2, 1) := by decide +kernel
theorem d_X2_readClause_5 : decode (mC 14) 5 = .ok (.aload_n 0, 1) := by decide +kernel
theorem d_X2_readClause_6 : decode (mC 14) 6 = .ok (.getfield 9, 3) := by decide +kernel
theorem d_X2_readClause_9 : decode (mC 14) 9 = .ok (.aload_n 0, 1) := by decide +kernel
theorem d_X2_readClause_10 : decode (mC 14) 10 = .ok (.getfield 27, 3) := by decide +kernel
theorem d_X2_readClause_13 : decode (mC 14) 13 = .ok (.iaload, 1) := by decide +kernel
theorem d_X2_readClause_14 : decode (mC 14) 14 = .ok (.istore_n 3, 1) := by decide +kernel
theorem d_X2_readClause_15 : decode (mC 14) 15 = .ok (.aload_n 0, 1) := by decide +kernel
theorem d_X2_readClause_16 : decode (mC 14) 16 = .ok (.dup, 1) := by decide +kernel
theorem d_X2_readClause_17 : decode (mC 14) 17 = .ok (.getfield 27, 3) := by decide +kernel
theorem d_X2_readClause_20 : decode (mC 14) 20 = .ok (.iconst 1, 1) := by decide +kernel
theorem d_X2_readClause_21 : decode (mC 14) 21 = .ok (.iadd, 1) := by decide +kernel
theorem d_X2_readClause_22 : decode (mC 14) 22 = .ok (.putfield 27, 3) := by decide +kernel
theorem d_X2_readClause_25 : decode (mC 14) 25 = .ok (.iload_n 3, 1) := by decide +kernel
theorem d_X2_readClause_26 : decode (mC 14) 26 = .ok (.tableswitch 145 98 115 #[86, 145, 145, 145, 145, 95, 137, 145, 145, 145, 145, 145, 128, 145, 145, 145, 104, 116], 86) := by decide +kernel
theorem d_X2_readClause_112 : decode (mC 14) 112 = .ok (.aload_n 0, 1) := by decide +kernel
theorem d_X2_readClause_113 : decode (mC 14) 113 = .ok (.aload_n 1, 1) := by decide +kernel
theorem d_X2_readClause_114 : decode (mC 14) 114 = .ok (.iload_n 2, 1) := by decide +kernel
theorem d_X2_readClause_115 : decode (mC 14) 115 = .ok (.invokevirtual 40, 3) := by decide +kernel
theorem d_X2_readClause_118 : decode (mC 14) 118 = .ok (.goto 59, 3) := by decide +kernel
theorem d_X2_readClause_121 : decode (mC 14) 121 = .ok (.aload_n 0, 1) := by decide +kernel
theorem d_X2_readClause_122 : decode (mC 14) 122 = .ok (.aload_n 1, 1) := by decide +kernel
theorem d_X2_readClause_123 : decode (mC 14) 123 = .ok (.iload_n 2, 1) := by decide +kernel
theorem d_X2_readClause_124 : decode (mC 14) 124 = .ok (.invokevirtual 44, 3) := by decide +kernel
theorem d_X2_readClause_127 : decode (mC 14) 127 = .ok (.goto 50, 3) := by decide +kernel
theorem d_X2_readClause_130 : decode (mC 14) 130 = .ok (.aload_n 0, 1) := by decide +kernel
theorem d_X2_readClause_131 : decode (mC 14) 131 = .ok (.aload_n 1, 1) := by decide +kernel
theorem d_X2_readClause_132 : decode (mC 14) 132 = .ok (.getfield 47, 3) := by decide +kernel
theorem d_X2_readClause_135 : decode (mC 14) 135 = .ok (.iload_n 2, 1) := by decide +kernel
theorem d_X2_readClause_136 : decode (mC 14) 136 = .ok (.invokevirtual 51, 3) := by decide +kernel
theorem d_X2_readClause_139 : decode (mC 14) 139 = .ok (.goto 38, 3) := by decide +kernel
theorem d_X2_readClause_142 : decode (mC 14) 142 = .ok (.aload_n 0, 1) := by decide +kernel
theorem d_X2_readClause_143 : decode (mC 14) 143 = .ok (.aload_n 1, 1) := by decide +kernel
theorem d_X2_readClause_144 : decode (mC 14) 144 = .ok (.getfield 55, 3) := by decide +kernel
theorem d_X2_readClause_147 : decode (mC 14) 147 = .ok (.iload_n 2, 1) := by decide +kernel
theorem d_X2_readClause_148 : decode (mC 14) 148 = .ok (.invokevirtual 51, 3) := by decide +kernel
theorem d_X2_readClause_151 : decode (mC 14) 151 = .ok (.goto 26, 3) := by decide +kernel
theorem d_X2_readClause_154 : decode (mC 14) 154 = .ok (.aload_n 0, 1) := by decide +kernel
theorem d_X2_readClause_155 : decode (mC 14) 155 = .ok (.aload_n 1, 1) := by decide +kernel
theorem d_X2_readClause_156 : decode (mC 14) 156 = .ok (.iload_n 2, 1) := by decide +kernel
theorem d_X2_readClause_157 : decode (mC 14) 157 = .ok (.invokevirtual 58, 3) := by decide +kernel
theorem d_X2_readClause_160 : decode (mC 14) 160 = .ok (.goto 17, 3) := by decide +kernel
theorem d_X2_readClause_163 : decode (mC 14) 163 = .ok (.aload_n 0, 1) := by decide +kernel
theorem d_X2_readClause_164 : decode (mC 14) 164 = .ok (.aload_n 1, 1) := by decide +kernel
theorem d_X2_readClause_165 : decode (mC 14) 165 = .ok (.invokevirtual 61, 3) := by decide +kernel
theorem d_X2_readClause_168 : decode (mC 14) 168 = .ok (.goto 9, 3) := by decide +kernel
theorem d_X2_readClause_171 : decode (mC 14) 171 = .ok (.aload_n 0, 1) := by decide +kernel
theorem d_X2_readClause_172 : decode (mC 14) 172 = .ok (.iconst 1, 1) := by decide +kernel
theorem d_X2_readClause_173 : decode (mC 14) 173 = .ok (.iload_n 2, 1) := by decide +kernel
theorem d_X2_readClause_174 : decode (mC 14) 174 = .ok (.invokevirtual 64, 3) := by decide +kernel
theorem d_X2_readClause_177 : decode (mC 14) 177 = .ok (.return_, 1) := by decide +kernel
theorem fi_14_27 : mn_fi 14 2 27 2 2 = true := by decide +kernel
theorem fr_14_9 : mn_fr 14 2 9 2 0 = true := by decide +kernel
theorem fr_14_55 : mn_fr 14 2 55 5 10 = true := by decide +kernel
theorem cv_14_51 : mn_cvt 14 2 51 17 = true := by decide +kernel
theorem fr_14_47 : mn_fr 14 2 47 5 9 = true := by decide +kernel
theorem cv_14_58 : mn_cvt 14 2 58 18 = true := by decide +kernel
theorem cv_14_61 : mn_cvt 14 2 61 19 = true := by decide +kernel
theorem cv_14_44 : mn_cvt 14 2 44 16 = true := by decide +kernel
theorem cv_14_40 : mn_cvt 14 2 40 15 = true := by decide +kernel
theorem cv_14_64 : mn_cvt 14 2 64 24 = true := by decide +kernel
theorem b_X2_readClause_0 {a1 : Nat} {h h' : mn_H} {r : Option Value} (ha1 : mn_isT a1) (hy1 : vp_in (h 1 2) 250) : mn_E 14 0 [.ref 1, .ref a1, .null, .null] [] h r h' ↔ mn_E 14 26 [.ref 1, .ref a1, .int (h 1 2), .int (h 2 (h 1 2).toNatClampNeg)] [.int (h 2 (h 1 2).toNatClampNeg)] (mn_up h 1 2 ((h 1 2) + 1)) r h' :=
  (mX_aload_n d_X2_readClause_0 rfl).trans <| (mG_i d_X2_readClause_1 fi_14_27 rfl (by decide)).trans <| (mX_istore_n (ls' := [.ref 1, .ref a1, .int (h 1 2), .null]) d_X2_readClause_4 rfl rfl).trans <| (mX_aload_n d_X2_readClause_5 rfl).trans <| (mG_r (b := 2) d_X2_readClause_6 fr_14_9 rfl (by decide) rfl).trans <| (mX_aload_n d_X2_readClause_9 rfl).trans <| (mG_i d_X2_readClause_10 fi_14_27 rfl (by decide)).trans <| (mX_iaload d_X2_readClause_13 rfl (by decide) hy1).trans <| (mX_istore_n (ls' := [.ref 1, .ref a1, .int (h 1 2), .int (h 2 (h 1 2).toNatClampNeg)]) d_X2_readClause_14 rfl rfl).trans <| (mX_aload_n d_X2_readClause_15 rfl).trans <| (mX_dup d_X2_readClause_16 rfl).trans <| (mG_i d_X2_readClause_17 fi_14_27 rfl (by decide)).trans <| (mX_iconst d_X2_readClause_20 ci_1).trans <| (mX_iadd d_X2_readClause_21).trans <| (mP_i d_X2_readClause_22 fi_14_27 rfl (by decide) rfl (Or.inl (by decide))).trans <| mX_iload_n d_X2_readClause_25 rfl
theorem b_X2_readClause_26_d {x2 x3 s0 : Int32} {a1 : Nat} {h h' : mn_H} {r : Option Value} (ha1 : mn_isT a1) (hx : s0.toInt < 98 ∨ 115 < s0.toInt) : mn_E 14 26 [.ref 1, .ref a1, .int x2, .int x3] [.int s0] h r h' ↔ mn_E 14 171 [.ref 1, .ref a1, .int x2, .int x3] [] h r h' :=
  mX_tsw d_X2_readClause_26 rfl (by unfold mn_tsw; rw [if_pos hx]; rfl)
theorem b_X2_readClause_26_98 {x2 x3 : Int32} {a1 : Nat} {h h' : mn_H} {r : Option Value} (ha1 : mn_isT a1) : mn_E 14 26 [.ref 1, .ref a1, .int x2, .int x3] [.int 98] h r h' ↔ mn_E 14 112 [.ref 1, .ref a1, .int x2, .int x3] [] h r h' :=
  mX_tsw d_X2_readClause_26 rfl (by decide)
theorem b_X2_readClause_26_99 {x2 x3 : Int32} {a1 : Nat} {h h' : mn_H} {r : Option Value} (ha1 : mn_isT a1) : mn_E 14 26 [.ref 1, .ref a1, .int x2, .int x3] [.int 99] h r h' ↔ mn_E 14 171 [.ref 1, .ref a1, .int x2, .int x3] [] h r h' :=
  mX_tsw d_X2_readClause_26 rfl (by decide)
theorem b_X2_readClause_26_100 {x2 x3 : Int32} {a1 : Nat} {h h' : mn_H} {r : Option Value} (ha1 : mn_isT a1) : mn_E 14 26 [.ref 1, .ref a1, .int x2, .int x3] [.int 100] h r h' ↔ mn_E 14 171 [.ref 1, .ref a1, .int x2, .int x3] [] h r h' :=
  mX_tsw d_X2_readClause_26 rfl (by decide)
theorem b_X2_readClause_26_101 {x2 x3 : Int32} {a1 : Nat} {h h' : mn_H} {r : Option Value} (ha1 : mn_isT a1) : mn_E 14 26 [.ref 1, .ref a1, .int x2, .int x3] [.int 101] h r h' ↔ mn_E 14 171 [.ref 1, .ref a1, .int x2, .int x3] [] h r h' :=
  mX_tsw d_X2_readClause_26 rfl (by decide)
theorem b_X2_readClause_26_102 {x2 x3 : Int32} {a1 : Nat} {h h' : mn_H} {r : Option Value} (ha1 : mn_isT a1) : mn_E 14 26 [.ref 1, .ref a1, .int x2, .int x3] [.int 102] h r h' ↔ mn_E 14 171 [.ref 1, .ref a1, .int x2, .int x3] [] h r h' :=
  mX_tsw d_X2_readClause_26 rfl (by decide)
theorem b_X2_readClause_26_103 {x2 x3 : Int32} {a1 : Nat} {h h' : mn_H} {r : Option Value} (ha1 : mn_isT a1) : mn_E 14 26 [.ref 1, .ref a1, .int x2, .int x3] [.int 103] h r h' ↔ mn_E 14 121 [.ref 1, .ref a1, .int x2, .int x3] [] h r h' :=
  mX_tsw d_X2_readClause_26 rfl (by decide)
theorem b_X2_readClause_26_104 {x2 x3 : Int32} {a1 : Nat} {h h' : mn_H} {r : Option Value} (ha1 : mn_isT a1) : mn_E 14 26 [.ref 1, .ref a1, .int x2, .int x3] [.int 104] h r h' ↔ mn_E 14 163 [.ref 1, .ref a1, .int x2, .int x3] [] h r h' :=
  mX_tsw d_X2_readClause_26 rfl (by decide)
theorem b_X2_readClause_26_105 {x2 x3 : Int32} {a1 : Nat} {h h' : mn_H} {r : Option Value} (ha1 : mn_isT a1) : mn_E 14 26 [.ref 1, .ref a1, .int x2, .int x3] [.int 105] h r h' ↔ mn_E 14 171 [.ref 1, .ref a1, .int x2, .int x3] [] h r h' :=
  mX_tsw d_X2_readClause_26 rfl (by decide)
theorem b_X2_readClause_26_106 {x2 x3 : Int32} {a1 : Nat} {h h' : mn_H} {r : Option Value} (ha1 : mn_isT a1) : mn_E 14 26 [.ref 1, .ref a1, .int x2, .int x3] [.int 106] h r h' ↔ mn_E 14 171 [.ref 1, .ref a1, .int x2, .int x3] [] h r h' :=
  mX_tsw d_X2_readClause_26 rfl (by decide)
theorem b_X2_readClause_26_107 {x2 x3 : Int32} {a1 : Nat} {h h' : mn_H} {r : Option Value} (ha1 : mn_isT a1) : mn_E 14 26 [.ref 1, .ref a1, .int x2, .int x3] [.int 107] h r h' ↔ mn_E 14 171 [.ref 1, .ref a1, .int x2, .int x3] [] h r h' :=
  mX_tsw d_X2_readClause_26 rfl (by decide)
theorem b_X2_readClause_26_108 {x2 x3 : Int32} {a1 : Nat} {h h' : mn_H} {r : Option Value} (ha1 : mn_isT a1) : mn_E 14 26 [.ref 1, .ref a1, .int x2, .int x3] [.int 108] h r h' ↔ mn_E 14 171 [.ref 1, .ref a1, .int x2, .int x3] [] h r h' :=
  mX_tsw d_X2_readClause_26 rfl (by decide)
theorem b_X2_readClause_26_109 {x2 x3 : Int32} {a1 : Nat} {h h' : mn_H} {r : Option Value} (ha1 : mn_isT a1) : mn_E 14 26 [.ref 1, .ref a1, .int x2, .int x3] [.int 109] h r h' ↔ mn_E 14 171 [.ref 1, .ref a1, .int x2, .int x3] [] h r h' :=
  mX_tsw d_X2_readClause_26 rfl (by decide)
theorem b_X2_readClause_26_110 {x2 x3 : Int32} {a1 : Nat} {h h' : mn_H} {r : Option Value} (ha1 : mn_isT a1) : mn_E 14 26 [.ref 1, .ref a1, .int x2, .int x3] [.int 110] h r h' ↔ mn_E 14 154 [.ref 1, .ref a1, .int x2, .int x3] [] h r h' :=
  mX_tsw d_X2_readClause_26 rfl (by decide)
theorem b_X2_readClause_26_111 {x2 x3 : Int32} {a1 : Nat} {h h' : mn_H} {r : Option Value} (ha1 : mn_isT a1) : mn_E 14 26 [.ref 1, .ref a1, .int x2, .int x3] [.int 111] h r h' ↔ mn_E 14 171 [.ref 1, .ref a1, .int x2, .int x3] [] h r h' :=
  mX_tsw d_X2_readClause_26 rfl (by decide)
theorem b_X2_readClause_26_112 {x2 x3 : Int32} {a1 : Nat} {h h' : mn_H} {r : Option Value} (ha1 : mn_isT a1) : mn_E 14 26 [.ref 1, .ref a1, .int x2, .int x3] [.int 112] h r h' ↔ mn_E 14 171 [.ref 1, .ref a1, .int x2, .int x3] [] h r h' :=
  mX_tsw d_X2_readClause_26 rfl (by decide)
theorem b_X2_readClause_26_113 {x2 x3 : Int32} {a1 : Nat} {h h' : mn_H} {r : Option Value} (ha1 : mn_isT a1) : mn_E 14 26 [.ref 1, .ref a1, .int x2, .int x3] [.int 113] h r h' ↔ mn_E 14 171 [.ref 1, .ref a1, .int x2, .int x3] [] h r h' :=
  mX_tsw d_X2_readClause_26 rfl (by decide)
theorem b_X2_readClause_26_114 {x2 x3 : Int32} {a1 : Nat} {h h' : mn_H} {r : Option Value} (ha1 : mn_isT a1) : mn_E 14 26 [.ref 1, .ref a1, .int x2, .int x3] [.int 114] h r h' ↔ mn_E 14 130 [.ref 1, .ref a1, .int x2, .int x3] [] h r h' :=
  mX_tsw d_X2_readClause_26 rfl (by decide)
theorem b_X2_readClause_26_115 {x2 x3 : Int32} {a1 : Nat} {h h' : mn_H} {r : Option Value} (ha1 : mn_isT a1) : mn_E 14 26 [.ref 1, .ref a1, .int x2, .int x3] [.int 115] h r h' ↔ mn_E 14 142 [.ref 1, .ref a1, .int x2, .int x3] [] h r h' :=
  mX_tsw d_X2_readClause_26 rfl (by decide)
theorem b_X2_readClause_112 {x2 x3 : Int32} {a1 : Nat} {h h' : mn_H} {r : Option Value} (ha1 : mn_isT a1) : mn_E 14 112 [.ref 1, .ref a1, .int x2, .int x3] [] h r h' ↔ ∃ h1, mn_X 15 [.ref 1, .ref a1, .int x2] h none h1 ∧ mn_E 14 118 [.ref 1, .ref a1, .int x2, .int x3] [] h1 r h' :=
  (mX_aload_n d_X2_readClause_112 rfl).trans <| (mX_aload_n d_X2_readClause_113 rfl).trans <| (mX_iload_n d_X2_readClause_114 rfl).trans <| mV_v (a := 1) (vs := [.ref a1, .int x2]) (st' := []) d_X2_readClause_115 cv_14_40 rfl (Nat.le_of_ble_eq_true rfl) rfl rfl rfl rfl
theorem b_X2_readClause_118 {x2 x3 : Int32} {a1 : Nat} {h h' : mn_H} {r : Option Value} (ha1 : mn_isT a1) : mn_E 14 118 [.ref 1, .ref a1, .int x2, .int x3] [] h r h' ↔ mn_E 14 177 [.ref 1, .ref a1, .int x2, .int x3] [] h r h' :=
  mX_goto d_X2_readClause_118 rfl
theorem b_X2_readClause_121 {x2 x3 : Int32} {a1 : Nat} {h h' : mn_H} {r : Option Value} (ha1 : mn_isT a1) : mn_E 14 121 [.ref 1, .ref a1, .int x2, .int x3] [] h r h' ↔ ∃ h1, mn_X 16 [.ref 1, .ref a1, .int x2] h none h1 ∧ mn_E 14 127 [.ref 1, .ref a1, .int x2, .int x3] [] h1 r h' :=
  (mX_aload_n d_X2_readClause_121 rfl).trans <| (mX_aload_n d_X2_readClause_122 rfl).trans <| (mX_iload_n d_X2_readClause_123 rfl).trans <| mV_v (a := 1) (vs := [.ref a1, .int x2]) (st' := []) d_X2_readClause_124 cv_14_44 rfl (Nat.le_of_ble_eq_true rfl) rfl rfl rfl rfl
theorem b_X2_readClause_127 {x2 x3 : Int32} {a1 : Nat} {h h' : mn_H} {r : Option Value} (ha1 : mn_isT a1) : mn_E 14 127 [.ref 1, .ref a1, .int x2, .int x3] [] h r h' ↔ mn_E 14 177 [.ref 1, .ref a1, .int x2, .int x3] [] h r h' :=
  mX_goto d_X2_readClause_127 rfl
theorem b_X2_readClause_130 {x2 x3 : Int32} {a1 : Nat} {h h' : mn_H} {r : Option Value} (ha1 : mn_isT a1) : mn_E 14 130 [.ref 1, .ref a1, .int x2, .int x3] [] h r h' ↔ ∃ h1, mn_X 17 [.ref 1, .ref (a1 + 8), .int x2] h none h1 ∧ mn_E 14 139 [.ref 1, .ref a1, .int x2, .int x3] [] h1 r h' :=
  (mX_aload_n d_X2_readClause_130 rfl).trans <| (mX_aload_n d_X2_readClause_131 rfl).trans <| (mG_r (b := (a1 + 8)) d_X2_readClause_132 fr_14_47 (mn_shT0 ha1) (mn_ltT0 ha1) (mn_rfT9 ha1 _)).trans <| (mX_iload_n d_X2_readClause_135 rfl).trans <| mV_v (a := 1) (vs := [.ref (a1 + 8), .int x2]) (st' := []) d_X2_readClause_136 cv_14_51 rfl (Nat.le_of_ble_eq_true rfl) rfl rfl rfl rfl
theorem b_X2_readClause_139 {x2 x3 : Int32} {a1 : Nat} {h h' : mn_H} {r : Option Value} (ha1 : mn_isT a1) : mn_E 14 139 [.ref 1, .ref a1, .int x2, .int x3] [] h r h' ↔ mn_E 14 177 [.ref 1, .ref a1, .int x2, .int x3] [] h r h' :=
  mX_goto d_X2_readClause_139 rfl
theorem b_X2_readClause_142 {x2 x3 : Int32} {a1 : Nat} {h h' : mn_H} {r : Option Value} (ha1 : mn_isT a1) : mn_E 14 142 [.ref 1, .ref a1, .int x2, .int x3] [] h r h' ↔ ∃ h1, mn_X 17 [.ref 1, .ref (a1 + 12), .int x2] h none h1 ∧ mn_E 14 151 [.ref 1, .ref a1, .int x2, .int x3] [] h1 r h' :=
  (mX_aload_n d_X2_readClause_142 rfl).trans <| (mX_aload_n d_X2_readClause_143 rfl).trans <| (mG_r (b := (a1 + 12)) d_X2_readClause_144 fr_14_55 (mn_shT0 ha1) (mn_ltT0 ha1) (mn_rfT10 ha1 _)).trans <| (mX_iload_n d_X2_readClause_147 rfl).trans <| mV_v (a := 1) (vs := [.ref (a1 + 12), .int x2]) (st' := []) d_X2_readClause_148 cv_14_51 rfl (Nat.le_of_ble_eq_true rfl) rfl rfl rfl rfl
theorem b_X2_readClause_151 {x2 x3 : Int32} {a1 : Nat} {h h' : mn_H} {r : Option Value} (ha1 : mn_isT a1) : mn_E 14 151 [.ref 1, .ref a1, .int x2, .int x3] [] h r h' ↔ mn_E 14 177 [.ref 1, .ref a1, .int x2, .int x3] [] h r h' :=
  mX_goto d_X2_readClause_151 rfl
theorem b_X2_readClause_154 {x2 x3 : Int32} {a1 : Nat} {h h' : mn_H} {r : Option Value} (ha1 : mn_isT a1) : mn_E 14 154 [.ref 1, .ref a1, .int x2, .int x3] [] h r h' ↔ ∃ h1, mn_X 18 [.ref 1, .ref a1, .int x2] h none h1 ∧ mn_E 14 160 [.ref 1, .ref a1, .int x2, .int x3] [] h1 r h' :=
  (mX_aload_n d_X2_readClause_154 rfl).trans <| (mX_aload_n d_X2_readClause_155 rfl).trans <| (mX_iload_n d_X2_readClause_156 rfl).trans <| mV_v (a := 1) (vs := [.ref a1, .int x2]) (st' := []) d_X2_readClause_157 cv_14_58 rfl (Nat.le_of_ble_eq_true rfl) rfl rfl rfl rfl
theorem b_X2_readClause_160 {x2 x3 : Int32} {a1 : Nat} {h h' : mn_H} {r : Option Value} (ha1 : mn_isT a1) : mn_E 14 160 [.ref 1, .ref a1, .int x2, .int x3] [] h r h' ↔ mn_E 14 177 [.ref 1, .ref a1, .int x2, .int x3] [] h r h' :=
  mX_goto d_X2_readClause_160 rfl
theorem b_X2_readClause_163 {x2 x3 : Int32} {a1 : Nat} {h h' : mn_H} {r : Option Value} (ha1 : mn_isT a1) : mn_E 14 163 [.ref 1, .ref a1, .int x2, .int x3] [] h r h' ↔ ∃ h1, mn_X 19 [.ref 1, .ref a1] h none h1 ∧ mn_E 14 168 [.ref 1, .ref a1, .int x2, .int x3] [] h1 r h' :=
  (mX_aload_n d_X2_readClause_163 rfl).trans <| (mX_aload_n d_X2_readClause_164 rfl).trans <| mV_v (a := 1) (vs := [.ref a1]) (st' := []) d_X2_readClause_165 cv_14_61 rfl (Nat.le_of_ble_eq_true rfl) rfl rfl rfl rfl
theorem b_X2_readClause_168 {x2 x3 : Int32} {a1 : Nat} {h h' : mn_H} {r : Option Value} (ha1 : mn_isT a1) : mn_E 14 168 [.ref 1, .ref a1, .int x2, .int x3] [] h r h' ↔ mn_E 14 177 [.ref 1, .ref a1, .int x2, .int x3] [] h r h' :=
  mX_goto d_X2_readClause_168 rfl
theorem b_X2_readClause_171 {x2 x3 : Int32} {a1 : Nat} {h h' : mn_H} {r : Option Value} (ha1 : mn_isT a1) : mn_E 14 171 [.ref 1, .ref a1, .int x2, .int x3] [] h r h' ↔ ∃ h1, mn_X 24 [.ref 1, .int 1, .int x2] h none h1 ∧ mn_E 14 177 [.ref 1, .ref a1, .int x2, .int x3] [] h1 r h' :=
  (mX_aload_n d_X2_readClause_171 rfl).trans <| (mX_iconst d_X2_readClause_172 ci_1).trans <| (mX_iload_n d_X2_readClause_173 rfl).trans <| mV_v (a := 1) (vs := [.int 1, .int x2]) (st' := []) d_X2_readClause_174 cv_14_64 rfl (Nat.le_of_ble_eq_true rfl) rfl rfl rfl rfl
theorem b_X2_readClause_177 {x2 x3 : Int32} {a1 : Nat} {h h' : mn_H} {r : Option Value} (ha1 : mn_isT a1) : mn_E 14 177 [.ref 1, .ref a1, .int x2, .int x3] [] h r h' ↔ r = none ∧ h' = h :=
  mX_vret d_X2_readClause_177 rfl
-- X2_readBell
theorem mo_15 : mO 15 = 2 := rfl
theorem d_X2_readBell_0 : decode (mC 15) 0 = .ok (.aload_n 1, 1) := by decide +kernel
theorem d_X2_readBell_1 : decode (mC 15) 1 = .ok (.getfield 68, 3) := by decide +kernel
theorem d_X2_readBell_4 : decode (mC 15) 4 = .ok (.iconst 5, 1) := by decide +kernel
theorem d_X2_readBell_5 : decode (mC 15) 5 = .ok (.if_icmp .lt 9, 3) := by decide +kernel
theorem d_X2_readBell_8 : decode (mC 15) 8 = .ok (.aload_n 0, 1) := by decide +kernel
theorem d_X2_readBell_9 : decode (mC 15) 9 = .ok (.iconst 3, 1) := by decide +kernel
theorem d_X2_readBell_10 : decode (mC 15) 10 = .ok (.iload_n 2, 1) := by decide +kernel
theorem d_X2_readBell_11 : decode (mC 15) 11 = .ok (.invokevirtual 64, 3) := by decide +kernel
theorem d_X2_readBell_14 : decode (mC 15) 14 = .ok (.aload_n 0, 1) := by decide +kernel
theorem d_X2_readBell_15 : decode (mC 15) 15 = .ok (.invokevirtual 71, 3) := by decide +kernel
theorem d_X2_readBell_18 : decode (mC 15) 18 = .ok (.istore_n 3, 1) := by decide +kernel
theorem d_X2_readBell_19 : decode (mC 15) 19 = .ok (.aload_n 0, 1) := by decide +kernel
theorem d_X2_readBell_20 : decode (mC 15) 20 = .ok (.iconst 0, 1) := by decide +kernel
theorem d_X2_readBell_21 : decode (mC 15) 21 = .ok (.iconst 5, 1) := by decide +kernel
theorem d_X2_readBell_22 : decode (mC 15) 22 = .ok (.invokevirtual 75, 3) := by decide +kernel
theorem d_X2_readBell_25 : decode (mC 15) 25 = .ok (.istore 4, 2) := by decide +kernel
theorem d_X2_readBell_27 : decode (mC 15) 27 = .ok (.aload_n 0, 1) := by decide +kernel
theorem d_X2_readBell_28 : decode (mC 15) 28 = .ok (.iconst 0, 1) := by decide +kernel
theorem d_X2_readBell_29 : decode (mC 15) 29 = .ok (.iconst 5, 1) := by decide +kernel
theorem d_X2_readBell_30 : decode (mC 15) 30 = .ok (.invokevirtual 75, 3) := by decide +kernel
theorem d_X2_readBell_33 : decode (mC 15) 33 = .ok (.istore 5, 2) := by decide +kernel
theorem d_X2_readBell_35 : decode (mC 15) 35 = .ok (.aload_n 0, 1) := by decide +kernel
theorem d_X2_readBell_36 : decode (mC 15) 36 = .ok (.invokevirtual 79, 3) := by decide +kernel
theorem d_X2_readBell_39 : decode (mC 15) 39 = .ok (.ifCond .eq 12, 3) := by decide +kernel
theorem d_X2_readBell_42 : decode (mC 15) 42 = .ok (.aload_n 1, 1) := by decide +kernel
theorem d_X2_readBell_43 : decode (mC 15) 43 = .ok (.iload_n 3, 1) := by decide +kernel
theorem d_X2_readBell_44 : decode (mC 15) 44 = .ok (.iload 4, 2) := by decide +kernel
theorem d_X2_readBell_46 : decode (mC 15) 46 = .ok (.iload 5, 2) := by decide +kernel
theorem d_X2_readBell_48 : decode (mC 15) 48 = .ok (.invokevirtual 83, 3) := by decide +kernel
theorem d_X2_readBell_51 : decode (mC 15) 51 = .ok (.return_, 1) := by decide +kernel
theorem fi_15_68 : mn_fi 15 2 68 5 0 = true := by decide +kernel
theorem cv_15_64 : mn_cvt 15 2 64 24 = true := by decide +kernel
theorem cv_15_71 : mn_cvt 15 2 71 20 = true := by decide +kernel
theorem cv_15_75 : mn_cvt 15 2 75 21 = true := by decide +kernel
theorem cv_15_79 : mn_cvt 15 2 79 22 = true := by decide +kernel
theorem cv_15_83 : mn_cvt 15 2 83 42 = true := by decide +kernel
theorem b_X2_readBell_0 {x2 : Int32} {a1 : Nat} {h h' : mn_H} {r : Option Value} (ha1 : mn_isT a1) : mn_E 15 0 [.ref 1, .ref a1, .int x2, .null, .null, .null] [] h r h' ↔ if (h a1 0) < 5 then mn_E 15 14 [.ref 1, .ref a1, .int x2, .null, .null, .null] [] h r h' else mn_E 15 8 [.ref 1, .ref a1, .int x2, .null, .null, .null] [] h r h' :=
  (mX_aload_n d_X2_readBell_0 rfl).trans <| (mG_i d_X2_readBell_1 fi_15_68 (mn_shT0 ha1) (mn_ltT0 ha1)).trans <| (mX_iconst d_X2_readBell_4 ci_5).trans <| mX_icmp_lt d_X2_readBell_5 rfl
theorem b_X2_readBell_8 {x2 : Int32} {a1 : Nat} {h h' : mn_H} {r : Option Value} (ha1 : mn_isT a1) : mn_E 15 8 [.ref 1, .ref a1, .int x2, .null, .null, .null] [] h r h' ↔ ∃ h1, mn_X 24 [.ref 1, .int 3, .int x2] h none h1 ∧ mn_E 15 14 [.ref 1, .ref a1, .int x2, .null, .null, .null] [] h1 r h' :=
  (mX_aload_n d_X2_readBell_8 rfl).trans <| (mX_iconst d_X2_readBell_9 ci_3).trans <| (mX_iload_n d_X2_readBell_10 rfl).trans <| mV_v (a := 1) (vs := [.int 3, .int x2]) (st' := []) d_X2_readBell_11 cv_15_64 rfl (Nat.le_of_ble_eq_true rfl) rfl rfl rfl rfl
theorem b_X2_readBell_14 {x2 : Int32} {a1 : Nat} {h h' : mn_H} {r : Option Value} (ha1 : mn_isT a1) : mn_E 15 14 [.ref 1, .ref a1, .int x2, .null, .null, .null] [] h r h' ↔ ∃ x h1, mn_X 20 [.ref 1] h (some (.int x)) h1 ∧ mn_E 15 18 [.ref 1, .ref a1, .int x2, .null, .null, .null] [.int x] h1 r h' :=
  (mX_aload_n d_X2_readBell_14 rfl).trans <| mV_i (a := 1) (vs := []) (st' := []) d_X2_readBell_15 cv_15_71 (Or.inl rfl) (Nat.le_of_ble_eq_true rfl) rfl rfl rfl rfl
theorem b_X2_readBell_18 {x2 s0 : Int32} {a1 : Nat} {h h' : mn_H} {r : Option Value} (ha1 : mn_isT a1) : mn_E 15 18 [.ref 1, .ref a1, .int x2, .null, .null, .null] [.int s0] h r h' ↔ ∃ x h1, mn_X 21 [.ref 1, .int 0, .int 5] h (some (.int x)) h1 ∧ mn_E 15 25 [.ref 1, .ref a1, .int x2, .int s0, .null, .null] [.int x] h1 r h' :=
  (mX_istore_n (ls' := [.ref 1, .ref a1, .int x2, .int s0, .null, .null]) d_X2_readBell_18 rfl rfl).trans <| (mX_aload_n d_X2_readBell_19 rfl).trans <| (mX_iconst d_X2_readBell_20 ci_0).trans <| (mX_iconst d_X2_readBell_21 ci_5).trans <| mV_i (a := 1) (vs := [.int 0, .int 5]) (st' := []) d_X2_readBell_22 cv_15_75 (Or.inl rfl) (Nat.le_of_ble_eq_true rfl) rfl rfl rfl rfl
theorem b_X2_readBell_25 {x2 x3 s0 : Int32} {a1 : Nat} {h h' : mn_H} {r : Option Value} (ha1 : mn_isT a1) : mn_E 15 25 [.ref 1, .ref a1, .int x2, .int x3, .null, .null] [.int s0] h r h' ↔ ∃ x h1, mn_X 21 [.ref 1, .int 0, .int 5] h (some (.int x)) h1 ∧ mn_E 15 33 [.ref 1, .ref a1, .int x2, .int x3, .int s0, .null] [.int x] h1 r h' :=
  (mX_istore (ls' := [.ref 1, .ref a1, .int x2, .int x3, .int s0, .null]) d_X2_readBell_25 rfl rfl).trans <| (mX_aload_n d_X2_readBell_27 rfl).trans <| (mX_iconst d_X2_readBell_28 ci_0).trans <| (mX_iconst d_X2_readBell_29 ci_5).trans <| mV_i (a := 1) (vs := [.int 0, .int 5]) (st' := []) d_X2_readBell_30 cv_15_75 (Or.inl rfl) (Nat.le_of_ble_eq_true rfl) rfl rfl rfl rfl
theorem b_X2_readBell_33 {x2 x3 x4 s0 : Int32} {a1 : Nat} {h h' : mn_H} {r : Option Value} (ha1 : mn_isT a1) : mn_E 15 33 [.ref 1, .ref a1, .int x2, .int x3, .int x4, .null] [.int s0] h r h' ↔ ∃ x h1, mn_X 22 [.ref 1] h (some (.int x)) h1 ∧ mn_E 15 39 [.ref 1, .ref a1, .int x2, .int x3, .int x4, .int s0] [.int x] h1 r h' :=
  (mX_istore (ls' := [.ref 1, .ref a1, .int x2, .int x3, .int x4, .int s0]) d_X2_readBell_33 rfl rfl).trans <| (mX_aload_n d_X2_readBell_35 rfl).trans <| mV_i (a := 1) (vs := []) (st' := []) d_X2_readBell_36 cv_15_79 (Or.inr (Or.inl rfl)) (Nat.le_of_ble_eq_true rfl) rfl rfl rfl rfl
theorem b_X2_readBell_39 {x2 x3 x4 x5 s0 : Int32} {a1 : Nat} {h h' : mn_H} {r : Option Value} (ha1 : mn_isT a1) : mn_E 15 39 [.ref 1, .ref a1, .int x2, .int x3, .int x4, .int x5] [.int s0] h r h' ↔ if s0 = 0 then mn_E 15 51 [.ref 1, .ref a1, .int x2, .int x3, .int x4, .int x5] [] h r h' else mn_E 15 42 [.ref 1, .ref a1, .int x2, .int x3, .int x4, .int x5] [] h r h' :=
  mX_if_eq d_X2_readBell_39 rfl
theorem b_X2_readBell_42 {x2 x3 x4 x5 : Int32} {a1 : Nat} {h h' : mn_H} {r : Option Value} (ha1 : mn_isT a1) : mn_E 15 42 [.ref 1, .ref a1, .int x2, .int x3, .int x4, .int x5] [] h r h' ↔ ∃ h1, mn_X 42 [.ref a1, .int x3, .int x4, .int x5] h none h1 ∧ mn_E 15 51 [.ref 1, .ref a1, .int x2, .int x3, .int x4, .int x5] [] h1 r h' :=
  (mX_aload_n d_X2_readBell_42 rfl).trans <| (mX_iload_n d_X2_readBell_43 rfl).trans <| (mX_iload d_X2_readBell_44 rfl).trans <| (mX_iload d_X2_readBell_46 rfl).trans <| mV_v (a := a1) (vs := [.int x3, .int x4, .int x5]) (st' := []) d_X2_readBell_48 cv_15_83 rfl (Nat.le_of_ble_eq_true rfl) rfl rfl (mn_shT0 ha1) rfl
theorem b_X2_readBell_51 {x2 x3 x4 x5 : Int32} {a1 : Nat} {h h' : mn_H} {r : Option Value} (ha1 : mn_isT a1) : mn_E 15 51 [.ref 1, .ref a1, .int x2, .int x3, .int x4, .int x5] [] h r h' ↔ r = none ∧ h' = h :=
  mX_vret d_X2_readBell_51 rfl
-- X2_readGroup
theorem mo_16 : mO 16 = 2 := rfl
theorem d_X2_readGroup_0 : decode (mC 16) 0 = .ok (.aload_n 1, 1) := by decide +kernel
theorem d_X2_readGroup_1 : decode (mC 16) 1 = .ok (.getfield 87, 3) := by decide +kernel
theorem d_X2_readGroup_4 : decode (mC 16) 4 = .ok (.bipush 6, 2) := by decide +kernel
theorem d_X2_readGroup_6 : decode (mC 16) 6 = .ok (.if_icmp .lt 9, 3) := by decide +kernel
theorem d_X2_readGroup_9 : decode (mC 16) 9 = .ok (.aload_n 0, 1) := by decide +kernel
theorem d_X2_readGroup_10 : decode (mC 16) 10 = .ok (.iconst 3, 1) := by decide +kernel
theorem d_X2_readGroup_11 : decode (mC 16) 11 = .ok (.iload_n 2, 1) := by decide +kernel
theorem d_X2_readGroup_12 : decode (mC 16) 12 = .ok (.invokevirtual 64, 3) := by decide +kernel
theorem d_X2_readGroup_15 : decode (mC 16) 15 = .ok (.aload_n 0, 1) := by decide +kernel
theorem d_X2_readGroup_16 : decode (mC 16) 16 = .ok (.iconst 1, 1) := by decide +kernel
theorem d_X2_readGroup_17 : decode (mC 16) 17 = .ok (.bipush 99, 2) := by decide +kernel
theorem d_X2_readGroup_19 : decode (mC 16) 19 = .ok (.invokevirtual 75, 3) := by decide +kernel
theorem d_X2_readGroup_22 : decode (mC 16) 22 = .ok (.istore_n 3, 1) := by decide +kernel
theorem d_X2_readGroup_23 : decode (mC 16) 23 = .ok (.aload_n 0, 1) := by decide +kernel
theorem d_X2_readGroup_24 : decode (mC 16) 24 = .ok (.iconst 0, 1) := by decide +kernel
theorem d_X2_readGroup_25 : decode (mC 16) 25 = .ok (.aload_n 1, 1) := by decide +kernel
theorem d_X2_readGroup_26 : decode (mC 16) 26 = .ok (.getfield 68, 3) := by decide +kernel
theorem d_X2_readGroup_29 : decode (mC 16) 29 = .ok (.iconst 1, 1) := by decide +kernel
theorem d_X2_readGroup_30 : decode (mC 16) 30 = .ok (.isub, 1) := by decide +kernel
theorem d_X2_readGroup_31 : decode (mC 16) 31 = .ok (.invokevirtual 75, 3) := by decide +kernel
theorem d_X2_readGroup_34 : decode (mC 16) 34 = .ok (.istore 4, 2) := by decide +kernel
theorem d_X2_readGroup_36 : decode (mC 16) 36 = .ok (.aload_n 0, 1) := by decide +kernel
theorem d_X2_readGroup_37 : decode (mC 16) 37 = .ok (.iconst 0, 1) := by decide +kernel
theorem d_X2_readGroup_38 : decode (mC 16) 38 = .ok (.bipush 6, 2) := by decide +kernel
theorem d_X2_readGroup_40 : decode (mC 16) 40 = .ok (.invokevirtual 75, 3) := by decide +kernel
theorem d_X2_readGroup_43 : decode (mC 16) 43 = .ok (.istore 5, 2) := by decide +kernel
theorem d_X2_readGroup_45 : decode (mC 16) 45 = .ok (.aload_n 0, 1) := by decide +kernel
theorem d_X2_readGroup_46 : decode (mC 16) 46 = .ok (.iconst 0, 1) := by decide +kernel
theorem d_X2_readGroup_47 : decode (mC 16) 47 = .ok (.bipush 6, 2) := by decide +kernel
theorem d_X2_readGroup_49 : decode (mC 16) 49 = .ok (.invokevirtual 75, 3) := by decide +kernel
theorem d_X2_readGroup_52 : decode (mC 16) 52 = .ok (.istore 6, 2) := by decide +kernel
theorem d_X2_readGroup_54 : decode (mC 16) 54 = .ok (.aload_n 0, 1) := by decide +kernel
theorem d_X2_readGroup_55 : decode (mC 16) 55 = .ok (.invokevirtual 79, 3) := by decide +kernel
theorem d_X2_readGroup_58 : decode (mC 16) 58 = .ok (.ifCond .eq 14, 3) := by decide +kernel
theorem d_X2_readGroup_61 : decode (mC 16) 61 = .ok (.aload_n 1, 1) := by decide +kernel
theorem d_X2_readGroup_62 : decode (mC 16) 62 = .ok (.iload_n 3, 1) := by decide +kernel
theorem d_X2_readGroup_63 : decode (mC 16) 63 = .ok (.iload 4, 2) := by decide +kernel
theorem d_X2_readGroup_65 : decode (mC 16) 65 = .ok (.iload 5, 2) := by decide +kernel
theorem d_X2_readGroup_67 : decode (mC 16) 67 = .ok (.iload 6, 2) := by decide +kernel
theorem d_X2_readGroup_69 : decode (mC 16) 69 = .ok (.invokevirtual 90, 3) := by decide +kernel
theorem d_X2_readGroup_72 : decode (mC 16) 72 = .ok (.return_, 1) := by decide +kernel
theorem fi_16_87 : mn_fi 16 2 87 5 4 = true := by decide +kernel
theorem cv_16_64 : mn_cvt 16 2 64 24 = true := by decide +kernel
theorem cv_16_75 : mn_cvt 16 2 75 21 = true := by decide +kernel
theorem fi_16_68 : mn_fi 16 2 68 5 0 = true := by decide +kernel
theorem cv_16_79 : mn_cvt 16 2 79 22 = true := by decide +kernel
theorem cv_16_90 : mn_cvt 16 2 90 43 = true := by decide +kernel
theorem b_X2_readGroup_0 {x2 : Int32} {a1 : Nat} {h h' : mn_H} {r : Option Value} (ha1 : mn_isT a1) : mn_E 16 0 [.ref 1, .ref a1, .int x2, .null, .null, .null, .null] [] h r h' ↔ if (h a1 4) < 6 then mn_E 16 15 [.ref 1, .ref a1, .int x2, .null, .null, .null, .null] [] h r h' else mn_E 16 9 [.ref 1, .ref a1, .int x2, .null, .null, .null, .null] [] h r h' :=
  (mX_aload_n d_X2_readGroup_0 rfl).trans <| (mG_i d_X2_readGroup_1 fi_16_87 (mn_shT0 ha1) (mn_ltT0 ha1)).trans <| (mX_bipush d_X2_readGroup_4 cb_6).trans <| mX_icmp_lt d_X2_readGroup_6 rfl
theorem b_X2_readGroup_9 {x2 : Int32} {a1 : Nat} {h h' : mn_H} {r : Option Value} (ha1 : mn_isT a1) : mn_E 16 9 [.ref 1, .ref a1, .int x2, .null, .null, .null, .null] [] h r h' ↔ ∃ h1, mn_X 24 [.ref 1, .int 3, .int x2] h none h1 ∧ mn_E 16 15 [.ref 1, .ref a1, .int x2, .null, .null, .null, .null] [] h1 r h' :=
  (mX_aload_n d_X2_readGroup_9 rfl).trans <| (mX_iconst d_X2_readGroup_10 ci_3).trans <| (mX_iload_n d_X2_readGroup_11 rfl).trans <| mV_v (a := 1) (vs := [.int 3, .int x2]) (st' := []) d_X2_readGroup_12 cv_16_64 rfl (Nat.le_of_ble_eq_true rfl) rfl rfl rfl rfl
theorem b_X2_readGroup_15 {x2 : Int32} {a1 : Nat} {h h' : mn_H} {r : Option Value} (ha1 : mn_isT a1) : mn_E 16 15 [.ref 1, .ref a1, .int x2, .null, .null, .null, .null] [] h r h' ↔ ∃ x h1, mn_X 21 [.ref 1, .int 1, .int 99] h (some (.int x)) h1 ∧ mn_E 16 22 [.ref 1, .ref a1, .int x2, .null, .null, .null, .null] [.int x] h1 r h' :=
  (mX_aload_n d_X2_readGroup_15 rfl).trans <| (mX_iconst d_X2_readGroup_16 ci_1).trans <| (mX_bipush d_X2_readGroup_17 cb_99).trans <| mV_i (a := 1) (vs := [.int 1, .int 99]) (st' := []) d_X2_readGroup_19 cv_16_75 (Or.inl rfl) (Nat.le_of_ble_eq_true rfl) rfl rfl rfl rfl
theorem b_X2_readGroup_22 {x2 s0 : Int32} {a1 : Nat} {h h' : mn_H} {r : Option Value} (ha1 : mn_isT a1) : mn_E 16 22 [.ref 1, .ref a1, .int x2, .null, .null, .null, .null] [.int s0] h r h' ↔ ∃ x h1, mn_X 21 [.ref 1, .int 0, .int ((h a1 0) - 1)] h (some (.int x)) h1 ∧ mn_E 16 34 [.ref 1, .ref a1, .int x2, .int s0, .null, .null, .null] [.int x] h1 r h' :=
  (mX_istore_n (ls' := [.ref 1, .ref a1, .int x2, .int s0, .null, .null, .null]) d_X2_readGroup_22 rfl rfl).trans <| (mX_aload_n d_X2_readGroup_23 rfl).trans <| (mX_iconst d_X2_readGroup_24 ci_0).trans <| (mX_aload_n d_X2_readGroup_25 rfl).trans <| (mG_i d_X2_readGroup_26 fi_16_68 (mn_shT0 ha1) (mn_ltT0 ha1)).trans <| (mX_iconst d_X2_readGroup_29 ci_1).trans <| (mX_isub d_X2_readGroup_30).trans <| mV_i (a := 1) (vs := [.int 0, .int ((h a1 0) - 1)]) (st' := []) d_X2_readGroup_31 cv_16_75 (Or.inl rfl) (Nat.le_of_ble_eq_true rfl) rfl rfl rfl rfl
theorem b_X2_readGroup_34 {x2 x3 s0 : Int32} {a1 : Nat} {h h' : mn_H} {r : Option Value} (ha1 : mn_isT a1) : mn_E 16 34 [.ref 1, .ref a1, .int x2, .int x3, .null, .null, .null] [.int s0] h r h' ↔ ∃ x h1, mn_X 21 [.ref 1, .int 0, .int 6] h (some (.int x)) h1 ∧ mn_E 16 43 [.ref 1, .ref a1, .int x2, .int x3, .int s0, .null, .null] [.int x] h1 r h' :=
  (mX_istore (ls' := [.ref 1, .ref a1, .int x2, .int x3, .int s0, .null, .null]) d_X2_readGroup_34 rfl rfl).trans <| (mX_aload_n d_X2_readGroup_36 rfl).trans <| (mX_iconst d_X2_readGroup_37 ci_0).trans <| (mX_bipush d_X2_readGroup_38 cb_6).trans <| mV_i (a := 1) (vs := [.int 0, .int 6]) (st' := []) d_X2_readGroup_40 cv_16_75 (Or.inl rfl) (Nat.le_of_ble_eq_true rfl) rfl rfl rfl rfl
theorem b_X2_readGroup_43 {x2 x3 x4 s0 : Int32} {a1 : Nat} {h h' : mn_H} {r : Option Value} (ha1 : mn_isT a1) : mn_E 16 43 [.ref 1, .ref a1, .int x2, .int x3, .int x4, .null, .null] [.int s0] h r h' ↔ ∃ x h1, mn_X 21 [.ref 1, .int 0, .int 6] h (some (.int x)) h1 ∧ mn_E 16 52 [.ref 1, .ref a1, .int x2, .int x3, .int x4, .int s0, .null] [.int x] h1 r h' :=
  (mX_istore (ls' := [.ref 1, .ref a1, .int x2, .int x3, .int x4, .int s0, .null]) d_X2_readGroup_43 rfl rfl).trans <| (mX_aload_n d_X2_readGroup_45 rfl).trans <| (mX_iconst d_X2_readGroup_46 ci_0).trans <| (mX_bipush d_X2_readGroup_47 cb_6).trans <| mV_i (a := 1) (vs := [.int 0, .int 6]) (st' := []) d_X2_readGroup_49 cv_16_75 (Or.inl rfl) (Nat.le_of_ble_eq_true rfl) rfl rfl rfl rfl
theorem b_X2_readGroup_52 {x2 x3 x4 x5 s0 : Int32} {a1 : Nat} {h h' : mn_H} {r : Option Value} (ha1 : mn_isT a1) : mn_E 16 52 [.ref 1, .ref a1, .int x2, .int x3, .int x4, .int x5, .null] [.int s0] h r h' ↔ ∃ x h1, mn_X 22 [.ref 1] h (some (.int x)) h1 ∧ mn_E 16 58 [.ref 1, .ref a1, .int x2, .int x3, .int x4, .int x5, .int s0] [.int x] h1 r h' :=
  (mX_istore (ls' := [.ref 1, .ref a1, .int x2, .int x3, .int x4, .int x5, .int s0]) d_X2_readGroup_52 rfl rfl).trans <| (mX_aload_n d_X2_readGroup_54 rfl).trans <| mV_i (a := 1) (vs := []) (st' := []) d_X2_readGroup_55 cv_16_79 (Or.inr (Or.inl rfl)) (Nat.le_of_ble_eq_true rfl) rfl rfl rfl rfl
theorem b_X2_readGroup_58 {x2 x3 x4 x5 x6 s0 : Int32} {a1 : Nat} {h h' : mn_H} {r : Option Value} (ha1 : mn_isT a1) : mn_E 16 58 [.ref 1, .ref a1, .int x2, .int x3, .int x4, .int x5, .int x6] [.int s0] h r h' ↔ if s0 = 0 then mn_E 16 72 [.ref 1, .ref a1, .int x2, .int x3, .int x4, .int x5, .int x6] [] h r h' else mn_E 16 61 [.ref 1, .ref a1, .int x2, .int x3, .int x4, .int x5, .int x6] [] h r h' :=
  mX_if_eq d_X2_readGroup_58 rfl
theorem b_X2_readGroup_61 {x2 x3 x4 x5 x6 : Int32} {a1 : Nat} {h h' : mn_H} {r : Option Value} (ha1 : mn_isT a1) : mn_E 16 61 [.ref 1, .ref a1, .int x2, .int x3, .int x4, .int x5, .int x6] [] h r h' ↔ ∃ h1, mn_X 43 [.ref a1, .int x3, .int x4, .int x5, .int x6] h none h1 ∧ mn_E 16 72 [.ref 1, .ref a1, .int x2, .int x3, .int x4, .int x5, .int x6] [] h1 r h' :=
  (mX_aload_n d_X2_readGroup_61 rfl).trans <| (mX_iload_n d_X2_readGroup_62 rfl).trans <| (mX_iload d_X2_readGroup_63 rfl).trans <| (mX_iload d_X2_readGroup_65 rfl).trans <| (mX_iload d_X2_readGroup_67 rfl).trans <| mV_v (a := a1) (vs := [.int x3, .int x4, .int x5, .int x6]) (st' := []) d_X2_readGroup_69 cv_16_90 rfl (Nat.le_of_ble_eq_true rfl) rfl rfl (mn_shT0 ha1) rfl
theorem b_X2_readGroup_72 {x2 x3 x4 x5 x6 : Int32} {a1 : Nat} {h h' : mn_H} {r : Option Value} (ha1 : mn_isT a1) : mn_E 16 72 [.ref 1, .ref a1, .int x2, .int x3, .int x4, .int x5, .int x6] [] h r h' ↔ r = none ∧ h' = h :=
  mX_vret d_X2_readGroup_72 rfl
-- X2_readThreshold
theorem mo_17 : mO 17 = 2 := rfl
theorem d_X2_readThreshold_0 : decode (mC 17) 0 = .ok (.aload_n 1, 1) := by decide +kernel
theorem d_X2_readThreshold_1 : decode (mC 17) 1 = .ok (.invokevirtual 94, 3) := by decide +kernel
theorem d_X2_readThreshold_4 : decode (mC 17) 4 = .ok (.ifCond .eq 9, 3) := by decide +kernel
theorem d_X2_readThreshold_7 : decode (mC 17) 7 = .ok (.aload_n 0, 1) := by decide +kernel
theorem d_X2_readThreshold_8 : decode (mC 17) 8 = .ok (.iconst 3, 1) := by decide +kernel
theorem d_X2_readThreshold_9 : decode (mC 17) 9 = .ok (.iload_n 2, 1) := by decide +kernel
theorem d_X2_readThreshold_10 : decode (mC 17) 10 = .ok (.invokevirtual 64, 3) := by decide +kernel
theorem d_X2_readThreshold_13 : decode (mC 17) 13 = .ok (.aload_n 0, 1) := by decide +kernel
theorem d_X2_readThreshold_14 : decode (mC 17) 14 = .ok (.iconst 0, 1) := by decide +kernel
theorem d_X2_readThreshold_15 : decode (mC 17) 15 = .ok (.iconst 5, 1) := by decide +kernel
theorem d_X2_readThreshold_16 : decode (mC 17) 16 = .ok (.invokevirtual 75, 3) := by decide +kernel
theorem d_X2_readThreshold_19 : decode (mC 17) 19 = .ok (.istore_n 3, 1) := by decide +kernel
theorem d_X2_readThreshold_20 : decode (mC 17) 20 = .ok (.aload_n 0, 1) := by decide +kernel
theorem d_X2_readThreshold_21 : decode (mC 17) 21 = .ok (.iconst 0, 1) := by decide +kernel
theorem d_X2_readThreshold_22 : decode (mC 17) 22 = .ok (.iconst 5, 1) := by decide +kernel
theorem d_X2_readThreshold_23 : decode (mC 17) 23 = .ok (.invokevirtual 75, 3) := by decide +kernel
theorem d_X2_readThreshold_26 : decode (mC 17) 26 = .ok (.istore 4, 2) := by decide +kernel
theorem d_X2_readThreshold_28 : decode (mC 17) 28 = .ok (.aload_n 0, 1) := by decide +kernel
theorem d_X2_readThreshold_29 : decode (mC 17) 29 = .ok (.iconst 1, 1) := by decide +kernel
theorem d_X2_readThreshold_30 : decode (mC 17) 30 = .ok (.sipush 999, 3) := by decide +kernel
theorem d_X2_readThreshold_33 : decode (mC 17) 33 = .ok (.invokevirtual 75, 3) := by decide +kernel
theorem d_X2_readThreshold_36 : decode (mC 17) 36 = .ok (.istore 5, 2) := by decide +kernel
theorem d_X2_readThreshold_38 : decode (mC 17) 38 = .ok (.aload_n 0, 1) := by decide +kernel
theorem d_X2_readThreshold_39 : decode (mC 17) 39 = .ok (.invokevirtual 79, 3) := by decide +kernel
theorem d_X2_readThreshold_42 : decode (mC 17) 42 = .ok (.ifCond .eq 12, 3) := by decide +kernel
theorem d_X2_readThreshold_45 : decode (mC 17) 45 = .ok (.aload_n 1, 1) := by decide +kernel
theorem d_X2_readThreshold_46 : decode (mC 17) 46 = .ok (.iload_n 3, 1) := by decide +kernel
theorem d_X2_readThreshold_47 : decode (mC 17) 47 = .ok (.iload 4, 2) := by decide +kernel
theorem d_X2_readThreshold_49 : decode (mC 17) 49 = .ok (.iload 5, 2) := by decide +kernel
theorem d_X2_readThreshold_51 : decode (mC 17) 51 = .ok (.invokevirtual 99, 3) := by decide +kernel
theorem d_X2_readThreshold_54 : decode (mC 17) 54 = .ok (.return_, 1) := by decide +kernel
theorem cv_17_94 : mn_cvt 17 2 94 36 = true := by decide +kernel
theorem cv_17_64 : mn_cvt 17 2 64 24 = true := by decide +kernel
theorem cv_17_75 : mn_cvt 17 2 75 21 = true := by decide +kernel
theorem cv_17_79 : mn_cvt 17 2 79 22 = true := by decide +kernel
theorem cv_17_99 : mn_cvt 17 2 99 38 = true := by decide +kernel
theorem b_X2_readThreshold_0 {x2 : Int32} {a1 : Nat} {h h' : mn_H} {r : Option Value} (ha1 : mn_isQ a1) : mn_E 17 0 [.ref 1, .ref a1, .int x2, .null, .null, .null] [] h r h' ↔ ∃ x h1, mn_X 36 [.ref a1] h (some (.int x)) h1 ∧ mn_E 17 4 [.ref 1, .ref a1, .int x2, .null, .null, .null] [.int x] h1 r h' :=
  (mX_aload_n d_X2_readThreshold_0 rfl).trans <| mV_i (a := a1) (vs := []) (st' := []) d_X2_readThreshold_1 cv_17_94 (Or.inr (Or.inl rfl)) (Nat.le_of_ble_eq_true rfl) rfl rfl (mn_shQ0 ha1) rfl
theorem b_X2_readThreshold_4 {x2 s0 : Int32} {a1 : Nat} {h h' : mn_H} {r : Option Value} (ha1 : mn_isQ a1) : mn_E 17 4 [.ref 1, .ref a1, .int x2, .null, .null, .null] [.int s0] h r h' ↔ if s0 = 0 then mn_E 17 13 [.ref 1, .ref a1, .int x2, .null, .null, .null] [] h r h' else mn_E 17 7 [.ref 1, .ref a1, .int x2, .null, .null, .null] [] h r h' :=
  mX_if_eq d_X2_readThreshold_4 rfl
theorem b_X2_readThreshold_7 {x2 : Int32} {a1 : Nat} {h h' : mn_H} {r : Option Value} (ha1 : mn_isQ a1) : mn_E 17 7 [.ref 1, .ref a1, .int x2, .null, .null, .null] [] h r h' ↔ ∃ h1, mn_X 24 [.ref 1, .int 3, .int x2] h none h1 ∧ mn_E 17 13 [.ref 1, .ref a1, .int x2, .null, .null, .null] [] h1 r h' :=
  (mX_aload_n d_X2_readThreshold_7 rfl).trans <| (mX_iconst d_X2_readThreshold_8 ci_3).trans <| (mX_iload_n d_X2_readThreshold_9 rfl).trans <| mV_v (a := 1) (vs := [.int 3, .int x2]) (st' := []) d_X2_readThreshold_10 cv_17_64 rfl (Nat.le_of_ble_eq_true rfl) rfl rfl rfl rfl
theorem b_X2_readThreshold_13 {x2 : Int32} {a1 : Nat} {h h' : mn_H} {r : Option Value} (ha1 : mn_isQ a1) : mn_E 17 13 [.ref 1, .ref a1, .int x2, .null, .null, .null] [] h r h' ↔ ∃ x h1, mn_X 21 [.ref 1, .int 0, .int 5] h (some (.int x)) h1 ∧ mn_E 17 19 [.ref 1, .ref a1, .int x2, .null, .null, .null] [.int x] h1 r h' :=
  (mX_aload_n d_X2_readThreshold_13 rfl).trans <| (mX_iconst d_X2_readThreshold_14 ci_0).trans <| (mX_iconst d_X2_readThreshold_15 ci_5).trans <| mV_i (a := 1) (vs := [.int 0, .int 5]) (st' := []) d_X2_readThreshold_16 cv_17_75 (Or.inl rfl) (Nat.le_of_ble_eq_true rfl) rfl rfl rfl rfl
theorem b_X2_readThreshold_19 {x2 s0 : Int32} {a1 : Nat} {h h' : mn_H} {r : Option Value} (ha1 : mn_isQ a1) : mn_E 17 19 [.ref 1, .ref a1, .int x2, .null, .null, .null] [.int s0] h r h' ↔ ∃ x h1, mn_X 21 [.ref 1, .int 0, .int 5] h (some (.int x)) h1 ∧ mn_E 17 26 [.ref 1, .ref a1, .int x2, .int s0, .null, .null] [.int x] h1 r h' :=
  (mX_istore_n (ls' := [.ref 1, .ref a1, .int x2, .int s0, .null, .null]) d_X2_readThreshold_19 rfl rfl).trans <| (mX_aload_n d_X2_readThreshold_20 rfl).trans <| (mX_iconst d_X2_readThreshold_21 ci_0).trans <| (mX_iconst d_X2_readThreshold_22 ci_5).trans <| mV_i (a := 1) (vs := [.int 0, .int 5]) (st' := []) d_X2_readThreshold_23 cv_17_75 (Or.inl rfl) (Nat.le_of_ble_eq_true rfl) rfl rfl rfl rfl
theorem b_X2_readThreshold_26 {x2 x3 s0 : Int32} {a1 : Nat} {h h' : mn_H} {r : Option Value} (ha1 : mn_isQ a1) : mn_E 17 26 [.ref 1, .ref a1, .int x2, .int x3, .null, .null] [.int s0] h r h' ↔ ∃ x h1, mn_X 21 [.ref 1, .int 1, .int 999] h (some (.int x)) h1 ∧ mn_E 17 36 [.ref 1, .ref a1, .int x2, .int x3, .int s0, .null] [.int x] h1 r h' :=
  (mX_istore (ls' := [.ref 1, .ref a1, .int x2, .int x3, .int s0, .null]) d_X2_readThreshold_26 rfl rfl).trans <| (mX_aload_n d_X2_readThreshold_28 rfl).trans <| (mX_iconst d_X2_readThreshold_29 ci_1).trans <| (mX_sipush d_X2_readThreshold_30 cs_999).trans <| mV_i (a := 1) (vs := [.int 1, .int 999]) (st' := []) d_X2_readThreshold_33 cv_17_75 (Or.inl rfl) (Nat.le_of_ble_eq_true rfl) rfl rfl rfl rfl
theorem b_X2_readThreshold_36 {x2 x3 x4 s0 : Int32} {a1 : Nat} {h h' : mn_H} {r : Option Value} (ha1 : mn_isQ a1) : mn_E 17 36 [.ref 1, .ref a1, .int x2, .int x3, .int x4, .null] [.int s0] h r h' ↔ ∃ x h1, mn_X 22 [.ref 1] h (some (.int x)) h1 ∧ mn_E 17 42 [.ref 1, .ref a1, .int x2, .int x3, .int x4, .int s0] [.int x] h1 r h' :=
  (mX_istore (ls' := [.ref 1, .ref a1, .int x2, .int x3, .int x4, .int s0]) d_X2_readThreshold_36 rfl rfl).trans <| (mX_aload_n d_X2_readThreshold_38 rfl).trans <| mV_i (a := 1) (vs := []) (st' := []) d_X2_readThreshold_39 cv_17_79 (Or.inr (Or.inl rfl)) (Nat.le_of_ble_eq_true rfl) rfl rfl rfl rfl
theorem b_X2_readThreshold_42 {x2 x3 x4 x5 s0 : Int32} {a1 : Nat} {h h' : mn_H} {r : Option Value} (ha1 : mn_isQ a1) : mn_E 17 42 [.ref 1, .ref a1, .int x2, .int x3, .int x4, .int x5] [.int s0] h r h' ↔ if s0 = 0 then mn_E 17 54 [.ref 1, .ref a1, .int x2, .int x3, .int x4, .int x5] [] h r h' else mn_E 17 45 [.ref 1, .ref a1, .int x2, .int x3, .int x4, .int x5] [] h r h' :=
  mX_if_eq d_X2_readThreshold_42 rfl
theorem b_X2_readThreshold_45 {x2 x3 x4 x5 : Int32} {a1 : Nat} {h h' : mn_H} {r : Option Value} (ha1 : mn_isQ a1) : mn_E 17 45 [.ref 1, .ref a1, .int x2, .int x3, .int x4, .int x5] [] h r h' ↔ ∃ h1, mn_X 38 [.ref a1, .int x3, .int x4, .int x5] h none h1 ∧ mn_E 17 54 [.ref 1, .ref a1, .int x2, .int x3, .int x4, .int x5] [] h1 r h' :=
  (mX_aload_n d_X2_readThreshold_45 rfl).trans <| (mX_iload_n d_X2_readThreshold_46 rfl).trans <| (mX_iload d_X2_readThreshold_47 rfl).trans <| (mX_iload d_X2_readThreshold_49 rfl).trans <| mV_v (a := a1) (vs := [.int x3, .int x4, .int x5]) (st' := []) d_X2_readThreshold_51 cv_17_99 rfl (Nat.le_of_ble_eq_true rfl) rfl rfl (mn_shQ0 ha1) rfl
theorem b_X2_readThreshold_54 {x2 x3 x4 x5 : Int32} {a1 : Nat} {h h' : mn_H} {r : Option Value} (ha1 : mn_isQ a1) : mn_E 17 54 [.ref 1, .ref a1, .int x2, .int x3, .int x4, .int x5] [] h r h' ↔ r = none ∧ h' = h :=
  mX_vret d_X2_readThreshold_54 rfl
-- X2_readSelf
theorem mo_18 : mO 18 = 2 := rfl
theorem d_X2_readSelf_0 : decode (mC 18) 0 = .ok (.aload_n 1, 1) := by decide +kernel
theorem d_X2_readSelf_1 : decode (mC 18) 1 = .ok (.getfield 102, 3) := by decide +kernel
theorem d_X2_readSelf_4 : decode (mC 18) 4 = .ok (.iconst 3, 1) := by decide +kernel
theorem d_X2_readSelf_5 : decode (mC 18) 5 = .ok (.if_icmp .lt 9, 3) := by decide +kernel
theorem d_X2_readSelf_8 : decode (mC 18) 8 = .ok (.aload_n 0, 1) := by decide +kernel
theorem d_X2_readSelf_9 : decode (mC 18) 9 = .ok (.iconst 3, 1) := by decide +kernel
theorem d_X2_readSelf_10 : decode (mC 18) 10 = .ok (.iload_n 2, 1) := by decide +kernel
theorem d_X2_readSelf_11 : decode (mC 18) 11 = .ok (.invokevirtual 64, 3) := by decide +kernel
theorem d_X2_readSelf_14 : decode (mC 18) 14 = .ok (.aload_n 0, 1) := by decide +kernel
theorem d_X2_readSelf_15 : decode (mC 18) 15 = .ok (.iconst 0, 1) := by decide +kernel
theorem d_X2_readSelf_16 : decode (mC 18) 16 = .ok (.iconst 5, 1) := by decide +kernel
theorem d_X2_readSelf_17 : decode (mC 18) 17 = .ok (.invokevirtual 75, 3) := by decide +kernel
theorem d_X2_readSelf_20 : decode (mC 18) 20 = .ok (.istore_n 3, 1) := by decide +kernel
theorem d_X2_readSelf_21 : decode (mC 18) 21 = .ok (.aload_n 0, 1) := by decide +kernel
theorem d_X2_readSelf_22 : decode (mC 18) 22 = .ok (.iconst 1, 1) := by decide +kernel
theorem d_X2_readSelf_23 : decode (mC 18) 23 = .ok (.bipush 12, 2) := by decide +kernel
theorem d_X2_readSelf_25 : decode (mC 18) 25 = .ok (.invokevirtual 75, 3) := by decide +kernel
theorem d_X2_readSelf_28 : decode (mC 18) 28 = .ok (.istore 4, 2) := by decide +kernel
theorem d_X2_readSelf_30 : decode (mC 18) 30 = .ok (.aload_n 0, 1) := by decide +kernel
theorem d_X2_readSelf_31 : decode (mC 18) 31 = .ok (.iconst 0, 1) := by decide +kernel
theorem d_X2_readSelf_32 : decode (mC 18) 32 = .ok (.bipush 11, 2) := by decide +kernel
theorem d_X2_readSelf_34 : decode (mC 18) 34 = .ok (.invokevirtual 75, 3) := by decide +kernel
theorem d_X2_readSelf_37 : decode (mC 18) 37 = .ok (.istore 5, 2) := by decide +kernel
theorem d_X2_readSelf_39 : decode (mC 18) 39 = .ok (.aload_n 0, 1) := by decide +kernel
theorem d_X2_readSelf_40 : decode (mC 18) 40 = .ok (.invokevirtual 79, 3) := by decide +kernel
theorem d_X2_readSelf_43 : decode (mC 18) 43 = .ok (.ifCond .eq 12, 3) := by decide +kernel
theorem d_X2_readSelf_46 : decode (mC 18) 46 = .ok (.aload_n 1, 1) := by decide +kernel
theorem d_X2_readSelf_47 : decode (mC 18) 47 = .ok (.iload_n 3, 1) := by decide +kernel
theorem d_X2_readSelf_48 : decode (mC 18) 48 = .ok (.iload 4, 2) := by decide +kernel
theorem d_X2_readSelf_50 : decode (mC 18) 50 = .ok (.iload 5, 2) := by decide +kernel
theorem d_X2_readSelf_52 : decode (mC 18) 52 = .ok (.invokevirtual 105, 3) := by decide +kernel
theorem d_X2_readSelf_55 : decode (mC 18) 55 = .ok (.return_, 1) := by decide +kernel
theorem fi_18_102 : mn_fi 18 2 102 5 11 = true := by decide +kernel
theorem cv_18_64 : mn_cvt 18 2 64 24 = true := by decide +kernel
theorem cv_18_75 : mn_cvt 18 2 75 21 = true := by decide +kernel
theorem cv_18_79 : mn_cvt 18 2 79 22 = true := by decide +kernel
theorem cv_18_105 : mn_cvt 18 2 105 44 = true := by decide +kernel
theorem b_X2_readSelf_0 {x2 : Int32} {a1 : Nat} {h h' : mn_H} {r : Option Value} (ha1 : mn_isT a1) : mn_E 18 0 [.ref 1, .ref a1, .int x2, .null, .null, .null] [] h r h' ↔ if (h a1 11) < 3 then mn_E 18 14 [.ref 1, .ref a1, .int x2, .null, .null, .null] [] h r h' else mn_E 18 8 [.ref 1, .ref a1, .int x2, .null, .null, .null] [] h r h' :=
  (mX_aload_n d_X2_readSelf_0 rfl).trans <| (mG_i d_X2_readSelf_1 fi_18_102 (mn_shT0 ha1) (mn_ltT0 ha1)).trans <| (mX_iconst d_X2_readSelf_4 ci_3).trans <| mX_icmp_lt d_X2_readSelf_5 rfl
theorem b_X2_readSelf_8 {x2 : Int32} {a1 : Nat} {h h' : mn_H} {r : Option Value} (ha1 : mn_isT a1) : mn_E 18 8 [.ref 1, .ref a1, .int x2, .null, .null, .null] [] h r h' ↔ ∃ h1, mn_X 24 [.ref 1, .int 3, .int x2] h none h1 ∧ mn_E 18 14 [.ref 1, .ref a1, .int x2, .null, .null, .null] [] h1 r h' :=
  (mX_aload_n d_X2_readSelf_8 rfl).trans <| (mX_iconst d_X2_readSelf_9 ci_3).trans <| (mX_iload_n d_X2_readSelf_10 rfl).trans <| mV_v (a := 1) (vs := [.int 3, .int x2]) (st' := []) d_X2_readSelf_11 cv_18_64 rfl (Nat.le_of_ble_eq_true rfl) rfl rfl rfl rfl
theorem b_X2_readSelf_14 {x2 : Int32} {a1 : Nat} {h h' : mn_H} {r : Option Value} (ha1 : mn_isT a1) : mn_E 18 14 [.ref 1, .ref a1, .int x2, .null, .null, .null] [] h r h' ↔ ∃ x h1, mn_X 21 [.ref 1, .int 0, .int 5] h (some (.int x)) h1 ∧ mn_E 18 20 [.ref 1, .ref a1, .int x2, .null, .null, .null] [.int x] h1 r h' :=
  (mX_aload_n d_X2_readSelf_14 rfl).trans <| (mX_iconst d_X2_readSelf_15 ci_0).trans <| (mX_iconst d_X2_readSelf_16 ci_5).trans <| mV_i (a := 1) (vs := [.int 0, .int 5]) (st' := []) d_X2_readSelf_17 cv_18_75 (Or.inl rfl) (Nat.le_of_ble_eq_true rfl) rfl rfl rfl rfl
theorem b_X2_readSelf_20 {x2 s0 : Int32} {a1 : Nat} {h h' : mn_H} {r : Option Value} (ha1 : mn_isT a1) : mn_E 18 20 [.ref 1, .ref a1, .int x2, .null, .null, .null] [.int s0] h r h' ↔ ∃ x h1, mn_X 21 [.ref 1, .int 1, .int 12] h (some (.int x)) h1 ∧ mn_E 18 28 [.ref 1, .ref a1, .int x2, .int s0, .null, .null] [.int x] h1 r h' :=
  (mX_istore_n (ls' := [.ref 1, .ref a1, .int x2, .int s0, .null, .null]) d_X2_readSelf_20 rfl rfl).trans <| (mX_aload_n d_X2_readSelf_21 rfl).trans <| (mX_iconst d_X2_readSelf_22 ci_1).trans <| (mX_bipush d_X2_readSelf_23 cb_12).trans <| mV_i (a := 1) (vs := [.int 1, .int 12]) (st' := []) d_X2_readSelf_25 cv_18_75 (Or.inl rfl) (Nat.le_of_ble_eq_true rfl) rfl rfl rfl rfl
theorem b_X2_readSelf_28 {x2 x3 s0 : Int32} {a1 : Nat} {h h' : mn_H} {r : Option Value} (ha1 : mn_isT a1) : mn_E 18 28 [.ref 1, .ref a1, .int x2, .int x3, .null, .null] [.int s0] h r h' ↔ ∃ x h1, mn_X 21 [.ref 1, .int 0, .int 11] h (some (.int x)) h1 ∧ mn_E 18 37 [.ref 1, .ref a1, .int x2, .int x3, .int s0, .null] [.int x] h1 r h' :=
  (mX_istore (ls' := [.ref 1, .ref a1, .int x2, .int x3, .int s0, .null]) d_X2_readSelf_28 rfl rfl).trans <| (mX_aload_n d_X2_readSelf_30 rfl).trans <| (mX_iconst d_X2_readSelf_31 ci_0).trans <| (mX_bipush d_X2_readSelf_32 cb_11).trans <| mV_i (a := 1) (vs := [.int 0, .int 11]) (st' := []) d_X2_readSelf_34 cv_18_75 (Or.inl rfl) (Nat.le_of_ble_eq_true rfl) rfl rfl rfl rfl
theorem b_X2_readSelf_37 {x2 x3 x4 s0 : Int32} {a1 : Nat} {h h' : mn_H} {r : Option Value} (ha1 : mn_isT a1) : mn_E 18 37 [.ref 1, .ref a1, .int x2, .int x3, .int x4, .null] [.int s0] h r h' ↔ ∃ x h1, mn_X 22 [.ref 1] h (some (.int x)) h1 ∧ mn_E 18 43 [.ref 1, .ref a1, .int x2, .int x3, .int x4, .int s0] [.int x] h1 r h' :=
  (mX_istore (ls' := [.ref 1, .ref a1, .int x2, .int x3, .int x4, .int s0]) d_X2_readSelf_37 rfl rfl).trans <| (mX_aload_n d_X2_readSelf_39 rfl).trans <| mV_i (a := 1) (vs := []) (st' := []) d_X2_readSelf_40 cv_18_79 (Or.inr (Or.inl rfl)) (Nat.le_of_ble_eq_true rfl) rfl rfl rfl rfl
theorem b_X2_readSelf_43 {x2 x3 x4 x5 s0 : Int32} {a1 : Nat} {h h' : mn_H} {r : Option Value} (ha1 : mn_isT a1) : mn_E 18 43 [.ref 1, .ref a1, .int x2, .int x3, .int x4, .int x5] [.int s0] h r h' ↔ if s0 = 0 then mn_E 18 55 [.ref 1, .ref a1, .int x2, .int x3, .int x4, .int x5] [] h r h' else mn_E 18 46 [.ref 1, .ref a1, .int x2, .int x3, .int x4, .int x5] [] h r h' :=
  mX_if_eq d_X2_readSelf_43 rfl
theorem b_X2_readSelf_46 {x2 x3 x4 x5 : Int32} {a1 : Nat} {h h' : mn_H} {r : Option Value} (ha1 : mn_isT a1) : mn_E 18 46 [.ref 1, .ref a1, .int x2, .int x3, .int x4, .int x5] [] h r h' ↔ ∃ h1, mn_X 44 [.ref a1, .int x3, .int x4, .int x5] h none h1 ∧ mn_E 18 55 [.ref 1, .ref a1, .int x2, .int x3, .int x4, .int x5] [] h1 r h' :=
  (mX_aload_n d_X2_readSelf_46 rfl).trans <| (mX_iload_n d_X2_readSelf_47 rfl).trans <| (mX_iload d_X2_readSelf_48 rfl).trans <| (mX_iload d_X2_readSelf_50 rfl).trans <| mV_v (a := a1) (vs := [.int x3, .int x4, .int x5]) (st' := []) d_X2_readSelf_52 cv_18_105 rfl (Nat.le_of_ble_eq_true rfl) rfl rfl (mn_shT0 ha1) rfl
theorem b_X2_readSelf_55 {x2 x3 x4 x5 : Int32} {a1 : Nat} {h h' : mn_H} {r : Option Value} (ha1 : mn_isT a1) : mn_E 18 55 [.ref 1, .ref a1, .int x2, .int x3, .int x4, .int x5] [] h r h' ↔ r = none ∧ h' = h :=
  mX_vret d_X2_readSelf_55 rfl
-- X2_readHarm
theorem mo_19 : mO 19 = 2 := rfl
theorem d_X2_readHarm_0 : decode (mC 19) 0 = .ok (.aload_n 0, 1) := by decide +kernel
theorem d_X2_readHarm_1 : decode (mC 19) 1 = .ok (.iconst 0, 1) := by decide +kernel
theorem d_X2_readHarm_2 : decode (mC 19) 2 = .ok (.iconst 5, 1) := by decide +kernel
theorem d_X2_readHarm_3 : decode (mC 19) 3 = .ok (.invokevirtual 75, 3) := by decide +kernel
theorem d_X2_readHarm_6 : decode (mC 19) 6 = .ok (.istore_n 2, 1) := by decide +kernel
theorem d_X2_readHarm_7 : decode (mC 19) 7 = .ok (.aload_n 0, 1) := by decide +kernel
theorem d_X2_readHarm_8 : decode (mC 19) 8 = .ok (.getfield 30, 3) := by decide +kernel
theorem d_X2_readHarm_11 : decode (mC 19) 11 = .ok (.ifCond .ne 20, 3) := by decide +kernel
theorem d_X2_readHarm_14 : decode (mC 19) 14 = .ok (.aload_n 1, 1) := by decide +kernel
theorem d_X2_readHarm_15 : decode (mC 19) 15 = .ok (.iload_n 2, 1) := by decide +kernel
theorem d_X2_readHarm_16 : decode (mC 19) 16 = .ok (.invokevirtual 108, 3) := by decide +kernel
theorem d_X2_readHarm_19 : decode (mC 19) 19 = .ok (.ifCond .eq 12, 3) := by decide +kernel
theorem d_X2_readHarm_22 : decode (mC 19) 22 = .ok (.aload_n 0, 1) := by decide +kernel
theorem d_X2_readHarm_23 : decode (mC 19) 23 = .ok (.iconst 4, 1) := by decide +kernel
theorem d_X2_readHarm_24 : decode (mC 19) 24 = .ok (.aload_n 0, 1) := by decide +kernel
theorem d_X2_readHarm_25 : decode (mC 19) 25 = .ok (.getfield 112, 3) := by decide +kernel
theorem d_X2_readHarm_28 : decode (mC 19) 28 = .ok (.invokevirtual 64, 3) := by decide +kernel
theorem d_X2_readHarm_31 : decode (mC 19) 31 = .ok (.aload_n 0, 1) := by decide +kernel
theorem d_X2_readHarm_32 : decode (mC 19) 32 = .ok (.iconst 0, 1) := by decide +kernel
theorem d_X2_readHarm_33 : decode (mC 19) 33 = .ok (.bipush 99, 2) := by decide +kernel
theorem d_X2_readHarm_35 : decode (mC 19) 35 = .ok (.invokevirtual 75, 3) := by decide +kernel
theorem d_X2_readHarm_38 : decode (mC 19) 38 = .ok (.istore_n 3, 1) := by decide +kernel
theorem d_X2_readHarm_39 : decode (mC 19) 39 = .ok (.aload_n 0, 1) := by decide +kernel
theorem d_X2_readHarm_40 : decode (mC 19) 40 = .ok (.invokevirtual 79, 3) := by decide +kernel
theorem d_X2_readHarm_43 : decode (mC 19) 43 = .ok (.ifCond .eq 12, 3) := by decide +kernel
theorem d_X2_readHarm_46 : decode (mC 19) 46 = .ok (.aload_n 1, 1) := by decide +kernel
theorem d_X2_readHarm_47 : decode (mC 19) 47 = .ok (.iload_n 2, 1) := by decide +kernel
theorem d_X2_readHarm_48 : decode (mC 19) 48 = .ok (.iload_n 3, 1) := by decide +kernel
theorem d_X2_readHarm_49 : decode (mC 19) 49 = .ok (.bipush 50, 2) := by decide +kernel
theorem d_X2_readHarm_51 : decode (mC 19) 51 = .ok (.isub, 1) := by decide +kernel
theorem d_X2_readHarm_52 : decode (mC 19) 52 = .ok (.invokevirtual 115, 3) := by decide +kernel
theorem d_X2_readHarm_55 : decode (mC 19) 55 = .ok (.return_, 1) := by decide +kernel
theorem cv_19_75 : mn_cvt 19 2 75 21 = true := by decide +kernel
theorem fi_19_30 : mn_fi 19 2 30 2 4 = true := by decide +kernel
theorem cv_19_108 : mn_cvt 19 2 108 45 = true := by decide +kernel
theorem fi_19_112 : mn_fi 19 2 112 2 3 = true := by decide +kernel
theorem cv_19_64 : mn_cvt 19 2 64 24 = true := by decide +kernel
theorem cv_19_79 : mn_cvt 19 2 79 22 = true := by decide +kernel
theorem cv_19_115 : mn_cvt 19 2 115 46 = true := by decide +kernel
theorem b_X2_readHarm_0 {a1 : Nat} {h h' : mn_H} {r : Option Value} (ha1 : mn_isT a1) : mn_E 19 0 [.ref 1, .ref a1, .null, .null] [] h r h' ↔ ∃ x h1, mn_X 21 [.ref 1, .int 0, .int 5] h (some (.int x)) h1 ∧ mn_E 19 6 [.ref 1, .ref a1, .null, .null] [.int x] h1 r h' :=
  (mX_aload_n d_X2_readHarm_0 rfl).trans <| (mX_iconst d_X2_readHarm_1 ci_0).trans <| (mX_iconst d_X2_readHarm_2 ci_5).trans <| mV_i (a := 1) (vs := [.int 0, .int 5]) (st' := []) d_X2_readHarm_3 cv_19_75 (Or.inl rfl) (Nat.le_of_ble_eq_true rfl) rfl rfl rfl rfl
theorem b_X2_readHarm_6 {s0 : Int32} {a1 : Nat} {h h' : mn_H} {r : Option Value} (ha1 : mn_isT a1) : mn_E 19 6 [.ref 1, .ref a1, .null, .null] [.int s0] h r h' ↔ if ¬ (h 1 4) = 0 then mn_E 19 31 [.ref 1, .ref a1, .int s0, .null] [] h r h' else mn_E 19 14 [.ref 1, .ref a1, .int s0, .null] [] h r h' :=
  (mX_istore_n (ls' := [.ref 1, .ref a1, .int s0, .null]) d_X2_readHarm_6 rfl rfl).trans <| (mX_aload_n d_X2_readHarm_7 rfl).trans <| (mG_i d_X2_readHarm_8 fi_19_30 rfl (by decide)).trans <| mX_if_ne d_X2_readHarm_11 rfl
theorem b_X2_readHarm_14 {x2 : Int32} {a1 : Nat} {h h' : mn_H} {r : Option Value} (ha1 : mn_isT a1) : mn_E 19 14 [.ref 1, .ref a1, .int x2, .null] [] h r h' ↔ ∃ x h1, mn_X 45 [.ref a1, .int x2] h (some (.int x)) h1 ∧ mn_E 19 19 [.ref 1, .ref a1, .int x2, .null] [.int x] h1 r h' :=
  (mX_aload_n d_X2_readHarm_14 rfl).trans <| (mX_iload_n d_X2_readHarm_15 rfl).trans <| mV_i (a := a1) (vs := [.int x2]) (st' := []) d_X2_readHarm_16 cv_19_108 (Or.inr (Or.inl rfl)) (Nat.le_of_ble_eq_true rfl) rfl rfl (mn_shT0 ha1) rfl
theorem b_X2_readHarm_19 {x2 s0 : Int32} {a1 : Nat} {h h' : mn_H} {r : Option Value} (ha1 : mn_isT a1) : mn_E 19 19 [.ref 1, .ref a1, .int x2, .null] [.int s0] h r h' ↔ if s0 = 0 then mn_E 19 31 [.ref 1, .ref a1, .int x2, .null] [] h r h' else mn_E 19 22 [.ref 1, .ref a1, .int x2, .null] [] h r h' :=
  mX_if_eq d_X2_readHarm_19 rfl
theorem b_X2_readHarm_22 {x2 : Int32} {a1 : Nat} {h h' : mn_H} {r : Option Value} (ha1 : mn_isT a1) : mn_E 19 22 [.ref 1, .ref a1, .int x2, .null] [] h r h' ↔ ∃ h1, mn_X 24 [.ref 1, .int 4, .int (h 1 3)] h none h1 ∧ mn_E 19 31 [.ref 1, .ref a1, .int x2, .null] [] h1 r h' :=
  (mX_aload_n d_X2_readHarm_22 rfl).trans <| (mX_iconst d_X2_readHarm_23 ci_4).trans <| (mX_aload_n d_X2_readHarm_24 rfl).trans <| (mG_i d_X2_readHarm_25 fi_19_112 rfl (by decide)).trans <| mV_v (a := 1) (vs := [.int 4, .int (h 1 3)]) (st' := []) d_X2_readHarm_28 cv_19_64 rfl (Nat.le_of_ble_eq_true rfl) rfl rfl rfl rfl
theorem b_X2_readHarm_31 {x2 : Int32} {a1 : Nat} {h h' : mn_H} {r : Option Value} (ha1 : mn_isT a1) : mn_E 19 31 [.ref 1, .ref a1, .int x2, .null] [] h r h' ↔ ∃ x h1, mn_X 21 [.ref 1, .int 0, .int 99] h (some (.int x)) h1 ∧ mn_E 19 38 [.ref 1, .ref a1, .int x2, .null] [.int x] h1 r h' :=
  (mX_aload_n d_X2_readHarm_31 rfl).trans <| (mX_iconst d_X2_readHarm_32 ci_0).trans <| (mX_bipush d_X2_readHarm_33 cb_99).trans <| mV_i (a := 1) (vs := [.int 0, .int 99]) (st' := []) d_X2_readHarm_35 cv_19_75 (Or.inl rfl) (Nat.le_of_ble_eq_true rfl) rfl rfl rfl rfl
theorem b_X2_readHarm_38 {x2 s0 : Int32} {a1 : Nat} {h h' : mn_H} {r : Option Value} (ha1 : mn_isT a1) : mn_E 19 38 [.ref 1, .ref a1, .int x2, .null] [.int s0] h r h' ↔ ∃ x h1, mn_X 22 [.ref 1] h (some (.int x)) h1 ∧ mn_E 19 43 [.ref 1, .ref a1, .int x2, .int s0] [.int x] h1 r h' :=
  (mX_istore_n (ls' := [.ref 1, .ref a1, .int x2, .int s0]) d_X2_readHarm_38 rfl rfl).trans <| (mX_aload_n d_X2_readHarm_39 rfl).trans <| mV_i (a := 1) (vs := []) (st' := []) d_X2_readHarm_40 cv_19_79 (Or.inr (Or.inl rfl)) (Nat.le_of_ble_eq_true rfl) rfl rfl rfl rfl
theorem b_X2_readHarm_43 {x2 x3 s0 : Int32} {a1 : Nat} {h h' : mn_H} {r : Option Value} (ha1 : mn_isT a1) : mn_E 19 43 [.ref 1, .ref a1, .int x2, .int x3] [.int s0] h r h' ↔ if s0 = 0 then mn_E 19 55 [.ref 1, .ref a1, .int x2, .int x3] [] h r h' else mn_E 19 46 [.ref 1, .ref a1, .int x2, .int x3] [] h r h' :=
  mX_if_eq d_X2_readHarm_43 rfl
theorem b_X2_readHarm_46 {x2 x3 : Int32} {a1 : Nat} {h h' : mn_H} {r : Option Value} (ha1 : mn_isT a1) : mn_E 19 46 [.ref 1, .ref a1, .int x2, .int x3] [] h r h' ↔ ∃ h1, mn_X 46 [.ref a1, .int x2, .int (x3 - 50)] h none h1 ∧ mn_E 19 55 [.ref 1, .ref a1, .int x2, .int x3] [] h1 r h' :=
  (mX_aload_n d_X2_readHarm_46 rfl).trans <| (mX_iload_n d_X2_readHarm_47 rfl).trans <| (mX_iload_n d_X2_readHarm_48 rfl).trans <| (mX_bipush d_X2_readHarm_49 cb_50).trans <| (mX_isub d_X2_readHarm_51).trans <| mV_v (a := a1) (vs := [.int x2, .int (x3 - 50)]) (st' := []) d_X2_readHarm_52 cv_19_115 rfl (Nat.le_of_ble_eq_true rfl) rfl rfl (mn_shT0 ha1) rfl
theorem b_X2_readHarm_55 {x2 x3 : Int32} {a1 : Nat} {h h' : mn_H} {r : Option Value} (ha1 : mn_isT a1) : mn_E 19 55 [.ref 1, .ref a1, .int x2, .int x3] [] h r h' ↔ r = none ∧ h' = h :=
  mX_vret d_X2_readHarm_55 rfl
-- X2_readKind
theorem mo_20 : mO 20 = 2 := rfl
theorem d_X2_readKind_0 : decode (mC 20) 0 = .ok (.aload_n 0, 1) := by decide +kernel
theorem d_X2_readKind_1 : decode (mC 20) 1 = .ok (.invokevirtual 33, 3) := by decide +kernel
theorem d_X2_readKind_4 : decode (mC 20) 4 = .ok (.aload_n 0, 1) := by decide +kernel
theorem d_X2_readKind_5 : decode (mC 20) 5 = .ok (.getfield 27, 3) := by decide +kernel
theorem d_X2_readKind_8 : decode (mC 20) 8 = .ok (.aload_n 0, 1) := by decide +kernel
theorem d_X2_readKind_9 : decode (mC 20) 9 = .ok (.getfield 19, 3) := by decide +kernel
theorem d_X2_readKind_12 : decode (mC 20) 12 = .ok (.if_icmp .ge 21, 3) := by decide +kernel
theorem d_X2_readKind_15 : decode (mC 20) 15 = .ok (.ldc 118, 2) := by decide +kernel
theorem d_X2_readKind_17 : decode (mC 20) 17 = .ok (.aload_n 0, 1) := by decide +kernel
theorem d_X2_readKind_18 : decode (mC 20) 18 = .ok (.getfield 9, 3) := by decide +kernel
theorem d_X2_readKind_21 : decode (mC 20) 21 = .ok (.aload_n 0, 1) := by decide +kernel
theorem d_X2_readKind_22 : decode (mC 20) 22 = .ok (.getfield 27, 3) := by decide +kernel
theorem d_X2_readKind_25 : decode (mC 20) 25 = .ok (.iaload, 1) := by decide +kernel
theorem d_X2_readKind_26 : decode (mC 20) 26 = .ok (.i2c, 1) := by decide +kernel
theorem d_X2_readKind_27 : decode (mC 20) 27 = .ok (.invokevirtual 120, 3) := by decide +kernel
theorem d_X2_readKind_30 : decode (mC 20) 30 = .ok (.goto 4, 3) := by decide +kernel
theorem d_X2_readKind_33 : decode (mC 20) 33 = .ok (.iconst (-1), 1) := by decide +kernel
theorem d_X2_readKind_34 : decode (mC 20) 34 = .ok (.istore_n 1, 1) := by decide +kernel
theorem d_X2_readKind_35 : decode (mC 20) 35 = .ok (.iload_n 1, 1) := by decide +kernel
theorem d_X2_readKind_36 : decode (mC 20) 36 = .ok (.ifCond .ge 14, 3) := by decide +kernel
theorem d_X2_readKind_39 : decode (mC 20) 39 = .ok (.aload_n 0, 1) := by decide +kernel
theorem d_X2_readKind_40 : decode (mC 20) 40 = .ok (.iconst 1, 1) := by decide +kernel
theorem d_X2_readKind_41 : decode (mC 20) 41 = .ok (.aload_n 0, 1) := by decide +kernel
theorem d_X2_readKind_42 : decode (mC 20) 42 = .ok (.getfield 27, 3) := by decide +kernel
theorem d_X2_readKind_45 : decode (mC 20) 45 = .ok (.invokevirtual 64, 3) := by decide +kernel
theorem d_X2_readKind_48 : decode (mC 20) 48 = .ok (.iconst 0, 1) := by decide +kernel
theorem d_X2_readKind_49 : decode (mC 20) 49 = .ok (.ireturn, 1) := by decide +kernel
theorem d_X2_readKind_50 : decode (mC 20) 50 = .ok (.aload_n 0, 1) := by decide +kernel
theorem d_X2_readKind_51 : decode (mC 20) 51 = .ok (.dup, 1) := by decide +kernel
theorem d_X2_readKind_52 : decode (mC 20) 52 = .ok (.getfield 27, 3) := by decide +kernel
theorem d_X2_readKind_55 : decode (mC 20) 55 = .ok (.iconst 1, 1) := by decide +kernel
theorem d_X2_readKind_56 : decode (mC 20) 56 = .ok (.iadd, 1) := by decide +kernel
theorem d_X2_readKind_57 : decode (mC 20) 57 = .ok (.putfield 27, 3) := by decide +kernel
theorem d_X2_readKind_60 : decode (mC 20) 60 = .ok (.iload_n 1, 1) := by decide +kernel
theorem d_X2_readKind_61 : decode (mC 20) 61 = .ok (.ireturn, 1) := by decide +kernel
theorem cv_20_33 : mn_cvt 20 2 33 23 = true := by decide +kernel
theorem fi_20_27 : mn_fi 20 2 27 2 2 = true := by decide +kernel
theorem fi_20_19 : mn_fi 20 2 19 2 1 = true := by decide +kernel
theorem fr_20_9 : mn_fr 20 2 9 2 0 = true := by decide +kernel
theorem cv_20_120 : mn_cvt 20 2 120 182 = true := by decide +kernel
theorem cv_20_64 : mn_cvt 20 2 64 24 = true := by decide +kernel
theorem b_X2_readKind_0 {h h' : mn_H} {r : Option Value} : mn_E 20 0 [.ref 1, .null] [] h r h' ↔ ∃ h1, mn_X 23 [.ref 1] h none h1 ∧ mn_E 20 4 [.ref 1, .null] [] h1 r h' :=
  (mX_aload_n d_X2_readKind_0 rfl).trans <| mV_v (a := 1) (vs := []) (st' := []) d_X2_readKind_1 cv_20_33 rfl (Nat.le_of_ble_eq_true rfl) rfl rfl rfl rfl
theorem b_X2_readKind_4 {h h' : mn_H} {r : Option Value} : mn_E 20 4 [.ref 1, .null] [] h r h' ↔ if (h 1 1) ≤ (h 1 2) then mn_E 20 33 [.ref 1, .null] [] h r h' else mn_E 20 15 [.ref 1, .null] [] h r h' :=
  (mX_aload_n d_X2_readKind_4 rfl).trans <| (mG_i d_X2_readKind_5 fi_20_27 rfl (by decide)).trans <| (mX_aload_n d_X2_readKind_8 rfl).trans <| (mG_i d_X2_readKind_9 fi_20_19 rfl (by decide)).trans <| mX_icmp_ge d_X2_readKind_12 rfl
theorem b_X2_readKind_15 {h h' : mn_H} {r : Option Value} (hy0 : vp_in (h 1 2) 250) : mn_E 20 15 [.ref 1, .null] [] h r h' ↔ ∃ x h1, mn_X 182 [.ref 75, .int (((h 2 (h 1 2).toNatClampNeg)).toUInt32 % 65536).toInt32] h (some (.int x)) h1 ∧ mn_E 20 30 [.ref 1, .null] [.int x] h1 r h' :=
  (mX_ldcS d_X2_readKind_15 mo_20 ⟨rfl, rfl⟩).trans <| (mX_aload_n d_X2_readKind_17 rfl).trans <| (mG_r (b := 2) d_X2_readKind_18 fr_20_9 rfl (by decide) rfl).trans <| (mX_aload_n d_X2_readKind_21 rfl).trans <| (mG_i d_X2_readKind_22 fi_20_27 rfl (by decide)).trans <| (mX_iaload d_X2_readKind_25 rfl (by decide) hy0).trans <| (mX_i2c d_X2_readKind_26).trans <| mV_i (a := 75) (vs := [.int (((h 2 (h 1 2).toNatClampNeg)).toUInt32 % 65536).toInt32]) (st' := []) d_X2_readKind_27 cv_20_120 (Or.inl rfl) (Nat.le_of_ble_eq_true rfl) rfl rfl rfl rfl
theorem b_X2_readKind_30 {s0 : Int32} {h h' : mn_H} {r : Option Value} : mn_E 20 30 [.ref 1, .null] [.int s0] h r h' ↔ mn_E 20 34 [.ref 1, .null] [.int s0] h r h' :=
  mX_goto d_X2_readKind_30 rfl
theorem b_X2_readKind_33 {h h' : mn_H} {r : Option Value} : mn_E 20 33 [.ref 1, .null] [] h r h' ↔ mn_E 20 34 [.ref 1, .null] [.int (-1)] h r h' :=
  mX_iconst d_X2_readKind_33 ci_m1
theorem b_X2_readKind_34 {s0 : Int32} {h h' : mn_H} {r : Option Value} : mn_E 20 34 [.ref 1, .null] [.int s0] h r h' ↔ if (0 : Int32) ≤ s0 then mn_E 20 50 [.ref 1, .int s0] [] h r h' else mn_E 20 39 [.ref 1, .int s0] [] h r h' :=
  (mX_istore_n (ls' := [.ref 1, .int s0]) d_X2_readKind_34 rfl rfl).trans <| (mX_iload_n d_X2_readKind_35 rfl).trans <| mX_if_ge d_X2_readKind_36 rfl
theorem b_X2_readKind_39 {x1 : Int32} {h h' : mn_H} {r : Option Value} : mn_E 20 39 [.ref 1, .int x1] [] h r h' ↔ ∃ h1, mn_X 24 [.ref 1, .int 1, .int (h 1 2)] h none h1 ∧ mn_E 20 48 [.ref 1, .int x1] [] h1 r h' :=
  (mX_aload_n d_X2_readKind_39 rfl).trans <| (mX_iconst d_X2_readKind_40 ci_1).trans <| (mX_aload_n d_X2_readKind_41 rfl).trans <| (mG_i d_X2_readKind_42 fi_20_27 rfl (by decide)).trans <| mV_v (a := 1) (vs := [.int 1, .int (h 1 2)]) (st' := []) d_X2_readKind_45 cv_20_64 rfl (Nat.le_of_ble_eq_true rfl) rfl rfl rfl rfl
theorem b_X2_readKind_48 {x1 : Int32} {h h' : mn_H} {r : Option Value} : mn_E 20 48 [.ref 1, .int x1] [] h r h' ↔ r = some (.int 0) ∧ h' = h :=
  (mX_iconst d_X2_readKind_48 ci_0).trans <| mX_iret d_X2_readKind_49 rfl
theorem b_X2_readKind_50 {x1 : Int32} {h h' : mn_H} {r : Option Value} : mn_E 20 50 [.ref 1, .int x1] [] h r h' ↔ r = some (.int x1) ∧ h' = mn_up h 1 2 ((h 1 2) + 1) :=
  (mX_aload_n d_X2_readKind_50 rfl).trans <| (mX_dup d_X2_readKind_51 rfl).trans <| (mG_i d_X2_readKind_52 fi_20_27 rfl (by decide)).trans <| (mX_iconst d_X2_readKind_55 ci_1).trans <| (mX_iadd d_X2_readKind_56).trans <| (mP_i d_X2_readKind_57 fi_20_27 rfl (by decide) rfl (Or.inl (by decide))).trans <| (mX_iload_n d_X2_readKind_60 rfl).trans <| mX_iret d_X2_readKind_61 rfl
-- X2_readNumber
theorem mo_21 : mO 21 = 2 := rfl
theorem d_X2_readNumber_0 : decode (mC 21) 0 = .ok (.aload_n 0, 1) := by decide +kernel
theorem d_X2_readNumber_1 : decode (mC 21) 1 = .ok (.invokevirtual 33, 3) := by decide +kernel
theorem d_X2_readNumber_4 : decode (mC 21) 4 = .ok (.aload_n 0, 1) := by decide +kernel
theorem d_X2_readNumber_5 : decode (mC 21) 5 = .ok (.aload_n 0, 1) := by decide +kernel
theorem d_X2_readNumber_6 : decode (mC 21) 6 = .ok (.getfield 27, 3) := by decide +kernel
theorem d_X2_readNumber_9 : decode (mC 21) 9 = .ok (.putfield 112, 3) := by decide +kernel
theorem d_X2_readNumber_12 : decode (mC 21) 12 = .ok (.iconst 0, 1) := by decide +kernel
theorem d_X2_readNumber_13 : decode (mC 21) 13 = .ok (.istore_n 3, 1) := by decide +kernel
theorem d_X2_readNumber_14 : decode (mC 21) 14 = .ok (.aload_n 0, 1) := by decide +kernel
theorem d_X2_readNumber_15 : decode (mC 21) 15 = .ok (.getfield 27, 3) := by decide +kernel
theorem d_X2_readNumber_18 : decode (mC 21) 18 = .ok (.aload_n 0, 1) := by decide +kernel
theorem d_X2_readNumber_19 : decode (mC 21) 19 = .ok (.getfield 19, 3) := by decide +kernel
theorem d_X2_readNumber_22 : decode (mC 21) 22 = .ok (.if_icmp .ge 75, 3) := by decide +kernel
theorem d_X2_readNumber_25 : decode (mC 21) 25 = .ok (.aload_n 0, 1) := by decide +kernel
theorem d_X2_readNumber_26 : decode (mC 21) 26 = .ok (.getfield 9, 3) := by decide +kernel
theorem d_X2_readNumber_29 : decode (mC 21) 29 = .ok (.aload_n 0, 1) := by decide +kernel
theorem d_X2_readNumber_30 : decode (mC 21) 30 = .ok (.getfield 27, 3) := by decide +kernel
theorem d_X2_readNumber_33 : decode (mC 21) 33 = .ok (.iaload, 1) := by decide +kernel
theorem d_X2_readNumber_34 : decode (mC 21) 34 = .ok (.bipush 48, 2) := by decide +kernel
theorem d_X2_readNumber_36 : decode (mC 21) 36 = .ok (.if_icmp .lt 61, 3) := by decide +kernel
theorem d_X2_readNumber_39 : decode (mC 21) 39 = .ok (.aload_n 0, 1) := by decide +kernel
theorem d_X2_readNumber_40 : decode (mC 21) 40 = .ok (.getfield 9, 3) := by decide +kernel
theorem d_X2_readNumber_43 : decode (mC 21) 43 = .ok (.aload_n 0, 1) := by decide +kernel
theorem d_X2_readNumber_44 : decode (mC 21) 44 = .ok (.getfield 27, 3) := by decide +kernel
theorem d_X2_readNumber_47 : decode (mC 21) 47 = .ok (.iaload, 1) := by decide +kernel
theorem d_X2_readNumber_48 : decode (mC 21) 48 = .ok (.bipush 57, 2) := by decide +kernel
theorem d_X2_readNumber_50 : decode (mC 21) 50 = .ok (.if_icmp .gt 47, 3) := by decide +kernel
theorem d_X2_readNumber_53 : decode (mC 21) 53 = .ok (.aload_n 0, 1) := by decide +kernel
theorem d_X2_readNumber_54 : decode (mC 21) 54 = .ok (.getfield 27, 3) := by decide +kernel
theorem d_X2_readNumber_57 : decode (mC 21) 57 = .ok (.aload_n 0, 1) := by decide +kernel
theorem d_X2_readNumber_58 : decode (mC 21) 58 = .ok (.getfield 112, 3) := by decide +kernel
theorem d_X2_readNumber_61 : decode (mC 21) 61 = .ok (.isub, 1) := by decide +kernel
theorem d_X2_readNumber_62 : decode (mC 21) 62 = .ok (.iconst 3, 1) := by decide +kernel
theorem d_X2_readNumber_63 : decode (mC 21) 63 = .ok (.if_icmp .ge 21, 3) := by decide +kernel
theorem d_X2_readNumber_66 : decode (mC 21) 66 = .ok (.iload_n 3, 1) := by decide +kernel
theorem d_X2_readNumber_67 : decode (mC 21) 67 = .ok (.bipush 10, 2) := by decide +kernel
theorem d_X2_readNumber_69 : decode (mC 21) 69 = .ok (.imul, 1) := by decide +kernel
theorem d_X2_readNumber_70 : decode (mC 21) 70 = .ok (.aload_n 0, 1) := by decide +kernel
theorem d_X2_readNumber_71 : decode (mC 21) 71 = .ok (.getfield 9, 3) := by decide +kernel
theorem d_X2_readNumber_74 : decode (mC 21) 74 = .ok (.aload_n 0, 1) := by decide +kernel
theorem d_X2_readNumber_75 : decode (mC 21) 75 = .ok (.getfield 27, 3) := by decide +kernel
theorem d_X2_readNumber_78 : decode (mC 21) 78 = .ok (.iaload, 1) := by decide +kernel
theorem d_X2_readNumber_79 : decode (mC 21) 79 = .ok (.bipush 48, 2) := by decide +kernel
theorem d_X2_readNumber_81 : decode (mC 21) 81 = .ok (.isub, 1) := by decide +kernel
theorem d_X2_readNumber_82 : decode (mC 21) 82 = .ok (.iadd, 1) := by decide +kernel
theorem d_X2_readNumber_83 : decode (mC 21) 83 = .ok (.istore_n 3, 1) := by decide +kernel
theorem d_X2_readNumber_84 : decode (mC 21) 84 = .ok (.aload_n 0, 1) := by decide +kernel
theorem d_X2_readNumber_85 : decode (mC 21) 85 = .ok (.dup, 1) := by decide +kernel
theorem d_X2_readNumber_86 : decode (mC 21) 86 = .ok (.getfield 27, 3) := by decide +kernel
theorem d_X2_readNumber_89 : decode (mC 21) 89 = .ok (.iconst 1, 1) := by decide +kernel
theorem d_X2_readNumber_90 : decode (mC 21) 90 = .ok (.iadd, 1) := by decide +kernel
theorem d_X2_readNumber_91 : decode (mC 21) 91 = .ok (.putfield 27, 3) := by decide +kernel
theorem d_X2_readNumber_94 : decode (mC 21) 94 = .ok (.goto (-80), 3) := by decide +kernel
theorem d_X2_readNumber_97 : decode (mC 21) 97 = .ok (.aload_n 0, 1) := by decide +kernel
theorem d_X2_readNumber_98 : decode (mC 21) 98 = .ok (.getfield 27, 3) := by decide +kernel
theorem d_X2_readNumber_101 : decode (mC 21) 101 = .ok (.aload_n 0, 1) := by decide +kernel
theorem d_X2_readNumber_102 : decode (mC 21) 102 = .ok (.getfield 112, 3) := by decide +kernel
theorem d_X2_readNumber_105 : decode (mC 21) 105 = .ok (.if_icmp .ne 15, 3) := by decide +kernel
theorem d_X2_readNumber_108 : decode (mC 21) 108 = .ok (.aload_n 0, 1) := by decide +kernel
theorem d_X2_readNumber_109 : decode (mC 21) 109 = .ok (.iconst 1, 1) := by decide +kernel
theorem d_X2_readNumber_110 : decode (mC 21) 110 = .ok (.aload_n 0, 1) := by decide +kernel
theorem d_X2_readNumber_111 : decode (mC 21) 111 = .ok (.getfield 27, 3) := by decide +kernel
theorem d_X2_readNumber_114 : decode (mC 21) 114 = .ok (.invokevirtual 64, 3) := by decide +kernel
theorem d_X2_readNumber_117 : decode (mC 21) 117 = .ok (.goto 35, 3) := by decide +kernel
theorem d_X2_readNumber_120 : decode (mC 21) 120 = .ok (.aload_n 0, 1) := by decide +kernel
theorem d_X2_readNumber_121 : decode (mC 21) 121 = .ok (.getfield 27, 3) := by decide +kernel
theorem d_X2_readNumber_124 : decode (mC 21) 124 = .ok (.aload_n 0, 1) := by decide +kernel
theorem d_X2_readNumber_125 : decode (mC 21) 125 = .ok (.getfield 112, 3) := by decide +kernel
theorem d_X2_readNumber_128 : decode (mC 21) 128 = .ok (.isub, 1) := by decide +kernel
theorem d_X2_readNumber_129 : decode (mC 21) 129 = .ok (.iconst 3, 1) := by decide +kernel
theorem d_X2_readNumber_130 : decode (mC 21) 130 = .ok (.if_icmp .gt 13, 3) := by decide +kernel
theorem d_X2_readNumber_133 : decode (mC 21) 133 = .ok (.iload_n 3, 1) := by decide +kernel
theorem d_X2_readNumber_134 : decode (mC 21) 134 = .ok (.iload_n 1, 1) := by decide +kernel
theorem d_X2_readNumber_135 : decode (mC 21) 135 = .ok (.if_icmp .lt 8, 3) := by decide +kernel
theorem d_X2_readNumber_138 : decode (mC 21) 138 = .ok (.iload_n 3, 1) := by decide +kernel
theorem d_X2_readNumber_139 : decode (mC 21) 139 = .ok (.iload_n 2, 1) := by decide +kernel
theorem d_X2_readNumber_140 : decode (mC 21) 140 = .ok (.if_icmp .le 12, 3) := by decide +kernel
theorem d_X2_readNumber_143 : decode (mC 21) 143 = .ok (.aload_n 0, 1) := by decide +kernel
theorem d_X2_readNumber_144 : decode (mC 21) 144 = .ok (.iconst 2, 1) := by decide +kernel
theorem d_X2_readNumber_145 : decode (mC 21) 145 = .ok (.aload_n 0, 1) := by decide +kernel
theorem d_X2_readNumber_146 : decode (mC 21) 146 = .ok (.getfield 112, 3) := by decide +kernel
theorem d_X2_readNumber_149 : decode (mC 21) 149 = .ok (.invokevirtual 64, 3) := by decide +kernel
theorem d_X2_readNumber_152 : decode (mC 21) 152 = .ok (.iload_n 3, 1) := by decide +kernel
theorem d_X2_readNumber_153 : decode (mC 21) 153 = .ok (.ireturn, 1) := by decide +kernel
theorem cv_21_33 : mn_cvt 21 2 33 23 = true := by decide +kernel
theorem fi_21_27 : mn_fi 21 2 27 2 2 = true := by decide +kernel
theorem fi_21_112 : mn_fi 21 2 112 2 3 = true := by decide +kernel
theorem fi_21_19 : mn_fi 21 2 19 2 1 = true := by decide +kernel
theorem fr_21_9 : mn_fr 21 2 9 2 0 = true := by decide +kernel
theorem cv_21_64 : mn_cvt 21 2 64 24 = true := by decide +kernel
theorem b_X2_readNumber_0 {x1 x2 : Int32} {h h' : mn_H} {r : Option Value} : mn_E 21 0 [.ref 1, .int x1, .int x2, .null] [] h r h' ↔ ∃ h1, mn_X 23 [.ref 1] h none h1 ∧ mn_E 21 4 [.ref 1, .int x1, .int x2, .null] [] h1 r h' :=
  (mX_aload_n d_X2_readNumber_0 rfl).trans <| mV_v (a := 1) (vs := []) (st' := []) d_X2_readNumber_1 cv_21_33 rfl (Nat.le_of_ble_eq_true rfl) rfl rfl rfl rfl
theorem b_X2_readNumber_4 {x1 x2 : Int32} {h h' : mn_H} {r : Option Value} : mn_E 21 4 [.ref 1, .int x1, .int x2, .null] [] h r h' ↔ mn_E 21 14 [.ref 1, .int x1, .int x2, .int 0] [] (mn_up h 1 3 (h 1 2)) r h' :=
  (mX_aload_n d_X2_readNumber_4 rfl).trans <| (mX_aload_n d_X2_readNumber_5 rfl).trans <| (mG_i d_X2_readNumber_6 fi_21_27 rfl (by decide)).trans <| (mP_i d_X2_readNumber_9 fi_21_112 rfl (by decide) rfl (Or.inl (by decide))).trans <| (mX_iconst d_X2_readNumber_12 ci_0).trans <| mX_istore_n (ls' := [.ref 1, .int x1, .int x2, .int 0]) d_X2_readNumber_13 rfl rfl
theorem b_X2_readNumber_14 {x1 x2 x3 : Int32} {h h' : mn_H} {r : Option Value} : mn_E 21 14 [.ref 1, .int x1, .int x2, .int x3] [] h r h' ↔ if (h 1 1) ≤ (h 1 2) then mn_E 21 97 [.ref 1, .int x1, .int x2, .int x3] [] h r h' else mn_E 21 25 [.ref 1, .int x1, .int x2, .int x3] [] h r h' :=
  (mX_aload_n d_X2_readNumber_14 rfl).trans <| (mG_i d_X2_readNumber_15 fi_21_27 rfl (by decide)).trans <| (mX_aload_n d_X2_readNumber_18 rfl).trans <| (mG_i d_X2_readNumber_19 fi_21_19 rfl (by decide)).trans <| mX_icmp_ge d_X2_readNumber_22 rfl
theorem b_X2_readNumber_25 {x1 x2 x3 : Int32} {h h' : mn_H} {r : Option Value} (hy0 : vp_in (h 1 2) 250) : mn_E 21 25 [.ref 1, .int x1, .int x2, .int x3] [] h r h' ↔ if (h 2 (h 1 2).toNatClampNeg) < 48 then mn_E 21 97 [.ref 1, .int x1, .int x2, .int x3] [] h r h' else mn_E 21 39 [.ref 1, .int x1, .int x2, .int x3] [] h r h' :=
  (mX_aload_n d_X2_readNumber_25 rfl).trans <| (mG_r (b := 2) d_X2_readNumber_26 fr_21_9 rfl (by decide) rfl).trans <| (mX_aload_n d_X2_readNumber_29 rfl).trans <| (mG_i d_X2_readNumber_30 fi_21_27 rfl (by decide)).trans <| (mX_iaload d_X2_readNumber_33 rfl (by decide) hy0).trans <| (mX_bipush d_X2_readNumber_34 cb_48).trans <| mX_icmp_lt d_X2_readNumber_36 rfl
theorem b_X2_readNumber_39 {x1 x2 x3 : Int32} {h h' : mn_H} {r : Option Value} (hy0 : vp_in (h 1 2) 250) : mn_E 21 39 [.ref 1, .int x1, .int x2, .int x3] [] h r h' ↔ if (57 : Int32) < (h 2 (h 1 2).toNatClampNeg) then mn_E 21 97 [.ref 1, .int x1, .int x2, .int x3] [] h r h' else mn_E 21 53 [.ref 1, .int x1, .int x2, .int x3] [] h r h' :=
  (mX_aload_n d_X2_readNumber_39 rfl).trans <| (mG_r (b := 2) d_X2_readNumber_40 fr_21_9 rfl (by decide) rfl).trans <| (mX_aload_n d_X2_readNumber_43 rfl).trans <| (mG_i d_X2_readNumber_44 fi_21_27 rfl (by decide)).trans <| (mX_iaload d_X2_readNumber_47 rfl (by decide) hy0).trans <| (mX_bipush d_X2_readNumber_48 cb_57).trans <| mX_icmp_gt d_X2_readNumber_50 rfl
theorem b_X2_readNumber_53 {x1 x2 x3 : Int32} {h h' : mn_H} {r : Option Value} : mn_E 21 53 [.ref 1, .int x1, .int x2, .int x3] [] h r h' ↔ if (3 : Int32) ≤ ((h 1 2) - (h 1 3)) then mn_E 21 84 [.ref 1, .int x1, .int x2, .int x3] [] h r h' else mn_E 21 66 [.ref 1, .int x1, .int x2, .int x3] [] h r h' :=
  (mX_aload_n d_X2_readNumber_53 rfl).trans <| (mG_i d_X2_readNumber_54 fi_21_27 rfl (by decide)).trans <| (mX_aload_n d_X2_readNumber_57 rfl).trans <| (mG_i d_X2_readNumber_58 fi_21_112 rfl (by decide)).trans <| (mX_isub d_X2_readNumber_61).trans <| (mX_iconst d_X2_readNumber_62 ci_3).trans <| mX_icmp_ge d_X2_readNumber_63 rfl
theorem b_X2_readNumber_66 {x1 x2 x3 : Int32} {h h' : mn_H} {r : Option Value} (hy0 : vp_in (h 1 2) 250) : mn_E 21 66 [.ref 1, .int x1, .int x2, .int x3] [] h r h' ↔ mn_E 21 84 [.ref 1, .int x1, .int x2, .int ((x3 * 10) + ((h 2 (h 1 2).toNatClampNeg) - 48))] [] h r h' :=
  (mX_iload_n d_X2_readNumber_66 rfl).trans <| (mX_bipush d_X2_readNumber_67 cb_10).trans <| (mX_imul d_X2_readNumber_69).trans <| (mX_aload_n d_X2_readNumber_70 rfl).trans <| (mG_r (b := 2) d_X2_readNumber_71 fr_21_9 rfl (by decide) rfl).trans <| (mX_aload_n d_X2_readNumber_74 rfl).trans <| (mG_i d_X2_readNumber_75 fi_21_27 rfl (by decide)).trans <| (mX_iaload d_X2_readNumber_78 rfl (by decide) hy0).trans <| (mX_bipush d_X2_readNumber_79 cb_48).trans <| (mX_isub d_X2_readNumber_81).trans <| (mX_iadd d_X2_readNumber_82).trans <| mX_istore_n (ls' := [.ref 1, .int x1, .int x2, .int ((x3 * 10) + ((h 2 (h 1 2).toNatClampNeg) - 48))]) d_X2_readNumber_83 rfl rfl
theorem b_X2_readNumber_84 {x1 x2 x3 : Int32} {h h' : mn_H} {r : Option Value} : mn_E 21 84 [.ref 1, .int x1, .int x2, .int x3] [] h r h' ↔ mn_E 21 14 [.ref 1, .int x1, .int x2, .int x3] [] (mn_up h 1 2 ((h 1 2) + 1)) r h' :=
  (mX_aload_n d_X2_readNumber_84 rfl).trans <| (mX_dup d_X2_readNumber_85 rfl).trans <| (mG_i d_X2_readNumber_86 fi_21_27 rfl (by decide)).trans <| (mX_iconst d_X2_readNumber_89 ci_1).trans <| (mX_iadd d_X2_readNumber_90).trans <| (mP_i d_X2_readNumber_91 fi_21_27 rfl (by decide) rfl (Or.inl (by decide))).trans <| mX_goto d_X2_readNumber_94 rfl
theorem b_X2_readNumber_97 {x1 x2 x3 : Int32} {h h' : mn_H} {r : Option Value} : mn_E 21 97 [.ref 1, .int x1, .int x2, .int x3] [] h r h' ↔ if ¬ (h 1 2) = (h 1 3) then mn_E 21 120 [.ref 1, .int x1, .int x2, .int x3] [] h r h' else mn_E 21 108 [.ref 1, .int x1, .int x2, .int x3] [] h r h' :=
  (mX_aload_n d_X2_readNumber_97 rfl).trans <| (mG_i d_X2_readNumber_98 fi_21_27 rfl (by decide)).trans <| (mX_aload_n d_X2_readNumber_101 rfl).trans <| (mG_i d_X2_readNumber_102 fi_21_112 rfl (by decide)).trans <| mX_icmp_ne d_X2_readNumber_105 rfl
theorem b_X2_readNumber_108 {x1 x2 x3 : Int32} {h h' : mn_H} {r : Option Value} : mn_E 21 108 [.ref 1, .int x1, .int x2, .int x3] [] h r h' ↔ ∃ h1, mn_X 24 [.ref 1, .int 1, .int (h 1 2)] h none h1 ∧ mn_E 21 117 [.ref 1, .int x1, .int x2, .int x3] [] h1 r h' :=
  (mX_aload_n d_X2_readNumber_108 rfl).trans <| (mX_iconst d_X2_readNumber_109 ci_1).trans <| (mX_aload_n d_X2_readNumber_110 rfl).trans <| (mG_i d_X2_readNumber_111 fi_21_27 rfl (by decide)).trans <| mV_v (a := 1) (vs := [.int 1, .int (h 1 2)]) (st' := []) d_X2_readNumber_114 cv_21_64 rfl (Nat.le_of_ble_eq_true rfl) rfl rfl rfl rfl
theorem b_X2_readNumber_117 {x1 x2 x3 : Int32} {h h' : mn_H} {r : Option Value} : mn_E 21 117 [.ref 1, .int x1, .int x2, .int x3] [] h r h' ↔ mn_E 21 152 [.ref 1, .int x1, .int x2, .int x3] [] h r h' :=
  mX_goto d_X2_readNumber_117 rfl
theorem b_X2_readNumber_120 {x1 x2 x3 : Int32} {h h' : mn_H} {r : Option Value} : mn_E 21 120 [.ref 1, .int x1, .int x2, .int x3] [] h r h' ↔ if (3 : Int32) < ((h 1 2) - (h 1 3)) then mn_E 21 143 [.ref 1, .int x1, .int x2, .int x3] [] h r h' else mn_E 21 133 [.ref 1, .int x1, .int x2, .int x3] [] h r h' :=
  (mX_aload_n d_X2_readNumber_120 rfl).trans <| (mG_i d_X2_readNumber_121 fi_21_27 rfl (by decide)).trans <| (mX_aload_n d_X2_readNumber_124 rfl).trans <| (mG_i d_X2_readNumber_125 fi_21_112 rfl (by decide)).trans <| (mX_isub d_X2_readNumber_128).trans <| (mX_iconst d_X2_readNumber_129 ci_3).trans <| mX_icmp_gt d_X2_readNumber_130 rfl
theorem b_X2_readNumber_133 {x1 x2 x3 : Int32} {h h' : mn_H} {r : Option Value} : mn_E 21 133 [.ref 1, .int x1, .int x2, .int x3] [] h r h' ↔ if x3 < x1 then mn_E 21 143 [.ref 1, .int x1, .int x2, .int x3] [] h r h' else mn_E 21 138 [.ref 1, .int x1, .int x2, .int x3] [] h r h' :=
  (mX_iload_n d_X2_readNumber_133 rfl).trans <| (mX_iload_n d_X2_readNumber_134 rfl).trans <| mX_icmp_lt d_X2_readNumber_135 rfl
theorem b_X2_readNumber_138 {x1 x2 x3 : Int32} {h h' : mn_H} {r : Option Value} : mn_E 21 138 [.ref 1, .int x1, .int x2, .int x3] [] h r h' ↔ if x3 ≤ x2 then mn_E 21 152 [.ref 1, .int x1, .int x2, .int x3] [] h r h' else mn_E 21 143 [.ref 1, .int x1, .int x2, .int x3] [] h r h' :=
  (mX_iload_n d_X2_readNumber_138 rfl).trans <| (mX_iload_n d_X2_readNumber_139 rfl).trans <| mX_icmp_le d_X2_readNumber_140 rfl
theorem b_X2_readNumber_143 {x1 x2 x3 : Int32} {h h' : mn_H} {r : Option Value} : mn_E 21 143 [.ref 1, .int x1, .int x2, .int x3] [] h r h' ↔ ∃ h1, mn_X 24 [.ref 1, .int 2, .int (h 1 3)] h none h1 ∧ mn_E 21 152 [.ref 1, .int x1, .int x2, .int x3] [] h1 r h' :=
  (mX_aload_n d_X2_readNumber_143 rfl).trans <| (mX_iconst d_X2_readNumber_144 ci_2).trans <| (mX_aload_n d_X2_readNumber_145 rfl).trans <| (mG_i d_X2_readNumber_146 fi_21_112 rfl (by decide)).trans <| mV_v (a := 1) (vs := [.int 2, .int (h 1 3)]) (st' := []) d_X2_readNumber_149 cv_21_64 rfl (Nat.le_of_ble_eq_true rfl) rfl rfl rfl rfl
theorem b_X2_readNumber_152 {x1 x2 x3 : Int32} {h h' : mn_H} {r : Option Value} : mn_E 21 152 [.ref 1, .int x1, .int x2, .int x3] [] h r h' ↔ r = some (.int x3) ∧ h' = h :=
  (mX_iload_n d_X2_readNumber_152 rfl).trans <| mX_iret d_X2_readNumber_153 rfl
-- X2_clauseEnds
theorem mo_22 : mO 22 = 2 := rfl
theorem d_X2_clauseEnds_0 : decode (mC 22) 0 = .ok (.aload_n 0, 1) := by decide +kernel
theorem d_X2_clauseEnds_1 : decode (mC 22) 1 = .ok (.invokevirtual 33, 3) := by decide +kernel
theorem d_X2_clauseEnds_4 : decode (mC 22) 4 = .ok (.aload_n 0, 1) := by decide +kernel
theorem d_X2_clauseEnds_5 : decode (mC 22) 5 = .ok (.getfield 27, 3) := by decide +kernel
theorem d_X2_clauseEnds_8 : decode (mC 22) 8 = .ok (.aload_n 0, 1) := by decide +kernel
theorem d_X2_clauseEnds_9 : decode (mC 22) 9 = .ok (.getfield 19, 3) := by decide +kernel
theorem d_X2_clauseEnds_12 : decode (mC 22) 12 = .ok (.if_icmp .ge 17, 3) := by decide +kernel
theorem d_X2_clauseEnds_15 : decode (mC 22) 15 = .ok (.aload_n 0, 1) := by decide +kernel
theorem d_X2_clauseEnds_16 : decode (mC 22) 16 = .ok (.getfield 9, 3) := by decide +kernel
theorem d_X2_clauseEnds_19 : decode (mC 22) 19 = .ok (.aload_n 0, 1) := by decide +kernel
theorem d_X2_clauseEnds_20 : decode (mC 22) 20 = .ok (.getfield 27, 3) := by decide +kernel
theorem d_X2_clauseEnds_23 : decode (mC 22) 23 = .ok (.iaload, 1) := by decide +kernel
theorem d_X2_clauseEnds_24 : decode (mC 22) 24 = .ok (.bipush 59, 2) := by decide +kernel
theorem d_X2_clauseEnds_26 : decode (mC 22) 26 = .ok (.if_icmp .eq 15, 3) := by decide +kernel
theorem d_X2_clauseEnds_29 : decode (mC 22) 29 = .ok (.aload_n 0, 1) := by decide +kernel
theorem d_X2_clauseEnds_30 : decode (mC 22) 30 = .ok (.iconst 1, 1) := by decide +kernel
theorem d_X2_clauseEnds_31 : decode (mC 22) 31 = .ok (.aload_n 0, 1) := by decide +kernel
theorem d_X2_clauseEnds_32 : decode (mC 22) 32 = .ok (.getfield 27, 3) := by decide +kernel
theorem d_X2_clauseEnds_35 : decode (mC 22) 35 = .ok (.invokevirtual 64, 3) := by decide +kernel
theorem d_X2_clauseEnds_38 : decode (mC 22) 38 = .ok (.goto 13, 3) := by decide +kernel
theorem d_X2_clauseEnds_41 : decode (mC 22) 41 = .ok (.aload_n 0, 1) := by decide +kernel
theorem d_X2_clauseEnds_42 : decode (mC 22) 42 = .ok (.dup, 1) := by decide +kernel
theorem d_X2_clauseEnds_43 : decode (mC 22) 43 = .ok (.getfield 27, 3) := by decide +kernel
theorem d_X2_clauseEnds_46 : decode (mC 22) 46 = .ok (.iconst 1, 1) := by decide +kernel
theorem d_X2_clauseEnds_47 : decode (mC 22) 47 = .ok (.iadd, 1) := by decide +kernel
theorem d_X2_clauseEnds_48 : decode (mC 22) 48 = .ok (.putfield 27, 3) := by decide +kernel
theorem d_X2_clauseEnds_51 : decode (mC 22) 51 = .ok (.aload_n 0, 1) := by decide +kernel
theorem d_X2_clauseEnds_52 : decode (mC 22) 52 = .ok (.getfield 30, 3) := by decide +kernel
theorem d_X2_clauseEnds_55 : decode (mC 22) 55 = .ok (.ifCond .ne 7, 3) := by decide +kernel
theorem d_X2_clauseEnds_58 : decode (mC 22) 58 = .ok (.iconst 1, 1) := by decide +kernel
theorem d_X2_clauseEnds_59 : decode (mC 22) 59 = .ok (.goto 4, 3) := by decide +kernel
theorem d_X2_clauseEnds_62 : decode (mC 22) 62 = .ok (.iconst 0, 1) := by decide +kernel
theorem d_X2_clauseEnds_63 : decode (mC 22) 63 = .ok (.ireturn, 1) := by decide +kernel
theorem cv_22_33 : mn_cvt 22 2 33 23 = true := by decide +kernel
theorem fi_22_27 : mn_fi 22 2 27 2 2 = true := by decide +kernel
theorem fi_22_19 : mn_fi 22 2 19 2 1 = true := by decide +kernel
theorem fr_22_9 : mn_fr 22 2 9 2 0 = true := by decide +kernel
theorem fi_22_30 : mn_fi 22 2 30 2 4 = true := by decide +kernel
theorem cv_22_64 : mn_cvt 22 2 64 24 = true := by decide +kernel
theorem b_X2_clauseEnds_0 {h h' : mn_H} {r : Option Value} : mn_E 22 0 [.ref 1] [] h r h' ↔ ∃ h1, mn_X 23 [.ref 1] h none h1 ∧ mn_E 22 4 [.ref 1] [] h1 r h' :=
  (mX_aload_n d_X2_clauseEnds_0 rfl).trans <| mV_v (a := 1) (vs := []) (st' := []) d_X2_clauseEnds_1 cv_22_33 rfl (Nat.le_of_ble_eq_true rfl) rfl rfl rfl rfl
theorem b_X2_clauseEnds_4 {h h' : mn_H} {r : Option Value} : mn_E 22 4 [.ref 1] [] h r h' ↔ if (h 1 1) ≤ (h 1 2) then mn_E 22 29 [.ref 1] [] h r h' else mn_E 22 15 [.ref 1] [] h r h' :=
  (mX_aload_n d_X2_clauseEnds_4 rfl).trans <| (mG_i d_X2_clauseEnds_5 fi_22_27 rfl (by decide)).trans <| (mX_aload_n d_X2_clauseEnds_8 rfl).trans <| (mG_i d_X2_clauseEnds_9 fi_22_19 rfl (by decide)).trans <| mX_icmp_ge d_X2_clauseEnds_12 rfl
theorem b_X2_clauseEnds_15 {h h' : mn_H} {r : Option Value} (hy0 : vp_in (h 1 2) 250) : mn_E 22 15 [.ref 1] [] h r h' ↔ if (h 2 (h 1 2).toNatClampNeg) = 59 then mn_E 22 41 [.ref 1] [] h r h' else mn_E 22 29 [.ref 1] [] h r h' :=
  (mX_aload_n d_X2_clauseEnds_15 rfl).trans <| (mG_r (b := 2) d_X2_clauseEnds_16 fr_22_9 rfl (by decide) rfl).trans <| (mX_aload_n d_X2_clauseEnds_19 rfl).trans <| (mG_i d_X2_clauseEnds_20 fi_22_27 rfl (by decide)).trans <| (mX_iaload d_X2_clauseEnds_23 rfl (by decide) hy0).trans <| (mX_bipush d_X2_clauseEnds_24 cb_59).trans <| mX_icmp_eq d_X2_clauseEnds_26 rfl
theorem b_X2_clauseEnds_29 {h h' : mn_H} {r : Option Value} : mn_E 22 29 [.ref 1] [] h r h' ↔ ∃ h1, mn_X 24 [.ref 1, .int 1, .int (h 1 2)] h none h1 ∧ mn_E 22 38 [.ref 1] [] h1 r h' :=
  (mX_aload_n d_X2_clauseEnds_29 rfl).trans <| (mX_iconst d_X2_clauseEnds_30 ci_1).trans <| (mX_aload_n d_X2_clauseEnds_31 rfl).trans <| (mG_i d_X2_clauseEnds_32 fi_22_27 rfl (by decide)).trans <| mV_v (a := 1) (vs := [.int 1, .int (h 1 2)]) (st' := []) d_X2_clauseEnds_35 cv_22_64 rfl (Nat.le_of_ble_eq_true rfl) rfl rfl rfl rfl
theorem b_X2_clauseEnds_38 {h h' : mn_H} {r : Option Value} : mn_E 22 38 [.ref 1] [] h r h' ↔ mn_E 22 51 [.ref 1] [] h r h' :=
  mX_goto d_X2_clauseEnds_38 rfl
theorem b_X2_clauseEnds_41 {h h' : mn_H} {r : Option Value} : mn_E 22 41 [.ref 1] [] h r h' ↔ mn_E 22 51 [.ref 1] [] (mn_up h 1 2 ((h 1 2) + 1)) r h' :=
  (mX_aload_n d_X2_clauseEnds_41 rfl).trans <| (mX_dup d_X2_clauseEnds_42 rfl).trans <| (mG_i d_X2_clauseEnds_43 fi_22_27 rfl (by decide)).trans <| (mX_iconst d_X2_clauseEnds_46 ci_1).trans <| (mX_iadd d_X2_clauseEnds_47).trans <| mP_i d_X2_clauseEnds_48 fi_22_27 rfl (by decide) rfl (Or.inl (by decide))
theorem b_X2_clauseEnds_51 {h h' : mn_H} {r : Option Value} : mn_E 22 51 [.ref 1] [] h r h' ↔ if ¬ (h 1 4) = 0 then mn_E 22 62 [.ref 1] [] h r h' else mn_E 22 58 [.ref 1] [] h r h' :=
  (mX_aload_n d_X2_clauseEnds_51 rfl).trans <| (mG_i d_X2_clauseEnds_52 fi_22_30 rfl (by decide)).trans <| mX_if_ne d_X2_clauseEnds_55 rfl
theorem b_X2_clauseEnds_58 {h h' : mn_H} {r : Option Value} : mn_E 22 58 [.ref 1] [] h r h' ↔ mn_E 22 63 [.ref 1] [.int 1] h r h' :=
  (mX_iconst d_X2_clauseEnds_58 ci_1).trans <| mX_goto d_X2_clauseEnds_59 rfl
theorem b_X2_clauseEnds_62 {h h' : mn_H} {r : Option Value} : mn_E 22 62 [.ref 1] [] h r h' ↔ mn_E 22 63 [.ref 1] [.int 0] h r h' :=
  mX_iconst d_X2_clauseEnds_62 ci_0
theorem b_X2_clauseEnds_63 {s0 : Int32} {h h' : mn_H} {r : Option Value} (hy0 : s0 = 0 ∨ s0 = 1) : mn_E 22 63 [.ref 1] [.int s0] h r h' ↔ r = some (.int s0) ∧ h' = h :=
  mX_zret d_X2_clauseEnds_63 rfl hy0
-- X2_skipBlanks
theorem mo_23 : mO 23 = 2 := rfl
theorem d_X2_skipBlanks_0 : decode (mC 23) 0 = .ok (.aload_n 0, 1) := by decide +kernel
theorem d_X2_skipBlanks_1 : decode (mC 23) 1 = .ok (.getfield 27, 3) := by decide +kernel
theorem d_X2_skipBlanks_4 : decode (mC 23) 4 = .ok (.aload_n 0, 1) := by decide +kernel
theorem d_X2_skipBlanks_5 : decode (mC 23) 5 = .ok (.getfield 19, 3) := by decide +kernel
theorem d_X2_skipBlanks_8 : decode (mC 23) 8 = .ok (.if_icmp .ge 30, 3) := by decide +kernel
theorem d_X2_skipBlanks_11 : decode (mC 23) 11 = .ok (.aload_n 0, 1) := by decide +kernel
theorem d_X2_skipBlanks_12 : decode (mC 23) 12 = .ok (.getfield 9, 3) := by decide +kernel
theorem d_X2_skipBlanks_15 : decode (mC 23) 15 = .ok (.aload_n 0, 1) := by decide +kernel
theorem d_X2_skipBlanks_16 : decode (mC 23) 16 = .ok (.getfield 27, 3) := by decide +kernel
theorem d_X2_skipBlanks_19 : decode (mC 23) 19 = .ok (.iaload, 1) := by decide +kernel
theorem d_X2_skipBlanks_20 : decode (mC 23) 20 = .ok (.bipush 32, 2) := by decide +kernel
theorem d_X2_skipBlanks_22 : decode (mC 23) 22 = .ok (.if_icmp .ne 16, 3) := by decide +kernel
theorem d_X2_skipBlanks_25 : decode (mC 23) 25 = .ok (.aload_n 0, 1) := by decide +kernel
theorem d_X2_skipBlanks_26 : decode (mC 23) 26 = .ok (.dup, 1) := by decide +kernel
theorem d_X2_skipBlanks_27 : decode (mC 23) 27 = .ok (.getfield 27, 3) := by decide +kernel
theorem d_X2_skipBlanks_30 : decode (mC 23) 30 = .ok (.iconst 1, 1) := by decide +kernel
theorem d_X2_skipBlanks_31 : decode (mC 23) 31 = .ok (.iadd, 1) := by decide +kernel
theorem d_X2_skipBlanks_32 : decode (mC 23) 32 = .ok (.putfield 27, 3) := by decide +kernel
theorem d_X2_skipBlanks_35 : decode (mC 23) 35 = .ok (.goto (-35), 3) := by decide +kernel
theorem d_X2_skipBlanks_38 : decode (mC 23) 38 = .ok (.return_, 1) := by decide +kernel
theorem fi_23_27 : mn_fi 23 2 27 2 2 = true := by decide +kernel
theorem fi_23_19 : mn_fi 23 2 19 2 1 = true := by decide +kernel
theorem fr_23_9 : mn_fr 23 2 9 2 0 = true := by decide +kernel
theorem b_X2_skipBlanks_0 {h h' : mn_H} {r : Option Value} : mn_E 23 0 [.ref 1] [] h r h' ↔ if (h 1 1) ≤ (h 1 2) then mn_E 23 38 [.ref 1] [] h r h' else mn_E 23 11 [.ref 1] [] h r h' :=
  (mX_aload_n d_X2_skipBlanks_0 rfl).trans <| (mG_i d_X2_skipBlanks_1 fi_23_27 rfl (by decide)).trans <| (mX_aload_n d_X2_skipBlanks_4 rfl).trans <| (mG_i d_X2_skipBlanks_5 fi_23_19 rfl (by decide)).trans <| mX_icmp_ge d_X2_skipBlanks_8 rfl
theorem b_X2_skipBlanks_11 {h h' : mn_H} {r : Option Value} (hy0 : vp_in (h 1 2) 250) : mn_E 23 11 [.ref 1] [] h r h' ↔ if ¬ (h 2 (h 1 2).toNatClampNeg) = 32 then mn_E 23 38 [.ref 1] [] h r h' else mn_E 23 25 [.ref 1] [] h r h' :=
  (mX_aload_n d_X2_skipBlanks_11 rfl).trans <| (mG_r (b := 2) d_X2_skipBlanks_12 fr_23_9 rfl (by decide) rfl).trans <| (mX_aload_n d_X2_skipBlanks_15 rfl).trans <| (mG_i d_X2_skipBlanks_16 fi_23_27 rfl (by decide)).trans <| (mX_iaload d_X2_skipBlanks_19 rfl (by decide) hy0).trans <| (mX_bipush d_X2_skipBlanks_20 cb_32).trans <| mX_icmp_ne d_X2_skipBlanks_22 rfl
theorem b_X2_skipBlanks_25 {h h' : mn_H} {r : Option Value} : mn_E 23 25 [.ref 1] [] h r h' ↔ mn_E 23 0 [.ref 1] [] (mn_up h 1 2 ((h 1 2) + 1)) r h' :=
  (mX_aload_n d_X2_skipBlanks_25 rfl).trans <| (mX_dup d_X2_skipBlanks_26 rfl).trans <| (mG_i d_X2_skipBlanks_27 fi_23_27 rfl (by decide)).trans <| (mX_iconst d_X2_skipBlanks_30 ci_1).trans <| (mX_iadd d_X2_skipBlanks_31).trans <| (mP_i d_X2_skipBlanks_32 fi_23_27 rfl (by decide) rfl (Or.inl (by decide))).trans <| mX_goto d_X2_skipBlanks_35 rfl
theorem b_X2_skipBlanks_38 {h h' : mn_H} {r : Option Value} : mn_E 23 38 [.ref 1] [] h r h' ↔ r = none ∧ h' = h :=
  mX_vret d_X2_skipBlanks_38 rfl
-- X2_blame
theorem mo_24 : mO 24 = 2 := rfl
theorem d_X2_blame_0 : decode (mC 24) 0 = .ok (.aload_n 0, 1) := by decide +kernel
theorem d_X2_blame_1 : decode (mC 24) 1 = .ok (.getfield 30, 3) := by decide +kernel
theorem d_X2_blame_4 : decode (mC 24) 4 = .ok (.ifCond .ne 13, 3) := by decide +kernel
theorem d_X2_blame_7 : decode (mC 24) 7 = .ok (.aload_n 0, 1) := by decide +kernel
theorem d_X2_blame_8 : decode (mC 24) 8 = .ok (.iload_n 1, 1) := by decide +kernel
theorem d_X2_blame_9 : decode (mC 24) 9 = .ok (.putfield 30, 3) := by decide +kernel
theorem d_X2_blame_12 : decode (mC 24) 12 = .ok (.aload_n 0, 1) := by decide +kernel
theorem d_X2_blame_13 : decode (mC 24) 13 = .ok (.iload_n 2, 1) := by decide +kernel
theorem d_X2_blame_14 : decode (mC 24) 14 = .ok (.putfield 15, 3) := by decide +kernel
theorem d_X2_blame_17 : decode (mC 24) 17 = .ok (.return_, 1) := by decide +kernel
theorem fi_24_30 : mn_fi 24 2 30 2 4 = true := by decide +kernel
theorem fi_24_15 : mn_fi 24 2 15 2 5 = true := by decide +kernel
theorem b_X2_blame_0 {x1 x2 : Int32} {h h' : mn_H} {r : Option Value} : mn_E 24 0 [.ref 1, .int x1, .int x2] [] h r h' ↔ if ¬ (h 1 4) = 0 then mn_E 24 17 [.ref 1, .int x1, .int x2] [] h r h' else mn_E 24 7 [.ref 1, .int x1, .int x2] [] h r h' :=
  (mX_aload_n d_X2_blame_0 rfl).trans <| (mG_i d_X2_blame_1 fi_24_30 rfl (by decide)).trans <| mX_if_ne d_X2_blame_4 rfl
theorem b_X2_blame_7 {x1 x2 : Int32} {h h' : mn_H} {r : Option Value} : mn_E 24 7 [.ref 1, .int x1, .int x2] [] h r h' ↔ mn_E 24 17 [.ref 1, .int x1, .int x2] [] (mn_up (mn_up h 1 4 x1) 1 5 x2) r h' :=
  (mX_aload_n d_X2_blame_7 rfl).trans <| (mX_iload_n d_X2_blame_8 rfl).trans <| (mP_i d_X2_blame_9 fi_24_30 rfl (by decide) rfl (Or.inl (by decide))).trans <| (mX_aload_n d_X2_blame_12 rfl).trans <| (mX_iload_n d_X2_blame_13 rfl).trans <| mP_i d_X2_blame_14 fi_24_15 rfl (by decide) rfl (Or.inl (by decide))
theorem b_X2_blame_17 {x1 x2 : Int32} {h h' : mn_H} {r : Option Value} : mn_E 24 17 [.ref 1, .int x1, .int x2] [] h r h' ↔ r = none ∧ h' = h :=
  mX_vret d_X2_blame_17 rfl
-- X3_countOf
theorem mo_25 : mO 25 = 3 := rfl
theorem d_X3_countOf_0 : decode (mC 25) 0 = .ok (.aload_n 0, 1) := by decide +kernel
theorem d_X3_countOf_1 : decode (mC 25) 1 = .ok (.getfield 9, 3) := by decide +kernel
theorem d_X3_countOf_4 : decode (mC 25) 4 = .ok (.iload_n 1, 1) := by decide +kernel
theorem d_X3_countOf_5 : decode (mC 25) 5 = .ok (.iaload, 1) := by decide +kernel
theorem d_X3_countOf_6 : decode (mC 25) 6 = .ok (.ireturn, 1) := by decide +kernel
theorem fr_25_9 : mn_fr 25 3 9 3 0 = true := by decide +kernel
theorem b_X3_countOf_0 {x1 : Int32} {h h' : mn_H} {r : Option Value} (hy0 : vp_in x1 5) : mn_E 25 0 [.ref 10, .int x1] [] h r h' ↔ r = some (.int (h 11 x1.toNatClampNeg)) ∧ h' = h :=
  (mX_aload_n d_X3_countOf_0 rfl).trans <| (mG_r (b := 11) d_X3_countOf_1 fr_25_9 rfl (by decide) rfl).trans <| (mX_iload_n d_X3_countOf_4 rfl).trans <| (mX_iaload d_X3_countOf_5 rfl (by decide) hy0).trans <| mX_iret d_X3_countOf_6 rfl
-- X3_countAll
theorem mo_26 : mO 26 = 3 := rfl
theorem d_X3_countAll_0 : decode (mC 26) 0 = .ok (.iconst 0, 1) := by decide +kernel
theorem d_X3_countAll_1 : decode (mC 26) 1 = .ok (.istore_n 1, 1) := by decide +kernel
theorem d_X3_countAll_2 : decode (mC 26) 2 = .ok (.iconst 0, 1) := by decide +kernel
theorem d_X3_countAll_3 : decode (mC 26) 3 = .ok (.istore_n 2, 1) := by decide +kernel
theorem d_X3_countAll_4 : decode (mC 26) 4 = .ok (.iload_n 2, 1) := by decide +kernel
theorem d_X3_countAll_5 : decode (mC 26) 5 = .ok (.iconst 5, 1) := by decide +kernel
theorem d_X3_countAll_6 : decode (mC 26) 6 = .ok (.if_icmp .ge 18, 3) := by decide +kernel
theorem d_X3_countAll_9 : decode (mC 26) 9 = .ok (.iload_n 1, 1) := by decide +kernel
theorem d_X3_countAll_10 : decode (mC 26) 10 = .ok (.aload_n 0, 1) := by decide +kernel
theorem d_X3_countAll_11 : decode (mC 26) 11 = .ok (.getfield 9, 3) := by decide +kernel
theorem d_X3_countAll_14 : decode (mC 26) 14 = .ok (.iload_n 2, 1) := by decide +kernel
theorem d_X3_countAll_15 : decode (mC 26) 15 = .ok (.iaload, 1) := by decide +kernel
theorem d_X3_countAll_16 : decode (mC 26) 16 = .ok (.iadd, 1) := by decide +kernel
theorem d_X3_countAll_17 : decode (mC 26) 17 = .ok (.istore_n 1, 1) := by decide +kernel
theorem d_X3_countAll_18 : decode (mC 26) 18 = .ok (.iinc 2 1, 3) := by decide +kernel
theorem d_X3_countAll_21 : decode (mC 26) 21 = .ok (.goto (-17), 3) := by decide +kernel
theorem d_X3_countAll_24 : decode (mC 26) 24 = .ok (.iload_n 1, 1) := by decide +kernel
theorem d_X3_countAll_25 : decode (mC 26) 25 = .ok (.ireturn, 1) := by decide +kernel
theorem fr_26_9 : mn_fr 26 3 9 3 0 = true := by decide +kernel
theorem b_X3_countAll_0 {h h' : mn_H} {r : Option Value} : mn_E 26 0 [.ref 10, .null, .null] [] h r h' ↔ mn_E 26 4 [.ref 10, .int 0, .int 0] [] h r h' :=
  (mX_iconst d_X3_countAll_0 ci_0).trans <| (mX_istore_n (ls' := [.ref 10, .int 0, .null]) d_X3_countAll_1 rfl rfl).trans <| (mX_iconst d_X3_countAll_2 ci_0).trans <| mX_istore_n (ls' := [.ref 10, .int 0, .int 0]) d_X3_countAll_3 rfl rfl
theorem b_X3_countAll_4 {x1 x2 : Int32} {h h' : mn_H} {r : Option Value} : mn_E 26 4 [.ref 10, .int x1, .int x2] [] h r h' ↔ if (5 : Int32) ≤ x2 then mn_E 26 24 [.ref 10, .int x1, .int x2] [] h r h' else mn_E 26 9 [.ref 10, .int x1, .int x2] [] h r h' :=
  (mX_iload_n d_X3_countAll_4 rfl).trans <| (mX_iconst d_X3_countAll_5 ci_5).trans <| mX_icmp_ge d_X3_countAll_6 rfl
theorem b_X3_countAll_9 {x1 x2 : Int32} {h h' : mn_H} {r : Option Value} (hy0 : vp_in x2 5) : mn_E 26 9 [.ref 10, .int x1, .int x2] [] h r h' ↔ mn_E 26 4 [.ref 10, .int (x1 + (h 11 x2.toNatClampNeg)), .int (x2 + 1)] [] h r h' :=
  (mX_iload_n d_X3_countAll_9 rfl).trans <| (mX_aload_n d_X3_countAll_10 rfl).trans <| (mG_r (b := 11) d_X3_countAll_11 fr_26_9 rfl (by decide) rfl).trans <| (mX_iload_n d_X3_countAll_14 rfl).trans <| (mX_iaload d_X3_countAll_15 rfl (by decide) hy0).trans <| (mX_iadd d_X3_countAll_16).trans <| (mX_istore_n (ls' := [.ref 10, .int (x1 + (h 11 x2.toNatClampNeg)), .int x2]) d_X3_countAll_17 rfl rfl).trans <| (mX_iinc (ls' := [.ref 10, .int (x1 + (h 11 x2.toNatClampNeg)), .int (x2 + 1)]) d_X3_countAll_18 rfl ci_1 rfl rfl).trans <| mX_goto d_X3_countAll_21 rfl
theorem b_X3_countAll_24 {x1 x2 : Int32} {h h' : mn_H} {r : Option Value} : mn_E 26 24 [.ref 10, .int x1, .int x2] [] h r h' ↔ r = some (.int x1) ∧ h' = h :=
  (mX_iload_n d_X3_countAll_24 rfl).trans <| mX_iret d_X3_countAll_25 rfl
-- X3_forgetAll
theorem mo_27 : mO 27 = 3 := rfl
theorem d_X3_forgetAll_0 : decode (mC 27) 0 = .ok (.aload_n 0, 1) := by decide +kernel
theorem d_X3_forgetAll_1 : decode (mC 27) 1 = .ok (.getfield 9, 3) := by decide +kernel
theorem d_X3_forgetAll_4 : decode (mC 27) 4 = .ok (.iconst 0, 1) := by decide +kernel
theorem d_X3_forgetAll_5 : decode (mC 27) 5 = .ok (.invokestatic 28, 3) := by decide +kernel
theorem d_X3_forgetAll_8 : decode (mC 27) 8 = .ok (.return_, 1) := by decide +kernel
theorem fr_27_9 : mn_fr 27 3 9 3 0 = true := by decide +kernel
theorem cs_27_28 : mn_cs 27 3 28 192 = true := by decide +kernel
theorem b_X3_forgetAll_0 {h h' : mn_H} {r : Option Value} : mn_E 27 0 [.ref 10] [] h r h' ↔ ∃ h1, mn_X 192 [.ref 11, .int 0] h none h1 ∧ mn_E 27 8 [.ref 10] [] h1 r h' :=
  (mX_aload_n d_X3_forgetAll_0 rfl).trans <| (mG_r (b := 11) d_X3_forgetAll_1 fr_27_9 rfl (by decide) rfl).trans <| (mX_iconst d_X3_forgetAll_4 ci_0).trans <| mS_v (vs := [.ref 11, .int 0]) (st' := []) d_X3_forgetAll_5 cs_27_28 rfl (Nat.le_of_ble_eq_true rfl) rfl rfl rfl
theorem b_X3_forgetAll_8 {h h' : mn_H} {r : Option Value} : mn_E 27 8 [.ref 10] [] h r h' ↔ r = none ∧ h' = h :=
  mX_vret d_X3_forgetAll_8 rfl
-- X3_add
theorem mo_28 : mO 28 = 3 := rfl
theorem d_X3_add_0 : decode (mC 28) 0 = .ok (.aload_n 0, 1) := by decide +kernel
theorem d_X3_add_1 : decode (mC 28) 1 = .ok (.getfield 9, 3) := by decide +kernel
theorem d_X3_add_4 : decode (mC 28) 4 = .ok (.iload_n 1, 1) := by decide +kernel
theorem d_X3_add_5 : decode (mC 28) 5 = .ok (.iaload, 1) := by decide +kernel
theorem d_X3_add_6 : decode (mC 28) 6 = .ok (.bipush 12, 2) := by decide +kernel
theorem d_X3_add_8 : decode (mC 28) 8 = .ok (.if_icmp .lt 5, 3) := by decide +kernel
theorem d_X3_add_11 : decode (mC 28) 11 = .ok (.iconst 0, 1) := by decide +kernel
theorem d_X3_add_12 : decode (mC 28) 12 = .ok (.ireturn, 1) := by decide +kernel
theorem d_X3_add_13 : decode (mC 28) 13 = .ok (.iload_n 1, 1) := by decide +kernel
theorem d_X3_add_14 : decode (mC 28) 14 = .ok (.bipush 12, 2) := by decide +kernel
theorem d_X3_add_16 : decode (mC 28) 16 = .ok (.imul, 1) := by decide +kernel
theorem d_X3_add_17 : decode (mC 28) 17 = .ok (.aload_n 0, 1) := by decide +kernel
theorem d_X3_add_18 : decode (mC 28) 18 = .ok (.getfield 9, 3) := by decide +kernel
theorem d_X3_add_21 : decode (mC 28) 21 = .ok (.iload_n 1, 1) := by decide +kernel
theorem d_X3_add_22 : decode (mC 28) 22 = .ok (.iaload, 1) := by decide +kernel
theorem d_X3_add_23 : decode (mC 28) 23 = .ok (.iadd, 1) := by decide +kernel
theorem d_X3_add_24 : decode (mC 28) 24 = .ok (.istore 5, 2) := by decide +kernel
theorem d_X3_add_26 : decode (mC 28) 26 = .ok (.aload_n 0, 1) := by decide +kernel
theorem d_X3_add_27 : decode (mC 28) 27 = .ok (.getfield 15, 3) := by decide +kernel
theorem d_X3_add_30 : decode (mC 28) 30 = .ok (.iload 5, 2) := by decide +kernel
theorem d_X3_add_32 : decode (mC 28) 32 = .ok (.iload_n 2, 1) := by decide +kernel
theorem d_X3_add_33 : decode (mC 28) 33 = .ok (.bastore, 1) := by decide +kernel
theorem d_X3_add_34 : decode (mC 28) 34 = .ok (.aload_n 0, 1) := by decide +kernel
theorem d_X3_add_35 : decode (mC 28) 35 = .ok (.getfield 19, 3) := by decide +kernel
theorem d_X3_add_38 : decode (mC 28) 38 = .ok (.iload 5, 2) := by decide +kernel
theorem d_X3_add_40 : decode (mC 28) 40 = .ok (.iload_n 3, 1) := by decide +kernel
theorem d_X3_add_41 : decode (mC 28) 41 = .ok (.iastore, 1) := by decide +kernel
theorem d_X3_add_42 : decode (mC 28) 42 = .ok (.aload_n 0, 1) := by decide +kernel
theorem d_X3_add_43 : decode (mC 28) 43 = .ok (.getfield 22, 3) := by decide +kernel
theorem d_X3_add_46 : decode (mC 28) 46 = .ok (.iload 5, 2) := by decide +kernel
theorem d_X3_add_48 : decode (mC 28) 48 = .ok (.iload 4, 2) := by decide +kernel
theorem d_X3_add_50 : decode (mC 28) 50 = .ok (.iastore, 1) := by decide +kernel
theorem d_X3_add_51 : decode (mC 28) 51 = .ok (.aload_n 0, 1) := by decide +kernel
theorem d_X3_add_52 : decode (mC 28) 52 = .ok (.getfield 9, 3) := by decide +kernel
theorem d_X3_add_55 : decode (mC 28) 55 = .ok (.iload_n 1, 1) := by decide +kernel
theorem d_X3_add_56 : decode (mC 28) 56 = .ok (.dup2, 1) := by decide +kernel
theorem d_X3_add_57 : decode (mC 28) 57 = .ok (.iaload, 1) := by decide +kernel
theorem d_X3_add_58 : decode (mC 28) 58 = .ok (.iconst 1, 1) := by decide +kernel
theorem d_X3_add_59 : decode (mC 28) 59 = .ok (.iadd, 1) := by decide +kernel
theorem d_X3_add_60 : decode (mC 28) 60 = .ok (.iastore, 1) := by decide +kernel
theorem d_X3_add_61 : decode (mC 28) 61 = .ok (.iconst 1, 1) := by decide +kernel
theorem d_X3_add_62 : decode (mC 28) 62 = .ok (.ireturn, 1) := by decide +kernel
theorem fr_28_9 : mn_fr 28 3 9 3 0 = true := by decide +kernel
theorem fr_28_15 : mn_fr 28 3 15 3 1 = true := by decide +kernel
theorem fr_28_19 : mn_fr 28 3 19 3 2 = true := by decide +kernel
theorem fr_28_22 : mn_fr 28 3 22 3 3 = true := by decide +kernel
theorem b_X3_add_0 {x1 x2 x3 x4 : Int32} {h h' : mn_H} {r : Option Value} (hy0 : vp_in x1 5) : mn_E 28 0 [.ref 10, .int x1, .int x2, .int x3, .int x4, .null] [] h r h' ↔ if (h 11 x1.toNatClampNeg) < 12 then mn_E 28 13 [.ref 10, .int x1, .int x2, .int x3, .int x4, .null] [] h r h' else mn_E 28 11 [.ref 10, .int x1, .int x2, .int x3, .int x4, .null] [] h r h' :=
  (mX_aload_n d_X3_add_0 rfl).trans <| (mG_r (b := 11) d_X3_add_1 fr_28_9 rfl (by decide) rfl).trans <| (mX_iload_n d_X3_add_4 rfl).trans <| (mX_iaload d_X3_add_5 rfl (by decide) hy0).trans <| (mX_bipush d_X3_add_6 cb_12).trans <| mX_icmp_lt d_X3_add_8 rfl
theorem b_X3_add_11 {x1 x2 x3 x4 : Int32} {h h' : mn_H} {r : Option Value} : mn_E 28 11 [.ref 10, .int x1, .int x2, .int x3, .int x4, .null] [] h r h' ↔ r = some (.int 0) ∧ h' = h :=
  (mX_iconst d_X3_add_11 ci_0).trans <| mX_zret d_X3_add_12 rfl (by decide)
theorem b_X3_add_13 {x1 x2 x3 x4 : Int32} {h h' : mn_H} {r : Option Value} (hy0 : vp_in x1 5) (hy1 : x2 = 0 ∨ x2 = 1) (hy2 : vp_in ((x1 * 12) + (h 11 x1.toNatClampNeg)) 60) : mn_E 28 13 [.ref 10, .int x1, .int x2, .int x3, .int x4, .null] [] h r h' ↔ r = some (.int 1) ∧ h' = mn_up (mn_up (mn_up (mn_up h 12 (((x1 * 12) + (h 11 x1.toNatClampNeg)).toNatClampNeg) x2) 13 (((x1 * 12) + (h 11 x1.toNatClampNeg)).toNatClampNeg) x3) 14 (((x1 * 12) + (h 11 x1.toNatClampNeg)).toNatClampNeg) x4) 11 (x1.toNatClampNeg) (((mn_up (mn_up (mn_up h 12 (((x1 * 12) + (h 11 x1.toNatClampNeg)).toNatClampNeg) x2) 13 (((x1 * 12) + (h 11 x1.toNatClampNeg)).toNatClampNeg) x3) 14 (((x1 * 12) + (h 11 x1.toNatClampNeg)).toNatClampNeg) x4) 11 x1.toNatClampNeg) + 1) :=
  (mX_iload_n d_X3_add_13 rfl).trans <| (mX_bipush d_X3_add_14 cb_12).trans <| (mX_imul d_X3_add_16).trans <| (mX_aload_n d_X3_add_17 rfl).trans <| (mG_r (b := 11) d_X3_add_18 fr_28_9 rfl (by decide) rfl).trans <| (mX_iload_n d_X3_add_21 rfl).trans <| (mX_iaload d_X3_add_22 rfl (by decide) hy0).trans <| (mX_iadd d_X3_add_23).trans <| (mX_istore (ls' := [.ref 10, .int x1, .int x2, .int x3, .int x4, .int ((x1 * 12) + (h 11 x1.toNatClampNeg))]) d_X3_add_24 rfl rfl).trans <| (mX_aload_n d_X3_add_26 rfl).trans <| (mG_r (b := 12) d_X3_add_27 fr_28_15 rfl (by decide) rfl).trans <| (mX_iload d_X3_add_30 rfl).trans <| (mX_iload_n d_X3_add_32 rfl).trans <| (mX_bastore d_X3_add_33 rfl (by decide) hy2 hy1).trans <| (mX_aload_n d_X3_add_34 rfl).trans <| (mG_r (b := 13) d_X3_add_35 fr_28_19 rfl (by decide) rfl).trans <| (mX_iload d_X3_add_38 rfl).trans <| (mX_iload_n d_X3_add_40 rfl).trans <| (mX_iastore d_X3_add_41 rfl (by decide) hy2).trans <| (mX_aload_n d_X3_add_42 rfl).trans <| (mG_r (b := 14) d_X3_add_43 fr_28_22 rfl (by decide) rfl).trans <| (mX_iload d_X3_add_46 rfl).trans <| (mX_iload d_X3_add_48 rfl).trans <| (mX_iastore d_X3_add_50 rfl (by decide) hy2).trans <| (mX_aload_n d_X3_add_51 rfl).trans <| (mG_r (b := 11) d_X3_add_52 fr_28_9 rfl (by decide) rfl).trans <| (mX_iload_n d_X3_add_55 rfl).trans <| (mX_dup2 d_X3_add_56 ⟨rfl, rfl⟩).trans <| (mX_iaload d_X3_add_57 rfl (by decide) hy0).trans <| (mX_iconst d_X3_add_58 ci_1).trans <| (mX_iadd d_X3_add_59).trans <| (mX_iastore d_X3_add_60 rfl (by decide) hy0).trans <| (mX_iconst d_X3_add_61 ci_1).trans <| mX_zret d_X3_add_62 rfl (by decide)
-- X3_findSigns
theorem mo_29 : mO 29 = 3 := rfl
theorem d_X3_findSigns_0 : decode (mC 29) 0 = .ok (.aload_n 0, 1) := by decide +kernel
theorem d_X3_findSigns_1 : decode (mC 29) 1 = .ok (.iconst 0, 1) := by decide +kernel
theorem d_X3_findSigns_2 : decode (mC 29) 2 = .ok (.putfield 34, 3) := by decide +kernel
theorem d_X3_findSigns_5 : decode (mC 29) 5 = .ok (.iconst 0, 1) := by decide +kernel
theorem d_X3_findSigns_6 : decode (mC 29) 6 = .ok (.istore_n 2, 1) := by decide +kernel
theorem d_X3_findSigns_7 : decode (mC 29) 7 = .ok (.iload_n 2, 1) := by decide +kernel
theorem d_X3_findSigns_8 : decode (mC 29) 8 = .ok (.iconst 5, 1) := by decide +kernel
theorem d_X3_findSigns_9 : decode (mC 29) 9 = .ok (.if_icmp .ge 130, 3) := by decide +kernel
theorem d_X3_findSigns_12 : decode (mC 29) 12 = .ok (.iload_n 2, 1) := by decide +kernel
theorem d_X3_findSigns_13 : decode (mC 29) 13 = .ok (.iconst 2, 1) := by decide +kernel
theorem d_X3_findSigns_14 : decode (mC 29) 14 = .ok (.if_icmp .eq 8, 3) := by decide +kernel
theorem d_X3_findSigns_17 : decode (mC 29) 17 = .ok (.iload_n 2, 1) := by decide +kernel
theorem d_X3_findSigns_18 : decode (mC 29) 18 = .ok (.iconst 3, 1) := by decide +kernel
theorem d_X3_findSigns_19 : decode (mC 29) 19 = .ok (.if_icmp .ne 7, 3) := by decide +kernel
theorem d_X3_findSigns_22 : decode (mC 29) 22 = .ok (.iconst 1, 1) := by decide +kernel
theorem d_X3_findSigns_23 : decode (mC 29) 23 = .ok (.goto 4, 3) := by decide +kernel
theorem d_X3_findSigns_26 : decode (mC 29) 26 = .ok (.iconst 0, 1) := by decide +kernel
theorem d_X3_findSigns_27 : decode (mC 29) 27 = .ok (.istore_n 3, 1) := by decide +kernel
theorem d_X3_findSigns_28 : decode (mC 29) 28 = .ok (.iconst 0, 1) := by decide +kernel
theorem d_X3_findSigns_29 : decode (mC 29) 29 = .ok (.istore 4, 2) := by decide +kernel
theorem d_X3_findSigns_31 : decode (mC 29) 31 = .ok (.iload 4, 2) := by decide +kernel
theorem d_X3_findSigns_33 : decode (mC 29) 33 = .ok (.bipush 6, 2) := by decide +kernel
theorem d_X3_findSigns_35 : decode (mC 29) 35 = .ok (.if_icmp .ge 98, 3) := by decide +kernel
theorem d_X3_findSigns_38 : decode (mC 29) 38 = .ok (.iload_n 3, 1) := by decide +kernel
theorem d_X3_findSigns_39 : decode (mC 29) 39 = .ok (.ifCond .eq 10, 3) := by decide +kernel
theorem d_X3_findSigns_42 : decode (mC 29) 42 = .ok (.iload 4, 2) := by decide +kernel
theorem d_X3_findSigns_44 : decode (mC 29) 44 = .ok (.iconst 1, 1) := by decide +kernel
theorem d_X3_findSigns_45 : decode (mC 29) 45 = .ok (.iadd, 1) := by decide +kernel
theorem d_X3_findSigns_46 : decode (mC 29) 46 = .ok (.goto 4, 3) := by decide +kernel
theorem d_X3_findSigns_49 : decode (mC 29) 49 = .ok (.iconst 0, 1) := by decide +kernel
theorem d_X3_findSigns_50 : decode (mC 29) 50 = .ok (.istore 5, 2) := by decide +kernel
theorem d_X3_findSigns_52 : decode (mC 29) 52 = .ok (.iload 5, 2) := by decide +kernel
theorem d_X3_findSigns_54 : decode (mC 29) 54 = .ok (.iload_n 3, 1) := by decide +kernel
theorem d_X3_findSigns_55 : decode (mC 29) 55 = .ok (.ifCond .eq 8, 3) := by decide +kernel
theorem d_X3_findSigns_58 : decode (mC 29) 58 = .ok (.bipush 6, 2) := by decide +kernel
theorem d_X3_findSigns_60 : decode (mC 29) 60 = .ok (.goto 4, 3) := by decide +kernel
theorem d_X3_findSigns_63 : decode (mC 29) 63 = .ok (.iconst 1, 1) := by decide +kernel
theorem d_X3_findSigns_64 : decode (mC 29) 64 = .ok (.if_icmp .ge 63, 3) := by decide +kernel
theorem d_X3_findSigns_67 : decode (mC 29) 67 = .ok (.aload_n 0, 1) := by decide +kernel
theorem d_X3_findSigns_68 : decode (mC 29) 68 = .ok (.iload_n 1, 1) := by decide +kernel
theorem d_X3_findSigns_69 : decode (mC 29) 69 = .ok (.iload_n 2, 1) := by decide +kernel
theorem d_X3_findSigns_70 : decode (mC 29) 70 = .ok (.iload 4, 2) := by decide +kernel
theorem d_X3_findSigns_72 : decode (mC 29) 72 = .ok (.iload 5, 2) := by decide +kernel
theorem d_X3_findSigns_74 : decode (mC 29) 74 = .ok (.invokevirtual 38, 3) := by decide +kernel
theorem d_X3_findSigns_77 : decode (mC 29) 77 = .ok (.ifCond .eq 44, 3) := by decide +kernel
theorem d_X3_findSigns_80 : decode (mC 29) 80 = .ok (.aload_n 0, 1) := by decide +kernel
theorem d_X3_findSigns_81 : decode (mC 29) 81 = .ok (.getfield 34, 3) := by decide +kernel
theorem d_X3_findSigns_84 : decode (mC 29) 84 = .ok (.bipush 48, 2) := by decide +kernel
theorem d_X3_findSigns_86 : decode (mC 29) 86 = .ok (.if_icmp .ge 35, 3) := by decide +kernel
theorem d_X3_findSigns_89 : decode (mC 29) 89 = .ok (.aload_n 0, 1) := by decide +kernel
theorem d_X3_findSigns_90 : decode (mC 29) 90 = .ok (.getfield 25, 3) := by decide +kernel
theorem d_X3_findSigns_93 : decode (mC 29) 93 = .ok (.aload_n 0, 1) := by decide +kernel
theorem d_X3_findSigns_94 : decode (mC 29) 94 = .ok (.getfield 34, 3) := by decide +kernel
theorem d_X3_findSigns_97 : decode (mC 29) 97 = .ok (.bipush 100, 2) := by decide +kernel
theorem d_X3_findSigns_99 : decode (mC 29) 99 = .ok (.iload_n 2, 1) := by decide +kernel
theorem d_X3_findSigns_100 : decode (mC 29) 100 = .ok (.imul, 1) := by decide +kernel
theorem d_X3_findSigns_101 : decode (mC 29) 101 = .ok (.bipush 10, 2) := by decide +kernel
theorem d_X3_findSigns_103 : decode (mC 29) 103 = .ok (.iload 4, 2) := by decide +kernel
theorem d_X3_findSigns_105 : decode (mC 29) 105 = .ok (.imul, 1) := by decide +kernel
theorem d_X3_findSigns_106 : decode (mC 29) 106 = .ok (.iadd, 1) := by decide +kernel
theorem d_X3_findSigns_107 : decode (mC 29) 107 = .ok (.iload 5, 2) := by decide +kernel
theorem d_X3_findSigns_109 : decode (mC 29) 109 = .ok (.iadd, 1) := by decide +kernel
theorem d_X3_findSigns_110 : decode (mC 29) 110 = .ok (.iastore, 1) := by decide +kernel
theorem d_X3_findSigns_111 : decode (mC 29) 111 = .ok (.aload_n 0, 1) := by decide +kernel
theorem d_X3_findSigns_112 : decode (mC 29) 112 = .ok (.dup, 1) := by decide +kernel
theorem d_X3_findSigns_113 : decode (mC 29) 113 = .ok (.getfield 34, 3) := by decide +kernel
theorem d_X3_findSigns_116 : decode (mC 29) 116 = .ok (.iconst 1, 1) := by decide +kernel
theorem d_X3_findSigns_117 : decode (mC 29) 117 = .ok (.iadd, 1) := by decide +kernel
theorem d_X3_findSigns_118 : decode (mC 29) 118 = .ok (.putfield 34, 3) := by decide +kernel
theorem d_X3_findSigns_121 : decode (mC 29) 121 = .ok (.iinc 5 1, 3) := by decide +kernel
theorem d_X3_findSigns_124 : decode (mC 29) 124 = .ok (.goto (-72), 3) := by decide +kernel
theorem d_X3_findSigns_127 : decode (mC 29) 127 = .ok (.iinc 4 1, 3) := by decide +kernel
theorem d_X3_findSigns_130 : decode (mC 29) 130 = .ok (.goto (-99), 3) := by decide +kernel
theorem d_X3_findSigns_133 : decode (mC 29) 133 = .ok (.iinc 2 1, 3) := by decide +kernel
theorem d_X3_findSigns_136 : decode (mC 29) 136 = .ok (.goto (-129), 3) := by decide +kernel
theorem d_X3_findSigns_139 : decode (mC 29) 139 = .ok (.return_, 1) := by decide +kernel
theorem fi_29_34 : mn_fi 29 3 34 3 5 = true := by decide +kernel
theorem cv_29_38 : mn_cvt 29 3 38 30 = true := by decide +kernel
theorem fr_29_25 : mn_fr 29 3 25 3 4 = true := by decide +kernel
theorem b_X3_findSigns_0 {x1 : Int32} {h h' : mn_H} {r : Option Value} : mn_E 29 0 [.ref 10, .int x1, .null, .null, .null, .null] [] h r h' ↔ mn_E 29 7 [.ref 10, .int x1, .int 0, .null, .null, .null] [] (mn_up h 10 5 0) r h' :=
  (mX_aload_n d_X3_findSigns_0 rfl).trans <| (mX_iconst d_X3_findSigns_1 ci_0).trans <| (mP_i d_X3_findSigns_2 fi_29_34 rfl (by decide) rfl (Or.inl (by decide))).trans <| (mX_iconst d_X3_findSigns_5 ci_0).trans <| mX_istore_n (ls' := [.ref 10, .int x1, .int 0, .null, .null, .null]) d_X3_findSigns_6 rfl rfl
theorem b_X3_findSigns_7 {x1 x2 : Int32} {h h' : mn_H} {r : Option Value} : mn_E 29 7 [.ref 10, .int x1, .int x2, .null, .null, .null] [] h r h' ↔ if (5 : Int32) ≤ x2 then mn_E 29 139 [.ref 10, .int x1, .int x2, .null, .null, .null] [] h r h' else mn_E 29 12 [.ref 10, .int x1, .int x2, .null, .null, .null] [] h r h' :=
  (mX_iload_n d_X3_findSigns_7 rfl).trans <| (mX_iconst d_X3_findSigns_8 ci_5).trans <| mX_icmp_ge d_X3_findSigns_9 rfl
theorem b_X3_findSigns_12 {x1 x2 : Int32} {h h' : mn_H} {r : Option Value} : mn_E 29 12 [.ref 10, .int x1, .int x2, .null, .null, .null] [] h r h' ↔ if x2 = 2 then mn_E 29 22 [.ref 10, .int x1, .int x2, .null, .null, .null] [] h r h' else mn_E 29 17 [.ref 10, .int x1, .int x2, .null, .null, .null] [] h r h' :=
  (mX_iload_n d_X3_findSigns_12 rfl).trans <| (mX_iconst d_X3_findSigns_13 ci_2).trans <| mX_icmp_eq d_X3_findSigns_14 rfl
theorem b_X3_findSigns_17 {x1 x2 : Int32} {h h' : mn_H} {r : Option Value} : mn_E 29 17 [.ref 10, .int x1, .int x2, .null, .null, .null] [] h r h' ↔ if ¬ x2 = 3 then mn_E 29 26 [.ref 10, .int x1, .int x2, .null, .null, .null] [] h r h' else mn_E 29 22 [.ref 10, .int x1, .int x2, .null, .null, .null] [] h r h' :=
  (mX_iload_n d_X3_findSigns_17 rfl).trans <| (mX_iconst d_X3_findSigns_18 ci_3).trans <| mX_icmp_ne d_X3_findSigns_19 rfl
theorem b_X3_findSigns_22 {x1 x2 : Int32} {h h' : mn_H} {r : Option Value} : mn_E 29 22 [.ref 10, .int x1, .int x2, .null, .null, .null] [] h r h' ↔ mn_E 29 27 [.ref 10, .int x1, .int x2, .null, .null, .null] [.int 1] h r h' :=
  (mX_iconst d_X3_findSigns_22 ci_1).trans <| mX_goto d_X3_findSigns_23 rfl
theorem b_X3_findSigns_26 {x1 x2 : Int32} {h h' : mn_H} {r : Option Value} : mn_E 29 26 [.ref 10, .int x1, .int x2, .null, .null, .null] [] h r h' ↔ mn_E 29 27 [.ref 10, .int x1, .int x2, .null, .null, .null] [.int 0] h r h' :=
  mX_iconst d_X3_findSigns_26 ci_0
theorem b_X3_findSigns_27 {x1 x2 s0 : Int32} {h h' : mn_H} {r : Option Value} : mn_E 29 27 [.ref 10, .int x1, .int x2, .null, .null, .null] [.int s0] h r h' ↔ mn_E 29 31 [.ref 10, .int x1, .int x2, .int s0, .int 0, .null] [] h r h' :=
  (mX_istore_n (ls' := [.ref 10, .int x1, .int x2, .int s0, .null, .null]) d_X3_findSigns_27 rfl rfl).trans <| (mX_iconst d_X3_findSigns_28 ci_0).trans <| mX_istore (ls' := [.ref 10, .int x1, .int x2, .int s0, .int 0, .null]) d_X3_findSigns_29 rfl rfl
theorem b_X3_findSigns_31 {x1 x2 x3 x4 : Int32} {h h' : mn_H} {r : Option Value} : mn_E 29 31 [.ref 10, .int x1, .int x2, .int x3, .int x4, .null] [] h r h' ↔ if (6 : Int32) ≤ x4 then mn_E 29 133 [.ref 10, .int x1, .int x2, .int x3, .int x4, .null] [] h r h' else mn_E 29 38 [.ref 10, .int x1, .int x2, .int x3, .int x4, .null] [] h r h' :=
  (mX_iload d_X3_findSigns_31 rfl).trans <| (mX_bipush d_X3_findSigns_33 cb_6).trans <| mX_icmp_ge d_X3_findSigns_35 rfl
theorem b_X3_findSigns_38 {x1 x2 x3 x4 : Int32} {h h' : mn_H} {r : Option Value} : mn_E 29 38 [.ref 10, .int x1, .int x2, .int x3, .int x4, .null] [] h r h' ↔ if x3 = 0 then mn_E 29 49 [.ref 10, .int x1, .int x2, .int x3, .int x4, .null] [] h r h' else mn_E 29 42 [.ref 10, .int x1, .int x2, .int x3, .int x4, .null] [] h r h' :=
  (mX_iload_n d_X3_findSigns_38 rfl).trans <| mX_if_eq d_X3_findSigns_39 rfl
theorem b_X3_findSigns_42 {x1 x2 x3 x4 : Int32} {h h' : mn_H} {r : Option Value} : mn_E 29 42 [.ref 10, .int x1, .int x2, .int x3, .int x4, .null] [] h r h' ↔ mn_E 29 50 [.ref 10, .int x1, .int x2, .int x3, .int x4, .null] [.int (x4 + 1)] h r h' :=
  (mX_iload d_X3_findSigns_42 rfl).trans <| (mX_iconst d_X3_findSigns_44 ci_1).trans <| (mX_iadd d_X3_findSigns_45).trans <| mX_goto d_X3_findSigns_46 rfl
theorem b_X3_findSigns_49 {x1 x2 x3 x4 : Int32} {h h' : mn_H} {r : Option Value} : mn_E 29 49 [.ref 10, .int x1, .int x2, .int x3, .int x4, .null] [] h r h' ↔ mn_E 29 50 [.ref 10, .int x1, .int x2, .int x3, .int x4, .null] [.int 0] h r h' :=
  mX_iconst d_X3_findSigns_49 ci_0
theorem b_X3_findSigns_50 {x1 x2 x3 x4 s0 : Int32} {h h' : mn_H} {r : Option Value} : mn_E 29 50 [.ref 10, .int x1, .int x2, .int x3, .int x4, .null] [.int s0] h r h' ↔ mn_E 29 52 [.ref 10, .int x1, .int x2, .int x3, .int x4, .int s0] [] h r h' :=
  mX_istore (ls' := [.ref 10, .int x1, .int x2, .int x3, .int x4, .int s0]) d_X3_findSigns_50 rfl rfl
theorem b_X3_findSigns_52 {x1 x2 x3 x4 x5 : Int32} {h h' : mn_H} {r : Option Value} : mn_E 29 52 [.ref 10, .int x1, .int x2, .int x3, .int x4, .int x5] [] h r h' ↔ if x3 = 0 then mn_E 29 63 [.ref 10, .int x1, .int x2, .int x3, .int x4, .int x5] [.int x5] h r h' else mn_E 29 58 [.ref 10, .int x1, .int x2, .int x3, .int x4, .int x5] [.int x5] h r h' :=
  (mX_iload d_X3_findSigns_52 rfl).trans <| (mX_iload_n d_X3_findSigns_54 rfl).trans <| mX_if_eq d_X3_findSigns_55 rfl
theorem b_X3_findSigns_58 {x1 x2 x3 x4 x5 s0 : Int32} {h h' : mn_H} {r : Option Value} : mn_E 29 58 [.ref 10, .int x1, .int x2, .int x3, .int x4, .int x5] [.int s0] h r h' ↔ mn_E 29 64 [.ref 10, .int x1, .int x2, .int x3, .int x4, .int x5] [.int 6, .int s0] h r h' :=
  (mX_bipush d_X3_findSigns_58 cb_6).trans <| mX_goto d_X3_findSigns_60 rfl
theorem b_X3_findSigns_63 {x1 x2 x3 x4 x5 s0 : Int32} {h h' : mn_H} {r : Option Value} : mn_E 29 63 [.ref 10, .int x1, .int x2, .int x3, .int x4, .int x5] [.int s0] h r h' ↔ mn_E 29 64 [.ref 10, .int x1, .int x2, .int x3, .int x4, .int x5] [.int 1, .int s0] h r h' :=
  mX_iconst d_X3_findSigns_63 ci_1
theorem b_X3_findSigns_64 {x1 x2 x3 x4 x5 s0 s1 : Int32} {h h' : mn_H} {r : Option Value} : mn_E 29 64 [.ref 10, .int x1, .int x2, .int x3, .int x4, .int x5] [.int s0, .int s1] h r h' ↔ if s0 ≤ s1 then mn_E 29 127 [.ref 10, .int x1, .int x2, .int x3, .int x4, .int x5] [] h r h' else mn_E 29 67 [.ref 10, .int x1, .int x2, .int x3, .int x4, .int x5] [] h r h' :=
  mX_icmp_ge d_X3_findSigns_64 rfl
theorem b_X3_findSigns_67 {x1 x2 x3 x4 x5 : Int32} {h h' : mn_H} {r : Option Value} : mn_E 29 67 [.ref 10, .int x1, .int x2, .int x3, .int x4, .int x5] [] h r h' ↔ ∃ x h1, mn_X 30 [.ref 10, .int x1, .int x2, .int x4, .int x5] h (some (.int x)) h1 ∧ mn_E 29 77 [.ref 10, .int x1, .int x2, .int x3, .int x4, .int x5] [.int x] h1 r h' :=
  (mX_aload_n d_X3_findSigns_67 rfl).trans <| (mX_iload_n d_X3_findSigns_68 rfl).trans <| (mX_iload_n d_X3_findSigns_69 rfl).trans <| (mX_iload d_X3_findSigns_70 rfl).trans <| (mX_iload d_X3_findSigns_72 rfl).trans <| mV_i (a := 10) (vs := [.int x1, .int x2, .int x4, .int x5]) (st' := []) d_X3_findSigns_74 cv_29_38 (Or.inr (Or.inl rfl)) (Nat.le_of_ble_eq_true rfl) rfl rfl rfl rfl
theorem b_X3_findSigns_77 {x1 x2 x3 x4 x5 s0 : Int32} {h h' : mn_H} {r : Option Value} : mn_E 29 77 [.ref 10, .int x1, .int x2, .int x3, .int x4, .int x5] [.int s0] h r h' ↔ if s0 = 0 then mn_E 29 121 [.ref 10, .int x1, .int x2, .int x3, .int x4, .int x5] [] h r h' else mn_E 29 80 [.ref 10, .int x1, .int x2, .int x3, .int x4, .int x5] [] h r h' :=
  mX_if_eq d_X3_findSigns_77 rfl
theorem b_X3_findSigns_80 {x1 x2 x3 x4 x5 : Int32} {h h' : mn_H} {r : Option Value} : mn_E 29 80 [.ref 10, .int x1, .int x2, .int x3, .int x4, .int x5] [] h r h' ↔ if (48 : Int32) ≤ (h 10 5) then mn_E 29 121 [.ref 10, .int x1, .int x2, .int x3, .int x4, .int x5] [] h r h' else mn_E 29 89 [.ref 10, .int x1, .int x2, .int x3, .int x4, .int x5] [] h r h' :=
  (mX_aload_n d_X3_findSigns_80 rfl).trans <| (mG_i d_X3_findSigns_81 fi_29_34 rfl (by decide)).trans <| (mX_bipush d_X3_findSigns_84 cb_48).trans <| mX_icmp_ge d_X3_findSigns_86 rfl
theorem b_X3_findSigns_89 {x1 x2 x3 x4 x5 : Int32} {h h' : mn_H} {r : Option Value} (hy0 : vp_in (h 10 5) 48) : mn_E 29 89 [.ref 10, .int x1, .int x2, .int x3, .int x4, .int x5] [] h r h' ↔ mn_E 29 121 [.ref 10, .int x1, .int x2, .int x3, .int x4, .int x5] [] (mn_up (mn_up h 15 ((h 10 5).toNatClampNeg) (((100 * x2) + (10 * x4)) + x5)) 10 5 (((mn_up h 15 ((h 10 5).toNatClampNeg) (((100 * x2) + (10 * x4)) + x5)) 10 5) + 1)) r h' :=
  (mX_aload_n d_X3_findSigns_89 rfl).trans <| (mG_r (b := 15) d_X3_findSigns_90 fr_29_25 rfl (by decide) rfl).trans <| (mX_aload_n d_X3_findSigns_93 rfl).trans <| (mG_i d_X3_findSigns_94 fi_29_34 rfl (by decide)).trans <| (mX_bipush d_X3_findSigns_97 cb_100).trans <| (mX_iload_n d_X3_findSigns_99 rfl).trans <| (mX_imul d_X3_findSigns_100).trans <| (mX_bipush d_X3_findSigns_101 cb_10).trans <| (mX_iload d_X3_findSigns_103 rfl).trans <| (mX_imul d_X3_findSigns_105).trans <| (mX_iadd d_X3_findSigns_106).trans <| (mX_iload d_X3_findSigns_107 rfl).trans <| (mX_iadd d_X3_findSigns_109).trans <| (mX_iastore d_X3_findSigns_110 rfl (by decide) hy0).trans <| (mX_aload_n d_X3_findSigns_111 rfl).trans <| (mX_dup d_X3_findSigns_112 rfl).trans <| (mG_i d_X3_findSigns_113 fi_29_34 rfl (by decide)).trans <| (mX_iconst d_X3_findSigns_116 ci_1).trans <| (mX_iadd d_X3_findSigns_117).trans <| mP_i d_X3_findSigns_118 fi_29_34 rfl (by decide) rfl (Or.inl (by decide))
theorem b_X3_findSigns_121 {x1 x2 x3 x4 x5 : Int32} {h h' : mn_H} {r : Option Value} : mn_E 29 121 [.ref 10, .int x1, .int x2, .int x3, .int x4, .int x5] [] h r h' ↔ mn_E 29 52 [.ref 10, .int x1, .int x2, .int x3, .int x4, .int (x5 + 1)] [] h r h' :=
  (mX_iinc (ls' := [.ref 10, .int x1, .int x2, .int x3, .int x4, .int (x5 + 1)]) d_X3_findSigns_121 rfl ci_1 rfl rfl).trans <| mX_goto d_X3_findSigns_124 rfl
theorem b_X3_findSigns_127 {x1 x2 x3 x4 x5 : Int32} {h h' : mn_H} {r : Option Value} : mn_E 29 127 [.ref 10, .int x1, .int x2, .int x3, .int x4, .int x5] [] h r h' ↔ mn_E 29 31 [.ref 10, .int x1, .int x2, .int x3, .int (x4 + 1), .int x5] [] h r h' :=
  (mX_iinc (ls' := [.ref 10, .int x1, .int x2, .int x3, .int (x4 + 1), .int x5]) d_X3_findSigns_127 rfl ci_1 rfl rfl).trans <| mX_goto d_X3_findSigns_130 rfl
theorem b_X3_findSigns_133 {x1 x2 x3 x4 : Int32} {h h' : mn_H} {r : Option Value} : mn_E 29 133 [.ref 10, .int x1, .int x2, .int x3, .int x4, .null] [] h r h' ↔ mn_E 29 7 [.ref 10, .int x1, .int (x2 + 1), .int x3, .int x4, .null] [] h r h' :=
  (mX_iinc (ls' := [.ref 10, .int x1, .int (x2 + 1), .int x3, .int x4, .null]) d_X3_findSigns_133 rfl ci_1 rfl rfl).trans <| mX_goto d_X3_findSigns_136 rfl
theorem b_X3_findSigns_139 {x1 x2 : Int32} {h h' : mn_H} {r : Option Value} : mn_E 29 139 [.ref 10, .int x1, .int x2, .null, .null, .null] [] h r h' ↔ r = none ∧ h' = h :=
  mX_vret d_X3_findSigns_139 rfl
-- X3_agrees
theorem mo_30 : mO 30 = 3 := rfl
theorem d_X3_agrees_0 : decode (mC 30) 0 = .ok (.iconst 0, 1) := by decide +kernel
theorem d_X3_agrees_1 : decode (mC 30) 1 = .ok (.istore 5, 2) := by decide +kernel
theorem d_X3_agrees_3 : decode (mC 30) 3 = .ok (.iload 5, 2) := by decide +kernel
theorem d_X3_agrees_5 : decode (mC 30) 5 = .ok (.aload_n 0, 1) := by decide +kernel
theorem d_X3_agrees_6 : decode (mC 30) 6 = .ok (.getfield 9, 3) := by decide +kernel
theorem d_X3_agrees_9 : decode (mC 30) 9 = .ok (.iload_n 1, 1) := by decide +kernel
theorem d_X3_agrees_10 : decode (mC 30) 10 = .ok (.iaload, 1) := by decide +kernel
theorem d_X3_agrees_11 : decode (mC 30) 11 = .ok (.if_icmp .ge 51, 3) := by decide +kernel
theorem d_X3_agrees_14 : decode (mC 30) 14 = .ok (.iload_n 1, 1) := by decide +kernel
theorem d_X3_agrees_15 : decode (mC 30) 15 = .ok (.bipush 12, 2) := by decide +kernel
theorem d_X3_agrees_17 : decode (mC 30) 17 = .ok (.imul, 1) := by decide +kernel
theorem d_X3_agrees_18 : decode (mC 30) 18 = .ok (.iload 5, 2) := by decide +kernel
theorem d_X3_agrees_20 : decode (mC 30) 20 = .ok (.iadd, 1) := by decide +kernel
theorem d_X3_agrees_21 : decode (mC 30) 21 = .ok (.istore 6, 2) := by decide +kernel
theorem d_X3_agrees_23 : decode (mC 30) 23 = .ok (.iload_n 2, 1) := by decide +kernel
theorem d_X3_agrees_24 : decode (mC 30) 24 = .ok (.iload_n 3, 1) := by decide +kernel
theorem d_X3_agrees_25 : decode (mC 30) 25 = .ok (.iload 4, 2) := by decide +kernel
theorem d_X3_agrees_27 : decode (mC 30) 27 = .ok (.aload_n 0, 1) := by decide +kernel
theorem d_X3_agrees_28 : decode (mC 30) 28 = .ok (.getfield 19, 3) := by decide +kernel
theorem d_X3_agrees_31 : decode (mC 30) 31 = .ok (.iload 6, 2) := by decide +kernel
theorem d_X3_agrees_33 : decode (mC 30) 33 = .ok (.iaload, 1) := by decide +kernel
theorem d_X3_agrees_34 : decode (mC 30) 34 = .ok (.aload_n 0, 1) := by decide +kernel
theorem d_X3_agrees_35 : decode (mC 30) 35 = .ok (.getfield 22, 3) := by decide +kernel
theorem d_X3_agrees_38 : decode (mC 30) 38 = .ok (.iload 6, 2) := by decide +kernel
theorem d_X3_agrees_40 : decode (mC 30) 40 = .ok (.iaload, 1) := by decide +kernel
theorem d_X3_agrees_41 : decode (mC 30) 41 = .ok (.invokestatic 42, 3) := by decide +kernel
theorem d_X3_agrees_44 : decode (mC 30) 44 = .ok (.aload_n 0, 1) := by decide +kernel
theorem d_X3_agrees_45 : decode (mC 30) 45 = .ok (.getfield 15, 3) := by decide +kernel
theorem d_X3_agrees_48 : decode (mC 30) 48 = .ok (.iload 6, 2) := by decide +kernel
theorem d_X3_agrees_50 : decode (mC 30) 50 = .ok (.baload, 1) := by decide +kernel
theorem d_X3_agrees_51 : decode (mC 30) 51 = .ok (.if_icmp .eq 5, 3) := by decide +kernel
theorem d_X3_agrees_54 : decode (mC 30) 54 = .ok (.iconst 0, 1) := by decide +kernel
theorem d_X3_agrees_55 : decode (mC 30) 55 = .ok (.ireturn, 1) := by decide +kernel
theorem d_X3_agrees_56 : decode (mC 30) 56 = .ok (.iinc 5 1, 3) := by decide +kernel
theorem d_X3_agrees_59 : decode (mC 30) 59 = .ok (.goto (-56), 3) := by decide +kernel
theorem d_X3_agrees_62 : decode (mC 30) 62 = .ok (.iconst 1, 1) := by decide +kernel
theorem d_X3_agrees_63 : decode (mC 30) 63 = .ok (.ireturn, 1) := by decide +kernel
theorem fr_30_9 : mn_fr 30 3 9 3 0 = true := by decide +kernel
theorem fr_30_19 : mn_fr 30 3 19 3 2 = true := by decide +kernel
theorem fr_30_22 : mn_fr 30 3 22 3 3 = true := by decide +kernel
theorem cs_30_42 : mn_cs 30 3 42 113 = true := by decide +kernel
theorem fr_30_15 : mn_fr 30 3 15 3 1 = true := by decide +kernel
theorem b_X3_agrees_0 {x1 x2 x3 x4 : Int32} {h h' : mn_H} {r : Option Value} : mn_E 30 0 [.ref 10, .int x1, .int x2, .int x3, .int x4, .null, .null] [] h r h' ↔ mn_E 30 3 [.ref 10, .int x1, .int x2, .int x3, .int x4, .int 0, .null] [] h r h' :=
  (mX_iconst d_X3_agrees_0 ci_0).trans <| mX_istore (ls' := [.ref 10, .int x1, .int x2, .int x3, .int x4, .int 0, .null]) d_X3_agrees_1 rfl rfl
theorem b_X3_agrees_3 {x1 x2 x3 x4 x5 : Int32} {h h' : mn_H} {r : Option Value} (hy0 : vp_in x1 5) : mn_E 30 3 [.ref 10, .int x1, .int x2, .int x3, .int x4, .int x5, .null] [] h r h' ↔ if (h 11 x1.toNatClampNeg) ≤ x5 then mn_E 30 62 [.ref 10, .int x1, .int x2, .int x3, .int x4, .int x5, .null] [] h r h' else mn_E 30 14 [.ref 10, .int x1, .int x2, .int x3, .int x4, .int x5, .null] [] h r h' :=
  (mX_iload d_X3_agrees_3 rfl).trans <| (mX_aload_n d_X3_agrees_5 rfl).trans <| (mG_r (b := 11) d_X3_agrees_6 fr_30_9 rfl (by decide) rfl).trans <| (mX_iload_n d_X3_agrees_9 rfl).trans <| (mX_iaload d_X3_agrees_10 rfl (by decide) hy0).trans <| mX_icmp_ge d_X3_agrees_11 rfl
theorem b_X3_agrees_14 {x1 x2 x3 x4 x5 : Int32} {h h' : mn_H} {r : Option Value} (hy0 : vp_in ((x1 * 12) + x5) 60) : mn_E 30 14 [.ref 10, .int x1, .int x2, .int x3, .int x4, .int x5, .null] [] h r h' ↔ ∃ x h1, mn_X 113 [.int x2, .int x3, .int x4, .int (h 13 ((x1 * 12) + x5).toNatClampNeg), .int (h 14 ((x1 * 12) + x5).toNatClampNeg)] h (some (.int x)) h1 ∧ mn_E 30 44 [.ref 10, .int x1, .int x2, .int x3, .int x4, .int x5, .int ((x1 * 12) + x5)] [.int x] h1 r h' :=
  (mX_iload_n d_X3_agrees_14 rfl).trans <| (mX_bipush d_X3_agrees_15 cb_12).trans <| (mX_imul d_X3_agrees_17).trans <| (mX_iload d_X3_agrees_18 rfl).trans <| (mX_iadd d_X3_agrees_20).trans <| (mX_istore (ls' := [.ref 10, .int x1, .int x2, .int x3, .int x4, .int x5, .int ((x1 * 12) + x5)]) d_X3_agrees_21 rfl rfl).trans <| (mX_iload_n d_X3_agrees_23 rfl).trans <| (mX_iload_n d_X3_agrees_24 rfl).trans <| (mX_iload d_X3_agrees_25 rfl).trans <| (mX_aload_n d_X3_agrees_27 rfl).trans <| (mG_r (b := 13) d_X3_agrees_28 fr_30_19 rfl (by decide) rfl).trans <| (mX_iload d_X3_agrees_31 rfl).trans <| (mX_iaload d_X3_agrees_33 rfl (by decide) hy0).trans <| (mX_aload_n d_X3_agrees_34 rfl).trans <| (mG_r (b := 14) d_X3_agrees_35 fr_30_22 rfl (by decide) rfl).trans <| (mX_iload d_X3_agrees_38 rfl).trans <| (mX_iaload d_X3_agrees_40 rfl (by decide) hy0).trans <| mS_i (vs := [.int x2, .int x3, .int x4, .int (h 13 ((x1 * 12) + x5).toNatClampNeg), .int (h 14 ((x1 * 12) + x5).toNatClampNeg)]) (st' := []) d_X3_agrees_41 cs_30_42 (Or.inr (Or.inl rfl)) (Nat.le_of_ble_eq_true rfl) rfl rfl rfl
theorem b_X3_agrees_44 {x1 x2 x3 x4 x5 x6 s0 : Int32} {h h' : mn_H} {r : Option Value} (hy0 : vp_in x6 60) : mn_E 30 44 [.ref 10, .int x1, .int x2, .int x3, .int x4, .int x5, .int x6] [.int s0] h r h' ↔ if s0 = (h 12 x6.toNatClampNeg) then mn_E 30 56 [.ref 10, .int x1, .int x2, .int x3, .int x4, .int x5, .int x6] [] h r h' else mn_E 30 54 [.ref 10, .int x1, .int x2, .int x3, .int x4, .int x5, .int x6] [] h r h' :=
  (mX_aload_n d_X3_agrees_44 rfl).trans <| (mG_r (b := 12) d_X3_agrees_45 fr_30_15 rfl (by decide) rfl).trans <| (mX_iload d_X3_agrees_48 rfl).trans <| (mX_baload d_X3_agrees_50 rfl (by decide) hy0).trans <| mX_icmp_eq d_X3_agrees_51 rfl
theorem b_X3_agrees_54 {x1 x2 x3 x4 x5 x6 : Int32} {h h' : mn_H} {r : Option Value} : mn_E 30 54 [.ref 10, .int x1, .int x2, .int x3, .int x4, .int x5, .int x6] [] h r h' ↔ r = some (.int 0) ∧ h' = h :=
  (mX_iconst d_X3_agrees_54 ci_0).trans <| mX_zret d_X3_agrees_55 rfl (by decide)
theorem b_X3_agrees_56 {x1 x2 x3 x4 x5 x6 : Int32} {h h' : mn_H} {r : Option Value} : mn_E 30 56 [.ref 10, .int x1, .int x2, .int x3, .int x4, .int x5, .int x6] [] h r h' ↔ mn_E 30 3 [.ref 10, .int x1, .int x2, .int x3, .int x4, .int (x5 + 1), .int x6] [] h r h' :=
  (mX_iinc (ls' := [.ref 10, .int x1, .int x2, .int x3, .int x4, .int (x5 + 1), .int x6]) d_X3_agrees_56 rfl ci_1 rfl rfl).trans <| mX_goto d_X3_agrees_59 rfl
theorem b_X3_agrees_62 {x1 x2 x3 x4 x5 : Int32} {h h' : mn_H} {r : Option Value} : mn_E 30 62 [.ref 10, .int x1, .int x2, .int x3, .int x4, .int x5, .null] [] h r h' ↔ r = some (.int 1) ∧ h' = h :=
  (mX_iconst d_X3_agrees_62 ci_1).trans <| mX_zret d_X3_agrees_63 rfl (by decide)
-- X3_signsLeft
theorem mo_31 : mO 31 = 3 := rfl
theorem d_X3_signsLeft_0 : decode (mC 31) 0 = .ok (.aload_n 0, 1) := by decide +kernel
theorem d_X3_signsLeft_1 : decode (mC 31) 1 = .ok (.getfield 34, 3) := by decide +kernel
theorem d_X3_signsLeft_4 : decode (mC 31) 4 = .ok (.ireturn, 1) := by decide +kernel
theorem fi_31_34 : mn_fi 31 3 34 3 5 = true := by decide +kernel
theorem b_X3_signsLeft_0 {h h' : mn_H} {r : Option Value} : mn_E 31 0 [.ref 10] [] h r h' ↔ r = some (.int (h 10 5)) ∧ h' = h :=
  (mX_aload_n d_X3_signsLeft_0 rfl).trans <| (mG_i d_X3_signsLeft_1 fi_31_34 rfl (by decide)).trans <| mX_iret d_X3_signsLeft_4 rfl
-- X3_signAt
theorem mo_32 : mO 32 = 3 := rfl
theorem d_X3_signAt_0 : decode (mC 32) 0 = .ok (.iload_n 1, 1) := by decide +kernel
theorem d_X3_signAt_1 : decode (mC 32) 1 = .ok (.ifCond .lt 20, 3) := by decide +kernel
theorem d_X3_signAt_4 : decode (mC 32) 4 = .ok (.iload_n 1, 1) := by decide +kernel
theorem d_X3_signAt_5 : decode (mC 32) 5 = .ok (.aload_n 0, 1) := by decide +kernel
theorem d_X3_signAt_6 : decode (mC 32) 6 = .ok (.getfield 34, 3) := by decide +kernel
theorem d_X3_signAt_9 : decode (mC 32) 9 = .ok (.if_icmp .ge 12, 3) := by decide +kernel
theorem d_X3_signAt_12 : decode (mC 32) 12 = .ok (.aload_n 0, 1) := by decide +kernel
theorem d_X3_signAt_13 : decode (mC 32) 13 = .ok (.getfield 25, 3) := by decide +kernel
theorem d_X3_signAt_16 : decode (mC 32) 16 = .ok (.iload_n 1, 1) := by decide +kernel
theorem d_X3_signAt_17 : decode (mC 32) 17 = .ok (.iaload, 1) := by decide +kernel
theorem d_X3_signAt_18 : decode (mC 32) 18 = .ok (.goto 4, 3) := by decide +kernel
theorem d_X3_signAt_21 : decode (mC 32) 21 = .ok (.iconst (-1), 1) := by decide +kernel
theorem d_X3_signAt_22 : decode (mC 32) 22 = .ok (.ireturn, 1) := by decide +kernel
theorem fi_32_34 : mn_fi 32 3 34 3 5 = true := by decide +kernel
theorem fr_32_25 : mn_fr 32 3 25 3 4 = true := by decide +kernel
theorem b_X3_signAt_0 {x1 : Int32} {h h' : mn_H} {r : Option Value} : mn_E 32 0 [.ref 10, .int x1] [] h r h' ↔ if x1 < 0 then mn_E 32 21 [.ref 10, .int x1] [] h r h' else mn_E 32 4 [.ref 10, .int x1] [] h r h' :=
  (mX_iload_n d_X3_signAt_0 rfl).trans <| mX_if_lt d_X3_signAt_1 rfl
theorem b_X3_signAt_4 {x1 : Int32} {h h' : mn_H} {r : Option Value} : mn_E 32 4 [.ref 10, .int x1] [] h r h' ↔ if (h 10 5) ≤ x1 then mn_E 32 21 [.ref 10, .int x1] [] h r h' else mn_E 32 12 [.ref 10, .int x1] [] h r h' :=
  (mX_iload_n d_X3_signAt_4 rfl).trans <| (mX_aload_n d_X3_signAt_5 rfl).trans <| (mG_i d_X3_signAt_6 fi_32_34 rfl (by decide)).trans <| mX_icmp_ge d_X3_signAt_9 rfl
theorem b_X3_signAt_12 {x1 : Int32} {h h' : mn_H} {r : Option Value} (hy0 : vp_in x1 48) : mn_E 32 12 [.ref 10, .int x1] [] h r h' ↔ mn_E 32 22 [.ref 10, .int x1] [.int (h 15 x1.toNatClampNeg)] h r h' :=
  (mX_aload_n d_X3_signAt_12 rfl).trans <| (mG_r (b := 15) d_X3_signAt_13 fr_32_25 rfl (by decide) rfl).trans <| (mX_iload_n d_X3_signAt_16 rfl).trans <| (mX_iaload d_X3_signAt_17 rfl (by decide) hy0).trans <| mX_goto d_X3_signAt_18 rfl
theorem b_X3_signAt_21 {x1 : Int32} {h h' : mn_H} {r : Option Value} : mn_E 32 21 [.ref 10, .int x1] [] h r h' ↔ mn_E 32 22 [.ref 10, .int x1] [.int (-1)] h r h' :=
  mX_iconst d_X3_signAt_21 ci_m1
theorem b_X3_signAt_22 {x1 s0 : Int32} {h h' : mn_H} {r : Option Value} : mn_E 32 22 [.ref 10, .int x1] [.int s0] h r h' ↔ r = some (.int s0) ∧ h' = h :=
  mX_iret d_X3_signAt_22 rfl
-- X3_dayThatParts
theorem mo_33 : mO 33 = 3 := rfl
theorem d_X3_dayThatParts_0 : decode (mC 33) 0 = .ok (.iconst (-1), 1) := by decide +kernel
theorem d_X3_dayThatParts_1 : decode (mC 33) 1 = .ok (.istore_n 1, 1) := by decide +kernel
theorem d_X3_dayThatParts_2 : decode (mC 33) 2 = .ok (.aload_n 0, 1) := by decide +kernel
theorem d_X3_dayThatParts_3 : decode (mC 33) 3 = .ok (.getfield 34, 3) := by decide +kernel
theorem d_X3_dayThatParts_6 : decode (mC 33) 6 = .ok (.istore_n 2, 1) := by decide +kernel
theorem d_X3_dayThatParts_7 : decode (mC 33) 7 = .ok (.iconst 0, 1) := by decide +kernel
theorem d_X3_dayThatParts_8 : decode (mC 33) 8 = .ok (.istore_n 3, 1) := by decide +kernel
theorem d_X3_dayThatParts_9 : decode (mC 33) 9 = .ok (.iload_n 3, 1) := by decide +kernel
theorem d_X3_dayThatParts_10 : decode (mC 33) 10 = .ok (.bipush 64, 2) := by decide +kernel
theorem d_X3_dayThatParts_12 : decode (mC 33) 12 = .ok (.if_icmp .ge 41, 3) := by decide +kernel
theorem d_X3_dayThatParts_15 : decode (mC 33) 15 = .ok (.aload_n 0, 1) := by decide +kernel
theorem d_X3_dayThatParts_16 : decode (mC 33) 16 = .ok (.iload_n 3, 1) := by decide +kernel
theorem d_X3_dayThatParts_17 : decode (mC 33) 17 = .ok (.invokevirtual 46, 3) := by decide +kernel
theorem d_X3_dayThatParts_20 : decode (mC 33) 20 = .ok (.istore 4, 2) := by decide +kernel
theorem d_X3_dayThatParts_22 : decode (mC 33) 22 = .ok (.iload 4, 2) := by decide +kernel
theorem d_X3_dayThatParts_24 : decode (mC 33) 24 = .ok (.aload_n 0, 1) := by decide +kernel
theorem d_X3_dayThatParts_25 : decode (mC 33) 25 = .ok (.getfield 34, 3) := by decide +kernel
theorem d_X3_dayThatParts_28 : decode (mC 33) 28 = .ok (.iload 4, 2) := by decide +kernel
theorem d_X3_dayThatParts_30 : decode (mC 33) 30 = .ok (.isub, 1) := by decide +kernel
theorem d_X3_dayThatParts_31 : decode (mC 33) 31 = .ok (.invokestatic 50, 3) := by decide +kernel
theorem d_X3_dayThatParts_34 : decode (mC 33) 34 = .ok (.istore 5, 2) := by decide +kernel
theorem d_X3_dayThatParts_36 : decode (mC 33) 36 = .ok (.iload 5, 2) := by decide +kernel
theorem d_X3_dayThatParts_38 : decode (mC 33) 38 = .ok (.iload_n 2, 1) := by decide +kernel
theorem d_X3_dayThatParts_39 : decode (mC 33) 39 = .ok (.if_icmp .ge 8, 3) := by decide +kernel
theorem d_X3_dayThatParts_42 : decode (mC 33) 42 = .ok (.iload 5, 2) := by decide +kernel
theorem d_X3_dayThatParts_44 : decode (mC 33) 44 = .ok (.istore_n 2, 1) := by decide +kernel
theorem d_X3_dayThatParts_45 : decode (mC 33) 45 = .ok (.iload_n 3, 1) := by decide +kernel
theorem d_X3_dayThatParts_46 : decode (mC 33) 46 = .ok (.istore_n 1, 1) := by decide +kernel
theorem d_X3_dayThatParts_47 : decode (mC 33) 47 = .ok (.iinc 3 1, 3) := by decide +kernel
theorem d_X3_dayThatParts_50 : decode (mC 33) 50 = .ok (.goto (-41), 3) := by decide +kernel
theorem d_X3_dayThatParts_53 : decode (mC 33) 53 = .ok (.iload_n 1, 1) := by decide +kernel
theorem d_X3_dayThatParts_54 : decode (mC 33) 54 = .ok (.ireturn, 1) := by decide +kernel
theorem fi_33_34 : mn_fi 33 3 34 3 5 = true := by decide +kernel
theorem cv_33_46 : mn_cvt 33 3 46 34 = true := by decide +kernel
theorem ma_3_50 : mn_ml 3 50 = none ∧ mn_nl 3 50 = none ∧ mn_ma 3 50 = some 0 := by decide +kernel
theorem b_X3_dayThatParts_0 {h h' : mn_H} {r : Option Value} : mn_E 33 0 [.ref 10, .null, .null, .null, .null, .null] [] h r h' ↔ mn_E 33 9 [.ref 10, .int (-1), .int (h 10 5), .int 0, .null, .null] [] h r h' :=
  (mX_iconst d_X3_dayThatParts_0 ci_m1).trans <| (mX_istore_n (ls' := [.ref 10, .int (-1), .null, .null, .null, .null]) d_X3_dayThatParts_1 rfl rfl).trans <| (mX_aload_n d_X3_dayThatParts_2 rfl).trans <| (mG_i d_X3_dayThatParts_3 fi_33_34 rfl (by decide)).trans <| (mX_istore_n (ls' := [.ref 10, .int (-1), .int (h 10 5), .null, .null, .null]) d_X3_dayThatParts_6 rfl rfl).trans <| (mX_iconst d_X3_dayThatParts_7 ci_0).trans <| mX_istore_n (ls' := [.ref 10, .int (-1), .int (h 10 5), .int 0, .null, .null]) d_X3_dayThatParts_8 rfl rfl
theorem b_X3_dayThatParts_9 {x1 x2 x3 : Int32} {h h' : mn_H} {r : Option Value} : mn_E 33 9 [.ref 10, .int x1, .int x2, .int x3, .null, .null] [] h r h' ↔ if (64 : Int32) ≤ x3 then mn_E 33 53 [.ref 10, .int x1, .int x2, .int x3, .null, .null] [] h r h' else mn_E 33 15 [.ref 10, .int x1, .int x2, .int x3, .null, .null] [] h r h' :=
  (mX_iload_n d_X3_dayThatParts_9 rfl).trans <| (mX_bipush d_X3_dayThatParts_10 cb_64).trans <| mX_icmp_ge d_X3_dayThatParts_12 rfl
theorem b_X3_dayThatParts_15 {x1 x2 x3 : Int32} {h h' : mn_H} {r : Option Value} : mn_E 33 15 [.ref 10, .int x1, .int x2, .int x3, .null, .null] [] h r h' ↔ ∃ x h1, mn_X 34 [.ref 10, .int x3] h (some (.int x)) h1 ∧ mn_E 33 20 [.ref 10, .int x1, .int x2, .int x3, .null, .null] [.int x] h1 r h' :=
  (mX_aload_n d_X3_dayThatParts_15 rfl).trans <| (mX_iload_n d_X3_dayThatParts_16 rfl).trans <| mV_i (a := 10) (vs := [.int x3]) (st' := []) d_X3_dayThatParts_17 cv_33_46 (Or.inl rfl) (Nat.le_of_ble_eq_true rfl) rfl rfl rfl rfl
theorem b_X3_dayThatParts_20 {x1 x2 x3 s0 : Int32} {h h' : mn_H} {r : Option Value} : mn_E 33 20 [.ref 10, .int x1, .int x2, .int x3, .null, .null] [.int s0] h r h' ↔ if x2 ≤ (if s0 < ((h 10 5) - s0) then ((h 10 5) - s0) else s0) then mn_E 33 47 [.ref 10, .int x1, .int x2, .int x3, .int s0, .int (if s0 < ((h 10 5) - s0) then ((h 10 5) - s0) else s0)] [] h r h' else mn_E 33 42 [.ref 10, .int x1, .int x2, .int x3, .int s0, .int (if s0 < ((h 10 5) - s0) then ((h 10 5) - s0) else s0)] [] h r h' :=
  (mX_istore (ls' := [.ref 10, .int x1, .int x2, .int x3, .int s0, .null]) d_X3_dayThatParts_20 rfl rfl).trans <| (mX_iload d_X3_dayThatParts_22 rfl).trans <| (mX_aload_n d_X3_dayThatParts_24 rfl).trans <| (mG_i d_X3_dayThatParts_25 fi_33_34 rfl (by decide)).trans <| (mX_iload d_X3_dayThatParts_28 rfl).trans <| (mX_isub d_X3_dayThatParts_30).trans <| (mX_max d_X3_dayThatParts_31 mo_33 ma_3_50 (by decide)).trans <| (mX_istore (ls' := [.ref 10, .int x1, .int x2, .int x3, .int s0, .int (if s0 < ((h 10 5) - s0) then ((h 10 5) - s0) else s0)]) d_X3_dayThatParts_34 rfl rfl).trans <| (mX_iload d_X3_dayThatParts_36 rfl).trans <| (mX_iload_n d_X3_dayThatParts_38 rfl).trans <| mX_icmp_ge d_X3_dayThatParts_39 rfl
theorem b_X3_dayThatParts_42 {x1 x2 x3 x4 x5 : Int32} {h h' : mn_H} {r : Option Value} : mn_E 33 42 [.ref 10, .int x1, .int x2, .int x3, .int x4, .int x5] [] h r h' ↔ mn_E 33 47 [.ref 10, .int x3, .int x5, .int x3, .int x4, .int x5] [] h r h' :=
  (mX_iload d_X3_dayThatParts_42 rfl).trans <| (mX_istore_n (ls' := [.ref 10, .int x1, .int x5, .int x3, .int x4, .int x5]) d_X3_dayThatParts_44 rfl rfl).trans <| (mX_iload_n d_X3_dayThatParts_45 rfl).trans <| mX_istore_n (ls' := [.ref 10, .int x3, .int x5, .int x3, .int x4, .int x5]) d_X3_dayThatParts_46 rfl rfl
theorem b_X3_dayThatParts_47 {x1 x2 x3 x4 x5 : Int32} {h h' : mn_H} {r : Option Value} : mn_E 33 47 [.ref 10, .int x1, .int x2, .int x3, .int x4, .int x5] [] h r h' ↔ mn_E 33 9 [.ref 10, .int x1, .int x2, .int (x3 + 1), .int x4, .int x5] [] h r h' :=
  (mX_iinc (ls' := [.ref 10, .int x1, .int x2, .int (x3 + 1), .int x4, .int x5]) d_X3_dayThatParts_47 rfl ci_1 rfl rfl).trans <| mX_goto d_X3_dayThatParts_50 rfl
theorem b_X3_dayThatParts_53 {x1 x2 x3 : Int32} {h h' : mn_H} {r : Option Value} : mn_E 33 53 [.ref 10, .int x1, .int x2, .int x3, .null, .null] [] h r h' ↔ r = some (.int x1) ∧ h' = h :=
  (mX_iload_n d_X3_dayThatParts_53 rfl).trans <| mX_iret d_X3_dayThatParts_54 rfl
-- X3_countRinging
theorem mo_34 : mO 34 = 3 := rfl
theorem d_X3_countRinging_0 : decode (mC 34) 0 = .ok (.iconst 0, 1) := by decide +kernel
theorem d_X3_countRinging_1 : decode (mC 34) 1 = .ok (.istore_n 2, 1) := by decide +kernel
theorem d_X3_countRinging_2 : decode (mC 34) 2 = .ok (.iconst 0, 1) := by decide +kernel
theorem d_X3_countRinging_3 : decode (mC 34) 3 = .ok (.istore_n 3, 1) := by decide +kernel
theorem d_X3_countRinging_4 : decode (mC 34) 4 = .ok (.iload_n 3, 1) := by decide +kernel
theorem d_X3_countRinging_5 : decode (mC 34) 5 = .ok (.aload_n 0, 1) := by decide +kernel
theorem d_X3_countRinging_6 : decode (mC 34) 6 = .ok (.getfield 34, 3) := by decide +kernel
theorem d_X3_countRinging_9 : decode (mC 34) 9 = .ok (.if_icmp .ge 50, 3) := by decide +kernel
theorem d_X3_countRinging_12 : decode (mC 34) 12 = .ok (.aload_n 0, 1) := by decide +kernel
theorem d_X3_countRinging_13 : decode (mC 34) 13 = .ok (.getfield 25, 3) := by decide +kernel
theorem d_X3_countRinging_16 : decode (mC 34) 16 = .ok (.iload_n 3, 1) := by decide +kernel
theorem d_X3_countRinging_17 : decode (mC 34) 17 = .ok (.iaload, 1) := by decide +kernel
theorem d_X3_countRinging_18 : decode (mC 34) 18 = .ok (.bipush 100, 2) := by decide +kernel
theorem d_X3_countRinging_20 : decode (mC 34) 20 = .ok (.idiv, 1) := by decide +kernel
theorem d_X3_countRinging_21 : decode (mC 34) 21 = .ok (.aload_n 0, 1) := by decide +kernel
theorem d_X3_countRinging_22 : decode (mC 34) 22 = .ok (.getfield 25, 3) := by decide +kernel
theorem d_X3_countRinging_25 : decode (mC 34) 25 = .ok (.iload_n 3, 1) := by decide +kernel
theorem d_X3_countRinging_26 : decode (mC 34) 26 = .ok (.iaload, 1) := by decide +kernel
theorem d_X3_countRinging_27 : decode (mC 34) 27 = .ok (.bipush 10, 2) := by decide +kernel
theorem d_X3_countRinging_29 : decode (mC 34) 29 = .ok (.idiv, 1) := by decide +kernel
theorem d_X3_countRinging_30 : decode (mC 34) 30 = .ok (.bipush 10, 2) := by decide +kernel
theorem d_X3_countRinging_32 : decode (mC 34) 32 = .ok (.irem, 1) := by decide +kernel
theorem d_X3_countRinging_33 : decode (mC 34) 33 = .ok (.aload_n 0, 1) := by decide +kernel
theorem d_X3_countRinging_34 : decode (mC 34) 34 = .ok (.getfield 25, 3) := by decide +kernel
theorem d_X3_countRinging_37 : decode (mC 34) 37 = .ok (.iload_n 3, 1) := by decide +kernel
theorem d_X3_countRinging_38 : decode (mC 34) 38 = .ok (.iaload, 1) := by decide +kernel
theorem d_X3_countRinging_39 : decode (mC 34) 39 = .ok (.bipush 10, 2) := by decide +kernel
theorem d_X3_countRinging_41 : decode (mC 34) 41 = .ok (.irem, 1) := by decide +kernel
theorem d_X3_countRinging_42 : decode (mC 34) 42 = .ok (.iconst 0, 1) := by decide +kernel
theorem d_X3_countRinging_43 : decode (mC 34) 43 = .ok (.iload_n 1, 1) := by decide +kernel
theorem d_X3_countRinging_44 : decode (mC 34) 44 = .ok (.invokestatic 42, 3) := by decide +kernel
theorem d_X3_countRinging_47 : decode (mC 34) 47 = .ok (.ifCond .eq 6, 3) := by decide +kernel
theorem d_X3_countRinging_50 : decode (mC 34) 50 = .ok (.iinc 2 1, 3) := by decide +kernel
theorem d_X3_countRinging_53 : decode (mC 34) 53 = .ok (.iinc 3 1, 3) := by decide +kernel
theorem d_X3_countRinging_56 : decode (mC 34) 56 = .ok (.goto (-52), 3) := by decide +kernel
theorem d_X3_countRinging_59 : decode (mC 34) 59 = .ok (.iload_n 2, 1) := by decide +kernel
theorem d_X3_countRinging_60 : decode (mC 34) 60 = .ok (.ireturn, 1) := by decide +kernel
theorem fi_34_34 : mn_fi 34 3 34 3 5 = true := by decide +kernel
theorem fr_34_25 : mn_fr 34 3 25 3 4 = true := by decide +kernel
theorem cs_34_42 : mn_cs 34 3 42 113 = true := by decide +kernel
theorem b_X3_countRinging_0 {x1 : Int32} {h h' : mn_H} {r : Option Value} : mn_E 34 0 [.ref 10, .int x1, .null, .null] [] h r h' ↔ mn_E 34 4 [.ref 10, .int x1, .int 0, .int 0] [] h r h' :=
  (mX_iconst d_X3_countRinging_0 ci_0).trans <| (mX_istore_n (ls' := [.ref 10, .int x1, .int 0, .null]) d_X3_countRinging_1 rfl rfl).trans <| (mX_iconst d_X3_countRinging_2 ci_0).trans <| mX_istore_n (ls' := [.ref 10, .int x1, .int 0, .int 0]) d_X3_countRinging_3 rfl rfl
theorem b_X3_countRinging_4 {x1 x2 x3 : Int32} {h h' : mn_H} {r : Option Value} : mn_E 34 4 [.ref 10, .int x1, .int x2, .int x3] [] h r h' ↔ if (h 10 5) ≤ x3 then mn_E 34 59 [.ref 10, .int x1, .int x2, .int x3] [] h r h' else mn_E 34 12 [.ref 10, .int x1, .int x2, .int x3] [] h r h' :=
  (mX_iload_n d_X3_countRinging_4 rfl).trans <| (mX_aload_n d_X3_countRinging_5 rfl).trans <| (mG_i d_X3_countRinging_6 fi_34_34 rfl (by decide)).trans <| mX_icmp_ge d_X3_countRinging_9 rfl
theorem b_X3_countRinging_12 {x1 x2 x3 : Int32} {h h' : mn_H} {r : Option Value} (hy0 : vp_in x3 48) : mn_E 34 12 [.ref 10, .int x1, .int x2, .int x3] [] h r h' ↔ ∃ x h1, mn_X 113 [.int ((h 15 x3.toNatClampNeg) / 100), .int (((h 15 x3.toNatClampNeg) / 10) - ((h 15 x3.toNatClampNeg) / 10) / 10 * 10), .int ((h 15 x3.toNatClampNeg) - (h 15 x3.toNatClampNeg) / 10 * 10), .int 0, .int x1] h (some (.int x)) h1 ∧ mn_E 34 47 [.ref 10, .int x1, .int x2, .int x3] [.int x] h1 r h' :=
  (mX_aload_n d_X3_countRinging_12 rfl).trans <| (mG_r (b := 15) d_X3_countRinging_13 fr_34_25 rfl (by decide) rfl).trans <| (mX_iload_n d_X3_countRinging_16 rfl).trans <| (mX_iaload d_X3_countRinging_17 rfl (by decide) hy0).trans <| (mX_bipush d_X3_countRinging_18 cb_100).trans <| (mX_idiv d_X3_countRinging_20 (by decide)).trans <| (mX_aload_n d_X3_countRinging_21 rfl).trans <| (mG_r (b := 15) d_X3_countRinging_22 fr_34_25 rfl (by decide) rfl).trans <| (mX_iload_n d_X3_countRinging_25 rfl).trans <| (mX_iaload d_X3_countRinging_26 rfl (by decide) hy0).trans <| (mX_bipush d_X3_countRinging_27 cb_10).trans <| (mX_idiv d_X3_countRinging_29 (by decide)).trans <| (mX_bipush d_X3_countRinging_30 cb_10).trans <| (mX_irem d_X3_countRinging_32 (by decide)).trans <| (mX_aload_n d_X3_countRinging_33 rfl).trans <| (mG_r (b := 15) d_X3_countRinging_34 fr_34_25 rfl (by decide) rfl).trans <| (mX_iload_n d_X3_countRinging_37 rfl).trans <| (mX_iaload d_X3_countRinging_38 rfl (by decide) hy0).trans <| (mX_bipush d_X3_countRinging_39 cb_10).trans <| (mX_irem d_X3_countRinging_41 (by decide)).trans <| (mX_iconst d_X3_countRinging_42 ci_0).trans <| (mX_iload_n d_X3_countRinging_43 rfl).trans <| mS_i (vs := [.int ((h 15 x3.toNatClampNeg) / 100), .int (((h 15 x3.toNatClampNeg) / 10) - ((h 15 x3.toNatClampNeg) / 10) / 10 * 10), .int ((h 15 x3.toNatClampNeg) - (h 15 x3.toNatClampNeg) / 10 * 10), .int 0, .int x1]) (st' := []) d_X3_countRinging_44 cs_34_42 (Or.inr (Or.inl rfl)) (Nat.le_of_ble_eq_true rfl) rfl rfl rfl
theorem b_X3_countRinging_47 {x1 x2 x3 s0 : Int32} {h h' : mn_H} {r : Option Value} : mn_E 34 47 [.ref 10, .int x1, .int x2, .int x3] [.int s0] h r h' ↔ if s0 = 0 then mn_E 34 53 [.ref 10, .int x1, .int x2, .int x3] [] h r h' else mn_E 34 50 [.ref 10, .int x1, .int x2, .int x3] [] h r h' :=
  mX_if_eq d_X3_countRinging_47 rfl
theorem b_X3_countRinging_50 {x1 x2 x3 : Int32} {h h' : mn_H} {r : Option Value} : mn_E 34 50 [.ref 10, .int x1, .int x2, .int x3] [] h r h' ↔ mn_E 34 53 [.ref 10, .int x1, .int (x2 + 1), .int x3] [] h r h' :=
  mX_iinc (ls' := [.ref 10, .int x1, .int (x2 + 1), .int x3]) d_X3_countRinging_50 rfl ci_1 rfl rfl
theorem b_X3_countRinging_53 {x1 x2 x3 : Int32} {h h' : mn_H} {r : Option Value} : mn_E 34 53 [.ref 10, .int x1, .int x2, .int x3] [] h r h' ↔ mn_E 34 4 [.ref 10, .int x1, .int x2, .int (x3 + 1)] [] h r h' :=
  (mX_iinc (ls' := [.ref 10, .int x1, .int x2, .int (x3 + 1)]) d_X3_countRinging_53 rfl ci_1 rfl rfl).trans <| mX_goto d_X3_countRinging_56 rfl
theorem b_X3_countRinging_59 {x1 x2 x3 : Int32} {h h' : mn_H} {r : Option Value} : mn_E 34 59 [.ref 10, .int x1, .int x2, .int x3] [] h r h' ↔ r = some (.int x2) ∧ h' = h :=
  (mX_iload_n d_X3_countRinging_59 rfl).trans <| mX_iret d_X3_countRinging_60 rfl
-- X4_size
theorem mo_35 : mO 35 = 4 := rfl
theorem d_X4_size_0 : decode (mC 35) 0 = .ok (.aload_n 0, 1) := by decide +kernel
theorem d_X4_size_1 : decode (mC 35) 1 = .ok (.getfield 27, 3) := by decide +kernel
theorem d_X4_size_4 : decode (mC 35) 4 = .ok (.ireturn, 1) := by decide +kernel
theorem fi_35_27 : mn_fi 35 4 27 4 3 = true := by decide +kernel
theorem b_X4_size_0 {a0 : Nat} {h h' : mn_H} {r : Option Value} (ha0 : mn_isQ a0) : mn_E 35 0 [.ref a0] [] h r h' ↔ r = some (.int (h a0 3)) ∧ h' = h :=
  (mX_aload_n d_X4_size_0 rfl).trans <| (mG_i d_X4_size_1 fi_35_27 (mn_shQ0 ha0) (mn_ltQ0 ha0)).trans <| mX_iret d_X4_size_4 rfl
-- X4_isFull
theorem mo_36 : mO 36 = 4 := rfl
theorem d_X4_isFull_0 : decode (mC 36) 0 = .ok (.aload_n 0, 1) := by decide +kernel
theorem d_X4_isFull_1 : decode (mC 36) 1 = .ok (.getfield 27, 3) := by decide +kernel
theorem d_X4_isFull_4 : decode (mC 36) 4 = .ok (.aload_n 0, 1) := by decide +kernel
theorem d_X4_isFull_5 : decode (mC 36) 5 = .ok (.getfield 24, 3) := by decide +kernel
theorem d_X4_isFull_8 : decode (mC 36) 8 = .ok (.arraylength, 1) := by decide +kernel
theorem d_X4_isFull_9 : decode (mC 36) 9 = .ok (.if_icmp .lt 7, 3) := by decide +kernel
theorem d_X4_isFull_12 : decode (mC 36) 12 = .ok (.iconst 1, 1) := by decide +kernel
theorem d_X4_isFull_13 : decode (mC 36) 13 = .ok (.goto 4, 3) := by decide +kernel
theorem d_X4_isFull_16 : decode (mC 36) 16 = .ok (.iconst 0, 1) := by decide +kernel
theorem d_X4_isFull_17 : decode (mC 36) 17 = .ok (.ireturn, 1) := by decide +kernel
theorem fi_36_27 : mn_fi 36 4 27 4 3 = true := by decide +kernel
theorem fr_36_24 : mn_fr 36 4 24 4 2 = true := by decide +kernel
theorem b_X4_isFull_0 {a0 : Nat} {h h' : mn_H} {r : Option Value} (ha0 : mn_isQ a0) : mn_E 36 0 [.ref a0] [] h r h' ↔ if (h a0 3) < (nI (mn_qn a0)) then mn_E 36 16 [.ref a0] [] h r h' else mn_E 36 12 [.ref a0] [] h r h' :=
  (mX_aload_n d_X4_isFull_0 rfl).trans <| (mG_i d_X4_isFull_1 fi_36_27 (mn_shQ0 ha0) (mn_ltQ0 ha0)).trans <| (mX_aload_n d_X4_isFull_4 rfl).trans <| (mG_r (b := (a0 + 3)) d_X4_isFull_5 fr_36_24 (mn_shQ0 ha0) (mn_ltQ0 ha0) (mn_rfQ2 ha0 _)).trans <| (mX_alen (n := (mn_qn a0)) (v := nI (mn_qn a0)) d_X4_isFull_8 (by rw [(mn_shQ3 ha0)]) (Or.inl ⟨(mn_ltQ ha0 (by decide)), by rw [(mn_shQ3 ha0)]⟩) rfl).trans <| mX_icmp_lt d_X4_isFull_9 rfl
theorem b_X4_isFull_12 {a0 : Nat} {h h' : mn_H} {r : Option Value} (ha0 : mn_isQ a0) : mn_E 36 12 [.ref a0] [] h r h' ↔ mn_E 36 17 [.ref a0] [.int 1] h r h' :=
  (mX_iconst d_X4_isFull_12 ci_1).trans <| mX_goto d_X4_isFull_13 rfl
theorem b_X4_isFull_16 {a0 : Nat} {h h' : mn_H} {r : Option Value} (ha0 : mn_isQ a0) : mn_E 36 16 [.ref a0] [] h r h' ↔ mn_E 36 17 [.ref a0] [.int 0] h r h' :=
  mX_iconst d_X4_isFull_16 ci_0
theorem b_X4_isFull_17 {s0 : Int32} {a0 : Nat} {h h' : mn_H} {r : Option Value} (ha0 : mn_isQ a0) (hy1 : s0 = 0 ∨ s0 = 1) : mn_E 36 17 [.ref a0] [.int s0] h r h' ↔ r = some (.int s0) ∧ h' = h :=
  mX_zret d_X4_isFull_17 rfl hy1
-- X4_forgetAll
theorem mo_37 : mO 37 = 4 := rfl
theorem d_X4_forgetAll_0 : decode (mC 37) 0 = .ok (.aload_n 0, 1) := by decide +kernel
theorem d_X4_forgetAll_1 : decode (mC 37) 1 = .ok (.iconst 0, 1) := by decide +kernel
theorem d_X4_forgetAll_2 : decode (mC 37) 2 = .ok (.putfield 27, 3) := by decide +kernel
theorem d_X4_forgetAll_5 : decode (mC 37) 5 = .ok (.return_, 1) := by decide +kernel
theorem fi_37_27 : mn_fi 37 4 27 4 3 = true := by decide +kernel
theorem b_X4_forgetAll_0 {a0 : Nat} {h h' : mn_H} {r : Option Value} (ha0 : mn_isQ a0) : mn_E 37 0 [.ref a0] [] h r h' ↔ r = none ∧ h' = mn_up h a0 3 0 :=
  (mX_aload_n d_X4_forgetAll_0 rfl).trans <| (mX_iconst d_X4_forgetAll_1 ci_0).trans <| (mP_i d_X4_forgetAll_2 fi_37_27 (mn_shQ0 ha0) (mn_ltQ0 ha0) rfl (Or.inl (by decide))).trans <| mX_vret d_X4_forgetAll_5 rfl
-- X4_add
theorem mo_38 : mO 38 = 4 := rfl
theorem d_X4_add_0 : decode (mC 38) 0 = .ok (.aload_n 0, 1) := by decide +kernel
theorem d_X4_add_1 : decode (mC 38) 1 = .ok (.invokevirtual 31, 3) := by decide +kernel
theorem d_X4_add_4 : decode (mC 38) 4 = .ok (.ifCond .ne 43, 3) := by decide +kernel
theorem d_X4_add_7 : decode (mC 38) 7 = .ok (.aload_n 0, 1) := by decide +kernel
theorem d_X4_add_8 : decode (mC 38) 8 = .ok (.getfield 15, 3) := by decide +kernel
theorem d_X4_add_11 : decode (mC 38) 11 = .ok (.aload_n 0, 1) := by decide +kernel
theorem d_X4_add_12 : decode (mC 38) 12 = .ok (.getfield 27, 3) := by decide +kernel
theorem d_X4_add_15 : decode (mC 38) 15 = .ok (.iload_n 1, 1) := by decide +kernel
theorem d_X4_add_16 : decode (mC 38) 16 = .ok (.iastore, 1) := by decide +kernel
theorem d_X4_add_17 : decode (mC 38) 17 = .ok (.aload_n 0, 1) := by decide +kernel
theorem d_X4_add_18 : decode (mC 38) 18 = .ok (.getfield 21, 3) := by decide +kernel
theorem d_X4_add_21 : decode (mC 38) 21 = .ok (.aload_n 0, 1) := by decide +kernel
theorem d_X4_add_22 : decode (mC 38) 22 = .ok (.getfield 27, 3) := by decide +kernel
theorem d_X4_add_25 : decode (mC 38) 25 = .ok (.iload_n 2, 1) := by decide +kernel
theorem d_X4_add_26 : decode (mC 38) 26 = .ok (.iastore, 1) := by decide +kernel
theorem d_X4_add_27 : decode (mC 38) 27 = .ok (.aload_n 0, 1) := by decide +kernel
theorem d_X4_add_28 : decode (mC 38) 28 = .ok (.getfield 24, 3) := by decide +kernel
theorem d_X4_add_31 : decode (mC 38) 31 = .ok (.aload_n 0, 1) := by decide +kernel
theorem d_X4_add_32 : decode (mC 38) 32 = .ok (.getfield 27, 3) := by decide +kernel
theorem d_X4_add_35 : decode (mC 38) 35 = .ok (.iload_n 3, 1) := by decide +kernel
theorem d_X4_add_36 : decode (mC 38) 36 = .ok (.iastore, 1) := by decide +kernel
theorem d_X4_add_37 : decode (mC 38) 37 = .ok (.aload_n 0, 1) := by decide +kernel
theorem d_X4_add_38 : decode (mC 38) 38 = .ok (.dup, 1) := by decide +kernel
theorem d_X4_add_39 : decode (mC 38) 39 = .ok (.getfield 27, 3) := by decide +kernel
theorem d_X4_add_42 : decode (mC 38) 42 = .ok (.iconst 1, 1) := by decide +kernel
theorem d_X4_add_43 : decode (mC 38) 43 = .ok (.iadd, 1) := by decide +kernel
theorem d_X4_add_44 : decode (mC 38) 44 = .ok (.putfield 27, 3) := by decide +kernel
theorem d_X4_add_47 : decode (mC 38) 47 = .ok (.return_, 1) := by decide +kernel
theorem cv_38_31 : mn_cvt 38 4 31 36 = true := by decide +kernel
theorem fr_38_15 : mn_fr 38 4 15 4 0 = true := by decide +kernel
theorem fi_38_27 : mn_fi 38 4 27 4 3 = true := by decide +kernel
theorem fr_38_21 : mn_fr 38 4 21 4 1 = true := by decide +kernel
theorem fr_38_24 : mn_fr 38 4 24 4 2 = true := by decide +kernel
theorem b_X4_add_0 {x1 x2 x3 : Int32} {a0 : Nat} {h h' : mn_H} {r : Option Value} (ha0 : mn_isQ a0) : mn_E 38 0 [.ref a0, .int x1, .int x2, .int x3] [] h r h' ↔ ∃ x h1, mn_X 36 [.ref a0] h (some (.int x)) h1 ∧ mn_E 38 4 [.ref a0, .int x1, .int x2, .int x3] [.int x] h1 r h' :=
  (mX_aload_n d_X4_add_0 rfl).trans <| mV_i (a := a0) (vs := []) (st' := []) d_X4_add_1 cv_38_31 (Or.inr (Or.inl rfl)) (Nat.le_of_ble_eq_true rfl) rfl rfl (mn_shQ0 ha0) rfl
theorem b_X4_add_4 {x1 x2 x3 s0 : Int32} {a0 : Nat} {h h' : mn_H} {r : Option Value} (ha0 : mn_isQ a0) : mn_E 38 4 [.ref a0, .int x1, .int x2, .int x3] [.int s0] h r h' ↔ if ¬ s0 = 0 then mn_E 38 47 [.ref a0, .int x1, .int x2, .int x3] [] h r h' else mn_E 38 7 [.ref a0, .int x1, .int x2, .int x3] [] h r h' :=
  mX_if_ne d_X4_add_4 rfl
theorem b_X4_add_7 {x1 x2 x3 : Int32} {a0 : Nat} {h h' : mn_H} {r : Option Value} (ha0 : mn_isQ a0) (hy1 : vp_in (h a0 3) (mn_qn a0)) (hy2 : vp_in ((mn_up h (a0 + 1) ((h a0 3).toNatClampNeg) x1) a0 3) (mn_qn a0)) (hy3 : vp_in ((mn_up (mn_up h (a0 + 1) ((h a0 3).toNatClampNeg) x1) (a0 + 2) (((mn_up h (a0 + 1) ((h a0 3).toNatClampNeg) x1) a0 3).toNatClampNeg) x2) a0 3) (mn_qn a0)) : mn_E 38 7 [.ref a0, .int x1, .int x2, .int x3] [] h r h' ↔ mn_E 38 47 [.ref a0, .int x1, .int x2, .int x3] [] (mn_up (mn_up (mn_up (mn_up h (a0 + 1) ((h a0 3).toNatClampNeg) x1) (a0 + 2) (((mn_up h (a0 + 1) ((h a0 3).toNatClampNeg) x1) a0 3).toNatClampNeg) x2) (a0 + 3) (((mn_up (mn_up h (a0 + 1) ((h a0 3).toNatClampNeg) x1) (a0 + 2) (((mn_up h (a0 + 1) ((h a0 3).toNatClampNeg) x1) a0 3).toNatClampNeg) x2) a0 3).toNatClampNeg) x3) a0 3 (((mn_up (mn_up (mn_up h (a0 + 1) ((h a0 3).toNatClampNeg) x1) (a0 + 2) (((mn_up h (a0 + 1) ((h a0 3).toNatClampNeg) x1) a0 3).toNatClampNeg) x2) (a0 + 3) (((mn_up (mn_up h (a0 + 1) ((h a0 3).toNatClampNeg) x1) (a0 + 2) (((mn_up h (a0 + 1) ((h a0 3).toNatClampNeg) x1) a0 3).toNatClampNeg) x2) a0 3).toNatClampNeg) x3) a0 3) + 1)) r h' :=
  (mX_aload_n d_X4_add_7 rfl).trans <| (mG_r (b := (a0 + 1)) d_X4_add_8 fr_38_15 (mn_shQ0 ha0) (mn_ltQ0 ha0) (mn_rfQ0 ha0 _)).trans <| (mX_aload_n d_X4_add_11 rfl).trans <| (mG_i d_X4_add_12 fi_38_27 (mn_shQ0 ha0) (mn_ltQ0 ha0)).trans <| (mX_iload_n d_X4_add_15 rfl).trans <| (mX_iastore d_X4_add_16 (mn_shQ1 ha0) (mn_ltQ ha0 (by decide)) hy1).trans <| (mX_aload_n d_X4_add_17 rfl).trans <| (mG_r (b := (a0 + 2)) d_X4_add_18 fr_38_21 (mn_shQ0 ha0) (mn_ltQ0 ha0) (mn_rfQ1 ha0 _)).trans <| (mX_aload_n d_X4_add_21 rfl).trans <| (mG_i d_X4_add_22 fi_38_27 (mn_shQ0 ha0) (mn_ltQ0 ha0)).trans <| (mX_iload_n d_X4_add_25 rfl).trans <| (mX_iastore d_X4_add_26 (mn_shQ2 ha0) (mn_ltQ ha0 (by decide)) hy2).trans <| (mX_aload_n d_X4_add_27 rfl).trans <| (mG_r (b := (a0 + 3)) d_X4_add_28 fr_38_24 (mn_shQ0 ha0) (mn_ltQ0 ha0) (mn_rfQ2 ha0 _)).trans <| (mX_aload_n d_X4_add_31 rfl).trans <| (mG_i d_X4_add_32 fi_38_27 (mn_shQ0 ha0) (mn_ltQ0 ha0)).trans <| (mX_iload_n d_X4_add_35 rfl).trans <| (mX_iastore d_X4_add_36 (mn_shQ3 ha0) (mn_ltQ ha0 (by decide)) hy3).trans <| (mX_aload_n d_X4_add_37 rfl).trans <| (mX_dup d_X4_add_38 rfl).trans <| (mG_i d_X4_add_39 fi_38_27 (mn_shQ0 ha0) (mn_ltQ0 ha0)).trans <| (mX_iconst d_X4_add_42 ci_1).trans <| (mX_iadd d_X4_add_43).trans <| mP_i d_X4_add_44 fi_38_27 (mn_shQ0 ha0) (mn_ltQ0 ha0) rfl (Or.inl (by decide))
theorem b_X4_add_47 {x1 x2 x3 : Int32} {a0 : Nat} {h h' : mn_H} {r : Option Value} (ha0 : mn_isQ a0) : mn_E 38 47 [.ref a0, .int x1, .int x2, .int x3] [] h r h' ↔ r = none ∧ h' = h :=
  mX_vret d_X4_add_47 rfl
-- X4_metBy
theorem mo_39 : mO 39 = 4 := rfl
theorem d_X4_metBy_0 : decode (mC 39) 0 = .ok (.iconst 0, 1) := by decide +kernel
theorem d_X4_metBy_1 : decode (mC 39) 1 = .ok (.istore_n 2, 1) := by decide +kernel
theorem d_X4_metBy_2 : decode (mC 39) 2 = .ok (.iconst 0, 1) := by decide +kernel
theorem d_X4_metBy_3 : decode (mC 39) 3 = .ok (.istore_n 3, 1) := by decide +kernel
theorem d_X4_metBy_4 : decode (mC 39) 4 = .ok (.iload_n 3, 1) := by decide +kernel
theorem d_X4_metBy_5 : decode (mC 39) 5 = .ok (.aload_n 0, 1) := by decide +kernel
theorem d_X4_metBy_6 : decode (mC 39) 6 = .ok (.getfield 27, 3) := by decide +kernel
theorem d_X4_metBy_9 : decode (mC 39) 9 = .ok (.if_icmp .ge 37, 3) := by decide +kernel
theorem d_X4_metBy_12 : decode (mC 39) 12 = .ok (.aload_n 1, 1) := by decide +kernel
theorem d_X4_metBy_13 : decode (mC 39) 13 = .ok (.aload_n 0, 1) := by decide +kernel
theorem d_X4_metBy_14 : decode (mC 39) 14 = .ok (.getfield 21, 3) := by decide +kernel
theorem d_X4_metBy_17 : decode (mC 39) 17 = .ok (.iload_n 3, 1) := by decide +kernel
theorem d_X4_metBy_18 : decode (mC 39) 18 = .ok (.iaload, 1) := by decide +kernel
theorem d_X4_metBy_19 : decode (mC 39) 19 = .ok (.iaload, 1) := by decide +kernel
theorem d_X4_metBy_20 : decode (mC 39) 20 = .ok (.aload_n 0, 1) := by decide +kernel
theorem d_X4_metBy_21 : decode (mC 39) 21 = .ok (.getfield 24, 3) := by decide +kernel
theorem d_X4_metBy_24 : decode (mC 39) 24 = .ok (.iload_n 3, 1) := by decide +kernel
theorem d_X4_metBy_25 : decode (mC 39) 25 = .ok (.iaload, 1) := by decide +kernel
theorem d_X4_metBy_26 : decode (mC 39) 26 = .ok (.if_icmp .lt 14, 3) := by decide +kernel
theorem d_X4_metBy_29 : decode (mC 39) 29 = .ok (.iload_n 2, 1) := by decide +kernel
theorem d_X4_metBy_30 : decode (mC 39) 30 = .ok (.iconst 1, 1) := by decide +kernel
theorem d_X4_metBy_31 : decode (mC 39) 31 = .ok (.aload_n 0, 1) := by decide +kernel
theorem d_X4_metBy_32 : decode (mC 39) 32 = .ok (.getfield 15, 3) := by decide +kernel
theorem d_X4_metBy_35 : decode (mC 39) 35 = .ok (.iload_n 3, 1) := by decide +kernel
theorem d_X4_metBy_36 : decode (mC 39) 36 = .ok (.iaload, 1) := by decide +kernel
theorem d_X4_metBy_37 : decode (mC 39) 37 = .ok (.ishl, 1) := by decide +kernel
theorem d_X4_metBy_38 : decode (mC 39) 38 = .ok (.ior, 1) := by decide +kernel
theorem d_X4_metBy_39 : decode (mC 39) 39 = .ok (.istore_n 2, 1) := by decide +kernel
theorem d_X4_metBy_40 : decode (mC 39) 40 = .ok (.iinc 3 1, 3) := by decide +kernel
theorem d_X4_metBy_43 : decode (mC 39) 43 = .ok (.goto (-39), 3) := by decide +kernel
theorem d_X4_metBy_46 : decode (mC 39) 46 = .ok (.iload_n 2, 1) := by decide +kernel
theorem d_X4_metBy_47 : decode (mC 39) 47 = .ok (.ireturn, 1) := by decide +kernel
theorem fi_39_27 : mn_fi 39 4 27 4 3 = true := by decide +kernel
theorem fr_39_21 : mn_fr 39 4 21 4 1 = true := by decide +kernel
theorem fr_39_24 : mn_fr 39 4 24 4 2 = true := by decide +kernel
theorem fr_39_15 : mn_fr 39 4 15 4 0 = true := by decide +kernel
theorem b_X4_metBy_0 {a0 : Nat} {h h' : mn_H} {r : Option Value} (ha0 : mn_isQ a0) : mn_E 39 0 [.ref a0, .ref 17, .null, .null] [] h r h' ↔ mn_E 39 4 [.ref a0, .ref 17, .int 0, .int 0] [] h r h' :=
  (mX_iconst d_X4_metBy_0 ci_0).trans <| (mX_istore_n (ls' := [.ref a0, .ref 17, .int 0, .null]) d_X4_metBy_1 rfl rfl).trans <| (mX_iconst d_X4_metBy_2 ci_0).trans <| mX_istore_n (ls' := [.ref a0, .ref 17, .int 0, .int 0]) d_X4_metBy_3 rfl rfl
theorem b_X4_metBy_4 {x2 x3 : Int32} {a0 : Nat} {h h' : mn_H} {r : Option Value} (ha0 : mn_isQ a0) : mn_E 39 4 [.ref a0, .ref 17, .int x2, .int x3] [] h r h' ↔ if (h a0 3) ≤ x3 then mn_E 39 46 [.ref a0, .ref 17, .int x2, .int x3] [] h r h' else mn_E 39 12 [.ref a0, .ref 17, .int x2, .int x3] [] h r h' :=
  (mX_iload_n d_X4_metBy_4 rfl).trans <| (mX_aload_n d_X4_metBy_5 rfl).trans <| (mG_i d_X4_metBy_6 fi_39_27 (mn_shQ0 ha0) (mn_ltQ0 ha0)).trans <| mX_icmp_ge d_X4_metBy_9 rfl
theorem b_X4_metBy_12 {x2 x3 : Int32} {a0 : Nat} {h h' : mn_H} {r : Option Value} (ha0 : mn_isQ a0) (hy1 : vp_in x3 (mn_qn a0)) (hy2 : vp_in (h (a0 + 2) x3.toNatClampNeg) 7) : mn_E 39 12 [.ref a0, .ref 17, .int x2, .int x3] [] h r h' ↔ if (h 17 (h (a0 + 2) x3.toNatClampNeg).toNatClampNeg) < (h (a0 + 3) x3.toNatClampNeg) then mn_E 39 40 [.ref a0, .ref 17, .int x2, .int x3] [] h r h' else mn_E 39 29 [.ref a0, .ref 17, .int x2, .int x3] [] h r h' :=
  (mX_aload_n d_X4_metBy_12 rfl).trans <| (mX_aload_n d_X4_metBy_13 rfl).trans <| (mG_r (b := (a0 + 2)) d_X4_metBy_14 fr_39_21 (mn_shQ0 ha0) (mn_ltQ0 ha0) (mn_rfQ1 ha0 _)).trans <| (mX_iload_n d_X4_metBy_17 rfl).trans <| (mX_iaload d_X4_metBy_18 (mn_shQ2 ha0) (mn_ltQ ha0 (by decide)) hy1).trans <| (mX_iaload d_X4_metBy_19 rfl (by decide) hy2).trans <| (mX_aload_n d_X4_metBy_20 rfl).trans <| (mG_r (b := (a0 + 3)) d_X4_metBy_21 fr_39_24 (mn_shQ0 ha0) (mn_ltQ0 ha0) (mn_rfQ2 ha0 _)).trans <| (mX_iload_n d_X4_metBy_24 rfl).trans <| (mX_iaload d_X4_metBy_25 (mn_shQ3 ha0) (mn_ltQ ha0 (by decide)) hy1).trans <| mX_icmp_lt d_X4_metBy_26 rfl
theorem b_X4_metBy_29 {x2 x3 : Int32} {a0 : Nat} {h h' : mn_H} {r : Option Value} (ha0 : mn_isQ a0) (hy1 : vp_in x3 (mn_qn a0)) : mn_E 39 29 [.ref a0, .ref 17, .int x2, .int x3] [] h r h' ↔ mn_E 39 40 [.ref a0, .ref 17, .int (x2 ||| (1 <<< ((h (a0 + 1) x3.toNatClampNeg) &&& 31))), .int x3] [] h r h' :=
  (mX_iload_n d_X4_metBy_29 rfl).trans <| (mX_iconst d_X4_metBy_30 ci_1).trans <| (mX_aload_n d_X4_metBy_31 rfl).trans <| (mG_r (b := (a0 + 1)) d_X4_metBy_32 fr_39_15 (mn_shQ0 ha0) (mn_ltQ0 ha0) (mn_rfQ0 ha0 _)).trans <| (mX_iload_n d_X4_metBy_35 rfl).trans <| (mX_iaload d_X4_metBy_36 (mn_shQ1 ha0) (mn_ltQ ha0 (by decide)) hy1).trans <| (mX_ishl d_X4_metBy_37).trans <| (mX_ior d_X4_metBy_38).trans <| mX_istore_n (ls' := [.ref a0, .ref 17, .int (x2 ||| (1 <<< ((h (a0 + 1) x3.toNatClampNeg) &&& 31))), .int x3]) d_X4_metBy_39 rfl rfl
theorem b_X4_metBy_40 {x2 x3 : Int32} {a0 : Nat} {h h' : mn_H} {r : Option Value} (ha0 : mn_isQ a0) : mn_E 39 40 [.ref a0, .ref 17, .int x2, .int x3] [] h r h' ↔ mn_E 39 4 [.ref a0, .ref 17, .int x2, .int (x3 + 1)] [] h r h' :=
  (mX_iinc (ls' := [.ref a0, .ref 17, .int x2, .int (x3 + 1)]) d_X4_metBy_40 rfl ci_1 rfl rfl).trans <| mX_goto d_X4_metBy_43 rfl
theorem b_X4_metBy_46 {x2 x3 : Int32} {a0 : Nat} {h h' : mn_H} {r : Option Value} (ha0 : mn_isQ a0) : mn_E 39 46 [.ref a0, .ref 17, .int x2, .int x3] [] h r h' ↔ r = some (.int x2) ∧ h' = h :=
  (mX_iload_n d_X4_metBy_46 rfl).trans <| mX_iret d_X4_metBy_47 rfl
-- X4_gapAbove
theorem mo_40 : mO 40 = 4 := rfl
theorem d_X4_gapAbove_0 : decode (mC 40) 0 = .ok (.sipush 1000, 3) := by decide +kernel
theorem d_X4_gapAbove_3 : decode (mC 40) 3 = .ok (.istore_n 3, 1) := by decide +kernel
theorem d_X4_gapAbove_4 : decode (mC 40) 4 = .ok (.iconst 0, 1) := by decide +kernel
theorem d_X4_gapAbove_5 : decode (mC 40) 5 = .ok (.istore 4, 2) := by decide +kernel
theorem d_X4_gapAbove_7 : decode (mC 40) 7 = .ok (.iload 4, 2) := by decide +kernel
theorem d_X4_gapAbove_9 : decode (mC 40) 9 = .ok (.aload_n 0, 1) := by decide +kernel
theorem d_X4_gapAbove_10 : decode (mC 40) 10 = .ok (.getfield 27, 3) := by decide +kernel
theorem d_X4_gapAbove_13 : decode (mC 40) 13 = .ok (.if_icmp .ge 45, 3) := by decide +kernel
theorem d_X4_gapAbove_16 : decode (mC 40) 16 = .ok (.aload_n 0, 1) := by decide +kernel
theorem d_X4_gapAbove_17 : decode (mC 40) 17 = .ok (.getfield 21, 3) := by decide +kernel
theorem d_X4_gapAbove_20 : decode (mC 40) 20 = .ok (.iload 4, 2) := by decide +kernel
theorem d_X4_gapAbove_22 : decode (mC 40) 22 = .ok (.iaload, 1) := by decide +kernel
theorem d_X4_gapAbove_23 : decode (mC 40) 23 = .ok (.iload_n 1, 1) := by decide +kernel
theorem d_X4_gapAbove_24 : decode (mC 40) 24 = .ok (.if_icmp .ne 28, 3) := by decide +kernel
theorem d_X4_gapAbove_27 : decode (mC 40) 27 = .ok (.aload_n 0, 1) := by decide +kernel
theorem d_X4_gapAbove_28 : decode (mC 40) 28 = .ok (.getfield 24, 3) := by decide +kernel
theorem d_X4_gapAbove_31 : decode (mC 40) 31 = .ok (.iload 4, 2) := by decide +kernel
theorem d_X4_gapAbove_33 : decode (mC 40) 33 = .ok (.iaload, 1) := by decide +kernel
theorem d_X4_gapAbove_34 : decode (mC 40) 34 = .ok (.iload_n 2, 1) := by decide +kernel
theorem d_X4_gapAbove_35 : decode (mC 40) 35 = .ok (.if_icmp .le 17, 3) := by decide +kernel
theorem d_X4_gapAbove_38 : decode (mC 40) 38 = .ok (.iload_n 3, 1) := by decide +kernel
theorem d_X4_gapAbove_39 : decode (mC 40) 39 = .ok (.aload_n 0, 1) := by decide +kernel
theorem d_X4_gapAbove_40 : decode (mC 40) 40 = .ok (.getfield 24, 3) := by decide +kernel
theorem d_X4_gapAbove_43 : decode (mC 40) 43 = .ok (.iload 4, 2) := by decide +kernel
theorem d_X4_gapAbove_45 : decode (mC 40) 45 = .ok (.iaload, 1) := by decide +kernel
theorem d_X4_gapAbove_46 : decode (mC 40) 46 = .ok (.iload_n 2, 1) := by decide +kernel
theorem d_X4_gapAbove_47 : decode (mC 40) 47 = .ok (.isub, 1) := by decide +kernel
theorem d_X4_gapAbove_48 : decode (mC 40) 48 = .ok (.invokestatic 35, 3) := by decide +kernel
theorem d_X4_gapAbove_51 : decode (mC 40) 51 = .ok (.istore_n 3, 1) := by decide +kernel
theorem d_X4_gapAbove_52 : decode (mC 40) 52 = .ok (.iinc 4 1, 3) := by decide +kernel
theorem d_X4_gapAbove_55 : decode (mC 40) 55 = .ok (.goto (-48), 3) := by decide +kernel
theorem d_X4_gapAbove_58 : decode (mC 40) 58 = .ok (.iload_n 3, 1) := by decide +kernel
theorem d_X4_gapAbove_59 : decode (mC 40) 59 = .ok (.ireturn, 1) := by decide +kernel
theorem fi_40_27 : mn_fi 40 4 27 4 3 = true := by decide +kernel
theorem fr_40_21 : mn_fr 40 4 21 4 1 = true := by decide +kernel
theorem fr_40_24 : mn_fr 40 4 24 4 2 = true := by decide +kernel
theorem ma_4_35 : mn_ml 4 35 = none ∧ mn_nl 4 35 = none ∧ mn_ma 4 35 = some 1 := by decide +kernel
theorem b_X4_gapAbove_0 {x1 x2 : Int32} {a0 : Nat} {h h' : mn_H} {r : Option Value} (ha0 : mn_isQ a0) : mn_E 40 0 [.ref a0, .int x1, .int x2, .null, .null] [] h r h' ↔ mn_E 40 7 [.ref a0, .int x1, .int x2, .int 1000, .int 0] [] h r h' :=
  (mX_sipush d_X4_gapAbove_0 cs_1000).trans <| (mX_istore_n (ls' := [.ref a0, .int x1, .int x2, .int 1000, .null]) d_X4_gapAbove_3 rfl rfl).trans <| (mX_iconst d_X4_gapAbove_4 ci_0).trans <| mX_istore (ls' := [.ref a0, .int x1, .int x2, .int 1000, .int 0]) d_X4_gapAbove_5 rfl rfl
theorem b_X4_gapAbove_7 {x1 x2 x3 x4 : Int32} {a0 : Nat} {h h' : mn_H} {r : Option Value} (ha0 : mn_isQ a0) : mn_E 40 7 [.ref a0, .int x1, .int x2, .int x3, .int x4] [] h r h' ↔ if (h a0 3) ≤ x4 then mn_E 40 58 [.ref a0, .int x1, .int x2, .int x3, .int x4] [] h r h' else mn_E 40 16 [.ref a0, .int x1, .int x2, .int x3, .int x4] [] h r h' :=
  (mX_iload d_X4_gapAbove_7 rfl).trans <| (mX_aload_n d_X4_gapAbove_9 rfl).trans <| (mG_i d_X4_gapAbove_10 fi_40_27 (mn_shQ0 ha0) (mn_ltQ0 ha0)).trans <| mX_icmp_ge d_X4_gapAbove_13 rfl
theorem b_X4_gapAbove_16 {x1 x2 x3 x4 : Int32} {a0 : Nat} {h h' : mn_H} {r : Option Value} (ha0 : mn_isQ a0) (hy1 : vp_in x4 (mn_qn a0)) : mn_E 40 16 [.ref a0, .int x1, .int x2, .int x3, .int x4] [] h r h' ↔ if ¬ (h (a0 + 2) x4.toNatClampNeg) = x1 then mn_E 40 52 [.ref a0, .int x1, .int x2, .int x3, .int x4] [] h r h' else mn_E 40 27 [.ref a0, .int x1, .int x2, .int x3, .int x4] [] h r h' :=
  (mX_aload_n d_X4_gapAbove_16 rfl).trans <| (mG_r (b := (a0 + 2)) d_X4_gapAbove_17 fr_40_21 (mn_shQ0 ha0) (mn_ltQ0 ha0) (mn_rfQ1 ha0 _)).trans <| (mX_iload d_X4_gapAbove_20 rfl).trans <| (mX_iaload d_X4_gapAbove_22 (mn_shQ2 ha0) (mn_ltQ ha0 (by decide)) hy1).trans <| (mX_iload_n d_X4_gapAbove_23 rfl).trans <| mX_icmp_ne d_X4_gapAbove_24 rfl
theorem b_X4_gapAbove_27 {x1 x2 x3 x4 : Int32} {a0 : Nat} {h h' : mn_H} {r : Option Value} (ha0 : mn_isQ a0) (hy1 : vp_in x4 (mn_qn a0)) : mn_E 40 27 [.ref a0, .int x1, .int x2, .int x3, .int x4] [] h r h' ↔ if (h (a0 + 3) x4.toNatClampNeg) ≤ x2 then mn_E 40 52 [.ref a0, .int x1, .int x2, .int x3, .int x4] [] h r h' else mn_E 40 38 [.ref a0, .int x1, .int x2, .int x3, .int x4] [] h r h' :=
  (mX_aload_n d_X4_gapAbove_27 rfl).trans <| (mG_r (b := (a0 + 3)) d_X4_gapAbove_28 fr_40_24 (mn_shQ0 ha0) (mn_ltQ0 ha0) (mn_rfQ2 ha0 _)).trans <| (mX_iload d_X4_gapAbove_31 rfl).trans <| (mX_iaload d_X4_gapAbove_33 (mn_shQ3 ha0) (mn_ltQ ha0 (by decide)) hy1).trans <| (mX_iload_n d_X4_gapAbove_34 rfl).trans <| mX_icmp_le d_X4_gapAbove_35 rfl
theorem b_X4_gapAbove_38 {x1 x2 x3 x4 : Int32} {a0 : Nat} {h h' : mn_H} {r : Option Value} (ha0 : mn_isQ a0) (hy1 : vp_in x4 (mn_qn a0)) : mn_E 40 38 [.ref a0, .int x1, .int x2, .int x3, .int x4] [] h r h' ↔ mn_E 40 52 [.ref a0, .int x1, .int x2, .int (if ((h (a0 + 3) x4.toNatClampNeg) - x2) < x3 then ((h (a0 + 3) x4.toNatClampNeg) - x2) else x3), .int x4] [] h r h' :=
  (mX_iload_n d_X4_gapAbove_38 rfl).trans <| (mX_aload_n d_X4_gapAbove_39 rfl).trans <| (mG_r (b := (a0 + 3)) d_X4_gapAbove_40 fr_40_24 (mn_shQ0 ha0) (mn_ltQ0 ha0) (mn_rfQ2 ha0 _)).trans <| (mX_iload d_X4_gapAbove_43 rfl).trans <| (mX_iaload d_X4_gapAbove_45 (mn_shQ3 ha0) (mn_ltQ ha0 (by decide)) hy1).trans <| (mX_iload_n d_X4_gapAbove_46 rfl).trans <| (mX_isub d_X4_gapAbove_47).trans <| (mX_min d_X4_gapAbove_48 mo_40 ma_4_35 (by decide)).trans <| mX_istore_n (ls' := [.ref a0, .int x1, .int x2, .int (if ((h (a0 + 3) x4.toNatClampNeg) - x2) < x3 then ((h (a0 + 3) x4.toNatClampNeg) - x2) else x3), .int x4]) d_X4_gapAbove_51 rfl rfl
theorem b_X4_gapAbove_52 {x1 x2 x3 x4 : Int32} {a0 : Nat} {h h' : mn_H} {r : Option Value} (ha0 : mn_isQ a0) : mn_E 40 52 [.ref a0, .int x1, .int x2, .int x3, .int x4] [] h r h' ↔ mn_E 40 7 [.ref a0, .int x1, .int x2, .int x3, .int (x4 + 1)] [] h r h' :=
  (mX_iinc (ls' := [.ref a0, .int x1, .int x2, .int x3, .int (x4 + 1)]) d_X4_gapAbove_52 rfl ci_1 rfl rfl).trans <| mX_goto d_X4_gapAbove_55 rfl
theorem b_X4_gapAbove_58 {x1 x2 x3 x4 : Int32} {a0 : Nat} {h h' : mn_H} {r : Option Value} (ha0 : mn_isQ a0) : mn_E 40 58 [.ref a0, .int x1, .int x2, .int x3, .int x4] [] h r h' ↔ r = some (.int x3) ∧ h' = h :=
  (mX_iload_n d_X4_gapAbove_58 rfl).trans <| mX_iret d_X4_gapAbove_59 rfl
-- X6_suppose
theorem mo_57 : mO 57 = 6 := rfl
theorem d_X6_suppose_0 : decode (mC 57) 0 = .ok (.aload_n 0, 1) := by decide +kernel
theorem d_X6_suppose_1 : decode (mC 57) 1 = .ok (.sipush 1000, 3) := by decide +kernel
theorem d_X6_suppose_4 : decode (mC 57) 4 = .ok (.putfield 21, 3) := by decide +kernel
theorem d_X6_suppose_7 : decode (mC 57) 7 = .ok (.iconst 0, 1) := by decide +kernel
theorem d_X6_suppose_8 : decode (mC 57) 8 = .ok (.istore 6, 2) := by decide +kernel
theorem d_X6_suppose_10 : decode (mC 57) 10 = .ok (.iload 6, 2) := by decide +kernel
theorem d_X6_suppose_12 : decode (mC 57) 12 = .ok (.aload_n 1, 1) := by decide +kernel
theorem d_X6_suppose_13 : decode (mC 57) 13 = .ok (.invokevirtual 25, 3) := by decide +kernel
theorem d_X6_suppose_16 : decode (mC 57) 16 = .ok (.if_icmp .ge 137, 3) := by decide +kernel
theorem d_X6_suppose_19 : decode (mC 57) 19 = .ok (.iload 6, 2) := by decide +kernel
theorem d_X6_suppose_21 : decode (mC 57) 21 = .ok (.bipush 32, 2) := by decide +kernel
theorem d_X6_suppose_23 : decode (mC 57) 23 = .ok (.if_icmp .ge 130, 3) := by decide +kernel
theorem d_X6_suppose_26 : decode (mC 57) 26 = .ok (.aload_n 0, 1) := by decide +kernel
theorem d_X6_suppose_27 : decode (mC 57) 27 = .ok (.aload_n 1, 1) := by decide +kernel
theorem d_X6_suppose_28 : decode (mC 57) 28 = .ok (.iload 6, 2) := by decide +kernel
theorem d_X6_suppose_30 : decode (mC 57) 30 = .ok (.iload_n 2, 1) := by decide +kernel
theorem d_X6_suppose_31 : decode (mC 57) 31 = .ok (.iload_n 3, 1) := by decide +kernel
theorem d_X6_suppose_32 : decode (mC 57) 32 = .ok (.iload 4, 2) := by decide +kernel
theorem d_X6_suppose_34 : decode (mC 57) 34 = .ok (.iload 5, 2) := by decide +kernel
theorem d_X6_suppose_36 : decode (mC 57) 36 = .ok (.invokevirtual 31, 3) := by decide +kernel
theorem d_X6_suppose_39 : decode (mC 57) 39 = .ok (.aload_n 0, 1) := by decide +kernel
theorem d_X6_suppose_40 : decode (mC 57) 40 = .ok (.getfield 15, 3) := by decide +kernel
theorem d_X6_suppose_43 : decode (mC 57) 43 = .ok (.iload 6, 2) := by decide +kernel
theorem d_X6_suppose_45 : decode (mC 57) 45 = .ok (.aload_n 1, 1) := by decide +kernel
theorem d_X6_suppose_46 : decode (mC 57) 46 = .ok (.getfield 35, 3) := by decide +kernel
theorem d_X6_suppose_49 : decode (mC 57) 49 = .ok (.aload_n 0, 1) := by decide +kernel
theorem d_X6_suppose_50 : decode (mC 57) 50 = .ok (.getfield 9, 3) := by decide +kernel
theorem d_X6_suppose_53 : decode (mC 57) 53 = .ok (.invokevirtual 39, 3) := by decide +kernel
theorem d_X6_suppose_56 : decode (mC 57) 56 = .ok (.iastore, 1) := by decide +kernel
theorem d_X6_suppose_57 : decode (mC 57) 57 = .ok (.aload_n 0, 1) := by decide +kernel
theorem d_X6_suppose_58 : decode (mC 57) 58 = .ok (.getfield 18, 3) := by decide +kernel
theorem d_X6_suppose_61 : decode (mC 57) 61 = .ok (.iload 6, 2) := by decide +kernel
theorem d_X6_suppose_63 : decode (mC 57) 63 = .ok (.aload_n 1, 1) := by decide +kernel
theorem d_X6_suppose_64 : decode (mC 57) 64 = .ok (.getfield 45, 3) := by decide +kernel
theorem d_X6_suppose_67 : decode (mC 57) 67 = .ok (.aload_n 0, 1) := by decide +kernel
theorem d_X6_suppose_68 : decode (mC 57) 68 = .ok (.getfield 9, 3) := by decide +kernel
theorem d_X6_suppose_71 : decode (mC 57) 71 = .ok (.invokevirtual 39, 3) := by decide +kernel
theorem d_X6_suppose_74 : decode (mC 57) 74 = .ok (.iastore, 1) := by decide +kernel
theorem d_X6_suppose_75 : decode (mC 57) 75 = .ok (.iload 4, 2) := by decide +kernel
theorem d_X6_suppose_77 : decode (mC 57) 77 = .ok (.iconst (-1), 1) := by decide +kernel
theorem d_X6_suppose_78 : decode (mC 57) 78 = .ok (.if_icmp .eq 69, 3) := by decide +kernel
theorem d_X6_suppose_81 : decode (mC 57) 81 = .ok (.aload_n 1, 1) := by decide +kernel
theorem d_X6_suppose_82 : decode (mC 57) 82 = .ok (.iload 4, 2) := by decide +kernel
theorem d_X6_suppose_84 : decode (mC 57) 84 = .ok (.iload 6, 2) := by decide +kernel
theorem d_X6_suppose_86 : decode (mC 57) 86 = .ok (.iload_n 2, 1) := by decide +kernel
theorem d_X6_suppose_87 : decode (mC 57) 87 = .ok (.iload_n 3, 1) := by decide +kernel
theorem d_X6_suppose_88 : decode (mC 57) 88 = .ok (.invokevirtual 48, 3) := by decide +kernel
theorem d_X6_suppose_91 : decode (mC 57) 91 = .ok (.istore 7, 2) := by decide +kernel
theorem d_X6_suppose_93 : decode (mC 57) 93 = .ok (.aload_n 0, 1) := by decide +kernel
theorem d_X6_suppose_94 : decode (mC 57) 94 = .ok (.aload_n 0, 1) := by decide +kernel
theorem d_X6_suppose_95 : decode (mC 57) 95 = .ok (.getfield 21, 3) := by decide +kernel
theorem d_X6_suppose_98 : decode (mC 57) 98 = .ok (.aload_n 1, 1) := by decide +kernel
theorem d_X6_suppose_99 : decode (mC 57) 99 = .ok (.getfield 35, 3) := by decide +kernel
theorem d_X6_suppose_102 : decode (mC 57) 102 = .ok (.iload 7, 2) := by decide +kernel
theorem d_X6_suppose_104 : decode (mC 57) 104 = .ok (.aload_n 0, 1) := by decide +kernel
theorem d_X6_suppose_105 : decode (mC 57) 105 = .ok (.getfield 9, 3) := by decide +kernel
theorem d_X6_suppose_108 : decode (mC 57) 108 = .ok (.iload 7, 2) := by decide +kernel
theorem d_X6_suppose_110 : decode (mC 57) 110 = .ok (.iaload, 1) := by decide +kernel
theorem d_X6_suppose_111 : decode (mC 57) 111 = .ok (.invokevirtual 52, 3) := by decide +kernel
theorem d_X6_suppose_114 : decode (mC 57) 114 = .ok (.invokestatic 56, 3) := by decide +kernel
theorem d_X6_suppose_117 : decode (mC 57) 117 = .ok (.putfield 21, 3) := by decide +kernel
theorem d_X6_suppose_120 : decode (mC 57) 120 = .ok (.aload_n 0, 1) := by decide +kernel
theorem d_X6_suppose_121 : decode (mC 57) 121 = .ok (.aload_n 0, 1) := by decide +kernel
theorem d_X6_suppose_122 : decode (mC 57) 122 = .ok (.getfield 21, 3) := by decide +kernel
theorem d_X6_suppose_125 : decode (mC 57) 125 = .ok (.aload_n 1, 1) := by decide +kernel
theorem d_X6_suppose_126 : decode (mC 57) 126 = .ok (.getfield 45, 3) := by decide +kernel
theorem d_X6_suppose_129 : decode (mC 57) 129 = .ok (.iload 7, 2) := by decide +kernel
theorem d_X6_suppose_131 : decode (mC 57) 131 = .ok (.aload_n 0, 1) := by decide +kernel
theorem d_X6_suppose_132 : decode (mC 57) 132 = .ok (.getfield 9, 3) := by decide +kernel
theorem d_X6_suppose_135 : decode (mC 57) 135 = .ok (.iload 7, 2) := by decide +kernel
theorem d_X6_suppose_137 : decode (mC 57) 137 = .ok (.iaload, 1) := by decide +kernel
theorem d_X6_suppose_138 : decode (mC 57) 138 = .ok (.invokevirtual 52, 3) := by decide +kernel
theorem d_X6_suppose_141 : decode (mC 57) 141 = .ok (.invokestatic 56, 3) := by decide +kernel
theorem d_X6_suppose_144 : decode (mC 57) 144 = .ok (.putfield 21, 3) := by decide +kernel
theorem d_X6_suppose_147 : decode (mC 57) 147 = .ok (.iinc 6 1, 3) := by decide +kernel
theorem d_X6_suppose_150 : decode (mC 57) 150 = .ok (.goto (-140), 3) := by decide +kernel
theorem d_X6_suppose_153 : decode (mC 57) 153 = .ok (.return_, 1) := by decide +kernel
theorem fi_57_21 : mn_fi 57 6 21 6 3 = true := by decide +kernel
theorem cv_57_25 : mn_cvt 57 6 25 48 = true := by decide +kernel
theorem cv_57_31 : mn_cvt 57 6 31 59 = true := by decide +kernel
theorem fr_57_15 : mn_fr 57 6 15 6 1 = true := by decide +kernel
theorem fr_57_35 : mn_fr 57 6 35 5 9 = true := by decide +kernel
theorem fr_57_9 : mn_fr 57 6 9 6 0 = true := by decide +kernel
theorem cv_57_39 : mn_cvt 57 6 39 39 = true := by decide +kernel
theorem fr_57_18 : mn_fr 57 6 18 6 2 = true := by decide +kernel
theorem fr_57_45 : mn_fr 57 6 45 5 10 = true := by decide +kernel
theorem cv_57_48 : mn_cvt 57 6 48 51 = true := by decide +kernel
theorem cv_57_52 : mn_cvt 57 6 52 40 = true := by decide +kernel
theorem ma_6_56 : mn_ml 6 56 = none ∧ mn_nl 6 56 = none ∧ mn_ma 6 56 = some 1 := by decide +kernel
theorem b_X6_suppose_0 {x2 x3 x4 x5 : Int32} {a1 : Nat} {h h' : mn_H} {r : Option Value} (ha1 : mn_isT a1) : mn_E 57 0 [.ref 16, .ref a1, .int x2, .int x3, .int x4, .int x5, .null, .null] [] h r h' ↔ mn_E 57 10 [.ref 16, .ref a1, .int x2, .int x3, .int x4, .int x5, .int 0, .null] [] (mn_up h 16 3 1000) r h' :=
  (mX_aload_n d_X6_suppose_0 rfl).trans <| (mX_sipush d_X6_suppose_1 cs_1000).trans <| (mP_i d_X6_suppose_4 fi_57_21 rfl (by decide) rfl (Or.inl (by decide))).trans <| (mX_iconst d_X6_suppose_7 ci_0).trans <| mX_istore (ls' := [.ref 16, .ref a1, .int x2, .int x3, .int x4, .int x5, .int 0, .null]) d_X6_suppose_8 rfl rfl
theorem b_X6_suppose_10 {x2 x3 x4 x5 x6 : Int32} {a1 : Nat} {h h' : mn_H} {r : Option Value} (ha1 : mn_isT a1) : mn_E 57 10 [.ref 16, .ref a1, .int x2, .int x3, .int x4, .int x5, .int x6, .null] [] h r h' ↔ ∃ x h1, mn_X 48 [.ref a1] h (some (.int x)) h1 ∧ mn_E 57 16 [.ref 16, .ref a1, .int x2, .int x3, .int x4, .int x5, .int x6, .null] [.int x, .int x6] h1 r h' :=
  (mX_iload d_X6_suppose_10 rfl).trans <| (mX_aload_n d_X6_suppose_12 rfl).trans <| mV_i (a := a1) (vs := []) (st' := [.int x6]) d_X6_suppose_13 cv_57_25 (Or.inl rfl) (Nat.le_of_ble_eq_true rfl) rfl rfl (mn_shT0 ha1) rfl
theorem b_X6_suppose_16 {x2 x3 x4 x5 x6 s0 s1 : Int32} {a1 : Nat} {h h' : mn_H} {r : Option Value} (ha1 : mn_isT a1) : mn_E 57 16 [.ref 16, .ref a1, .int x2, .int x3, .int x4, .int x5, .int x6, .null] [.int s0, .int s1] h r h' ↔ if s0 ≤ s1 then mn_E 57 153 [.ref 16, .ref a1, .int x2, .int x3, .int x4, .int x5, .int x6, .null] [] h r h' else mn_E 57 19 [.ref 16, .ref a1, .int x2, .int x3, .int x4, .int x5, .int x6, .null] [] h r h' :=
  mX_icmp_ge d_X6_suppose_16 rfl
theorem b_X6_suppose_19 {x2 x3 x4 x5 x6 : Int32} {a1 : Nat} {h h' : mn_H} {r : Option Value} (ha1 : mn_isT a1) : mn_E 57 19 [.ref 16, .ref a1, .int x2, .int x3, .int x4, .int x5, .int x6, .null] [] h r h' ↔ if (32 : Int32) ≤ x6 then mn_E 57 153 [.ref 16, .ref a1, .int x2, .int x3, .int x4, .int x5, .int x6, .null] [] h r h' else mn_E 57 26 [.ref 16, .ref a1, .int x2, .int x3, .int x4, .int x5, .int x6, .null] [] h r h' :=
  (mX_iload d_X6_suppose_19 rfl).trans <| (mX_bipush d_X6_suppose_21 cb_32).trans <| mX_icmp_ge d_X6_suppose_23 rfl
theorem b_X6_suppose_26 {x2 x3 x4 x5 x6 : Int32} {a1 : Nat} {h h' : mn_H} {r : Option Value} (ha1 : mn_isT a1) : mn_E 57 26 [.ref 16, .ref a1, .int x2, .int x3, .int x4, .int x5, .int x6, .null] [] h r h' ↔ ∃ h1, mn_X 59 [.ref 16, .ref a1, .int x6, .int x2, .int x3, .int x4, .int x5] h none h1 ∧ mn_E 57 39 [.ref 16, .ref a1, .int x2, .int x3, .int x4, .int x5, .int x6, .null] [] h1 r h' :=
  (mX_aload_n d_X6_suppose_26 rfl).trans <| (mX_aload_n d_X6_suppose_27 rfl).trans <| (mX_iload d_X6_suppose_28 rfl).trans <| (mX_iload_n d_X6_suppose_30 rfl).trans <| (mX_iload_n d_X6_suppose_31 rfl).trans <| (mX_iload d_X6_suppose_32 rfl).trans <| (mX_iload d_X6_suppose_34 rfl).trans <| mV_v (a := 16) (vs := [.ref a1, .int x6, .int x2, .int x3, .int x4, .int x5]) (st' := []) d_X6_suppose_36 cv_57_31 rfl (Nat.le_of_ble_eq_true rfl) rfl rfl rfl rfl
theorem b_X6_suppose_39 {x2 x3 x4 x5 x6 : Int32} {a1 : Nat} {h h' : mn_H} {r : Option Value} (ha1 : mn_isT a1) : mn_E 57 39 [.ref 16, .ref a1, .int x2, .int x3, .int x4, .int x5, .int x6, .null] [] h r h' ↔ ∃ x h1, mn_X 39 [.ref (a1 + 8), .ref 17] h (some (.int x)) h1 ∧ mn_E 57 56 [.ref 16, .ref a1, .int x2, .int x3, .int x4, .int x5, .int x6, .null] [.int x, .int x6, .ref 18] h1 r h' :=
  (mX_aload_n d_X6_suppose_39 rfl).trans <| (mG_r (b := 18) d_X6_suppose_40 fr_57_15 rfl (by decide) rfl).trans <| (mX_iload d_X6_suppose_43 rfl).trans <| (mX_aload_n d_X6_suppose_45 rfl).trans <| (mG_r (b := (a1 + 8)) d_X6_suppose_46 fr_57_35 (mn_shT0 ha1) (mn_ltT0 ha1) (mn_rfT9 ha1 _)).trans <| (mX_aload_n d_X6_suppose_49 rfl).trans <| (mG_r (b := 17) d_X6_suppose_50 fr_57_9 rfl (by decide) rfl).trans <| mV_i (a := (a1 + 8)) (vs := [.ref 17]) (st' := [.int x6, .ref 18]) d_X6_suppose_53 cv_57_39 (Or.inl rfl) (Nat.le_of_ble_eq_true rfl) rfl rfl (mn_shT8 ha1) rfl
theorem b_X6_suppose_56 {x2 x3 x4 x5 x6 s0 s1 : Int32} {a1 : Nat} {h h' : mn_H} {r : Option Value} (ha1 : mn_isT a1) (hy1 : vp_in s1 32) : mn_E 57 56 [.ref 16, .ref a1, .int x2, .int x3, .int x4, .int x5, .int x6, .null] [.int s0, .int s1, .ref 18] h r h' ↔ ∃ x h1, mn_X 39 [.ref (a1 + 12), .ref 17] (mn_up h 18 (s1.toNatClampNeg) s0) (some (.int x)) h1 ∧ mn_E 57 74 [.ref 16, .ref a1, .int x2, .int x3, .int x4, .int x5, .int x6, .null] [.int x, .int x6, .ref 19] h1 r h' :=
  (mX_iastore d_X6_suppose_56 rfl (by decide) hy1).trans <| (mX_aload_n d_X6_suppose_57 rfl).trans <| (mG_r (b := 19) d_X6_suppose_58 fr_57_18 rfl (by decide) rfl).trans <| (mX_iload d_X6_suppose_61 rfl).trans <| (mX_aload_n d_X6_suppose_63 rfl).trans <| (mG_r (b := (a1 + 12)) d_X6_suppose_64 fr_57_45 (mn_shT0 ha1) (mn_ltT0 ha1) (mn_rfT10 ha1 _)).trans <| (mX_aload_n d_X6_suppose_67 rfl).trans <| (mG_r (b := 17) d_X6_suppose_68 fr_57_9 rfl (by decide) rfl).trans <| mV_i (a := (a1 + 12)) (vs := [.ref 17]) (st' := [.int x6, .ref 19]) d_X6_suppose_71 cv_57_39 (Or.inl rfl) (Nat.le_of_ble_eq_true rfl) rfl rfl (mn_shT12 ha1) rfl
theorem b_X6_suppose_74 {x2 x3 x4 x5 x6 s0 s1 : Int32} {a1 : Nat} {h h' : mn_H} {r : Option Value} (ha1 : mn_isT a1) (hy1 : vp_in s1 32) : mn_E 57 74 [.ref 16, .ref a1, .int x2, .int x3, .int x4, .int x5, .int x6, .null] [.int s0, .int s1, .ref 19] h r h' ↔ if x4 = (-1) then mn_E 57 147 [.ref 16, .ref a1, .int x2, .int x3, .int x4, .int x5, .int x6, .null] [] (mn_up h 19 (s1.toNatClampNeg) s0) r h' else mn_E 57 81 [.ref 16, .ref a1, .int x2, .int x3, .int x4, .int x5, .int x6, .null] [] (mn_up h 19 (s1.toNatClampNeg) s0) r h' :=
  (mX_iastore d_X6_suppose_74 rfl (by decide) hy1).trans <| (mX_iload d_X6_suppose_75 rfl).trans <| (mX_iconst d_X6_suppose_77 ci_m1).trans <| mX_icmp_eq d_X6_suppose_78 rfl
theorem b_X6_suppose_81 {x2 x3 x4 x5 x6 : Int32} {a1 : Nat} {h h' : mn_H} {r : Option Value} (ha1 : mn_isT a1) : mn_E 57 81 [.ref 16, .ref a1, .int x2, .int x3, .int x4, .int x5, .int x6, .null] [] h r h' ↔ ∃ x h1, mn_X 51 [.ref a1, .int x4, .int x6, .int x2, .int x3] h (some (.int x)) h1 ∧ mn_E 57 91 [.ref 16, .ref a1, .int x2, .int x3, .int x4, .int x5, .int x6, .null] [.int x] h1 r h' :=
  (mX_aload_n d_X6_suppose_81 rfl).trans <| (mX_iload d_X6_suppose_82 rfl).trans <| (mX_iload d_X6_suppose_84 rfl).trans <| (mX_iload_n d_X6_suppose_86 rfl).trans <| (mX_iload_n d_X6_suppose_87 rfl).trans <| mV_i (a := a1) (vs := [.int x4, .int x6, .int x2, .int x3]) (st' := []) d_X6_suppose_88 cv_57_48 (Or.inl rfl) (Nat.le_of_ble_eq_true rfl) rfl rfl (mn_shT0 ha1) rfl
theorem b_X6_suppose_91 {x2 x3 x4 x5 x6 s0 : Int32} {a1 : Nat} {h h' : mn_H} {r : Option Value} (ha1 : mn_isT a1) (hy1 : vp_in s0 7) : mn_E 57 91 [.ref 16, .ref a1, .int x2, .int x3, .int x4, .int x5, .int x6, .null] [.int s0] h r h' ↔ ∃ x h1, mn_X 40 [.ref (a1 + 8), .int s0, .int (h 17 s0.toNatClampNeg)] h (some (.int x)) h1 ∧ mn_E 57 114 [.ref 16, .ref a1, .int x2, .int x3, .int x4, .int x5, .int x6, .int s0] [.int x, .int (h 16 3), .ref 16] h1 r h' :=
  (mX_istore (ls' := [.ref 16, .ref a1, .int x2, .int x3, .int x4, .int x5, .int x6, .int s0]) d_X6_suppose_91 rfl rfl).trans <| (mX_aload_n d_X6_suppose_93 rfl).trans <| (mX_aload_n d_X6_suppose_94 rfl).trans <| (mG_i d_X6_suppose_95 fi_57_21 rfl (by decide)).trans <| (mX_aload_n d_X6_suppose_98 rfl).trans <| (mG_r (b := (a1 + 8)) d_X6_suppose_99 fr_57_35 (mn_shT0 ha1) (mn_ltT0 ha1) (mn_rfT9 ha1 _)).trans <| (mX_iload d_X6_suppose_102 rfl).trans <| (mX_aload_n d_X6_suppose_104 rfl).trans <| (mG_r (b := 17) d_X6_suppose_105 fr_57_9 rfl (by decide) rfl).trans <| (mX_iload d_X6_suppose_108 rfl).trans <| (mX_iaload d_X6_suppose_110 rfl (by decide) hy1).trans <| mV_i (a := (a1 + 8)) (vs := [.int s0, .int (h 17 s0.toNatClampNeg)]) (st' := [.int (h 16 3), .ref 16]) d_X6_suppose_111 cv_57_52 (Or.inl rfl) (Nat.le_of_ble_eq_true rfl) rfl rfl (mn_shT8 ha1) rfl
theorem b_X6_suppose_114 {x2 x3 x4 x5 x6 x7 s0 s1 : Int32} {a1 : Nat} {h h' : mn_H} {r : Option Value} (ha1 : mn_isT a1) (hy1 : vp_in x7 7) : mn_E 57 114 [.ref 16, .ref a1, .int x2, .int x3, .int x4, .int x5, .int x6, .int x7] [.int s0, .int s1, .ref 16] h r h' ↔ ∃ x h1, mn_X 40 [.ref (a1 + 12), .int x7, .int ((mn_up h 16 3 (if s0 < s1 then s0 else s1)) 17 x7.toNatClampNeg)] (mn_up h 16 3 (if s0 < s1 then s0 else s1)) (some (.int x)) h1 ∧ mn_E 57 141 [.ref 16, .ref a1, .int x2, .int x3, .int x4, .int x5, .int x6, .int x7] [.int x, .int ((mn_up h 16 3 (if s0 < s1 then s0 else s1)) 16 3), .ref 16] h1 r h' :=
  (mX_min d_X6_suppose_114 mo_57 ma_6_56 (by decide)).trans <| (mP_i d_X6_suppose_117 fi_57_21 rfl (by decide) rfl (Or.inl (by decide))).trans <| (mX_aload_n d_X6_suppose_120 rfl).trans <| (mX_aload_n d_X6_suppose_121 rfl).trans <| (mG_i d_X6_suppose_122 fi_57_21 rfl (by decide)).trans <| (mX_aload_n d_X6_suppose_125 rfl).trans <| (mG_r (b := (a1 + 12)) d_X6_suppose_126 fr_57_45 (mn_shT0 ha1) (mn_ltT0 ha1) (mn_rfT10 ha1 _)).trans <| (mX_iload d_X6_suppose_129 rfl).trans <| (mX_aload_n d_X6_suppose_131 rfl).trans <| (mG_r (b := 17) d_X6_suppose_132 fr_57_9 rfl (by decide) rfl).trans <| (mX_iload d_X6_suppose_135 rfl).trans <| (mX_iaload d_X6_suppose_137 rfl (by decide) hy1).trans <| mV_i (a := (a1 + 12)) (vs := [.int x7, .int ((mn_up h 16 3 (if s0 < s1 then s0 else s1)) 17 x7.toNatClampNeg)]) (st' := [.int ((mn_up h 16 3 (if s0 < s1 then s0 else s1)) 16 3), .ref 16]) d_X6_suppose_138 cv_57_52 (Or.inl rfl) (Nat.le_of_ble_eq_true rfl) rfl rfl (mn_shT12 ha1) rfl
theorem b_X6_suppose_141 {x2 x3 x4 x5 x6 x7 s0 s1 : Int32} {a1 : Nat} {h h' : mn_H} {r : Option Value} (ha1 : mn_isT a1) : mn_E 57 141 [.ref 16, .ref a1, .int x2, .int x3, .int x4, .int x5, .int x6, .int x7] [.int s0, .int s1, .ref 16] h r h' ↔ mn_E 57 147 [.ref 16, .ref a1, .int x2, .int x3, .int x4, .int x5, .int x6, .int x7] [] (mn_up h 16 3 (if s0 < s1 then s0 else s1)) r h' :=
  (mX_min d_X6_suppose_141 mo_57 ma_6_56 (by decide)).trans <| mP_i d_X6_suppose_144 fi_57_21 rfl (by decide) rfl (Or.inl (by decide))
theorem b_X6_suppose_147 {x2 x3 x4 x5 x6 : Int32} {a1 : Nat} {h h' : mn_H} {r : Option Value} (ha1 : mn_isT a1) : mn_E 57 147 [.ref 16, .ref a1, .int x2, .int x3, .int x4, .int x5, .int x6, .null] [] h r h' ↔ mn_E 57 10 [.ref 16, .ref a1, .int x2, .int x3, .int x4, .int x5, .int (x6 + 1), .null] [] h r h' :=
  (mX_iinc (ls' := [.ref 16, .ref a1, .int x2, .int x3, .int x4, .int x5, .int (x6 + 1), .null]) d_X6_suppose_147 rfl ci_1 rfl rfl).trans <| mX_goto d_X6_suppose_150 rfl
theorem b_X6_suppose_153 {x2 x3 x4 x5 x6 : Int32} {a1 : Nat} {h h' : mn_H} {r : Option Value} (ha1 : mn_isT a1) : mn_E 57 153 [.ref 16, .ref a1, .int x2, .int x3, .int x4, .int x5, .int x6, .null] [] h r h' ↔ r = none ∧ h' = h :=
  mX_vret d_X6_suppose_153 rfl
-- X6_gap
theorem mo_58 : mO 58 = 6 := rfl
theorem d_X6_gap_0 : decode (mC 58) 0 = .ok (.aload_n 0, 1) := by decide +kernel
theorem d_X6_gap_1 : decode (mC 58) 1 = .ok (.getfield 21, 3) := by decide +kernel
theorem d_X6_gap_4 : decode (mC 58) 4 = .ok (.ireturn, 1) := by decide +kernel
theorem fi_58_21 : mn_fi 58 6 21 6 3 = true := by decide +kernel
theorem b_X6_gap_0 {h h' : mn_H} {r : Option Value} : mn_E 58 0 [.ref 16] [] h r h' ↔ r = some (.int (h 16 3)) ∧ h' = h :=
  (mX_aload_n d_X6_gap_0 rfl).trans <| (mG_i d_X6_gap_1 fi_58_21 rfl (by decide)).trans <| mX_iret d_X6_gap_4 rfl
-- X6_countDoing
theorem mo_59 : mO 59 = 6 := rfl
theorem d_X6_countDoing_0 : decode (mC 59) 0 = .ok (.aload_n 0, 1) := by decide +kernel
theorem d_X6_countDoing_1 : decode (mC 59) 1 = .ok (.getfield 9, 3) := by decide +kernel
theorem d_X6_countDoing_4 : decode (mC 59) 4 = .ok (.iconst 0, 1) := by decide +kernel
theorem d_X6_countDoing_5 : decode (mC 59) 5 = .ok (.invokestatic 61, 3) := by decide +kernel
theorem d_X6_countDoing_8 : decode (mC 59) 8 = .ok (.iconst 0, 1) := by decide +kernel
theorem d_X6_countDoing_9 : decode (mC 59) 9 = .ok (.istore 7, 2) := by decide +kernel
theorem d_X6_countDoing_11 : decode (mC 59) 11 = .ok (.iload 7, 2) := by decide +kernel
theorem d_X6_countDoing_13 : decode (mC 59) 13 = .ok (.aload_n 1, 1) := by decide +kernel
theorem d_X6_countDoing_14 : decode (mC 59) 14 = .ok (.getfield 67, 3) := by decide +kernel
theorem d_X6_countDoing_17 : decode (mC 59) 17 = .ok (.if_icmp .ge 48, 3) := by decide +kernel
theorem d_X6_countDoing_20 : decode (mC 59) 20 = .ok (.aload_n 0, 1) := by decide +kernel
theorem d_X6_countDoing_21 : decode (mC 59) 21 = .ok (.getfield 9, 3) := by decide +kernel
theorem d_X6_countDoing_24 : decode (mC 59) 24 = .ok (.aload_n 1, 1) := by decide +kernel
theorem d_X6_countDoing_25 : decode (mC 59) 25 = .ok (.iload 7, 2) := by decide +kernel
theorem d_X6_countDoing_27 : decode (mC 59) 27 = .ok (.iload_n 2, 1) := by decide +kernel
theorem d_X6_countDoing_28 : decode (mC 59) 28 = .ok (.iload_n 3, 1) := by decide +kernel
theorem d_X6_countDoing_29 : decode (mC 59) 29 = .ok (.iload 4, 2) := by decide +kernel
theorem d_X6_countDoing_31 : decode (mC 59) 31 = .ok (.invokevirtual 48, 3) := by decide +kernel
theorem d_X6_countDoing_34 : decode (mC 59) 34 = .ok (.dup2, 1) := by decide +kernel
theorem d_X6_countDoing_35 : decode (mC 59) 35 = .ok (.iaload, 1) := by decide +kernel
theorem d_X6_countDoing_36 : decode (mC 59) 36 = .ok (.aload_n 1, 1) := by decide +kernel
theorem d_X6_countDoing_37 : decode (mC 59) 37 = .ok (.getfield 70, 3) := by decide +kernel
theorem d_X6_countDoing_40 : decode (mC 59) 40 = .ok (.iload 7, 2) := by decide +kernel
theorem d_X6_countDoing_42 : decode (mC 59) 42 = .ok (.iaload, 1) := by decide +kernel
theorem d_X6_countDoing_43 : decode (mC 59) 43 = .ok (.iload 7, 2) := by decide +kernel
theorem d_X6_countDoing_45 : decode (mC 59) 45 = .ok (.iload 5, 2) := by decide +kernel
theorem d_X6_countDoing_47 : decode (mC 59) 47 = .ok (.if_icmp .ne 8, 3) := by decide +kernel
theorem d_X6_countDoing_50 : decode (mC 59) 50 = .ok (.iload 6, 2) := by decide +kernel
theorem d_X6_countDoing_52 : decode (mC 59) 52 = .ok (.goto 4, 3) := by decide +kernel
theorem d_X6_countDoing_55 : decode (mC 59) 55 = .ok (.iconst 0, 1) := by decide +kernel
theorem d_X6_countDoing_56 : decode (mC 59) 56 = .ok (.iadd, 1) := by decide +kernel
theorem d_X6_countDoing_57 : decode (mC 59) 57 = .ok (.iadd, 1) := by decide +kernel
theorem d_X6_countDoing_58 : decode (mC 59) 58 = .ok (.iastore, 1) := by decide +kernel
theorem d_X6_countDoing_59 : decode (mC 59) 59 = .ok (.iinc 7 1, 3) := by decide +kernel
theorem d_X6_countDoing_62 : decode (mC 59) 62 = .ok (.goto (-51), 3) := by decide +kernel
theorem d_X6_countDoing_65 : decode (mC 59) 65 = .ok (.return_, 1) := by decide +kernel
theorem fr_59_9 : mn_fr 59 6 9 6 0 = true := by decide +kernel
theorem cs_59_61 : mn_cs 59 6 61 192 = true := by decide +kernel
theorem fi_59_67 : mn_fi 59 6 67 5 4 = true := by decide +kernel
theorem cv_59_48 : mn_cvt 59 6 48 51 = true := by decide +kernel
theorem fr_59_70 : mn_fr 59 6 70 5 5 = true := by decide +kernel
theorem b_X6_countDoing_0 {x2 x3 x4 x5 x6 : Int32} {a1 : Nat} {h h' : mn_H} {r : Option Value} (ha1 : mn_isT a1) : mn_E 59 0 [.ref 16, .ref a1, .int x2, .int x3, .int x4, .int x5, .int x6, .null] [] h r h' ↔ ∃ h1, mn_X 192 [.ref 17, .int 0] h none h1 ∧ mn_E 59 8 [.ref 16, .ref a1, .int x2, .int x3, .int x4, .int x5, .int x6, .null] [] h1 r h' :=
  (mX_aload_n d_X6_countDoing_0 rfl).trans <| (mG_r (b := 17) d_X6_countDoing_1 fr_59_9 rfl (by decide) rfl).trans <| (mX_iconst d_X6_countDoing_4 ci_0).trans <| mS_v (vs := [.ref 17, .int 0]) (st' := []) d_X6_countDoing_5 cs_59_61 rfl (Nat.le_of_ble_eq_true rfl) rfl rfl rfl
theorem b_X6_countDoing_8 {x2 x3 x4 x5 x6 : Int32} {a1 : Nat} {h h' : mn_H} {r : Option Value} (ha1 : mn_isT a1) : mn_E 59 8 [.ref 16, .ref a1, .int x2, .int x3, .int x4, .int x5, .int x6, .null] [] h r h' ↔ mn_E 59 11 [.ref 16, .ref a1, .int x2, .int x3, .int x4, .int x5, .int x6, .int 0] [] h r h' :=
  (mX_iconst d_X6_countDoing_8 ci_0).trans <| mX_istore (ls' := [.ref 16, .ref a1, .int x2, .int x3, .int x4, .int x5, .int x6, .int 0]) d_X6_countDoing_9 rfl rfl
theorem b_X6_countDoing_11 {x2 x3 x4 x5 x6 x7 : Int32} {a1 : Nat} {h h' : mn_H} {r : Option Value} (ha1 : mn_isT a1) : mn_E 59 11 [.ref 16, .ref a1, .int x2, .int x3, .int x4, .int x5, .int x6, .int x7] [] h r h' ↔ if (h a1 4) ≤ x7 then mn_E 59 65 [.ref 16, .ref a1, .int x2, .int x3, .int x4, .int x5, .int x6, .int x7] [] h r h' else mn_E 59 20 [.ref 16, .ref a1, .int x2, .int x3, .int x4, .int x5, .int x6, .int x7] [] h r h' :=
  (mX_iload d_X6_countDoing_11 rfl).trans <| (mX_aload_n d_X6_countDoing_13 rfl).trans <| (mG_i d_X6_countDoing_14 fi_59_67 (mn_shT0 ha1) (mn_ltT0 ha1)).trans <| mX_icmp_ge d_X6_countDoing_17 rfl
theorem b_X6_countDoing_20 {x2 x3 x4 x5 x6 x7 : Int32} {a1 : Nat} {h h' : mn_H} {r : Option Value} (ha1 : mn_isT a1) : mn_E 59 20 [.ref 16, .ref a1, .int x2, .int x3, .int x4, .int x5, .int x6, .int x7] [] h r h' ↔ ∃ x h1, mn_X 51 [.ref a1, .int x7, .int x2, .int x3, .int x4] h (some (.int x)) h1 ∧ mn_E 59 34 [.ref 16, .ref a1, .int x2, .int x3, .int x4, .int x5, .int x6, .int x7] [.int x, .ref 17] h1 r h' :=
  (mX_aload_n d_X6_countDoing_20 rfl).trans <| (mG_r (b := 17) d_X6_countDoing_21 fr_59_9 rfl (by decide) rfl).trans <| (mX_aload_n d_X6_countDoing_24 rfl).trans <| (mX_iload d_X6_countDoing_25 rfl).trans <| (mX_iload_n d_X6_countDoing_27 rfl).trans <| (mX_iload_n d_X6_countDoing_28 rfl).trans <| (mX_iload d_X6_countDoing_29 rfl).trans <| mV_i (a := a1) (vs := [.int x7, .int x2, .int x3, .int x4]) (st' := [.ref 17]) d_X6_countDoing_31 cv_59_48 (Or.inl rfl) (Nat.le_of_ble_eq_true rfl) rfl rfl (mn_shT0 ha1) rfl
theorem b_X6_countDoing_34 {x2 x3 x4 x5 x6 x7 s0 : Int32} {a1 : Nat} {h h' : mn_H} {r : Option Value} (ha1 : mn_isT a1) (hy1 : vp_in s0 7) (hy2 : vp_in x7 6) : mn_E 59 34 [.ref 16, .ref a1, .int x2, .int x3, .int x4, .int x5, .int x6, .int x7] [.int s0, .ref 17] h r h' ↔ if ¬ x7 = x5 then mn_E 59 55 [.ref 16, .ref a1, .int x2, .int x3, .int x4, .int x5, .int x6, .int x7] [.int (h (a1 + 4) x7.toNatClampNeg), .int (h 17 s0.toNatClampNeg), .int s0, .ref 17] h r h' else mn_E 59 50 [.ref 16, .ref a1, .int x2, .int x3, .int x4, .int x5, .int x6, .int x7] [.int (h (a1 + 4) x7.toNatClampNeg), .int (h 17 s0.toNatClampNeg), .int s0, .ref 17] h r h' :=
  (mX_dup2 d_X6_countDoing_34 ⟨rfl, rfl⟩).trans <| (mX_iaload d_X6_countDoing_35 rfl (by decide) hy1).trans <| (mX_aload_n d_X6_countDoing_36 rfl).trans <| (mG_r (b := (a1 + 4)) d_X6_countDoing_37 fr_59_70 (mn_shT0 ha1) (mn_ltT0 ha1) (mn_rfT5 ha1 _)).trans <| (mX_iload d_X6_countDoing_40 rfl).trans <| (mX_iaload d_X6_countDoing_42 (mn_shT4 ha1) (mn_ltT ha1 (by decide)) hy2).trans <| (mX_iload d_X6_countDoing_43 rfl).trans <| (mX_iload d_X6_countDoing_45 rfl).trans <| mX_icmp_ne d_X6_countDoing_47 rfl
theorem b_X6_countDoing_50 {x2 x3 x4 x5 x6 x7 s0 s1 s2 : Int32} {a1 : Nat} {h h' : mn_H} {r : Option Value} (ha1 : mn_isT a1) : mn_E 59 50 [.ref 16, .ref a1, .int x2, .int x3, .int x4, .int x5, .int x6, .int x7] [.int s0, .int s1, .int s2, .ref 17] h r h' ↔ mn_E 59 56 [.ref 16, .ref a1, .int x2, .int x3, .int x4, .int x5, .int x6, .int x7] [.int x6, .int s0, .int s1, .int s2, .ref 17] h r h' :=
  (mX_iload d_X6_countDoing_50 rfl).trans <| mX_goto d_X6_countDoing_52 rfl
theorem b_X6_countDoing_55 {x2 x3 x4 x5 x6 x7 s0 s1 s2 : Int32} {a1 : Nat} {h h' : mn_H} {r : Option Value} (ha1 : mn_isT a1) : mn_E 59 55 [.ref 16, .ref a1, .int x2, .int x3, .int x4, .int x5, .int x6, .int x7] [.int s0, .int s1, .int s2, .ref 17] h r h' ↔ mn_E 59 56 [.ref 16, .ref a1, .int x2, .int x3, .int x4, .int x5, .int x6, .int x7] [.int 0, .int s0, .int s1, .int s2, .ref 17] h r h' :=
  mX_iconst d_X6_countDoing_55 ci_0
theorem b_X6_countDoing_56 {x2 x3 x4 x5 x6 x7 s0 s1 s2 s3 : Int32} {a1 : Nat} {h h' : mn_H} {r : Option Value} (ha1 : mn_isT a1) (hy1 : vp_in s3 7) : mn_E 59 56 [.ref 16, .ref a1, .int x2, .int x3, .int x4, .int x5, .int x6, .int x7] [.int s0, .int s1, .int s2, .int s3, .ref 17] h r h' ↔ mn_E 59 11 [.ref 16, .ref a1, .int x2, .int x3, .int x4, .int x5, .int x6, .int (x7 + 1)] [] (mn_up h 17 (s3.toNatClampNeg) (s2 + (s1 + s0))) r h' :=
  (mX_iadd d_X6_countDoing_56).trans <| (mX_iadd d_X6_countDoing_57).trans <| (mX_iastore d_X6_countDoing_58 rfl (by decide) hy1).trans <| (mX_iinc (ls' := [.ref 16, .ref a1, .int x2, .int x3, .int x4, .int x5, .int x6, .int (x7 + 1)]) d_X6_countDoing_59 rfl ci_1 rfl rfl).trans <| mX_goto d_X6_countDoing_62 rfl
theorem b_X6_countDoing_65 {x2 x3 x4 x5 x6 x7 : Int32} {a1 : Nat} {h h' : mn_H} {r : Option Value} (ha1 : mn_isT a1) : mn_E 59 65 [.ref 16, .ref a1, .int x2, .int x3, .int x4, .int x5, .int x6, .int x7] [] h r h' ↔ r = none ∧ h' = h :=
  mX_vret d_X6_countDoing_65 rfl
-- X6_comingBy
theorem mo_60 : mO 60 = 6 := rfl
theorem d_X6_comingBy_0 : decode (mC 60) 0 = .ok (.aload_n 0, 1) := by decide +kernel
theorem d_X6_comingBy_1 : decode (mC 60) 1 = .ok (.getfield 15, 3) := by decide +kernel
theorem d_X6_comingBy_4 : decode (mC 60) 4 = .ok (.iload_n 1, 1) := by decide +kernel
theorem d_X6_comingBy_5 : decode (mC 60) 5 = .ok (.iaload, 1) := by decide +kernel
theorem d_X6_comingBy_6 : decode (mC 60) 6 = .ok (.iload_n 2, 1) := by decide +kernel
theorem d_X6_comingBy_7 : decode (mC 60) 7 = .ok (.ior, 1) := by decide +kernel
theorem d_X6_comingBy_8 : decode (mC 60) 8 = .ok (.aload_n 0, 1) := by decide +kernel
theorem d_X6_comingBy_9 : decode (mC 60) 9 = .ok (.getfield 18, 3) := by decide +kernel
theorem d_X6_comingBy_12 : decode (mC 60) 12 = .ok (.iload_n 1, 1) := by decide +kernel
theorem d_X6_comingBy_13 : decode (mC 60) 13 = .ok (.iaload, 1) := by decide +kernel
theorem d_X6_comingBy_14 : decode (mC 60) 14 = .ok (.iconst (-1), 1) := by decide +kernel
theorem d_X6_comingBy_15 : decode (mC 60) 15 = .ok (.ixor, 1) := by decide +kernel
theorem d_X6_comingBy_16 : decode (mC 60) 16 = .ok (.iand, 1) := by decide +kernel
theorem d_X6_comingBy_17 : decode (mC 60) 17 = .ok (.ireturn, 1) := by decide +kernel
theorem fr_60_15 : mn_fr 60 6 15 6 1 = true := by decide +kernel
theorem fr_60_18 : mn_fr 60 6 18 6 2 = true := by decide +kernel
theorem b_X6_comingBy_0 {x1 x2 : Int32} {h h' : mn_H} {r : Option Value} (hy0 : vp_in x1 32) : mn_E 60 0 [.ref 16, .int x1, .int x2] [] h r h' ↔ r = some (.int (((h 18 x1.toNatClampNeg) ||| x2) &&& ((h 19 x1.toNatClampNeg) ^^^ (-1)))) ∧ h' = h :=
  (mX_aload_n d_X6_comingBy_0 rfl).trans <| (mG_r (b := 18) d_X6_comingBy_1 fr_60_15 rfl (by decide) rfl).trans <| (mX_iload_n d_X6_comingBy_4 rfl).trans <| (mX_iaload d_X6_comingBy_5 rfl (by decide) hy0).trans <| (mX_iload_n d_X6_comingBy_6 rfl).trans <| (mX_ior d_X6_comingBy_7).trans <| (mX_aload_n d_X6_comingBy_8 rfl).trans <| (mG_r (b := 19) d_X6_comingBy_9 fr_60_18 rfl (by decide) rfl).trans <| (mX_iload_n d_X6_comingBy_12 rfl).trans <| (mX_iaload d_X6_comingBy_13 rfl (by decide) hy0).trans <| (mX_iconst d_X6_comingBy_14 ci_m1).trans <| (mX_ixor d_X6_comingBy_15).trans <| (mX_iand d_X6_comingBy_16).trans <| mX_iret d_X6_comingBy_17 rfl
-- X6_fitting
theorem mo_61 : mO 61 = 6 := rfl
theorem d_X6_fitting_0 : decode (mC 61) 0 = .ok (.aload_n 1, 1) := by decide +kernel
theorem d_X6_fitting_1 : decode (mC 61) 1 = .ok (.iload_n 3, 1) := by decide +kernel
theorem d_X6_fitting_2 : decode (mC 61) 2 = .ok (.invokevirtual 73, 3) := by decide +kernel
theorem d_X6_fitting_5 : decode (mC 61) 5 = .ok (.istore 6, 2) := by decide +kernel
theorem d_X6_fitting_7 : decode (mC 61) 7 = .ok (.lconst 0, 1) := by decide +kernel
theorem d_X6_fitting_8 : decode (mC 61) 8 = .ok (.lstore 7, 2) := by decide +kernel
theorem d_X6_fitting_10 : decode (mC 61) 10 = .ok (.iconst 0, 1) := by decide +kernel
theorem d_X6_fitting_11 : decode (mC 61) 11 = .ok (.istore 9, 2) := by decide +kernel
theorem d_X6_fitting_13 : decode (mC 61) 13 = .ok (.iload 9, 2) := by decide +kernel
theorem d_X6_fitting_15 : decode (mC 61) 15 = .ok (.aload_n 1, 1) := by decide +kernel
theorem d_X6_fitting_16 : decode (mC 61) 16 = .ok (.invokevirtual 25, 3) := by decide +kernel
theorem d_X6_fitting_19 : decode (mC 61) 19 = .ok (.if_icmp .ge 54, 3) := by decide +kernel
theorem d_X6_fitting_22 : decode (mC 61) 22 = .ok (.iload 9, 2) := by decide +kernel
theorem d_X6_fitting_24 : decode (mC 61) 24 = .ok (.bipush 32, 2) := by decide +kernel
theorem d_X6_fitting_26 : decode (mC 61) 26 = .ok (.if_icmp .ge 47, 3) := by decide +kernel
theorem d_X6_fitting_29 : decode (mC 61) 29 = .ok (.aload_n 0, 1) := by decide +kernel
theorem d_X6_fitting_30 : decode (mC 61) 30 = .ok (.iload 9, 2) := by decide +kernel
theorem d_X6_fitting_32 : decode (mC 61) 32 = .ok (.iload 6, 2) := by decide +kernel
theorem d_X6_fitting_34 : decode (mC 61) 34 = .ok (.invokevirtual 77, 3) := by decide +kernel
theorem d_X6_fitting_37 : decode (mC 61) 37 = .ok (.istore 10, 2) := by decide +kernel
theorem d_X6_fitting_39 : decode (mC 61) 39 = .ok (.aload_n 1, 1) := by decide +kernel
theorem d_X6_fitting_40 : decode (mC 61) 40 = .ok (.iload_n 2, 1) := by decide +kernel
theorem d_X6_fitting_41 : decode (mC 61) 41 = .ok (.iload 10, 2) := by decide +kernel
theorem d_X6_fitting_43 : decode (mC 61) 43 = .ok (.invokevirtual 80, 3) := by decide +kernel
theorem d_X6_fitting_46 : decode (mC 61) 46 = .ok (.iload 4, 2) := by decide +kernel
theorem d_X6_fitting_48 : decode (mC 61) 48 = .ok (.iload 5, 2) := by decide +kernel
theorem d_X6_fitting_50 : decode (mC 61) 50 = .ok (.invokestatic 83, 3) := by decide +kernel
theorem d_X6_fitting_53 : decode (mC 61) 53 = .ok (.iload 9, 2) := by decide +kernel
theorem d_X6_fitting_55 : decode (mC 61) 55 = .ok (.if_icmp .ne 12, 3) := by decide +kernel
theorem d_X6_fitting_58 : decode (mC 61) 58 = .ok (.lload 7, 2) := by decide +kernel
theorem d_X6_fitting_60 : decode (mC 61) 60 = .ok (.lconst 1, 1) := by decide +kernel
theorem d_X6_fitting_61 : decode (mC 61) 61 = .ok (.iload 10, 2) := by decide +kernel
theorem d_X6_fitting_63 : decode (mC 61) 63 = .ok (.lshl, 1) := by decide +kernel
theorem d_X6_fitting_64 : decode (mC 61) 64 = .ok (.lor, 1) := by decide +kernel
theorem d_X6_fitting_65 : decode (mC 61) 65 = .ok (.lstore 7, 2) := by decide +kernel
theorem d_X6_fitting_67 : decode (mC 61) 67 = .ok (.iinc 9 1, 3) := by decide +kernel
theorem d_X6_fitting_70 : decode (mC 61) 70 = .ok (.goto (-57), 3) := by decide +kernel
theorem d_X6_fitting_73 : decode (mC 61) 73 = .ok (.lload 7, 2) := by decide +kernel
theorem d_X6_fitting_75 : decode (mC 61) 75 = .ok (.lreturn, 1) := by decide +kernel
theorem cv_61_73 : mn_cvt 61 6 73 53 = true := by decide +kernel
theorem cv_61_25 : mn_cvt 61 6 25 48 = true := by decide +kernel
theorem cv_61_77 : mn_cvt 61 6 77 60 = true := by decide +kernel
theorem cv_61_80 : mn_cvt 61 6 80 50 = true := by decide +kernel
theorem cs_61_83 : mn_cs 61 6 83 63 = true := by decide +kernel
theorem b_X6_fitting_0 {x2 x3 x4 x5 : Int32} {a1 : Nat} {h h' : mn_H} {r : Option Value} (ha1 : mn_isT a1) : mn_E 61 0 [.ref 16, .ref a1, .int x2, .int x3, .int x4, .int x5, .null, .null, .null, .null, .null] [] h r h' ↔ ∃ x h1, mn_X 53 [.ref a1, .int x3] h (some (.int x)) h1 ∧ mn_E 61 5 [.ref 16, .ref a1, .int x2, .int x3, .int x4, .int x5, .null, .null, .null, .null, .null] [.int x] h1 r h' :=
  (mX_aload_n d_X6_fitting_0 rfl).trans <| (mX_iload_n d_X6_fitting_1 rfl).trans <| mV_i (a := a1) (vs := [.int x3]) (st' := []) d_X6_fitting_2 cv_61_73 (Or.inl rfl) (Nat.le_of_ble_eq_true rfl) rfl rfl (mn_shT0 ha1) rfl
theorem b_X6_fitting_5 {x2 x3 x4 x5 s0 : Int32} {a1 : Nat} {h h' : mn_H} {r : Option Value} (ha1 : mn_isT a1) : mn_E 61 5 [.ref 16, .ref a1, .int x2, .int x3, .int x4, .int x5, .null, .null, .null, .null, .null] [.int s0] h r h' ↔ mn_E 61 13 [.ref 16, .ref a1, .int x2, .int x3, .int x4, .int x5, .int s0, .long 0, .null, .int 0, .null] [] h r h' :=
  (mX_istore (ls' := [.ref 16, .ref a1, .int x2, .int x3, .int x4, .int x5, .int s0, .null, .null, .null, .null]) d_X6_fitting_5 rfl rfl).trans <| (mX_lconst d_X6_fitting_7 cl_0).trans <| (mX_lstore (ls' := [.ref 16, .ref a1, .int x2, .int x3, .int x4, .int x5, .int s0, .long 0, .null, .null, .null]) d_X6_fitting_8 rfl rfl).trans <| (mX_iconst d_X6_fitting_10 ci_0).trans <| mX_istore (ls' := [.ref 16, .ref a1, .int x2, .int x3, .int x4, .int x5, .int s0, .long 0, .null, .int 0, .null]) d_X6_fitting_11 rfl rfl
theorem b_X6_fitting_13 {x2 x3 x4 x5 x6 x9 : Int32} {l7 : Int64} {a1 : Nat} {h h' : mn_H} {r : Option Value} (ha1 : mn_isT a1) : mn_E 61 13 [.ref 16, .ref a1, .int x2, .int x3, .int x4, .int x5, .int x6, .long l7, .null, .int x9, .null] [] h r h' ↔ ∃ x h1, mn_X 48 [.ref a1] h (some (.int x)) h1 ∧ mn_E 61 19 [.ref 16, .ref a1, .int x2, .int x3, .int x4, .int x5, .int x6, .long l7, .null, .int x9, .null] [.int x, .int x9] h1 r h' :=
  (mX_iload d_X6_fitting_13 rfl).trans <| (mX_aload_n d_X6_fitting_15 rfl).trans <| mV_i (a := a1) (vs := []) (st' := [.int x9]) d_X6_fitting_16 cv_61_25 (Or.inl rfl) (Nat.le_of_ble_eq_true rfl) rfl rfl (mn_shT0 ha1) rfl
theorem b_X6_fitting_19 {x2 x3 x4 x5 x6 x9 s0 s1 : Int32} {l7 : Int64} {a1 : Nat} {h h' : mn_H} {r : Option Value} (ha1 : mn_isT a1) : mn_E 61 19 [.ref 16, .ref a1, .int x2, .int x3, .int x4, .int x5, .int x6, .long l7, .null, .int x9, .null] [.int s0, .int s1] h r h' ↔ if s0 ≤ s1 then mn_E 61 73 [.ref 16, .ref a1, .int x2, .int x3, .int x4, .int x5, .int x6, .long l7, .null, .int x9, .null] [] h r h' else mn_E 61 22 [.ref 16, .ref a1, .int x2, .int x3, .int x4, .int x5, .int x6, .long l7, .null, .int x9, .null] [] h r h' :=
  mX_icmp_ge d_X6_fitting_19 rfl
theorem b_X6_fitting_22 {x2 x3 x4 x5 x6 x9 : Int32} {l7 : Int64} {a1 : Nat} {h h' : mn_H} {r : Option Value} (ha1 : mn_isT a1) : mn_E 61 22 [.ref 16, .ref a1, .int x2, .int x3, .int x4, .int x5, .int x6, .long l7, .null, .int x9, .null] [] h r h' ↔ if (32 : Int32) ≤ x9 then mn_E 61 73 [.ref 16, .ref a1, .int x2, .int x3, .int x4, .int x5, .int x6, .long l7, .null, .int x9, .null] [] h r h' else mn_E 61 29 [.ref 16, .ref a1, .int x2, .int x3, .int x4, .int x5, .int x6, .long l7, .null, .int x9, .null] [] h r h' :=
  (mX_iload d_X6_fitting_22 rfl).trans <| (mX_bipush d_X6_fitting_24 cb_32).trans <| mX_icmp_ge d_X6_fitting_26 rfl
theorem b_X6_fitting_29 {x2 x3 x4 x5 x6 x9 : Int32} {l7 : Int64} {a1 : Nat} {h h' : mn_H} {r : Option Value} (ha1 : mn_isT a1) : mn_E 61 29 [.ref 16, .ref a1, .int x2, .int x3, .int x4, .int x5, .int x6, .long l7, .null, .int x9, .null] [] h r h' ↔ ∃ x h1, mn_X 60 [.ref 16, .int x9, .int x6] h (some (.int x)) h1 ∧ mn_E 61 37 [.ref 16, .ref a1, .int x2, .int x3, .int x4, .int x5, .int x6, .long l7, .null, .int x9, .null] [.int x] h1 r h' :=
  (mX_aload_n d_X6_fitting_29 rfl).trans <| (mX_iload d_X6_fitting_30 rfl).trans <| (mX_iload d_X6_fitting_32 rfl).trans <| mV_i (a := 16) (vs := [.int x9, .int x6]) (st' := []) d_X6_fitting_34 cv_61_77 (Or.inl rfl) (Nat.le_of_ble_eq_true rfl) rfl rfl rfl rfl
theorem b_X6_fitting_37 {x2 x3 x4 x5 x6 x9 s0 : Int32} {l7 : Int64} {a1 : Nat} {h h' : mn_H} {r : Option Value} (ha1 : mn_isT a1) : mn_E 61 37 [.ref 16, .ref a1, .int x2, .int x3, .int x4, .int x5, .int x6, .long l7, .null, .int x9, .null] [.int s0] h r h' ↔ ∃ x h1, mn_X 50 [.ref a1, .int x2, .int s0] h (some (.int x)) h1 ∧ mn_E 61 46 [.ref 16, .ref a1, .int x2, .int x3, .int x4, .int x5, .int x6, .long l7, .null, .int x9, .int s0] [.int x] h1 r h' :=
  (mX_istore (ls' := [.ref 16, .ref a1, .int x2, .int x3, .int x4, .int x5, .int x6, .long l7, .null, .int x9, .int s0]) d_X6_fitting_37 rfl rfl).trans <| (mX_aload_n d_X6_fitting_39 rfl).trans <| (mX_iload_n d_X6_fitting_40 rfl).trans <| (mX_iload d_X6_fitting_41 rfl).trans <| mV_i (a := a1) (vs := [.int x2, .int s0]) (st' := []) d_X6_fitting_43 cv_61_80 (Or.inl rfl) (Nat.le_of_ble_eq_true rfl) rfl rfl (mn_shT0 ha1) rfl
theorem b_X6_fitting_46 {x2 x3 x4 x5 x6 x9 x10 s0 : Int32} {l7 : Int64} {a1 : Nat} {h h' : mn_H} {r : Option Value} (ha1 : mn_isT a1) : mn_E 61 46 [.ref 16, .ref a1, .int x2, .int x3, .int x4, .int x5, .int x6, .long l7, .null, .int x9, .int x10] [.int s0] h r h' ↔ ∃ x h1, mn_X 63 [.int s0, .int x4, .int x5] h (some (.int x)) h1 ∧ mn_E 61 53 [.ref 16, .ref a1, .int x2, .int x3, .int x4, .int x5, .int x6, .long l7, .null, .int x9, .int x10] [.int x] h1 r h' :=
  (mX_iload d_X6_fitting_46 rfl).trans <| (mX_iload d_X6_fitting_48 rfl).trans <| mS_i (vs := [.int s0, .int x4, .int x5]) (st' := []) d_X6_fitting_50 cs_61_83 (Or.inl rfl) (Nat.le_of_ble_eq_true rfl) rfl rfl rfl
theorem b_X6_fitting_53 {x2 x3 x4 x5 x6 x9 x10 s0 : Int32} {l7 : Int64} {a1 : Nat} {h h' : mn_H} {r : Option Value} (ha1 : mn_isT a1) : mn_E 61 53 [.ref 16, .ref a1, .int x2, .int x3, .int x4, .int x5, .int x6, .long l7, .null, .int x9, .int x10] [.int s0] h r h' ↔ if ¬ s0 = x9 then mn_E 61 67 [.ref 16, .ref a1, .int x2, .int x3, .int x4, .int x5, .int x6, .long l7, .null, .int x9, .int x10] [] h r h' else mn_E 61 58 [.ref 16, .ref a1, .int x2, .int x3, .int x4, .int x5, .int x6, .long l7, .null, .int x9, .int x10] [] h r h' :=
  (mX_iload d_X6_fitting_53 rfl).trans <| mX_icmp_ne d_X6_fitting_55 rfl
theorem b_X6_fitting_58 {x2 x3 x4 x5 x6 x9 x10 : Int32} {l7 : Int64} {a1 : Nat} {h h' : mn_H} {r : Option Value} (ha1 : mn_isT a1) : mn_E 61 58 [.ref 16, .ref a1, .int x2, .int x3, .int x4, .int x5, .int x6, .long l7, .null, .int x9, .int x10] [] h r h' ↔ mn_E 61 67 [.ref 16, .ref a1, .int x2, .int x3, .int x4, .int x5, .int x6, .long (l7 ||| ((1 : Int64) <<< (x10.toInt64 &&& 63))), .null, .int x9, .int x10] [] h r h' :=
  (mX_lload d_X6_fitting_58 rfl).trans <| (mX_lconst d_X6_fitting_60 cl_1).trans <| (mX_iload d_X6_fitting_61 rfl).trans <| (mX_lshl d_X6_fitting_63).trans <| (mX_lor d_X6_fitting_64).trans <| mX_lstore (ls' := [.ref 16, .ref a1, .int x2, .int x3, .int x4, .int x5, .int x6, .long (l7 ||| ((1 : Int64) <<< (x10.toInt64 &&& 63))), .null, .int x9, .int x10]) d_X6_fitting_65 rfl rfl
theorem b_X6_fitting_67 {x2 x3 x4 x5 x6 x9 x10 : Int32} {l7 : Int64} {a1 : Nat} {h h' : mn_H} {r : Option Value} (ha1 : mn_isT a1) : mn_E 61 67 [.ref 16, .ref a1, .int x2, .int x3, .int x4, .int x5, .int x6, .long l7, .null, .int x9, .int x10] [] h r h' ↔ mn_E 61 13 [.ref 16, .ref a1, .int x2, .int x3, .int x4, .int x5, .int x6, .long l7, .null, .int (x9 + 1), .int x10] [] h r h' :=
  (mX_iinc (ls' := [.ref 16, .ref a1, .int x2, .int x3, .int x4, .int x5, .int x6, .long l7, .null, .int (x9 + 1), .int x10]) d_X6_fitting_67 rfl ci_1 rfl rfl).trans <| mX_goto d_X6_fitting_70 rfl
theorem b_X6_fitting_73 {x2 x3 x4 x5 x6 x9 : Int32} {l7 : Int64} {a1 : Nat} {h h' : mn_H} {r : Option Value} (ha1 : mn_isT a1) : mn_E 61 73 [.ref 16, .ref a1, .int x2, .int x3, .int x4, .int x5, .int x6, .long l7, .null, .int x9, .null] [] h r h' ↔ r = some (.long l7) ∧ h' = h :=
  (mX_lload d_X6_fitting_73 rfl).trans <| mX_lret d_X6_fitting_75 rfl
-- X6_possible
theorem mo_62 : mO 62 = 6 := rfl
theorem d_X6_possible_0 : decode (mC 62) 0 = .ok (.aload_n 0, 1) := by decide +kernel
theorem d_X6_possible_1 : decode (mC 62) 1 = .ok (.aload_n 1, 1) := by decide +kernel
theorem d_X6_possible_2 : decode (mC 62) 2 = .ok (.iload_n 2, 1) := by decide +kernel
theorem d_X6_possible_3 : decode (mC 62) 3 = .ok (.iload_n 3, 1) := by decide +kernel
theorem d_X6_possible_4 : decode (mC 62) 4 = .ok (.iconst (-1), 1) := by decide +kernel
theorem d_X6_possible_5 : decode (mC 62) 5 = .ok (.iconst (-1), 1) := by decide +kernel
theorem d_X6_possible_6 : decode (mC 62) 6 = .ok (.invokevirtual 87, 3) := by decide +kernel
theorem d_X6_possible_9 : decode (mC 62) 9 = .ok (.lstore 4, 2) := by decide +kernel
theorem d_X6_possible_11 : decode (mC 62) 11 = .ok (.lload 4, 2) := by decide +kernel
theorem d_X6_possible_13 : decode (mC 62) 13 = .ok (.lconst 0, 1) := by decide +kernel
theorem d_X6_possible_14 : decode (mC 62) 14 = .ok (.lcmp, 1) := by decide +kernel
theorem d_X6_possible_15 : decode (mC 62) 15 = .ok (.ifCond .eq 8, 3) := by decide +kernel
theorem d_X6_possible_18 : decode (mC 62) 18 = .ok (.lload 4, 2) := by decide +kernel
theorem d_X6_possible_20 : decode (mC 62) 20 = .ok (.goto 15, 3) := by decide +kernel
theorem d_X6_possible_23 : decode (mC 62) 23 = .ok (.lconst 1, 1) := by decide +kernel
theorem d_X6_possible_24 : decode (mC 62) 24 = .ok (.aload_n 0, 1) := by decide +kernel
theorem d_X6_possible_25 : decode (mC 62) 25 = .ok (.iconst 0, 1) := by decide +kernel
theorem d_X6_possible_26 : decode (mC 62) 26 = .ok (.aload_n 1, 1) := by decide +kernel
theorem d_X6_possible_27 : decode (mC 62) 27 = .ok (.iload_n 3, 1) := by decide +kernel
theorem d_X6_possible_28 : decode (mC 62) 28 = .ok (.invokevirtual 73, 3) := by decide +kernel
theorem d_X6_possible_31 : decode (mC 62) 31 = .ok (.invokevirtual 77, 3) := by decide +kernel
theorem d_X6_possible_34 : decode (mC 62) 34 = .ok (.lshl, 1) := by decide +kernel
theorem d_X6_possible_35 : decode (mC 62) 35 = .ok (.lreturn, 1) := by decide +kernel
theorem cv_62_87 : mn_cvt 62 6 87 61 = true := by decide +kernel
theorem cv_62_73 : mn_cvt 62 6 73 53 = true := by decide +kernel
theorem cv_62_77 : mn_cvt 62 6 77 60 = true := by decide +kernel
theorem b_X6_possible_0 {x2 x3 : Int32} {a1 : Nat} {h h' : mn_H} {r : Option Value} (ha1 : mn_isT a1) : mn_E 62 0 [.ref 16, .ref a1, .int x2, .int x3, .null, .null] [] h r h' ↔ ∃ x h1, mn_X 61 [.ref 16, .ref a1, .int x2, .int x3, .int (-1), .int (-1)] h (some (.long x)) h1 ∧ mn_E 62 9 [.ref 16, .ref a1, .int x2, .int x3, .null, .null] [.long x] h1 r h' :=
  (mX_aload_n d_X6_possible_0 rfl).trans <| (mX_aload_n d_X6_possible_1 rfl).trans <| (mX_iload_n d_X6_possible_2 rfl).trans <| (mX_iload_n d_X6_possible_3 rfl).trans <| (mX_iconst d_X6_possible_4 ci_m1).trans <| (mX_iconst d_X6_possible_5 ci_m1).trans <| mV_l (a := 16) (vs := [.ref a1, .int x2, .int x3, .int (-1), .int (-1)]) (st' := []) d_X6_possible_6 cv_62_87 rfl (Nat.le_of_ble_eq_true rfl) rfl rfl rfl rfl
theorem b_X6_possible_9 {x2 x3 : Int32} {m0 : Int64} {a1 : Nat} {h h' : mn_H} {r : Option Value} (ha1 : mn_isT a1) : mn_E 62 9 [.ref 16, .ref a1, .int x2, .int x3, .null, .null] [.long m0] h r h' ↔ if (lg_cmp m0 0) = 0 then mn_E 62 23 [.ref 16, .ref a1, .int x2, .int x3, .long m0, .null] [] h r h' else mn_E 62 18 [.ref 16, .ref a1, .int x2, .int x3, .long m0, .null] [] h r h' :=
  (mX_lstore (ls' := [.ref 16, .ref a1, .int x2, .int x3, .long m0, .null]) d_X6_possible_9 rfl rfl).trans <| (mX_lload d_X6_possible_11 rfl).trans <| (mX_lconst d_X6_possible_13 cl_0).trans <| (mX_lcmp d_X6_possible_14).trans <| mX_if_eq d_X6_possible_15 rfl
theorem b_X6_possible_18 {x2 x3 : Int32} {l4 : Int64} {a1 : Nat} {h h' : mn_H} {r : Option Value} (ha1 : mn_isT a1) : mn_E 62 18 [.ref 16, .ref a1, .int x2, .int x3, .long l4, .null] [] h r h' ↔ mn_E 62 35 [.ref 16, .ref a1, .int x2, .int x3, .long l4, .null] [.long l4] h r h' :=
  (mX_lload d_X6_possible_18 rfl).trans <| mX_goto d_X6_possible_20 rfl
theorem b_X6_possible_23 {x2 x3 : Int32} {l4 : Int64} {a1 : Nat} {h h' : mn_H} {r : Option Value} (ha1 : mn_isT a1) : mn_E 62 23 [.ref 16, .ref a1, .int x2, .int x3, .long l4, .null] [] h r h' ↔ ∃ x h1, mn_X 53 [.ref a1, .int x3] h (some (.int x)) h1 ∧ mn_E 62 31 [.ref 16, .ref a1, .int x2, .int x3, .long l4, .null] [.int x, .int 0, .ref 16, .long 1] h1 r h' :=
  (mX_lconst d_X6_possible_23 cl_1).trans <| (mX_aload_n d_X6_possible_24 rfl).trans <| (mX_iconst d_X6_possible_25 ci_0).trans <| (mX_aload_n d_X6_possible_26 rfl).trans <| (mX_iload_n d_X6_possible_27 rfl).trans <| mV_i (a := a1) (vs := [.int x3]) (st' := [.int 0, .ref 16, .long 1]) d_X6_possible_28 cv_62_73 (Or.inl rfl) (Nat.le_of_ble_eq_true rfl) rfl rfl (mn_shT0 ha1) rfl
theorem b_X6_possible_31 {x2 x3 s0 s1 : Int32} {l4 m3 : Int64} {a1 : Nat} {h h' : mn_H} {r : Option Value} (ha1 : mn_isT a1) : mn_E 62 31 [.ref 16, .ref a1, .int x2, .int x3, .long l4, .null] [.int s0, .int s1, .ref 16, .long m3] h r h' ↔ ∃ x h1, mn_X 60 [.ref 16, .int s1, .int s0] h (some (.int x)) h1 ∧ mn_E 62 34 [.ref 16, .ref a1, .int x2, .int x3, .long l4, .null] [.int x, .long m3] h1 r h' :=
  mV_i (a := 16) (vs := [.int s1, .int s0]) (st' := [.long m3]) d_X6_possible_31 cv_62_77 (Or.inl rfl) (Nat.le_of_ble_eq_true rfl) rfl rfl rfl rfl
theorem b_X6_possible_34 {x2 x3 s0 : Int32} {l4 m1 : Int64} {a1 : Nat} {h h' : mn_H} {r : Option Value} (ha1 : mn_isT a1) : mn_E 62 34 [.ref 16, .ref a1, .int x2, .int x3, .long l4, .null] [.int s0, .long m1] h r h' ↔ mn_E 62 35 [.ref 16, .ref a1, .int x2, .int x3, .long l4, .null] [.long (m1 <<< (s0.toInt64 &&& 63))] h r h' :=
  mX_lshl d_X6_possible_34
theorem b_X6_possible_35 {x2 x3 : Int32} {l4 m0 : Int64} {a1 : Nat} {h h' : mn_H} {r : Option Value} (ha1 : mn_isT a1) : mn_E 62 35 [.ref 16, .ref a1, .int x2, .int x3, .long l4, .null] [.long m0] h r h' ↔ r = some (.long m0) ∧ h' = h :=
  mX_lret d_X6_possible_35 rfl
-- X6_wireUp
theorem mo_63 : mO 63 = 6 := rfl
theorem d_X6_wireUp_0 : decode (mC 63) 0 = .ok (.iload_n 1, 1) := by decide +kernel
theorem d_X6_wireUp_1 : decode (mC 63) 1 = .ok (.iconst (-1), 1) := by decide +kernel
theorem d_X6_wireUp_2 : decode (mC 63) 2 = .ok (.if_icmp .eq 8, 3) := by decide +kernel
theorem d_X6_wireUp_5 : decode (mC 63) 5 = .ok (.iload_n 2, 1) := by decide +kernel
theorem d_X6_wireUp_6 : decode (mC 63) 6 = .ok (.iconst (-1), 1) := by decide +kernel
theorem d_X6_wireUp_7 : decode (mC 63) 7 = .ok (.if_icmp .ne 5, 3) := by decide +kernel
theorem d_X6_wireUp_10 : decode (mC 63) 10 = .ok (.iload_n 0, 1) := by decide +kernel
theorem d_X6_wireUp_11 : decode (mC 63) 11 = .ok (.ireturn, 1) := by decide +kernel
theorem d_X6_wireUp_12 : decode (mC 63) 12 = .ok (.iload_n 0, 1) := by decide +kernel
theorem d_X6_wireUp_13 : decode (mC 63) 13 = .ok (.iconst 1, 1) := by decide +kernel
theorem d_X6_wireUp_14 : decode (mC 63) 14 = .ok (.iload_n 1, 1) := by decide +kernel
theorem d_X6_wireUp_15 : decode (mC 63) 15 = .ok (.ishl, 1) := by decide +kernel
theorem d_X6_wireUp_16 : decode (mC 63) 16 = .ok (.iconst (-1), 1) := by decide +kernel
theorem d_X6_wireUp_17 : decode (mC 63) 17 = .ok (.ixor, 1) := by decide +kernel
theorem d_X6_wireUp_18 : decode (mC 63) 18 = .ok (.iand, 1) := by decide +kernel
theorem d_X6_wireUp_19 : decode (mC 63) 19 = .ok (.iload_n 0, 1) := by decide +kernel
theorem d_X6_wireUp_20 : decode (mC 63) 20 = .ok (.iload_n 2, 1) := by decide +kernel
theorem d_X6_wireUp_21 : decode (mC 63) 21 = .ok (.ishr, 1) := by decide +kernel
theorem d_X6_wireUp_22 : decode (mC 63) 22 = .ok (.iconst 1, 1) := by decide +kernel
theorem d_X6_wireUp_23 : decode (mC 63) 23 = .ok (.iand, 1) := by decide +kernel
theorem d_X6_wireUp_24 : decode (mC 63) 24 = .ok (.iload_n 1, 1) := by decide +kernel
theorem d_X6_wireUp_25 : decode (mC 63) 25 = .ok (.ishl, 1) := by decide +kernel
theorem d_X6_wireUp_26 : decode (mC 63) 26 = .ok (.ior, 1) := by decide +kernel
theorem d_X6_wireUp_27 : decode (mC 63) 27 = .ok (.ireturn, 1) := by decide +kernel
theorem b_X6_wireUp_0 {x0 x1 x2 : Int32} {h h' : mn_H} {r : Option Value} : mn_E 63 0 [.int x0, .int x1, .int x2] [] h r h' ↔ if x1 = (-1) then mn_E 63 10 [.int x0, .int x1, .int x2] [] h r h' else mn_E 63 5 [.int x0, .int x1, .int x2] [] h r h' :=
  (mX_iload_n d_X6_wireUp_0 rfl).trans <| (mX_iconst d_X6_wireUp_1 ci_m1).trans <| mX_icmp_eq d_X6_wireUp_2 rfl
theorem b_X6_wireUp_5 {x0 x1 x2 : Int32} {h h' : mn_H} {r : Option Value} : mn_E 63 5 [.int x0, .int x1, .int x2] [] h r h' ↔ if ¬ x2 = (-1) then mn_E 63 12 [.int x0, .int x1, .int x2] [] h r h' else mn_E 63 10 [.int x0, .int x1, .int x2] [] h r h' :=
  (mX_iload_n d_X6_wireUp_5 rfl).trans <| (mX_iconst d_X6_wireUp_6 ci_m1).trans <| mX_icmp_ne d_X6_wireUp_7 rfl
theorem b_X6_wireUp_10 {x0 x1 x2 : Int32} {h h' : mn_H} {r : Option Value} : mn_E 63 10 [.int x0, .int x1, .int x2] [] h r h' ↔ r = some (.int x0) ∧ h' = h :=
  (mX_iload_n d_X6_wireUp_10 rfl).trans <| mX_iret d_X6_wireUp_11 rfl
theorem b_X6_wireUp_12 {x0 x1 x2 : Int32} {h h' : mn_H} {r : Option Value} : mn_E 63 12 [.int x0, .int x1, .int x2] [] h r h' ↔ r = some (.int ((x0 &&& ((1 <<< (x1 &&& 31)) ^^^ (-1))) ||| (((x0 >>> (x2 &&& 31)) &&& 1) <<< (x1 &&& 31)))) ∧ h' = h :=
  (mX_iload_n d_X6_wireUp_12 rfl).trans <| (mX_iconst d_X6_wireUp_13 ci_1).trans <| (mX_iload_n d_X6_wireUp_14 rfl).trans <| (mX_ishl d_X6_wireUp_15).trans <| (mX_iconst d_X6_wireUp_16 ci_m1).trans <| (mX_ixor d_X6_wireUp_17).trans <| (mX_iand d_X6_wireUp_18).trans <| (mX_iload_n d_X6_wireUp_19 rfl).trans <| (mX_iload_n d_X6_wireUp_20 rfl).trans <| (mX_ishr d_X6_wireUp_21).trans <| (mX_iconst d_X6_wireUp_22 ci_1).trans <| (mX_iand d_X6_wireUp_23).trans <| (mX_iload_n d_X6_wireUp_24 rfl).trans <| (mX_ishl d_X6_wireUp_25).trans <| (mX_ior d_X6_wireUp_26).trans <| mX_iret d_X6_wireUp_27 rfl
end
