-- ===== PART A: goes FIRST, ahead of the names: the tables' words, and 'selects' of the private methods out of them =====
/-- a private method of a class that the tables say can be made, by its rows of tables_1 -/
def lw_okq (q : MethodName × Nat) : Prop := (q.1.cls ≠ "java/lang/invoke/MethodHandle" ∧ q.1.cls ≠ "java/lang/invoke/VarHandle") ∧ Cond.instantiable q.1.cls q.2 ∈ tables_1 ∧ Cond.privateMethod q.1 ∈ tables_1 ∧ Cond.instanceMethod q.1 ∈ tables_1
theorem lw_p0 : lw_okq (⟨"WinterStation", "answered", "(I)I"⟩, 12) := ⟨⟨by decide +kernel, by decide +kernel⟩, List.mem_of_getElem? (i := 19) (by decide +kernel), List.mem_of_getElem? (i := 347) (by decide +kernel), List.mem_of_getElem? (i := 348) (by decide +kernel)⟩
theorem lw_p1 : lw_okq (⟨"WinterStation$RuleBook", "holds", "(IIILWinterStation$Sky;)Z"⟩, 11) := ⟨⟨by decide +kernel, by decide +kernel⟩, List.mem_of_getElem? (i := 251) (by decide +kernel), List.mem_of_getElem? (i := 378) (by decide +kernel), List.mem_of_getElem? (i := 379) (by decide +kernel)⟩
theorem lw_p2 : lw_okq (⟨"WinterStation$RuleBook", "testHolds", "(IILWinterStation$Sky;)Z"⟩, 11) := ⟨⟨by decide +kernel, by decide +kernel⟩, List.mem_of_getElem? (i := 251) (by decide +kernel), List.mem_of_getElem? (i := 382) (by decide +kernel), List.mem_of_getElem? (i := 383) (by decide +kernel)⟩
theorem lw_p3 : lw_okq (⟨"WinterStation$Power", "weighHour", "(II)V"⟩, 14) := ⟨⟨by decide +kernel, by decide +kernel⟩, List.mem_of_getElem? (i := 38) (by decide +kernel), List.mem_of_getElem? (i := 441) (by decide +kernel), List.mem_of_getElem? (i := 442) (by decide +kernel)⟩
theorem lw_p4 : lw_okq (⟨"WinterStation$Power", "lackOf", "(II)I"⟩, 14) := ⟨⟨by decide +kernel, by decide +kernel⟩, List.mem_of_getElem? (i := 38) (by decide +kernel), List.mem_of_getElem? (i := 445) (by decide +kernel), List.mem_of_getElem? (i := 446) (by decide +kernel)⟩
theorem lw_p5 : lw_okq (⟨"WinterStation$Power", "weighSet", "(II)V"⟩, 14) := ⟨⟨by decide +kernel, by decide +kernel⟩, List.mem_of_getElem? (i := 38) (by decide +kernel), List.mem_of_getElem? (i := 453) (by decide +kernel), List.mem_of_getElem? (i := 454) (by decide +kernel)⟩
theorem lw_p6 : lw_okq (⟨"WinterStation$Power", "keepPlan", "(I)V"⟩, 14) := ⟨⟨by decide +kernel, by decide +kernel⟩, List.mem_of_getElem? (i := 38) (by decide +kernel), List.mem_of_getElem? (i := 460) (by decide +kernel), List.mem_of_getElem? (i := 461) (by decide +kernel)⟩
theorem lw_p7 : lw_okq (⟨"WinterStation$Store", "boxesAbove", "(II)I"⟩, 4) := ⟨⟨by decide +kernel, by decide +kernel⟩, List.mem_of_getElem? (i := 89) (by decide +kernel), List.mem_of_getElem? (i := 492) (by decide +kernel), List.mem_of_getElem? (i := 493) (by decide +kernel)⟩
theorem lw_p8 : lw_okq (⟨"WinterStation$Store", "removeBelow", "(II)V"⟩, 4) := ⟨⟨by decide +kernel, by decide +kernel⟩, List.mem_of_getElem? (i := 89) (by decide +kernel), List.mem_of_getElem? (i := 496) (by decide +kernel), List.mem_of_getElem? (i := 497) (by decide +kernel)⟩
theorem lw_p9 : lw_okq (⟨"WinterStation$Crew", "place", "(IILWinterStation$Sky;LWinterStation$RuleBook;)V"⟩, 14) := ⟨⟨by decide +kernel, by decide +kernel⟩, List.mem_of_getElem? (i := 110) (by decide +kernel), List.mem_of_getElem? (i := 542) (by decide +kernel), List.mem_of_getElem? (i := 543) (by decide +kernel)⟩
theorem lw_p10 : lw_okq (⟨"WinterStation$Crew", "skilledFor", "(I)I"⟩, 14) := ⟨⟨by decide +kernel, by decide +kernel⟩, List.mem_of_getElem? (i := 110) (by decide +kernel), List.mem_of_getElem? (i := 546) (by decide +kernel), List.mem_of_getElem? (i := 547) (by decide +kernel)⟩
theorem lw_p11 : lw_okq (⟨"WinterStation$Crew", "isWeatherFor", "(IILWinterStation$Sky;I)Z"⟩, 14) := ⟨⟨by decide +kernel, by decide +kernel⟩, List.mem_of_getElem? (i := 110) (by decide +kernel), List.mem_of_getElem? (i := 557) (by decide +kernel), List.mem_of_getElem? (i := 558) (by decide +kernel)⟩
theorem lw_p12 : lw_okq (⟨"WinterStation$Crew", "illDuring", "(II)I"⟩, 14) := ⟨⟨by decide +kernel, by decide +kernel⟩, List.mem_of_getElem? (i := 110) (by decide +kernel), List.mem_of_getElem? (i := 563) (by decide +kernel), List.mem_of_getElem? (i := 564) (by decide +kernel)⟩
theorem lw_p13 : lw_okq (⟨"WinterStation$Crew", "busyAround", "(III)I"⟩, 14) := ⟨⟨by decide +kernel, by decide +kernel⟩, List.mem_of_getElem? (i := 110) (by decide +kernel), List.mem_of_getElem? (i := 567) (by decide +kernel), List.mem_of_getElem? (i := 568) (by decide +kernel)⟩
theorem lw_p14 : lw_okq (⟨"WinterStation$RuleReader", "split", "(LWinterStation$Tape;)V"⟩, 5) := ⟨⟨by decide +kernel, by decide +kernel⟩, List.mem_of_getElem? (i := 177) (by decide +kernel), List.mem_of_getElem? (i := 606) (by decide +kernel), List.mem_of_getElem? (i := 607) (by decide +kernel)⟩
theorem lw_p15 : lw_okq (⟨"WinterStation$RuleReader", "token", "()I"⟩, 5) := ⟨⟨by decide +kernel, by decide +kernel⟩, List.mem_of_getElem? (i := 177) (by decide +kernel), List.mem_of_getElem? (i := 699) (by decide +kernel), List.mem_of_getElem? (i := 700) (by decide +kernel)⟩
def lw_privs_1 : List (MethodName × Nat) := [(⟨"WinterStation", "answered", "(I)I"⟩, 12), (⟨"WinterStation$RuleBook", "holds", "(IIILWinterStation$Sky;)Z"⟩, 11), (⟨"WinterStation$RuleBook", "testHolds", "(IILWinterStation$Sky;)Z"⟩, 11), (⟨"WinterStation$Power", "weighHour", "(II)V"⟩, 14), (⟨"WinterStation$Power", "lackOf", "(II)I"⟩, 14), (⟨"WinterStation$Power", "weighSet", "(II)V"⟩, 14), (⟨"WinterStation$Power", "keepPlan", "(I)V"⟩, 14), (⟨"WinterStation$Store", "boxesAbove", "(II)I"⟩, 4), (⟨"WinterStation$Store", "removeBelow", "(II)V"⟩, 4), (⟨"WinterStation$Crew", "place", "(IILWinterStation$Sky;LWinterStation$RuleBook;)V"⟩, 14), (⟨"WinterStation$Crew", "skilledFor", "(I)I"⟩, 14), (⟨"WinterStation$Crew", "isWeatherFor", "(IILWinterStation$Sky;I)Z"⟩, 14), (⟨"WinterStation$Crew", "illDuring", "(II)I"⟩, 14), (⟨"WinterStation$Crew", "busyAround", "(III)I"⟩, 14), (⟨"WinterStation$RuleReader", "split", "(LWinterStation$Tape;)V"⟩, 5), (⟨"WinterStation$RuleReader", "token", "()I"⟩, 5)]
theorem lw_r1 : ∀ q ∈ lw_privs_1, lw_okq q := List.forall_mem_cons.mpr ⟨lw_p0, List.forall_mem_cons.mpr ⟨lw_p1, List.forall_mem_cons.mpr ⟨lw_p2, List.forall_mem_cons.mpr ⟨lw_p3, List.forall_mem_cons.mpr ⟨lw_p4, List.forall_mem_cons.mpr ⟨lw_p5, List.forall_mem_cons.mpr ⟨lw_p6, List.forall_mem_cons.mpr ⟨lw_p7, List.forall_mem_cons.mpr ⟨lw_p8, List.forall_mem_cons.mpr ⟨lw_p9, List.forall_mem_cons.mpr ⟨lw_p10, List.forall_mem_cons.mpr ⟨lw_p11, List.forall_mem_cons.mpr ⟨lw_p12, List.forall_mem_cons.mpr ⟨lw_p13, List.forall_mem_cons.mpr ⟨lw_p14, List.forall_mem_cons.mpr ⟨lw_p15, fun _ h => absurd h List.not_mem_nil⟩⟩⟩⟩⟩⟩⟩⟩⟩⟩⟩⟩⟩⟩⟩⟩
theorem lw_p16 : lw_okq (⟨"WinterStation$RuleReader", "readRule", "(LWinterStation$RuleBook;)Z"⟩, 5) := ⟨⟨by decide +kernel, by decide +kernel⟩, List.mem_of_getElem? (i := 177) (by decide +kernel), List.mem_of_getElem? (i := 703) (by decide +kernel), List.mem_of_getElem? (i := 704) (by decide +kernel)⟩
theorem lw_p17 : lw_okq (⟨"WinterStation$RuleReader", "readIf", "(LWinterStation$RuleBook;)Z"⟩, 5) := ⟨⟨by decide +kernel, by decide +kernel⟩, List.mem_of_getElem? (i := 177) (by decide +kernel), List.mem_of_getElem? (i := 707) (by decide +kernel), List.mem_of_getElem? (i := 708) (by decide +kernel)⟩
theorem lw_p18 : lw_okq (⟨"WinterStation$RuleReader", "readTest", "(LWinterStation$RuleBook;Z)Z"⟩, 5) := ⟨⟨by decide +kernel, by decide +kernel⟩, List.mem_of_getElem? (i := 177) (by decide +kernel), List.mem_of_getElem? (i := 715) (by decide +kernel), List.mem_of_getElem? (i := 716) (by decide +kernel)⟩
theorem lw_p19 : lw_okq (⟨"WinterStation$Radio", "isAllSent", "(I)Z"⟩, 14) := ⟨⟨by decide +kernel, by decide +kernel⟩, List.mem_of_getElem? (i := 199) (by decide +kernel), List.mem_of_getElem? (i := 778) (by decide +kernel), List.mem_of_getElem? (i := 779) (by decide +kernel)⟩
theorem lw_p20 : lw_okq (⟨"WinterStation$Radio", "sendPart", "(III)I"⟩, 14) := ⟨⟨by decide +kernel, by decide +kernel⟩, List.mem_of_getElem? (i := 199) (by decide +kernel), List.mem_of_getElem? (i := 782) (by decide +kernel), List.mem_of_getElem? (i := 783) (by decide +kernel)⟩
theorem lw_p21 : lw_okq (⟨"WinterStation$Radio", "isMessage", "(I)Z"⟩, 14) := ⟨⟨by decide +kernel, by decide +kernel⟩, List.mem_of_getElem? (i := 199) (by decide +kernel), List.mem_of_getElem? (i := 795) (by decide +kernel), List.mem_of_getElem? (i := 796) (by decide +kernel)⟩
theorem lw_p22 : lw_okq (⟨"WinterStation$Sky", "isCalm", "(I)Z"⟩, 1) := ⟨⟨by decide +kernel, by decide +kernel⟩, List.mem_of_getElem? (i := 27) (by decide +kernel), List.mem_of_getElem? (i := 815) (by decide +kernel), List.mem_of_getElem? (i := 816) (by decide +kernel)⟩
theorem lw_p23 : lw_okq (⟨"WinterStationModel", "told", "(I)I"⟩, 82) := ⟨⟨by decide +kernel, by decide +kernel⟩, List.mem_of_getElem? (i := 830) (by decide +kernel), List.mem_of_getElem? (i := 1098) (by decide +kernel), List.mem_of_getElem? (i := 1099) (by decide +kernel)⟩
theorem lw_p24 : lw_okq (⟨"WinterStationModel", "rationOf", "(I)I"⟩, 82) := ⟨⟨by decide +kernel, by decide +kernel⟩, List.mem_of_getElem? (i := 830) (by decide +kernel), List.mem_of_getElem? (i := 1106) (by decide +kernel), List.mem_of_getElem? (i := 1107) (by decide +kernel)⟩
theorem lw_p25 : lw_okq (⟨"WinterStationModel", "isTrue", "(II)Z"⟩, 82) := ⟨⟨by decide +kernel, by decide +kernel⟩, List.mem_of_getElem? (i := 830) (by decide +kernel), List.mem_of_getElem? (i := 1110) (by decide +kernel), List.mem_of_getElem? (i := 1111) (by decide +kernel)⟩
theorem lw_p26 : lw_okq (⟨"WinterStationModel", "demandOf", "(I)I"⟩, 82) := ⟨⟨by decide +kernel, by decide +kernel⟩, List.mem_of_getElem? (i := 830) (by decide +kernel), List.mem_of_getElem? (i := 1114) (by decide +kernel), List.mem_of_getElem? (i := 1115) (by decide +kernel)⟩
theorem lw_p27 : lw_okq (⟨"WinterStationModel", "lackOf", "(II)I"⟩, 82) := ⟨⟨by decide +kernel, by decide +kernel⟩, List.mem_of_getElem? (i := 830) (by decide +kernel), List.mem_of_getElem? (i := 1142) (by decide +kernel), List.mem_of_getElem? (i := 1143) (by decide +kernel)⟩
theorem lw_p28 : lw_okq (⟨"WinterStationModel", "fuelOf", "(II)I"⟩, 82) := ⟨⟨by decide +kernel, by decide +kernel⟩, List.mem_of_getElem? (i := 830) (by decide +kernel), List.mem_of_getElem? (i := 1147) (by decide +kernel), List.mem_of_getElem? (i := 1148) (by decide +kernel)⟩
theorem lw_p29 : lw_okq (⟨"WinterStationModel", "above", "(II)I"⟩, 82) := ⟨⟨by decide +kernel, by decide +kernel⟩, List.mem_of_getElem? (i := 830) (by decide +kernel), List.mem_of_getElem? (i := 1168) (by decide +kernel), List.mem_of_getElem? (i := 1169) (by decide +kernel)⟩
theorem lw_p30 : lw_okq (⟨"WinterStationModel", "whoAt", "(II)I"⟩, 82) := ⟨⟨by decide +kernel, by decide +kernel⟩, List.mem_of_getElem? (i := 830) (by decide +kernel), List.mem_of_getElem? (i := 1196) (by decide +kernel), List.mem_of_getElem? (i := 1197) (by decide +kernel)⟩
theorem lw_p31 : lw_okq (⟨"WinterStationModel", "isFree", "(III)Z"⟩, 82) := ⟨⟨by decide +kernel, by decide +kernel⟩, List.mem_of_getElem? (i := 830) (by decide +kernel), List.mem_of_getElem? (i := 1200) (by decide +kernel), List.mem_of_getElem? (i := 1201) (by decide +kernel)⟩
def lw_privs_2 : List (MethodName × Nat) := [(⟨"WinterStation$RuleReader", "readRule", "(LWinterStation$RuleBook;)Z"⟩, 5), (⟨"WinterStation$RuleReader", "readIf", "(LWinterStation$RuleBook;)Z"⟩, 5), (⟨"WinterStation$RuleReader", "readTest", "(LWinterStation$RuleBook;Z)Z"⟩, 5), (⟨"WinterStation$Radio", "isAllSent", "(I)Z"⟩, 14), (⟨"WinterStation$Radio", "sendPart", "(III)I"⟩, 14), (⟨"WinterStation$Radio", "isMessage", "(I)Z"⟩, 14), (⟨"WinterStation$Sky", "isCalm", "(I)Z"⟩, 1), (⟨"WinterStationModel", "told", "(I)I"⟩, 82), (⟨"WinterStationModel", "rationOf", "(I)I"⟩, 82), (⟨"WinterStationModel", "isTrue", "(II)Z"⟩, 82), (⟨"WinterStationModel", "demandOf", "(I)I"⟩, 82), (⟨"WinterStationModel", "lackOf", "(II)I"⟩, 82), (⟨"WinterStationModel", "fuelOf", "(II)I"⟩, 82), (⟨"WinterStationModel", "above", "(II)I"⟩, 82), (⟨"WinterStationModel", "whoAt", "(II)I"⟩, 82), (⟨"WinterStationModel", "isFree", "(III)Z"⟩, 82)]
theorem lw_r2 : ∀ q ∈ lw_privs_2, lw_okq q := List.forall_mem_cons.mpr ⟨lw_p16, List.forall_mem_cons.mpr ⟨lw_p17, List.forall_mem_cons.mpr ⟨lw_p18, List.forall_mem_cons.mpr ⟨lw_p19, List.forall_mem_cons.mpr ⟨lw_p20, List.forall_mem_cons.mpr ⟨lw_p21, List.forall_mem_cons.mpr ⟨lw_p22, List.forall_mem_cons.mpr ⟨lw_p23, List.forall_mem_cons.mpr ⟨lw_p24, List.forall_mem_cons.mpr ⟨lw_p25, List.forall_mem_cons.mpr ⟨lw_p26, List.forall_mem_cons.mpr ⟨lw_p27, List.forall_mem_cons.mpr ⟨lw_p28, List.forall_mem_cons.mpr ⟨lw_p29, List.forall_mem_cons.mpr ⟨lw_p30, List.forall_mem_cons.mpr ⟨lw_p31, fun _ h => absurd h List.not_mem_nil⟩⟩⟩⟩⟩⟩⟩⟩⟩⟩⟩⟩⟩⟩⟩⟩
theorem lw_p32 : lw_okq (⟨"WinterStationModel", "four", "(I)V"⟩, 82) := ⟨⟨by decide +kernel, by decide +kernel⟩, List.mem_of_getElem? (i := 830) (by decide +kernel), List.mem_of_getElem? (i := 1212) (by decide +kernel), List.mem_of_getElem? (i := 1213) (by decide +kernel)⟩
theorem lw_p33 : lw_okq (⟨"WinterStationModel", "next", "()V"⟩, 82) := ⟨⟨by decide +kernel, by decide +kernel⟩, List.mem_of_getElem? (i := 830) (by decide +kernel), List.mem_of_getElem? (i := 1224) (by decide +kernel), List.mem_of_getElem? (i := 1225) (by decide +kernel)⟩
theorem lw_p34 : lw_okq (⟨"WinterStationModel", "readRule", "()V"⟩, 82) := ⟨⟨by decide +kernel, by decide +kernel⟩, List.mem_of_getElem? (i := 830) (by decide +kernel), List.mem_of_getElem? (i := 1238) (by decide +kernel), List.mem_of_getElem? (i := 1239) (by decide +kernel)⟩
theorem lw_p35 : lw_okq (⟨"WinterStationModel", "isWord", "(IIIIII)Z"⟩, 82) := ⟨⟨by decide +kernel, by decide +kernel⟩, List.mem_of_getElem? (i := 830) (by decide +kernel), List.mem_of_getElem? (i := 1242) (by decide +kernel), List.mem_of_getElem? (i := 1243) (by decide +kernel)⟩
theorem lw_p36 : lw_okq (⟨"WinterStationModel", "must", "(Z)V"⟩, 82) := ⟨⟨by decide +kernel, by decide +kernel⟩, List.mem_of_getElem? (i := 830) (by decide +kernel), List.mem_of_getElem? (i := 1246) (by decide +kernel), List.mem_of_getElem? (i := 1247) (by decide +kernel)⟩
theorem lw_p37 : lw_okq (⟨"WinterStationModel", "number", "(J)I"⟩, 82) := ⟨⟨by decide +kernel, by decide +kernel⟩, List.mem_of_getElem? (i := 830) (by decide +kernel), List.mem_of_getElem? (i := 1250) (by decide +kernel), List.mem_of_getElem? (i := 1251) (by decide +kernel)⟩
theorem lw_p38 : lw_okq (⟨"WinterStationModel", "readTest", "(Z)V"⟩, 82) := ⟨⟨by decide +kernel, by decide +kernel⟩, List.mem_of_getElem? (i := 830) (by decide +kernel), List.mem_of_getElem? (i := 1254) (by decide +kernel), List.mem_of_getElem? (i := 1255) (by decide +kernel)⟩
theorem lw_p39 : lw_okq (⟨"WinterStationModel", "isSign", "(I)Z"⟩, 82) := ⟨⟨by decide +kernel, by decide +kernel⟩, List.mem_of_getElem? (i := 830) (by decide +kernel), List.mem_of_getElem? (i := 1258) (by decide +kernel), List.mem_of_getElem? (i := 1259) (by decide +kernel)⟩
theorem lw_p40 : lw_okq (⟨"WinterStationModel", "goHour", "()V"⟩, 82) := ⟨⟨by decide +kernel, by decide +kernel⟩, List.mem_of_getElem? (i := 830) (by decide +kernel), List.mem_of_getElem? (i := 1284) (by decide +kernel), List.mem_of_getElem? (i := 1285) (by decide +kernel)⟩
theorem lw_p41 : lw_okq (⟨"WinterStationModel", "nextMessage", "()I"⟩, 82) := ⟨⟨by decide +kernel, by decide +kernel⟩, List.mem_of_getElem? (i := 830) (by decide +kernel), List.mem_of_getElem? (i := 1288) (by decide +kernel), List.mem_of_getElem? (i := 1289) (by decide +kernel)⟩
def lw_privs_3 : List (MethodName × Nat) := [(⟨"WinterStationModel", "four", "(I)V"⟩, 82), (⟨"WinterStationModel", "next", "()V"⟩, 82), (⟨"WinterStationModel", "readRule", "()V"⟩, 82), (⟨"WinterStationModel", "isWord", "(IIIIII)Z"⟩, 82), (⟨"WinterStationModel", "must", "(Z)V"⟩, 82), (⟨"WinterStationModel", "number", "(J)I"⟩, 82), (⟨"WinterStationModel", "readTest", "(Z)V"⟩, 82), (⟨"WinterStationModel", "isSign", "(I)Z"⟩, 82), (⟨"WinterStationModel", "goHour", "()V"⟩, 82), (⟨"WinterStationModel", "nextMessage", "()I"⟩, 82)]
theorem lw_r3 : ∀ q ∈ lw_privs_3, lw_okq q := List.forall_mem_cons.mpr ⟨lw_p32, List.forall_mem_cons.mpr ⟨lw_p33, List.forall_mem_cons.mpr ⟨lw_p34, List.forall_mem_cons.mpr ⟨lw_p35, List.forall_mem_cons.mpr ⟨lw_p36, List.forall_mem_cons.mpr ⟨lw_p37, List.forall_mem_cons.mpr ⟨lw_p38, List.forall_mem_cons.mpr ⟨lw_p39, List.forall_mem_cons.mpr ⟨lw_p40, List.forall_mem_cons.mpr ⟨lw_p41, fun _ h => absurd h List.not_mem_nil⟩⟩⟩⟩⟩⟩⟩⟩⟩⟩
def lw_privs : List (MethodName × Nat) := lw_privs_1 ++ (lw_privs_2 ++ (lw_privs_3))
def lw_tbl : List Cond := k2_sels lw_privs ++ tables_1
theorem lw_privs_ok : ∀ q ∈ lw_privs, lw_okq q := by
  show ∀ q ∈ lw_privs_1 ++ (lw_privs_2 ++ (lw_privs_3)), lw_okq q
  exact List.forall_mem_append.mpr ⟨lw_r1, List.forall_mem_append.mpr ⟨lw_r2, lw_r3⟩⟩
def RX0 : String := "WinterStation$Crew"
def TX0 : u_T := fun k => match k with
  | 0 => ("WinterStation$Crew", "personSkills", "[I", true)
  | 1 => ("WinterStation$Crew", "spellPerson", "[I", true)
  | 2 => ("WinterStation$Crew", "spellFrom", "[I", true)
  | 3 => ("WinterStation$Crew", "spellTo", "[I", true)
  | 4 => ("WinterStation$Crew", "workHours", "[I", true)
  | 5 => ("WinterStation$Crew", "workPeople", "[I", true)
  | 6 => ("WinterStation$Crew", "workSkills", "[I", true)
  | 7 => ("WinterStation$Crew", "workSort", "[I", true)
  | 8 => ("WinterStation$Crew", "workBegin", "[I", true)
  | 9 => ("WinterStation$Crew", "workWho", "[I", true)
  | 10 => ("WinterStation$Crew", "people", "I", false)
  | 11 => ("WinterStation$Crew", "spells", "I", false)
  | 12 => ("WinterStation$Crew", "works", "I", false)
  | _ => ("WinterStation$Crew", "scheduled", "I", false)
def tyX0 : Nat → FieldType := fun k => match k with
  | 0 => .array .int
  | 1 => .array .int
  | 2 => .array .int
  | 3 => .array .int
  | 4 => .array .int
  | 5 => .array .int
  | 6 => .array .int
  | 7 => .array .int
  | 8 => .array .int
  | 9 => .array .int
  | 10 => .int
  | 11 => .int
  | 12 => .int
  | _ => .int
abbrev wsX00 : List Cond := u_ws RX0 TX0 14
theorem nmX0 : ∀ a, a < 14 → ∀ b, b < 14 → a ≠ b → (TX0 a).2.1 ≠ (TX0 b).2.1 := by decide +kernel
theorem tyX0_ok : ∀ k, k < 14 → parseFieldDescriptor (TX0 k).2.2.1 = some (tyX0 k) := by decide +kernel
abbrev cX0_init : ByteArray := prog_2_method_1_code
def yX0_init : MethodName := ⟨RX0, "<init>", "()V"⟩
abbrev cX0_addPerson : ByteArray := prog_2_method_2_code
def yX0_addPerson : MethodName := ⟨RX0, "addPerson", "(I)I"⟩
abbrev cX0_addSpell : ByteArray := prog_2_method_3_code
def yX0_addSpell : MethodName := ⟨RX0, "addSpell", "(III)I"⟩
abbrev cX0_addWork : ByteArray := prog_2_method_4_code
def yX0_addWork : MethodName := ⟨RX0, "addWork", "(IIII)I"⟩
abbrev cX0_makeSchedule : ByteArray := prog_2_method_5_code
def yX0_makeSchedule : MethodName := ⟨RX0, "makeSchedule", "(ILWinterStation$Sky;LWinterStation$RuleBook;)I"⟩
abbrev cX0_place : ByteArray := prog_2_method_6_code
def yX0_place : MethodName := ⟨RX0, "place", "(IILWinterStation$Sky;LWinterStation$RuleBook;)V"⟩
abbrev cX0_skilledFor : ByteArray := prog_2_method_7_code
def yX0_skilledFor : MethodName := ⟨RX0, "skilledFor", "(I)I"⟩
abbrev cX0_isWeatherFor : ByteArray := prog_2_method_8_code
def yX0_isWeatherFor : MethodName := ⟨RX0, "isWeatherFor", "(IILWinterStation$Sky;I)Z"⟩
abbrev cX0_illDuring : ByteArray := prog_2_method_9_code
def yX0_illDuring : MethodName := ⟨RX0, "illDuring", "(II)I"⟩
abbrev cX0_busyAround : ByteArray := prog_2_method_10_code
def yX0_busyAround : MethodName := ⟨RX0, "busyAround", "(III)I"⟩
abbrev cX0_lowestOf : ByteArray := prog_2_method_11_code
def yX0_lowestOf : MethodName := ⟨RX0, "lowestOf", "(II)I"⟩
abbrev cX0_ofWork : ByteArray := prog_2_method_12_code
def yX0_ofWork : MethodName := ⟨RX0, "ofWork", "(II)I"⟩
def RX1 : String := "WinterStation$Power"
def TX1 : u_T := fun k => match k with
  | 0 => ("WinterStation$Power", "outputs", "[I", true)
  | 1 => ("WinterStation$Power", "starts", "[I", true)
  | 2 => ("WinterStation$Power", "burns", "[I", true)
  | 3 => ("WinterStation$Power", "millGives", "[I", true)
  | 4 => ("WinterStation$Power", "demands", "[I", true)
  | 5 => ("WinterStation$Power", "choices", "[B", true)
  | 6 => ("WinterStation$Power", "fuelFrom", "[I", true)
  | 7 => ("WinterStation$Power", "fuelBehind", "[I", true)
  | 8 => ("WinterStation$Power", "planSets", "[I", true)
  | 9 => ("WinterStation$Power", "planLacks", "[I", true)
  | 10 => ("WinterStation$Power", "planHours", "I", false)
  | 11 => ("WinterStation$Power", "planLack", "I", false)
  | 12 => ("WinterStation$Power", "running", "I", false)
  | _ => ("WinterStation$Power", "engines", "I", false)
def tyX1 : Nat → FieldType := fun k => match k with
  | 0 => .array .int
  | 1 => .array .int
  | 2 => .array .int
  | 3 => .array .int
  | 4 => .array .int
  | 5 => .array .byte
  | 6 => .array .int
  | 7 => .array .int
  | 8 => .array .int
  | 9 => .array .int
  | 10 => .int
  | 11 => .int
  | 12 => .int
  | _ => .int
abbrev wsX10 : List Cond := u_ws RX1 TX1 14
theorem nmX1 : ∀ a, a < 14 → ∀ b, b < 14 → a ≠ b → (TX1 a).2.1 ≠ (TX1 b).2.1 := by decide +kernel
theorem tyX1_ok : ∀ k, k < 14 → parseFieldDescriptor (TX1 k).2.2.1 = some (tyX1 k) := by decide +kernel
abbrev cX1_init : ByteArray := prog_3_method_1_code
def yX1_init : MethodName := ⟨RX1, "<init>", "()V"⟩
abbrev cX1_addEngine : ByteArray := prog_3_method_2_code
def yX1_addEngine : MethodName := ⟨RX1, "addEngine", "(III)I"⟩
abbrev cX1_setMill : ByteArray := prog_3_method_3_code
def yX1_setMill : MethodName := ⟨RX1, "setMill", "(II)I"⟩
abbrev cX1_setDemand : ByteArray := prog_3_method_4_code
def yX1_setDemand : MethodName := ⟨RX1, "setDemand", "(II)I"⟩
abbrev cX1_switchOn : ByteArray := prog_3_method_5_code
def yX1_switchOn : MethodName := ⟨RX1, "switchOn", "(I)I"⟩
abbrev cX1_millAt : ByteArray := prog_3_method_6_code
def yX1_millAt : MethodName := ⟨RX1, "millAt", "(ILWinterStation$Sky;)I"⟩
abbrev cX1_demandLeft : ByteArray := prog_3_method_7_code
def yX1_demandLeft : MethodName := ⟨RX1, "demandLeft", "(ILWinterStation$Sky;LWinterStation$RuleBook;)I"⟩
abbrev cX1_makePlan : ByteArray := prog_3_method_8_code
def yX1_makePlan : MethodName := ⟨RX1, "makePlan", "(IILWinterStation$Sky;LWinterStation$RuleBook;)I"⟩
abbrev cX1_weighHour : ByteArray := prog_3_method_9_code
def yX1_weighHour : MethodName := ⟨RX1, "weighHour", "(II)V"⟩
abbrev cX1_weighSet : ByteArray := prog_3_method_10_code
def yX1_weighSet : MethodName := ⟨RX1, "weighSet", "(II)V"⟩
abbrev cX1_lackOf : ByteArray := prog_3_method_11_code
def yX1_lackOf : MethodName := ⟨RX1, "lackOf", "(II)I"⟩
abbrev cX1_keepPlan : ByteArray := prog_3_method_12_code
def yX1_keepPlan : MethodName := ⟨RX1, "keepPlan", "(I)V"⟩
abbrev cX1_ofPlan : ByteArray := prog_3_method_13_code
def yX1_ofPlan : MethodName := ⟨RX1, "ofPlan", "(II)I"⟩
def RX2 : String := "WinterStation$Radio"
def TX2 : u_T := fun k => match k with
  | 0 => ("WinterStation$Radio", "firstOfDay", "I", false)
  | 1 => ("WinterStation$Radio", "lastOfDay", "I", false)
  | 2 => ("WinterStation$Radio", "hourBytes", "I", false)
  | 3 => ("WinterStation$Radio", "messageBytes", "[I", true)
  | 4 => ("WinterStation$Radio", "messageRank", "[I", true)
  | 5 => ("WinterStation$Radio", "messageSent", "[I", true)
  | 6 => ("WinterStation$Radio", "firstHour", "[I", true)
  | 7 => ("WinterStation$Radio", "lastHour", "[I", true)
  | 8 => ("WinterStation$Radio", "unfinished", "[B", true)
  | 9 => ("WinterStation$Radio", "failureHour", "[I", true)
  | 10 => ("WinterStation$Radio", "failureKnown", "[I", true)
  | 11 => ("WinterStation$Radio", "messages", "I", false)
  | 12 => ("WinterStation$Radio", "failures", "I", false)
  | _ => ("WinterStation$Radio", "sentInAll", "I", false)
def tyX2 : Nat → FieldType := fun k => match k with
  | 0 => .int
  | 1 => .int
  | 2 => .int
  | 3 => .array .int
  | 4 => .array .int
  | 5 => .array .int
  | 6 => .array .int
  | 7 => .array .int
  | 8 => .array .byte
  | 9 => .array .int
  | 10 => .array .int
  | 11 => .int
  | 12 => .int
  | _ => .int
abbrev wsX20 : List Cond := u_ws RX2 TX2 14
theorem nmX2 : ∀ a, a < 14 → ∀ b, b < 14 → a ≠ b → (TX2 a).2.1 ≠ (TX2 b).2.1 := by decide +kernel
theorem tyX2_ok : ∀ k, k < 14 → parseFieldDescriptor (TX2 k).2.2.1 = some (tyX2 k) := by decide +kernel
abbrev cX2_init : ByteArray := prog_4_method_1_code
def yX2_init : MethodName := ⟨RX2, "<init>", "()V"⟩
abbrev cX2_tune : ByteArray := prog_4_method_2_code
def yX2_tune : MethodName := ⟨RX2, "tune", "(III)I"⟩
abbrev cX2_addMessage : ByteArray := prog_4_method_3_code
def yX2_addMessage : MethodName := ⟨RX2, "addMessage", "(II)I"⟩
abbrev cX2_addFailure : ByteArray := prog_4_method_4_code
def yX2_addFailure : MethodName := ⟨RX2, "addFailure", "(II)I"⟩
abbrev cX2_passHour : ByteArray := prog_4_method_5_code
def yX2_passHour : MethodName := ⟨RX2, "passHour", "(I)V"⟩
abbrev cX2_sendPart : ByteArray := prog_4_method_6_code
def yX2_sendPart : MethodName := ⟨RX2, "sendPart", "(III)I"⟩
abbrev cX2_isAllSent : ByteArray := prog_4_method_7_code
def yX2_isAllSent : MethodName := ⟨RX2, "isAllSent", "(I)Z"⟩
abbrev cX2_ofMessage : ByteArray := prog_4_method_8_code
def yX2_ofMessage : MethodName := ⟨RX2, "ofMessage", "(II)I"⟩
abbrev cX2_hasArrived : ByteArray := prog_4_method_9_code
def yX2_hasArrived : MethodName := ⟨RX2, "hasArrived", "(II)I"⟩
abbrev cX2_isMessage : ByteArray := prog_4_method_10_code
def yX2_isMessage : MethodName := ⟨RX2, "isMessage", "(I)Z"⟩
def RX3 : String := "WinterStation$RuleBook"
def TX3 : u_T := fun k => match k with
  | 0 => ("WinterStation$RuleBook", "testSubject", "[I", true)
  | 1 => ("WinterStation$RuleBook", "testIsAbove", "[Z", true)
  | 2 => ("WinterStation$RuleBook", "testNumber", "[I", true)
  | 3 => ("WinterStation$RuleBook", "testFollowsOr", "[Z", true)
  | 4 => ("WinterStation$RuleBook", "ifEnd", "[I", true)
  | 5 => ("WinterStation$RuleBook", "ifRation", "[I", true)
  | 6 => ("WinterStation$RuleBook", "rules", "I", false)
  | 7 => ("WinterStation$RuleBook", "tests", "I", false)
  | 8 => ("WinterStation$RuleBook", "ifs", "I", false)
  | 9 => ("WinterStation$RuleBook", "rest", "I", false)
  | _ => ("WinterStation$RuleBook", "bound", "I", false)
def tyX3 : Nat → FieldType := fun k => match k with
  | 0 => .array .int
  | 1 => .array .boolean
  | 2 => .array .int
  | 3 => .array .boolean
  | 4 => .array .int
  | 5 => .array .int
  | 6 => .int
  | 7 => .int
  | 8 => .int
  | 9 => .int
  | _ => .int
abbrev wsX30 : List Cond := u_ws RX3 TX3 11
theorem nmX3 : ∀ a, a < 11 → ∀ b, b < 11 → a ≠ b → (TX3 a).2.1 ≠ (TX3 b).2.1 := by decide +kernel
theorem tyX3_ok : ∀ k, k < 11 → parseFieldDescriptor (TX3 k).2.2.1 = some (tyX3 k) := by decide +kernel
abbrev cX3_init : ByteArray := prog_5_method_1_code
def yX3_init : MethodName := ⟨RX3, "<init>", "()V"⟩
abbrev cX3_clear : ByteArray := prog_5_method_2_code
def yX3_clear : MethodName := ⟨RX3, "clear", "()V"⟩
abbrev cX3_roomForTests : ByteArray := prog_5_method_3_code
def yX3_roomForTests : MethodName := ⟨RX3, "roomForTests", "()I"⟩
abbrev cX3_addRest : ByteArray := prog_5_method_4_code
def yX3_addRest : MethodName := ⟨RX3, "addRest", "(I)V"⟩
abbrev cX3_addCold : ByteArray := prog_5_method_5_code
def yX3_addCold : MethodName := ⟨RX3, "addCold", "(I)V"⟩
abbrev cX3_addTest : ByteArray := prog_5_method_6_code
def yX3_addTest : MethodName := ⟨RX3, "addTest", "(IZIZ)V"⟩
abbrev cX3_addIf : ByteArray := prog_5_method_7_code
def yX3_addIf : MethodName := ⟨RX3, "addIf", "(I)V"⟩
abbrev cX3_rationAt : ByteArray := prog_5_method_8_code
def yX3_rationAt : MethodName := ⟨RX3, "rationAt", "(ILWinterStation$Sky;)I"⟩
abbrev cX3_holds : ByteArray := prog_5_method_9_code
def yX3_holds : MethodName := ⟨RX3, "holds", "(IIILWinterStation$Sky;)Z"⟩
abbrev cX3_testHolds : ByteArray := prog_5_method_10_code
def yX3_testHolds : MethodName := ⟨RX3, "testHolds", "(IILWinterStation$Sky;)Z"⟩
def RX4 : String := "WinterStation$RuleReader"
def TX4 : u_T := fun k => match k with
  | 0 => ("WinterStation$RuleReader", "tokens", "[I", true)
  | 1 => ("WinterStation$RuleReader", "places", "[I", true)
  | 2 => ("WinterStation$RuleReader", "size", "I", false)
  | 3 => ("WinterStation$RuleReader", "endPlace", "I", false)
  | _ => ("WinterStation$RuleReader", "at", "I", false)
def tyX4 : Nat → FieldType := fun k => match k with
  | 0 => .array .int
  | 1 => .array .int
  | 2 => .int
  | 3 => .int
  | _ => .int
abbrev wsX40 : List Cond := u_ws RX4 TX4 5
theorem nmX4 : ∀ a, a < 5 → ∀ b, b < 5 → a ≠ b → (TX4 a).2.1 ≠ (TX4 b).2.1 := by decide +kernel
theorem tyX4_ok : ∀ k, k < 5 → parseFieldDescriptor (TX4 k).2.2.1 = some (tyX4 k) := by decide +kernel
abbrev cX4_init : ByteArray := prog_6_method_1_code
def yX4_init : MethodName := ⟨RX4, "<init>", "()V"⟩
abbrev cX4_read : ByteArray := prog_6_method_2_code
def yX4_read : MethodName := ⟨RX4, "read", "(LWinterStation$Tape;LWinterStation$RuleBook;)Z"⟩
abbrev cX4_place : ByteArray := prog_6_method_3_code
def yX4_place : MethodName := ⟨RX4, "place", "()I"⟩
abbrev cX4_token : ByteArray := prog_6_method_4_code
def yX4_token : MethodName := ⟨RX4, "token", "()I"⟩
abbrev cX4_readRule : ByteArray := prog_6_method_5_code
def yX4_readRule : MethodName := ⟨RX4, "readRule", "(LWinterStation$RuleBook;)Z"⟩
abbrev cX4_readIf : ByteArray := prog_6_method_6_code
def yX4_readIf : MethodName := ⟨RX4, "readIf", "(LWinterStation$RuleBook;)Z"⟩
abbrev cX4_readTest : ByteArray := prog_6_method_7_code
def yX4_readTest : MethodName := ⟨RX4, "readTest", "(LWinterStation$RuleBook;Z)Z"⟩
abbrev cX4_split : ByteArray := prog_6_method_8_code
def yX4_split : MethodName := ⟨RX4, "split", "(LWinterStation$Tape;)V"⟩
abbrev cX4_endOfToken : ByteArray := prog_6_method_9_code
def yX4_endOfToken : MethodName := ⟨RX4, "endOfToken", "(LWinterStation$Tape;I)I"⟩
abbrev cX4_isSameRow : ByteArray := prog_6_method_10_code
def yX4_isSameRow : MethodName := ⟨RX4, "isSameRow", "(II)Z"⟩
abbrev cX4_tokenOf : ByteArray := prog_6_method_11_code
def yX4_tokenOf : MethodName := ⟨RX4, "tokenOf", "(LWinterStation$Tape;II)I"⟩
abbrev cX4_isLetter : ByteArray := prog_6_method_12_code
def yX4_isLetter : MethodName := ⟨RX4, "isLetter", "(I)Z"⟩
abbrev cX4_isDigit : ByteArray := prog_6_method_13_code
def yX4_isDigit : MethodName := ⟨RX4, "isDigit", "(I)Z"⟩
abbrev cX4_numberToken : ByteArray := prog_6_method_14_code
def yX4_numberToken : MethodName := ⟨RX4, "numberToken", "(LWinterStation$Tape;II)I"⟩
abbrev cX4_signToken : ByteArray := prog_6_method_15_code
def yX4_signToken : MethodName := ⟨RX4, "signToken", "(I)I"⟩
abbrev cX4_wordToken : ByteArray := prog_6_method_16_code
def yX4_wordToken : MethodName := ⟨RX4, "wordToken", "(LWinterStation$Tape;II)I"⟩
abbrev cX4_isWord : ByteArray := prog_6_method_17_code
def yX4_isWord : MethodName := ⟨RX4, "isWord", "(Ljava/lang/String;LWinterStation$Tape;II)Z"⟩
def RX5 : String := "WinterStation$Sky"
def TX5 : u_T := fun k => match k with
  | _ => ("WinterStation$Sky", "packed", "[I", true)
def tyX5 : Nat → FieldType := fun k => match k with
  | _ => .array .int
abbrev wsX50 : List Cond := u_ws RX5 TX5 1
theorem nmX5 : ∀ a, a < 1 → ∀ b, b < 1 → a ≠ b → (TX5 a).2.1 ≠ (TX5 b).2.1 := by decide +kernel
theorem tyX5_ok : ∀ k, k < 1 → parseFieldDescriptor (TX5 k).2.2.1 = some (tyX5 k) := by decide +kernel
abbrev cX5_init : ByteArray := prog_7_method_1_code
def yX5_init : MethodName := ⟨RX5, "<init>", "()V"⟩
abbrev cX5_cover : ByteArray := prog_7_method_2_code
def yX5_cover : MethodName := ⟨RX5, "cover", "(IIIZI)V"⟩
abbrev cX5_windAt : ByteArray := prog_7_method_3_code
def yX5_windAt : MethodName := ⟨RX5, "windAt", "(I)I"⟩
abbrev cX5_lightAt : ByteArray := prog_7_method_4_code
def yX5_lightAt : MethodName := ⟨RX5, "lightAt", "(I)Z"⟩
abbrev cX5_coldAt : ByteArray := prog_7_method_5_code
def yX5_coldAt : MethodName := ⟨RX5, "coldAt", "(I)I"⟩
abbrev cX5_firstLanding : ByteArray := prog_7_method_6_code
def yX5_firstLanding : MethodName := ⟨RX5, "firstLanding", "(I)I"⟩
abbrev cX5_isCalm : ByteArray := prog_7_method_7_code
def yX5_isCalm : MethodName := ⟨RX5, "isCalm", "(I)Z"⟩
def RX6 : String := "WinterStation$Store"
def TX6 : u_T := fun k => match k with
  | 0 => ("WinterStation$Store", "kinds", "[I", true)
  | 1 => ("WinterStation$Store", "heights", "[I", true)
  | 2 => ("WinterStation$Store", "boxes", "I", false)
  | _ => ("WinterStation$Store", "lifted", "I", false)
def tyX6 : Nat → FieldType := fun k => match k with
  | 0 => .array .int
  | 1 => .array .int
  | 2 => .int
  | _ => .int
abbrev wsX60 : List Cond := u_ws RX6 TX6 4
theorem nmX6 : ∀ a, a < 4 → ∀ b, b < 4 → a ≠ b → (TX6 a).2.1 ≠ (TX6 b).2.1 := by decide +kernel
theorem tyX6_ok : ∀ k, k < 4 → parseFieldDescriptor (TX6 k).2.2.1 = some (tyX6 k) := by decide +kernel
abbrev cX6_init : ByteArray := prog_8_method_1_code
def yX6_init : MethodName := ⟨RX6, "<init>", "()V"⟩
abbrev cX6_put : ByteArray := prog_8_method_2_code
def yX6_put : MethodName := ⟨RX6, "put", "(II)I"⟩
abbrev cX6_takeOne : ByteArray := prog_8_method_3_code
def yX6_takeOne : MethodName := ⟨RX6, "takeOne", "(I)I"⟩
abbrev cX6_boxesAbove : ByteArray := prog_8_method_4_code
def yX6_boxesAbove : MethodName := ⟨RX6, "boxesAbove", "(II)I"⟩
abbrev cX6_removeBelow : ByteArray := prog_8_method_5_code
def yX6_removeBelow : MethodName := ⟨RX6, "removeBelow", "(II)V"⟩
abbrev cX6_ofStack : ByteArray := prog_8_method_6_code
def yX6_ofStack : MethodName := ⟨RX6, "ofStack", "(II)I"⟩
abbrev cX6_isStack : ByteArray := prog_8_method_7_code
def yX6_isStack : MethodName := ⟨RX6, "isStack", "(I)Z"⟩
def RX7 : String := "WinterStation$Tape"
def TX7 : u_T := fun k => match k with
  | 0 => ("WinterStation$Tape", "bytes", "[B", true)
  | _ => ("WinterStation$Tape", "length", "I", false)
def tyX7 : Nat → FieldType := fun k => match k with
  | 0 => .array .byte
  | _ => .int
abbrev wsX70 : List Cond := u_ws RX7 TX7 2
theorem nmX7 : ∀ a, a < 2 → ∀ b, b < 2 → a ≠ b → (TX7 a).2.1 ≠ (TX7 b).2.1 := by decide +kernel
theorem tyX7_ok : ∀ k, k < 2 → parseFieldDescriptor (TX7 k).2.2.1 = some (tyX7 k) := by decide +kernel
abbrev cX7_init : ByteArray := prog_9_method_1_code
def yX7_init : MethodName := ⟨RX7, "<init>", "()V"⟩
abbrev cX7_hasRoom : ByteArray := prog_9_method_2_code
def yX7_hasRoom : MethodName := ⟨RX7, "hasRoom", "()Z"⟩
abbrev cX7_append : ByteArray := prog_9_method_3_code
def yX7_append : MethodName := ⟨RX7, "append", "(I)V"⟩
def RX8 : String := "WinterStation"
def TX8 : u_T := fun k => match k with
  | 0 => ("WinterStation", "sky", "LWinterStation$Sky;", true)
  | 1 => ("WinterStation", "power", "LWinterStation$Power;", true)
  | 2 => ("WinterStation", "store", "LWinterStation$Store;", true)
  | 3 => ("WinterStation", "crew", "LWinterStation$Crew;", true)
  | 4 => ("WinterStation", "tape", "LWinterStation$Tape;", true)
  | 5 => ("WinterStation", "reader", "LWinterStation$RuleReader;", true)
  | 6 => ("WinterStation", "air", "LWinterStation$Radio;", true)
  | 7 => ("WinterStation", "book", "LWinterStation$RuleBook;", false)
  | 8 => ("WinterStation", "spareBook", "LWinterStation$RuleBook;", false)
  | 9 => ("WinterStation", "now", "I", false)
  | 10 => ("WinterStation", "faultPlace", "I", false)
  | _ => ("WinterStation", "refusal", "I", false)
def tyX8 : Nat → FieldType := fun k => match k with
  | 0 => .object "WinterStation$Sky"
  | 1 => .object "WinterStation$Power"
  | 2 => .object "WinterStation$Store"
  | 3 => .object "WinterStation$Crew"
  | 4 => .object "WinterStation$Tape"
  | 5 => .object "WinterStation$RuleReader"
  | 6 => .object "WinterStation$Radio"
  | 7 => .object "WinterStation$RuleBook"
  | 8 => .object "WinterStation$RuleBook"
  | 9 => .int
  | 10 => .int
  | _ => .int
abbrev wsX80 : List Cond := u_ws RX8 TX8 12
theorem nmX8 : ∀ a, a < 12 → ∀ b, b < 12 → a ≠ b → (TX8 a).2.1 ≠ (TX8 b).2.1 := by decide +kernel
theorem tyX8_ok : ∀ k, k < 12 → parseFieldDescriptor (TX8 k).2.2.1 = some (tyX8 k) := by decide +kernel
abbrev cX8_init : ByteArray := prog_1_method_1_code
def yX8_init : MethodName := ⟨RX8, "<init>", "()V"⟩
abbrev cX8_weather : ByteArray := prog_1_method_2_code
def yX8_weather : MethodName := ⟨RX8, "weather", "(IIIZI)I"⟩
abbrev cX8_hour : ByteArray := prog_1_method_3_code
def yX8_hour : MethodName := ⟨RX8, "hour", "(II)I"⟩
abbrev cX8_engine : ByteArray := prog_1_method_4_code
def yX8_engine : MethodName := ⟨RX8, "engine", "(III)I"⟩
abbrev cX8_mill : ByteArray := prog_1_method_5_code
def yX8_mill : MethodName := ⟨RX8, "mill", "(II)I"⟩
abbrev cX8_demand : ByteArray := prog_1_method_6_code
def yX8_demand : MethodName := ⟨RX8, "demand", "(II)I"⟩
abbrev cX8_on : ByteArray := prog_1_method_7_code
def yX8_on : MethodName := ⟨RX8, "on", "(I)I"⟩
abbrev cX8_plan : ByteArray := prog_1_method_8_code
def yX8_plan : MethodName := ⟨RX8, "plan", "(I)I"⟩
abbrev cX8_planned : ByteArray := prog_1_method_9_code
def yX8_planned : MethodName := ⟨RX8, "planned", "(II)I"⟩
abbrev cX8_box : ByteArray := prog_1_method_10_code
def yX8_box : MethodName := ⟨RX8, "box", "(II)I"⟩
abbrev cX8_take : ByteArray := prog_1_method_11_code
def yX8_take : MethodName := ⟨RX8, "take", "(I)I"⟩
abbrev cX8_stack : ByteArray := prog_1_method_12_code
def yX8_stack : MethodName := ⟨RX8, "stack", "(II)I"⟩
abbrev cX8_person : ByteArray := prog_1_method_13_code
def yX8_person : MethodName := ⟨RX8, "person", "(I)I"⟩
abbrev cX8_ill : ByteArray := prog_1_method_14_code
def yX8_ill : MethodName := ⟨RX8, "ill", "(III)I"⟩
abbrev cX8_work : ByteArray := prog_1_method_15_code
def yX8_work : MethodName := ⟨RX8, "work", "(IIII)I"⟩
abbrev cX8_schedule : ByteArray := prog_1_method_16_code
def yX8_schedule : MethodName := ⟨RX8, "schedule", "()I"⟩
abbrev cX8_begins : ByteArray := prog_1_method_17_code
def yX8_begins : MethodName := ⟨RX8, "begins", "(II)I"⟩
abbrev cX8_feed : ByteArray := prog_1_method_18_code
def yX8_feed : MethodName := ⟨RX8, "feed", "(IIIII)I"⟩
abbrev cX8_end : ByteArray := prog_1_method_19_code
def yX8_end : MethodName := ⟨RX8, "end", "(I)I"⟩
abbrev cX8_rules : ByteArray := prog_1_method_20_code
def yX8_rules : MethodName := ⟨RX8, "rules", "()I"⟩
abbrev cX8_fault : ByteArray := prog_1_method_21_code
def yX8_fault : MethodName := ⟨RX8, "fault", "()I"⟩
abbrev cX8_radio : ByteArray := prog_1_method_22_code
def yX8_radio : MethodName := ⟨RX8, "radio", "(III)I"⟩
abbrev cX8_message : ByteArray := prog_1_method_23_code
def yX8_message : MethodName := ⟨RX8, "message", "(II)I"⟩
abbrev cX8_fail : ByteArray := prog_1_method_24_code
def yX8_fail : MethodName := ⟨RX8, "fail", "(II)I"⟩
abbrev cX8_go : ByteArray := prog_1_method_25_code
def yX8_go : MethodName := ⟨RX8, "go", "(I)I"⟩
abbrev cX8_sent : ByteArray := prog_1_method_26_code
def yX8_sent : MethodName := ⟨RX8, "sent", "(II)I"⟩
abbrev cX8_arrived : ByteArray := prog_1_method_27_code
def yX8_arrived : MethodName := ⟨RX8, "arrived", "(II)I"⟩
abbrev cX8_land : ByteArray := prog_1_method_28_code
def yX8_land : MethodName := ⟨RX8, "land", "(I)I"⟩
abbrev cX8_count : ByteArray := prog_1_method_29_code
def yX8_count : MethodName := ⟨RX8, "count", "(I)I"⟩
abbrev cX8_status : ByteArray := prog_1_method_30_code
def yX8_status : MethodName := ⟨RX8, "status", "()I"⟩
abbrev cX8_answered : ByteArray := prog_1_method_31_code
def yX8_answered : MethodName := ⟨RX8, "answered", "(I)I"⟩
abbrev cX8_within : ByteArray := prog_1_method_32_code
def yX8_within : MethodName := ⟨RX8, "within", "(III)Z"⟩
abbrev cX8_isHour : ByteArray := prog_1_method_33_code
def yX8_isHour : MethodName := ⟨RX8, "isHour", "(I)Z"⟩
abbrev cX8_isSpan : ByteArray := prog_1_method_34_code
def yX8_isSpan : MethodName := ⟨RX8, "isSpan", "(II)Z"⟩
def RX9 : String := "WinterStationModel"
def TX9 : u_T := fun k => match k with
  | 0 => ("WinterStationModel", "thrown", "I", false)
  | 1 => ("WinterStationModel", "status", "I", false)
  | 2 => ("WinterStationModel", "now", "I", false)
  | 3 => ("WinterStationModel", "winds", "[I", true)
  | 4 => ("WinterStationModel", "lights", "[Z", true)
  | 5 => ("WinterStationModel", "colds", "[I", true)
  | 6 => ("WinterStationModel", "ruleMany", "I", false)
  | 7 => ("WinterStationModel", "rest", "I", false)
  | 8 => ("WinterStationModel", "bound", "I", false)
  | 9 => ("WinterStationModel", "ifs", "I", false)
  | 10 => ("WinterStationModel", "iFrom", "[I", true)
  | 11 => ("WinterStationModel", "iRation", "[I", true)
  | 12 => ("WinterStationModel", "tWhat", "[I", true)
  | 13 => ("WinterStationModel", "tLess", "[Z", true)
  | 14 => ("WinterStationModel", "tValue", "[I", true)
  | 15 => ("WinterStationModel", "tOr", "[Z", true)
  | 16 => ("WinterStationModel", "engines", "I", false)
  | 17 => ("WinterStationModel", "outputs", "[I", true)
  | 18 => ("WinterStationModel", "starts", "[I", true)
  | 19 => ("WinterStationModel", "burns", "[I", true)
  | 20 => ("WinterStationModel", "mills", "[I", true)
  | 21 => ("WinterStationModel", "demands", "[I", true)
  | 22 => ("WinterStationModel", "on", "I", false)
  | 23 => ("WinterStationModel", "planBits", "[I", true)
  | 24 => ("WinterStationModel", "planLack", "[I", true)
  | 25 => ("WinterStationModel", "planHours", "I", false)
  | 26 => ("WinterStationModel", "planLacks", "J", false)
  | 27 => ("WinterStationModel", "lackAhead", "[J", true)
  | 28 => ("WinterStationModel", "fuelAhead", "[J", true)
  | 29 => ("WinterStationModel", "lacks", "[I", true)
  | 30 => ("WinterStationModel", "boxes", "[I", true)
  | 31 => ("WinterStationModel", "boxMany", "[I", true)
  | 32 => ("WinterStationModel", "lifted", "I", false)
  | 33 => ("WinterStationModel", "people", "I", false)
  | 34 => ("WinterStationModel", "skills", "[I", true)
  | 35 => ("WinterStationModel", "spells", "I", false)
  | 36 => ("WinterStationModel", "pPerson", "[I", true)
  | 37 => ("WinterStationModel", "pFrom", "[I", true)
  | 38 => ("WinterStationModel", "pTo", "[I", true)
  | 39 => ("WinterStationModel", "works", "I", false)
  | 40 => ("WinterStationModel", "wHours", "[I", true)
  | 41 => ("WinterStationModel", "wPeople", "[I", true)
  | 42 => ("WinterStationModel", "wSkills", "[I", true)
  | 43 => ("WinterStationModel", "wSort", "[I", true)
  | 44 => ("WinterStationModel", "sBegin", "[I", true)
  | 45 => ("WinterStationModel", "sWho", "[I", true)
  | 46 => ("WinterStationModel", "scheduled", "I", false)
  | 47 => ("WinterStationModel", "tape", "[I", true)
  | 48 => ("WinterStationModel", "taped", "I", false)
  | 49 => ("WinterStationModel", "from", "I", false)
  | 50 => ("WinterStationModel", "to", "I", false)
  | 51 => ("WinterStationModel", "sort", "I", false)
  | 52 => ("WinterStationModel", "worth", "J", false)
  | 53 => ("WinterStationModel", "fault", "I", false)
  | 54 => ("WinterStationModel", "bad", "Z", false)
  | 55 => ("WinterStationModel", "nRules", "I", false)
  | 56 => ("WinterStationModel", "nRest", "I", false)
  | 57 => ("WinterStationModel", "nBound", "I", false)
  | 58 => ("WinterStationModel", "nIfs", "I", false)
  | 59 => ("WinterStationModel", "nTests", "I", false)
  | 60 => ("WinterStationModel", "nFrom", "[I", true)
  | 61 => ("WinterStationModel", "nRation", "[I", true)
  | 62 => ("WinterStationModel", "nWhat", "[I", true)
  | 63 => ("WinterStationModel", "nLess", "[Z", true)
  | 64 => ("WinterStationModel", "nValue", "[I", true)
  | 65 => ("WinterStationModel", "nOr", "[Z", true)
  | 66 => ("WinterStationModel", "radioFirst", "I", false)
  | 67 => ("WinterStationModel", "radioLast", "I", false)
  | 68 => ("WinterStationModel", "radioBytes", "I", false)
  | 69 => ("WinterStationModel", "messages", "I", false)
  | 70 => ("WinterStationModel", "mBytes", "[I", true)
  | 71 => ("WinterStationModel", "mRank", "[I", true)
  | 72 => ("WinterStationModel", "mSent", "[I", true)
  | 73 => ("WinterStationModel", "mFirst", "[I", true)
  | 74 => ("WinterStationModel", "mLast", "[I", true)
  | 75 => ("WinterStationModel", "logged", "I", false)
  | 76 => ("WinterStationModel", "gMessage", "[I", true)
  | 77 => ("WinterStationModel", "gHour", "[I", true)
  | 78 => ("WinterStationModel", "failures", "I", false)
  | 79 => ("WinterStationModel", "fHour", "[I", true)
  | 80 => ("WinterStationModel", "fKnown", "[I", true)
  | _ => ("WinterStationModel", "sentAll", "I", false)
def tyX9 : Nat → FieldType := fun k => match k with
  | 0 => .int
  | 1 => .int
  | 2 => .int
  | 3 => .array .int
  | 4 => .array .boolean
  | 5 => .array .int
  | 6 => .int
  | 7 => .int
  | 8 => .int
  | 9 => .int
  | 10 => .array .int
  | 11 => .array .int
  | 12 => .array .int
  | 13 => .array .boolean
  | 14 => .array .int
  | 15 => .array .boolean
  | 16 => .int
  | 17 => .array .int
  | 18 => .array .int
  | 19 => .array .int
  | 20 => .array .int
  | 21 => .array .int
  | 22 => .int
  | 23 => .array .int
  | 24 => .array .int
  | 25 => .int
  | 26 => .long
  | 27 => .array .long
  | 28 => .array .long
  | 29 => .array .int
  | 30 => .array .int
  | 31 => .array .int
  | 32 => .int
  | 33 => .int
  | 34 => .array .int
  | 35 => .int
  | 36 => .array .int
  | 37 => .array .int
  | 38 => .array .int
  | 39 => .int
  | 40 => .array .int
  | 41 => .array .int
  | 42 => .array .int
  | 43 => .array .int
  | 44 => .array .int
  | 45 => .array .int
  | 46 => .int
  | 47 => .array .int
  | 48 => .int
  | 49 => .int
  | 50 => .int
  | 51 => .int
  | 52 => .long
  | 53 => .int
  | 54 => .boolean
  | 55 => .int
  | 56 => .int
  | 57 => .int
  | 58 => .int
  | 59 => .int
  | 60 => .array .int
  | 61 => .array .int
  | 62 => .array .int
  | 63 => .array .boolean
  | 64 => .array .int
  | 65 => .array .boolean
  | 66 => .int
  | 67 => .int
  | 68 => .int
  | 69 => .int
  | 70 => .array .int
  | 71 => .array .int
  | 72 => .array .int
  | 73 => .array .int
  | 74 => .array .int
  | 75 => .int
  | 76 => .array .int
  | 77 => .array .int
  | 78 => .int
  | 79 => .array .int
  | 80 => .array .int
  | _ => .int
abbrev wsX90 : List Cond := u_ws RX9 TX9 82
theorem nmX9 : ∀ a, a < 82 → ∀ b, b < 82 → a ≠ b → (TX9 a).2.1 ≠ (TX9 b).2.1 := by decide +kernel
theorem tyX9_ok : ∀ k, k < 82 → parseFieldDescriptor (TX9 k).2.2.1 = some (tyX9 k) := by decide +kernel
abbrev cX9_init : ByteArray := prog_11_method_1_code
def yX9_init : MethodName := ⟨RX9, "<init>", "()V"⟩
abbrev cX9_in : ByteArray := prog_11_method_3_code
def yX9_in : MethodName := ⟨RX9, "in", "(JJJ)Z"⟩
abbrev cX9_told : ByteArray := prog_11_method_4_code
def yX9_told : MethodName := ⟨RX9, "told", "(I)I"⟩
abbrev cX9_isHour : ByteArray := prog_11_method_5_code
def yX9_isHour : MethodName := ⟨RX9, "isHour", "(I)Z"⟩
abbrev cX9_weather : ByteArray := prog_11_method_6_code
def yX9_weather : MethodName := ⟨RX9, "weather", "(IIIZI)I"⟩
abbrev cX9_isTrue : ByteArray := prog_11_method_7_code
def yX9_isTrue : MethodName := ⟨RX9, "isTrue", "(II)Z"⟩
abbrev cX9_rationOf : ByteArray := prog_11_method_8_code
def yX9_rationOf : MethodName := ⟨RX9, "rationOf", "(I)I"⟩
abbrev cX9_demandOf : ByteArray := prog_11_method_9_code
def yX9_demandOf : MethodName := ⟨RX9, "demandOf", "(I)I"⟩
abbrev cX9_hour : ByteArray := prog_11_method_10_code
def yX9_hour : MethodName := ⟨RX9, "hour", "(II)I"⟩
abbrev cX9_engine : ByteArray := prog_11_method_11_code
def yX9_engine : MethodName := ⟨RX9, "engine", "(III)I"⟩
abbrev cX9_mill : ByteArray := prog_11_method_12_code
def yX9_mill : MethodName := ⟨RX9, "mill", "(II)I"⟩
abbrev cX9_demand : ByteArray := prog_11_method_13_code
def yX9_demand : MethodName := ⟨RX9, "demand", "(II)I"⟩
abbrev cX9_on : ByteArray := prog_11_method_14_code
def yX9_on : MethodName := ⟨RX9, "on", "(I)I"⟩
abbrev cX9_lackOf : ByteArray := prog_11_method_15_code
def yX9_lackOf : MethodName := ⟨RX9, "lackOf", "(II)I"⟩
abbrev cX9_fuelOf : ByteArray := prog_11_method_16_code
def yX9_fuelOf : MethodName := ⟨RX9, "fuelOf", "(II)I"⟩
abbrev cX9_plan : ByteArray := prog_11_method_17_code
def yX9_plan : MethodName := ⟨RX9, "plan", "(I)I"⟩
abbrev cX9_planned : ByteArray := prog_11_method_18_code
def yX9_planned : MethodName := ⟨RX9, "planned", "(II)I"⟩
abbrev cX9_isStack : ByteArray := prog_11_method_19_code
def yX9_isStack : MethodName := ⟨RX9, "isStack", "(I)Z"⟩
abbrev cX9_box : ByteArray := prog_11_method_20_code
def yX9_box : MethodName := ⟨RX9, "box", "(II)I"⟩
abbrev cX9_above : ByteArray := prog_11_method_21_code
def yX9_above : MethodName := ⟨RX9, "above", "(II)I"⟩
abbrev cX9_take : ByteArray := prog_11_method_22_code
def yX9_take : MethodName := ⟨RX9, "take", "(I)I"⟩
abbrev cX9_stack : ByteArray := prog_11_method_23_code
def yX9_stack : MethodName := ⟨RX9, "stack", "(II)I"⟩
abbrev cX9_person : ByteArray := prog_11_method_24_code
def yX9_person : MethodName := ⟨RX9, "person", "(I)I"⟩
abbrev cX9_ill : ByteArray := prog_11_method_25_code
def yX9_ill : MethodName := ⟨RX9, "ill", "(III)I"⟩
abbrev cX9_work : ByteArray := prog_11_method_26_code
def yX9_work : MethodName := ⟨RX9, "work", "(IIII)I"⟩
abbrev cX9_isFree : ByteArray := prog_11_method_27_code
def yX9_isFree : MethodName := ⟨RX9, "isFree", "(III)Z"⟩
abbrev cX9_whoAt : ByteArray := prog_11_method_28_code
def yX9_whoAt : MethodName := ⟨RX9, "whoAt", "(II)I"⟩
abbrev cX9_schedule : ByteArray := prog_11_method_29_code
def yX9_schedule : MethodName := ⟨RX9, "schedule", "()I"⟩
abbrev cX9_begins : ByteArray := prog_11_method_30_code
def yX9_begins : MethodName := ⟨RX9, "begins", "(II)I"⟩
abbrev cX9_four : ByteArray := prog_11_method_31_code
def yX9_four : MethodName := ⟨RX9, "four", "(I)V"⟩
abbrev cX9_feed : ByteArray := prog_11_method_32_code
def yX9_feed : MethodName := ⟨RX9, "feed", "(IIIII)I"⟩
abbrev cX9_end : ByteArray := prog_11_method_33_code
def yX9_end : MethodName := ⟨RX9, "end", "(I)I"⟩
abbrev cX9_isSmall : ByteArray := prog_11_method_34_code
def yX9_isSmall : MethodName := ⟨RX9, "isSmall", "(I)Z"⟩
abbrev cX9_isDigit : ByteArray := prog_11_method_35_code
def yX9_isDigit : MethodName := ⟨RX9, "isDigit", "(I)Z"⟩
abbrev cX9_next : ByteArray := prog_11_method_36_code
def yX9_next : MethodName := ⟨RX9, "next", "()V"⟩
abbrev cX9_isWord : ByteArray := prog_11_method_37_code
def yX9_isWord : MethodName := ⟨RX9, "isWord", "(IIIIII)Z"⟩
abbrev cX9_isSign : ByteArray := prog_11_method_38_code
def yX9_isSign : MethodName := ⟨RX9, "isSign", "(I)Z"⟩
abbrev cX9_must : ByteArray := prog_11_method_39_code
def yX9_must : MethodName := ⟨RX9, "must", "(Z)V"⟩
abbrev cX9_number : ByteArray := prog_11_method_40_code
def yX9_number : MethodName := ⟨RX9, "number", "(J)I"⟩
abbrev cX9_readTest : ByteArray := prog_11_method_41_code
def yX9_readTest : MethodName := ⟨RX9, "readTest", "(Z)V"⟩
abbrev cX9_readRule : ByteArray := prog_11_method_42_code
def yX9_readRule : MethodName := ⟨RX9, "readRule", "()V"⟩
abbrev cX9_rules : ByteArray := prog_11_method_43_code
def yX9_rules : MethodName := ⟨RX9, "rules", "()I"⟩
abbrev cX9_fault : ByteArray := prog_11_method_44_code
def yX9_fault : MethodName := ⟨RX9, "fault", "()I"⟩
abbrev cX9_radio : ByteArray := prog_11_method_45_code
def yX9_radio : MethodName := ⟨RX9, "radio", "(III)I"⟩
abbrev cX9_message : ByteArray := prog_11_method_46_code
def yX9_message : MethodName := ⟨RX9, "message", "(II)I"⟩
abbrev cX9_fail : ByteArray := prog_11_method_47_code
def yX9_fail : MethodName := ⟨RX9, "fail", "(II)I"⟩
abbrev cX9_nextMessage : ByteArray := prog_11_method_48_code
def yX9_nextMessage : MethodName := ⟨RX9, "nextMessage", "()I"⟩
abbrev cX9_goHour : ByteArray := prog_11_method_49_code
def yX9_goHour : MethodName := ⟨RX9, "goHour", "()V"⟩
abbrev cX9_go : ByteArray := prog_11_method_50_code
def yX9_go : MethodName := ⟨RX9, "go", "(I)I"⟩
abbrev cX9_sent : ByteArray := prog_11_method_51_code
def yX9_sent : MethodName := ⟨RX9, "sent", "(II)I"⟩
abbrev cX9_arrived : ByteArray := prog_11_method_52_code
def yX9_arrived : MethodName := ⟨RX9, "arrived", "(II)I"⟩
abbrev cX9_land : ByteArray := prog_11_method_53_code
def yX9_land : MethodName := ⟨RX9, "land", "(I)I"⟩
abbrev cX9_count : ByteArray := prog_11_method_54_code
def yX9_count : MethodName := ⟨RX9, "count", "(I)I"⟩
abbrev cX9_status : ByteArray := prog_11_method_55_code
def yX9_status : MethodName := ⟨RX9, "status", "()I"⟩
def RJ6 : String := "java/lang/Integer"
def TJ6 : u_T := fun k => match k with
  | _ => ("", "", "", false)
def tyJ6 : Nat → FieldType := fun k => match k with
  | _ => .int
abbrev cJ6_bitCount_0f7a4 : ByteArray := prog_12_method_49_code
def yJ6_bitCount_0f7a4 : MethodName := ⟨RJ6, "bitCount", "(I)I"⟩
def RJ9 : String := "java/lang/Math"
def TJ9 : u_T := fun k => match k with
  | _ => ("", "", "", false)
def tyJ9 : Nat → FieldType := fun k => match k with
  | _ => .int
abbrev cJ9_max_7cf53 : ByteArray := prog_13_method_65_code
def yJ9_max_7cf53 : MethodName := ⟨RJ9, "max", "(II)I"⟩
abbrev cJ9_min_7cf53 : ByteArray := prog_13_method_69_code
def yJ9_min_7cf53 : MethodName := ⟨RJ9, "min", "(II)I"⟩
def RJ0 : String := "java/lang/String"
def TJ0 : u_T := fun k => match k with
  | _ => ("", "", "", false)
def tyJ0 : Nat → FieldType := fun k => match k with
  | _ => .int
abbrev cJ0_length_8abf5 : ByteArray := prog_14_method_54_code
def yJ0_length_8abf5 : MethodName := ⟨RJ0, "length", "()I"⟩
abbrev cJ0_charAt_5068e : ByteArray := prog_14_method_56_code
def yJ0_charAt_5068e : MethodName := ⟨RJ0, "charAt", "(I)C"⟩
abbrev cJ0_coder_7d493 : ByteArray := prog_14_method_152_code
def yJ0_coder_7d493 : MethodName := ⟨RJ0, "coder", "()B"⟩
abbrev cJ0_isLatin1_aae02 : ByteArray := prog_14_method_154_code
def yJ0_isLatin1_aae02 : MethodName := ⟨RJ0, "isLatin1", "()Z"⟩
abbrev cJ0_checkIndex_df160 : ByteArray := prog_14_method_155_code
def yJ0_checkIndex_df160 : MethodName := ⟨RJ0, "checkIndex", "(II)V"⟩
def RJ1 : String := "java/lang/StringLatin1"
def TJ1 : u_T := fun k => match k with
  | _ => ("", "", "", false)
def tyJ1 : Nat → FieldType := fun k => match k with
  | _ => .int
abbrev cJ1_charAt_3b067 : ByteArray := prog_15_method_2_code
def yJ1_charAt_3b067 : MethodName := ⟨RJ1, "charAt", "([BI)C"⟩
def RJ2 : String := "java/lang/StringUTF16"
def TJ2 : u_T := fun k => match k with
  | _ => ("", "", "", false)
def tyJ2 : Nat → FieldType := fun k => match k with
  | _ => .int
abbrev cJ2_getChar_3b067 : ByteArray := prog_16_method_5_code
def yJ2_getChar_3b067 : MethodName := ⟨RJ2, "getChar", "([BI)C"⟩
abbrev cJ2_length_9d52b : ByteArray := prog_16_method_6_code
def yJ2_length_9d52b : MethodName := ⟨RJ2, "length", "([B)I"⟩
abbrev cJ2_charAt_3b067 : ByteArray := prog_16_method_83_code
def yJ2_charAt_3b067 : MethodName := ⟨RJ2, "charAt", "([BI)C"⟩
abbrev cJ2_checkIndex_2214a : ByteArray := prog_16_method_91_code
def yJ2_checkIndex_2214a : MethodName := ⟨RJ2, "checkIndex", "(I[B)V"⟩
def RJ10 : String := "java/lang/System"
def TJ10 : u_T := fun k => match k with
  | _ => ("", "", "", false)
def tyJ10 : Nat → FieldType := fun k => match k with
  | _ => .int
def RJ3 : String := "jdk/internal/util/Preconditions"
def TJ3 : u_T := fun k => match k with
  | _ => ("", "", "", false)
def tyJ3 : Nat → FieldType := fun k => match k with
  | _ => .int
abbrev cJ3_checkIndex_8e157 : ByteArray := prog_18_method_11_code
def yJ3_checkIndex_8e157 : MethodName := ⟨RJ3, "checkIndex", "(IILjava/util/function/BiFunction;)I"⟩
def RL : String := "WinterStationLaw"
abbrev cL_law : ByteArray := code
def yL_law : MethodName := ⟨RL, "law", "([I)Z"⟩
abbrev vwCl : List vw_C := [(RX0, TX0, 14), (RX1, TX1, 14), (RX2, TX2, 14), (RX3, TX3, 11), (RX4, TX4, 5), (RX5, TX5, 1), (RX6, TX6, 4), (RX7, TX7, 2), (RX8, TX8, 12), (RX9, TX9, 82)]
