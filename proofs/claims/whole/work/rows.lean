section
-- ===== PART A: goes FIRST, ahead of the names: the tables' words, and 'selects' of the private methods out of them =====
/-- a private method of a class that the tables say can be made, by its rows of tables_1 -/
def lw_okq (q : MethodName × Nat) : Prop := (q.1.cls ≠ "java/lang/invoke/MethodHandle" ∧ q.1.cls ≠ "java/lang/invoke/VarHandle") ∧ Cond.instantiable q.1.cls q.2 ∈ tables_1 ∧ Cond.privateMethod q.1 ∈ tables_1 ∧ Cond.instanceMethod q.1 ∈ tables_1
theorem lw_p0 : lw_okq (⟨"RepairGroups$Nodes", "add", "(IIII)I"⟩, 12) := ⟨⟨by decide +kernel, by decide +kernel⟩, List.mem_of_getElem? (i := 138) (by decide +kernel), List.mem_of_getElem? (i := 373) (by decide +kernel), List.mem_of_getElem? (i := 374) (by decide +kernel)⟩
theorem lw_p1 : lw_okq (⟨"RepairGroups$FormText", "parseSum", "(LRepairGroups$Numbers;II)Z"⟩, 4) := ⟨⟨by decide +kernel, by decide +kernel⟩, List.mem_of_getElem? (i := 63) (by decide +kernel), List.mem_of_getElem? (i := 426) (by decide +kernel), List.mem_of_getElem? (i := 427) (by decide +kernel)⟩
theorem lw_p2 : lw_okq (⟨"RepairGroups$FormText", "parseTerm", "(LRepairGroups$Numbers;II)Z"⟩, 4) := ⟨⟨by decide +kernel, by decide +kernel⟩, List.mem_of_getElem? (i := 63) (by decide +kernel), List.mem_of_getElem? (i := 430) (by decide +kernel), List.mem_of_getElem? (i := 431) (by decide +kernel)⟩
theorem lw_p3 : lw_okq (⟨"RepairGroups$FormText", "next", "()I"⟩, 4) := ⟨⟨by decide +kernel, by decide +kernel⟩, List.mem_of_getElem? (i := 63) (by decide +kernel), List.mem_of_getElem? (i := 434) (by decide +kernel), List.mem_of_getElem? (i := 435) (by decide +kernel)⟩
theorem lw_p4 : lw_okq (⟨"RepairGroups$FormText", "skip", "(C)Z"⟩, 4) := ⟨⟨by decide +kernel, by decide +kernel⟩, List.mem_of_getElem? (i := 63) (by decide +kernel), List.mem_of_getElem? (i := 442) (by decide +kernel), List.mem_of_getElem? (i := 443) (by decide +kernel)⟩
theorem lw_p5 : lw_okq (⟨"RepairGroups$FormText", "parseData", "(I)Z"⟩, 4) := ⟨⟨by decide +kernel, by decide +kernel⟩, List.mem_of_getElem? (i := 63) (by decide +kernel), List.mem_of_getElem? (i := 446) (by decide +kernel), List.mem_of_getElem? (i := 447) (by decide +kernel)⟩
theorem lw_p6 : lw_okq (⟨"RepairGroups$Helps", "weigh", "(LRepairGroups$Nodes;)V"⟩, 2) := ⟨⟨by decide +kernel, by decide +kernel⟩, List.mem_of_getElem? (i := 119) (by decide +kernel), List.mem_of_getElem? (i := 511) (by decide +kernel), List.mem_of_getElem? (i := 512) (by decide +kernel)⟩
theorem lw_p7 : lw_okq (⟨"RepairGroups", "fewestTellers", "(I)I"⟩, 11) := ⟨⟨by decide +kernel, by decide +kernel⟩, List.mem_of_getElem? (i := 17) (by decide +kernel), List.mem_of_getElem? (i := 521) (by decide +kernel), List.mem_of_getElem? (i := 522) (by decide +kernel)⟩
theorem lw_p8 : lw_okq (⟨"RepairGroups", "missingWithHelp", "()I"⟩, 11) := ⟨⟨by decide +kernel, by decide +kernel⟩, List.mem_of_getElem? (i := 17) (by decide +kernel), List.mem_of_getElem? (i := 562) (by decide +kernel), List.mem_of_getElem? (i := 563) (by decide +kernel)⟩
theorem lw_p9 : lw_okq (⟨"RepairGroups", "tellAllData", "(I)Z"⟩, 11) := ⟨⟨by decide +kernel, by decide +kernel⟩, List.mem_of_getElem? (i := 17) (by decide +kernel), List.mem_of_getElem? (i := 568) (by decide +kernel), List.mem_of_getElem? (i := 569) (by decide +kernel)⟩
theorem lw_p10 : lw_okq (⟨"RepairGroups", "distance", "()I"⟩, 11) := ⟨⟨by decide +kernel, by decide +kernel⟩, List.mem_of_getElem? (i := 17) (by decide +kernel), List.mem_of_getElem? (i := 572) (by decide +kernel), List.mem_of_getElem? (i := 573) (by decide +kernel)⟩
theorem lw_p11 : lw_okq (⟨"RepairGroups", "safeSets", "(I)I"⟩, 11) := ⟨⟨by decide +kernel, by decide +kernel⟩, List.mem_of_getElem? (i := 17) (by decide +kernel), List.mem_of_getElem? (i := 576) (by decide +kernel), List.mem_of_getElem? (i := 577) (by decide +kernel)⟩
theorem lw_p12 : lw_okq (⟨"RepairGroups", "allSets", "(I)I"⟩, 11) := ⟨⟨by decide +kernel, by decide +kernel⟩, List.mem_of_getElem? (i := 17) (by decide +kernel), List.mem_of_getElem? (i := 580) (by decide +kernel), List.mem_of_getElem? (i := 581) (by decide +kernel)⟩
theorem lw_p13 : lw_okq (⟨"RepairGroups$Chooser", "tryAll", "(LRepairGroups$Nodes;III)V"⟩, 4) := ⟨⟨by decide +kernel, by decide +kernel⟩, List.mem_of_getElem? (i := 244) (by decide +kernel), List.mem_of_getElem? (i := 609) (by decide +kernel), List.mem_of_getElem? (i := 610) (by decide +kernel)⟩
theorem lw_p14 : lw_okq (⟨"RepairGroups", "tellSymbol", "(LRepairGroups$Pairs;II)I"⟩, 11) := ⟨⟨by decide +kernel, by decide +kernel⟩, List.mem_of_getElem? (i := 17) (by decide +kernel), List.mem_of_getElem? (i := 629) (by decide +kernel), List.mem_of_getElem? (i := 630) (by decide +kernel)⟩
theorem lw_p15 : lw_okq (⟨"RepairGroups", "gatherSeen", "()Z"⟩, 11) := ⟨⟨by decide +kernel, by decide +kernel⟩, List.mem_of_getElem? (i := 17) (by decide +kernel), List.mem_of_getElem? (i := 641) (by decide +kernel), List.mem_of_getElem? (i := 642) (by decide +kernel)⟩
def lw_privs_1 : List (MethodName × Nat) := [(⟨"RepairGroups$Nodes", "add", "(IIII)I"⟩, 12), (⟨"RepairGroups$FormText", "parseSum", "(LRepairGroups$Numbers;II)Z"⟩, 4), (⟨"RepairGroups$FormText", "parseTerm", "(LRepairGroups$Numbers;II)Z"⟩, 4), (⟨"RepairGroups$FormText", "next", "()I"⟩, 4), (⟨"RepairGroups$FormText", "skip", "(C)Z"⟩, 4), (⟨"RepairGroups$FormText", "parseData", "(I)Z"⟩, 4), (⟨"RepairGroups$Helps", "weigh", "(LRepairGroups$Nodes;)V"⟩, 2), (⟨"RepairGroups", "fewestTellers", "(I)I"⟩, 11), (⟨"RepairGroups", "missingWithHelp", "()I"⟩, 11), (⟨"RepairGroups", "tellAllData", "(I)Z"⟩, 11), (⟨"RepairGroups", "distance", "()I"⟩, 11), (⟨"RepairGroups", "safeSets", "(I)I"⟩, 11), (⟨"RepairGroups", "allSets", "(I)I"⟩, 11), (⟨"RepairGroups$Chooser", "tryAll", "(LRepairGroups$Nodes;III)V"⟩, 4), (⟨"RepairGroups", "tellSymbol", "(LRepairGroups$Pairs;II)I"⟩, 11), (⟨"RepairGroups", "gatherSeen", "()Z"⟩, 11)]
theorem lw_r1 : ∀ q ∈ lw_privs_1, lw_okq q := List.forall_mem_cons.mpr ⟨lw_p0, List.forall_mem_cons.mpr ⟨lw_p1, List.forall_mem_cons.mpr ⟨lw_p2, List.forall_mem_cons.mpr ⟨lw_p3, List.forall_mem_cons.mpr ⟨lw_p4, List.forall_mem_cons.mpr ⟨lw_p5, List.forall_mem_cons.mpr ⟨lw_p6, List.forall_mem_cons.mpr ⟨lw_p7, List.forall_mem_cons.mpr ⟨lw_p8, List.forall_mem_cons.mpr ⟨lw_p9, List.forall_mem_cons.mpr ⟨lw_p10, List.forall_mem_cons.mpr ⟨lw_p11, List.forall_mem_cons.mpr ⟨lw_p12, List.forall_mem_cons.mpr ⟨lw_p13, List.forall_mem_cons.mpr ⟨lw_p14, List.forall_mem_cons.mpr ⟨lw_p15, fun _ h => absurd h List.not_mem_nil⟩⟩⟩⟩⟩⟩⟩⟩⟩⟩⟩⟩⟩⟩⟩⟩
theorem lw_p16 : lw_okq (⟨"RepairGroups", "seenForm", "(I)I"⟩, 11) := ⟨⟨by decide +kernel, by decide +kernel⟩, List.mem_of_getElem? (i := 17) (by decide +kernel), List.mem_of_getElem? (i := 646) (by decide +kernel), List.mem_of_getElem? (i := 647) (by decide +kernel)⟩
theorem lw_p17 : lw_okq (⟨"RepairGroups", "leastWay", "()J"⟩, 11) := ⟨⟨by decide +kernel, by decide +kernel⟩, List.mem_of_getElem? (i := 17) (by decide +kernel), List.mem_of_getElem? (i := 651) (by decide +kernel), List.mem_of_getElem? (i := 652) (by decide +kernel)⟩
theorem lw_p18 : lw_okq (⟨"RepairGroups", "playStep", "(II)I"⟩, 11) := ⟨⟨by decide +kernel, by decide +kernel⟩, List.mem_of_getElem? (i := 17) (by decide +kernel), List.mem_of_getElem? (i := 693) (by decide +kernel), List.mem_of_getElem? (i := 694) (by decide +kernel)⟩
theorem lw_p19 : lw_okq (⟨"RepairGroups", "shown", "(I)I"⟩, 11) := ⟨⟨by decide +kernel, by decide +kernel⟩, List.mem_of_getElem? (i := 17) (by decide +kernel), List.mem_of_getElem? (i := 706) (by decide +kernel), List.mem_of_getElem? (i := 707) (by decide +kernel)⟩
theorem lw_p20 : lw_okq (⟨"RepairGroupsModel", "makes", "(I)V"⟩, 41) := ⟨⟨by decide +kernel, by decide +kernel⟩, List.mem_of_getElem? (i := 780) (by decide +kernel), List.mem_of_getElem? (i := 786) (by decide +kernel), List.mem_of_getElem? (i := 787) (by decide +kernel)⟩
theorem lw_p21 : lw_okq (⟨"RepairGroupsModel", "times", "(II)I"⟩, 41) := ⟨⟨by decide +kernel, by decide +kernel⟩, List.mem_of_getElem? (i := 780) (by decide +kernel), List.mem_of_getElem? (i := 940) (by decide +kernel), List.mem_of_getElem? (i := 941) (by decide +kernel)⟩
theorem lw_p22 : lw_okq (⟨"RepairGroupsModel", "by", "(II)I"⟩, 41) := ⟨⟨by decide +kernel, by decide +kernel⟩, List.mem_of_getElem? (i := 780) (by decide +kernel), List.mem_of_getElem? (i := 944) (by decide +kernel), List.mem_of_getElem? (i := 945) (by decide +kernel)⟩
theorem lw_p23 : lw_okq (⟨"RepairGroupsModel", "newNode", "(III)I"⟩, 41) := ⟨⟨by decide +kernel, by decide +kernel⟩, List.mem_of_getElem? (i := 780) (by decide +kernel), List.mem_of_getElem? (i := 952) (by decide +kernel), List.mem_of_getElem? (i := 953) (by decide +kernel)⟩
theorem lw_p24 : lw_okq (⟨"RepairGroupsModel", "isE", "(I)Z"⟩, 41) := ⟨⟨by decide +kernel, by decide +kernel⟩, List.mem_of_getElem? (i := 780) (by decide +kernel), List.mem_of_getElem? (i := 964) (by decide +kernel), List.mem_of_getElem? (i := 965) (by decide +kernel)⟩
theorem lw_p25 : lw_okq (⟨"RepairGroupsModel", "isT", "(I)Z"⟩, 41) := ⟨⟨by decide +kernel, by decide +kernel⟩, List.mem_of_getElem? (i := 780) (by decide +kernel), List.mem_of_getElem? (i := 968) (by decide +kernel), List.mem_of_getElem? (i := 969) (by decide +kernel)⟩
theorem lw_p26 : lw_okq (⟨"RepairGroupsModel", "is", "(I)Z"⟩, 41) := ⟨⟨by decide +kernel, by decide +kernel⟩, List.mem_of_getElem? (i := 780) (by decide +kernel), List.mem_of_getElem? (i := 972) (by decide +kernel), List.mem_of_getElem? (i := 973) (by decide +kernel)⟩
theorem lw_p27 : lw_okq (⟨"RepairGroupsModel", "sign", "()I"⟩, 41) := ⟨⟨by decide +kernel, by decide +kernel⟩, List.mem_of_getElem? (i := 780) (by decide +kernel), List.mem_of_getElem? (i := 976) (by decide +kernel), List.mem_of_getElem? (i := 977) (by decide +kernel)⟩
theorem lw_p28 : lw_okq (⟨"RepairGroupsModel", "isLost", "()Z"⟩, 41) := ⟨⟨by decide +kernel, by decide +kernel⟩, List.mem_of_getElem? (i := 780) (by decide +kernel), List.mem_of_getElem? (i := 980) (by decide +kernel), List.mem_of_getElem? (i := 981) (by decide +kernel)⟩
theorem lw_p29 : lw_okq (⟨"RepairGroupsModel", "isOne", "(I)Z"⟩, 41) := ⟨⟨by decide +kernel, by decide +kernel⟩, List.mem_of_getElem? (i := 780) (by decide +kernel), List.mem_of_getElem? (i := 988) (by decide +kernel), List.mem_of_getElem? (i := 989) (by decide +kernel)⟩
theorem lw_p30 : lw_okq (⟨"RepairGroupsModel", "helps", "(I)V"⟩, 41) := ⟨⟨by decide +kernel, by decide +kernel⟩, List.mem_of_getElem? (i := 780) (by decide +kernel), List.mem_of_getElem? (i := 996) (by decide +kernel), List.mem_of_getElem? (i := 997) (by decide +kernel)⟩
theorem lw_p31 : lw_okq (⟨"RepairGroupsModel", "there", "()I"⟩, 41) := ⟨⟨by decide +kernel, by decide +kernel⟩, List.mem_of_getElem? (i := 780) (by decide +kernel), List.mem_of_getElem? (i := 1000) (by decide +kernel), List.mem_of_getElem? (i := 1001) (by decide +kernel)⟩
def lw_privs_2 : List (MethodName × Nat) := [(⟨"RepairGroups", "seenForm", "(I)I"⟩, 11), (⟨"RepairGroups", "leastWay", "()J"⟩, 11), (⟨"RepairGroups", "playStep", "(II)I"⟩, 11), (⟨"RepairGroups", "shown", "(I)I"⟩, 11), (⟨"RepairGroupsModel", "makes", "(I)V"⟩, 41), (⟨"RepairGroupsModel", "times", "(II)I"⟩, 41), (⟨"RepairGroupsModel", "by", "(II)I"⟩, 41), (⟨"RepairGroupsModel", "newNode", "(III)I"⟩, 41), (⟨"RepairGroupsModel", "isE", "(I)Z"⟩, 41), (⟨"RepairGroupsModel", "isT", "(I)Z"⟩, 41), (⟨"RepairGroupsModel", "is", "(I)Z"⟩, 41), (⟨"RepairGroupsModel", "sign", "()I"⟩, 41), (⟨"RepairGroupsModel", "isLost", "()Z"⟩, 41), (⟨"RepairGroupsModel", "isOne", "(I)Z"⟩, 41), (⟨"RepairGroupsModel", "helps", "(I)V"⟩, 41), (⟨"RepairGroupsModel", "there", "()I"⟩, 41)]
theorem lw_r2 : ∀ q ∈ lw_privs_2, lw_okq q := List.forall_mem_cons.mpr ⟨lw_p16, List.forall_mem_cons.mpr ⟨lw_p17, List.forall_mem_cons.mpr ⟨lw_p18, List.forall_mem_cons.mpr ⟨lw_p19, List.forall_mem_cons.mpr ⟨lw_p20, List.forall_mem_cons.mpr ⟨lw_p21, List.forall_mem_cons.mpr ⟨lw_p22, List.forall_mem_cons.mpr ⟨lw_p23, List.forall_mem_cons.mpr ⟨lw_p24, List.forall_mem_cons.mpr ⟨lw_p25, List.forall_mem_cons.mpr ⟨lw_p26, List.forall_mem_cons.mpr ⟨lw_p27, List.forall_mem_cons.mpr ⟨lw_p28, List.forall_mem_cons.mpr ⟨lw_p29, List.forall_mem_cons.mpr ⟨lw_p30, List.forall_mem_cons.mpr ⟨lw_p31, fun _ h => absurd h List.not_mem_nil⟩⟩⟩⟩⟩⟩⟩⟩⟩⟩⟩⟩⟩⟩⟩⟩
theorem lw_p32 : lw_okq (⟨"RepairGroupsModel", "cost", "(I)I"⟩, 41) := ⟨⟨by decide +kernel, by decide +kernel⟩, List.mem_of_getElem? (i := 780) (by decide +kernel), List.mem_of_getElem? (i := 1004) (by decide +kernel), List.mem_of_getElem? (i := 1005) (by decide +kernel)⟩
theorem lw_p33 : lw_okq (⟨"RepairGroupsModel", "tells", "(II)Z"⟩, 41) := ⟨⟨by decide +kernel, by decide +kernel⟩, List.mem_of_getElem? (i := 780) (by decide +kernel), List.mem_of_getElem? (i := 1010) (by decide +kernel), List.mem_of_getElem? (i := 1011) (by decide +kernel)⟩
theorem lw_p34 : lw_okq (⟨"RepairGroupsModel", "rankOf", "(I)I"⟩, 41) := ⟨⟨by decide +kernel, by decide +kernel⟩, List.mem_of_getElem? (i := 780) (by decide +kernel), List.mem_of_getElem? (i := 1014) (by decide +kernel), List.mem_of_getElem? (i := 1015) (by decide +kernel)⟩
theorem lw_p35 : lw_okq (⟨"RepairGroupsModel", "takes", "(I)V"⟩, 41) := ⟨⟨by decide +kernel, by decide +kernel⟩, List.mem_of_getElem? (i := 780) (by decide +kernel), List.mem_of_getElem? (i := 1018) (by decide +kernel), List.mem_of_getElem? (i := 1019) (by decide +kernel)⟩
theorem lw_p36 : lw_okq (⟨"RepairGroupsModel", "ranks", "()I"⟩, 41) := ⟨⟨by decide +kernel, by decide +kernel⟩, List.mem_of_getElem? (i := 780) (by decide +kernel), List.mem_of_getElem? (i := 1022) (by decide +kernel), List.mem_of_getElem? (i := 1023) (by decide +kernel)⟩
theorem lw_p37 : lw_okq (⟨"RepairGroupsModel", "adds", "(III)V"⟩, 41) := ⟨⟨by decide +kernel, by decide +kernel⟩, List.mem_of_getElem? (i := 780) (by decide +kernel), List.mem_of_getElem? (i := 1026) (by decide +kernel), List.mem_of_getElem? (i := 1027) (by decide +kernel)⟩
theorem lw_p38 : lw_okq (⟨"RepairGroupsModel", "symbol", "(I)I"⟩, 41) := ⟨⟨by decide +kernel, by decide +kernel⟩, List.mem_of_getElem? (i := 780) (by decide +kernel), List.mem_of_getElem? (i := 1030) (by decide +kernel), List.mem_of_getElem? (i := 1031) (by decide +kernel)⟩
theorem lw_p39 : lw_okq (⟨"RepairGroupsModel", "local", "(I)I"⟩, 41) := ⟨⟨by decide +kernel, by decide +kernel⟩, List.mem_of_getElem? (i := 780) (by decide +kernel), List.mem_of_getElem? (i := 1034) (by decide +kernel), List.mem_of_getElem? (i := 1035) (by decide +kernel)⟩
theorem lw_p40 : lw_okq (⟨"RepairGroupsModel", "repairs", "(I)Z"⟩, 41) := ⟨⟨by decide +kernel, by decide +kernel⟩, List.mem_of_getElem? (i := 780) (by decide +kernel), List.mem_of_getElem? (i := 1051) (by decide +kernel), List.mem_of_getElem? (i := 1052) (by decide +kernel)⟩
theorem lw_p41 : lw_okq (⟨"RepairGroupsModel", "all", "()I"⟩, 41) := ⟨⟨by decide +kernel, by decide +kernel⟩, List.mem_of_getElem? (i := 780) (by decide +kernel), List.mem_of_getElem? (i := 1059) (by decide +kernel), List.mem_of_getElem? (i := 1060) (by decide +kernel)⟩
theorem lw_p42 : lw_okq (⟨"RepairGroupsModel", "helped", "()I"⟩, 41) := ⟨⟨by decide +kernel, by decide +kernel⟩, List.mem_of_getElem? (i := 780) (by decide +kernel), List.mem_of_getElem? (i := 1063) (by decide +kernel), List.mem_of_getElem? (i := 1064) (by decide +kernel)⟩
theorem lw_p43 : lw_okq (⟨"RepairGroupsModel", "allData", "()I"⟩, 41) := ⟨⟨by decide +kernel, by decide +kernel⟩, List.mem_of_getElem? (i := 780) (by decide +kernel), List.mem_of_getElem? (i := 1067) (by decide +kernel), List.mem_of_getElem? (i := 1068) (by decide +kernel)⟩
theorem lw_p44 : lw_okq (⟨"RepairGroupsModel", "distance", "()I"⟩, 41) := ⟨⟨by decide +kernel, by decide +kernel⟩, List.mem_of_getElem? (i := 780) (by decide +kernel), List.mem_of_getElem? (i := 1071) (by decide +kernel), List.mem_of_getElem? (i := 1072) (by decide +kernel)⟩
theorem lw_p45 : lw_okq (⟨"RepairGroupsModel", "safeOf", "(IZ)I"⟩, 41) := ⟨⟨by decide +kernel, by decide +kernel⟩, List.mem_of_getElem? (i := 780) (by decide +kernel), List.mem_of_getElem? (i := 1075) (by decide +kernel), List.mem_of_getElem? (i := 1076) (by decide +kernel)⟩
theorem lw_p46 : lw_okq (⟨"RepairGroupsModel", "sees", "()V"⟩, 41) := ⟨⟨by decide +kernel, by decide +kernel⟩, List.mem_of_getElem? (i := 780) (by decide +kernel), List.mem_of_getElem? (i := 1100) (by decide +kernel), List.mem_of_getElem? (i := 1101) (by decide +kernel)⟩
theorem lw_p47 : lw_okq (⟨"RepairGroupsModel", "has", "(II)V"⟩, 41) := ⟨⟨by decide +kernel, by decide +kernel⟩, List.mem_of_getElem? (i := 780) (by decide +kernel), List.mem_of_getElem? (i := 1104) (by decide +kernel), List.mem_of_getElem? (i := 1105) (by decide +kernel)⟩
def lw_privs_3 : List (MethodName × Nat) := [(⟨"RepairGroupsModel", "cost", "(I)I"⟩, 41), (⟨"RepairGroupsModel", "tells", "(II)Z"⟩, 41), (⟨"RepairGroupsModel", "rankOf", "(I)I"⟩, 41), (⟨"RepairGroupsModel", "takes", "(I)V"⟩, 41), (⟨"RepairGroupsModel", "ranks", "()I"⟩, 41), (⟨"RepairGroupsModel", "adds", "(III)V"⟩, 41), (⟨"RepairGroupsModel", "symbol", "(I)I"⟩, 41), (⟨"RepairGroupsModel", "local", "(I)I"⟩, 41), (⟨"RepairGroupsModel", "repairs", "(I)Z"⟩, 41), (⟨"RepairGroupsModel", "all", "()I"⟩, 41), (⟨"RepairGroupsModel", "helped", "()I"⟩, 41), (⟨"RepairGroupsModel", "allData", "()I"⟩, 41), (⟨"RepairGroupsModel", "distance", "()I"⟩, 41), (⟨"RepairGroupsModel", "safeOf", "(IZ)I"⟩, 41), (⟨"RepairGroupsModel", "sees", "()V"⟩, 41), (⟨"RepairGroupsModel", "has", "(II)V"⟩, 41)]
theorem lw_r3 : ∀ q ∈ lw_privs_3, lw_okq q := List.forall_mem_cons.mpr ⟨lw_p32, List.forall_mem_cons.mpr ⟨lw_p33, List.forall_mem_cons.mpr ⟨lw_p34, List.forall_mem_cons.mpr ⟨lw_p35, List.forall_mem_cons.mpr ⟨lw_p36, List.forall_mem_cons.mpr ⟨lw_p37, List.forall_mem_cons.mpr ⟨lw_p38, List.forall_mem_cons.mpr ⟨lw_p39, List.forall_mem_cons.mpr ⟨lw_p40, List.forall_mem_cons.mpr ⟨lw_p41, List.forall_mem_cons.mpr ⟨lw_p42, List.forall_mem_cons.mpr ⟨lw_p43, List.forall_mem_cons.mpr ⟨lw_p44, List.forall_mem_cons.mpr ⟨lw_p45, List.forall_mem_cons.mpr ⟨lw_p46, List.forall_mem_cons.mpr ⟨lw_p47, fun _ h => absurd h List.not_mem_nil⟩⟩⟩⟩⟩⟩⟩⟩⟩⟩⟩⟩⟩⟩⟩⟩
theorem lw_p48 : lw_okq (⟨"RepairGroupsModel", "solves", "()I"⟩, 41) := ⟨⟨by decide +kernel, by decide +kernel⟩, List.mem_of_getElem? (i := 780) (by decide +kernel), List.mem_of_getElem? (i := 1108) (by decide +kernel), List.mem_of_getElem? (i := 1109) (by decide +kernel)⟩
theorem lw_p49 : lw_okq (⟨"RepairGroupsModel", "least", "()J"⟩, 41) := ⟨⟨by decide +kernel, by decide +kernel⟩, List.mem_of_getElem? (i := 780) (by decide +kernel), List.mem_of_getElem? (i := 1112) (by decide +kernel), List.mem_of_getElem? (i := 1113) (by decide +kernel)⟩
theorem lw_p50 : lw_okq (⟨"RepairGroupsModel", "keep", "([I)V"⟩, 41) := ⟨⟨by decide +kernel, by decide +kernel⟩, List.mem_of_getElem? (i := 780) (by decide +kernel), List.mem_of_getElem? (i := 1144) (by decide +kernel), List.mem_of_getElem? (i := 1145) (by decide +kernel)⟩
theorem lw_p51 : lw_okq (⟨"RepairGroupsModel", "again", "([I)V"⟩, 41) := ⟨⟨by decide +kernel, by decide +kernel⟩, List.mem_of_getElem? (i := 780) (by decide +kernel), List.mem_of_getElem? (i := 1148) (by decide +kernel), List.mem_of_getElem? (i := 1149) (by decide +kernel)⟩
def lw_privs_4 : List (MethodName × Nat) := [(⟨"RepairGroupsModel", "solves", "()I"⟩, 41), (⟨"RepairGroupsModel", "least", "()J"⟩, 41), (⟨"RepairGroupsModel", "keep", "([I)V"⟩, 41), (⟨"RepairGroupsModel", "again", "([I)V"⟩, 41)]
theorem lw_r4 : ∀ q ∈ lw_privs_4, lw_okq q := List.forall_mem_cons.mpr ⟨lw_p48, List.forall_mem_cons.mpr ⟨lw_p49, List.forall_mem_cons.mpr ⟨lw_p50, List.forall_mem_cons.mpr ⟨lw_p51, fun _ h => absurd h List.not_mem_nil⟩⟩⟩⟩
def lw_privs : List (MethodName × Nat) := lw_privs_1 ++ (lw_privs_2 ++ (lw_privs_3 ++ (lw_privs_4)))
def lw_tbl : List Cond := k2_sels lw_privs ++ tables_1
theorem lw_privs_ok : ∀ q ∈ lw_privs, lw_okq q := by
  show ∀ q ∈ lw_privs_1 ++ (lw_privs_2 ++ (lw_privs_3 ++ (lw_privs_4))), lw_okq q
  exact List.forall_mem_append.mpr ⟨lw_r1, List.forall_mem_append.mpr ⟨lw_r2, List.forall_mem_append.mpr ⟨lw_r3, lw_r4⟩⟩⟩
end
section

/-! ===== BEGIN printed: names, fields, word lists, decode rows ===== -/
def RX0 : String := "RepairGroups$Chooser"
def TX0 : u_T := fun k => match k with
  | 0 => ("RepairGroups$Chooser", "numbers", "LRepairGroups$Numbers;", true)
  | 1 => ("RepairGroups$Chooser", "others", "LRepairGroups$Span;", true)
  | 2 => ("RepairGroups$Chooser", "withData", "LRepairGroups$Span;", true)
  | _ => ("RepairGroups$Chooser", "safe", "[I", true)
def tyX0 : Nat → FieldType := fun k => match k with
  | 0 => .object "RepairGroups$Numbers"
  | 1 => .object "RepairGroups$Span"
  | 2 => .object "RepairGroups$Span"
  | _ => .array .int
abbrev wsX00 : List Cond := u_ws RX0 TX0 4
theorem nmX0 : ∀ a, a < 4 → ∀ b, b < 4 → a ≠ b → (TX0 a).2.1 ≠ (TX0 b).2.1 := by decide +kernel
theorem tyX0_ok : ∀ k, k < 4 → parseFieldDescriptor (TX0 k).2.2.1 = some (tyX0 k) := by decide +kernel
abbrev cX0_init : ByteArray := prog_2_method_1_code
def yX0_init : MethodName := ⟨RX0, "<init>", "(LRepairGroups$Numbers;)V"⟩
abbrev cX0_bestNumber : ByteArray := prog_2_method_2_code
def yX0_bestNumber : MethodName := ⟨RX0, "bestNumber", "(LRepairGroups$Nodes;III)I"⟩
abbrev cX0_tryAll : ByteArray := prog_2_method_3_code
def yX0_tryAll : MethodName := ⟨RX0, "tryAll", "(LRepairGroups$Nodes;III)V"⟩
def RX1 : String := "RepairGroups$FormText"
def TX1 : u_T := fun k => match k with
  | 0 => ("RepairGroups$FormText", "signs", "[C", true)
  | 1 => ("RepairGroups$FormText", "size", "I", false)
  | 2 => ("RepairGroups$FormText", "form", "I", false)
  | _ => ("RepairGroups$FormText", "place", "I", false)
def tyX1 : Nat → FieldType := fun k => match k with
  | 0 => .array .char
  | 1 => .int
  | 2 => .int
  | _ => .int
abbrev wsX10 : List Cond := u_ws RX1 TX1 4
theorem nmX1 : ∀ a, a < 4 → ∀ b, b < 4 → a ≠ b → (TX1 a).2.1 ≠ (TX1 b).2.1 := by decide +kernel
theorem tyX1_ok : ∀ k, k < 4 → parseFieldDescriptor (TX1 k).2.2.1 = some (tyX1 k) := by decide +kernel
abbrev cX1_init : ByteArray := prog_3_method_1_code
def yX1_init : MethodName := ⟨RX1, "<init>", "()V"⟩
abbrev cX1_add : ByteArray := prog_3_method_2_code
def yX1_add : MethodName := ⟨RX1, "add", "(I)Z"⟩
abbrev cX1_parse : ByteArray := prog_3_method_3_code
def yX1_parse : MethodName := ⟨RX1, "parse", "(LRepairGroups$Numbers;)Z"⟩
abbrev cX1_parseSum : ByteArray := prog_3_method_4_code
def yX1_parseSum : MethodName := ⟨RX1, "parseSum", "(LRepairGroups$Numbers;II)Z"⟩
abbrev cX1_parseTerm : ByteArray := prog_3_method_5_code
def yX1_parseTerm : MethodName := ⟨RX1, "parseTerm", "(LRepairGroups$Numbers;II)Z"⟩
abbrev cX1_parseData : ByteArray := prog_3_method_6_code
def yX1_parseData : MethodName := ⟨RX1, "parseData", "(I)Z"⟩
abbrev cX1_next : ByteArray := prog_3_method_7_code
def yX1_next : MethodName := ⟨RX1, "next", "()I"⟩
abbrev cX1_skip : ByteArray := prog_3_method_8_code
def yX1_skip : MethodName := ⟨RX1, "skip", "(C)Z"⟩
abbrev cX1_hexadecimal : ByteArray := prog_3_method_9_code
def yX1_hexadecimal : MethodName := ⟨RX1, "hexadecimal", "(I)I"⟩
def RX2 : String := "RepairGroups$Helps"
def TX2 : u_T := fun k => match k with
  | 0 => ("RepairGroups$Helps", "ranks", "LRepairGroups$Ranks;", true)
  | _ => ("RepairGroups$Helps", "costs", "[I", true)
def tyX2 : Nat → FieldType := fun k => match k with
  | 0 => .object "RepairGroups$Ranks"
  | _ => .array .int
abbrev wsX20 : List Cond := u_ws RX2 TX2 2
theorem nmX2 : ∀ a, a < 2 → ∀ b, b < 2 → a ≠ b → (TX2 a).2.1 ≠ (TX2 b).2.1 := by decide +kernel
theorem tyX2_ok : ∀ k, k < 2 → parseFieldDescriptor (TX2 k).2.2.1 = some (tyX2 k) := by decide +kernel
abbrev cX2_init : ByteArray := prog_4_method_1_code
def yX2_init : MethodName := ⟨RX2, "<init>", "(LRepairGroups$Ranks;)V"⟩
abbrev cX2_helpOf : ByteArray := prog_4_method_2_code
def yX2_helpOf : MethodName := ⟨RX2, "helpOf", "(LRepairGroups$Nodes;I)I"⟩
abbrev cX2_weigh : ByteArray := prog_4_method_3_code
def yX2_weigh : MethodName := ⟨RX2, "weigh", "(LRepairGroups$Nodes;)V"⟩
abbrev cX2_bringBack : ByteArray := prog_4_method_4_code
def yX2_bringBack : MethodName := ⟨RX2, "bringBack", "(LRepairGroups$Nodes;I)I"⟩
def RX3 : String := "RepairGroups$Nodes"
def TX3 : u_T := fun k => match k with
  | 0 => ("RepairGroups$Nodes", "size", "I", false)
  | 1 => ("RepairGroups$Nodes", "dataSize", "I", false)
  | 2 => ("RepairGroups$Nodes", "dataSet", "I", false)
  | 3 => ("RepairGroups$Nodes", "missing", "I", false)
  | 4 => ("RepairGroups$Nodes", "kinds", "[I", true)
  | 5 => ("RepairGroups$Nodes", "vs", "[I", true)
  | 6 => ("RepairGroups$Nodes", "dataOf", "[I", true)
  | 7 => ("RepairGroups$Nodes", "forms", "[I", true)
  | 8 => ("RepairGroups$Nodes", "reads", "[I", true)
  | 9 => ("RepairGroups$Nodes", "rows", "[[I", true)
  | 10 => ("RepairGroups$Nodes", "nodeOf", "[I", true)
  | _ => ("RepairGroups$Nodes", "written", "[I", true)
def tyX3 : Nat → FieldType := fun k => match k with
  | 0 => .int
  | 1 => .int
  | 2 => .int
  | 3 => .int
  | 4 => .array .int
  | 5 => .array .int
  | 6 => .array .int
  | 7 => .array .int
  | 8 => .array .int
  | 9 => .array (.array .int)
  | 10 => .array .int
  | _ => .array .int
abbrev wsX30 : List Cond := u_ws RX3 TX3 12
theorem nmX3 : ∀ a, a < 12 → ∀ b, b < 12 → a ≠ b → (TX3 a).2.1 ≠ (TX3 b).2.1 := by decide +kernel
theorem tyX3_ok : ∀ k, k < 12 → parseFieldDescriptor (TX3 k).2.2.1 = some (tyX3 k) := by decide +kernel
abbrev cX3_init : ByteArray := prog_5_method_1_code
def yX3_init : MethodName := ⟨RX3, "<init>", "()V"⟩
abbrev cX3_copyFrom : ByteArray := prog_5_method_2_code
def yX3_copyFrom : MethodName := ⟨RX3, "copyFrom", "(LRepairGroups$Nodes;)V"⟩
abbrev cX3_addData : ByteArray := prog_5_method_3_code
def yX3_addData : MethodName := ⟨RX3, "addData", "(II)I"⟩
abbrev cX3_addParity : ByteArray := prog_5_method_4_code
def yX3_addParity : MethodName := ⟨RX3, "addParity", "(III)I"⟩
abbrev cX3_add : ByteArray := prog_5_method_5_code
def yX3_add : MethodName := ⟨RX3, "add", "(IIII)I"⟩
abbrev cX3_has : ByteArray := prog_5_method_6_code
def yX3_has : MethodName := ⟨RX3, "has", "(I)Z"⟩
abbrev cX3_everyone : ByteArray := prog_5_method_7_code
def yX3_everyone : MethodName := ⟨RX3, "everyone", "()I"⟩
abbrev cX3_there : ByteArray := prog_5_method_8_code
def yX3_there : MethodName := ⟨RX3, "there", "()I"⟩
abbrev cX3_isMissing : ByteArray := prog_5_method_9_code
def yX3_isMissing : MethodName := ⟨RX3, "isMissing", "(I)Z"⟩
abbrev cX3_isParity : ByteArray := prog_5_method_10_code
def yX3_isParity : MethodName := ⟨RX3, "isParity", "(I)Z"⟩
abbrev cX3_isDataMissing : ByteArray := prog_5_method_11_code
def yX3_isDataMissing : MethodName := ⟨RX3, "isDataMissing", "(I)Z"⟩
abbrev cX3_needsMissing : ByteArray := prog_5_method_12_code
def yX3_needsMissing : MethodName := ⟨RX3, "needsMissing", "(I)Z"⟩
abbrev cX3_symbolOf : ByteArray := prog_5_method_13_code
def yX3_symbolOf : MethodName := ⟨RX3, "symbolOf", "(LRepairGroups$Numbers;I)I"⟩
abbrev cX3_costOf : ByteArray := prog_5_method_14_code
def yX3_costOf : MethodName := ⟨RX3, "costOf", "(I)I"⟩
abbrev cX3_costsOf : ByteArray := prog_5_method_15_code
def yX3_costsOf : MethodName := ⟨RX3, "costsOf", "(I)I"⟩
abbrev cX3_countReads : ByteArray := prog_5_method_16_code
def yX3_countReads : MethodName := ⟨RX3, "countReads", "(I)V"⟩
def RX4 : String := "RepairGroups$Numbers"
def TX4 : u_T := fun k => match k with
  | 0 => ("RepairGroups$Numbers", "poly", "I", false)
  | 1 => ("RepairGroups$Numbers", "generator", "I", false)
  | _ => ("RepairGroups$Numbers", "inverses", "[I", true)
def tyX4 : Nat → FieldType := fun k => match k with
  | 0 => .int
  | 1 => .int
  | _ => .array .int
abbrev wsX40 : List Cond := u_ws RX4 TX4 3
theorem nmX4 : ∀ a, a < 3 → ∀ b, b < 3 → a ≠ b → (TX4 a).2.1 ≠ (TX4 b).2.1 := by decide +kernel
theorem tyX4_ok : ∀ k, k < 3 → parseFieldDescriptor (TX4 k).2.2.1 = some (tyX4 k) := by decide +kernel
abbrev cX4_init : ByteArray := prog_6_method_1_code
def yX4_init : MethodName := ⟨RX4, "<init>", "()V"⟩
abbrev cX4_choose : ByteArray := prog_6_method_2_code
def yX4_choose : MethodName := ⟨RX4, "choose", "(I)V"⟩
abbrev cX4_isField : ByteArray := prog_6_method_3_code
def yX4_isField : MethodName := ⟨RX4, "isField", "(I)Z"⟩
abbrev cX4_inverseBy : ByteArray := prog_6_method_4_code
def yX4_inverseBy : MethodName := ⟨RX4, "inverseBy", "(II)I"⟩
abbrev cX4_leastGenerator : ByteArray := prog_6_method_5_code
def yX4_leastGenerator : MethodName := ⟨RX4, "leastGenerator", "(I)I"⟩
abbrev cX4_order : ByteArray := prog_6_method_6_code
def yX4_order : MethodName := ⟨RX4, "order", "(II)I"⟩
abbrev cX4_productBy : ByteArray := prog_6_method_7_code
def yX4_productBy : MethodName := ⟨RX4, "productBy", "(III)I"⟩
abbrev cX4_product : ByteArray := prog_6_method_8_code
def yX4_product : MethodName := ⟨RX4, "product", "(II)I"⟩
abbrev cX4_inverse : ByteArray := prog_6_method_9_code
def yX4_inverse : MethodName := ⟨RX4, "inverse", "(I)I"⟩
abbrev cX4_power : ByteArray := prog_6_method_10_code
def yX4_power : MethodName := ⟨RX4, "power", "(II)I"⟩
abbrev cX4_logarithm : ByteArray := prog_6_method_11_code
def yX4_logarithm : MethodName := ⟨RX4, "logarithm", "(I)I"⟩
def RX5 : String := "RepairGroups$Pairs"
def TX5 : u_T := fun k => match k with
  | 0 => ("RepairGroups$Pairs", "first", "[I", true)
  | 1 => ("RepairGroups$Pairs", "second", "[I", true)
  | _ => ("RepairGroups$Pairs", "size", "I", false)
def tyX5 : Nat → FieldType := fun k => match k with
  | 0 => .array .int
  | 1 => .array .int
  | _ => .int
abbrev wsX50 : List Cond := u_ws RX5 TX5 3
theorem nmX5 : ∀ a, a < 3 → ∀ b, b < 3 → a ≠ b → (TX5 a).2.1 ≠ (TX5 b).2.1 := by decide +kernel
theorem tyX5_ok : ∀ k, k < 3 → parseFieldDescriptor (TX5 k).2.2.1 = some (tyX5 k) := by decide +kernel
abbrev cX5_init : ByteArray := prog_7_method_1_code
def yX5_init : MethodName := ⟨RX5, "<init>", "(I)V"⟩
abbrev cX5_add : ByteArray := prog_7_method_2_code
def yX5_add : MethodName := ⟨RX5, "add", "(II)Z"⟩
abbrev cX5_copyFrom : ByteArray := prog_7_method_3_code
def yX5_copyFrom : MethodName := ⟨RX5, "copyFrom", "(LRepairGroups$Pairs;)V"⟩
def RX6 : String := "RepairGroups$Ranks"
def TX6 : u_T := fun k => match k with
  | 0 => ("RepairGroups$Ranks", "ranks", "[I", true)
  | _ => ("RepairGroups$Ranks", "spans", "[LRepairGroups$Span;", true)
def tyX6 : Nat → FieldType := fun k => match k with
  | 0 => .array .int
  | _ => .array (.object "RepairGroups$Span")
abbrev wsX60 : List Cond := u_ws RX6 TX6 2
theorem nmX6 : ∀ a, a < 2 → ∀ b, b < 2 → a ≠ b → (TX6 a).2.1 ≠ (TX6 b).2.1 := by decide +kernel
theorem tyX6_ok : ∀ k, k < 2 → parseFieldDescriptor (TX6 k).2.2.1 = some (tyX6 k) := by decide +kernel
abbrev cX6_init : ByteArray := prog_8_method_1_code
def yX6_init : MethodName := ⟨RX6, "<init>", "(LRepairGroups$Numbers;)V"⟩
abbrev cX6_rankOf : ByteArray := prog_8_method_2_code
def yX6_rankOf : MethodName := ⟨RX6, "rankOf", "(I)I"⟩
abbrev cX6_tells : ByteArray := prog_8_method_3_code
def yX6_tells : MethodName := ⟨RX6, "tells", "(II)Z"⟩
abbrev cX6_extend : ByteArray := prog_8_method_4_code
def yX6_extend : MethodName := ⟨RX6, "extend", "(LRepairGroups$Nodes;I)V"⟩
abbrev cX6_leastOf : ByteArray := prog_8_method_5_code
def yX6_leastOf : MethodName := ⟨RX6, "leastOf", "(I)I"⟩
def RX7 : String := "RepairGroups$Span"
def TX7 : u_T := fun k => match k with
  | 0 => ("RepairGroups$Span", "rows", "[I", true)
  | 1 => ("RepairGroups$Span", "size", "I", false)
  | _ => ("RepairGroups$Span", "numbers", "LRepairGroups$Numbers;", true)
def tyX7 : Nat → FieldType := fun k => match k with
  | 0 => .array .int
  | 1 => .int
  | _ => .object "RepairGroups$Numbers"
abbrev wsX70 : List Cond := u_ws RX7 TX7 3
theorem nmX7 : ∀ a, a < 3 → ∀ b, b < 3 → a ≠ b → (TX7 a).2.1 ≠ (TX7 b).2.1 := by decide +kernel
theorem tyX7_ok : ∀ k, k < 3 → parseFieldDescriptor (TX7 k).2.2.1 = some (tyX7 k) := by decide +kernel
abbrev cX7_init : ByteArray := prog_9_method_1_code
def yX7_init : MethodName := ⟨RX7, "<init>", "(LRepairGroups$Numbers;)V"⟩
abbrev cX7_clear : ByteArray := prog_9_method_2_code
def yX7_clear : MethodName := ⟨RX7, "clear", "()V"⟩
abbrev cX7_copyFrom : ByteArray := prog_9_method_3_code
def yX7_copyFrom : MethodName := ⟨RX7, "copyFrom", "(LRepairGroups$Span;)V"⟩
abbrev cX7_left : ByteArray := prog_9_method_4_code
def yX7_left : MethodName := ⟨RX7, "left", "(I)I"⟩
abbrev cX7_take : ByteArray := prog_9_method_5_code
def yX7_take : MethodName := ⟨RX7, "take", "(I)V"⟩
abbrev cX7_takeAll : ByteArray := prog_9_method_6_code
def yX7_takeAll : MethodName := ⟨RX7, "takeAll", "(LRepairGroups$Nodes;I)V"⟩
def RX8 : String := "RepairGroups$Store"
def TX8 : u_T := fun k => match k with
  | 0 => ("RepairGroups$Store", "nodes", "LRepairGroups$Nodes;", true)
  | 1 => ("RepairGroups$Store", "seen", "LRepairGroups$Pairs;", true)
  | 2 => ("RepairGroups$Store", "steps", "LRepairGroups$Pairs;", true)
  | _ => ("RepairGroups$Store", "booked", "LRepairGroups$Pairs;", true)
def tyX8 : Nat → FieldType := fun k => match k with
  | 0 => .object "RepairGroups$Nodes"
  | 1 => .object "RepairGroups$Pairs"
  | 2 => .object "RepairGroups$Pairs"
  | _ => .object "RepairGroups$Pairs"
abbrev wsX80 : List Cond := u_ws RX8 TX8 4
theorem nmX8 : ∀ a, a < 4 → ∀ b, b < 4 → a ≠ b → (TX8 a).2.1 ≠ (TX8 b).2.1 := by decide +kernel
theorem tyX8_ok : ∀ k, k < 4 → parseFieldDescriptor (TX8 k).2.2.1 = some (tyX8 k) := by decide +kernel
abbrev cX8_init : ByteArray := prog_10_method_1_code
def yX8_init : MethodName := ⟨RX8, "<init>", "()V"⟩
abbrev cX8_copyFrom : ByteArray := prog_10_method_2_code
def yX8_copyFrom : MethodName := ⟨RX8, "copyFrom", "(LRepairGroups$Store;)V"⟩
def RX9 : String := "RepairGroups$Tapes"
def TX9 : u_T := fun k => match k with
  | 0 => ("RepairGroups$Tapes", "sorts", "[I", true)
  | 1 => ("RepairGroups$Tapes", "sizes", "[I", true)
  | _ => ("RepairGroups$Tapes", "items", "[[J", true)
def tyX9 : Nat → FieldType := fun k => match k with
  | 0 => .array .int
  | 1 => .array .int
  | _ => .array (.array .long)
abbrev wsX90 : List Cond := u_ws RX9 TX9 3
theorem nmX9 : ∀ a, a < 3 → ∀ b, b < 3 → a ≠ b → (TX9 a).2.1 ≠ (TX9 b).2.1 := by decide +kernel
theorem tyX9_ok : ∀ k, k < 3 → parseFieldDescriptor (TX9 k).2.2.1 = some (tyX9 k) := by decide +kernel
abbrev cX9_init : ByteArray := prog_11_method_1_code
def yX9_init : MethodName := ⟨RX9, "<init>", "()V"⟩
abbrev cX9_has : ByteArray := prog_11_method_2_code
def yX9_has : MethodName := ⟨RX9, "has", "(I)Z"⟩
abbrev cX9_make : ByteArray := prog_11_method_3_code
def yX9_make : MethodName := ⟨RX9, "make", "(III)V"⟩
abbrev cX9_hasItem : ByteArray := prog_11_method_4_code
def yX9_hasItem : MethodName := ⟨RX9, "hasItem", "(II)Z"⟩
abbrev cX9_hasRun : ByteArray := prog_11_method_5_code
def yX9_hasRun : MethodName := ⟨RX9, "hasRun", "(III)Z"⟩
abbrev cX9_cut : ByteArray := prog_11_method_6_code
def yX9_cut : MethodName := ⟨RX9, "cut", "(IJ)J"⟩
def RX10 : String := "RepairGroups"
def TX10 : u_T := fun k => match k with
  | 0 => ("RepairGroups", "numbers", "LRepairGroups$Numbers;", true)
  | 1 => ("RepairGroups", "text", "LRepairGroups$FormText;", true)
  | 2 => ("RepairGroups", "ranks", "LRepairGroups$Ranks;", true)
  | 3 => ("RepairGroups", "helps", "LRepairGroups$Helps;", true)
  | 4 => ("RepairGroups", "now", "LRepairGroups$Store;", true)
  | 5 => ("RepairGroups", "kept", "LRepairGroups$Store;", true)
  | 6 => ("RepairGroups", "isKept", "Z", false)
  | 7 => ("RepairGroups", "trial", "LRepairGroups$Nodes;", true)
  | 8 => ("RepairGroups", "known", "LRepairGroups$Span;", true)
  | 9 => ("RepairGroups", "chooser", "LRepairGroups$Chooser;", true)
  | _ => ("RepairGroups", "tapes", "LRepairGroups$Tapes;", true)
def tyX10 : Nat → FieldType := fun k => match k with
  | 0 => .object "RepairGroups$Numbers"
  | 1 => .object "RepairGroups$FormText"
  | 2 => .object "RepairGroups$Ranks"
  | 3 => .object "RepairGroups$Helps"
  | 4 => .object "RepairGroups$Store"
  | 5 => .object "RepairGroups$Store"
  | 6 => .boolean
  | 7 => .object "RepairGroups$Nodes"
  | 8 => .object "RepairGroups$Span"
  | 9 => .object "RepairGroups$Chooser"
  | _ => .object "RepairGroups$Tapes"
abbrev wsX100 : List Cond := u_ws RX10 TX10 11
theorem nmX10 : ∀ a, a < 11 → ∀ b, b < 11 → a ≠ b → (TX10 a).2.1 ≠ (TX10 b).2.1 := by decide +kernel
theorem tyX10_ok : ∀ k, k < 11 → parseFieldDescriptor (TX10 k).2.2.1 = some (tyX10 k) := by decide +kernel
abbrev cX10_init : ByteArray := prog_1_method_1_code
def yX10_init : MethodName := ⟨RX10, "<init>", "()V"⟩
abbrev cX10_field : ByteArray := prog_1_method_2_code
def yX10_field : MethodName := ⟨RX10, "field", "(I)I"⟩
abbrev cX10_calc : ByteArray := prog_1_method_3_code
def yX10_calc : MethodName := ⟨RX10, "calc", "(III)I"⟩
abbrev cX10_canCalc : ByteArray := prog_1_method_4_code
def yX10_canCalc : MethodName := ⟨RX10, "canCalc", "(III)Z"⟩
abbrev cX10_isNumber : ByteArray := prog_1_method_5_code
def yX10_isNumber : MethodName := ⟨RX10, "isNumber", "(I)Z"⟩
abbrev cX10_data : ByteArray := prog_1_method_6_code
def yX10_data : MethodName := ⟨RX10, "data", "(II)I"⟩
abbrev cX10_feed : ByteArray := prog_1_method_7_code
def yX10_feed : MethodName := ⟨RX10, "feed", "(I)I"⟩
abbrev cX10_parity : ByteArray := prog_1_method_8_code
def yX10_parity : MethodName := ⟨RX10, "parity", "(II)I"⟩
abbrev cX10_isKind : ByteArray := prog_1_method_9_code
def yX10_isKind : MethodName := ⟨RX10, "isKind", "(I)Z"⟩
abbrev cX10_isDigit : ByteArray := prog_1_method_10_code
def yX10_isDigit : MethodName := ⟨RX10, "isDigit", "(I)Z"⟩
abbrev cX10_row : ByteArray := prog_1_method_11_code
def yX10_row : MethodName := ⟨RX10, "row", "(III)I"⟩
abbrev cX10_of : ByteArray := prog_1_method_12_code
def yX10_of : MethodName := ⟨RX10, "of", "(II)I"⟩
abbrev cX10_fewestTellers : ByteArray := prog_1_method_13_code
def yX10_fewestTellers : MethodName := ⟨RX10, "fewestTellers", "(I)I"⟩
abbrev cX10_numberAt : ByteArray := prog_1_method_14_code
def yX10_numberAt : MethodName := ⟨RX10, "numberAt", "(II)I"⟩
abbrev cX10_write : ByteArray := prog_1_method_15_code
def yX10_write : MethodName := ⟨RX10, "write", "(II)I"⟩
abbrev cX10_lose : ByteArray := prog_1_method_16_code
def yX10_lose : MethodName := ⟨RX10, "lose", "(I)I"⟩
abbrev cX10_repair : ByteArray := prog_1_method_17_code
def yX10_repair : MethodName := ⟨RX10, "repair", "(I)I"⟩
abbrev cX10_told : ByteArray := prog_1_method_18_code
def yX10_told : MethodName := ⟨RX10, "told", "(I)I"⟩
abbrev cX10_missingWithHelp : ByteArray := prog_1_method_19_code
def yX10_missingWithHelp : MethodName := ⟨RX10, "missingWithHelp", "()I"⟩
abbrev cX10_tellAllData : ByteArray := prog_1_method_20_code
def yX10_tellAllData : MethodName := ⟨RX10, "tellAllData", "(I)Z"⟩
abbrev cX10_distance : ByteArray := prog_1_method_21_code
def yX10_distance : MethodName := ⟨RX10, "distance", "()I"⟩
abbrev cX10_safeSets : ByteArray := prog_1_method_22_code
def yX10_safeSets : MethodName := ⟨RX10, "safeSets", "(I)I"⟩
abbrev cX10_allSets : ByteArray := prog_1_method_23_code
def yX10_allSets : MethodName := ⟨RX10, "allSets", "(I)I"⟩
abbrev cX10_rank : ByteArray := prog_1_method_24_code
def yX10_rank : MethodName := ⟨RX10, "rank", "(I)I"⟩
abbrev cX10_safe : ByteArray := prog_1_method_25_code
def yX10_safe : MethodName := ⟨RX10, "safe", "(I)I"⟩
abbrev cX10_isSetSize : ByteArray := prog_1_method_26_code
def yX10_isSetSize : MethodName := ⟨RX10, "isSetSize", "(I)Z"⟩
abbrev cX10_best : ByteArray := prog_1_method_27_code
def yX10_best : MethodName := ⟨RX10, "best", "(III)I"⟩
abbrev cX10_see : ByteArray := prog_1_method_28_code
def yX10_see : MethodName := ⟨RX10, "see", "(II)I"⟩
abbrev cX10_tellSymbol : ByteArray := prog_1_method_29_code
def yX10_tellSymbol : MethodName := ⟨RX10, "tellSymbol", "(LRepairGroups$Pairs;II)I"⟩
abbrev cX10_ways : ByteArray := prog_1_method_30_code
def yX10_ways : MethodName := ⟨RX10, "ways", "(I)J"⟩
abbrev cX10_gatherSeen : ByteArray := prog_1_method_31_code
def yX10_gatherSeen : MethodName := ⟨RX10, "gatherSeen", "()Z"⟩
abbrev cX10_seenForm : ByteArray := prog_1_method_32_code
def yX10_seenForm : MethodName := ⟨RX10, "seenForm", "(I)I"⟩
abbrev cX10_leastWay : ByteArray := prog_1_method_33_code
def yX10_leastWay : MethodName := ⟨RX10, "leastWay", "()J"⟩
abbrev cX10_can : ByteArray := prog_1_method_34_code
def yX10_can : MethodName := ⟨RX10, "can", "(I)I"⟩
abbrev cX10_odds : ByteArray := prog_1_method_35_code
def yX10_odds : MethodName := ⟨RX10, "odds", "(II)J"⟩
abbrev cX10_mean : ByteArray := prog_1_method_36_code
def yX10_mean : MethodName := ⟨RX10, "mean", "(I)J"⟩
abbrev cX10_isPart : ByteArray := prog_1_method_37_code
def yX10_isPart : MethodName := ⟨RX10, "isPart", "(I)Z"⟩
abbrev cX10_partOf : ByteArray := prog_1_method_38_code
def yX10_partOf : MethodName := ⟨RX10, "partOf", "(III)J"⟩
abbrev cX10_greatestMeasure : ByteArray := prog_1_method_39_code
def yX10_greatestMeasure : MethodName := ⟨RX10, "greatestMeasure", "(II)I"⟩
abbrev cX10_plan : ByteArray := prog_1_method_40_code
def yX10_plan : MethodName := ⟨RX10, "plan", "(II)I"⟩
abbrev cX10_ends : ByteArray := prog_1_method_41_code
def yX10_ends : MethodName := ⟨RX10, "ends", "(I)I"⟩
abbrev cX10_playStep : ByteArray := prog_1_method_42_code
def yX10_playStep : MethodName := ⟨RX10, "playStep", "(II)I"⟩
abbrev cX10_book : ByteArray := prog_1_method_43_code
def yX10_book : MethodName := ⟨RX10, "book", "(II)I"⟩
abbrev cX10_looked : ByteArray := prog_1_method_44_code
def yX10_looked : MethodName := ⟨RX10, "looked", "()I"⟩
abbrev cX10_shown : ByteArray := prog_1_method_45_code
def yX10_shown : MethodName := ⟨RX10, "shown", "(I)I"⟩
abbrev cX10_judge : ByteArray := prog_1_method_46_code
def yX10_judge : MethodName := ⟨RX10, "judge", "(II)I"⟩
abbrev cX10_image : ByteArray := prog_1_method_47_code
def yX10_image : MethodName := ⟨RX10, "image", "()I"⟩
abbrev cX10_undo : ByteArray := prog_1_method_48_code
def yX10_undo : MethodName := ⟨RX10, "undo", "()I"⟩
abbrev cX10_taken : ByteArray := prog_1_method_49_code
def yX10_taken : MethodName := ⟨RX10, "taken", "(II)I"⟩
abbrev cX10_isUnder : ByteArray := prog_1_method_50_code
def yX10_isUnder : MethodName := ⟨RX10, "isUnder", "(II)Z"⟩
abbrev cX10_count : ByteArray := prog_1_method_51_code
def yX10_count : MethodName := ⟨RX10, "count", "(I)I"⟩
abbrev cX10_tape : ByteArray := prog_1_method_52_code
def yX10_tape : MethodName := ⟨RX10, "tape", "(III)I"⟩
abbrev cX10_item : ByteArray := prog_1_method_53_code
def yX10_item : MethodName := ⟨RX10, "item", "(IIJ)I"⟩
abbrev cX10_read : ByteArray := prog_1_method_54_code
def yX10_read : MethodName := ⟨RX10, "read", "(II)J"⟩
abbrev cX10_shift : ByteArray := prog_1_method_55_code
def yX10_shift : MethodName := ⟨RX10, "shift", "(IIIII)I"⟩
def RX11 : String := "RepairGroupsModel"
def TX11 : u_T := fun k => match k with
  | 0 => ("RepairGroupsModel", "poly", "I", false)
  | 1 => ("RepairGroupsModel", "generator", "I", false)
  | 2 => ("RepairGroupsModel", "products", "[I", true)
  | 3 => ("RepairGroupsModel", "powers", "[I", true)
  | 4 => ("RepairGroupsModel", "logs", "[I", true)
  | 5 => ("RepairGroupsModel", "nodes", "I", false)
  | 6 => ("RepairGroupsModel", "datas", "I", false)
  | 7 => ("RepairGroupsModel", "parities", "I", false)
  | 8 => ("RepairGroupsModel", "kind", "[I", true)
  | 9 => ("RepairGroupsModel", "v", "[I", true)
  | 10 => ("RepairGroupsModel", "whose", "[I", true)
  | 11 => ("RepairGroupsModel", "reads", "[I", true)
  | 12 => ("RepairGroupsModel", "missing", "[I", true)
  | 13 => ("RepairGroupsModel", "forms", "[I", true)
  | 14 => ("RepairGroupsModel", "rows", "[I", true)
  | 15 => ("RepairGroupsModel", "written", "[I", true)
  | 16 => ("RepairGroupsModel", "nodeOf", "[I", true)
  | 17 => ("RepairGroupsModel", "texted", "I", false)
  | 18 => ("RepairGroupsModel", "text", "[I", true)
  | 19 => ("RepairGroupsModel", "at", "I", false)
  | 20 => ("RepairGroupsModel", "open", "I", false)
  | 21 => ("RepairGroupsModel", "sums", "[I", true)
  | 22 => ("RepairGroupsModel", "seen", "I", false)
  | 23 => ("RepairGroupsModel", "seenOf", "[I", true)
  | 24 => ("RepairGroupsModel", "seenAs", "[I", true)
  | 25 => ("RepairGroupsModel", "inPlan", "I", false)
  | 26 => ("RepairGroupsModel", "goes", "[I", true)
  | 27 => ("RepairGroupsModel", "planned", "[I", true)
  | 28 => ("RepairGroupsModel", "inBook", "I", false)
  | 29 => ("RepairGroupsModel", "booked", "[I", true)
  | 30 => ("RepairGroupsModel", "bookAs", "[I", true)
  | 31 => ("RepairGroupsModel", "imaged", "Z", false)
  | 32 => ("RepairGroupsModel", "image", "[I", true)
  | 33 => ("RepairGroupsModel", "ahead", "[I", true)
  | 34 => ("RepairGroupsModel", "matrix", "[I", true)
  | 35 => ("RepairGroupsModel", "lines", "I", false)
  | 36 => ("RepairGroupsModel", "help", "I", false)
  | 37 => ("RepairGroupsModel", "costs", "I", false)
  | 38 => ("RepairGroupsModel", "tapeSort", "[I", true)
  | 39 => ("RepairGroupsModel", "tapeSize", "[I", true)
  | _ => ("RepairGroupsModel", "items", "[J", true)
def tyX11 : Nat → FieldType := fun k => match k with
  | 0 => .int
  | 1 => .int
  | 2 => .array .int
  | 3 => .array .int
  | 4 => .array .int
  | 5 => .int
  | 6 => .int
  | 7 => .int
  | 8 => .array .int
  | 9 => .array .int
  | 10 => .array .int
  | 11 => .array .int
  | 12 => .array .int
  | 13 => .array .int
  | 14 => .array .int
  | 15 => .array .int
  | 16 => .array .int
  | 17 => .int
  | 18 => .array .int
  | 19 => .int
  | 20 => .int
  | 21 => .array .int
  | 22 => .int
  | 23 => .array .int
  | 24 => .array .int
  | 25 => .int
  | 26 => .array .int
  | 27 => .array .int
  | 28 => .int
  | 29 => .array .int
  | 30 => .array .int
  | 31 => .boolean
  | 32 => .array .int
  | 33 => .array .int
  | 34 => .array .int
  | 35 => .int
  | 36 => .int
  | 37 => .int
  | 38 => .array .int
  | 39 => .array .int
  | _ => .array .long
abbrev wsX110 : List Cond := u_ws RX11 TX11 41
theorem nmX11 : ∀ a, a < 41 → ∀ b, b < 41 → a ≠ b → (TX11 a).2.1 ≠ (TX11 b).2.1 := by decide +kernel
theorem tyX11_ok : ∀ k, k < 41 → parseFieldDescriptor (TX11 k).2.2.1 = some (tyX11 k) := by decide +kernel
abbrev cX11_init : ByteArray := prog_13_method_1_code
def yX11_init : MethodName := ⟨RX11, "<init>", "()V"⟩
abbrev cX11_within : ByteArray := prog_13_method_2_code
def yX11_within : MethodName := ⟨RX11, "within", "(III)Z"⟩
abbrev cX11_isOne : ByteArray := prog_13_method_3_code
def yX11_isOne : MethodName := ⟨RX11, "isOne", "(I)Z"⟩
abbrev cX11_isIn : ByteArray := prog_13_method_4_code
def yX11_isIn : MethodName := ⟨RX11, "isIn", "(II)Z"⟩
abbrev cX11_isNumber : ByteArray := prog_13_method_5_code
def yX11_isNumber : MethodName := ⟨RX11, "isNumber", "(I)Z"⟩
abbrev cX11_product : ByteArray := prog_13_method_6_code
def yX11_product : MethodName := ⟨RX11, "product", "(III)I"⟩
abbrev cX11_isField : ByteArray := prog_13_method_7_code
def yX11_isField : MethodName := ⟨RX11, "isField", "(I)Z"⟩
abbrev cX11_order : ByteArray := prog_13_method_8_code
def yX11_order : MethodName := ⟨RX11, "order", "(II)I"⟩
abbrev cX11_makes : ByteArray := prog_13_method_9_code
def yX11_makes : MethodName := ⟨RX11, "makes", "(I)V"⟩
abbrev cX11_field : ByteArray := prog_13_method_10_code
def yX11_field : MethodName := ⟨RX11, "field", "(I)I"⟩
abbrev cX11_times : ByteArray := prog_13_method_11_code
def yX11_times : MethodName := ⟨RX11, "times", "(II)I"⟩
abbrev cX11_by : ByteArray := prog_13_method_12_code
def yX11_by : MethodName := ⟨RX11, "by", "(II)I"⟩
abbrev cX11_calc : ByteArray := prog_13_method_13_code
def yX11_calc : MethodName := ⟨RX11, "calc", "(III)I"⟩
abbrev cX11_newNode : ByteArray := prog_13_method_14_code
def yX11_newNode : MethodName := ⟨RX11, "newNode", "(III)I"⟩
abbrev cX11_data : ByteArray := prog_13_method_15_code
def yX11_data : MethodName := ⟨RX11, "data", "(II)I"⟩
abbrev cX11_feed : ByteArray := prog_13_method_16_code
def yX11_feed : MethodName := ⟨RX11, "feed", "(I)I"⟩
abbrev cX11_sign : ByteArray := prog_13_method_17_code
def yX11_sign : MethodName := ⟨RX11, "sign", "()I"⟩
abbrev cX11_is : ByteArray := prog_13_method_18_code
def yX11_is : MethodName := ⟨RX11, "is", "(I)Z"⟩
abbrev cX11_isT : ByteArray := prog_13_method_19_code
def yX11_isT : MethodName := ⟨RX11, "isT", "(I)Z"⟩
abbrev cX11_isE : ByteArray := prog_13_method_20_code
def yX11_isE : MethodName := ⟨RX11, "isE", "(I)Z"⟩
abbrev cX11_isLost : ByteArray := prog_13_method_21_code
def yX11_isLost : MethodName := ⟨RX11, "isLost", "()Z"⟩
abbrev cX11_parity : ByteArray := prog_13_method_22_code
def yX11_parity : MethodName := ⟨RX11, "parity", "(II)I"⟩
abbrev cX11_row : ByteArray := prog_13_method_23_code
def yX11_row : MethodName := ⟨RX11, "row", "(III)I"⟩
abbrev cX11_cost : ByteArray := prog_13_method_24_code
def yX11_cost : MethodName := ⟨RX11, "cost", "(I)I"⟩
abbrev cX11_symbol : ByteArray := prog_13_method_25_code
def yX11_symbol : MethodName := ⟨RX11, "symbol", "(I)I"⟩
abbrev cX11_of : ByteArray := prog_13_method_26_code
def yX11_of : MethodName := ⟨RX11, "of", "(II)I"⟩
abbrev cX11_write : ByteArray := prog_13_method_27_code
def yX11_write : MethodName := ⟨RX11, "write", "(II)I"⟩
abbrev cX11_lose : ByteArray := prog_13_method_28_code
def yX11_lose : MethodName := ⟨RX11, "lose", "(I)I"⟩
abbrev cX11_repairs : ByteArray := prog_13_method_29_code
def yX11_repairs : MethodName := ⟨RX11, "repairs", "(I)Z"⟩
abbrev cX11_repair : ByteArray := prog_13_method_30_code
def yX11_repair : MethodName := ⟨RX11, "repair", "(I)I"⟩
abbrev cX11_takes : ByteArray := prog_13_method_31_code
def yX11_takes : MethodName := ⟨RX11, "takes", "(I)V"⟩
abbrev cX11_adds : ByteArray := prog_13_method_32_code
def yX11_adds : MethodName := ⟨RX11, "adds", "(III)V"⟩
abbrev cX11_ranks : ByteArray := prog_13_method_33_code
def yX11_ranks : MethodName := ⟨RX11, "ranks", "()I"⟩
abbrev cX11_rankOf : ByteArray := prog_13_method_34_code
def yX11_rankOf : MethodName := ⟨RX11, "rankOf", "(I)I"⟩
abbrev cX11_tells : ByteArray := prog_13_method_35_code
def yX11_tells : MethodName := ⟨RX11, "tells", "(II)Z"⟩
abbrev cX11_there : ByteArray := prog_13_method_36_code
def yX11_there : MethodName := ⟨RX11, "there", "()I"⟩
abbrev cX11_allData : ByteArray := prog_13_method_37_code
def yX11_allData : MethodName := ⟨RX11, "allData", "()I"⟩
abbrev cX11_helps : ByteArray := prog_13_method_38_code
def yX11_helps : MethodName := ⟨RX11, "helps", "(I)V"⟩
abbrev cX11_local : ByteArray := prog_13_method_39_code
def yX11_local : MethodName := ⟨RX11, "local", "(I)I"⟩
abbrev cX11_helped : ByteArray := prog_13_method_40_code
def yX11_helped : MethodName := ⟨RX11, "helped", "()I"⟩
abbrev cX11_all : ByteArray := prog_13_method_41_code
def yX11_all : MethodName := ⟨RX11, "all", "()I"⟩
abbrev cX11_safeOf : ByteArray := prog_13_method_42_code
def yX11_safeOf : MethodName := ⟨RX11, "safeOf", "(IZ)I"⟩
abbrev cX11_distance : ByteArray := prog_13_method_43_code
def yX11_distance : MethodName := ⟨RX11, "distance", "()I"⟩
abbrev cX11_told : ByteArray := prog_13_method_44_code
def yX11_told : MethodName := ⟨RX11, "told", "(I)I"⟩
abbrev cX11_rank : ByteArray := prog_13_method_45_code
def yX11_rank : MethodName := ⟨RX11, "rank", "(I)I"⟩
abbrev cX11_safe : ByteArray := prog_13_method_46_code
def yX11_safe : MethodName := ⟨RX11, "safe", "(I)I"⟩
abbrev cX11_best : ByteArray := prog_13_method_47_code
def yX11_best : MethodName := ⟨RX11, "best", "(III)I"⟩
abbrev cX11_see : ByteArray := prog_13_method_48_code
def yX11_see : MethodName := ⟨RX11, "see", "(II)I"⟩
abbrev cX11_has : ByteArray := prog_13_method_49_code
def yX11_has : MethodName := ⟨RX11, "has", "(II)V"⟩
abbrev cX11_sees : ByteArray := prog_13_method_50_code
def yX11_sees : MethodName := ⟨RX11, "sees", "()V"⟩
abbrev cX11_solves : ByteArray := prog_13_method_51_code
def yX11_solves : MethodName := ⟨RX11, "solves", "()I"⟩
abbrev cX11_least : ByteArray := prog_13_method_52_code
def yX11_least : MethodName := ⟨RX11, "least", "()J"⟩
abbrev cX11_ways : ByteArray := prog_13_method_53_code
def yX11_ways : MethodName := ⟨RX11, "ways", "(I)J"⟩
abbrev cX11_can : ByteArray := prog_13_method_54_code
def yX11_can : MethodName := ⟨RX11, "can", "(I)I"⟩
abbrev cX11_part : ByteArray := prog_13_method_55_code
def yX11_part : MethodName := ⟨RX11, "part", "(JJI)J"⟩
abbrev cX11_odds : ByteArray := prog_13_method_56_code
def yX11_odds : MethodName := ⟨RX11, "odds", "(II)J"⟩
abbrev cX11_mean : ByteArray := prog_13_method_57_code
def yX11_mean : MethodName := ⟨RX11, "mean", "(I)J"⟩
abbrev cX11_plan : ByteArray := prog_13_method_58_code
def yX11_plan : MethodName := ⟨RX11, "plan", "(II)I"⟩
abbrev cX11_ends : ByteArray := prog_13_method_59_code
def yX11_ends : MethodName := ⟨RX11, "ends", "(I)I"⟩
abbrev cX11_book : ByteArray := prog_13_method_60_code
def yX11_book : MethodName := ⟨RX11, "book", "(II)I"⟩
abbrev cX11_looked : ByteArray := prog_13_method_61_code
def yX11_looked : MethodName := ⟨RX11, "looked", "()I"⟩
abbrev cX11_judge : ByteArray := prog_13_method_62_code
def yX11_judge : MethodName := ⟨RX11, "judge", "(II)I"⟩
abbrev cX11_keep : ByteArray := prog_13_method_63_code
def yX11_keep : MethodName := ⟨RX11, "keep", "([I)V"⟩
abbrev cX11_again : ByteArray := prog_13_method_64_code
def yX11_again : MethodName := ⟨RX11, "again", "([I)V"⟩
abbrev cX11_image : ByteArray := prog_13_method_65_code
def yX11_image : MethodName := ⟨RX11, "image", "()I"⟩
abbrev cX11_undo : ByteArray := prog_13_method_66_code
def yX11_undo : MethodName := ⟨RX11, "undo", "()I"⟩
abbrev cX11_above : ByteArray := prog_13_method_67_code
def yX11_above : MethodName := ⟨RX11, "above", "(I)I"⟩
abbrev cX11_taken : ByteArray := prog_13_method_68_code
def yX11_taken : MethodName := ⟨RX11, "taken", "(II)I"⟩
abbrev cX11_count : ByteArray := prog_13_method_69_code
def yX11_count : MethodName := ⟨RX11, "count", "(I)I"⟩
abbrev cX11_isTape : ByteArray := prog_13_method_70_code
def yX11_isTape : MethodName := ⟨RX11, "isTape", "(I)Z"⟩
abbrev cX11_tape : ByteArray := prog_13_method_71_code
def yX11_tape : MethodName := ⟨RX11, "tape", "(III)I"⟩
abbrev cX11_kept : ByteArray := prog_13_method_72_code
def yX11_kept : MethodName := ⟨RX11, "kept", "(IJ)J"⟩
abbrev cX11_item : ByteArray := prog_13_method_73_code
def yX11_item : MethodName := ⟨RX11, "item", "(IIJ)I"⟩
abbrev cX11_read : ByteArray := prog_13_method_74_code
def yX11_read : MethodName := ⟨RX11, "read", "(II)J"⟩
abbrev cX11_shift : ByteArray := prog_13_method_75_code
def yX11_shift : MethodName := ⟨RX11, "shift", "(IIIII)I"⟩
def RJ6 : String := "java/lang/Integer"
def TJ6 : u_T := fun k => match k with
  | _ => ("", "", "", false)
def tyJ6 : Nat → FieldType := fun k => match k with
  | _ => .int
abbrev wsJ60 : List Cond := u_ws RJ6 TJ6 0
theorem nmJ6 : ∀ a, a < 0 → ∀ b, b < 0 → a ≠ b → (TJ6 a).2.1 ≠ (TJ6 b).2.1 := by decide +kernel
theorem tyJ6_ok : ∀ k, k < 0 → parseFieldDescriptor (TJ6 k).2.2.1 = some (tyJ6 k) := by decide +kernel
abbrev cJ6_bitCount_0f7a4 : ByteArray := prog_14_method_49_code
def yJ6_bitCount_0f7a4 : MethodName := ⟨RJ6, "bitCount", "(I)I"⟩
def RJ9 : String := "java/lang/Math"
def TJ9 : u_T := fun k => match k with
  | _ => ("", "", "", false)
def tyJ9 : Nat → FieldType := fun k => match k with
  | _ => .int
abbrev wsJ90 : List Cond := u_ws RJ9 TJ9 0
theorem nmJ9 : ∀ a, a < 0 → ∀ b, b < 0 → a ≠ b → (TJ9 a).2.1 ≠ (TJ9 b).2.1 := by decide +kernel
theorem tyJ9_ok : ∀ k, k < 0 → parseFieldDescriptor (TJ9 k).2.2.1 = some (tyJ9 k) := by decide +kernel
abbrev cJ9_abs_067f4 : ByteArray := prog_15_method_61_code
def yJ9_abs_067f4 : MethodName := ⟨RJ9, "abs", "(J)J"⟩
abbrev cJ9_max_7cf53 : ByteArray := prog_15_method_65_code
def yJ9_max_7cf53 : MethodName := ⟨RJ9, "max", "(II)I"⟩
abbrev cJ9_min_7cf53 : ByteArray := prog_15_method_69_code
def yJ9_min_7cf53 : MethodName := ⟨RJ9, "min", "(II)I"⟩
def RJ10 : String := "java/lang/System"
def TJ10 : u_T := fun k => match k with
  | _ => ("", "", "", false)
def tyJ10 : Nat → FieldType := fun k => match k with
  | _ => .int
abbrev wsJ100 : List Cond := u_ws RJ10 TJ10 0
theorem nmJ10 : ∀ a, a < 0 → ∀ b, b < 0 → a ≠ b → (TJ10 a).2.1 ≠ (TJ10 b).2.1 := by decide +kernel
theorem tyJ10_ok : ∀ k, k < 0 → parseFieldDescriptor (TJ10 k).2.2.1 = some (tyJ10 k) := by decide +kernel
def RL : String := "RepairGroupsLaw"
abbrev cL_law : ByteArray := code
def yL_law : MethodName := ⟨RL, "law", "([I)Z"⟩
/-- the objects of RepairGroups$Chooser, kind 0: what each holds, by its address -/
abbrev vwCl : List vw_C := [(RX0, TX0, 4), (RX1, TX1, 4), (RX2, TX2, 2), (RX3, TX3, 12), (RX4, TX4, 3), (RX5, TX5, 3), (RX6, TX6, 2), (RX7, TX7, 3), (RX8, TX8, 4), (RX9, TX9, 3), (RX10, TX10, 11), (RX11, TX11, 41)]
end
section
def ev_ws : List Cond := lw_tbl.filter goodWord
theorem ev_ws_in : ∀ w ∈ ev_ws, w ∈ lw_tbl := fun w h => (List.mem_filter.mp h).1
theorem ev_ws_good : ∀ w ∈ ev_ws, goodWord w = true := fun w h => (List.mem_filter.mp h).2
theorem lw_m0 {w : Cond} (h : w ∈ k2_sels lw_privs) : w ∈ lw_tbl := List.mem_append_left _ h
theorem lw_m1 {w : Cond} (h : w ∈ tables_1_1) : w ∈ lw_tbl := List.mem_append_right _ (List.mem_append_left _ h)
theorem lw_m2 {w : Cond} (h : w ∈ tables_1_2) : w ∈ lw_tbl := List.mem_append_right _ (List.mem_append_right _ (List.mem_append_left _ h))
theorem lw_m3 {w : Cond} (h : w ∈ tables_1_3) : w ∈ lw_tbl := List.mem_append_right _ (List.mem_append_right _ (List.mem_append_right _ (List.mem_append_left _ h)))
theorem lw_m4 {w : Cond} (h : w ∈ tables_1_4) : w ∈ lw_tbl := List.mem_append_right _ (List.mem_append_right _ (List.mem_append_right _ (List.mem_append_right _ (List.mem_append_left _ h))))
theorem lw_m5 {w : Cond} (h : w ∈ tables_1_5) : w ∈ lw_tbl := List.mem_append_right _ (List.mem_append_right _ (List.mem_append_right _ (List.mem_append_right _ (List.mem_append_right _ (List.mem_append_left _ h)))))
theorem lw_m6 {w : Cond} (h : w ∈ tables_1_6) : w ∈ lw_tbl := List.mem_append_right _ (List.mem_append_right _ (List.mem_append_right _ (List.mem_append_right _ (List.mem_append_right _ (List.mem_append_right _ h)))))
theorem lwl_0_3 : u_lay RX0 TX0 3 ∈ ev_ws := List.mem_filter.mpr ⟨(lw_m2 (List.mem_of_getElem? (i := 21) (by decide +kernel))), rfl⟩
theorem lwl_0_2 : u_lay RX0 TX0 2 ∈ ev_ws := List.mem_filter.mpr ⟨(lw_m2 (List.mem_of_getElem? (i := 19) (by decide +kernel))), rfl⟩
theorem lwl_0_1 : u_lay RX0 TX0 1 ∈ ev_ws := List.mem_filter.mpr ⟨(lw_m2 (List.mem_of_getElem? (i := 17) (by decide +kernel))), rfl⟩
theorem lwl_0_0 : u_lay RX0 TX0 0 ∈ ev_ws := List.mem_filter.mpr ⟨(lw_m2 (List.mem_of_getElem? (i := 15) (by decide +kernel))), rfl⟩
theorem iw_0 : ∀ w ∈ u_ws RX0 TX0 4, w ∈ ev_ws := by
  intro w hw
  obtain ⟨k, hk, rfl⟩ := List.mem_map.mp hw
  have hk := List.mem_range.mp hk
  match k, hk with
  | 0, _ => exact lwl_0_0
  | 1, _ => exact lwl_0_1
  | 2, _ => exact lwl_0_2
  | 3, _ => exact lwl_0_3
  | k + 4, h => exact absurd h (by omega)
theorem lwl_1_3 : u_lay RX1 TX1 3 ∈ ev_ws := List.mem_filter.mpr ⟨(lw_m1 (List.mem_of_getElem? (i := 81) (by decide +kernel))), rfl⟩
theorem lwl_1_2 : u_lay RX1 TX1 2 ∈ ev_ws := List.mem_filter.mpr ⟨(lw_m1 (List.mem_of_getElem? (i := 79) (by decide +kernel))), rfl⟩
theorem lwl_1_1 : u_lay RX1 TX1 1 ∈ ev_ws := List.mem_filter.mpr ⟨(lw_m1 (List.mem_of_getElem? (i := 77) (by decide +kernel))), rfl⟩
theorem lwl_1_0 : u_lay RX1 TX1 0 ∈ ev_ws := List.mem_filter.mpr ⟨(lw_m1 (List.mem_of_getElem? (i := 75) (by decide +kernel))), rfl⟩
theorem iw_1 : ∀ w ∈ u_ws RX1 TX1 4, w ∈ ev_ws := by
  intro w hw
  obtain ⟨k, hk, rfl⟩ := List.mem_map.mp hw
  have hk := List.mem_range.mp hk
  match k, hk with
  | 0, _ => exact lwl_1_0
  | 1, _ => exact lwl_1_1
  | 2, _ => exact lwl_1_2
  | 3, _ => exact lwl_1_3
  | k + 4, h => exact absurd h (by omega)
theorem lwl_2_1 : u_lay RX2 TX2 1 ∈ ev_ws := List.mem_filter.mpr ⟨(lw_m1 (List.mem_of_getElem? (i := 128) (by decide +kernel))), rfl⟩
theorem lwl_2_0 : u_lay RX2 TX2 0 ∈ ev_ws := List.mem_filter.mpr ⟨(lw_m1 (List.mem_of_getElem? (i := 126) (by decide +kernel))), rfl⟩
theorem iw_2 : ∀ w ∈ u_ws RX2 TX2 2, w ∈ ev_ws := by
  intro w hw
  obtain ⟨k, hk, rfl⟩ := List.mem_map.mp hw
  have hk := List.mem_range.mp hk
  match k, hk with
  | 0, _ => exact lwl_2_0
  | 1, _ => exact lwl_2_1
  | k + 2, h => exact absurd h (by omega)
theorem lwl_3_11 : u_lay RX3 TX3 11 ∈ ev_ws := List.mem_filter.mpr ⟨(lw_m1 (List.mem_of_getElem? (i := 197) (by decide +kernel))), rfl⟩
theorem lwl_3_10 : u_lay RX3 TX3 10 ∈ ev_ws := List.mem_filter.mpr ⟨(lw_m1 (List.mem_of_getElem? (i := 195) (by decide +kernel))), rfl⟩
theorem lwl_3_9 : u_lay RX3 TX3 9 ∈ ev_ws := List.mem_filter.mpr ⟨(lw_m1 (List.mem_of_getElem? (i := 193) (by decide +kernel))), rfl⟩
theorem lwl_3_8 : u_lay RX3 TX3 8 ∈ ev_ws := List.mem_filter.mpr ⟨(lw_m1 (List.mem_of_getElem? (i := 191) (by decide +kernel))), rfl⟩
theorem lwl_3_7 : u_lay RX3 TX3 7 ∈ ev_ws := List.mem_filter.mpr ⟨(lw_m1 (List.mem_of_getElem? (i := 189) (by decide +kernel))), rfl⟩
theorem lwl_3_6 : u_lay RX3 TX3 6 ∈ ev_ws := List.mem_filter.mpr ⟨(lw_m1 (List.mem_of_getElem? (i := 187) (by decide +kernel))), rfl⟩
theorem lwl_3_5 : u_lay RX3 TX3 5 ∈ ev_ws := List.mem_filter.mpr ⟨(lw_m1 (List.mem_of_getElem? (i := 185) (by decide +kernel))), rfl⟩
theorem lwl_3_4 : u_lay RX3 TX3 4 ∈ ev_ws := List.mem_filter.mpr ⟨(lw_m1 (List.mem_of_getElem? (i := 183) (by decide +kernel))), rfl⟩
theorem lwl_3_3 : u_lay RX3 TX3 3 ∈ ev_ws := List.mem_filter.mpr ⟨(lw_m1 (List.mem_of_getElem? (i := 181) (by decide +kernel))), rfl⟩
theorem lwl_3_2 : u_lay RX3 TX3 2 ∈ ev_ws := List.mem_filter.mpr ⟨(lw_m1 (List.mem_of_getElem? (i := 179) (by decide +kernel))), rfl⟩
theorem lwl_3_1 : u_lay RX3 TX3 1 ∈ ev_ws := List.mem_filter.mpr ⟨(lw_m1 (List.mem_of_getElem? (i := 177) (by decide +kernel))), rfl⟩
theorem lwl_3_0 : u_lay RX3 TX3 0 ∈ ev_ws := List.mem_filter.mpr ⟨(lw_m1 (List.mem_of_getElem? (i := 175) (by decide +kernel))), rfl⟩
theorem iw_3 : ∀ w ∈ u_ws RX3 TX3 12, w ∈ ev_ws := by
  intro w hw
  obtain ⟨k, hk, rfl⟩ := List.mem_map.mp hw
  have hk := List.mem_range.mp hk
  match k, hk with
  | 0, _ => exact lwl_3_0
  | 1, _ => exact lwl_3_1
  | 2, _ => exact lwl_3_2
  | 3, _ => exact lwl_3_3
  | 4, _ => exact lwl_3_4
  | 5, _ => exact lwl_3_5
  | 6, _ => exact lwl_3_6
  | 7, _ => exact lwl_3_7
  | 8, _ => exact lwl_3_8
  | 9, _ => exact lwl_3_9
  | 10, _ => exact lwl_3_10
  | 11, _ => exact lwl_3_11
  | k + 12, h => exact absurd h (by omega)
theorem lwl_4_2 : u_lay RX4 TX4 2 ∈ ev_ws := List.mem_filter.mpr ⟨(lw_m1 (List.mem_of_getElem? (i := 58) (by decide +kernel))), rfl⟩
theorem lwl_4_1 : u_lay RX4 TX4 1 ∈ ev_ws := List.mem_filter.mpr ⟨(lw_m1 (List.mem_of_getElem? (i := 56) (by decide +kernel))), rfl⟩
theorem lwl_4_0 : u_lay RX4 TX4 0 ∈ ev_ws := List.mem_filter.mpr ⟨(lw_m1 (List.mem_of_getElem? (i := 54) (by decide +kernel))), rfl⟩
theorem iw_4 : ∀ w ∈ u_ws RX4 TX4 3, w ∈ ev_ws := by
  intro w hw
  obtain ⟨k, hk, rfl⟩ := List.mem_map.mp hw
  have hk := List.mem_range.mp hk
  match k, hk with
  | 0, _ => exact lwl_4_0
  | 1, _ => exact lwl_4_1
  | 2, _ => exact lwl_4_2
  | k + 3, h => exact absurd h (by omega)
theorem lwl_5_2 : u_lay RX5 TX5 2 ∈ ev_ws := List.mem_filter.mpr ⟨(lw_m1 (List.mem_of_getElem? (i := 219) (by decide +kernel))), rfl⟩
theorem lwl_5_1 : u_lay RX5 TX5 1 ∈ ev_ws := List.mem_filter.mpr ⟨(lw_m1 (List.mem_of_getElem? (i := 217) (by decide +kernel))), rfl⟩
theorem lwl_5_0 : u_lay RX5 TX5 0 ∈ ev_ws := List.mem_filter.mpr ⟨(lw_m1 (List.mem_of_getElem? (i := 215) (by decide +kernel))), rfl⟩
theorem iw_5 : ∀ w ∈ u_ws RX5 TX5 3, w ∈ ev_ws := by
  intro w hw
  obtain ⟨k, hk, rfl⟩ := List.mem_map.mp hw
  have hk := List.mem_range.mp hk
  match k, hk with
  | 0, _ => exact lwl_5_0
  | 1, _ => exact lwl_5_1
  | 2, _ => exact lwl_5_2
  | k + 3, h => exact absurd h (by omega)
theorem lwl_6_1 : u_lay RX6 TX6 1 ∈ ev_ws := List.mem_filter.mpr ⟨(lw_m1 (List.mem_of_getElem? (i := 115) (by decide +kernel))), rfl⟩
theorem lwl_6_0 : u_lay RX6 TX6 0 ∈ ev_ws := List.mem_filter.mpr ⟨(lw_m1 (List.mem_of_getElem? (i := 113) (by decide +kernel))), rfl⟩
theorem iw_6 : ∀ w ∈ u_ws RX6 TX6 2, w ∈ ev_ws := by
  intro w hw
  obtain ⟨k, hk, rfl⟩ := List.mem_map.mp hw
  have hk := List.mem_range.mp hk
  match k, hk with
  | 0, _ => exact lwl_6_0
  | 1, _ => exact lwl_6_1
  | k + 2, h => exact absurd h (by omega)
theorem lwl_7_2 : u_lay RX7 TX7 2 ∈ ev_ws := List.mem_filter.mpr ⟨(lw_m1 (List.mem_of_getElem? (i := 108) (by decide +kernel))), rfl⟩
theorem lwl_7_1 : u_lay RX7 TX7 1 ∈ ev_ws := List.mem_filter.mpr ⟨(lw_m1 (List.mem_of_getElem? (i := 106) (by decide +kernel))), rfl⟩
theorem lwl_7_0 : u_lay RX7 TX7 0 ∈ ev_ws := List.mem_filter.mpr ⟨(lw_m1 (List.mem_of_getElem? (i := 104) (by decide +kernel))), rfl⟩
theorem iw_7 : ∀ w ∈ u_ws RX7 TX7 3, w ∈ ev_ws := by
  intro w hw
  obtain ⟨k, hk, rfl⟩ := List.mem_map.mp hw
  have hk := List.mem_range.mp hk
  match k, hk with
  | 0, _ => exact lwl_7_0
  | 1, _ => exact lwl_7_1
  | 2, _ => exact lwl_7_2
  | k + 3, h => exact absurd h (by omega)
theorem lwl_8_3 : u_lay RX8 TX8 3 ∈ ev_ws := List.mem_filter.mpr ⟨(lw_m1 (List.mem_of_getElem? (i := 236) (by decide +kernel))), rfl⟩
theorem lwl_8_2 : u_lay RX8 TX8 2 ∈ ev_ws := List.mem_filter.mpr ⟨(lw_m1 (List.mem_of_getElem? (i := 234) (by decide +kernel))), rfl⟩
theorem lwl_8_1 : u_lay RX8 TX8 1 ∈ ev_ws := List.mem_filter.mpr ⟨(lw_m1 (List.mem_of_getElem? (i := 232) (by decide +kernel))), rfl⟩
theorem lwl_8_0 : u_lay RX8 TX8 0 ∈ ev_ws := List.mem_filter.mpr ⟨(lw_m1 (List.mem_of_getElem? (i := 230) (by decide +kernel))), rfl⟩
theorem iw_8 : ∀ w ∈ u_ws RX8 TX8 4, w ∈ ev_ws := by
  intro w hw
  obtain ⟨k, hk, rfl⟩ := List.mem_map.mp hw
  have hk := List.mem_range.mp hk
  match k, hk with
  | 0, _ => exact lwl_8_0
  | 1, _ => exact lwl_8_1
  | 2, _ => exact lwl_8_2
  | 3, _ => exact lwl_8_3
  | k + 4, h => exact absurd h (by omega)
theorem lwl_9_2 : u_lay RX9 TX9 2 ∈ ev_ws := List.mem_filter.mpr ⟨(lw_m2 (List.mem_of_getElem? (i := 42) (by decide +kernel))), rfl⟩
theorem lwl_9_1 : u_lay RX9 TX9 1 ∈ ev_ws := List.mem_filter.mpr ⟨(lw_m2 (List.mem_of_getElem? (i := 40) (by decide +kernel))), rfl⟩
theorem lwl_9_0 : u_lay RX9 TX9 0 ∈ ev_ws := List.mem_filter.mpr ⟨(lw_m2 (List.mem_of_getElem? (i := 38) (by decide +kernel))), rfl⟩
theorem iw_9 : ∀ w ∈ u_ws RX9 TX9 3, w ∈ ev_ws := by
  intro w hw
  obtain ⟨k, hk, rfl⟩ := List.mem_map.mp hw
  have hk := List.mem_range.mp hk
  match k, hk with
  | 0, _ => exact lwl_9_0
  | 1, _ => exact lwl_9_1
  | 2, _ => exact lwl_9_2
  | k + 3, h => exact absurd h (by omega)
theorem lwl_10_10 : u_lay RX10 TX10 10 ∈ ev_ws := List.mem_filter.mpr ⟨(lw_m2 (List.mem_of_getElem? (i := 77) (by decide +kernel))), rfl⟩
theorem lwl_10_9 : u_lay RX10 TX10 9 ∈ ev_ws := List.mem_filter.mpr ⟨(lw_m2 (List.mem_of_getElem? (i := 75) (by decide +kernel))), rfl⟩
theorem lwl_10_8 : u_lay RX10 TX10 8 ∈ ev_ws := List.mem_filter.mpr ⟨(lw_m2 (List.mem_of_getElem? (i := 73) (by decide +kernel))), rfl⟩
theorem lwl_10_7 : u_lay RX10 TX10 7 ∈ ev_ws := List.mem_filter.mpr ⟨(lw_m2 (List.mem_of_getElem? (i := 71) (by decide +kernel))), rfl⟩
theorem lwl_10_6 : u_lay RX10 TX10 6 ∈ ev_ws := List.mem_filter.mpr ⟨(lw_m2 (List.mem_of_getElem? (i := 69) (by decide +kernel))), rfl⟩
theorem lwl_10_5 : u_lay RX10 TX10 5 ∈ ev_ws := List.mem_filter.mpr ⟨(lw_m2 (List.mem_of_getElem? (i := 67) (by decide +kernel))), rfl⟩
theorem lwl_10_4 : u_lay RX10 TX10 4 ∈ ev_ws := List.mem_filter.mpr ⟨(lw_m2 (List.mem_of_getElem? (i := 65) (by decide +kernel))), rfl⟩
theorem lwl_10_3 : u_lay RX10 TX10 3 ∈ ev_ws := List.mem_filter.mpr ⟨(lw_m2 (List.mem_of_getElem? (i := 63) (by decide +kernel))), rfl⟩
theorem lwl_10_2 : u_lay RX10 TX10 2 ∈ ev_ws := List.mem_filter.mpr ⟨(lw_m2 (List.mem_of_getElem? (i := 61) (by decide +kernel))), rfl⟩
theorem lwl_10_1 : u_lay RX10 TX10 1 ∈ ev_ws := List.mem_filter.mpr ⟨(lw_m2 (List.mem_of_getElem? (i := 59) (by decide +kernel))), rfl⟩
theorem lwl_10_0 : u_lay RX10 TX10 0 ∈ ev_ws := List.mem_filter.mpr ⟨(lw_m2 (List.mem_of_getElem? (i := 57) (by decide +kernel))), rfl⟩
theorem iw_10 : ∀ w ∈ u_ws RX10 TX10 11, w ∈ ev_ws := by
  intro w hw
  obtain ⟨k, hk, rfl⟩ := List.mem_map.mp hw
  have hk := List.mem_range.mp hk
  match k, hk with
  | 0, _ => exact lwl_10_0
  | 1, _ => exact lwl_10_1
  | 2, _ => exact lwl_10_2
  | 3, _ => exact lwl_10_3
  | 4, _ => exact lwl_10_4
  | 5, _ => exact lwl_10_5
  | 6, _ => exact lwl_10_6
  | 7, _ => exact lwl_10_7
  | 8, _ => exact lwl_10_8
  | 9, _ => exact lwl_10_9
  | 10, _ => exact lwl_10_10
  | k + 11, h => exact absurd h (by omega)
theorem lwl_11_40 : u_lay RX11 TX11 40 ∈ ev_ws := List.mem_filter.mpr ⟨(lw_m4 (List.mem_of_getElem? (i := 199) (by decide +kernel))), rfl⟩
theorem lwl_11_39 : u_lay RX11 TX11 39 ∈ ev_ws := List.mem_filter.mpr ⟨(lw_m4 (List.mem_of_getElem? (i := 197) (by decide +kernel))), rfl⟩
theorem lwl_11_38 : u_lay RX11 TX11 38 ∈ ev_ws := List.mem_filter.mpr ⟨(lw_m4 (List.mem_of_getElem? (i := 195) (by decide +kernel))), rfl⟩
theorem lwl_11_37 : u_lay RX11 TX11 37 ∈ ev_ws := List.mem_filter.mpr ⟨(lw_m4 (List.mem_of_getElem? (i := 193) (by decide +kernel))), rfl⟩
theorem lwl_11_36 : u_lay RX11 TX11 36 ∈ ev_ws := List.mem_filter.mpr ⟨(lw_m4 (List.mem_of_getElem? (i := 191) (by decide +kernel))), rfl⟩
theorem lwl_11_35 : u_lay RX11 TX11 35 ∈ ev_ws := List.mem_filter.mpr ⟨(lw_m4 (List.mem_of_getElem? (i := 189) (by decide +kernel))), rfl⟩
theorem lwl_11_34 : u_lay RX11 TX11 34 ∈ ev_ws := List.mem_filter.mpr ⟨(lw_m4 (List.mem_of_getElem? (i := 187) (by decide +kernel))), rfl⟩
theorem lwl_11_33 : u_lay RX11 TX11 33 ∈ ev_ws := List.mem_filter.mpr ⟨(lw_m4 (List.mem_of_getElem? (i := 185) (by decide +kernel))), rfl⟩
theorem lwl_11_32 : u_lay RX11 TX11 32 ∈ ev_ws := List.mem_filter.mpr ⟨(lw_m4 (List.mem_of_getElem? (i := 183) (by decide +kernel))), rfl⟩
theorem lwl_11_31 : u_lay RX11 TX11 31 ∈ ev_ws := List.mem_filter.mpr ⟨(lw_m4 (List.mem_of_getElem? (i := 181) (by decide +kernel))), rfl⟩
theorem lwl_11_30 : u_lay RX11 TX11 30 ∈ ev_ws := List.mem_filter.mpr ⟨(lw_m4 (List.mem_of_getElem? (i := 179) (by decide +kernel))), rfl⟩
theorem lwl_11_29 : u_lay RX11 TX11 29 ∈ ev_ws := List.mem_filter.mpr ⟨(lw_m4 (List.mem_of_getElem? (i := 177) (by decide +kernel))), rfl⟩
theorem lwl_11_28 : u_lay RX11 TX11 28 ∈ ev_ws := List.mem_filter.mpr ⟨(lw_m4 (List.mem_of_getElem? (i := 175) (by decide +kernel))), rfl⟩
theorem lwl_11_27 : u_lay RX11 TX11 27 ∈ ev_ws := List.mem_filter.mpr ⟨(lw_m4 (List.mem_of_getElem? (i := 173) (by decide +kernel))), rfl⟩
theorem lwl_11_26 : u_lay RX11 TX11 26 ∈ ev_ws := List.mem_filter.mpr ⟨(lw_m4 (List.mem_of_getElem? (i := 171) (by decide +kernel))), rfl⟩
theorem lwl_11_25 : u_lay RX11 TX11 25 ∈ ev_ws := List.mem_filter.mpr ⟨(lw_m4 (List.mem_of_getElem? (i := 169) (by decide +kernel))), rfl⟩
theorem lwl_11_24 : u_lay RX11 TX11 24 ∈ ev_ws := List.mem_filter.mpr ⟨(lw_m4 (List.mem_of_getElem? (i := 167) (by decide +kernel))), rfl⟩
theorem lwl_11_23 : u_lay RX11 TX11 23 ∈ ev_ws := List.mem_filter.mpr ⟨(lw_m4 (List.mem_of_getElem? (i := 165) (by decide +kernel))), rfl⟩
theorem lwl_11_22 : u_lay RX11 TX11 22 ∈ ev_ws := List.mem_filter.mpr ⟨(lw_m4 (List.mem_of_getElem? (i := 163) (by decide +kernel))), rfl⟩
theorem lwl_11_21 : u_lay RX11 TX11 21 ∈ ev_ws := List.mem_filter.mpr ⟨(lw_m4 (List.mem_of_getElem? (i := 161) (by decide +kernel))), rfl⟩
theorem lwl_11_20 : u_lay RX11 TX11 20 ∈ ev_ws := List.mem_filter.mpr ⟨(lw_m4 (List.mem_of_getElem? (i := 159) (by decide +kernel))), rfl⟩
theorem lwl_11_19 : u_lay RX11 TX11 19 ∈ ev_ws := List.mem_filter.mpr ⟨(lw_m4 (List.mem_of_getElem? (i := 157) (by decide +kernel))), rfl⟩
theorem lwl_11_18 : u_lay RX11 TX11 18 ∈ ev_ws := List.mem_filter.mpr ⟨(lw_m4 (List.mem_of_getElem? (i := 155) (by decide +kernel))), rfl⟩
theorem lwl_11_17 : u_lay RX11 TX11 17 ∈ ev_ws := List.mem_filter.mpr ⟨(lw_m4 (List.mem_of_getElem? (i := 153) (by decide +kernel))), rfl⟩
theorem lwl_11_16 : u_lay RX11 TX11 16 ∈ ev_ws := List.mem_filter.mpr ⟨(lw_m4 (List.mem_of_getElem? (i := 151) (by decide +kernel))), rfl⟩
theorem lwl_11_15 : u_lay RX11 TX11 15 ∈ ev_ws := List.mem_filter.mpr ⟨(lw_m4 (List.mem_of_getElem? (i := 149) (by decide +kernel))), rfl⟩
theorem lwl_11_14 : u_lay RX11 TX11 14 ∈ ev_ws := List.mem_filter.mpr ⟨(lw_m4 (List.mem_of_getElem? (i := 147) (by decide +kernel))), rfl⟩
theorem lwl_11_13 : u_lay RX11 TX11 13 ∈ ev_ws := List.mem_filter.mpr ⟨(lw_m4 (List.mem_of_getElem? (i := 145) (by decide +kernel))), rfl⟩
theorem lwl_11_12 : u_lay RX11 TX11 12 ∈ ev_ws := List.mem_filter.mpr ⟨(lw_m4 (List.mem_of_getElem? (i := 143) (by decide +kernel))), rfl⟩
theorem lwl_11_11 : u_lay RX11 TX11 11 ∈ ev_ws := List.mem_filter.mpr ⟨(lw_m4 (List.mem_of_getElem? (i := 141) (by decide +kernel))), rfl⟩
theorem lwl_11_10 : u_lay RX11 TX11 10 ∈ ev_ws := List.mem_filter.mpr ⟨(lw_m4 (List.mem_of_getElem? (i := 139) (by decide +kernel))), rfl⟩
theorem lwl_11_9 : u_lay RX11 TX11 9 ∈ ev_ws := List.mem_filter.mpr ⟨(lw_m4 (List.mem_of_getElem? (i := 137) (by decide +kernel))), rfl⟩
theorem lwl_11_8 : u_lay RX11 TX11 8 ∈ ev_ws := List.mem_filter.mpr ⟨(lw_m4 (List.mem_of_getElem? (i := 135) (by decide +kernel))), rfl⟩
theorem lwl_11_7 : u_lay RX11 TX11 7 ∈ ev_ws := List.mem_filter.mpr ⟨(lw_m4 (List.mem_of_getElem? (i := 133) (by decide +kernel))), rfl⟩
theorem lwl_11_6 : u_lay RX11 TX11 6 ∈ ev_ws := List.mem_filter.mpr ⟨(lw_m4 (List.mem_of_getElem? (i := 131) (by decide +kernel))), rfl⟩
theorem lwl_11_5 : u_lay RX11 TX11 5 ∈ ev_ws := List.mem_filter.mpr ⟨(lw_m4 (List.mem_of_getElem? (i := 129) (by decide +kernel))), rfl⟩
theorem lwl_11_4 : u_lay RX11 TX11 4 ∈ ev_ws := List.mem_filter.mpr ⟨(lw_m4 (List.mem_of_getElem? (i := 127) (by decide +kernel))), rfl⟩
theorem lwl_11_3 : u_lay RX11 TX11 3 ∈ ev_ws := List.mem_filter.mpr ⟨(lw_m4 (List.mem_of_getElem? (i := 125) (by decide +kernel))), rfl⟩
theorem lwl_11_2 : u_lay RX11 TX11 2 ∈ ev_ws := List.mem_filter.mpr ⟨(lw_m4 (List.mem_of_getElem? (i := 123) (by decide +kernel))), rfl⟩
theorem lwl_11_1 : u_lay RX11 TX11 1 ∈ ev_ws := List.mem_filter.mpr ⟨(lw_m4 (List.mem_of_getElem? (i := 121) (by decide +kernel))), rfl⟩
theorem lwl_11_0 : u_lay RX11 TX11 0 ∈ ev_ws := List.mem_filter.mpr ⟨(lw_m4 (List.mem_of_getElem? (i := 119) (by decide +kernel))), rfl⟩
theorem iw_11 : ∀ w ∈ u_ws RX11 TX11 41, w ∈ ev_ws := by
  intro w hw
  obtain ⟨k, hk, rfl⟩ := List.mem_map.mp hw
  have hk := List.mem_range.mp hk
  match k, hk with
  | 0, _ => exact lwl_11_0
  | 1, _ => exact lwl_11_1
  | 2, _ => exact lwl_11_2
  | 3, _ => exact lwl_11_3
  | 4, _ => exact lwl_11_4
  | 5, _ => exact lwl_11_5
  | 6, _ => exact lwl_11_6
  | 7, _ => exact lwl_11_7
  | 8, _ => exact lwl_11_8
  | 9, _ => exact lwl_11_9
  | 10, _ => exact lwl_11_10
  | 11, _ => exact lwl_11_11
  | 12, _ => exact lwl_11_12
  | 13, _ => exact lwl_11_13
  | 14, _ => exact lwl_11_14
  | 15, _ => exact lwl_11_15
  | 16, _ => exact lwl_11_16
  | 17, _ => exact lwl_11_17
  | 18, _ => exact lwl_11_18
  | 19, _ => exact lwl_11_19
  | 20, _ => exact lwl_11_20
  | 21, _ => exact lwl_11_21
  | 22, _ => exact lwl_11_22
  | 23, _ => exact lwl_11_23
  | 24, _ => exact lwl_11_24
  | 25, _ => exact lwl_11_25
  | 26, _ => exact lwl_11_26
  | 27, _ => exact lwl_11_27
  | 28, _ => exact lwl_11_28
  | 29, _ => exact lwl_11_29
  | 30, _ => exact lwl_11_30
  | 31, _ => exact lwl_11_31
  | 32, _ => exact lwl_11_32
  | 33, _ => exact lwl_11_33
  | 34, _ => exact lwl_11_34
  | 35, _ => exact lwl_11_35
  | 36, _ => exact lwl_11_36
  | 37, _ => exact lwl_11_37
  | 38, _ => exact lwl_11_38
  | 39, _ => exact lwl_11_39
  | 40, _ => exact lwl_11_40
  | k + 41, h => exact absurd h (by omega)
def ev_lg (own : String) (idx ci f : Nat) : Prop := ∃ (C : String) (TT : u_T) (N : Nat), vwCl[ci]? = some (C, TT, N) ∧ (∀ w ∈ u_ws C TT N, w ∈ ev_ws) ∧ f < N ∧ Cond.fieldLink own idx (TT f).1 (TT f).2.1 (TT f).2.2.1 ∈ ev_ws
def ev_lk (own : String) (idx ci f : Nat) (ty : FieldType) (fin : Bool) : Prop := ∃ (C : String) (TT : u_T) (N : Nat) (ty0 : Nat → FieldType), vwCl[ci]? = some (C, TT, N) ∧ (∀ w ∈ u_ws C TT N, w ∈ ev_ws) ∧ f < N ∧ Cond.fieldLink own idx (TT f).1 (TT f).2.1 (TT f).2.2.1 ∈ ev_ws ∧ (∀ k, k < N → parseFieldDescriptor (TT k).2.2.1 = some (ty0 k)) ∧ (∀ a, a < N → ∀ b, b < N → a ≠ b → (TT a).2.1 ≠ (TT b).2.1) ∧ (TT f).2.2.2 = fin ∧ (fin = true → (TT f).1 = own) ∧ parseFieldDescriptor (TT f).2.2.1 = some ty
def ev_cv (own : String) (idx : Nat) (y : MethodName) (b : ByteArray) (maxL : Nat) (ret : Option FieldType) (n : Nat) : Prop := Cond.methodLink own idx y ∈ ev_ws ∧ Cond.code y b maxL ret ∈ ev_ws ∧ Cond.initialized y.cls ∈ ev_ws ∧ (y.cls ≠ "java/lang/invoke/MethodHandle" ∧ y.cls ≠ "java/lang/invoke/VarHandle" ∧ (parseMethodDescriptor y.desc).map (fun d => d.parameters.length) = some n) ∧ maxL ≤ 30
def ev_cvV (own : String) (idx : Nat) (y : MethodName) (b : ByteArray) (maxL : Nat) (ret : Option FieldType) (n : Nat) : Prop := ev_cv own idx y b maxL ret n ∧ Cond.instanceMethod y ∈ ev_ws ∧ Cond.selects y.cls y y ∈ ev_ws
def ev_cvS (own : String) (idx : Nat) (y : MethodName) (b : ByteArray) (maxL : Nat) (ret : Option FieldType) (n : Nat) : Prop := ev_cv own idx y b maxL ret n ∧ Cond.static y ∈ ev_ws
def ev_cvI (own : String) (idx : Nat) (y : MethodName) (b : ByteArray) (maxL : Nat) (ret : Option FieldType) (n : Nat) : Prop := ev_cv own idx y b maxL ret n ∧ y.name = "<init>" ∧ Cond.instanceMethod y ∈ ev_ws ∧ ret = none
def ev_cvN (y : MethodName) (b : ByteArray) (maxL : Nat) (ret : Option FieldType) (n : Nat) : Prop := Cond.static y ∈ ev_ws ∧ Cond.code y b maxL ret ∈ ev_ws ∧ Cond.initialized y.cls ∈ ev_ws ∧ (y.cls ≠ "java/lang/invoke/MethodHandle" ∧ y.cls ≠ "java/lang/invoke/VarHandle" ∧ (parseMethodDescriptor y.desc).map (fun d => d.parameters.length) = some n) ∧ maxL ≤ 30
theorem lkX4_17' : ev_lk RX4 17 4 0 (.int) false := ⟨_, _, _, tyX4, rfl, iw_4, by decide, List.mem_filter.mpr ⟨(lw_m1 (List.mem_of_getElem? (i := 48) (by decide +kernel))), rfl⟩, tyX4_ok, nmX4, rfl, fun _ => rfl, by decide +kernel⟩
theorem lkX4_17 : ev_lg RX4 17 4 0 := ⟨_, _, _, rfl, iw_4, by decide, List.mem_filter.mpr ⟨(lw_m1 (List.mem_of_getElem? (i := 48) (by decide +kernel))), rfl⟩⟩
theorem lkX7_33' : ev_lk RX7 33 4 0 (.int) false := ⟨_, _, _, tyX4, rfl, iw_4, by decide, List.mem_filter.mpr ⟨(lw_m1 (List.mem_of_getElem? (i := 49) (by decide +kernel))), rfl⟩, tyX4_ok, nmX4, rfl, fun h => absurd h (by decide), by decide +kernel⟩
theorem lkX7_33 : ev_lg RX7 33 4 0 := ⟨_, _, _, rfl, iw_4, by decide, List.mem_filter.mpr ⟨(lw_m1 (List.mem_of_getElem? (i := 49) (by decide +kernel))), rfl⟩⟩
theorem lkX10_235' : ev_lk RX10 235 4 0 (.int) false := ⟨_, _, _, tyX4, rfl, iw_4, by decide, List.mem_filter.mpr ⟨(lw_m1 (List.mem_of_getElem? (i := 50) (by decide +kernel))), rfl⟩, tyX4_ok, nmX4, rfl, fun h => absurd h (by decide), by decide +kernel⟩
theorem lkX10_235 : ev_lg RX10 235 4 0 := ⟨_, _, _, rfl, iw_4, by decide, List.mem_filter.mpr ⟨(lw_m1 (List.mem_of_getElem? (i := 50) (by decide +kernel))), rfl⟩⟩
theorem lkX4_25' : ev_lk RX4 25 4 1 (.int) false := ⟨_, _, _, tyX4, rfl, iw_4, by decide, List.mem_filter.mpr ⟨(lw_m1 (List.mem_of_getElem? (i := 51) (by decide +kernel))), rfl⟩, tyX4_ok, nmX4, rfl, fun _ => rfl, by decide +kernel⟩
theorem lkX4_25 : ev_lg RX4 25 4 1 := ⟨_, _, _, rfl, iw_4, by decide, List.mem_filter.mpr ⟨(lw_m1 (List.mem_of_getElem? (i := 51) (by decide +kernel))), rfl⟩⟩
theorem lkX10_100' : ev_lk RX10 100 4 1 (.int) false := ⟨_, _, _, tyX4, rfl, iw_4, by decide, List.mem_filter.mpr ⟨(lw_m1 (List.mem_of_getElem? (i := 52) (by decide +kernel))), rfl⟩, tyX4_ok, nmX4, rfl, fun h => absurd h (by decide), by decide +kernel⟩
theorem lkX10_100 : ev_lg RX10 100 4 1 := ⟨_, _, _, rfl, iw_4, by decide, List.mem_filter.mpr ⟨(lw_m1 (List.mem_of_getElem? (i := 52) (by decide +kernel))), rfl⟩⟩
theorem lkX4_7' : ev_lk RX4 7 4 2 (.array .int) true := ⟨_, _, _, tyX4, rfl, iw_4, by decide, List.mem_filter.mpr ⟨(lw_m1 (List.mem_of_getElem? (i := 53) (by decide +kernel))), rfl⟩, tyX4_ok, nmX4, rfl, fun _ => rfl, by decide +kernel⟩
theorem lkX4_7 : ev_lg RX4 7 4 2 := ⟨_, _, _, rfl, iw_4, by decide, List.mem_filter.mpr ⟨(lw_m1 (List.mem_of_getElem? (i := 53) (by decide +kernel))), rfl⟩⟩
theorem lkX1_11' : ev_lk RX1 11 1 0 (.array .char) true := ⟨_, _, _, tyX1, rfl, iw_1, by decide, List.mem_filter.mpr ⟨(lw_m1 (List.mem_of_getElem? (i := 68) (by decide +kernel))), rfl⟩, tyX1_ok, nmX1, rfl, fun _ => rfl, by decide +kernel⟩
theorem lkX1_11 : ev_lg RX1 11 1 0 := ⟨_, _, _, rfl, iw_1, by decide, List.mem_filter.mpr ⟨(lw_m1 (List.mem_of_getElem? (i := 68) (by decide +kernel))), rfl⟩⟩
theorem lkX1_15' : ev_lk RX1 15 1 1 (.int) false := ⟨_, _, _, tyX1, rfl, iw_1, by decide, List.mem_filter.mpr ⟨(lw_m1 (List.mem_of_getElem? (i := 69) (by decide +kernel))), rfl⟩, tyX1_ok, nmX1, rfl, fun _ => rfl, by decide +kernel⟩
theorem lkX1_15 : ev_lg RX1 15 1 1 := ⟨_, _, _, rfl, iw_1, by decide, List.mem_filter.mpr ⟨(lw_m1 (List.mem_of_getElem? (i := 69) (by decide +kernel))), rfl⟩⟩
theorem lkX10_143' : ev_lk RX10 143 1 1 (.int) false := ⟨_, _, _, tyX1, rfl, iw_1, by decide, List.mem_filter.mpr ⟨(lw_m1 (List.mem_of_getElem? (i := 70) (by decide +kernel))), rfl⟩, tyX1_ok, nmX1, rfl, fun h => absurd h (by decide), by decide +kernel⟩
theorem lkX10_143 : ev_lg RX10 143 1 1 := ⟨_, _, _, rfl, iw_1, by decide, List.mem_filter.mpr ⟨(lw_m1 (List.mem_of_getElem? (i := 70) (by decide +kernel))), rfl⟩⟩
theorem lkX1_19' : ev_lk RX1 19 1 2 (.int) false := ⟨_, _, _, tyX1, rfl, iw_1, by decide, List.mem_filter.mpr ⟨(lw_m1 (List.mem_of_getElem? (i := 71) (by decide +kernel))), rfl⟩, tyX1_ok, nmX1, rfl, fun _ => rfl, by decide +kernel⟩
theorem lkX1_19 : ev_lg RX1 19 1 2 := ⟨_, _, _, rfl, iw_1, by decide, List.mem_filter.mpr ⟨(lw_m1 (List.mem_of_getElem? (i := 71) (by decide +kernel))), rfl⟩⟩
theorem lkX10_151' : ev_lk RX10 151 1 2 (.int) false := ⟨_, _, _, tyX1, rfl, iw_1, by decide, List.mem_filter.mpr ⟨(lw_m1 (List.mem_of_getElem? (i := 72) (by decide +kernel))), rfl⟩, tyX1_ok, nmX1, rfl, fun h => absurd h (by decide), by decide +kernel⟩
theorem lkX10_151 : ev_lg RX10 151 1 2 := ⟨_, _, _, rfl, iw_1, by decide, List.mem_filter.mpr ⟨(lw_m1 (List.mem_of_getElem? (i := 72) (by decide +kernel))), rfl⟩⟩
theorem lkX1_22' : ev_lk RX1 22 1 3 (.int) false := ⟨_, _, _, tyX1, rfl, iw_1, by decide, List.mem_filter.mpr ⟨(lw_m1 (List.mem_of_getElem? (i := 73) (by decide +kernel))), rfl⟩, tyX1_ok, nmX1, rfl, fun _ => rfl, by decide +kernel⟩
theorem lkX1_22 : ev_lg RX1 22 1 3 := ⟨_, _, _, rfl, iw_1, by decide, List.mem_filter.mpr ⟨(lw_m1 (List.mem_of_getElem? (i := 73) (by decide +kernel))), rfl⟩⟩
theorem lkX10_148' : ev_lk RX10 148 1 3 (.int) false := ⟨_, _, _, tyX1, rfl, iw_1, by decide, List.mem_filter.mpr ⟨(lw_m1 (List.mem_of_getElem? (i := 74) (by decide +kernel))), rfl⟩, tyX1_ok, nmX1, rfl, fun h => absurd h (by decide), by decide +kernel⟩
theorem lkX10_148 : ev_lg RX10 148 1 3 := ⟨_, _, _, rfl, iw_1, by decide, List.mem_filter.mpr ⟨(lw_m1 (List.mem_of_getElem? (i := 74) (by decide +kernel))), rfl⟩⟩
theorem lkX7_15' : ev_lk RX7 15 7 0 (.array .int) true := ⟨_, _, _, tyX7, rfl, iw_7, by decide, List.mem_filter.mpr ⟨(lw_m1 (List.mem_of_getElem? (i := 98) (by decide +kernel))), rfl⟩, tyX7_ok, nmX7, rfl, fun _ => rfl, by decide +kernel⟩
theorem lkX7_15 : ev_lg RX7 15 7 0 := ⟨_, _, _, rfl, iw_7, by decide, List.mem_filter.mpr ⟨(lw_m1 (List.mem_of_getElem? (i := 98) (by decide +kernel))), rfl⟩⟩
theorem lkX10_311 : ev_lg RX10 311 7 0 := ⟨_, _, _, rfl, iw_7, by decide, List.mem_filter.mpr ⟨(lw_m1 (List.mem_of_getElem? (i := 99) (by decide +kernel))), rfl⟩⟩
theorem lkX7_19' : ev_lk RX7 19 7 1 (.int) false := ⟨_, _, _, tyX7, rfl, iw_7, by decide, List.mem_filter.mpr ⟨(lw_m1 (List.mem_of_getElem? (i := 100) (by decide +kernel))), rfl⟩, tyX7_ok, nmX7, rfl, fun _ => rfl, by decide +kernel⟩
theorem lkX7_19 : ev_lg RX7 19 7 1 := ⟨_, _, _, rfl, iw_7, by decide, List.mem_filter.mpr ⟨(lw_m1 (List.mem_of_getElem? (i := 100) (by decide +kernel))), rfl⟩⟩
theorem lkX0_67' : ev_lk RX0 67 7 1 (.int) false := ⟨_, _, _, tyX7, rfl, iw_7, by decide, List.mem_filter.mpr ⟨(lw_m1 (List.mem_of_getElem? (i := 101) (by decide +kernel))), rfl⟩, tyX7_ok, nmX7, rfl, fun h => absurd h (by decide), by decide +kernel⟩
theorem lkX0_67 : ev_lg RX0 67 7 1 := ⟨_, _, _, rfl, iw_7, by decide, List.mem_filter.mpr ⟨(lw_m1 (List.mem_of_getElem? (i := 101) (by decide +kernel))), rfl⟩⟩
theorem lkX10_289' : ev_lk RX10 289 7 1 (.int) false := ⟨_, _, _, tyX7, rfl, iw_7, by decide, List.mem_filter.mpr ⟨(lw_m1 (List.mem_of_getElem? (i := 102) (by decide +kernel))), rfl⟩, tyX7_ok, nmX7, rfl, fun h => absurd h (by decide), by decide +kernel⟩
theorem lkX10_289 : ev_lg RX10 289 7 1 := ⟨_, _, _, rfl, iw_7, by decide, List.mem_filter.mpr ⟨(lw_m1 (List.mem_of_getElem? (i := 102) (by decide +kernel))), rfl⟩⟩
theorem lkX7_9' : ev_lk RX7 9 7 2 (.object "RepairGroups$Numbers") true := ⟨_, _, _, tyX7, rfl, iw_7, by decide, List.mem_filter.mpr ⟨(lw_m1 (List.mem_of_getElem? (i := 103) (by decide +kernel))), rfl⟩, tyX7_ok, nmX7, rfl, fun _ => rfl, by decide +kernel⟩
theorem lkX7_9 : ev_lg RX7 9 7 2 := ⟨_, _, _, rfl, iw_7, by decide, List.mem_filter.mpr ⟨(lw_m1 (List.mem_of_getElem? (i := 103) (by decide +kernel))), rfl⟩⟩
theorem lkX6_9' : ev_lk RX6 9 6 0 (.array .int) true := ⟨_, _, _, tyX6, rfl, iw_6, by decide, List.mem_filter.mpr ⟨(lw_m1 (List.mem_of_getElem? (i := 111) (by decide +kernel))), rfl⟩, tyX6_ok, nmX6, rfl, fun _ => rfl, by decide +kernel⟩
theorem lkX6_9 : ev_lg RX6 9 6 0 := ⟨_, _, _, rfl, iw_6, by decide, List.mem_filter.mpr ⟨(lw_m1 (List.mem_of_getElem? (i := 111) (by decide +kernel))), rfl⟩⟩
theorem lkX6_17' : ev_lk RX6 17 6 1 (.array (.object "RepairGroups$Span")) true := ⟨_, _, _, tyX6, rfl, iw_6, by decide, List.mem_filter.mpr ⟨(lw_m1 (List.mem_of_getElem? (i := 112) (by decide +kernel))), rfl⟩, tyX6_ok, nmX6, rfl, fun _ => rfl, by decide +kernel⟩
theorem lkX6_17 : ev_lg RX6 17 6 1 := ⟨_, _, _, rfl, iw_6, by decide, List.mem_filter.mpr ⟨(lw_m1 (List.mem_of_getElem? (i := 112) (by decide +kernel))), rfl⟩⟩
theorem lkX2_9' : ev_lk RX2 9 2 0 (.object "RepairGroups$Ranks") true := ⟨_, _, _, tyX2, rfl, iw_2, by decide, List.mem_filter.mpr ⟨(lw_m1 (List.mem_of_getElem? (i := 124) (by decide +kernel))), rfl⟩, tyX2_ok, nmX2, rfl, fun _ => rfl, by decide +kernel⟩
theorem lkX2_9 : ev_lg RX2 9 2 0 := ⟨_, _, _, rfl, iw_2, by decide, List.mem_filter.mpr ⟨(lw_m1 (List.mem_of_getElem? (i := 124) (by decide +kernel))), rfl⟩⟩
theorem lkX2_15' : ev_lk RX2 15 2 1 (.array .int) true := ⟨_, _, _, tyX2, rfl, iw_2, by decide, List.mem_filter.mpr ⟨(lw_m1 (List.mem_of_getElem? (i := 125) (by decide +kernel))), rfl⟩, tyX2_ok, nmX2, rfl, fun _ => rfl, by decide +kernel⟩
theorem lkX2_15 : ev_lg RX2 15 2 1 := ⟨_, _, _, rfl, iw_2, by decide, List.mem_filter.mpr ⟨(lw_m1 (List.mem_of_getElem? (i := 125) (by decide +kernel))), rfl⟩⟩
theorem lkX3_9' : ev_lk RX3 9 3 0 (.int) false := ⟨_, _, _, tyX3, rfl, iw_3, by decide, List.mem_filter.mpr ⟨(lw_m1 (List.mem_of_getElem? (i := 145) (by decide +kernel))), rfl⟩, tyX3_ok, nmX3, rfl, fun _ => rfl, by decide +kernel⟩
theorem lkX3_9 : ev_lg RX3 9 3 0 := ⟨_, _, _, rfl, iw_3, by decide, List.mem_filter.mpr ⟨(lw_m1 (List.mem_of_getElem? (i := 145) (by decide +kernel))), rfl⟩⟩
theorem lkX10_92' : ev_lk RX10 92 3 0 (.int) false := ⟨_, _, _, tyX3, rfl, iw_3, by decide, List.mem_filter.mpr ⟨(lw_m1 (List.mem_of_getElem? (i := 146) (by decide +kernel))), rfl⟩, tyX3_ok, nmX3, rfl, fun h => absurd h (by decide), by decide +kernel⟩
theorem lkX10_92 : ev_lg RX10 92 3 0 := ⟨_, _, _, rfl, iw_3, by decide, List.mem_filter.mpr ⟨(lw_m1 (List.mem_of_getElem? (i := 146) (by decide +kernel))), rfl⟩⟩
theorem lkX2_35' : ev_lk RX2 35 3 0 (.int) false := ⟨_, _, _, tyX3, rfl, iw_3, by decide, List.mem_filter.mpr ⟨(lw_m1 (List.mem_of_getElem? (i := 147) (by decide +kernel))), rfl⟩, tyX3_ok, nmX3, rfl, fun h => absurd h (by decide), by decide +kernel⟩
theorem lkX2_35 : ev_lg RX2 35 3 0 := ⟨_, _, _, rfl, iw_3, by decide, List.mem_filter.mpr ⟨(lw_m1 (List.mem_of_getElem? (i := 147) (by decide +kernel))), rfl⟩⟩
theorem lkX7_52' : ev_lk RX7 52 3 0 (.int) false := ⟨_, _, _, tyX3, rfl, iw_3, by decide, List.mem_filter.mpr ⟨(lw_m1 (List.mem_of_getElem? (i := 148) (by decide +kernel))), rfl⟩, tyX3_ok, nmX3, rfl, fun h => absurd h (by decide), by decide +kernel⟩
theorem lkX7_52 : ev_lg RX7 52 3 0 := ⟨_, _, _, rfl, iw_3, by decide, List.mem_filter.mpr ⟨(lw_m1 (List.mem_of_getElem? (i := 148) (by decide +kernel))), rfl⟩⟩
theorem lkX3_15' : ev_lk RX3 15 3 1 (.int) false := ⟨_, _, _, tyX3, rfl, iw_3, by decide, List.mem_filter.mpr ⟨(lw_m1 (List.mem_of_getElem? (i := 149) (by decide +kernel))), rfl⟩, tyX3_ok, nmX3, rfl, fun _ => rfl, by decide +kernel⟩
theorem lkX3_15 : ev_lg RX3 15 3 1 := ⟨_, _, _, rfl, iw_3, by decide, List.mem_filter.mpr ⟨(lw_m1 (List.mem_of_getElem? (i := 149) (by decide +kernel))), rfl⟩⟩
theorem lkX10_130' : ev_lk RX10 130 3 1 (.int) false := ⟨_, _, _, tyX3, rfl, iw_3, by decide, List.mem_filter.mpr ⟨(lw_m1 (List.mem_of_getElem? (i := 150) (by decide +kernel))), rfl⟩, tyX3_ok, nmX3, rfl, fun h => absurd h (by decide), by decide +kernel⟩
theorem lkX10_130 : ev_lg RX10 130 3 1 := ⟨_, _, _, rfl, iw_3, by decide, List.mem_filter.mpr ⟨(lw_m1 (List.mem_of_getElem? (i := 150) (by decide +kernel))), rfl⟩⟩
theorem lkX3_18' : ev_lk RX3 18 3 2 (.int) false := ⟨_, _, _, tyX3, rfl, iw_3, by decide, List.mem_filter.mpr ⟨(lw_m1 (List.mem_of_getElem? (i := 151) (by decide +kernel))), rfl⟩, tyX3_ok, nmX3, rfl, fun _ => rfl, by decide +kernel⟩
theorem lkX3_18 : ev_lg RX3 18 3 2 := ⟨_, _, _, rfl, iw_3, by decide, List.mem_filter.mpr ⟨(lw_m1 (List.mem_of_getElem? (i := 151) (by decide +kernel))), rfl⟩⟩
theorem lkX0_56' : ev_lk RX0 56 3 2 (.int) false := ⟨_, _, _, tyX3, rfl, iw_3, by decide, List.mem_filter.mpr ⟨(lw_m1 (List.mem_of_getElem? (i := 152) (by decide +kernel))), rfl⟩, tyX3_ok, nmX3, rfl, fun h => absurd h (by decide), by decide +kernel⟩
theorem lkX0_56 : ev_lg RX0 56 3 2 := ⟨_, _, _, rfl, iw_3, by decide, List.mem_filter.mpr ⟨(lw_m1 (List.mem_of_getElem? (i := 152) (by decide +kernel))), rfl⟩⟩
theorem lkX10_253' : ev_lk RX10 253 3 2 (.int) false := ⟨_, _, _, tyX3, rfl, iw_3, by decide, List.mem_filter.mpr ⟨(lw_m1 (List.mem_of_getElem? (i := 153) (by decide +kernel))), rfl⟩, tyX3_ok, nmX3, rfl, fun h => absurd h (by decide), by decide +kernel⟩
theorem lkX10_253 : ev_lg RX10 253 3 2 := ⟨_, _, _, rfl, iw_3, by decide, List.mem_filter.mpr ⟨(lw_m1 (List.mem_of_getElem? (i := 153) (by decide +kernel))), rfl⟩⟩
theorem lkX3_21' : ev_lk RX3 21 3 3 (.int) false := ⟨_, _, _, tyX3, rfl, iw_3, by decide, List.mem_filter.mpr ⟨(lw_m1 (List.mem_of_getElem? (i := 154) (by decide +kernel))), rfl⟩, tyX3_ok, nmX3, rfl, fun _ => rfl, by decide +kernel⟩
theorem lkX3_21 : ev_lg RX3 21 3 3 := ⟨_, _, _, rfl, iw_3, by decide, List.mem_filter.mpr ⟨(lw_m1 (List.mem_of_getElem? (i := 154) (by decide +kernel))), rfl⟩⟩
theorem lkX2_54' : ev_lk RX2 54 3 3 (.int) false := ⟨_, _, _, tyX3, rfl, iw_3, by decide, List.mem_filter.mpr ⟨(lw_m1 (List.mem_of_getElem? (i := 155) (by decide +kernel))), rfl⟩, tyX3_ok, nmX3, rfl, fun h => absurd h (by decide), by decide +kernel⟩
theorem lkX2_54 : ev_lg RX2 54 3 3 := ⟨_, _, _, rfl, iw_3, by decide, List.mem_filter.mpr ⟨(lw_m1 (List.mem_of_getElem? (i := 155) (by decide +kernel))), rfl⟩⟩
theorem lkX10_229' : ev_lk RX10 229 3 3 (.int) false := ⟨_, _, _, tyX3, rfl, iw_3, by decide, List.mem_filter.mpr ⟨(lw_m1 (List.mem_of_getElem? (i := 156) (by decide +kernel))), rfl⟩, tyX3_ok, nmX3, rfl, fun h => absurd h (by decide), by decide +kernel⟩
theorem lkX10_229 : ev_lg RX10 229 3 3 := ⟨_, _, _, rfl, iw_3, by decide, List.mem_filter.mpr ⟨(lw_m1 (List.mem_of_getElem? (i := 156) (by decide +kernel))), rfl⟩⟩
theorem lkX3_24' : ev_lk RX3 24 3 4 (.array .int) true := ⟨_, _, _, tyX3, rfl, iw_3, by decide, List.mem_filter.mpr ⟨(lw_m1 (List.mem_of_getElem? (i := 157) (by decide +kernel))), rfl⟩, tyX3_ok, nmX3, rfl, fun _ => rfl, by decide +kernel⟩
theorem lkX3_24 : ev_lg RX3 24 3 4 := ⟨_, _, _, rfl, iw_3, by decide, List.mem_filter.mpr ⟨(lw_m1 (List.mem_of_getElem? (i := 157) (by decide +kernel))), rfl⟩⟩
theorem lkX10_168 : ev_lg RX10 168 3 4 := ⟨_, _, _, rfl, iw_3, by decide, List.mem_filter.mpr ⟨(lw_m1 (List.mem_of_getElem? (i := 158) (by decide +kernel))), rfl⟩⟩
theorem lkX3_28' : ev_lk RX3 28 3 5 (.array .int) true := ⟨_, _, _, tyX3, rfl, iw_3, by decide, List.mem_filter.mpr ⟨(lw_m1 (List.mem_of_getElem? (i := 159) (by decide +kernel))), rfl⟩, tyX3_ok, nmX3, rfl, fun _ => rfl, by decide +kernel⟩
theorem lkX3_28 : ev_lg RX3 28 3 5 := ⟨_, _, _, rfl, iw_3, by decide, List.mem_filter.mpr ⟨(lw_m1 (List.mem_of_getElem? (i := 159) (by decide +kernel))), rfl⟩⟩
theorem lkX10_175 : ev_lg RX10 175 3 5 := ⟨_, _, _, rfl, iw_3, by decide, List.mem_filter.mpr ⟨(lw_m1 (List.mem_of_getElem? (i := 160) (by decide +kernel))), rfl⟩⟩
theorem lkX3_31' : ev_lk RX3 31 3 6 (.array .int) true := ⟨_, _, _, tyX3, rfl, iw_3, by decide, List.mem_filter.mpr ⟨(lw_m1 (List.mem_of_getElem? (i := 161) (by decide +kernel))), rfl⟩, tyX3_ok, nmX3, rfl, fun _ => rfl, by decide +kernel⟩
theorem lkX3_31 : ev_lg RX3 31 3 6 := ⟨_, _, _, rfl, iw_3, by decide, List.mem_filter.mpr ⟨(lw_m1 (List.mem_of_getElem? (i := 161) (by decide +kernel))), rfl⟩⟩
theorem lkX10_178 : ev_lg RX10 178 3 6 := ⟨_, _, _, rfl, iw_3, by decide, List.mem_filter.mpr ⟨(lw_m1 (List.mem_of_getElem? (i := 162) (by decide +kernel))), rfl⟩⟩
theorem lkX3_34' : ev_lk RX3 34 3 7 (.array .int) true := ⟨_, _, _, tyX3, rfl, iw_3, by decide, List.mem_filter.mpr ⟨(lw_m1 (List.mem_of_getElem? (i := 163) (by decide +kernel))), rfl⟩, tyX3_ok, nmX3, rfl, fun _ => rfl, by decide +kernel⟩
theorem lkX3_34 : ev_lg RX3 34 3 7 := ⟨_, _, _, rfl, iw_3, by decide, List.mem_filter.mpr ⟨(lw_m1 (List.mem_of_getElem? (i := 163) (by decide +kernel))), rfl⟩⟩
theorem lkX0_64 : ev_lg RX0 64 3 7 := ⟨_, _, _, rfl, iw_3, by decide, List.mem_filter.mpr ⟨(lw_m1 (List.mem_of_getElem? (i := 164) (by decide +kernel))), rfl⟩⟩
theorem lkX6_41 : ev_lg RX6 41 3 7 := ⟨_, _, _, rfl, iw_3, by decide, List.mem_filter.mpr ⟨(lw_m1 (List.mem_of_getElem? (i := 165) (by decide +kernel))), rfl⟩⟩
theorem lkX7_55 : ev_lg RX7 55 3 7 := ⟨_, _, _, rfl, iw_3, by decide, List.mem_filter.mpr ⟨(lw_m1 (List.mem_of_getElem? (i := 166) (by decide +kernel))), rfl⟩⟩
theorem lkX10_204 : ev_lg RX10 204 3 7 := ⟨_, _, _, rfl, iw_3, by decide, List.mem_filter.mpr ⟨(lw_m1 (List.mem_of_getElem? (i := 167) (by decide +kernel))), rfl⟩⟩
theorem lkX3_37' : ev_lk RX3 37 3 8 (.array .int) true := ⟨_, _, _, tyX3, rfl, iw_3, by decide, List.mem_filter.mpr ⟨(lw_m1 (List.mem_of_getElem? (i := 168) (by decide +kernel))), rfl⟩, tyX3_ok, nmX3, rfl, fun _ => rfl, by decide +kernel⟩
theorem lkX3_37 : ev_lg RX3 37 3 8 := ⟨_, _, _, rfl, iw_3, by decide, List.mem_filter.mpr ⟨(lw_m1 (List.mem_of_getElem? (i := 168) (by decide +kernel))), rfl⟩⟩
theorem lkX10_181 : ev_lg RX10 181 3 8 := ⟨_, _, _, rfl, iw_3, by decide, List.mem_filter.mpr ⟨(lw_m1 (List.mem_of_getElem? (i := 169) (by decide +kernel))), rfl⟩⟩
theorem lkX3_42' : ev_lk RX3 42 3 9 (.array (.array .int)) true := ⟨_, _, _, tyX3, rfl, iw_3, by decide, List.mem_filter.mpr ⟨(lw_m1 (List.mem_of_getElem? (i := 170) (by decide +kernel))), rfl⟩, tyX3_ok, nmX3, rfl, fun _ => rfl, by decide +kernel⟩
theorem lkX3_42 : ev_lg RX3 42 3 9 := ⟨_, _, _, rfl, iw_3, by decide, List.mem_filter.mpr ⟨(lw_m1 (List.mem_of_getElem? (i := 170) (by decide +kernel))), rfl⟩⟩
theorem lkX10_171 : ev_lg RX10 171 3 9 := ⟨_, _, _, rfl, iw_3, by decide, List.mem_filter.mpr ⟨(lw_m1 (List.mem_of_getElem? (i := 171) (by decide +kernel))), rfl⟩⟩
theorem lkX3_45' : ev_lk RX3 45 3 10 (.array .int) true := ⟨_, _, _, tyX3, rfl, iw_3, by decide, List.mem_filter.mpr ⟨(lw_m1 (List.mem_of_getElem? (i := 172) (by decide +kernel))), rfl⟩, tyX3_ok, nmX3, rfl, fun _ => rfl, by decide +kernel⟩
theorem lkX3_45 : ev_lg RX3 45 3 10 := ⟨_, _, _, rfl, iw_3, by decide, List.mem_filter.mpr ⟨(lw_m1 (List.mem_of_getElem? (i := 172) (by decide +kernel))), rfl⟩⟩
theorem lkX3_48' : ev_lk RX3 48 3 11 (.array .int) true := ⟨_, _, _, tyX3, rfl, iw_3, by decide, List.mem_filter.mpr ⟨(lw_m1 (List.mem_of_getElem? (i := 173) (by decide +kernel))), rfl⟩, tyX3_ok, nmX3, rfl, fun _ => rfl, by decide +kernel⟩
theorem lkX3_48 : ev_lg RX3 48 3 11 := ⟨_, _, _, rfl, iw_3, by decide, List.mem_filter.mpr ⟨(lw_m1 (List.mem_of_getElem? (i := 173) (by decide +kernel))), rfl⟩⟩
theorem lkX10_226 : ev_lg RX10 226 3 11 := ⟨_, _, _, rfl, iw_3, by decide, List.mem_filter.mpr ⟨(lw_m1 (List.mem_of_getElem? (i := 174) (by decide +kernel))), rfl⟩⟩
theorem lkX5_13' : ev_lk RX5 13 5 0 (.array .int) true := ⟨_, _, _, tyX5, rfl, iw_5, by decide, List.mem_filter.mpr ⟨(lw_m1 (List.mem_of_getElem? (i := 209) (by decide +kernel))), rfl⟩, tyX5_ok, nmX5, rfl, fun _ => rfl, by decide +kernel⟩
theorem lkX5_13 : ev_lg RX5 13 5 0 := ⟨_, _, _, rfl, iw_5, by decide, List.mem_filter.mpr ⟨(lw_m1 (List.mem_of_getElem? (i := 209) (by decide +kernel))), rfl⟩⟩
theorem lkX10_299 : ev_lg RX10 299 5 0 := ⟨_, _, _, rfl, iw_5, by decide, List.mem_filter.mpr ⟨(lw_m1 (List.mem_of_getElem? (i := 210) (by decide +kernel))), rfl⟩⟩
theorem lkX5_19' : ev_lk RX5 19 5 1 (.array .int) true := ⟨_, _, _, tyX5, rfl, iw_5, by decide, List.mem_filter.mpr ⟨(lw_m1 (List.mem_of_getElem? (i := 211) (by decide +kernel))), rfl⟩, tyX5_ok, nmX5, rfl, fun _ => rfl, by decide +kernel⟩
theorem lkX5_19 : ev_lg RX5 19 5 1 := ⟨_, _, _, rfl, iw_5, by decide, List.mem_filter.mpr ⟨(lw_m1 (List.mem_of_getElem? (i := 211) (by decide +kernel))), rfl⟩⟩
theorem lkX10_305 : ev_lg RX10 305 5 1 := ⟨_, _, _, rfl, iw_5, by decide, List.mem_filter.mpr ⟨(lw_m1 (List.mem_of_getElem? (i := 212) (by decide +kernel))), rfl⟩⟩
theorem lkX5_22' : ev_lk RX5 22 5 2 (.int) false := ⟨_, _, _, tyX5, rfl, iw_5, by decide, List.mem_filter.mpr ⟨(lw_m1 (List.mem_of_getElem? (i := 213) (by decide +kernel))), rfl⟩, tyX5_ok, nmX5, rfl, fun _ => rfl, by decide +kernel⟩
theorem lkX5_22 : ev_lg RX5 22 5 2 := ⟨_, _, _, rfl, iw_5, by decide, List.mem_filter.mpr ⟨(lw_m1 (List.mem_of_getElem? (i := 213) (by decide +kernel))), rfl⟩⟩
theorem lkX10_280' : ev_lk RX10 280 5 2 (.int) false := ⟨_, _, _, tyX5, rfl, iw_5, by decide, List.mem_filter.mpr ⟨(lw_m1 (List.mem_of_getElem? (i := 214) (by decide +kernel))), rfl⟩, tyX5_ok, nmX5, rfl, fun h => absurd h (by decide), by decide +kernel⟩
theorem lkX10_280 : ev_lg RX10 280 5 2 := ⟨_, _, _, rfl, iw_5, by decide, List.mem_filter.mpr ⟨(lw_m1 (List.mem_of_getElem? (i := 214) (by decide +kernel))), rfl⟩⟩
theorem lkX8_12' : ev_lk RX8 12 8 0 (.object "RepairGroups$Nodes") true := ⟨_, _, _, tyX8, rfl, iw_8, by decide, List.mem_filter.mpr ⟨(lw_m1 (List.mem_of_getElem? (i := 222) (by decide +kernel))), rfl⟩, tyX8_ok, nmX8, rfl, fun _ => rfl, by decide +kernel⟩
theorem lkX8_12 : ev_lg RX8 12 8 0 := ⟨_, _, _, rfl, iw_8, by decide, List.mem_filter.mpr ⟨(lw_m1 (List.mem_of_getElem? (i := 222) (by decide +kernel))), rfl⟩⟩
theorem lkX10_89 : ev_lg RX10 89 8 0 := ⟨_, _, _, rfl, iw_8, by decide, List.mem_filter.mpr ⟨(lw_m1 (List.mem_of_getElem? (i := 223) (by decide +kernel))), rfl⟩⟩
theorem lkX8_23' : ev_lk RX8 23 8 1 (.object "RepairGroups$Pairs") true := ⟨_, _, _, tyX8, rfl, iw_8, by decide, List.mem_filter.mpr ⟨(lw_m1 (List.mem_of_getElem? (i := 224) (by decide +kernel))), rfl⟩, tyX8_ok, nmX8, rfl, fun _ => rfl, by decide +kernel⟩
theorem lkX8_23 : ev_lg RX8 23 8 1 := ⟨_, _, _, rfl, iw_8, by decide, List.mem_filter.mpr ⟨(lw_m1 (List.mem_of_getElem? (i := 224) (by decide +kernel))), rfl⟩⟩
theorem lkX10_272 : ev_lg RX10 272 8 1 := ⟨_, _, _, rfl, iw_8, by decide, List.mem_filter.mpr ⟨(lw_m1 (List.mem_of_getElem? (i := 225) (by decide +kernel))), rfl⟩⟩
theorem lkX8_27' : ev_lk RX8 27 8 2 (.object "RepairGroups$Pairs") true := ⟨_, _, _, tyX8, rfl, iw_8, by decide, List.mem_filter.mpr ⟨(lw_m1 (List.mem_of_getElem? (i := 226) (by decide +kernel))), rfl⟩, tyX8_ok, nmX8, rfl, fun _ => rfl, by decide +kernel⟩
theorem lkX8_27 : ev_lg RX8 27 8 2 := ⟨_, _, _, rfl, iw_8, by decide, List.mem_filter.mpr ⟨(lw_m1 (List.mem_of_getElem? (i := 226) (by decide +kernel))), rfl⟩⟩
theorem lkX10_329 : ev_lg RX10 329 8 2 := ⟨_, _, _, rfl, iw_8, by decide, List.mem_filter.mpr ⟨(lw_m1 (List.mem_of_getElem? (i := 227) (by decide +kernel))), rfl⟩⟩
theorem lkX8_30' : ev_lk RX8 30 8 3 (.object "RepairGroups$Pairs") true := ⟨_, _, _, tyX8, rfl, iw_8, by decide, List.mem_filter.mpr ⟨(lw_m1 (List.mem_of_getElem? (i := 228) (by decide +kernel))), rfl⟩, tyX8_ok, nmX8, rfl, fun _ => rfl, by decide +kernel⟩
theorem lkX8_30 : ev_lg RX8 30 8 3 := ⟨_, _, _, rfl, iw_8, by decide, List.mem_filter.mpr ⟨(lw_m1 (List.mem_of_getElem? (i := 228) (by decide +kernel))), rfl⟩⟩
theorem lkX10_344 : ev_lg RX10 344 8 3 := ⟨_, _, _, rfl, iw_8, by decide, List.mem_filter.mpr ⟨(lw_m1 (List.mem_of_getElem? (i := 229) (by decide +kernel))), rfl⟩⟩
theorem lkX0_7' : ev_lk RX0 7 0 0 (.object "RepairGroups$Numbers") true := ⟨_, _, _, tyX0, rfl, iw_0, by decide, List.mem_filter.mpr ⟨(lw_m2 (List.mem_of_getElem? (i := 11) (by decide +kernel))), rfl⟩, tyX0_ok, nmX0, rfl, fun _ => rfl, by decide +kernel⟩
theorem lkX0_7 : ev_lg RX0 7 0 0 := ⟨_, _, _, rfl, iw_0, by decide, List.mem_filter.mpr ⟨(lw_m2 (List.mem_of_getElem? (i := 11) (by decide +kernel))), rfl⟩⟩
theorem lkX0_18' : ev_lk RX0 18 0 1 (.object "RepairGroups$Span") true := ⟨_, _, _, tyX0, rfl, iw_0, by decide, List.mem_filter.mpr ⟨(lw_m2 (List.mem_of_getElem? (i := 12) (by decide +kernel))), rfl⟩, tyX0_ok, nmX0, rfl, fun _ => rfl, by decide +kernel⟩
theorem lkX0_18 : ev_lg RX0 18 0 1 := ⟨_, _, _, rfl, iw_0, by decide, List.mem_filter.mpr ⟨(lw_m2 (List.mem_of_getElem? (i := 12) (by decide +kernel))), rfl⟩⟩
theorem lkX0_22' : ev_lk RX0 22 0 2 (.object "RepairGroups$Span") true := ⟨_, _, _, tyX0, rfl, iw_0, by decide, List.mem_filter.mpr ⟨(lw_m2 (List.mem_of_getElem? (i := 13) (by decide +kernel))), rfl⟩, tyX0_ok, nmX0, rfl, fun _ => rfl, by decide +kernel⟩
theorem lkX0_22 : ev_lg RX0 22 0 2 := ⟨_, _, _, rfl, iw_0, by decide, List.mem_filter.mpr ⟨(lw_m2 (List.mem_of_getElem? (i := 13) (by decide +kernel))), rfl⟩⟩
theorem lkX0_25' : ev_lk RX0 25 0 3 (.array .int) true := ⟨_, _, _, tyX0, rfl, iw_0, by decide, List.mem_filter.mpr ⟨(lw_m2 (List.mem_of_getElem? (i := 14) (by decide +kernel))), rfl⟩, tyX0_ok, nmX0, rfl, fun _ => rfl, by decide +kernel⟩
theorem lkX0_25 : ev_lg RX0 25 0 3 := ⟨_, _, _, rfl, iw_0, by decide, List.mem_filter.mpr ⟨(lw_m2 (List.mem_of_getElem? (i := 14) (by decide +kernel))), rfl⟩⟩
theorem lkX9_9' : ev_lk RX9 9 9 0 (.array .int) true := ⟨_, _, _, tyX9, rfl, iw_9, by decide, List.mem_filter.mpr ⟨(lw_m2 (List.mem_of_getElem? (i := 32) (by decide +kernel))), rfl⟩, tyX9_ok, nmX9, rfl, fun _ => rfl, by decide +kernel⟩
theorem lkX9_9 : ev_lg RX9 9 9 0 := ⟨_, _, _, rfl, iw_9, by decide, List.mem_filter.mpr ⟨(lw_m2 (List.mem_of_getElem? (i := 32) (by decide +kernel))), rfl⟩⟩
theorem lkX10_351 : ev_lg RX10 351 9 0 := ⟨_, _, _, rfl, iw_9, by decide, List.mem_filter.mpr ⟨(lw_m2 (List.mem_of_getElem? (i := 33) (by decide +kernel))), rfl⟩⟩
theorem lkX9_13' : ev_lk RX9 13 9 1 (.array .int) true := ⟨_, _, _, tyX9, rfl, iw_9, by decide, List.mem_filter.mpr ⟨(lw_m2 (List.mem_of_getElem? (i := 34) (by decide +kernel))), rfl⟩, tyX9_ok, nmX9, rfl, fun _ => rfl, by decide +kernel⟩
theorem lkX9_13 : ev_lg RX9 13 9 1 := ⟨_, _, _, rfl, iw_9, by decide, List.mem_filter.mpr ⟨(lw_m2 (List.mem_of_getElem? (i := 34) (by decide +kernel))), rfl⟩⟩
theorem lkX10_354 : ev_lg RX10 354 9 1 := ⟨_, _, _, rfl, iw_9, by decide, List.mem_filter.mpr ⟨(lw_m2 (List.mem_of_getElem? (i := 35) (by decide +kernel))), rfl⟩⟩
theorem lkX9_18' : ev_lk RX9 18 9 2 (.array (.array .long)) true := ⟨_, _, _, tyX9, rfl, iw_9, by decide, List.mem_filter.mpr ⟨(lw_m2 (List.mem_of_getElem? (i := 36) (by decide +kernel))), rfl⟩, tyX9_ok, nmX9, rfl, fun _ => rfl, by decide +kernel⟩
theorem lkX9_18 : ev_lg RX9 18 9 2 := ⟨_, _, _, rfl, iw_9, by decide, List.mem_filter.mpr ⟨(lw_m2 (List.mem_of_getElem? (i := 36) (by decide +kernel))), rfl⟩⟩
theorem lkX10_357 : ev_lg RX10 357 9 2 := ⟨_, _, _, rfl, iw_9, by decide, List.mem_filter.mpr ⟨(lw_m2 (List.mem_of_getElem? (i := 37) (by decide +kernel))), rfl⟩⟩
theorem lkX10_12' : ev_lk RX10 12 10 0 (.object "RepairGroups$Numbers") true := ⟨_, _, _, tyX10, rfl, iw_10, by decide, List.mem_filter.mpr ⟨(lw_m2 (List.mem_of_getElem? (i := 46) (by decide +kernel))), rfl⟩, tyX10_ok, nmX10, rfl, fun _ => rfl, by decide +kernel⟩
theorem lkX10_12 : ev_lg RX10 12 10 0 := ⟨_, _, _, rfl, iw_10, by decide, List.mem_filter.mpr ⟨(lw_m2 (List.mem_of_getElem? (i := 46) (by decide +kernel))), rfl⟩⟩
theorem lkX10_21' : ev_lk RX10 21 10 1 (.object "RepairGroups$FormText") true := ⟨_, _, _, tyX10, rfl, iw_10, by decide, List.mem_filter.mpr ⟨(lw_m2 (List.mem_of_getElem? (i := 47) (by decide +kernel))), rfl⟩, tyX10_ok, nmX10, rfl, fun _ => rfl, by decide +kernel⟩
theorem lkX10_21 : ev_lg RX10 21 10 1 := ⟨_, _, _, rfl, iw_10, by decide, List.mem_filter.mpr ⟨(lw_m2 (List.mem_of_getElem? (i := 47) (by decide +kernel))), rfl⟩⟩
theorem lkX10_30' : ev_lk RX10 30 10 2 (.object "RepairGroups$Ranks") true := ⟨_, _, _, tyX10, rfl, iw_10, by decide, List.mem_filter.mpr ⟨(lw_m2 (List.mem_of_getElem? (i := 48) (by decide +kernel))), rfl⟩, tyX10_ok, nmX10, rfl, fun _ => rfl, by decide +kernel⟩
theorem lkX10_30 : ev_lg RX10 30 10 2 := ⟨_, _, _, rfl, iw_10, by decide, List.mem_filter.mpr ⟨(lw_m2 (List.mem_of_getElem? (i := 48) (by decide +kernel))), rfl⟩⟩
theorem lkX10_39' : ev_lk RX10 39 10 3 (.object "RepairGroups$Helps") true := ⟨_, _, _, tyX10, rfl, iw_10, by decide, List.mem_filter.mpr ⟨(lw_m2 (List.mem_of_getElem? (i := 49) (by decide +kernel))), rfl⟩, tyX10_ok, nmX10, rfl, fun _ => rfl, by decide +kernel⟩
theorem lkX10_39 : ev_lg RX10 39 10 3 := ⟨_, _, _, rfl, iw_10, by decide, List.mem_filter.mpr ⟨(lw_m2 (List.mem_of_getElem? (i := 49) (by decide +kernel))), rfl⟩⟩
theorem lkX10_46' : ev_lk RX10 46 10 4 (.object "RepairGroups$Store") true := ⟨_, _, _, tyX10, rfl, iw_10, by decide, List.mem_filter.mpr ⟨(lw_m2 (List.mem_of_getElem? (i := 50) (by decide +kernel))), rfl⟩, tyX10_ok, nmX10, rfl, fun _ => rfl, by decide +kernel⟩
theorem lkX10_46 : ev_lg RX10 46 10 4 := ⟨_, _, _, rfl, iw_10, by decide, List.mem_filter.mpr ⟨(lw_m2 (List.mem_of_getElem? (i := 50) (by decide +kernel))), rfl⟩⟩
theorem lkX10_50' : ev_lk RX10 50 10 5 (.object "RepairGroups$Store") true := ⟨_, _, _, tyX10, rfl, iw_10, by decide, List.mem_filter.mpr ⟨(lw_m2 (List.mem_of_getElem? (i := 51) (by decide +kernel))), rfl⟩, tyX10_ok, nmX10, rfl, fun _ => rfl, by decide +kernel⟩
theorem lkX10_50 : ev_lg RX10 50 10 5 := ⟨_, _, _, rfl, iw_10, by decide, List.mem_filter.mpr ⟨(lw_m2 (List.mem_of_getElem? (i := 51) (by decide +kernel))), rfl⟩⟩
theorem lkX10_53' : ev_lk RX10 53 10 6 (.boolean) false := ⟨_, _, _, tyX10, rfl, iw_10, by decide, List.mem_filter.mpr ⟨(lw_m2 (List.mem_of_getElem? (i := 52) (by decide +kernel))), rfl⟩, tyX10_ok, nmX10, rfl, fun _ => rfl, by decide +kernel⟩
theorem lkX10_53 : ev_lg RX10 53 10 6 := ⟨_, _, _, rfl, iw_10, by decide, List.mem_filter.mpr ⟨(lw_m2 (List.mem_of_getElem? (i := 52) (by decide +kernel))), rfl⟩⟩
theorem lkX10_60' : ev_lk RX10 60 10 7 (.object "RepairGroups$Nodes") true := ⟨_, _, _, tyX10, rfl, iw_10, by decide, List.mem_filter.mpr ⟨(lw_m2 (List.mem_of_getElem? (i := 53) (by decide +kernel))), rfl⟩, tyX10_ok, nmX10, rfl, fun _ => rfl, by decide +kernel⟩
theorem lkX10_60 : ev_lg RX10 60 10 7 := ⟨_, _, _, rfl, iw_10, by decide, List.mem_filter.mpr ⟨(lw_m2 (List.mem_of_getElem? (i := 53) (by decide +kernel))), rfl⟩⟩
theorem lkX10_67' : ev_lk RX10 67 10 8 (.object "RepairGroups$Span") true := ⟨_, _, _, tyX10, rfl, iw_10, by decide, List.mem_filter.mpr ⟨(lw_m2 (List.mem_of_getElem? (i := 54) (by decide +kernel))), rfl⟩, tyX10_ok, nmX10, rfl, fun _ => rfl, by decide +kernel⟩
theorem lkX10_67 : ev_lg RX10 67 10 8 := ⟨_, _, _, rfl, iw_10, by decide, List.mem_filter.mpr ⟨(lw_m2 (List.mem_of_getElem? (i := 54) (by decide +kernel))), rfl⟩⟩
theorem lkX10_74' : ev_lk RX10 74 10 9 (.object "RepairGroups$Chooser") true := ⟨_, _, _, tyX10, rfl, iw_10, by decide, List.mem_filter.mpr ⟨(lw_m2 (List.mem_of_getElem? (i := 55) (by decide +kernel))), rfl⟩, tyX10_ok, nmX10, rfl, fun _ => rfl, by decide +kernel⟩
theorem lkX10_74 : ev_lg RX10 74 10 9 := ⟨_, _, _, rfl, iw_10, by decide, List.mem_filter.mpr ⟨(lw_m2 (List.mem_of_getElem? (i := 55) (by decide +kernel))), rfl⟩⟩
theorem lkX10_81' : ev_lk RX10 81 10 10 (.object "RepairGroups$Tapes") true := ⟨_, _, _, tyX10, rfl, iw_10, by decide, List.mem_filter.mpr ⟨(lw_m2 (List.mem_of_getElem? (i := 56) (by decide +kernel))), rfl⟩, tyX10_ok, nmX10, rfl, fun _ => rfl, by decide +kernel⟩
theorem lkX10_81 : ev_lg RX10 81 10 10 := ⟨_, _, _, rfl, iw_10, by decide, List.mem_filter.mpr ⟨(lw_m2 (List.mem_of_getElem? (i := 56) (by decide +kernel))), rfl⟩⟩
theorem lkX11_111' : ev_lk RX11 111 11 0 (.int) false := ⟨_, _, _, tyX11, rfl, iw_11, by decide, List.mem_filter.mpr ⟨(lw_m4 (List.mem_of_getElem? (i := 78) (by decide +kernel))), rfl⟩, tyX11_ok, nmX11, rfl, fun _ => rfl, by decide +kernel⟩
theorem lkX11_111 : ev_lg RX11 111 11 0 := ⟨_, _, _, rfl, iw_11, by decide, List.mem_filter.mpr ⟨(lw_m4 (List.mem_of_getElem? (i := 78) (by decide +kernel))), rfl⟩⟩
theorem lkX11_114' : ev_lk RX11 114 11 1 (.int) false := ⟨_, _, _, tyX11, rfl, iw_11, by decide, List.mem_filter.mpr ⟨(lw_m4 (List.mem_of_getElem? (i := 79) (by decide +kernel))), rfl⟩, tyX11_ok, nmX11, rfl, fun _ => rfl, by decide +kernel⟩
theorem lkX11_114 : ev_lg RX11 114 11 1 := ⟨_, _, _, rfl, iw_11, by decide, List.mem_filter.mpr ⟨(lw_m4 (List.mem_of_getElem? (i := 79) (by decide +kernel))), rfl⟩⟩
theorem lkX11_9' : ev_lk RX11 9 11 2 (.array .int) true := ⟨_, _, _, tyX11, rfl, iw_11, by decide, List.mem_filter.mpr ⟨(lw_m4 (List.mem_of_getElem? (i := 80) (by decide +kernel))), rfl⟩, tyX11_ok, nmX11, rfl, fun _ => rfl, by decide +kernel⟩
theorem lkX11_9 : ev_lg RX11 9 11 2 := ⟨_, _, _, rfl, iw_11, by decide, List.mem_filter.mpr ⟨(lw_m4 (List.mem_of_getElem? (i := 80) (by decide +kernel))), rfl⟩⟩
theorem lkX11_15' : ev_lk RX11 15 11 3 (.array .int) true := ⟨_, _, _, tyX11, rfl, iw_11, by decide, List.mem_filter.mpr ⟨(lw_m4 (List.mem_of_getElem? (i := 81) (by decide +kernel))), rfl⟩, tyX11_ok, nmX11, rfl, fun _ => rfl, by decide +kernel⟩
theorem lkX11_15 : ev_lg RX11 15 11 3 := ⟨_, _, _, rfl, iw_11, by decide, List.mem_filter.mpr ⟨(lw_m4 (List.mem_of_getElem? (i := 81) (by decide +kernel))), rfl⟩⟩
theorem lkX11_18' : ev_lk RX11 18 11 4 (.array .int) true := ⟨_, _, _, tyX11, rfl, iw_11, by decide, List.mem_filter.mpr ⟨(lw_m4 (List.mem_of_getElem? (i := 82) (by decide +kernel))), rfl⟩, tyX11_ok, nmX11, rfl, fun _ => rfl, by decide +kernel⟩
theorem lkX11_18 : ev_lg RX11 18 11 4 := ⟨_, _, _, rfl, iw_11, by decide, List.mem_filter.mpr ⟨(lw_m4 (List.mem_of_getElem? (i := 82) (by decide +kernel))), rfl⟩⟩
theorem lkX11_95' : ev_lk RX11 95 11 5 (.int) false := ⟨_, _, _, tyX11, rfl, iw_11, by decide, List.mem_filter.mpr ⟨(lw_m4 (List.mem_of_getElem? (i := 83) (by decide +kernel))), rfl⟩, tyX11_ok, nmX11, rfl, fun _ => rfl, by decide +kernel⟩
theorem lkX11_95 : ev_lg RX11 95 11 5 := ⟨_, _, _, rfl, iw_11, by decide, List.mem_filter.mpr ⟨(lw_m4 (List.mem_of_getElem? (i := 83) (by decide +kernel))), rfl⟩⟩
theorem lkX11_134' : ev_lk RX11 134 11 6 (.int) false := ⟨_, _, _, tyX11, rfl, iw_11, by decide, List.mem_filter.mpr ⟨(lw_m4 (List.mem_of_getElem? (i := 84) (by decide +kernel))), rfl⟩, tyX11_ok, nmX11, rfl, fun _ => rfl, by decide +kernel⟩
theorem lkX11_134 : ev_lg RX11 134 11 6 := ⟨_, _, _, rfl, iw_11, by decide, List.mem_filter.mpr ⟨(lw_m4 (List.mem_of_getElem? (i := 84) (by decide +kernel))), rfl⟩⟩
theorem lkX11_162' : ev_lk RX11 162 11 7 (.int) false := ⟨_, _, _, tyX11, rfl, iw_11, by decide, List.mem_filter.mpr ⟨(lw_m4 (List.mem_of_getElem? (i := 85) (by decide +kernel))), rfl⟩, tyX11_ok, nmX11, rfl, fun _ => rfl, by decide +kernel⟩
theorem lkX11_162 : ev_lg RX11 162 11 7 := ⟨_, _, _, rfl, iw_11, by decide, List.mem_filter.mpr ⟨(lw_m4 (List.mem_of_getElem? (i := 85) (by decide +kernel))), rfl⟩⟩
theorem lkX11_21' : ev_lk RX11 21 11 8 (.array .int) true := ⟨_, _, _, tyX11, rfl, iw_11, by decide, List.mem_filter.mpr ⟨(lw_m4 (List.mem_of_getElem? (i := 86) (by decide +kernel))), rfl⟩, tyX11_ok, nmX11, rfl, fun _ => rfl, by decide +kernel⟩
theorem lkX11_21 : ev_lg RX11 21 11 8 := ⟨_, _, _, rfl, iw_11, by decide, List.mem_filter.mpr ⟨(lw_m4 (List.mem_of_getElem? (i := 86) (by decide +kernel))), rfl⟩⟩
theorem lkX11_24' : ev_lk RX11 24 11 9 (.array .int) true := ⟨_, _, _, tyX11, rfl, iw_11, by decide, List.mem_filter.mpr ⟨(lw_m4 (List.mem_of_getElem? (i := 87) (by decide +kernel))), rfl⟩, tyX11_ok, nmX11, rfl, fun _ => rfl, by decide +kernel⟩
theorem lkX11_24 : ev_lg RX11 24 11 9 := ⟨_, _, _, rfl, iw_11, by decide, List.mem_filter.mpr ⟨(lw_m4 (List.mem_of_getElem? (i := 87) (by decide +kernel))), rfl⟩⟩
theorem lkX11_27' : ev_lk RX11 27 11 10 (.array .int) true := ⟨_, _, _, tyX11, rfl, iw_11, by decide, List.mem_filter.mpr ⟨(lw_m4 (List.mem_of_getElem? (i := 88) (by decide +kernel))), rfl⟩, tyX11_ok, nmX11, rfl, fun _ => rfl, by decide +kernel⟩
theorem lkX11_27 : ev_lg RX11 27 11 10 := ⟨_, _, _, rfl, iw_11, by decide, List.mem_filter.mpr ⟨(lw_m4 (List.mem_of_getElem? (i := 88) (by decide +kernel))), rfl⟩⟩
theorem lkX11_30' : ev_lk RX11 30 11 11 (.array .int) true := ⟨_, _, _, tyX11, rfl, iw_11, by decide, List.mem_filter.mpr ⟨(lw_m4 (List.mem_of_getElem? (i := 89) (by decide +kernel))), rfl⟩, tyX11_ok, nmX11, rfl, fun _ => rfl, by decide +kernel⟩
theorem lkX11_30 : ev_lg RX11 30 11 11 := ⟨_, _, _, rfl, iw_11, by decide, List.mem_filter.mpr ⟨(lw_m4 (List.mem_of_getElem? (i := 89) (by decide +kernel))), rfl⟩⟩
theorem lkX11_33' : ev_lk RX11 33 11 12 (.array .int) true := ⟨_, _, _, tyX11, rfl, iw_11, by decide, List.mem_filter.mpr ⟨(lw_m4 (List.mem_of_getElem? (i := 90) (by decide +kernel))), rfl⟩, tyX11_ok, nmX11, rfl, fun _ => rfl, by decide +kernel⟩
theorem lkX11_33 : ev_lg RX11 33 11 12 := ⟨_, _, _, rfl, iw_11, by decide, List.mem_filter.mpr ⟨(lw_m4 (List.mem_of_getElem? (i := 90) (by decide +kernel))), rfl⟩⟩
theorem lkX11_36' : ev_lk RX11 36 11 13 (.array .int) true := ⟨_, _, _, tyX11, rfl, iw_11, by decide, List.mem_filter.mpr ⟨(lw_m4 (List.mem_of_getElem? (i := 91) (by decide +kernel))), rfl⟩, tyX11_ok, nmX11, rfl, fun _ => rfl, by decide +kernel⟩
theorem lkX11_36 : ev_lg RX11 36 11 13 := ⟨_, _, _, rfl, iw_11, by decide, List.mem_filter.mpr ⟨(lw_m4 (List.mem_of_getElem? (i := 91) (by decide +kernel))), rfl⟩⟩
theorem lkX11_39' : ev_lk RX11 39 11 14 (.array .int) true := ⟨_, _, _, tyX11, rfl, iw_11, by decide, List.mem_filter.mpr ⟨(lw_m4 (List.mem_of_getElem? (i := 92) (by decide +kernel))), rfl⟩, tyX11_ok, nmX11, rfl, fun _ => rfl, by decide +kernel⟩
theorem lkX11_39 : ev_lg RX11 39 11 14 := ⟨_, _, _, rfl, iw_11, by decide, List.mem_filter.mpr ⟨(lw_m4 (List.mem_of_getElem? (i := 92) (by decide +kernel))), rfl⟩⟩
theorem lkX11_42' : ev_lk RX11 42 11 15 (.array .int) true := ⟨_, _, _, tyX11, rfl, iw_11, by decide, List.mem_filter.mpr ⟨(lw_m4 (List.mem_of_getElem? (i := 93) (by decide +kernel))), rfl⟩, tyX11_ok, nmX11, rfl, fun _ => rfl, by decide +kernel⟩
theorem lkX11_42 : ev_lg RX11 42 11 15 := ⟨_, _, _, rfl, iw_11, by decide, List.mem_filter.mpr ⟨(lw_m4 (List.mem_of_getElem? (i := 93) (by decide +kernel))), rfl⟩⟩
theorem lkX11_45' : ev_lk RX11 45 11 16 (.array .int) true := ⟨_, _, _, tyX11, rfl, iw_11, by decide, List.mem_filter.mpr ⟨(lw_m4 (List.mem_of_getElem? (i := 94) (by decide +kernel))), rfl⟩, tyX11_ok, nmX11, rfl, fun _ => rfl, by decide +kernel⟩
theorem lkX11_45 : ev_lg RX11 45 11 16 := ⟨_, _, _, rfl, iw_11, by decide, List.mem_filter.mpr ⟨(lw_m4 (List.mem_of_getElem? (i := 94) (by decide +kernel))), rfl⟩⟩
theorem lkX11_140' : ev_lk RX11 140 11 17 (.int) false := ⟨_, _, _, tyX11, rfl, iw_11, by decide, List.mem_filter.mpr ⟨(lw_m4 (List.mem_of_getElem? (i := 95) (by decide +kernel))), rfl⟩, tyX11_ok, nmX11, rfl, fun _ => rfl, by decide +kernel⟩
theorem lkX11_140 : ev_lg RX11 140 11 17 := ⟨_, _, _, rfl, iw_11, by decide, List.mem_filter.mpr ⟨(lw_m4 (List.mem_of_getElem? (i := 95) (by decide +kernel))), rfl⟩⟩
theorem lkX11_48' : ev_lk RX11 48 11 18 (.array .int) true := ⟨_, _, _, tyX11, rfl, iw_11, by decide, List.mem_filter.mpr ⟨(lw_m4 (List.mem_of_getElem? (i := 96) (by decide +kernel))), rfl⟩, tyX11_ok, nmX11, rfl, fun _ => rfl, by decide +kernel⟩
theorem lkX11_48 : ev_lg RX11 48 11 18 := ⟨_, _, _, rfl, iw_11, by decide, List.mem_filter.mpr ⟨(lw_m4 (List.mem_of_getElem? (i := 96) (by decide +kernel))), rfl⟩⟩
theorem lkX11_143' : ev_lk RX11 143 11 19 (.int) false := ⟨_, _, _, tyX11, rfl, iw_11, by decide, List.mem_filter.mpr ⟨(lw_m4 (List.mem_of_getElem? (i := 97) (by decide +kernel))), rfl⟩, tyX11_ok, nmX11, rfl, fun _ => rfl, by decide +kernel⟩
theorem lkX11_143 : ev_lg RX11 143 11 19 := ⟨_, _, _, rfl, iw_11, by decide, List.mem_filter.mpr ⟨(lw_m4 (List.mem_of_getElem? (i := 97) (by decide +kernel))), rfl⟩⟩
theorem lkX11_153' : ev_lk RX11 153 11 20 (.int) false := ⟨_, _, _, tyX11, rfl, iw_11, by decide, List.mem_filter.mpr ⟨(lw_m4 (List.mem_of_getElem? (i := 98) (by decide +kernel))), rfl⟩, tyX11_ok, nmX11, rfl, fun _ => rfl, by decide +kernel⟩
theorem lkX11_153 : ev_lg RX11 153 11 20 := ⟨_, _, _, rfl, iw_11, by decide, List.mem_filter.mpr ⟨(lw_m4 (List.mem_of_getElem? (i := 98) (by decide +kernel))), rfl⟩⟩
theorem lkX11_51' : ev_lk RX11 51 11 21 (.array .int) true := ⟨_, _, _, tyX11, rfl, iw_11, by decide, List.mem_filter.mpr ⟨(lw_m4 (List.mem_of_getElem? (i := 99) (by decide +kernel))), rfl⟩, tyX11_ok, nmX11, rfl, fun _ => rfl, by decide +kernel⟩
theorem lkX11_51 : ev_lg RX11 51 11 21 := ⟨_, _, _, rfl, iw_11, by decide, List.mem_filter.mpr ⟨(lw_m4 (List.mem_of_getElem? (i := 99) (by decide +kernel))), rfl⟩⟩
theorem lkX11_245' : ev_lk RX11 245 11 22 (.int) false := ⟨_, _, _, tyX11, rfl, iw_11, by decide, List.mem_filter.mpr ⟨(lw_m4 (List.mem_of_getElem? (i := 100) (by decide +kernel))), rfl⟩, tyX11_ok, nmX11, rfl, fun _ => rfl, by decide +kernel⟩
theorem lkX11_245 : ev_lg RX11 245 11 22 := ⟨_, _, _, rfl, iw_11, by decide, List.mem_filter.mpr ⟨(lw_m4 (List.mem_of_getElem? (i := 100) (by decide +kernel))), rfl⟩⟩
theorem lkX11_54' : ev_lk RX11 54 11 23 (.array .int) true := ⟨_, _, _, tyX11, rfl, iw_11, by decide, List.mem_filter.mpr ⟨(lw_m4 (List.mem_of_getElem? (i := 101) (by decide +kernel))), rfl⟩, tyX11_ok, nmX11, rfl, fun _ => rfl, by decide +kernel⟩
theorem lkX11_54 : ev_lg RX11 54 11 23 := ⟨_, _, _, rfl, iw_11, by decide, List.mem_filter.mpr ⟨(lw_m4 (List.mem_of_getElem? (i := 101) (by decide +kernel))), rfl⟩⟩
theorem lkX11_57' : ev_lk RX11 57 11 24 (.array .int) true := ⟨_, _, _, tyX11, rfl, iw_11, by decide, List.mem_filter.mpr ⟨(lw_m4 (List.mem_of_getElem? (i := 102) (by decide +kernel))), rfl⟩, tyX11_ok, nmX11, rfl, fun _ => rfl, by decide +kernel⟩
theorem lkX11_57 : ev_lg RX11 57 11 24 := ⟨_, _, _, rfl, iw_11, by decide, List.mem_filter.mpr ⟨(lw_m4 (List.mem_of_getElem? (i := 102) (by decide +kernel))), rfl⟩⟩
theorem lkX11_276' : ev_lk RX11 276 11 25 (.int) false := ⟨_, _, _, tyX11, rfl, iw_11, by decide, List.mem_filter.mpr ⟨(lw_m4 (List.mem_of_getElem? (i := 103) (by decide +kernel))), rfl⟩, tyX11_ok, nmX11, rfl, fun _ => rfl, by decide +kernel⟩
theorem lkX11_276 : ev_lg RX11 276 11 25 := ⟨_, _, _, rfl, iw_11, by decide, List.mem_filter.mpr ⟨(lw_m4 (List.mem_of_getElem? (i := 103) (by decide +kernel))), rfl⟩⟩
theorem lkX11_60' : ev_lk RX11 60 11 26 (.array .int) true := ⟨_, _, _, tyX11, rfl, iw_11, by decide, List.mem_filter.mpr ⟨(lw_m4 (List.mem_of_getElem? (i := 104) (by decide +kernel))), rfl⟩, tyX11_ok, nmX11, rfl, fun _ => rfl, by decide +kernel⟩
theorem lkX11_60 : ev_lg RX11 60 11 26 := ⟨_, _, _, rfl, iw_11, by decide, List.mem_filter.mpr ⟨(lw_m4 (List.mem_of_getElem? (i := 104) (by decide +kernel))), rfl⟩⟩
theorem lkX11_63' : ev_lk RX11 63 11 27 (.array .int) true := ⟨_, _, _, tyX11, rfl, iw_11, by decide, List.mem_filter.mpr ⟨(lw_m4 (List.mem_of_getElem? (i := 105) (by decide +kernel))), rfl⟩, tyX11_ok, nmX11, rfl, fun _ => rfl, by decide +kernel⟩
theorem lkX11_63 : ev_lg RX11 63 11 27 := ⟨_, _, _, rfl, iw_11, by decide, List.mem_filter.mpr ⟨(lw_m4 (List.mem_of_getElem? (i := 105) (by decide +kernel))), rfl⟩⟩
theorem lkX11_286' : ev_lk RX11 286 11 28 (.int) false := ⟨_, _, _, tyX11, rfl, iw_11, by decide, List.mem_filter.mpr ⟨(lw_m4 (List.mem_of_getElem? (i := 106) (by decide +kernel))), rfl⟩, tyX11_ok, nmX11, rfl, fun _ => rfl, by decide +kernel⟩
theorem lkX11_286 : ev_lg RX11 286 11 28 := ⟨_, _, _, rfl, iw_11, by decide, List.mem_filter.mpr ⟨(lw_m4 (List.mem_of_getElem? (i := 106) (by decide +kernel))), rfl⟩⟩
theorem lkX11_66' : ev_lk RX11 66 11 29 (.array .int) true := ⟨_, _, _, tyX11, rfl, iw_11, by decide, List.mem_filter.mpr ⟨(lw_m4 (List.mem_of_getElem? (i := 107) (by decide +kernel))), rfl⟩, tyX11_ok, nmX11, rfl, fun _ => rfl, by decide +kernel⟩
theorem lkX11_66 : ev_lg RX11 66 11 29 := ⟨_, _, _, rfl, iw_11, by decide, List.mem_filter.mpr ⟨(lw_m4 (List.mem_of_getElem? (i := 107) (by decide +kernel))), rfl⟩⟩
theorem lkX11_69' : ev_lk RX11 69 11 30 (.array .int) true := ⟨_, _, _, tyX11, rfl, iw_11, by decide, List.mem_filter.mpr ⟨(lw_m4 (List.mem_of_getElem? (i := 108) (by decide +kernel))), rfl⟩, tyX11_ok, nmX11, rfl, fun _ => rfl, by decide +kernel⟩
theorem lkX11_69 : ev_lg RX11 69 11 30 := ⟨_, _, _, rfl, iw_11, by decide, List.mem_filter.mpr ⟨(lw_m4 (List.mem_of_getElem? (i := 108) (by decide +kernel))), rfl⟩⟩
theorem lkX11_289' : ev_lk RX11 289 11 31 (.boolean) false := ⟨_, _, _, tyX11, rfl, iw_11, by decide, List.mem_filter.mpr ⟨(lw_m4 (List.mem_of_getElem? (i := 109) (by decide +kernel))), rfl⟩, tyX11_ok, nmX11, rfl, fun _ => rfl, by decide +kernel⟩
theorem lkX11_289 : ev_lg RX11 289 11 31 := ⟨_, _, _, rfl, iw_11, by decide, List.mem_filter.mpr ⟨(lw_m4 (List.mem_of_getElem? (i := 109) (by decide +kernel))), rfl⟩⟩
theorem lkX11_72' : ev_lk RX11 72 11 32 (.array .int) true := ⟨_, _, _, tyX11, rfl, iw_11, by decide, List.mem_filter.mpr ⟨(lw_m4 (List.mem_of_getElem? (i := 110) (by decide +kernel))), rfl⟩, tyX11_ok, nmX11, rfl, fun _ => rfl, by decide +kernel⟩
theorem lkX11_72 : ev_lg RX11 72 11 32 := ⟨_, _, _, rfl, iw_11, by decide, List.mem_filter.mpr ⟨(lw_m4 (List.mem_of_getElem? (i := 110) (by decide +kernel))), rfl⟩⟩
theorem lkX11_75' : ev_lk RX11 75 11 33 (.array .int) true := ⟨_, _, _, tyX11, rfl, iw_11, by decide, List.mem_filter.mpr ⟨(lw_m4 (List.mem_of_getElem? (i := 111) (by decide +kernel))), rfl⟩, tyX11_ok, nmX11, rfl, fun _ => rfl, by decide +kernel⟩
theorem lkX11_75 : ev_lg RX11 75 11 33 := ⟨_, _, _, rfl, iw_11, by decide, List.mem_filter.mpr ⟨(lw_m4 (List.mem_of_getElem? (i := 111) (by decide +kernel))), rfl⟩⟩
theorem lkX11_78' : ev_lk RX11 78 11 34 (.array .int) true := ⟨_, _, _, tyX11, rfl, iw_11, by decide, List.mem_filter.mpr ⟨(lw_m4 (List.mem_of_getElem? (i := 112) (by decide +kernel))), rfl⟩, tyX11_ok, nmX11, rfl, fun _ => rfl, by decide +kernel⟩
theorem lkX11_78 : ev_lg RX11 78 11 34 := ⟨_, _, _, rfl, iw_11, by decide, List.mem_filter.mpr ⟨(lw_m4 (List.mem_of_getElem? (i := 112) (by decide +kernel))), rfl⟩⟩
theorem lkX11_202' : ev_lk RX11 202 11 35 (.int) false := ⟨_, _, _, tyX11, rfl, iw_11, by decide, List.mem_filter.mpr ⟨(lw_m4 (List.mem_of_getElem? (i := 113) (by decide +kernel))), rfl⟩, tyX11_ok, nmX11, rfl, fun _ => rfl, by decide +kernel⟩
theorem lkX11_202 : ev_lg RX11 202 11 35 := ⟨_, _, _, rfl, iw_11, by decide, List.mem_filter.mpr ⟨(lw_m4 (List.mem_of_getElem? (i := 113) (by decide +kernel))), rfl⟩⟩
theorem lkX11_190' : ev_lk RX11 190 11 36 (.int) false := ⟨_, _, _, tyX11, rfl, iw_11, by decide, List.mem_filter.mpr ⟨(lw_m4 (List.mem_of_getElem? (i := 114) (by decide +kernel))), rfl⟩, tyX11_ok, nmX11, rfl, fun _ => rfl, by decide +kernel⟩
theorem lkX11_190 : ev_lg RX11 190 11 36 := ⟨_, _, _, rfl, iw_11, by decide, List.mem_filter.mpr ⟨(lw_m4 (List.mem_of_getElem? (i := 114) (by decide +kernel))), rfl⟩⟩
theorem lkX11_193' : ev_lk RX11 193 11 37 (.int) false := ⟨_, _, _, tyX11, rfl, iw_11, by decide, List.mem_filter.mpr ⟨(lw_m4 (List.mem_of_getElem? (i := 115) (by decide +kernel))), rfl⟩, tyX11_ok, nmX11, rfl, fun _ => rfl, by decide +kernel⟩
theorem lkX11_193 : ev_lg RX11 193 11 37 := ⟨_, _, _, rfl, iw_11, by decide, List.mem_filter.mpr ⟨(lw_m4 (List.mem_of_getElem? (i := 115) (by decide +kernel))), rfl⟩⟩
theorem lkX11_81' : ev_lk RX11 81 11 38 (.array .int) true := ⟨_, _, _, tyX11, rfl, iw_11, by decide, List.mem_filter.mpr ⟨(lw_m4 (List.mem_of_getElem? (i := 116) (by decide +kernel))), rfl⟩, tyX11_ok, nmX11, rfl, fun _ => rfl, by decide +kernel⟩
theorem lkX11_81 : ev_lg RX11 81 11 38 := ⟨_, _, _, rfl, iw_11, by decide, List.mem_filter.mpr ⟨(lw_m4 (List.mem_of_getElem? (i := 116) (by decide +kernel))), rfl⟩⟩
theorem lkX11_84' : ev_lk RX11 84 11 39 (.array .int) true := ⟨_, _, _, tyX11, rfl, iw_11, by decide, List.mem_filter.mpr ⟨(lw_m4 (List.mem_of_getElem? (i := 117) (by decide +kernel))), rfl⟩, tyX11_ok, nmX11, rfl, fun _ => rfl, by decide +kernel⟩
theorem lkX11_84 : ev_lg RX11 84 11 39 := ⟨_, _, _, rfl, iw_11, by decide, List.mem_filter.mpr ⟨(lw_m4 (List.mem_of_getElem? (i := 117) (by decide +kernel))), rfl⟩⟩
theorem lkX11_87' : ev_lk RX11 87 11 40 (.array .long) true := ⟨_, _, _, tyX11, rfl, iw_11, by decide, List.mem_filter.mpr ⟨(lw_m4 (List.mem_of_getElem? (i := 118) (by decide +kernel))), rfl⟩, tyX11_ok, nmX11, rfl, fun _ => rfl, by decide +kernel⟩
theorem lkX11_87 : ev_lg RX11 87 11 40 := ⟨_, _, _, rfl, iw_11, by decide, List.mem_filter.mpr ⟨(lw_m4 (List.mem_of_getElem? (i := 118) (by decide +kernel))), rfl⟩⟩
theorem cvL_9 : ev_cvI RL 9 yX10_init cX10_init 1 none 0 := ⟨⟨List.mem_filter.mpr ⟨(lw_m1 (List.mem_of_getElem? (i := 18) (by decide +kernel))), rfl⟩, List.mem_filter.mpr ⟨(lw_m1 (List.mem_of_getElem? (i := 20) (by decide +kernel))), rfl⟩, List.mem_filter.mpr ⟨(lw_m1 (List.mem_of_getElem? (i := 1) (by decide +kernel))), rfl⟩, ⟨by decide +kernel, by decide +kernel, by decide +kernel⟩, by decide⟩, rfl, List.mem_filter.mpr ⟨(lw_m1 (List.mem_of_getElem? (i := 19) (by decide +kernel))), rfl⟩, rfl⟩
theorem cvX10_11 : ev_cvI RX10 11 yX4_init cX4_init 1 none 0 := ⟨⟨List.mem_filter.mpr ⟨(lw_m1 (List.mem_of_getElem? (i := 26) (by decide +kernel))), rfl⟩, List.mem_filter.mpr ⟨(lw_m1 (List.mem_of_getElem? (i := 28) (by decide +kernel))), rfl⟩, List.mem_filter.mpr ⟨(lw_m1 (List.mem_of_getElem? (i := 2) (by decide +kernel))), rfl⟩, ⟨by decide +kernel, by decide +kernel, by decide +kernel⟩, by decide⟩, rfl, List.mem_filter.mpr ⟨(lw_m1 (List.mem_of_getElem? (i := 27) (by decide +kernel))), rfl⟩, rfl⟩
theorem cvX4_13 : ev_cvV RX4 13 yX4_choose cX4_choose 3 none 1 := ⟨⟨List.mem_filter.mpr ⟨(lw_m1 (List.mem_of_getElem? (i := 30) (by decide +kernel))), rfl⟩, List.mem_filter.mpr ⟨(lw_m1 (List.mem_of_getElem? (i := 33) (by decide +kernel))), rfl⟩, List.mem_filter.mpr ⟨(lw_m1 (List.mem_of_getElem? (i := 2) (by decide +kernel))), rfl⟩, ⟨by decide +kernel, by decide +kernel, by decide +kernel⟩, by decide⟩, List.mem_filter.mpr ⟨(lw_m1 (List.mem_of_getElem? (i := 31) (by decide +kernel))), rfl⟩, List.mem_filter.mpr ⟨(lw_m1 (List.mem_of_getElem? (i := 32) (by decide +kernel))), rfl⟩⟩
theorem cvX4_21 : ev_cvS RX4 21 yX4_leastGenerator cX4_leastGenerator 2 (some .int) 1 := ⟨⟨List.mem_filter.mpr ⟨(lw_m1 (List.mem_of_getElem? (i := 34) (by decide +kernel))), rfl⟩, List.mem_filter.mpr ⟨(lw_m1 (List.mem_of_getElem? (i := 36) (by decide +kernel))), rfl⟩, List.mem_filter.mpr ⟨(lw_m1 (List.mem_of_getElem? (i := 2) (by decide +kernel))), rfl⟩, ⟨by decide +kernel, by decide +kernel, by decide +kernel⟩, by decide⟩, List.mem_filter.mpr ⟨(lw_m1 (List.mem_of_getElem? (i := 35) (by decide +kernel))), rfl⟩⟩
theorem cvX4_36 : ev_cvS RX4 36 yX4_order cX4_order 4 (some .int) 2 := ⟨⟨List.mem_filter.mpr ⟨(lw_m1 (List.mem_of_getElem? (i := 37) (by decide +kernel))), rfl⟩, List.mem_filter.mpr ⟨(lw_m1 (List.mem_of_getElem? (i := 39) (by decide +kernel))), rfl⟩, List.mem_filter.mpr ⟨(lw_m1 (List.mem_of_getElem? (i := 2) (by decide +kernel))), rfl⟩, ⟨by decide +kernel, by decide +kernel, by decide +kernel⟩, by decide⟩, List.mem_filter.mpr ⟨(lw_m1 (List.mem_of_getElem? (i := 38) (by decide +kernel))), rfl⟩⟩
theorem cvX4_32 : ev_cvS RX4 32 yX4_productBy cX4_productBy 7 (some .int) 3 := ⟨⟨List.mem_filter.mpr ⟨(lw_m1 (List.mem_of_getElem? (i := 40) (by decide +kernel))), rfl⟩, List.mem_filter.mpr ⟨(lw_m1 (List.mem_of_getElem? (i := 42) (by decide +kernel))), rfl⟩, List.mem_filter.mpr ⟨(lw_m1 (List.mem_of_getElem? (i := 2) (by decide +kernel))), rfl⟩, ⟨by decide +kernel, by decide +kernel, by decide +kernel⟩, by decide⟩, List.mem_filter.mpr ⟨(lw_m1 (List.mem_of_getElem? (i := 41) (by decide +kernel))), rfl⟩⟩
theorem cvX4_28 : ev_cvS RX4 28 yX4_inverseBy cX4_inverseBy 3 (some .int) 2 := ⟨⟨List.mem_filter.mpr ⟨(lw_m1 (List.mem_of_getElem? (i := 45) (by decide +kernel))), rfl⟩, List.mem_filter.mpr ⟨(lw_m1 (List.mem_of_getElem? (i := 47) (by decide +kernel))), rfl⟩, List.mem_filter.mpr ⟨(lw_m1 (List.mem_of_getElem? (i := 2) (by decide +kernel))), rfl⟩, ⟨by decide +kernel, by decide +kernel, by decide +kernel⟩, by decide⟩, List.mem_filter.mpr ⟨(lw_m1 (List.mem_of_getElem? (i := 46) (by decide +kernel))), rfl⟩⟩
theorem cvX10_20 : ev_cvI RX10 20 yX1_init cX1_init 1 none 0 := ⟨⟨List.mem_filter.mpr ⟨(lw_m1 (List.mem_of_getElem? (i := 64) (by decide +kernel))), rfl⟩, List.mem_filter.mpr ⟨(lw_m1 (List.mem_of_getElem? (i := 66) (by decide +kernel))), rfl⟩, List.mem_filter.mpr ⟨(lw_m1 (List.mem_of_getElem? (i := 3) (by decide +kernel))), rfl⟩, ⟨by decide +kernel, by decide +kernel, by decide +kernel⟩, by decide⟩, rfl, List.mem_filter.mpr ⟨(lw_m1 (List.mem_of_getElem? (i := 65) (by decide +kernel))), rfl⟩, rfl⟩
theorem cvX10_27 : ev_cvI RX10 27 yX6_init cX6_init 3 none 1 := ⟨⟨List.mem_filter.mpr ⟨(lw_m1 (List.mem_of_getElem? (i := 87) (by decide +kernel))), rfl⟩, List.mem_filter.mpr ⟨(lw_m1 (List.mem_of_getElem? (i := 89) (by decide +kernel))), rfl⟩, List.mem_filter.mpr ⟨(lw_m1 (List.mem_of_getElem? (i := 4) (by decide +kernel))), rfl⟩, ⟨by decide +kernel, by decide +kernel, by decide +kernel⟩, by decide⟩, rfl, List.mem_filter.mpr ⟨(lw_m1 (List.mem_of_getElem? (i := 88) (by decide +kernel))), rfl⟩, rfl⟩
theorem cvX6_21 : ev_cvI RX6 21 yX7_init cX7_init 2 none 1 := ⟨⟨List.mem_filter.mpr ⟨(lw_m1 (List.mem_of_getElem? (i := 94) (by decide +kernel))), rfl⟩, List.mem_filter.mpr ⟨(lw_m1 (List.mem_of_getElem? (i := 96) (by decide +kernel))), rfl⟩, List.mem_filter.mpr ⟨(lw_m1 (List.mem_of_getElem? (i := 5) (by decide +kernel))), rfl⟩, ⟨by decide +kernel, by decide +kernel, by decide +kernel⟩, by decide⟩, rfl, List.mem_filter.mpr ⟨(lw_m1 (List.mem_of_getElem? (i := 95) (by decide +kernel))), rfl⟩, rfl⟩
theorem cvX10_36 : ev_cvI RX10 36 yX2_init cX2_init 2 none 1 := ⟨⟨List.mem_filter.mpr ⟨(lw_m1 (List.mem_of_getElem? (i := 120) (by decide +kernel))), rfl⟩, List.mem_filter.mpr ⟨(lw_m1 (List.mem_of_getElem? (i := 122) (by decide +kernel))), rfl⟩, List.mem_filter.mpr ⟨(lw_m1 (List.mem_of_getElem? (i := 6) (by decide +kernel))), rfl⟩, ⟨by decide +kernel, by decide +kernel, by decide +kernel⟩, by decide⟩, rfl, List.mem_filter.mpr ⟨(lw_m1 (List.mem_of_getElem? (i := 121) (by decide +kernel))), rfl⟩, rfl⟩
theorem cvX10_45 : ev_cvI RX10 45 yX8_init cX8_init 1 none 0 := ⟨⟨List.mem_filter.mpr ⟨(lw_m1 (List.mem_of_getElem? (i := 133) (by decide +kernel))), rfl⟩, List.mem_filter.mpr ⟨(lw_m1 (List.mem_of_getElem? (i := 135) (by decide +kernel))), rfl⟩, List.mem_filter.mpr ⟨(lw_m1 (List.mem_of_getElem? (i := 7) (by decide +kernel))), rfl⟩, ⟨by decide +kernel, by decide +kernel, by decide +kernel⟩, by decide⟩, rfl, List.mem_filter.mpr ⟨(lw_m1 (List.mem_of_getElem? (i := 134) (by decide +kernel))), rfl⟩, rfl⟩
theorem cvX8_11 : ev_cvI RX8 11 yX3_init cX3_init 1 none 0 := ⟨⟨List.mem_filter.mpr ⟨(lw_m1 (List.mem_of_getElem? (i := 139) (by decide +kernel))), rfl⟩, List.mem_filter.mpr ⟨(lw_m1 (List.mem_of_getElem? (i := 141) (by decide +kernel))), rfl⟩, List.mem_filter.mpr ⟨(lw_m1 (List.mem_of_getElem? (i := 8) (by decide +kernel))), rfl⟩, ⟨by decide +kernel, by decide +kernel, by decide +kernel⟩, by decide⟩, rfl, List.mem_filter.mpr ⟨(lw_m1 (List.mem_of_getElem? (i := 140) (by decide +kernel))), rfl⟩, rfl⟩
theorem cvX8_20 : ev_cvI RX8 20 yX5_init cX5_init 3 none 1 := ⟨⟨List.mem_filter.mpr ⟨(lw_m1 (List.mem_of_getElem? (i := 202) (by decide +kernel))), rfl⟩, List.mem_filter.mpr ⟨(lw_m1 (List.mem_of_getElem? (i := 204) (by decide +kernel))), rfl⟩, List.mem_filter.mpr ⟨(lw_m1 (List.mem_of_getElem? (i := 9) (by decide +kernel))), rfl⟩, ⟨by decide +kernel, by decide +kernel, by decide +kernel⟩, by decide⟩, rfl, List.mem_filter.mpr ⟨(lw_m1 (List.mem_of_getElem? (i := 203) (by decide +kernel))), rfl⟩, rfl⟩
theorem cvX5_7 : ev_cvS RX5 7 yJ9_max_7cf53 cJ9_max_7cf53 2 (some .int) 2 := ⟨⟨List.mem_filter.mpr ⟨(lw_m1 (List.mem_of_getElem? (i := 206) (by decide +kernel))), rfl⟩, List.mem_filter.mpr ⟨(lw_m1 (List.mem_of_getElem? (i := 208) (by decide +kernel))), rfl⟩, List.mem_filter.mpr ⟨(lw_m1 (List.mem_of_getElem? (i := 10) (by decide +kernel))), rfl⟩, ⟨by decide +kernel, by decide +kernel, by decide +kernel⟩, by decide⟩, List.mem_filter.mpr ⟨(lw_m1 (List.mem_of_getElem? (i := 207) (by decide +kernel))), rfl⟩⟩
theorem cvX10_59 : ev_cvI RX10 59 yX3_init cX3_init 1 none 0 := ⟨⟨List.mem_filter.mpr ⟨(lw_m2 (List.mem_of_getElem? (i := 0) (by decide +kernel))), rfl⟩, List.mem_filter.mpr ⟨(lw_m1 (List.mem_of_getElem? (i := 141) (by decide +kernel))), rfl⟩, List.mem_filter.mpr ⟨(lw_m1 (List.mem_of_getElem? (i := 8) (by decide +kernel))), rfl⟩, ⟨by decide +kernel, by decide +kernel, by decide +kernel⟩, by decide⟩, rfl, List.mem_filter.mpr ⟨(lw_m1 (List.mem_of_getElem? (i := 140) (by decide +kernel))), rfl⟩, rfl⟩
theorem cvX10_66 : ev_cvI RX10 66 yX7_init cX7_init 2 none 1 := ⟨⟨List.mem_filter.mpr ⟨(lw_m2 (List.mem_of_getElem? (i := 2) (by decide +kernel))), rfl⟩, List.mem_filter.mpr ⟨(lw_m1 (List.mem_of_getElem? (i := 96) (by decide +kernel))), rfl⟩, List.mem_filter.mpr ⟨(lw_m1 (List.mem_of_getElem? (i := 5) (by decide +kernel))), rfl⟩, ⟨by decide +kernel, by decide +kernel, by decide +kernel⟩, by decide⟩, rfl, List.mem_filter.mpr ⟨(lw_m1 (List.mem_of_getElem? (i := 95) (by decide +kernel))), rfl⟩, rfl⟩
theorem cvX10_73 : ev_cvI RX10 73 yX0_init cX0_init 2 none 1 := ⟨⟨List.mem_filter.mpr ⟨(lw_m2 (List.mem_of_getElem? (i := 5) (by decide +kernel))), rfl⟩, List.mem_filter.mpr ⟨(lw_m2 (List.mem_of_getElem? (i := 7) (by decide +kernel))), rfl⟩, List.mem_filter.mpr ⟨(lw_m1 (List.mem_of_getElem? (i := 11) (by decide +kernel))), rfl⟩, ⟨by decide +kernel, by decide +kernel, by decide +kernel⟩, by decide⟩, rfl, List.mem_filter.mpr ⟨(lw_m2 (List.mem_of_getElem? (i := 6) (by decide +kernel))), rfl⟩, rfl⟩
theorem cvX0_15 : ev_cvI RX0 15 yX7_init cX7_init 2 none 1 := ⟨⟨List.mem_filter.mpr ⟨(lw_m2 (List.mem_of_getElem? (i := 10) (by decide +kernel))), rfl⟩, List.mem_filter.mpr ⟨(lw_m1 (List.mem_of_getElem? (i := 96) (by decide +kernel))), rfl⟩, List.mem_filter.mpr ⟨(lw_m1 (List.mem_of_getElem? (i := 5) (by decide +kernel))), rfl⟩, ⟨by decide +kernel, by decide +kernel, by decide +kernel⟩, by decide⟩, rfl, List.mem_filter.mpr ⟨(lw_m1 (List.mem_of_getElem? (i := 95) (by decide +kernel))), rfl⟩, rfl⟩
theorem cvX10_80 : ev_cvI RX10 80 yX9_init cX9_init 2 none 0 := ⟨⟨List.mem_filter.mpr ⟨(lw_m2 (List.mem_of_getElem? (i := 26) (by decide +kernel))), rfl⟩, List.mem_filter.mpr ⟨(lw_m2 (List.mem_of_getElem? (i := 28) (by decide +kernel))), rfl⟩, List.mem_filter.mpr ⟨(lw_m1 (List.mem_of_getElem? (i := 12) (by decide +kernel))), rfl⟩, ⟨by decide +kernel, by decide +kernel, by decide +kernel⟩, by decide⟩, rfl, List.mem_filter.mpr ⟨(lw_m2 (List.mem_of_getElem? (i := 27) (by decide +kernel))), rfl⟩, rfl⟩
theorem cvL_13 : ev_cvV RL 13 yX10_field cX10_field 2 (some .int) 1 := ⟨⟨List.mem_filter.mpr ⟨(lw_m2 (List.mem_of_getElem? (i := 80) (by decide +kernel))), rfl⟩, List.mem_filter.mpr ⟨(lw_m2 (List.mem_of_getElem? (i := 83) (by decide +kernel))), rfl⟩, List.mem_filter.mpr ⟨(lw_m1 (List.mem_of_getElem? (i := 1) (by decide +kernel))), rfl⟩, ⟨by decide +kernel, by decide +kernel, by decide +kernel⟩, by decide⟩, List.mem_filter.mpr ⟨(lw_m2 (List.mem_of_getElem? (i := 81) (by decide +kernel))), rfl⟩, List.mem_filter.mpr ⟨(lw_m2 (List.mem_of_getElem? (i := 82) (by decide +kernel))), rfl⟩⟩
theorem cvX10_85 : ev_cvS RX10 85 yX4_isField cX4_isField 2 (some .boolean) 1 := ⟨⟨List.mem_filter.mpr ⟨(lw_m2 (List.mem_of_getElem? (i := 84) (by decide +kernel))), rfl⟩, List.mem_filter.mpr ⟨(lw_m2 (List.mem_of_getElem? (i := 86) (by decide +kernel))), rfl⟩, List.mem_filter.mpr ⟨(lw_m1 (List.mem_of_getElem? (i := 2) (by decide +kernel))), rfl⟩, ⟨by decide +kernel, by decide +kernel, by decide +kernel⟩, by decide⟩, List.mem_filter.mpr ⟨(lw_m2 (List.mem_of_getElem? (i := 85) (by decide +kernel))), rfl⟩⟩
theorem cvX10_96 : ev_cvV RX10 96 yX4_choose cX4_choose 3 none 1 := ⟨⟨List.mem_filter.mpr ⟨(lw_m2 (List.mem_of_getElem? (i := 87) (by decide +kernel))), rfl⟩, List.mem_filter.mpr ⟨(lw_m1 (List.mem_of_getElem? (i := 33) (by decide +kernel))), rfl⟩, List.mem_filter.mpr ⟨(lw_m1 (List.mem_of_getElem? (i := 2) (by decide +kernel))), rfl⟩, ⟨by decide +kernel, by decide +kernel, by decide +kernel⟩, by decide⟩, List.mem_filter.mpr ⟨(lw_m1 (List.mem_of_getElem? (i := 31) (by decide +kernel))), rfl⟩, List.mem_filter.mpr ⟨(lw_m1 (List.mem_of_getElem? (i := 32) (by decide +kernel))), rfl⟩⟩
theorem cvL_18 : ev_cvV RL 18 yX10_calc cX10_calc 4 (some .int) 3 := ⟨⟨List.mem_filter.mpr ⟨(lw_m2 (List.mem_of_getElem? (i := 88) (by decide +kernel))), rfl⟩, List.mem_filter.mpr ⟨(lw_m2 (List.mem_of_getElem? (i := 91) (by decide +kernel))), rfl⟩, List.mem_filter.mpr ⟨(lw_m1 (List.mem_of_getElem? (i := 1) (by decide +kernel))), rfl⟩, ⟨by decide +kernel, by decide +kernel, by decide +kernel⟩, by decide⟩, List.mem_filter.mpr ⟨(lw_m2 (List.mem_of_getElem? (i := 89) (by decide +kernel))), rfl⟩, List.mem_filter.mpr ⟨(lw_m2 (List.mem_of_getElem? (i := 90) (by decide +kernel))), rfl⟩⟩
theorem cvX10_103 : ev_cvS RX10 103 yX10_canCalc cX10_canCalc 3 (some .boolean) 3 := ⟨⟨List.mem_filter.mpr ⟨(lw_m2 (List.mem_of_getElem? (i := 92) (by decide +kernel))), rfl⟩, List.mem_filter.mpr ⟨(lw_m2 (List.mem_of_getElem? (i := 94) (by decide +kernel))), rfl⟩, List.mem_filter.mpr ⟨(lw_m1 (List.mem_of_getElem? (i := 1) (by decide +kernel))), rfl⟩, ⟨by decide +kernel, by decide +kernel, by decide +kernel⟩, by decide⟩, List.mem_filter.mpr ⟨(lw_m2 (List.mem_of_getElem? (i := 93) (by decide +kernel))), rfl⟩⟩
theorem cvX10_121 : ev_cvS RX10 121 yX10_isNumber cX10_isNumber 1 (some .boolean) 1 := ⟨⟨List.mem_filter.mpr ⟨(lw_m2 (List.mem_of_getElem? (i := 95) (by decide +kernel))), rfl⟩, List.mem_filter.mpr ⟨(lw_m2 (List.mem_of_getElem? (i := 97) (by decide +kernel))), rfl⟩, List.mem_filter.mpr ⟨(lw_m1 (List.mem_of_getElem? (i := 1) (by decide +kernel))), rfl⟩, ⟨by decide +kernel, by decide +kernel, by decide +kernel⟩, by decide⟩, List.mem_filter.mpr ⟨(lw_m2 (List.mem_of_getElem? (i := 96) (by decide +kernel))), rfl⟩⟩
theorem cvX10_107 : ev_cvV RX10 107 yX4_product cX4_product 3 (some .int) 2 := ⟨⟨List.mem_filter.mpr ⟨(lw_m2 (List.mem_of_getElem? (i := 98) (by decide +kernel))), rfl⟩, List.mem_filter.mpr ⟨(lw_m2 (List.mem_of_getElem? (i := 101) (by decide +kernel))), rfl⟩, List.mem_filter.mpr ⟨(lw_m1 (List.mem_of_getElem? (i := 2) (by decide +kernel))), rfl⟩, ⟨by decide +kernel, by decide +kernel, by decide +kernel⟩, by decide⟩, List.mem_filter.mpr ⟨(lw_m2 (List.mem_of_getElem? (i := 99) (by decide +kernel))), rfl⟩, List.mem_filter.mpr ⟨(lw_m2 (List.mem_of_getElem? (i := 100) (by decide +kernel))), rfl⟩⟩
theorem cvX10_111 : ev_cvV RX10 111 yX4_inverse cX4_inverse 2 (some .int) 1 := ⟨⟨List.mem_filter.mpr ⟨(lw_m2 (List.mem_of_getElem? (i := 102) (by decide +kernel))), rfl⟩, List.mem_filter.mpr ⟨(lw_m2 (List.mem_of_getElem? (i := 105) (by decide +kernel))), rfl⟩, List.mem_filter.mpr ⟨(lw_m1 (List.mem_of_getElem? (i := 2) (by decide +kernel))), rfl⟩, ⟨by decide +kernel, by decide +kernel, by decide +kernel⟩, by decide⟩, List.mem_filter.mpr ⟨(lw_m2 (List.mem_of_getElem? (i := 103) (by decide +kernel))), rfl⟩, List.mem_filter.mpr ⟨(lw_m2 (List.mem_of_getElem? (i := 104) (by decide +kernel))), rfl⟩⟩
theorem cvX10_115 : ev_cvV RX10 115 yX4_power cX4_power 5 (some .int) 2 := ⟨⟨List.mem_filter.mpr ⟨(lw_m2 (List.mem_of_getElem? (i := 107) (by decide +kernel))), rfl⟩, List.mem_filter.mpr ⟨(lw_m2 (List.mem_of_getElem? (i := 110) (by decide +kernel))), rfl⟩, List.mem_filter.mpr ⟨(lw_m1 (List.mem_of_getElem? (i := 2) (by decide +kernel))), rfl⟩, ⟨by decide +kernel, by decide +kernel, by decide +kernel⟩, by decide⟩, List.mem_filter.mpr ⟨(lw_m2 (List.mem_of_getElem? (i := 108) (by decide +kernel))), rfl⟩, List.mem_filter.mpr ⟨(lw_m2 (List.mem_of_getElem? (i := 109) (by decide +kernel))), rfl⟩⟩
theorem cvX4_47 : ev_cvV RX4 47 yX4_product cX4_product 3 (some .int) 2 := ⟨⟨List.mem_filter.mpr ⟨(lw_m2 (List.mem_of_getElem? (i := 111) (by decide +kernel))), rfl⟩, List.mem_filter.mpr ⟨(lw_m2 (List.mem_of_getElem? (i := 101) (by decide +kernel))), rfl⟩, List.mem_filter.mpr ⟨(lw_m1 (List.mem_of_getElem? (i := 2) (by decide +kernel))), rfl⟩, ⟨by decide +kernel, by decide +kernel, by decide +kernel⟩, by decide⟩, List.mem_filter.mpr ⟨(lw_m2 (List.mem_of_getElem? (i := 99) (by decide +kernel))), rfl⟩, List.mem_filter.mpr ⟨(lw_m2 (List.mem_of_getElem? (i := 100) (by decide +kernel))), rfl⟩⟩
theorem cvX10_118 : ev_cvV RX10 118 yX4_logarithm cX4_logarithm 4 (some .int) 1 := ⟨⟨List.mem_filter.mpr ⟨(lw_m2 (List.mem_of_getElem? (i := 112) (by decide +kernel))), rfl⟩, List.mem_filter.mpr ⟨(lw_m2 (List.mem_of_getElem? (i := 115) (by decide +kernel))), rfl⟩, List.mem_filter.mpr ⟨(lw_m1 (List.mem_of_getElem? (i := 2) (by decide +kernel))), rfl⟩, ⟨by decide +kernel, by decide +kernel, by decide +kernel⟩, by decide⟩, List.mem_filter.mpr ⟨(lw_m2 (List.mem_of_getElem? (i := 113) (by decide +kernel))), rfl⟩, List.mem_filter.mpr ⟨(lw_m2 (List.mem_of_getElem? (i := 114) (by decide +kernel))), rfl⟩⟩
theorem cvL_23 : ev_cvV RL 23 yX10_data cX10_data 4 (some .int) 2 := ⟨⟨List.mem_filter.mpr ⟨(lw_m2 (List.mem_of_getElem? (i := 116) (by decide +kernel))), rfl⟩, List.mem_filter.mpr ⟨(lw_m2 (List.mem_of_getElem? (i := 119) (by decide +kernel))), rfl⟩, List.mem_filter.mpr ⟨(lw_m1 (List.mem_of_getElem? (i := 1) (by decide +kernel))), rfl⟩, ⟨by decide +kernel, by decide +kernel, by decide +kernel⟩, by decide⟩, List.mem_filter.mpr ⟨(lw_m2 (List.mem_of_getElem? (i := 117) (by decide +kernel))), rfl⟩, List.mem_filter.mpr ⟨(lw_m2 (List.mem_of_getElem? (i := 118) (by decide +kernel))), rfl⟩⟩
theorem cvX10_124 : ev_cvS RX10 124 yX10_isKind cX10_isKind 1 (some .boolean) 1 := ⟨⟨List.mem_filter.mpr ⟨(lw_m2 (List.mem_of_getElem? (i := 120) (by decide +kernel))), rfl⟩, List.mem_filter.mpr ⟨(lw_m2 (List.mem_of_getElem? (i := 122) (by decide +kernel))), rfl⟩, List.mem_filter.mpr ⟨(lw_m1 (List.mem_of_getElem? (i := 1) (by decide +kernel))), rfl⟩, ⟨by decide +kernel, by decide +kernel, by decide +kernel⟩, by decide⟩, List.mem_filter.mpr ⟨(lw_m2 (List.mem_of_getElem? (i := 121) (by decide +kernel))), rfl⟩⟩
theorem cvX10_127 : ev_cvS RX10 127 yX10_isDigit cX10_isDigit 1 (some .boolean) 1 := ⟨⟨List.mem_filter.mpr ⟨(lw_m2 (List.mem_of_getElem? (i := 125) (by decide +kernel))), rfl⟩, List.mem_filter.mpr ⟨(lw_m2 (List.mem_of_getElem? (i := 127) (by decide +kernel))), rfl⟩, List.mem_filter.mpr ⟨(lw_m1 (List.mem_of_getElem? (i := 1) (by decide +kernel))), rfl⟩, ⟨by decide +kernel, by decide +kernel, by decide +kernel⟩, by decide⟩, List.mem_filter.mpr ⟨(lw_m2 (List.mem_of_getElem? (i := 126) (by decide +kernel))), rfl⟩⟩
theorem cvX10_133 : ev_cvV RX10 133 yX3_addData cX3_addData 4 (some .int) 2 := ⟨⟨List.mem_filter.mpr ⟨(lw_m2 (List.mem_of_getElem? (i := 128) (by decide +kernel))), rfl⟩, List.mem_filter.mpr ⟨(lw_m2 (List.mem_of_getElem? (i := 131) (by decide +kernel))), rfl⟩, List.mem_filter.mpr ⟨(lw_m1 (List.mem_of_getElem? (i := 8) (by decide +kernel))), rfl⟩, ⟨by decide +kernel, by decide +kernel, by decide +kernel⟩, by decide⟩, List.mem_filter.mpr ⟨(lw_m2 (List.mem_of_getElem? (i := 129) (by decide +kernel))), rfl⟩, List.mem_filter.mpr ⟨(lw_m2 (List.mem_of_getElem? (i := 130) (by decide +kernel))), rfl⟩⟩
theorem cvX3_57 : ev_cvV RX3 57 yX3_add cX3_add 7 (some .int) 4 := ⟨⟨List.mem_filter.mpr ⟨(lw_m2 (List.mem_of_getElem? (i := 132) (by decide +kernel))), rfl⟩, List.mem_filter.mpr ⟨(lw_m2 (List.mem_of_getElem? (i := 135) (by decide +kernel))), rfl⟩, List.mem_filter.mpr ⟨(lw_m1 (List.mem_of_getElem? (i := 8) (by decide +kernel))), rfl⟩, ⟨by decide +kernel, by decide +kernel, by decide +kernel⟩, by decide⟩, List.mem_filter.mpr ⟨(lw_m2 (List.mem_of_getElem? (i := 134) (by decide +kernel))), rfl⟩, List.mem_filter.mpr ⟨lw_m0 (List.mem_of_getElem? (i := 0) (by decide +kernel)), rfl⟩⟩
theorem cvX10_136 : ev_cvV RX10 136 yX6_extend cX6_extend 7 none 2 := ⟨⟨List.mem_filter.mpr ⟨(lw_m2 (List.mem_of_getElem? (i := 136) (by decide +kernel))), rfl⟩, List.mem_filter.mpr ⟨(lw_m2 (List.mem_of_getElem? (i := 139) (by decide +kernel))), rfl⟩, List.mem_filter.mpr ⟨(lw_m1 (List.mem_of_getElem? (i := 4) (by decide +kernel))), rfl⟩, ⟨by decide +kernel, by decide +kernel, by decide +kernel⟩, by decide⟩, List.mem_filter.mpr ⟨(lw_m2 (List.mem_of_getElem? (i := 137) (by decide +kernel))), rfl⟩, List.mem_filter.mpr ⟨(lw_m2 (List.mem_of_getElem? (i := 138) (by decide +kernel))), rfl⟩⟩
theorem cvX6_28 : ev_cvV RX6 28 yX3_has cX3_has 2 (some .boolean) 1 := ⟨⟨List.mem_filter.mpr ⟨(lw_m2 (List.mem_of_getElem? (i := 140) (by decide +kernel))), rfl⟩, List.mem_filter.mpr ⟨(lw_m2 (List.mem_of_getElem? (i := 143) (by decide +kernel))), rfl⟩, List.mem_filter.mpr ⟨(lw_m1 (List.mem_of_getElem? (i := 8) (by decide +kernel))), rfl⟩, ⟨by decide +kernel, by decide +kernel, by decide +kernel⟩, by decide⟩, List.mem_filter.mpr ⟨(lw_m2 (List.mem_of_getElem? (i := 141) (by decide +kernel))), rfl⟩, List.mem_filter.mpr ⟨(lw_m2 (List.mem_of_getElem? (i := 142) (by decide +kernel))), rfl⟩⟩
theorem cvX6_34 : ev_cvS RX6 34 yX6_leastOf cX6_leastOf 2 (some .int) 1 := ⟨⟨List.mem_filter.mpr ⟨(lw_m2 (List.mem_of_getElem? (i := 144) (by decide +kernel))), rfl⟩, List.mem_filter.mpr ⟨(lw_m2 (List.mem_of_getElem? (i := 146) (by decide +kernel))), rfl⟩, List.mem_filter.mpr ⟨(lw_m1 (List.mem_of_getElem? (i := 4) (by decide +kernel))), rfl⟩, ⟨by decide +kernel, by decide +kernel, by decide +kernel⟩, by decide⟩, List.mem_filter.mpr ⟨(lw_m2 (List.mem_of_getElem? (i := 145) (by decide +kernel))), rfl⟩⟩
theorem cvX6_37 : ev_cvV RX6 37 yX7_copyFrom cX7_copyFrom 2 none 1 := ⟨⟨List.mem_filter.mpr ⟨(lw_m2 (List.mem_of_getElem? (i := 147) (by decide +kernel))), rfl⟩, List.mem_filter.mpr ⟨(lw_m2 (List.mem_of_getElem? (i := 150) (by decide +kernel))), rfl⟩, List.mem_filter.mpr ⟨(lw_m1 (List.mem_of_getElem? (i := 5) (by decide +kernel))), rfl⟩, ⟨by decide +kernel, by decide +kernel, by decide +kernel⟩, by decide⟩, List.mem_filter.mpr ⟨(lw_m2 (List.mem_of_getElem? (i := 148) (by decide +kernel))), rfl⟩, List.mem_filter.mpr ⟨(lw_m2 (List.mem_of_getElem? (i := 149) (by decide +kernel))), rfl⟩⟩
theorem cvX6_44 : ev_cvV RX6 44 yX7_take cX7_take 5 none 1 := ⟨⟨List.mem_filter.mpr ⟨(lw_m2 (List.mem_of_getElem? (i := 154) (by decide +kernel))), rfl⟩, List.mem_filter.mpr ⟨(lw_m2 (List.mem_of_getElem? (i := 157) (by decide +kernel))), rfl⟩, List.mem_filter.mpr ⟨(lw_m1 (List.mem_of_getElem? (i := 5) (by decide +kernel))), rfl⟩, ⟨by decide +kernel, by decide +kernel, by decide +kernel⟩, by decide⟩, List.mem_filter.mpr ⟨(lw_m2 (List.mem_of_getElem? (i := 155) (by decide +kernel))), rfl⟩, List.mem_filter.mpr ⟨(lw_m2 (List.mem_of_getElem? (i := 156) (by decide +kernel))), rfl⟩⟩
theorem cvX7_42 : ev_cvV RX7 42 yX7_left cX7_left 5 (some .int) 1 := ⟨⟨List.mem_filter.mpr ⟨(lw_m2 (List.mem_of_getElem? (i := 158) (by decide +kernel))), rfl⟩, List.mem_filter.mpr ⟨(lw_m2 (List.mem_of_getElem? (i := 161) (by decide +kernel))), rfl⟩, List.mem_filter.mpr ⟨(lw_m1 (List.mem_of_getElem? (i := 5) (by decide +kernel))), rfl⟩, ⟨by decide +kernel, by decide +kernel, by decide +kernel⟩, by decide⟩, List.mem_filter.mpr ⟨(lw_m2 (List.mem_of_getElem? (i := 159) (by decide +kernel))), rfl⟩, List.mem_filter.mpr ⟨(lw_m2 (List.mem_of_getElem? (i := 160) (by decide +kernel))), rfl⟩⟩
theorem cvX7_38 : ev_cvS RX7 38 yX4_productBy cX4_productBy 7 (some .int) 3 := ⟨⟨List.mem_filter.mpr ⟨(lw_m2 (List.mem_of_getElem? (i := 165) (by decide +kernel))), rfl⟩, List.mem_filter.mpr ⟨(lw_m1 (List.mem_of_getElem? (i := 42) (by decide +kernel))), rfl⟩, List.mem_filter.mpr ⟨(lw_m1 (List.mem_of_getElem? (i := 2) (by decide +kernel))), rfl⟩, ⟨by decide +kernel, by decide +kernel, by decide +kernel⟩, by decide⟩, List.mem_filter.mpr ⟨(lw_m1 (List.mem_of_getElem? (i := 41) (by decide +kernel))), rfl⟩⟩
theorem cvX7_46 : ev_cvV RX7 46 yX4_inverse cX4_inverse 2 (some .int) 1 := ⟨⟨List.mem_filter.mpr ⟨(lw_m2 (List.mem_of_getElem? (i := 166) (by decide +kernel))), rfl⟩, List.mem_filter.mpr ⟨(lw_m2 (List.mem_of_getElem? (i := 105) (by decide +kernel))), rfl⟩, List.mem_filter.mpr ⟨(lw_m1 (List.mem_of_getElem? (i := 2) (by decide +kernel))), rfl⟩, ⟨by decide +kernel, by decide +kernel, by decide +kernel⟩, by decide⟩, List.mem_filter.mpr ⟨(lw_m2 (List.mem_of_getElem? (i := 103) (by decide +kernel))), rfl⟩, List.mem_filter.mpr ⟨(lw_m2 (List.mem_of_getElem? (i := 104) (by decide +kernel))), rfl⟩⟩
theorem cvX7_49 : ev_cvV RX7 49 yX4_product cX4_product 3 (some .int) 2 := ⟨⟨List.mem_filter.mpr ⟨(lw_m2 (List.mem_of_getElem? (i := 167) (by decide +kernel))), rfl⟩, List.mem_filter.mpr ⟨(lw_m2 (List.mem_of_getElem? (i := 101) (by decide +kernel))), rfl⟩, List.mem_filter.mpr ⟨(lw_m1 (List.mem_of_getElem? (i := 2) (by decide +kernel))), rfl⟩, ⟨by decide +kernel, by decide +kernel, by decide +kernel⟩, by decide⟩, List.mem_filter.mpr ⟨(lw_m2 (List.mem_of_getElem? (i := 99) (by decide +kernel))), rfl⟩, List.mem_filter.mpr ⟨(lw_m2 (List.mem_of_getElem? (i := 100) (by decide +kernel))), rfl⟩⟩
theorem cvX6_48 : ev_cvV RX6 48 yX7_left cX7_left 5 (some .int) 1 := ⟨⟨List.mem_filter.mpr ⟨(lw_m2 (List.mem_of_getElem? (i := 168) (by decide +kernel))), rfl⟩, List.mem_filter.mpr ⟨(lw_m2 (List.mem_of_getElem? (i := 161) (by decide +kernel))), rfl⟩, List.mem_filter.mpr ⟨(lw_m1 (List.mem_of_getElem? (i := 5) (by decide +kernel))), rfl⟩, ⟨by decide +kernel, by decide +kernel, by decide +kernel⟩, by decide⟩, List.mem_filter.mpr ⟨(lw_m2 (List.mem_of_getElem? (i := 159) (by decide +kernel))), rfl⟩, List.mem_filter.mpr ⟨(lw_m2 (List.mem_of_getElem? (i := 160) (by decide +kernel))), rfl⟩⟩
theorem cvL_28 : ev_cvV RL 28 yX10_feed cX10_feed 2 (some .int) 1 := ⟨⟨List.mem_filter.mpr ⟨(lw_m2 (List.mem_of_getElem? (i := 169) (by decide +kernel))), rfl⟩, List.mem_filter.mpr ⟨(lw_m2 (List.mem_of_getElem? (i := 172) (by decide +kernel))), rfl⟩, List.mem_filter.mpr ⟨(lw_m1 (List.mem_of_getElem? (i := 1) (by decide +kernel))), rfl⟩, ⟨by decide +kernel, by decide +kernel, by decide +kernel⟩, by decide⟩, List.mem_filter.mpr ⟨(lw_m2 (List.mem_of_getElem? (i := 170) (by decide +kernel))), rfl⟩, List.mem_filter.mpr ⟨(lw_m2 (List.mem_of_getElem? (i := 171) (by decide +kernel))), rfl⟩⟩
theorem cvX10_140 : ev_cvV RX10 140 yX1_add cX1_add 2 (some .boolean) 1 := ⟨⟨List.mem_filter.mpr ⟨(lw_m2 (List.mem_of_getElem? (i := 173) (by decide +kernel))), rfl⟩, List.mem_filter.mpr ⟨(lw_m2 (List.mem_of_getElem? (i := 176) (by decide +kernel))), rfl⟩, List.mem_filter.mpr ⟨(lw_m1 (List.mem_of_getElem? (i := 3) (by decide +kernel))), rfl⟩, ⟨by decide +kernel, by decide +kernel, by decide +kernel⟩, by decide⟩, List.mem_filter.mpr ⟨(lw_m2 (List.mem_of_getElem? (i := 174) (by decide +kernel))), rfl⟩, List.mem_filter.mpr ⟨(lw_m2 (List.mem_of_getElem? (i := 175) (by decide +kernel))), rfl⟩⟩
theorem cvL_32 : ev_cvV RL 32 yX10_parity cX10_parity 5 (some .int) 2 := ⟨⟨List.mem_filter.mpr ⟨(lw_m2 (List.mem_of_getElem? (i := 177) (by decide +kernel))), rfl⟩, List.mem_filter.mpr ⟨(lw_m2 (List.mem_of_getElem? (i := 180) (by decide +kernel))), rfl⟩, List.mem_filter.mpr ⟨(lw_m1 (List.mem_of_getElem? (i := 1) (by decide +kernel))), rfl⟩, ⟨by decide +kernel, by decide +kernel, by decide +kernel⟩, by decide⟩, List.mem_filter.mpr ⟨(lw_m2 (List.mem_of_getElem? (i := 178) (by decide +kernel))), rfl⟩, List.mem_filter.mpr ⟨(lw_m2 (List.mem_of_getElem? (i := 179) (by decide +kernel))), rfl⟩⟩
theorem cvX10_144 : ev_cvV RX10 144 yX1_parse cX1_parse 2 (some .boolean) 1 := ⟨⟨List.mem_filter.mpr ⟨(lw_m2 (List.mem_of_getElem? (i := 181) (by decide +kernel))), rfl⟩, List.mem_filter.mpr ⟨(lw_m2 (List.mem_of_getElem? (i := 184) (by decide +kernel))), rfl⟩, List.mem_filter.mpr ⟨(lw_m1 (List.mem_of_getElem? (i := 3) (by decide +kernel))), rfl⟩, ⟨by decide +kernel, by decide +kernel, by decide +kernel⟩, by decide⟩, List.mem_filter.mpr ⟨(lw_m2 (List.mem_of_getElem? (i := 182) (by decide +kernel))), rfl⟩, List.mem_filter.mpr ⟨(lw_m2 (List.mem_of_getElem? (i := 183) (by decide +kernel))), rfl⟩⟩
theorem cvX1_25 : ev_cvV RX1 25 yX1_parseSum cX1_parseSum 5 (some .boolean) 3 := ⟨⟨List.mem_filter.mpr ⟨(lw_m2 (List.mem_of_getElem? (i := 185) (by decide +kernel))), rfl⟩, List.mem_filter.mpr ⟨(lw_m2 (List.mem_of_getElem? (i := 188) (by decide +kernel))), rfl⟩, List.mem_filter.mpr ⟨(lw_m1 (List.mem_of_getElem? (i := 3) (by decide +kernel))), rfl⟩, ⟨by decide +kernel, by decide +kernel, by decide +kernel⟩, by decide⟩, List.mem_filter.mpr ⟨(lw_m2 (List.mem_of_getElem? (i := 187) (by decide +kernel))), rfl⟩, List.mem_filter.mpr ⟨lw_m0 (List.mem_of_getElem? (i := 1) (by decide +kernel)), rfl⟩⟩
theorem cvX1_29 : ev_cvV RX1 29 yX1_parseTerm cX1_parseTerm 6 (some .boolean) 3 := ⟨⟨List.mem_filter.mpr ⟨(lw_m2 (List.mem_of_getElem? (i := 189) (by decide +kernel))), rfl⟩, List.mem_filter.mpr ⟨(lw_m2 (List.mem_of_getElem? (i := 192) (by decide +kernel))), rfl⟩, List.mem_filter.mpr ⟨(lw_m1 (List.mem_of_getElem? (i := 3) (by decide +kernel))), rfl⟩, ⟨by decide +kernel, by decide +kernel, by decide +kernel⟩, by decide⟩, List.mem_filter.mpr ⟨(lw_m2 (List.mem_of_getElem? (i := 191) (by decide +kernel))), rfl⟩, List.mem_filter.mpr ⟨lw_m0 (List.mem_of_getElem? (i := 2) (by decide +kernel)), rfl⟩⟩
theorem cvX1_36 : ev_cvV RX1 36 yX1_next cX1_next 1 (some .int) 0 := ⟨⟨List.mem_filter.mpr ⟨(lw_m2 (List.mem_of_getElem? (i := 193) (by decide +kernel))), rfl⟩, List.mem_filter.mpr ⟨(lw_m2 (List.mem_of_getElem? (i := 196) (by decide +kernel))), rfl⟩, List.mem_filter.mpr ⟨(lw_m1 (List.mem_of_getElem? (i := 3) (by decide +kernel))), rfl⟩, ⟨by decide +kernel, by decide +kernel, by decide +kernel⟩, by decide⟩, List.mem_filter.mpr ⟨(lw_m2 (List.mem_of_getElem? (i := 195) (by decide +kernel))), rfl⟩, List.mem_filter.mpr ⟨lw_m0 (List.mem_of_getElem? (i := 3) (by decide +kernel)), rfl⟩⟩
theorem cvX1_40 : ev_cvS RX1 40 yX1_hexadecimal cX1_hexadecimal 1 (some .int) 1 := ⟨⟨List.mem_filter.mpr ⟨(lw_m2 (List.mem_of_getElem? (i := 197) (by decide +kernel))), rfl⟩, List.mem_filter.mpr ⟨(lw_m2 (List.mem_of_getElem? (i := 199) (by decide +kernel))), rfl⟩, List.mem_filter.mpr ⟨(lw_m1 (List.mem_of_getElem? (i := 3) (by decide +kernel))), rfl⟩, ⟨by decide +kernel, by decide +kernel, by decide +kernel⟩, by decide⟩, List.mem_filter.mpr ⟨(lw_m2 (List.mem_of_getElem? (i := 198) (by decide +kernel))), rfl⟩⟩
theorem cvX1_44 : ev_cvV RX1 44 yX4_product cX4_product 3 (some .int) 2 := ⟨⟨List.mem_filter.mpr ⟨(lw_m2 (List.mem_of_getElem? (i := 200) (by decide +kernel))), rfl⟩, List.mem_filter.mpr ⟨(lw_m2 (List.mem_of_getElem? (i := 101) (by decide +kernel))), rfl⟩, List.mem_filter.mpr ⟨(lw_m1 (List.mem_of_getElem? (i := 2) (by decide +kernel))), rfl⟩, ⟨by decide +kernel, by decide +kernel, by decide +kernel⟩, by decide⟩, List.mem_filter.mpr ⟨(lw_m2 (List.mem_of_getElem? (i := 99) (by decide +kernel))), rfl⟩, List.mem_filter.mpr ⟨(lw_m2 (List.mem_of_getElem? (i := 100) (by decide +kernel))), rfl⟩⟩
theorem cvX1_32 : ev_cvV RX1 32 yX1_skip cX1_skip 2 (some .boolean) 1 := ⟨⟨List.mem_filter.mpr ⟨(lw_m2 (List.mem_of_getElem? (i := 201) (by decide +kernel))), rfl⟩, List.mem_filter.mpr ⟨(lw_m2 (List.mem_of_getElem? (i := 204) (by decide +kernel))), rfl⟩, List.mem_filter.mpr ⟨(lw_m1 (List.mem_of_getElem? (i := 3) (by decide +kernel))), rfl⟩, ⟨by decide +kernel, by decide +kernel, by decide +kernel⟩, by decide⟩, List.mem_filter.mpr ⟨(lw_m2 (List.mem_of_getElem? (i := 203) (by decide +kernel))), rfl⟩, List.mem_filter.mpr ⟨lw_m0 (List.mem_of_getElem? (i := 4) (by decide +kernel)), rfl⟩⟩
theorem cvX1_50 : ev_cvV RX1 50 yX1_parseData cX1_parseData 3 (some .boolean) 1 := ⟨⟨List.mem_filter.mpr ⟨(lw_m2 (List.mem_of_getElem? (i := 205) (by decide +kernel))), rfl⟩, List.mem_filter.mpr ⟨(lw_m2 (List.mem_of_getElem? (i := 208) (by decide +kernel))), rfl⟩, List.mem_filter.mpr ⟨(lw_m1 (List.mem_of_getElem? (i := 3) (by decide +kernel))), rfl⟩, ⟨by decide +kernel, by decide +kernel, by decide +kernel⟩, by decide⟩, List.mem_filter.mpr ⟨(lw_m2 (List.mem_of_getElem? (i := 207) (by decide +kernel))), rfl⟩, List.mem_filter.mpr ⟨lw_m0 (List.mem_of_getElem? (i := 5) (by decide +kernel)), rfl⟩⟩
theorem cvX10_154 : ev_cvV RX10 154 yX3_needsMissing cX3_needsMissing 3 (some .boolean) 1 := ⟨⟨List.mem_filter.mpr ⟨(lw_m2 (List.mem_of_getElem? (i := 209) (by decide +kernel))), rfl⟩, List.mem_filter.mpr ⟨(lw_m2 (List.mem_of_getElem? (i := 212) (by decide +kernel))), rfl⟩, List.mem_filter.mpr ⟨(lw_m1 (List.mem_of_getElem? (i := 8) (by decide +kernel))), rfl⟩, ⟨by decide +kernel, by decide +kernel, by decide +kernel⟩, by decide⟩, List.mem_filter.mpr ⟨(lw_m2 (List.mem_of_getElem? (i := 210) (by decide +kernel))), rfl⟩, List.mem_filter.mpr ⟨(lw_m2 (List.mem_of_getElem? (i := 211) (by decide +kernel))), rfl⟩⟩
theorem cvX3_76 : ev_cvV RX3 76 yX3_isDataMissing cX3_isDataMissing 2 (some .boolean) 1 := ⟨⟨List.mem_filter.mpr ⟨(lw_m2 (List.mem_of_getElem? (i := 214) (by decide +kernel))), rfl⟩, List.mem_filter.mpr ⟨(lw_m2 (List.mem_of_getElem? (i := 217) (by decide +kernel))), rfl⟩, List.mem_filter.mpr ⟨(lw_m1 (List.mem_of_getElem? (i := 8) (by decide +kernel))), rfl⟩, ⟨by decide +kernel, by decide +kernel, by decide +kernel⟩, by decide⟩, List.mem_filter.mpr ⟨(lw_m2 (List.mem_of_getElem? (i := 215) (by decide +kernel))), rfl⟩, List.mem_filter.mpr ⟨(lw_m2 (List.mem_of_getElem? (i := 216) (by decide +kernel))), rfl⟩⟩
theorem cvX3_69 : ev_cvV RX3 69 yX3_isMissing cX3_isMissing 2 (some .boolean) 1 := ⟨⟨List.mem_filter.mpr ⟨(lw_m2 (List.mem_of_getElem? (i := 218) (by decide +kernel))), rfl⟩, List.mem_filter.mpr ⟨(lw_m2 (List.mem_of_getElem? (i := 221) (by decide +kernel))), rfl⟩, List.mem_filter.mpr ⟨(lw_m1 (List.mem_of_getElem? (i := 8) (by decide +kernel))), rfl⟩, ⟨by decide +kernel, by decide +kernel, by decide +kernel⟩, by decide⟩, List.mem_filter.mpr ⟨(lw_m2 (List.mem_of_getElem? (i := 219) (by decide +kernel))), rfl⟩, List.mem_filter.mpr ⟨(lw_m2 (List.mem_of_getElem? (i := 220) (by decide +kernel))), rfl⟩⟩
theorem cvX10_157 : ev_cvV RX10 157 yX3_addParity cX3_addParity 4 (some .int) 3 := ⟨⟨List.mem_filter.mpr ⟨(lw_m2 (List.mem_of_getElem? (i := 222) (by decide +kernel))), rfl⟩, List.mem_filter.mpr ⟨(lw_m2 (List.mem_of_getElem? (i := 225) (by decide +kernel))), rfl⟩, List.mem_filter.mpr ⟨(lw_m1 (List.mem_of_getElem? (i := 8) (by decide +kernel))), rfl⟩, ⟨by decide +kernel, by decide +kernel, by decide +kernel⟩, by decide⟩, List.mem_filter.mpr ⟨(lw_m2 (List.mem_of_getElem? (i := 223) (by decide +kernel))), rfl⟩, List.mem_filter.mpr ⟨(lw_m2 (List.mem_of_getElem? (i := 224) (by decide +kernel))), rfl⟩⟩
theorem cvL_36 : ev_cvV RL 36 yX10_row cX10_row 5 (some .int) 3 := ⟨⟨List.mem_filter.mpr ⟨(lw_m2 (List.mem_of_getElem? (i := 226) (by decide +kernel))), rfl⟩, List.mem_filter.mpr ⟨(lw_m2 (List.mem_of_getElem? (i := 229) (by decide +kernel))), rfl⟩, List.mem_filter.mpr ⟨(lw_m1 (List.mem_of_getElem? (i := 1) (by decide +kernel))), rfl⟩, ⟨by decide +kernel, by decide +kernel, by decide +kernel⟩, by decide⟩, List.mem_filter.mpr ⟨(lw_m2 (List.mem_of_getElem? (i := 227) (by decide +kernel))), rfl⟩, List.mem_filter.mpr ⟨(lw_m2 (List.mem_of_getElem? (i := 228) (by decide +kernel))), rfl⟩⟩
theorem cvX10_165 : ev_cvV RX10 165 yX3_has cX3_has 2 (some .boolean) 1 := ⟨⟨List.mem_filter.mpr ⟨(lw_m2 (List.mem_of_getElem? (i := 230) (by decide +kernel))), rfl⟩, List.mem_filter.mpr ⟨(lw_m2 (List.mem_of_getElem? (i := 143) (by decide +kernel))), rfl⟩, List.mem_filter.mpr ⟨(lw_m1 (List.mem_of_getElem? (i := 8) (by decide +kernel))), rfl⟩, ⟨by decide +kernel, by decide +kernel, by decide +kernel⟩, by decide⟩, List.mem_filter.mpr ⟨(lw_m2 (List.mem_of_getElem? (i := 141) (by decide +kernel))), rfl⟩, List.mem_filter.mpr ⟨(lw_m2 (List.mem_of_getElem? (i := 142) (by decide +kernel))), rfl⟩⟩
theorem cvL_40 : ev_cvV RL 40 yX10_of cX10_of 4 (some .int) 2 := ⟨⟨List.mem_filter.mpr ⟨(lw_m2 (List.mem_of_getElem? (i := 231) (by decide +kernel))), rfl⟩, List.mem_filter.mpr ⟨(lw_m2 (List.mem_of_getElem? (i := 234) (by decide +kernel))), rfl⟩, List.mem_filter.mpr ⟨(lw_m1 (List.mem_of_getElem? (i := 1) (by decide +kernel))), rfl⟩, ⟨by decide +kernel, by decide +kernel, by decide +kernel⟩, by decide⟩, List.mem_filter.mpr ⟨(lw_m2 (List.mem_of_getElem? (i := 232) (by decide +kernel))), rfl⟩, List.mem_filter.mpr ⟨(lw_m2 (List.mem_of_getElem? (i := 233) (by decide +kernel))), rfl⟩⟩
theorem cvX10_184 : ev_cvV RX10 184 yX3_costOf cX3_costOf 5 (some .int) 1 := ⟨⟨List.mem_filter.mpr ⟨(lw_m2 (List.mem_of_getElem? (i := 235) (by decide +kernel))), rfl⟩, List.mem_filter.mpr ⟨(lw_m2 (List.mem_of_getElem? (i := 238) (by decide +kernel))), rfl⟩, List.mem_filter.mpr ⟨(lw_m1 (List.mem_of_getElem? (i := 8) (by decide +kernel))), rfl⟩, ⟨by decide +kernel, by decide +kernel, by decide +kernel⟩, by decide⟩, List.mem_filter.mpr ⟨(lw_m2 (List.mem_of_getElem? (i := 236) (by decide +kernel))), rfl⟩, List.mem_filter.mpr ⟨(lw_m2 (List.mem_of_getElem? (i := 237) (by decide +kernel))), rfl⟩⟩
theorem cvX3_65 : ev_cvV RX3 65 yX3_has cX3_has 2 (some .boolean) 1 := ⟨⟨List.mem_filter.mpr ⟨(lw_m2 (List.mem_of_getElem? (i := 239) (by decide +kernel))), rfl⟩, List.mem_filter.mpr ⟨(lw_m2 (List.mem_of_getElem? (i := 143) (by decide +kernel))), rfl⟩, List.mem_filter.mpr ⟨(lw_m1 (List.mem_of_getElem? (i := 8) (by decide +kernel))), rfl⟩, ⟨by decide +kernel, by decide +kernel, by decide +kernel⟩, by decide⟩, List.mem_filter.mpr ⟨(lw_m2 (List.mem_of_getElem? (i := 141) (by decide +kernel))), rfl⟩, List.mem_filter.mpr ⟨(lw_m2 (List.mem_of_getElem? (i := 142) (by decide +kernel))), rfl⟩⟩
theorem cvX3_84 : ev_cvS RX3 84 yJ9_max_7cf53 cJ9_max_7cf53 2 (some .int) 2 := ⟨⟨List.mem_filter.mpr ⟨(lw_m3 (List.mem_of_getElem? (i := 0) (by decide +kernel))), rfl⟩, List.mem_filter.mpr ⟨(lw_m1 (List.mem_of_getElem? (i := 208) (by decide +kernel))), rfl⟩, List.mem_filter.mpr ⟨(lw_m1 (List.mem_of_getElem? (i := 10) (by decide +kernel))), rfl⟩, ⟨by decide +kernel, by decide +kernel, by decide +kernel⟩, by decide⟩, List.mem_filter.mpr ⟨(lw_m1 (List.mem_of_getElem? (i := 207) (by decide +kernel))), rfl⟩⟩
theorem cvX3_89 : ev_cvS RX3 89 yJ9_min_7cf53 cJ9_min_7cf53 2 (some .int) 2 := ⟨⟨List.mem_filter.mpr ⟨(lw_m3 (List.mem_of_getElem? (i := 1) (by decide +kernel))), rfl⟩, List.mem_filter.mpr ⟨(lw_m3 (List.mem_of_getElem? (i := 3) (by decide +kernel))), rfl⟩, List.mem_filter.mpr ⟨(lw_m1 (List.mem_of_getElem? (i := 10) (by decide +kernel))), rfl⟩, ⟨by decide +kernel, by decide +kernel, by decide +kernel⟩, by decide⟩, List.mem_filter.mpr ⟨(lw_m3 (List.mem_of_getElem? (i := 2) (by decide +kernel))), rfl⟩⟩
theorem cvX10_187 : ev_cvV RX10 187 yX3_isMissing cX3_isMissing 2 (some .boolean) 1 := ⟨⟨List.mem_filter.mpr ⟨(lw_m3 (List.mem_of_getElem? (i := 4) (by decide +kernel))), rfl⟩, List.mem_filter.mpr ⟨(lw_m2 (List.mem_of_getElem? (i := 221) (by decide +kernel))), rfl⟩, List.mem_filter.mpr ⟨(lw_m1 (List.mem_of_getElem? (i := 8) (by decide +kernel))), rfl⟩, ⟨by decide +kernel, by decide +kernel, by decide +kernel⟩, by decide⟩, List.mem_filter.mpr ⟨(lw_m2 (List.mem_of_getElem? (i := 219) (by decide +kernel))), rfl⟩, List.mem_filter.mpr ⟨(lw_m2 (List.mem_of_getElem? (i := 220) (by decide +kernel))), rfl⟩⟩
theorem cvX10_190 : ev_cvV RX10 190 yX3_symbolOf cX3_symbolOf 5 (some .int) 2 := ⟨⟨List.mem_filter.mpr ⟨(lw_m3 (List.mem_of_getElem? (i := 5) (by decide +kernel))), rfl⟩, List.mem_filter.mpr ⟨(lw_m3 (List.mem_of_getElem? (i := 8) (by decide +kernel))), rfl⟩, List.mem_filter.mpr ⟨(lw_m1 (List.mem_of_getElem? (i := 8) (by decide +kernel))), rfl⟩, ⟨by decide +kernel, by decide +kernel, by decide +kernel⟩, by decide⟩, List.mem_filter.mpr ⟨(lw_m3 (List.mem_of_getElem? (i := 6) (by decide +kernel))), rfl⟩, List.mem_filter.mpr ⟨(lw_m3 (List.mem_of_getElem? (i := 7) (by decide +kernel))), rfl⟩⟩
theorem cvX3_79 : ev_cvV RX3 79 yX4_product cX4_product 3 (some .int) 2 := ⟨⟨List.mem_filter.mpr ⟨(lw_m3 (List.mem_of_getElem? (i := 9) (by decide +kernel))), rfl⟩, List.mem_filter.mpr ⟨(lw_m2 (List.mem_of_getElem? (i := 101) (by decide +kernel))), rfl⟩, List.mem_filter.mpr ⟨(lw_m1 (List.mem_of_getElem? (i := 2) (by decide +kernel))), rfl⟩, ⟨by decide +kernel, by decide +kernel, by decide +kernel⟩, by decide⟩, List.mem_filter.mpr ⟨(lw_m2 (List.mem_of_getElem? (i := 99) (by decide +kernel))), rfl⟩, List.mem_filter.mpr ⟨(lw_m2 (List.mem_of_getElem? (i := 100) (by decide +kernel))), rfl⟩⟩
theorem cvX10_194 : ev_cvV RX10 194 yX2_helpOf cX2_helpOf 7 (some .int) 2 := ⟨⟨List.mem_filter.mpr ⟨(lw_m3 (List.mem_of_getElem? (i := 10) (by decide +kernel))), rfl⟩, List.mem_filter.mpr ⟨(lw_m3 (List.mem_of_getElem? (i := 13) (by decide +kernel))), rfl⟩, List.mem_filter.mpr ⟨(lw_m1 (List.mem_of_getElem? (i := 6) (by decide +kernel))), rfl⟩, ⟨by decide +kernel, by decide +kernel, by decide +kernel⟩, by decide⟩, List.mem_filter.mpr ⟨(lw_m3 (List.mem_of_getElem? (i := 11) (by decide +kernel))), rfl⟩, List.mem_filter.mpr ⟨(lw_m3 (List.mem_of_getElem? (i := 12) (by decide +kernel))), rfl⟩⟩
theorem cvX2_19 : ev_cvV RX2 19 yX3_there cX3_there 1 (some .int) 0 := ⟨⟨List.mem_filter.mpr ⟨(lw_m3 (List.mem_of_getElem? (i := 14) (by decide +kernel))), rfl⟩, List.mem_filter.mpr ⟨(lw_m3 (List.mem_of_getElem? (i := 17) (by decide +kernel))), rfl⟩, List.mem_filter.mpr ⟨(lw_m1 (List.mem_of_getElem? (i := 8) (by decide +kernel))), rfl⟩, ⟨by decide +kernel, by decide +kernel, by decide +kernel⟩, by decide⟩, List.mem_filter.mpr ⟨(lw_m3 (List.mem_of_getElem? (i := 15) (by decide +kernel))), rfl⟩, List.mem_filter.mpr ⟨(lw_m3 (List.mem_of_getElem? (i := 16) (by decide +kernel))), rfl⟩⟩
theorem cvX3_61 : ev_cvV RX3 61 yX3_everyone cX3_everyone 1 (some .int) 0 := ⟨⟨List.mem_filter.mpr ⟨(lw_m3 (List.mem_of_getElem? (i := 18) (by decide +kernel))), rfl⟩, List.mem_filter.mpr ⟨(lw_m3 (List.mem_of_getElem? (i := 21) (by decide +kernel))), rfl⟩, List.mem_filter.mpr ⟨(lw_m1 (List.mem_of_getElem? (i := 8) (by decide +kernel))), rfl⟩, ⟨by decide +kernel, by decide +kernel, by decide +kernel⟩, by decide⟩, List.mem_filter.mpr ⟨(lw_m3 (List.mem_of_getElem? (i := 19) (by decide +kernel))), rfl⟩, List.mem_filter.mpr ⟨(lw_m3 (List.mem_of_getElem? (i := 20) (by decide +kernel))), rfl⟩⟩
theorem cvX2_25 : ev_cvV RX2 25 yX6_tells cX6_tells 3 (some .boolean) 2 := ⟨⟨List.mem_filter.mpr ⟨(lw_m3 (List.mem_of_getElem? (i := 22) (by decide +kernel))), rfl⟩, List.mem_filter.mpr ⟨(lw_m3 (List.mem_of_getElem? (i := 25) (by decide +kernel))), rfl⟩, List.mem_filter.mpr ⟨(lw_m1 (List.mem_of_getElem? (i := 4) (by decide +kernel))), rfl⟩, ⟨by decide +kernel, by decide +kernel, by decide +kernel⟩, by decide⟩, List.mem_filter.mpr ⟨(lw_m3 (List.mem_of_getElem? (i := 23) (by decide +kernel))), rfl⟩, List.mem_filter.mpr ⟨(lw_m3 (List.mem_of_getElem? (i := 24) (by decide +kernel))), rfl⟩⟩
theorem cvX6_24 : ev_cvV RX6 24 yX6_rankOf cX6_rankOf 2 (some .int) 1 := ⟨⟨List.mem_filter.mpr ⟨(lw_m3 (List.mem_of_getElem? (i := 26) (by decide +kernel))), rfl⟩, List.mem_filter.mpr ⟨(lw_m3 (List.mem_of_getElem? (i := 29) (by decide +kernel))), rfl⟩, List.mem_filter.mpr ⟨(lw_m1 (List.mem_of_getElem? (i := 4) (by decide +kernel))), rfl⟩, ⟨by decide +kernel, by decide +kernel, by decide +kernel⟩, by decide⟩, List.mem_filter.mpr ⟨(lw_m3 (List.mem_of_getElem? (i := 27) (by decide +kernel))), rfl⟩, List.mem_filter.mpr ⟨(lw_m3 (List.mem_of_getElem? (i := 28) (by decide +kernel))), rfl⟩⟩
theorem cvX2_31 : ev_cvV RX2 31 yX2_weigh cX2_weigh 6 none 1 := ⟨⟨List.mem_filter.mpr ⟨(lw_m3 (List.mem_of_getElem? (i := 30) (by decide +kernel))), rfl⟩, List.mem_filter.mpr ⟨(lw_m3 (List.mem_of_getElem? (i := 33) (by decide +kernel))), rfl⟩, List.mem_filter.mpr ⟨(lw_m1 (List.mem_of_getElem? (i := 6) (by decide +kernel))), rfl⟩, ⟨by decide +kernel, by decide +kernel, by decide +kernel⟩, by decide⟩, List.mem_filter.mpr ⟨(lw_m3 (List.mem_of_getElem? (i := 32) (by decide +kernel))), rfl⟩, List.mem_filter.mpr ⟨lw_m0 (List.mem_of_getElem? (i := 6) (by decide +kernel)), rfl⟩⟩
theorem cvX2_39 : ev_cvV RX2 39 yX3_costOf cX3_costOf 5 (some .int) 1 := ⟨⟨List.mem_filter.mpr ⟨(lw_m3 (List.mem_of_getElem? (i := 34) (by decide +kernel))), rfl⟩, List.mem_filter.mpr ⟨(lw_m2 (List.mem_of_getElem? (i := 238) (by decide +kernel))), rfl⟩, List.mem_filter.mpr ⟨(lw_m1 (List.mem_of_getElem? (i := 8) (by decide +kernel))), rfl⟩, ⟨by decide +kernel, by decide +kernel, by decide +kernel⟩, by decide⟩, List.mem_filter.mpr ⟨(lw_m2 (List.mem_of_getElem? (i := 236) (by decide +kernel))), rfl⟩, List.mem_filter.mpr ⟨(lw_m2 (List.mem_of_getElem? (i := 237) (by decide +kernel))), rfl⟩⟩
theorem cvX10_198 : ev_cvV RX10 198 yX3_costsOf cX3_costsOf 4 (some .int) 1 := ⟨⟨List.mem_filter.mpr ⟨(lw_m3 (List.mem_of_getElem? (i := 35) (by decide +kernel))), rfl⟩, List.mem_filter.mpr ⟨(lw_m3 (List.mem_of_getElem? (i := 38) (by decide +kernel))), rfl⟩, List.mem_filter.mpr ⟨(lw_m1 (List.mem_of_getElem? (i := 8) (by decide +kernel))), rfl⟩, ⟨by decide +kernel, by decide +kernel, by decide +kernel⟩, by decide⟩, List.mem_filter.mpr ⟨(lw_m3 (List.mem_of_getElem? (i := 36) (by decide +kernel))), rfl⟩, List.mem_filter.mpr ⟨(lw_m3 (List.mem_of_getElem? (i := 37) (by decide +kernel))), rfl⟩⟩
theorem cvX3_92 : ev_cvV RX3 92 yX3_costOf cX3_costOf 5 (some .int) 1 := ⟨⟨List.mem_filter.mpr ⟨(lw_m3 (List.mem_of_getElem? (i := 39) (by decide +kernel))), rfl⟩, List.mem_filter.mpr ⟨(lw_m2 (List.mem_of_getElem? (i := 238) (by decide +kernel))), rfl⟩, List.mem_filter.mpr ⟨(lw_m1 (List.mem_of_getElem? (i := 8) (by decide +kernel))), rfl⟩, ⟨by decide +kernel, by decide +kernel, by decide +kernel⟩, by decide⟩, List.mem_filter.mpr ⟨(lw_m2 (List.mem_of_getElem? (i := 236) (by decide +kernel))), rfl⟩, List.mem_filter.mpr ⟨(lw_m2 (List.mem_of_getElem? (i := 237) (by decide +kernel))), rfl⟩⟩
theorem cvX10_201 : ev_cvV RX10 201 yX10_fewestTellers cX10_fewestTellers 7 (some .int) 1 := ⟨⟨List.mem_filter.mpr ⟨(lw_m3 (List.mem_of_getElem? (i := 40) (by decide +kernel))), rfl⟩, List.mem_filter.mpr ⟨(lw_m3 (List.mem_of_getElem? (i := 43) (by decide +kernel))), rfl⟩, List.mem_filter.mpr ⟨(lw_m1 (List.mem_of_getElem? (i := 1) (by decide +kernel))), rfl⟩, ⟨by decide +kernel, by decide +kernel, by decide +kernel⟩, by decide⟩, List.mem_filter.mpr ⟨(lw_m3 (List.mem_of_getElem? (i := 42) (by decide +kernel))), rfl⟩, List.mem_filter.mpr ⟨lw_m0 (List.mem_of_getElem? (i := 7) (by decide +kernel)), rfl⟩⟩
theorem cvX10_210 : ev_cvV RX10 210 yX3_everyone cX3_everyone 1 (some .int) 0 := ⟨⟨List.mem_filter.mpr ⟨(lw_m3 (List.mem_of_getElem? (i := 44) (by decide +kernel))), rfl⟩, List.mem_filter.mpr ⟨(lw_m3 (List.mem_of_getElem? (i := 21) (by decide +kernel))), rfl⟩, List.mem_filter.mpr ⟨(lw_m1 (List.mem_of_getElem? (i := 8) (by decide +kernel))), rfl⟩, ⟨by decide +kernel, by decide +kernel, by decide +kernel⟩, by decide⟩, List.mem_filter.mpr ⟨(lw_m3 (List.mem_of_getElem? (i := 19) (by decide +kernel))), rfl⟩, List.mem_filter.mpr ⟨(lw_m3 (List.mem_of_getElem? (i := 20) (by decide +kernel))), rfl⟩⟩
theorem cvX10_214 : ev_cvS RX10 214 yJ6_bitCount_0f7a4 cJ6_bitCount_0f7a4 1 (some .int) 1 := ⟨⟨List.mem_filter.mpr ⟨(lw_m3 (List.mem_of_getElem? (i := 45) (by decide +kernel))), rfl⟩, List.mem_filter.mpr ⟨(lw_m3 (List.mem_of_getElem? (i := 47) (by decide +kernel))), rfl⟩, List.mem_filter.mpr ⟨(lw_m1 (List.mem_of_getElem? (i := 15) (by decide +kernel))), rfl⟩, ⟨by decide +kernel, by decide +kernel, by decide +kernel⟩, by decide⟩, List.mem_filter.mpr ⟨(lw_m3 (List.mem_of_getElem? (i := 46) (by decide +kernel))), rfl⟩⟩
theorem cvX10_219 : ev_cvV RX10 219 yX6_tells cX6_tells 3 (some .boolean) 2 := ⟨⟨List.mem_filter.mpr ⟨(lw_m3 (List.mem_of_getElem? (i := 51) (by decide +kernel))), rfl⟩, List.mem_filter.mpr ⟨(lw_m3 (List.mem_of_getElem? (i := 25) (by decide +kernel))), rfl⟩, List.mem_filter.mpr ⟨(lw_m1 (List.mem_of_getElem? (i := 4) (by decide +kernel))), rfl⟩, ⟨by decide +kernel, by decide +kernel, by decide +kernel⟩, by decide⟩, List.mem_filter.mpr ⟨(lw_m3 (List.mem_of_getElem? (i := 23) (by decide +kernel))), rfl⟩, List.mem_filter.mpr ⟨(lw_m3 (List.mem_of_getElem? (i := 24) (by decide +kernel))), rfl⟩⟩
theorem cvX10_207 : ev_cvS RX10 207 yX10_numberAt cX10_numberAt 2 (some .int) 2 := ⟨⟨List.mem_filter.mpr ⟨(lw_m3 (List.mem_of_getElem? (i := 52) (by decide +kernel))), rfl⟩, List.mem_filter.mpr ⟨(lw_m2 (List.mem_of_getElem? (i := 164) (by decide +kernel))), rfl⟩, List.mem_filter.mpr ⟨(lw_m1 (List.mem_of_getElem? (i := 1) (by decide +kernel))), rfl⟩, ⟨by decide +kernel, by decide +kernel, by decide +kernel⟩, by decide⟩, List.mem_filter.mpr ⟨(lw_m2 (List.mem_of_getElem? (i := 163) (by decide +kernel))), rfl⟩⟩
theorem cvL_44 : ev_cvV RL 44 yX10_write cX10_write 5 (some .int) 2 := ⟨⟨List.mem_filter.mpr ⟨(lw_m3 (List.mem_of_getElem? (i := 53) (by decide +kernel))), rfl⟩, List.mem_filter.mpr ⟨(lw_m3 (List.mem_of_getElem? (i := 56) (by decide +kernel))), rfl⟩, List.mem_filter.mpr ⟨(lw_m1 (List.mem_of_getElem? (i := 1) (by decide +kernel))), rfl⟩, ⟨by decide +kernel, by decide +kernel, by decide +kernel⟩, by decide⟩, List.mem_filter.mpr ⟨(lw_m3 (List.mem_of_getElem? (i := 54) (by decide +kernel))), rfl⟩, List.mem_filter.mpr ⟨(lw_m3 (List.mem_of_getElem? (i := 55) (by decide +kernel))), rfl⟩⟩
theorem cvX10_223 : ev_cvV RX10 223 yX3_isDataMissing cX3_isDataMissing 2 (some .boolean) 1 := ⟨⟨List.mem_filter.mpr ⟨(lw_m3 (List.mem_of_getElem? (i := 57) (by decide +kernel))), rfl⟩, List.mem_filter.mpr ⟨(lw_m2 (List.mem_of_getElem? (i := 217) (by decide +kernel))), rfl⟩, List.mem_filter.mpr ⟨(lw_m1 (List.mem_of_getElem? (i := 8) (by decide +kernel))), rfl⟩, ⟨by decide +kernel, by decide +kernel, by decide +kernel⟩, by decide⟩, List.mem_filter.mpr ⟨(lw_m2 (List.mem_of_getElem? (i := 215) (by decide +kernel))), rfl⟩, List.mem_filter.mpr ⟨(lw_m2 (List.mem_of_getElem? (i := 216) (by decide +kernel))), rfl⟩⟩
theorem cvL_48 : ev_cvV RL 48 yX10_lose cX10_lose 2 (some .int) 1 := ⟨⟨List.mem_filter.mpr ⟨(lw_m3 (List.mem_of_getElem? (i := 58) (by decide +kernel))), rfl⟩, List.mem_filter.mpr ⟨(lw_m3 (List.mem_of_getElem? (i := 61) (by decide +kernel))), rfl⟩, List.mem_filter.mpr ⟨(lw_m1 (List.mem_of_getElem? (i := 1) (by decide +kernel))), rfl⟩, ⟨by decide +kernel, by decide +kernel, by decide +kernel⟩, by decide⟩, List.mem_filter.mpr ⟨(lw_m3 (List.mem_of_getElem? (i := 59) (by decide +kernel))), rfl⟩, List.mem_filter.mpr ⟨(lw_m3 (List.mem_of_getElem? (i := 60) (by decide +kernel))), rfl⟩⟩
theorem cvL_52 : ev_cvV RL 52 yX10_repair cX10_repair 2 (some .int) 1 := ⟨⟨List.mem_filter.mpr ⟨(lw_m3 (List.mem_of_getElem? (i := 62) (by decide +kernel))), rfl⟩, List.mem_filter.mpr ⟨(lw_m3 (List.mem_of_getElem? (i := 65) (by decide +kernel))), rfl⟩, List.mem_filter.mpr ⟨(lw_m1 (List.mem_of_getElem? (i := 1) (by decide +kernel))), rfl⟩, ⟨by decide +kernel, by decide +kernel, by decide +kernel⟩, by decide⟩, List.mem_filter.mpr ⟨(lw_m3 (List.mem_of_getElem? (i := 63) (by decide +kernel))), rfl⟩, List.mem_filter.mpr ⟨(lw_m3 (List.mem_of_getElem? (i := 64) (by decide +kernel))), rfl⟩⟩
theorem cvX10_232 : ev_cvV RX10 232 yX2_bringBack cX2_bringBack 5 (some .int) 2 := ⟨⟨List.mem_filter.mpr ⟨(lw_m3 (List.mem_of_getElem? (i := 66) (by decide +kernel))), rfl⟩, List.mem_filter.mpr ⟨(lw_m3 (List.mem_of_getElem? (i := 69) (by decide +kernel))), rfl⟩, List.mem_filter.mpr ⟨(lw_m1 (List.mem_of_getElem? (i := 6) (by decide +kernel))), rfl⟩, ⟨by decide +kernel, by decide +kernel, by decide +kernel⟩, by decide⟩, List.mem_filter.mpr ⟨(lw_m3 (List.mem_of_getElem? (i := 67) (by decide +kernel))), rfl⟩, List.mem_filter.mpr ⟨(lw_m3 (List.mem_of_getElem? (i := 68) (by decide +kernel))), rfl⟩⟩
theorem cvX2_43 : ev_cvV RX2 43 yX3_isMissing cX3_isMissing 2 (some .boolean) 1 := ⟨⟨List.mem_filter.mpr ⟨(lw_m3 (List.mem_of_getElem? (i := 70) (by decide +kernel))), rfl⟩, List.mem_filter.mpr ⟨(lw_m2 (List.mem_of_getElem? (i := 221) (by decide +kernel))), rfl⟩, List.mem_filter.mpr ⟨(lw_m1 (List.mem_of_getElem? (i := 8) (by decide +kernel))), rfl⟩, ⟨by decide +kernel, by decide +kernel, by decide +kernel⟩, by decide⟩, List.mem_filter.mpr ⟨(lw_m2 (List.mem_of_getElem? (i := 219) (by decide +kernel))), rfl⟩, List.mem_filter.mpr ⟨(lw_m2 (List.mem_of_getElem? (i := 220) (by decide +kernel))), rfl⟩⟩
theorem cvX2_47 : ev_cvV RX2 47 yX2_helpOf cX2_helpOf 7 (some .int) 2 := ⟨⟨List.mem_filter.mpr ⟨(lw_m3 (List.mem_of_getElem? (i := 71) (by decide +kernel))), rfl⟩, List.mem_filter.mpr ⟨(lw_m3 (List.mem_of_getElem? (i := 13) (by decide +kernel))), rfl⟩, List.mem_filter.mpr ⟨(lw_m1 (List.mem_of_getElem? (i := 6) (by decide +kernel))), rfl⟩, ⟨by decide +kernel, by decide +kernel, by decide +kernel⟩, by decide⟩, List.mem_filter.mpr ⟨(lw_m3 (List.mem_of_getElem? (i := 11) (by decide +kernel))), rfl⟩, List.mem_filter.mpr ⟨(lw_m3 (List.mem_of_getElem? (i := 12) (by decide +kernel))), rfl⟩⟩
theorem cvX2_51 : ev_cvV RX2 51 yX3_costsOf cX3_costsOf 4 (some .int) 1 := ⟨⟨List.mem_filter.mpr ⟨(lw_m3 (List.mem_of_getElem? (i := 72) (by decide +kernel))), rfl⟩, List.mem_filter.mpr ⟨(lw_m3 (List.mem_of_getElem? (i := 38) (by decide +kernel))), rfl⟩, List.mem_filter.mpr ⟨(lw_m1 (List.mem_of_getElem? (i := 8) (by decide +kernel))), rfl⟩, ⟨by decide +kernel, by decide +kernel, by decide +kernel⟩, by decide⟩, List.mem_filter.mpr ⟨(lw_m3 (List.mem_of_getElem? (i := 36) (by decide +kernel))), rfl⟩, List.mem_filter.mpr ⟨(lw_m3 (List.mem_of_getElem? (i := 37) (by decide +kernel))), rfl⟩⟩
theorem cvX2_57 : ev_cvV RX2 57 yX3_countReads cX3_countReads 3 none 1 := ⟨⟨List.mem_filter.mpr ⟨(lw_m3 (List.mem_of_getElem? (i := 73) (by decide +kernel))), rfl⟩, List.mem_filter.mpr ⟨(lw_m3 (List.mem_of_getElem? (i := 76) (by decide +kernel))), rfl⟩, List.mem_filter.mpr ⟨(lw_m1 (List.mem_of_getElem? (i := 8) (by decide +kernel))), rfl⟩, ⟨by decide +kernel, by decide +kernel, by decide +kernel⟩, by decide⟩, List.mem_filter.mpr ⟨(lw_m3 (List.mem_of_getElem? (i := 74) (by decide +kernel))), rfl⟩, List.mem_filter.mpr ⟨(lw_m3 (List.mem_of_getElem? (i := 75) (by decide +kernel))), rfl⟩⟩
theorem cvL_56 : ev_cvV RL 56 yX10_told cX10_told 3 (some .int) 1 := ⟨⟨List.mem_filter.mpr ⟨(lw_m3 (List.mem_of_getElem? (i := 77) (by decide +kernel))), rfl⟩, List.mem_filter.mpr ⟨(lw_m3 (List.mem_of_getElem? (i := 80) (by decide +kernel))), rfl⟩, List.mem_filter.mpr ⟨(lw_m1 (List.mem_of_getElem? (i := 1) (by decide +kernel))), rfl⟩, ⟨by decide +kernel, by decide +kernel, by decide +kernel⟩, by decide⟩, List.mem_filter.mpr ⟨(lw_m3 (List.mem_of_getElem? (i := 78) (by decide +kernel))), rfl⟩, List.mem_filter.mpr ⟨(lw_m3 (List.mem_of_getElem? (i := 79) (by decide +kernel))), rfl⟩⟩
theorem cvX10_238 : ev_cvV RX10 238 yX10_missingWithHelp cX10_missingWithHelp 4 (some .int) 0 := ⟨⟨List.mem_filter.mpr ⟨(lw_m3 (List.mem_of_getElem? (i := 81) (by decide +kernel))), rfl⟩, List.mem_filter.mpr ⟨(lw_m3 (List.mem_of_getElem? (i := 84) (by decide +kernel))), rfl⟩, List.mem_filter.mpr ⟨(lw_m1 (List.mem_of_getElem? (i := 1) (by decide +kernel))), rfl⟩, ⟨by decide +kernel, by decide +kernel, by decide +kernel⟩, by decide⟩, List.mem_filter.mpr ⟨(lw_m3 (List.mem_of_getElem? (i := 83) (by decide +kernel))), rfl⟩, List.mem_filter.mpr ⟨lw_m0 (List.mem_of_getElem? (i := 8) (by decide +kernel)), rfl⟩⟩
theorem cvX10_241 : ev_cvV RX10 241 yX3_there cX3_there 1 (some .int) 0 := ⟨⟨List.mem_filter.mpr ⟨(lw_m3 (List.mem_of_getElem? (i := 85) (by decide +kernel))), rfl⟩, List.mem_filter.mpr ⟨(lw_m3 (List.mem_of_getElem? (i := 17) (by decide +kernel))), rfl⟩, List.mem_filter.mpr ⟨(lw_m1 (List.mem_of_getElem? (i := 8) (by decide +kernel))), rfl⟩, ⟨by decide +kernel, by decide +kernel, by decide +kernel⟩, by decide⟩, List.mem_filter.mpr ⟨(lw_m3 (List.mem_of_getElem? (i := 15) (by decide +kernel))), rfl⟩, List.mem_filter.mpr ⟨(lw_m3 (List.mem_of_getElem? (i := 16) (by decide +kernel))), rfl⟩⟩
theorem cvX10_244 : ev_cvV RX10 244 yX6_rankOf cX6_rankOf 2 (some .int) 1 := ⟨⟨List.mem_filter.mpr ⟨(lw_m3 (List.mem_of_getElem? (i := 86) (by decide +kernel))), rfl⟩, List.mem_filter.mpr ⟨(lw_m3 (List.mem_of_getElem? (i := 29) (by decide +kernel))), rfl⟩, List.mem_filter.mpr ⟨(lw_m1 (List.mem_of_getElem? (i := 4) (by decide +kernel))), rfl⟩, ⟨by decide +kernel, by decide +kernel, by decide +kernel⟩, by decide⟩, List.mem_filter.mpr ⟨(lw_m3 (List.mem_of_getElem? (i := 27) (by decide +kernel))), rfl⟩, List.mem_filter.mpr ⟨(lw_m3 (List.mem_of_getElem? (i := 28) (by decide +kernel))), rfl⟩⟩
theorem cvX10_247 : ev_cvV RX10 247 yX10_tellAllData cX10_tellAllData 2 (some .boolean) 1 := ⟨⟨List.mem_filter.mpr ⟨(lw_m3 (List.mem_of_getElem? (i := 87) (by decide +kernel))), rfl⟩, List.mem_filter.mpr ⟨(lw_m3 (List.mem_of_getElem? (i := 90) (by decide +kernel))), rfl⟩, List.mem_filter.mpr ⟨(lw_m1 (List.mem_of_getElem? (i := 1) (by decide +kernel))), rfl⟩, ⟨by decide +kernel, by decide +kernel, by decide +kernel⟩, by decide⟩, List.mem_filter.mpr ⟨(lw_m3 (List.mem_of_getElem? (i := 89) (by decide +kernel))), rfl⟩, List.mem_filter.mpr ⟨lw_m0 (List.mem_of_getElem? (i := 9) (by decide +kernel)), rfl⟩⟩
theorem cvX10_250 : ev_cvV RX10 250 yX10_distance cX10_distance 2 (some .int) 0 := ⟨⟨List.mem_filter.mpr ⟨(lw_m3 (List.mem_of_getElem? (i := 91) (by decide +kernel))), rfl⟩, List.mem_filter.mpr ⟨(lw_m3 (List.mem_of_getElem? (i := 94) (by decide +kernel))), rfl⟩, List.mem_filter.mpr ⟨(lw_m1 (List.mem_of_getElem? (i := 1) (by decide +kernel))), rfl⟩, ⟨by decide +kernel, by decide +kernel, by decide +kernel⟩, by decide⟩, List.mem_filter.mpr ⟨(lw_m3 (List.mem_of_getElem? (i := 93) (by decide +kernel))), rfl⟩, List.mem_filter.mpr ⟨lw_m0 (List.mem_of_getElem? (i := 10) (by decide +kernel)), rfl⟩⟩
theorem cvX10_256 : ev_cvV RX10 256 yX10_safeSets cX10_safeSets 5 (some .int) 1 := ⟨⟨List.mem_filter.mpr ⟨(lw_m3 (List.mem_of_getElem? (i := 95) (by decide +kernel))), rfl⟩, List.mem_filter.mpr ⟨(lw_m3 (List.mem_of_getElem? (i := 98) (by decide +kernel))), rfl⟩, List.mem_filter.mpr ⟨(lw_m1 (List.mem_of_getElem? (i := 1) (by decide +kernel))), rfl⟩, ⟨by decide +kernel, by decide +kernel, by decide +kernel⟩, by decide⟩, List.mem_filter.mpr ⟨(lw_m3 (List.mem_of_getElem? (i := 97) (by decide +kernel))), rfl⟩, List.mem_filter.mpr ⟨lw_m0 (List.mem_of_getElem? (i := 11) (by decide +kernel)), rfl⟩⟩
theorem cvX10_259 : ev_cvV RX10 259 yX10_allSets cX10_allSets 4 (some .int) 1 := ⟨⟨List.mem_filter.mpr ⟨(lw_m3 (List.mem_of_getElem? (i := 99) (by decide +kernel))), rfl⟩, List.mem_filter.mpr ⟨(lw_m3 (List.mem_of_getElem? (i := 102) (by decide +kernel))), rfl⟩, List.mem_filter.mpr ⟨(lw_m1 (List.mem_of_getElem? (i := 1) (by decide +kernel))), rfl⟩, ⟨by decide +kernel, by decide +kernel, by decide +kernel⟩, by decide⟩, List.mem_filter.mpr ⟨(lw_m3 (List.mem_of_getElem? (i := 101) (by decide +kernel))), rfl⟩, List.mem_filter.mpr ⟨lw_m0 (List.mem_of_getElem? (i := 12) (by decide +kernel)), rfl⟩⟩
theorem cvL_60 : ev_cvV RL 60 yX10_rank cX10_rank 2 (some .int) 1 := ⟨⟨List.mem_filter.mpr ⟨(lw_m3 (List.mem_of_getElem? (i := 103) (by decide +kernel))), rfl⟩, List.mem_filter.mpr ⟨(lw_m3 (List.mem_of_getElem? (i := 106) (by decide +kernel))), rfl⟩, List.mem_filter.mpr ⟨(lw_m1 (List.mem_of_getElem? (i := 1) (by decide +kernel))), rfl⟩, ⟨by decide +kernel, by decide +kernel, by decide +kernel⟩, by decide⟩, List.mem_filter.mpr ⟨(lw_m3 (List.mem_of_getElem? (i := 104) (by decide +kernel))), rfl⟩, List.mem_filter.mpr ⟨(lw_m3 (List.mem_of_getElem? (i := 105) (by decide +kernel))), rfl⟩⟩
theorem cvL_64 : ev_cvV RL 64 yX10_safe cX10_safe 2 (some .int) 1 := ⟨⟨List.mem_filter.mpr ⟨(lw_m3 (List.mem_of_getElem? (i := 107) (by decide +kernel))), rfl⟩, List.mem_filter.mpr ⟨(lw_m3 (List.mem_of_getElem? (i := 110) (by decide +kernel))), rfl⟩, List.mem_filter.mpr ⟨(lw_m1 (List.mem_of_getElem? (i := 1) (by decide +kernel))), rfl⟩, ⟨by decide +kernel, by decide +kernel, by decide +kernel⟩, by decide⟩, List.mem_filter.mpr ⟨(lw_m3 (List.mem_of_getElem? (i := 108) (by decide +kernel))), rfl⟩, List.mem_filter.mpr ⟨(lw_m3 (List.mem_of_getElem? (i := 109) (by decide +kernel))), rfl⟩⟩
theorem cvX10_262 : ev_cvS RX10 262 yX10_isSetSize cX10_isSetSize 1 (some .boolean) 1 := ⟨⟨List.mem_filter.mpr ⟨(lw_m3 (List.mem_of_getElem? (i := 111) (by decide +kernel))), rfl⟩, List.mem_filter.mpr ⟨(lw_m3 (List.mem_of_getElem? (i := 113) (by decide +kernel))), rfl⟩, List.mem_filter.mpr ⟨(lw_m1 (List.mem_of_getElem? (i := 1) (by decide +kernel))), rfl⟩, ⟨by decide +kernel, by decide +kernel, by decide +kernel⟩, by decide⟩, List.mem_filter.mpr ⟨(lw_m3 (List.mem_of_getElem? (i := 112) (by decide +kernel))), rfl⟩⟩
theorem cvL_68 : ev_cvV RL 68 yX10_best cX10_best 4 (some .int) 3 := ⟨⟨List.mem_filter.mpr ⟨(lw_m3 (List.mem_of_getElem? (i := 114) (by decide +kernel))), rfl⟩, List.mem_filter.mpr ⟨(lw_m3 (List.mem_of_getElem? (i := 117) (by decide +kernel))), rfl⟩, List.mem_filter.mpr ⟨(lw_m1 (List.mem_of_getElem? (i := 1) (by decide +kernel))), rfl⟩, ⟨by decide +kernel, by decide +kernel, by decide +kernel⟩, by decide⟩, List.mem_filter.mpr ⟨(lw_m3 (List.mem_of_getElem? (i := 115) (by decide +kernel))), rfl⟩, List.mem_filter.mpr ⟨(lw_m3 (List.mem_of_getElem? (i := 116) (by decide +kernel))), rfl⟩⟩
theorem cvX10_265 : ev_cvV RX10 265 yX3_isParity cX3_isParity 2 (some .boolean) 1 := ⟨⟨List.mem_filter.mpr ⟨(lw_m3 (List.mem_of_getElem? (i := 118) (by decide +kernel))), rfl⟩, List.mem_filter.mpr ⟨(lw_m3 (List.mem_of_getElem? (i := 121) (by decide +kernel))), rfl⟩, List.mem_filter.mpr ⟨(lw_m1 (List.mem_of_getElem? (i := 8) (by decide +kernel))), rfl⟩, ⟨by decide +kernel, by decide +kernel, by decide +kernel⟩, by decide⟩, List.mem_filter.mpr ⟨(lw_m3 (List.mem_of_getElem? (i := 119) (by decide +kernel))), rfl⟩, List.mem_filter.mpr ⟨(lw_m3 (List.mem_of_getElem? (i := 120) (by decide +kernel))), rfl⟩⟩
theorem cvX10_268 : ev_cvV RX10 268 yX0_bestNumber cX0_bestNumber 8 (some .int) 4 := ⟨⟨List.mem_filter.mpr ⟨(lw_m3 (List.mem_of_getElem? (i := 122) (by decide +kernel))), rfl⟩, List.mem_filter.mpr ⟨(lw_m3 (List.mem_of_getElem? (i := 125) (by decide +kernel))), rfl⟩, List.mem_filter.mpr ⟨(lw_m1 (List.mem_of_getElem? (i := 11) (by decide +kernel))), rfl⟩, ⟨by decide +kernel, by decide +kernel, by decide +kernel⟩, by decide⟩, List.mem_filter.mpr ⟨(lw_m3 (List.mem_of_getElem? (i := 123) (by decide +kernel))), rfl⟩, List.mem_filter.mpr ⟨(lw_m3 (List.mem_of_getElem? (i := 124) (by decide +kernel))), rfl⟩⟩
theorem cvX0_29 : ev_cvV RX0 29 yX3_everyone cX3_everyone 1 (some .int) 0 := ⟨⟨List.mem_filter.mpr ⟨(lw_m3 (List.mem_of_getElem? (i := 126) (by decide +kernel))), rfl⟩, List.mem_filter.mpr ⟨(lw_m3 (List.mem_of_getElem? (i := 21) (by decide +kernel))), rfl⟩, List.mem_filter.mpr ⟨(lw_m1 (List.mem_of_getElem? (i := 8) (by decide +kernel))), rfl⟩, ⟨by decide +kernel, by decide +kernel, by decide +kernel⟩, by decide⟩, List.mem_filter.mpr ⟨(lw_m3 (List.mem_of_getElem? (i := 19) (by decide +kernel))), rfl⟩, List.mem_filter.mpr ⟨(lw_m3 (List.mem_of_getElem? (i := 20) (by decide +kernel))), rfl⟩⟩
theorem cvX0_35 : ev_cvS RX0 35 yJ6_bitCount_0f7a4 cJ6_bitCount_0f7a4 1 (some .int) 1 := ⟨⟨List.mem_filter.mpr ⟨(lw_m3 (List.mem_of_getElem? (i := 127) (by decide +kernel))), rfl⟩, List.mem_filter.mpr ⟨(lw_m3 (List.mem_of_getElem? (i := 47) (by decide +kernel))), rfl⟩, List.mem_filter.mpr ⟨(lw_m1 (List.mem_of_getElem? (i := 15) (by decide +kernel))), rfl⟩, ⟨by decide +kernel, by decide +kernel, by decide +kernel⟩, by decide⟩, List.mem_filter.mpr ⟨(lw_m3 (List.mem_of_getElem? (i := 46) (by decide +kernel))), rfl⟩⟩
theorem cvX0_41 : ev_cvV RX0 41 yX0_tryAll cX0_tryAll 11 none 4 := ⟨⟨List.mem_filter.mpr ⟨(lw_m3 (List.mem_of_getElem? (i := 128) (by decide +kernel))), rfl⟩, List.mem_filter.mpr ⟨(lw_m3 (List.mem_of_getElem? (i := 131) (by decide +kernel))), rfl⟩, List.mem_filter.mpr ⟨(lw_m1 (List.mem_of_getElem? (i := 11) (by decide +kernel))), rfl⟩, ⟨by decide +kernel, by decide +kernel, by decide +kernel⟩, by decide⟩, List.mem_filter.mpr ⟨(lw_m3 (List.mem_of_getElem? (i := 130) (by decide +kernel))), rfl⟩, List.mem_filter.mpr ⟨lw_m0 (List.mem_of_getElem? (i := 13) (by decide +kernel)), rfl⟩⟩
theorem cvX0_45 : ev_cvV RX0 45 yX7_clear cX7_clear 2 none 0 := ⟨⟨List.mem_filter.mpr ⟨(lw_m3 (List.mem_of_getElem? (i := 132) (by decide +kernel))), rfl⟩, List.mem_filter.mpr ⟨(lw_m3 (List.mem_of_getElem? (i := 135) (by decide +kernel))), rfl⟩, List.mem_filter.mpr ⟨(lw_m1 (List.mem_of_getElem? (i := 5) (by decide +kernel))), rfl⟩, ⟨by decide +kernel, by decide +kernel, by decide +kernel⟩, by decide⟩, List.mem_filter.mpr ⟨(lw_m3 (List.mem_of_getElem? (i := 133) (by decide +kernel))), rfl⟩, List.mem_filter.mpr ⟨(lw_m3 (List.mem_of_getElem? (i := 134) (by decide +kernel))), rfl⟩⟩
theorem cvX0_48 : ev_cvV RX0 48 yX7_takeAll cX7_takeAll 4 none 2 := ⟨⟨List.mem_filter.mpr ⟨(lw_m3 (List.mem_of_getElem? (i := 136) (by decide +kernel))), rfl⟩, List.mem_filter.mpr ⟨(lw_m3 (List.mem_of_getElem? (i := 139) (by decide +kernel))), rfl⟩, List.mem_filter.mpr ⟨(lw_m1 (List.mem_of_getElem? (i := 5) (by decide +kernel))), rfl⟩, ⟨by decide +kernel, by decide +kernel, by decide +kernel⟩, by decide⟩, List.mem_filter.mpr ⟨(lw_m3 (List.mem_of_getElem? (i := 137) (by decide +kernel))), rfl⟩, List.mem_filter.mpr ⟨(lw_m3 (List.mem_of_getElem? (i := 138) (by decide +kernel))), rfl⟩⟩
theorem cvX7_58 : ev_cvV RX7 58 yX7_take cX7_take 5 none 1 := ⟨⟨List.mem_filter.mpr ⟨(lw_m3 (List.mem_of_getElem? (i := 140) (by decide +kernel))), rfl⟩, List.mem_filter.mpr ⟨(lw_m2 (List.mem_of_getElem? (i := 157) (by decide +kernel))), rfl⟩, List.mem_filter.mpr ⟨(lw_m1 (List.mem_of_getElem? (i := 5) (by decide +kernel))), rfl⟩, ⟨by decide +kernel, by decide +kernel, by decide +kernel⟩, by decide⟩, List.mem_filter.mpr ⟨(lw_m2 (List.mem_of_getElem? (i := 155) (by decide +kernel))), rfl⟩, List.mem_filter.mpr ⟨(lw_m2 (List.mem_of_getElem? (i := 156) (by decide +kernel))), rfl⟩⟩
theorem cvX0_52 : ev_cvV RX0 52 yX7_copyFrom cX7_copyFrom 2 none 1 := ⟨⟨List.mem_filter.mpr ⟨(lw_m3 (List.mem_of_getElem? (i := 141) (by decide +kernel))), rfl⟩, List.mem_filter.mpr ⟨(lw_m2 (List.mem_of_getElem? (i := 150) (by decide +kernel))), rfl⟩, List.mem_filter.mpr ⟨(lw_m1 (List.mem_of_getElem? (i := 5) (by decide +kernel))), rfl⟩, ⟨by decide +kernel, by decide +kernel, by decide +kernel⟩, by decide⟩, List.mem_filter.mpr ⟨(lw_m2 (List.mem_of_getElem? (i := 148) (by decide +kernel))), rfl⟩, List.mem_filter.mpr ⟨(lw_m2 (List.mem_of_getElem? (i := 149) (by decide +kernel))), rfl⟩⟩
theorem cvX0_60 : ev_cvV RX0 60 yX3_has cX3_has 2 (some .boolean) 1 := ⟨⟨List.mem_filter.mpr ⟨(lw_m3 (List.mem_of_getElem? (i := 142) (by decide +kernel))), rfl⟩, List.mem_filter.mpr ⟨(lw_m2 (List.mem_of_getElem? (i := 143) (by decide +kernel))), rfl⟩, List.mem_filter.mpr ⟨(lw_m1 (List.mem_of_getElem? (i := 8) (by decide +kernel))), rfl⟩, ⟨by decide +kernel, by decide +kernel, by decide +kernel⟩, by decide⟩, List.mem_filter.mpr ⟨(lw_m2 (List.mem_of_getElem? (i := 141) (by decide +kernel))), rfl⟩, List.mem_filter.mpr ⟨(lw_m2 (List.mem_of_getElem? (i := 142) (by decide +kernel))), rfl⟩⟩
theorem cvX0_70 : ev_cvV RX0 70 yX7_left cX7_left 5 (some .int) 1 := ⟨⟨List.mem_filter.mpr ⟨(lw_m3 (List.mem_of_getElem? (i := 143) (by decide +kernel))), rfl⟩, List.mem_filter.mpr ⟨(lw_m2 (List.mem_of_getElem? (i := 161) (by decide +kernel))), rfl⟩, List.mem_filter.mpr ⟨(lw_m1 (List.mem_of_getElem? (i := 5) (by decide +kernel))), rfl⟩, ⟨by decide +kernel, by decide +kernel, by decide +kernel⟩, by decide⟩, List.mem_filter.mpr ⟨(lw_m2 (List.mem_of_getElem? (i := 159) (by decide +kernel))), rfl⟩, List.mem_filter.mpr ⟨(lw_m2 (List.mem_of_getElem? (i := 160) (by decide +kernel))), rfl⟩⟩
theorem cvL_72 : ev_cvV RL 72 yX10_see cX10_see 3 (some .int) 2 := ⟨⟨List.mem_filter.mpr ⟨(lw_m3 (List.mem_of_getElem? (i := 144) (by decide +kernel))), rfl⟩, List.mem_filter.mpr ⟨(lw_m3 (List.mem_of_getElem? (i := 147) (by decide +kernel))), rfl⟩, List.mem_filter.mpr ⟨(lw_m1 (List.mem_of_getElem? (i := 1) (by decide +kernel))), rfl⟩, ⟨by decide +kernel, by decide +kernel, by decide +kernel⟩, by decide⟩, List.mem_filter.mpr ⟨(lw_m3 (List.mem_of_getElem? (i := 145) (by decide +kernel))), rfl⟩, List.mem_filter.mpr ⟨(lw_m3 (List.mem_of_getElem? (i := 146) (by decide +kernel))), rfl⟩⟩
theorem cvX10_276 : ev_cvV RX10 276 yX10_tellSymbol cX10_tellSymbol 4 (some .int) 3 := ⟨⟨List.mem_filter.mpr ⟨(lw_m3 (List.mem_of_getElem? (i := 148) (by decide +kernel))), rfl⟩, List.mem_filter.mpr ⟨(lw_m3 (List.mem_of_getElem? (i := 151) (by decide +kernel))), rfl⟩, List.mem_filter.mpr ⟨(lw_m1 (List.mem_of_getElem? (i := 1) (by decide +kernel))), rfl⟩, ⟨by decide +kernel, by decide +kernel, by decide +kernel⟩, by decide⟩, List.mem_filter.mpr ⟨(lw_m3 (List.mem_of_getElem? (i := 150) (by decide +kernel))), rfl⟩, List.mem_filter.mpr ⟨lw_m0 (List.mem_of_getElem? (i := 14) (by decide +kernel)), rfl⟩⟩
theorem cvX10_283 : ev_cvV RX10 283 yX5_add cX5_add 3 (some .boolean) 2 := ⟨⟨List.mem_filter.mpr ⟨(lw_m3 (List.mem_of_getElem? (i := 152) (by decide +kernel))), rfl⟩, List.mem_filter.mpr ⟨(lw_m3 (List.mem_of_getElem? (i := 155) (by decide +kernel))), rfl⟩, List.mem_filter.mpr ⟨(lw_m1 (List.mem_of_getElem? (i := 9) (by decide +kernel))), rfl⟩, ⟨by decide +kernel, by decide +kernel, by decide +kernel⟩, by decide⟩, List.mem_filter.mpr ⟨(lw_m3 (List.mem_of_getElem? (i := 153) (by decide +kernel))), rfl⟩, List.mem_filter.mpr ⟨(lw_m3 (List.mem_of_getElem? (i := 154) (by decide +kernel))), rfl⟩⟩
theorem cvL_76 : ev_cvV RL 76 yX10_ways cX10_ways 3 (some .long) 1 := ⟨⟨List.mem_filter.mpr ⟨(lw_m3 (List.mem_of_getElem? (i := 156) (by decide +kernel))), rfl⟩, List.mem_filter.mpr ⟨(lw_m3 (List.mem_of_getElem? (i := 159) (by decide +kernel))), rfl⟩, List.mem_filter.mpr ⟨(lw_m1 (List.mem_of_getElem? (i := 1) (by decide +kernel))), rfl⟩, ⟨by decide +kernel, by decide +kernel, by decide +kernel⟩, by decide⟩, List.mem_filter.mpr ⟨(lw_m3 (List.mem_of_getElem? (i := 157) (by decide +kernel))), rfl⟩, List.mem_filter.mpr ⟨(lw_m3 (List.mem_of_getElem? (i := 158) (by decide +kernel))), rfl⟩⟩
theorem cvX10_285 : ev_cvV RX10 285 yX10_gatherSeen cX10_gatherSeen 2 (some .boolean) 0 := ⟨⟨List.mem_filter.mpr ⟨(lw_m3 (List.mem_of_getElem? (i := 160) (by decide +kernel))), rfl⟩, List.mem_filter.mpr ⟨(lw_m3 (List.mem_of_getElem? (i := 163) (by decide +kernel))), rfl⟩, List.mem_filter.mpr ⟨(lw_m1 (List.mem_of_getElem? (i := 1) (by decide +kernel))), rfl⟩, ⟨by decide +kernel, by decide +kernel, by decide +kernel⟩, by decide⟩, List.mem_filter.mpr ⟨(lw_m3 (List.mem_of_getElem? (i := 162) (by decide +kernel))), rfl⟩, List.mem_filter.mpr ⟨lw_m0 (List.mem_of_getElem? (i := 15) (by decide +kernel)), rfl⟩⟩
theorem cvX10_296 : ev_cvV RX10 296 yX7_clear cX7_clear 2 none 0 := ⟨⟨List.mem_filter.mpr ⟨(lw_m3 (List.mem_of_getElem? (i := 164) (by decide +kernel))), rfl⟩, List.mem_filter.mpr ⟨(lw_m3 (List.mem_of_getElem? (i := 135) (by decide +kernel))), rfl⟩, List.mem_filter.mpr ⟨(lw_m1 (List.mem_of_getElem? (i := 5) (by decide +kernel))), rfl⟩, ⟨by decide +kernel, by decide +kernel, by decide +kernel⟩, by decide⟩, List.mem_filter.mpr ⟨(lw_m3 (List.mem_of_getElem? (i := 133) (by decide +kernel))), rfl⟩, List.mem_filter.mpr ⟨(lw_m3 (List.mem_of_getElem? (i := 134) (by decide +kernel))), rfl⟩⟩
theorem cvX10_302 : ev_cvV RX10 302 yX10_seenForm cX10_seenForm 3 (some .int) 1 := ⟨⟨List.mem_filter.mpr ⟨(lw_m3 (List.mem_of_getElem? (i := 165) (by decide +kernel))), rfl⟩, List.mem_filter.mpr ⟨(lw_m3 (List.mem_of_getElem? (i := 168) (by decide +kernel))), rfl⟩, List.mem_filter.mpr ⟨(lw_m1 (List.mem_of_getElem? (i := 1) (by decide +kernel))), rfl⟩, ⟨by decide +kernel, by decide +kernel, by decide +kernel⟩, by decide⟩, List.mem_filter.mpr ⟨(lw_m3 (List.mem_of_getElem? (i := 167) (by decide +kernel))), rfl⟩, List.mem_filter.mpr ⟨lw_m0 (List.mem_of_getElem? (i := 16) (by decide +kernel)), rfl⟩⟩
theorem cvX10_308 : ev_cvV RX10 308 yX7_take cX7_take 5 none 1 := ⟨⟨List.mem_filter.mpr ⟨(lw_m3 (List.mem_of_getElem? (i := 169) (by decide +kernel))), rfl⟩, List.mem_filter.mpr ⟨(lw_m2 (List.mem_of_getElem? (i := 157) (by decide +kernel))), rfl⟩, List.mem_filter.mpr ⟨(lw_m1 (List.mem_of_getElem? (i := 5) (by decide +kernel))), rfl⟩, ⟨by decide +kernel, by decide +kernel, by decide +kernel⟩, by decide⟩, List.mem_filter.mpr ⟨(lw_m2 (List.mem_of_getElem? (i := 155) (by decide +kernel))), rfl⟩, List.mem_filter.mpr ⟨(lw_m2 (List.mem_of_getElem? (i := 156) (by decide +kernel))), rfl⟩⟩
theorem cvX10_290 : ev_cvV RX10 290 yX10_leastWay cX10_leastWay 8 (some .long) 0 := ⟨⟨List.mem_filter.mpr ⟨(lw_m3 (List.mem_of_getElem? (i := 170) (by decide +kernel))), rfl⟩, List.mem_filter.mpr ⟨(lw_m3 (List.mem_of_getElem? (i := 173) (by decide +kernel))), rfl⟩, List.mem_filter.mpr ⟨(lw_m1 (List.mem_of_getElem? (i := 1) (by decide +kernel))), rfl⟩, ⟨by decide +kernel, by decide +kernel, by decide +kernel⟩, by decide⟩, List.mem_filter.mpr ⟨(lw_m3 (List.mem_of_getElem? (i := 172) (by decide +kernel))), rfl⟩, List.mem_filter.mpr ⟨lw_m0 (List.mem_of_getElem? (i := 17) (by decide +kernel)), rfl⟩⟩
theorem cvL_81 : ev_cvV RL 81 yX10_can cX10_can 4 (some .int) 1 := ⟨⟨List.mem_filter.mpr ⟨(lw_m3 (List.mem_of_getElem? (i := 176) (by decide +kernel))), rfl⟩, List.mem_filter.mpr ⟨(lw_m3 (List.mem_of_getElem? (i := 179) (by decide +kernel))), rfl⟩, List.mem_filter.mpr ⟨(lw_m1 (List.mem_of_getElem? (i := 1) (by decide +kernel))), rfl⟩, ⟨by decide +kernel, by decide +kernel, by decide +kernel⟩, by decide⟩, List.mem_filter.mpr ⟨(lw_m3 (List.mem_of_getElem? (i := 177) (by decide +kernel))), rfl⟩, List.mem_filter.mpr ⟨(lw_m3 (List.mem_of_getElem? (i := 178) (by decide +kernel))), rfl⟩⟩
theorem cvX10_315 : ev_cvV RX10 315 yX7_left cX7_left 5 (some .int) 1 := ⟨⟨List.mem_filter.mpr ⟨(lw_m3 (List.mem_of_getElem? (i := 180) (by decide +kernel))), rfl⟩, List.mem_filter.mpr ⟨(lw_m2 (List.mem_of_getElem? (i := 161) (by decide +kernel))), rfl⟩, List.mem_filter.mpr ⟨(lw_m1 (List.mem_of_getElem? (i := 5) (by decide +kernel))), rfl⟩, ⟨by decide +kernel, by decide +kernel, by decide +kernel⟩, by decide⟩, List.mem_filter.mpr ⟨(lw_m2 (List.mem_of_getElem? (i := 159) (by decide +kernel))), rfl⟩, List.mem_filter.mpr ⟨(lw_m2 (List.mem_of_getElem? (i := 160) (by decide +kernel))), rfl⟩⟩
theorem cvL_85 : ev_cvV RL 85 yX10_odds cX10_odds 3 (some .long) 2 := ⟨⟨List.mem_filter.mpr ⟨(lw_m3 (List.mem_of_getElem? (i := 182) (by decide +kernel))), rfl⟩, List.mem_filter.mpr ⟨(lw_m3 (List.mem_of_getElem? (i := 185) (by decide +kernel))), rfl⟩, List.mem_filter.mpr ⟨(lw_m1 (List.mem_of_getElem? (i := 1) (by decide +kernel))), rfl⟩, ⟨by decide +kernel, by decide +kernel, by decide +kernel⟩, by decide⟩, List.mem_filter.mpr ⟨(lw_m3 (List.mem_of_getElem? (i := 183) (by decide +kernel))), rfl⟩, List.mem_filter.mpr ⟨(lw_m3 (List.mem_of_getElem? (i := 184) (by decide +kernel))), rfl⟩⟩
theorem cvX10_319 : ev_cvS RX10 319 yX10_isPart cX10_isPart 1 (some .boolean) 1 := ⟨⟨List.mem_filter.mpr ⟨(lw_m3 (List.mem_of_getElem? (i := 186) (by decide +kernel))), rfl⟩, List.mem_filter.mpr ⟨(lw_m3 (List.mem_of_getElem? (i := 188) (by decide +kernel))), rfl⟩, List.mem_filter.mpr ⟨(lw_m1 (List.mem_of_getElem? (i := 1) (by decide +kernel))), rfl⟩, ⟨by decide +kernel, by decide +kernel, by decide +kernel⟩, by decide⟩, List.mem_filter.mpr ⟨(lw_m3 (List.mem_of_getElem? (i := 187) (by decide +kernel))), rfl⟩⟩
theorem cvX10_322 : ev_cvS RX10 322 yX10_partOf cX10_partOf 4 (some .long) 3 := ⟨⟨List.mem_filter.mpr ⟨(lw_m3 (List.mem_of_getElem? (i := 189) (by decide +kernel))), rfl⟩, List.mem_filter.mpr ⟨(lw_m3 (List.mem_of_getElem? (i := 191) (by decide +kernel))), rfl⟩, List.mem_filter.mpr ⟨(lw_m1 (List.mem_of_getElem? (i := 1) (by decide +kernel))), rfl⟩, ⟨by decide +kernel, by decide +kernel, by decide +kernel⟩, by decide⟩, List.mem_filter.mpr ⟨(lw_m3 (List.mem_of_getElem? (i := 190) (by decide +kernel))), rfl⟩⟩
theorem cvX10_326 : ev_cvS RX10 326 yX10_greatestMeasure cX10_greatestMeasure 6 (some .int) 2 := ⟨⟨List.mem_filter.mpr ⟨(lw_m3 (List.mem_of_getElem? (i := 192) (by decide +kernel))), rfl⟩, List.mem_filter.mpr ⟨(lw_m3 (List.mem_of_getElem? (i := 194) (by decide +kernel))), rfl⟩, List.mem_filter.mpr ⟨(lw_m1 (List.mem_of_getElem? (i := 1) (by decide +kernel))), rfl⟩, ⟨by decide +kernel, by decide +kernel, by decide +kernel⟩, by decide⟩, List.mem_filter.mpr ⟨(lw_m3 (List.mem_of_getElem? (i := 193) (by decide +kernel))), rfl⟩⟩
theorem cvL_90 : ev_cvV RL 90 yX10_mean cX10_mean 6 (some .long) 1 := ⟨⟨List.mem_filter.mpr ⟨(lw_m3 (List.mem_of_getElem? (i := 195) (by decide +kernel))), rfl⟩, List.mem_filter.mpr ⟨(lw_m3 (List.mem_of_getElem? (i := 198) (by decide +kernel))), rfl⟩, List.mem_filter.mpr ⟨(lw_m1 (List.mem_of_getElem? (i := 1) (by decide +kernel))), rfl⟩, ⟨by decide +kernel, by decide +kernel, by decide +kernel⟩, by decide⟩, List.mem_filter.mpr ⟨(lw_m3 (List.mem_of_getElem? (i := 196) (by decide +kernel))), rfl⟩, List.mem_filter.mpr ⟨(lw_m3 (List.mem_of_getElem? (i := 197) (by decide +kernel))), rfl⟩⟩
theorem cvL_94 : ev_cvV RL 94 yX10_plan cX10_plan 3 (some .int) 2 := ⟨⟨List.mem_filter.mpr ⟨(lw_m3 (List.mem_of_getElem? (i := 199) (by decide +kernel))), rfl⟩, List.mem_filter.mpr ⟨(lw_m3 (List.mem_of_getElem? (i := 202) (by decide +kernel))), rfl⟩, List.mem_filter.mpr ⟨(lw_m1 (List.mem_of_getElem? (i := 1) (by decide +kernel))), rfl⟩, ⟨by decide +kernel, by decide +kernel, by decide +kernel⟩, by decide⟩, List.mem_filter.mpr ⟨(lw_m3 (List.mem_of_getElem? (i := 200) (by decide +kernel))), rfl⟩, List.mem_filter.mpr ⟨(lw_m3 (List.mem_of_getElem? (i := 201) (by decide +kernel))), rfl⟩⟩
theorem cvL_98 : ev_cvV RL 98 yX10_ends cX10_ends 4 (some .int) 1 := ⟨⟨List.mem_filter.mpr ⟨(lw_m3 (List.mem_of_getElem? (i := 203) (by decide +kernel))), rfl⟩, List.mem_filter.mpr ⟨(lw_m3 (List.mem_of_getElem? (i := 206) (by decide +kernel))), rfl⟩, List.mem_filter.mpr ⟨(lw_m1 (List.mem_of_getElem? (i := 1) (by decide +kernel))), rfl⟩, ⟨by decide +kernel, by decide +kernel, by decide +kernel⟩, by decide⟩, List.mem_filter.mpr ⟨(lw_m3 (List.mem_of_getElem? (i := 204) (by decide +kernel))), rfl⟩, List.mem_filter.mpr ⟨(lw_m3 (List.mem_of_getElem? (i := 205) (by decide +kernel))), rfl⟩⟩
theorem cvX10_332 : ev_cvV RX10 332 yX3_copyFrom cX3_copyFrom 3 none 1 := ⟨⟨List.mem_filter.mpr ⟨(lw_m3 (List.mem_of_getElem? (i := 207) (by decide +kernel))), rfl⟩, List.mem_filter.mpr ⟨(lw_m3 (List.mem_of_getElem? (i := 210) (by decide +kernel))), rfl⟩, List.mem_filter.mpr ⟨(lw_m1 (List.mem_of_getElem? (i := 8) (by decide +kernel))), rfl⟩, ⟨by decide +kernel, by decide +kernel, by decide +kernel⟩, by decide⟩, List.mem_filter.mpr ⟨(lw_m3 (List.mem_of_getElem? (i := 208) (by decide +kernel))), rfl⟩, List.mem_filter.mpr ⟨(lw_m3 (List.mem_of_getElem? (i := 209) (by decide +kernel))), rfl⟩⟩
theorem cvX10_336 : ev_cvV RX10 336 yX10_playStep cX10_playStep 3 (some .int) 2 := ⟨⟨List.mem_filter.mpr ⟨(lw_m3 (List.mem_of_getElem? (i := 212) (by decide +kernel))), rfl⟩, List.mem_filter.mpr ⟨(lw_m3 (List.mem_of_getElem? (i := 215) (by decide +kernel))), rfl⟩, List.mem_filter.mpr ⟨(lw_m1 (List.mem_of_getElem? (i := 1) (by decide +kernel))), rfl⟩, ⟨by decide +kernel, by decide +kernel, by decide +kernel⟩, by decide⟩, List.mem_filter.mpr ⟨(lw_m3 (List.mem_of_getElem? (i := 214) (by decide +kernel))), rfl⟩, List.mem_filter.mpr ⟨lw_m0 (List.mem_of_getElem? (i := 18) (by decide +kernel)), rfl⟩⟩
theorem cvX10_339 : ev_cvS RX10 339 yJ9_max_7cf53 cJ9_max_7cf53 2 (some .int) 2 := ⟨⟨List.mem_filter.mpr ⟨(lw_m3 (List.mem_of_getElem? (i := 216) (by decide +kernel))), rfl⟩, List.mem_filter.mpr ⟨(lw_m1 (List.mem_of_getElem? (i := 208) (by decide +kernel))), rfl⟩, List.mem_filter.mpr ⟨(lw_m1 (List.mem_of_getElem? (i := 10) (by decide +kernel))), rfl⟩, ⟨by decide +kernel, by decide +kernel, by decide +kernel⟩, by decide⟩, List.mem_filter.mpr ⟨(lw_m1 (List.mem_of_getElem? (i := 207) (by decide +kernel))), rfl⟩⟩
theorem cvL_102 : ev_cvV RL 102 yX10_book cX10_book 3 (some .int) 2 := ⟨⟨List.mem_filter.mpr ⟨(lw_m3 (List.mem_of_getElem? (i := 217) (by decide +kernel))), rfl⟩, List.mem_filter.mpr ⟨(lw_m3 (List.mem_of_getElem? (i := 220) (by decide +kernel))), rfl⟩, List.mem_filter.mpr ⟨(lw_m1 (List.mem_of_getElem? (i := 1) (by decide +kernel))), rfl⟩, ⟨by decide +kernel, by decide +kernel, by decide +kernel⟩, by decide⟩, List.mem_filter.mpr ⟨(lw_m3 (List.mem_of_getElem? (i := 218) (by decide +kernel))), rfl⟩, List.mem_filter.mpr ⟨(lw_m3 (List.mem_of_getElem? (i := 219) (by decide +kernel))), rfl⟩⟩
theorem cvL_106 : ev_cvV RL 106 yX10_looked cX10_looked 2 (some .int) 0 := ⟨⟨List.mem_filter.mpr ⟨(lw_m3 (List.mem_of_getElem? (i := 221) (by decide +kernel))), rfl⟩, List.mem_filter.mpr ⟨(lw_m3 (List.mem_of_getElem? (i := 224) (by decide +kernel))), rfl⟩, List.mem_filter.mpr ⟨(lw_m1 (List.mem_of_getElem? (i := 1) (by decide +kernel))), rfl⟩, ⟨by decide +kernel, by decide +kernel, by decide +kernel⟩, by decide⟩, List.mem_filter.mpr ⟨(lw_m3 (List.mem_of_getElem? (i := 222) (by decide +kernel))), rfl⟩, List.mem_filter.mpr ⟨(lw_m3 (List.mem_of_getElem? (i := 223) (by decide +kernel))), rfl⟩⟩
theorem cvX10_347 : ev_cvV RX10 347 yX10_shown cX10_shown 3 (some .int) 1 := ⟨⟨List.mem_filter.mpr ⟨(lw_m3 (List.mem_of_getElem? (i := 225) (by decide +kernel))), rfl⟩, List.mem_filter.mpr ⟨(lw_m3 (List.mem_of_getElem? (i := 228) (by decide +kernel))), rfl⟩, List.mem_filter.mpr ⟨(lw_m1 (List.mem_of_getElem? (i := 1) (by decide +kernel))), rfl⟩, ⟨by decide +kernel, by decide +kernel, by decide +kernel⟩, by decide⟩, List.mem_filter.mpr ⟨(lw_m3 (List.mem_of_getElem? (i := 227) (by decide +kernel))), rfl⟩, List.mem_filter.mpr ⟨lw_m0 (List.mem_of_getElem? (i := 19) (by decide +kernel)), rfl⟩⟩
theorem cvL_111 : ev_cvV RL 111 yX10_judge cX10_judge 4 (some .int) 2 := ⟨⟨List.mem_filter.mpr ⟨(lw_m3 (List.mem_of_getElem? (i := 229) (by decide +kernel))), rfl⟩, List.mem_filter.mpr ⟨(lw_m3 (List.mem_of_getElem? (i := 232) (by decide +kernel))), rfl⟩, List.mem_filter.mpr ⟨(lw_m1 (List.mem_of_getElem? (i := 1) (by decide +kernel))), rfl⟩, ⟨by decide +kernel, by decide +kernel, by decide +kernel⟩, by decide⟩, List.mem_filter.mpr ⟨(lw_m3 (List.mem_of_getElem? (i := 230) (by decide +kernel))), rfl⟩, List.mem_filter.mpr ⟨(lw_m3 (List.mem_of_getElem? (i := 231) (by decide +kernel))), rfl⟩⟩
theorem cvX10_350 : ev_cvS RX10 350 yX9_has cX9_has 1 (some .boolean) 1 := ⟨⟨List.mem_filter.mpr ⟨(lw_m3 (List.mem_of_getElem? (i := 233) (by decide +kernel))), rfl⟩, List.mem_filter.mpr ⟨(lw_m3 (List.mem_of_getElem? (i := 235) (by decide +kernel))), rfl⟩, List.mem_filter.mpr ⟨(lw_m1 (List.mem_of_getElem? (i := 12) (by decide +kernel))), rfl⟩, ⟨by decide +kernel, by decide +kernel, by decide +kernel⟩, by decide⟩, List.mem_filter.mpr ⟨(lw_m3 (List.mem_of_getElem? (i := 234) (by decide +kernel))), rfl⟩⟩
theorem cvL_115 : ev_cvV RL 115 yX10_image cX10_image 1 (some .int) 0 := ⟨⟨List.mem_filter.mpr ⟨(lw_m3 (List.mem_of_getElem? (i := 236) (by decide +kernel))), rfl⟩, List.mem_filter.mpr ⟨(lw_m3 (List.mem_of_getElem? (i := 239) (by decide +kernel))), rfl⟩, List.mem_filter.mpr ⟨(lw_m1 (List.mem_of_getElem? (i := 1) (by decide +kernel))), rfl⟩, ⟨by decide +kernel, by decide +kernel, by decide +kernel⟩, by decide⟩, List.mem_filter.mpr ⟨(lw_m3 (List.mem_of_getElem? (i := 237) (by decide +kernel))), rfl⟩, List.mem_filter.mpr ⟨(lw_m3 (List.mem_of_getElem? (i := 238) (by decide +kernel))), rfl⟩⟩
theorem cvX10_361 : ev_cvV RX10 361 yX8_copyFrom cX8_copyFrom 2 none 1 := ⟨⟨List.mem_filter.mpr ⟨(lw_m4 (List.mem_of_getElem? (i := 0) (by decide +kernel))), rfl⟩, List.mem_filter.mpr ⟨(lw_m4 (List.mem_of_getElem? (i := 3) (by decide +kernel))), rfl⟩, List.mem_filter.mpr ⟨(lw_m1 (List.mem_of_getElem? (i := 7) (by decide +kernel))), rfl⟩, ⟨by decide +kernel, by decide +kernel, by decide +kernel⟩, by decide⟩, List.mem_filter.mpr ⟨(lw_m4 (List.mem_of_getElem? (i := 1) (by decide +kernel))), rfl⟩, List.mem_filter.mpr ⟨(lw_m4 (List.mem_of_getElem? (i := 2) (by decide +kernel))), rfl⟩⟩
theorem cvX8_33 : ev_cvV RX8 33 yX3_copyFrom cX3_copyFrom 3 none 1 := ⟨⟨List.mem_filter.mpr ⟨(lw_m4 (List.mem_of_getElem? (i := 4) (by decide +kernel))), rfl⟩, List.mem_filter.mpr ⟨(lw_m3 (List.mem_of_getElem? (i := 210) (by decide +kernel))), rfl⟩, List.mem_filter.mpr ⟨(lw_m1 (List.mem_of_getElem? (i := 8) (by decide +kernel))), rfl⟩, ⟨by decide +kernel, by decide +kernel, by decide +kernel⟩, by decide⟩, List.mem_filter.mpr ⟨(lw_m3 (List.mem_of_getElem? (i := 208) (by decide +kernel))), rfl⟩, List.mem_filter.mpr ⟨(lw_m3 (List.mem_of_getElem? (i := 209) (by decide +kernel))), rfl⟩⟩
theorem cvX8_37 : ev_cvV RX8 37 yX5_copyFrom cX5_copyFrom 3 none 1 := ⟨⟨List.mem_filter.mpr ⟨(lw_m4 (List.mem_of_getElem? (i := 5) (by decide +kernel))), rfl⟩, List.mem_filter.mpr ⟨(lw_m4 (List.mem_of_getElem? (i := 8) (by decide +kernel))), rfl⟩, List.mem_filter.mpr ⟨(lw_m1 (List.mem_of_getElem? (i := 9) (by decide +kernel))), rfl⟩, ⟨by decide +kernel, by decide +kernel, by decide +kernel⟩, by decide⟩, List.mem_filter.mpr ⟨(lw_m4 (List.mem_of_getElem? (i := 6) (by decide +kernel))), rfl⟩, List.mem_filter.mpr ⟨(lw_m4 (List.mem_of_getElem? (i := 7) (by decide +kernel))), rfl⟩⟩
theorem cvX5_26 : ev_cvS RX5 26 yJ9_min_7cf53 cJ9_min_7cf53 2 (some .int) 2 := ⟨⟨List.mem_filter.mpr ⟨(lw_m4 (List.mem_of_getElem? (i := 9) (by decide +kernel))), rfl⟩, List.mem_filter.mpr ⟨(lw_m3 (List.mem_of_getElem? (i := 3) (by decide +kernel))), rfl⟩, List.mem_filter.mpr ⟨(lw_m1 (List.mem_of_getElem? (i := 10) (by decide +kernel))), rfl⟩, ⟨by decide +kernel, by decide +kernel, by decide +kernel⟩, by decide⟩, List.mem_filter.mpr ⟨(lw_m3 (List.mem_of_getElem? (i := 2) (by decide +kernel))), rfl⟩⟩
theorem cvL_119 : ev_cvV RL 119 yX10_undo cX10_undo 1 (some .int) 0 := ⟨⟨List.mem_filter.mpr ⟨(lw_m4 (List.mem_of_getElem? (i := 11) (by decide +kernel))), rfl⟩, List.mem_filter.mpr ⟨(lw_m4 (List.mem_of_getElem? (i := 14) (by decide +kernel))), rfl⟩, List.mem_filter.mpr ⟨(lw_m1 (List.mem_of_getElem? (i := 1) (by decide +kernel))), rfl⟩, ⟨by decide +kernel, by decide +kernel, by decide +kernel⟩, by decide⟩, List.mem_filter.mpr ⟨(lw_m4 (List.mem_of_getElem? (i := 12) (by decide +kernel))), rfl⟩, List.mem_filter.mpr ⟨(lw_m4 (List.mem_of_getElem? (i := 13) (by decide +kernel))), rfl⟩⟩
theorem cvL_123 : ev_cvV RL 123 yX10_taken cX10_taken 3 (some .int) 2 := ⟨⟨List.mem_filter.mpr ⟨(lw_m4 (List.mem_of_getElem? (i := 15) (by decide +kernel))), rfl⟩, List.mem_filter.mpr ⟨(lw_m4 (List.mem_of_getElem? (i := 18) (by decide +kernel))), rfl⟩, List.mem_filter.mpr ⟨(lw_m1 (List.mem_of_getElem? (i := 1) (by decide +kernel))), rfl⟩, ⟨by decide +kernel, by decide +kernel, by decide +kernel⟩, by decide⟩, List.mem_filter.mpr ⟨(lw_m4 (List.mem_of_getElem? (i := 16) (by decide +kernel))), rfl⟩, List.mem_filter.mpr ⟨(lw_m4 (List.mem_of_getElem? (i := 17) (by decide +kernel))), rfl⟩⟩
theorem cvX10_364 : ev_cvS RX10 364 yX10_isUnder cX10_isUnder 4 (some .boolean) 2 := ⟨⟨List.mem_filter.mpr ⟨(lw_m4 (List.mem_of_getElem? (i := 19) (by decide +kernel))), rfl⟩, List.mem_filter.mpr ⟨(lw_m4 (List.mem_of_getElem? (i := 21) (by decide +kernel))), rfl⟩, List.mem_filter.mpr ⟨(lw_m1 (List.mem_of_getElem? (i := 1) (by decide +kernel))), rfl⟩, ⟨by decide +kernel, by decide +kernel, by decide +kernel⟩, by decide⟩, List.mem_filter.mpr ⟨(lw_m4 (List.mem_of_getElem? (i := 20) (by decide +kernel))), rfl⟩⟩
theorem cvL_127 : ev_cvV RL 127 yX10_count cX10_count 2 (some .int) 1 := ⟨⟨List.mem_filter.mpr ⟨(lw_m4 (List.mem_of_getElem? (i := 22) (by decide +kernel))), rfl⟩, List.mem_filter.mpr ⟨(lw_m4 (List.mem_of_getElem? (i := 25) (by decide +kernel))), rfl⟩, List.mem_filter.mpr ⟨(lw_m1 (List.mem_of_getElem? (i := 1) (by decide +kernel))), rfl⟩, ⟨by decide +kernel, by decide +kernel, by decide +kernel⟩, by decide⟩, List.mem_filter.mpr ⟨(lw_m4 (List.mem_of_getElem? (i := 23) (by decide +kernel))), rfl⟩, List.mem_filter.mpr ⟨(lw_m4 (List.mem_of_getElem? (i := 24) (by decide +kernel))), rfl⟩⟩
theorem cvL_131 : ev_cvV RL 131 yX10_tape cX10_tape 4 (some .int) 3 := ⟨⟨List.mem_filter.mpr ⟨(lw_m4 (List.mem_of_getElem? (i := 26) (by decide +kernel))), rfl⟩, List.mem_filter.mpr ⟨(lw_m4 (List.mem_of_getElem? (i := 29) (by decide +kernel))), rfl⟩, List.mem_filter.mpr ⟨(lw_m1 (List.mem_of_getElem? (i := 1) (by decide +kernel))), rfl⟩, ⟨by decide +kernel, by decide +kernel, by decide +kernel⟩, by decide⟩, List.mem_filter.mpr ⟨(lw_m4 (List.mem_of_getElem? (i := 27) (by decide +kernel))), rfl⟩, List.mem_filter.mpr ⟨(lw_m4 (List.mem_of_getElem? (i := 28) (by decide +kernel))), rfl⟩⟩
theorem cvX10_367 : ev_cvV RX10 367 yX9_make cX9_make 5 none 3 := ⟨⟨List.mem_filter.mpr ⟨(lw_m4 (List.mem_of_getElem? (i := 30) (by decide +kernel))), rfl⟩, List.mem_filter.mpr ⟨(lw_m4 (List.mem_of_getElem? (i := 33) (by decide +kernel))), rfl⟩, List.mem_filter.mpr ⟨(lw_m1 (List.mem_of_getElem? (i := 12) (by decide +kernel))), rfl⟩, ⟨by decide +kernel, by decide +kernel, by decide +kernel⟩, by decide⟩, List.mem_filter.mpr ⟨(lw_m4 (List.mem_of_getElem? (i := 31) (by decide +kernel))), rfl⟩, List.mem_filter.mpr ⟨(lw_m4 (List.mem_of_getElem? (i := 32) (by decide +kernel))), rfl⟩⟩
theorem cvX9_21 : ev_cvS RX9 21 yX9_has cX9_has 1 (some .boolean) 1 := ⟨⟨List.mem_filter.mpr ⟨(lw_m4 (List.mem_of_getElem? (i := 34) (by decide +kernel))), rfl⟩, List.mem_filter.mpr ⟨(lw_m3 (List.mem_of_getElem? (i := 235) (by decide +kernel))), rfl⟩, List.mem_filter.mpr ⟨(lw_m1 (List.mem_of_getElem? (i := 12) (by decide +kernel))), rfl⟩, ⟨by decide +kernel, by decide +kernel, by decide +kernel⟩, by decide⟩, List.mem_filter.mpr ⟨(lw_m3 (List.mem_of_getElem? (i := 234) (by decide +kernel))), rfl⟩⟩
theorem cvL_137 : ev_cvV RL 137 yX10_item cX10_item 5 (some .int) 3 := ⟨⟨List.mem_filter.mpr ⟨(lw_m4 (List.mem_of_getElem? (i := 35) (by decide +kernel))), rfl⟩, List.mem_filter.mpr ⟨(lw_m4 (List.mem_of_getElem? (i := 38) (by decide +kernel))), rfl⟩, List.mem_filter.mpr ⟨(lw_m1 (List.mem_of_getElem? (i := 1) (by decide +kernel))), rfl⟩, ⟨by decide +kernel, by decide +kernel, by decide +kernel⟩, by decide⟩, List.mem_filter.mpr ⟨(lw_m4 (List.mem_of_getElem? (i := 36) (by decide +kernel))), rfl⟩, List.mem_filter.mpr ⟨(lw_m4 (List.mem_of_getElem? (i := 37) (by decide +kernel))), rfl⟩⟩
theorem cvX10_371 : ev_cvV RX10 371 yX9_hasItem cX9_hasItem 3 (some .boolean) 2 := ⟨⟨List.mem_filter.mpr ⟨(lw_m4 (List.mem_of_getElem? (i := 39) (by decide +kernel))), rfl⟩, List.mem_filter.mpr ⟨(lw_m4 (List.mem_of_getElem? (i := 42) (by decide +kernel))), rfl⟩, List.mem_filter.mpr ⟨(lw_m1 (List.mem_of_getElem? (i := 12) (by decide +kernel))), rfl⟩, ⟨by decide +kernel, by decide +kernel, by decide +kernel⟩, by decide⟩, List.mem_filter.mpr ⟨(lw_m4 (List.mem_of_getElem? (i := 40) (by decide +kernel))), rfl⟩, List.mem_filter.mpr ⟨(lw_m4 (List.mem_of_getElem? (i := 41) (by decide +kernel))), rfl⟩⟩
theorem cvX10_374 : ev_cvS RX10 374 yX9_cut cX9_cut 3 (some .long) 2 := ⟨⟨List.mem_filter.mpr ⟨(lw_m4 (List.mem_of_getElem? (i := 43) (by decide +kernel))), rfl⟩, List.mem_filter.mpr ⟨(lw_m4 (List.mem_of_getElem? (i := 45) (by decide +kernel))), rfl⟩, List.mem_filter.mpr ⟨(lw_m1 (List.mem_of_getElem? (i := 12) (by decide +kernel))), rfl⟩, ⟨by decide +kernel, by decide +kernel, by decide +kernel⟩, by decide⟩, List.mem_filter.mpr ⟨(lw_m4 (List.mem_of_getElem? (i := 44) (by decide +kernel))), rfl⟩⟩
theorem cvL_142 : ev_cvV RL 142 yX10_read cX10_read 3 (some .long) 2 := ⟨⟨List.mem_filter.mpr ⟨(lw_m4 (List.mem_of_getElem? (i := 46) (by decide +kernel))), rfl⟩, List.mem_filter.mpr ⟨(lw_m4 (List.mem_of_getElem? (i := 49) (by decide +kernel))), rfl⟩, List.mem_filter.mpr ⟨(lw_m1 (List.mem_of_getElem? (i := 1) (by decide +kernel))), rfl⟩, ⟨by decide +kernel, by decide +kernel, by decide +kernel⟩, by decide⟩, List.mem_filter.mpr ⟨(lw_m4 (List.mem_of_getElem? (i := 47) (by decide +kernel))), rfl⟩, List.mem_filter.mpr ⟨(lw_m4 (List.mem_of_getElem? (i := 48) (by decide +kernel))), rfl⟩⟩
theorem cvL_146 : ev_cvV RL 146 yX10_shift cX10_shift 6 (some .int) 5 := ⟨⟨List.mem_filter.mpr ⟨(lw_m4 (List.mem_of_getElem? (i := 50) (by decide +kernel))), rfl⟩, List.mem_filter.mpr ⟨(lw_m4 (List.mem_of_getElem? (i := 53) (by decide +kernel))), rfl⟩, List.mem_filter.mpr ⟨(lw_m1 (List.mem_of_getElem? (i := 1) (by decide +kernel))), rfl⟩, ⟨by decide +kernel, by decide +kernel, by decide +kernel⟩, by decide⟩, List.mem_filter.mpr ⟨(lw_m4 (List.mem_of_getElem? (i := 51) (by decide +kernel))), rfl⟩, List.mem_filter.mpr ⟨(lw_m4 (List.mem_of_getElem? (i := 52) (by decide +kernel))), rfl⟩⟩
theorem cvX10_378 : ev_cvV RX10 378 yX9_hasRun cX9_hasRun 4 (some .boolean) 3 := ⟨⟨List.mem_filter.mpr ⟨(lw_m4 (List.mem_of_getElem? (i := 54) (by decide +kernel))), rfl⟩, List.mem_filter.mpr ⟨(lw_m4 (List.mem_of_getElem? (i := 57) (by decide +kernel))), rfl⟩, List.mem_filter.mpr ⟨(lw_m1 (List.mem_of_getElem? (i := 12) (by decide +kernel))), rfl⟩, ⟨by decide +kernel, by decide +kernel, by decide +kernel⟩, by decide⟩, List.mem_filter.mpr ⟨(lw_m4 (List.mem_of_getElem? (i := 55) (by decide +kernel))), rfl⟩, List.mem_filter.mpr ⟨(lw_m4 (List.mem_of_getElem? (i := 56) (by decide +kernel))), rfl⟩⟩
theorem cvL_12 : ev_cvI RL 12 yX11_init cX11_init 2 none 0 := ⟨⟨List.mem_filter.mpr ⟨(lw_m4 (List.mem_of_getElem? (i := 61) (by decide +kernel))), rfl⟩, List.mem_filter.mpr ⟨(lw_m4 (List.mem_of_getElem? (i := 63) (by decide +kernel))), rfl⟩, List.mem_filter.mpr ⟨(lw_m1 (List.mem_of_getElem? (i := 13) (by decide +kernel))), rfl⟩, ⟨by decide +kernel, by decide +kernel, by decide +kernel⟩, by decide⟩, rfl, List.mem_filter.mpr ⟨(lw_m4 (List.mem_of_getElem? (i := 62) (by decide +kernel))), rfl⟩, rfl⟩
theorem cvX11_91 : ev_cvV RX11 91 yX11_makes cX11_makes 4 none 1 := ⟨⟨List.mem_filter.mpr ⟨(lw_m4 (List.mem_of_getElem? (i := 65) (by decide +kernel))), rfl⟩, List.mem_filter.mpr ⟨(lw_m4 (List.mem_of_getElem? (i := 68) (by decide +kernel))), rfl⟩, List.mem_filter.mpr ⟨(lw_m1 (List.mem_of_getElem? (i := 13) (by decide +kernel))), rfl⟩, ⟨by decide +kernel, by decide +kernel, by decide +kernel⟩, by decide⟩, List.mem_filter.mpr ⟨(lw_m4 (List.mem_of_getElem? (i := 67) (by decide +kernel))), rfl⟩, List.mem_filter.mpr ⟨lw_m0 (List.mem_of_getElem? (i := 20) (by decide +kernel)), rfl⟩⟩
theorem cvX11_107 : ev_cvS RX11 107 yX11_product cX11_product 5 (some .int) 3 := ⟨⟨List.mem_filter.mpr ⟨(lw_m4 (List.mem_of_getElem? (i := 69) (by decide +kernel))), rfl⟩, List.mem_filter.mpr ⟨(lw_m4 (List.mem_of_getElem? (i := 71) (by decide +kernel))), rfl⟩, List.mem_filter.mpr ⟨(lw_m1 (List.mem_of_getElem? (i := 13) (by decide +kernel))), rfl⟩, ⟨by decide +kernel, by decide +kernel, by decide +kernel⟩, by decide⟩, List.mem_filter.mpr ⟨(lw_m4 (List.mem_of_getElem? (i := 70) (by decide +kernel))), rfl⟩⟩
theorem cvX11_103 : ev_cvS RX11 103 yX11_isIn cX11_isIn 2 (some .boolean) 2 := ⟨⟨List.mem_filter.mpr ⟨(lw_m4 (List.mem_of_getElem? (i := 72) (by decide +kernel))), rfl⟩, List.mem_filter.mpr ⟨(lw_m4 (List.mem_of_getElem? (i := 74) (by decide +kernel))), rfl⟩, List.mem_filter.mpr ⟨(lw_m1 (List.mem_of_getElem? (i := 13) (by decide +kernel))), rfl⟩, ⟨by decide +kernel, by decide +kernel, by decide +kernel⟩, by decide⟩, List.mem_filter.mpr ⟨(lw_m4 (List.mem_of_getElem? (i := 73) (by decide +kernel))), rfl⟩⟩
theorem cvX11_117 : ev_cvS RX11 117 yX11_order cX11_order 4 (some .int) 2 := ⟨⟨List.mem_filter.mpr ⟨(lw_m4 (List.mem_of_getElem? (i := 75) (by decide +kernel))), rfl⟩, List.mem_filter.mpr ⟨(lw_m4 (List.mem_of_getElem? (i := 77) (by decide +kernel))), rfl⟩, List.mem_filter.mpr ⟨(lw_m1 (List.mem_of_getElem? (i := 13) (by decide +kernel))), rfl⟩, ⟨by decide +kernel, by decide +kernel, by decide +kernel⟩, by decide⟩, List.mem_filter.mpr ⟨(lw_m4 (List.mem_of_getElem? (i := 76) (by decide +kernel))), rfl⟩⟩
theorem cvL_17 : ev_cvV RL 17 yX11_field cX11_field 2 (some .int) 1 := ⟨⟨List.mem_filter.mpr ⟨(lw_m4 (List.mem_of_getElem? (i := 202) (by decide +kernel))), rfl⟩, List.mem_filter.mpr ⟨(lw_m4 (List.mem_of_getElem? (i := 205) (by decide +kernel))), rfl⟩, List.mem_filter.mpr ⟨(lw_m1 (List.mem_of_getElem? (i := 13) (by decide +kernel))), rfl⟩, ⟨by decide +kernel, by decide +kernel, by decide +kernel⟩, by decide⟩, List.mem_filter.mpr ⟨(lw_m4 (List.mem_of_getElem? (i := 203) (by decide +kernel))), rfl⟩, List.mem_filter.mpr ⟨(lw_m4 (List.mem_of_getElem? (i := 204) (by decide +kernel))), rfl⟩⟩
theorem cvX11_99 : ev_cvS RX11 99 yX11_within cX11_within 3 (some .boolean) 3 := ⟨⟨List.mem_filter.mpr ⟨(lw_m4 (List.mem_of_getElem? (i := 206) (by decide +kernel))), rfl⟩, List.mem_filter.mpr ⟨(lw_m4 (List.mem_of_getElem? (i := 208) (by decide +kernel))), rfl⟩, List.mem_filter.mpr ⟨(lw_m1 (List.mem_of_getElem? (i := 13) (by decide +kernel))), rfl⟩, ⟨by decide +kernel, by decide +kernel, by decide +kernel⟩, by decide⟩, List.mem_filter.mpr ⟨(lw_m4 (List.mem_of_getElem? (i := 207) (by decide +kernel))), rfl⟩⟩
theorem cvX11_121 : ev_cvS RX11 121 yX11_isField cX11_isField 4 (some .boolean) 1 := ⟨⟨List.mem_filter.mpr ⟨(lw_m4 (List.mem_of_getElem? (i := 209) (by decide +kernel))), rfl⟩, List.mem_filter.mpr ⟨(lw_m4 (List.mem_of_getElem? (i := 211) (by decide +kernel))), rfl⟩, List.mem_filter.mpr ⟨(lw_m1 (List.mem_of_getElem? (i := 13) (by decide +kernel))), rfl⟩, ⟨by decide +kernel, by decide +kernel, by decide +kernel⟩, by decide⟩, List.mem_filter.mpr ⟨(lw_m4 (List.mem_of_getElem? (i := 210) (by decide +kernel))), rfl⟩⟩
theorem cvL_22 : ev_cvV RL 22 yX11_calc cX11_calc 4 (some .int) 3 := ⟨⟨List.mem_filter.mpr ⟨(lw_m4 (List.mem_of_getElem? (i := 212) (by decide +kernel))), rfl⟩, List.mem_filter.mpr ⟨(lw_m4 (List.mem_of_getElem? (i := 215) (by decide +kernel))), rfl⟩, List.mem_filter.mpr ⟨(lw_m1 (List.mem_of_getElem? (i := 13) (by decide +kernel))), rfl⟩, ⟨by decide +kernel, by decide +kernel, by decide +kernel⟩, by decide⟩, List.mem_filter.mpr ⟨(lw_m4 (List.mem_of_getElem? (i := 213) (by decide +kernel))), rfl⟩, List.mem_filter.mpr ⟨(lw_m4 (List.mem_of_getElem? (i := 214) (by decide +kernel))), rfl⟩⟩
theorem cvX11_125 : ev_cvS RX11 125 yX11_isNumber cX11_isNumber 1 (some .boolean) 1 := ⟨⟨List.mem_filter.mpr ⟨(lw_m4 (List.mem_of_getElem? (i := 216) (by decide +kernel))), rfl⟩, List.mem_filter.mpr ⟨(lw_m4 (List.mem_of_getElem? (i := 218) (by decide +kernel))), rfl⟩, List.mem_filter.mpr ⟨(lw_m1 (List.mem_of_getElem? (i := 13) (by decide +kernel))), rfl⟩, ⟨by decide +kernel, by decide +kernel, by decide +kernel⟩, by decide⟩, List.mem_filter.mpr ⟨(lw_m4 (List.mem_of_getElem? (i := 217) (by decide +kernel))), rfl⟩⟩
theorem cvX11_128 : ev_cvV RX11 128 yX11_times cX11_times 3 (some .int) 2 := ⟨⟨List.mem_filter.mpr ⟨(lw_m4 (List.mem_of_getElem? (i := 219) (by decide +kernel))), rfl⟩, List.mem_filter.mpr ⟨(lw_m4 (List.mem_of_getElem? (i := 222) (by decide +kernel))), rfl⟩, List.mem_filter.mpr ⟨(lw_m1 (List.mem_of_getElem? (i := 13) (by decide +kernel))), rfl⟩, ⟨by decide +kernel, by decide +kernel, by decide +kernel⟩, by decide⟩, List.mem_filter.mpr ⟨(lw_m4 (List.mem_of_getElem? (i := 221) (by decide +kernel))), rfl⟩, List.mem_filter.mpr ⟨lw_m0 (List.mem_of_getElem? (i := 21) (by decide +kernel)), rfl⟩⟩
theorem cvX11_131 : ev_cvV RX11 131 yX11_by cX11_by 3 (some .int) 2 := ⟨⟨List.mem_filter.mpr ⟨(lw_m4 (List.mem_of_getElem? (i := 223) (by decide +kernel))), rfl⟩, List.mem_filter.mpr ⟨(lw_m4 (List.mem_of_getElem? (i := 226) (by decide +kernel))), rfl⟩, List.mem_filter.mpr ⟨(lw_m1 (List.mem_of_getElem? (i := 13) (by decide +kernel))), rfl⟩, ⟨by decide +kernel, by decide +kernel, by decide +kernel⟩, by decide⟩, List.mem_filter.mpr ⟨(lw_m4 (List.mem_of_getElem? (i := 225) (by decide +kernel))), rfl⟩, List.mem_filter.mpr ⟨lw_m0 (List.mem_of_getElem? (i := 22) (by decide +kernel)), rfl⟩⟩
theorem cvL_27 : ev_cvV RL 27 yX11_data cX11_data 3 (some .int) 2 := ⟨⟨List.mem_filter.mpr ⟨(lw_m4 (List.mem_of_getElem? (i := 227) (by decide +kernel))), rfl⟩, List.mem_filter.mpr ⟨(lw_m4 (List.mem_of_getElem? (i := 230) (by decide +kernel))), rfl⟩, List.mem_filter.mpr ⟨(lw_m1 (List.mem_of_getElem? (i := 13) (by decide +kernel))), rfl⟩, ⟨by decide +kernel, by decide +kernel, by decide +kernel⟩, by decide⟩, List.mem_filter.mpr ⟨(lw_m4 (List.mem_of_getElem? (i := 228) (by decide +kernel))), rfl⟩, List.mem_filter.mpr ⟨(lw_m4 (List.mem_of_getElem? (i := 229) (by decide +kernel))), rfl⟩⟩
theorem cvX11_137 : ev_cvV RX11 137 yX11_newNode cX11_newNode 5 (some .int) 3 := ⟨⟨List.mem_filter.mpr ⟨(lw_m4 (List.mem_of_getElem? (i := 231) (by decide +kernel))), rfl⟩, List.mem_filter.mpr ⟨(lw_m4 (List.mem_of_getElem? (i := 234) (by decide +kernel))), rfl⟩, List.mem_filter.mpr ⟨(lw_m1 (List.mem_of_getElem? (i := 13) (by decide +kernel))), rfl⟩, ⟨by decide +kernel, by decide +kernel, by decide +kernel⟩, by decide⟩, List.mem_filter.mpr ⟨(lw_m4 (List.mem_of_getElem? (i := 233) (by decide +kernel))), rfl⟩, List.mem_filter.mpr ⟨lw_m0 (List.mem_of_getElem? (i := 23) (by decide +kernel)), rfl⟩⟩
theorem cvL_31 : ev_cvV RL 31 yX11_feed cX11_feed 2 (some .int) 1 := ⟨⟨List.mem_filter.mpr ⟨(lw_m4 (List.mem_of_getElem? (i := 235) (by decide +kernel))), rfl⟩, List.mem_filter.mpr ⟨(lw_m4 (List.mem_of_getElem? (i := 238) (by decide +kernel))), rfl⟩, List.mem_filter.mpr ⟨(lw_m1 (List.mem_of_getElem? (i := 13) (by decide +kernel))), rfl⟩, ⟨by decide +kernel, by decide +kernel, by decide +kernel⟩, by decide⟩, List.mem_filter.mpr ⟨(lw_m4 (List.mem_of_getElem? (i := 236) (by decide +kernel))), rfl⟩, List.mem_filter.mpr ⟨(lw_m4 (List.mem_of_getElem? (i := 237) (by decide +kernel))), rfl⟩⟩
theorem cvL_35 : ev_cvV RL 35 yX11_parity cX11_parity 6 (some .int) 2 := ⟨⟨List.mem_filter.mpr ⟨(lw_m4 (List.mem_of_getElem? (i := 239) (by decide +kernel))), rfl⟩, List.mem_filter.mpr ⟨(lw_m5 (List.mem_of_getElem? (i := 2) (by decide +kernel))), rfl⟩, List.mem_filter.mpr ⟨(lw_m1 (List.mem_of_getElem? (i := 13) (by decide +kernel))), rfl⟩, ⟨by decide +kernel, by decide +kernel, by decide +kernel⟩, by decide⟩, List.mem_filter.mpr ⟨(lw_m5 (List.mem_of_getElem? (i := 0) (by decide +kernel))), rfl⟩, List.mem_filter.mpr ⟨(lw_m5 (List.mem_of_getElem? (i := 1) (by decide +kernel))), rfl⟩⟩
theorem cvX11_159 : ev_cvV RX11 159 yX11_isE cX11_isE 3 (some .boolean) 1 := ⟨⟨List.mem_filter.mpr ⟨(lw_m5 (List.mem_of_getElem? (i := 3) (by decide +kernel))), rfl⟩, List.mem_filter.mpr ⟨(lw_m5 (List.mem_of_getElem? (i := 6) (by decide +kernel))), rfl⟩, List.mem_filter.mpr ⟨(lw_m1 (List.mem_of_getElem? (i := 13) (by decide +kernel))), rfl⟩, ⟨by decide +kernel, by decide +kernel, by decide +kernel⟩, by decide⟩, List.mem_filter.mpr ⟨(lw_m5 (List.mem_of_getElem? (i := 5) (by decide +kernel))), rfl⟩, List.mem_filter.mpr ⟨lw_m0 (List.mem_of_getElem? (i := 24) (by decide +kernel)), rfl⟩⟩
theorem cvX11_156 : ev_cvV RX11 156 yX11_isT cX11_isT 4 (some .boolean) 1 := ⟨⟨List.mem_filter.mpr ⟨(lw_m5 (List.mem_of_getElem? (i := 7) (by decide +kernel))), rfl⟩, List.mem_filter.mpr ⟨(lw_m5 (List.mem_of_getElem? (i := 10) (by decide +kernel))), rfl⟩, List.mem_filter.mpr ⟨(lw_m1 (List.mem_of_getElem? (i := 13) (by decide +kernel))), rfl⟩, ⟨by decide +kernel, by decide +kernel, by decide +kernel⟩, by decide⟩, List.mem_filter.mpr ⟨(lw_m5 (List.mem_of_getElem? (i := 9) (by decide +kernel))), rfl⟩, List.mem_filter.mpr ⟨lw_m0 (List.mem_of_getElem? (i := 25) (by decide +kernel)), rfl⟩⟩
theorem cvX11_150 : ev_cvV RX11 150 yX11_is cX11_is 2 (some .boolean) 1 := ⟨⟨List.mem_filter.mpr ⟨(lw_m5 (List.mem_of_getElem? (i := 11) (by decide +kernel))), rfl⟩, List.mem_filter.mpr ⟨(lw_m5 (List.mem_of_getElem? (i := 14) (by decide +kernel))), rfl⟩, List.mem_filter.mpr ⟨(lw_m1 (List.mem_of_getElem? (i := 13) (by decide +kernel))), rfl⟩, ⟨by decide +kernel, by decide +kernel, by decide +kernel⟩, by decide⟩, List.mem_filter.mpr ⟨(lw_m5 (List.mem_of_getElem? (i := 13) (by decide +kernel))), rfl⟩, List.mem_filter.mpr ⟨lw_m0 (List.mem_of_getElem? (i := 26) (by decide +kernel)), rfl⟩⟩
theorem cvX11_146 : ev_cvV RX11 146 yX11_sign cX11_sign 1 (some .int) 0 := ⟨⟨List.mem_filter.mpr ⟨(lw_m5 (List.mem_of_getElem? (i := 15) (by decide +kernel))), rfl⟩, List.mem_filter.mpr ⟨(lw_m5 (List.mem_of_getElem? (i := 18) (by decide +kernel))), rfl⟩, List.mem_filter.mpr ⟨(lw_m1 (List.mem_of_getElem? (i := 13) (by decide +kernel))), rfl⟩, ⟨by decide +kernel, by decide +kernel, by decide +kernel⟩, by decide⟩, List.mem_filter.mpr ⟨(lw_m5 (List.mem_of_getElem? (i := 17) (by decide +kernel))), rfl⟩, List.mem_filter.mpr ⟨lw_m0 (List.mem_of_getElem? (i := 27) (by decide +kernel)), rfl⟩⟩
theorem cvX11_165 : ev_cvV RX11 165 yX11_isLost cX11_isLost 2 (some .boolean) 0 := ⟨⟨List.mem_filter.mpr ⟨(lw_m5 (List.mem_of_getElem? (i := 19) (by decide +kernel))), rfl⟩, List.mem_filter.mpr ⟨(lw_m5 (List.mem_of_getElem? (i := 22) (by decide +kernel))), rfl⟩, List.mem_filter.mpr ⟨(lw_m1 (List.mem_of_getElem? (i := 13) (by decide +kernel))), rfl⟩, ⟨by decide +kernel, by decide +kernel, by decide +kernel⟩, by decide⟩, List.mem_filter.mpr ⟨(lw_m5 (List.mem_of_getElem? (i := 21) (by decide +kernel))), rfl⟩, List.mem_filter.mpr ⟨lw_m0 (List.mem_of_getElem? (i := 28) (by decide +kernel)), rfl⟩⟩
theorem cvL_39 : ev_cvV RL 39 yX11_row cX11_row 5 (some .int) 3 := ⟨⟨List.mem_filter.mpr ⟨(lw_m5 (List.mem_of_getElem? (i := 23) (by decide +kernel))), rfl⟩, List.mem_filter.mpr ⟨(lw_m5 (List.mem_of_getElem? (i := 26) (by decide +kernel))), rfl⟩, List.mem_filter.mpr ⟨(lw_m1 (List.mem_of_getElem? (i := 13) (by decide +kernel))), rfl⟩, ⟨by decide +kernel, by decide +kernel, by decide +kernel⟩, by decide⟩, List.mem_filter.mpr ⟨(lw_m5 (List.mem_of_getElem? (i := 24) (by decide +kernel))), rfl⟩, List.mem_filter.mpr ⟨(lw_m5 (List.mem_of_getElem? (i := 25) (by decide +kernel))), rfl⟩⟩
theorem cvX11_169 : ev_cvV RX11 169 yX11_isOne cX11_isOne 2 (some .boolean) 1 := ⟨⟨List.mem_filter.mpr ⟨(lw_m5 (List.mem_of_getElem? (i := 27) (by decide +kernel))), rfl⟩, List.mem_filter.mpr ⟨(lw_m5 (List.mem_of_getElem? (i := 30) (by decide +kernel))), rfl⟩, List.mem_filter.mpr ⟨(lw_m1 (List.mem_of_getElem? (i := 13) (by decide +kernel))), rfl⟩, ⟨by decide +kernel, by decide +kernel, by decide +kernel⟩, by decide⟩, List.mem_filter.mpr ⟨(lw_m5 (List.mem_of_getElem? (i := 29) (by decide +kernel))), rfl⟩, List.mem_filter.mpr ⟨lw_m0 (List.mem_of_getElem? (i := 29) (by decide +kernel)), rfl⟩⟩
theorem cvL_43 : ev_cvV RL 43 yX11_of cX11_of 3 (some .int) 2 := ⟨⟨List.mem_filter.mpr ⟨(lw_m5 (List.mem_of_getElem? (i := 31) (by decide +kernel))), rfl⟩, List.mem_filter.mpr ⟨(lw_m5 (List.mem_of_getElem? (i := 34) (by decide +kernel))), rfl⟩, List.mem_filter.mpr ⟨(lw_m1 (List.mem_of_getElem? (i := 13) (by decide +kernel))), rfl⟩, ⟨by decide +kernel, by decide +kernel, by decide +kernel⟩, by decide⟩, List.mem_filter.mpr ⟨(lw_m5 (List.mem_of_getElem? (i := 32) (by decide +kernel))), rfl⟩, List.mem_filter.mpr ⟨(lw_m5 (List.mem_of_getElem? (i := 33) (by decide +kernel))), rfl⟩⟩
theorem cvX11_180 : ev_cvV RX11 180 yX11_helps cX11_helps 6 none 1 := ⟨⟨List.mem_filter.mpr ⟨(lw_m5 (List.mem_of_getElem? (i := 35) (by decide +kernel))), rfl⟩, List.mem_filter.mpr ⟨(lw_m5 (List.mem_of_getElem? (i := 38) (by decide +kernel))), rfl⟩, List.mem_filter.mpr ⟨(lw_m1 (List.mem_of_getElem? (i := 13) (by decide +kernel))), rfl⟩, ⟨by decide +kernel, by decide +kernel, by decide +kernel⟩, by decide⟩, List.mem_filter.mpr ⟨(lw_m5 (List.mem_of_getElem? (i := 37) (by decide +kernel))), rfl⟩, List.mem_filter.mpr ⟨lw_m0 (List.mem_of_getElem? (i := 30) (by decide +kernel)), rfl⟩⟩
theorem cvX11_218 : ev_cvV RX11 218 yX11_there cX11_there 3 (some .int) 0 := ⟨⟨List.mem_filter.mpr ⟨(lw_m5 (List.mem_of_getElem? (i := 39) (by decide +kernel))), rfl⟩, List.mem_filter.mpr ⟨(lw_m5 (List.mem_of_getElem? (i := 42) (by decide +kernel))), rfl⟩, List.mem_filter.mpr ⟨(lw_m1 (List.mem_of_getElem? (i := 13) (by decide +kernel))), rfl⟩, ⟨by decide +kernel, by decide +kernel, by decide +kernel⟩, by decide⟩, List.mem_filter.mpr ⟨(lw_m5 (List.mem_of_getElem? (i := 41) (by decide +kernel))), rfl⟩, List.mem_filter.mpr ⟨lw_m0 (List.mem_of_getElem? (i := 31) (by decide +kernel)), rfl⟩⟩
theorem cvX11_183 : ev_cvV RX11 183 yX11_cost cX11_cost 5 (some .int) 1 := ⟨⟨List.mem_filter.mpr ⟨(lw_m5 (List.mem_of_getElem? (i := 43) (by decide +kernel))), rfl⟩, List.mem_filter.mpr ⟨(lw_m5 (List.mem_of_getElem? (i := 46) (by decide +kernel))), rfl⟩, List.mem_filter.mpr ⟨(lw_m1 (List.mem_of_getElem? (i := 13) (by decide +kernel))), rfl⟩, ⟨by decide +kernel, by decide +kernel, by decide +kernel⟩, by decide⟩, List.mem_filter.mpr ⟨(lw_m5 (List.mem_of_getElem? (i := 45) (by decide +kernel))), rfl⟩, List.mem_filter.mpr ⟨lw_m0 (List.mem_of_getElem? (i := 32) (by decide +kernel)), rfl⟩⟩
theorem cvX11_172 : ev_cvS RX11 172 yJ9_max_7cf53 cJ9_max_7cf53 2 (some .int) 2 := ⟨⟨List.mem_filter.mpr ⟨(lw_m5 (List.mem_of_getElem? (i := 47) (by decide +kernel))), rfl⟩, List.mem_filter.mpr ⟨(lw_m1 (List.mem_of_getElem? (i := 208) (by decide +kernel))), rfl⟩, List.mem_filter.mpr ⟨(lw_m1 (List.mem_of_getElem? (i := 10) (by decide +kernel))), rfl⟩, ⟨by decide +kernel, by decide +kernel, by decide +kernel⟩, by decide⟩, List.mem_filter.mpr ⟨(lw_m1 (List.mem_of_getElem? (i := 207) (by decide +kernel))), rfl⟩⟩
theorem cvX11_177 : ev_cvS RX11 177 yJ9_min_7cf53 cJ9_min_7cf53 2 (some .int) 2 := ⟨⟨List.mem_filter.mpr ⟨(lw_m5 (List.mem_of_getElem? (i := 48) (by decide +kernel))), rfl⟩, List.mem_filter.mpr ⟨(lw_m3 (List.mem_of_getElem? (i := 3) (by decide +kernel))), rfl⟩, List.mem_filter.mpr ⟨(lw_m1 (List.mem_of_getElem? (i := 10) (by decide +kernel))), rfl⟩, ⟨by decide +kernel, by decide +kernel, by decide +kernel⟩, by decide⟩, List.mem_filter.mpr ⟨(lw_m3 (List.mem_of_getElem? (i := 2) (by decide +kernel))), rfl⟩⟩
theorem cvX11_221 : ev_cvV RX11 221 yX11_tells cX11_tells 3 (some .boolean) 2 := ⟨⟨List.mem_filter.mpr ⟨(lw_m5 (List.mem_of_getElem? (i := 49) (by decide +kernel))), rfl⟩, List.mem_filter.mpr ⟨(lw_m5 (List.mem_of_getElem? (i := 52) (by decide +kernel))), rfl⟩, List.mem_filter.mpr ⟨(lw_m1 (List.mem_of_getElem? (i := 13) (by decide +kernel))), rfl⟩, ⟨by decide +kernel, by decide +kernel, by decide +kernel⟩, by decide⟩, List.mem_filter.mpr ⟨(lw_m5 (List.mem_of_getElem? (i := 51) (by decide +kernel))), rfl⟩, List.mem_filter.mpr ⟨lw_m0 (List.mem_of_getElem? (i := 33) (by decide +kernel)), rfl⟩⟩
theorem cvX11_215 : ev_cvV RX11 215 yX11_rankOf cX11_rankOf 3 (some .int) 1 := ⟨⟨List.mem_filter.mpr ⟨(lw_m5 (List.mem_of_getElem? (i := 53) (by decide +kernel))), rfl⟩, List.mem_filter.mpr ⟨(lw_m5 (List.mem_of_getElem? (i := 56) (by decide +kernel))), rfl⟩, List.mem_filter.mpr ⟨(lw_m1 (List.mem_of_getElem? (i := 13) (by decide +kernel))), rfl⟩, ⟨by decide +kernel, by decide +kernel, by decide +kernel⟩, by decide⟩, List.mem_filter.mpr ⟨(lw_m5 (List.mem_of_getElem? (i := 55) (by decide +kernel))), rfl⟩, List.mem_filter.mpr ⟨lw_m0 (List.mem_of_getElem? (i := 34) (by decide +kernel)), rfl⟩⟩
theorem cvX11_209 : ev_cvV RX11 209 yX11_takes cX11_takes 3 none 1 := ⟨⟨List.mem_filter.mpr ⟨(lw_m5 (List.mem_of_getElem? (i := 57) (by decide +kernel))), rfl⟩, List.mem_filter.mpr ⟨(lw_m5 (List.mem_of_getElem? (i := 60) (by decide +kernel))), rfl⟩, List.mem_filter.mpr ⟨(lw_m1 (List.mem_of_getElem? (i := 13) (by decide +kernel))), rfl⟩, ⟨by decide +kernel, by decide +kernel, by decide +kernel⟩, by decide⟩, List.mem_filter.mpr ⟨(lw_m5 (List.mem_of_getElem? (i := 59) (by decide +kernel))), rfl⟩, List.mem_filter.mpr ⟨lw_m0 (List.mem_of_getElem? (i := 35) (by decide +kernel)), rfl⟩⟩
theorem cvX11_212 : ev_cvV RX11 212 yX11_ranks cX11_ranks 6 (some .int) 0 := ⟨⟨List.mem_filter.mpr ⟨(lw_m5 (List.mem_of_getElem? (i := 61) (by decide +kernel))), rfl⟩, List.mem_filter.mpr ⟨(lw_m5 (List.mem_of_getElem? (i := 64) (by decide +kernel))), rfl⟩, List.mem_filter.mpr ⟨(lw_m1 (List.mem_of_getElem? (i := 13) (by decide +kernel))), rfl⟩, ⟨by decide +kernel, by decide +kernel, by decide +kernel⟩, by decide⟩, List.mem_filter.mpr ⟨(lw_m5 (List.mem_of_getElem? (i := 63) (by decide +kernel))), rfl⟩, List.mem_filter.mpr ⟨lw_m0 (List.mem_of_getElem? (i := 36) (by decide +kernel)), rfl⟩⟩
theorem cvX11_205 : ev_cvV RX11 205 yX11_adds cX11_adds 5 none 3 := ⟨⟨List.mem_filter.mpr ⟨(lw_m5 (List.mem_of_getElem? (i := 65) (by decide +kernel))), rfl⟩, List.mem_filter.mpr ⟨(lw_m5 (List.mem_of_getElem? (i := 68) (by decide +kernel))), rfl⟩, List.mem_filter.mpr ⟨(lw_m1 (List.mem_of_getElem? (i := 13) (by decide +kernel))), rfl⟩, ⟨by decide +kernel, by decide +kernel, by decide +kernel⟩, by decide⟩, List.mem_filter.mpr ⟨(lw_m5 (List.mem_of_getElem? (i := 67) (by decide +kernel))), rfl⟩, List.mem_filter.mpr ⟨lw_m0 (List.mem_of_getElem? (i := 37) (by decide +kernel)), rfl⟩⟩
theorem cvX11_187 : ev_cvV RX11 187 yX11_symbol cX11_symbol 4 (some .int) 1 := ⟨⟨List.mem_filter.mpr ⟨(lw_m5 (List.mem_of_getElem? (i := 69) (by decide +kernel))), rfl⟩, List.mem_filter.mpr ⟨(lw_m5 (List.mem_of_getElem? (i := 72) (by decide +kernel))), rfl⟩, List.mem_filter.mpr ⟨(lw_m1 (List.mem_of_getElem? (i := 13) (by decide +kernel))), rfl⟩, ⟨by decide +kernel, by decide +kernel, by decide +kernel⟩, by decide⟩, List.mem_filter.mpr ⟨(lw_m5 (List.mem_of_getElem? (i := 71) (by decide +kernel))), rfl⟩, List.mem_filter.mpr ⟨lw_m0 (List.mem_of_getElem? (i := 38) (by decide +kernel)), rfl⟩⟩
theorem cvX11_196 : ev_cvV RX11 196 yX11_local cX11_local 5 (some .int) 1 := ⟨⟨List.mem_filter.mpr ⟨(lw_m5 (List.mem_of_getElem? (i := 73) (by decide +kernel))), rfl⟩, List.mem_filter.mpr ⟨(lw_m5 (List.mem_of_getElem? (i := 76) (by decide +kernel))), rfl⟩, List.mem_filter.mpr ⟨(lw_m1 (List.mem_of_getElem? (i := 13) (by decide +kernel))), rfl⟩, ⟨by decide +kernel, by decide +kernel, by decide +kernel⟩, by decide⟩, List.mem_filter.mpr ⟨(lw_m5 (List.mem_of_getElem? (i := 75) (by decide +kernel))), rfl⟩, List.mem_filter.mpr ⟨lw_m0 (List.mem_of_getElem? (i := 39) (by decide +kernel)), rfl⟩⟩
theorem cvX11_224 : ev_cvS RX11 224 yJ6_bitCount_0f7a4 cJ6_bitCount_0f7a4 1 (some .int) 1 := ⟨⟨List.mem_filter.mpr ⟨(lw_m5 (List.mem_of_getElem? (i := 77) (by decide +kernel))), rfl⟩, List.mem_filter.mpr ⟨(lw_m3 (List.mem_of_getElem? (i := 47) (by decide +kernel))), rfl⟩, List.mem_filter.mpr ⟨(lw_m1 (List.mem_of_getElem? (i := 15) (by decide +kernel))), rfl⟩, ⟨by decide +kernel, by decide +kernel, by decide +kernel⟩, by decide⟩, List.mem_filter.mpr ⟨(lw_m3 (List.mem_of_getElem? (i := 46) (by decide +kernel))), rfl⟩⟩
theorem cvL_47 : ev_cvV RL 47 yX11_write cX11_write 4 (some .int) 2 := ⟨⟨List.mem_filter.mpr ⟨(lw_m5 (List.mem_of_getElem? (i := 78) (by decide +kernel))), rfl⟩, List.mem_filter.mpr ⟨(lw_m5 (List.mem_of_getElem? (i := 81) (by decide +kernel))), rfl⟩, List.mem_filter.mpr ⟨(lw_m1 (List.mem_of_getElem? (i := 13) (by decide +kernel))), rfl⟩, ⟨by decide +kernel, by decide +kernel, by decide +kernel⟩, by decide⟩, List.mem_filter.mpr ⟨(lw_m5 (List.mem_of_getElem? (i := 79) (by decide +kernel))), rfl⟩, List.mem_filter.mpr ⟨(lw_m5 (List.mem_of_getElem? (i := 80) (by decide +kernel))), rfl⟩⟩
theorem cvL_51 : ev_cvV RL 51 yX11_lose cX11_lose 2 (some .int) 1 := ⟨⟨List.mem_filter.mpr ⟨(lw_m5 (List.mem_of_getElem? (i := 82) (by decide +kernel))), rfl⟩, List.mem_filter.mpr ⟨(lw_m5 (List.mem_of_getElem? (i := 85) (by decide +kernel))), rfl⟩, List.mem_filter.mpr ⟨(lw_m1 (List.mem_of_getElem? (i := 13) (by decide +kernel))), rfl⟩, ⟨by decide +kernel, by decide +kernel, by decide +kernel⟩, by decide⟩, List.mem_filter.mpr ⟨(lw_m5 (List.mem_of_getElem? (i := 83) (by decide +kernel))), rfl⟩, List.mem_filter.mpr ⟨(lw_m5 (List.mem_of_getElem? (i := 84) (by decide +kernel))), rfl⟩⟩
theorem cvL_55 : ev_cvV RL 55 yX11_repair cX11_repair 2 (some .int) 1 := ⟨⟨List.mem_filter.mpr ⟨(lw_m5 (List.mem_of_getElem? (i := 86) (by decide +kernel))), rfl⟩, List.mem_filter.mpr ⟨(lw_m5 (List.mem_of_getElem? (i := 89) (by decide +kernel))), rfl⟩, List.mem_filter.mpr ⟨(lw_m1 (List.mem_of_getElem? (i := 13) (by decide +kernel))), rfl⟩, ⟨by decide +kernel, by decide +kernel, by decide +kernel⟩, by decide⟩, List.mem_filter.mpr ⟨(lw_m5 (List.mem_of_getElem? (i := 87) (by decide +kernel))), rfl⟩, List.mem_filter.mpr ⟨(lw_m5 (List.mem_of_getElem? (i := 88) (by decide +kernel))), rfl⟩⟩
theorem cvX11_199 : ev_cvV RX11 199 yX11_repairs cX11_repairs 3 (some .boolean) 1 := ⟨⟨List.mem_filter.mpr ⟨(lw_m5 (List.mem_of_getElem? (i := 90) (by decide +kernel))), rfl⟩, List.mem_filter.mpr ⟨(lw_m5 (List.mem_of_getElem? (i := 93) (by decide +kernel))), rfl⟩, List.mem_filter.mpr ⟨(lw_m1 (List.mem_of_getElem? (i := 13) (by decide +kernel))), rfl⟩, ⟨by decide +kernel, by decide +kernel, by decide +kernel⟩, by decide⟩, List.mem_filter.mpr ⟨(lw_m5 (List.mem_of_getElem? (i := 92) (by decide +kernel))), rfl⟩, List.mem_filter.mpr ⟨lw_m0 (List.mem_of_getElem? (i := 40) (by decide +kernel)), rfl⟩⟩
theorem cvL_59 : ev_cvV RL 59 yX11_told cX11_told 2 (some .int) 1 := ⟨⟨List.mem_filter.mpr ⟨(lw_m5 (List.mem_of_getElem? (i := 94) (by decide +kernel))), rfl⟩, List.mem_filter.mpr ⟨(lw_m5 (List.mem_of_getElem? (i := 97) (by decide +kernel))), rfl⟩, List.mem_filter.mpr ⟨(lw_m1 (List.mem_of_getElem? (i := 13) (by decide +kernel))), rfl⟩, ⟨by decide +kernel, by decide +kernel, by decide +kernel⟩, by decide⟩, List.mem_filter.mpr ⟨(lw_m5 (List.mem_of_getElem? (i := 95) (by decide +kernel))), rfl⟩, List.mem_filter.mpr ⟨(lw_m5 (List.mem_of_getElem? (i := 96) (by decide +kernel))), rfl⟩⟩
theorem cvX11_229 : ev_cvV RX11 229 yX11_all cX11_all 1 (some .int) 0 := ⟨⟨List.mem_filter.mpr ⟨(lw_m5 (List.mem_of_getElem? (i := 98) (by decide +kernel))), rfl⟩, List.mem_filter.mpr ⟨(lw_m5 (List.mem_of_getElem? (i := 101) (by decide +kernel))), rfl⟩, List.mem_filter.mpr ⟨(lw_m1 (List.mem_of_getElem? (i := 13) (by decide +kernel))), rfl⟩, ⟨by decide +kernel, by decide +kernel, by decide +kernel⟩, by decide⟩, List.mem_filter.mpr ⟨(lw_m5 (List.mem_of_getElem? (i := 100) (by decide +kernel))), rfl⟩, List.mem_filter.mpr ⟨lw_m0 (List.mem_of_getElem? (i := 41) (by decide +kernel)), rfl⟩⟩
theorem cvX11_239 : ev_cvV RX11 239 yX11_helped cX11_helped 3 (some .int) 0 := ⟨⟨List.mem_filter.mpr ⟨(lw_m5 (List.mem_of_getElem? (i := 102) (by decide +kernel))), rfl⟩, List.mem_filter.mpr ⟨(lw_m5 (List.mem_of_getElem? (i := 105) (by decide +kernel))), rfl⟩, List.mem_filter.mpr ⟨(lw_m1 (List.mem_of_getElem? (i := 13) (by decide +kernel))), rfl⟩, ⟨by decide +kernel, by decide +kernel, by decide +kernel⟩, by decide⟩, List.mem_filter.mpr ⟨(lw_m5 (List.mem_of_getElem? (i := 104) (by decide +kernel))), rfl⟩, List.mem_filter.mpr ⟨lw_m0 (List.mem_of_getElem? (i := 42) (by decide +kernel)), rfl⟩⟩
theorem cvX11_232 : ev_cvV RX11 232 yX11_allData cX11_allData 3 (some .int) 0 := ⟨⟨List.mem_filter.mpr ⟨(lw_m5 (List.mem_of_getElem? (i := 106) (by decide +kernel))), rfl⟩, List.mem_filter.mpr ⟨(lw_m5 (List.mem_of_getElem? (i := 109) (by decide +kernel))), rfl⟩, List.mem_filter.mpr ⟨(lw_m1 (List.mem_of_getElem? (i := 13) (by decide +kernel))), rfl⟩, ⟨by decide +kernel, by decide +kernel, by decide +kernel⟩, by decide⟩, List.mem_filter.mpr ⟨(lw_m5 (List.mem_of_getElem? (i := 108) (by decide +kernel))), rfl⟩, List.mem_filter.mpr ⟨lw_m0 (List.mem_of_getElem? (i := 43) (by decide +kernel)), rfl⟩⟩
theorem cvX11_242 : ev_cvV RX11 242 yX11_distance cX11_distance 2 (some .int) 0 := ⟨⟨List.mem_filter.mpr ⟨(lw_m5 (List.mem_of_getElem? (i := 110) (by decide +kernel))), rfl⟩, List.mem_filter.mpr ⟨(lw_m5 (List.mem_of_getElem? (i := 113) (by decide +kernel))), rfl⟩, List.mem_filter.mpr ⟨(lw_m1 (List.mem_of_getElem? (i := 13) (by decide +kernel))), rfl⟩, ⟨by decide +kernel, by decide +kernel, by decide +kernel⟩, by decide⟩, List.mem_filter.mpr ⟨(lw_m5 (List.mem_of_getElem? (i := 112) (by decide +kernel))), rfl⟩, List.mem_filter.mpr ⟨lw_m0 (List.mem_of_getElem? (i := 44) (by decide +kernel)), rfl⟩⟩
theorem cvX11_235 : ev_cvV RX11 235 yX11_safeOf cX11_safeOf 5 (some .int) 2 := ⟨⟨List.mem_filter.mpr ⟨(lw_m5 (List.mem_of_getElem? (i := 114) (by decide +kernel))), rfl⟩, List.mem_filter.mpr ⟨(lw_m5 (List.mem_of_getElem? (i := 117) (by decide +kernel))), rfl⟩, List.mem_filter.mpr ⟨(lw_m1 (List.mem_of_getElem? (i := 13) (by decide +kernel))), rfl⟩, ⟨by decide +kernel, by decide +kernel, by decide +kernel⟩, by decide⟩, List.mem_filter.mpr ⟨(lw_m5 (List.mem_of_getElem? (i := 116) (by decide +kernel))), rfl⟩, List.mem_filter.mpr ⟨lw_m0 (List.mem_of_getElem? (i := 45) (by decide +kernel)), rfl⟩⟩
theorem cvL_63 : ev_cvV RL 63 yX11_rank cX11_rank 2 (some .int) 1 := ⟨⟨List.mem_filter.mpr ⟨(lw_m5 (List.mem_of_getElem? (i := 118) (by decide +kernel))), rfl⟩, List.mem_filter.mpr ⟨(lw_m5 (List.mem_of_getElem? (i := 121) (by decide +kernel))), rfl⟩, List.mem_filter.mpr ⟨(lw_m1 (List.mem_of_getElem? (i := 13) (by decide +kernel))), rfl⟩, ⟨by decide +kernel, by decide +kernel, by decide +kernel⟩, by decide⟩, List.mem_filter.mpr ⟨(lw_m5 (List.mem_of_getElem? (i := 119) (by decide +kernel))), rfl⟩, List.mem_filter.mpr ⟨(lw_m5 (List.mem_of_getElem? (i := 120) (by decide +kernel))), rfl⟩⟩
theorem cvL_67 : ev_cvV RL 67 yX11_safe cX11_safe 2 (some .int) 1 := ⟨⟨List.mem_filter.mpr ⟨(lw_m5 (List.mem_of_getElem? (i := 122) (by decide +kernel))), rfl⟩, List.mem_filter.mpr ⟨(lw_m5 (List.mem_of_getElem? (i := 125) (by decide +kernel))), rfl⟩, List.mem_filter.mpr ⟨(lw_m1 (List.mem_of_getElem? (i := 13) (by decide +kernel))), rfl⟩, ⟨by decide +kernel, by decide +kernel, by decide +kernel⟩, by decide⟩, List.mem_filter.mpr ⟨(lw_m5 (List.mem_of_getElem? (i := 123) (by decide +kernel))), rfl⟩, List.mem_filter.mpr ⟨(lw_m5 (List.mem_of_getElem? (i := 124) (by decide +kernel))), rfl⟩⟩
theorem cvL_71 : ev_cvV RL 71 yX11_best cX11_best 10 (some .int) 3 := ⟨⟨List.mem_filter.mpr ⟨(lw_m5 (List.mem_of_getElem? (i := 126) (by decide +kernel))), rfl⟩, List.mem_filter.mpr ⟨(lw_m5 (List.mem_of_getElem? (i := 129) (by decide +kernel))), rfl⟩, List.mem_filter.mpr ⟨(lw_m1 (List.mem_of_getElem? (i := 13) (by decide +kernel))), rfl⟩, ⟨by decide +kernel, by decide +kernel, by decide +kernel⟩, by decide⟩, List.mem_filter.mpr ⟨(lw_m5 (List.mem_of_getElem? (i := 127) (by decide +kernel))), rfl⟩, List.mem_filter.mpr ⟨(lw_m5 (List.mem_of_getElem? (i := 128) (by decide +kernel))), rfl⟩⟩
theorem cvL_75 : ev_cvV RL 75 yX11_see cX11_see 3 (some .int) 2 := ⟨⟨List.mem_filter.mpr ⟨(lw_m5 (List.mem_of_getElem? (i := 130) (by decide +kernel))), rfl⟩, List.mem_filter.mpr ⟨(lw_m5 (List.mem_of_getElem? (i := 133) (by decide +kernel))), rfl⟩, List.mem_filter.mpr ⟨(lw_m1 (List.mem_of_getElem? (i := 13) (by decide +kernel))), rfl⟩, ⟨by decide +kernel, by decide +kernel, by decide +kernel⟩, by decide⟩, List.mem_filter.mpr ⟨(lw_m5 (List.mem_of_getElem? (i := 131) (by decide +kernel))), rfl⟩, List.mem_filter.mpr ⟨(lw_m5 (List.mem_of_getElem? (i := 132) (by decide +kernel))), rfl⟩⟩
theorem cvL_80 : ev_cvV RL 80 yX11_ways cX11_ways 3 (some .long) 1 := ⟨⟨List.mem_filter.mpr ⟨(lw_m5 (List.mem_of_getElem? (i := 134) (by decide +kernel))), rfl⟩, List.mem_filter.mpr ⟨(lw_m5 (List.mem_of_getElem? (i := 137) (by decide +kernel))), rfl⟩, List.mem_filter.mpr ⟨(lw_m1 (List.mem_of_getElem? (i := 13) (by decide +kernel))), rfl⟩, ⟨by decide +kernel, by decide +kernel, by decide +kernel⟩, by decide⟩, List.mem_filter.mpr ⟨(lw_m5 (List.mem_of_getElem? (i := 135) (by decide +kernel))), rfl⟩, List.mem_filter.mpr ⟨(lw_m5 (List.mem_of_getElem? (i := 136) (by decide +kernel))), rfl⟩⟩
theorem cvX11_252 : ev_cvV RX11 252 yX11_sees cX11_sees 2 none 0 := ⟨⟨List.mem_filter.mpr ⟨(lw_m5 (List.mem_of_getElem? (i := 139) (by decide +kernel))), rfl⟩, List.mem_filter.mpr ⟨(lw_m5 (List.mem_of_getElem? (i := 142) (by decide +kernel))), rfl⟩, List.mem_filter.mpr ⟨(lw_m1 (List.mem_of_getElem? (i := 13) (by decide +kernel))), rfl⟩, ⟨by decide +kernel, by decide +kernel, by decide +kernel⟩, by decide⟩, List.mem_filter.mpr ⟨(lw_m5 (List.mem_of_getElem? (i := 141) (by decide +kernel))), rfl⟩, List.mem_filter.mpr ⟨lw_m0 (List.mem_of_getElem? (i := 46) (by decide +kernel)), rfl⟩⟩
theorem cvX11_248 : ev_cvV RX11 248 yX11_has cX11_has 4 none 2 := ⟨⟨List.mem_filter.mpr ⟨(lw_m5 (List.mem_of_getElem? (i := 143) (by decide +kernel))), rfl⟩, List.mem_filter.mpr ⟨(lw_m5 (List.mem_of_getElem? (i := 146) (by decide +kernel))), rfl⟩, List.mem_filter.mpr ⟨(lw_m1 (List.mem_of_getElem? (i := 13) (by decide +kernel))), rfl⟩, ⟨by decide +kernel, by decide +kernel, by decide +kernel⟩, by decide⟩, List.mem_filter.mpr ⟨(lw_m5 (List.mem_of_getElem? (i := 145) (by decide +kernel))), rfl⟩, List.mem_filter.mpr ⟨lw_m0 (List.mem_of_getElem? (i := 47) (by decide +kernel)), rfl⟩⟩
theorem cvX11_257 : ev_cvV RX11 257 yX11_solves cX11_solves 3 (some .int) 0 := ⟨⟨List.mem_filter.mpr ⟨(lw_m5 (List.mem_of_getElem? (i := 147) (by decide +kernel))), rfl⟩, List.mem_filter.mpr ⟨(lw_m5 (List.mem_of_getElem? (i := 150) (by decide +kernel))), rfl⟩, List.mem_filter.mpr ⟨(lw_m1 (List.mem_of_getElem? (i := 13) (by decide +kernel))), rfl⟩, ⟨by decide +kernel, by decide +kernel, by decide +kernel⟩, by decide⟩, List.mem_filter.mpr ⟨(lw_m5 (List.mem_of_getElem? (i := 149) (by decide +kernel))), rfl⟩, List.mem_filter.mpr ⟨lw_m0 (List.mem_of_getElem? (i := 48) (by decide +kernel)), rfl⟩⟩
theorem cvX11_264 : ev_cvV RX11 264 yX11_least cX11_least 7 (some .long) 0 := ⟨⟨List.mem_filter.mpr ⟨(lw_m5 (List.mem_of_getElem? (i := 151) (by decide +kernel))), rfl⟩, List.mem_filter.mpr ⟨(lw_m5 (List.mem_of_getElem? (i := 154) (by decide +kernel))), rfl⟩, List.mem_filter.mpr ⟨(lw_m1 (List.mem_of_getElem? (i := 13) (by decide +kernel))), rfl⟩, ⟨by decide +kernel, by decide +kernel, by decide +kernel⟩, by decide⟩, List.mem_filter.mpr ⟨(lw_m5 (List.mem_of_getElem? (i := 153) (by decide +kernel))), rfl⟩, List.mem_filter.mpr ⟨lw_m0 (List.mem_of_getElem? (i := 49) (by decide +kernel)), rfl⟩⟩
theorem cvL_84 : ev_cvV RL 84 yX11_can cX11_can 4 (some .int) 1 := ⟨⟨List.mem_filter.mpr ⟨(lw_m5 (List.mem_of_getElem? (i := 157) (by decide +kernel))), rfl⟩, List.mem_filter.mpr ⟨(lw_m5 (List.mem_of_getElem? (i := 160) (by decide +kernel))), rfl⟩, List.mem_filter.mpr ⟨(lw_m1 (List.mem_of_getElem? (i := 13) (by decide +kernel))), rfl⟩, ⟨by decide +kernel, by decide +kernel, by decide +kernel⟩, by decide⟩, List.mem_filter.mpr ⟨(lw_m5 (List.mem_of_getElem? (i := 158) (by decide +kernel))), rfl⟩, List.mem_filter.mpr ⟨(lw_m5 (List.mem_of_getElem? (i := 159) (by decide +kernel))), rfl⟩⟩
theorem cvL_89 : ev_cvV RL 89 yX11_odds cX11_odds 3 (some .long) 2 := ⟨⟨List.mem_filter.mpr ⟨(lw_m5 (List.mem_of_getElem? (i := 161) (by decide +kernel))), rfl⟩, List.mem_filter.mpr ⟨(lw_m5 (List.mem_of_getElem? (i := 164) (by decide +kernel))), rfl⟩, List.mem_filter.mpr ⟨(lw_m1 (List.mem_of_getElem? (i := 13) (by decide +kernel))), rfl⟩, ⟨by decide +kernel, by decide +kernel, by decide +kernel⟩, by decide⟩, List.mem_filter.mpr ⟨(lw_m5 (List.mem_of_getElem? (i := 162) (by decide +kernel))), rfl⟩, List.mem_filter.mpr ⟨(lw_m5 (List.mem_of_getElem? (i := 163) (by decide +kernel))), rfl⟩⟩
theorem cvX11_272 : ev_cvS RX11 272 yX11_part cX11_part 11 (some .long) 3 := ⟨⟨List.mem_filter.mpr ⟨(lw_m5 (List.mem_of_getElem? (i := 165) (by decide +kernel))), rfl⟩, List.mem_filter.mpr ⟨(lw_m5 (List.mem_of_getElem? (i := 167) (by decide +kernel))), rfl⟩, List.mem_filter.mpr ⟨(lw_m1 (List.mem_of_getElem? (i := 13) (by decide +kernel))), rfl⟩, ⟨by decide +kernel, by decide +kernel, by decide +kernel⟩, by decide⟩, List.mem_filter.mpr ⟨(lw_m5 (List.mem_of_getElem? (i := 166) (by decide +kernel))), rfl⟩⟩
theorem cvX11_268 : ev_cvS RX11 268 yJ9_abs_067f4 cJ9_abs_067f4 2 (some .long) 1 := ⟨⟨List.mem_filter.mpr ⟨(lw_m5 (List.mem_of_getElem? (i := 168) (by decide +kernel))), rfl⟩, List.mem_filter.mpr ⟨(lw_m5 (List.mem_of_getElem? (i := 170) (by decide +kernel))), rfl⟩, List.mem_filter.mpr ⟨(lw_m1 (List.mem_of_getElem? (i := 10) (by decide +kernel))), rfl⟩, ⟨by decide +kernel, by decide +kernel, by decide +kernel⟩, by decide⟩, List.mem_filter.mpr ⟨(lw_m5 (List.mem_of_getElem? (i := 169) (by decide +kernel))), rfl⟩⟩
theorem cvL_93 : ev_cvV RL 93 yX11_mean cX11_mean 5 (some .long) 1 := ⟨⟨List.mem_filter.mpr ⟨(lw_m5 (List.mem_of_getElem? (i := 171) (by decide +kernel))), rfl⟩, List.mem_filter.mpr ⟨(lw_m5 (List.mem_of_getElem? (i := 174) (by decide +kernel))), rfl⟩, List.mem_filter.mpr ⟨(lw_m1 (List.mem_of_getElem? (i := 13) (by decide +kernel))), rfl⟩, ⟨by decide +kernel, by decide +kernel, by decide +kernel⟩, by decide⟩, List.mem_filter.mpr ⟨(lw_m5 (List.mem_of_getElem? (i := 172) (by decide +kernel))), rfl⟩, List.mem_filter.mpr ⟨(lw_m5 (List.mem_of_getElem? (i := 173) (by decide +kernel))), rfl⟩⟩
theorem cvL_97 : ev_cvV RL 97 yX11_plan cX11_plan 3 (some .int) 2 := ⟨⟨List.mem_filter.mpr ⟨(lw_m5 (List.mem_of_getElem? (i := 175) (by decide +kernel))), rfl⟩, List.mem_filter.mpr ⟨(lw_m5 (List.mem_of_getElem? (i := 178) (by decide +kernel))), rfl⟩, List.mem_filter.mpr ⟨(lw_m1 (List.mem_of_getElem? (i := 13) (by decide +kernel))), rfl⟩, ⟨by decide +kernel, by decide +kernel, by decide +kernel⟩, by decide⟩, List.mem_filter.mpr ⟨(lw_m5 (List.mem_of_getElem? (i := 176) (by decide +kernel))), rfl⟩, List.mem_filter.mpr ⟨(lw_m5 (List.mem_of_getElem? (i := 177) (by decide +kernel))), rfl⟩⟩
theorem cvL_101 : ev_cvV RL 101 yX11_ends cX11_ends 5 (some .int) 1 := ⟨⟨List.mem_filter.mpr ⟨(lw_m5 (List.mem_of_getElem? (i := 179) (by decide +kernel))), rfl⟩, List.mem_filter.mpr ⟨(lw_m5 (List.mem_of_getElem? (i := 182) (by decide +kernel))), rfl⟩, List.mem_filter.mpr ⟨(lw_m1 (List.mem_of_getElem? (i := 13) (by decide +kernel))), rfl⟩, ⟨by decide +kernel, by decide +kernel, by decide +kernel⟩, by decide⟩, List.mem_filter.mpr ⟨(lw_m5 (List.mem_of_getElem? (i := 180) (by decide +kernel))), rfl⟩, List.mem_filter.mpr ⟨(lw_m5 (List.mem_of_getElem? (i := 181) (by decide +kernel))), rfl⟩⟩
theorem cvX11_279 : ev_cvV RX11 279 yX11_keep cX11_keep 3 none 1 := ⟨⟨List.mem_filter.mpr ⟨(lw_m5 (List.mem_of_getElem? (i := 183) (by decide +kernel))), rfl⟩, List.mem_filter.mpr ⟨(lw_m5 (List.mem_of_getElem? (i := 186) (by decide +kernel))), rfl⟩, List.mem_filter.mpr ⟨(lw_m1 (List.mem_of_getElem? (i := 13) (by decide +kernel))), rfl⟩, ⟨by decide +kernel, by decide +kernel, by decide +kernel⟩, by decide⟩, List.mem_filter.mpr ⟨(lw_m5 (List.mem_of_getElem? (i := 185) (by decide +kernel))), rfl⟩, List.mem_filter.mpr ⟨lw_m0 (List.mem_of_getElem? (i := 50) (by decide +kernel)), rfl⟩⟩
theorem cvX11_283 : ev_cvV RX11 283 yX11_again cX11_again 3 none 1 := ⟨⟨List.mem_filter.mpr ⟨(lw_m5 (List.mem_of_getElem? (i := 187) (by decide +kernel))), rfl⟩, List.mem_filter.mpr ⟨(lw_m5 (List.mem_of_getElem? (i := 190) (by decide +kernel))), rfl⟩, List.mem_filter.mpr ⟨(lw_m1 (List.mem_of_getElem? (i := 13) (by decide +kernel))), rfl⟩, ⟨by decide +kernel, by decide +kernel, by decide +kernel⟩, by decide⟩, List.mem_filter.mpr ⟨(lw_m5 (List.mem_of_getElem? (i := 189) (by decide +kernel))), rfl⟩, List.mem_filter.mpr ⟨lw_m0 (List.mem_of_getElem? (i := 51) (by decide +kernel)), rfl⟩⟩
theorem cvL_105 : ev_cvV RL 105 yX11_book cX11_book 3 (some .int) 2 := ⟨⟨List.mem_filter.mpr ⟨(lw_m5 (List.mem_of_getElem? (i := 191) (by decide +kernel))), rfl⟩, List.mem_filter.mpr ⟨(lw_m5 (List.mem_of_getElem? (i := 194) (by decide +kernel))), rfl⟩, List.mem_filter.mpr ⟨(lw_m1 (List.mem_of_getElem? (i := 13) (by decide +kernel))), rfl⟩, ⟨by decide +kernel, by decide +kernel, by decide +kernel⟩, by decide⟩, List.mem_filter.mpr ⟨(lw_m5 (List.mem_of_getElem? (i := 192) (by decide +kernel))), rfl⟩, List.mem_filter.mpr ⟨(lw_m5 (List.mem_of_getElem? (i := 193) (by decide +kernel))), rfl⟩⟩
theorem cvL_110 : ev_cvV RL 110 yX11_looked cX11_looked 2 (some .int) 0 := ⟨⟨List.mem_filter.mpr ⟨(lw_m5 (List.mem_of_getElem? (i := 195) (by decide +kernel))), rfl⟩, List.mem_filter.mpr ⟨(lw_m5 (List.mem_of_getElem? (i := 198) (by decide +kernel))), rfl⟩, List.mem_filter.mpr ⟨(lw_m1 (List.mem_of_getElem? (i := 13) (by decide +kernel))), rfl⟩, ⟨by decide +kernel, by decide +kernel, by decide +kernel⟩, by decide⟩, List.mem_filter.mpr ⟨(lw_m5 (List.mem_of_getElem? (i := 196) (by decide +kernel))), rfl⟩, List.mem_filter.mpr ⟨(lw_m5 (List.mem_of_getElem? (i := 197) (by decide +kernel))), rfl⟩⟩
theorem cvL_114 : ev_cvV RL 114 yX11_judge cX11_judge 4 (some .int) 2 := ⟨⟨List.mem_filter.mpr ⟨(lw_m5 (List.mem_of_getElem? (i := 199) (by decide +kernel))), rfl⟩, List.mem_filter.mpr ⟨(lw_m5 (List.mem_of_getElem? (i := 202) (by decide +kernel))), rfl⟩, List.mem_filter.mpr ⟨(lw_m1 (List.mem_of_getElem? (i := 13) (by decide +kernel))), rfl⟩, ⟨by decide +kernel, by decide +kernel, by decide +kernel⟩, by decide⟩, List.mem_filter.mpr ⟨(lw_m5 (List.mem_of_getElem? (i := 200) (by decide +kernel))), rfl⟩, List.mem_filter.mpr ⟨(lw_m5 (List.mem_of_getElem? (i := 201) (by decide +kernel))), rfl⟩⟩
theorem cvL_118 : ev_cvV RL 118 yX11_image cX11_image 1 (some .int) 0 := ⟨⟨List.mem_filter.mpr ⟨(lw_m5 (List.mem_of_getElem? (i := 203) (by decide +kernel))), rfl⟩, List.mem_filter.mpr ⟨(lw_m5 (List.mem_of_getElem? (i := 206) (by decide +kernel))), rfl⟩, List.mem_filter.mpr ⟨(lw_m1 (List.mem_of_getElem? (i := 13) (by decide +kernel))), rfl⟩, ⟨by decide +kernel, by decide +kernel, by decide +kernel⟩, by decide⟩, List.mem_filter.mpr ⟨(lw_m5 (List.mem_of_getElem? (i := 204) (by decide +kernel))), rfl⟩, List.mem_filter.mpr ⟨(lw_m5 (List.mem_of_getElem? (i := 205) (by decide +kernel))), rfl⟩⟩
theorem cvL_122 : ev_cvV RL 122 yX11_undo cX11_undo 1 (some .int) 0 := ⟨⟨List.mem_filter.mpr ⟨(lw_m5 (List.mem_of_getElem? (i := 207) (by decide +kernel))), rfl⟩, List.mem_filter.mpr ⟨(lw_m5 (List.mem_of_getElem? (i := 210) (by decide +kernel))), rfl⟩, List.mem_filter.mpr ⟨(lw_m1 (List.mem_of_getElem? (i := 13) (by decide +kernel))), rfl⟩, ⟨by decide +kernel, by decide +kernel, by decide +kernel⟩, by decide⟩, List.mem_filter.mpr ⟨(lw_m5 (List.mem_of_getElem? (i := 208) (by decide +kernel))), rfl⟩, List.mem_filter.mpr ⟨(lw_m5 (List.mem_of_getElem? (i := 209) (by decide +kernel))), rfl⟩⟩
theorem cvL_126 : ev_cvV RL 126 yX11_taken cX11_taken 4 (some .int) 2 := ⟨⟨List.mem_filter.mpr ⟨(lw_m5 (List.mem_of_getElem? (i := 211) (by decide +kernel))), rfl⟩, List.mem_filter.mpr ⟨(lw_m5 (List.mem_of_getElem? (i := 214) (by decide +kernel))), rfl⟩, List.mem_filter.mpr ⟨(lw_m1 (List.mem_of_getElem? (i := 13) (by decide +kernel))), rfl⟩, ⟨by decide +kernel, by decide +kernel, by decide +kernel⟩, by decide⟩, List.mem_filter.mpr ⟨(lw_m5 (List.mem_of_getElem? (i := 212) (by decide +kernel))), rfl⟩, List.mem_filter.mpr ⟨(lw_m5 (List.mem_of_getElem? (i := 213) (by decide +kernel))), rfl⟩⟩
theorem cvX11_293 : ev_cvS RX11 293 yX11_above cX11_above 1 (some .int) 1 := ⟨⟨List.mem_filter.mpr ⟨(lw_m5 (List.mem_of_getElem? (i := 215) (by decide +kernel))), rfl⟩, List.mem_filter.mpr ⟨(lw_m5 (List.mem_of_getElem? (i := 217) (by decide +kernel))), rfl⟩, List.mem_filter.mpr ⟨(lw_m1 (List.mem_of_getElem? (i := 13) (by decide +kernel))), rfl⟩, ⟨by decide +kernel, by decide +kernel, by decide +kernel⟩, by decide⟩, List.mem_filter.mpr ⟨(lw_m5 (List.mem_of_getElem? (i := 216) (by decide +kernel))), rfl⟩⟩
theorem cvL_130 : ev_cvV RL 130 yX11_count cX11_count 2 (some .int) 1 := ⟨⟨List.mem_filter.mpr ⟨(lw_m5 (List.mem_of_getElem? (i := 218) (by decide +kernel))), rfl⟩, List.mem_filter.mpr ⟨(lw_m5 (List.mem_of_getElem? (i := 221) (by decide +kernel))), rfl⟩, List.mem_filter.mpr ⟨(lw_m1 (List.mem_of_getElem? (i := 13) (by decide +kernel))), rfl⟩, ⟨by decide +kernel, by decide +kernel, by decide +kernel⟩, by decide⟩, List.mem_filter.mpr ⟨(lw_m5 (List.mem_of_getElem? (i := 219) (by decide +kernel))), rfl⟩, List.mem_filter.mpr ⟨(lw_m5 (List.mem_of_getElem? (i := 220) (by decide +kernel))), rfl⟩⟩
theorem cvL_134 : ev_cvV RL 134 yX11_tape cX11_tape 5 (some .int) 3 := ⟨⟨List.mem_filter.mpr ⟨(lw_m5 (List.mem_of_getElem? (i := 222) (by decide +kernel))), rfl⟩, List.mem_filter.mpr ⟨(lw_m5 (List.mem_of_getElem? (i := 225) (by decide +kernel))), rfl⟩, List.mem_filter.mpr ⟨(lw_m1 (List.mem_of_getElem? (i := 13) (by decide +kernel))), rfl⟩, ⟨by decide +kernel, by decide +kernel, by decide +kernel⟩, by decide⟩, List.mem_filter.mpr ⟨(lw_m5 (List.mem_of_getElem? (i := 223) (by decide +kernel))), rfl⟩, List.mem_filter.mpr ⟨(lw_m5 (List.mem_of_getElem? (i := 224) (by decide +kernel))), rfl⟩⟩
theorem cvX11_296 : ev_cvS RX11 296 yX11_isTape cX11_isTape 1 (some .boolean) 1 := ⟨⟨List.mem_filter.mpr ⟨(lw_m5 (List.mem_of_getElem? (i := 226) (by decide +kernel))), rfl⟩, List.mem_filter.mpr ⟨(lw_m5 (List.mem_of_getElem? (i := 228) (by decide +kernel))), rfl⟩, List.mem_filter.mpr ⟨(lw_m1 (List.mem_of_getElem? (i := 13) (by decide +kernel))), rfl⟩, ⟨by decide +kernel, by decide +kernel, by decide +kernel⟩, by decide⟩, List.mem_filter.mpr ⟨(lw_m5 (List.mem_of_getElem? (i := 227) (by decide +kernel))), rfl⟩⟩
theorem cvL_141 : ev_cvV RL 141 yX11_item cX11_item 5 (some .int) 3 := ⟨⟨List.mem_filter.mpr ⟨(lw_m5 (List.mem_of_getElem? (i := 229) (by decide +kernel))), rfl⟩, List.mem_filter.mpr ⟨(lw_m5 (List.mem_of_getElem? (i := 232) (by decide +kernel))), rfl⟩, List.mem_filter.mpr ⟨(lw_m1 (List.mem_of_getElem? (i := 13) (by decide +kernel))), rfl⟩, ⟨by decide +kernel, by decide +kernel, by decide +kernel⟩, by decide⟩, List.mem_filter.mpr ⟨(lw_m5 (List.mem_of_getElem? (i := 230) (by decide +kernel))), rfl⟩, List.mem_filter.mpr ⟨(lw_m5 (List.mem_of_getElem? (i := 231) (by decide +kernel))), rfl⟩⟩
theorem cvX11_299 : ev_cvS RX11 299 yX11_kept cX11_kept 3 (some .long) 2 := ⟨⟨List.mem_filter.mpr ⟨(lw_m5 (List.mem_of_getElem? (i := 233) (by decide +kernel))), rfl⟩, List.mem_filter.mpr ⟨(lw_m5 (List.mem_of_getElem? (i := 235) (by decide +kernel))), rfl⟩, List.mem_filter.mpr ⟨(lw_m1 (List.mem_of_getElem? (i := 13) (by decide +kernel))), rfl⟩, ⟨by decide +kernel, by decide +kernel, by decide +kernel⟩, by decide⟩, List.mem_filter.mpr ⟨(lw_m5 (List.mem_of_getElem? (i := 234) (by decide +kernel))), rfl⟩⟩
theorem cvL_145 : ev_cvV RL 145 yX11_read cX11_read 3 (some .long) 2 := ⟨⟨List.mem_filter.mpr ⟨(lw_m5 (List.mem_of_getElem? (i := 236) (by decide +kernel))), rfl⟩, List.mem_filter.mpr ⟨(lw_m5 (List.mem_of_getElem? (i := 239) (by decide +kernel))), rfl⟩, List.mem_filter.mpr ⟨(lw_m1 (List.mem_of_getElem? (i := 13) (by decide +kernel))), rfl⟩, ⟨by decide +kernel, by decide +kernel, by decide +kernel⟩, by decide⟩, List.mem_filter.mpr ⟨(lw_m5 (List.mem_of_getElem? (i := 237) (by decide +kernel))), rfl⟩, List.mem_filter.mpr ⟨(lw_m5 (List.mem_of_getElem? (i := 238) (by decide +kernel))), rfl⟩⟩
theorem cvL_150 : ev_cvV RL 150 yX11_shift cX11_shift 7 (some .int) 5 := ⟨⟨List.mem_filter.mpr ⟨(lw_m6 (List.mem_of_getElem? (i := 0) (by decide +kernel))), rfl⟩, List.mem_filter.mpr ⟨(lw_m6 (List.mem_of_getElem? (i := 3) (by decide +kernel))), rfl⟩, List.mem_filter.mpr ⟨(lw_m1 (List.mem_of_getElem? (i := 13) (by decide +kernel))), rfl⟩, ⟨by decide +kernel, by decide +kernel, by decide +kernel⟩, by decide⟩, List.mem_filter.mpr ⟨(lw_m6 (List.mem_of_getElem? (i := 1) (by decide +kernel))), rfl⟩, List.mem_filter.mpr ⟨(lw_m6 (List.mem_of_getElem? (i := 2) (by decide +kernel))), rfl⟩⟩
theorem cnX4_41 : ev_cvN yX10_isNumber cX10_isNumber 1 (some .boolean) 1 := ⟨List.mem_filter.mpr ⟨(lw_m2 (List.mem_of_getElem? (i := 96) (by decide +kernel))), rfl⟩, List.mem_filter.mpr ⟨(lw_m2 (List.mem_of_getElem? (i := 97) (by decide +kernel))), rfl⟩, List.mem_filter.mpr ⟨(lw_m1 (List.mem_of_getElem? (i := 1) (by decide +kernel))), rfl⟩, ⟨by decide +kernel, by decide +kernel, by decide +kernel⟩, by decide⟩
theorem cnX7_29 : ev_cvN yX10_numberAt cX10_numberAt 2 (some .int) 2 := ⟨List.mem_filter.mpr ⟨(lw_m2 (List.mem_of_getElem? (i := 163) (by decide +kernel))), rfl⟩, List.mem_filter.mpr ⟨(lw_m2 (List.mem_of_getElem? (i := 164) (by decide +kernel))), rfl⟩, List.mem_filter.mpr ⟨(lw_m1 (List.mem_of_getElem? (i := 1) (by decide +kernel))), rfl⟩, ⟨by decide +kernel, by decide +kernel, by decide +kernel⟩, by decide⟩
theorem cnX3_72 : ev_cvN yX10_numberAt cX10_numberAt 2 (some .int) 2 := ⟨List.mem_filter.mpr ⟨(lw_m2 (List.mem_of_getElem? (i := 163) (by decide +kernel))), rfl⟩, List.mem_filter.mpr ⟨(lw_m2 (List.mem_of_getElem? (i := 164) (by decide +kernel))), rfl⟩, List.mem_filter.mpr ⟨(lw_m1 (List.mem_of_getElem? (i := 1) (by decide +kernel))), rfl⟩, ⟨by decide +kernel, by decide +kernel, by decide +kernel⟩, by decide⟩
theorem kz_L : Cond.initialized RL ∈ ev_ws := List.mem_filter.mpr ⟨(lw_m1 (List.mem_of_getElem? (i := 0) (by decide +kernel))), rfl⟩
theorem kz_X10 : Cond.initialized RX10 ∈ ev_ws := List.mem_filter.mpr ⟨(lw_m1 (List.mem_of_getElem? (i := 1) (by decide +kernel))), rfl⟩
theorem kz_X4 : Cond.initialized RX4 ∈ ev_ws := List.mem_filter.mpr ⟨(lw_m1 (List.mem_of_getElem? (i := 2) (by decide +kernel))), rfl⟩
theorem kz_X1 : Cond.initialized RX1 ∈ ev_ws := List.mem_filter.mpr ⟨(lw_m1 (List.mem_of_getElem? (i := 3) (by decide +kernel))), rfl⟩
theorem kz_X6 : Cond.initialized RX6 ∈ ev_ws := List.mem_filter.mpr ⟨(lw_m1 (List.mem_of_getElem? (i := 4) (by decide +kernel))), rfl⟩
theorem kz_X7 : Cond.initialized RX7 ∈ ev_ws := List.mem_filter.mpr ⟨(lw_m1 (List.mem_of_getElem? (i := 5) (by decide +kernel))), rfl⟩
theorem kz_X2 : Cond.initialized RX2 ∈ ev_ws := List.mem_filter.mpr ⟨(lw_m1 (List.mem_of_getElem? (i := 6) (by decide +kernel))), rfl⟩
theorem kz_X8 : Cond.initialized RX8 ∈ ev_ws := List.mem_filter.mpr ⟨(lw_m1 (List.mem_of_getElem? (i := 7) (by decide +kernel))), rfl⟩
theorem kz_X3 : Cond.initialized RX3 ∈ ev_ws := List.mem_filter.mpr ⟨(lw_m1 (List.mem_of_getElem? (i := 8) (by decide +kernel))), rfl⟩
theorem kz_X5 : Cond.initialized RX5 ∈ ev_ws := List.mem_filter.mpr ⟨(lw_m1 (List.mem_of_getElem? (i := 9) (by decide +kernel))), rfl⟩
theorem kz_J9 : Cond.initialized RJ9 ∈ ev_ws := List.mem_filter.mpr ⟨(lw_m1 (List.mem_of_getElem? (i := 10) (by decide +kernel))), rfl⟩
theorem kz_X0 : Cond.initialized RX0 ∈ ev_ws := List.mem_filter.mpr ⟨(lw_m1 (List.mem_of_getElem? (i := 11) (by decide +kernel))), rfl⟩
theorem kz_X9 : Cond.initialized RX9 ∈ ev_ws := List.mem_filter.mpr ⟨(lw_m1 (List.mem_of_getElem? (i := 12) (by decide +kernel))), rfl⟩
theorem kz_X11 : Cond.initialized RX11 ∈ ev_ws := List.mem_filter.mpr ⟨(lw_m1 (List.mem_of_getElem? (i := 13) (by decide +kernel))), rfl⟩
theorem kz_J10 : Cond.initialized RJ10 ∈ ev_ws := List.mem_filter.mpr ⟨(lw_m1 (List.mem_of_getElem? (i := 14) (by decide +kernel))), rfl⟩
theorem kz_J6 : Cond.initialized RJ6 ∈ ev_ws := List.mem_filter.mpr ⟨(lw_m1 (List.mem_of_getElem? (i := 15) (by decide +kernel))), rfl⟩
theorem klL_7 : Cond.classLink RL 7 RX10 ∈ ev_ws := List.mem_filter.mpr ⟨(lw_m1 (List.mem_of_getElem? (i := 16) (by decide +kernel))), rfl⟩
theorem ki_X10 : Cond.instantiable RX10 11 ∈ ev_ws := List.mem_filter.mpr ⟨(lw_m1 (List.mem_of_getElem? (i := 17) (by decide +kernel))), rfl⟩
theorem koX10_3 : Cond.methodLink RX10 3 objectInit ∈ ev_ws := List.mem_filter.mpr ⟨(lw_m1 (List.mem_of_getElem? (i := 21) (by decide +kernel))), rfl⟩
theorem klX10_9 : Cond.classLink RX10 9 RX4 ∈ ev_ws := List.mem_filter.mpr ⟨(lw_m1 (List.mem_of_getElem? (i := 24) (by decide +kernel))), rfl⟩
theorem ki_X4 : Cond.instantiable RX4 3 ∈ ev_ws := List.mem_filter.mpr ⟨(lw_m1 (List.mem_of_getElem? (i := 25) (by decide +kernel))), rfl⟩
theorem koX4_1 : Cond.methodLink RX4 1 objectInit ∈ ev_ws := List.mem_filter.mpr ⟨(lw_m1 (List.mem_of_getElem? (i := 29) (by decide +kernel))), rfl⟩
theorem kcX4_39 : Cond.constant RX4 39 (286331153) ∈ ev_ws := List.mem_filter.mpr ⟨(lw_m1 (List.mem_of_getElem? (i := 43) (by decide +kernel))), rfl⟩
theorem kcX4_40 : Cond.constant RX4 40 (-286331154) ∈ ev_ws := List.mem_filter.mpr ⟨(lw_m1 (List.mem_of_getElem? (i := 44) (by decide +kernel))), rfl⟩
theorem kA_int : Cond.arrayClass .int ∈ ev_ws := List.mem_filter.mpr ⟨(lw_m1 (List.mem_of_getElem? (i := 61) (by decide +kernel))), rfl⟩
theorem klX10_18 : Cond.classLink RX10 18 RX1 ∈ ev_ws := List.mem_filter.mpr ⟨(lw_m1 (List.mem_of_getElem? (i := 62) (by decide +kernel))), rfl⟩
theorem ki_X1 : Cond.instantiable RX1 4 ∈ ev_ws := List.mem_filter.mpr ⟨(lw_m1 (List.mem_of_getElem? (i := 63) (by decide +kernel))), rfl⟩
theorem koX1_3 : Cond.methodLink RX1 3 objectInit ∈ ev_ws := List.mem_filter.mpr ⟨(lw_m1 (List.mem_of_getElem? (i := 67) (by decide +kernel))), rfl⟩
theorem kA_char : Cond.arrayClass .char ∈ ev_ws := List.mem_filter.mpr ⟨(lw_m1 (List.mem_of_getElem? (i := 84) (by decide +kernel))), rfl⟩
theorem klX10_25 : Cond.classLink RX10 25 RX6 ∈ ev_ws := List.mem_filter.mpr ⟨(lw_m1 (List.mem_of_getElem? (i := 85) (by decide +kernel))), rfl⟩
theorem ki_X6 : Cond.instantiable RX6 2 ∈ ev_ws := List.mem_filter.mpr ⟨(lw_m1 (List.mem_of_getElem? (i := 86) (by decide +kernel))), rfl⟩
theorem koX6_3 : Cond.methodLink RX6 3 objectInit ∈ ev_ws := List.mem_filter.mpr ⟨(lw_m1 (List.mem_of_getElem? (i := 90) (by decide +kernel))), rfl⟩
theorem klX6_15 : Cond.classLink RX6 15 RX7 ∈ ev_ws := List.mem_filter.mpr ⟨(lw_m1 (List.mem_of_getElem? (i := 91) (by decide +kernel))), rfl⟩
theorem ki_X7 : Cond.instantiable RX7 3 ∈ ev_ws := List.mem_filter.mpr ⟨(lw_m1 (List.mem_of_getElem? (i := 93) (by decide +kernel))), rfl⟩
theorem koX7_3 : Cond.methodLink RX7 3 objectInit ∈ ev_ws := List.mem_filter.mpr ⟨(lw_m1 (List.mem_of_getElem? (i := 97) (by decide +kernel))), rfl⟩
theorem klX10_34 : Cond.classLink RX10 34 RX2 ∈ ev_ws := List.mem_filter.mpr ⟨(lw_m1 (List.mem_of_getElem? (i := 118) (by decide +kernel))), rfl⟩
theorem ki_X2 : Cond.instantiable RX2 2 ∈ ev_ws := List.mem_filter.mpr ⟨(lw_m1 (List.mem_of_getElem? (i := 119) (by decide +kernel))), rfl⟩
theorem koX2_3 : Cond.methodLink RX2 3 objectInit ∈ ev_ws := List.mem_filter.mpr ⟨(lw_m1 (List.mem_of_getElem? (i := 123) (by decide +kernel))), rfl⟩
theorem klX10_43 : Cond.classLink RX10 43 RX8 ∈ ev_ws := List.mem_filter.mpr ⟨(lw_m1 (List.mem_of_getElem? (i := 131) (by decide +kernel))), rfl⟩
theorem ki_X8 : Cond.instantiable RX8 4 ∈ ev_ws := List.mem_filter.mpr ⟨(lw_m1 (List.mem_of_getElem? (i := 132) (by decide +kernel))), rfl⟩
theorem koX8_3 : Cond.methodLink RX8 3 objectInit ∈ ev_ws := List.mem_filter.mpr ⟨(lw_m1 (List.mem_of_getElem? (i := 136) (by decide +kernel))), rfl⟩
theorem klX8_9 : Cond.classLink RX8 9 RX3 ∈ ev_ws := List.mem_filter.mpr ⟨(lw_m1 (List.mem_of_getElem? (i := 137) (by decide +kernel))), rfl⟩
theorem ki_X3 : Cond.instantiable RX3 12 ∈ ev_ws := List.mem_filter.mpr ⟨(lw_m1 (List.mem_of_getElem? (i := 138) (by decide +kernel))), rfl⟩
theorem koX3_3 : Cond.methodLink RX3 3 objectInit ∈ ev_ws := List.mem_filter.mpr ⟨(lw_m1 (List.mem_of_getElem? (i := 142) (by decide +kernel))), rfl⟩
theorem klX3_40 : Cond.classLink RX3 40 "[[I" ∈ ev_ws := List.mem_filter.mpr ⟨(lw_m1 (List.mem_of_getElem? (i := 143) (by decide +kernel))), rfl⟩
theorem klX8_18 : Cond.classLink RX8 18 RX5 ∈ ev_ws := List.mem_filter.mpr ⟨(lw_m1 (List.mem_of_getElem? (i := 200) (by decide +kernel))), rfl⟩
theorem ki_X5 : Cond.instantiable RX5 3 ∈ ev_ws := List.mem_filter.mpr ⟨(lw_m1 (List.mem_of_getElem? (i := 201) (by decide +kernel))), rfl⟩
theorem koX5_1 : Cond.methodLink RX5 1 objectInit ∈ ev_ws := List.mem_filter.mpr ⟨(lw_m1 (List.mem_of_getElem? (i := 205) (by decide +kernel))), rfl⟩
theorem klX10_57 : Cond.classLink RX10 57 RX3 ∈ ev_ws := List.mem_filter.mpr ⟨(lw_m1 (List.mem_of_getElem? (i := 239) (by decide +kernel))), rfl⟩
theorem klX10_64 : Cond.classLink RX10 64 RX7 ∈ ev_ws := List.mem_filter.mpr ⟨(lw_m2 (List.mem_of_getElem? (i := 1) (by decide +kernel))), rfl⟩
theorem klX10_71 : Cond.classLink RX10 71 RX0 ∈ ev_ws := List.mem_filter.mpr ⟨(lw_m2 (List.mem_of_getElem? (i := 3) (by decide +kernel))), rfl⟩
theorem ki_X0 : Cond.instantiable RX0 4 ∈ ev_ws := List.mem_filter.mpr ⟨(lw_m2 (List.mem_of_getElem? (i := 4) (by decide +kernel))), rfl⟩
theorem koX0_1 : Cond.methodLink RX0 1 objectInit ∈ ev_ws := List.mem_filter.mpr ⟨(lw_m2 (List.mem_of_getElem? (i := 8) (by decide +kernel))), rfl⟩
theorem klX0_13 : Cond.classLink RX0 13 RX7 ∈ ev_ws := List.mem_filter.mpr ⟨(lw_m2 (List.mem_of_getElem? (i := 9) (by decide +kernel))), rfl⟩
theorem klX10_78 : Cond.classLink RX10 78 RX9 ∈ ev_ws := List.mem_filter.mpr ⟨(lw_m2 (List.mem_of_getElem? (i := 24) (by decide +kernel))), rfl⟩
theorem ki_X9 : Cond.instantiable RX9 3 ∈ ev_ws := List.mem_filter.mpr ⟨(lw_m2 (List.mem_of_getElem? (i := 25) (by decide +kernel))), rfl⟩
theorem koX9_1 : Cond.methodLink RX9 1 objectInit ∈ ev_ws := List.mem_filter.mpr ⟨(lw_m2 (List.mem_of_getElem? (i := 29) (by decide +kernel))), rfl⟩
theorem klX9_16 : Cond.classLink RX9 16 "[[J" ∈ ev_ws := List.mem_filter.mpr ⟨(lw_m2 (List.mem_of_getElem? (i := 30) (by decide +kernel))), rfl⟩
theorem kA_long : Cond.arrayClass .long ∈ ev_ws := List.mem_filter.mpr ⟨(lw_m2 (List.mem_of_getElem? (i := 45) (by decide +kernel))), rfl⟩
theorem kfX10_161 : Cond.fieldLink RX10 161 "RepairGroups" "ABOVE" "[I" ∈ ev_ws := List.mem_filter.mpr ⟨(lw_m2 (List.mem_of_getElem? (i := 123) (by decide +kernel))), rfl⟩
theorem kaX7_23 : Cond.methodLink RX7 23 arraycopyName ∈ ev_ws := List.mem_filter.mpr ⟨(lw_m2 (List.mem_of_getElem? (i := 151) (by decide +kernel))), rfl⟩
theorem kcJ6_265 : Cond.constant RJ6 265 (1431655765) ∈ ev_ws := List.mem_filter.mpr ⟨(lw_m3 (List.mem_of_getElem? (i := 48) (by decide +kernel))), rfl⟩
theorem kcJ6_266 : Cond.constant RJ6 266 (858993459) ∈ ev_ws := List.mem_filter.mpr ⟨(lw_m3 (List.mem_of_getElem? (i := 49) (by decide +kernel))), rfl⟩
theorem kcJ6_267 : Cond.constant RJ6 267 (252645135) ∈ ev_ws := List.mem_filter.mpr ⟨(lw_m3 (List.mem_of_getElem? (i := 50) (by decide +kernel))), rfl⟩
theorem kcX10_313 : Cond.constantLong RX10 313 (16) ∈ ev_ws := List.mem_filter.mpr ⟨(lw_m3 (List.mem_of_getElem? (i := 174) (by decide +kernel))), rfl⟩
theorem kcX10_294 : Cond.constantLong RX10 294 (-9223372036854775808) ∈ ev_ws := List.mem_filter.mpr ⟨(lw_m3 (List.mem_of_getElem? (i := 175) (by decide +kernel))), rfl⟩
theorem kcX10_318 : Cond.constant RX10 318 (65535) ∈ ev_ws := List.mem_filter.mpr ⟨(lw_m3 (List.mem_of_getElem? (i := 181) (by decide +kernel))), rfl⟩
theorem kaX3_51 : Cond.methodLink RX3 51 arraycopyName ∈ ev_ws := List.mem_filter.mpr ⟨(lw_m3 (List.mem_of_getElem? (i := 211) (by decide +kernel))), rfl⟩
theorem kaX5_29 : Cond.methodLink RX5 29 arraycopyName ∈ ev_ws := List.mem_filter.mpr ⟨(lw_m4 (List.mem_of_getElem? (i := 10) (by decide +kernel))), rfl⟩
theorem kaX10_381 : Cond.methodLink RX10 381 arraycopyName ∈ ev_ws := List.mem_filter.mpr ⟨(lw_m4 (List.mem_of_getElem? (i := 58) (by decide +kernel))), rfl⟩
theorem klL_10 : Cond.classLink RL 10 RX11 ∈ ev_ws := List.mem_filter.mpr ⟨(lw_m4 (List.mem_of_getElem? (i := 59) (by decide +kernel))), rfl⟩
theorem ki_X11 : Cond.instantiable RX11 41 ∈ ev_ws := List.mem_filter.mpr ⟨(lw_m4 (List.mem_of_getElem? (i := 60) (by decide +kernel))), rfl⟩
theorem koX11_3 : Cond.methodLink RX11 3 objectInit ∈ ev_ws := List.mem_filter.mpr ⟨(lw_m4 (List.mem_of_getElem? (i := 64) (by decide +kernel))), rfl⟩
theorem kcX11_260 : Cond.constantLong RX11 260 (-9223372036854775808) ∈ ev_ws := List.mem_filter.mpr ⟨(lw_m5 (List.mem_of_getElem? (i := 138) (by decide +kernel))), rfl⟩
theorem kcX11_255 : Cond.constantLong RX11 255 (15) ∈ ev_ws := List.mem_filter.mpr ⟨(lw_m5 (List.mem_of_getElem? (i := 155) (by decide +kernel))), rfl⟩
theorem kcX11_262 : Cond.constantLong RX11 262 (16) ∈ ev_ws := List.mem_filter.mpr ⟨(lw_m5 (List.mem_of_getElem? (i := 156) (by decide +kernel))), rfl⟩
theorem kcL_135 : Cond.constantLong RL 135 (4294967295) ∈ ev_ws := List.mem_filter.mpr ⟨(lw_m6 (List.mem_of_getElem? (i := 4) (by decide +kernel))), rfl⟩
theorem ko_i : Cond.instanceMethod objectInit ∈ ev_ws := List.mem_filter.mpr ⟨(lw_m1 (List.mem_of_getElem? (i := 22) (by decide +kernel))), rfl⟩
theorem ko_c : Cond.code objectInit ⟨#[0xb1]⟩ 1 none ∈ ev_ws := List.mem_filter.mpr ⟨(lw_m1 (List.mem_of_getElem? (i := 23) (by decide +kernel))), rfl⟩
theorem ka_n : Cond.native arraycopyName ∈ ev_ws := List.mem_filter.mpr ⟨(lw_m2 (List.mem_of_getElem? (i := 153) (by decide +kernel))), rfl⟩
theorem ka_s : Cond.static arraycopyName ∈ ev_ws := List.mem_filter.mpr ⟨(lw_m2 (List.mem_of_getElem? (i := 152) (by decide +kernel))), rfl⟩
end
section
/-! THE ENGINE: one judgement (Ev) over an abstract heap: cells by number, their shapes T, their ints σ, their longs μ -/
abbrev ex_T : Type := (Nat × List (Option (Option Nat))) ⊕ (Nat × Nat × List (Option Nat))
abbrev ex_S : Type := Nat → Nat → Int32
abbrev ex_L : Type := Nat → Nat → Int64
def ev_v (ad : Nat → Nat) : Value → Value
  | .ref i => .ref (ad i)
  | v => v
def ev_l (ad : Nat → Nat) (lv : List (Nat × Value)) : List (Nat × Value) := lv.map fun q => (q.1, ev_v ad q.2)
def ev_s (ad : Nat → Nat) (σ : ex_S) (i k : Nat) : Option (Option Nat) → Value
  | none => .int (σ i k)
  | some r => va_rf (r.map ad)
def ev_a (ad : Nat → Nat) (σ : ex_S) (μ : ex_L) (i ty n : Nat) (fs : List (Option Nat)) : vp_A :=
  (n, if ty = 2 then .inr (.inl (μ i)) else if ty ≤ 1 then .inl (σ i) else .inr (.inr (.inr (.inr (fun j => (fs.getD j none).map ad)))))
def ev_e (ad : Nat → Nat) (cls : Nat → ClassId) (σ : ex_S) (μ : ex_L) (i : Nat) : ex_T → va_E
  | .inl o => .inr (o.1, o.2.mapIdx fun k s => ev_s ad σ i k s)
  | .inr a => .inl (cls a.1, ev_a ad σ μ i a.1 a.2.1 a.2.2)
def ev_w (ad : Nat → Nat) (cls : Nat → ClassId) (T : List ex_T) (σ : ex_S) (μ : ex_L) : va_W := T.mapIdx fun i te => (ad i, ev_e ad cls σ μ i te)
def ev_tys (cls : Nat → ClassId) : List (ClassId × FieldType) := [(cls 0, .int), (cls 1, .char), (cls 2, .long), (cls 3, .array .int), (cls 4, .array .long), (cls 5, .object "RepairGroups$Span")]
def ev_okT (n : Nat) : ex_T → Prop
  | .inl o => ∀ r, some (some r) ∈ o.2 → r < n
  | .inr a => ∀ r, some r ∈ a.2.2 → r < n
def ev_ok (T : List ex_T) : Prop := ∀ te ∈ T, ev_okT T.length te
def ev_okv (n : Nat) : Value → Prop
  | .ref i => i < n ∨ 1000 ≤ i
  | _ => True
def ev_ad (n0 : Nat) (ad0 ad : Nat → Nat) : Prop := ∀ i, i < n0 ∨ 1000 ≤ i → ad i = ad0 i
def ev_K (dC : Nat → ClassId) (dI : Nat → Nat → Nat) (cls : Nat → ClassId) (s : State) : Prop :=
  va_K (dC, dI) vwCl (ev_tys cls) s ∧ va_Nw (.methodLinkNest RX4 41 yX10_isNumber RX10) s ∧ va_Nw (.methodLinkNest RX7 29 yX10_numberAt RX10) s ∧ va_Nw (.methodLinkNest RX3 72 yX10_numberAt RX10) s
def ev_up : Nat → Int32 := fun j => [(-1 : Int32), 0, 0, 0, 1, 2, 3].getD j 0
abbrev ev_ext : List (Nat × Nat × (Nat → Int32)) := [(1000, 7, ev_up)]
def ev_X (ad : Nat → Nat) (A : Nat → Prop) (ex : List (Nat × Nat × (Nat → Int32))) (s : State) : Prop :=
  va_Z "RepairGroups" "ABOVE" "[I" (.ref (ad 1000)) A s s.heap ∧ (1000, 7, ev_up) ∈ ex ∧ ∀ x ∈ ex, va_X (ad x.1) x.2.1 x.2.2 s s.heap ∧ ad x.1 < s.heap.size ∧ ¬ A (ad x.1) ∧ 1000 ≤ x.1
def ev_H (dC : Nat → ClassId) (dI : Nat → Nat → Nat) (cls : Nat → ClassId) (A : Nat → Prop) (s : State) (ad : Nat → Nat) (T : List ex_T) (σ : ex_S) (μ : ex_L) (H : Heap) (locs : List Loc) : Prop :=
  va_P (dC, dI) vwCl (ev_w ad cls T σ μ) H ∧ va_D A (ev_w ad cls T σ μ) ∧ va_S A s.heap H locs ∧ ev_ok T
def ev_nw (rt : Option FieldType) (x : Int32) : Prop := ∃ ty, rt = some ty ∧ narrow ty (.int x) = .int x
abbrev ev_Q : Type := Option Value → List ex_T → ex_S → ex_L → Prop
/-- how a method ends: at its return, with an answer and a heap that Rq holds of -/
def ev_F (cc : ByteArray) (mc ms : Nat) (rt : Option FieldType) (n0 : Nat) (Rq : ev_Q) (p : Program) (l : Launch) (e : Env) (R : Room) (s : State) (m : MethodId) (args : Array Value) (below : List Frame) (meth : Method) (c : Code) (dC : Nat → ClassId) (dI : Nat → Nat → Nat) (cls : Nat → ClassId) (ad0 : Nat → Nat) (A : Nat → Prop) (Qf : State → Prop) : Prop :=
  ∀ (ad : Nat → Nat) (H : Heap) (locs : List Loc) (ls : Array Slot) (pc : Nat) (T : List ex_T) (σ : ex_S) (μ : ex_L), ev_ad n0 ad0 ad → n0 ≤ T.length → ev_H dC dI cls A s ad T σ μ H locs →
    (∀ x : Int32, decode cc pc = .ok (.ireturn, 1) → ev_nw rt x → Rq (some (.int x)) T σ μ → W p l e R s m args below meth c H locs mc ms Qf (F0 m pc ls [.int x])) ∧
    (∀ x : Int64, decode cc pc = .ok (.lreturn, 1) → rt = some .long → Rq (some (.long x)) T σ μ → W p l e R s m args below meth c H locs mc ms Qf (F0 m pc ls [.long x])) ∧
    (decode cc pc = .ok (.return_, 1) → rt = none → Rq none T σ μ → W p l e R s m args below meth c H locs mc ms Qf (F0 m pc ls []))
def ev_C (own : String) (cc : ByteArray) (nL d mc ms : Nat) (nm : String) (ex : List (Nat × Nat × (Nat → Int32))) (p : Program) (R : Room) (s : State) (m : MethodId) (args : Array Value) (meth : Method) (c : Code) (dC : Nat → ClassId) (dI : Nat → Nat → Nat) (cls : Nat → ClassId) (ad0 : Nat → Nat) (A : Nat → Prop) : Prop :=
  p.tables.exec = Jvm.exec ∧ c.code = cc ∧ c.maxLocals = nL ∧ s.vm.findClass own = some m.cls ∧ (∀ w ∈ ev_ws, w.before args s = true) ∧ meth.name = nm ∧ d ≤ R.frames ∧ 60 * d ≤ R.locals ∧ mc ≤ R.cells ∧ ms ≤ R.slots ∧ (∀ q, s.heap.size ≤ q → A q) ∧ ev_K dC dI cls s ∧ ev_X ad0 A ex s
/-- THE JUDGEMENT -/
def Ev (own : String) (cc : ByteArray) (nL d mc ms : Nat) (nm : String) (rt : Option FieldType) (ex : List (Nat × Nat × (Nat → Int32))) (n0 : Nat) (Rq : ev_Q) (k n pc : Nat) (lv : List (Nat × Value)) (st : List Value) (T : List ex_T) (σ : ex_S) (μ : ex_L) : Prop :=
  ∀ (p : Program) (l : Launch) (e : Env) (R : Room) (s : State) (m : MethodId) (args : Array Value) (below : List Frame) (meth : Method) (c : Code) (dC : Nat → ClassId) (dI : Nat → Nat → Nat) (cls : Nat → ClassId) (ad0 : Nat → Nat) (A : Nat → Prop) (Qf : State → Prop),
    ev_C own cc nL d mc ms nm ex p R s m args meth c dC dI cls ad0 A → ev_F cc mc ms rt n0 Rq p l e R s m args below meth c dC dI cls ad0 A Qf →
    ∀ (ad : Nat → Nat) (H : Heap) (locs : List Loc) (ls : Array Slot), ev_ad n0 ad0 ad → n0 ≤ T.length → ev_H dC dI cls A s ad T σ μ H locs → lv_has ls nL (ev_l ad lv) →
      W p l e R s m args below meth c H locs k n Qf (F0 m pc ls (st.map (ev_v ad)))
-- basics
theorem ev_cat (ad : Nat → Nat) (v : Value) : (ev_v ad v).category = v.category := by cases v <;> rfl
theorem ev_cats (ad : Nat → Nat) (st : List Value) : ((st.map (ev_v ad)).map fun v => v.category) = st.map fun v => v.category := by
  rw [List.map_map]
  exact List.map_congr_left fun v _ => ev_cat ad v
theorem ev_at {ls : Array Slot} {nL : Nat} {ad : Nat → Nat} {lv : List (Nat × Value)} (h : lv_has ls nL (ev_l ad lv)) (q : Nat) {i : Nat} {v : Value} (hk : lv[q]? = some (i, v)) : ls[i]? = some (.val (ev_v ad v)) :=
  lv_at h q (by rw [ev_l, List.getElem?_map, hk]; rfl)
theorem ev_mono {ls : Array Slot} {nL : Nat} {l l' : List (Nat × Value)} (h : lv_has ls nL l) (hs : ∀ q ∈ l', q ∈ l) : lv_has ls nL l' := ⟨h.1, h.2.1, fun q hq => h.2.2 q (hs q hq)⟩
theorem ev_lsub {ls : Array Slot} {nL : Nat} {ad : Nat → Nat} {l l' : List (Nat × Value)} (h : lv_has ls nL (ev_l ad l)) (hs : ∀ q ∈ l', q ∈ l) : lv_has ls nL (ev_l ad l') := by
  refine ev_mono h fun q hq => ?_
  obtain ⟨q0, h0, rfl⟩ := List.mem_map.mp hq
  exact List.mem_map.mpr ⟨q0, hs q0 h0, rfl⟩
def ev_put (i : Nat) (v : Value) : List (Nat × Value) → List (Nat × Value)
  | [] => [(i, v)]
  | q :: r => if q.1 < i then q :: ev_put i v r else (i, v) :: q :: r
theorem ev_put_mem {i : Nat} {v : Value} {q : Nat × Value} : ∀ {l : List (Nat × Value)}, q ∈ ev_put i v l → q = (i, v) ∨ q ∈ l
  | [], h => by
    rcases List.mem_cons.mp h with h | h
    · exact Or.inl h
    · exact absurd h List.not_mem_nil
  | x :: r, h => by
    unfold ev_put at h
    split at h
    · rcases List.mem_cons.mp h with h | h
      · exact Or.inr (by rw [h]; exact List.mem_cons_self)
      · rcases ev_put_mem h with h | h
        · exact Or.inl h
        · exact Or.inr (List.mem_cons_of_mem _ h)
    · rcases List.mem_cons.mp h with h | h
      · exact Or.inl h
      · exact Or.inr h
def ev_st (lv : List (Nat × Value)) (i : Nat) (v : Value) : List (Nat × Value) := ev_put i v (lv.filter fun q => !(q.1 == i) && !(q.1 + 1 == i && q.2.category == 2))
def ev_st2 (lv : List (Nat × Value)) (i : Nat) (v : Value) : List (Nat × Value) := ev_put i v (lv.filter fun q => !(q.1 == i) && (!(q.1 == i + 1) && !(q.1 + 1 == i && q.2.category == 2)))
theorem ev_put_has {ls : Array Slot} {nL i : Nat} {ad : Nat → Nat} {v : Value} {lv : List (Nat × Value)} {f : Nat × Value → Bool} (hf : ∀ q : Nat × Value, f (q.1, ev_v ad q.2) = f q) (h : lv_has ls nL ((i, ev_v ad v) :: (ev_l ad lv).filter f)) : lv_has ls nL (ev_l ad (ev_put i v (lv.filter f))) := by
  refine ev_mono h fun q hq => ?_
  obtain ⟨q0, h0, rfl⟩ := List.mem_map.mp hq
  rcases ev_put_mem h0 with rfl | h0
  · exact List.mem_cons_self
  · obtain ⟨h1, h2⟩ := List.mem_filter.mp h0
    exact List.mem_cons_of_mem _ (List.mem_filter.mpr ⟨List.mem_map.mpr ⟨q0, h1, rfl⟩, (hf q0).trans h2⟩)
theorem ev_st_has {ls : Array Slot} {nL i : Nat} {ad : Nat → Nat} {v : Value} {lv lv' : List (Nat × Value)} (e : ev_st lv i v = lv') (h : lv_has ls nL ((i, ev_v ad v) :: (ev_l ad lv).filter (fun q => !(q.1 == i) && !(q.1 + 1 == i && q.2.category == 2)))) : lv_has ls nL (ev_l ad lv') := by
  rw [← e]
  exact ev_put_has (fun q => by simp only [ev_cat]) h
theorem ev_st2_has {ls : Array Slot} {nL i : Nat} {ad : Nat → Nat} {v : Value} {lv lv' : List (Nat × Value)} (e : ev_st2 lv i v = lv') (h : lv_has ls nL ((i, ev_v ad v) :: (ev_l ad lv).filter (fun q => !(q.1 == i) && (!(q.1 == i + 1) && !(q.1 + 1 == i && q.2.category == 2))))) : lv_has ls nL (ev_l ad lv') := by
  rw [← e]
  exact ev_put_has (fun q => by simp only [ev_cat]) h
-- the world's places
theorem ev_w_get {ad : Nat → Nat} {cls : Nat → ClassId} {T : List ex_T} {σ : ex_S} {μ : ex_L} {i : Nat} {te : ex_T} (h : T[i]? = some te) : (ev_w ad cls T σ μ)[i]? = some (ad i, ev_e ad cls σ μ i te) := by
  rw [ev_w, List.getElem?_mapIdx, h]
  rfl
def srow (σ : ex_S) (i : Nat) (f : Nat → Int32) : ex_S := fun j => if j = i then f else σ j
def sup (σ : ex_S) (i k : Nat) (v : Int32) : ex_S := srow σ i (upd (σ i) k v)
theorem sup_eq {σ : ex_S} {i k : Nat} {v : Int32} : sup σ i k v = srow σ i (upd (σ i) k v) := rfl
def lrow (μ : ex_L) (i : Nat) (f : Nat → Int64) : ex_L := fun j => if j = i then f else μ j
theorem ev_e_srow {ad : Nat → Nat} {cls : Nat → ClassId} {σ : ex_S} {μ : ex_L} {i j : Nat} {f : Nat → Int32} (h : j ≠ i) (te : ex_T) : ev_e ad cls (srow σ i f) μ j te = ev_e ad cls σ μ j te := by
  have e : srow σ i f j = σ j := if_neg h
  cases te with
  | inl o =>
    show Sum.inr (o.1, _) = Sum.inr (o.1, _)
    refine congrArg (fun z => Sum.inr (o.1, z)) ?_
    refine congrArg (fun z => List.mapIdx z o.2) ?_
    funext k s
    cases s with
    | none => show Value.int _ = Value.int _; rw [e]
    | some r => rfl
  | inr a => simp only [ev_e, ev_a, e]
theorem ev_e_lrow {ad : Nat → Nat} {cls : Nat → ClassId} {σ : ex_S} {μ : ex_L} {i j : Nat} {f : Nat → Int64} (h : j ≠ i) (te : ex_T) : ev_e ad cls σ (lrow μ i f) j te = ev_e ad cls σ μ j te := by
  have e : lrow μ i f j = μ j := if_neg h
  cases te with
  | inl o => rfl
  | inr a => simp only [ev_e, ev_a, e]
theorem ev_w_srow {ad : Nat → Nat} {cls : Nat → ClassId} {T : List ex_T} {σ : ex_S} {μ : ex_L} {i : Nat} {f : Nat → Int32} {te : ex_T} (h : T[i]? = some te) : ev_w ad cls T (srow σ i f) μ = (ev_w ad cls T σ μ).set i (ad i, ev_e ad cls (srow σ i f) μ i te) := by
  apply List.ext_getElem?
  intro j
  rw [List.getElem?_set, ev_w, ev_w, List.getElem?_mapIdx, List.getElem?_mapIdx, List.length_mapIdx]
  have hlt := (List.getElem?_eq_some_iff.mp h).1
  by_cases hj : i = j
  · subst hj
    rw [if_pos rfl, if_pos hlt, h]
    rfl
  · rw [if_neg hj]
    refine congrArg (fun z => Option.map z T[j]?) ?_
    funext te'
    rw [ev_e_srow (fun q => hj q.symm)]
theorem ev_w_lrow {ad : Nat → Nat} {cls : Nat → ClassId} {T : List ex_T} {σ : ex_S} {μ : ex_L} {i : Nat} {f : Nat → Int64} {te : ex_T} (h : T[i]? = some te) : ev_w ad cls T σ (lrow μ i f) = (ev_w ad cls T σ μ).set i (ad i, ev_e ad cls σ (lrow μ i f) i te) := by
  apply List.ext_getElem?
  intro j
  rw [List.getElem?_set, ev_w, ev_w, List.getElem?_mapIdx, List.getElem?_mapIdx, List.length_mapIdx]
  have hlt := (List.getElem?_eq_some_iff.mp h).1
  by_cases hj : i = j
  · subst hj
    rw [if_pos rfl, if_pos hlt, h]
    rfl
  · rw [if_neg hj]
    refine congrArg (fun z => Option.map z T[j]?) ?_
    funext te'
    rw [ev_e_lrow (fun q => hj q.symm)]
end
section
section EV
variable {own : String} {cc : ByteArray} {nL d mc ms : Nat} {nm : String} {rt : Option FieldType} {ex : List (Nat × Nat × (Nat → Int32))} {n0 : Nat} {Rq : ev_Q} {k n pc : Nat} {lv : List (Nat × Value)} {st : List Value} {T : List ex_T} {σ : ex_S} {μ : ex_L}
theorem e_iadd {x y : Int32} (hd : decode cc pc = .ok (.iadd, 1)) (K : Ev own cc nL d mc ms nm rt ex n0 Rq k n (pc + 1) lv (.int (x + y) :: st) T σ μ) : Ev own cc nL d mc ms nm rt ex n0 Rq k n pc lv (.int y :: .int x :: st) T σ μ := by
  intro p l e R s m args below meth c dC dI cls ad0 A Qf C F ad H locs ls h1 h2 hH hl
  exact lv_iadd C.1 C.2.1 hd (K p l e R s m args below meth c dC dI cls ad0 A Qf C F ad H locs ls h1 h2 hH hl)
theorem e_isub {x y : Int32} (hd : decode cc pc = .ok (.isub, 1)) (K : Ev own cc nL d mc ms nm rt ex n0 Rq k n (pc + 1) lv (.int (x - y) :: st) T σ μ) : Ev own cc nL d mc ms nm rt ex n0 Rq k n pc lv (.int y :: .int x :: st) T σ μ := by
  intro p l e R s m args below meth c dC dI cls ad0 A Qf C F ad H locs ls h1 h2 hH hl
  exact lv_isub C.1 C.2.1 hd (K p l e R s m args below meth c dC dI cls ad0 A Qf C F ad H locs ls h1 h2 hH hl)
theorem e_imul {x y : Int32} (hd : decode cc pc = .ok (.imul, 1)) (K : Ev own cc nL d mc ms nm rt ex n0 Rq k n (pc + 1) lv (.int (x * y) :: st) T σ μ) : Ev own cc nL d mc ms nm rt ex n0 Rq k n pc lv (.int y :: .int x :: st) T σ μ := by
  intro p l e R s m args below meth c dC dI cls ad0 A Qf C F ad H locs ls h1 h2 hH hl
  exact lv_imul C.1 C.2.1 hd (K p l e R s m args below meth c dC dI cls ad0 A Qf C F ad H locs ls h1 h2 hH hl)
theorem e_iand {x y : Int32} (hd : decode cc pc = .ok (.iand, 1)) (K : Ev own cc nL d mc ms nm rt ex n0 Rq k n (pc + 1) lv (.int (x &&& y) :: st) T σ μ) : Ev own cc nL d mc ms nm rt ex n0 Rq k n pc lv (.int y :: .int x :: st) T σ μ := by
  intro p l e R s m args below meth c dC dI cls ad0 A Qf C F ad H locs ls h1 h2 hH hl
  exact lv_iand C.1 C.2.1 hd (K p l e R s m args below meth c dC dI cls ad0 A Qf C F ad H locs ls h1 h2 hH hl)
theorem e_ior {x y : Int32} (hd : decode cc pc = .ok (.ior, 1)) (K : Ev own cc nL d mc ms nm rt ex n0 Rq k n (pc + 1) lv (.int (x ||| y) :: st) T σ μ) : Ev own cc nL d mc ms nm rt ex n0 Rq k n pc lv (.int y :: .int x :: st) T σ μ := by
  intro p l e R s m args below meth c dC dI cls ad0 A Qf C F ad H locs ls h1 h2 hH hl
  exact lv_ior C.1 C.2.1 hd (K p l e R s m args below meth c dC dI cls ad0 A Qf C F ad H locs ls h1 h2 hH hl)
theorem e_ixor {x y : Int32} (hd : decode cc pc = .ok (.ixor, 1)) (K : Ev own cc nL d mc ms nm rt ex n0 Rq k n (pc + 1) lv (.int (x ^^^ y) :: st) T σ μ) : Ev own cc nL d mc ms nm rt ex n0 Rq k n pc lv (.int y :: .int x :: st) T σ μ := by
  intro p l e R s m args below meth c dC dI cls ad0 A Qf C F ad H locs ls h1 h2 hH hl
  exact lv_ixor C.1 C.2.1 hd (K p l e R s m args below meth c dC dI cls ad0 A Qf C F ad H locs ls h1 h2 hH hl)
theorem e_ishl {x y : Int32} (hd : decode cc pc = .ok (.ishl, 1)) (K : Ev own cc nL d mc ms nm rt ex n0 Rq k n (pc + 1) lv (.int (x <<< (y &&& 31)) :: st) T σ μ) : Ev own cc nL d mc ms nm rt ex n0 Rq k n pc lv (.int y :: .int x :: st) T σ μ := by
  intro p l e R s m args below meth c dC dI cls ad0 A Qf C F ad H locs ls h1 h2 hH hl
  exact lv_ishl C.1 C.2.1 hd (K p l e R s m args below meth c dC dI cls ad0 A Qf C F ad H locs ls h1 h2 hH hl)
theorem e_ishr {x y : Int32} (hd : decode cc pc = .ok (.ishr, 1)) (K : Ev own cc nL d mc ms nm rt ex n0 Rq k n (pc + 1) lv (.int (x >>> (y &&& 31)) :: st) T σ μ) : Ev own cc nL d mc ms nm rt ex n0 Rq k n pc lv (.int y :: .int x :: st) T σ μ := by
  intro p l e R s m args below meth c dC dI cls ad0 A Qf C F ad H locs ls h1 h2 hH hl
  exact lv_ishr C.1 C.2.1 hd (K p l e R s m args below meth c dC dI cls ad0 A Qf C F ad H locs ls h1 h2 hH hl)
theorem e_iushr {x y : Int32} (hd : decode cc pc = .ok (.iushr, 1)) (K : Ev own cc nL d mc ms nm rt ex n0 Rq k n (pc + 1) lv (.int ((x.toUInt32 >>> (y.toUInt32 &&& Int32.toUInt32 31)).toInt32) :: st) T σ μ) : Ev own cc nL d mc ms nm rt ex n0 Rq k n pc lv (.int y :: .int x :: st) T σ μ := by
  intro p l e R s m args below meth c dC dI cls ad0 A Qf C F ad H locs ls h1 h2 hH hl
  exact lv_iushr C.1 C.2.1 hd rfl (K p l e R s m args below meth c dC dI cls ad0 A Qf C F ad H locs ls h1 h2 hH hl)
theorem e_ladd {x y : Int64} (hd : decode cc pc = .ok (.ladd, 1)) (K : Ev own cc nL d mc ms nm rt ex n0 Rq k n (pc + 1) lv (.long (x + y) :: st) T σ μ) : Ev own cc nL d mc ms nm rt ex n0 Rq k n pc lv (.long y :: .long x :: st) T σ μ := by
  intro p l e R s m args below meth c dC dI cls ad0 A Qf C F ad H locs ls h1 h2 hH hl
  exact lv_ladd C.1 C.2.1 hd (K p l e R s m args below meth c dC dI cls ad0 A Qf C F ad H locs ls h1 h2 hH hl)
theorem e_lmul {x y : Int64} (hd : decode cc pc = .ok (.lmul, 1)) (K : Ev own cc nL d mc ms nm rt ex n0 Rq k n (pc + 1) lv (.long (x * y) :: st) T σ μ) : Ev own cc nL d mc ms nm rt ex n0 Rq k n pc lv (.long y :: .long x :: st) T σ μ := by
  intro p l e R s m args below meth c dC dI cls ad0 A Qf C F ad H locs ls h1 h2 hH hl
  exact lv_lmul C.1 C.2.1 hd (K p l e R s m args below meth c dC dI cls ad0 A Qf C F ad H locs ls h1 h2 hH hl)
theorem e_land {x y : Int64} (hd : decode cc pc = .ok (.land, 1)) (K : Ev own cc nL d mc ms nm rt ex n0 Rq k n (pc + 1) lv (.long (x &&& y) :: st) T σ μ) : Ev own cc nL d mc ms nm rt ex n0 Rq k n pc lv (.long y :: .long x :: st) T σ μ := by
  intro p l e R s m args below meth c dC dI cls ad0 A Qf C F ad H locs ls h1 h2 hH hl
  exact lv_land C.1 C.2.1 hd (K p l e R s m args below meth c dC dI cls ad0 A Qf C F ad H locs ls h1 h2 hH hl)
theorem e_lor {x y : Int64} (hd : decode cc pc = .ok (.lor, 1)) (K : Ev own cc nL d mc ms nm rt ex n0 Rq k n (pc + 1) lv (.long (x ||| y) :: st) T σ μ) : Ev own cc nL d mc ms nm rt ex n0 Rq k n pc lv (.long y :: .long x :: st) T σ μ := by
  intro p l e R s m args below meth c dC dI cls ad0 A Qf C F ad H locs ls h1 h2 hH hl
  exact lv_lor C.1 C.2.1 hd (K p l e R s m args below meth c dC dI cls ad0 A Qf C F ad H locs ls h1 h2 hH hl)
theorem e_idiv {x y : Int32} (hd : decode cc pc = .ok (.idiv, 1)) (h : ¬ y = 0) (K : Ev own cc nL d mc ms nm rt ex n0 Rq k n (pc + 1) lv (.int (x / y) :: st) T σ μ) : Ev own cc nL d mc ms nm rt ex n0 Rq k n pc lv (.int y :: .int x :: st) T σ μ := by
  intro p l e R s m args below meth c dC dI cls ad0 A Qf C F ad H locs ls h1 h2 hH hl
  exact lv_idiv C.1 C.2.1 hd h (K p l e R s m args below meth c dC dI cls ad0 A Qf C F ad H locs ls h1 h2 hH hl)
theorem e_irem {x y : Int32} (hd : decode cc pc = .ok (.irem, 1)) (h : ¬ y = 0) (K : Ev own cc nL d mc ms nm rt ex n0 Rq k n (pc + 1) lv (.int (x - x / y * y) :: st) T σ μ) : Ev own cc nL d mc ms nm rt ex n0 Rq k n pc lv (.int y :: .int x :: st) T σ μ := by
  intro p l e R s m args below meth c dC dI cls ad0 A Qf C F ad H locs ls h1 h2 hH hl
  exact lv_irem C.1 C.2.1 hd h (K p l e R s m args below meth c dC dI cls ad0 A Qf C F ad H locs ls h1 h2 hH hl)
theorem e_ldiv {x y : Int64} (hd : decode cc pc = .ok (.ldiv, 1)) (h : ¬ y = 0) (K : Ev own cc nL d mc ms nm rt ex n0 Rq k n (pc + 1) lv (.long (x / y) :: st) T σ μ) : Ev own cc nL d mc ms nm rt ex n0 Rq k n pc lv (.long y :: .long x :: st) T σ μ := by
  intro p l e R s m args below meth c dC dI cls ad0 A Qf C F ad H locs ls h1 h2 hH hl
  exact lv_ldiv C.1 C.2.1 hd h (K p l e R s m args below meth c dC dI cls ad0 A Qf C F ad H locs ls h1 h2 hH hl)
theorem e_lrem {x y : Int64} (hd : decode cc pc = .ok (.lrem, 1)) (h : ¬ y = 0) (K : Ev own cc nL d mc ms nm rt ex n0 Rq k n (pc + 1) lv (.long (x - x / y * y) :: st) T σ μ) : Ev own cc nL d mc ms nm rt ex n0 Rq k n pc lv (.long y :: .long x :: st) T σ μ := by
  intro p l e R s m args below meth c dC dI cls ad0 A Qf C F ad H locs ls h1 h2 hH hl
  exact lv_lrem C.1 C.2.1 hd h (K p l e R s m args below meth c dC dI cls ad0 A Qf C F ad H locs ls h1 h2 hH hl)
theorem e_lshl {x : Int64} {y : Int32} (hd : decode cc pc = .ok (.lshl, 1)) (K : Ev own cc nL d mc ms nm rt ex n0 Rq k n (pc + 1) lv (.long (x <<< (y.toInt64 &&& 63)) :: st) T σ μ) : Ev own cc nL d mc ms nm rt ex n0 Rq k n pc lv (.int y :: .long x :: st) T σ μ := by
  intro p l e R s m args below meth c dC dI cls ad0 A Qf C F ad H locs ls h1 h2 hH hl
  exact lv_lshl C.1 C.2.1 hd rfl (K p l e R s m args below meth c dC dI cls ad0 A Qf C F ad H locs ls h1 h2 hH hl)
theorem e_lshr {x : Int64} {y : Int32} (hd : decode cc pc = .ok (.lshr, 1)) (K : Ev own cc nL d mc ms nm rt ex n0 Rq k n (pc + 1) lv (.long (x >>> (y.toInt64 &&& 63)) :: st) T σ μ) : Ev own cc nL d mc ms nm rt ex n0 Rq k n pc lv (.int y :: .long x :: st) T σ μ := by
  intro p l e R s m args below meth c dC dI cls ad0 A Qf C F ad H locs ls h1 h2 hH hl
  exact lv_lshr C.1 C.2.1 hd rfl (K p l e R s m args below meth c dC dI cls ad0 A Qf C F ad H locs ls h1 h2 hH hl)
theorem e_lcmp {x y : Int64} (hd : decode cc pc = .ok (.lcmp, 1)) (K : Ev own cc nL d mc ms nm rt ex n0 Rq k n (pc + 1) lv (.int (lg_cmp x y) :: st) T σ μ) : Ev own cc nL d mc ms nm rt ex n0 Rq k n pc lv (.long y :: .long x :: st) T σ μ := by
  intro p l e R s m args below meth c dC dI cls ad0 A Qf C F ad H locs ls h1 h2 hH hl
  exact W.lcmp C.1 C.2.1 hd (K p l e R s m args below meth c dC dI cls ad0 A Qf C F ad H locs ls h1 h2 hH hl)
theorem e_i2l {x : Int32} (hd : decode cc pc = .ok (.i2l, 1)) (K : Ev own cc nL d mc ms nm rt ex n0 Rq k n (pc + 1) lv (.long x.toInt64 :: st) T σ μ) : Ev own cc nL d mc ms nm rt ex n0 Rq k n pc lv (.int x :: st) T σ μ := by
  intro p l e R s m args below meth c dC dI cls ad0 A Qf C F ad H locs ls h1 h2 hH hl
  exact lv_i2l C.1 C.2.1 hd rfl (K p l e R s m args below meth c dC dI cls ad0 A Qf C F ad H locs ls h1 h2 hH hl)
theorem e_l2i {x : Int64} (hd : decode cc pc = .ok (.l2i, 1)) (K : Ev own cc nL d mc ms nm rt ex n0 Rq k n (pc + 1) lv (.int x.toInt32 :: st) T σ μ) : Ev own cc nL d mc ms nm rt ex n0 Rq k n pc lv (.long x :: st) T σ μ := by
  intro p l e R s m args below meth c dC dI cls ad0 A Qf C F ad H locs ls h1 h2 hH hl
  exact lv_l2i C.1 C.2.1 hd rfl (K p l e R s m args below meth c dC dI cls ad0 A Qf C F ad H locs ls h1 h2 hH hl)
theorem e_i2b {x : Int32} (hd : decode cc pc = .ok (.i2b, 1)) (K : Ev own cc nL d mc ms nm rt ex n0 Rq k n (pc + 1) lv (.int x.toInt8.toInt32 :: st) T σ μ) : Ev own cc nL d mc ms nm rt ex n0 Rq k n pc lv (.int x :: st) T σ μ := by
  intro p l e R s m args below meth c dC dI cls ad0 A Qf C F ad H locs ls h1 h2 hH hl
  exact lv_i2b C.1 C.2.1 hd rfl (K p l e R s m args below meth c dC dI cls ad0 A Qf C F ad H locs ls h1 h2 hH hl)
theorem e_i2s {x : Int32} (hd : decode cc pc = .ok (.i2s, 1)) (K : Ev own cc nL d mc ms nm rt ex n0 Rq k n (pc + 1) lv (.int x.toInt16.toInt32 :: st) T σ μ) : Ev own cc nL d mc ms nm rt ex n0 Rq k n pc lv (.int x :: st) T σ μ := by
  intro p l e R s m args below meth c dC dI cls ad0 A Qf C F ad H locs ls h1 h2 hH hl
  exact lv_i2s C.1 C.2.1 hd rfl (K p l e R s m args below meth c dC dI cls ad0 A Qf C F ad H locs ls h1 h2 hH hl)
theorem e_i2c {x : Int32} (hd : decode cc pc = .ok (.i2c, 1)) (K : Ev own cc nL d mc ms nm rt ex n0 Rq k n (pc + 1) lv (.int (x.toUInt32 % 65536).toInt32 :: st) T σ μ) : Ev own cc nL d mc ms nm rt ex n0 Rq k n pc lv (.int x :: st) T σ μ := by
  intro p l e R s m args below meth c dC dI cls ad0 A Qf C F ad H locs ls h1 h2 hH hl
  exact lv_i2c C.1 C.2.1 hd rfl (K p l e R s m args below meth c dC dI cls ad0 A Qf C F ad H locs ls h1 h2 hH hl)
theorem e_iconst {q : Int} {v : Int32} (hd : decode cc pc = .ok (.iconst q, 1)) (hv : Int32.ofInt q = v) (K : Ev own cc nL d mc ms nm rt ex n0 Rq k n (pc + 1) lv (.int v :: st) T σ μ) : Ev own cc nL d mc ms nm rt ex n0 Rq k n pc lv (st) T σ μ := by
  intro p l e R s m args below meth c dC dI cls ad0 A Qf C F ad H locs ls h1 h2 hH hl
  exact lv_iconst C.1 C.2.1 hd hv (K p l e R s m args below meth c dC dI cls ad0 A Qf C F ad H locs ls h1 h2 hH hl)
theorem e_bipush {q : Int} {v : Int32} (hd : decode cc pc = .ok (.bipush q, 2)) (hv : (Int8.ofInt q).toInt32 = v) (K : Ev own cc nL d mc ms nm rt ex n0 Rq k n (pc + 2) lv (.int v :: st) T σ μ) : Ev own cc nL d mc ms nm rt ex n0 Rq k n pc lv (st) T σ μ := by
  intro p l e R s m args below meth c dC dI cls ad0 A Qf C F ad H locs ls h1 h2 hH hl
  exact lv_bipush C.1 C.2.1 hd hv (K p l e R s m args below meth c dC dI cls ad0 A Qf C F ad H locs ls h1 h2 hH hl)
theorem e_sipush {q : Int} {v : Int32} (hd : decode cc pc = .ok (.sipush q, 3)) (hv : (Int16.ofInt q).toInt32 = v) (K : Ev own cc nL d mc ms nm rt ex n0 Rq k n (pc + 3) lv (.int v :: st) T σ μ) : Ev own cc nL d mc ms nm rt ex n0 Rq k n pc lv (st) T σ μ := by
  intro p l e R s m args below meth c dC dI cls ad0 A Qf C F ad H locs ls h1 h2 hH hl
  exact lv_sipush C.1 C.2.1 hd hv (K p l e R s m args below meth c dC dI cls ad0 A Qf C F ad H locs ls h1 h2 hH hl)
theorem e_lconst {q : Fin 2} {v : Int64} (hd : decode cc pc = .ok (.lconst q, 1)) (hv : Int64.ofNat (q : Nat) = v) (K : Ev own cc nL d mc ms nm rt ex n0 Rq k n (pc + 1) lv (.long v :: st) T σ μ) : Ev own cc nL d mc ms nm rt ex n0 Rq k n pc lv (st) T σ μ := by
  intro p l e R s m args below meth c dC dI cls ad0 A Qf C F ad H locs ls h1 h2 hH hl
  exact lv_lconst C.1 C.2.1 hd hv (K p l e R s m args below meth c dC dI cls ad0 A Qf C F ad H locs ls h1 h2 hH hl)
theorem e_ldc {i : Nat} {v : Int32} (hd : decode cc pc = .ok (.ldc i, 2)) (hc : Cond.constant own i v ∈ ev_ws) (K : Ev own cc nL d mc ms nm rt ex n0 Rq k n (pc + 2) lv (.int v :: st) T σ μ) : Ev own cc nL d mc ms nm rt ex n0 Rq k n pc lv (st) T σ μ := by
  intro p l e R s m args below meth c dC dI cls ad0 A Qf C F ad H locs ls h1 h2 hH hl
  exact lv_ldc C.1 C.2.1 C.2.2.2.1 (C.2.2.2.2.1 _ hc) hd (K p l e R s m args below meth c dC dI cls ad0 A Qf C F ad H locs ls h1 h2 hH hl)
theorem e_ldcw {i : Nat} {v : Int32} (hd : decode cc pc = .ok (.ldc_w i, 3)) (hc : Cond.constant own i v ∈ ev_ws) (K : Ev own cc nL d mc ms nm rt ex n0 Rq k n (pc + 3) lv (.int v :: st) T σ μ) : Ev own cc nL d mc ms nm rt ex n0 Rq k n pc lv (st) T σ μ := by
  intro p l e R s m args below meth c dC dI cls ad0 A Qf C F ad H locs ls h1 h2 hH hl
  exact lv_ldcw C.1 C.2.1 C.2.2.2.1 (C.2.2.2.2.1 _ hc) hd (K p l e R s m args below meth c dC dI cls ad0 A Qf C F ad H locs ls h1 h2 hH hl)
theorem e_ldc2 {i : Nat} {v : Int64} (hd : decode cc pc = .ok (.ldc2_w i, 3)) (hc : Cond.constantLong own i v ∈ ev_ws) (K : Ev own cc nL d mc ms nm rt ex n0 Rq k n (pc + 3) lv (.long v :: st) T σ μ) : Ev own cc nL d mc ms nm rt ex n0 Rq k n pc lv (st) T σ μ := by
  intro p l e R s m args below meth c dC dI cls ad0 A Qf C F ad H locs ls h1 h2 hH hl
  exact lv_ldc2 C.1 C.2.1 C.2.2.2.1 (C.2.2.2.2.1 _ hc) hd (K p l e R s m args below meth c dC dI cls ad0 A Qf C F ad H locs ls h1 h2 hH hl)
theorem e_dup {v : Value} (hd : decode cc pc = .ok (.dup, 1)) (hv : v.category = 1) (K : Ev own cc nL d mc ms nm rt ex n0 Rq k n (pc + 1) lv (v :: v :: st) T σ μ) : Ev own cc nL d mc ms nm rt ex n0 Rq k n pc lv (v :: st) T σ μ := by
  intro p l e R s m args below meth c dC dI cls ad0 A Qf C F ad H locs ls h1 h2 hH hl
  exact lv_dup C.1 C.2.1 hd ((ev_cat ad v).trans hv) (K p l e R s m args below meth c dC dI cls ad0 A Qf C F ad H locs ls h1 h2 hH hl)
theorem e_dup_x1 {v u : Value} (hd : decode cc pc = .ok (.dup_x1, 1)) (hv : v.category = 1) (hu : u.category = 1) (K : Ev own cc nL d mc ms nm rt ex n0 Rq k n (pc + 1) lv (v :: u :: v :: st) T σ μ) : Ev own cc nL d mc ms nm rt ex n0 Rq k n pc lv (v :: u :: st) T σ μ := by
  intro p l e R s m args below meth c dC dI cls ad0 A Qf C F ad H locs ls h1 h2 hH hl
  exact lv_dup_x1 C.1 C.2.1 hd ((ev_cat ad v).trans hv) ((ev_cat ad u).trans hu) (K p l e R s m args below meth c dC dI cls ad0 A Qf C F ad H locs ls h1 h2 hH hl)
theorem e_dup2 {v u : Value} (hd : decode cc pc = .ok (.dup2, 1)) (hv : v.category = 1) (hu : u.category = 1) (K : Ev own cc nL d mc ms nm rt ex n0 Rq k n (pc + 1) lv (v :: u :: v :: u :: st) T σ μ) : Ev own cc nL d mc ms nm rt ex n0 Rq k n pc lv (v :: u :: st) T σ μ := by
  intro p l e R s m args below meth c dC dI cls ad0 A Qf C F ad H locs ls h1 h2 hH hl
  exact lv_dup2_11 C.1 C.2.1 hd ((ev_cat ad v).trans hv) ((ev_cat ad u).trans hu) (K p l e R s m args below meth c dC dI cls ad0 A Qf C F ad H locs ls h1 h2 hH hl)
theorem e_iload_n {q : Fin 4} {i : Nat} {x : Int32} (hd : decode cc pc = .ok (.iload_n q, 1)) (hi : (q : Nat) = i) (z : Nat) (hz : lv[z]? = some (i, .int x)) (K : Ev own cc nL d mc ms nm rt ex n0 Rq k n (pc + 1) lv (.int x :: st) T σ μ) : Ev own cc nL d mc ms nm rt ex n0 Rq k n pc lv st T σ μ := by
  intro p l e R s m args below meth c dC dI cls ad0 A Qf C F ad H locs ls h1 h2 hH hl
  exact lv_iload_n C.1 C.2.1 hd hi (ev_at hl z hz) (K p l e R s m args below meth c dC dI cls ad0 A Qf C F ad H locs ls h1 h2 hH hl)
theorem e_iload {i : Nat} {x : Int32} (hd : decode cc pc = .ok (.iload i, 2)) (z : Nat) (hz : lv[z]? = some (i, .int x)) (K : Ev own cc nL d mc ms nm rt ex n0 Rq k n (pc + 2) lv (.int x :: st) T σ μ) : Ev own cc nL d mc ms nm rt ex n0 Rq k n pc lv st T σ μ := by
  intro p l e R s m args below meth c dC dI cls ad0 A Qf C F ad H locs ls h1 h2 hH hl
  exact lv_iload C.1 C.2.1 hd (ev_at hl z hz) (K p l e R s m args below meth c dC dI cls ad0 A Qf C F ad H locs ls h1 h2 hH hl)
theorem e_aload_n {q : Fin 4} {i : Nat} {x : Nat} (hd : decode cc pc = .ok (.aload_n q, 1)) (hi : (q : Nat) = i) (z : Nat) (hz : lv[z]? = some (i, .ref x)) (K : Ev own cc nL d mc ms nm rt ex n0 Rq k n (pc + 1) lv (.ref x :: st) T σ μ) : Ev own cc nL d mc ms nm rt ex n0 Rq k n pc lv st T σ μ := by
  intro p l e R s m args below meth c dC dI cls ad0 A Qf C F ad H locs ls h1 h2 hH hl
  exact lv_aload_n C.1 C.2.1 hd hi (ev_at hl z hz) (K p l e R s m args below meth c dC dI cls ad0 A Qf C F ad H locs ls h1 h2 hH hl)
theorem e_lload_n {q : Fin 4} {i : Nat} {x : Int64} (hd : decode cc pc = .ok (.lload_n q, 1)) (hi : (q : Nat) = i) (z : Nat) (hz : lv[z]? = some (i, .long x)) (K : Ev own cc nL d mc ms nm rt ex n0 Rq k n (pc + 1) lv (.long x :: st) T σ μ) : Ev own cc nL d mc ms nm rt ex n0 Rq k n pc lv st T σ μ := by
  intro p l e R s m args below meth c dC dI cls ad0 A Qf C F ad H locs ls h1 h2 hH hl
  exact lv_lload_n C.1 C.2.1 hd hi (ev_at hl z hz) (K p l e R s m args below meth c dC dI cls ad0 A Qf C F ad H locs ls h1 h2 hH hl)
theorem e_lload {i : Nat} {x : Int64} (hd : decode cc pc = .ok (.lload i, 2)) (z : Nat) (hz : lv[z]? = some (i, .long x)) (K : Ev own cc nL d mc ms nm rt ex n0 Rq k n (pc + 2) lv (.long x :: st) T σ μ) : Ev own cc nL d mc ms nm rt ex n0 Rq k n pc lv st T σ μ := by
  intro p l e R s m args below meth c dC dI cls ad0 A Qf C F ad H locs ls h1 h2 hH hl
  exact lv_lload C.1 C.2.1 hd (ev_at hl z hz) (K p l e R s m args below meth c dC dI cls ad0 A Qf C F ad H locs ls h1 h2 hH hl)
theorem e_istore_n {q : Fin 4} {i : Nat} {x : Int32} (lv' : List (Nat × Value)) (hd : decode cc pc = .ok (.istore_n q, 1)) (hi : (q : Nat) = i) (hn : i < nL) (he : ev_st lv i (.int x) = lv') (K : Ev own cc nL d mc ms nm rt ex n0 Rq k n (pc + 1) lv' st T σ μ) : Ev own cc nL d mc ms nm rt ex n0 Rq k n pc lv (.int x :: st) T σ μ := by
  intro p l e R s m args below meth c dC dI cls ad0 A Qf C F ad H locs ls h1 h2 hH hl
  exact lv_istore_n C.1 C.2.1 hd hi hl hn rfl (fun ls9 hl9 => K p l e R s m args below meth c dC dI cls ad0 A Qf C F ad H locs ls9 h1 h2 hH (ev_st_has he hl9))
theorem e_istore {i : Nat} {x : Int32} (lv' : List (Nat × Value)) (hd : decode cc pc = .ok (.istore i, 2)) (hn : i < nL) (he : ev_st lv i (.int x) = lv') (K : Ev own cc nL d mc ms nm rt ex n0 Rq k n (pc + 2) lv' st T σ μ) : Ev own cc nL d mc ms nm rt ex n0 Rq k n pc lv (.int x :: st) T σ μ := by
  intro p l e R s m args below meth c dC dI cls ad0 A Qf C F ad H locs ls h1 h2 hH hl
  exact lv_istore C.1 C.2.1 hd hl hn rfl (fun ls9 hl9 => K p l e R s m args below meth c dC dI cls ad0 A Qf C F ad H locs ls9 h1 h2 hH (ev_st_has he hl9))
theorem e_astore_n {q : Fin 4} {i : Nat} {x : Nat} (lv' : List (Nat × Value)) (hd : decode cc pc = .ok (.astore_n q, 1)) (hi : (q : Nat) = i) (hn : i < nL) (he : ev_st lv i (.ref x) = lv') (K : Ev own cc nL d mc ms nm rt ex n0 Rq k n (pc + 1) lv' st T σ μ) : Ev own cc nL d mc ms nm rt ex n0 Rq k n pc lv (.ref x :: st) T σ μ := by
  intro p l e R s m args below meth c dC dI cls ad0 A Qf C F ad H locs ls h1 h2 hH hl
  exact lv_astore_n C.1 C.2.1 hd hi hl hn rfl (fun ls9 hl9 => K p l e R s m args below meth c dC dI cls ad0 A Qf C F ad H locs ls9 h1 h2 hH (ev_st_has he hl9))
theorem e_lstore_n {q : Fin 4} {i : Nat} {x : Int64} (lv' : List (Nat × Value)) (hd : decode cc pc = .ok (.lstore_n q, 1)) (hi : (q : Nat) = i) (hn : i + 1 < nL) (he : ev_st2 lv i (.long x) = lv') (K : Ev own cc nL d mc ms nm rt ex n0 Rq k n (pc + 1) lv' st T σ μ) : Ev own cc nL d mc ms nm rt ex n0 Rq k n pc lv (.long x :: st) T σ μ := by
  intro p l e R s m args below meth c dC dI cls ad0 A Qf C F ad H locs ls h1 h2 hH hl
  exact lv_lstore_n C.1 C.2.1 hd hi hl hn rfl (fun ls9 hl9 => K p l e R s m args below meth c dC dI cls ad0 A Qf C F ad H locs ls9 h1 h2 hH (ev_st2_has he hl9))
theorem e_lstore {i : Nat} {x : Int64} (lv' : List (Nat × Value)) (hd : decode cc pc = .ok (.lstore i, 2)) (hn : i + 1 < nL) (he : ev_st2 lv i (.long x) = lv') (K : Ev own cc nL d mc ms nm rt ex n0 Rq k n (pc + 2) lv' st T σ μ) : Ev own cc nL d mc ms nm rt ex n0 Rq k n pc lv (.long x :: st) T σ μ := by
  intro p l e R s m args below meth c dC dI cls ad0 A Qf C F ad H locs ls h1 h2 hH hl
  exact lv_lstore C.1 C.2.1 hd hl hn rfl (fun ls9 hl9 => K p l e R s m args below meth c dC dI cls ad0 A Qf C F ad H locs ls9 h1 h2 hH (ev_st2_has he hl9))
theorem e_iinc {i : Nat} {j : Int} {x : Int32} (v : Int32) (lv' : List (Nat × Value)) (hd : decode cc pc = .ok (.iinc i j, 3)) (z : Nat) (hz : lv[z]? = some (i, .int x)) (hv : x + Int32.ofInt j = v) (hn : i < nL) (he : ev_st lv i (.int v) = lv') (K : Ev own cc nL d mc ms nm rt ex n0 Rq k n (pc + 3) lv' st T σ μ) : Ev own cc nL d mc ms nm rt ex n0 Rq k n pc lv st T σ μ := by
  intro p l e R s m args below meth c dC dI cls ad0 A Qf C F ad H locs ls h1 h2 hH hl
  exact lv_iinc C.1 C.2.1 hd hl (k := z) (by rw [ev_l, List.getElem?_map, hz]; rfl) hv hn rfl (fun ls9 hl9 => K p l e R s m args below meth c dC dI cls ad0 A Qf C F ad H locs ls9 h1 h2 hH (ev_st_has he hl9))
theorem e_goto {o : Int} {t : Nat} (hd : decode cc pc = .ok (.goto o, 3)) (ht : (pc : Int) + o = (t : Int)) (K : Ev own cc nL d mc ms nm rt ex n0 Rq k n t lv st T σ μ) : Ev own cc nL d mc ms nm rt ex n0 Rq k n pc lv st T σ μ := by
  intro p l e R s m args below meth c dC dI cls ad0 A Qf C F ad H locs ls h1 h2 hH hl
  exact lv_goto C.1 C.2.1 hd ht (K p l e R s m args below meth c dC dI cls ad0 A Qf C F ad H locs ls h1 h2 hH hl)
theorem e_if_eq {x : Int32} {o : Int} {t : Nat} (hd : decode cc pc = .ok (.ifCond .eq o, 3)) (ht : (pc : Int) + o = (t : Int)) (K1 : x = 0 → Ev own cc nL d mc ms nm rt ex n0 Rq k n t lv st T σ μ) (K2 : ¬ x = 0 → Ev own cc nL d mc ms nm rt ex n0 Rq k n (pc + 3) lv st T σ μ) : Ev own cc nL d mc ms nm rt ex n0 Rq k n pc lv (.int x :: st) T σ μ := by
  intro p l e R s m args below meth c dC dI cls ad0 A Qf C F ad H locs ls h1 h2 hH hl
  exact lv_if_eq C.1 C.2.1 hd ht (fun h => K1 h p l e R s m args below meth c dC dI cls ad0 A Qf C F ad H locs ls h1 h2 hH hl) (fun h => K2 h p l e R s m args below meth c dC dI cls ad0 A Qf C F ad H locs ls h1 h2 hH hl)
theorem e_icmp_eq {x y : Int32} {o : Int} {t : Nat} (hd : decode cc pc = .ok (.if_icmp .eq o, 3)) (ht : (pc : Int) + o = (t : Int)) (K1 : x = y → Ev own cc nL d mc ms nm rt ex n0 Rq k n t lv st T σ μ) (K2 : ¬ x = y → Ev own cc nL d mc ms nm rt ex n0 Rq k n (pc + 3) lv st T σ μ) : Ev own cc nL d mc ms nm rt ex n0 Rq k n pc lv (.int y :: .int x :: st) T σ μ := by
  intro p l e R s m args below meth c dC dI cls ad0 A Qf C F ad H locs ls h1 h2 hH hl
  exact lv_icmp_eq C.1 C.2.1 hd ht (fun h => K1 h p l e R s m args below meth c dC dI cls ad0 A Qf C F ad H locs ls h1 h2 hH hl) (fun h => K2 h p l e R s m args below meth c dC dI cls ad0 A Qf C F ad H locs ls h1 h2 hH hl)
theorem e_if_ne {x : Int32} {o : Int} {t : Nat} (hd : decode cc pc = .ok (.ifCond .ne o, 3)) (ht : (pc : Int) + o = (t : Int)) (K1 : ¬ x = 0 → Ev own cc nL d mc ms nm rt ex n0 Rq k n t lv st T σ μ) (K2 : x = 0 → Ev own cc nL d mc ms nm rt ex n0 Rq k n (pc + 3) lv st T σ μ) : Ev own cc nL d mc ms nm rt ex n0 Rq k n pc lv (.int x :: st) T σ μ := by
  intro p l e R s m args below meth c dC dI cls ad0 A Qf C F ad H locs ls h1 h2 hH hl
  exact lv_if_ne C.1 C.2.1 hd ht (fun h => K1 h p l e R s m args below meth c dC dI cls ad0 A Qf C F ad H locs ls h1 h2 hH hl) (fun h => K2 h p l e R s m args below meth c dC dI cls ad0 A Qf C F ad H locs ls h1 h2 hH hl)
theorem e_icmp_ne {x y : Int32} {o : Int} {t : Nat} (hd : decode cc pc = .ok (.if_icmp .ne o, 3)) (ht : (pc : Int) + o = (t : Int)) (K1 : ¬ x = y → Ev own cc nL d mc ms nm rt ex n0 Rq k n t lv st T σ μ) (K2 : x = y → Ev own cc nL d mc ms nm rt ex n0 Rq k n (pc + 3) lv st T σ μ) : Ev own cc nL d mc ms nm rt ex n0 Rq k n pc lv (.int y :: .int x :: st) T σ μ := by
  intro p l e R s m args below meth c dC dI cls ad0 A Qf C F ad H locs ls h1 h2 hH hl
  exact lv_icmp_ne C.1 C.2.1 hd ht (fun h => K1 h p l e R s m args below meth c dC dI cls ad0 A Qf C F ad H locs ls h1 h2 hH hl) (fun h => K2 h p l e R s m args below meth c dC dI cls ad0 A Qf C F ad H locs ls h1 h2 hH hl)
theorem e_if_lt {x : Int32} {o : Int} {t : Nat} (hd : decode cc pc = .ok (.ifCond .lt o, 3)) (ht : (pc : Int) + o = (t : Int)) (K1 : x < 0 → Ev own cc nL d mc ms nm rt ex n0 Rq k n t lv st T σ μ) (K2 : ¬ x < 0 → Ev own cc nL d mc ms nm rt ex n0 Rq k n (pc + 3) lv st T σ μ) : Ev own cc nL d mc ms nm rt ex n0 Rq k n pc lv (.int x :: st) T σ μ := by
  intro p l e R s m args below meth c dC dI cls ad0 A Qf C F ad H locs ls h1 h2 hH hl
  exact lv_if_lt C.1 C.2.1 hd ht (fun h => K1 h p l e R s m args below meth c dC dI cls ad0 A Qf C F ad H locs ls h1 h2 hH hl) (fun h => K2 h p l e R s m args below meth c dC dI cls ad0 A Qf C F ad H locs ls h1 h2 hH hl)
theorem e_icmp_lt {x y : Int32} {o : Int} {t : Nat} (hd : decode cc pc = .ok (.if_icmp .lt o, 3)) (ht : (pc : Int) + o = (t : Int)) (K1 : x < y → Ev own cc nL d mc ms nm rt ex n0 Rq k n t lv st T σ μ) (K2 : ¬ x < y → Ev own cc nL d mc ms nm rt ex n0 Rq k n (pc + 3) lv st T σ μ) : Ev own cc nL d mc ms nm rt ex n0 Rq k n pc lv (.int y :: .int x :: st) T σ μ := by
  intro p l e R s m args below meth c dC dI cls ad0 A Qf C F ad H locs ls h1 h2 hH hl
  exact lv_icmp_lt C.1 C.2.1 hd ht (fun h => K1 h p l e R s m args below meth c dC dI cls ad0 A Qf C F ad H locs ls h1 h2 hH hl) (fun h => K2 h p l e R s m args below meth c dC dI cls ad0 A Qf C F ad H locs ls h1 h2 hH hl)
theorem e_if_ge {x : Int32} {o : Int} {t : Nat} (hd : decode cc pc = .ok (.ifCond .ge o, 3)) (ht : (pc : Int) + o = (t : Int)) (K1 : 0 ≤ x → Ev own cc nL d mc ms nm rt ex n0 Rq k n t lv st T σ μ) (K2 : ¬ 0 ≤ x → Ev own cc nL d mc ms nm rt ex n0 Rq k n (pc + 3) lv st T σ μ) : Ev own cc nL d mc ms nm rt ex n0 Rq k n pc lv (.int x :: st) T σ μ := by
  intro p l e R s m args below meth c dC dI cls ad0 A Qf C F ad H locs ls h1 h2 hH hl
  exact lv_if_ge C.1 C.2.1 hd ht (fun h => K1 h p l e R s m args below meth c dC dI cls ad0 A Qf C F ad H locs ls h1 h2 hH hl) (fun h => K2 h p l e R s m args below meth c dC dI cls ad0 A Qf C F ad H locs ls h1 h2 hH hl)
theorem e_icmp_ge {x y : Int32} {o : Int} {t : Nat} (hd : decode cc pc = .ok (.if_icmp .ge o, 3)) (ht : (pc : Int) + o = (t : Int)) (K1 : y ≤ x → Ev own cc nL d mc ms nm rt ex n0 Rq k n t lv st T σ μ) (K2 : ¬ y ≤ x → Ev own cc nL d mc ms nm rt ex n0 Rq k n (pc + 3) lv st T σ μ) : Ev own cc nL d mc ms nm rt ex n0 Rq k n pc lv (.int y :: .int x :: st) T σ μ := by
  intro p l e R s m args below meth c dC dI cls ad0 A Qf C F ad H locs ls h1 h2 hH hl
  exact lv_icmp_ge C.1 C.2.1 hd ht (fun h => K1 h p l e R s m args below meth c dC dI cls ad0 A Qf C F ad H locs ls h1 h2 hH hl) (fun h => K2 h p l e R s m args below meth c dC dI cls ad0 A Qf C F ad H locs ls h1 h2 hH hl)
theorem e_if_gt {x : Int32} {o : Int} {t : Nat} (hd : decode cc pc = .ok (.ifCond .gt o, 3)) (ht : (pc : Int) + o = (t : Int)) (K1 : 0 < x → Ev own cc nL d mc ms nm rt ex n0 Rq k n t lv st T σ μ) (K2 : ¬ 0 < x → Ev own cc nL d mc ms nm rt ex n0 Rq k n (pc + 3) lv st T σ μ) : Ev own cc nL d mc ms nm rt ex n0 Rq k n pc lv (.int x :: st) T σ μ := by
  intro p l e R s m args below meth c dC dI cls ad0 A Qf C F ad H locs ls h1 h2 hH hl
  exact lv_if_gt C.1 C.2.1 hd ht (fun h => K1 h p l e R s m args below meth c dC dI cls ad0 A Qf C F ad H locs ls h1 h2 hH hl) (fun h => K2 h p l e R s m args below meth c dC dI cls ad0 A Qf C F ad H locs ls h1 h2 hH hl)
theorem e_icmp_gt {x y : Int32} {o : Int} {t : Nat} (hd : decode cc pc = .ok (.if_icmp .gt o, 3)) (ht : (pc : Int) + o = (t : Int)) (K1 : y < x → Ev own cc nL d mc ms nm rt ex n0 Rq k n t lv st T σ μ) (K2 : ¬ y < x → Ev own cc nL d mc ms nm rt ex n0 Rq k n (pc + 3) lv st T σ μ) : Ev own cc nL d mc ms nm rt ex n0 Rq k n pc lv (.int y :: .int x :: st) T σ μ := by
  intro p l e R s m args below meth c dC dI cls ad0 A Qf C F ad H locs ls h1 h2 hH hl
  exact lv_icmp_gt C.1 C.2.1 hd ht (fun h => K1 h p l e R s m args below meth c dC dI cls ad0 A Qf C F ad H locs ls h1 h2 hH hl) (fun h => K2 h p l e R s m args below meth c dC dI cls ad0 A Qf C F ad H locs ls h1 h2 hH hl)
theorem e_if_le {x : Int32} {o : Int} {t : Nat} (hd : decode cc pc = .ok (.ifCond .le o, 3)) (ht : (pc : Int) + o = (t : Int)) (K1 : x ≤ 0 → Ev own cc nL d mc ms nm rt ex n0 Rq k n t lv st T σ μ) (K2 : ¬ x ≤ 0 → Ev own cc nL d mc ms nm rt ex n0 Rq k n (pc + 3) lv st T σ μ) : Ev own cc nL d mc ms nm rt ex n0 Rq k n pc lv (.int x :: st) T σ μ := by
  intro p l e R s m args below meth c dC dI cls ad0 A Qf C F ad H locs ls h1 h2 hH hl
  exact lv_if_le C.1 C.2.1 hd ht (fun h => K1 h p l e R s m args below meth c dC dI cls ad0 A Qf C F ad H locs ls h1 h2 hH hl) (fun h => K2 h p l e R s m args below meth c dC dI cls ad0 A Qf C F ad H locs ls h1 h2 hH hl)
theorem e_icmp_le {x y : Int32} {o : Int} {t : Nat} (hd : decode cc pc = .ok (.if_icmp .le o, 3)) (ht : (pc : Int) + o = (t : Int)) (K1 : x ≤ y → Ev own cc nL d mc ms nm rt ex n0 Rq k n t lv st T σ μ) (K2 : ¬ x ≤ y → Ev own cc nL d mc ms nm rt ex n0 Rq k n (pc + 3) lv st T σ μ) : Ev own cc nL d mc ms nm rt ex n0 Rq k n pc lv (.int y :: .int x :: st) T σ μ := by
  intro p l e R s m args below meth c dC dI cls ad0 A Qf C F ad H locs ls h1 h2 hH hl
  exact lv_icmp_le C.1 C.2.1 hd ht (fun h => K1 h p l e R s m args below meth c dC dI cls ad0 A Qf C F ad H locs ls h1 h2 hH hl) (fun h => K2 h p l e R s m args below meth c dC dI cls ad0 A Qf C F ad H locs ls h1 h2 hH hl)
theorem e_tswIn {dflt lo hi : Int} {offs : Array Int} {len : Nat} {x : Int32} {o : Int} {t : Nat} (hd : decode cc pc = .ok (.tableswitch dflt lo hi offs, len)) (h1' : ¬ x.toInt < lo) (h2' : ¬ hi < x.toInt) (ho : offs[(x.toInt - lo).toNat]? = some o) (ht : (pc : Int) + o = (t : Int)) (K : Ev own cc nL d mc ms nm rt ex n0 Rq k n t lv st T σ μ) : Ev own cc nL d mc ms nm rt ex n0 Rq k n pc lv (.int x :: st) T σ μ := by
  intro p l e R s m args below meth c dC dI cls ad0 A Qf C F ad H locs ls h1 h2 hH hl
  exact lv_tableIn C.1 C.2.1 hd h1' h2' ho ht (K p l e R s m args below meth c dC dI cls ad0 A Qf C F ad H locs ls h1 h2 hH hl)
theorem e_tswOut {dflt lo hi : Int} {offs : Array Int} {len : Nat} {x : Int32} {t : Nat} (hd : decode cc pc = .ok (.tableswitch dflt lo hi offs, len)) (h : x.toInt < lo ∨ hi < x.toInt) (ht : (pc : Int) + dflt = (t : Int)) (K : Ev own cc nL d mc ms nm rt ex n0 Rq k n t lv st T σ μ) : Ev own cc nL d mc ms nm rt ex n0 Rq k n pc lv (.int x :: st) T σ μ := by
  intro p l e R s m args below meth c dC dI cls ad0 A Qf C F ad H locs ls h1 h2 hH hl
  exact lv_tableOut C.1 C.2.1 hd h ht (K p l e R s m args below meth c dC dI cls ad0 A Qf C F ad H locs ls h1 h2 hH hl)
theorem e_lv (lv' : List (Nat × Value)) (h : ∀ q ∈ lv', q ∈ lv) (K : Ev own cc nL d mc ms nm rt ex n0 Rq k n pc lv' st T σ μ) : Ev own cc nL d mc ms nm rt ex n0 Rq k n pc lv st T σ μ := by
  intro p l e R s m args below meth c dC dI cls ad0 A Qf C F ad H locs ls h1 h2 hH hl
  exact K p l e R s m args below meth c dC dI cls ad0 A Qf C F ad H locs ls h1 h2 hH (ev_lsub hl h)
theorem e_name {x : Int32} (K : ∀ y : Int32, y = x → Ev own cc nL d mc ms nm rt ex n0 Rq k n pc lv (.int y :: st) T σ μ) : Ev own cc nL d mc ms nm rt ex n0 Rq k n pc lv (.int x :: st) T σ μ := K x rfl
theorem e_ret {x : Int32} (hd : decode cc pc = .ok (.ireturn, 1)) (hn : ev_nw rt x) (hk : k ≤ mc) (hk2 : n ≤ ms) (hR : Rq (some (.int x)) T σ μ) : Ev own cc nL d mc ms nm rt ex n0 Rq k n pc lv [.int x] T σ μ := by
  intro p l e R s m args below meth c dC dI cls ad0 A Qf C F ad H locs ls h1 h2 hH hl
  exact W.widen hk hk2 ((F ad H locs ls pc T σ μ h1 h2 hH).1 x hd hn hR)
theorem e_lret {x : Int64} (hd : decode cc pc = .ok (.lreturn, 1)) (hn : rt = some .long) (hk : k ≤ mc) (hk2 : n ≤ ms) (hR : Rq (some (.long x)) T σ μ) : Ev own cc nL d mc ms nm rt ex n0 Rq k n pc lv [.long x] T σ μ := by
  intro p l e R s m args below meth c dC dI cls ad0 A Qf C F ad H locs ls h1 h2 hH hl
  exact W.widen hk hk2 ((F ad H locs ls pc T σ μ h1 h2 hH).2.1 x hd hn hR)
theorem e_vret (hd : decode cc pc = .ok (.return_, 1)) (hn : rt = none) (hk : k ≤ mc) (hk2 : n ≤ ms) (hR : Rq (none) T σ μ) : Ev own cc nL d mc ms nm rt ex n0 Rq k n pc lv [] T σ μ := by
  intro p l e R s m args below meth c dC dI cls ad0 A Qf C F ad H locs ls h1 h2 hH hl
  exact W.widen hk hk2 ((F ad H locs ls pc T σ μ h1 h2 hH).2.2 hd hn hR)
end EV
end
section
section EVH
variable {own : String} {cc : ByteArray} {nL d mc ms : Nat} {nm : String} {rt : Option FieldType} {ex : List (Nat × Nat × (Nat → Int32))} {n0 : Nat} {Rq : ev_Q} {k n pc : Nat} {lv : List (Nat × Value)} {st : List Value} {T : List ex_T} {σ : ex_S} {μ : ex_L}
theorem e_getI {i idx ci f : Nat} {sl : List (Option (Option Nat))} (hd : decode cc pc = .ok (.getfield idx, 3)) (hk : ev_lg own idx ci f) (hT : T[i]? = some (.inl (ci, sl))) (hs : sl[f]? = some none)
    (K : Ev own cc nL d mc ms nm rt ex n0 Rq k n (pc + 3) lv (.int (σ i f) :: st) T σ μ) : Ev own cc nL d mc ms nm rt ex n0 Rq k n pc lv (.ref i :: st) T σ μ := by
  intro p l e R s m args below meth c dC dI cls ad0 A Qf C F ad H locs ls h1 h2 hH hl
  obtain ⟨Cn, TT, N, hc, hin, hf, hlk⟩ := hk
  refine va_get (D := (dC, dI)) C.1 C.2.1 (Ts := ev_ws) C.2.2.2.2.1 hin C.2.2.2.1 C.2.2.2.2.2.2.2.2.2.2.2.1.1 hH.1 i (ev_w_get hT) hc f hf (C.2.2.2.2.1 _ hlk) (fun _ h => h) (v := .int (σ i f)) ?_ hd (K p l e R s m args below meth c dC dI cls ad0 A Qf C F ad H locs ls h1 h2 hH hl)
  rw [List.getElem?_mapIdx, hs]
  rfl
theorem e_getR {i idx ci f r : Nat} {sl : List (Option (Option Nat))} (hd : decode cc pc = .ok (.getfield idx, 3)) (hk : ev_lg own idx ci f) (hT : T[i]? = some (.inl (ci, sl))) (hs : sl[f]? = some (some (some r)))
    (K : Ev own cc nL d mc ms nm rt ex n0 Rq k n (pc + 3) lv (.ref r :: st) T σ μ) : Ev own cc nL d mc ms nm rt ex n0 Rq k n pc lv (.ref i :: st) T σ μ := by
  intro p l e R s m args below meth c dC dI cls ad0 A Qf C F ad H locs ls h1 h2 hH hl
  obtain ⟨Cn, TT, N, hc, hin, hf, hlk⟩ := hk
  refine va_get (D := (dC, dI)) C.1 C.2.1 (Ts := ev_ws) C.2.2.2.2.1 hin C.2.2.2.1 C.2.2.2.2.2.2.2.2.2.2.2.1.1 hH.1 i (ev_w_get hT) hc f hf (C.2.2.2.2.1 _ hlk) (fun _ h => h) (v := .ref (ad r)) ?_ hd (K p l e R s m args below meth c dC dI cls ad0 A Qf C F ad H locs ls h1 h2 hH hl)
  rw [List.getElem?_mapIdx, hs]
  rfl
theorem ev_set_int {ad : Nat → Nat} {cls : Nat → ClassId} {i f ci : Nat} {sl : List (Option (Option Nat))} {x : Int32} (hT : T[i]? = some (.inl (ci, sl))) (hs : sl[f]? = some none) :
    (ev_w ad cls T σ μ).set i (ad i, .inr (ci, (sl.mapIdx fun k s => ev_s ad σ i k s).set f (.int x))) = ev_w ad cls T (sup σ i f x) μ := by
  rw [sup_eq, ev_w_srow hT]
  refine congrArg (fun z => (ev_w ad cls T σ μ).set i (ad i, z)) ?_
  show Sum.inr (ci, _) = Sum.inr (ci, _)
  refine congrArg (fun z => Sum.inr (ci, z)) ?_
  apply List.ext_getElem?
  intro j
  rw [List.getElem?_set, List.getElem?_mapIdx, List.getElem?_mapIdx, List.length_mapIdx]
  have hlt := (List.getElem?_eq_some_iff.mp hs).1
  by_cases hj : f = j
  · subst hj
    rw [if_pos rfl, if_pos hlt, hs]
    show _ = some (Value.int (srow σ i (upd (σ i) f x) i f))
    rw [srow, if_pos rfl, upd, if_pos rfl]
  · rw [if_neg hj]
    refine congrArg (fun z => Option.map z sl[j]?) ?_
    funext s
    cases s with
    | none =>
      show Value.int (σ i j) = Value.int (srow σ i (upd (σ i) f x) i j)
      rw [srow, if_pos rfl, upd, if_neg (fun q => hj q.symm)]
    | some r => rfl
theorem e_putI {i idx ci f : Nat} {sl : List (Option (Option Nat))} {x : Int32} {ty : FieldType} (hd : decode cc pc = .ok (.putfield idx, 3)) (hk : ev_lk own idx ci f ty false) (hT : T[i]? = some (.inl (ci, sl))) (hs : sl[f]? = some none) (hn : narrow ty (.int x) = .int x) (hfit : fits ty (.int x) = true)
    (K : Ev own cc nL d mc ms nm rt ex n0 Rq k n (pc + 3) lv st T (sup σ i f x) μ) : Ev own cc nL d mc ms nm rt ex n0 Rq k n pc lv (.int x :: .ref i :: st) T σ μ := by
  intro p l e R s m args below meth c dC dI cls ad0 A Qf C F ad H locs ls h1 h2 hH hl
  obtain ⟨Cn, TT, N, ty0, hc, hin, hf, hlk, hty, hnm, hfin, -, hpd⟩ := hk
  refine va_put (D := (dC, dI)) C.1 C.2.1 (Ts := ev_ws) C.2.2.2.2.1 hin ty0 hty hnm C.2.2.2.1 C.2.2.2.2.2.2.2.2.2.2.2.1.1 hH.1 hH.2.1 hH.2.2.1 i (ev_w_get hT) hc f hf (C.2.2.2.2.1 _ hlk) (fun _ h => h) hfin hpd hn hfit (by rw [List.length_mapIdx]; exact (List.getElem?_eq_some_iff.mp hs).1) hd (fun H1 locs1 hP hD hS => ?_)
  have e1 := ev_set_int (ad := ad) (cls := cls) (μ := μ) (x := x) (σ := σ) hT hs
  have hP : va_P (dC, dI) vwCl (ev_w ad cls T (sup σ i f x) μ) H1 := by
    rw [← e1]
    exact hP
  have hD : va_D A (ev_w ad cls T (sup σ i f x) μ) := by
    rw [← e1]
    exact hD
  exact K p l e R s m args below meth c dC dI cls ad0 A Qf C F ad H1 locs1 ls h1 h2 ⟨hP, hD, hS, hH.2.2.2⟩ hl
theorem ev_a_int {ad : Nat → Nat} {ty n : Nat} {fs : List (Option Nat)} {i : Nat} (h : ty ≤ 1) : ev_a ad σ μ i ty n fs = (n, .inl (σ i)) := by
  unfold ev_a
  rw [if_neg (by omega), if_pos h]
theorem ev_a_long {ad : Nat → Nat} {n : Nat} {fs : List (Option Nat)} {i : Nat} : ev_a ad σ μ i 2 n fs = (n, .inr (.inl (μ i))) := rfl
theorem ev_a_ref {ad : Nat → Nat} {ty n : Nat} {fs : List (Option Nat)} {i : Nat} (h : 3 ≤ ty) : ev_a ad σ μ i ty n fs = (n, .inr (.inr (.inr (.inr (fun j => (fs.getD j none).map ad))))) := by
  unfold ev_a
  rw [if_neg (by omega), if_neg (by omega)]
theorem ev_w_getA {ad : Nat → Nat} {cls : Nat → ClassId} {i ty N : Nat} {fs : List (Option Nat)} (h : T[i]? = some (.inr (ty, N, fs))) : (ev_w ad cls T σ μ)[i]? = some (ad i, .inl (cls ty, ev_a ad σ μ i ty N fs)) := ev_w_get h
theorem e_iald {i N : Nat} {fs : List (Option Nat)} {x : Int32} (hd : decode cc pc = .ok (.iaload, 1)) (hT : T[i]? = some (.inr (0, N, fs))) (hx : vp_in x N)
    (K : Ev own cc nL d mc ms nm rt ex n0 Rq k n (pc + 1) lv (.int (σ i x.toNatClampNeg) :: st) T σ μ) : Ev own cc nL d mc ms nm rt ex n0 Rq k n pc lv (.int x :: .ref i :: st) T σ μ := by
  intro p l e R s m args below meth c dC dI cls ad0 A Qf C F ad H locs ls h1 h2 hH hl
  exact va_iald (D := (dC, dI)) C.1 C.2.1 C.2.2.2.2.2.2.2.2.2.2.2.1.1 hH.1 i 0 (ev_w_getA hT) rfl hx hd (K p l e R s m args below meth c dC dI cls ad0 A Qf C F ad H locs ls h1 h2 hH hl)
theorem e_cald {i N : Nat} {fs : List (Option Nat)} {x : Int32} (hd : decode cc pc = .ok (.caload, 1)) (hT : T[i]? = some (.inr (1, N, fs))) (hx : vp_in x N)
    (K : Ev own cc nL d mc ms nm rt ex n0 Rq k n (pc + 1) lv (.int (σ i x.toNatClampNeg) :: st) T σ μ) : Ev own cc nL d mc ms nm rt ex n0 Rq k n pc lv (.int x :: .ref i :: st) T σ μ := by
  intro p l e R s m args below meth c dC dI cls ad0 A Qf C F ad H locs ls h1 h2 hH hl
  exact va_cald (D := (dC, dI)) C.1 C.2.1 C.2.2.2.2.2.2.2.2.2.2.2.1.1 hH.1 i 1 (ev_w_getA hT) rfl hx hd (K p l e R s m args below meth c dC dI cls ad0 A Qf C F ad H locs ls h1 h2 hH hl)
theorem e_lald {i N : Nat} {fs : List (Option Nat)} {x : Int32} (hd : decode cc pc = .ok (.laload, 1)) (hT : T[i]? = some (.inr (2, N, fs))) (hx : vp_in x N)
    (K : Ev own cc nL d mc ms nm rt ex n0 Rq k n (pc + 1) lv (.long (μ i x.toNatClampNeg) :: st) T σ μ) : Ev own cc nL d mc ms nm rt ex n0 Rq k n pc lv (.int x :: .ref i :: st) T σ μ := by
  intro p l e R s m args below meth c dC dI cls ad0 A Qf C F ad H locs ls h1 h2 hH hl
  exact va_lald (D := (dC, dI)) C.1 C.2.1 C.2.2.2.2.2.2.2.2.2.2.2.1.1 hH.1 i 2 (ev_w_getA hT) rfl hx hd (K p l e R s m args below meth c dC dI cls ad0 A Qf C F ad H locs ls h1 h2 hH hl)
theorem ev_set_arr {ad : Nat → Nat} {cls : Nat → ClassId} {i N ty : Nat} {fs : List (Option Nat)} {f : Nat → Int32} (hT : T[i]? = some (.inr (ty, N, fs))) (h : ty ≤ 1) :
    (ev_w ad cls T σ μ).set i (ad i, .inl (cls ty, N, .inl f)) = ev_w ad cls T (srow σ i f) μ := by
  rw [ev_w_srow hT]
  refine congrArg (fun z => (ev_w ad cls T σ μ).set i (ad i, z)) ?_
  show _ = Sum.inl (cls ty, ev_a ad (srow σ i f) μ i ty N fs)
  rw [ev_a_int h, srow, if_pos rfl]
theorem ev_set_larr {ad : Nat → Nat} {cls : Nat → ClassId} {i N : Nat} {fs : List (Option Nat)} {f : Nat → Int64} (hT : T[i]? = some (.inr (2, N, fs))) :
    (ev_w ad cls T σ μ).set i (ad i, .inl (cls 2, N, .inr (.inl f))) = ev_w ad cls T σ (lrow μ i f) := by
  rw [ev_w_lrow hT]
  refine congrArg (fun z => (ev_w ad cls T σ μ).set i (ad i, z)) ?_
  show _ = Sum.inl (cls 2, ev_a ad σ (lrow μ i f) i 2 N fs)
  rw [ev_a_long, lrow, if_pos rfl]
theorem e_iast {i N : Nat} {fs : List (Option Nat)} {x v : Int32} (hd : decode cc pc = .ok (.iastore, 1)) (hT : T[i]? = some (.inr (0, N, fs))) (hx : vp_in x N)
    (K : Ev own cc nL d mc ms nm rt ex n0 Rq k n (pc + 1) lv st T (sup σ i x.toNatClampNeg v) μ) : Ev own cc nL d mc ms nm rt ex n0 Rq k n pc lv (.int v :: .int x :: .ref i :: st) T σ μ := by
  intro p l e R s m args below meth c dC dI cls ad0 A Qf C F ad H locs ls h1 h2 hH hl
  refine va_iast (D := (dC, dI)) C.1 C.2.1 C.2.2.2.2.2.2.2.2.2.2.2.1.1 hH.1 hH.2.1 hH.2.2.1 i 0 (ev_w_getA hT) rfl hx hd (fun H1 locs1 hP hD hS => ?_)
  have e1 := ev_set_arr (ad := ad) (cls := cls) (μ := μ) (σ := σ) (f := upd (σ i) x.toNatClampNeg v) hT (Nat.zero_le 1)
  rw [e1] at hP hD
  exact K p l e R s m args below meth c dC dI cls ad0 A Qf C F ad H1 locs1 ls h1 h2 ⟨hP, hD, hS, hH.2.2.2⟩ hl
theorem e_cast {i N : Nat} {fs : List (Option Nat)} {x v : Int32} (hd : decode cc pc = .ok (.castore, 1)) (hT : T[i]? = some (.inr (1, N, fs))) (hx : vp_in x N)
    (K : Ev own cc nL d mc ms nm rt ex n0 Rq k n (pc + 1) lv st T (sup σ i x.toNatClampNeg (vp_nar .char v)) μ) : Ev own cc nL d mc ms nm rt ex n0 Rq k n pc lv (.int v :: .int x :: .ref i :: st) T σ μ := by
  intro p l e R s m args below meth c dC dI cls ad0 A Qf C F ad H locs ls h1 h2 hH hl
  refine va_cast (D := (dC, dI)) C.1 C.2.1 C.2.2.2.2.2.2.2.2.2.2.2.1.1 hH.1 hH.2.1 hH.2.2.1 i 1 (ev_w_getA hT) rfl hx hd (fun H1 locs1 hP hD hS => ?_)
  have e1 := ev_set_arr (ad := ad) (cls := cls) (μ := μ) (σ := σ) (f := upd (σ i) x.toNatClampNeg (vp_nar .char v)) hT (Nat.le_refl 1)
  rw [e1] at hP hD
  exact K p l e R s m args below meth c dC dI cls ad0 A Qf C F ad H1 locs1 ls h1 h2 ⟨hP, hD, hS, hH.2.2.2⟩ hl
theorem e_last {i N : Nat} {fs : List (Option Nat)} {x : Int32} {v : Int64} (hd : decode cc pc = .ok (.lastore, 1)) (hT : T[i]? = some (.inr (2, N, fs))) (hx : vp_in x N)
    (K : Ev own cc nL d mc ms nm rt ex n0 Rq k n (pc + 1) lv st T σ (lrow μ i (vp_updL (μ i) x.toNatClampNeg v))) : Ev own cc nL d mc ms nm rt ex n0 Rq k n pc lv (.long v :: .int x :: .ref i :: st) T σ μ := by
  intro p l e R s m args below meth c dC dI cls ad0 A Qf C F ad H locs ls h1 h2 hH hl
  refine va_last (D := (dC, dI)) C.1 C.2.1 C.2.2.2.2.2.2.2.2.2.2.2.1.1 hH.1 hH.2.1 hH.2.2.1 i 2 (ev_w_getA hT) rfl hx hd (fun H1 locs1 hP hD hS => ?_)
  have e1 := ev_set_larr (ad := ad) (cls := cls) (μ := μ) (σ := σ) (f := vp_updL (μ i) x.toNatClampNeg v) hT
  rw [e1] at hP hD
  exact K p l e R s m args below meth c dC dI cls ad0 A Qf C F ad H1 locs1 ls h1 h2 ⟨hP, hD, hS, hH.2.2.2⟩ hl
theorem e_alen {i N ty : Nat} {fs : List (Option Nat)} (hd : decode cc pc = .ok (.arraylength, 1)) (hT : T[i]? = some (.inr (ty, N, fs))) (hty : ty < 6)
    (K : Ev own cc nL d mc ms nm rt ex n0 Rq k n (pc + 1) lv (.int (Int32.ofNat N) :: st) T σ μ) : Ev own cc nL d mc ms nm rt ex n0 Rq k n pc lv (.ref i :: st) T σ μ := by
  intro p l e R s m args below meth c dC dI cls ad0 A Qf C F ad H locs ls h1 h2 hH hl
  have hK := C.2.2.2.2.2.2.2.2.2.2.2.1.1
  have hv : Int32.ofNat (ev_a ad σ μ i ty N fs).1 = Int32.ofNat N := rfl
  match ty, hty with
  | 0, _ => exact va_alen (D := (dC, dI)) C.1 C.2.1 hK hH.1 i 0 (ev_w_getA hT) rfl hv hd (K p l e R s m args below meth c dC dI cls ad0 A Qf C F ad H locs ls h1 h2 hH hl)
  | 1, _ => exact va_alen (D := (dC, dI)) C.1 C.2.1 hK hH.1 i 1 (ev_w_getA hT) rfl hv hd (K p l e R s m args below meth c dC dI cls ad0 A Qf C F ad H locs ls h1 h2 hH hl)
  | 2, _ => exact va_alen (D := (dC, dI)) C.1 C.2.1 hK hH.1 i 2 (ev_w_getA hT) rfl hv hd (K p l e R s m args below meth c dC dI cls ad0 A Qf C F ad H locs ls h1 h2 hH hl)
  | 3, _ => exact va_alen (D := (dC, dI)) C.1 C.2.1 hK hH.1 i 3 (ev_w_getA hT) rfl hv hd (K p l e R s m args below meth c dC dI cls ad0 A Qf C F ad H locs ls h1 h2 hH hl)
  | 4, _ => exact va_alen (D := (dC, dI)) C.1 C.2.1 hK hH.1 i 4 (ev_w_getA hT) rfl hv hd (K p l e R s m args below meth c dC dI cls ad0 A Qf C F ad H locs ls h1 h2 hH hl)
  | 5, _ => exact va_alen (D := (dC, dI)) C.1 C.2.1 hK hH.1 i 5 (ev_w_getA hT) rfl hv hd (K p l e R s m args below meth c dC dI cls ad0 A Qf C F ad H locs ls h1 h2 hH hl)
theorem e_aald {i N ty r : Nat} {fs : List (Option Nat)} {x : Int32} (hd : decode cc pc = .ok (.aaload, 1)) (hT : T[i]? = some (.inr (ty, N, fs))) (hty : ty = 3 ∨ ty = 4 ∨ ty = 5) (hx : vp_in x N) (hr : fs[x.toNatClampNeg]? = some (some r))
    (K : Ev own cc nL d mc ms nm rt ex n0 Rq k n (pc + 1) lv (.ref r :: st) T σ μ) : Ev own cc nL d mc ms nm rt ex n0 Rq k n pc lv (.int x :: .ref i :: st) T σ μ := by
  intro p l e R s m args below meth c dC dI cls ad0 A Qf C F ad H locs ls h1 h2 hH hl
  have hK := C.2.2.2.2.2.2.2.2.2.2.2.1.1
  have hlt : x.toNatClampNeg < N := Nat.not_le.mp fun q => hx (Or.inr q)
  have hg := ev_w_getA (ad := ad) (cls := cls) (σ := σ) (μ := μ) hT
  rw [ev_a_ref (by omega)] at hg
  have hv : va_rf ((fs.getD x.toNatClampNeg none).map ad) = .ref (ad r) := by rw [List.getD_eq_getElem?_getD, hr]; rfl
  have hcell := hH.1 i _ hg
  have kk := K p l e R s m args below meth c dC dI cls ad0 A Qf C F ad H locs ls h1 h2 hH hl
  have hsz : ∀ z : Nat → Value, ¬ (x < 0 ∨ (arrV (cls ty) N z).slots.size ≤ x.toNatClampNeg) := fun z => by rw [arrV_size]; exact hx
  rcases hty with rfl | rfl | rfl
  · exact W.aald (v := .ref (ad r)) (ty := .array .int) C.1 C.2.1 hcell ((hK.2 3 _ rfl).1 N (fun j => va_rf ((fs.getD j none).map ad))) rfl (fun q => by cases q) (hsz _) (by show (arrV _ _ _).slots[_]? = _; rw [arrV_read _ _ hlt, hv]) rfl rfl hd kk
  · exact W.aald (v := .ref (ad r)) (ty := .array .long) C.1 C.2.1 hcell ((hK.2 4 _ rfl).1 N (fun j => va_rf ((fs.getD j none).map ad))) rfl (fun q => by cases q) (hsz _) (by show (arrV _ _ _).slots[_]? = _; rw [arrV_read _ _ hlt, hv]) rfl rfl hd kk
  · exact W.aald (v := .ref (ad r)) (ty := .object "RepairGroups$Span") C.1 C.2.1 hcell ((hK.2 5 _ rfl).1 N (fun j => va_rf ((fs.getD j none).map ad))) rfl (fun q => by cases q) (hsz _) (by show (arrV _ _ _).slots[_]? = _; rw [arrV_read _ _ hlt, hv]) rfl rfl hd kk
theorem e_xald {i N : Nat} {f : Nat → Int32} {x : Int32} (hd : decode cc pc = .ok (.iaload, 1)) (hT : (i, N, f) ∈ ex) (hx : vp_in x N)
    (K : Ev own cc nL d mc ms nm rt ex n0 Rq k n (pc + 1) lv (.int (f x.toNatClampNeg) :: st) T σ μ) : Ev own cc nL d mc ms nm rt ex n0 Rq k n pc lv (.int x :: .ref i :: st) T σ μ := by
  intro p l e R s m args below meth c dC dI cls ad0 A Qf C F ad H locs ls h1 h2 hH hl
  obtain ⟨c1, c2, c3, c4, c5, c6, c7, c8, c9, c10, c11, c12, c13⟩ := id C
  obtain ⟨g1, g2, g3, g4⟩ := c13.2.2 _ hT
  have e1 : ad i = ad0 i := h1 i (Or.inr g4)
  have kk := K p l e R s m args below meth c dC dI cls ad0 A Qf C F ad H locs ls h1 h2 hH hl
  exact va_sld C.1 C.2.1 (b := ad i) (L := N) (xs := f) (by rw [e1]; exact g1) (by rw [e1]; exact g2) (by rw [e1]; exact g3) hH.2.2.1 hx hd kk
theorem e_xlen {i N : Nat} {f : Nat → Int32} (hd : decode cc pc = .ok (.arraylength, 1)) (hT : (i, N, f) ∈ ex)
    (K : Ev own cc nL d mc ms nm rt ex n0 Rq k n (pc + 1) lv (.int (Int32.ofNat N) :: st) T σ μ) : Ev own cc nL d mc ms nm rt ex n0 Rq k n pc lv (.ref i :: st) T σ μ := by
  intro p l e R s m args below meth c dC dI cls ad0 A Qf C F ad H locs ls h1 h2 hH hl
  obtain ⟨c1, c2, c3, c4, c5, c6, c7, c8, c9, c10, c11, c12, c13⟩ := id C
  obtain ⟨g1, g2, g3, g4⟩ := c13.2.2 _ hT
  have e1 : ad i = ad0 i := h1 i (Or.inr g4)
  have kk := K p l e R s m args below meth c dC dI cls ad0 A Qf C F ad H locs ls h1 h2 hH hl
  exact va_slen C.1 C.2.1 (b := ad i) (L := N) (xs := f) (by rw [e1]; exact g1) (by rw [e1]; exact g2) (by rw [e1]; exact g3) hH.2.2.1 hd kk
theorem e_above {idx : Nat} (hd : decode cc pc = .ok (.getstatic idx, 3)) (hk : Cond.fieldLink own idx "RepairGroups" "ABOVE" "[I" ∈ ev_ws)
    (K : Ev own cc nL d mc ms nm rt ex n0 Rq k n (pc + 3) lv (.ref 1000 :: st) T σ μ) : Ev own cc nL d mc ms nm rt ex n0 Rq k n pc lv st T σ μ := by
  intro p l e R s m args below meth c dC dI cls ad0 A Qf C F ad H locs ls h1 h2 hH hl
  have kk := K p l e R s m args below meth c dC dI cls ad0 A Qf C F ad H locs ls h1 h2 hH hl
  obtain ⟨c1, c2, c3, c4, c5, c6, c7, c8, c9, c10, c11, c12, c13⟩ := id C
  exact va_gets c1 c2 c13.1 hH.2.2.1 C.2.2.2.1 (C.2.2.2.2.1 _ hk) (fun _ h => h) hd (by rw [← h1 1000 (Or.inr (Nat.le_refl _))]; exact kk)
theorem ev_copyroom {R : Room} {ad : Nat → Nat} (hst : (st.map fun v => v.category).sum ≤ 8) (c8 : 60 * d ≤ R.locals) (hd2 : 2 ≤ d) : ((st.map (ev_v ad)).map fun v => v.category).sum + (nativeFrameWords "java/lang/System" "arraycopy" 5 + 11) ≤ R.locals := by
  have h9 : nativeFrameWords "java/lang/System" "arraycopy" 5 + 11 ≤ 60 := by decide +kernel
  rw [ev_cats]
  omega
theorem e_acopy {i j Ni Nj idx : Nat} {fi fj : List (Option Nat)} {sp dp q : Int32} (hd : decode cc pc = .ok (.invokestatic idx, 3)) (hk : Cond.methodLink own idx arraycopyName ∈ ev_ws) (hi : T[i]? = some (.inr (0, Ni, fi))) (hj : T[j]? = some (.inr (0, Nj, fj)))
    (g1 : ¬ sp < 0) (g2 : ¬ dp < 0) (g3 : ¬ q < 0) (g4 : sp.toNatClampNeg + q.toNatClampNeg ≤ Ni) (g5 : dp.toNatClampNeg + q.toNatClampNeg ≤ Nj) (hd2 : 2 ≤ d) (hst : (st.map fun v => v.category).sum ≤ 8)
    (K : Ev own cc nL d mc ms nm rt ex n0 Rq k n (pc + 3) lv st T (srow σ j (va_cpy (σ i) (σ j) sp.toNatClampNeg dp.toNatClampNeg q.toNatClampNeg)) μ) : Ev own cc nL d mc ms nm rt ex n0 Rq k n pc lv (.int q :: .int dp :: .ref j :: .int sp :: .ref i :: st) T σ μ := by
  intro p l e R s m args below meth c dC dI cls ad0 A Qf C F ad H locs ls h1 h2 hH hl
  obtain ⟨c1, c2, c3, c4, c5, c6, c7, c8, c9, c10, c11, c12, c13⟩ := id C
  refine va_copyi (D := (dC, dI)) c1 c2 (c3.trans hl.1.symm) c4 (c5 _ hk) (c5 _ ka_n) (c5 _ ka_s) (c5 _ kz_J10) c12.1 hH.1 hH.2.1 hH.2.2.1 i j 0 0 (ev_w_getA hi) (ev_w_getA hj) (ty := .int) rfl rfl rfl g1 g2 g3 g4 g5 (fun _ _ => rfl) (by omega) (ev_copyroom hst c8 hd2) hd (fun H1 locs1 hP hD hS => ?_)
  have e1 := ev_set_arr (ad := ad) (cls := cls) (μ := μ) (σ := σ) (f := va_cpy (σ i) (σ j) sp.toNatClampNeg dp.toNatClampNeg q.toNatClampNeg) hj (Nat.zero_le 1)
  rw [e1] at hP hD
  exact K p l e R s m args below meth c dC dI cls ad0 A Qf C F ad H1 locs1 ls h1 h2 ⟨hP, hD, hS, hH.2.2.2⟩ hl
theorem e_lcopy {i j Ni Nj idx : Nat} {fi fj : List (Option Nat)} {sp dp q : Int32} (hd : decode cc pc = .ok (.invokestatic idx, 3)) (hk : Cond.methodLink own idx arraycopyName ∈ ev_ws) (hi : T[i]? = some (.inr (2, Ni, fi))) (hj : T[j]? = some (.inr (2, Nj, fj)))
    (g1 : ¬ sp < 0) (g2 : ¬ dp < 0) (g3 : ¬ q < 0) (g4 : sp.toNatClampNeg + q.toNatClampNeg ≤ Ni) (g5 : dp.toNatClampNeg + q.toNatClampNeg ≤ Nj) (hd2 : 2 ≤ d) (hst : (st.map fun v => v.category).sum ≤ 8)
    (K : Ev own cc nL d mc ms nm rt ex n0 Rq k n (pc + 3) lv st T σ (lrow μ j (va_cpy (μ i) (μ j) sp.toNatClampNeg dp.toNatClampNeg q.toNatClampNeg))) : Ev own cc nL d mc ms nm rt ex n0 Rq k n pc lv (.int q :: .int dp :: .ref j :: .int sp :: .ref i :: st) T σ μ := by
  intro p l e R s m args below meth c dC dI cls ad0 A Qf C F ad H locs ls h1 h2 hH hl
  obtain ⟨c1, c2, c3, c4, c5, c6, c7, c8, c9, c10, c11, c12, c13⟩ := id C
  refine va_copyl (D := (dC, dI)) c1 c2 (c3.trans hl.1.symm) c4 (c5 _ hk) (c5 _ ka_n) (c5 _ ka_s) (c5 _ kz_J10) c12.1 hH.1 hH.2.1 hH.2.2.1 i j 2 2 (ev_w_getA hi) (ev_w_getA hj) (ty := .long) rfl rfl rfl g1 g2 g3 g4 g5 (fun _ _ => rfl) (by omega) (ev_copyroom hst c8 hd2) hd (fun H1 locs1 hP hD hS => ?_)
  have e1 := ev_set_larr (ad := ad) (cls := cls) (μ := μ) (σ := σ) (f := va_cpy (μ i) (μ j) sp.toNatClampNeg dp.toNatClampNeg q.toNatClampNeg) hj
  rw [e1] at hP hD
  exact K p l e R s m args below meth c dC dI cls ad0 A Qf C F ad H1 locs1 ls h1 h2 ⟨hP, hD, hS, hH.2.2.2⟩ hl
theorem e_mmax {idx : Nat} {x y : Int32} (hd : decode cc pc = .ok (.invokestatic idx, 3)) (hk : ev_cvS own idx yJ9_max_7cf53 cJ9_max_7cf53 2 (some .int) 2) (hd2 : 2 ≤ d) (hst : (st.map fun v => v.category).sum ≤ 8) (hk2 : k ≤ mc) (hn2 : n ≤ ms)
    (K : Ev own cc nL d mc ms nm rt ex n0 Rq k n (pc + 3) lv (.int (if x < y then y else x) :: st) T σ μ) : Ev own cc nL d mc ms nm rt ex n0 Rq k n pc lv (.int y :: .int x :: st) T σ μ := by
  intro p l e R s m args below meth c dC dI cls ad0 A Qf C F ad H locs ls h1 h2 hH hl
  obtain ⟨c1, c2, c3, c4, c5, c6, c7, c8, c9, c10, c11, c12, c13⟩ := id C
  obtain ⟨⟨b1, b2, b3, -, -⟩, b4⟩ := hk
  exact va_mmax c1 c2 (c3.trans hl.1.symm) c4 (c5 _ b1) (c5 _ b4) (c5 _ b3) (c5 _ b2) (by omega) (by rw [ev_cats]; omega) (by omega) (by omega) hd (K p l e R s m args below meth c dC dI cls ad0 A Qf C F ad H locs ls h1 h2 hH hl)
theorem e_mmin {idx : Nat} {x y : Int32} (hd : decode cc pc = .ok (.invokestatic idx, 3)) (hk : ev_cvS own idx yJ9_min_7cf53 cJ9_min_7cf53 2 (some .int) 2) (hd2 : 2 ≤ d) (hst : (st.map fun v => v.category).sum ≤ 8) (hk2 : k ≤ mc) (hn2 : n ≤ ms)
    (K : Ev own cc nL d mc ms nm rt ex n0 Rq k n (pc + 3) lv (.int (if y < x then y else x) :: st) T σ μ) : Ev own cc nL d mc ms nm rt ex n0 Rq k n pc lv (.int y :: .int x :: st) T σ μ := by
  intro p l e R s m args below meth c dC dI cls ad0 A Qf C F ad H locs ls h1 h2 hH hl
  obtain ⟨c1, c2, c3, c4, c5, c6, c7, c8, c9, c10, c11, c12, c13⟩ := id C
  obtain ⟨⟨b1, b2, b3, -, -⟩, b4⟩ := hk
  exact va_mmin c1 c2 (c3.trans hl.1.symm) c4 (c5 _ b1) (c5 _ b4) (c5 _ b3) (c5 _ b2) (by omega) (by rw [ev_cats]; omega) (by omega) (by omega) hd (K p l e R s m args below meth c dC dI cls ad0 A Qf C F ad H locs ls h1 h2 hH hl)
theorem e_labs {idx : Nat} {x : Int64} (hd : decode cc pc = .ok (.invokestatic idx, 3)) (hk : ev_cvS own idx yJ9_abs_067f4 cJ9_abs_067f4 2 (some .long) 1) (hd2 : 2 ≤ d) (hst : (st.map fun v => v.category).sum ≤ 8) (hk2 : k ≤ mc) (hn2 : n ≤ ms)
    (K : Ev own cc nL d mc ms nm rt ex n0 Rq k n (pc + 3) lv (.long (if 0 < x then x else -x) :: st) T σ μ) : Ev own cc nL d mc ms nm rt ex n0 Rq k n pc lv (.long x :: st) T σ μ := by
  intro p l e R s m args below meth c dC dI cls ad0 A Qf C F ad H locs ls h1 h2 hH hl
  obtain ⟨c1, c2, c3, c4, c5, c6, c7, c8, c9, c10, c11, c12, c13⟩ := id C
  obtain ⟨⟨b1, b2, b3, -, -⟩, b4⟩ := hk
  exact va_mabs_long c1 c2 (c3.trans hl.1.symm) c4 (c5 _ b1) (c5 _ b4) (c5 _ b3) (c5 _ b2) (by omega) (by rw [ev_cats]; omega) (by omega) (by omega) hd (K p l e R s m args below meth c dC dI cls ad0 A Qf C F ad H locs ls h1 h2 hH hl)
end EVH
end
section
section EVC
variable {own : String} {cc : ByteArray} {nL d mc ms : Nat} {nm : String} {rt : Option FieldType} {ex : List (Nat × Nat × (Nat → Int32))} {n0 : Nat} {Rq : ev_Q} {k n pc : Nat} {lv : List (Nat × Value)} {st : List Value} {T : List ex_T} {σ : ex_S} {μ : ex_L}
def ev_pr : Option Value → Prop
  | some (.int _) => True
  | some (.long _) => True
  | none => True
  | _ => False
def ev_Pb (dC : Nat → ClassId) (dI : Nat → Nat → Nat) (cls : Nat → ClassId) (ad : Nat → Nat) (T : List ex_T) (σ : ex_S) (μ : ex_L) (sz : Nat) : State → Prop := fun U =>
  U.heap.size = sz ∧ va_P (dC, dI) vwCl (ev_w ad cls T σ μ) U.heap ∧ va_D (fun _ => True) (ev_w ad cls T σ μ) ∧ ev_K dC dI cls U ∧ ev_X ad (va_A (ev_w ad cls T σ μ) sz) ev_ext U ∧ ev_ok T
def ev_Qb (dC : Nat → ClassId) (dI : Nat → Nat → Nat) (cls : Nat → ClassId) (ad : Nat → Nat) (T : List ex_T) (σ : ex_S) (μ : ex_L) (sz : Nat) (Rq : ev_Q) : Array Value → State → Outcome → State → Prop := fun _ s o t =>
  (∃ (v : Option Value) (T' : List ex_T) (σ' : ex_S) (μ' : ex_L) (ad' : Nat → Nat), o = .returned v ∧ ev_pr v ∧ Rq v T' σ' μ' ∧ ev_ad T.length ad ad' ∧ T.length ≤ T'.length ∧ va_P (dC, dI) vwCl (ev_w ad' cls T' σ' μ') t.heap ∧ va_D (va_A (ev_w ad cls T σ μ) sz) (ev_w ad' cls T' σ' μ') ∧ ev_ok T') ∧ va_F (va_A (ev_w ad cls T σ μ) sz) s t
/-- A CONTRACT: from the heap T σ μ with these arguments the method returns, with what Rq holds of -/
def Cl (d mc ms : Nat) (y : MethodName) (bytes : ByteArray) (maxL : Nat) (ret : Option FieldType) (As : List Value) (T : List ex_T) (σ : ex_S) (μ : ex_L) (Rq : ev_Q) : Prop :=
  ∀ (l : Launch) (dC : Nat → ClassId) (dI : Nat → Nat → Nat) (cls : Nat → ClassId) (ad : Nat → Nat) (sz : Nat),
    Met l y (Cond.code y bytes maxL ret :: ev_ws) { frames := d, cells := mc, slots := ms, locals := 60 * d } (va_Pc (As.map (ev_v ad)) (ev_Pb dC dI cls ad T σ μ sz)) (ev_Qb dC dI cls ad T σ μ sz Rq) mc ms (va_A (ev_w ad cls T σ μ) sz)
/-- a contract of a method that makes nothing: its answer, and the heap behind it -/
abbrev Fn (d : Nat) (y : MethodName) (bytes : ByteArray) (maxL : Nat) (ret : Option FieldType) (As : List Value) (T : List ex_T) (σ : ex_S) (μ : ex_L) (v : Option Value) (σ' : ex_S) (μ' : ex_L) : Prop :=
  Cl d 0 0 y bytes maxL ret As T σ μ (fun v2 T2 σ2 μ2 => v2 = v ∧ T2 = T ∧ σ2 = σ' ∧ μ2 = μ')
theorem ev_args (ad : Nat → Nat) : ∀ (i : Nat) (As : List Value), lv_args i (As.map (ev_v ad)) = ev_l ad (lv_args i As)
  | _, [] => rfl
  | i, v :: vs => by
    show (i, ev_v ad v) :: lv_args (if (ev_v ad v).category = 2 then i + 2 else i + 1) (vs.map (ev_v ad)) = (i, ev_v ad v) :: ev_l ad (lv_args (if v.category = 2 then i + 2 else i + 1) vs)
    rw [ev_cat, ev_args ad _ vs]
theorem ev_lgsl (ad : Nat → Nat) : ∀ As : List Value, (lg_sl (As.map (ev_v ad))).length = (lg_sl As).length
  | [] => rfl
  | v :: vs => by
    have h := ev_lgsl ad vs
    have hc := ev_cat ad v
    simp only [lg_sl, List.map_cons, List.flatMap_cons, List.length_append] at h ⊢
    rw [h]
    congr 1
    cases v <;> rfl
theorem Cl_of {y : MethodName} {bytes : ByteArray} {maxL : Nat} {ret : Option FieldType} {As : List Value} (hy : plainName y.cls = true) (hlen : (lg_sl As).length ≤ maxL)
    (hE : Ev y.cls bytes maxL d mc ms y.name ret ev_ext T.length Rq 0 0 0 (lv_args 0 As) [] T σ μ) : Cl d mc ms y bytes maxL ret As T σ μ Rq := by
  intro l dC dI cls ad sz
  refine Met.ofW (cc := bytes) (maxL := maxL) (ret := ret) hy rfl ?_
  intro p e s m args below meth c s₁ B hml hv
  obtain ⟨rfl, hsz, hP, hD0, hK, hX, hO⟩ := hv
  subst hsz
  have hD : va_D (va_A (ev_w ad cls T σ μ) s.heap.size) (ev_w ad cls T σ μ) := hD0.self
  have hown : s.vm.findClass y.cls = some m.cls := findClass_of_methodNamed B.named
  have hnm := (name_of_methodNamed B.named B.method).1
  have hts := atoms_spec (ws := Cond.code y bytes maxL ret :: ev_ws) B.pre
  have hl := lv_entry (As.map (ev_v ad)) (n := maxL) (by rw [ev_lgsl]; exact hlen)
  rw [ev_args] at hl
  rw [lg_entry_eq]
  refine hE p l e _ s m _ below meth c dC dI cls ad (va_A (ev_w ad cls T σ μ) s.heap.size) _ ⟨B.exec, B.bytes, hml, hown, fun w h => hts w (List.mem_cons_of_mem _ h), hnm, Nat.le_refl _, Nat.le_refl _, Nat.le_refl _, Nat.le_refl _, fun q h => Or.inr h, hK, hX⟩ ?_ ad s.heap [] _ (fun _ _ => rfl) (Nat.le_refl _) ⟨hP, hD, va_S.rf, hO⟩ hl
  intro ad' H locs ls pc T' σ' μ' ha hle hH
  have hfin : ∀ (v : Option Value), ev_pr v → Rq v T' σ' μ' → ∀ t : State, t.heap = H → ev_Qb dC dI cls ad T σ μ s.heap.size Rq ((As.map (ev_v ad)).toArray) s (.returned v) t := fun v hv hR t ht =>
    ⟨⟨v, T', σ', μ', ad', rfl, hv, hR, ha, hle, by rw [ht]; exact hH.1, hH.2.1, hH.2.2.2⟩, hH.2.2.1.F ht⟩
  refine ⟨fun x hdg hnw hR => ?_, fun x hdg hr hR => ?_, fun hdg hr hR => ?_⟩
  · obtain ⟨ty, hr, hn⟩ := hnw
    exact W.zret B.exec B.bytes (B.returns.trans hr) hn (fun t ht _ => hfin (some (.int x)) trivial hR t ht) hH.2.2.1.2.2 hdg B.notSynchronized
  · exact W.lret B.exec B.bytes (B.returns.trans hr) (fun t ht _ => hfin (some (.long x)) trivial hR t ht) hH.2.2.1.2.2 hdg B.notSynchronized
  · exact W.vret B.exec B.bytes (B.returns.trans hr) (fun t ht _ => hfin none trivial hR t ht) hH.2.2.1.2.2 hdg B.notSynchronized
-- a call
theorem ev_K_moved {dC : Nat → ClassId} {dI : Nat → Nat → Nat} {cls : Nat → ClassId} {s U : State} (hW : s.WarmedH U.vm) (h : ev_K dC dI cls s) : ev_K dC dI cls U :=
  ⟨va_K.moved hW.alike h.1, h.2.1.warmM hW, h.2.2.1.warmM hW, h.2.2.2.warmM hW⟩
theorem ev_sub {A : Nat → Prop} {s : State} {H : Heap} {locs : List Loc} {ws : va_W} (hD : va_D A ws) (hS : va_S A s.heap H locs) (hA : ∀ q, s.heap.size ≤ q → A q) : ∀ q, va_A ws H.size q → A q := by
  intro q h
  rcases h with ⟨j, e, h⟩ | h
  · exact hD.2 j (q, e) h
  · exact hA q (Nat.le_trans hS.1 h)
theorem ev_X_moved {ad0 ad : Nat → Nat} {A B : Nat → Prop} {s U : State} {H : Heap} {locs : List Loc} (hX : ev_X ad0 A ex s) (hU : U.heap = H) (hW : s.WarmedH U.vm) (hS : va_S A s.heap H locs) (ha : ∀ i, 1000 ≤ i → ad i = ad0 i) (hBA : ∀ q, B q → A q) : ev_X ad B ev_ext U := by
  have hk : ∀ a : Nat, a < s.heap.size → ¬ A a → U.heap[a]? = s.heap[a]? := fun a h1 h2 => by rw [hU]; exact hS.2.1 a h1 h2
  refine ⟨?_, List.mem_singleton_self _, fun x hx => ?_⟩
  · rw [ha 1000 (Nat.le_refl _)]
    exact ((hX.1.moved hW.alike).kept hk).narrow hBA
  · obtain rfl := List.mem_singleton.mp hx
    obtain ⟨g1, g2, g3, g4⟩ := hX.2.2 _ hX.2.1
    dsimp only at g1 g2 g3 g4 ⊢
    rw [ha 1000 (Nat.le_refl _)]
    exact ⟨(g1.moved hW.alike).kept (hk _ g2 g3), by rw [hU]; exact Nat.lt_of_lt_of_le g2 hS.1, fun h => g3 (hBA _ h), g4⟩
theorem ev_blind {dC : Nat → ClassId} {dI : Nat → Nat → Nat} {cls : Nat → ClassId} {ad : Nat → Nat} {As : List Value} {sz : Nat} : FrameBlind (va_Pc As (ev_Pb dC dI cls ad T σ μ sz)) := by
  intro a U g mk q
  obtain ⟨q0, q1, q2, q3, ⟨k1, k2, k3, k4⟩, ⟨x1, x2, x3⟩, q6⟩ := q
  refine ⟨q0, q1, q2, q3, ⟨va_K.moved (u := U) (U := U.calling g mk a) (Vm.Alike.refl U.vm) k1, va_Nw.same rfl rfl k2, va_Nw.same rfl rfl k3, va_Nw.same rfl rfl k4⟩, ⟨va_Z.moved (u := U) (U := U.calling g mk a) (Vm.Alike.refl U.vm) x1, x2, fun x hx => ?_⟩, q6⟩
  obtain ⟨g1, g2, g3, g4⟩ := x3 x hx
  exact ⟨va_X.moved (u := U) (U := U.calling g mk a) (Vm.Alike.refl U.vm) g1, g2, g3, g4⟩
theorem ev_good {y : MethodName} {bytes : ByteArray} {maxL : Nat} {ret : Option FieldType} (h : Cond.code y bytes maxL ret ∈ ev_ws) : GoodIn ev_ws (Cond.code y bytes maxL ret :: ev_ws) := by
  intro w hw
  have hm : w ∈ ev_ws := by
    rcases List.mem_cons.mp hw with rfl | hw
    · exact h
    · exact hw
  exact ⟨hm, good_of_word (ev_ws_good w hm)⟩
theorem ev_core {p : Program} {l : Launch} {e : Env} {R : Room} {s : State} {m : MethodId} {args : Array Value} {below : List Frame} {meth : Method} {c : Code} {dC : Nat → ClassId} {dI : Nat → Nat → Nat} {cls : Nat → ClassId} {A : Nat → Prop} {Qf : State → Prop} {ad : Nat → Nat} {H : Heap} {locs : List Loc} {ls : Array Slot} {mc' ms' : Nat} {st0 rest : List Value} {Rq' : ev_Q} {a : Array Value}
    (hA : ∀ q, s.heap.size ≤ q → A q) (hH : ev_H dC dI cls A s ad T σ μ H locs)
    (hr : va_Run p l e R s m args below meth c H locs k n mc' ms' (F0 m pc ls st0) rest (ev_Qb dC dI cls ad T σ μ H.size Rq' a) (va_A (ev_w ad cls T σ μ) H.size))
    (kk : ∀ (v : Option Value) (T' : List ex_T) (σ' : ex_S) (μ' : ex_L) (ad' : Nat → Nat) (H1 : Heap) (locs1 : List Loc), ev_pr v → Rq' v T' σ' μ' → ev_ad T.length ad ad' → T.length ≤ T'.length → ev_H dC dI cls A s ad' T' σ' μ' H1 locs1 → W p l e R s m args below meth c H1 locs1 (k + mc') (n + ms') Qf (F0 m (pc + 3) ls (v.toList ++ rest))) :
    W p l e R s m args below meth c H locs k n Qf (F0 m pc ls st0) := by
  have hs := ev_sub hH.2.1 hH.2.2.1 hA
  intro U hU X
  obtain ⟨v, st₀, t, U', L, h0, X', hL, e1, e2, ⟨⟨v2, T', σ', μ', ad', hv, hpr, hR, ha, hle, hP', hD', hO'⟩, hz, hk⟩, go⟩ := hr U hU X
  cases hv
  rw [h0] at hz hk
  obtain ⟨t2, a1, b1⟩ := kk v T' σ' μ' ad' U'.heap (locs ++ L) hpr hR ha hle ⟨by rw [e1]; exact hP', hD'.weaken (fun _ _ _ h => hs _ h), ⟨Nat.le_trans hH.2.2.1.1 (by rw [e1]; exact hz), fun q g1 g2 => by
      rw [e1, hk q (Nat.lt_of_lt_of_le g1 hH.2.2.1.1) (fun z => g2 (hs q z))]
      exact hH.2.2.1.2.1 q g1 g2, fun q hq => by
      rcases List.mem_append.mp hq with h | h
      · exact hH.2.2.1.2.2 q h
      · exact hs _ (hL q h)⟩, hO'⟩ U' rfl X'
  exact ⟨t2, go t2 a1, b1⟩
theorem ev_pre {p : Program} {R : Room} {s : State} {m : MethodId} {args : Array Value} {meth : Method} {c : Code} {dC : Nat → ClassId} {dI : Nat → Nat → Nat} {cls : Nat → ClassId} {ad0 ad : Nat → Nat} {A : Nat → Prop} {H : Heap} {locs : List Loc} (As : List Value)
    (C : ev_C own cc nL d mc ms nm ex p R s m args meth c dC dI cls ad0 A) (h1 : ev_ad n0 ad0 ad) (hH : ev_H dC dI cls A s ad T σ μ H locs) :
    ∀ U : State, U.heap = H → s.WarmedH U.vm → va_Pc (As.map (ev_v ad)) (ev_Pb dC dI cls ad T σ μ H.size) (As.map (ev_v ad)).toArray U := by
  obtain ⟨c1, c2, c3, c4, c5, c6, c7, c8, c9, c10, c11, c12, c13⟩ := C
  intro U hU hW
  exact ⟨rfl, by rw [hU], by rw [hU]; exact hH.1, hH.2.1.weaken (fun _ _ _ _ => trivial), ev_K_moved hW c12, ev_X_moved c13 hU hW hH.2.2.1 (fun i hi => h1 i (Or.inr hi)) (ev_sub hH.2.1 hH.2.2.1 c11), hH.2.2.2⟩
/-- behind a call that made nothing -/
theorem ev_same {ad ad' : Nat → Nat} {cls : Nat → ClassId} (ha : ev_ad T.length ad ad') (hO : ev_ok T) : ev_w ad' cls T σ μ = ev_w ad cls T σ μ := by
  apply List.ext_getElem?
  intro j
  rw [ev_w, ev_w, List.getElem?_mapIdx, List.getElem?_mapIdx]
  cases hj : T[j]? with
  | none => rfl
  | some te =>
    have hlt := (List.getElem?_eq_some_iff.mp hj).1
    have hte := hO te (List.mem_of_getElem? hj)
    show some (ad' j, ev_e ad' cls σ μ j te) = some (ad j, ev_e ad cls σ μ j te)
    rw [ha j (Or.inl hlt)]
    refine congrArg (fun z => some (ad j, z)) ?_
    have hmap : ∀ r : Option Nat, (∀ x, r = some x → x < T.length) → r.map ad' = r.map ad := by
      intro r hr
      cases r with
      | none => rfl
      | some x => exact congrArg some (ha x (Or.inl (hr x rfl)))
    cases te with
    | inl o =>
      show Sum.inr (o.1, _) = Sum.inr (o.1, _)
      refine congrArg (fun z => Sum.inr (o.1, z)) ?_
      apply List.ext_getElem?
      intro q
      rw [List.getElem?_mapIdx, List.getElem?_mapIdx]
      cases hq : o.2[q]? with
      | none => rfl
      | some sl =>
        cases sl with
        | none => rfl
        | some r =>
          show some (va_rf (r.map ad')) = some (va_rf (r.map ad))
          rw [hmap r (fun x hx => hte x (by rw [← hx]; exact List.mem_of_getElem? hq))]
    | inr a =>
      obtain ⟨ty, N, fs⟩ := a
      show Sum.inl (cls ty, ev_a ad' σ μ j ty N fs) = Sum.inl (cls ty, ev_a ad σ μ j ty N fs)
      refine congrArg (fun z => Sum.inl (cls ty, z)) ?_
      unfold ev_a
      have hf : (fun q => (fs.getD q none).map ad') = (fun q => (fs.getD q none).map ad) := by
        funext q
        refine hmap _ (fun x hx => hte x ?_)
        rw [List.getD_eq_getElem?_getD] at hx
        cases hq : fs[q]? with
        | none => rw [hq] at hx; cases hx
        | some r =>
          rw [hq] at hx
          dsimp only [Option.getD_some] at hx
          rw [← hx]
          exact List.mem_of_getElem? hq
      rw [hf]
theorem ev_mapcons (ad : Nat → Nat) (As rest : List Value) (b : Nat) : (As.reverse ++ Value.ref b :: rest).map (ev_v ad) = (As.map (ev_v ad)).reverse ++ .ref (ad b) :: rest.map (ev_v ad) := by
  rw [List.map_append, List.map_reverse, List.map_cons]
  rfl
theorem ev_mapapp (ad : Nat → Nat) (As rest : List Value) : (As.reverse ++ rest).map (ev_v ad) = (As.map (ev_v ad)).reverse ++ rest.map (ev_v ad) := by
  rw [List.map_append, List.map_reverse]
theorem ev_vl {v : Option Value} (h : ev_pr v) (ad : Nat → Nat) : v.toList.map (ev_v ad) = v.toList := by
  cases v with
  | none => rfl
  | some v => cases v <;> first | rfl | exact absurd h id
theorem ev_room {m : MethodId} {ls : Array Slot} {st0 rest : List Value} {ad : Nat → Nat} (h : (rest.map fun v => v.category).sum ≤ 8) : 2 * (F0 m pc ls st0).monitorRoom + ((rest.map (ev_v ad)).map fun v => v.category).sum ≤ 8 := lv_room (by rw [ev_cats]; exact h)
/-- invokevirtual of a method that makes nothing -/
theorem e_callV {idx na d' b ci maxL : Nat} {y : MethodName} {bytes : ByteArray} {ret : Option FieldType} {sl : List (Option (Option Nat))} {As rest : List Value} {v : Option Value} {σ' : ex_S} {μ' : ex_L} (hd : decode cc pc = .ok (.invokevirtual idx, 3)) (hcv : ev_cvV own idx y bytes maxL ret na) (hna : As.length = na) (hT : T[b]? = some (.inl (ci, sl))) (hc : (vwCl[ci]?).map (fun q => q.1) = some y.cls)
    (hM : Fn d' y bytes maxL ret (.ref b :: As) T σ μ v σ' μ') (hd' : d' + 1 ≤ d) (hk : k ≤ mc) (hk2 : n ≤ ms) (hst0 : st = As.reverse ++ .ref b :: rest) (hst : (rest.map fun v => v.category).sum ≤ 8)
    (K : Ev own cc nL d mc ms nm rt ex n0 Rq k n (pc + 3) lv (v.toList ++ rest) T σ' μ') : Ev own cc nL d mc ms nm rt ex n0 Rq k n pc lv st T σ μ := by
  intro p l e R s m args below meth c dC dI cls ad0 A Qf C F ad H locs ls h1 h2 hH hl
  obtain ⟨c1, c2, c3, c4, c5, c6, c7, c8, c9, c10, c11, c12, c13⟩ := id C
  obtain ⟨⟨w1, w2, w3, w4, w5⟩, w6, w7⟩ := hcv
  subst hst0
  have cw : CallW R s args own y.cls idx y bytes maxL ret (Cond.code y bytes maxL ret :: ev_ws) { frames := d', cells := 0, slots := 0, locals := 60 * d' } 0 0 na :=
    ⟨callB_of na c5 (ev_good w2) rfl rfl rfl (c5 _ w3) (c5 _ w1) w4 ⟨Nat.le_trans hd' c7, by show 8 + (maxL + 11) + 60 * d' ≤ R.locals; omega⟩, c5 _ w6, c5 _ w7⟩
  obtain ⟨q, hq1, hq2⟩ := Option.map_eq_some_iff.mp hc
  have hrc := va_recv c12.1 hH.1 hq1 (ev_w_get (ad := ad) (cls := cls) (σ := σ) (μ := μ) hT)
  rw [hq2] at hrc
  rw [ev_mapcons]
  refine ev_core c11 hH (va_runV (As := As.map (ev_v ad)) (rest := rest.map (ev_v ad)) ⟨c1, c2, c3, c4, c5⟩ (hM l dC dI cls ad H.size) cw ⟨ev_blind, hrc, ev_pre (.ref b :: As) C h1 hH⟩ rfl (by rw [List.length_map]; exact hna) hl.1 rfl (ev_room hst) hd ⟨by omega, by omega⟩) ?_
  intro v2 T' σ2 μ2 ad' H1 locs1 hpr hR ha hle hH1
  obtain ⟨e1, e2, e3, e4⟩ := hR
  rw [e1] at hpr ⊢
  rw [e2, e3, e4] at hH1
  have hH2 : ev_H dC dI cls A s ad T σ' μ' H1 locs1 := by
    have e1 := ev_same (σ := σ') (μ := μ') (cls := cls) ha hH1.2.2.2
    unfold ev_H at hH1 ⊢
    rw [e1] at hH1
    exact hH1
  have kk := K p l e R s m args below meth c dC dI cls ad0 A Qf C F ad H1 locs1 ls h1 h2 hH2 hl
  rw [List.map_append, ev_vl hpr] at kk
  exact kk
theorem e_callS {idx na d' maxL : Nat} {y : MethodName} {bytes : ByteArray} {ret : Option FieldType} {As rest : List Value} {v : Option Value} {σ' : ex_S} {μ' : ex_L} (hd : decode cc pc = .ok (.invokestatic idx, 3)) (hcv : ev_cvS own idx y bytes maxL ret na) (hna : As.length = na)
    (hM : Fn d' y bytes maxL ret As T σ μ v σ' μ') (hd' : d' + 1 ≤ d) (hk : k ≤ mc) (hk2 : n ≤ ms) (hst0 : st = As.reverse ++ rest) (hst : (rest.map fun v => v.category).sum ≤ 8)
    (K : Ev own cc nL d mc ms nm rt ex n0 Rq k n (pc + 3) lv (v.toList ++ rest) T σ' μ') : Ev own cc nL d mc ms nm rt ex n0 Rq k n pc lv st T σ μ := by
  intro p l e R s m args below meth c dC dI cls ad0 A Qf C F ad H locs ls h1 h2 hH hl
  obtain ⟨c1, c2, c3, c4, c5, c6, c7, c8, c9, c10, c11, c12, c13⟩ := id C
  obtain ⟨⟨w1, w2, w3, w4, w5⟩, w6⟩ := hcv
  subst hst0
  have cw : CallB R s args own idx y bytes maxL ret (Cond.code y bytes maxL ret :: ev_ws) { frames := d', cells := 0, slots := 0, locals := 60 * d' } 0 0 na ∧ (Cond.static y).before args s = true :=
    ⟨callB_of na c5 (ev_good w2) rfl rfl rfl (c5 _ w3) (c5 _ w1) w4 ⟨Nat.le_trans hd' c7, by show 8 + (maxL + 11) + 60 * d' ≤ R.locals; omega⟩, c5 _ w6⟩
  rw [ev_mapapp]
  refine ev_core c11 hH (va_runS (As := As.map (ev_v ad)) (rest := rest.map (ev_v ad)) ⟨c1, c2, c3, c4, c5⟩ (hM l dC dI cls ad H.size) cw ⟨ev_blind, ev_pre As C h1 hH⟩ rfl (by rw [List.length_map]; exact hna) hl.1 rfl (ev_room hst) hd ⟨by omega, by omega⟩) ?_
  intro v2 T' σ2 μ2 ad' H1 locs1 hpr hR ha hle hH1
  obtain ⟨e1, e2, e3, e4⟩ := hR
  rw [e1] at hpr ⊢
  rw [e2, e3, e4] at hH1
  have hH2 : ev_H dC dI cls A s ad T σ' μ' H1 locs1 := by
    have e1 := ev_same (σ := σ') (μ := μ') (cls := cls) ha hH1.2.2.2
    unfold ev_H at hH1 ⊢
    rw [e1] at hH1
    exact hH1
  have kk := K p l e R s m args below meth c dC dI cls ad0 A Qf C F ad H1 locs1 ls h1 h2 hH2 hl
  rw [List.map_append, ev_vl hpr] at kk
  exact kk
def ev_nl (own : String) (idx : Nat) (y : MethodName) : Prop := ∀ (dC : Nat → ClassId) (dI : Nat → Nat → Nat) (cls : Nat → ClassId) (s : State), ev_K dC dI cls s → va_Nw (.methodLinkNest own idx y RX10) s
theorem nlX4_41 : ev_nl RX4 41 yX10_isNumber := fun _ _ _ _ h => h.2.1
theorem nlX7_29 : ev_nl RX7 29 yX10_numberAt := fun _ _ _ _ h => h.2.2.1
theorem nlX3_72 : ev_nl RX3 72 yX10_numberAt := fun _ _ _ _ h => h.2.2.2
theorem e_callN {idx na d' maxL : Nat} {y : MethodName} {bytes : ByteArray} {ret : Option FieldType} {As rest : List Value} {v : Option Value} {σ' : ex_S} {μ' : ex_L} (hd : decode cc pc = .ok (.invokestatic idx, 3)) (hcv : ev_cvN y bytes maxL ret na) (hnl : ev_nl own idx y) (hna : As.length = na)
    (hM : Fn d' y bytes maxL ret As T σ μ v σ' μ') (hd' : d' + 1 ≤ d) (hk : k ≤ mc) (hk2 : n ≤ ms) (hst0 : st = As.reverse ++ rest) (hst : (rest.map fun v => v.category).sum ≤ 8)
    (K : Ev own cc nL d mc ms nm rt ex n0 Rq k n (pc + 3) lv (v.toList ++ rest) T σ' μ') : Ev own cc nL d mc ms nm rt ex n0 Rq k n pc lv st T σ μ := by
  intro p l e R s m args below meth c dC dI cls ad0 A Qf C F ad H locs ls h1 h2 hH hl
  obtain ⟨c1, c2, c3, c4, c5, c6, c7, c8, c9, c10, c11, c12, c13⟩ := id C
  obtain ⟨w6, w2, w3, w4, w5⟩ := hcv
  subst hst0
  have cw : va_CN R s args own idx y RX10 bytes maxL ret (Cond.code y bytes maxL ret :: ev_ws) { frames := d', cells := 0, slots := 0, locals := 60 * d' } 0 0 na ∧ (Cond.static y).before args s = true ∧ True :=
    ⟨va_cnB na c5 (ev_good w2) rfl rfl rfl (hnl dC dI cls s c12) (c5 _ w3) w4 ⟨Nat.le_trans hd' c7, by show 8 + (maxL + 11) + 60 * d' ≤ R.locals; omega⟩, c5 _ w6, trivial⟩
  rw [ev_mapapp]
  refine ev_core c11 hH (va_runSN (As := As.map (ev_v ad)) (rest := rest.map (ev_v ad)) ⟨c1, c2, c3, c4, c5⟩ (hM l dC dI cls ad H.size) cw ⟨ev_blind, ev_pre As C h1 hH⟩ rfl (by rw [List.length_map]; exact hna) hl.1 rfl (ev_room hst) hd ⟨by omega, by omega⟩) ?_
  intro v2 T' σ2 μ2 ad' H1 locs1 hpr hR ha hle hH1
  obtain ⟨e1, e2, e3, e4⟩ := hR
  rw [e1] at hpr ⊢
  rw [e2, e3, e4] at hH1
  have hH2 : ev_H dC dI cls A s ad T σ' μ' H1 locs1 := by
    have e1 := ev_same (σ := σ') (μ := μ') (cls := cls) ha hH1.2.2.2
    unfold ev_H at hH1 ⊢
    rw [e1] at hH1
    exact hH1
  have kk := K p l e R s m args below meth c dC dI cls ad0 A Qf C F ad H1 locs1 ls h1 h2 hH2 hl
  rw [List.map_append, ev_vl hpr] at kk
  exact kk
end EVC
end
