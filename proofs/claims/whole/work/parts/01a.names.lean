-- ===== PART A: goes FIRST, ahead of the names: the tables' words, and 'selects' of the private methods out of them =====
/-- a private method of a class that the tables say can be made, by its rows of tables_1 -/
def lw_okq (q : MethodName × Nat) : Prop := (q.1.cls ≠ "java/lang/invoke/MethodHandle" ∧ q.1.cls ≠ "java/lang/invoke/VarHandle") ∧ Cond.instantiable q.1.cls q.2 ∈ tables_1 ∧ Cond.privateMethod q.1 ∈ tables_1 ∧ Cond.instanceMethod q.1 ∈ tables_1
theorem lw_p0 : lw_okq (⟨"SidingLine", "finding", "(I)I"⟩, 6) := ⟨⟨by decide +kernel, by decide +kernel⟩, List.mem_of_getElem? (i := 17) (by decide +kernel), List.mem_of_getElem? (i := 395) (by decide +kernel), List.mem_of_getElem? (i := 396) (by decide +kernel)⟩
theorem lw_p1 : lw_okq (⟨"SidingLine", "keepForUndo", "()V"⟩, 6) := ⟨⟨by decide +kernel, by decide +kernel⟩, List.mem_of_getElem? (i := 17) (by decide +kernel), List.mem_of_getElem? (i := 412) (by decide +kernel), List.mem_of_getElem? (i := 413) (by decide +kernel)⟩
theorem lw_p2 : lw_okq (⟨"SidingLine", "forgetTheDay", "()V"⟩, 6) := ⟨⟨by decide +kernel, by decide +kernel⟩, List.mem_of_getElem? (i := 17) (by decide +kernel), List.mem_of_getElem? (i := 442) (by decide +kernel), List.mem_of_getElem? (i := 443) (by decide +kernel)⟩
theorem lw_p3 : lw_okq (⟨"SidingLine", "refusalOfMeet", "(III)I"⟩, 6) := ⟨⟨by decide +kernel, by decide +kernel⟩, List.mem_of_getElem? (i := 17) (by decide +kernel), List.mem_of_getElem? (i := 556) (by decide +kernel), List.mem_of_getElem? (i := 557) (by decide +kernel)⟩
theorem lw_p4 : lw_okq (⟨"SidingLine", "write", "(IIIII)I"⟩, 6) := ⟨⟨by decide +kernel, by decide +kernel⟩, List.mem_of_getElem? (i := 17) (by decide +kernel), List.mem_of_getElem? (i := 560) (by decide +kernel), List.mem_of_getElem? (i := 561) (by decide +kernel)⟩
theorem lw_p5 : lw_okq (⟨"SidingLine$Orders", "handedTo", "(I)I"⟩, 7) := ⟨⟨by decide +kernel, by decide +kernel⟩, List.mem_of_getElem? (i := 104) (by decide +kernel), List.mem_of_getElem? (i := 612) (by decide +kernel), List.mem_of_getElem? (i := 613) (by decide +kernel)⟩
theorem lw_p6 : lw_okq (⟨"SidingLine$Day", "begin", "(III)V"⟩, 15) := ⟨⟨by decide +kernel, by decide +kernel⟩, List.mem_of_getElem? (i := 31) (by decide +kernel), List.mem_of_getElem? (i := 636) (by decide +kernel), List.mem_of_getElem? (i := 637) (by decide +kernel)⟩
theorem lw_p7 : lw_okq (⟨"SidingLine$Day", "beginTrain", "(I)V"⟩, 15) := ⟨⟨by decide +kernel, by decide +kernel⟩, List.mem_of_getElem? (i := 31) (by decide +kernel), List.mem_of_getElem? (i := 646) (by decide +kernel), List.mem_of_getElem? (i := 647) (by decide +kernel)⟩
theorem lw_p8 : lw_okq (⟨"SidingLine$Day", "letComeIn", "(I)V"⟩, 15) := ⟨⟨by decide +kernel, by decide +kernel⟩, List.mem_of_getElem? (i := 31) (by decide +kernel), List.mem_of_getElem? (i := 665) (by decide +kernel), List.mem_of_getElem? (i := 666) (by decide +kernel)⟩
theorem lw_p9 : lw_okq (⟨"SidingLine$Day", "isInSection", "(I)Z"⟩, 15) := ⟨⟨by decide +kernel, by decide +kernel⟩, List.mem_of_getElem? (i := 31) (by decide +kernel), List.mem_of_getElem? (i := 669) (by decide +kernel), List.mem_of_getElem? (i := 670) (by decide +kernel)⟩
theorem lw_p10 : lw_okq (⟨"SidingLine$Day", "comeIn", "(III)V"⟩, 15) := ⟨⟨by decide +kernel, by decide +kernel⟩, List.mem_of_getElem? (i := 31) (by decide +kernel), List.mem_of_getElem? (i := 673) (by decide +kernel), List.mem_of_getElem? (i := 674) (by decide +kernel)⟩
theorem lw_p11 : lw_okq (⟨"SidingLine$Day", "goOff", "(II)V"⟩, 15) := ⟨⟨by decide +kernel, by decide +kernel⟩, List.mem_of_getElem? (i := 31) (by decide +kernel), List.mem_of_getElem? (i := 681) (by decide +kernel), List.mem_of_getElem? (i := 682) (by decide +kernel)⟩
theorem lw_p12 : lw_okq (⟨"SidingLine$Day", "turnBack", "(I)V"⟩, 15) := ⟨⟨by decide +kernel, by decide +kernel⟩, List.mem_of_getElem? (i := 31) (by decide +kernel), List.mem_of_getElem? (i := 685) (by decide +kernel), List.mem_of_getElem? (i := 686) (by decide +kernel)⟩
theorem lw_p13 : lw_okq (⟨"SidingLine$Day", "isFoul", "(II)Z"⟩, 15) := ⟨⟨by decide +kernel, by decide +kernel⟩, List.mem_of_getElem? (i := 31) (by decide +kernel), List.mem_of_getElem? (i := 689) (by decide +kernel), List.mem_of_getElem? (i := 690) (by decide +kernel)⟩
theorem lw_p14 : lw_okq (⟨"SidingLine$Day", "stand", "(II)V"⟩, 15) := ⟨⟨by decide +kernel, by decide +kernel⟩, List.mem_of_getElem? (i := 31) (by decide +kernel), List.mem_of_getElem? (i := 693) (by decide +kernel), List.mem_of_getElem? (i := 694) (by decide +kernel)⟩
theorem lw_p15 : lw_okq (⟨"SidingLine$Day", "letAppear", "(I)V"⟩, 15) := ⟨⟨by decide +kernel, by decide +kernel⟩, List.mem_of_getElem? (i := 31) (by decide +kernel), List.mem_of_getElem? (i := 697) (by decide +kernel), List.mem_of_getElem? (i := 698) (by decide +kernel)⟩
def lw_privs_1 : List (MethodName × Nat) := [(⟨"SidingLine", "finding", "(I)I"⟩, 6), (⟨"SidingLine", "keepForUndo", "()V"⟩, 6), (⟨"SidingLine", "forgetTheDay", "()V"⟩, 6), (⟨"SidingLine", "refusalOfMeet", "(III)I"⟩, 6), (⟨"SidingLine", "write", "(IIIII)I"⟩, 6), (⟨"SidingLine$Orders", "handedTo", "(I)I"⟩, 7), (⟨"SidingLine$Day", "begin", "(III)V"⟩, 15), (⟨"SidingLine$Day", "beginTrain", "(I)V"⟩, 15), (⟨"SidingLine$Day", "letComeIn", "(I)V"⟩, 15), (⟨"SidingLine$Day", "isInSection", "(I)Z"⟩, 15), (⟨"SidingLine$Day", "comeIn", "(III)V"⟩, 15), (⟨"SidingLine$Day", "goOff", "(II)V"⟩, 15), (⟨"SidingLine$Day", "turnBack", "(I)V"⟩, 15), (⟨"SidingLine$Day", "isFoul", "(II)Z"⟩, 15), (⟨"SidingLine$Day", "stand", "(II)V"⟩, 15), (⟨"SidingLine$Day", "letAppear", "(I)V"⟩, 15)]
theorem lw_r1 : ∀ q ∈ lw_privs_1, lw_okq q := List.forall_mem_cons.mpr ⟨lw_p0, List.forall_mem_cons.mpr ⟨lw_p1, List.forall_mem_cons.mpr ⟨lw_p2, List.forall_mem_cons.mpr ⟨lw_p3, List.forall_mem_cons.mpr ⟨lw_p4, List.forall_mem_cons.mpr ⟨lw_p5, List.forall_mem_cons.mpr ⟨lw_p6, List.forall_mem_cons.mpr ⟨lw_p7, List.forall_mem_cons.mpr ⟨lw_p8, List.forall_mem_cons.mpr ⟨lw_p9, List.forall_mem_cons.mpr ⟨lw_p10, List.forall_mem_cons.mpr ⟨lw_p11, List.forall_mem_cons.mpr ⟨lw_p12, List.forall_mem_cons.mpr ⟨lw_p13, List.forall_mem_cons.mpr ⟨lw_p14, List.forall_mem_cons.mpr ⟨lw_p15, fun _ h => absurd h List.not_mem_nil⟩⟩⟩⟩⟩⟩⟩⟩⟩⟩⟩⟩⟩⟩⟩⟩
theorem lw_p16 : lw_okq (⟨"SidingLine$Day", "letLeave", "(I)Z"⟩, 15) := ⟨⟨by decide +kernel, by decide +kernel⟩, List.mem_of_getElem? (i := 31) (by decide +kernel), List.mem_of_getElem? (i := 701) (by decide +kernel), List.mem_of_getElem? (i := 702) (by decide +kernel)⟩
theorem lw_p17 : lw_okq (⟨"SidingLine$Day", "isAtStation", "(I)Z"⟩, 15) := ⟨⟨by decide +kernel, by decide +kernel⟩, List.mem_of_getElem? (i := 31) (by decide +kernel), List.mem_of_getElem? (i := 705) (by decide +kernel), List.mem_of_getElem? (i := 706) (by decide +kernel)⟩
theorem lw_p18 : lw_okq (⟨"SidingLine$Papers", "take", "(LSidingLine$Orders;I)V"⟩, 8) := ⟨⟨by decide +kernel, by decide +kernel⟩, List.mem_of_getElem? (i := 228) (by decide +kernel), List.mem_of_getElem? (i := 719) (by decide +kernel), List.mem_of_getElem? (i := 720) (by decide +kernel)⟩
theorem lw_p19 : lw_okq (⟨"SidingLine$Day", "whyNot", "(II)I"⟩, 15) := ⟨⟨by decide +kernel, by decide +kernel⟩, List.mem_of_getElem? (i := 31) (by decide +kernel), List.mem_of_getElem? (i := 727) (by decide +kernel), List.mem_of_getElem? (i := 728) (by decide +kernel)⟩
theorem lw_p20 : lw_okq (⟨"SidingLine$Day", "isBarred", "(IILSidingLine$Papers;)Z"⟩, 15) := ⟨⟨by decide +kernel, by decide +kernel⟩, List.mem_of_getElem? (i := 31) (by decide +kernel), List.mem_of_getElem? (i := 731) (by decide +kernel), List.mem_of_getElem? (i := 732) (by decide +kernel)⟩
theorem lw_p21 : lw_okq (⟨"SidingLine$Day", "sectionAhead", "(I)I"⟩, 15) := ⟨⟨by decide +kernel, by decide +kernel⟩, List.mem_of_getElem? (i := 31) (by decide +kernel), List.mem_of_getElem? (i := 735) (by decide +kernel), List.mem_of_getElem? (i := 736) (by decide +kernel)⟩
theorem lw_p22 : lw_okq (⟨"SidingLine$Day", "leave", "(II)V"⟩, 15) := ⟨⟨by decide +kernel, by decide +kernel⟩, List.mem_of_getElem? (i := 31) (by decide +kernel), List.mem_of_getElem? (i := 747) (by decide +kernel), List.mem_of_getElem? (i := 748) (by decide +kernel)⟩
theorem lw_p23 : lw_okq (⟨"SidingLine$Day", "noteHeads", "(I)V"⟩, 15) := ⟨⟨by decide +kernel, by decide +kernel⟩, List.mem_of_getElem? (i := 31) (by decide +kernel), List.mem_of_getElem? (i := 755) (by decide +kernel), List.mem_of_getElem? (i := 756) (by decide +kernel)⟩
theorem lw_p24 : lw_okq (⟨"SidingLine$Orders", "isAbout", "(III)Z"⟩, 7) := ⟨⟨by decide +kernel, by decide +kernel⟩, List.mem_of_getElem? (i := 104) (by decide +kernel), List.mem_of_getElem? (i := 808) (by decide +kernel), List.mem_of_getElem? (i := 809) (by decide +kernel)⟩
theorem lw_p25 : lw_okq (⟨"SidingLine$Mending", "canMeet", "(I)Z"⟩, 4) := ⟨⟨by decide +kernel, by decide +kernel⟩, List.mem_of_getElem? (i := 25) (by decide +kernel), List.mem_of_getElem? (i := 828) (by decide +kernel), List.mem_of_getElem? (i := 829) (by decide +kernel)⟩
theorem lw_p26 : lw_okq (⟨"SidingLineModel", "finds", "(I)I"⟩, 41) := ⟨⟨by decide +kernel, by decide +kernel⟩, List.mem_of_getElem? (i := 931) (by decide +kernel), List.mem_of_getElem? (i := 1067) (by decide +kernel), List.mem_of_getElem? (i := 1068) (by decide +kernel)⟩
theorem lw_p27 : lw_okq (⟨"SidingLineModel", "fromOf", "(I)I"⟩, 41) := ⟨⟨by decide +kernel, by decide +kernel⟩, List.mem_of_getElem? (i := 931) (by decide +kernel), List.mem_of_getElem? (i := 1079) (by decide +kernel), List.mem_of_getElem? (i := 1080) (by decide +kernel)⟩
theorem lw_p28 : lw_okq (⟨"SidingLineModel", "toOf", "(I)I"⟩, 41) := ⟨⟨by decide +kernel, by decide +kernel⟩, List.mem_of_getElem? (i := 931) (by decide +kernel), List.mem_of_getElem? (i := 1083) (by decide +kernel), List.mem_of_getElem? (i := 1084) (by decide +kernel)⟩
theorem lw_p29 : lw_okq (⟨"SidingLineModel", "stationOf", "(I)I"⟩, 41) := ⟨⟨by decide +kernel, by decide +kernel⟩, List.mem_of_getElem? (i := 931) (by decide +kernel), List.mem_of_getElem? (i := 1088) (by decide +kernel), List.mem_of_getElem? (i := 1089) (by decide +kernel)⟩
theorem lw_p30 : lw_okq (⟨"SidingLineModel", "becomes", "(II)I"⟩, 41) := ⟨⟨by decide +kernel, by decide +kernel⟩, List.mem_of_getElem? (i := 931) (by decide +kernel), List.mem_of_getElem? (i := 1092) (by decide +kernel), List.mem_of_getElem? (i := 1093) (by decide +kernel)⟩
theorem lw_p31 : lw_okq (⟨"SidingLineModel", "keep", "()V"⟩, 41) := ⟨⟨by decide +kernel, by decide +kernel⟩, List.mem_of_getElem? (i := 931) (by decide +kernel), List.mem_of_getElem? (i := 1096) (by decide +kernel), List.mem_of_getElem? (i := 1097) (by decide +kernel)⟩
def lw_privs_2 : List (MethodName × Nat) := [(⟨"SidingLine$Day", "letLeave", "(I)Z"⟩, 15), (⟨"SidingLine$Day", "isAtStation", "(I)Z"⟩, 15), (⟨"SidingLine$Papers", "take", "(LSidingLine$Orders;I)V"⟩, 8), (⟨"SidingLine$Day", "whyNot", "(II)I"⟩, 15), (⟨"SidingLine$Day", "isBarred", "(IILSidingLine$Papers;)Z"⟩, 15), (⟨"SidingLine$Day", "sectionAhead", "(I)I"⟩, 15), (⟨"SidingLine$Day", "leave", "(II)V"⟩, 15), (⟨"SidingLine$Day", "noteHeads", "(I)V"⟩, 15), (⟨"SidingLine$Orders", "isAbout", "(III)Z"⟩, 7), (⟨"SidingLine$Mending", "canMeet", "(I)Z"⟩, 4), (⟨"SidingLineModel", "finds", "(I)I"⟩, 41), (⟨"SidingLineModel", "fromOf", "(I)I"⟩, 41), (⟨"SidingLineModel", "toOf", "(I)I"⟩, 41), (⟨"SidingLineModel", "stationOf", "(I)I"⟩, 41), (⟨"SidingLineModel", "becomes", "(II)I"⟩, 41), (⟨"SidingLineModel", "keep", "()V"⟩, 41)]
theorem lw_r2 : ∀ q ∈ lw_privs_2, lw_okq q := List.forall_mem_cons.mpr ⟨lw_p16, List.forall_mem_cons.mpr ⟨lw_p17, List.forall_mem_cons.mpr ⟨lw_p18, List.forall_mem_cons.mpr ⟨lw_p19, List.forall_mem_cons.mpr ⟨lw_p20, List.forall_mem_cons.mpr ⟨lw_p21, List.forall_mem_cons.mpr ⟨lw_p22, List.forall_mem_cons.mpr ⟨lw_p23, List.forall_mem_cons.mpr ⟨lw_p24, List.forall_mem_cons.mpr ⟨lw_p25, List.forall_mem_cons.mpr ⟨lw_p26, List.forall_mem_cons.mpr ⟨lw_p27, List.forall_mem_cons.mpr ⟨lw_p28, List.forall_mem_cons.mpr ⟨lw_p29, List.forall_mem_cons.mpr ⟨lw_p30, List.forall_mem_cons.mpr ⟨lw_p31, fun _ h => absurd h List.not_mem_nil⟩⟩⟩⟩⟩⟩⟩⟩⟩⟩⟩⟩⟩⟩⟩⟩
theorem lw_p32 : lw_okq (⟨"SidingLineModel", "isStation", "(I)Z"⟩, 41) := ⟨⟨by decide +kernel, by decide +kernel⟩, List.mem_of_getElem? (i := 931) (by decide +kernel), List.mem_of_getElem? (i := 1104) (by decide +kernel), List.mem_of_getElem? (i := 1105) (by decide +kernel)⟩
theorem lw_p33 : lw_okq (⟨"SidingLineModel", "isTrain", "(I)Z"⟩, 41) := ⟨⟨by decide +kernel, by decide +kernel⟩, List.mem_of_getElem? (i := 931) (by decide +kernel), List.mem_of_getElem? (i := 1122) (by decide +kernel), List.mem_of_getElem? (i := 1123) (by decide +kernel)⟩
theorem lw_p34 : lw_okq (⟨"SidingLineModel", "kindOf", "(I)I"⟩, 41) := ⟨⟨by decide +kernel, by decide +kernel⟩, List.mem_of_getElem? (i := 931) (by decide +kernel), List.mem_of_getElem? (i := 1126) (by decide +kernel), List.mem_of_getElem? (i := 1127) (by decide +kernel)⟩
theorem lw_p35 : lw_okq (⟨"SidingLineModel", "wayOf", "(I)I"⟩, 41) := ⟨⟨by decide +kernel, by decide +kernel⟩, List.mem_of_getElem? (i := 931) (by decide +kernel), List.mem_of_getElem? (i := 1135) (by decide +kernel), List.mem_of_getElem? (i := 1136) (by decide +kernel)⟩
theorem lw_p36 : lw_okq (⟨"SidingLineModel", "isOnWay", "(II)Z"⟩, 41) := ⟨⟨by decide +kernel, by decide +kernel⟩, List.mem_of_getElem? (i := 931) (by decide +kernel), List.mem_of_getElem? (i := 1147) (by decide +kernel), List.mem_of_getElem? (i := 1148) (by decide +kernel)⟩
theorem lw_p37 : lw_okq (⟨"SidingLineModel", "dueAt", "(II)I"⟩, 41) := ⟨⟨by decide +kernel, by decide +kernel⟩, List.mem_of_getElem? (i := 931) (by decide +kernel), List.mem_of_getElem? (i := 1151) (by decide +kernel), List.mem_of_getElem? (i := 1152) (by decide +kernel)⟩
theorem lw_p38 : lw_okq (⟨"SidingLineModel", "timeOf", "(I)I"⟩, 41) := ⟨⟨by decide +kernel, by decide +kernel⟩, List.mem_of_getElem? (i := 931) (by decide +kernel), List.mem_of_getElem? (i := 1155) (by decide +kernel), List.mem_of_getElem? (i := 1156) (by decide +kernel)⟩
theorem lw_p39 : lw_okq (⟨"SidingLineModel", "between", "(II)I"⟩, 41) := ⟨⟨by decide +kernel, by decide +kernel⟩, List.mem_of_getElem? (i := 931) (by decide +kernel), List.mem_of_getElem? (i := 1159) (by decide +kernel), List.mem_of_getElem? (i := 1160) (by decide +kernel)⟩
theorem lw_p40 : lw_okq (⟨"SidingLineModel", "isOver", "(III)Z"⟩, 41) := ⟨⟨by decide +kernel, by decide +kernel⟩, List.mem_of_getElem? (i := 931) (by decide +kernel), List.mem_of_getElem? (i := 1167) (by decide +kernel), List.mem_of_getElem? (i := 1168) (by decide +kernel)⟩
theorem lw_p41 : lw_okq (⟨"SidingLineModel", "rankOf", "(I)I"⟩, 41) := ⟨⟨by decide +kernel, by decide +kernel⟩, List.mem_of_getElem? (i := 931) (by decide +kernel), List.mem_of_getElem? (i := 1171) (by decide +kernel), List.mem_of_getElem? (i := 1172) (by decide +kernel)⟩
theorem lw_p42 : lw_okq (⟨"SidingLineModel", "ordered", "(IIIII)I"⟩, 41) := ⟨⟨by decide +kernel, by decide +kernel⟩, List.mem_of_getElem? (i := 931) (by decide +kernel), List.mem_of_getElem? (i := 1179) (by decide +kernel), List.mem_of_getElem? (i := 1180) (by decide +kernel)⟩
theorem lw_p43 : lw_okq (⟨"SidingLineModel", "isOrder", "(I)Z"⟩, 41) := ⟨⟨by decide +kernel, by decide +kernel⟩, List.mem_of_getElem? (i := 931) (by decide +kernel), List.mem_of_getElem? (i := 1199) (by decide +kernel), List.mem_of_getElem? (i := 1200) (by decide +kernel)⟩
theorem lw_p44 : lw_okq (⟨"SidingLineModel", "findHeld", "(II)V"⟩, 41) := ⟨⟨by decide +kernel, by decide +kernel⟩, List.mem_of_getElem? (i := 931) (by decide +kernel), List.mem_of_getElem? (i := 1214) (by decide +kernel), List.mem_of_getElem? (i := 1215) (by decide +kernel)⟩
theorem lw_p45 : lw_okq (⟨"SidingLineModel", "formOf", "(I)I"⟩, 41) := ⟨⟨by decide +kernel, by decide +kernel⟩, List.mem_of_getElem? (i := 931) (by decide +kernel), List.mem_of_getElem? (i := 1218) (by decide +kernel), List.mem_of_getElem? (i := 1219) (by decide +kernel)⟩
theorem lw_p46 : lw_okq (⟨"SidingLineModel", "trainOf", "(I)I"⟩, 41) := ⟨⟨by decide +kernel, by decide +kernel⟩, List.mem_of_getElem? (i := 931) (by decide +kernel), List.mem_of_getElem? (i := 1222) (by decide +kernel), List.mem_of_getElem? (i := 1223) (by decide +kernel)⟩
theorem lw_p47 : lw_okq (⟨"SidingLineModel", "runsAsItIs", "()V"⟩, 41) := ⟨⟨by decide +kernel, by decide +kernel⟩, List.mem_of_getElem? (i := 931) (by decide +kernel), List.mem_of_getElem? (i := 1238) (by decide +kernel), List.mem_of_getElem? (i := 1239) (by decide +kernel)⟩
def lw_privs_3 : List (MethodName × Nat) := [(⟨"SidingLineModel", "isStation", "(I)Z"⟩, 41), (⟨"SidingLineModel", "isTrain", "(I)Z"⟩, 41), (⟨"SidingLineModel", "kindOf", "(I)I"⟩, 41), (⟨"SidingLineModel", "wayOf", "(I)I"⟩, 41), (⟨"SidingLineModel", "isOnWay", "(II)Z"⟩, 41), (⟨"SidingLineModel", "dueAt", "(II)I"⟩, 41), (⟨"SidingLineModel", "timeOf", "(I)I"⟩, 41), (⟨"SidingLineModel", "between", "(II)I"⟩, 41), (⟨"SidingLineModel", "isOver", "(III)Z"⟩, 41), (⟨"SidingLineModel", "rankOf", "(I)I"⟩, 41), (⟨"SidingLineModel", "ordered", "(IIIII)I"⟩, 41), (⟨"SidingLineModel", "isOrder", "(I)Z"⟩, 41), (⟨"SidingLineModel", "findHeld", "(II)V"⟩, 41), (⟨"SidingLineModel", "formOf", "(I)I"⟩, 41), (⟨"SidingLineModel", "trainOf", "(I)I"⟩, 41), (⟨"SidingLineModel", "runsAsItIs", "()V"⟩, 41)]
theorem lw_r3 : ∀ q ∈ lw_privs_3, lw_okq q := List.forall_mem_cons.mpr ⟨lw_p32, List.forall_mem_cons.mpr ⟨lw_p33, List.forall_mem_cons.mpr ⟨lw_p34, List.forall_mem_cons.mpr ⟨lw_p35, List.forall_mem_cons.mpr ⟨lw_p36, List.forall_mem_cons.mpr ⟨lw_p37, List.forall_mem_cons.mpr ⟨lw_p38, List.forall_mem_cons.mpr ⟨lw_p39, List.forall_mem_cons.mpr ⟨lw_p40, List.forall_mem_cons.mpr ⟨lw_p41, List.forall_mem_cons.mpr ⟨lw_p42, List.forall_mem_cons.mpr ⟨lw_p43, List.forall_mem_cons.mpr ⟨lw_p44, List.forall_mem_cons.mpr ⟨lw_p45, List.forall_mem_cons.mpr ⟨lw_p46, List.forall_mem_cons.mpr ⟨lw_p47, fun _ h => absurd h List.not_mem_nil⟩⟩⟩⟩⟩⟩⟩⟩⟩⟩⟩⟩⟩⟩⟩⟩
theorem lw_p48 : lw_okq (⟨"SidingLineModel", "runs", "()V"⟩, 41) := ⟨⟨by decide +kernel, by decide +kernel⟩, List.mem_of_getElem? (i := 931) (by decide +kernel), List.mem_of_getElem? (i := 1242) (by decide +kernel), List.mem_of_getElem? (i := 1243) (by decide +kernel)⟩
theorem lw_p49 : lw_okq (⟨"SidingLineModel", "begin", "()V"⟩, 41) := ⟨⟨by decide +kernel, by decide +kernel⟩, List.mem_of_getElem? (i := 931) (by decide +kernel), List.mem_of_getElem? (i := 1246) (by decide +kernel), List.mem_of_getElem? (i := 1247) (by decide +kernel)⟩
theorem lw_p50 : lw_okq (⟨"SidingLineModel", "comesIn", "(II)V"⟩, 41) := ⟨⟨by decide +kernel, by decide +kernel⟩, List.mem_of_getElem? (i := 931) (by decide +kernel), List.mem_of_getElem? (i := 1250) (by decide +kernel), List.mem_of_getElem? (i := 1251) (by decide +kernel)⟩
theorem lw_p51 : lw_okq (⟨"SidingLineModel", "isAt", "(III)V"⟩, 41) := ⟨⟨by decide +kernel, by decide +kernel⟩, List.mem_of_getElem? (i := 931) (by decide +kernel), List.mem_of_getElem? (i := 1254) (by decide +kernel), List.mem_of_getElem? (i := 1255) (by decide +kernel)⟩
theorem lw_p52 : lw_okq (⟨"SidingLineModel", "lengthFits", "(II)Z"⟩, 41) := ⟨⟨by decide +kernel, by decide +kernel⟩, List.mem_of_getElem? (i := 931) (by decide +kernel), List.mem_of_getElem? (i := 1258) (by decide +kernel), List.mem_of_getElem? (i := 1259) (by decide +kernel)⟩
theorem lw_p53 : lw_okq (⟨"SidingLineModel", "isForced", "(II)Z"⟩, 41) := ⟨⟨by decide +kernel, by decide +kernel⟩, List.mem_of_getElem? (i := 931) (by decide +kernel), List.mem_of_getElem? (i := 1262) (by decide +kernel), List.mem_of_getElem? (i := 1263) (by decide +kernel)⟩
theorem lw_p54 : lw_okq (⟨"SidingLineModel", "whyNot", "(II)I"⟩, 41) := ⟨⟨by decide +kernel, by decide +kernel⟩, List.mem_of_getElem? (i := 931) (by decide +kernel), List.mem_of_getElem? (i := 1266) (by decide +kernel), List.mem_of_getElem? (i := 1267) (by decide +kernel)⟩
theorem lw_p55 : lw_okq (⟨"SidingLineModel", "mayByTime", "(II)Z"⟩, 41) := ⟨⟨by decide +kernel, by decide +kernel⟩, List.mem_of_getElem? (i := 931) (by decide +kernel), List.mem_of_getElem? (i := 1270) (by decide +kernel), List.mem_of_getElem? (i := 1271) (by decide +kernel)⟩
theorem lw_p56 : lw_okq (⟨"SidingLineModel", "lates", "(I)I"⟩, 41) := ⟨⟨by decide +kernel, by decide +kernel⟩, List.mem_of_getElem? (i := 931) (by decide +kernel), List.mem_of_getElem? (i := 1274) (by decide +kernel), List.mem_of_getElem? (i := 1275) (by decide +kernel)⟩
theorem lw_p57 : lw_okq (⟨"SidingLineModel", "numberOf", "(I)I"⟩, 41) := ⟨⟨by decide +kernel, by decide +kernel⟩, List.mem_of_getElem? (i := 931) (by decide +kernel), List.mem_of_getElem? (i := 1278) (by decide +kernel), List.mem_of_getElem? (i := 1279) (by decide +kernel)⟩
theorem lw_p58 : lw_okq (⟨"SidingLineModel", "mayByWaits", "(II)Z"⟩, 41) := ⟨⟨by decide +kernel, by decide +kernel⟩, List.mem_of_getElem? (i := 931) (by decide +kernel), List.mem_of_getElem? (i := 1282) (by decide +kernel), List.mem_of_getElem? (i := 1283) (by decide +kernel)⟩
theorem lw_p59 : lw_okq (⟨"SidingLineModel", "mayByMeets", "(I)Z"⟩, 41) := ⟨⟨by decide +kernel, by decide +kernel⟩, List.mem_of_getElem? (i := 931) (by decide +kernel), List.mem_of_getElem? (i := 1286) (by decide +kernel), List.mem_of_getElem? (i := 1287) (by decide +kernel)⟩
theorem lw_p60 : lw_okq (⟨"SidingLineModel", "isMet", "(II)Z"⟩, 41) := ⟨⟨by decide +kernel, by decide +kernel⟩, List.mem_of_getElem? (i := 931) (by decide +kernel), List.mem_of_getElem? (i := 1290) (by decide +kernel), List.mem_of_getElem? (i := 1291) (by decide +kernel)⟩
theorem lw_p61 : lw_okq (⟨"SidingLineModel", "hasMeet", "(III)Z"⟩, 41) := ⟨⟨by decide +kernel, by decide +kernel⟩, List.mem_of_getElem? (i := 931) (by decide +kernel), List.mem_of_getElem? (i := 1294) (by decide +kernel), List.mem_of_getElem? (i := 1295) (by decide +kernel)⟩
theorem lw_p62 : lw_okq (⟨"SidingLineModel", "otherOf", "(I)I"⟩, 41) := ⟨⟨by decide +kernel, by decide +kernel⟩, List.mem_of_getElem? (i := 931) (by decide +kernel), List.mem_of_getElem? (i := 1298) (by decide +kernel), List.mem_of_getElem? (i := 1299) (by decide +kernel)⟩
theorem lw_p63 : lw_okq (⟨"SidingLineModel", "isMore", "(II)Z"⟩, 41) := ⟨⟨by decide +kernel, by decide +kernel⟩, List.mem_of_getElem? (i := 931) (by decide +kernel), List.mem_of_getElem? (i := 1302) (by decide +kernel), List.mem_of_getElem? (i := 1303) (by decide +kernel)⟩
def lw_privs_4 : List (MethodName × Nat) := [(⟨"SidingLineModel", "runs", "()V"⟩, 41), (⟨"SidingLineModel", "begin", "()V"⟩, 41), (⟨"SidingLineModel", "comesIn", "(II)V"⟩, 41), (⟨"SidingLineModel", "isAt", "(III)V"⟩, 41), (⟨"SidingLineModel", "lengthFits", "(II)Z"⟩, 41), (⟨"SidingLineModel", "isForced", "(II)Z"⟩, 41), (⟨"SidingLineModel", "whyNot", "(II)I"⟩, 41), (⟨"SidingLineModel", "mayByTime", "(II)Z"⟩, 41), (⟨"SidingLineModel", "lates", "(I)I"⟩, 41), (⟨"SidingLineModel", "numberOf", "(I)I"⟩, 41), (⟨"SidingLineModel", "mayByWaits", "(II)Z"⟩, 41), (⟨"SidingLineModel", "mayByMeets", "(I)Z"⟩, 41), (⟨"SidingLineModel", "isMet", "(II)Z"⟩, 41), (⟨"SidingLineModel", "hasMeet", "(III)Z"⟩, 41), (⟨"SidingLineModel", "otherOf", "(I)I"⟩, 41), (⟨"SidingLineModel", "isMore", "(II)Z"⟩, 41)]
theorem lw_r4 : ∀ q ∈ lw_privs_4, lw_okq q := List.forall_mem_cons.mpr ⟨lw_p48, List.forall_mem_cons.mpr ⟨lw_p49, List.forall_mem_cons.mpr ⟨lw_p50, List.forall_mem_cons.mpr ⟨lw_p51, List.forall_mem_cons.mpr ⟨lw_p52, List.forall_mem_cons.mpr ⟨lw_p53, List.forall_mem_cons.mpr ⟨lw_p54, List.forall_mem_cons.mpr ⟨lw_p55, List.forall_mem_cons.mpr ⟨lw_p56, List.forall_mem_cons.mpr ⟨lw_p57, List.forall_mem_cons.mpr ⟨lw_p58, List.forall_mem_cons.mpr ⟨lw_p59, List.forall_mem_cons.mpr ⟨lw_p60, List.forall_mem_cons.mpr ⟨lw_p61, List.forall_mem_cons.mpr ⟨lw_p62, List.forall_mem_cons.mpr ⟨lw_p63, fun _ h => absurd h List.not_mem_nil⟩⟩⟩⟩⟩⟩⟩⟩⟩⟩⟩⟩⟩⟩⟩⟩
theorem lw_p64 : lw_okq (⟨"SidingLineModel", "mayAgainst", "(III)Z"⟩, 41) := ⟨⟨by decide +kernel, by decide +kernel⟩, List.mem_of_getElem? (i := 931) (by decide +kernel), List.mem_of_getElem? (i := 1306) (by decide +kernel), List.mem_of_getElem? (i := 1307) (by decide +kernel)⟩
theorem lw_p65 : lw_okq (⟨"SidingLineModel", "sectionAhead", "(I)I"⟩, 41) := ⟨⟨by decide +kernel, by decide +kernel⟩, List.mem_of_getElem? (i := 931) (by decide +kernel), List.mem_of_getElem? (i := 1310) (by decide +kernel), List.mem_of_getElem? (i := 1311) (by decide +kernel)⟩
theorem lw_p66 : lw_okq (⟨"SidingLineModel", "goesOver", "(II)Z"⟩, 41) := ⟨⟨by decide +kernel, by decide +kernel⟩, List.mem_of_getElem? (i := 931) (by decide +kernel), List.mem_of_getElem? (i := 1314) (by decide +kernel), List.mem_of_getElem? (i := 1315) (by decide +kernel)⟩
theorem lw_p67 : lw_okq (⟨"SidingLineModel", "isBehind", "(II)Z"⟩, 41) := ⟨⟨by decide +kernel, by decide +kernel⟩, List.mem_of_getElem? (i := 931) (by decide +kernel), List.mem_of_getElem? (i := 1318) (by decide +kernel), List.mem_of_getElem? (i := 1319) (by decide +kernel)⟩
theorem lw_p68 : lw_okq (⟨"SidingLineModel", "goes", "(II)V"⟩, 41) := ⟨⟨by decide +kernel, by decide +kernel⟩, List.mem_of_getElem? (i := 931) (by decide +kernel), List.mem_of_getElem? (i := 1322) (by decide +kernel), List.mem_of_getElem? (i := 1323) (by decide +kernel)⟩
theorem lw_p69 : lw_okq (⟨"SidingLineModel", "looksAtHeads", "(I)V"⟩, 41) := ⟨⟨by decide +kernel, by decide +kernel⟩, List.mem_of_getElem? (i := 931) (by decide +kernel), List.mem_of_getElem? (i := 1326) (by decide +kernel), List.mem_of_getElem? (i := 1327) (by decide +kernel)⟩
theorem lw_p70 : lw_okq (⟨"SidingLineModel", "bears", "(I)Z"⟩, 41) := ⟨⟨by decide +kernel, by decide +kernel⟩, List.mem_of_getElem? (i := 931) (by decide +kernel), List.mem_of_getElem? (i := 1354) (by decide +kernel), List.mem_of_getElem? (i := 1355) (by decide +kernel)⟩
theorem lw_p71 : lw_okq (⟨"SidingLineModel", "delays", "()I"⟩, 41) := ⟨⟨by decide +kernel, by decide +kernel⟩, List.mem_of_getElem? (i := 931) (by decide +kernel), List.mem_of_getElem? (i := 1366) (by decide +kernel), List.mem_of_getElem? (i := 1367) (by decide +kernel)⟩
theorem lw_p72 : lw_okq (⟨"SidingLineModel", "findMeets", "()V"⟩, 41) := ⟨⟨by decide +kernel, by decide +kernel⟩, List.mem_of_getElem? (i := 931) (by decide +kernel), List.mem_of_getElem? (i := 1374) (by decide +kernel), List.mem_of_getElem? (i := 1375) (by decide +kernel)⟩
theorem lw_p73 : lw_okq (⟨"SidingLineModel", "priceOf", "(III)I"⟩, 41) := ⟨⟨by decide +kernel, by decide +kernel⟩, List.mem_of_getElem? (i := 931) (by decide +kernel), List.mem_of_getElem? (i := 1378) (by decide +kernel), List.mem_of_getElem? (i := 1379) (by decide +kernel)⟩
def lw_privs_5 : List (MethodName × Nat) := [(⟨"SidingLineModel", "mayAgainst", "(III)Z"⟩, 41), (⟨"SidingLineModel", "sectionAhead", "(I)I"⟩, 41), (⟨"SidingLineModel", "goesOver", "(II)Z"⟩, 41), (⟨"SidingLineModel", "isBehind", "(II)Z"⟩, 41), (⟨"SidingLineModel", "goes", "(II)V"⟩, 41), (⟨"SidingLineModel", "looksAtHeads", "(I)V"⟩, 41), (⟨"SidingLineModel", "bears", "(I)Z"⟩, 41), (⟨"SidingLineModel", "delays", "()I"⟩, 41), (⟨"SidingLineModel", "findMeets", "()V"⟩, 41), (⟨"SidingLineModel", "priceOf", "(III)I"⟩, 41)]
theorem lw_r5 : ∀ q ∈ lw_privs_5, lw_okq q := List.forall_mem_cons.mpr ⟨lw_p64, List.forall_mem_cons.mpr ⟨lw_p65, List.forall_mem_cons.mpr ⟨lw_p66, List.forall_mem_cons.mpr ⟨lw_p67, List.forall_mem_cons.mpr ⟨lw_p68, List.forall_mem_cons.mpr ⟨lw_p69, List.forall_mem_cons.mpr ⟨lw_p70, List.forall_mem_cons.mpr ⟨lw_p71, List.forall_mem_cons.mpr ⟨lw_p72, List.forall_mem_cons.mpr ⟨lw_p73, fun _ h => absurd h List.not_mem_nil⟩⟩⟩⟩⟩⟩⟩⟩⟩⟩
def lw_privs : List (MethodName × Nat) := lw_privs_1 ++ (lw_privs_2 ++ (lw_privs_3 ++ (lw_privs_4 ++ (lw_privs_5))))
def lw_tbl : List Cond := k2_sels lw_privs ++ tables_1
theorem lw_privs_ok : ∀ q ∈ lw_privs, lw_okq q := by
  show ∀ q ∈ lw_privs_1 ++ (lw_privs_2 ++ (lw_privs_3 ++ (lw_privs_4 ++ (lw_privs_5)))), lw_okq q
  exact List.forall_mem_append.mpr ⟨lw_r1, List.forall_mem_append.mpr ⟨lw_r2, List.forall_mem_append.mpr ⟨lw_r3, List.forall_mem_append.mpr ⟨lw_r4, lw_r5⟩⟩⟩⟩

def RX0 : String := "SidingLine$Day"
def TX0 : u_T := fun k => match k with
  | 0 => ("SidingLine$Day", "line", "LSidingLine$Line;", true)
  | 1 => ("SidingLine$Day", "book", "LSidingLine$DayBook;", true)
  | 2 => ("SidingLine$Day", "isAsOrdered", "Z", false)
  | 3 => ("SidingLine$Day", "papers", "[LSidingLine$Papers;", true)
  | 4 => ("SidingLine$Day", "due", "[I", true)
  | 5 => ("SidingLine$Day", "route", "[I", true)
  | 6 => ("SidingLine$Day", "place", "[I", true)
  | 7 => ("SidingLine$Day", "way", "[I", true)
  | 8 => ("SidingLine$Day", "strength", "[I", true)
  | 9 => ("SidingLine$Day", "goal", "[I", true)
  | 10 => ("SidingLine$Day", "since", "[I", true)
  | 11 => ("SidingLine$Day", "seen", "[I", true)
  | 12 => ("SidingLine$Day", "lastLeaving", "[I", true)
  | 13 => ("SidingLine$Day", "timetabled", "I", false)
  | _ => ("SidingLine$Day", "gone", "I", false)
def tyX0 : Nat → FieldType := fun k => match k with
  | 0 => .object "SidingLine$Line"
  | 1 => .object "SidingLine$DayBook"
  | 2 => .boolean
  | 3 => .array (.object "SidingLine$Papers")
  | 4 => .array .int
  | 5 => .array .int
  | 6 => .array .int
  | 7 => .array .int
  | 8 => .array .int
  | 9 => .array .int
  | 10 => .array .int
  | 11 => .array .int
  | 12 => .array .int
  | 13 => .int
  | _ => .int
abbrev wsX00 : List Cond := u_ws RX0 TX0 15
theorem nmX0 : ∀ a, a < 15 → ∀ b, b < 15 → a ≠ b → (TX0 a).2.1 ≠ (TX0 b).2.1 := by decide +kernel
theorem tyX0_ok : ∀ k, k < 15 → parseFieldDescriptor (TX0 k).2.2.1 = some (tyX0 k) := by decide +kernel
abbrev cX0_init : ByteArray := prog_2_method_1_code
def yX0_init : MethodName := ⟨RX0, "<init>", "()V"⟩
abbrev cX0_forget : ByteArray := prog_2_method_2_code
def yX0_forget : MethodName := ⟨RX0, "forget", "()V"⟩
abbrev cX0_played : ByteArray := prog_2_method_3_code
def yX0_played : MethodName := ⟨RX0, "played", "()LSidingLine$DayBook;"⟩
abbrev cX0_play : ByteArray := prog_2_method_4_code
def yX0_play : MethodName := ⟨RX0, "play", "(III)V"⟩
abbrev cX0_begin : ByteArray := prog_2_method_5_code
def yX0_begin : MethodName := ⟨RX0, "begin", "(III)V"⟩
abbrev cX0_beginTrain : ByteArray := prog_2_method_6_code
def yX0_beginTrain : MethodName := ⟨RX0, "beginTrain", "(I)V"⟩
abbrev cX0_isAtStation : ByteArray := prog_2_method_7_code
def yX0_isAtStation : MethodName := ⟨RX0, "isAtStation", "(I)Z"⟩
abbrev cX0_isInSection : ByteArray := prog_2_method_8_code
def yX0_isInSection : MethodName := ⟨RX0, "isInSection", "(I)Z"⟩
abbrev cX0_letComeIn : ByteArray := prog_2_method_9_code
def yX0_letComeIn : MethodName := ⟨RX0, "letComeIn", "(I)V"⟩
abbrev cX0_comeIn : ByteArray := prog_2_method_10_code
def yX0_comeIn : MethodName := ⟨RX0, "comeIn", "(III)V"⟩
abbrev cX0_goOff : ByteArray := prog_2_method_11_code
def yX0_goOff : MethodName := ⟨RX0, "goOff", "(II)V"⟩
abbrev cX0_turnBack : ByteArray := prog_2_method_12_code
def yX0_turnBack : MethodName := ⟨RX0, "turnBack", "(I)V"⟩
abbrev cX0_stand : ByteArray := prog_2_method_13_code
def yX0_stand : MethodName := ⟨RX0, "stand", "(II)V"⟩
abbrev cX0_isFoul : ByteArray := prog_2_method_14_code
def yX0_isFoul : MethodName := ⟨RX0, "isFoul", "(II)Z"⟩
abbrev cX0_letAppear : ByteArray := prog_2_method_15_code
def yX0_letAppear : MethodName := ⟨RX0, "letAppear", "(I)V"⟩
abbrev cX0_letLeave : ByteArray := prog_2_method_16_code
def yX0_letLeave : MethodName := ⟨RX0, "letLeave", "(I)Z"⟩
abbrev cX0_leave : ByteArray := prog_2_method_17_code
def yX0_leave : MethodName := ⟨RX0, "leave", "(II)V"⟩
abbrev cX0_sectionAhead : ByteArray := prog_2_method_18_code
def yX0_sectionAhead : MethodName := ⟨RX0, "sectionAhead", "(I)I"⟩
abbrev cX0_whyNot : ByteArray := prog_2_method_19_code
def yX0_whyNot : MethodName := ⟨RX0, "whyNot", "(II)I"⟩
abbrev cX0_isBarred : ByteArray := prog_2_method_20_code
def yX0_isBarred : MethodName := ⟨RX0, "isBarred", "(IILSidingLine$Papers;)Z"⟩
abbrev cX0_noteHeads : ByteArray := prog_2_method_21_code
def yX0_noteHeads : MethodName := ⟨RX0, "noteHeads", "(I)V"⟩
def RX1 : String := "SidingLine$DayBook"
def TX1 : u_T := fun k => match k with
  | 0 => ("SidingLine$DayBook", "played", "I", false)
  | 1 => ("SidingLine$DayBook", "places", "[S", true)
  | 2 => ("SidingLine$DayBook", "reasons", "[B", true)
  | 3 => ("SidingLine$DayBook", "came", "[I", true)
  | 4 => ("SidingLine$DayBook", "left", "[I", true)
  | 5 => ("SidingLine$DayBook", "pairs", "I", false)
  | 6 => ("SidingLine$DayBook", "heads", "I", false)
  | 7 => ("SidingLine$DayBook", "headMinute", "I", false)
  | 8 => ("SidingLine$DayBook", "headSection", "I", false)
  | 9 => ("SidingLine$DayBook", "headLesser", "I", false)
  | 10 => ("SidingLine$DayBook", "headGreater", "I", false)
  | 11 => ("SidingLine$DayBook", "fouls", "I", false)
  | _ => ("SidingLine$DayBook", "delay", "I", false)
def tyX1 : Nat → FieldType := fun k => match k with
  | 0 => .int
  | 1 => .array .short
  | 2 => .array .byte
  | 3 => .array .int
  | 4 => .array .int
  | 5 => .int
  | 6 => .int
  | 7 => .int
  | 8 => .int
  | 9 => .int
  | 10 => .int
  | 11 => .int
  | _ => .int
abbrev wsX10 : List Cond := u_ws RX1 TX1 13
theorem nmX1 : ∀ a, a < 13 → ∀ b, b < 13 → a ≠ b → (TX1 a).2.1 ≠ (TX1 b).2.1 := by decide +kernel
theorem tyX1_ok : ∀ k, k < 13 → parseFieldDescriptor (TX1 k).2.2.1 = some (tyX1 k) := by decide +kernel
abbrev cX1_init : ByteArray := prog_3_method_1_code
def yX1_init : MethodName := ⟨RX1, "<init>", "()V"⟩
abbrev cX1_begin : ByteArray := prog_3_method_2_code
def yX1_begin : MethodName := ⟨RX1, "begin", "()V"⟩
abbrev cX1_noteCame : ByteArray := prog_3_method_3_code
def yX1_noteCame : MethodName := ⟨RX1, "noteCame", "(III)V"⟩
abbrev cX1_noteLeft : ByteArray := prog_3_method_4_code
def yX1_noteLeft : MethodName := ⟨RX1, "noteLeft", "(III)V"⟩
abbrev cX1_noteReason : ByteArray := prog_3_method_5_code
def yX1_noteReason : MethodName := ⟨RX1, "noteReason", "(III)V"⟩
abbrev cX1_notePlace : ByteArray := prog_3_method_6_code
def yX1_notePlace : MethodName := ⟨RX1, "notePlace", "(III)V"⟩
abbrev cX1_noteHead : ByteArray := prog_3_method_7_code
def yX1_noteHead : MethodName := ⟨RX1, "noteHead", "(IIII)V"⟩
abbrev cX1_placeBehind : ByteArray := prog_3_method_8_code
def yX1_placeBehind : MethodName := ⟨RX1, "placeBehind", "(II)I"⟩
abbrev cX1_reasonIn : ByteArray := prog_3_method_9_code
def yX1_reasonIn : MethodName := ⟨RX1, "reasonIn", "(II)I"⟩
abbrev cX1_tellHead : ByteArray := prog_3_method_10_code
def yX1_tellHead : MethodName := ⟨RX1, "tellHead", "(I)I"⟩
def RX2 : String := "SidingLine$History"
def TX2 : u_T := fun k => match k with
  | 0 => ("SidingLine$History", "kept", "[LSidingLine$Line;", true)
  | 1 => ("SidingLine$History", "next", "I", false)
  | _ => ("SidingLine$History", "count", "I", false)
def tyX2 : Nat → FieldType := fun k => match k with
  | 0 => .array (.object "SidingLine$Line")
  | 1 => .int
  | _ => .int
abbrev wsX20 : List Cond := u_ws RX2 TX2 3
theorem nmX2 : ∀ a, a < 3 → ∀ b, b < 3 → a ≠ b → (TX2 a).2.1 ≠ (TX2 b).2.1 := by decide +kernel
theorem tyX2_ok : ∀ k, k < 3 → parseFieldDescriptor (TX2 k).2.2.1 = some (tyX2 k) := by decide +kernel
abbrev cX2_init : ByteArray := prog_4_method_1_code
def yX2_init : MethodName := ⟨RX2, "<init>", "()V"⟩
abbrev cX2_keep : ByteArray := prog_4_method_2_code
def yX2_keep : MethodName := ⟨RX2, "keep", "(LSidingLine$Line;)V"⟩
abbrev cX2_giveBack : ByteArray := prog_4_method_3_code
def yX2_giveBack : MethodName := ⟨RX2, "giveBack", "(LSidingLine$Line;)V"⟩
def RX3 : String := "SidingLine$Line"
def TX3 : u_T := fun k => match k with
  | 0 => ("SidingLine$Line", "track", "LSidingLine$Track;", true)
  | 1 => ("SidingLine$Line", "trains", "LSidingLine$Trains;", true)
  | 2 => ("SidingLine$Line", "orders", "LSidingLine$Orders;", true)
  | 3 => ("SidingLine$Line", "forcedCount", "I", false)
  | 4 => ("SidingLine$Line", "forcedTrain", "[I", true)
  | _ => ("SidingLine$Line", "forcedMinute", "[I", true)
def tyX3 : Nat → FieldType := fun k => match k with
  | 0 => .object "SidingLine$Track"
  | 1 => .object "SidingLine$Trains"
  | 2 => .object "SidingLine$Orders"
  | 3 => .int
  | 4 => .array .int
  | _ => .array .int
abbrev wsX30 : List Cond := u_ws RX3 TX3 6
theorem nmX3 : ∀ a, a < 6 → ∀ b, b < 6 → a ≠ b → (TX3 a).2.1 ≠ (TX3 b).2.1 := by decide +kernel
theorem tyX3_ok : ∀ k, k < 6 → parseFieldDescriptor (TX3 k).2.2.1 = some (tyX3 k) := by decide +kernel
abbrev cX3_init : ByteArray := prog_5_method_1_code
def yX3_init : MethodName := ⟨RX3, "<init>", "()V"⟩
abbrev cX3_needsMoreThan : ByteArray := prog_5_method_2_code
def yX3_needsMoreThan : MethodName := ⟨RX3, "needsMoreThan", "(I)Z"⟩
abbrev cX3_dueAt : ByteArray := prog_5_method_3_code
def yX3_dueAt : MethodName := ⟨RX3, "dueAt", "(II)I"⟩
abbrev cX3_addForced : ByteArray := prog_5_method_4_code
def yX3_addForced : MethodName := ⟨RX3, "addForced", "(II)I"⟩
abbrev cX3_isForced : ByteArray := prog_5_method_5_code
def yX3_isForced : MethodName := ⟨RX3, "isForced", "(II)Z"⟩
abbrev cX3_takeFrom : ByteArray := prog_5_method_6_code
def yX3_takeFrom : MethodName := ⟨RX3, "takeFrom", "(LSidingLine$Line;)V"⟩
def RX4 : String := "SidingLine$Mending"
def TX4 : u_T := fun k => match k with
  | 0 => ("SidingLine$Mending", "day", "LSidingLine$Day;", true)
  | 1 => ("SidingLine$Mending", "line", "LSidingLine$Line;", true)
  | 2 => ("SidingLine$Mending", "prices", "[I", true)
  | _ => ("SidingLine$Mending", "isFresh", "Z", false)
def tyX4 : Nat → FieldType := fun k => match k with
  | 0 => .object "SidingLine$Day"
  | 1 => .object "SidingLine$Line"
  | 2 => .array .int
  | _ => .boolean
abbrev wsX40 : List Cond := u_ws RX4 TX4 4
theorem nmX4 : ∀ a, a < 4 → ∀ b, b < 4 → a ≠ b → (TX4 a).2.1 ≠ (TX4 b).2.1 := by decide +kernel
theorem tyX4_ok : ∀ k, k < 4 → parseFieldDescriptor (TX4 k).2.2.1 = some (tyX4 k) := by decide +kernel
abbrev cX4_init : ByteArray := prog_6_method_1_code
def yX4_init : MethodName := ⟨RX4, "<init>", "()V"⟩
abbrev cX4_forget : ByteArray := prog_6_method_2_code
def yX4_forget : MethodName := ⟨RX4, "forget", "()V"⟩
abbrev cX4_placeOf : ByteArray := prog_6_method_3_code
def yX4_placeOf : MethodName := ⟨RX4, "placeOf", "(III)I"⟩
abbrev cX4_lesserOf : ByteArray := prog_6_method_4_code
def yX4_lesserOf : MethodName := ⟨RX4, "lesserOf", "(I)I"⟩
abbrev cX4_greaterOf : ByteArray := prog_6_method_5_code
def yX4_greaterOf : MethodName := ⟨RX4, "greaterOf", "(I)I"⟩
abbrev cX4_stationOf : ByteArray := prog_6_method_6_code
def yX4_stationOf : MethodName := ⟨RX4, "stationOf", "(I)I"⟩
abbrev cX4_priceAt : ByteArray := prog_6_method_7_code
def yX4_priceAt : MethodName := ⟨RX4, "priceAt", "(I)I"⟩
abbrev cX4_canMeet : ByteArray := prog_6_method_8_code
def yX4_canMeet : MethodName := ⟨RX4, "canMeet", "(I)Z"⟩
abbrev cX4_countMeets : ByteArray := prog_6_method_9_code
def yX4_countMeets : MethodName := ⟨RX4, "countMeets", "()I"⟩
abbrev cX4_findBest : ByteArray := prog_6_method_10_code
def yX4_findBest : MethodName := ⟨RX4, "findBest", "()I"⟩
abbrev cX4_firstWrong : ByteArray := prog_6_method_11_code
def yX4_firstWrong : MethodName := ⟨RX4, "firstWrong", "(LSidingLine$Sheet;)I"⟩
def RX5 : String := "SidingLine$Orders"
def TX5 : u_T := fun k => match k with
  | 0 => ("SidingLine$Orders", "count", "I", false)
  | 1 => ("SidingLine$Orders", "form", "[I", true)
  | 2 => ("SidingLine$Orders", "first", "[I", true)
  | 3 => ("SidingLine$Orders", "second", "[I", true)
  | 4 => ("SidingLine$Orders", "station", "[I", true)
  | 5 => ("SidingLine$Orders", "value", "[I", true)
  | _ => ("SidingLine$Orders", "handed", "[I", true)
def tyX5 : Nat → FieldType := fun k => match k with
  | 0 => .int
  | 1 => .array .int
  | 2 => .array .int
  | 3 => .array .int
  | 4 => .array .int
  | 5 => .array .int
  | _ => .array .int
abbrev wsX50 : List Cond := u_ws RX5 TX5 7
theorem nmX5 : ∀ a, a < 7 → ∀ b, b < 7 → a ≠ b → (TX5 a).2.1 ≠ (TX5 b).2.1 := by decide +kernel
theorem tyX5_ok : ∀ k, k < 7 → parseFieldDescriptor (TX5 k).2.2.1 = some (tyX5 k) := by decide +kernel
abbrev cX5_init : ByteArray := prog_7_method_1_code
def yX5_init : MethodName := ⟨RX5, "<init>", "()V"⟩
abbrev cX5_has : ByteArray := prog_7_method_2_code
def yX5_has : MethodName := ⟨RX5, "has", "(I)Z"⟩
abbrev cX5_add : ByteArray := prog_7_method_3_code
def yX5_add : MethodName := ⟨RX5, "add", "(IIIII)I"⟩
abbrev cX5_giveTo : ByteArray := prog_7_method_4_code
def yX5_giveTo : MethodName := ⟨RX5, "giveTo", "(III)I"⟩
abbrev cX5_heldBy : ByteArray := prog_7_method_5_code
def yX5_heldBy : MethodName := ⟨RX5, "heldBy", "(II)I"⟩
abbrev cX5_nextHanding : ByteArray := prog_7_method_6_code
def yX5_nextHanding : MethodName := ⟨RX5, "nextHanding", "(II)I"⟩
abbrev cX5_firstHeldByOneOf : ByteArray := prog_7_method_7_code
def yX5_firstHeldByOneOf : MethodName := ⟨RX5, "firstHeldByOneOf", "(III)I"⟩
abbrev cX5_isAbout : ByteArray := prog_7_method_8_code
def yX5_isAbout : MethodName := ⟨RX5, "isAbout", "(III)Z"⟩
abbrev cX5_tell : ByteArray := prog_7_method_9_code
def yX5_tell : MethodName := ⟨RX5, "tell", "(II)I"⟩
abbrev cX5_handedTo : ByteArray := prog_7_method_10_code
def yX5_handedTo : MethodName := ⟨RX5, "handedTo", "(I)I"⟩
abbrev cX5_useStationFrom : ByteArray := prog_7_method_11_code
def yX5_useStationFrom : MethodName := ⟨RX5, "useStationFrom", "(I)Z"⟩
abbrev cX5_takeFrom : ByteArray := prog_7_method_12_code
def yX5_takeFrom : MethodName := ⟨RX5, "takeFrom", "(LSidingLine$Orders;)V"⟩
def RX6 : String := "SidingLine$Papers"
def TX6 : u_T := fun k => match k with
  | 0 => ("SidingLine$Papers", "owner", "I", true)
  | 1 => ("SidingLine$Papers", "extraOther", "I", false)
  | 2 => ("SidingLine$Papers", "extraStation", "I", false)
  | 3 => ("SidingLine$Papers", "until", "I", false)
  | 4 => ("SidingLine$Papers", "runFrom", "I", false)
  | 5 => ("SidingLine$Papers", "lates", "[I", true)
  | 6 => ("SidingLine$Papers", "waits", "[I", true)
  | _ => ("SidingLine$Papers", "meets", "[I", true)
def tyX6 : Nat → FieldType := fun k => match k with
  | 0 => .int
  | 1 => .int
  | 2 => .int
  | 3 => .int
  | 4 => .int
  | 5 => .array .int
  | 6 => .array .int
  | _ => .array .int
abbrev wsX60 : List Cond := u_ws RX6 TX6 8
theorem nmX6 : ∀ a, a < 8 → ∀ b, b < 8 → a ≠ b → (TX6 a).2.1 ≠ (TX6 b).2.1 := by decide +kernel
theorem tyX6_ok : ∀ k, k < 8 → parseFieldDescriptor (TX6 k).2.2.1 = some (tyX6 k) := by decide +kernel
abbrev cX6_init : ByteArray := prog_8_method_1_code
def yX6_init : MethodName := ⟨RX6, "<init>", "(I)V"⟩
abbrev cX6_begin : ByteArray := prog_8_method_2_code
def yX6_begin : MethodName := ⟨RX6, "begin", "(II)V"⟩
abbrev cX6_bringUpTo : ByteArray := prog_8_method_3_code
def yX6_bringUpTo : MethodName := ⟨RX6, "bringUpTo", "(ILSidingLine$Orders;)V"⟩
abbrev cX6_take : ByteArray := prog_8_method_4_code
def yX6_take : MethodName := ⟨RX6, "take", "(LSidingLine$Orders;I)V"⟩
abbrev cX6_metBeyond : ByteArray := prog_8_method_5_code
def yX6_metBeyond : MethodName := ⟨RX6, "metBeyond", "(II)I"⟩
def RX7 : String := "SidingLine$Sheet"
def TX7 : u_T := fun k => match k with
  | 0 => ("SidingLine$Sheet", "bits", "I", false)
  | 1 => ("SidingLine$Sheet", "count", "I", false)
  | _ => ("SidingLine$Sheet", "numbers", "[I", true)
def tyX7 : Nat → FieldType := fun k => match k with
  | 0 => .int
  | 1 => .int
  | _ => .array .int
abbrev wsX70 : List Cond := u_ws RX7 TX7 3
theorem nmX7 : ∀ a, a < 3 → ∀ b, b < 3 → a ≠ b → (TX7 a).2.1 ≠ (TX7 b).2.1 := by decide +kernel
theorem tyX7_ok : ∀ k, k < 3 → parseFieldDescriptor (TX7 k).2.2.1 = some (tyX7 k) := by decide +kernel
abbrev cX7_init : ByteArray := prog_9_method_1_code
def yX7_init : MethodName := ⟨RX7, "<init>", "()V"⟩
abbrev cX7_areBits : ByteArray := prog_9_method_2_code
def yX7_areBits : MethodName := ⟨RX7, "areBits", "(I)Z"⟩
abbrev cX7_isMissing : ByteArray := prog_9_method_3_code
def yX7_isMissing : MethodName := ⟨RX7, "isMissing", "()Z"⟩
abbrev cX7_mask : ByteArray := prog_9_method_4_code
def yX7_mask : MethodName := ⟨RX7, "mask", "()I"⟩
abbrev cX7_clear : ByteArray := prog_9_method_5_code
def yX7_clear : MethodName := ⟨RX7, "clear", "(II)V"⟩
abbrev cX7_hasSpan : ByteArray := prog_9_method_6_code
def yX7_hasSpan : MethodName := ⟨RX7, "hasSpan", "(II)Z"⟩
def RX8 : String := "SidingLine$Track"
def TX8 : u_T := fun k => match k with
  | 0 => ("SidingLine$Track", "count", "I", false)
  | 1 => ("SidingLine$Track", "sidings", "[I", true)
  | _ => ("SidingLine$Track", "minutes", "[I", true)
def tyX8 : Nat → FieldType := fun k => match k with
  | 0 => .int
  | 1 => .array .int
  | _ => .array .int
abbrev wsX80 : List Cond := u_ws RX8 TX8 3
theorem nmX8 : ∀ a, a < 3 → ∀ b, b < 3 → a ≠ b → (TX8 a).2.1 ≠ (TX8 b).2.1 := by decide +kernel
theorem tyX8_ok : ∀ k, k < 3 → parseFieldDescriptor (TX8 k).2.2.1 = some (tyX8 k) := by decide +kernel
abbrev cX8_init : ByteArray := prog_10_method_1_code
def yX8_init : MethodName := ⟨RX8, "<init>", "()V"⟩
abbrev cX8_areMinutes : ByteArray := prog_10_method_2_code
def yX8_areMinutes : MethodName := ⟨RX8, "areMinutes", "(I)Z"⟩
abbrev cX8_hasStation : ByteArray := prog_10_method_3_code
def yX8_hasStation : MethodName := ⟨RX8, "hasStation", "(I)Z"⟩
abbrev cX8_hasSection : ByteArray := prog_10_method_4_code
def yX8_hasSection : MethodName := ⟨RX8, "hasSection", "(I)Z"⟩
abbrev cX8_minutesBetween : ByteArray := prog_10_method_5_code
def yX8_minutesBetween : MethodName := ⟨RX8, "minutesBetween", "(II)I"⟩
abbrev cX8_takeFrom : ByteArray := prog_10_method_6_code
def yX8_takeFrom : MethodName := ⟨RX8, "takeFrom", "(LSidingLine$Track;)V"⟩
def RX9 : String := "SidingLine$Trains"
def TX9 : u_T := fun k => match k with
  | 0 => ("SidingLine$Trains", "count", "I", false)
  | 1 => ("SidingLine$Trains", "kind", "[I", true)
  | 2 => ("SidingLine$Trains", "from", "[I", true)
  | 3 => ("SidingLine$Trains", "to", "[I", true)
  | 4 => ("SidingLine$Trains", "length", "[I", true)
  | _ => ("SidingLine$Trains", "time", "[I", true)
def tyX9 : Nat → FieldType := fun k => match k with
  | 0 => .int
  | 1 => .array .int
  | 2 => .array .int
  | 3 => .array .int
  | 4 => .array .int
  | _ => .array .int
abbrev wsX90 : List Cond := u_ws RX9 TX9 6
theorem nmX9 : ∀ a, a < 6 → ∀ b, b < 6 → a ≠ b → (TX9 a).2.1 ≠ (TX9 b).2.1 := by decide +kernel
theorem tyX9_ok : ∀ k, k < 6 → parseFieldDescriptor (TX9 k).2.2.1 = some (tyX9 k) := by decide +kernel
abbrev cX9_init : ByteArray := prog_11_method_1_code
def yX9_init : MethodName := ⟨RX9, "<init>", "()V"⟩
abbrev cX9_has : ByteArray := prog_11_method_2_code
def yX9_has : MethodName := ⟨RX9, "has", "(I)Z"⟩
abbrev cX9_add : ByteArray := prog_11_method_3_code
def yX9_add : MethodName := ⟨RX9, "add", "(IIIII)I"⟩
abbrev cX9_wayOf : ByteArray := prog_11_method_4_code
def yX9_wayOf : MethodName := ⟨RX9, "wayOf", "(I)I"⟩
abbrev cX9_areContrary : ByteArray := prog_11_method_5_code
def yX9_areContrary : MethodName := ⟨RX9, "areContrary", "(II)Z"⟩
abbrev cX9_passes : ByteArray := prog_11_method_6_code
def yX9_passes : MethodName := ⟨RX9, "passes", "(II)Z"⟩
abbrev cX9_isOfKind : ByteArray := prog_11_method_7_code
def yX9_isOfKind : MethodName := ⟨RX9, "isOfKind", "(II)Z"⟩
abbrev cX9_isTimetabled : ByteArray := prog_11_method_8_code
def yX9_isTimetabled : MethodName := ⟨RX9, "isTimetabled", "(I)Z"⟩
abbrev cX9_strength : ByteArray := prog_11_method_9_code
def yX9_strength : MethodName := ⟨RX9, "strength", "(II)I"⟩
abbrev cX9_route : ByteArray := prog_11_method_10_code
def yX9_route : MethodName := ⟨RX9, "route", "(I)I"⟩
abbrev cX9_tell : ByteArray := prog_11_method_11_code
def yX9_tell : MethodName := ⟨RX9, "tell", "(II)I"⟩
abbrev cX9_useStationFrom : ByteArray := prog_11_method_12_code
def yX9_useStationFrom : MethodName := ⟨RX9, "useStationFrom", "(I)Z"⟩
abbrev cX9_takeFrom : ByteArray := prog_11_method_13_code
def yX9_takeFrom : MethodName := ⟨RX9, "takeFrom", "(LSidingLine$Trains;)V"⟩
def RX10 : String := "SidingLine"
def TX10 : u_T := fun k => match k with
  | 0 => ("SidingLine", "mending", "LSidingLine$Mending;", true)
  | 1 => ("SidingLine", "day", "LSidingLine$Day;", true)
  | 2 => ("SidingLine", "line", "LSidingLine$Line;", true)
  | 3 => ("SidingLine", "history", "LSidingLine$History;", true)
  | 4 => ("SidingLine", "sheets", "[LSidingLine$Sheet;", true)
  | _ => ("SidingLine", "findings", "I", false)
def tyX10 : Nat → FieldType := fun k => match k with
  | 0 => .object "SidingLine$Mending"
  | 1 => .object "SidingLine$Day"
  | 2 => .object "SidingLine$Line"
  | 3 => .object "SidingLine$History"
  | 4 => .array (.object "SidingLine$Sheet")
  | _ => .int
abbrev wsX100 : List Cond := u_ws RX10 TX10 6
theorem nmX10 : ∀ a, a < 6 → ∀ b, b < 6 → a ≠ b → (TX10 a).2.1 ≠ (TX10 b).2.1 := by decide +kernel
theorem tyX10_ok : ∀ k, k < 6 → parseFieldDescriptor (TX10 k).2.2.1 = some (tyX10 k) := by decide +kernel
abbrev cX10_init : ByteArray := prog_1_method_1_code
def yX10_init : MethodName := ⟨RX10, "<init>", "()V"⟩
abbrev cX10_stations : ByteArray := prog_1_method_2_code
def yX10_stations : MethodName := ⟨RX10, "stations", "(I)I"⟩
abbrev cX10_siding : ByteArray := prog_1_method_3_code
def yX10_siding : MethodName := ⟨RX10, "siding", "(II)I"⟩
abbrev cX10_section : ByteArray := prog_1_method_4_code
def yX10_section : MethodName := ⟨RX10, "section", "(II)I"⟩
abbrev cX10_train : ByteArray := prog_1_method_5_code
def yX10_train : MethodName := ⟨RX10, "train", "(IIIII)I"⟩
abbrev cX10_as : ByteArray := prog_1_method_6_code
def yX10_as : MethodName := ⟨RX10, "as", "(II)I"⟩
abbrev cX10_of : ByteArray := prog_1_method_7_code
def yX10_of : MethodName := ⟨RX10, "of", "(II)I"⟩
abbrev cX10_time : ByteArray := prog_1_method_8_code
def yX10_time : MethodName := ⟨RX10, "time", "(II)I"⟩
abbrev cX10_due : ByteArray := prog_1_method_9_code
def yX10_due : MethodName := ⟨RX10, "due", "(II)I"⟩
abbrev cX10_over : ByteArray := prog_1_method_10_code
def yX10_over : MethodName := ⟨RX10, "over", "(II)I"⟩
abbrev cX10_meet : ByteArray := prog_1_method_11_code
def yX10_meet : MethodName := ⟨RX10, "meet", "(III)I"⟩
abbrev cX10_late : ByteArray := prog_1_method_12_code
def yX10_late : MethodName := ⟨RX10, "late", "(II)I"⟩
abbrev cX10_wait : ByteArray := prog_1_method_13_code
def yX10_wait : MethodName := ⟨RX10, "wait", "(III)I"⟩
abbrev cX10_run : ByteArray := prog_1_method_14_code
def yX10_run : MethodName := ⟨RX10, "run", "(II)I"⟩
abbrev cX10_annul : ByteArray := prog_1_method_15_code
def yX10_annul : MethodName := ⟨RX10, "annul", "(I)I"⟩
abbrev cX10_hand : ByteArray := prog_1_method_16_code
def yX10_hand : MethodName := ⟨RX10, "hand", "(III)I"⟩
abbrev cX10_holds : ByteArray := prog_1_method_17_code
def yX10_holds : MethodName := ⟨RX10, "holds", "(III)I"⟩
abbrev cX10_order : ByteArray := prog_1_method_18_code
def yX10_order : MethodName := ⟨RX10, "order", "(II)I"⟩
abbrev cX10_force : ByteArray := prog_1_method_19_code
def yX10_force : MethodName := ⟨RX10, "force", "(II)I"⟩
abbrev cX10_where : ByteArray := prog_1_method_20_code
def yX10_where : MethodName := ⟨RX10, "where", "(II)I"⟩
abbrev cX10_came : ByteArray := prog_1_method_21_code
def yX10_came : MethodName := ⟨RX10, "came", "(II)I"⟩
abbrev cX10_left : ByteArray := prog_1_method_22_code
def yX10_left : MethodName := ⟨RX10, "left", "(II)I"⟩
abbrev cX10_why : ByteArray := prog_1_method_23_code
def yX10_why : MethodName := ⟨RX10, "why", "(II)I"⟩
abbrev cX10_heads : ByteArray := prog_1_method_24_code
def yX10_heads : MethodName := ⟨RX10, "heads", "()I"⟩
abbrev cX10_head : ByteArray := prog_1_method_25_code
def yX10_head : MethodName := ⟨RX10, "head", "(I)I"⟩
abbrev cX10_cause : ByteArray := prog_1_method_26_code
def yX10_cause : MethodName := ⟨RX10, "cause", "()I"⟩
abbrev cX10_fouls : ByteArray := prog_1_method_27_code
def yX10_fouls : MethodName := ⟨RX10, "fouls", "()I"⟩
abbrev cX10_delay : ByteArray := prog_1_method_28_code
def yX10_delay : MethodName := ⟨RX10, "delay", "()I"⟩
abbrev cX10_best : ByteArray := prog_1_method_29_code
def yX10_best : MethodName := ⟨RX10, "best", "(I)I"⟩
abbrev cX10_price : ByteArray := prog_1_method_30_code
def yX10_price : MethodName := ⟨RX10, "price", "(III)I"⟩
abbrev cX10_proves : ByteArray := prog_1_method_31_code
def yX10_proves : MethodName := ⟨RX10, "proves", "(IIII)I"⟩
abbrev cX10_sheet : ByteArray := prog_1_method_32_code
def yX10_sheet : MethodName := ⟨RX10, "sheet", "(III)I"⟩
abbrev cX10_put : ByteArray := prog_1_method_33_code
def yX10_put : MethodName := ⟨RX10, "put", "(III)I"⟩
abbrev cX10_copy : ByteArray := prog_1_method_34_code
def yX10_copy : MethodName := ⟨RX10, "copy", "(IIIII)I"⟩
abbrev cX10_grades : ByteArray := prog_1_method_35_code
def yX10_grades : MethodName := ⟨RX10, "grades", "(I)I"⟩
abbrev cX10_undo : ByteArray := prog_1_method_36_code
def yX10_undo : MethodName := ⟨RX10, "undo", "()I"⟩
abbrev cX10_all : ByteArray := prog_1_method_37_code
def yX10_all : MethodName := ⟨RX10, "all", "(I)I"⟩
abbrev cX10_finding : ByteArray := prog_1_method_38_code
def yX10_finding : MethodName := ⟨RX10, "finding", "(I)I"⟩
abbrev cX10_isWithin : ByteArray := prog_1_method_39_code
def yX10_isWithin : MethodName := ⟨RX10, "isWithin", "(III)Z"⟩
abbrev cX10_isSheet : ByteArray := prog_1_method_40_code
def yX10_isSheet : MethodName := ⟨RX10, "isSheet", "(I)Z"⟩
abbrev cX10_refusalOfMeet : ByteArray := prog_1_method_41_code
def yX10_refusalOfMeet : MethodName := ⟨RX10, "refusalOfMeet", "(III)I"⟩
abbrev cX10_write : ByteArray := prog_1_method_42_code
def yX10_write : MethodName := ⟨RX10, "write", "(IIIII)I"⟩
abbrev cX10_keepForUndo : ByteArray := prog_1_method_43_code
def yX10_keepForUndo : MethodName := ⟨RX10, "keepForUndo", "()V"⟩
abbrev cX10_forgetTheDay : ByteArray := prog_1_method_44_code
def yX10_forgetTheDay : MethodName := ⟨RX10, "forgetTheDay", "()V"⟩
def RX11 : String := "SidingLineModel"
def TX11 : u_T := fun k => match k with
  | 0 => ("SidingLineModel", "now", "[I", true)
  | 1 => ("SidingLineModel", "kept", "[I", true)
  | 2 => ("SidingLineModel", "keptEnd", "I", false)
  | 3 => ("SidingLineModel", "keptMany", "I", false)
  | 4 => ("SidingLineModel", "findings", "I", false)
  | 5 => ("SidingLineModel", "sheetBits", "[I", true)
  | 6 => ("SidingLineModel", "sheetSize", "[I", true)
  | 7 => ("SidingLineModel", "sheets", "[I", true)
  | 8 => ("SidingLineModel", "carried", "[I", true)
  | 9 => ("SidingLineModel", "isRun", "Z", false)
  | 10 => ("SidingLineModel", "isHeld", "[Z", true)
  | 11 => ("SidingLineModel", "how", "[I", true)
  | 12 => ("SidingLineModel", "place", "[I", true)
  | 13 => ("SidingLineModel", "way", "[I", true)
  | 14 => ("SidingLineModel", "leftAt", "[I", true)
  | 15 => ("SidingLineModel", "offAt", "[I", true)
  | 16 => ("SidingLineModel", "cameAt", "[I", true)
  | 17 => ("SidingLineModel", "wentAt", "[I", true)
  | 18 => ("SidingLineModel", "gone", "[I", true)
  | 19 => ("SidingLineModel", "wheres", "[I", true)
  | 20 => ("SidingLineModel", "whys", "[I", true)
  | 21 => ("SidingLineModel", "isBack", "[Z", true)
  | 22 => ("SidingLineModel", "wasAt", "[Z", true)
  | 23 => ("SidingLineModel", "wasAtNow", "[Z", true)
  | 24 => ("SidingLineModel", "haveMet", "[Z", true)
  | 25 => ("SidingLineModel", "heads", "I", false)
  | 26 => ("SidingLineModel", "headMinute", "I", false)
  | 27 => ("SidingLineModel", "headSection", "I", false)
  | 28 => ("SidingLineModel", "headLesser", "I", false)
  | 29 => ("SidingLineModel", "headGreater", "I", false)
  | 30 => ("SidingLineModel", "headLater", "I", false)
  | 31 => ("SidingLineModel", "foulMany", "I", false)
  | 32 => ("SidingLineModel", "moreLesser", "I", false)
  | 33 => ("SidingLineModel", "moreGreater", "I", false)
  | 34 => ("SidingLineModel", "moreStation", "I", false)
  | 35 => ("SidingLineModel", "meetLesser", "[I", true)
  | 36 => ("SidingLineModel", "meetGreater", "[I", true)
  | 37 => ("SidingLineModel", "meetStation", "[I", true)
  | 38 => ("SidingLineModel", "prices", "[I", true)
  | 39 => ("SidingLineModel", "meets", "I", false)
  | _ => ("SidingLineModel", "bestMeet", "I", false)
def tyX11 : Nat → FieldType := fun k => match k with
  | 0 => .array .int
  | 1 => .array .int
  | 2 => .int
  | 3 => .int
  | 4 => .int
  | 5 => .array .int
  | 6 => .array .int
  | 7 => .array .int
  | 8 => .array .int
  | 9 => .boolean
  | 10 => .array .boolean
  | 11 => .array .int
  | 12 => .array .int
  | 13 => .array .int
  | 14 => .array .int
  | 15 => .array .int
  | 16 => .array .int
  | 17 => .array .int
  | 18 => .array .int
  | 19 => .array .int
  | 20 => .array .int
  | 21 => .array .boolean
  | 22 => .array .boolean
  | 23 => .array .boolean
  | 24 => .array .boolean
  | 25 => .int
  | 26 => .int
  | 27 => .int
  | 28 => .int
  | 29 => .int
  | 30 => .int
  | 31 => .int
  | 32 => .int
  | 33 => .int
  | 34 => .int
  | 35 => .array .int
  | 36 => .array .int
  | 37 => .array .int
  | 38 => .array .int
  | 39 => .int
  | _ => .int
abbrev wsX110 : List Cond := u_ws RX11 TX11 41
theorem nmX11 : ∀ a, a < 41 → ∀ b, b < 41 → a ≠ b → (TX11 a).2.1 ≠ (TX11 b).2.1 := by decide +kernel
theorem tyX11_ok : ∀ k, k < 41 → parseFieldDescriptor (TX11 k).2.2.1 = some (tyX11 k) := by decide +kernel
abbrev cX11_init : ByteArray := prog_13_method_1_code
def yX11_init : MethodName := ⟨RX11, "<init>", "()V"⟩
abbrev cX11_in : ByteArray := prog_13_method_3_code
def yX11_in : MethodName := ⟨RX11, "in", "(III)Z"⟩
abbrev cX11_finds : ByteArray := prog_13_method_4_code
def yX11_finds : MethodName := ⟨RX11, "finds", "(I)I"⟩
abbrev cX11_keep : ByteArray := prog_13_method_5_code
def yX11_keep : MethodName := ⟨RX11, "keep", "()V"⟩
abbrev cX11_undo : ByteArray := prog_13_method_6_code
def yX11_undo : MethodName := ⟨RX11, "undo", "()I"⟩
abbrev cX11_becomes : ByteArray := prog_13_method_7_code
def yX11_becomes : MethodName := ⟨RX11, "becomes", "(II)I"⟩
abbrev cX11_isStation : ByteArray := prog_13_method_8_code
def yX11_isStation : MethodName := ⟨RX11, "isStation", "(I)Z"⟩
abbrev cX11_isTrain : ByteArray := prog_13_method_9_code
def yX11_isTrain : MethodName := ⟨RX11, "isTrain", "(I)Z"⟩
abbrev cX11_isOrder : ByteArray := prog_13_method_10_code
def yX11_isOrder : MethodName := ⟨RX11, "isOrder", "(I)Z"⟩
abbrev cX11_isMinute : ByteArray := prog_13_method_11_code
def yX11_isMinute : MethodName := ⟨RX11, "isMinute", "(I)Z"⟩
abbrev cX11_kindOf : ByteArray := prog_13_method_12_code
def yX11_kindOf : MethodName := ⟨RX11, "kindOf", "(I)I"⟩
abbrev cX11_fromOf : ByteArray := prog_13_method_13_code
def yX11_fromOf : MethodName := ⟨RX11, "fromOf", "(I)I"⟩
abbrev cX11_toOf : ByteArray := prog_13_method_14_code
def yX11_toOf : MethodName := ⟨RX11, "toOf", "(I)I"⟩
abbrev cX11_timeOf : ByteArray := prog_13_method_15_code
def yX11_timeOf : MethodName := ⟨RX11, "timeOf", "(I)I"⟩
abbrev cX11_wayOf : ByteArray := prog_13_method_16_code
def yX11_wayOf : MethodName := ⟨RX11, "wayOf", "(I)I"⟩
abbrev cX11_stations : ByteArray := prog_13_method_17_code
def yX11_stations : MethodName := ⟨RX11, "stations", "(I)I"⟩
abbrev cX11_siding : ByteArray := prog_13_method_18_code
def yX11_siding : MethodName := ⟨RX11, "siding", "(II)I"⟩
abbrev cX11_section : ByteArray := prog_13_method_19_code
def yX11_section : MethodName := ⟨RX11, "section", "(II)I"⟩
abbrev cX11_train : ByteArray := prog_13_method_20_code
def yX11_train : MethodName := ⟨RX11, "train", "(IIIII)I"⟩
abbrev cX11_as : ByteArray := prog_13_method_21_code
def yX11_as : MethodName := ⟨RX11, "as", "(II)I"⟩
abbrev cX11_of : ByteArray := prog_13_method_22_code
def yX11_of : MethodName := ⟨RX11, "of", "(II)I"⟩
abbrev cX11_time : ByteArray := prog_13_method_23_code
def yX11_time : MethodName := ⟨RX11, "time", "(II)I"⟩
abbrev cX11_between : ByteArray := prog_13_method_24_code
def yX11_between : MethodName := ⟨RX11, "between", "(II)I"⟩
abbrev cX11_isOnWay : ByteArray := prog_13_method_25_code
def yX11_isOnWay : MethodName := ⟨RX11, "isOnWay", "(II)Z"⟩
abbrev cX11_dueAt : ByteArray := prog_13_method_26_code
def yX11_dueAt : MethodName := ⟨RX11, "dueAt", "(II)I"⟩
abbrev cX11_due : ByteArray := prog_13_method_27_code
def yX11_due : MethodName := ⟨RX11, "due", "(II)I"⟩
abbrev cX11_rankOf : ByteArray := prog_13_method_28_code
def yX11_rankOf : MethodName := ⟨RX11, "rankOf", "(I)I"⟩
abbrev cX11_isOver : ByteArray := prog_13_method_29_code
def yX11_isOver : MethodName := ⟨RX11, "isOver", "(III)Z"⟩
abbrev cX11_over : ByteArray := prog_13_method_30_code
def yX11_over : MethodName := ⟨RX11, "over", "(II)I"⟩
abbrev cX11_stationOf : ByteArray := prog_13_method_31_code
def yX11_stationOf : MethodName := ⟨RX11, "stationOf", "(I)I"⟩
abbrev cX11_formOf : ByteArray := prog_13_method_32_code
def yX11_formOf : MethodName := ⟨RX11, "formOf", "(I)I"⟩
abbrev cX11_trainOf : ByteArray := prog_13_method_33_code
def yX11_trainOf : MethodName := ⟨RX11, "trainOf", "(I)I"⟩
abbrev cX11_otherOf : ByteArray := prog_13_method_34_code
def yX11_otherOf : MethodName := ⟨RX11, "otherOf", "(I)I"⟩
abbrev cX11_numberOf : ByteArray := prog_13_method_35_code
def yX11_numberOf : MethodName := ⟨RX11, "numberOf", "(I)I"⟩
abbrev cX11_ordered : ByteArray := prog_13_method_36_code
def yX11_ordered : MethodName := ⟨RX11, "ordered", "(IIIII)I"⟩
abbrev cX11_meet : ByteArray := prog_13_method_37_code
def yX11_meet : MethodName := ⟨RX11, "meet", "(III)I"⟩
abbrev cX11_late : ByteArray := prog_13_method_38_code
def yX11_late : MethodName := ⟨RX11, "late", "(II)I"⟩
abbrev cX11_wait : ByteArray := prog_13_method_39_code
def yX11_wait : MethodName := ⟨RX11, "wait", "(III)I"⟩
abbrev cX11_run : ByteArray := prog_13_method_40_code
def yX11_run : MethodName := ⟨RX11, "run", "(II)I"⟩
abbrev cX11_annul : ByteArray := prog_13_method_41_code
def yX11_annul : MethodName := ⟨RX11, "annul", "(I)I"⟩
abbrev cX11_hand : ByteArray := prog_13_method_42_code
def yX11_hand : MethodName := ⟨RX11, "hand", "(III)I"⟩
abbrev cX11_findHeld : ByteArray := prog_13_method_43_code
def yX11_findHeld : MethodName := ⟨RX11, "findHeld", "(II)V"⟩
abbrev cX11_holds : ByteArray := prog_13_method_44_code
def yX11_holds : MethodName := ⟨RX11, "holds", "(III)I"⟩
abbrev cX11_order : ByteArray := prog_13_method_45_code
def yX11_order : MethodName := ⟨RX11, "order", "(II)I"⟩
abbrev cX11_force : ByteArray := prog_13_method_46_code
def yX11_force : MethodName := ⟨RX11, "force", "(II)I"⟩
abbrev cX11_isForced : ByteArray := prog_13_method_47_code
def yX11_isForced : MethodName := ⟨RX11, "isForced", "(II)Z"⟩
abbrev cX11_begin : ByteArray := prog_13_method_48_code
def yX11_begin : MethodName := ⟨RX11, "begin", "()V"⟩
abbrev cX11_isAt : ByteArray := prog_13_method_49_code
def yX11_isAt : MethodName := ⟨RX11, "isAt", "(III)V"⟩
abbrev cX11_comesIn : ByteArray := prog_13_method_50_code
def yX11_comesIn : MethodName := ⟨RX11, "comesIn", "(II)V"⟩
abbrev cX11_lengthFits : ByteArray := prog_13_method_51_code
def yX11_lengthFits : MethodName := ⟨RX11, "lengthFits", "(II)Z"⟩
abbrev cX11_lates : ByteArray := prog_13_method_52_code
def yX11_lates : MethodName := ⟨RX11, "lates", "(I)I"⟩
abbrev cX11_hasMeet : ByteArray := prog_13_method_53_code
def yX11_hasMeet : MethodName := ⟨RX11, "hasMeet", "(III)Z"⟩
abbrev cX11_isMore : ByteArray := prog_13_method_54_code
def yX11_isMore : MethodName := ⟨RX11, "isMore", "(II)Z"⟩
abbrev cX11_mayByTime : ByteArray := prog_13_method_55_code
def yX11_mayByTime : MethodName := ⟨RX11, "mayByTime", "(II)Z"⟩
abbrev cX11_mayByWaits : ByteArray := prog_13_method_56_code
def yX11_mayByWaits : MethodName := ⟨RX11, "mayByWaits", "(II)Z"⟩
abbrev cX11_isMet : ByteArray := prog_13_method_57_code
def yX11_isMet : MethodName := ⟨RX11, "isMet", "(II)Z"⟩
abbrev cX11_mayByMeets : ByteArray := prog_13_method_58_code
def yX11_mayByMeets : MethodName := ⟨RX11, "mayByMeets", "(I)Z"⟩
abbrev cX11_isBehind : ByteArray := prog_13_method_59_code
def yX11_isBehind : MethodName := ⟨RX11, "isBehind", "(II)Z"⟩
abbrev cX11_sectionAhead : ByteArray := prog_13_method_60_code
def yX11_sectionAhead : MethodName := ⟨RX11, "sectionAhead", "(I)I"⟩
abbrev cX11_goesOver : ByteArray := prog_13_method_61_code
def yX11_goesOver : MethodName := ⟨RX11, "goesOver", "(II)Z"⟩
abbrev cX11_mayAgainst : ByteArray := prog_13_method_62_code
def yX11_mayAgainst : MethodName := ⟨RX11, "mayAgainst", "(III)Z"⟩
abbrev cX11_whyNot : ByteArray := prog_13_method_63_code
def yX11_whyNot : MethodName := ⟨RX11, "whyNot", "(II)I"⟩
abbrev cX11_goes : ByteArray := prog_13_method_64_code
def yX11_goes : MethodName := ⟨RX11, "goes", "(II)V"⟩
abbrev cX11_looksAtHeads : ByteArray := prog_13_method_65_code
def yX11_looksAtHeads : MethodName := ⟨RX11, "looksAtHeads", "(I)V"⟩
abbrev cX11_runs : ByteArray := prog_13_method_66_code
def yX11_runs : MethodName := ⟨RX11, "runs", "()V"⟩
abbrev cX11_runsAsItIs : ByteArray := prog_13_method_67_code
def yX11_runsAsItIs : MethodName := ⟨RX11, "runsAsItIs", "()V"⟩
abbrev cX11_where : ByteArray := prog_13_method_68_code
def yX11_where : MethodName := ⟨RX11, "where", "(II)I"⟩
abbrev cX11_came : ByteArray := prog_13_method_69_code
def yX11_came : MethodName := ⟨RX11, "came", "(II)I"⟩
abbrev cX11_left : ByteArray := prog_13_method_70_code
def yX11_left : MethodName := ⟨RX11, "left", "(II)I"⟩
abbrev cX11_why : ByteArray := prog_13_method_71_code
def yX11_why : MethodName := ⟨RX11, "why", "(II)I"⟩
abbrev cX11_heads : ByteArray := prog_13_method_72_code
def yX11_heads : MethodName := ⟨RX11, "heads", "()I"⟩
abbrev cX11_head : ByteArray := prog_13_method_73_code
def yX11_head : MethodName := ⟨RX11, "head", "(I)I"⟩
abbrev cX11_bears : ByteArray := prog_13_method_74_code
def yX11_bears : MethodName := ⟨RX11, "bears", "(I)Z"⟩
abbrev cX11_cause : ByteArray := prog_13_method_75_code
def yX11_cause : MethodName := ⟨RX11, "cause", "()I"⟩
abbrev cX11_fouls : ByteArray := prog_13_method_76_code
def yX11_fouls : MethodName := ⟨RX11, "fouls", "()I"⟩
abbrev cX11_delays : ByteArray := prog_13_method_77_code
def yX11_delays : MethodName := ⟨RX11, "delays", "()I"⟩
abbrev cX11_delay : ByteArray := prog_13_method_78_code
def yX11_delay : MethodName := ⟨RX11, "delay", "()I"⟩
abbrev cX11_priceOf : ByteArray := prog_13_method_79_code
def yX11_priceOf : MethodName := ⟨RX11, "priceOf", "(III)I"⟩
abbrev cX11_findMeets : ByteArray := prog_13_method_80_code
def yX11_findMeets : MethodName := ⟨RX11, "findMeets", "()V"⟩
abbrev cX11_best : ByteArray := prog_13_method_81_code
def yX11_best : MethodName := ⟨RX11, "best", "(I)I"⟩
abbrev cX11_price : ByteArray := prog_13_method_82_code
def yX11_price : MethodName := ⟨RX11, "price", "(III)I"⟩
abbrev cX11_narrowed : ByteArray := prog_13_method_83_code
def yX11_narrowed : MethodName := ⟨RX11, "narrowed", "(II)I"⟩
abbrev cX11_proves : ByteArray := prog_13_method_84_code
def yX11_proves : MethodName := ⟨RX11, "proves", "(IIII)I"⟩
abbrev cX11_isSheet : ByteArray := prog_13_method_85_code
def yX11_isSheet : MethodName := ⟨RX11, "isSheet", "(I)Z"⟩
abbrev cX11_sheet : ByteArray := prog_13_method_86_code
def yX11_sheet : MethodName := ⟨RX11, "sheet", "(III)I"⟩
abbrev cX11_put : ByteArray := prog_13_method_87_code
def yX11_put : MethodName := ⟨RX11, "put", "(III)I"⟩
abbrev cX11_copy : ByteArray := prog_13_method_88_code
def yX11_copy : MethodName := ⟨RX11, "copy", "(IIIII)I"⟩
abbrev cX11_grades : ByteArray := prog_13_method_89_code
def yX11_grades : MethodName := ⟨RX11, "grades", "(I)I"⟩
abbrev cX11_all : ByteArray := prog_13_method_90_code
def yX11_all : MethodName := ⟨RX11, "all", "(I)I"⟩
def RJ9 : String := "java/lang/Math"
def TJ9 : u_T := fun k => match k with
  | _ => ("", "", "", false)
def tyJ9 : Nat → FieldType := fun k => match k with
  | _ => .int
abbrev cJ9_max_7cf53 : ByteArray := prog_14_method_65_code
def yJ9_max_7cf53 : MethodName := ⟨RJ9, "max", "(II)I"⟩
abbrev cJ9_min_7cf53 : ByteArray := prog_14_method_69_code
def yJ9_min_7cf53 : MethodName := ⟨RJ9, "min", "(II)I"⟩
def RJ10 : String := "java/lang/System"
def TJ10 : u_T := fun k => match k with
  | _ => ("", "", "", false)
def tyJ10 : Nat → FieldType := fun k => match k with
  | _ => .int
def RJ7 : String := "java/util/Arrays"
def TJ7 : u_T := fun k => match k with
  | _ => ("", "", "", false)
def tyJ7 : Nat → FieldType := fun k => match k with
  | _ => .int
abbrev cJ7_fill_53178 : ByteArray := prog_16_method_103_code
def yJ7_fill_53178 : MethodName := ⟨RJ7, "fill", "([II)V"⟩
def RL : String := "SidingLineLaw"
abbrev cL_law : ByteArray := code
def yL_law : MethodName := ⟨RL, "law", "([I)Z"⟩
abbrev vwCl : List vw_C := [(RX0, TX0, 15), (RX1, TX1, 13), (RX2, TX2, 3), (RX3, TX3, 6), (RX4, TX4, 4), (RX5, TX5, 7), (RX6, TX6, 8), (RX7, TX7, 3), (RX8, TX8, 3), (RX9, TX9, 6), (RX10, TX10, 6), (RX11, TX11, 41)]
