section
-- ===== PART A: goes FIRST, ahead of the names: the tables' words, and 'selects' of the private methods out of them =====
/-- a private method of a class that the tables say can be made, by its rows of tables_1 -/
def lw_okq (q : MethodName × Nat) : Prop := (q.1.cls ≠ "java/lang/invoke/MethodHandle" ∧ q.1.cls ≠ "java/lang/invoke/VarHandle") ∧ Cond.instantiable q.1.cls q.2 ∈ tables_1 ∧ Cond.privateMethod q.1 ∈ tables_1 ∧ Cond.instanceMethod q.1 ∈ tables_1
theorem lw_p0 : lw_okq (⟨"LotNobodyWants", "addFromRow", "(III)Z"⟩, 11) := ⟨⟨by decide +kernel, by decide +kernel⟩, List.mem_of_getElem? (i := 18) (by decide +kernel), List.mem_of_getElem? (i := 417) (by decide +kernel), List.mem_of_getElem? (i := 418) (by decide +kernel)⟩
theorem lw_p1 : lw_okq (⟨"LotNobodyWants$Changes", "forgetOldest", "()V"⟩, 7) := ⟨⟨by decide +kernel, by decide +kernel⟩, List.mem_of_getElem? (i := 271) (by decide +kernel), List.mem_of_getElem? (i := 448) (by decide +kernel), List.mem_of_getElem? (i := 449) (by decide +kernel)⟩
theorem lw_p2 : lw_okq (⟨"LotNobodyWants", "now", "()LLotNobodyWants$Thought;"⟩, 11) := ⟨⟨by decide +kernel, by decide +kernel⟩, List.mem_of_getElem? (i := 18) (by decide +kernel), List.mem_of_getElem? (i := 461) (by decide +kernel), List.mem_of_getElem? (i := 462) (by decide +kernel)⟩
theorem lw_p3 : lw_okq (⟨"LotNobodyWants$Reader", "readLine", "()Z"⟩, 4) := ⟨⟨by decide +kernel, by decide +kernel⟩, List.mem_of_getElem? (i := 70) (by decide +kernel), List.mem_of_getElem? (i := 516) (by decide +kernel), List.mem_of_getElem? (i := 517) (by decide +kernel)⟩
theorem lw_p4 : lw_okq (⟨"LotNobodyWants$Reader", "readJoined", "(II)Z"⟩, 4) := ⟨⟨by decide +kernel, by decide +kernel⟩, List.mem_of_getElem? (i := 70) (by decide +kernel), List.mem_of_getElem? (i := 520) (by decide +kernel), List.mem_of_getElem? (i := 521) (by decide +kernel)⟩
theorem lw_p5 : lw_okq (⟨"LotNobodyWants$Reader", "readOperand", "(I)Z"⟩, 4) := ⟨⟨by decide +kernel, by decide +kernel⟩, List.mem_of_getElem? (i := 70) (by decide +kernel), List.mem_of_getElem? (i := 524) (by decide +kernel), List.mem_of_getElem? (i := 525) (by decide +kernel)⟩
theorem lw_p6 : lw_okq (⟨"LotNobodyWants$Reader", "next", "()I"⟩, 4) := ⟨⟨by decide +kernel, by decide +kernel⟩, List.mem_of_getElem? (i := 70) (by decide +kernel), List.mem_of_getElem? (i := 528) (by decide +kernel), List.mem_of_getElem? (i := 529) (by decide +kernel)⟩
theorem lw_p7 : lw_okq (⟨"LotNobodyWants$Reader", "readNumber", "()V"⟩, 4) := ⟨⟨by decide +kernel, by decide +kernel⟩, List.mem_of_getElem? (i := 70) (by decide +kernel), List.mem_of_getElem? (i := 538) (by decide +kernel), List.mem_of_getElem? (i := 539) (by decide +kernel)⟩
theorem lw_p8 : lw_okq (⟨"LotNobodyWants$Reader", "readEnclosed", "(I)Z"⟩, 4) := ⟨⟨by decide +kernel, by decide +kernel⟩, List.mem_of_getElem? (i := 70) (by decide +kernel), List.mem_of_getElem? (i := 546) (by decide +kernel), List.mem_of_getElem? (i := 547) (by decide +kernel)⟩
theorem lw_p9 : lw_okq (⟨"LotNobodyWants$Reader", "readTurned", "(II)Z"⟩, 4) := ⟨⟨by decide +kernel, by decide +kernel⟩, List.mem_of_getElem? (i := 70) (by decide +kernel), List.mem_of_getElem? (i := 550) (by decide +kernel), List.mem_of_getElem? (i := 551) (by decide +kernel)⟩
theorem lw_p10 : lw_okq (⟨"LotNobodyWants$Thought", "isLoose", "(I)Z"⟩, 3) := ⟨⟨by decide +kernel, by decide +kernel⟩, List.mem_of_getElem? (i := 91) (by decide +kernel), List.mem_of_getElem? (i := 586) (by decide +kernel), List.mem_of_getElem? (i := 587) (by decide +kernel)⟩
theorem lw_p11 : lw_okq (⟨"LotNobodyWants$Thought", "canGive", "(II)Z"⟩, 3) := ⟨⟨by decide +kernel, by decide +kernel⟩, List.mem_of_getElem? (i := 91) (by decide +kernel), List.mem_of_getElem? (i := 590) (by decide +kernel), List.mem_of_getElem? (i := 591) (by decide +kernel)⟩
theorem lw_p12 : lw_okq (⟨"LotNobodyWants$Law", "pop", "()I"⟩, 6) := ⟨⟨by decide +kernel, by decide +kernel⟩, List.mem_of_getElem? (i := 45) (by decide +kernel), List.mem_of_getElem? (i := 612) (by decide +kernel), List.mem_of_getElem? (i := 613) (by decide +kernel)⟩
theorem lw_p13 : lw_okq (⟨"LotNobodyWants$Law", "doStep", "(II)V"⟩, 6) := ⟨⟨by decide +kernel, by decide +kernel⟩, List.mem_of_getElem? (i := 45) (by decide +kernel), List.mem_of_getElem? (i := 616) (by decide +kernel), List.mem_of_getElem? (i := 617) (by decide +kernel)⟩
theorem lw_p14 : lw_okq (⟨"LotNobodyWants$Law", "push", "(I)V"⟩, 6) := ⟨⟨by decide +kernel, by decide +kernel⟩, List.mem_of_getElem? (i := 45) (by decide +kernel), List.mem_of_getElem? (i := 620) (by decide +kernel), List.mem_of_getElem? (i := 621) (by decide +kernel)⟩
theorem lw_p15 : lw_okq (⟨"LotNobodyWants$Eve", "weighStep", "(IZ)V"⟩, 8) := ⟨⟨by decide +kernel, by decide +kernel⟩, List.mem_of_getElem? (i := 129) (by decide +kernel), List.mem_of_getElem? (i := 690) (by decide +kernel), List.mem_of_getElem? (i := 691) (by decide +kernel)⟩
def lw_privs_1 : List (MethodName × Nat) := [(⟨"LotNobodyWants", "addFromRow", "(III)Z"⟩, 11), (⟨"LotNobodyWants$Changes", "forgetOldest", "()V"⟩, 7), (⟨"LotNobodyWants", "now", "()LLotNobodyWants$Thought;"⟩, 11), (⟨"LotNobodyWants$Reader", "readLine", "()Z"⟩, 4), (⟨"LotNobodyWants$Reader", "readJoined", "(II)Z"⟩, 4), (⟨"LotNobodyWants$Reader", "readOperand", "(I)Z"⟩, 4), (⟨"LotNobodyWants$Reader", "next", "()I"⟩, 4), (⟨"LotNobodyWants$Reader", "readNumber", "()V"⟩, 4), (⟨"LotNobodyWants$Reader", "readEnclosed", "(I)Z"⟩, 4), (⟨"LotNobodyWants$Reader", "readTurned", "(II)Z"⟩, 4), (⟨"LotNobodyWants$Thought", "isLoose", "(I)Z"⟩, 3), (⟨"LotNobodyWants$Thought", "canGive", "(II)Z"⟩, 3), (⟨"LotNobodyWants$Law", "pop", "()I"⟩, 6), (⟨"LotNobodyWants$Law", "doStep", "(II)V"⟩, 6), (⟨"LotNobodyWants$Law", "push", "(I)V"⟩, 6), (⟨"LotNobodyWants$Eve", "weighStep", "(IZ)V"⟩, 8)]
theorem lw_r1 : ∀ q ∈ lw_privs_1, lw_okq q := List.forall_mem_cons.mpr ⟨lw_p0, List.forall_mem_cons.mpr ⟨lw_p1, List.forall_mem_cons.mpr ⟨lw_p2, List.forall_mem_cons.mpr ⟨lw_p3, List.forall_mem_cons.mpr ⟨lw_p4, List.forall_mem_cons.mpr ⟨lw_p5, List.forall_mem_cons.mpr ⟨lw_p6, List.forall_mem_cons.mpr ⟨lw_p7, List.forall_mem_cons.mpr ⟨lw_p8, List.forall_mem_cons.mpr ⟨lw_p9, List.forall_mem_cons.mpr ⟨lw_p10, List.forall_mem_cons.mpr ⟨lw_p11, List.forall_mem_cons.mpr ⟨lw_p12, List.forall_mem_cons.mpr ⟨lw_p13, List.forall_mem_cons.mpr ⟨lw_p14, List.forall_mem_cons.mpr ⟨lw_p15, fun _ h => absurd h List.not_mem_nil⟩⟩⟩⟩⟩⟩⟩⟩⟩⟩⟩⟩⟩⟩⟩⟩
theorem lw_p16 : lw_okq (⟨"LotNobodyWants$Rid", "sortTickets", "()V"⟩, 10) := ⟨⟨by decide +kernel, by decide +kernel⟩, List.mem_of_getElem? (i := 203) (by decide +kernel), List.mem_of_getElem? (i := 751) (by decide +kernel), List.mem_of_getElem? (i := 752) (by decide +kernel)⟩
theorem lw_p17 : lw_okq (⟨"LotNobodyWants$Rid", "workOutHour", "(I)V"⟩, 10) := ⟨⟨by decide +kernel, by decide +kernel⟩, List.mem_of_getElem? (i := 203) (by decide +kernel), List.mem_of_getElem? (i := 759) (by decide +kernel), List.mem_of_getElem? (i := 760) (by decide +kernel)⟩
theorem lw_p18 : lw_okq (⟨"LotNobodyWants$Rid", "oddsThen", "(III)I"⟩, 10) := ⟨⟨by decide +kernel, by decide +kernel⟩, List.mem_of_getElem? (i := 203) (by decide +kernel), List.mem_of_getElem? (i := 781) (by decide +kernel), List.mem_of_getElem? (i := 782) (by decide +kernel)⟩
theorem lw_p19 : lw_okq (⟨"LotNobodyWants", "takesFor", "(III)I"⟩, 11) := ⟨⟨by decide +kernel, by decide +kernel⟩, List.mem_of_getElem? (i := 18) (by decide +kernel), List.mem_of_getElem? (i := 806) (by decide +kernel), List.mem_of_getElem? (i := 807) (by decide +kernel)⟩
theorem lw_p20 : lw_okq (⟨"LotNobodyWants", "realsOfSet", "(LLotNobodyWants$Thought;I)I"⟩, 11) := ⟨⟨by decide +kernel, by decide +kernel⟩, List.mem_of_getElem? (i := 18) (by decide +kernel), List.mem_of_getElem? (i := 837) (by decide +kernel), List.mem_of_getElem? (i := 838) (by decide +kernel)⟩
theorem lw_p21 : lw_okq (⟨"LotNobodyWants$Ways", "arrive", "(IJ)V"⟩, 12) := ⟨⟨by decide +kernel, by decide +kernel⟩, List.mem_of_getElem? (i := 160) (by decide +kernel), List.mem_of_getElem? (i := 859) (by decide +kernel), List.mem_of_getElem? (i := 860) (by decide +kernel)⟩
theorem lw_p22 : lw_okq (⟨"LotNobodyWants$Ways", "isAsTold", "()Z"⟩, 12) := ⟨⟨by decide +kernel, by decide +kernel⟩, List.mem_of_getElem? (i := 160) (by decide +kernel), List.mem_of_getElem? (i := 863) (by decide +kernel), List.mem_of_getElem? (i := 864) (by decide +kernel)⟩
theorem lw_p23 : lw_okq (⟨"LotNobodyWants$Ways", "oddsAt", "(III)I"⟩, 12) := ⟨⟨by decide +kernel, by decide +kernel⟩, List.mem_of_getElem? (i := 160) (by decide +kernel), List.mem_of_getElem? (i := 874) (by decide +kernel), List.mem_of_getElem? (i := 875) (by decide +kernel)⟩
theorem lw_p24 : lw_okq (⟨"LotNobodyWants$Hats", "noteBody", "(I)V"⟩, 5) := ⟨⟨by decide +kernel, by decide +kernel⟩, List.mem_of_getElem? (i := 299) (by decide +kernel), List.mem_of_getElem? (i := 1036) (by decide +kernel), List.mem_of_getElem? (i := 1037) (by decide +kernel)⟩
theorem lw_p25 : lw_okq (⟨"LotNobodyWantsModel", "areTicket", "(II)Z"⟩, 60) := ⟨⟨by decide +kernel, by decide +kernel⟩, List.mem_of_getElem? (i := 1138) (by decide +kernel), List.mem_of_getElem? (i := 1337) (by decide +kernel), List.mem_of_getElem? (i := 1338) (by decide +kernel)⟩
theorem lw_p26 : lw_okq (⟨"LotNobodyWantsModel", "isOne", "(I)Z"⟩, 60) := ⟨⟨by decide +kernel, by decide +kernel⟩, List.mem_of_getElem? (i := 1138) (by decide +kernel), List.mem_of_getElem? (i := 1341) (by decide +kernel), List.mem_of_getElem? (i := 1342) (by decide +kernel)⟩
theorem lw_p27 : lw_okq (⟨"LotNobodyWantsModel", "addTicket", "(III)I"⟩, 60) := ⟨⟨by decide +kernel, by decide +kernel⟩, List.mem_of_getElem? (i := 1138) (by decide +kernel), List.mem_of_getElem? (i := 1345) (by decide +kernel), List.mem_of_getElem? (i := 1346) (by decide +kernel)⟩
theorem lw_p28 : lw_okq (⟨"LotNobodyWantsModel", "lays", "(III)V"⟩, 60) := ⟨⟨by decide +kernel, by decide +kernel⟩, List.mem_of_getElem? (i := 1138) (by decide +kernel), List.mem_of_getElem? (i := 1361) (by decide +kernel), List.mem_of_getElem? (i := 1362) (by decide +kernel)⟩
theorem lw_p29 : lw_okq (⟨"LotNobodyWantsModel", "isPlace", "(II)Z"⟩, 60) := ⟨⟨by decide +kernel, by decide +kernel⟩, List.mem_of_getElem? (i := 1138) (by decide +kernel), List.mem_of_getElem? (i := 1373) (by decide +kernel), List.mem_of_getElem? (i := 1374) (by decide +kernel)⟩
theorem lw_p30 : lw_okq (⟨"LotNobodyWantsModel", "isTicket", "(I)Z"⟩, 60) := ⟨⟨by decide +kernel, by decide +kernel⟩, List.mem_of_getElem? (i := 1138) (by decide +kernel), List.mem_of_getElem? (i := 1377) (by decide +kernel), List.mem_of_getElem? (i := 1378) (by decide +kernel)⟩
theorem lw_p31 : lw_okq (⟨"LotNobodyWantsModel", "mayHave", "(II)Z"⟩, 60) := ⟨⟨by decide +kernel, by decide +kernel⟩, List.mem_of_getElem? (i := 1138) (by decide +kernel), List.mem_of_getElem? (i := 1381) (by decide +kernel), List.mem_of_getElem? (i := 1382) (by decide +kernel)⟩
def lw_privs_2 : List (MethodName × Nat) := [(⟨"LotNobodyWants$Rid", "sortTickets", "()V"⟩, 10), (⟨"LotNobodyWants$Rid", "workOutHour", "(I)V"⟩, 10), (⟨"LotNobodyWants$Rid", "oddsThen", "(III)I"⟩, 10), (⟨"LotNobodyWants", "takesFor", "(III)I"⟩, 11), (⟨"LotNobodyWants", "realsOfSet", "(LLotNobodyWants$Thought;I)I"⟩, 11), (⟨"LotNobodyWants$Ways", "arrive", "(IJ)V"⟩, 12), (⟨"LotNobodyWants$Ways", "isAsTold", "()Z"⟩, 12), (⟨"LotNobodyWants$Ways", "oddsAt", "(III)I"⟩, 12), (⟨"LotNobodyWants$Hats", "noteBody", "(I)V"⟩, 5), (⟨"LotNobodyWantsModel", "areTicket", "(II)Z"⟩, 60), (⟨"LotNobodyWantsModel", "isOne", "(I)Z"⟩, 60), (⟨"LotNobodyWantsModel", "addTicket", "(III)I"⟩, 60), (⟨"LotNobodyWantsModel", "lays", "(III)V"⟩, 60), (⟨"LotNobodyWantsModel", "isPlace", "(II)Z"⟩, 60), (⟨"LotNobodyWantsModel", "isTicket", "(I)Z"⟩, 60), (⟨"LotNobodyWantsModel", "mayHave", "(II)Z"⟩, 60)]
theorem lw_r2 : ∀ q ∈ lw_privs_2, lw_okq q := List.forall_mem_cons.mpr ⟨lw_p16, List.forall_mem_cons.mpr ⟨lw_p17, List.forall_mem_cons.mpr ⟨lw_p18, List.forall_mem_cons.mpr ⟨lw_p19, List.forall_mem_cons.mpr ⟨lw_p20, List.forall_mem_cons.mpr ⟨lw_p21, List.forall_mem_cons.mpr ⟨lw_p22, List.forall_mem_cons.mpr ⟨lw_p23, List.forall_mem_cons.mpr ⟨lw_p24, List.forall_mem_cons.mpr ⟨lw_p25, List.forall_mem_cons.mpr ⟨lw_p26, List.forall_mem_cons.mpr ⟨lw_p27, List.forall_mem_cons.mpr ⟨lw_p28, List.forall_mem_cons.mpr ⟨lw_p29, List.forall_mem_cons.mpr ⟨lw_p30, List.forall_mem_cons.mpr ⟨lw_p31, fun _ h => absurd h List.not_mem_nil⟩⟩⟩⟩⟩⟩⟩⟩⟩⟩⟩⟩⟩⟩⟩⟩
theorem lw_p32 : lw_okq (⟨"LotNobodyWantsModel", "changes", "(III)I"⟩, 60) := ⟨⟨by decide +kernel, by decide +kernel⟩, List.mem_of_getElem? (i := 1138) (by decide +kernel), List.mem_of_getElem? (i := 1385) (by decide +kernel), List.mem_of_getElem? (i := 1386) (by decide +kernel)⟩
theorem lw_p33 : lw_okq (⟨"LotNobodyWantsModel", "valueAt", "(II)I"⟩, 60) := ⟨⟨by decide +kernel, by decide +kernel⟩, List.mem_of_getElem? (i := 1138) (by decide +kernel), List.mem_of_getElem? (i := 1389) (by decide +kernel), List.mem_of_getElem? (i := 1390) (by decide +kernel)⟩
theorem lw_p34 : lw_okq (⟨"LotNobodyWantsModel", "layNow", "()V"⟩, 60) := ⟨⟨by decide +kernel, by decide +kernel⟩, List.mem_of_getElem? (i := 1138) (by decide +kernel), List.mem_of_getElem? (i := 1397) (by decide +kernel), List.mem_of_getElem? (i := 1398) (by decide +kernel)⟩
theorem lw_p35 : lw_okq (⟨"LotNobodyWantsModel", "manyOf", "(I)I"⟩, 60) := ⟨⟨by decide +kernel, by decide +kernel⟩, List.mem_of_getElem? (i := 1138) (by decide +kernel), List.mem_of_getElem? (i := 1401) (by decide +kernel), List.mem_of_getElem? (i := 1402) (by decide +kernel)⟩
theorem lw_p36 : lw_okq (⟨"LotNobodyWantsModel", "realOf", "(I)I"⟩, 60) := ⟨⟨by decide +kernel, by decide +kernel⟩, List.mem_of_getElem? (i := 1138) (by decide +kernel), List.mem_of_getElem? (i := 1405) (by decide +kernel), List.mem_of_getElem? (i := 1406) (by decide +kernel)⟩
theorem lw_p37 : lw_okq (⟨"LotNobodyWantsModel", "readText", "(I)I"⟩, 60) := ⟨⟨by decide +kernel, by decide +kernel⟩, List.mem_of_getElem? (i := 1138) (by decide +kernel), List.mem_of_getElem? (i := 1417) (by decide +kernel), List.mem_of_getElem? (i := 1418) (by decide +kernel)⟩
theorem lw_p38 : lw_okq (⟨"LotNobodyWantsModel", "line", "()V"⟩, 60) := ⟨⟨by decide +kernel, by decide +kernel⟩, List.mem_of_getElem? (i := 1138) (by decide +kernel), List.mem_of_getElem? (i := 1421) (by decide +kernel), List.mem_of_getElem? (i := 1422) (by decide +kernel)⟩
theorem lw_p39 : lw_okq (⟨"LotNobodyWantsModel", "either", "()V"⟩, 60) := ⟨⟨by decide +kernel, by decide +kernel⟩, List.mem_of_getElem? (i := 1138) (by decide +kernel), List.mem_of_getElem? (i := 1425) (by decide +kernel), List.mem_of_getElem? (i := 1426) (by decide +kernel)⟩
theorem lw_p40 : lw_okq (⟨"LotNobodyWantsModel", "both", "()V"⟩, 60) := ⟨⟨by decide +kernel, by decide +kernel⟩, List.mem_of_getElem? (i := 1138) (by decide +kernel), List.mem_of_getElem? (i := 1429) (by decide +kernel), List.mem_of_getElem? (i := 1430) (by decide +kernel)⟩
theorem lw_p41 : lw_okq (⟨"LotNobodyWantsModel", "compared", "()V"⟩, 60) := ⟨⟨by decide +kernel, by decide +kernel⟩, List.mem_of_getElem? (i := 1138) (by decide +kernel), List.mem_of_getElem? (i := 1433) (by decide +kernel), List.mem_of_getElem? (i := 1434) (by decide +kernel)⟩
theorem lw_p42 : lw_okq (⟨"LotNobodyWantsModel", "sum", "()V"⟩, 60) := ⟨⟨by decide +kernel, by decide +kernel⟩, List.mem_of_getElem? (i := 1138) (by decide +kernel), List.mem_of_getElem? (i := 1437) (by decide +kernel), List.mem_of_getElem? (i := 1438) (by decide +kernel)⟩
theorem lw_p43 : lw_okq (⟨"LotNobodyWantsModel", "product", "()V"⟩, 60) := ⟨⟨by decide +kernel, by decide +kernel⟩, List.mem_of_getElem? (i := 1138) (by decide +kernel), List.mem_of_getElem? (i := 1441) (by decide +kernel), List.mem_of_getElem? (i := 1442) (by decide +kernel)⟩
theorem lw_p44 : lw_okq (⟨"LotNobodyWantsModel", "operand", "()V"⟩, 60) := ⟨⟨by decide +kernel, by decide +kernel⟩, List.mem_of_getElem? (i := 1138) (by decide +kernel), List.mem_of_getElem? (i := 1445) (by decide +kernel), List.mem_of_getElem? (i := 1446) (by decide +kernel)⟩
theorem lw_p45 : lw_okq (⟨"LotNobodyWantsModel", "look", "()I"⟩, 60) := ⟨⟨by decide +kernel, by decide +kernel⟩, List.mem_of_getElem? (i := 1138) (by decide +kernel), List.mem_of_getElem? (i := 1449) (by decide +kernel), List.mem_of_getElem? (i := 1450) (by decide +kernel)⟩
theorem lw_p46 : lw_okq (⟨"LotNobodyWantsModel", "addStep", "(II)V"⟩, 60) := ⟨⟨by decide +kernel, by decide +kernel⟩, List.mem_of_getElem? (i := 1138) (by decide +kernel), List.mem_of_getElem? (i := 1456) (by decide +kernel), List.mem_of_getElem? (i := 1457) (by decide +kernel)⟩
theorem lw_p47 : lw_okq (⟨"LotNobodyWantsModel", "opens", "()Z"⟩, 60) := ⟨⟨by decide +kernel, by decide +kernel⟩, List.mem_of_getElem? (i := 1138) (by decide +kernel), List.mem_of_getElem? (i := 1460) (by decide +kernel), List.mem_of_getElem? (i := 1461) (by decide +kernel)⟩
def lw_privs_3 : List (MethodName × Nat) := [(⟨"LotNobodyWantsModel", "changes", "(III)I"⟩, 60), (⟨"LotNobodyWantsModel", "valueAt", "(II)I"⟩, 60), (⟨"LotNobodyWantsModel", "layNow", "()V"⟩, 60), (⟨"LotNobodyWantsModel", "manyOf", "(I)I"⟩, 60), (⟨"LotNobodyWantsModel", "realOf", "(I)I"⟩, 60), (⟨"LotNobodyWantsModel", "readText", "(I)I"⟩, 60), (⟨"LotNobodyWantsModel", "line", "()V"⟩, 60), (⟨"LotNobodyWantsModel", "either", "()V"⟩, 60), (⟨"LotNobodyWantsModel", "both", "()V"⟩, 60), (⟨"LotNobodyWantsModel", "compared", "()V"⟩, 60), (⟨"LotNobodyWantsModel", "sum", "()V"⟩, 60), (⟨"LotNobodyWantsModel", "product", "()V"⟩, 60), (⟨"LotNobodyWantsModel", "operand", "()V"⟩, 60), (⟨"LotNobodyWantsModel", "look", "()I"⟩, 60), (⟨"LotNobodyWantsModel", "addStep", "(II)V"⟩, 60), (⟨"LotNobodyWantsModel", "opens", "()Z"⟩, 60)]
theorem lw_r3 : ∀ q ∈ lw_privs_3, lw_okq q := List.forall_mem_cons.mpr ⟨lw_p32, List.forall_mem_cons.mpr ⟨lw_p33, List.forall_mem_cons.mpr ⟨lw_p34, List.forall_mem_cons.mpr ⟨lw_p35, List.forall_mem_cons.mpr ⟨lw_p36, List.forall_mem_cons.mpr ⟨lw_p37, List.forall_mem_cons.mpr ⟨lw_p38, List.forall_mem_cons.mpr ⟨lw_p39, List.forall_mem_cons.mpr ⟨lw_p40, List.forall_mem_cons.mpr ⟨lw_p41, List.forall_mem_cons.mpr ⟨lw_p42, List.forall_mem_cons.mpr ⟨lw_p43, List.forall_mem_cons.mpr ⟨lw_p44, List.forall_mem_cons.mpr ⟨lw_p45, List.forall_mem_cons.mpr ⟨lw_p46, List.forall_mem_cons.mpr ⟨lw_p47, fun _ h => absurd h List.not_mem_nil⟩⟩⟩⟩⟩⟩⟩⟩⟩⟩⟩⟩⟩⟩⟩⟩
theorem lw_p48 : lw_okq (⟨"LotNobodyWantsModel", "wrong", "()V"⟩, 60) := ⟨⟨by decide +kernel, by decide +kernel⟩, List.mem_of_getElem? (i := 1138) (by decide +kernel), List.mem_of_getElem? (i := 1464) (by decide +kernel), List.mem_of_getElem? (i := 1465) (by decide +kernel)⟩
theorem lw_p49 : lw_okq (⟨"LotNobodyWantsModel", "figure", "()V"⟩, 60) := ⟨⟨by decide +kernel, by decide +kernel⟩, List.mem_of_getElem? (i := 1138) (by decide +kernel), List.mem_of_getElem? (i := 1468) (by decide +kernel), List.mem_of_getElem? (i := 1469) (by decide +kernel)⟩
theorem lw_p50 : lw_okq (⟨"LotNobodyWantsModel", "areSlip", "(I)Z"⟩, 60) := ⟨⟨by decide +kernel, by decide +kernel⟩, List.mem_of_getElem? (i := 1138) (by decide +kernel), List.mem_of_getElem? (i := 1476) (by decide +kernel), List.mem_of_getElem? (i := 1477) (by decide +kernel)⟩
theorem lw_p51 : lw_okq (⟨"LotNobodyWantsModel", "oddsOf", "(II)I"⟩, 60) := ⟨⟨by decide +kernel, by decide +kernel⟩, List.mem_of_getElem? (i := 1138) (by decide +kernel), List.mem_of_getElem? (i := 1480) (by decide +kernel), List.mem_of_getElem? (i := 1481) (by decide +kernel)⟩
theorem lw_p52 : lw_okq (⟨"LotNobodyWantsModel", "maySlip", "(II)Z"⟩, 60) := ⟨⟨by decide +kernel, by decide +kernel⟩, List.mem_of_getElem? (i := 1138) (by decide +kernel), List.mem_of_getElem? (i := 1484) (by decide +kernel), List.mem_of_getElem? (i := 1485) (by decide +kernel)⟩
theorem lw_p53 : lw_okq (⟨"LotNobodyWantsModel", "gives", "(I)I"⟩, 60) := ⟨⟨by decide +kernel, by decide +kernel⟩, List.mem_of_getElem? (i := 1138) (by decide +kernel), List.mem_of_getElem? (i := 1488) (by decide +kernel), List.mem_of_getElem? (i := 1489) (by decide +kernel)⟩
theorem lw_p54 : lw_okq (⟨"LotNobodyWantsModel", "worked", "(III)I"⟩, 60) := ⟨⟨by decide +kernel, by decide +kernel⟩, List.mem_of_getElem? (i := 1138) (by decide +kernel), List.mem_of_getElem? (i := 1492) (by decide +kernel), List.mem_of_getElem? (i := 1493) (by decide +kernel)⟩
theorem lw_p55 : lw_okq (⟨"LotNobodyWantsModel", "rowFault", "(I)I"⟩, 60) := ⟨⟨by decide +kernel, by decide +kernel⟩, List.mem_of_getElem? (i := 1138) (by decide +kernel), List.mem_of_getElem? (i := 1506) (by decide +kernel), List.mem_of_getElem? (i := 1507) (by decide +kernel)⟩
theorem lw_p56 : lw_okq (⟨"LotNobodyWantsModel", "goEve", "(II)V"⟩, 60) := ⟨⟨by decide +kernel, by decide +kernel⟩, List.mem_of_getElem? (i := 1138) (by decide +kernel), List.mem_of_getElem? (i := 1510) (by decide +kernel), List.mem_of_getElem? (i := 1511) (by decide +kernel)⟩
theorem lw_p57 : lw_okq (⟨"LotNobodyWantsModel", "longOf", "(II)I"⟩, 60) := ⟨⟨by decide +kernel, by decide +kernel⟩, List.mem_of_getElem? (i := 1138) (by decide +kernel), List.mem_of_getElem? (i := 1514) (by decide +kernel), List.mem_of_getElem? (i := 1515) (by decide +kernel)⟩
theorem lw_p58 : lw_okq (⟨"LotNobodyWantsModel", "at", "(II)I"⟩, 60) := ⟨⟨by decide +kernel, by decide +kernel⟩, List.mem_of_getElem? (i := 1138) (by decide +kernel), List.mem_of_getElem? (i := 1518) (by decide +kernel), List.mem_of_getElem? (i := 1519) (by decide +kernel)⟩
theorem lw_p59 : lw_okq (⟨"LotNobodyWantsModel", "allReal", "()I"⟩, 60) := ⟨⟨by decide +kernel, by decide +kernel⟩, List.mem_of_getElem? (i := 1138) (by decide +kernel), List.mem_of_getElem? (i := 1543) (by decide +kernel), List.mem_of_getElem? (i := 1544) (by decide +kernel)⟩
theorem lw_p60 : lw_okq (⟨"LotNobodyWantsModel", "leftOf", "(III)J"⟩, 60) := ⟨⟨by decide +kernel, by decide +kernel⟩, List.mem_of_getElem? (i := 1138) (by decide +kernel), List.mem_of_getElem? (i := 1563) (by decide +kernel), List.mem_of_getElem? (i := 1564) (by decide +kernel)⟩
theorem lw_p61 : lw_okq (⟨"LotNobodyWantsModel", "leftBy", "(IIIJ)J"⟩, 60) := ⟨⟨by decide +kernel, by decide +kernel⟩, List.mem_of_getElem? (i := 1138) (by decide +kernel), List.mem_of_getElem? (i := 1567) (by decide +kernel), List.mem_of_getElem? (i := 1568) (by decide +kernel)⟩
theorem lw_p62 : lw_okq (⟨"LotNobodyWantsModel", "slipBy", "(IIIJII)J"⟩, 60) := ⟨⟨by decide +kernel, by decide +kernel⟩, List.mem_of_getElem? (i := 1138) (by decide +kernel), List.mem_of_getElem? (i := 1571) (by decide +kernel), List.mem_of_getElem? (i := 1572) (by decide +kernel)⟩
theorem lw_p63 : lw_okq (⟨"LotNobodyWantsModel", "onHour", "(I)I"⟩, 60) := ⟨⟨by decide +kernel, by decide +kernel⟩, List.mem_of_getElem? (i := 1138) (by decide +kernel), List.mem_of_getElem? (i := 1575) (by decide +kernel), List.mem_of_getElem? (i := 1576) (by decide +kernel)⟩
def lw_privs_4 : List (MethodName × Nat) := [(⟨"LotNobodyWantsModel", "wrong", "()V"⟩, 60), (⟨"LotNobodyWantsModel", "figure", "()V"⟩, 60), (⟨"LotNobodyWantsModel", "areSlip", "(I)Z"⟩, 60), (⟨"LotNobodyWantsModel", "oddsOf", "(II)I"⟩, 60), (⟨"LotNobodyWantsModel", "maySlip", "(II)Z"⟩, 60), (⟨"LotNobodyWantsModel", "gives", "(I)I"⟩, 60), (⟨"LotNobodyWantsModel", "worked", "(III)I"⟩, 60), (⟨"LotNobodyWantsModel", "rowFault", "(I)I"⟩, 60), (⟨"LotNobodyWantsModel", "goEve", "(II)V"⟩, 60), (⟨"LotNobodyWantsModel", "longOf", "(II)I"⟩, 60), (⟨"LotNobodyWantsModel", "at", "(II)I"⟩, 60), (⟨"LotNobodyWantsModel", "allReal", "()I"⟩, 60), (⟨"LotNobodyWantsModel", "leftOf", "(III)J"⟩, 60), (⟨"LotNobodyWantsModel", "leftBy", "(IIIJ)J"⟩, 60), (⟨"LotNobodyWantsModel", "slipBy", "(IIIJII)J"⟩, 60), (⟨"LotNobodyWantsModel", "onHour", "(I)I"⟩, 60)]
theorem lw_r4 : ∀ q ∈ lw_privs_4, lw_okq q := List.forall_mem_cons.mpr ⟨lw_p48, List.forall_mem_cons.mpr ⟨lw_p49, List.forall_mem_cons.mpr ⟨lw_p50, List.forall_mem_cons.mpr ⟨lw_p51, List.forall_mem_cons.mpr ⟨lw_p52, List.forall_mem_cons.mpr ⟨lw_p53, List.forall_mem_cons.mpr ⟨lw_p54, List.forall_mem_cons.mpr ⟨lw_p55, List.forall_mem_cons.mpr ⟨lw_p56, List.forall_mem_cons.mpr ⟨lw_p57, List.forall_mem_cons.mpr ⟨lw_p58, List.forall_mem_cons.mpr ⟨lw_p59, List.forall_mem_cons.mpr ⟨lw_p60, List.forall_mem_cons.mpr ⟨lw_p61, List.forall_mem_cons.mpr ⟨lw_p62, List.forall_mem_cons.mpr ⟨lw_p63, fun _ h => absurd h List.not_mem_nil⟩⟩⟩⟩⟩⟩⟩⟩⟩⟩⟩⟩⟩⟩⟩⟩
theorem lw_p64 : lw_okq (⟨"LotNobodyWantsModel", "goBehind", "(IIJ)V"⟩, 60) := ⟨⟨by decide +kernel, by decide +kernel⟩, List.mem_of_getElem? (i := 1138) (by decide +kernel), List.mem_of_getElem? (i := 1606) (by decide +kernel), List.mem_of_getElem? (i := 1607) (by decide +kernel)⟩
theorem lw_p65 : lw_okq (⟨"LotNobodyWantsModel", "isAsTold", "()Z"⟩, 60) := ⟨⟨by decide +kernel, by decide +kernel⟩, List.mem_of_getElem? (i := 1138) (by decide +kernel), List.mem_of_getElem? (i := 1610) (by decide +kernel), List.mem_of_getElem? (i := 1611) (by decide +kernel)⟩
theorem lw_p66 : lw_okq (⟨"LotNobodyWantsModel", "meetWay", "(IJ)V"⟩, 60) := ⟨⟨by decide +kernel, by decide +kernel⟩, List.mem_of_getElem? (i := 1138) (by decide +kernel), List.mem_of_getElem? (i := 1614) (by decide +kernel), List.mem_of_getElem? (i := 1615) (by decide +kernel)⟩
theorem lw_p67 : lw_okq (⟨"LotNobodyWantsModel", "realAt", "(I)I"⟩, 60) := ⟨⟨by decide +kernel, by decide +kernel⟩, List.mem_of_getElem? (i := 1138) (by decide +kernel), List.mem_of_getElem? (i := 1623) (by decide +kernel), List.mem_of_getElem? (i := 1624) (by decide +kernel)⟩
theorem lw_p68 : lw_okq (⟨"LotNobodyWantsModel", "isBody", "(I)Z"⟩, 60) := ⟨⟨by decide +kernel, by decide +kernel⟩, List.mem_of_getElem? (i := 1138) (by decide +kernel), List.mem_of_getElem? (i := 1663) (by decide +kernel), List.mem_of_getElem? (i := 1664) (by decide +kernel)⟩
theorem lw_p69 : lw_okq (⟨"LotNobodyWantsModel", "slipping", "(II)I"⟩, 60) := ⟨⟨by decide +kernel, by decide +kernel⟩, List.mem_of_getElem? (i := 1138) (by decide +kernel), List.mem_of_getElem? (i := 1667) (by decide +kernel), List.mem_of_getElem? (i := 1668) (by decide +kernel)⟩
theorem lw_p70 : lw_okq (⟨"LotNobodyWantsModel", "ran", "(I)V"⟩, 60) := ⟨⟨by decide +kernel, by decide +kernel⟩, List.mem_of_getElem? (i := 1138) (by decide +kernel), List.mem_of_getElem? (i := 1674) (by decide +kernel), List.mem_of_getElem? (i := 1675) (by decide +kernel)⟩
theorem lw_p71 : lw_okq (⟨"LotNobodyWantsModel", "plainSlips", "(II)I"⟩, 60) := ⟨⟨by decide +kernel, by decide +kernel⟩, List.mem_of_getElem? (i := 1138) (by decide +kernel), List.mem_of_getElem? (i := 1678) (by decide +kernel), List.mem_of_getElem? (i := 1679) (by decide +kernel)⟩
theorem lw_p72 : lw_okq (⟨"LotNobodyWantsModel", "wiseSlips", "(II)I"⟩, 60) := ⟨⟨by decide +kernel, by decide +kernel⟩, List.mem_of_getElem? (i := 1138) (by decide +kernel), List.mem_of_getElem? (i := 1682) (by decide +kernel), List.mem_of_getElem? (i := 1683) (by decide +kernel)⟩
theorem lw_p73 : lw_okq (⟨"LotNobodyWantsModel", "folding", "(II)I"⟩, 60) := ⟨⟨by decide +kernel, by decide +kernel⟩, List.mem_of_getElem? (i := 1138) (by decide +kernel), List.mem_of_getElem? (i := 1686) (by decide +kernel), List.mem_of_getElem? (i := 1687) (by decide +kernel)⟩
theorem lw_p74 : lw_okq (⟨"LotNobodyWantsModel", "brideFolds", "(II)I"⟩, 60) := ⟨⟨by decide +kernel, by decide +kernel⟩, List.mem_of_getElem? (i := 1138) (by decide +kernel), List.mem_of_getElem? (i := 1690) (by decide +kernel), List.mem_of_getElem? (i := 1691) (by decide +kernel)⟩
theorem lw_p75 : lw_okq (⟨"LotNobodyWantsModel", "plainFolds", "(II)I"⟩, 60) := ⟨⟨by decide +kernel, by decide +kernel⟩, List.mem_of_getElem? (i := 1138) (by decide +kernel), List.mem_of_getElem? (i := 1694) (by decide +kernel), List.mem_of_getElem? (i := 1695) (by decide +kernel)⟩
theorem lw_p76 : lw_okq (⟨"LotNobodyWantsModel", "proving", "(II)I"⟩, 60) := ⟨⟨by decide +kernel, by decide +kernel⟩, List.mem_of_getElem? (i := 1138) (by decide +kernel), List.mem_of_getElem? (i := 1698) (by decide +kernel), List.mem_of_getElem? (i := 1699) (by decide +kernel)⟩
theorem lw_p77 : lw_okq (⟨"LotNobodyWantsModel", "childProves", "(II)I"⟩, 60) := ⟨⟨by decide +kernel, by decide +kernel⟩, List.mem_of_getElem? (i := 1138) (by decide +kernel), List.mem_of_getElem? (i := 1702) (by decide +kernel), List.mem_of_getElem? (i := 1703) (by decide +kernel)⟩
theorem lw_p78 : lw_okq (⟨"LotNobodyWantsModel", "plainProves", "(II)I"⟩, 60) := ⟨⟨by decide +kernel, by decide +kernel⟩, List.mem_of_getElem? (i := 1138) (by decide +kernel), List.mem_of_getElem? (i := 1706) (by decide +kernel), List.mem_of_getElem? (i := 1707) (by decide +kernel)⟩
theorem lw_p79 : lw_okq (⟨"LotNobodyWantsModel", "telling", "(II)I"⟩, 60) := ⟨⟨by decide +kernel, by decide +kernel⟩, List.mem_of_getElem? (i := 1138) (by decide +kernel), List.mem_of_getElem? (i := 1710) (by decide +kernel), List.mem_of_getElem? (i := 1711) (by decide +kernel)⟩
def lw_privs_5 : List (MethodName × Nat) := [(⟨"LotNobodyWantsModel", "goBehind", "(IIJ)V"⟩, 60), (⟨"LotNobodyWantsModel", "isAsTold", "()Z"⟩, 60), (⟨"LotNobodyWantsModel", "meetWay", "(IJ)V"⟩, 60), (⟨"LotNobodyWantsModel", "realAt", "(I)I"⟩, 60), (⟨"LotNobodyWantsModel", "isBody", "(I)Z"⟩, 60), (⟨"LotNobodyWantsModel", "slipping", "(II)I"⟩, 60), (⟨"LotNobodyWantsModel", "ran", "(I)V"⟩, 60), (⟨"LotNobodyWantsModel", "plainSlips", "(II)I"⟩, 60), (⟨"LotNobodyWantsModel", "wiseSlips", "(II)I"⟩, 60), (⟨"LotNobodyWantsModel", "folding", "(II)I"⟩, 60), (⟨"LotNobodyWantsModel", "brideFolds", "(II)I"⟩, 60), (⟨"LotNobodyWantsModel", "plainFolds", "(II)I"⟩, 60), (⟨"LotNobodyWantsModel", "proving", "(II)I"⟩, 60), (⟨"LotNobodyWantsModel", "childProves", "(II)I"⟩, 60), (⟨"LotNobodyWantsModel", "plainProves", "(II)I"⟩, 60), (⟨"LotNobodyWantsModel", "telling", "(II)I"⟩, 60)]
theorem lw_r5 : ∀ q ∈ lw_privs_5, lw_okq q := List.forall_mem_cons.mpr ⟨lw_p64, List.forall_mem_cons.mpr ⟨lw_p65, List.forall_mem_cons.mpr ⟨lw_p66, List.forall_mem_cons.mpr ⟨lw_p67, List.forall_mem_cons.mpr ⟨lw_p68, List.forall_mem_cons.mpr ⟨lw_p69, List.forall_mem_cons.mpr ⟨lw_p70, List.forall_mem_cons.mpr ⟨lw_p71, List.forall_mem_cons.mpr ⟨lw_p72, List.forall_mem_cons.mpr ⟨lw_p73, List.forall_mem_cons.mpr ⟨lw_p74, List.forall_mem_cons.mpr ⟨lw_p75, List.forall_mem_cons.mpr ⟨lw_p76, List.forall_mem_cons.mpr ⟨lw_p77, List.forall_mem_cons.mpr ⟨lw_p78, List.forall_mem_cons.mpr ⟨lw_p79, fun _ h => absurd h List.not_mem_nil⟩⟩⟩⟩⟩⟩⟩⟩⟩⟩⟩⟩⟩⟩⟩⟩
theorem lw_p80 : lw_okq (⟨"LotNobodyWantsModel", "plainTells", "(II)I"⟩, 60) := ⟨⟨by decide +kernel, by decide +kernel⟩, List.mem_of_getElem? (i := 1138) (by decide +kernel), List.mem_of_getElem? (i := 1714) (by decide +kernel), List.mem_of_getElem? (i := 1715) (by decide +kernel)⟩
theorem lw_p81 : lw_okq (⟨"LotNobodyWantsModel", "whyNoPlace", "(II)I"⟩, 60) := ⟨⟨by decide +kernel, by decide +kernel⟩, List.mem_of_getElem? (i := 1138) (by decide +kernel), List.mem_of_getElem? (i := 1734) (by decide +kernel), List.mem_of_getElem? (i := 1735) (by decide +kernel)⟩
def lw_privs_6 : List (MethodName × Nat) := [(⟨"LotNobodyWantsModel", "plainTells", "(II)I"⟩, 60), (⟨"LotNobodyWantsModel", "whyNoPlace", "(II)I"⟩, 60)]
theorem lw_r6 : ∀ q ∈ lw_privs_6, lw_okq q := List.forall_mem_cons.mpr ⟨lw_p80, List.forall_mem_cons.mpr ⟨lw_p81, fun _ h => absurd h List.not_mem_nil⟩⟩
def lw_privs : List (MethodName × Nat) := lw_privs_1 ++ (lw_privs_2 ++ (lw_privs_3 ++ (lw_privs_4 ++ (lw_privs_5 ++ (lw_privs_6)))))
def lw_tbl : List Cond := k2_sels lw_privs ++ tables_1
theorem lw_privs_ok : ∀ q ∈ lw_privs, lw_okq q := by
  show ∀ q ∈ lw_privs_1 ++ (lw_privs_2 ++ (lw_privs_3 ++ (lw_privs_4 ++ (lw_privs_5 ++ (lw_privs_6))))), lw_okq q
  exact List.forall_mem_append.mpr ⟨lw_r1, List.forall_mem_append.mpr ⟨lw_r2, List.forall_mem_append.mpr ⟨lw_r3, List.forall_mem_append.mpr ⟨lw_r4, List.forall_mem_append.mpr ⟨lw_r5, lw_r6⟩⟩⟩⟩⟩
-- ===== end of PART A; then your names; then what follows =====
end
section
/-! names, fields and decode rows, by program out of the printed NAMES of this claim -/
def RX0 : String := "LotNobodyWants$Changes"
def TX0 : u_T := fun k => match k with
  | 0 => ("LotNobodyWants$Changes", "year", "LLotNobodyWants$Year;", true)
  | 1 => ("LotNobodyWants$Changes", "what", "[I", true)
  | 2 => ("LotNobodyWants$Changes", "number", "[I", true)
  | 3 => ("LotNobodyWants$Changes", "before", "[I", true)
  | 4 => ("LotNobodyWants$Changes", "after", "[I", true)
  | 5 => ("LotNobodyWants$Changes", "done", "I", false)
  | _ => ("LotNobodyWants$Changes", "undone", "I", false)
def tyX0 : Nat → FieldType := fun k => match k with
  | 0 => .object "LotNobodyWants$Year"
  | 1 => .array .int
  | 2 => .array .int
  | 3 => .array .int
  | 4 => .array .int
  | 5 => .int
  | _ => .int
theorem nmX0 : ∀ a, a < 7 → ∀ b, b < 7 → a ≠ b → (TX0 a).2.1 ≠ (TX0 b).2.1 := by decide +kernel
theorem tyX0_ok : ∀ k, k < 7 → parseFieldDescriptor (TX0 k).2.2.1 = some (tyX0 k) := by decide +kernel
def RX1 : String := "LotNobodyWants$Deeds"
def TX1 : u_T := fun k => match k with
  | 0 => ("LotNobodyWants$Deeds", "year", "LLotNobodyWants$Year;", true)
  | 1 => ("LotNobodyWants$Deeds", "notes", "[I", true)
  | 2 => ("LotNobodyWants$Deeds", "keptNotes", "[I", true)
  | 3 => ("LotNobodyWants$Deeds", "keptHolders", "[I", true)
  | 4 => ("LotNobodyWants$Deeds", "keptFolds", "[I", true)
  | 5 => ("LotNobodyWants$Deeds", "keptTickets", "I", false)
  | 6 => ("LotNobodyWants$Deeds", "keptHour", "I", false)
  | _ => ("LotNobodyWants$Deeds", "hasImage", "Z", false)
def tyX1 : Nat → FieldType := fun k => match k with
  | 0 => .object "LotNobodyWants$Year"
  | 1 => .array .int
  | 2 => .array .int
  | 3 => .array .int
  | 4 => .array .int
  | 5 => .int
  | 6 => .int
  | _ => .boolean
theorem nmX1 : ∀ a, a < 8 → ∀ b, b < 8 → a ≠ b → (TX1 a).2.1 ≠ (TX1 b).2.1 := by decide +kernel
theorem tyX1_ok : ∀ k, k < 8 → parseFieldDescriptor (TX1 k).2.2.1 = some (tyX1 k) := by decide +kernel
def RX2 : String := "LotNobodyWants$Eve"
def TX2 : u_T := fun k => match k with
  | 0 => ("LotNobodyWants$Eve", "year", "LLotNobodyWants$Year;", true)
  | 1 => ("LotNobodyWants$Eve", "thought", "LLotNobodyWants$Thought;", true)
  | 2 => ("LotNobodyWants$Eve", "slippings", "[I", true)
  | 3 => ("LotNobodyWants$Eve", "size", "I", false)
  | 4 => ("LotNobodyWants$Eve", "wells", "I", false)
  | 5 => ("LotNobodyWants$Eve", "leftOut", "I", false)
  | 6 => ("LotNobodyWants$Eve", "above", "J", false)
  | _ => ("LotNobodyWants$Eve", "below", "J", false)
def tyX2 : Nat → FieldType := fun k => match k with
  | 0 => .object "LotNobodyWants$Year"
  | 1 => .object "LotNobodyWants$Thought"
  | 2 => .array .int
  | 3 => .int
  | 4 => .int
  | 5 => .int
  | 6 => .long
  | _ => .long
theorem nmX2 : ∀ a, a < 8 → ∀ b, b < 8 → a ≠ b → (TX2 a).2.1 ≠ (TX2 b).2.1 := by decide +kernel
theorem tyX2_ok : ∀ k, k < 8 → parseFieldDescriptor (TX2 k).2.2.1 = some (tyX2 k) := by decide +kernel
def RX3 : String := "LotNobodyWants$Hats"
def TX3 : u_T := fun k => match k with
  | 0 => ("LotNobodyWants$Hats", "kinds", "[I", true)
  | 1 => ("LotNobodyWants$Hats", "trace", "[I", true)
  | 2 => ("LotNobodyWants$Hats", "bodies", "I", false)
  | 3 => ("LotNobodyWants$Hats", "ran", "I", false)
  | _ => ("LotNobodyWants$Hats", "number", "I", false)
def tyX3 : Nat → FieldType := fun k => match k with
  | 0 => .array .int
  | 1 => .array .int
  | 2 => .int
  | 3 => .int
  | _ => .int
theorem nmX3 : ∀ a, a < 5 → ∀ b, b < 5 → a ≠ b → (TX3 a).2.1 ≠ (TX3 b).2.1 := by decide +kernel
theorem tyX3_ok : ∀ k, k < 5 → parseFieldDescriptor (TX3 k).2.2.1 = some (tyX3 k) := by decide +kernel
def RX4 : String := "LotNobodyWants$Law"
def TX4 : u_T := fun k => match k with
  | 0 => ("LotNobodyWants$Law", "steps", "[I", true)
  | 1 => ("LotNobodyWants$Law", "with", "[I", true)
  | 2 => ("LotNobodyWants$Law", "stack", "[I", true)
  | 3 => ("LotNobodyWants$Law", "names", "[I", true)
  | 4 => ("LotNobodyWants$Law", "size", "I", false)
  | _ => ("LotNobodyWants$Law", "top", "I", false)
def tyX4 : Nat → FieldType := fun k => match k with
  | 0 => .array .int
  | 1 => .array .int
  | 2 => .array .int
  | 3 => .array .int
  | 4 => .int
  | _ => .int
theorem nmX4 : ∀ a, a < 6 → ∀ b, b < 6 → a ≠ b → (TX4 a).2.1 ≠ (TX4 b).2.1 := by decide +kernel
theorem tyX4_ok : ∀ k, k < 6 → parseFieldDescriptor (TX4 k).2.2.1 = some (tyX4 k) := by decide +kernel
def RX5 : String := "LotNobodyWants$Reader"
def TX5 : u_T := fun k => match k with
  | 0 => ("LotNobodyWants$Reader", "tape", "[I", true)
  | 1 => ("LotNobodyWants$Reader", "draft", "LLotNobodyWants$Law;", true)
  | 2 => ("LotNobodyWants$Reader", "length", "I", false)
  | _ => ("LotNobodyWants$Reader", "at", "I", false)
def tyX5 : Nat → FieldType := fun k => match k with
  | 0 => .array .int
  | 1 => .object "LotNobodyWants$Law"
  | 2 => .int
  | _ => .int
theorem nmX5 : ∀ a, a < 4 → ∀ b, b < 4 → a ≠ b → (TX5 a).2.1 ≠ (TX5 b).2.1 := by decide +kernel
theorem tyX5_ok : ∀ k, k < 4 → parseFieldDescriptor (TX5 k).2.2.1 = some (tyX5 k) := by decide +kernel
def RX6 : String := "LotNobodyWants$Rid"
def TX6 : u_T := fun k => match k with
  | 0 => ("LotNobodyWants$Rid", "year", "LLotNobodyWants$Year;", true)
  | 1 => ("LotNobodyWants$Rid", "thought", "LLotNobodyWants$Thought;", true)
  | 2 => ("LotNobodyWants$Rid", "left", "[I", true)
  | 3 => ("LotNobodyWants$Rid", "least", "[I", true)
  | 4 => ("LotNobodyWants$Rid", "gained", "[I", true)
  | 5 => ("LotNobodyWants$Rid", "odds", "[I", true)
  | 6 => ("LotNobodyWants$Rid", "one", "I", false)
  | 7 => ("LotNobodyWants$Rid", "hours", "I", false)
  | 8 => ("LotNobodyWants$Rid", "reals", "I", false)
  | _ => ("LotNobodyWants$Rid", "freeNow", "I", false)
def tyX6 : Nat → FieldType := fun k => match k with
  | 0 => .object "LotNobodyWants$Year"
  | 1 => .object "LotNobodyWants$Thought"
  | 2 => .array .int
  | 3 => .array .int
  | 4 => .array .int
  | 5 => .array .int
  | 6 => .int
  | 7 => .int
  | 8 => .int
  | _ => .int
theorem nmX6 : ∀ a, a < 10 → ∀ b, b < 10 → a ≠ b → (TX6 a).2.1 ≠ (TX6 b).2.1 := by decide +kernel
theorem tyX6_ok : ∀ k, k < 10 → parseFieldDescriptor (TX6 k).2.2.1 = some (tyX6 k) := by decide +kernel
def RX7 : String := "LotNobodyWants$Shelves"
def TX7 : u_T := fun k => match k with
  | 0 => ("LotNobodyWants$Shelves", "sorts", "[I", true)
  | 1 => ("LotNobodyWants$Shelves", "sizes", "[I", true)
  | 2 => ("LotNobodyWants$Shelves", "bodies", "[I", true)
  | _ => ("LotNobodyWants$Shelves", "elements", "[[J", true)
def tyX7 : Nat → FieldType := fun k => match k with
  | 0 => .array .int
  | 1 => .array .int
  | 2 => .array .int
  | _ => .array (.array .long)
theorem nmX7 : ∀ a, a < 4 → ∀ b, b < 4 → a ≠ b → (TX7 a).2.1 ≠ (TX7 b).2.1 := by decide +kernel
theorem tyX7_ok : ∀ k, k < 4 → parseFieldDescriptor (TX7 k).2.2.1 = some (tyX7 k) := by decide +kernel
def RX8 : String := "LotNobodyWants$Thought"
def TX8 : u_T := fun k => match k with
  | 0 => ("LotNobodyWants$Thought", "year", "LLotNobodyWants$Year;", true)
  | 1 => ("LotNobodyWants$Thought", "rule", "LLotNobodyWants$Law;", true)
  | _ => ("LotNobodyWants$Thought", "held", "[I", true)
def tyX8 : Nat → FieldType := fun k => match k with
  | 0 => .object "LotNobodyWants$Year"
  | 1 => .object "LotNobodyWants$Law"
  | _ => .array .int
theorem nmX8 : ∀ a, a < 3 → ∀ b, b < 3 → a ≠ b → (TX8 a).2.1 ≠ (TX8 b).2.1 := by decide +kernel
theorem tyX8_ok : ∀ k, k < 3 → parseFieldDescriptor (TX8 k).2.2.1 = some (tyX8 k) := by decide +kernel
def RX9 : String := "LotNobodyWants$Ways"
def TX9 : u_T := fun k => match k with
  | 0 => ("LotNobodyWants$Ways", "year", "LLotNobodyWants$Year;", true)
  | 1 => ("LotNobodyWants$Ways", "thought", "LLotNobodyWants$Thought;", true)
  | 2 => ("LotNobodyWants$Ways", "evening", "LLotNobodyWants$Eve;", true)
  | 3 => ("LotNobodyWants$Ways", "told", "[I", true)
  | 4 => ("LotNobodyWants$Ways", "known", "[I", true)
  | 5 => ("LotNobodyWants$Ways", "weighs", "Z", false)
  | 6 => ("LotNobodyWants$Ways", "howMany", "I", false)
  | 7 => ("LotNobodyWants$Ways", "fewest", "I", false)
  | 8 => ("LotNobodyWants$Ways", "fewestBits", "I", false)
  | 9 => ("LotNobodyWants$Ways", "certain", "I", false)
  | 10 => ("LotNobodyWants$Ways", "mostWeight", "J", false)
  | _ => ("LotNobodyWants$Ways", "likeliestBits", "I", false)
def tyX9 : Nat → FieldType := fun k => match k with
  | 0 => .object "LotNobodyWants$Year"
  | 1 => .object "LotNobodyWants$Thought"
  | 2 => .object "LotNobodyWants$Eve"
  | 3 => .array .int
  | 4 => .array .int
  | 5 => .boolean
  | 6 => .int
  | 7 => .int
  | 8 => .int
  | 9 => .int
  | 10 => .long
  | _ => .int
theorem nmX9 : ∀ a, a < 12 → ∀ b, b < 12 → a ≠ b → (TX9 a).2.1 ≠ (TX9 b).2.1 := by decide +kernel
theorem tyX9_ok : ∀ k, k < 12 → parseFieldDescriptor (TX9 k).2.2.1 = some (tyX9 k) := by decide +kernel
def RX10 : String := "LotNobodyWants$Year"
def TX10 : u_T := fun k => match k with
  | 0 => ("LotNobodyWants$Year", "numbers", "[[I", true)
  | 1 => ("LotNobodyWants$Year", "people", "I", false)
  | _ => ("LotNobodyWants$Year", "tickets", "I", false)
def tyX10 : Nat → FieldType := fun k => match k with
  | 0 => .array (.array .int)
  | 1 => .int
  | _ => .int
theorem nmX10 : ∀ a, a < 3 → ∀ b, b < 3 → a ≠ b → (TX10 a).2.1 ≠ (TX10 b).2.1 := by decide +kernel
theorem tyX10_ok : ∀ k, k < 3 → parseFieldDescriptor (TX10 k).2.2.1 = some (tyX10 k) := by decide +kernel
def RX11 : String := "LotNobodyWants"
def TX11 : u_T := fun k => match k with
  | 0 => ("LotNobodyWants", "year", "LLotNobodyWants$Year;", true)
  | 1 => ("LotNobodyWants", "rule", "LLotNobodyWants$Law;", true)
  | 2 => ("LotNobodyWants", "reader", "LLotNobodyWants$Reader;", true)
  | 3 => ("LotNobodyWants", "thought", "LLotNobodyWants$Thought;", true)
  | 4 => ("LotNobodyWants", "shelves", "LLotNobodyWants$Shelves;", true)
  | 5 => ("LotNobodyWants", "evening", "LLotNobodyWants$Eve;", true)
  | 6 => ("LotNobodyWants", "ways", "LLotNobodyWants$Ways;", true)
  | 7 => ("LotNobodyWants", "ridding", "LLotNobodyWants$Rid;", true)
  | 8 => ("LotNobodyWants", "deeds", "LLotNobodyWants$Deeds;", true)
  | 9 => ("LotNobodyWants", "changes", "LLotNobodyWants$Changes;", true)
  | _ => ("LotNobodyWants", "hats", "LLotNobodyWants$Hats;", true)
def tyX11 : Nat → FieldType := fun k => match k with
  | 0 => .object "LotNobodyWants$Year"
  | 1 => .object "LotNobodyWants$Law"
  | 2 => .object "LotNobodyWants$Reader"
  | 3 => .object "LotNobodyWants$Thought"
  | 4 => .object "LotNobodyWants$Shelves"
  | 5 => .object "LotNobodyWants$Eve"
  | 6 => .object "LotNobodyWants$Ways"
  | 7 => .object "LotNobodyWants$Rid"
  | 8 => .object "LotNobodyWants$Deeds"
  | 9 => .object "LotNobodyWants$Changes"
  | _ => .object "LotNobodyWants$Hats"
theorem nmX11 : ∀ a, a < 11 → ∀ b, b < 11 → a ≠ b → (TX11 a).2.1 ≠ (TX11 b).2.1 := by decide +kernel
theorem tyX11_ok : ∀ k, k < 11 → parseFieldDescriptor (TX11 k).2.2.1 = some (tyX11 k) := by decide +kernel
def RX12 : String := "LotNobodyWantsModel"
def TX12 : u_T := fun k => match k with
  | 0 => ("LotNobodyWantsModel", "code", "I", false)
  | 1 => ("LotNobodyWantsModel", "people", "I", false)
  | 2 => ("LotNobodyWantsModel", "wary", "[I", true)
  | 3 => ("LotNobodyWantsModel", "child", "[I", true)
  | 4 => ("LotNobodyWantsModel", "price", "[I", true)
  | 5 => ("LotNobodyWantsModel", "takes1", "[I", true)
  | 6 => ("LotNobodyWantsModel", "tickets1", "I", false)
  | 7 => ("LotNobodyWantsModel", "holder", "[I", true)
  | 8 => ("LotNobodyWantsModel", "forged", "[I", true)
  | 9 => ("LotNobodyWantsModel", "folds", "[I", true)
  | 10 => ("LotNobodyWantsModel", "told", "[I", true)
  | 11 => ("LotNobodyWantsModel", "doneMany", "I", false)
  | 12 => ("LotNobodyWantsModel", "undoneMany", "I", false)
  | 13 => ("LotNobodyWantsModel", "changeOf", "[I", true)
  | 14 => ("LotNobodyWantsModel", "changeAt", "[I", true)
  | 15 => ("LotNobodyWantsModel", "before", "[I", true)
  | 16 => ("LotNobodyWantsModel", "behind", "[I", true)
  | 17 => ("LotNobodyWantsModel", "tape", "[B", true)
  | 18 => ("LotNobodyWantsModel", "taped", "I", false)
  | 19 => ("LotNobodyWantsModel", "here", "I", false)
  | 20 => ("LotNobodyWantsModel", "fault", "I", false)
  | 21 => ("LotNobodyWantsModel", "open", "I", false)
  | 22 => ("LotNobodyWantsModel", "laid", "I", false)
  | 23 => ("LotNobodyWantsModel", "act", "[B", true)
  | 24 => ("LotNobodyWantsModel", "with", "[I", true)
  | 25 => ("LotNobodyWantsModel", "lineMany", "[I", true)
  | 26 => ("LotNobodyWantsModel", "testEnd", "[S", true)
  | 27 => ("LotNobodyWantsModel", "lineEnd", "[S", true)
  | 28 => ("LotNobodyWantsModel", "facts", "[I", true)
  | 29 => ("LotNobodyWantsModel", "pile", "[I", true)
  | 30 => ("LotNobodyWantsModel", "hasLaw", "Z", false)
  | 31 => ("LotNobodyWantsModel", "holder1", "[I", true)
  | 32 => ("LotNobodyWantsModel", "hour1", "I", false)
  | 33 => ("LotNobodyWantsModel", "well1", "I", false)
  | 34 => ("LotNobodyWantsModel", "left1", "I", false)
  | 35 => ("LotNobodyWantsModel", "left2", "[I", true)
  | 36 => ("LotNobodyWantsModel", "eveShelf", "I", false)
  | 37 => ("LotNobodyWantsModel", "toldShelf", "I", false)
  | 38 => ("LotNobodyWantsModel", "slips1", "I", false)
  | 39 => ("LotNobodyWantsModel", "waysMany", "I", false)
  | 40 => ("LotNobodyWantsModel", "fewest1", "I", false)
  | 41 => ("LotNobodyWantsModel", "fewestBits", "I", false)
  | 42 => ("LotNobodyWantsModel", "certain1", "I", false)
  | 43 => ("LotNobodyWantsModel", "mostOdds", "J", false)
  | 44 => ("LotNobodyWantsModel", "mostBits", "I", false)
  | 45 => ("LotNobodyWantsModel", "ledOf", "[I", true)
  | 46 => ("LotNobodyWantsModel", "hasImage", "Z", false)
  | 47 => ("LotNobodyWantsModel", "keptMany", "I", false)
  | 48 => ("LotNobodyWantsModel", "keptHour", "I", false)
  | 49 => ("LotNobodyWantsModel", "keptHolder", "[I", true)
  | 50 => ("LotNobodyWantsModel", "keptFolds", "[I", true)
  | 51 => ("LotNobodyWantsModel", "keptLed", "[I", true)
  | 52 => ("LotNobodyWantsModel", "bodies", "I", false)
  | 53 => ("LotNobodyWantsModel", "kind", "[I", true)
  | 54 => ("LotNobodyWantsModel", "traces", "I", false)
  | 55 => ("LotNobodyWantsModel", "traced", "[I", true)
  | 56 => ("LotNobodyWantsModel", "holds", "[I", true)
  | 57 => ("LotNobodyWantsModel", "size", "[I", true)
  | 58 => ("LotNobodyWantsModel", "elements", "[J", true)
  | _ => ("LotNobodyWantsModel", "shifted", "[J", true)
def tyX12 : Nat → FieldType := fun k => match k with
  | 0 => .int
  | 1 => .int
  | 2 => .array .int
  | 3 => .array .int
  | 4 => .array .int
  | 5 => .array .int
  | 6 => .int
  | 7 => .array .int
  | 8 => .array .int
  | 9 => .array .int
  | 10 => .array .int
  | 11 => .int
  | 12 => .int
  | 13 => .array .int
  | 14 => .array .int
  | 15 => .array .int
  | 16 => .array .int
  | 17 => .array .byte
  | 18 => .int
  | 19 => .int
  | 20 => .int
  | 21 => .int
  | 22 => .int
  | 23 => .array .byte
  | 24 => .array .int
  | 25 => .array .int
  | 26 => .array .short
  | 27 => .array .short
  | 28 => .array .int
  | 29 => .array .int
  | 30 => .boolean
  | 31 => .array .int
  | 32 => .int
  | 33 => .int
  | 34 => .int
  | 35 => .array .int
  | 36 => .int
  | 37 => .int
  | 38 => .int
  | 39 => .int
  | 40 => .int
  | 41 => .int
  | 42 => .int
  | 43 => .long
  | 44 => .int
  | 45 => .array .int
  | 46 => .boolean
  | 47 => .int
  | 48 => .int
  | 49 => .array .int
  | 50 => .array .int
  | 51 => .array .int
  | 52 => .int
  | 53 => .array .int
  | 54 => .int
  | 55 => .array .int
  | 56 => .array .int
  | 57 => .array .int
  | 58 => .array .long
  | _ => .array .long
theorem nmX12 : ∀ a, a < 60 → ∀ b, b < 60 → a ≠ b → (TX12 a).2.1 ≠ (TX12 b).2.1 := by decide +kernel
theorem tyX12_ok : ∀ k, k < 60 → parseFieldDescriptor (TX12 k).2.2.1 = some (tyX12 k) := by decide +kernel
def RJ6 : String := "java/lang/Integer"
def RJ9 : String := "java/lang/Math"
def RJ10 : String := "java/lang/System"
def RL : String := "LotNobodyWantsLaw"
abbrev cX0_init : ByteArray := prog_2_method_1_code
def yX0_init : MethodName := ⟨RX0, "<init>", "(LLotNobodyWants$Year;)V"⟩
abbrev cX0_done : ByteArray := prog_2_method_2_code
def yX0_done : MethodName := ⟨RX0, "done", "()I"⟩
abbrev cX0_undone : ByteArray := prog_2_method_3_code
def yX0_undone : MethodName := ⟨RX0, "undone", "()I"⟩
abbrev cX0_add : ByteArray := prog_2_method_4_code
def yX0_add : MethodName := ⟨RX0, "add", "(IIII)V"⟩
abbrev cX0_forgetOldest : ByteArray := prog_2_method_5_code
def yX0_forgetOldest : MethodName := ⟨RX0, "forgetOldest", "()V"⟩
abbrev cX0_undoLatest : ByteArray := prog_2_method_6_code
def yX0_undoLatest : MethodName := ⟨RX0, "undoLatest", "()V"⟩
abbrev cX0_redoNext : ByteArray := prog_2_method_7_code
def yX0_redoNext : MethodName := ⟨RX0, "redoNext", "()V"⟩
abbrev cX1_init : ByteArray := prog_3_method_1_code
def yX1_init : MethodName := ⟨RX1, "<init>", "(LLotNobodyWants$Year;)V"⟩
abbrev cX1_note : ByteArray := prog_3_method_2_code
def yX1_note : MethodName := ⟨RX1, "note", "(I)V"⟩
abbrev cX1_noted : ByteArray := prog_3_method_3_code
def yX1_noted : MethodName := ⟨RX1, "noted", "(I)I"⟩
abbrev cX1_hasImage : ByteArray := prog_3_method_4_code
def yX1_hasImage : MethodName := ⟨RX1, "hasImage", "()Z"⟩
abbrev cX1_keepImage : ByteArray := prog_3_method_5_code
def yX1_keepImage : MethodName := ⟨RX1, "keepImage", "()V"⟩
abbrev cX1_layBack : ByteArray := prog_3_method_6_code
def yX1_layBack : MethodName := ⟨RX1, "layBack", "()V"⟩
abbrev cX2_init : ByteArray := prog_4_method_1_code
def yX2_init : MethodName := ⟨RX2, "<init>", "(LLotNobodyWants$Year;LLotNobodyWants$Thought;)V"⟩
abbrev cX2_begin : ByteArray := prog_4_method_2_code
def yX2_begin : MethodName := ⟨RX2, "begin", "(LLotNobodyWants$Shelves;I)V"⟩
abbrev cX2_size : ByteArray := prog_4_method_3_code
def yX2_size : MethodName := ⟨RX2, "size", "()I"⟩
abbrev cX2_ticketAt : ByteArray := prog_4_method_4_code
def yX2_ticketAt : MethodName := ⟨RX2, "ticketAt", "(I)I"⟩
abbrev cX2_toAt : ByteArray := prog_4_method_5_code
def yX2_toAt : MethodName := ⟨RX2, "toAt", "(I)I"⟩
abbrev cX2_wells : ByteArray := prog_4_method_6_code
def yX2_wells : MethodName := ⟨RX2, "wells", "()I"⟩
abbrev cX2_leftOut : ByteArray := prog_4_method_7_code
def yX2_leftOut : MethodName := ⟨RX2, "leftOut", "()I"⟩
abbrev cX2_above : ByteArray := prog_4_method_8_code
def yX2_above : MethodName := ⟨RX2, "above", "()J"⟩
abbrev cX2_below : ByteArray := prog_4_method_9_code
def yX2_below : MethodName := ⟨RX2, "below", "()J"⟩
abbrev cX2_goByWell : ByteArray := prog_4_method_10_code
def yX2_goByWell : MethodName := ⟨RX2, "goByWell", "(I)V"⟩
abbrev cX2_weighSet : ByteArray := prog_4_method_11_code
def yX2_weighSet : MethodName := ⟨RX2, "weighSet", "(I)V"⟩
abbrev cX2_weighAllThatCan : ByteArray := prog_4_method_12_code
def yX2_weighAllThatCan : MethodName := ⟨RX2, "weighAllThatCan", "()V"⟩
abbrev cX2_weighStep : ByteArray := prog_4_method_13_code
def yX2_weighStep : MethodName := ⟨RX2, "weighStep", "(IZ)V"⟩
abbrev cX3_init : ByteArray := prog_5_method_1_code
def yX3_init : MethodName := ⟨RX3, "<init>", "()V"⟩
abbrev cX3_isKind : ByteArray := prog_5_method_2_code
def yX3_isKind : MethodName := ⟨RX3, "isKind", "(I)Z"⟩
abbrev cX3_isUnder : ByteArray := prog_5_method_3_code
def yX3_isUnder : MethodName := ⟨RX3, "isUnder", "(II)Z"⟩
abbrev cX3_isBody : ByteArray := prog_5_method_4_code
def yX3_isBody : MethodName := ⟨RX3, "isBody", "(I)Z"⟩
abbrev cX3_kindOf : ByteArray := prog_5_method_5_code
def yX3_kindOf : MethodName := ⟨RX3, "kindOf", "(I)I"⟩
abbrev cX3_addBody : ByteArray := prog_5_method_6_code
def yX3_addBody : MethodName := ⟨RX3, "addBody", "(I)I"⟩
abbrev cX3_bodies : ByteArray := prog_5_method_7_code
def yX3_bodies : MethodName := ⟨RX3, "bodies", "()I"⟩
abbrev cX3_ran : ByteArray := prog_5_method_8_code
def yX3_ran : MethodName := ⟨RX3, "ran", "()I"⟩
abbrev cX3_traced : ByteArray := prog_5_method_9_code
def yX3_traced : MethodName := ⟨RX3, "traced", "()I"⟩
abbrev cX3_traceAt : ByteArray := prog_5_method_10_code
def yX3_traceAt : MethodName := ⟨RX3, "traceAt", "(I)I"⟩
abbrev cX3_begin : ByteArray := prog_5_method_11_code
def yX3_begin : MethodName := ⟨RX3, "begin", "(III)I"⟩
abbrev cX3_noteBody : ByteArray := prog_5_method_12_code
def yX3_noteBody : MethodName := ⟨RX3, "noteBody", "(I)V"⟩
abbrev cX3_ownerOf : ByteArray := prog_5_method_13_code
def yX3_ownerOf : MethodName := ⟨RX3, "ownerOf", "(II)I"⟩
abbrev cX3_perform : ByteArray := prog_5_method_14_code
def yX3_perform : MethodName := ⟨RX3, "perform", "(LLotNobodyWants$Hats;IIII)I"⟩
abbrev cX4_init : ByteArray := prog_6_method_1_code
def yX4_init : MethodName := ⟨RX4, "<init>", "()V"⟩
abbrev cX4_isTold : ByteArray := prog_6_method_2_code
def yX4_isTold : MethodName := ⟨RX4, "isTold", "()Z"⟩
abbrev cX4_clear : ByteArray := prog_6_method_3_code
def yX4_clear : MethodName := ⟨RX4, "clear", "()V"⟩
abbrev cX4_addStep : ByteArray := prog_6_method_4_code
def yX4_addStep : MethodName := ⟨RX4, "addStep", "(II)V"⟩
abbrev cX4_become : ByteArray := prog_6_method_5_code
def yX4_become : MethodName := ⟨RX4, "become", "(LLotNobodyWants$Law;)V"⟩
abbrev cX4_workOut : ByteArray := prog_6_method_6_code
def yX4_workOut : MethodName := ⟨RX4, "workOut", "(IIIIII)I"⟩
abbrev cX4_doStep : ByteArray := prog_6_method_7_code
def yX4_doStep : MethodName := ⟨RX4, "doStep", "(II)V"⟩
abbrev cX4_join : ByteArray := prog_6_method_8_code
def yX4_join : MethodName := ⟨RX4, "join", "(III)I"⟩
abbrev cX4_push : ByteArray := prog_6_method_9_code
def yX4_push : MethodName := ⟨RX4, "push", "(I)V"⟩
abbrev cX4_pop : ByteArray := prog_6_method_10_code
def yX4_pop : MethodName := ⟨RX4, "pop", "()I"⟩
abbrev cX5_init : ByteArray := prog_7_method_1_code
def yX5_init : MethodName := ⟨RX5, "<init>", "()V"⟩
abbrev cX5_addByte : ByteArray := prog_7_method_2_code
def yX5_addByte : MethodName := ⟨RX5, "addByte", "(I)I"⟩
abbrev cX5_tapeLength : ByteArray := prog_7_method_3_code
def yX5_tapeLength : MethodName := ⟨RX5, "tapeLength", "()I"⟩
abbrev cX5_emptyTape : ByteArray := prog_7_method_4_code
def yX5_emptyTape : MethodName := ⟨RX5, "emptyTape", "()V"⟩
abbrev cX5_draft : ByteArray := prog_7_method_5_code
def yX5_draft : MethodName := ⟨RX5, "draft", "()LLotNobodyWants$Law;"⟩
abbrev cX5_readText : ByteArray := prog_7_method_6_code
def yX5_readText : MethodName := ⟨RX5, "readText", "()I"⟩
abbrev cX5_next : ByteArray := prog_7_method_7_code
def yX5_next : MethodName := ⟨RX5, "next", "()I"⟩
abbrev cX5_readLine : ByteArray := prog_7_method_8_code
def yX5_readLine : MethodName := ⟨RX5, "readLine", "()Z"⟩
abbrev cX5_readJoined : ByteArray := prog_7_method_9_code
def yX5_readJoined : MethodName := ⟨RX5, "readJoined", "(II)Z"⟩
abbrev cX5_levelOf : ByteArray := prog_7_method_10_code
def yX5_levelOf : MethodName := ⟨RX5, "levelOf", "(I)I"⟩
abbrev cX5_readOperand : ByteArray := prog_7_method_11_code
def yX5_readOperand : MethodName := ⟨RX5, "readOperand", "(I)Z"⟩
abbrev cX5_readTurned : ByteArray := prog_7_method_12_code
def yX5_readTurned : MethodName := ⟨RX5, "readTurned", "(II)Z"⟩
abbrev cX5_readEnclosed : ByteArray := prog_7_method_13_code
def yX5_readEnclosed : MethodName := ⟨RX5, "readEnclosed", "(I)Z"⟩
abbrev cX5_readNumber : ByteArray := prog_7_method_14_code
def yX5_readNumber : MethodName := ⟨RX5, "readNumber", "()V"⟩
abbrev cX5_isDigit : ByteArray := prog_7_method_15_code
def yX5_isDigit : MethodName := ⟨RX5, "isDigit", "(I)Z"⟩
abbrev cX5_nameOf : ByteArray := prog_7_method_16_code
def yX5_nameOf : MethodName := ⟨RX5, "nameOf", "(I)I"⟩
abbrev cX6_init : ByteArray := prog_8_method_1_code
def yX6_init : MethodName := ⟨RX6, "<init>", "(LLotNobodyWants$Year;LLotNobodyWants$Thought;)V"⟩
abbrev cX6_begin : ByteArray := prog_8_method_2_code
def yX6_begin : MethodName := ⟨RX6, "begin", "(II)V"⟩
abbrev cX6_sortTickets : ByteArray := prog_8_method_3_code
def yX6_sortTickets : MethodName := ⟨RX6, "sortTickets", "()V"⟩
abbrev cX6_workOutHour : ByteArray := prog_8_method_4_code
def yX6_workOutHour : MethodName := ⟨RX6, "workOutHour", "(I)V"⟩
abbrev cX6_placeOf : ByteArray := prog_8_method_5_code
def yX6_placeOf : MethodName := ⟨RX6, "placeOf", "(IIII)I"⟩
abbrev cX6_oddsThen : ByteArray := prog_8_method_6_code
def yX6_oddsThen : MethodName := ⟨RX6, "oddsThen", "(III)I"⟩
abbrev cX6_freeAtBest : ByteArray := prog_8_method_7_code
def yX6_freeAtBest : MethodName := ⟨RX6, "freeAtBest", "()I"⟩
abbrev cX6_freeAtMost : ByteArray := prog_8_method_8_code
def yX6_freeAtMost : MethodName := ⟨RX6, "freeAtMost", "()I"⟩
abbrev cX6_best : ByteArray := prog_8_method_9_code
def yX6_best : MethodName := ⟨RX6, "best", "(LLotNobodyWants$Rid;II)I"⟩
abbrev cX6_tried : ByteArray := prog_8_method_10_code
def yX6_tried : MethodName := ⟨RX6, "tried", "(LLotNobodyWants$Rid;IIIII)I"⟩
abbrev cX6_firstSlipping : ByteArray := prog_8_method_11_code
def yX6_firstSlipping : MethodName := ⟨RX6, "firstSlipping", "()I"⟩
abbrev cX7_init : ByteArray := prog_9_method_1_code
def yX7_init : MethodName := ⟨RX7, "<init>", "()V"⟩
abbrev cX7_isSort : ByteArray := prog_9_method_2_code
def yX7_isSort : MethodName := ⟨RX7, "isSort", "(I)Z"⟩
abbrev cX7_isShelf : ByteArray := prog_9_method_3_code
def yX7_isShelf : MethodName := ⟨RX7, "isShelf", "(I)Z"⟩
abbrev cX7_isEmpty : ByteArray := prog_9_method_4_code
def yX7_isEmpty : MethodName := ⟨RX7, "isEmpty", "(I)Z"⟩
abbrev cX7_isRow : ByteArray := prog_9_method_5_code
def yX7_isRow : MethodName := ⟨RX7, "isRow", "(I)Z"⟩
abbrev cX7_sizeOf : ByteArray := prog_9_method_6_code
def yX7_sizeOf : MethodName := ⟨RX7, "sizeOf", "(I)I"⟩
abbrev cX7_bodyOn : ByteArray := prog_9_method_7_code
def yX7_bodyOn : MethodName := ⟨RX7, "bodyOn", "(I)I"⟩
abbrev cX7_refusalOfRow : ByteArray := prog_9_method_8_code
def yX7_refusalOfRow : MethodName := ⟨RX7, "refusalOfRow", "(I)I"⟩
abbrev cX7_refusalOfBytes : ByteArray := prog_9_method_9_code
def yX7_refusalOfBytes : MethodName := ⟨RX7, "refusalOfBytes", "(I)I"⟩
abbrev cX7_refusalOfElement : ByteArray := prog_9_method_10_code
def yX7_refusalOfElement : MethodName := ⟨RX7, "refusalOfElement", "(II)I"⟩
abbrev cX7_refusalOfPair : ByteArray := prog_9_method_11_code
def yX7_refusalOfPair : MethodName := ⟨RX7, "refusalOfPair", "(II)I"⟩
abbrev cX7_hasPlaces : ByteArray := prog_9_method_12_code
def yX7_hasPlaces : MethodName := ⟨RX7, "hasPlaces", "(III)Z"⟩
abbrev cX7_clear : ByteArray := prog_9_method_13_code
def yX7_clear : MethodName := ⟨RX7, "clear", "(I)V"⟩
abbrev cX7_holdBody : ByteArray := prog_9_method_14_code
def yX7_holdBody : MethodName := ⟨RX7, "holdBody", "(II)V"⟩
abbrev cX7_holdRow : ByteArray := prog_9_method_15_code
def yX7_holdRow : MethodName := ⟨RX7, "holdRow", "(III)V"⟩
abbrev cX7_get : ByteArray := prog_9_method_16_code
def yX7_get : MethodName := ⟨RX7, "get", "(II)J"⟩
abbrev cX7_set : ByteArray := prog_9_method_17_code
def yX7_set : MethodName := ⟨RX7, "set", "(IIJ)V"⟩
abbrev cX7_lowestBits : ByteArray := prog_9_method_18_code
def yX7_lowestBits : MethodName := ⟨RX7, "lowestBits", "(IJ)J"⟩
abbrev cX7_copy : ByteArray := prog_9_method_19_code
def yX7_copy : MethodName := ⟨RX7, "copy", "(IIIII)V"⟩
abbrev cX8_init : ByteArray := prog_10_method_1_code
def yX8_init : MethodName := ⟨RX8, "<init>", "(LLotNobodyWants$Year;LLotNobodyWants$Law;)V"⟩
abbrev cX8_begin : ByteArray := prog_10_method_2_code
def yX8_begin : MethodName := ⟨RX8, "begin", "()V"⟩
abbrev cX8_holderOf : ByteArray := prog_10_method_3_code
def yX8_holderOf : MethodName := ⟨RX8, "holderOf", "(I)I"⟩
abbrev cX8_give : ByteArray := prog_10_method_4_code
def yX8_give : MethodName := ⟨RX8, "give", "(II)V"⟩
abbrev cX8_heldBy : ByteArray := prog_10_method_5_code
def yX8_heldBy : MethodName := ⟨RX8, "heldBy", "(I)I"⟩
abbrev cX8_realsOf : ByteArray := prog_10_method_6_code
def yX8_realsOf : MethodName := ⟨RX8, "realsOf", "(I)I"⟩
abbrev cX8_reals : ByteArray := prog_10_method_7_code
def yX8_reals : MethodName := ⟨RX8, "reals", "()I"⟩
abbrev cX8_looseOf : ByteArray := prog_10_method_8_code
def yX8_looseOf : MethodName := ⟨RX8, "looseOf", "(I)I"⟩
abbrev cX8_looseRealsOf : ByteArray := prog_10_method_9_code
def yX8_looseRealsOf : MethodName := ⟨RX8, "looseRealsOf", "(I)I"⟩
abbrev cX8_looseReals : ByteArray := prog_10_method_10_code
def yX8_looseReals : MethodName := ⟨RX8, "looseReals", "()I"⟩
abbrev cX8_isLoose : ByteArray := prog_10_method_11_code
def yX8_isLoose : MethodName := ⟨RX8, "isLoose", "(I)Z"⟩
abbrev cX8_canSlip : ByteArray := prog_10_method_12_code
def yX8_canSlip : MethodName := ⟨RX8, "canSlip", "(II)Z"⟩
abbrev cX8_canGive : ByteArray := prog_10_method_13_code
def yX8_canGive : MethodName := ⟨RX8, "canGive", "(II)Z"⟩
abbrev cX8_oddsOf : ByteArray := prog_10_method_14_code
def yX8_oddsOf : MethodName := ⟨RX8, "oddsOf", "(II)I"⟩
abbrev cX8_oddsBy : ByteArray := prog_10_method_15_code
def yX8_oddsBy : MethodName := ⟨RX8, "oddsBy", "(IIIII)I"⟩
abbrev cX8_slipDrawn : ByteArray := prog_10_method_16_code
def yX8_slipDrawn : MethodName := ⟨RX8, "slipDrawn", "(I)Z"⟩
abbrev cX8_kingDrawn : ByteArray := prog_10_method_17_code
def yX8_kingDrawn : MethodName := ⟨RX8, "kingDrawn", "(I)I"⟩
abbrev cX9_init : ByteArray := prog_11_method_1_code
def yX9_init : MethodName := ⟨RX9, "<init>", "(LLotNobodyWants$Year;LLotNobodyWants$Thought;LLotNobodyWants$Eve;)V"⟩
abbrev cX9_goThrough : ByteArray := prog_11_method_2_code
def yX9_goThrough : MethodName := ⟨RX9, "goThrough", "(LLotNobodyWants$Shelves;IZ)V"⟩
abbrev cX9_spread : ByteArray := prog_11_method_3_code
def yX9_spread : MethodName := ⟨RX9, "spread", "(LLotNobodyWants$Ways;IIJ)V"⟩
abbrev cX9_oddsAt : ByteArray := prog_11_method_4_code
def yX9_oddsAt : MethodName := ⟨RX9, "oddsAt", "(III)I"⟩
abbrev cX9_arrive : ByteArray := prog_11_method_5_code
def yX9_arrive : MethodName := ⟨RX9, "arrive", "(IJ)V"⟩
abbrev cX9_isAsTold : ByteArray := prog_11_method_6_code
def yX9_isAsTold : MethodName := ⟨RX9, "isAsTold", "()Z"⟩
abbrev cX9_howMany : ByteArray := prog_11_method_7_code
def yX9_howMany : MethodName := ⟨RX9, "howMany", "()I"⟩
abbrev cX9_fewest : ByteArray := prog_11_method_8_code
def yX9_fewest : MethodName := ⟨RX9, "fewest", "()I"⟩
abbrev cX9_fewestBits : ByteArray := prog_11_method_9_code
def yX9_fewestBits : MethodName := ⟨RX9, "fewestBits", "()I"⟩
abbrev cX9_certain : ByteArray := prog_11_method_10_code
def yX9_certain : MethodName := ⟨RX9, "certain", "()I"⟩
abbrev cX9_likeliestBits : ByteArray := prog_11_method_11_code
def yX9_likeliestBits : MethodName := ⟨RX9, "likeliestBits", "()I"⟩
abbrev cX10_init : ByteArray := prog_12_method_1_code
def yX10_init : MethodName := ⟨RX10, "<init>", "()V"⟩
abbrev cX10_people : ByteArray := prog_12_method_2_code
def yX10_people : MethodName := ⟨RX10, "people", "()I"⟩
abbrev cX10_tickets : ByteArray := prog_12_method_3_code
def yX10_tickets : MethodName := ⟨RX10, "tickets", "()I"⟩
abbrev cX10_hourNow : ByteArray := prog_12_method_4_code
def yX10_hourNow : MethodName := ⟨RX10, "hourNow", "()I"⟩
abbrev cX10_isPerson : ByteArray := prog_12_method_5_code
def yX10_isPerson : MethodName := ⟨RX10, "isPerson", "(I)Z"⟩
abbrev cX10_isTicket : ByteArray := prog_12_method_6_code
def yX10_isTicket : MethodName := ⟨RX10, "isTicket", "(I)Z"⟩
abbrev cX10_isSlipping : ByteArray := prog_12_method_7_code
def yX10_isSlipping : MethodName := ⟨RX10, "isSlipping", "(I)Z"⟩
abbrev cX10_isReal : ByteArray := prog_12_method_8_code
def yX10_isReal : MethodName := ⟨RX10, "isReal", "(I)Z"⟩
abbrev cX10_hasNumber : ByteArray := prog_12_method_9_code
def yX10_hasNumber : MethodName := ⟨RX10, "hasNumber", "(II)Z"⟩
abbrev cX10_mayBe : ByteArray := prog_12_method_10_code
def yX10_mayBe : MethodName := ⟨RX10, "mayBe", "(II)Z"⟩
abbrev cX10_get : ByteArray := prog_12_method_11_code
def yX10_get : MethodName := ⟨RX10, "get", "(II)I"⟩
abbrev cX10_set : ByteArray := prog_12_method_12_code
def yX10_set : MethodName := ⟨RX10, "set", "(III)V"⟩
abbrev cX10_addPerson : ByteArray := prog_12_method_13_code
def yX10_addPerson : MethodName := ⟨RX10, "addPerson", "(I)I"⟩
abbrev cX10_addTicket : ByteArray := prog_12_method_14_code
def yX10_addTicket : MethodName := ⟨RX10, "addTicket", "(III)I"⟩
abbrev cX11_init : ByteArray := prog_1_method_1_code
def yX11_init : MethodName := ⟨RX11, "<init>", "()V"⟩
abbrev cX11_person : ByteArray := prog_1_method_2_code
def yX11_person : MethodName := ⟨RX11, "person", "(I)I"⟩
abbrev cX11_ticket : ByteArray := prog_1_method_3_code
def yX11_ticket : MethodName := ⟨RX11, "ticket", "(II)I"⟩
abbrev cX11_tickets : ByteArray := prog_1_method_4_code
def yX11_tickets : MethodName := ⟨RX11, "tickets", "(III)I"⟩
abbrev cX11_addFromRow : ByteArray := prog_1_method_5_code
def yX11_addFromRow : MethodName := ⟨RX11, "addFromRow", "(III)Z"⟩
abbrev cX11_mend : ByteArray := prog_1_method_6_code
def yX11_mend : MethodName := ⟨RX11, "mend", "(III)I"⟩
abbrev cX11_of : ByteArray := prog_1_method_7_code
def yX11_of : MethodName := ⟨RX11, "of", "(II)I"⟩
abbrev cX11_feed : ByteArray := prog_1_method_8_code
def yX11_feed : MethodName := ⟨RX11, "feed", "(I)I"⟩
abbrev cX11_law : ByteArray := prog_1_method_9_code
def yX11_law : MethodName := ⟨RX11, "law", "()I"⟩
abbrev cX11_odds : ByteArray := prog_1_method_10_code
def yX11_odds : MethodName := ⟨RX11, "odds", "(I)I"⟩
abbrev cX11_now : ByteArray := prog_1_method_11_code
def yX11_now : MethodName := ⟨RX11, "now", "()LLotNobodyWants$Thought;"⟩
abbrev cX11_later : ByteArray := prog_1_method_12_code
def yX11_later : MethodName := ⟨RX11, "later", "(III)I"⟩
abbrev cX11_eve : ByteArray := prog_1_method_13_code
def yX11_eve : MethodName := ⟨RX11, "eve", "(III)I"⟩
abbrev cX11_likely : ByteArray := prog_1_method_14_code
def yX11_likely : MethodName := ⟨RX11, "likely", "(III)J"⟩
abbrev cX11_all : ByteArray := prog_1_method_15_code
def yX11_all : MethodName := ⟨RX11, "all", "(II)J"⟩
abbrev cX11_isPart : ByteArray := prog_1_method_16_code
def yX11_isPart : MethodName := ⟨RX11, "isPart", "(I)Z"⟩
abbrev cX11_partOf : ByteArray := prog_1_method_17_code
def yX11_partOf : MethodName := ⟨RX11, "partOf", "(JJI)J"⟩
abbrev cX11_king : ByteArray := prog_1_method_18_code
def yX11_king : MethodName := ⟨RX11, "king", "(II)J"⟩
abbrev cX11_safe : ByteArray := prog_1_method_19_code
def yX11_safe : MethodName := ⟨RX11, "safe", "()I"⟩
abbrev cX11_likeliest : ByteArray := prog_1_method_20_code
def yX11_likeliest : MethodName := ⟨RX11, "likeliest", "()I"⟩
abbrev cX11_watch : ByteArray := prog_1_method_21_code
def yX11_watch : MethodName := ⟨RX11, "watch", "(I)I"⟩
abbrev cX11_rid : ByteArray := prog_1_method_22_code
def yX11_rid : MethodName := ⟨RX11, "rid", "(III)J"⟩
abbrev cX11_first : ByteArray := prog_1_method_23_code
def yX11_first : MethodName := ⟨RX11, "first", "(II)I"⟩
abbrev cX11_hire : ByteArray := prog_1_method_24_code
def yX11_hire : MethodName := ⟨RX11, "hire", "(III)I"⟩
abbrev cX11_takesFor : ByteArray := prog_1_method_25_code
def yX11_takesFor : MethodName := ⟨RX11, "takesFor", "(III)I"⟩
abbrev cX11_friend : ByteArray := prog_1_method_26_code
def yX11_friend : MethodName := ⟨RX11, "friend", "(II)I"⟩
abbrev cX11_share : ByteArray := prog_1_method_27_code
def yX11_share : MethodName := ⟨RX11, "share", "(II)I"⟩
abbrev cX11_half : ByteArray := prog_1_method_28_code
def yX11_half : MethodName := ⟨RX11, "half", "()I"⟩
abbrev cX11_realsOfSet : ByteArray := prog_1_method_29_code
def yX11_realsOfSet : MethodName := ⟨RX11, "realsOfSet", "(LLotNobodyWants$Thought;I)I"⟩
abbrev cX11_behind : ByteArray := prog_1_method_30_code
def yX11_behind : MethodName := ⟨RX11, "behind", "(III)I"⟩
abbrev cX11_drawn : ByteArray := prog_1_method_31_code
def yX11_drawn : MethodName := ⟨RX11, "drawn", "(III)I"⟩
abbrev cX11_nextDraw : ByteArray := prog_1_method_32_code
def yX11_nextDraw : MethodName := ⟨RX11, "nextDraw", "(I)I"⟩
abbrev cX11_slip : ByteArray := prog_1_method_33_code
def yX11_slip : MethodName := ⟨RX11, "slip", "(II)I"⟩
abbrev cX11_fold : ByteArray := prog_1_method_34_code
def yX11_fold : MethodName := ⟨RX11, "fold", "(I)I"⟩
abbrev cX11_hour : ByteArray := prog_1_method_35_code
def yX11_hour : MethodName := ⟨RX11, "hour", "()I"⟩
abbrev cX11_led : ByteArray := prog_1_method_36_code
def yX11_led : MethodName := ⟨RX11, "led", "(I)I"⟩
abbrev cX11_image : ByteArray := prog_1_method_37_code
def yX11_image : MethodName := ⟨RX11, "image", "()I"⟩
abbrev cX11_back : ByteArray := prog_1_method_38_code
def yX11_back : MethodName := ⟨RX11, "back", "()I"⟩
abbrev cX11_undo : ByteArray := prog_1_method_39_code
def yX11_undo : MethodName := ⟨RX11, "undo", "()I"⟩
abbrev cX11_redo : ByteArray := prog_1_method_40_code
def yX11_redo : MethodName := ⟨RX11, "redo", "()I"⟩
abbrev cX11_body : ByteArray := prog_1_method_41_code
def yX11_body : MethodName := ⟨RX11, "body", "(I)I"⟩
abbrev cX11_act : ByteArray := prog_1_method_42_code
def yX11_act : MethodName := ⟨RX11, "act", "(III)I"⟩
abbrev cX11_trace : ByteArray := prog_1_method_43_code
def yX11_trace : MethodName := ⟨RX11, "trace", "(I)I"⟩
abbrev cX11_keep : ByteArray := prog_1_method_44_code
def yX11_keep : MethodName := ⟨RX11, "keep", "(II)I"⟩
abbrev cX11_row : ByteArray := prog_1_method_45_code
def yX11_row : MethodName := ⟨RX11, "row", "(III)I"⟩
abbrev cX11_put : ByteArray := prog_1_method_46_code
def yX11_put : MethodName := ⟨RX11, "put", "(IIJ)I"⟩
abbrev cX11_element : ByteArray := prog_1_method_47_code
def yX11_element : MethodName := ⟨RX11, "element", "(II)J"⟩
abbrev cX11_shift : ByteArray := prog_1_method_48_code
def yX11_shift : MethodName := ⟨RX11, "shift", "(IIIII)I"⟩
abbrev cX11_taken : ByteArray := prog_1_method_49_code
def yX11_taken : MethodName := ⟨RX11, "taken", "(II)I"⟩
abbrev cX11_count : ByteArray := prog_1_method_50_code
def yX11_count : MethodName := ⟨RX11, "count", "(I)I"⟩
abbrev cX12_init : ByteArray := prog_14_method_1_code
def yX12_init : MethodName := ⟨RX12, "<init>", "()V"⟩
abbrev cX12_in : ByteArray := prog_14_method_3_code
def yX12_in : MethodName := ⟨RX12, "in", "(III)Z"⟩
abbrev cX12_bitsOf : ByteArray := prog_14_method_4_code
def yX12_bitsOf : MethodName := ⟨RX12, "bitsOf", "(I)I"⟩
abbrev cX12_isOne : ByteArray := prog_14_method_5_code
def yX12_isOne : MethodName := ⟨RX12, "isOne", "(I)Z"⟩
abbrev cX12_isTicket : ByteArray := prog_14_method_6_code
def yX12_isTicket : MethodName := ⟨RX12, "isTicket", "(I)Z"⟩
abbrev cX12_person : ByteArray := prog_14_method_7_code
def yX12_person : MethodName := ⟨RX12, "person", "(I)I"⟩
abbrev cX12_areTicket : ByteArray := prog_14_method_8_code
def yX12_areTicket : MethodName := ⟨RX12, "areTicket", "(II)Z"⟩
abbrev cX12_addTicket : ByteArray := prog_14_method_9_code
def yX12_addTicket : MethodName := ⟨RX12, "addTicket", "(III)I"⟩
abbrev cX12_ticket : ByteArray := prog_14_method_10_code
def yX12_ticket : MethodName := ⟨RX12, "ticket", "(II)I"⟩
abbrev cX12_tickets : ByteArray := prog_14_method_11_code
def yX12_tickets : MethodName := ⟨RX12, "tickets", "(III)I"⟩
abbrev cX12_valueAt : ByteArray := prog_14_method_12_code
def yX12_valueAt : MethodName := ⟨RX12, "valueAt", "(II)I"⟩
abbrev cX12_lays : ByteArray := prog_14_method_13_code
def yX12_lays : MethodName := ⟨RX12, "lays", "(III)V"⟩
abbrev cX12_changes : ByteArray := prog_14_method_14_code
def yX12_changes : MethodName := ⟨RX12, "changes", "(III)I"⟩
abbrev cX12_undo : ByteArray := prog_14_method_15_code
def yX12_undo : MethodName := ⟨RX12, "undo", "()I"⟩
abbrev cX12_redo : ByteArray := prog_14_method_16_code
def yX12_redo : MethodName := ⟨RX12, "redo", "()I"⟩
abbrev cX12_isPlace : ByteArray := prog_14_method_17_code
def yX12_isPlace : MethodName := ⟨RX12, "isPlace", "(II)Z"⟩
abbrev cX12_mayHave : ByteArray := prog_14_method_18_code
def yX12_mayHave : MethodName := ⟨RX12, "mayHave", "(II)Z"⟩
abbrev cX12_mend : ByteArray := prog_14_method_19_code
def yX12_mend : MethodName := ⟨RX12, "mend", "(III)I"⟩
abbrev cX12_of : ByteArray := prog_14_method_20_code
def yX12_of : MethodName := ⟨RX12, "of", "(II)I"⟩
abbrev cX12_feed : ByteArray := prog_14_method_21_code
def yX12_feed : MethodName := ⟨RX12, "feed", "(I)I"⟩
abbrev cX12_look : ByteArray := prog_14_method_22_code
def yX12_look : MethodName := ⟨RX12, "look", "()I"⟩
abbrev cX12_wrong : ByteArray := prog_14_method_23_code
def yX12_wrong : MethodName := ⟨RX12, "wrong", "()V"⟩
abbrev cX12_addStep : ByteArray := prog_14_method_24_code
def yX12_addStep : MethodName := ⟨RX12, "addStep", "(II)V"⟩
abbrev cX12_nameOf : ByteArray := prog_14_method_25_code
def yX12_nameOf : MethodName := ⟨RX12, "nameOf", "(I)I"⟩
abbrev cX12_opens : ByteArray := prog_14_method_26_code
def yX12_opens : MethodName := ⟨RX12, "opens", "()Z"⟩
abbrev cX12_figure : ByteArray := prog_14_method_27_code
def yX12_figure : MethodName := ⟨RX12, "figure", "()V"⟩
abbrev cX12_operand : ByteArray := prog_14_method_28_code
def yX12_operand : MethodName := ⟨RX12, "operand", "()V"⟩
abbrev cX12_product : ByteArray := prog_14_method_29_code
def yX12_product : MethodName := ⟨RX12, "product", "()V"⟩
abbrev cX12_sum : ByteArray := prog_14_method_30_code
def yX12_sum : MethodName := ⟨RX12, "sum", "()V"⟩
abbrev cX12_compared : ByteArray := prog_14_method_31_code
def yX12_compared : MethodName := ⟨RX12, "compared", "()V"⟩
abbrev cX12_both : ByteArray := prog_14_method_32_code
def yX12_both : MethodName := ⟨RX12, "both", "()V"⟩
abbrev cX12_either : ByteArray := prog_14_method_33_code
def yX12_either : MethodName := ⟨RX12, "either", "()V"⟩
abbrev cX12_line : ByteArray := prog_14_method_34_code
def yX12_line : MethodName := ⟨RX12, "line", "()V"⟩
abbrev cX12_readText : ByteArray := prog_14_method_35_code
def yX12_readText : MethodName := ⟨RX12, "readText", "(I)I"⟩
abbrev cX12_twoOf : ByteArray := prog_14_method_36_code
def yX12_twoOf : MethodName := ⟨RX12, "twoOf", "(III)I"⟩
abbrev cX12_worked : ByteArray := prog_14_method_37_code
def yX12_worked : MethodName := ⟨RX12, "worked", "(III)I"⟩
abbrev cX12_gives : ByteArray := prog_14_method_38_code
def yX12_gives : MethodName := ⟨RX12, "gives", "(I)I"⟩
abbrev cX12_law : ByteArray := prog_14_method_39_code
def yX12_law : MethodName := ⟨RX12, "law", "()I"⟩
abbrev cX12_layNow : ByteArray := prog_14_method_40_code
def yX12_layNow : MethodName := ⟨RX12, "layNow", "()V"⟩
abbrev cX12_manyOf : ByteArray := prog_14_method_41_code
def yX12_manyOf : MethodName := ⟨RX12, "manyOf", "(I)I"⟩
abbrev cX12_realOf : ByteArray := prog_14_method_42_code
def yX12_realOf : MethodName := ⟨RX12, "realOf", "(I)I"⟩
abbrev cX12_allReal : ByteArray := prog_14_method_43_code
def yX12_allReal : MethodName := ⟨RX12, "allReal", "()I"⟩
abbrev cX12_maySlip : ByteArray := prog_14_method_44_code
def yX12_maySlip : MethodName := ⟨RX12, "maySlip", "(II)Z"⟩
abbrev cX12_oddsOf : ByteArray := prog_14_method_45_code
def yX12_oddsOf : MethodName := ⟨RX12, "oddsOf", "(II)I"⟩
abbrev cX12_areSlip : ByteArray := prog_14_method_46_code
def yX12_areSlip : MethodName := ⟨RX12, "areSlip", "(I)Z"⟩
abbrev cX12_odds : ByteArray := prog_14_method_47_code
def yX12_odds : MethodName := ⟨RX12, "odds", "(I)I"⟩
abbrev cX12_rowFault : ByteArray := prog_14_method_48_code
def yX12_rowFault : MethodName := ⟨RX12, "rowFault", "(I)I"⟩
abbrev cX12_at : ByteArray := prog_14_method_49_code
def yX12_at : MethodName := ⟨RX12, "at", "(II)I"⟩
abbrev cX12_longOf : ByteArray := prog_14_method_50_code
def yX12_longOf : MethodName := ⟨RX12, "longOf", "(II)I"⟩
abbrev cX12_goEve : ByteArray := prog_14_method_51_code
def yX12_goEve : MethodName := ⟨RX12, "goEve", "(II)V"⟩
abbrev cX12_areMany : ByteArray := prog_14_method_52_code
def yX12_areMany : MethodName := ⟨RX12, "areMany", "(I)Z"⟩
abbrev cX12_later : ByteArray := prog_14_method_53_code
def yX12_later : MethodName := ⟨RX12, "later", "(III)I"⟩
abbrev cX12_eve : ByteArray := prog_14_method_54_code
def yX12_eve : MethodName := ⟨RX12, "eve", "(III)I"⟩
abbrev cX12_lowest : ByteArray := prog_14_method_55_code
def yX12_lowest : MethodName := ⟨RX12, "lowest", "(JJI)J"⟩
abbrev cX12_likely : ByteArray := prog_14_method_56_code
def yX12_likely : MethodName := ⟨RX12, "likely", "(III)J"⟩
abbrev cX12_all : ByteArray := prog_14_method_57_code
def yX12_all : MethodName := ⟨RX12, "all", "(II)J"⟩
abbrev cX12_king : ByteArray := prog_14_method_58_code
def yX12_king : MethodName := ⟨RX12, "king", "(II)J"⟩
abbrev cX12_safe : ByteArray := prog_14_method_59_code
def yX12_safe : MethodName := ⟨RX12, "safe", "()I"⟩
abbrev cX12_likeliest : ByteArray := prog_14_method_60_code
def yX12_likeliest : MethodName := ⟨RX12, "likeliest", "()I"⟩
abbrev cX12_watch : ByteArray := prog_14_method_61_code
def yX12_watch : MethodName := ⟨RX12, "watch", "(I)I"⟩
abbrev cX12_onHour : ByteArray := prog_14_method_62_code
def yX12_onHour : MethodName := ⟨RX12, "onHour", "(I)I"⟩
abbrev cX12_leftBy : ByteArray := prog_14_method_63_code
def yX12_leftBy : MethodName := ⟨RX12, "leftBy", "(IIIJ)J"⟩
abbrev cX12_slipBy : ByteArray := prog_14_method_64_code
def yX12_slipBy : MethodName := ⟨RX12, "slipBy", "(IIIJII)J"⟩
abbrev cX12_leftOf : ByteArray := prog_14_method_65_code
def yX12_leftOf : MethodName := ⟨RX12, "leftOf", "(III)J"⟩
abbrev cX12_rid : ByteArray := prog_14_method_66_code
def yX12_rid : MethodName := ⟨RX12, "rid", "(III)J"⟩
abbrev cX12_first : ByteArray := prog_14_method_67_code
def yX12_first : MethodName := ⟨RX12, "first", "(II)I"⟩
abbrev cX12_hire : ByteArray := prog_14_method_68_code
def yX12_hire : MethodName := ⟨RX12, "hire", "(III)I"⟩
abbrev cX12_friend : ByteArray := prog_14_method_69_code
def yX12_friend : MethodName := ⟨RX12, "friend", "(II)I"⟩
abbrev cX12_share : ByteArray := prog_14_method_70_code
def yX12_share : MethodName := ⟨RX12, "share", "(II)I"⟩
abbrev cX12_half : ByteArray := prog_14_method_71_code
def yX12_half : MethodName := ⟨RX12, "half", "()I"⟩
abbrev cX12_isAsTold : ByteArray := prog_14_method_72_code
def yX12_isAsTold : MethodName := ⟨RX12, "isAsTold", "()Z"⟩
abbrev cX12_meetWay : ByteArray := prog_14_method_73_code
def yX12_meetWay : MethodName := ⟨RX12, "meetWay", "(IJ)V"⟩
abbrev cX12_goBehind : ByteArray := prog_14_method_74_code
def yX12_goBehind : MethodName := ⟨RX12, "goBehind", "(IIJ)V"⟩
abbrev cX12_behind : ByteArray := prog_14_method_75_code
def yX12_behind : MethodName := ⟨RX12, "behind", "(III)I"⟩
abbrev cX12_realAt : ByteArray := prog_14_method_76_code
def yX12_realAt : MethodName := ⟨RX12, "realAt", "(I)I"⟩
abbrev cX12_drawn : ByteArray := prog_14_method_77_code
def yX12_drawn : MethodName := ⟨RX12, "drawn", "(III)I"⟩
abbrev cX12_slip : ByteArray := prog_14_method_78_code
def yX12_slip : MethodName := ⟨RX12, "slip", "(II)I"⟩
abbrev cX12_fold : ByteArray := prog_14_method_79_code
def yX12_fold : MethodName := ⟨RX12, "fold", "(I)I"⟩
abbrev cX12_hour : ByteArray := prog_14_method_80_code
def yX12_hour : MethodName := ⟨RX12, "hour", "()I"⟩
abbrev cX12_led : ByteArray := prog_14_method_81_code
def yX12_led : MethodName := ⟨RX12, "led", "(I)I"⟩
abbrev cX12_image : ByteArray := prog_14_method_82_code
def yX12_image : MethodName := ⟨RX12, "image", "()I"⟩
abbrev cX12_back : ByteArray := prog_14_method_83_code
def yX12_back : MethodName := ⟨RX12, "back", "()I"⟩
abbrev cX12_isBody : ByteArray := prog_14_method_84_code
def yX12_isBody : MethodName := ⟨RX12, "isBody", "(I)Z"⟩
abbrev cX12_ran : ByteArray := prog_14_method_85_code
def yX12_ran : MethodName := ⟨RX12, "ran", "(I)V"⟩
abbrev cX12_trace : ByteArray := prog_14_method_86_code
def yX12_trace : MethodName := ⟨RX12, "trace", "(I)I"⟩
abbrev cX12_body : ByteArray := prog_14_method_87_code
def yX12_body : MethodName := ⟨RX12, "body", "(I)I"⟩
abbrev cX12_isUnder : ByteArray := prog_14_method_88_code
def yX12_isUnder : MethodName := ⟨RX12, "isUnder", "(II)Z"⟩
abbrev cX12_plainSlips : ByteArray := prog_14_method_89_code
def yX12_plainSlips : MethodName := ⟨RX12, "plainSlips", "(II)I"⟩
abbrev cX12_wiseSlips : ByteArray := prog_14_method_90_code
def yX12_wiseSlips : MethodName := ⟨RX12, "wiseSlips", "(II)I"⟩
abbrev cX12_slipping : ByteArray := prog_14_method_91_code
def yX12_slipping : MethodName := ⟨RX12, "slipping", "(II)I"⟩
abbrev cX12_plainFolds : ByteArray := prog_14_method_92_code
def yX12_plainFolds : MethodName := ⟨RX12, "plainFolds", "(II)I"⟩
abbrev cX12_brideFolds : ByteArray := prog_14_method_93_code
def yX12_brideFolds : MethodName := ⟨RX12, "brideFolds", "(II)I"⟩
abbrev cX12_folding : ByteArray := prog_14_method_94_code
def yX12_folding : MethodName := ⟨RX12, "folding", "(II)I"⟩
abbrev cX12_plainProves : ByteArray := prog_14_method_95_code
def yX12_plainProves : MethodName := ⟨RX12, "plainProves", "(II)I"⟩
abbrev cX12_childProves : ByteArray := prog_14_method_96_code
def yX12_childProves : MethodName := ⟨RX12, "childProves", "(II)I"⟩
abbrev cX12_proving : ByteArray := prog_14_method_97_code
def yX12_proving : MethodName := ⟨RX12, "proving", "(II)I"⟩
abbrev cX12_plainTells : ByteArray := prog_14_method_98_code
def yX12_plainTells : MethodName := ⟨RX12, "plainTells", "(II)I"⟩
abbrev cX12_telling : ByteArray := prog_14_method_99_code
def yX12_telling : MethodName := ⟨RX12, "telling", "(II)I"⟩
abbrev cX12_act : ByteArray := prog_14_method_100_code
def yX12_act : MethodName := ⟨RX12, "act", "(III)I"⟩
abbrev cX12_count : ByteArray := prog_14_method_101_code
def yX12_count : MethodName := ⟨RX12, "count", "(I)I"⟩
abbrev cX12_isShelf : ByteArray := prog_14_method_102_code
def yX12_isShelf : MethodName := ⟨RX12, "isShelf", "(I)Z"⟩
abbrev cX12_keep : ByteArray := prog_14_method_103_code
def yX12_keep : MethodName := ⟨RX12, "keep", "(II)I"⟩
abbrev cX12_row : ByteArray := prog_14_method_104_code
def yX12_row : MethodName := ⟨RX12, "row", "(III)I"⟩
abbrev cX12_whyNoPlace : ByteArray := prog_14_method_105_code
def yX12_whyNoPlace : MethodName := ⟨RX12, "whyNoPlace", "(II)I"⟩
abbrev cX12_put : ByteArray := prog_14_method_106_code
def yX12_put : MethodName := ⟨RX12, "put", "(IIJ)I"⟩
abbrev cX12_element : ByteArray := prog_14_method_107_code
def yX12_element : MethodName := ⟨RX12, "element", "(II)J"⟩
abbrev cX12_shift : ByteArray := prog_14_method_108_code
def yX12_shift : MethodName := ⟨RX12, "shift", "(IIIII)I"⟩
abbrev cX12_taken : ByteArray := prog_14_method_109_code
def yX12_taken : MethodName := ⟨RX12, "taken", "(II)I"⟩
abbrev cJ6_bitCount_0f7a4 : ByteArray := prog_15_method_49_code
def yJ6_bitCount_0f7a4 : MethodName := ⟨RJ6, "bitCount", "(I)I"⟩
def yL_law : MethodName := ⟨RL, "law", "([I)Z"⟩
end
section
def NM : Nat := 297
def NX : Nat := 13
def NCL : Nat := 15
def cnm (c : Nat) : String := (bif Nat.blt c 7 then (bif Nat.blt c 3 then (bif Nat.blt c 1 then RX0 else (bif Nat.blt c 2 then RX1 else RX2)) else (bif Nat.blt c 5 then (bif Nat.blt c 4 then RX3 else RX4) else (bif Nat.blt c 6 then RX5 else RX6))) else (bif Nat.blt c 11 then (bif Nat.blt c 9 then (bif Nat.blt c 8 then RX7 else RX8) else (bif Nat.blt c 10 then RX9 else RX10)) else (bif Nat.blt c 13 then (bif Nat.blt c 12 then RX11 else RX12) else (bif Nat.blt c 14 then RL else RJ6))))
def mY (m : Nat) : MethodName := (bif Nat.blt m 149 then (bif Nat.blt m 74 then (bif Nat.blt m 37 then (bif Nat.blt m 18 then (bif Nat.blt m 9 then (bif Nat.blt m 4 then (bif Nat.blt m 2 then (bif Nat.blt m 1 then yX0_init else yX0_done) else (bif Nat.blt m 3 then yX0_undone else yX0_add)) else (bif Nat.blt m 6 then (bif Nat.blt m 5 then yX0_forgetOldest else yX0_undoLatest) else (bif Nat.blt m 7 then yX0_redoNext else (bif Nat.blt m 8 then yX1_init else yX1_note)))) else (bif Nat.blt m 13 then (bif Nat.blt m 11 then (bif Nat.blt m 10 then yX1_noted else yX1_hasImage) else (bif Nat.blt m 12 then yX1_keepImage else yX1_layBack)) else (bif Nat.blt m 15 then (bif Nat.blt m 14 then yX2_init else yX2_begin) else (bif Nat.blt m 16 then yX2_size else (bif Nat.blt m 17 then yX2_ticketAt else yX2_toAt))))) else (bif Nat.blt m 27 then (bif Nat.blt m 22 then (bif Nat.blt m 20 then (bif Nat.blt m 19 then yX2_wells else yX2_leftOut) else (bif Nat.blt m 21 then yX2_above else yX2_below)) else (bif Nat.blt m 24 then (bif Nat.blt m 23 then yX2_goByWell else yX2_weighSet) else (bif Nat.blt m 25 then yX2_weighAllThatCan else (bif Nat.blt m 26 then yX2_weighStep else yX3_init)))) else (bif Nat.blt m 32 then (bif Nat.blt m 29 then (bif Nat.blt m 28 then yX3_isKind else yX3_isUnder) else (bif Nat.blt m 30 then yX3_isBody else (bif Nat.blt m 31 then yX3_kindOf else yX3_addBody))) else (bif Nat.blt m 34 then (bif Nat.blt m 33 then yX3_bodies else yX3_ran) else (bif Nat.blt m 35 then yX3_traced else (bif Nat.blt m 36 then yX3_traceAt else yX3_begin)))))) else (bif Nat.blt m 55 then (bif Nat.blt m 46 then (bif Nat.blt m 41 then (bif Nat.blt m 39 then (bif Nat.blt m 38 then yX3_noteBody else yX3_ownerOf) else (bif Nat.blt m 40 then yX3_perform else yX4_init)) else (bif Nat.blt m 43 then (bif Nat.blt m 42 then yX4_isTold else yX4_clear) else (bif Nat.blt m 44 then yX4_addStep else (bif Nat.blt m 45 then yX4_become else yX4_workOut)))) else (bif Nat.blt m 50 then (bif Nat.blt m 48 then (bif Nat.blt m 47 then yX4_doStep else yX4_join) else (bif Nat.blt m 49 then yX4_push else yX4_pop)) else (bif Nat.blt m 52 then (bif Nat.blt m 51 then yX5_init else yX5_addByte) else (bif Nat.blt m 53 then yX5_tapeLength else (bif Nat.blt m 54 then yX5_emptyTape else yX5_draft))))) else (bif Nat.blt m 64 then (bif Nat.blt m 59 then (bif Nat.blt m 57 then (bif Nat.blt m 56 then yX5_readText else yX5_next) else (bif Nat.blt m 58 then yX5_readLine else yX5_readJoined)) else (bif Nat.blt m 61 then (bif Nat.blt m 60 then yX5_levelOf else yX5_readOperand) else (bif Nat.blt m 62 then yX5_readTurned else (bif Nat.blt m 63 then yX5_readEnclosed else yX5_readNumber)))) else (bif Nat.blt m 69 then (bif Nat.blt m 66 then (bif Nat.blt m 65 then yX5_isDigit else yX5_nameOf) else (bif Nat.blt m 67 then yX6_init else (bif Nat.blt m 68 then yX6_begin else yX6_sortTickets))) else (bif Nat.blt m 71 then (bif Nat.blt m 70 then yX6_workOutHour else yX6_placeOf) else (bif Nat.blt m 72 then yX6_oddsThen else (bif Nat.blt m 73 then yX6_freeAtBest else yX6_freeAtMost))))))) else (bif Nat.blt m 111 then (bif Nat.blt m 92 then (bif Nat.blt m 83 then (bif Nat.blt m 78 then (bif Nat.blt m 76 then (bif Nat.blt m 75 then yX6_best else yX6_tried) else (bif Nat.blt m 77 then yX6_firstSlipping else yX7_init)) else (bif Nat.blt m 80 then (bif Nat.blt m 79 then yX7_isSort else yX7_isShelf) else (bif Nat.blt m 81 then yX7_isEmpty else (bif Nat.blt m 82 then yX7_isRow else yX7_sizeOf)))) else (bif Nat.blt m 87 then (bif Nat.blt m 85 then (bif Nat.blt m 84 then yX7_bodyOn else yX7_refusalOfRow) else (bif Nat.blt m 86 then yX7_refusalOfBytes else yX7_refusalOfElement)) else (bif Nat.blt m 89 then (bif Nat.blt m 88 then yX7_refusalOfPair else yX7_hasPlaces) else (bif Nat.blt m 90 then yX7_clear else (bif Nat.blt m 91 then yX7_holdBody else yX7_holdRow))))) else (bif Nat.blt m 101 then (bif Nat.blt m 96 then (bif Nat.blt m 94 then (bif Nat.blt m 93 then yX7_get else yX7_set) else (bif Nat.blt m 95 then yX7_lowestBits else yX7_copy)) else (bif Nat.blt m 98 then (bif Nat.blt m 97 then yX8_init else yX8_begin) else (bif Nat.blt m 99 then yX8_holderOf else (bif Nat.blt m 100 then yX8_give else yX8_heldBy)))) else (bif Nat.blt m 106 then (bif Nat.blt m 103 then (bif Nat.blt m 102 then yX8_realsOf else yX8_reals) else (bif Nat.blt m 104 then yX8_looseOf else (bif Nat.blt m 105 then yX8_looseRealsOf else yX8_looseReals))) else (bif Nat.blt m 108 then (bif Nat.blt m 107 then yX8_isLoose else yX8_canSlip) else (bif Nat.blt m 109 then yX8_canGive else (bif Nat.blt m 110 then yX8_oddsOf else yX8_oddsBy)))))) else (bif Nat.blt m 130 then (bif Nat.blt m 120 then (bif Nat.blt m 115 then (bif Nat.blt m 113 then (bif Nat.blt m 112 then yX8_slipDrawn else yX8_kingDrawn) else (bif Nat.blt m 114 then yX9_init else yX9_goThrough)) else (bif Nat.blt m 117 then (bif Nat.blt m 116 then yX9_spread else yX9_oddsAt) else (bif Nat.blt m 118 then yX9_arrive else (bif Nat.blt m 119 then yX9_isAsTold else yX9_howMany)))) else (bif Nat.blt m 125 then (bif Nat.blt m 122 then (bif Nat.blt m 121 then yX9_fewest else yX9_fewestBits) else (bif Nat.blt m 123 then yX9_certain else (bif Nat.blt m 124 then yX9_likeliestBits else yX10_init))) else (bif Nat.blt m 127 then (bif Nat.blt m 126 then yX10_people else yX10_tickets) else (bif Nat.blt m 128 then yX10_hourNow else (bif Nat.blt m 129 then yX10_isPerson else yX10_isTicket))))) else (bif Nat.blt m 139 then (bif Nat.blt m 134 then (bif Nat.blt m 132 then (bif Nat.blt m 131 then yX10_isSlipping else yX10_isReal) else (bif Nat.blt m 133 then yX10_hasNumber else yX10_mayBe)) else (bif Nat.blt m 136 then (bif Nat.blt m 135 then yX10_get else yX10_set) else (bif Nat.blt m 137 then yX10_addPerson else (bif Nat.blt m 138 then yX10_addTicket else yX11_init)))) else (bif Nat.blt m 144 then (bif Nat.blt m 141 then (bif Nat.blt m 140 then yX11_person else yX11_ticket) else (bif Nat.blt m 142 then yX11_tickets else (bif Nat.blt m 143 then yX11_addFromRow else yX11_mend))) else (bif Nat.blt m 146 then (bif Nat.blt m 145 then yX11_of else yX11_feed) else (bif Nat.blt m 147 then yX11_law else (bif Nat.blt m 148 then yX11_odds else yX11_now)))))))) else (bif Nat.blt m 223 then (bif Nat.blt m 186 then (bif Nat.blt m 167 then (bif Nat.blt m 158 then (bif Nat.blt m 153 then (bif Nat.blt m 151 then (bif Nat.blt m 150 then yX11_later else yX11_eve) else (bif Nat.blt m 152 then yX11_likely else yX11_all)) else (bif Nat.blt m 155 then (bif Nat.blt m 154 then yX11_isPart else yX11_partOf) else (bif Nat.blt m 156 then yX11_king else (bif Nat.blt m 157 then yX11_safe else yX11_likeliest)))) else (bif Nat.blt m 162 then (bif Nat.blt m 160 then (bif Nat.blt m 159 then yX11_watch else yX11_rid) else (bif Nat.blt m 161 then yX11_first else yX11_hire)) else (bif Nat.blt m 164 then (bif Nat.blt m 163 then yX11_takesFor else yX11_friend) else (bif Nat.blt m 165 then yX11_share else (bif Nat.blt m 166 then yX11_half else yX11_realsOfSet))))) else (bif Nat.blt m 176 then (bif Nat.blt m 171 then (bif Nat.blt m 169 then (bif Nat.blt m 168 then yX11_behind else yX11_drawn) else (bif Nat.blt m 170 then yX11_nextDraw else yX11_slip)) else (bif Nat.blt m 173 then (bif Nat.blt m 172 then yX11_fold else yX11_hour) else (bif Nat.blt m 174 then yX11_led else (bif Nat.blt m 175 then yX11_image else yX11_back)))) else (bif Nat.blt m 181 then (bif Nat.blt m 178 then (bif Nat.blt m 177 then yX11_undo else yX11_redo) else (bif Nat.blt m 179 then yX11_body else (bif Nat.blt m 180 then yX11_act else yX11_trace))) else (bif Nat.blt m 183 then (bif Nat.blt m 182 then yX11_keep else yX11_row) else (bif Nat.blt m 184 then yX11_put else (bif Nat.blt m 185 then yX11_element else yX11_shift)))))) else (bif Nat.blt m 204 then (bif Nat.blt m 195 then (bif Nat.blt m 190 then (bif Nat.blt m 188 then (bif Nat.blt m 187 then yX11_taken else yX11_count) else (bif Nat.blt m 189 then yX12_init else yX12_in)) else (bif Nat.blt m 192 then (bif Nat.blt m 191 then yX12_bitsOf else yX12_isOne) else (bif Nat.blt m 193 then yX12_isTicket else (bif Nat.blt m 194 then yX12_person else yX12_areTicket)))) else (bif Nat.blt m 199 then (bif Nat.blt m 197 then (bif Nat.blt m 196 then yX12_addTicket else yX12_ticket) else (bif Nat.blt m 198 then yX12_tickets else yX12_valueAt)) else (bif Nat.blt m 201 then (bif Nat.blt m 200 then yX12_lays else yX12_changes) else (bif Nat.blt m 202 then yX12_undo else (bif Nat.blt m 203 then yX12_redo else yX12_isPlace))))) else (bif Nat.blt m 213 then (bif Nat.blt m 208 then (bif Nat.blt m 206 then (bif Nat.blt m 205 then yX12_mayHave else yX12_mend) else (bif Nat.blt m 207 then yX12_of else yX12_feed)) else (bif Nat.blt m 210 then (bif Nat.blt m 209 then yX12_look else yX12_wrong) else (bif Nat.blt m 211 then yX12_addStep else (bif Nat.blt m 212 then yX12_nameOf else yX12_opens)))) else (bif Nat.blt m 218 then (bif Nat.blt m 215 then (bif Nat.blt m 214 then yX12_figure else yX12_operand) else (bif Nat.blt m 216 then yX12_product else (bif Nat.blt m 217 then yX12_sum else yX12_compared))) else (bif Nat.blt m 220 then (bif Nat.blt m 219 then yX12_both else yX12_either) else (bif Nat.blt m 221 then yX12_line else (bif Nat.blt m 222 then yX12_readText else yX12_twoOf))))))) else (bif Nat.blt m 260 then (bif Nat.blt m 241 then (bif Nat.blt m 232 then (bif Nat.blt m 227 then (bif Nat.blt m 225 then (bif Nat.blt m 224 then yX12_worked else yX12_gives) else (bif Nat.blt m 226 then yX12_law else yX12_layNow)) else (bif Nat.blt m 229 then (bif Nat.blt m 228 then yX12_manyOf else yX12_realOf) else (bif Nat.blt m 230 then yX12_allReal else (bif Nat.blt m 231 then yX12_maySlip else yX12_oddsOf)))) else (bif Nat.blt m 236 then (bif Nat.blt m 234 then (bif Nat.blt m 233 then yX12_areSlip else yX12_odds) else (bif Nat.blt m 235 then yX12_rowFault else yX12_at)) else (bif Nat.blt m 238 then (bif Nat.blt m 237 then yX12_longOf else yX12_goEve) else (bif Nat.blt m 239 then yX12_areMany else (bif Nat.blt m 240 then yX12_later else yX12_eve))))) else (bif Nat.blt m 250 then (bif Nat.blt m 245 then (bif Nat.blt m 243 then (bif Nat.blt m 242 then yX12_lowest else yX12_likely) else (bif Nat.blt m 244 then yX12_all else yX12_king)) else (bif Nat.blt m 247 then (bif Nat.blt m 246 then yX12_safe else yX12_likeliest) else (bif Nat.blt m 248 then yX12_watch else (bif Nat.blt m 249 then yX12_onHour else yX12_leftBy)))) else (bif Nat.blt m 255 then (bif Nat.blt m 252 then (bif Nat.blt m 251 then yX12_slipBy else yX12_leftOf) else (bif Nat.blt m 253 then yX12_rid else (bif Nat.blt m 254 then yX12_first else yX12_hire))) else (bif Nat.blt m 257 then (bif Nat.blt m 256 then yX12_friend else yX12_share) else (bif Nat.blt m 258 then yX12_half else (bif Nat.blt m 259 then yX12_isAsTold else yX12_meetWay)))))) else (bif Nat.blt m 279 then (bif Nat.blt m 269 then (bif Nat.blt m 264 then (bif Nat.blt m 262 then (bif Nat.blt m 261 then yX12_goBehind else yX12_behind) else (bif Nat.blt m 263 then yX12_realAt else yX12_drawn)) else (bif Nat.blt m 266 then (bif Nat.blt m 265 then yX12_slip else yX12_fold) else (bif Nat.blt m 267 then yX12_hour else (bif Nat.blt m 268 then yX12_led else yX12_image)))) else (bif Nat.blt m 274 then (bif Nat.blt m 271 then (bif Nat.blt m 270 then yX12_back else yX12_isBody) else (bif Nat.blt m 272 then yX12_ran else (bif Nat.blt m 273 then yX12_trace else yX12_body))) else (bif Nat.blt m 276 then (bif Nat.blt m 275 then yX12_isUnder else yX12_plainSlips) else (bif Nat.blt m 277 then yX12_wiseSlips else (bif Nat.blt m 278 then yX12_slipping else yX12_plainFolds))))) else (bif Nat.blt m 288 then (bif Nat.blt m 283 then (bif Nat.blt m 281 then (bif Nat.blt m 280 then yX12_brideFolds else yX12_folding) else (bif Nat.blt m 282 then yX12_plainProves else yX12_childProves)) else (bif Nat.blt m 285 then (bif Nat.blt m 284 then yX12_proving else yX12_plainTells) else (bif Nat.blt m 286 then yX12_telling else (bif Nat.blt m 287 then yX12_act else yX12_count)))) else (bif Nat.blt m 293 then (bif Nat.blt m 290 then (bif Nat.blt m 289 then yX12_isShelf else yX12_keep) else (bif Nat.blt m 291 then yX12_row else (bif Nat.blt m 292 then yX12_whyNoPlace else yX12_put))) else (bif Nat.blt m 295 then (bif Nat.blt m 294 then yX12_element else yX12_shift) else (bif Nat.blt m 296 then yX12_taken else (bif Nat.blt m 297 then yJ6_bitCount_0f7a4 else yL_law)))))))))
def mB (m : Nat) : ByteArray := (bif Nat.blt m 149 then (bif Nat.blt m 74 then (bif Nat.blt m 37 then (bif Nat.blt m 18 then (bif Nat.blt m 9 then (bif Nat.blt m 4 then (bif Nat.blt m 2 then (bif Nat.blt m 1 then cX0_init else cX0_done) else (bif Nat.blt m 3 then cX0_undone else cX0_add)) else (bif Nat.blt m 6 then (bif Nat.blt m 5 then cX0_forgetOldest else cX0_undoLatest) else (bif Nat.blt m 7 then cX0_redoNext else (bif Nat.blt m 8 then cX1_init else cX1_note)))) else (bif Nat.blt m 13 then (bif Nat.blt m 11 then (bif Nat.blt m 10 then cX1_noted else cX1_hasImage) else (bif Nat.blt m 12 then cX1_keepImage else cX1_layBack)) else (bif Nat.blt m 15 then (bif Nat.blt m 14 then cX2_init else cX2_begin) else (bif Nat.blt m 16 then cX2_size else (bif Nat.blt m 17 then cX2_ticketAt else cX2_toAt))))) else (bif Nat.blt m 27 then (bif Nat.blt m 22 then (bif Nat.blt m 20 then (bif Nat.blt m 19 then cX2_wells else cX2_leftOut) else (bif Nat.blt m 21 then cX2_above else cX2_below)) else (bif Nat.blt m 24 then (bif Nat.blt m 23 then cX2_goByWell else cX2_weighSet) else (bif Nat.blt m 25 then cX2_weighAllThatCan else (bif Nat.blt m 26 then cX2_weighStep else cX3_init)))) else (bif Nat.blt m 32 then (bif Nat.blt m 29 then (bif Nat.blt m 28 then cX3_isKind else cX3_isUnder) else (bif Nat.blt m 30 then cX3_isBody else (bif Nat.blt m 31 then cX3_kindOf else cX3_addBody))) else (bif Nat.blt m 34 then (bif Nat.blt m 33 then cX3_bodies else cX3_ran) else (bif Nat.blt m 35 then cX3_traced else (bif Nat.blt m 36 then cX3_traceAt else cX3_begin)))))) else (bif Nat.blt m 55 then (bif Nat.blt m 46 then (bif Nat.blt m 41 then (bif Nat.blt m 39 then (bif Nat.blt m 38 then cX3_noteBody else cX3_ownerOf) else (bif Nat.blt m 40 then cX3_perform else cX4_init)) else (bif Nat.blt m 43 then (bif Nat.blt m 42 then cX4_isTold else cX4_clear) else (bif Nat.blt m 44 then cX4_addStep else (bif Nat.blt m 45 then cX4_become else cX4_workOut)))) else (bif Nat.blt m 50 then (bif Nat.blt m 48 then (bif Nat.blt m 47 then cX4_doStep else cX4_join) else (bif Nat.blt m 49 then cX4_push else cX4_pop)) else (bif Nat.blt m 52 then (bif Nat.blt m 51 then cX5_init else cX5_addByte) else (bif Nat.blt m 53 then cX5_tapeLength else (bif Nat.blt m 54 then cX5_emptyTape else cX5_draft))))) else (bif Nat.blt m 64 then (bif Nat.blt m 59 then (bif Nat.blt m 57 then (bif Nat.blt m 56 then cX5_readText else cX5_next) else (bif Nat.blt m 58 then cX5_readLine else cX5_readJoined)) else (bif Nat.blt m 61 then (bif Nat.blt m 60 then cX5_levelOf else cX5_readOperand) else (bif Nat.blt m 62 then cX5_readTurned else (bif Nat.blt m 63 then cX5_readEnclosed else cX5_readNumber)))) else (bif Nat.blt m 69 then (bif Nat.blt m 66 then (bif Nat.blt m 65 then cX5_isDigit else cX5_nameOf) else (bif Nat.blt m 67 then cX6_init else (bif Nat.blt m 68 then cX6_begin else cX6_sortTickets))) else (bif Nat.blt m 71 then (bif Nat.blt m 70 then cX6_workOutHour else cX6_placeOf) else (bif Nat.blt m 72 then cX6_oddsThen else (bif Nat.blt m 73 then cX6_freeAtBest else cX6_freeAtMost))))))) else (bif Nat.blt m 111 then (bif Nat.blt m 92 then (bif Nat.blt m 83 then (bif Nat.blt m 78 then (bif Nat.blt m 76 then (bif Nat.blt m 75 then cX6_best else cX6_tried) else (bif Nat.blt m 77 then cX6_firstSlipping else cX7_init)) else (bif Nat.blt m 80 then (bif Nat.blt m 79 then cX7_isSort else cX7_isShelf) else (bif Nat.blt m 81 then cX7_isEmpty else (bif Nat.blt m 82 then cX7_isRow else cX7_sizeOf)))) else (bif Nat.blt m 87 then (bif Nat.blt m 85 then (bif Nat.blt m 84 then cX7_bodyOn else cX7_refusalOfRow) else (bif Nat.blt m 86 then cX7_refusalOfBytes else cX7_refusalOfElement)) else (bif Nat.blt m 89 then (bif Nat.blt m 88 then cX7_refusalOfPair else cX7_hasPlaces) else (bif Nat.blt m 90 then cX7_clear else (bif Nat.blt m 91 then cX7_holdBody else cX7_holdRow))))) else (bif Nat.blt m 101 then (bif Nat.blt m 96 then (bif Nat.blt m 94 then (bif Nat.blt m 93 then cX7_get else cX7_set) else (bif Nat.blt m 95 then cX7_lowestBits else cX7_copy)) else (bif Nat.blt m 98 then (bif Nat.blt m 97 then cX8_init else cX8_begin) else (bif Nat.blt m 99 then cX8_holderOf else (bif Nat.blt m 100 then cX8_give else cX8_heldBy)))) else (bif Nat.blt m 106 then (bif Nat.blt m 103 then (bif Nat.blt m 102 then cX8_realsOf else cX8_reals) else (bif Nat.blt m 104 then cX8_looseOf else (bif Nat.blt m 105 then cX8_looseRealsOf else cX8_looseReals))) else (bif Nat.blt m 108 then (bif Nat.blt m 107 then cX8_isLoose else cX8_canSlip) else (bif Nat.blt m 109 then cX8_canGive else (bif Nat.blt m 110 then cX8_oddsOf else cX8_oddsBy)))))) else (bif Nat.blt m 130 then (bif Nat.blt m 120 then (bif Nat.blt m 115 then (bif Nat.blt m 113 then (bif Nat.blt m 112 then cX8_slipDrawn else cX8_kingDrawn) else (bif Nat.blt m 114 then cX9_init else cX9_goThrough)) else (bif Nat.blt m 117 then (bif Nat.blt m 116 then cX9_spread else cX9_oddsAt) else (bif Nat.blt m 118 then cX9_arrive else (bif Nat.blt m 119 then cX9_isAsTold else cX9_howMany)))) else (bif Nat.blt m 125 then (bif Nat.blt m 122 then (bif Nat.blt m 121 then cX9_fewest else cX9_fewestBits) else (bif Nat.blt m 123 then cX9_certain else (bif Nat.blt m 124 then cX9_likeliestBits else cX10_init))) else (bif Nat.blt m 127 then (bif Nat.blt m 126 then cX10_people else cX10_tickets) else (bif Nat.blt m 128 then cX10_hourNow else (bif Nat.blt m 129 then cX10_isPerson else cX10_isTicket))))) else (bif Nat.blt m 139 then (bif Nat.blt m 134 then (bif Nat.blt m 132 then (bif Nat.blt m 131 then cX10_isSlipping else cX10_isReal) else (bif Nat.blt m 133 then cX10_hasNumber else cX10_mayBe)) else (bif Nat.blt m 136 then (bif Nat.blt m 135 then cX10_get else cX10_set) else (bif Nat.blt m 137 then cX10_addPerson else (bif Nat.blt m 138 then cX10_addTicket else cX11_init)))) else (bif Nat.blt m 144 then (bif Nat.blt m 141 then (bif Nat.blt m 140 then cX11_person else cX11_ticket) else (bif Nat.blt m 142 then cX11_tickets else (bif Nat.blt m 143 then cX11_addFromRow else cX11_mend))) else (bif Nat.blt m 146 then (bif Nat.blt m 145 then cX11_of else cX11_feed) else (bif Nat.blt m 147 then cX11_law else (bif Nat.blt m 148 then cX11_odds else cX11_now)))))))) else (bif Nat.blt m 223 then (bif Nat.blt m 186 then (bif Nat.blt m 167 then (bif Nat.blt m 158 then (bif Nat.blt m 153 then (bif Nat.blt m 151 then (bif Nat.blt m 150 then cX11_later else cX11_eve) else (bif Nat.blt m 152 then cX11_likely else cX11_all)) else (bif Nat.blt m 155 then (bif Nat.blt m 154 then cX11_isPart else cX11_partOf) else (bif Nat.blt m 156 then cX11_king else (bif Nat.blt m 157 then cX11_safe else cX11_likeliest)))) else (bif Nat.blt m 162 then (bif Nat.blt m 160 then (bif Nat.blt m 159 then cX11_watch else cX11_rid) else (bif Nat.blt m 161 then cX11_first else cX11_hire)) else (bif Nat.blt m 164 then (bif Nat.blt m 163 then cX11_takesFor else cX11_friend) else (bif Nat.blt m 165 then cX11_share else (bif Nat.blt m 166 then cX11_half else cX11_realsOfSet))))) else (bif Nat.blt m 176 then (bif Nat.blt m 171 then (bif Nat.blt m 169 then (bif Nat.blt m 168 then cX11_behind else cX11_drawn) else (bif Nat.blt m 170 then cX11_nextDraw else cX11_slip)) else (bif Nat.blt m 173 then (bif Nat.blt m 172 then cX11_fold else cX11_hour) else (bif Nat.blt m 174 then cX11_led else (bif Nat.blt m 175 then cX11_image else cX11_back)))) else (bif Nat.blt m 181 then (bif Nat.blt m 178 then (bif Nat.blt m 177 then cX11_undo else cX11_redo) else (bif Nat.blt m 179 then cX11_body else (bif Nat.blt m 180 then cX11_act else cX11_trace))) else (bif Nat.blt m 183 then (bif Nat.blt m 182 then cX11_keep else cX11_row) else (bif Nat.blt m 184 then cX11_put else (bif Nat.blt m 185 then cX11_element else cX11_shift)))))) else (bif Nat.blt m 204 then (bif Nat.blt m 195 then (bif Nat.blt m 190 then (bif Nat.blt m 188 then (bif Nat.blt m 187 then cX11_taken else cX11_count) else (bif Nat.blt m 189 then cX12_init else cX12_in)) else (bif Nat.blt m 192 then (bif Nat.blt m 191 then cX12_bitsOf else cX12_isOne) else (bif Nat.blt m 193 then cX12_isTicket else (bif Nat.blt m 194 then cX12_person else cX12_areTicket)))) else (bif Nat.blt m 199 then (bif Nat.blt m 197 then (bif Nat.blt m 196 then cX12_addTicket else cX12_ticket) else (bif Nat.blt m 198 then cX12_tickets else cX12_valueAt)) else (bif Nat.blt m 201 then (bif Nat.blt m 200 then cX12_lays else cX12_changes) else (bif Nat.blt m 202 then cX12_undo else (bif Nat.blt m 203 then cX12_redo else cX12_isPlace))))) else (bif Nat.blt m 213 then (bif Nat.blt m 208 then (bif Nat.blt m 206 then (bif Nat.blt m 205 then cX12_mayHave else cX12_mend) else (bif Nat.blt m 207 then cX12_of else cX12_feed)) else (bif Nat.blt m 210 then (bif Nat.blt m 209 then cX12_look else cX12_wrong) else (bif Nat.blt m 211 then cX12_addStep else (bif Nat.blt m 212 then cX12_nameOf else cX12_opens)))) else (bif Nat.blt m 218 then (bif Nat.blt m 215 then (bif Nat.blt m 214 then cX12_figure else cX12_operand) else (bif Nat.blt m 216 then cX12_product else (bif Nat.blt m 217 then cX12_sum else cX12_compared))) else (bif Nat.blt m 220 then (bif Nat.blt m 219 then cX12_both else cX12_either) else (bif Nat.blt m 221 then cX12_line else (bif Nat.blt m 222 then cX12_readText else cX12_twoOf))))))) else (bif Nat.blt m 260 then (bif Nat.blt m 241 then (bif Nat.blt m 232 then (bif Nat.blt m 227 then (bif Nat.blt m 225 then (bif Nat.blt m 224 then cX12_worked else cX12_gives) else (bif Nat.blt m 226 then cX12_law else cX12_layNow)) else (bif Nat.blt m 229 then (bif Nat.blt m 228 then cX12_manyOf else cX12_realOf) else (bif Nat.blt m 230 then cX12_allReal else (bif Nat.blt m 231 then cX12_maySlip else cX12_oddsOf)))) else (bif Nat.blt m 236 then (bif Nat.blt m 234 then (bif Nat.blt m 233 then cX12_areSlip else cX12_odds) else (bif Nat.blt m 235 then cX12_rowFault else cX12_at)) else (bif Nat.blt m 238 then (bif Nat.blt m 237 then cX12_longOf else cX12_goEve) else (bif Nat.blt m 239 then cX12_areMany else (bif Nat.blt m 240 then cX12_later else cX12_eve))))) else (bif Nat.blt m 250 then (bif Nat.blt m 245 then (bif Nat.blt m 243 then (bif Nat.blt m 242 then cX12_lowest else cX12_likely) else (bif Nat.blt m 244 then cX12_all else cX12_king)) else (bif Nat.blt m 247 then (bif Nat.blt m 246 then cX12_safe else cX12_likeliest) else (bif Nat.blt m 248 then cX12_watch else (bif Nat.blt m 249 then cX12_onHour else cX12_leftBy)))) else (bif Nat.blt m 255 then (bif Nat.blt m 252 then (bif Nat.blt m 251 then cX12_slipBy else cX12_leftOf) else (bif Nat.blt m 253 then cX12_rid else (bif Nat.blt m 254 then cX12_first else cX12_hire))) else (bif Nat.blt m 257 then (bif Nat.blt m 256 then cX12_friend else cX12_share) else (bif Nat.blt m 258 then cX12_half else (bif Nat.blt m 259 then cX12_isAsTold else cX12_meetWay)))))) else (bif Nat.blt m 279 then (bif Nat.blt m 269 then (bif Nat.blt m 264 then (bif Nat.blt m 262 then (bif Nat.blt m 261 then cX12_goBehind else cX12_behind) else (bif Nat.blt m 263 then cX12_realAt else cX12_drawn)) else (bif Nat.blt m 266 then (bif Nat.blt m 265 then cX12_slip else cX12_fold) else (bif Nat.blt m 267 then cX12_hour else (bif Nat.blt m 268 then cX12_led else cX12_image)))) else (bif Nat.blt m 274 then (bif Nat.blt m 271 then (bif Nat.blt m 270 then cX12_back else cX12_isBody) else (bif Nat.blt m 272 then cX12_ran else (bif Nat.blt m 273 then cX12_trace else cX12_body))) else (bif Nat.blt m 276 then (bif Nat.blt m 275 then cX12_isUnder else cX12_plainSlips) else (bif Nat.blt m 277 then cX12_wiseSlips else (bif Nat.blt m 278 then cX12_slipping else cX12_plainFolds))))) else (bif Nat.blt m 288 then (bif Nat.blt m 283 then (bif Nat.blt m 281 then (bif Nat.blt m 280 then cX12_brideFolds else cX12_folding) else (bif Nat.blt m 282 then cX12_plainProves else cX12_childProves)) else (bif Nat.blt m 285 then (bif Nat.blt m 284 then cX12_proving else cX12_plainTells) else (bif Nat.blt m 286 then cX12_telling else (bif Nat.blt m 287 then cX12_act else cX12_count)))) else (bif Nat.blt m 293 then (bif Nat.blt m 290 then (bif Nat.blt m 289 then cX12_isShelf else cX12_keep) else (bif Nat.blt m 291 then cX12_row else (bif Nat.blt m 292 then cX12_whyNoPlace else cX12_put))) else (bif Nat.blt m 295 then (bif Nat.blt m 294 then cX12_element else cX12_shift) else (bif Nat.blt m 296 then cX12_taken else (bif Nat.blt m 297 then cJ6_bitCount_0f7a4 else code)))))))))
def mL (m : Nat) : Nat := (bif Nat.blt m 149 then (bif Nat.blt m 74 then (bif Nat.blt m 37 then (bif Nat.blt m 18 then (bif Nat.blt m 9 then (bif Nat.blt m 4 then (bif Nat.blt m 2 then (bif Nat.blt m 1 then 2 else 1) else (bif Nat.blt m 3 then 1 else 5)) else (bif Nat.blt m 6 then 1 else (bif Nat.blt m 7 then 1 else 2))) else (bif Nat.blt m 13 then (bif Nat.blt m 11 then (bif Nat.blt m 10 then 2 else 1) else 2) else (bif Nat.blt m 15 then (bif Nat.blt m 14 then 3 else 6) else (bif Nat.blt m 16 then 1 else 2)))) else (bif Nat.blt m 27 then (bif Nat.blt m 22 then 1 else (bif Nat.blt m 24 then (bif Nat.blt m 23 then 3 else 5) else (bif Nat.blt m 25 then 2 else (bif Nat.blt m 26 then 4 else 1)))) else (bif Nat.blt m 32 then (bif Nat.blt m 29 then (bif Nat.blt m 28 then 1 else 4) else 2) else (bif Nat.blt m 34 then 1 else (bif Nat.blt m 35 then 1 else (bif Nat.blt m 36 then 2 else 4)))))) else (bif Nat.blt m 55 then (bif Nat.blt m 46 then (bif Nat.blt m 41 then (bif Nat.blt m 39 then (bif Nat.blt m 38 then 2 else 4) else (bif Nat.blt m 40 then 10 else 1)) else (bif Nat.blt m 43 then 1 else (bif Nat.blt m 44 then 3 else (bif Nat.blt m 45 then 2 else 11)))) else (bif Nat.blt m 50 then (bif Nat.blt m 48 then (bif Nat.blt m 47 then 4 else 3) else (bif Nat.blt m 49 then 2 else 1)) else (bif Nat.blt m 52 then (bif Nat.blt m 51 then 1 else 2) else 1))) else (bif Nat.blt m 64 then (bif Nat.blt m 59 then (bif Nat.blt m 57 then (bif Nat.blt m 56 then 3 else 1) else (bif Nat.blt m 58 then 2 else 8)) else (bif Nat.blt m 61 then (bif Nat.blt m 60 then 1 else 4) else (bif Nat.blt m 62 then 4 else (bif Nat.blt m 63 then 2 else 3)))) else (bif Nat.blt m 69 then (bif Nat.blt m 66 then 1 else (bif Nat.blt m 67 then 3 else (bif Nat.blt m 68 then 4 else 3))) else (bif Nat.blt m 71 then (bif Nat.blt m 70 then 8 else 4) else (bif Nat.blt m 72 then 5 else (bif Nat.blt m 73 then 1 else 3))))))) else (bif Nat.blt m 111 then (bif Nat.blt m 92 then (bif Nat.blt m 83 then (bif Nat.blt m 78 then (bif Nat.blt m 76 then (bif Nat.blt m 75 then 7 else 8) else (bif Nat.blt m 77 then 8 else 2)) else (bif Nat.blt m 80 then (bif Nat.blt m 79 then 1 else 2) else 2)) else (bif Nat.blt m 87 then (bif Nat.blt m 85 then 2 else (bif Nat.blt m 86 then 3 else 4)) else (bif Nat.blt m 89 then (bif Nat.blt m 88 then 3 else 4) else (bif Nat.blt m 90 then 2 else (bif Nat.blt m 91 then 3 else 5))))) else (bif Nat.blt m 101 then (bif Nat.blt m 96 then (bif Nat.blt m 94 then (bif Nat.blt m 93 then 3 else 5) else (bif Nat.blt m 95 then 3 else 6)) else (bif Nat.blt m 98 then (bif Nat.blt m 97 then 3 else 2) else (bif Nat.blt m 99 then 2 else (bif Nat.blt m 100 then 3 else 4)))) else (bif Nat.blt m 106 then (bif Nat.blt m 103 then (bif Nat.blt m 102 then 4 else 3) else (bif Nat.blt m 104 then 4 else (bif Nat.blt m 105 then 4 else 3))) else (bif Nat.blt m 108 then (bif Nat.blt m 107 then 2 else 3) else (bif Nat.blt m 109 then 3 else (bif Nat.blt m 110 then 3 else 9)))))) else (bif Nat.blt m 130 then (bif Nat.blt m 120 then (bif Nat.blt m 115 then (bif Nat.blt m 113 then (bif Nat.blt m 112 then 7 else 5) else (bif Nat.blt m 114 then 4 else 5)) else (bif Nat.blt m 117 then (bif Nat.blt m 116 then 10 else 7) else (bif Nat.blt m 118 then 5 else (bif Nat.blt m 119 then 2 else 1)))) else (bif Nat.blt m 125 then (bif Nat.blt m 122 then 1 else (bif Nat.blt m 123 then 1 else (bif Nat.blt m 124 then 1 else 2))) else (bif Nat.blt m 127 then 1 else (bif Nat.blt m 128 then 1 else 2)))) else (bif Nat.blt m 139 then (bif Nat.blt m 134 then (bif Nat.blt m 132 then 2 else 3) else (bif Nat.blt m 136 then (bif Nat.blt m 135 then 3 else 4) else (bif Nat.blt m 137 then 2 else (bif Nat.blt m 138 then 4 else 1)))) else (bif Nat.blt m 144 then (bif Nat.blt m 141 then (bif Nat.blt m 140 then 2 else 3) else (bif Nat.blt m 142 then 7 else (bif Nat.blt m 143 then 9 else 5))) else (bif Nat.blt m 146 then (bif Nat.blt m 145 then 3 else 2) else (bif Nat.blt m 147 then 2 else (bif Nat.blt m 148 then 2 else 1)))))))) else (bif Nat.blt m 223 then (bif Nat.blt m 186 then (bif Nat.blt m 167 then (bif Nat.blt m 158 then (bif Nat.blt m 153 then (bif Nat.blt m 151 then 5 else (bif Nat.blt m 152 then 4 else 3)) else (bif Nat.blt m 155 then (bif Nat.blt m 154 then 1 else 12) else (bif Nat.blt m 156 then 4 else (bif Nat.blt m 157 then 4 else 6)))) else (bif Nat.blt m 162 then (bif Nat.blt m 160 then (bif Nat.blt m 159 then 8 else 4) else (bif Nat.blt m 161 then 3 else 10)) else (bif Nat.blt m 164 then (bif Nat.blt m 163 then 5 else 8) else (bif Nat.blt m 165 then 5 else (bif Nat.blt m 166 then 7 else 5))))) else (bif Nat.blt m 176 then (bif Nat.blt m 171 then (bif Nat.blt m 169 then (bif Nat.blt m 168 then 4 else 11) else (bif Nat.blt m 170 then 1 else 5)) else (bif Nat.blt m 173 then (bif Nat.blt m 172 then 3 else 2) else (bif Nat.blt m 174 then 2 else 1))) else (bif Nat.blt m 181 then (bif Nat.blt m 178 then 1 else (bif Nat.blt m 179 then 2 else (bif Nat.blt m 180 then 4 else 2))) else (bif Nat.blt m 183 then (bif Nat.blt m 182 then 3 else 4) else (bif Nat.blt m 184 then 6 else (bif Nat.blt m 185 then 3 else 7)))))) else (bif Nat.blt m 204 then (bif Nat.blt m 195 then (bif Nat.blt m 190 then (bif Nat.blt m 188 then (bif Nat.blt m 187 then 4 else 2) else (bif Nat.blt m 189 then 1 else 3)) else (bif Nat.blt m 192 then (bif Nat.blt m 191 then 3 else 2) else (bif Nat.blt m 193 then 2 else (bif Nat.blt m 194 then 2 else 3)))) else (bif Nat.blt m 199 then (bif Nat.blt m 197 then (bif Nat.blt m 196 then 4 else 3) else (bif Nat.blt m 198 then 8 else 3)) else (bif Nat.blt m 201 then (bif Nat.blt m 200 then 4 else 6) else (bif Nat.blt m 202 then 1 else (bif Nat.blt m 203 then 1 else 3))))) else (bif Nat.blt m 213 then (bif Nat.blt m 208 then (bif Nat.blt m 206 then (bif Nat.blt m 205 then 3 else 4) else (bif Nat.blt m 207 then 3 else 2)) else (bif Nat.blt m 210 then 1 else (bif Nat.blt m 211 then 3 else 1))) else (bif Nat.blt m 218 then (bif Nat.blt m 215 then (bif Nat.blt m 214 then 3 else 2) else 2) else (bif Nat.blt m 220 then 1 else (bif Nat.blt m 221 then 2 else 3)))))) else (bif Nat.blt m 260 then (bif Nat.blt m 241 then (bif Nat.blt m 232 then (bif Nat.blt m 227 then (bif Nat.blt m 225 then (bif Nat.blt m 224 then 7 else 4) else 2) else (bif Nat.blt m 229 then 4 else (bif Nat.blt m 230 then 3 else (bif Nat.blt m 231 then 3 else 4)))) else (bif Nat.blt m 236 then (bif Nat.blt m 234 then 2 else (bif Nat.blt m 235 then 2 else 3)) else (bif Nat.blt m 238 then (bif Nat.blt m 237 then 4 else 7) else (bif Nat.blt m 239 then 1 else 4)))) else (bif Nat.blt m 250 then (bif Nat.blt m 245 then (bif Nat.blt m 243 then (bif Nat.blt m 242 then 11 else 14) else (bif Nat.blt m 244 then 11 else 3)) else (bif Nat.blt m 247 then 3 else (bif Nat.blt m 248 then 7 else (bif Nat.blt m 249 then 2 else 12)))) else (bif Nat.blt m 255 then (bif Nat.blt m 252 then (bif Nat.blt m 251 then 11 else 4) else (bif Nat.blt m 253 then 7 else (bif Nat.blt m 254 then 9 else 10))) else (bif Nat.blt m 257 then (bif Nat.blt m 256 then 6 else 3) else (bif Nat.blt m 258 then 6 else (bif Nat.blt m 259 then 2 else 5)))))) else (bif Nat.blt m 279 then (bif Nat.blt m 269 then (bif Nat.blt m 264 then (bif Nat.blt m 262 then (bif Nat.blt m 261 then 9 else 4) else (bif Nat.blt m 263 then 4 else 11)) else (bif Nat.blt m 266 then (bif Nat.blt m 265 then 3 else 2) else (bif Nat.blt m 267 then 1 else 2))) else (bif Nat.blt m 274 then 2 else (bif Nat.blt m 276 then (bif Nat.blt m 275 then 2 else 3) else 3))) else (bif Nat.blt m 288 then (bif Nat.blt m 283 then (bif Nat.blt m 281 then (bif Nat.blt m 280 then 3 else 4) else 3) else (bif Nat.blt m 285 then 4 else (bif Nat.blt m 286 then 3 else (bif Nat.blt m 287 then 4 else 2)))) else (bif Nat.blt m 293 then (bif Nat.blt m 290 then (bif Nat.blt m 289 then 1 else 3) else (bif Nat.blt m 291 then 5 else (bif Nat.blt m 292 then 3 else 7))) else (bif Nat.blt m 295 then (bif Nat.blt m 294 then 3 else 7) else (bif Nat.blt m 296 then 3 else (bif Nat.blt m 297 then 1 else 4)))))))))
def mR (m : Nat) : Option FieldType := (bif Nat.blt m 149 then (bif Nat.blt m 74 then (bif Nat.blt m 37 then (bif Nat.blt m 18 then (bif Nat.blt m 9 then (bif Nat.blt m 4 then (bif Nat.blt m 2 then (bif Nat.blt m 1 then none else (FieldType.int)) else (bif Nat.blt m 3 then (FieldType.int) else none)) else none) else (bif Nat.blt m 13 then (bif Nat.blt m 11 then (bif Nat.blt m 10 then (FieldType.int) else (FieldType.boolean)) else none) else (bif Nat.blt m 15 then none else (FieldType.int)))) else (bif Nat.blt m 27 then (bif Nat.blt m 22 then (bif Nat.blt m 20 then (FieldType.int) else (FieldType.long)) else none) else (bif Nat.blt m 32 then (bif Nat.blt m 29 then (FieldType.boolean) else (bif Nat.blt m 30 then (FieldType.boolean) else (FieldType.int))) else (FieldType.int)))) else (bif Nat.blt m 55 then (bif Nat.blt m 46 then (bif Nat.blt m 41 then (bif Nat.blt m 39 then (bif Nat.blt m 38 then none else (FieldType.int)) else (bif Nat.blt m 40 then (FieldType.int) else none)) else (bif Nat.blt m 43 then (bif Nat.blt m 42 then (FieldType.boolean) else none) else (bif Nat.blt m 44 then none else (bif Nat.blt m 45 then none else (FieldType.int))))) else (bif Nat.blt m 50 then (bif Nat.blt m 48 then (bif Nat.blt m 47 then none else (FieldType.int)) else (bif Nat.blt m 49 then none else (FieldType.int))) else (bif Nat.blt m 52 then (bif Nat.blt m 51 then none else (FieldType.int)) else (bif Nat.blt m 53 then (FieldType.int) else (bif Nat.blt m 54 then none else ((FieldType.object "LotNobodyWants$Law"))))))) else (bif Nat.blt m 64 then (bif Nat.blt m 59 then (bif Nat.blt m 57 then (FieldType.int) else (FieldType.boolean)) else (bif Nat.blt m 61 then (bif Nat.blt m 60 then (FieldType.int) else (FieldType.boolean)) else (bif Nat.blt m 62 then (FieldType.boolean) else (bif Nat.blt m 63 then (FieldType.boolean) else none)))) else (bif Nat.blt m 69 then (bif Nat.blt m 66 then (bif Nat.blt m 65 then (FieldType.boolean) else (FieldType.int)) else none) else (bif Nat.blt m 71 then (bif Nat.blt m 70 then none else (FieldType.int)) else (FieldType.int)))))) else (bif Nat.blt m 111 then (bif Nat.blt m 92 then (bif Nat.blt m 83 then (bif Nat.blt m 78 then (bif Nat.blt m 76 then (FieldType.int) else (bif Nat.blt m 77 then (FieldType.int) else none)) else (bif Nat.blt m 80 then (FieldType.boolean) else (bif Nat.blt m 81 then (FieldType.boolean) else (bif Nat.blt m 82 then (FieldType.boolean) else (FieldType.int))))) else (bif Nat.blt m 87 then (FieldType.int) else (bif Nat.blt m 89 then (bif Nat.blt m 88 then (FieldType.int) else (FieldType.boolean)) else none))) else (bif Nat.blt m 101 then (bif Nat.blt m 96 then (bif Nat.blt m 94 then (bif Nat.blt m 93 then (FieldType.long) else none) else (bif Nat.blt m 95 then (FieldType.long) else none)) else (bif Nat.blt m 98 then none else (bif Nat.blt m 99 then (FieldType.int) else (bif Nat.blt m 100 then none else (FieldType.int))))) else (bif Nat.blt m 106 then (FieldType.int) else (bif Nat.blt m 108 then (FieldType.boolean) else (bif Nat.blt m 109 then (FieldType.boolean) else (FieldType.int)))))) else (bif Nat.blt m 130 then (bif Nat.blt m 120 then (bif Nat.blt m 115 then (bif Nat.blt m 113 then (bif Nat.blt m 112 then (FieldType.boolean) else (FieldType.int)) else none) else (bif Nat.blt m 117 then (bif Nat.blt m 116 then none else (FieldType.int)) else (bif Nat.blt m 118 then none else (bif Nat.blt m 119 then (FieldType.boolean) else (FieldType.int))))) else (bif Nat.blt m 125 then (bif Nat.blt m 122 then (FieldType.int) else (bif Nat.blt m 123 then (FieldType.int) else (bif Nat.blt m 124 then (FieldType.int) else none))) else (bif Nat.blt m 127 then (FieldType.int) else (bif Nat.blt m 128 then (FieldType.int) else (FieldType.boolean))))) else (bif Nat.blt m 139 then (bif Nat.blt m 134 then (FieldType.boolean) else (bif Nat.blt m 136 then (bif Nat.blt m 135 then (FieldType.int) else none) else (bif Nat.blt m 137 then (FieldType.int) else (bif Nat.blt m 138 then (FieldType.int) else none)))) else (bif Nat.blt m 144 then (bif Nat.blt m 141 then (FieldType.int) else (bif Nat.blt m 142 then (FieldType.int) else (bif Nat.blt m 143 then (FieldType.boolean) else (FieldType.int)))) else (bif Nat.blt m 146 then (FieldType.int) else (bif Nat.blt m 147 then (FieldType.int) else (bif Nat.blt m 148 then (FieldType.int) else ((FieldType.object "LotNobodyWants$Thought")))))))))) else (bif Nat.blt m 223 then (bif Nat.blt m 186 then (bif Nat.blt m 167 then (bif Nat.blt m 158 then (bif Nat.blt m 153 then (bif Nat.blt m 151 then (FieldType.int) else (FieldType.long)) else (bif Nat.blt m 155 then (bif Nat.blt m 154 then (FieldType.boolean) else (FieldType.long)) else (bif Nat.blt m 156 then (FieldType.long) else (FieldType.int)))) else (bif Nat.blt m 162 then (bif Nat.blt m 160 then (bif Nat.blt m 159 then (FieldType.int) else (FieldType.long)) else (FieldType.int)) else (FieldType.int))) else (bif Nat.blt m 176 then (FieldType.int) else (bif Nat.blt m 181 then (FieldType.int) else (bif Nat.blt m 183 then (FieldType.int) else (bif Nat.blt m 184 then (FieldType.int) else (bif Nat.blt m 185 then (FieldType.long) else (FieldType.int))))))) else (bif Nat.blt m 204 then (bif Nat.blt m 195 then (bif Nat.blt m 190 then (bif Nat.blt m 188 then (FieldType.int) else (bif Nat.blt m 189 then none else (FieldType.boolean))) else (bif Nat.blt m 192 then (bif Nat.blt m 191 then (FieldType.int) else (FieldType.boolean)) else (bif Nat.blt m 193 then (FieldType.boolean) else (bif Nat.blt m 194 then (FieldType.int) else (FieldType.boolean))))) else (bif Nat.blt m 199 then (FieldType.int) else (bif Nat.blt m 201 then (bif Nat.blt m 200 then none else (FieldType.int)) else (bif Nat.blt m 202 then (FieldType.int) else (bif Nat.blt m 203 then (FieldType.int) else (FieldType.boolean)))))) else (bif Nat.blt m 213 then (bif Nat.blt m 208 then (bif Nat.blt m 206 then (bif Nat.blt m 205 then (FieldType.boolean) else (FieldType.int)) else (FieldType.int)) else (bif Nat.blt m 210 then (bif Nat.blt m 209 then (FieldType.int) else none) else (bif Nat.blt m 211 then none else (bif Nat.blt m 212 then (FieldType.int) else (FieldType.boolean))))) else (bif Nat.blt m 218 then none else (bif Nat.blt m 220 then none else (bif Nat.blt m 221 then none else (FieldType.int))))))) else (bif Nat.blt m 260 then (bif Nat.blt m 241 then (bif Nat.blt m 232 then (bif Nat.blt m 227 then (bif Nat.blt m 225 then (FieldType.int) else (bif Nat.blt m 226 then (FieldType.int) else none)) else (bif Nat.blt m 229 then (FieldType.int) else (bif Nat.blt m 230 then (FieldType.int) else (bif Nat.blt m 231 then (FieldType.boolean) else (FieldType.int))))) else (bif Nat.blt m 236 then (bif Nat.blt m 234 then (bif Nat.blt m 233 then (FieldType.boolean) else (FieldType.int)) else (FieldType.int)) else (bif Nat.blt m 238 then (bif Nat.blt m 237 then (FieldType.int) else none) else (bif Nat.blt m 239 then (FieldType.boolean) else (FieldType.int))))) else (bif Nat.blt m 250 then (bif Nat.blt m 245 then (FieldType.long) else (bif Nat.blt m 247 then (FieldType.int) else (bif Nat.blt m 248 then (FieldType.int) else (bif Nat.blt m 249 then (FieldType.int) else (FieldType.long))))) else (bif Nat.blt m 255 then (bif Nat.blt m 252 then (FieldType.long) else (bif Nat.blt m 253 then (FieldType.long) else (FieldType.int))) else (bif Nat.blt m 257 then (FieldType.int) else (bif Nat.blt m 258 then (FieldType.int) else (bif Nat.blt m 259 then (FieldType.boolean) else none)))))) else (bif Nat.blt m 279 then (bif Nat.blt m 269 then (bif Nat.blt m 264 then (bif Nat.blt m 262 then (bif Nat.blt m 261 then none else (FieldType.int)) else (FieldType.int)) else (FieldType.int)) else (bif Nat.blt m 274 then (bif Nat.blt m 271 then (bif Nat.blt m 270 then (FieldType.int) else (FieldType.boolean)) else (bif Nat.blt m 272 then none else (FieldType.int))) else (bif Nat.blt m 276 then (bif Nat.blt m 275 then (FieldType.boolean) else (FieldType.int)) else (FieldType.int)))) else (bif Nat.blt m 288 then (FieldType.int) else (bif Nat.blt m 293 then (bif Nat.blt m 290 then (bif Nat.blt m 289 then (FieldType.boolean) else (FieldType.int)) else (FieldType.int)) else (bif Nat.blt m 295 then (bif Nat.blt m 294 then (FieldType.long) else (FieldType.int)) else (bif Nat.blt m 296 then (FieldType.int) else (bif Nat.blt m 297 then (FieldType.int) else (some FieldType.boolean))))))))))
def mC (m : Nat) : Nat := (bif Nat.blt m 149 then (bif Nat.blt m 74 then (bif Nat.blt m 37 then (bif Nat.blt m 18 then (bif Nat.blt m 9 then (bif Nat.blt m 4 then 0 else (bif Nat.blt m 6 then 0 else (bif Nat.blt m 7 then 0 else 1))) else (bif Nat.blt m 13 then 1 else 2)) else (bif Nat.blt m 27 then (bif Nat.blt m 22 then 2 else (bif Nat.blt m 24 then 2 else (bif Nat.blt m 25 then 2 else (bif Nat.blt m 26 then 2 else 3)))) else 3)) else (bif Nat.blt m 55 then (bif Nat.blt m 46 then (bif Nat.blt m 41 then (bif Nat.blt m 39 then 3 else (bif Nat.blt m 40 then 3 else 4)) else 4) else (bif Nat.blt m 50 then 4 else 5)) else (bif Nat.blt m 64 then 5 else (bif Nat.blt m 69 then (bif Nat.blt m 66 then 5 else 6) else 6)))) else (bif Nat.blt m 111 then (bif Nat.blt m 92 then (bif Nat.blt m 83 then (bif Nat.blt m 78 then (bif Nat.blt m 76 then 6 else (bif Nat.blt m 77 then 6 else 7)) else 7) else 7) else (bif Nat.blt m 101 then (bif Nat.blt m 96 then 7 else 8) else 8)) else (bif Nat.blt m 130 then (bif Nat.blt m 120 then (bif Nat.blt m 115 then (bif Nat.blt m 113 then 8 else 9) else 9) else (bif Nat.blt m 125 then (bif Nat.blt m 122 then 9 else (bif Nat.blt m 123 then 9 else (bif Nat.blt m 124 then 9 else 10))) else 10)) else (bif Nat.blt m 139 then (bif Nat.blt m 134 then 10 else (bif Nat.blt m 136 then 10 else (bif Nat.blt m 137 then 10 else (bif Nat.blt m 138 then 10 else 11)))) else 11)))) else (bif Nat.blt m 223 then (bif Nat.blt m 186 then 11 else (bif Nat.blt m 204 then (bif Nat.blt m 195 then (bif Nat.blt m 190 then (bif Nat.blt m 188 then 11 else 12) else 12) else 12) else 12)) else (bif Nat.blt m 260 then 12 else (bif Nat.blt m 279 then 12 else (bif Nat.blt m 288 then 12 else (bif Nat.blt m 293 then 12 else (bif Nat.blt m 295 then 12 else (bif Nat.blt m 296 then 12 else (bif Nat.blt m 297 then 14 else 13)))))))))
def mK (m : Nat) : Nat := (bif Nat.blt m 149 then (bif Nat.blt m 74 then (bif Nat.blt m 37 then (bif Nat.blt m 18 then (bif Nat.blt m 9 then (bif Nat.blt m 4 then (bif Nat.blt m 2 then (bif Nat.blt m 1 then 1 else 0) else 0) else (bif Nat.blt m 6 then 0 else (bif Nat.blt m 7 then 0 else (bif Nat.blt m 8 then 1 else 0)))) else (bif Nat.blt m 13 then 0 else (bif Nat.blt m 15 then (bif Nat.blt m 14 then 1 else 0) else 0))) else (bif Nat.blt m 27 then (bif Nat.blt m 22 then 0 else (bif Nat.blt m 24 then 0 else (bif Nat.blt m 25 then 0 else (bif Nat.blt m 26 then 0 else 1)))) else (bif Nat.blt m 32 then (bif Nat.blt m 29 then 2 else 0) else 0))) else (bif Nat.blt m 55 then (bif Nat.blt m 46 then (bif Nat.blt m 41 then (bif Nat.blt m 39 then (bif Nat.blt m 38 then 0 else 2) else (bif Nat.blt m 40 then 2 else 1)) else 0) else (bif Nat.blt m 50 then (bif Nat.blt m 48 then (bif Nat.blt m 47 then 0 else 2) else 0) else (bif Nat.blt m 52 then (bif Nat.blt m 51 then 1 else 0) else 0))) else (bif Nat.blt m 64 then (bif Nat.blt m 59 then 0 else (bif Nat.blt m 61 then (bif Nat.blt m 60 then 2 else 0) else 0)) else (bif Nat.blt m 69 then (bif Nat.blt m 66 then 2 else (bif Nat.blt m 67 then 1 else 0)) else (bif Nat.blt m 71 then (bif Nat.blt m 70 then 0 else 2) else 0))))) else (bif Nat.blt m 111 then (bif Nat.blt m 92 then (bif Nat.blt m 83 then (bif Nat.blt m 78 then (bif Nat.blt m 76 then 2 else (bif Nat.blt m 77 then 0 else 1)) else (bif Nat.blt m 80 then (bif Nat.blt m 79 then 2 else 0) else 0)) else 0) else (bif Nat.blt m 101 then (bif Nat.blt m 96 then (bif Nat.blt m 94 then 0 else (bif Nat.blt m 95 then 2 else 0)) else (bif Nat.blt m 98 then (bif Nat.blt m 97 then 1 else 0) else 0)) else 0)) else (bif Nat.blt m 130 then (bif Nat.blt m 120 then (bif Nat.blt m 115 then (bif Nat.blt m 113 then 0 else (bif Nat.blt m 114 then 1 else 0)) else (bif Nat.blt m 117 then (bif Nat.blt m 116 then 2 else 0) else 0)) else (bif Nat.blt m 125 then (bif Nat.blt m 122 then 0 else (bif Nat.blt m 123 then 0 else (bif Nat.blt m 124 then 0 else 1))) else 0)) else (bif Nat.blt m 139 then (bif Nat.blt m 134 then 0 else (bif Nat.blt m 136 then 0 else (bif Nat.blt m 137 then 0 else (bif Nat.blt m 138 then 0 else 1)))) else 0)))) else (bif Nat.blt m 223 then (bif Nat.blt m 186 then (bif Nat.blt m 167 then (bif Nat.blt m 158 then (bif Nat.blt m 153 then 0 else (bif Nat.blt m 155 then 2 else 0)) else 0) else (bif Nat.blt m 176 then (bif Nat.blt m 171 then (bif Nat.blt m 169 then 0 else (bif Nat.blt m 170 then 2 else 0)) else 0) else 0)) else (bif Nat.blt m 204 then (bif Nat.blt m 195 then (bif Nat.blt m 190 then (bif Nat.blt m 188 then 0 else (bif Nat.blt m 189 then 1 else 2)) else (bif Nat.blt m 192 then (bif Nat.blt m 191 then 2 else 0) else 0)) else 0) else (bif Nat.blt m 213 then (bif Nat.blt m 208 then 0 else (bif Nat.blt m 210 then 0 else (bif Nat.blt m 211 then 0 else (bif Nat.blt m 212 then 2 else 0)))) else (bif Nat.blt m 218 then 0 else (bif Nat.blt m 220 then 0 else (bif Nat.blt m 221 then 0 else (bif Nat.blt m 222 then 0 else 2))))))) else (bif Nat.blt m 260 then (bif Nat.blt m 241 then (bif Nat.blt m 232 then 0 else (bif Nat.blt m 236 then 0 else (bif Nat.blt m 238 then 0 else (bif Nat.blt m 239 then 2 else 0)))) else (bif Nat.blt m 250 then (bif Nat.blt m 245 then (bif Nat.blt m 243 then (bif Nat.blt m 242 then 2 else 0) else 0) else 0) else 0)) else (bif Nat.blt m 279 then (bif Nat.blt m 269 then 0 else (bif Nat.blt m 274 then 0 else (bif Nat.blt m 276 then (bif Nat.blt m 275 then 2 else 0) else 0))) else (bif Nat.blt m 288 then 0 else (bif Nat.blt m 293 then (bif Nat.blt m 290 then (bif Nat.blt m 289 then 2 else 0) else 0) else (bif Nat.blt m 295 then 0 else (bif Nat.blt m 296 then 0 else 2))))))))
def nA (m : Nat) : Nat := (bif Nat.blt m 149 then (bif Nat.blt m 74 then (bif Nat.blt m 37 then (bif Nat.blt m 18 then (bif Nat.blt m 9 then (bif Nat.blt m 4 then (bif Nat.blt m 2 then (bif Nat.blt m 1 then 2 else 1) else (bif Nat.blt m 3 then 1 else 5)) else (bif Nat.blt m 6 then 1 else (bif Nat.blt m 7 then 1 else 2))) else (bif Nat.blt m 13 then (bif Nat.blt m 11 then (bif Nat.blt m 10 then 2 else 1) else 1) else (bif Nat.blt m 15 then 3 else (bif Nat.blt m 16 then 1 else 2)))) else (bif Nat.blt m 27 then (bif Nat.blt m 22 then 1 else (bif Nat.blt m 24 then 2 else (bif Nat.blt m 25 then 1 else (bif Nat.blt m 26 then 3 else 1)))) else (bif Nat.blt m 32 then (bif Nat.blt m 29 then (bif Nat.blt m 28 then 1 else 2) else 2) else (bif Nat.blt m 34 then 1 else (bif Nat.blt m 35 then 1 else (bif Nat.blt m 36 then 2 else 4)))))) else (bif Nat.blt m 55 then (bif Nat.blt m 46 then (bif Nat.blt m 41 then (bif Nat.blt m 39 then 2 else (bif Nat.blt m 40 then 5 else 1)) else (bif Nat.blt m 43 then 1 else (bif Nat.blt m 44 then 3 else (bif Nat.blt m 45 then 2 else 7)))) else (bif Nat.blt m 50 then (bif Nat.blt m 48 then 3 else (bif Nat.blt m 49 then 2 else 1)) else (bif Nat.blt m 52 then (bif Nat.blt m 51 then 1 else 2) else 1))) else (bif Nat.blt m 64 then (bif Nat.blt m 59 then (bif Nat.blt m 57 then 1 else (bif Nat.blt m 58 then 1 else 3)) else (bif Nat.blt m 61 then (bif Nat.blt m 60 then 1 else 2) else (bif Nat.blt m 62 then 3 else (bif Nat.blt m 63 then 2 else 1)))) else (bif Nat.blt m 69 then (bif Nat.blt m 66 then 1 else (bif Nat.blt m 67 then 3 else (bif Nat.blt m 68 then 3 else 1))) else (bif Nat.blt m 71 then (bif Nat.blt m 70 then 2 else 4) else (bif Nat.blt m 72 then 4 else 1)))))) else (bif Nat.blt m 111 then (bif Nat.blt m 92 then (bif Nat.blt m 83 then (bif Nat.blt m 78 then (bif Nat.blt m 76 then (bif Nat.blt m 75 then 3 else 6) else 1) else (bif Nat.blt m 80 then (bif Nat.blt m 79 then 1 else 2) else 2)) else (bif Nat.blt m 87 then (bif Nat.blt m 85 then 2 else (bif Nat.blt m 86 then 2 else 3)) else (bif Nat.blt m 89 then (bif Nat.blt m 88 then 3 else 4) else (bif Nat.blt m 90 then 2 else (bif Nat.blt m 91 then 3 else 4))))) else (bif Nat.blt m 101 then (bif Nat.blt m 96 then (bif Nat.blt m 94 then (bif Nat.blt m 93 then 3 else 4) else (bif Nat.blt m 95 then 2 else 6)) else (bif Nat.blt m 98 then (bif Nat.blt m 97 then 3 else 1) else (bif Nat.blt m 99 then 2 else (bif Nat.blt m 100 then 3 else 2)))) else (bif Nat.blt m 106 then (bif Nat.blt m 103 then (bif Nat.blt m 102 then 2 else 1) else (bif Nat.blt m 104 then 2 else (bif Nat.blt m 105 then 2 else 1))) else (bif Nat.blt m 108 then (bif Nat.blt m 107 then 2 else 3) else (bif Nat.blt m 109 then 3 else (bif Nat.blt m 110 then 3 else 6)))))) else (bif Nat.blt m 130 then (bif Nat.blt m 120 then (bif Nat.blt m 115 then (bif Nat.blt m 113 then 2 else 4) else (bif Nat.blt m 117 then 4 else (bif Nat.blt m 118 then 3 else 1))) else (bif Nat.blt m 125 then 1 else (bif Nat.blt m 127 then 1 else (bif Nat.blt m 128 then 1 else 2)))) else (bif Nat.blt m 139 then (bif Nat.blt m 134 then (bif Nat.blt m 132 then 2 else 3) else (bif Nat.blt m 136 then (bif Nat.blt m 135 then 3 else 4) else (bif Nat.blt m 137 then 2 else (bif Nat.blt m 138 then 4 else 1)))) else (bif Nat.blt m 144 then (bif Nat.blt m 141 then (bif Nat.blt m 140 then 2 else 3) else 4) else (bif Nat.blt m 146 then (bif Nat.blt m 145 then 3 else 2) else (bif Nat.blt m 147 then 1 else (bif Nat.blt m 148 then 2 else 1)))))))) else (bif Nat.blt m 223 then (bif Nat.blt m 186 then (bif Nat.blt m 167 then (bif Nat.blt m 158 then (bif Nat.blt m 153 then (bif Nat.blt m 151 then 4 else (bif Nat.blt m 152 then 4 else 3)) else (bif Nat.blt m 155 then (bif Nat.blt m 154 then 1 else 3) else (bif Nat.blt m 156 then 3 else 1))) else (bif Nat.blt m 162 then (bif Nat.blt m 160 then (bif Nat.blt m 159 then 2 else 4) else (bif Nat.blt m 161 then 3 else 4)) else (bif Nat.blt m 164 then (bif Nat.blt m 163 then 4 else 3) else (bif Nat.blt m 165 then 3 else (bif Nat.blt m 166 then 1 else 3))))) else (bif Nat.blt m 176 then (bif Nat.blt m 171 then (bif Nat.blt m 169 then 4 else (bif Nat.blt m 170 then 1 else 3)) else (bif Nat.blt m 173 then (bif Nat.blt m 172 then 2 else 1) else (bif Nat.blt m 174 then 2 else 1))) else (bif Nat.blt m 181 then (bif Nat.blt m 178 then 1 else (bif Nat.blt m 179 then 2 else (bif Nat.blt m 180 then 4 else 2))) else (bif Nat.blt m 183 then (bif Nat.blt m 182 then 3 else 4) else (bif Nat.blt m 184 then 4 else (bif Nat.blt m 185 then 3 else 6)))))) else (bif Nat.blt m 204 then (bif Nat.blt m 195 then (bif Nat.blt m 190 then (bif Nat.blt m 188 then (bif Nat.blt m 187 then 3 else 2) else (bif Nat.blt m 189 then 1 else 3)) else (bif Nat.blt m 192 then (bif Nat.blt m 191 then 1 else 2) else (bif Nat.blt m 193 then 2 else (bif Nat.blt m 194 then 2 else 3)))) else (bif Nat.blt m 199 then (bif Nat.blt m 197 then (bif Nat.blt m 196 then 4 else 3) else (bif Nat.blt m 198 then 4 else 3)) else (bif Nat.blt m 201 then 4 else (bif Nat.blt m 202 then 1 else (bif Nat.blt m 203 then 1 else 3))))) else (bif Nat.blt m 213 then (bif Nat.blt m 208 then (bif Nat.blt m 206 then (bif Nat.blt m 205 then 3 else 4) else (bif Nat.blt m 207 then 3 else 2)) else (bif Nat.blt m 210 then 1 else (bif Nat.blt m 211 then 3 else 1))) else (bif Nat.blt m 218 then 1 else (bif Nat.blt m 220 then 1 else (bif Nat.blt m 221 then 1 else (bif Nat.blt m 222 then 2 else 3))))))) else (bif Nat.blt m 260 then (bif Nat.blt m 241 then (bif Nat.blt m 232 then (bif Nat.blt m 227 then (bif Nat.blt m 225 then (bif Nat.blt m 224 then 4 else 2) else 1) else (bif Nat.blt m 229 then 2 else (bif Nat.blt m 230 then 1 else 3))) else (bif Nat.blt m 236 then (bif Nat.blt m 234 then 2 else (bif Nat.blt m 235 then 2 else 3)) else (bif Nat.blt m 238 then 3 else (bif Nat.blt m 239 then 1 else 4)))) else (bif Nat.blt m 250 then (bif Nat.blt m 245 then (bif Nat.blt m 243 then (bif Nat.blt m 242 then 3 else 4) else 3) else (bif Nat.blt m 247 then 1 else (bif Nat.blt m 248 then 2 else (bif Nat.blt m 249 then 2 else 5)))) else (bif Nat.blt m 255 then (bif Nat.blt m 252 then (bif Nat.blt m 251 then 7 else 4) else (bif Nat.blt m 253 then 4 else (bif Nat.blt m 254 then 3 else 4))) else (bif Nat.blt m 257 then 3 else (bif Nat.blt m 258 then 1 else (bif Nat.blt m 259 then 1 else 3)))))) else (bif Nat.blt m 279 then (bif Nat.blt m 269 then (bif Nat.blt m 264 then (bif Nat.blt m 262 then 4 else (bif Nat.blt m 263 then 2 else 4)) else (bif Nat.blt m 266 then (bif Nat.blt m 265 then 3 else 2) else (bif Nat.blt m 267 then 1 else (bif Nat.blt m 268 then 2 else 1)))) else (bif Nat.blt m 274 then (bif Nat.blt m 271 then (bif Nat.blt m 270 then 1 else 2) else 2) else (bif Nat.blt m 276 then (bif Nat.blt m 275 then 2 else 3) else 3))) else (bif Nat.blt m 288 then (bif Nat.blt m 283 then 3 else (bif Nat.blt m 285 then 3 else (bif Nat.blt m 286 then 3 else (bif Nat.blt m 287 then 4 else 2)))) else (bif Nat.blt m 293 then (bif Nat.blt m 290 then (bif Nat.blt m 289 then 1 else 3) else (bif Nat.blt m 291 then 4 else (bif Nat.blt m 292 then 3 else 4))) else (bif Nat.blt m 295 then (bif Nat.blt m 294 then 3 else 6) else (bif Nat.blt m 296 then 3 else 1))))))))
def isIni (m : Nat) : Bool := Nat.beq (mK m) 1
def cT (c : Nat) : u_T := (bif Nat.blt c 6 then (bif Nat.blt c 3 then (bif Nat.blt c 1 then TX0 else (bif Nat.blt c 2 then TX1 else TX2)) else (bif Nat.blt c 4 then TX3 else (bif Nat.blt c 5 then TX4 else TX5))) else (bif Nat.blt c 9 then (bif Nat.blt c 7 then TX6 else (bif Nat.blt c 8 then TX7 else TX8)) else (bif Nat.blt c 11 then (bif Nat.blt c 10 then TX9 else TX10) else (bif Nat.blt c 12 then TX11 else TX12))))
def cTy (c : Nat) : Nat → FieldType := (bif Nat.blt c 6 then (bif Nat.blt c 3 then (bif Nat.blt c 1 then tyX0 else (bif Nat.blt c 2 then tyX1 else tyX2)) else (bif Nat.blt c 4 then tyX3 else (bif Nat.blt c 5 then tyX4 else tyX5))) else (bif Nat.blt c 9 then (bif Nat.blt c 7 then tyX6 else (bif Nat.blt c 8 then tyX7 else tyX8)) else (bif Nat.blt c 11 then (bif Nat.blt c 10 then tyX9 else tyX10) else (bif Nat.blt c 12 then tyX11 else tyX12))))
def nF (c : Nat) : Nat := (bif Nat.blt c 7 then (bif Nat.blt c 3 then (bif Nat.blt c 1 then 7 else 8) else (bif Nat.blt c 5 then (bif Nat.blt c 4 then 5 else 6) else (bif Nat.blt c 6 then 4 else 10))) else (bif Nat.blt c 11 then (bif Nat.blt c 9 then (bif Nat.blt c 8 then 4 else 3) else (bif Nat.blt c 10 then 12 else 3)) else (bif Nat.blt c 13 then (bif Nat.blt c 12 then 11 else 60) else 0)))
def fk (c f : Nat) : Nat := (bif Nat.blt c 6 then (bif Nat.blt c 3 then (bif Nat.blt c 1 then (bif Nat.blt f 3 then 0 else (bif Nat.blt f 5 then 0 else 1)) else (bif Nat.blt c 2 then (bif Nat.blt f 4 then 0 else (bif Nat.blt f 6 then (bif Nat.blt f 5 then 0 else 1) else (bif Nat.blt f 7 then 1 else 3))) else (bif Nat.blt f 4 then (bif Nat.blt f 2 then 0 else (bif Nat.blt f 3 then 0 else 1)) else (bif Nat.blt f 6 then 1 else 2)))) else (bif Nat.blt c 4 then (bif Nat.blt f 2 then 0 else 1) else (bif Nat.blt c 5 then (bif Nat.blt f 3 then 0 else (bif Nat.blt f 4 then 0 else 1)) else (bif Nat.blt f 2 then 0 else 1)))) else (bif Nat.blt c 9 then (bif Nat.blt c 7 then (bif Nat.blt f 5 then 0 else (bif Nat.blt f 7 then (bif Nat.blt f 6 then 0 else 1) else 1)) else 0) else (bif Nat.blt c 11 then (bif Nat.blt c 10 then (bif Nat.blt f 6 then (bif Nat.blt f 3 then 0 else (bif Nat.blt f 4 then 0 else (bif Nat.blt f 5 then 0 else 3))) else (bif Nat.blt f 9 then 1 else (bif Nat.blt f 10 then 1 else (bif Nat.blt f 11 then 2 else 1)))) else (bif Nat.blt f 1 then 0 else 1)) else (bif Nat.blt c 12 then 0 else (bif Nat.blt f 30 then (bif Nat.blt f 15 then (bif Nat.blt f 7 then (bif Nat.blt f 3 then (bif Nat.blt f 1 then 1 else (bif Nat.blt f 2 then 1 else 0)) else (bif Nat.blt f 5 then 0 else (bif Nat.blt f 6 then 0 else 1))) else (bif Nat.blt f 11 then 0 else (bif Nat.blt f 13 then 1 else 0))) else (bif Nat.blt f 22 then (bif Nat.blt f 18 then 0 else 1) else (bif Nat.blt f 26 then (bif Nat.blt f 24 then (bif Nat.blt f 23 then 1 else 0) else 0) else 0))) else (bif Nat.blt f 45 then (bif Nat.blt f 37 then (bif Nat.blt f 33 then (bif Nat.blt f 31 then 3 else (bif Nat.blt f 32 then 0 else 1)) else (bif Nat.blt f 35 then 1 else (bif Nat.blt f 36 then 0 else 1))) else (bif Nat.blt f 41 then 1 else (bif Nat.blt f 43 then 1 else (bif Nat.blt f 44 then 2 else 1)))) else (bif Nat.blt f 52 then (bif Nat.blt f 48 then (bif Nat.blt f 46 then 0 else (bif Nat.blt f 47 then 3 else 1)) else (bif Nat.blt f 50 then (bif Nat.blt f 49 then 1 else 0) else 0)) else (bif Nat.blt f 56 then (bif Nat.blt f 54 then (bif Nat.blt f 53 then 1 else 0) else (bif Nat.blt f 55 then 1 else 0)) else 0))))))))
def ffin (c f : Nat) : Bool := (bif Nat.blt c 6 then (bif Nat.blt c 3 then (bif Nat.blt c 1 then (bif Nat.blt f 3 then true else (bif Nat.blt f 5 then true else false)) else (bif Nat.blt c 2 then (bif Nat.blt f 4 then true else (bif Nat.blt f 6 then (bif Nat.blt f 5 then true else false) else false)) else (bif Nat.blt f 4 then (bif Nat.blt f 2 then true else (bif Nat.blt f 3 then true else false)) else false))) else (bif Nat.blt c 4 then (bif Nat.blt f 2 then true else false) else (bif Nat.blt c 5 then (bif Nat.blt f 3 then true else (bif Nat.blt f 4 then true else false)) else (bif Nat.blt f 2 then true else false)))) else (bif Nat.blt c 9 then (bif Nat.blt c 7 then (bif Nat.blt f 5 then true else (bif Nat.blt f 7 then (bif Nat.blt f 6 then true else false) else false)) else true) else (bif Nat.blt c 11 then (bif Nat.blt c 10 then (bif Nat.blt f 6 then (bif Nat.blt f 3 then true else (bif Nat.blt f 4 then true else (bif Nat.blt f 5 then true else false))) else false) else (bif Nat.blt f 1 then true else false)) else (bif Nat.blt c 12 then true else (bif Nat.blt f 30 then (bif Nat.blt f 15 then (bif Nat.blt f 7 then (bif Nat.blt f 3 then (bif Nat.blt f 1 then false else (bif Nat.blt f 2 then false else true)) else (bif Nat.blt f 5 then true else (bif Nat.blt f 6 then true else false))) else (bif Nat.blt f 11 then true else (bif Nat.blt f 13 then false else true))) else (bif Nat.blt f 22 then (bif Nat.blt f 18 then true else false) else (bif Nat.blt f 26 then (bif Nat.blt f 24 then (bif Nat.blt f 23 then false else true) else true) else true))) else (bif Nat.blt f 45 then (bif Nat.blt f 37 then (bif Nat.blt f 33 then (bif Nat.blt f 31 then false else (bif Nat.blt f 32 then true else false)) else (bif Nat.blt f 35 then false else (bif Nat.blt f 36 then true else false))) else false) else (bif Nat.blt f 52 then (bif Nat.blt f 48 then (bif Nat.blt f 46 then true else false) else (bif Nat.blt f 50 then (bif Nat.blt f 49 then false else true) else true)) else (bif Nat.blt f 56 then (bif Nat.blt f 54 then (bif Nat.blt f 53 then false else true) else (bif Nat.blt f 55 then false else true)) else true))))))))
def caC (c : Nat) : List (Nat × Nat) := (bif Nat.blt c 7 then (bif Nat.blt c 3 then (bif Nat.blt c 1 then [(33, 4), (42, 135)] else (bif Nat.blt c 2 then [(32, 126), (42, 127), (54, 134), (58, 135)] else [(23, 97), (28, 82), (44, 92), (48, 130), (67, 16), (70, 17), (73, 107), (77, 109), (80, 99), (84, 25)])) else (bif Nat.blt c 5 then (bif Nat.blt c 4 then [(18, 27), (29, 29), (41, 34), (48, 30), (52, 39), (59, 38), (62, 37)] else [(37, 49), (41, 46), (45, 48), (49, 47)]) else (bif Nat.blt c 6 then [(17, 40), (29, 42), (32, 57), (36, 56), (40, 58), (44, 43), (48, 60), (52, 59), (56, 65), (59, 64), (62, 63), (65, 62), (68, 61)] else [(32, 97), (44, 102), (50, 101), (57, 68), (60, 69), (64, 126), (69, 134), (73, 131), (77, 98), (80, 127), (88, 125), (91, 100), (94, 70), (98, 110), (102, 74), (109, 75), (113, 71)]))) else (bif Nat.blt c 11 then (bif Nat.blt c 9 then (bif Nat.blt c 8 then [(26, 79), (30, 78), (33, 81), (36, 80), (39, 84), (43, 88), (47, 82), (50, 94)] else [(23, 134), (29, 129), (33, 126), (37, 98), (41, 131), (44, 106), (47, 108), (51, 128), (54, 107), (57, 100), (60, 127), (63, 110), (67, 41), (73, 45), (85, 125), (88, 109), (91, 99), (95, 102)]) else (bif Nat.blt c 10 then [(30, 82), (36, 92), (64, 115), (68, 15), (74, 117), (78, 16), (81, 17), (84, 107), (92, 116), (96, 98), (99, 99), (103, 100), (106, 134), (111, 127), (114, 110), (118, 118), (122, 296), (127, 126)] else [(23, 134), (27, 129), (31, 128), (38, 132), (42, 135)])) else (bif Nat.blt c 13 then (bif Nat.blt c 12 then [(9, 124), (18, 40), (25, 50), (32, 96), (41, 77), (48, 13), (57, 113), (66, 66), (73, 7), (82, 0), (89, 26), (94, 133), (98, 136), (102, 137), (106, 79), (110, 85), (113, 142), (119, 82), (122, 92), (126, 132), (129, 134), (132, 3), (136, 135), (140, 128), (143, 148), (147, 100), (150, 101), (153, 51), (156, 55), (160, 54), (164, 44), (168, 53), (171, 130), (174, 109), (177, 97), (180, 129), (183, 14), (186, 22), (190, 98), (193, 18), (196, 19), (199, 153), (206, 23), (209, 20), (213, 21), (216, 154), (220, 24), (223, 102), (226, 125), (229, 126), (232, 107), (235, 67), (238, 72), (241, 73), (244, 76), (247, 103), (250, 162), (258, 105), (261, 104), (264, 296), (269, 166), (273, 80), (276, 114), (280, 119), (283, 120), (286, 121), (289, 122), (292, 123), (295, 169), (298, 111), (301, 112), (305, 8), (308, 127), (311, 9), (314, 11), (317, 10), (321, 12), (324, 1), (327, 5), (330, 2), (333, 6), (336, 27), (339, 31), (342, 36), (344, 34), (347, 35), (350, 29), (353, 89), (356, 90), (359, 78), (362, 91), (365, 86), (368, 93), (371, 87), (374, 88), (377, 95), (381, 81), (384, 83), (387, 30), (390, 28), (393, 52), (396, 32), (399, 33)] else [(118, 189), (125, 191), (129, 194), (133, 195), (137, 288), (142, 198), (152, 199), (156, 192), (159, 203), (162, 204), (165, 200), (168, 226), (171, 227), (175, 228), (193, 209), (196, 208), (200, 210), (204, 211), (207, 212), (211, 214), (214, 219), (217, 213), (220, 215), (223, 216), (226, 217), (229, 218), (232, 220), (235, 222), (238, 223), (241, 221), (251, 230), (254, 224), (257, 232), (260, 231), (263, 235), (272, 236), (275, 238), (278, 234), (281, 237), (288, 241), (292, 229), (295, 250), (299, 248), (302, 251), (306, 249), (310, 190), (338, 258), (341, 259), (348, 260), (353, 262), (371, 271), (375, 275), (378, 274), (381, 276), (384, 277), (387, 278), (390, 279), (393, 283), (396, 281), (399, 282), (402, 280), (405, 284), (408, 270), (411, 285), (414, 291)]) else (bif Nat.blt c 14 then [(9, 138), (12, 188), (13, 139), (17, 193), (18, 140), (22, 196), (23, 141), (27, 197), (28, 143), (31, 205), (32, 144), (35, 206), (36, 145), (39, 207), (40, 146), (44, 225), (45, 147), (48, 233), (49, 149), (52, 239), (53, 150), (56, 240), (57, 151), (61, 242), (62, 152), (66, 243), (67, 155), (70, 244), (71, 156), (74, 245), (75, 157), (78, 246), (79, 158), (82, 247), (83, 159), (86, 252), (87, 160), (90, 253), (91, 161), (94, 254), (95, 163), (98, 255), (99, 164), (102, 256), (103, 165), (106, 257), (107, 167), (110, 261), (111, 168), (114, 263), (115, 170), (118, 264), (119, 171), (122, 265), (123, 172), (126, 266), (127, 173), (130, 267), (131, 174), (134, 268), (135, 175), (138, 269), (139, 176), (142, 201), (143, 177), (146, 202), (147, 178), (150, 273), (151, 179), (154, 286), (155, 180), (158, 272), (159, 181), (162, 289), (163, 182), (166, 290), (169, 183), (173, 292), (174, 184), (177, 293), (178, 185), (182, 294), (183, 186), (186, 295), (187, 187), (190, 287)] else []))))
def oiC (c : Nat) : List Nat := (bif Nat.blt c 7 then (bif Nat.blt c 3 then (bif Nat.blt c 1 then [1] else [3]) else [3]) else (bif Nat.blt c 11 then [3] else (bif Nat.blt c 13 then (bif Nat.blt c 12 then [1] else [3]) else [])))
def acC (c : Nat) : List Nat := (bif Nat.blt c 7 then (bif Nat.blt c 3 then (bif Nat.blt c 1 then [36] else (bif Nat.blt c 2 then [48] else [])) else (bif Nat.blt c 5 then (bif Nat.blt c 4 then [] else [28]) else [])) else (bif Nat.blt c 11 then (bif Nat.blt c 9 then (bif Nat.blt c 8 then [54] else []) else []) else []))
def mmC (c : Nat) : List (Nat × Nat) := (bif Nat.blt c 7 then (bif Nat.blt c 3 then (bif Nat.blt c 1 then [] else (bif Nat.blt c 2 then [] else [(34, 1)])) else (bif Nat.blt c 5 then (bif Nat.blt c 4 then [(35, 1)] else []) else (bif Nat.blt c 6 then [] else [(83, 1), (106, 0)]))) else (bif Nat.blt c 11 then (bif Nat.blt c 9 then (bif Nat.blt c 8 then [] else [(77, 1), (82, 0)]) else []) else (bif Nat.blt c 13 then (bif Nat.blt c 12 then [(253, 1)] else []) else [])))
def flC (c : Nat) : List (Nat × Nat × Nat) := (bif Nat.blt c 7 then (bif Nat.blt c 3 then (bif Nat.blt c 1 then [(7, 0, 0), (13, 0, 1), (17, 0, 2), (20, 0, 3), (23, 0, 4), (26, 0, 5), (30, 0, 6)] else (bif Nat.blt c 2 then [(9, 1, 0), (15, 1, 1), (19, 1, 2), (22, 1, 3), (25, 1, 4), (28, 1, 7), (38, 1, 5), (45, 1, 6)] else [(9, 2, 0), (15, 2, 1), (19, 2, 2), (40, 2, 3), (54, 2, 4), (57, 2, 5), (60, 2, 6), (64, 2, 7)])) else (bif Nat.blt c 5 then (bif Nat.blt c 4 then [(11, 3, 0), (15, 3, 1), (25, 3, 2), (32, 3, 3), (45, 3, 4)] else [(11, 4, 0), (15, 4, 1), (18, 4, 2), (21, 4, 3), (24, 4, 4), (34, 4, 5)]) else (bif Nat.blt c 6 then [(11, 5, 0), (18, 5, 1), (22, 5, 2), (26, 5, 3)] else [(9, 6, 0), (15, 6, 1), (19, 6, 2), (23, 6, 3), (26, 6, 4), (29, 6, 5), (37, 6, 6), (41, 6, 7), (48, 6, 8), (54, 6, 9)]))) else (bif Nat.blt c 11 then (bif Nat.blt c 9 then (bif Nat.blt c 8 then [(11, 7, 0), (15, 7, 1), (18, 7, 2), (23, 7, 3)] else [(9, 8, 0), (15, 8, 1), (19, 8, 2)]) else (bif Nat.blt c 10 then [(9, 9, 0), (15, 9, 1), (19, 9, 2), (23, 9, 3), (27, 9, 4), (40, 9, 5), (44, 9, 6), (48, 9, 7), (51, 9, 8), (54, 9, 9), (57, 9, 10), (61, 9, 11)] else [(11, 10, 0), (16, 10, 1), (20, 10, 2)])) else (bif Nat.blt c 13 then (bif Nat.blt c 12 then [(10, 11, 0), (19, 11, 1), (26, 11, 2), (35, 11, 3), (42, 11, 4), (51, 11, 5), (60, 11, 6), (67, 11, 7), (76, 11, 8), (83, 11, 9), (90, 11, 10)] else [(9, 12, 2), (15, 12, 3), (18, 12, 4), (21, 12, 5), (24, 12, 7), (27, 12, 8), (30, 12, 9), (33, 12, 10), (36, 12, 13), (39, 12, 14), (42, 12, 15), (45, 12, 16), (48, 12, 17), (52, 12, 23), (55, 12, 24), (58, 12, 25), (61, 12, 26), (65, 12, 27), (68, 12, 28), (71, 12, 29), (74, 12, 31), (77, 12, 35), (80, 12, 45), (83, 12, 49), (86, 12, 50), (89, 12, 51), (92, 12, 53), (95, 12, 55), (98, 12, 56), (101, 12, 57), (104, 12, 58), (108, 12, 59), (115, 12, 1), (122, 12, 6), (146, 12, 12), (149, 12, 11), (178, 12, 18), (181, 12, 19), (184, 12, 20), (187, 12, 22), (190, 12, 21), (244, 12, 30), (248, 12, 32), (266, 12, 33), (269, 12, 34), (313, 12, 37), (316, 12, 39), (319, 12, 42), (322, 12, 40), (325, 12, 41), (328, 12, 43), (332, 12, 44), (335, 12, 38), (345, 12, 36), (356, 12, 46), (359, 12, 47), (362, 12, 48), (365, 12, 52), (368, 12, 54)]) else [])))
def skC (c : Nat) : List (Nat × Nat) := (bif Nat.blt c 7 then (bif Nat.blt c 3 then [] else (bif Nat.blt c 5 then (bif Nat.blt c 4 then [(22, 1), (56, 2)] else []) else [])) else (bif Nat.blt c 11 then (bif Nat.blt c 9 then [] else (bif Nat.blt c 10 then [] else [(34, 3)])) else []))
def nwC (c : Nat) : List (Nat × Nat) := (bif Nat.blt c 7 then (bif Nat.blt c 3 then [] else (bif Nat.blt c 5 then [] else (bif Nat.blt c 6 then [(15, 4)] else []))) else (bif Nat.blt c 11 then [] else (bif Nat.blt c 13 then (bif Nat.blt c 12 then [(7, 10), (16, 4), (23, 5), (30, 8), (39, 7), (46, 2), (55, 9), (64, 6), (71, 1), (80, 0), (87, 3)] else []) else (bif Nat.blt c 14 then [(7, 11), (10, 12)] else []))))
def mnC (c : Nat) : List (Nat × Nat) := (bif Nat.blt c 7 then [] else (bif Nat.blt c 11 then (bif Nat.blt c 9 then (bif Nat.blt c 8 then [(21, 6)] else []) else (bif Nat.blt c 10 then [] else [(9, 5)])) else []))
def kiC (c : Nat) : List (Nat × Int32) := (bif Nat.blt c 7 then [] else (bif Nat.blt c 11 then [] else (bif Nat.blt c 13 then (bif Nat.blt c 12 then [(304, (1103515245))] else [(352, (1103515245))]) else (bif Nat.blt c 14 then [] else [(265, (1431655765)), (266, (858993459)), (267, (252645135))]))))
def klC (c : Nat) : List (Nat × Int64) := (bif Nat.blt c 7 then (bif Nat.blt c 3 then (bif Nat.blt c 1 then [] else (bif Nat.blt c 2 then [] else [(88, (12))])) else []) else (bif Nat.blt c 11 then (bif Nat.blt c 9 then [] else (bif Nat.blt c 10 then [(90, (12))] else [])) else (bif Nat.blt c 13 then (bif Nat.blt c 12 then [(117, (3)), (204, (-9223372036854775808))] else [(140, (2)), (284, (-9223372036854775808)), (286, (12))]) else (bif Nat.blt c 14 then [(167, (4294967295))] else []))))
def lkp {α : Type} : List (Nat × α) → Nat → Option α
  | [], _ => none
  | q :: t, k => bif Nat.beq q.1 k then some q.2 else lkp t k
theorem lkp_in {α : Type} {v : α} : ∀ {l : List (Nat × α)} {k : Nat}, lkp l k = some v → (k, v) ∈ l
  | [], _, h => by cases h
  | q :: t, k, h => by
    unfold lkp at h
    cases e : Nat.beq q.1 k with
    | true =>
      rw [e] at h
      cases h
      have e2 : q.1 = k := Nat.eq_of_beq_eq_true e
      subst e2
      exact List.mem_cons_self
    | false =>
      rw [e] at h
      exact List.mem_cons_of_mem _ (lkp_in h)
def ca (c k : Nat) : Option (Nat) := lkp (caC c) k
def fl (c k : Nat) : Option (Nat × Nat) := lkp (flC c) k
def sk (c k : Nat) : Option (Nat) := lkp (skC c) k
def nw (c k : Nat) : Option (Nat) := lkp (nwC c) k
def mn (c k : Nat) : Option (Nat) := lkp (mnC c) k
def ki (c k : Nat) : Option (Int32) := lkp (kiC c) k
def kl (c k : Nat) : Option (Int64) := lkp (klC c) k
def mm (c k : Nat) : Option (Nat) := lkp (mmC c) k
def oi (c k : Nat) : Bool := (oiC c).contains k
def ac (c k : Nat) : Bool := (acC c).contains k
def stN (j : Nat) : String × String × String := (bif Nat.blt j 2 then (bif Nat.blt j 1 then ("","","") else ("LotNobodyWants$Hats","ABOVE","[I")) else (bif Nat.blt j 3 then ("LotNobodyWants$Hats","OWN","[I") else ("LotNobodyWants$Year","LARGEST","[I")))
def stT (k : Nat) : List Int32 := (bif Nat.blt k 2 then (bif Nat.blt k 1 then [] else [(-1), 0, 0, 2, 1, 3, 0, 6]) else (bif Nat.blt k 3 then [1, 10, 11, 2, 20, 0, 0, 0, 0, 30, 0, 0, 0, 41, 40, 0, 0, 0, 0, 50, 0, 0, 60, 61, 70, 0, 0, 0, 81, 80, 0, 0] else [12, 1, 99, 9, 5, 1, 4, 11, 9]))
def stL (k : Nat) : Nat := (bif Nat.blt k 2 then (bif Nat.blt k 1 then 0 else 8) else (bif Nat.blt k 3 then 32 else 9))
def stV (k i : Nat) : Int32 := (stT k).getD i 0
def wLs (k : Nat) : Cond := .laysStatic (stN k).1 (stN k).2.1 (stN k).2.2
def kdOk (k y : Nat) : Bool := Nat.beq k (mK y)
abbrev vwCl : List vw_C := [(RX0, TX0, 7), (RX1, TX1, 8), (RX2, TX2, 8), (RX3, TX3, 5), (RX4, TX4, 6), (RX5, TX5, 4), (RX6, TX6, 10), (RX7, TX7, 4), (RX8, TX8, 3), (RX9, TX9, 12), (RX10, TX10, 3), (RX11, TX11, 11), (RX12, TX12, 60)]
def wCode (m : Nat) : Cond := .code (mY m) (mB m) (mL m) (mR m)
def wCa (c : Nat) (e : Nat × Nat) : Cond := .methodLink (cnm c) e.1 (mY e.2)
def wFl (c : Nat) (e : Nat × Nat × Nat) : Cond := .fieldLink (cnm c) e.1 (cnm e.2.1) (cT e.2.1 e.2.2).2.1 (cT e.2.1 e.2.2).2.2.1
def wSk (c : Nat) (e : Nat × Nat) : Cond := .fieldLink (cnm c) e.1 (stN e.2).1 (stN e.2).2.1 (stN e.2).2.2
def wNw (c : Nat) (e : Nat × Nat) : Cond := .classLink (cnm c) e.1 (cnm e.2)
def aty (t : Nat) : FieldType := bif Nat.beq t 1 then .int else bif Nat.beq t 2 then .byte else bif Nat.beq t 3 then .short else bif Nat.beq t 4 then .long else bif Nat.beq t 5 then .array .int else .array .long
def wMn (c : Nat) (e : Nat × Nat) : Cond := .classLink (cnm c) e.1 ("[" ++ (aty e.2).toString)
def wInit (c : Nat) : Cond := .initialized (cnm c)
def wIns (c : Nat) : Cond := .instantiable (cnm c) (nF c)
def wSel (m : Nat) : Cond := .selects (mY m).cls (mY m) (mY m)

def chk : List (Nat × Cond) → List Cond → Bool
  | [], _ => true
  | (0, w) :: r, v :: t => decide (w = v) && chk r t
  | (d + 1, w) :: r, _ :: t => chk ((d, w) :: r) t
  | _ :: _, [] => false
theorem chk_in : ∀ (t : List Cond) (l : List (Nat × Cond)), chk l t = true → ∀ q ∈ l, q.2 ∈ t
  | _, [], _, q, hq => absurd hq List.not_mem_nil
  | [], (0, w) :: r, h, q, hq => by simp [chk] at h
  | [], (d + 1, w) :: r, h, q, hq => by simp [chk] at h
  | v :: t, (0, w) :: r, h, q, hq => by
    simp only [chk, Bool.and_eq_true, decide_eq_true_eq] at h
    rcases List.mem_cons.mp hq with rfl | hq
    · rw [h.1]; exact List.mem_cons_self
    · exact List.mem_cons_of_mem _ (chk_in t r h.2 q hq)
  | v :: t, (d + 1, w) :: r, h, q, hq => by
    simp only [chk] at h
    rcases List.mem_cons.mp hq with rfl | hq
    · exact List.mem_cons_of_mem _ (chk_in t ((d, w) :: r) h (d, w) List.mem_cons_self)
    · exact List.mem_cons_of_mem _ (chk_in t ((d, w) :: r) h q (List.mem_cons_of_mem _ hq))
theorem chk_map {α : Type} {f : α → Cond} {l : List (Nat × α)} {t : List Cond} (h : chk (l.map fun q => (q.1, f q.2)) t = true) {a : α} (ha : a ∈ l.map (fun q => q.2)) : f a ∈ t := by
  obtain ⟨q, hq, rfl⟩ := List.mem_map.mp ha
  exact chk_in t _ h (q.1, f q.2) (List.mem_map.mpr ⟨q, hq, rfl⟩)
def wCode0 (m : Nat) : Cond := bif Nat.beq m 9999 then .code objectInit ⟨#[0xb1]⟩ 1 none else bif Nat.beq m 9998 then .code Lib.Math.max.name Lib.Math.max.code 2 (some .int) else bif Nat.beq m 9997 then .code Lib.Math.min.name Lib.Math.min.code 2 (some .int) else wCode m
def sgCode : List Nat := [138, 9999, 124, 40, 50, 96, 77, 13, 113, 66, 7, 0, 26, 139, 133, 128, 136, 135, 132, 140, 137, 141, 79, 85, 84, 80, 81, 78, 142, 82, 92, 88, 143, 134, 3, 4, 144, 148, 97, 100, 126, 98, 129, 101, 131, 145, 51, 146, 55, 42, 57, 58, 60, 56, 65, 64, 63, 43, 62, 61, 59, 54, 44, 53, 147, 130, 109, 107, 106, 108, 127, 110, 41, 45, 49, 46, 48, 47, 9997, 9998, 149, 14, 22, 16, 17, 99, 150, 18, 19, 151, 153, 23, 25, 20, 21, 154, 152, 24, 155, 102, 156, 125, 157, 158, 159, 67, 68, 69, 70, 72, 74, 75, 71, 73, 160, 76, 161, 103, 162, 163, 105, 104, 164, 165, 296, 166, 167, 114, 115, 15, 117, 118, 116, 119, 120, 121, 122, 123, 168, 169, 111, 112, 170, 8, 171, 172, 173, 9, 174, 11, 175, 10, 12, 176, 1, 5, 177, 2, 6, 178, 27, 31, 179, 36, 29, 30, 39, 38, 37, 180, 34, 35, 181, 89, 90, 182, 91, 183, 86, 93, 94, 184, 185, 87, 95, 186, 83, 28, 187, 52, 32, 33, 188, 193, 189, 196, 194, 191, 195, 197, 288, 201, 199, 202, 205, 203, 192, 204, 200, 198, 206, 226, 227, 228, 207, 225, 221, 220, 219, 218, 217, 216, 215, 214, 208, 211, 210, 212, 209, 213, 233, 232, 231, 230, 224, 223, 222, 239, 238, 234, 237, 236, 235, 240, 242, 241, 243, 244, 229, 245, 246, 247, 252, 251, 249, 250, 248, 253, 254, 255, 256, 257, 190, 261, 260, 258, 259, 263, 262, 264, 265, 266, 267, 268, 269, 272, 273, 286, 270, 277, 274, 271, 275, 276, 280, 279, 278, 283, 282, 281, 285, 284, 287, 289, 290, 292, 291, 293, 294, 295]
set_option maxRecDepth 100000 in
set_option maxHeartbeats 4000000 in
theorem sgCode_ok : lw_tbl.filter k2_isCode = sgCode.map wCode0 := by rfl
def wIm (m : Nat) : Cond := .instanceMethod (mY m)
def wSt (m : Nat) : Cond := .static (mY m)
def sgIm : List (Nat × Nat) := [(102, 138), (7, 124), (18, 40), (24, 50), (20, 96), (15, 77), (21, 13), (30, 113), (42, 66), (36, 7), (30, 0), (27, 26), (53, 139), (3, 133), (3, 128), (5, 136), (3, 135), (3, 132), (3, 140), (3, 137), (3, 141), (3, 79), (3, 85), (3, 84), (4, 80), (3, 81), (7, 142), (3, 82), (3, 92), (3, 88), (4, 143), (4, 134), (3, 3), (4, 4), (6, 144), (5, 148), (2, 97), (4, 100), (3, 126), (3, 98), (3, 129), (3, 101), (3, 131), (5, 145), (3, 51), (3, 146), (3, 55), (3, 42), (4, 57), (3, 58), (3, 60), (3, 56), (9, 63), (2, 43), (4, 62), (3, 61), (5, 54), (3, 44), (4, 53), (3, 147), (3, 130), (3, 109), (3, 107), (4, 106), (3, 108), (4, 127), (3, 110), (3, 41), (3, 45), (4, 49), (3, 46), (3, 48), (11, 149), (4, 14), (8, 22), (3, 16), (3, 17), (5, 99), (4, 150), (3, 18), (3, 19), (3, 151), (7, 23), (4, 25), (3, 20), (3, 21), (6, 152), (3, 24), (3, 155), (3, 102), (3, 156), (3, 125), (3, 157), (3, 158), (5, 159), (3, 67), (7, 68), (7, 69), (10, 72), (10, 71), (3, 73), (3, 160), (3, 76), (3, 161), (3, 103), (4, 162), (3, 163), (3, 105), (3, 104), (3, 164), (3, 165), (10, 166), (2, 167), (4, 114), (8, 15), (4, 117), (3, 118), (10, 116), (7, 119), (3, 120), (3, 121), (3, 122), (3, 123), (3, 168), (7, 111), (6, 112), (4, 170), (3, 8), (3, 171), (3, 172), (4, 173), (3, 9), (3, 174), (3, 11), (7, 175), (3, 10), (3, 12), (4, 176), (3, 1), (3, 5), (4, 177), (3, 2), (3, 6), (3, 178), (6, 31), (3, 179), (3, 36), (3, 29), (3, 30), (15, 37), (2, 180), (3, 34), (4, 35), (4, 181), (4, 89), (3, 90), (3, 182), (4, 91), (3, 183), (3, 86), (3, 93), (6, 184), (3, 185), (3, 87), (4, 95), (4, 186), (4, 83), (7, 187), (3, 52), (3, 32), (3, 33), (5, 188), (185, 193), (6, 196), (4, 194), (3, 191), (3, 195), (2, 197), (7, 201), (4, 199), (2, 202), (3, 205), (4, 203), (3, 192), (3, 204), (3, 200), (3, 198), (2, 206), (4, 226), (3, 227), (3, 228), (2, 207), (3, 225), (4, 221), (3, 220), (3, 219), (3, 218), (3, 217), (3, 216), (3, 215), (3, 214), (3, 208), (6, 210), (3, 212), (3, 209), (3, 213), (2, 233), (4, 232), (3, 231), (3, 230), (3, 224), (3, 223), (5, 239), (7, 234), (3, 237), (3, 236), (3, 235), (2, 240), (3, 242), (8, 243), (3, 244), (4, 229), (2, 245), (3, 246), (3, 247), (3, 252), (4, 251), (3, 249), (3, 250), (3, 248), (2, 253), (3, 254), (3, 255), (3, 256), (3, 257), (6, 261), (4, 260), (3, 258), (3, 259), (2, 263), (5, 262), (2, 264), (3, 265), (3, 266), (3, 267), (3, 268), (3, 269), (3, 272), (3, 273), (3, 286), (4, 270), (3, 277), (6, 271), (3, 275), (3, 276), (3, 280), (3, 279), (3, 278), (3, 283), (3, 282), (3, 281), (3, 285), (3, 284), (2, 287), (3, 289), (3, 290), (3, 292), (4, 291), (2, 293), (3, 294), (3, 295)]
set_option maxRecDepth 100000 in
theorem sgIm_ok : chk (sgIm.map fun q => (q.1, wIm q.2)) lw_tbl = true := by decide +kernel
def sgSel : List (Nat × Nat) := [(0, 142), (0, 4), (0, 148), (0, 57), (0, 58), (0, 60), (0, 56), (0, 63), (0, 62), (0, 61), (0, 106), (0, 108), (0, 49), (0, 46), (0, 48), (0, 25), (0, 68), (0, 69), (0, 71), (0, 162), (0, 166), (0, 117), (0, 118), (0, 116), (0, 37), (0, 194), (0, 191), (0, 195), (0, 199), (0, 203), (0, 192), (0, 204), (0, 200), (0, 198), (0, 226), (0, 227), (0, 228), (0, 221), (0, 220), (0, 219), (0, 218), (0, 217), (0, 216), (0, 215), (0, 214), (0, 208), (0, 210), (0, 212), (0, 209), (0, 213), (0, 232), (0, 231), (0, 230), (0, 224), (0, 223), (0, 234), (0, 237), (0, 236), (0, 235), (0, 229), (0, 251), (0, 249), (0, 250), (0, 248), (0, 260), (0, 258), (0, 259), (0, 262), (0, 270), (0, 277), (0, 271), (0, 275), (0, 276), (0, 280), (0, 279), (0, 278), (0, 283), (0, 282), (0, 281), (0, 285), (0, 284), (0, 291), (356, 139), (3, 133), (3, 128), (5, 136), (3, 135), (3, 132), (3, 140), (3, 137), (3, 141), (3, 79), (3, 85), (3, 84), (4, 80), (3, 81), (11, 82), (3, 92), (3, 88), (4, 143), (4, 134), (3, 3), (11, 144), (8, 97), (4, 100), (3, 126), (3, 98), (3, 129), (3, 101), (3, 131), (5, 145), (3, 51), (3, 146), (3, 55), (3, 42), (29, 43), (14, 54), (3, 44), (4, 53), (3, 147), (3, 130), (3, 109), (3, 107), (13, 127), (3, 110), (3, 41), (3, 45), (24, 149), (4, 14), (8, 22), (3, 16), (3, 17), (5, 99), (4, 150), (3, 18), (3, 19), (3, 151), (7, 23), (8, 20), (3, 21), (6, 152), (3, 24), (3, 155), (3, 102), (3, 156), (3, 125), (3, 157), (3, 158), (5, 159), (3, 67), (26, 72), (14, 73), (3, 160), (3, 76), (3, 161), (3, 103), (8, 163), (3, 105), (3, 104), (3, 164), (3, 165), (13, 167), (4, 114), (8, 15), (27, 119), (3, 120), (3, 121), (3, 122), (3, 123), (3, 168), (7, 111), (6, 112), (4, 170), (3, 8), (3, 171), (3, 172), (4, 173), (3, 9), (3, 174), (3, 11), (7, 175), (3, 10), (3, 12), (4, 176), (3, 1), (3, 5), (4, 177), (3, 2), (3, 6), (3, 178), (6, 31), (3, 179), (3, 36), (3, 29), (3, 30), (18, 180), (3, 34), (4, 35), (4, 181), (4, 89), (3, 90), (3, 182), (4, 91), (3, 183), (3, 86), (3, 93), (6, 184), (3, 185), (3, 87), (4, 95), (4, 186), (4, 83), (7, 187), (3, 52), (3, 32), (3, 33), (191, 193), (6, 196), (15, 197), (7, 201), (7, 202), (3, 205), (23, 206), (15, 207), (3, 225), (58, 233), (26, 239), (22, 240), (3, 242), (8, 243), (3, 244), (7, 245), (3, 246), (3, 247), (3, 252), (19, 253), (3, 254), (3, 255), (3, 256), (3, 257), (6, 261), (15, 263), (8, 264), (3, 265), (3, 266), (3, 267), (3, 268), (3, 269), (3, 272), (3, 273), (3, 286), (58, 287), (3, 289), (3, 290), (3, 292), (7, 293), (3, 294), (3, 295)]
set_option maxRecDepth 100000 in
theorem sgSel_ok : chk (sgSel.map fun q => (q.1, wSel q.2)) lw_tbl = true := by decide +kernel
def sgSt : List (Nat × Nat) := [(496, 78), (117, 65), (2, 64), (18, 59), (69, 47), (57, 153), (20, 154), (63, 70), (7, 74), (2, 75), (52, 296), (20, 115), (54, 169), (94, 27), (22, 39), (2, 38), (59, 94), (30, 28), (210, 189), (22, 288), (99, 211), (42, 222), (6, 238), (28, 241), (66, 190), (71, 274)]
set_option maxRecDepth 100000 in
theorem sgSt_ok : chk (sgSt.map fun q => (q.1, wSt q.2)) lw_tbl = true := by decide +kernel
def wCa1 (q : Nat × Nat × Nat) : Cond := wCa q.1 q.2
def sgCa : List (Nat × (Nat × Nat × Nat)) := [(101, (13, 9, 138)), (7, (11, 9, 124)), (18, (11, 18, 40)), (24, (11, 25, 50)), (4, (5, 17, 40)), (15, (11, 32, 96)), (15, (11, 41, 77)), (21, (11, 48, 13)), (30, (11, 57, 113)), (42, (11, 66, 66)), (36, (11, 73, 7)), (30, (11, 82, 0)), (27, (11, 89, 26)), (53, (13, 13, 139)), (3, (11, 94, 133)), (3, (10, 31, 128)), (5, (11, 98, 136)), (3, (10, 42, 135)), (3, (10, 38, 132)), (3, (13, 18, 140)), (3, (11, 102, 137)), (3, (13, 23, 141)), (3, (11, 106, 79)), (3, (11, 110, 85)), (3, (7, 39, 84)), (3, (7, 26, 79)), (0, (7, 36, 80)), (3, (7, 33, 81)), (3, (7, 30, 78)), (2, (11, 113, 142)), (4, (11, 119, 82)), (3, (11, 122, 92)), (3, (7, 43, 88)), (3, (7, 47, 82)), (0, (13, 28, 143)), (3, (11, 126, 132)), (0, (11, 129, 134)), (3, (11, 132, 3)), (3, (0, 33, 4)), (6, (11, 136, 135)), (0, (13, 32, 144)), (3, (11, 140, 128)), (0, (11, 143, 148)), (3, (11, 177, 97)), (3, (8, 23, 134)), (0, (11, 147, 100)), (3, (8, 33, 126)), (3, (8, 37, 98)), (3, (8, 29, 129)), (3, (11, 150, 101)), (3, (8, 41, 131)), (3, (10, 27, 129)), (0, (10, 23, 134)), (0, (13, 36, 145)), (3, (11, 153, 51)), (3, (13, 40, 146)), (3, (11, 156, 55)), (3, (5, 29, 42)), (3, (5, 32, 57)), (3, (5, 40, 58)), (3, (5, 48, 60)), (3, (5, 36, 56)), (3, (5, 56, 65)), (2, (5, 59, 64)), (2, (5, 62, 63)), (3, (5, 44, 43)), (3, (5, 65, 62)), (3, (5, 68, 61)), (3, (5, 52, 59)), (2, (11, 160, 54)), (3, (11, 164, 44)), (4, (11, 168, 53)), (3, (13, 45, 147)), (3, (11, 171, 130)), (3, (11, 174, 109)), (3, (8, 54, 107)), (3, (8, 44, 106)), (3, (8, 47, 108)), (3, (8, 51, 128)), (0, (8, 57, 100)), (0, (8, 60, 127)), (3, (8, 63, 110)), (3, (8, 67, 41)), (3, (8, 73, 45)), (3, (4, 37, 49)), (3, (4, 41, 46)), (3, (4, 45, 48)), (3, (4, 49, 47)), (8, (13, 49, 149)), (3, (11, 180, 129)), (0, (11, 183, 14)), (3, (2, 23, 97)), (0, (2, 28, 82)), (1, (2, 44, 92)), (0, (2, 48, 130)), (0, (11, 186, 22)), (3, (2, 67, 16)), (3, (2, 70, 17)), (3, (2, 73, 107)), (0, (2, 77, 109)), (0, (2, 80, 99)), (3, (11, 190, 98)), (0, (13, 53, 150)), (3, (11, 193, 18)), (3, (11, 196, 19)), (3, (13, 57, 151)), (3, (11, 199, 153)), (3, (11, 206, 23)), (3, (2, 84, 25)), (4, (11, 209, 20)), (3, (11, 213, 21)), (3, (11, 216, 154)), (2, (13, 62, 152)), (3, (11, 220, 24)), (3, (13, 67, 155)), (3, (11, 223, 102)), (3, (13, 71, 156)), (3, (11, 226, 125)), (3, (13, 75, 157)), (3, (13, 79, 158)), (3, (11, 229, 126)), (0, (11, 232, 107)), (0, (13, 83, 159)), (3, (11, 235, 67)), (3, (6, 32, 97)), (0, (6, 44, 102)), (0, (6, 50, 101)), (0, (6, 57, 68)), (3, (6, 64, 126)), (0, (6, 69, 134)), (0, (6, 73, 131)), (0, (6, 77, 98)), (0, (6, 60, 69)), (3, (6, 80, 127)), (1, (6, 88, 125)), (0, (6, 91, 100)), (0, (6, 94, 70)), (2, (6, 98, 110)), (0, (11, 238, 72)), (3, (6, 102, 74)), (2, (6, 109, 75)), (2, (6, 113, 71)), (4, (11, 241, 73)), (3, (13, 87, 160)), (3, (11, 244, 76)), (3, (13, 91, 161)), (3, (11, 247, 103)), (3, (11, 250, 162)), (4, (13, 95, 163)), (3, (11, 258, 105)), (3, (11, 261, 104)), (3, (13, 99, 164)), (3, (13, 103, 165)), (3, (11, 264, 296)), (5, (11, 269, 166)), (3, (13, 107, 167)), (3, (11, 273, 80)), (0, (11, 276, 114)), (3, (9, 30, 82)), (0, (9, 36, 92)), (0, (9, 64, 115)), (2, (9, 68, 15)), (3, (9, 74, 117)), (3, (9, 118, 118)), (3, (9, 127, 126)), (0, (9, 96, 98)), (0, (9, 122, 296)), (0, (9, 78, 16)), (0, (9, 81, 17)), (0, (9, 84, 107)), (1, (9, 92, 116)), (3, (9, 103, 100)), (0, (9, 106, 134)), (0, (9, 111, 127)), (0, (9, 114, 110)), (0, (9, 99, 99)), (0, (11, 280, 119)), (3, (11, 283, 120)), (3, (11, 286, 121)), (3, (11, 289, 122)), (3, (11, 292, 123)), (3, (13, 111, 168)), (3, (11, 295, 169)), (3, (11, 298, 111)), (3, (8, 85, 125)), (0, (8, 88, 109)), (0, (8, 91, 99)), (0, (11, 301, 112)), (3, (8, 95, 102)), (0, (13, 115, 170)), (3, (11, 305, 8)), (3, (13, 119, 171)), (3, (13, 123, 172)), (3, (11, 308, 127)), (0, (13, 127, 173)), (3, (11, 311, 9)), (3, (13, 131, 174)), (3, (11, 314, 11)), (3, (1, 32, 126)), (0, (1, 42, 127)), (1, (1, 54, 134)), (0, (13, 135, 175)), (3, (11, 317, 10)), (3, (11, 321, 12)), (3, (1, 58, 135)), (0, (13, 139, 176)), (3, (11, 324, 1)), (3, (11, 327, 5)), (3, (0, 42, 135)), (0, (13, 143, 177)), (3, (11, 330, 2)), (3, (11, 333, 6)), (3, (13, 147, 178)), (3, (11, 336, 27)), (2, (11, 339, 31)), (3, (13, 151, 179)), (3, (11, 342, 36)), (3, (3, 29, 29)), (3, (3, 48, 30)), (3, (3, 52, 39)), (2, (3, 59, 38)), (2, (3, 18, 27)), (4, (3, 62, 37)), (3, (13, 155, 180)), (3, (11, 344, 34)), (4, (11, 347, 35)), (3, (3, 41, 34)), (0, (13, 159, 181)), (3, (11, 350, 29)), (0, (11, 353, 89)), (3, (11, 356, 90)), (3, (13, 163, 182)), (3, (11, 359, 78)), (0, (11, 362, 91)), (3, (13, 169, 183)), (3, (11, 365, 86)), (3, (11, 368, 93)), (3, (7, 50, 94)), (2, (13, 174, 184)), (3, (13, 178, 185)), (3, (11, 371, 87)), (3, (11, 374, 88)), (0, (11, 377, 95)), (4, (13, 183, 186)), (3, (11, 381, 81)), (0, (11, 384, 83)), (3, (11, 387, 30)), (0, (11, 390, 28)), (2, (13, 187, 187)), (3, (11, 393, 52)), (3, (11, 396, 32)), (3, (11, 399, 33)), (5, (13, 12, 188)), (185, (13, 17, 193)), (3, (12, 118, 189)), (2, (13, 22, 196)), (3, (12, 129, 194)), (3, (12, 125, 191)), (3, (12, 133, 195)), (3, (13, 27, 197)), (3, (12, 137, 288)), (3, (13, 142, 201)), (3, (12, 152, 199)), (3, (13, 146, 202)), (3, (13, 31, 205)), (3, (12, 159, 203)), (3, (12, 156, 192)), (3, (12, 162, 204)), (3, (12, 165, 200)), (3, (12, 142, 198)), (3, (13, 35, 206)), (3, (12, 168, 226)), (3, (12, 171, 227)), (3, (12, 175, 228)), (3, (13, 39, 207)), (3, (13, 44, 225)), (3, (12, 241, 221)), (3, (12, 232, 220)), (3, (12, 214, 219)), (3, (12, 229, 218)), (3, (12, 226, 217)), (3, (12, 223, 216)), (3, (12, 220, 215)), (3, (12, 211, 214)), (3, (12, 196, 208)), (3, (12, 204, 211)), (2, (12, 200, 210)), (3, (12, 207, 212)), (3, (12, 193, 209)), (3, (12, 217, 213)), (3, (13, 48, 233)), (3, (12, 257, 232)), (3, (12, 260, 231)), (3, (12, 251, 230)), (3, (12, 254, 224)), (3, (12, 238, 223)), (3, (12, 235, 222)), (2, (13, 52, 239)), (3, (12, 275, 238)), (2, (12, 278, 234)), (3, (12, 281, 237)), (3, (12, 272, 236)), (3, (12, 263, 235)), (3, (13, 56, 240)), (3, (13, 61, 242)), (5, (12, 288, 241)), (2, (13, 66, 243)), (3, (13, 70, 244)), (3, (12, 292, 229)), (3, (13, 74, 245)), (3, (13, 78, 246)), (3, (13, 82, 247)), (3, (13, 86, 252)), (3, (12, 302, 251)), (3, (12, 306, 249)), (3, (12, 295, 250)), (3, (12, 299, 248)), (3, (13, 90, 253)), (3, (13, 94, 254)), (3, (13, 98, 255)), (3, (13, 102, 256)), (3, (13, 106, 257)), (3, (12, 310, 190)), (2, (13, 110, 261)), (3, (12, 348, 260)), (3, (12, 338, 258)), (3, (12, 341, 259)), (3, (13, 114, 263)), (4, (12, 353, 262)), (3, (13, 118, 264)), (3, (13, 122, 265)), (3, (13, 126, 266)), (3, (13, 130, 267)), (3, (13, 134, 268)), (3, (13, 138, 269)), (3, (13, 158, 272)), (3, (13, 150, 273)), (3, (13, 154, 286)), (3, (12, 408, 270)), (3, (12, 384, 277)), (3, (12, 378, 274)), (2, (12, 371, 271)), (3, (12, 375, 275)), (3, (12, 381, 276)), (3, (12, 402, 280)), (3, (12, 390, 279)), (3, (12, 387, 278)), (3, (12, 393, 283)), (3, (12, 399, 282)), (3, (12, 396, 281)), (3, (12, 411, 285)), (3, (12, 405, 284)), (3, (13, 190, 287)), (3, (13, 162, 289)), (3, (13, 166, 290)), (3, (13, 173, 292)), (3, (12, 414, 291)), (3, (13, 177, 293)), (3, (13, 182, 294)), (3, (13, 186, 295))]
set_option maxRecDepth 100000 in
theorem sgCa_ok : chk (sgCa.map fun q => (q.1, wCa1 q.2)) lw_tbl = true := by decide +kernel
def wOi (q : Nat × Nat) : Cond := .methodLink (cnm q.1) q.2 objectInit
def wAc (q : Nat × Nat) : Cond := .methodLink (cnm q.1) q.2 arraycopyName
def sgOi : List (Nat × (Nat × Nat)) := [(104, (11, 1)), (7, (10, 3)), (18, (4, 3)), (24, (5, 3)), (20, (8, 3)), (15, (7, 3)), (21, (2, 3)), (30, (9, 3)), (42, (6, 3)), (36, (1, 3)), (30, (0, 1)), (27, (3, 3)), (838, (12, 3))]
set_option maxRecDepth 100000 in
theorem sgOi_ok : chk (sgOi.map fun q => (q.1, wOi q.2)) lw_tbl = true := by decide +kernel
def sgAc : List (Nat × (Nat × Nat)) := [(533, (0, 36)), (112, (4, 28)), (392, (1, 48)), (149, (7, 54))]
set_option maxRecDepth 100000 in
theorem sgAc_ok : chk (sgAc.map fun q => (q.1, wAc q.2)) lw_tbl = true := by decide +kernel
def wFl1 (q : Nat × Nat × Nat × Nat) : Cond := wFl q.1 q.2
def wSk1 (q : Nat × Nat × Nat) : Cond := wSk q.1 q.2
def wNw1 (q : Nat × Nat × Nat) : Cond := wNw q.1 q.2
def wMn1 (q : Nat × Nat × Nat) : Cond := wMn q.1 q.2
def wKi (q : Nat × Nat × Int32) : Cond := .constant (cnm q.1) q.2.1 q.2.2
def wKl (q : Nat × Nat × Int64) : Cond := .constantLong (cnm q.1) q.2.1 q.2.2
def mmN (j : Nat) : MethodName := bif Nat.beq j 0 then Lib.Math.max.name else Lib.Math.min.name
def wMm (q : Nat × Nat × Nat) : Cond := .methodLink (cnm q.1) q.2.1 (mmN q.2.2)
def sgMm : List (Nat × (Nat × Nat × Nat)) := [(708, (8, 77, 1)), (2, (8, 82, 0)), (13, (2, 34, 1)), (119, (6, 83, 1)), (20, (6, 106, 0)), (24, (11, 253, 1)), (237, (3, 35, 1))]
set_option maxRecDepth 100000 in
theorem sgMm_ok : chk (sgMm.map fun q => (q.1, wMm q.2)) lw_tbl = true := by decide +kernel
def sgFl : List (Nat × (Nat × Nat × Nat × Nat)) := [(115, (10, 11, 10, 0)), (0, (10, 16, 10, 1)), (0, (10, 20, 10, 2)), (14, (4, 11, 4, 0)), (0, (4, 15, 4, 1)), (0, (4, 18, 4, 2)), (0, (4, 21, 4, 3)), (0, (4, 24, 4, 4)), (0, (4, 34, 4, 5)), (21, (5, 11, 5, 0)), (0, (5, 18, 5, 1)), (0, (5, 22, 5, 2)), (0, (5, 26, 5, 3)), (15, (8, 9, 8, 0)), (0, (8, 15, 8, 1)), (0, (8, 19, 8, 2)), (15, (7, 11, 7, 0)), (0, (7, 15, 7, 1)), (0, (7, 18, 7, 2)), (0, (7, 23, 7, 3)), (16, (2, 9, 2, 0)), (0, (2, 15, 2, 1)), (0, (2, 19, 2, 2)), (0, (2, 40, 2, 3)), (0, (2, 54, 2, 4)), (0, (2, 57, 2, 5)), (0, (2, 60, 2, 6)), (0, (2, 64, 2, 7)), (23, (9, 9, 9, 0)), (0, (9, 15, 9, 1)), (0, (9, 19, 9, 2)), (0, (9, 23, 9, 3)), (0, (9, 27, 9, 4)), (0, (9, 40, 9, 5)), (0, (9, 44, 9, 6)), (0, (9, 48, 9, 7)), (0, (9, 51, 9, 8)), (0, (9, 54, 9, 9)), (0, (9, 57, 9, 10)), (0, (9, 61, 9, 11)), (31, (6, 9, 6, 0)), (0, (6, 15, 6, 1)), (0, (6, 19, 6, 2)), (0, (6, 23, 6, 3)), (0, (6, 26, 6, 4)), (0, (6, 29, 6, 5)), (0, (6, 37, 6, 6)), (0, (6, 41, 6, 7)), (0, (6, 48, 6, 8)), (0, (6, 54, 6, 9)), (27, (1, 9, 1, 0)), (0, (1, 15, 1, 1)), (0, (1, 19, 1, 2)), (0, (1, 22, 1, 3)), (0, (1, 25, 1, 4)), (0, (1, 38, 1, 5)), (0, (1, 45, 1, 6)), (0, (1, 28, 1, 7)), (23, (0, 7, 0, 0)), (0, (0, 13, 0, 1)), (0, (0, 17, 0, 2)), (0, (0, 20, 0, 3)), (0, (0, 23, 0, 4)), (0, (0, 26, 0, 5)), (0, (0, 30, 0, 6)), (21, (3, 11, 3, 0)), (0, (3, 15, 3, 1)), (0, (3, 25, 3, 2)), (0, (3, 32, 3, 3)), (0, (3, 45, 3, 4)), (11, (11, 10, 11, 0)), (0, (11, 19, 11, 1)), (0, (11, 26, 11, 2)), (0, (11, 35, 11, 3)), (0, (11, 42, 11, 4)), (0, (11, 51, 11, 5)), (0, (11, 60, 11, 6)), (0, (11, 67, 11, 7)), (0, (11, 76, 11, 8)), (0, (11, 83, 11, 9)), (0, (11, 90, 11, 10)), (812, (12, 115, 12, 1)), (0, (12, 9, 12, 2)), (0, (12, 15, 12, 3)), (0, (12, 18, 12, 4)), (0, (12, 21, 12, 5)), (0, (12, 122, 12, 6)), (0, (12, 24, 12, 7)), (0, (12, 27, 12, 8)), (0, (12, 30, 12, 9)), (0, (12, 33, 12, 10)), (0, (12, 149, 12, 11)), (0, (12, 146, 12, 12)), (0, (12, 36, 12, 13)), (0, (12, 39, 12, 14)), (0, (12, 42, 12, 15)), (0, (12, 45, 12, 16)), (0, (12, 48, 12, 17)), (0, (12, 178, 12, 18)), (0, (12, 181, 12, 19)), (0, (12, 184, 12, 20)), (0, (12, 190, 12, 21)), (0, (12, 187, 12, 22)), (0, (12, 52, 12, 23)), (0, (12, 55, 12, 24)), (0, (12, 58, 12, 25)), (0, (12, 61, 12, 26)), (0, (12, 65, 12, 27)), (0, (12, 68, 12, 28)), (0, (12, 71, 12, 29)), (0, (12, 244, 12, 30)), (0, (12, 74, 12, 31)), (0, (12, 248, 12, 32)), (0, (12, 266, 12, 33)), (0, (12, 269, 12, 34)), (0, (12, 77, 12, 35)), (0, (12, 345, 12, 36)), (0, (12, 313, 12, 37)), (0, (12, 335, 12, 38)), (0, (12, 316, 12, 39)), (0, (12, 322, 12, 40)), (0, (12, 325, 12, 41)), (0, (12, 319, 12, 42)), (0, (12, 328, 12, 43)), (0, (12, 332, 12, 44)), (0, (12, 80, 12, 45)), (0, (12, 356, 12, 46)), (0, (12, 359, 12, 47)), (0, (12, 362, 12, 48)), (0, (12, 83, 12, 49)), (0, (12, 86, 12, 50)), (0, (12, 89, 12, 51)), (0, (12, 365, 12, 52)), (0, (12, 92, 12, 53)), (0, (12, 368, 12, 54)), (0, (12, 95, 12, 55)), (0, (12, 98, 12, 56)), (0, (12, 101, 12, 57)), (0, (12, 104, 12, 58)), (0, (12, 108, 12, 59))]
set_option maxRecDepth 100000 in
theorem sgFl_ok : chk (sgFl.map fun q => (q.1, wFl1 q.2)) lw_tbl = true := by decide +kernel
def sgSk : List (Nat × (Nat × Nat × Nat)) := [(448, (10, 34, 3)), (664, (3, 56, 2)), (1, (3, 22, 1))]
set_option maxRecDepth 100000 in
theorem sgSk_ok : chk (sgSk.map fun q => (q.1, wSk1 q.2)) lw_tbl = true := by decide +kernel
def sgNw : List (Nat × (Nat × Nat × Nat)) := [(99, (13, 7, 11)), (7, (11, 7, 10)), (18, (11, 16, 4)), (24, (11, 23, 5)), (5, (5, 15, 4)), (14, (11, 30, 8)), (15, (11, 39, 7)), (21, (11, 46, 2)), (30, (11, 55, 9)), (42, (11, 64, 6)), (36, (11, 71, 1)), (30, (11, 80, 0)), (27, (11, 87, 3)), (838, (13, 10, 12))]
set_option maxRecDepth 100000 in
theorem sgNw_ok : chk (sgNw.map fun q => (q.1, wNw1 q.2)) lw_tbl = true := by decide +kernel
def sgMn : List (Nat × (Nat × Nat × Nat)) := [(113, (10, 9, 5)), (80, (7, 21, 6))]
set_option maxRecDepth 100000 in
theorem sgMn_ok : chk (sgMn.map fun q => (q.1, wMn1 q.2)) lw_tbl = true := by decide +kernel
def sgKi : List (Nat × (Nat × Nat × Int32)) := [(915, (14, 265, (1431655765))), (0, (14, 266, (858993459))), (0, (14, 267, (252645135))), (73, (11, 304, (1103515245))), (711, (12, 352, (1103515245)))]
set_option maxRecDepth 100000 in
theorem sgKi_ok : chk (sgKi.map fun q => (q.1, wKi q.2)) lw_tbl = true := by decide +kernel
def sgKl : List (Nat × (Nat × Nat × Int64)) := [(502, (11, 117, (3))), (263, (11, 204, (-9223372036854775808))), (8, (2, 88, (12))), (178, (9, 90, (12))), (482, (12, 140, (2))), (173, (12, 284, (-9223372036854775808))), (0, (12, 286, (12))), (218, (13, 167, (4294967295)))]
set_option maxRecDepth 100000 in
theorem sgKl_ok : chk (sgKl.map fun q => (q.1, wKl q.2)) lw_tbl = true := by decide +kernel
def wLay (q : Nat × Nat) : Cond := u_lay (cnm q.1) (cT q.1) q.2
def sgLay : List (Nat × (Nat × Nat)) := [(118, (10, 0)), (1, (10, 1)), (1, (10, 2)), (15, (4, 0)), (1, (4, 1)), (1, (4, 2)), (1, (4, 3)), (1, (4, 4)), (1, (4, 5)), (14, (5, 0)), (1, (5, 1)), (1, (5, 2)), (1, (5, 3)), (11, (8, 0)), (1, (8, 1)), (1, (8, 2)), (14, (7, 0)), (1, (7, 1)), (1, (7, 2)), (1, (7, 3)), (17, (2, 0)), (1, (2, 1)), (1, (2, 2)), (1, (2, 3)), (1, (2, 4)), (1, (2, 5)), (1, (2, 6)), (1, (2, 7)), (20, (9, 0)), (1, (9, 1)), (1, (9, 2)), (1, (9, 3)), (1, (9, 4)), (1, (9, 5)), (1, (9, 6)), (1, (9, 7)), (1, (9, 8)), (1, (9, 9)), (1, (9, 10)), (1, (9, 11)), (18, (6, 0)), (1, (6, 1)), (1, (6, 2)), (1, (6, 3)), (1, (6, 4)), (1, (6, 5)), (1, (6, 6)), (1, (6, 7)), (1, (6, 8)), (1, (6, 9)), (16, (1, 0)), (1, (1, 1)), (1, (1, 2)), (1, (1, 3)), (1, (1, 4)), (1, (1, 5)), (1, (1, 6)), (1, (1, 7)), (15, (0, 0)), (1, (0, 1)), (1, (0, 2)), (1, (0, 3)), (1, (0, 4)), (1, (0, 5)), (1, (0, 6)), (13, (3, 0)), (1, (3, 1)), (1, (3, 2)), (1, (3, 3)), (1, (3, 4)), (13, (11, 0)), (1, (11, 1)), (1, (11, 2)), (1, (11, 3)), (1, (11, 4)), (1, (11, 5)), (1, (11, 6)), (1, (11, 7)), (1, (11, 8)), (1, (11, 9)), (1, (11, 10)), (850, (12, 0)), (1, (12, 1)), (1, (12, 2)), (1, (12, 3)), (1, (12, 4)), (1, (12, 5)), (1, (12, 6)), (1, (12, 7)), (1, (12, 8)), (1, (12, 9)), (1, (12, 10)), (1, (12, 11)), (1, (12, 12)), (1, (12, 13)), (1, (12, 14)), (1, (12, 15)), (1, (12, 16)), (1, (12, 17)), (1, (12, 18)), (1, (12, 19)), (1, (12, 20)), (1, (12, 21)), (1, (12, 22)), (1, (12, 23)), (1, (12, 24)), (1, (12, 25)), (1, (12, 26)), (1, (12, 27)), (1, (12, 28)), (1, (12, 29)), (1, (12, 30)), (1, (12, 31)), (1, (12, 32)), (1, (12, 33)), (1, (12, 34)), (1, (12, 35)), (1, (12, 36)), (1, (12, 37)), (1, (12, 38)), (1, (12, 39)), (1, (12, 40)), (1, (12, 41)), (1, (12, 42)), (1, (12, 43)), (1, (12, 44)), (1, (12, 45)), (1, (12, 46)), (1, (12, 47)), (1, (12, 48)), (1, (12, 49)), (1, (12, 50)), (1, (12, 51)), (1, (12, 52)), (1, (12, 53)), (1, (12, 54)), (1, (12, 55)), (1, (12, 56)), (1, (12, 57)), (1, (12, 58)), (1, (12, 59))]
set_option maxRecDepth 100000 in
theorem sgLay_ok : chk (sgLay.map fun q => (q.1, wLay q.2)) lw_tbl = true := by decide +kernel
def sgIn : List (Nat × Nat) := [(82, 13), (0, 11), (0, 10), (0, 4), (0, 5), (0, 8), (0, 7), (0, 2), (0, 9), (0, 6), (0, 1), (0, 0), (0, 3), (0, 12), (2, 14)]
set_option maxRecDepth 100000 in
theorem sgIn_ok : chk (sgIn.map fun q => (q.1, wInit q.2)) lw_tbl = true := by decide +kernel
def sgIs : List (Nat × Nat) := [(100, 11), (7, 10), (18, 4), (24, 5), (20, 8), (15, 7), (21, 2), (30, 9), (42, 6), (36, 1), (30, 0), (27, 3), (838, 12)]
set_option maxRecDepth 100000 in
theorem sgIs_ok : chk (sgIs.map fun q => (q.1, wIns q.2)) lw_tbl = true := by decide +kernel
def sgLs : List (Nat × Nat) := [(449, 3), (664, 2), (1, 1)]
set_option maxRecDepth 100000 in
theorem sgLs_ok : chk (sgLs.map fun q => (q.1, wLs q.2)) lw_tbl = true := by decide +kernel
def wEx (w : Cond) : Cond := w
def sgEx : List (Nat × Cond) := [(96, .initialized "java/lang/System"), (0, .initialized "java/lang/Math"), (7, .instanceMethod objectInit), (8, .arrayOver (.array .int)), (10, .arrayClass .int), (69, .arrayOver (.array .long)), (13, .arrayClass .long), (324, .static arraycopyName), (0, .native arraycopyName), (173, .static Lib.Math.min.name), (2, .static Lib.Math.max.name), (692, .arrayClass .byte), (0, .arrayClass .short)]
set_option maxRecDepth 100000 in
theorem sgEx_ok : chk (sgEx.map fun q => (q.1, wEx q.2)) lw_tbl = true := by decide +kernel
theorem sgFl_all : ∀ c, c < NCL → ∀ e ∈ flC c, (c, e) ∈ sgFl.map (fun q => q.2) := by decide +kernel
theorem sgSk_all : ∀ c, c < NCL → ∀ e ∈ skC c, (c, e) ∈ sgSk.map (fun q => q.2) := by decide +kernel
theorem sgNw_all : ∀ c, c < NCL → ∀ e ∈ nwC c, (c, e) ∈ sgNw.map (fun q => q.2) := by decide +kernel
theorem sgMn_all : ∀ c, c < NCL → ∀ e ∈ mnC c, (c, e) ∈ sgMn.map (fun q => q.2) := by decide +kernel
theorem sgKi_all : ∀ c, c < NCL → ∀ e ∈ kiC c, (c, e) ∈ sgKi.map (fun q => q.2) := by decide +kernel
theorem sgKl_all : ∀ c, c < NCL → ∀ e ∈ klC c, (c, e) ∈ sgKl.map (fun q => q.2) := by decide +kernel
theorem sgMm_all : ∀ c, c < NCL → ∀ e ∈ mmC c, (c, e) ∈ sgMm.map (fun q => q.2) := by decide +kernel
theorem sgOi_all : ∀ c, c < NCL → ∀ e ∈ oiC c, (c, e) ∈ sgOi.map (fun q => q.2) := by decide +kernel
theorem sgAc_all : ∀ c, c < NCL → ∀ e ∈ acC c, (c, e) ∈ sgAc.map (fun q => q.2) := by decide +kernel
theorem sgCa_all : ∀ c, c < NCL → ∀ e ∈ caC c, (c, e) ∈ sgCa.map (fun q => q.2) := by decide +kernel
theorem ca_lt : ∀ c, c < NCL → ∀ e ∈ caC c, e.2 < NM := by decide +kernel
theorem sgCode_all : ∀ m, m < NM → m ∈ sgCode := by decide +kernel
theorem nm_9999 : NM ≤ 9997 := by decide
theorem sgIm_all : ∀ m, m < NM → ¬ mK m = 2 → m ∈ sgIm.map (fun q => q.2) := by decide +kernel
theorem sgSel_all : ∀ m, m < NM → mK m = 0 → m ∈ sgSel.map (fun q => q.2) := by decide +kernel
theorem sgSt_all : ∀ m, m < NM → mK m = 2 → m ∈ sgSt.map (fun q => q.2) := by decide +kernel
theorem sgLay_all : ∀ c, c < NX → ∀ k, k < nF c → (c, k) ∈ sgLay.map (fun q => q.2) := by decide +kernel
theorem sgIn_all : ∀ c, c < NCL → c ∈ sgIn.map (fun q => q.2) := by decide +kernel
theorem sgIs_all : ∀ c, c < NX → c ∈ sgIs.map (fun q => q.2) := by decide +kernel
theorem mC_lt : ∀ m, m ≤ NM → mC m < NCL := by decide +kernel
theorem mC_nm : ∀ m, m < NM → (mY m).cls = cnm (mC m) := by decide +kernel
theorem fl_lt : ∀ c, c < NCL → ∀ e ∈ flC c, e.2.1 < NX ∧ e.2.2 < nF e.2.1 := by decide +kernel
theorem nw_lt : ∀ c, c < NCL → ∀ e ∈ nwC c, e.2 < NX := by decide +kernel
theorem mm_01 : ∀ c, c < NCL → ∀ e ∈ mmC c, e.2 = 0 ∨ e.2 = 1 := by decide +kernel
theorem mn_56 : ∀ c, c < NCL → ∀ e ∈ mnC c, e.2 = 5 ∨ e.2 = 6 := by decide +kernel
theorem sk_14 : ∀ c, c < NCL → ∀ e ∈ skC c, 1 ≤ e.2 ∧ e.2 < 4 := by decide +kernel
theorem fk_ok : ∀ c, c < NX → ∀ f, f < nF c → (fk c f = 1 → cTy c f = .int) ∧ (fk c f = 2 → cTy c f = .long) ∧ (fk c f = 3 → cTy c f = .boolean) ∧ (fk c f = 0 → (cTy c f).isReference = true) ∧ fk c f ≤ 3 ∧ ffin c f = (cT c f).2.2.2 ∧ (cT c f).1 = cnm c := by decide +kernel
theorem cT_nm {c : Nat} (hc : c < NX) : ∀ a, a < nF c → ∀ b, b < nF c → a ≠ b → (cT c a).2.1 ≠ (cT c b).2.1 := by
  have hc2 : c < 13 := hc
  have : c = 0 ∨ c = 1 ∨ c = 2 ∨ c = 3 ∨ c = 4 ∨ c = 5 ∨ c = 6 ∨ c = 7 ∨ c = 8 ∨ c = 9 ∨ c = 10 ∨ c = 11 ∨ c = 12 := by omega
  rcases this with rfl | rfl | rfl | rfl | rfl | rfl | rfl | rfl | rfl | rfl | rfl | rfl | rfl
  · exact nmX0
  · exact nmX1
  · exact nmX2
  · exact nmX3
  · exact nmX4
  · exact nmX5
  · exact nmX6
  · exact nmX7
  · exact nmX8
  · exact nmX9
  · exact nmX10
  · exact nmX11
  · exact nmX12
theorem cT_ty {c : Nat} (hc : c < NX) : ∀ k, k < nF c → parseFieldDescriptor (cT c k).2.2.1 = some (cTy c k) := by
  have hc2 : c < 13 := hc
  have : c = 0 ∨ c = 1 ∨ c = 2 ∨ c = 3 ∨ c = 4 ∨ c = 5 ∨ c = 6 ∨ c = 7 ∨ c = 8 ∨ c = 9 ∨ c = 10 ∨ c = 11 ∨ c = 12 := by omega
  rcases this with rfl | rfl | rfl | rfl | rfl | rfl | rfl | rfl | rfl | rfl | rfl | rfl | rfl
  · exact tyX0_ok
  · exact tyX1_ok
  · exact tyX2_ok
  · exact tyX3_ok
  · exact tyX4_ok
  · exact tyX5_ok
  · exact tyX6_ok
  · exact tyX7_ok
  · exact tyX8_ok
  · exact tyX9_ok
  · exact tyX10_ok
  · exact tyX11_ok
  · exact tyX12_ok
theorem sgLs_all : ∀ k, k < 4 → 1 ≤ k → k ∈ sgLs.map (fun q => q.2) := by decide +kernel
theorem st_all : ∀ k, k < 4 → 1 ≤ k → (∀ j, j < stL k → Cond.eq (.elem (.static (stN k).1 (stN k).2.1 (stN k).2.2) (.int (Int32.ofNat j))) (.int (stV k j)) ∈ flatC (Jvm.Cond.and given_1 narrow_1)) ∧ Cond.arrayOf (.static (stN k).1 (stN k).2.1 (stN k).2.2) .int ∈ flatC (Jvm.Cond.and given_1 narrow_1) ∧ Cond.eq (.length (.static (stN k).1 (stN k).2.1 (stN k).2.2)) (.int (Int32.ofNat (stL k))) ∈ flatC (Jvm.Cond.and given_1 narrow_1) ∧ stL k < 2 ^ 31 := by decide +kernel
theorem mL_le : ∀ m, m ≤ NM → mL m ≤ 40 := by decide +kernel
theorem mY_plain : ∀ m, m < NM → plainName (mY m).cls = true := by decide +kernel
theorem mY_mh : ∀ m, m < NM → (mY m).cls ≠ "java/lang/invoke/MethodHandle" ∧ (mY m).cls ≠ "java/lang/invoke/VarHandle" := by decide +kernel
theorem mY_par : ∀ m, m < NM → (parseMethodDescriptor (mY m).desc).map (fun d => d.parameters.length) = some (bif Nat.beq (mK m) 2 then nA m else nA m - 1) := by decide +kernel
theorem mY_ini : ∀ m, m < NM → mK m = 1 → (mY m).name = "<init>" ∧ mR m = none := by decide +kernel
theorem mY_nA : ∀ m, m < NM → (¬ mK m = 2 → 1 ≤ nA m ∧ mC m < NX) ∧ mK m ≤ 2 := by decide +kernel
end
section
/-! ===== THE PURE MACHINE: what the claim's methods do to their cells, as a function; the tables are the part ahead ===== -/
abbrev PL : Type := List (Nat × Value)
/-- a state: how many cells, how many slots; of each cell its kind and size; its references, ints, longs -/
abbrev PSt : Type := Nat × Nat × (Nat → Nat × Nat) × (Nat → Nat → Option Nat) × (Nat → Nat → Int32) × (Nat → Nat → Int64)
abbrev pnc (σ : PSt) : Nat := σ.1
abbrev pns (σ : PSt) : Nat := σ.2.1
abbrev ply (σ : PSt) : Nat → Nat × Nat := σ.2.2.1
abbrev prv (σ : PSt) : Nat → Nat → Option Nat := σ.2.2.2.1
abbrev piv (σ : PSt) : Nat → Nat → Int32 := σ.2.2.2.2.1
abbrev plv (σ : PSt) : Nat → Nat → Int64 := σ.2.2.2.2.2
def up1 {α : Type} (f : Nat → α) (k : Nat) (x : α) : Nat → α := fun j => if j = k then x else f j
def up2 {α : Type} (f : Nat → Nat → α) (k i : Nat) (x : α) : Nat → Nat → α := fun a j => if a = k ∧ j = i then x else f a j
theorem up1_s {α : Type} {f : Nat → α} {k : Nat} {x : α} : up1 f k x k = x := by simp [up1]
theorem up1_n {α : Type} {f : Nat → α} {k j : Nat} {x : α} (h : j ≠ k) : up1 f k x j = f j := by simp [up1, h]
theorem up2_s {α : Type} {f : Nat → Nat → α} {k i : Nat} {x : α} : up2 f k i x k i = x := by simp [up2]
theorem up2_n {α : Type} {f : Nat → Nat → α} {k i a : Nat} {x : α} (h : a ≠ k) : up2 f k i x a = f a := by
  funext j
  simp [up2, h]
def wiv (σ : PSt) (k i : Nat) (x : Int32) : PSt := (σ.1, σ.2.1, σ.2.2.1, σ.2.2.2.1, up2 (piv σ) k i x, σ.2.2.2.2.2)
def wlv (σ : PSt) (k i : Nat) (x : Int64) : PSt := (σ.1, σ.2.1, σ.2.2.1, σ.2.2.2.1, σ.2.2.2.2.1, up2 (plv σ) k i x)
def wrv (σ : PSt) (k i : Nat) (x : Option Nat) : PSt := (σ.1, σ.2.1, σ.2.2.1, up2 (prv σ) k i x, σ.2.2.2.2.1, σ.2.2.2.2.2)
/-- a row of ints, or of longs, anew -/
def riv (σ : PSt) (k : Nat) (f : Nat → Int32) : PSt := (σ.1, σ.2.1, σ.2.2.1, σ.2.2.2.1, up1 (piv σ) k f, σ.2.2.2.2.2)
def rlv (σ : PSt) (k : Nat) (f : Nat → Int64) : PSt := (σ.1, σ.2.1, σ.2.2.1, σ.2.2.2.1, σ.2.2.2.2.1, up1 (plv σ) k f)
/-- a new cell of a kind and size, all 0 -/
def mkc (σ : PSt) (tag a n : Nat) : PSt := (σ.1 + 1, σ.2.1 + n, up1 (ply σ) σ.1 (tag, a), up1 (prv σ) σ.1 (fun _ => none), up1 (piv σ) σ.1 (fun _ => 0), up1 (plv σ) σ.1 (fun _ => 0))
/-- the locals: a list by place -/
def lk : PL → Nat → Option Value
  | [], _ => none
  | q :: t, k => bif Nat.beq q.1 k then some q.2 else lk t k
def put : PL → Nat → Value → PL
  | [], k, v => [(k, v)]
  | q :: t, k, v => bif Nat.blt k q.1 then (k, v) :: q :: t else q :: put t k v
def rmk (L : PL) (i : Nat) : PL := L.filter (fun q => !(Nat.beq q.1 i))
def lg (L : PL) (i : Nat) : Bool := match lk L i with | some v => Nat.beq v.category 2 | none => false
def rm1 (L : PL) (i : Nat) : PL := match i with
  | 0 => rmk L 0
  | j + 1 => bif lg L j then rmk (rmk L (j + 1)) j else rmk L (j + 1)
def rm2 (L : PL) (i : Nat) : PL := rmk (rm1 L i) (i + 1)
def ins1 (L : PL) (k : Nat) (v : Value) : PL := put (rm1 L k) k v
def ins2 (L : PL) (k : Nat) (v : Value) : PL := put (rm2 L k) k v
/-- read-only rows: their lengths and ints (0: the script) -/
abbrev PRo : Type := Nat × (Nat → Nat) × (Nat → Nat → Int32)
def ilen : Instr → Nat
  | .bipush _ => 2 | .iload _ => 2 | .istore _ => 2 | .aload _ => 2 | .astore _ => 2 | .lload _ => 2 | .lstore _ => 2 | .newarray _ => 2
  | .sipush _ => 3 | .getfield _ => 3 | .putfield _ => 3 | .getstatic _ => 3 | .goto _ => 3 | .ifCond _ _ => 3 | .if_icmp _ _ => 3
  | .invokevirtual _ => 3 | .invokestatic _ => 3 | .invokespecial _ => 3 | .new _ => 3 | .iinc _ _ => 3 | .ldc_w _ => 3 | .ldc2_w _ => 3
  | .multianewarray _ _ => 4
  | _ => 1
def lenOk (i : Instr) (len : Nat) : Bool := match i with
  | .tableswitch _ _ _ _ => true
  | .lookupswitch _ _ => true
  | _ => Nat.beq len (ilen i)
def tgt (pc : Nat) (off : Int) : Option Nat := if 0 ≤ (pc : Int) + off then some ((pc : Int) + off).toNat else none
def pbr {α : Type} (cc : ClassFile.Cond) (x y : Int32) (a b : α) : α := match cc with
  | .eq => if x = y then a else b
  | .ne => if x = y then b else a
  | .lt => if x < y then a else b
  | .ge => if y ≤ x then a else b
  | .gt => if y < x then a else b
  | .le => if x ≤ y then a else b
/-- an index within a row -/
abbrev vin (i : Int32) (n : Nat) : Prop := 0 ≤ i.toInt ∧ i.toInt < (n : Int)
abbrev PO : Type := Option (Nat × List Value × PSt)
def oI1 (st : List Value) (f : Int32 → Int32) (pc : Nat) (σ : PSt) : PO := match st with | .int x :: r => some (pc, .int (f x) :: r, σ) | _ => none
def oI2 (st : List Value) (f : Int32 → Int32 → Int32) (pc : Nat) (σ : PSt) : PO := match st with | .int y :: .int x :: r => some (pc, .int (f x y) :: r, σ) | _ => none
def oD2 (st : List Value) (f : Int32 → Int32 → Int32) (pc : Nat) (σ : PSt) : PO := match st with | .int y :: .int x :: r => if y = 0 then none else some (pc, .int (f x y) :: r, σ) | _ => none
def oL2 (st : List Value) (f : Int64 → Int64 → Int64) (pc : Nat) (σ : PSt) : PO := match st with | .long y :: .long x :: r => some (pc, .long (f x y) :: r, σ) | _ => none
def oE2 (st : List Value) (f : Int64 → Int64 → Int64) (pc : Nat) (σ : PSt) : PO := match st with | .long y :: .long x :: r => if y = 0 then none else some (pc, .long (f x y) :: r, σ) | _ => none
def fval (σ : PSt) (ci o f : Nat) : Value := match fk ci f with
  | 0 => (match prv σ o f with | some j => .ref j | none => .null)
  | 2 => .long (plv σ o f)
  | _ => .int (piv σ o f)
def oGet (c k : Nat) (st : List Value) (pc : Nat) (σ : PSt) : PO := match st with
  | .ref o :: r => match fl c k with
    | some (ci, f) => if o < pnc σ ∧ ply σ o = (0, ci) ∧ f < nF ci then some (pc, fval σ ci o f :: r, σ) else none
    | none => none
  | _ => none
/-- what putfield lays, where the kinds agree -/
def pval (σ : PSt) (kd o f : Nat) (v : Value) : Option PSt := match v with
  | .int x => if kd = 1 ∨ (kd = 3 ∧ (x = 0 ∨ x = 1)) then some (wiv σ o f x) else none
  | .long x => if kd = 2 then some (wlv σ o f x) else none
  | .ref j => if kd = 0 then some (wrv σ o f (some j)) else none
  | _ => none
def oPut (ini : Bool) (c k : Nat) (st : List Value) (pc : Nat) (σ : PSt) : PO := match st with
  | v :: .ref o :: r => match fl c k with
    | some (ci, f) => if o < pnc σ ∧ ply σ o = (0, ci) ∧ f < nF ci ∧ (ffin ci f = true → ini = true ∧ c = ci) then (pval σ (fk ci f) o f v).map fun τ => (pc, r, τ) else none
    | none => none
  | _ => none
/-- reading a row: of the kind t -/
def oLdI (Λ : PRo) (t : Nat) (st : List Value) (pc : Nat) (σ : PSt) : PO := match st with
  | .int i :: .ref o :: r => if o < pnc σ ∧ (ply σ o).1 = t ∧ vin i (ply σ o).2 then some (pc, .int (piv σ o i.toNatClampNeg) :: r, σ) else none
  | .int i :: .retAddr o :: r => if t = 1 ∧ o < Λ.1 ∧ vin i (Λ.2.1 o) then some (pc, .int (Λ.2.2 o i.toNatClampNeg) :: r, σ) else none
  | _ => none
def oLdL (st : List Value) (pc : Nat) (σ : PSt) : PO := match st with
  | .int i :: .ref o :: r => if o < pnc σ ∧ (ply σ o).1 = 4 ∧ vin i (ply σ o).2 then some (pc, .long (plv σ o i.toNatClampNeg) :: r, σ) else none
  | _ => none
def oLdA (st : List Value) (pc : Nat) (σ : PSt) : PO := match st with
  | .int i :: .ref o :: r => if o < pnc σ ∧ ((ply σ o).1 = 5 ∨ (ply σ o).1 = 6) ∧ vin i (ply σ o).2 then (prv σ o i.toNatClampNeg).map fun j => (pc, .ref j :: r, σ) else none
  | _ => none
def oStI (t : Nat) (g : Int32 → Int32) (st : List Value) (pc : Nat) (σ : PSt) : PO := match st with
  | .int x :: .int i :: .ref o :: r => if o < pnc σ ∧ (ply σ o).1 = t ∧ vin i (ply σ o).2 then some (pc, r, wiv σ o i.toNatClampNeg (g x)) else none
  | _ => none
def oStL (st : List Value) (pc : Nat) (σ : PSt) : PO := match st with
  | .long x :: .int i :: .ref o :: r => if o < pnc σ ∧ (ply σ o).1 = 4 ∧ vin i (ply σ o).2 then some (pc, r, wlv σ o i.toNatClampNeg x) else none
  | _ => none
def oLen (Λ : PRo) (st : List Value) (pc : Nat) (σ : PSt) : PO := match st with
  | .ref o :: r => if o < pnc σ ∧ 1 ≤ (ply σ o).1 ∧ (ply σ o).1 ≤ 6 then some (pc, .int (Int32.ofNat (ply σ o).2) :: r, σ) else none
  | .retAddr o :: r => if o < Λ.1 then some (pc, .int (Int32.ofNat (Λ.2.1 o)) :: r, σ) else none
  | _ => none
def atag : ArrayType → Nat
  | .int => 1 | .byte => 2 | .short => 3 | .long => 4 | _ => 0
def oNewA (t : Nat) (st : List Value) (pc : Nat) (σ : PSt) : PO := match st with
  | .int n :: r => if ¬ n < 0 ∧ n.toNatClampNeg ≤ 10000 ∧ 1 ≤ t then some (pc, .ref (pnc σ) :: r, mkc σ t n.toNatClampNeg n.toNatClampNeg) else none
  | _ => none
/-- n rows of k places, behind their outer row: how the cells come -/
def mkrows (t n : Nat) : Nat → PSt → PSt
  | 0, σ => σ
  | j + 1, σ => mkrows t n j (mkc σ t n n)
def wrr (σ : PSt) (o : Nat) (g : Nat → Option Nat) : PSt := (σ.1, σ.2.1, σ.2.2.1, up1 (prv σ) o g, σ.2.2.2.2.1, σ.2.2.2.2.2)
def oMna (t : Nat) (st : List Value) (pc : Nat) (σ : PSt) : PO := match st with
  | .int k :: .int n :: r => if ¬ n < 0 ∧ ¬ k < 0 ∧ n.toNatClampNeg ≤ 100 ∧ k.toNatClampNeg ≤ 100 ∧ (t = 5 ∨ t = 6) then
      some (pc, .ref (pnc σ) :: r, mkrows (if t = 5 then 1 else 4) k.toNatClampNeg n.toNatClampNeg (wrr (mkc σ t n.toNatClampNeg n.toNatClampNeg) (pnc σ) (fun i => if i < n.toNatClampNeg then some (pnc σ + 1 + i) else none))) else none
  | _ => none
/-- an instruction that touches no local, and calls nothing -/
def pS (Λ : PRo) (ini : Bool) (c pc pc' : Nat) (σ : PSt) (i : Instr) (st : List Value) : PO :=
  match i with
  | .iconst n => some (pc', .int (Int32.ofInt n) :: st, σ)
  | .bipush n => some (pc', .int (Int8.ofInt n).toInt32 :: st, σ)
  | .sipush n => some (pc', .int (Int16.ofInt n).toInt32 :: st, σ)
  | .lconst n => some (pc', .long (Int64.ofNat (n : Nat)) :: st, σ)
  | .ldc_w k => (ki c k).map fun v => (pc', .int v :: st, σ)
  | .ldc2_w k => (kl c k).map fun v => (pc', .long v :: st, σ)
  | .iadd => oI2 st (fun x y => x + y) pc' σ
  | .isub => oI2 st (fun x y => x - y) pc' σ
  | .imul => oI2 st (fun x y => x * y) pc' σ
  | .iand => oI2 st (fun x y => x &&& y) pc' σ
  | .ior => oI2 st (fun x y => x ||| y) pc' σ
  | .ixor => oI2 st (fun x y => x ^^^ y) pc' σ
  | .ishl => oI2 st (fun x y => x <<< (y &&& 31)) pc' σ
  | .ishr => oI2 st (fun x y => x >>> (y &&& 31)) pc' σ
  | .iushr => oI2 st (fun x y => (x.toUInt32 >>> (y.toUInt32 &&& Int32.toUInt32 31)).toInt32) pc' σ
  | .idiv => oD2 st (fun x y => x / y) pc' σ
  | .irem => oD2 st (fun x y => x - x / y * y) pc' σ
  | .ineg => oI1 st (fun x => -x) pc' σ
  | .i2b => oI1 st (fun x => x.toInt8.toInt32) pc' σ
  | .i2s => oI1 st (fun x => x.toInt16.toInt32) pc' σ
  | .i2l => (match st with | .int x :: r => some (pc', .long x.toInt64 :: r, σ) | _ => none)
  | .l2i => (match st with | .long x :: r => some (pc', .int x.toInt32 :: r, σ) | _ => none)
  | .ladd => oL2 st (fun x y => x + y) pc' σ
  | .lsub => oL2 st (fun x y => x - y) pc' σ
  | .lmul => oL2 st (fun x y => x * y) pc' σ
  | .land => oL2 st (fun x y => x &&& y) pc' σ
  | .lor => oL2 st (fun x y => x ||| y) pc' σ
  | .ldiv => oE2 st (fun x y => x / y) pc' σ
  | .lrem => oE2 st (fun x y => x - x / y * y) pc' σ
  | .lcmp => (match st with | .long y :: .long x :: r => some (pc', .int (lg_cmp x y) :: r, σ) | _ => none)
  | .lshl => (match st with | .int y :: .long x :: r => some (pc', .long (x <<< (y.toInt64 &&& 63)) :: r, σ) | _ => none)
  | .dup => (match st with | v :: r => if v.category = 1 then some (pc', v :: v :: r, σ) else none | _ => none)
  | .dup2 => (match st with | v :: w :: r => if v.category = 1 ∧ w.category = 1 then some (pc', v :: w :: v :: w :: r, σ) else none | _ => none)
  | .pop => (match st with | v :: r => if v.category = 1 then some (pc', r, σ) else none | _ => none)
  | .goto off => (tgt pc off).map fun t => (t, st, σ)
  | .ifCond cc off => (match st with | .int x :: r => (tgt pc off).map fun t => (pbr cc x 0 t pc', r, σ) | _ => none)
  | .if_icmp cc off => (match st with | .int y :: .int x :: r => (tgt pc off).map fun t => (pbr cc x y t pc', r, σ) | _ => none)
  | .tableswitch d lo hi offs => (match st with
    | .int x :: r => if x.toInt < lo ∨ hi < x.toInt then (tgt pc d).map fun t => (t, r, σ) else (offs[(x.toInt - lo).toNat]?).bind fun off => (tgt pc off).map fun t => (t, r, σ)
    | _ => none)
  | .lookupswitch d ps => (match st with
    | .int x :: r => if (ps.toList.zip (ps.toList.drop 1)).all (fun (a, next) => a.1 < next.1) = true then (tgt pc (Op.lookupswitch.offset ps.toList d x.toInt)).map fun t => (t, r, σ) else none
    | _ => none)
  | .getfield k => oGet c k st pc' σ
  | .putfield k => oPut ini c k st pc' σ
  | .getstatic k => (sk c k).map fun j => (pc', .retAddr j :: st, σ)
  | .iaload => oLdI Λ 1 st pc' σ
  | .baload => oLdI Λ 2 st pc' σ
  | .saload => oLdI Λ 3 st pc' σ
  | .laload => oLdL st pc' σ
  | .aaload => oLdA st pc' σ
  | .iastore => oStI 1 (fun x => x) st pc' σ
  | .bastore => oStI 2 (fun x => x.toInt8.toInt32) st pc' σ
  | .sastore => oStI 3 (fun x => x.toInt16.toInt32) st pc' σ
  | .lastore => oStL st pc' σ
  | .arraylength => oLen Λ st pc' σ
  | .newarray t => oNewA (atag t) st pc' σ
  | .new k => (nw c k).map fun ci => (pc', .ref (pnc σ) :: st, mkc σ 0 ci (nF ci))
  | .multianewarray k d => if d = 2 then (mn c k).bind fun t => oMna t st pc' σ else none
  | _ => none
def okI (v : Value) : Bool := match v with | .int _ => true | _ => false
def okL (v : Value) : Bool := match v with | .long _ => true | _ => false
def okA (v : Value) : Bool := match v with | .ref _ => true | .retAddr _ => true | _ => false
def pLd (ok : Value → Bool) (L : PL) (k : Nat) (st : List Value) : Option (PL × List Value) := (lk L k).bind fun v => bif ok v then some (L, v :: st) else none
def pSt1 (ok : Value → Bool) (nL : Nat) (L : PL) (k : Nat) (st : List Value) : Option (PL × List Value) := match st with
  | v :: r => bif ok v && Nat.blt k nL then some (ins1 L k v, r) else none
  | _ => none
def pSt2 (nL : Nat) (L : PL) (k : Nat) (st : List Value) : Option (PL × List Value) := match st with
  | v :: r => bif okL v && Nat.blt (k + 1) nL then some (ins2 L k v, r) else none
  | _ => none
/-- an instruction over the locals -/
def pL (i : Instr) (nL : Nat) (L : PL) (st : List Value) : Option (PL × List Value) := match i with
  | .iload k => pLd okI L k st
  | .iload_n k => pLd okI L (k : Nat) st
  | .lload k => pLd okL L k st
  | .lload_n k => pLd okL L (k : Nat) st
  | .aload k => pLd okA L k st
  | .aload_n k => pLd okA L (k : Nat) st
  | .istore k => pSt1 okI nL L k st
  | .istore_n k => pSt1 okI nL L (k : Nat) st
  | .astore k => pSt1 okA nL L k st
  | .astore_n k => pSt1 okA nL L (k : Nat) st
  | .lstore k => pSt2 nL L k st
  | .lstore_n k => pSt2 nL L (k : Nat) st
  | .iinc k n => (match lk L k with | some (.int x) => bif Nat.blt k nL then some (ins1 L k (.int (x + Int32.ofInt n)), st) else none | _ => none)
  | _ => none
def retOf (i : Instr) (st : List Value) : Option (Option Value) := match i with
  | .ireturn => (match st with | [.int x] => some (some (.int x)) | _ => none)
  | .lreturn => (match st with | [.long x] => some (some (.long x)) | _ => none)
  | .areturn => (match st with | [.ref x] => some (some (.ref x)) | _ => none)
  | .return_ => (match st with | [] => some none | _ => none)
  | _ => none
def retI (v : Option Value) : Instr := match v with
  | none => .return_
  | some (.int _) => .ireturn
  | some (.long _) => .lreturn
  | _ => .areturn
def okRet (t : Option FieldType) (v : Option Value) : Bool := match t, v with
  | none, none => true
  | some .int, some (.int _) => true
  | some .boolean, some (.int x) => x == 0 || x == 1
  | some .long, some (.long _) => true
  | some (.object _), some (.ref _) => true
  | _, _ => false
/-- which entry a call names: 0 virtual, 1 special, 2 static -/
def callOf (i : Instr) : Option (Nat × Nat) := match i with
  | .invokevirtual k => some (0, k)
  | .invokespecial k => some (1, k)
  | .invokestatic k => some (2, k)
  | _ => none
def popN : Nat → List Value → List Value → Option (List Value × List Value)
  | 0, st, acc => some (acc, st)
  | n + 1, v :: st, acc => popN n st (v :: acc)
  | _ + 1, [], _ => none
def catS (st : List Value) : Nat := (st.map fun v => v.category).sum
/-- System.arraycopy over two of our rows -/
def oCpy (st : List Value) (σ : PSt) : Option (List Value × PSt) := match st with
  | .int n :: .int dp :: .ref b :: .int sp :: .ref a :: r =>
    if a < pnc σ ∧ b < pnc σ ∧ (ply σ a).1 = (ply σ b).1 ∧ ¬ sp < 0 ∧ ¬ dp < 0 ∧ ¬ n < 0 ∧ sp.toNatClampNeg + n.toNatClampNeg ≤ (ply σ a).2 ∧ dp.toNatClampNeg + n.toNatClampNeg ≤ (ply σ b).2 ∧ catS r ≤ 8 then
      if (ply σ a).1 = 1 then some (r, riv σ b (va_cpy (piv σ a) (piv σ b) sp.toNatClampNeg dp.toNatClampNeg n.toNatClampNeg))
      else if (ply σ a).1 = 4 then some (r, rlv σ b (va_cpy (plv σ a) (plv σ b) sp.toNatClampNeg dp.toNatClampNeg n.toNatClampNeg)) else none
    else none
  | _ => none
/-- Math.max, Math.min -/
def oMM (j : Nat) (st : List Value) : Option (List Value) := match st with
  | .int y :: .int x :: r => if catS r ≤ 8 then some ((bif Nat.beq j 0 then .int (if x < y then y else x) else .int (if y < x then y else x)) :: r) else none
  | _ => none
/-- what a method's first locals are -/
def entL (as : List Value) : PL := lv_args 0 as
/-- the receiver is a cell of the method's class -/
def vOk (k y : Nat) (as : List Value) (σ : PSt) : Bool := bif Nat.beq k 2 then true else match as with
  | .ref o :: _ => Nat.blt o (pnc σ) && (Nat.beq (ply σ o).1 0 && Nat.beq (ply σ o).2 (mC y))
  | _ => false
/-- the run: n steps at most, calls d deep at most -/
def prun (Λ : PRo) : Nat → Nat → Nat → Nat → PL → List Value → PSt → Option (Option Value × PSt)
  | 0, _, _, _, _, _, _ => none
  | n + 1, d, m, pc, L, st, σ =>
    match decode (mB m) pc with
    | .error _ => none
    | .ok (i, len) =>
      if lenOk i len = true then
        match retOf i st with
        | some v => if okRet (mR m) v = true then some (v, σ) else none
        | none =>
          match callOf i with
          | some (k, idx) =>
            match d with
            | 0 => none
            | d' + 1 =>
              match ca (mC m) idx with
              | some y =>
                if kdOk k y = true then
                  match popN (nA y) st [] with
                  | some (as, rest) => if catS rest ≤ 8 ∧ catS as ≤ mL y ∧ vOk k y as σ = true then
                      match prun Λ n d' y 0 (entL as) [] σ with
                      | some (v, σ1) => prun Λ n (d' + 1) m (pc + 3) L (v.toList ++ rest) σ1
                      | none => none
                    else none
                  | none => none
                else none
              | none =>
                if k = 1 ∧ oi (mC m) idx = true then
                  match st with
                  | .ref _ :: rest => if catS rest ≤ 8 then prun Λ n (d' + 1) m (pc + 3) L rest σ else none
                  | _ => none
                else if k = 2 ∧ ac (mC m) idx = true then
                  match oCpy st σ with
                  | some (rest, σ1) => prun Λ n (d' + 1) m (pc + 3) L rest σ1
                  | none => none
                else if k = 2 then
                  match mm (mC m) idx with
                  | some j => (match oMM j st with
                    | some st1 => prun Λ n (d' + 1) m (pc + 3) L st1 σ
                    | none => none)
                  | none => none
                else none
          | none =>
            match pS Λ (isIni m) (mC m) pc (pc + len) σ i st with
            | some (pc2, st2, σ2) => prun Λ n d m pc2 L st2 σ2
            | none =>
              match pL i (mL m) L st with
              | some (L2, st2) => prun Λ n d m (pc + len) L2 st2 σ
              | none => none
      else none
end
section
/-! ===== THE MACHINE DOES WHAT THE PURE MACHINE SAYS: worlds, contexts, one instruction ===== -/
def cv (b0 : Nat) (tt : Nat → Nat) : Value → Value
  | .ref k => .ref (b0 + k)
  | .retAddr k => .ref (tt k)
  | v => v
theorem cv_cat {b0 : Nat} {tt : Nat → Nat} (v : Value) : (cv b0 tt v).category = v.category := by cases v <;> rfl
def arc (b0 : Nat) (σ : PSt) (t k : Nat) : (Nat → Int32) ⊕ (Nat → Int64) ⊕ (Nat → UInt32) ⊕ (Nat → UInt64) ⊕ (Nat → Option Nat) :=
  if t = 4 then .inr (.inl (plv σ k)) else if 5 ≤ t then .inr (.inr (.inr (.inr (fun i => (prv σ k i).map (fun j => b0 + j))))) else .inl (piv σ k)
def fls (b0 : Nat) (tt : Nat → Nat) (σ : PSt) (ci k : Nat) : List Value := (List.range (nF ci)).map fun f => cv b0 tt (fval σ ci k f)
def ent (dA : Nat → ClassId) (b0 : Nat) (tt : Nat → Nat) (σ : PSt) (k : Nat) : va_E :=
  if (ply σ k).1 = 0 then .inr ((ply σ k).2, fls b0 tt σ (ply σ k).2 k) else .inl (dA (ply σ k).1, (ply σ k).2, arc b0 σ (ply σ k).1 k)
theorem ent_o {dA : Nat → ClassId} {b0 : Nat} {tt : Nat → Nat} {σ : PSt} {k ci : Nat} (h : ply σ k = (0, ci)) : ent dA b0 tt σ k = .inr (ci, fls b0 tt σ ci k) := by
  unfold ent
  rw [h]
  rfl
theorem ent_a {dA : Nat → ClassId} {b0 : Nat} {tt : Nat → Nat} {σ : PSt} {k t : Nat} (h : (ply σ k).1 = t) (h0 : t ≠ 0) : ent dA b0 tt σ k = .inl (dA t, (ply σ k).2, arc b0 σ t k) := by
  unfold ent
  rw [if_neg (by rw [h]; exact h0), h]
theorem ent_congr {dA : Nat → ClassId} {b0 : Nat} {tt : Nat → Nat} {σ τ : PSt} {k : Nat} (h1 : ply τ k = ply σ k) (h2 : prv τ k = prv σ k) (h3 : piv τ k = piv σ k) (h4 : plv τ k = plv σ k) : ent dA b0 tt τ k = ent dA b0 tt σ k := by
  unfold ent fls arc fval
  rw [h1, h2, h3, h4]
theorem fls_get {b0 : Nat} {tt : Nat → Nat} {σ : PSt} {ci k f : Nat} (hf : f < nF ci) : (fls b0 tt σ ci k)[f]? = some (cv b0 tt (fval σ ci k f)) := by
  unfold fls
  rw [List.getElem?_map, List.getElem?_range hf]
  rfl
/-- the heap holds a state, from b0 on -/
def Hd (D : va_G) (dA : Nat → ClassId) (b0 : Nat) (tt : Nat → Nat) (σ : PSt) (H : Heap) : Prop := H.size = b0 + pnc σ ∧ ∀ k, k < pnc σ → va_at D vwCl (b0 + k, ent dA b0 tt σ k) H
theorem Hd.upd {D : va_G} {dA : Nat → ClassId} {b0 : Nat} {tt : Nat → Nat} {σ τ : PSt} {H H1 : Heap} {k : Nat} (h : Hd D dA b0 tt σ H) (hn : pnc τ = pnc σ) (hz : H1.size = H.size) (oq : ∀ q : Nat, q ≠ b0 + k → H1[q]? = H[q]?) (he : ∀ j, j ≠ k → ent dA b0 tt τ j = ent dA b0 tt σ j)
    (h1 : va_at D vwCl (b0 + k, ent dA b0 tt τ k) H1) : Hd D dA b0 tt τ H1 := by
  refine ⟨by rw [hz, hn]; exact h.1, fun j hj => ?_⟩
  by_cases hjk : j = k
  · subst hjk; exact h1
  · rw [he j hjk]
    exact (h.2 j (by rw [← hn]; exact hj)).kept (oq (b0 + j) (by omega))
theorem Hd.push {D : va_G} {dA : Nat → ClassId} {b0 : Nat} {tt : Nat → Nat} {σ τ : PSt} {H H1 : Heap} (h : Hd D dA b0 tt σ H) (hn : pnc τ = pnc σ + 1) (hz : H1.size = H.size + 1) (oq : ∀ q : Nat, q < H.size → H1[q]? = H[q]?) (he : ∀ j, j < pnc σ → ent dA b0 tt τ j = ent dA b0 tt σ j)
    (h1 : va_at D vwCl (b0 + pnc σ, ent dA b0 tt τ (pnc σ)) H1) : Hd D dA b0 tt τ H1 := by
  have hs := h.1
  refine ⟨by rw [hz, hn, hs]; omega, fun j hj => ?_⟩
  by_cases hjk : j = pnc σ
  · subst hjk; exact h1
  · have hj2 : j < pnc σ := by omega
    rw [he j hj2]
    exact (h.2 j hj2).kept (oq (b0 + j) (by omega))
def tysL (dA : Nat → ClassId) : List (ClassId × FieldType) := [(dA 1, .int), (dA 2, .byte), (dA 3, .short), (dA 4, .long), (dA 5, .array .int), (dA 6, .array .long)]
theorem tysL_at {dA : Nat → ClassId} {t : Nat} (h0 : 1 ≤ t) (h6 : t ≤ 6) : (tysL dA)[t - 1]? = some (dA t, aty t) := by
  have : t = 1 ∨ t = 2 ∨ t = 3 ∨ t = 4 ∨ t = 5 ∨ t = 6 := by omega
  rcases this with rfl | rfl | rfl | rfl | rfl | rfl <;> rfl
theorem vwCl_at {ci : Nat} (h : ci < NX) : vwCl[ci]? = some (cnm ci, cT ci, nF ci) := by
  have h2 : ci < 13 := h
  have : ci = 0 ∨ ci = 1 ∨ ci = 2 ∨ ci = 3 ∨ ci = 4 ∨ ci = 5 ∨ ci = 6 ∨ ci = 7 ∨ ci = 8 ∨ ci = 9 ∨ ci = 10 ∨ ci = 11 ∨ ci = 12 := by omega
  rcases this with rfl | rfl | rfl | rfl | rfl | rfl | rfl | rfl | rfl | rfl | rfl | rfl | rfl <;> rfl
theorem vwCl_lt {ci : Nat} {r : vw_C} (h : vwCl[ci]? = some r) : ci < NX := (List.getElem?_eq_some_iff.mp h).1
/-- what the tables and the statics say of a state -/
def KN (Λ : PRo) (D : va_G) (dA : Nat → ClassId) (b0 : Nat) (tt : Nat → Nat) (U : State) (Hp : Heap) : Prop :=
  va_K D vwCl (tysL dA) U ∧ b0 ≤ Hp.size ∧ (∀ j, j < Λ.1 → va_T .int (tt j) (Λ.2.1 j) (fun i => .int (Λ.2.2 j i)) (fun a => b0 ≤ a) U Hp) ∧ (∀ j, 1 ≤ j → j < 4 → va_Z (stN j).1 (stN j).2.1 (stN j).2.2 (.ref (tt j)) (fun a => b0 ≤ a) U Hp) ∧ (Cond.arrayOver (.array .int)).before #[] U = true ∧ (Cond.arrayOver (.array .long)).before #[] U = true
theorem KN.moved {Λ : PRo} {D : va_G} {dA : Nat → ClassId} {b0 : Nat} {tt : Nat → Nat} {u U : State} {H H1 : Heap} (hvm : u.vm.Alike U.vm) (h : KN Λ D dA b0 tt u H) (hz : b0 ≤ H1.size) (hq : ∀ q : Nat, q < b0 → H1[q]? = H[q]?) : KN Λ D dA b0 tt U H1 := by
  obtain ⟨h1, h2, h3, h4, h5, h6⟩ := h
  refine ⟨h1.moved hvm, hz, fun j hj => ((h3 j hj).moved hvm).kept (fun a _ ha => hq a (by have ha : ¬ b0 ≤ a := ha; omega)), fun j h0 hj => ((h4 j h0 hj).moved hvm).kept (fun a _ ha => hq a (by have ha : ¬ b0 ≤ a := ha; omega)), Stand.arrayOver_alikeB hvm h5, Stand.arrayOver_alikeB hvm h6⟩
/-- the walk's fixed things -/
abbrev Ctx : Type := Program × Launch × Env × Room × State × MethodId × Array Value × List Frame × Method × Code × (State → Prop) × va_G × (Nat → ClassId) × Nat × (Nat → Nat) × Nat × Nat × Nat
abbrev xp (X : Ctx) : Program := X.1
abbrev xl (X : Ctx) : Launch := X.2.1
abbrev xe (X : Ctx) : Env := X.2.2.1
abbrev xR (X : Ctx) : Room := X.2.2.2.1
abbrev xs (X : Ctx) : State := X.2.2.2.2.1
abbrev xi (X : Ctx) : MethodId := X.2.2.2.2.2.1
abbrev xa (X : Ctx) : Array Value := X.2.2.2.2.2.2.1
abbrev xb (X : Ctx) : List Frame := X.2.2.2.2.2.2.2.1
abbrev xh (X : Ctx) : Method := X.2.2.2.2.2.2.2.2.1
abbrev xc (X : Ctx) : Code := X.2.2.2.2.2.2.2.2.2.1
abbrev xQ (X : Ctx) : State → Prop := X.2.2.2.2.2.2.2.2.2.2.1
abbrev xD (X : Ctx) : va_G := X.2.2.2.2.2.2.2.2.2.2.2.1
abbrev xA (X : Ctx) : Nat → ClassId := X.2.2.2.2.2.2.2.2.2.2.2.2.1
abbrev xo (X : Ctx) : Nat := X.2.2.2.2.2.2.2.2.2.2.2.2.2.1
abbrev xt (X : Ctx) : Nat → Nat := X.2.2.2.2.2.2.2.2.2.2.2.2.2.2.1
abbrev xk (X : Ctx) : Nat := X.2.2.2.2.2.2.2.2.2.2.2.2.2.2.2.1
abbrev xn (X : Ctx) : Nat := X.2.2.2.2.2.2.2.2.2.2.2.2.2.2.2.2.1
abbrev xm (X : Ctx) : Nat := X.2.2.2.2.2.2.2.2.2.2.2.2.2.2.2.2.2
/-- the good words of the tables -/
def WALL : List Cond := lw_tbl.filter goodWord
theorem wall_in {w : Cond} (h : w ∈ lw_tbl) (hg : goodWord w = true) : w ∈ WALL := List.mem_filter.mpr ⟨h, hg⟩
def CX (Λ : PRo) (X : Ctx) : Prop := (xp X).tables.exec = Jvm.exec ∧ (xc X).code = mB (xm X) ∧ (xh X).sig.returnType = mR (xm X) ∧ (xc X).maxLocals = mL (xm X) ∧ (xs X).vm.findClass (cnm (mC (xm X))) = some (xi X).cls ∧ (∀ w ∈ WALL, w.before (xa X) (xs X) = true) ∧ (xh X).locks = false ∧ (isIni (xm X) = true → (xh X).name = "<init>") ∧ KN Λ (xD X) (xA X) (xo X) (xt X) (xs X) (xs X).heap ∧ xm X ≤ NM
abbrev cvL (X : Ctx) (L : PL) : List (Nat × Value) := L.map fun q => (q.1, cv (xo X) (xt X) q.2)
/-- the walk goes on well from here -/
def WS (X : Ctx) (pc : Nat) (L : PL) (st : List Value) (σ : PSt) : Prop := ∀ (H : Heap) (locs : List Loc) (cells slots : Nat) (ls : Array Slot), Hd (xD X) (xA X) (xo X) (xt X) σ H → va_S (fun q => xo X ≤ q) (xs X).heap H locs → pnc σ = xk X + cells → pns σ = xn X + slots → lv_has ls (mL (xm X)) (cvL X L) →
  W (xp X) (xl X) (xe X) (xR X) (xs X) (xi X) (xa X) (xb X) (xh X) (xc X) H locs cells slots (xQ X) (F0 (xi X) pc ls (st.map (cv (xo X) (xt X))))
/-! inversions -/
theorem oI1_i {st : List Value} {f : Int32 → Int32} {pc : Nat} {σ : PSt} {q : Nat × List Value × PSt} (h : oI1 st f pc σ = some q) : ∃ x r, st = .int x :: r ∧ q = (pc, .int (f x) :: r, σ) := by
  unfold oI1 at h
  split at h
  · cases h; exact ⟨_, _, rfl, rfl⟩
  · cases h
theorem oI2_i {st : List Value} {f : Int32 → Int32 → Int32} {pc : Nat} {σ : PSt} {q : Nat × List Value × PSt} (h : oI2 st f pc σ = some q) : ∃ x y r, st = .int y :: .int x :: r ∧ q = (pc, .int (f x y) :: r, σ) := by
  unfold oI2 at h
  split at h
  · cases h; exact ⟨_, _, _, rfl, rfl⟩
  · cases h
theorem oD2_i {st : List Value} {f : Int32 → Int32 → Int32} {pc : Nat} {σ : PSt} {q : Nat × List Value × PSt} (h : oD2 st f pc σ = some q) : ∃ x y r, st = .int y :: .int x :: r ∧ ¬ y = 0 ∧ q = (pc, .int (f x y) :: r, σ) := by
  unfold oD2 at h
  split at h
  · split at h
    · cases h
    · cases h; exact ⟨_, _, _, rfl, by assumption, rfl⟩
  · cases h
theorem oL2_i {st : List Value} {f : Int64 → Int64 → Int64} {pc : Nat} {σ : PSt} {q : Nat × List Value × PSt} (h : oL2 st f pc σ = some q) : ∃ x y r, st = .long y :: .long x :: r ∧ q = (pc, .long (f x y) :: r, σ) := by
  unfold oL2 at h
  split at h
  · cases h; exact ⟨_, _, _, rfl, rfl⟩
  · cases h
theorem oE2_i {st : List Value} {f : Int64 → Int64 → Int64} {pc : Nat} {σ : PSt} {q : Nat × List Value × PSt} (h : oE2 st f pc σ = some q) : ∃ x y r, st = .long y :: .long x :: r ∧ ¬ y = 0 ∧ q = (pc, .long (f x y) :: r, σ) := by
  unfold oE2 at h
  split at h
  · split at h
    · cases h
    · cases h; exact ⟨_, _, _, rfl, by assumption, rfl⟩
  · cases h
theorem tgt_i {pc : Nat} {off : Int} {t : Nat} (h : tgt pc off = some t) : (pc : Int) + off = (t : Int) := by
  unfold tgt at h
  split at h
  · cases h; omega
  · cases h
theorem oGet_i {c k : Nat} {st : List Value} {pc : Nat} {σ : PSt} {q : Nat × List Value × PSt} (h : oGet c k st pc σ = some q) : ∃ o r ci f, st = .ref o :: r ∧ fl c k = some (ci, f) ∧ o < pnc σ ∧ ply σ o = (0, ci) ∧ f < nF ci ∧ q = (pc, fval σ ci o f :: r, σ) := by
  unfold oGet at h
  split at h
  · split at h
    · split at h
      next hh => cases h; exact ⟨_, _, _, _, rfl, by assumption, hh.1, hh.2.1, hh.2.2, rfl⟩
      next => cases h
    · cases h
  · cases h
theorem oPut_i {ini : Bool} {c k : Nat} {st : List Value} {pc : Nat} {σ : PSt} {q : Nat × List Value × PSt} (h : oPut ini c k st pc σ = some q) : ∃ v o r ci f τ, st = v :: .ref o :: r ∧ fl c k = some (ci, f) ∧ o < pnc σ ∧ ply σ o = (0, ci) ∧ f < nF ci ∧ (ffin ci f = true → ini = true ∧ c = ci) ∧ pval σ (fk ci f) o f v = some τ ∧ q = (pc, r, τ) := by
  unfold oPut at h
  split at h
  · split at h
    · split at h
      next hh =>
        rw [Option.map_eq_some_iff] at h
        obtain ⟨τ, h1, rfl⟩ := h
        exact ⟨_, _, _, _, _, _, rfl, by assumption, hh.1, hh.2.1, hh.2.2.1, hh.2.2.2, h1, rfl⟩
      next => cases h
    · cases h
  · cases h
theorem vin_in {i : Int32} {n : Nat} (h : vin i n) : vp_in i n := vp_in_iff.mpr h
theorem vin_lt {i : Int32} {n : Nat} (h : vin i n) : i.toNatClampNeg < n := Nat.not_le.mp fun q => vin_in h (Or.inr q)
end
section
/-! ===== words by their places ===== -/
theorem w_code {m : Nat} (h : m < NM) : wCode m ∈ WALL := by
  have h1 : wCode0 m ∈ lw_tbl.filter k2_isCode := by
    rw [sgCode_ok]
    exact List.mem_map.mpr ⟨m, sgCode_all m h, rfl⟩
  have h2 : wCode0 m = wCode m := by
    have h3 := nm_9999
    have e1 : Nat.beq m 9999 = false := by
      cases e : Nat.beq m 9999
      · rfl
      · have := Nat.eq_of_beq_eq_true e; omega
    have e2 : Nat.beq m 9998 = false := by
      cases e : Nat.beq m 9998
      · rfl
      · have := Nat.eq_of_beq_eq_true e; omega
    have e3 : Nat.beq m 9997 = false := by
      cases e : Nat.beq m 9997
      · rfl
      · have := Nat.eq_of_beq_eq_true e; omega
    unfold wCode0
    rw [e1, e2, e3]
    rfl
  rw [h2] at h1
  exact wall_in (List.mem_filter.mp h1).1 rfl
theorem w_code0 {w : Cond} {m : Nat} (hm : m ∈ sgCode) (h : wCode0 m = w) (hg : goodWord w = true) : w ∈ WALL := by
  have h1 : wCode0 m ∈ lw_tbl.filter k2_isCode := by
    rw [sgCode_ok]
    exact List.mem_map.mpr ⟨m, hm, rfl⟩
  rw [h] at h1
  exact wall_in (List.mem_filter.mp h1).1 hg
theorem w_im {m : Nat} (h : m < NM) (hk : ¬ mK m = 2) : Cond.instanceMethod (mY m) ∈ WALL := wall_in (chk_map (f := wIm) sgIm_ok (sgIm_all m h hk)) rfl
theorem w_sel {m : Nat} (h : m < NM) (hk : mK m = 0) : wSel m ∈ WALL := wall_in (chk_map (f := wSel) sgSel_ok (sgSel_all m h hk)) rfl
theorem w_st {m : Nat} (h : m < NM) (hk : mK m = 2) : Cond.static (mY m) ∈ WALL := wall_in (chk_map (f := wSt) sgSt_ok (sgSt_all m h hk)) rfl
theorem w_ca {c k y : Nat} (hc : c < NCL) (h : ca c k = some y) : Cond.methodLink (cnm c) k (mY y) ∈ WALL := wall_in (chk_map (f := wCa1) sgCa_ok (sgCa_all c hc _ (lkp_in h))) rfl
theorem ca_y {c k y : Nat} (hc : c < NCL) (h : ca c k = some y) : y < NM := ca_lt c hc _ (lkp_in h)
theorem w_fl {c k : Nat} {e : Nat × Nat} (hc : c < NCL) (h : fl c k = some e) : wFl c (k, e) ∈ WALL := wall_in (chk_map (f := wFl1) sgFl_ok (sgFl_all c hc _ (lkp_in h))) rfl
theorem fl_y {c k : Nat} {e : Nat × Nat} (hc : c < NCL) (h : fl c k = some e) : e.1 < NX ∧ e.2 < nF e.1 := fl_lt c hc _ (lkp_in h)
theorem w_sk {c k j : Nat} (hc : c < NCL) (h : sk c k = some j) : wSk c (k, j) ∈ WALL := wall_in (chk_map (f := wSk1) sgSk_ok (sgSk_all c hc _ (lkp_in h))) rfl
theorem w_nw {c k j : Nat} (hc : c < NCL) (h : nw c k = some j) : wNw c (k, j) ∈ WALL := wall_in (chk_map (f := wNw1) sgNw_ok (sgNw_all c hc _ (lkp_in h))) rfl
theorem w_mn {c k j : Nat} (hc : c < NCL) (h : mn c k = some j) : wMn c (k, j) ∈ WALL := wall_in (chk_map (f := wMn1) sgMn_ok (sgMn_all c hc _ (lkp_in h))) rfl
theorem w_ki {c k : Nat} {v : Int32} (hc : c < NCL) (h : ki c k = some v) : Cond.constant (cnm c) k v ∈ WALL := wall_in (chk_map (f := wKi) sgKi_ok (sgKi_all c hc _ (lkp_in h))) rfl
theorem w_kl {c k : Nat} {v : Int64} (hc : c < NCL) (h : kl c k = some v) : Cond.constantLong (cnm c) k v ∈ WALL := wall_in (chk_map (f := wKl) sgKl_ok (sgKl_all c hc _ (lkp_in h))) rfl
theorem w_mm {c k j : Nat} (hc : c < NCL) (h : mm c k = some j) : Cond.methodLink (cnm c) k (mmN j) ∈ WALL := wall_in (chk_map (f := wMm) sgMm_ok (sgMm_all c hc _ (lkp_in h))) rfl
theorem w_oi {c k : Nat} (hc : c < NCL) (h : oi c k = true) : Cond.methodLink (cnm c) k objectInit ∈ WALL := wall_in (chk_map (f := wOi) sgOi_ok (sgOi_all c hc _ (List.contains_iff_mem.mp h))) rfl
theorem w_ac {c k : Nat} (hc : c < NCL) (h : ac c k = true) : Cond.methodLink (cnm c) k arraycopyName ∈ WALL := wall_in (chk_map (f := wAc) sgAc_ok (sgAc_all c hc _ (List.contains_iff_mem.mp h))) rfl
theorem w_lay {c : Nat} (hc : c < NX) : ∀ w ∈ u_ws (cnm c) (cT c) (nF c), w ∈ WALL := by
  intro w hw
  obtain ⟨k, hk, rfl⟩ := List.mem_map.mp hw
  refine wall_in (chk_map (f := wLay) sgLay_ok (sgLay_all c hc k (List.mem_range.mp hk))) ?_
  unfold u_lay
  split <;> rfl
theorem w_in {c : Nat} (hc : c < NCL) : Cond.initialized (cnm c) ∈ WALL := wall_in (chk_map (f := wInit) sgIn_ok (sgIn_all c hc)) rfl
theorem w_is {c : Nat} (hc : c < NX) : Cond.instantiable (cnm c) (nF c) ∈ WALL := wall_in (chk_map (f := wIns) sgIs_ok (sgIs_all c hc)) rfl
theorem w_ex {w : Cond} (h : w ∈ sgEx.map (fun q => q.2)) (hg : goodWord w = true) : w ∈ WALL := wall_in (chk_map (f := wEx) sgEx_ok h) hg
theorem nx_cl {c : Nat} (h : c < NX) : c < NCL := by
  have h1 : c < 13 := h
  show c < 15
  omega
/-! ===== one instruction: a field read, a field written, rows ===== -/
theorem CX.mc {Λ : PRo} {X : Ctx} (C : CX Λ X) : mC (xm X) < NCL := mC_lt _ C.2.2.2.2.2.2.2.2.2
theorem ws_get {Λ : PRo} {X : Ctx} (C : CX Λ X) {pc : Nat} {L : PL} {o ci f k : Nat} {r : List Value} {σ : PSt} (hd : decode (mB (xm X)) pc = .ok (.getfield k, 3)) (hfl : fl (mC (xm X)) k = some (ci, f)) (ho : o < pnc σ) (hp : ply σ o = (0, ci)) (hf : f < nF ci)
    (kk : WS X (pc + 3) L (fval σ ci o f :: r) σ) : WS X pc L (.ref o :: r) σ := by
  intro H locs cells slots ls hH hS hc hs hl
  obtain ⟨hci, -⟩ := fl_y C.mc hfl
  have hat := hH.2 o ho
  rw [ent_o hp] at hat
  obtain ⟨r0, h1, cell, q1, q2, q3, q4⟩ := hat
  have hr : r0 = (cnm ci, cT ci, nF ci) := Option.some.inj (h1.symm.trans (vwCl_at hci))
  subst hr
  obtain ⟨hSl, hfc, kC, hkC, hkind⟩ := C.2.2.2.2.2.2.2.2.1.1.1 ci _ h1
  obtain ⟨cf, kf, fi, fd, hi, hsl⟩ := hSl f hf
  have hlink := C.2.2.2.2.2.1 _ (w_fl C.mc hfl)
  have hT1 := (fk_ok ci hci f hf).2.2.2.2.2.2
  have hi2 : (xs X).fieldFound? (cnm ci) (cT ci f).2.1 (cT ci f).2.2.1 = some (cf, kf, fi, fd) := by rw [← hT1]; exact hi
  refine W.getf C.1 C.2.1 C.2.2.2.2.1 hlink hi2 (u_facts hfc hkC (u_lays C.2.2.2.2.2.1 (w_lay hci) hf) hi).1 q1 (by rw [q3]; exact fun h => by cases h) (v := cv (xo X) (xt X) (fval σ ci o f)) ?_ rfl rfl hd (kk H locs cells slots ls hH hS hc hs hl)
  rw [hsl, q4 f hf]
  have := fls_get (b0 := xo X) (tt := xt X) (σ := σ) (k := o) hf
  simp [vp_V, this]
theorem pval_i {σ τ : PSt} {ci o f : Nat} {v : Value} (h : pval σ (fk ci f) o f v = some τ) : pnc τ = pnc σ ∧ pns τ = pns σ ∧ ply τ = ply σ ∧ (∀ j, j ≠ o → prv τ j = prv σ j ∧ piv τ j = piv σ j ∧ plv τ j = plv σ j) ∧ ∀ j, fval τ ci o j = if j = f then v else fval σ ci o j := by
  unfold pval at h
  split at h
  · split at h
    next x hk =>
      cases h
      refine ⟨rfl, rfl, rfl, fun j hj => ⟨rfl, up2_n hj, rfl⟩, fun j => ?_⟩
      by_cases hj : j = f
      · subst hj
        rw [if_pos rfl]
        have : fk ci j = 1 ∨ fk ci j = 3 := by rcases hk with h | h; exact Or.inl h; exact Or.inr h.1
        unfold fval
        rcases this with e | e <;> rw [e] <;> exact congrArg Value.int up2_s
      · rw [if_neg hj]
        unfold fval
        have e : piv (wiv σ o f x) o j = piv σ o j := by show up2 (piv σ) o f x o j = _; simp [up2, hj]
        rw [e]
        rfl
    next => cases h
  · split at h
    next x hk =>
      cases h
      refine ⟨rfl, rfl, rfl, fun j hj => ⟨rfl, rfl, up2_n hj⟩, fun j => ?_⟩
      by_cases hj : j = f
      · subst hj
        rw [if_pos rfl]
        unfold fval
        rw [hk]
        exact congrArg Value.long up2_s
      · rw [if_neg hj]
        unfold fval
        have e : plv (wlv σ o f x) o j = plv σ o j := by show up2 (plv σ) o f x o j = _; simp [up2, hj]
        rw [e]
        rfl
    next => cases h
  · split at h
    next x hk =>
      cases h
      refine ⟨rfl, rfl, rfl, fun j hj => ⟨up2_n hj, rfl, rfl⟩, fun j => ?_⟩
      by_cases hj : j = f
      · subst hj
        rw [if_pos rfl]
        unfold fval
        rw [hk]
        have e : prv (wrv σ o j (some x)) o j = some x := up2_s
        rw [e]
        rfl
      · rw [if_neg hj]
        unfold fval
        have e : prv (wrv σ o f (some x)) o j = prv σ o j := by show up2 (prv σ) o f (some x) o j = _; simp [up2, hj]
        rw [e]
        rfl
    next => cases h
  · cases h
theorem pval_fit {σ τ : PSt} {ci o f : Nat} {v : Value} {b0 : Nat} {tt : Nat → Nat} (hci : ci < NX) (hf : f < nF ci) (h : pval σ (fk ci f) o f v = some τ) : narrow (cTy ci f) (cv b0 tt v) = cv b0 tt v ∧ fits (cTy ci f) (cv b0 tt v) = true := by
  obtain ⟨k1, k2, k3, k4, -⟩ := fk_ok ci hci f hf
  unfold pval at h
  split at h
  · split at h
    next x hk =>
      rcases hk with hk | ⟨hk, hx⟩
      · rw [k1 hk]; exact ⟨rfl, rfl⟩
      · rw [k3 hk]
        rcases hx with rfl | rfl
        · show narrow .boolean (.int 0) = .int 0 ∧ fits .boolean (.int 0) = true
          decide
        · show narrow .boolean (.int 1) = .int 1 ∧ fits .boolean (.int 1) = true
          decide
    next => cases h
  · split at h
    next x hk => rw [k2 hk]; exact ⟨rfl, rfl⟩
    next => cases h
  · split at h
    next x hk =>
      have := k4 hk
      generalize cTy ci f = t at this
      cases t <;> first | exact ⟨rfl, rfl⟩ | cases this
    next => cases h
  · cases h
theorem Hd.fld {D : va_G} {dA : Nat → ClassId} {b0 : Nat} {tt : Nat → Nat} {σ τ : PSt} {H H1 : Heap} {o ci f : Nat} {v : Value} {cell : Cell} (h : Hd D dA b0 tt σ H) (hp : ply σ o = (0, ci)) (hci : ci < NX) (hf : f < nF ci) (hv : pval σ (fk ci f) o f v = some τ) (hz : H1.size = H.size) (oq : ∀ q : Nat, q ≠ b0 + o → H1[q]? = H[q]?)
    (q2 : cell.cls = D.1 ci) (q3 : cell.vm = .none) (q4 : ∀ k, k < nF ci → cell.slots[D.2 ci k]? = some (vp_V (fls b0 tt σ ci o) k)) (hap : ∀ x y, x < nF ci → y < nF ci → x ≠ y → D.2 ci x ≠ D.2 ci y) (e1 : H1[b0 + o]? = some (cell.setSlot (D.2 ci f) (cv b0 tt v))) : Hd D dA b0 tt τ H1 := by
  obtain ⟨i1, i2, i3, i4, i5⟩ := pval_i hv
  refine h.upd i1 hz oq (fun j hj => ent_congr (by rw [i3]) (i4 j hj).1 (i4 j hj).2.1 (i4 j hj).2.2) ?_
  rw [ent_o (show ply τ o = (0, ci) by rw [i3]; exact hp)]
  refine ⟨_, vwCl_at hci, t_OB.to (V := updV (vp_V (fls b0 tt σ ci o)) f (cv b0 tt v)) ⟨_, e1, q2, q3, t_set q4 hap hf _⟩ (fun j hj => ?_)⟩
  have hj2 : j < nF ci := hj
  have a1 : vp_V (fls b0 tt σ ci o) j = cv b0 tt (fval σ ci o j) := by simp [vp_V, fls_get hj2]
  have a2 : vp_V (fls b0 tt τ ci o) j = cv b0 tt (fval τ ci o j) := by simp [vp_V, fls_get hj2]
  rw [a2, i5 j]
  by_cases hjf : j = f
  · subst hjf; simp [updV]
  · simp [updV, hjf, a1]
theorem ws_put {Λ : PRo} {X : Ctx} (C : CX Λ X) {pc : Nat} {L : PL} {o ci f k : Nat} {v : Value} {r : List Value} {σ τ : PSt} (hd : decode (mB (xm X)) pc = .ok (.putfield k, 3)) (hfl : fl (mC (xm X)) k = some (ci, f)) (ho : o < pnc σ) (hp : ply σ o = (0, ci)) (hf : f < nF ci)
    (hfin : ffin ci f = true → isIni (xm X) = true ∧ mC (xm X) = ci) (hv : pval σ (fk ci f) o f v = some τ) (kk : WS X (pc + 3) L r τ) : WS X pc L (v :: .ref o :: r) σ := by
  intro H locs cells slots ls hH hS hc hs hl
  obtain ⟨hci, -⟩ := fl_y C.mc hfl
  have hat := hH.2 o ho
  rw [ent_o hp] at hat
  obtain ⟨r0, h1, cell, q1, q2, q3, q4⟩ := hat
  have hr : r0 = (cnm ci, cT ci, nF ci) := Option.some.inj (h1.symm.trans (vwCl_at hci))
  subst hr
  have hap := va_apart (own := cnm ci) C.2.2.2.2.2.1 (w_lay hci) (cTy ci) (cT_ty hci) (cT_nm hci) C.2.2.2.2.2.2.2.2.1.1 h1
  obtain ⟨hSl, hfc, kC, hkC, hkind⟩ := C.2.2.2.2.2.2.2.2.1.1.1 ci _ h1
  obtain ⟨cf, kf, fi, fd, hi, hsl⟩ := hSl f hf
  have hlink := C.2.2.2.2.2.1 _ (w_fl C.mc hfl)
  obtain ⟨-, -, -, -, -, hff, hT1⟩ := fk_ok ci hci f hf
  have hi2 : (xs X).fieldFound? (cnm ci) (cT ci f).2.1 (cT ci f).2.2.1 = some (cf, kf, fi, fd) := by rw [← hT1]; exact hi
  have hlay := C.2.2.2.2.2.1 _ (w_lay hci _ (u_in_lay hf))
  have hst := (u_facts hfc hkC (u_lays C.2.2.2.2.2.1 (w_lay hci) hf) hi).1
  obtain ⟨hn9, hfit⟩ := pval_fit (b0 := xo X) (tt := xt X) hci hf hv
  obtain ⟨i1, i2, -⟩ := pval_i hv
  cases hb : ffin ci f with
  | false =>
    unfold u_lay at hlay
    rw [if_neg (by rw [← hff, hb]; decide)] at hlay
    have h6 := u_store hfc hkC hkind hlay hi (cT_ty hci f hf) hn9 hfit
    refine W.putK C.1 C.2.1 (f := fd) ⟨C.2.2.2.2.1, hlink, ⟨_, _, _, hi2⟩, hst⟩ (by rw [q2]; exact h6) q1 q3 (by rw [hsl]; exact k2_hasslot (q4 f hf)) rfl rfl hd fun H' e1 e2 e3 => ?_
    rw [hsl] at e1
    exact kk H' _ cells slots ls (hH.fld hp hci hf hv e2 e3 q2 q3 q4 hap e1) (hS.put e2 e3 (show xo X ≤ xo X + o by omega)) (by rw [i1]; exact hc) (by rw [i2]; exact hs) hl
  | true =>
    unfold u_lay at hlay
    rw [if_pos (by rw [← hff, hb])] at hlay
    obtain ⟨hini, hcc⟩ := hfin hb
    have hcf : (xi X).cls = cf := by
      obtain ⟨_, _, c', _, _, _, -, -, hf', -, -, -, hown2, -⟩ := Cond.laysFinal_spec hlay
      have e1 : c' = cf := by have := hi.symm.trans hf'; simp at this; exact this.1.symm
      rw [hT1] at hown2
      have hown := C.2.2.2.2.1
      rw [hcc] at hown
      rw [← e1]; exact Option.some.inj (hown.symm.trans hown2)
    have h6 := u_fits hfc hkC hkind (Or.inr hlay) hi (cT_ty hci f hf) hn9 hfit
    refine W.putFinK C.1 C.2.1 C.2.2.2.2.1 hlink hi2 hst hcf (C.2.2.2.2.2.2.2.1 hini) (by rw [q2]; exact h6) q1 q3 (by rw [hsl]; exact k2_hasslot (q4 f hf)) rfl rfl hd fun H' e1 e2 e3 => ?_
    rw [hsl] at e1
    exact kk H' _ cells slots ls (hH.fld hp hci hf hv e2 e3 q2 q3 q4 hap e1) (hS.put e2 e3 (show xo X ≤ xo X + o by omega)) (by rw [i1]; exact hc) (by rw [i2]; exact hs) hl
end
section
/-! ===== one instruction: rows ===== -/
theorem CX.kn {Λ : PRo} {X : Ctx} (C : CX Λ X) : KN Λ (xD X) (xA X) (xo X) (xt X) (xs X) (xs X).heap := C.2.2.2.2.2.2.2.2.1
theorem va_S.lo {b0 : Nat} {H0 H : Heap} {locs : List Loc} (h : va_S (fun q => b0 ≤ q) H0 H locs) (hz : b0 ≤ H0.size) : b0 ≤ H.size ∧ ∀ q : Nat, q < b0 → H[q]? = H0[q]? := ⟨Nat.le_trans hz h.1, fun q hq => h.2.1 q (by omega) (by show ¬ b0 ≤ q; omega)⟩
theorem KN.at {Λ : PRo} {X : Ctx} (C : CX Λ X) {H : Heap} {locs : List Loc} (hS : va_S (fun q => xo X ≤ q) (xs X).heap H locs) : KN Λ (xD X) (xA X) (xo X) (xt X) (xs X) H := by
  have h := hS.lo C.kn.2.1
  exact C.kn.moved (Vm.Alike.refl _) h.1 h.2
theorem ws_iald {Λ : PRo} {X : Ctx} (C : CX Λ X) {pc : Nat} {L : PL} {o : Nat} {i : Int32} {r : List Value} {σ : PSt} (hd : decode (mB (xm X)) pc = .ok (.iaload, 1)) (ho : o < pnc σ) (hp : (ply σ o).1 = 1) (hi : vin i (ply σ o).2)
    (kk : WS X (pc + 1) L (.int (piv σ o i.toNatClampNeg) :: r) σ) : WS X pc L (.int i :: .ref o :: r) σ := by
  intro H locs cells slots ls hH hS hc hs hl
  have hat := hH.2 o ho
  rw [ent_a hp (by decide)] at hat
  have hcell : H[xo X + o]? = some (vp_cell (xA X 1) ((ply σ o).2, .inl (piv σ o))) := hat
  have hT := (C.kn.1.2 0 _ rfl).1
  exact W.iald (v := .int (piv σ o i.toNatClampNeg)) C.1 C.2.1 hcell (hT _ (fun j => .int (piv σ o j))) (fun q => by cases q) (by show ¬ (i < 0 ∨ (arrV _ _ _).slots.size ≤ _); rw [arrV_size]; exact vin_in hi) (by show (arrV _ _ _).slots[_]? = _; rw [arrV_read _ _ (vin_lt hi)]) rfl rfl hd (kk H locs cells slots ls hH hS hc hs hl)
theorem ws_bald {Λ : PRo} {X : Ctx} (C : CX Λ X) {pc : Nat} {L : PL} {o : Nat} {i : Int32} {r : List Value} {σ : PSt} (hd : decode (mB (xm X)) pc = .ok (.baload, 1)) (ho : o < pnc σ) (hp : (ply σ o).1 = 2) (hi : vin i (ply σ o).2)
    (kk : WS X (pc + 1) L (.int (piv σ o i.toNatClampNeg) :: r) σ) : WS X pc L (.int i :: .ref o :: r) σ := by
  intro H locs cells slots ls hH hS hc hs hl
  have hat := hH.2 o ho
  rw [ent_a hp (by decide)] at hat
  have hcell : H[xo X + o]? = some (vp_cell (xA X 2) ((ply σ o).2, .inl (piv σ o))) := hat
  have hT := (C.kn.1.2 1 _ rfl).1
  exact W.bald (v := .int (piv σ o i.toNatClampNeg)) C.1 C.2.1 hcell (hT _ (fun j => .int (piv σ o j))) (fun q => by cases q) (by show ¬ (i < 0 ∨ (arrV _ _ _).slots.size ≤ _); rw [arrV_size]; exact vin_in hi) (by show (arrV _ _ _).slots[_]? = _; rw [arrV_read _ _ (vin_lt hi)]) rfl rfl hd (kk H locs cells slots ls hH hS hc hs hl)
theorem ws_sald {Λ : PRo} {X : Ctx} (C : CX Λ X) {pc : Nat} {L : PL} {o : Nat} {i : Int32} {r : List Value} {σ : PSt} (hd : decode (mB (xm X)) pc = .ok (.saload, 1)) (ho : o < pnc σ) (hp : (ply σ o).1 = 3) (hi : vin i (ply σ o).2)
    (kk : WS X (pc + 1) L (.int (piv σ o i.toNatClampNeg) :: r) σ) : WS X pc L (.int i :: .ref o :: r) σ := by
  intro H locs cells slots ls hH hS hc hs hl
  have hat := hH.2 o ho
  rw [ent_a hp (by decide)] at hat
  have hcell : H[xo X + o]? = some (vp_cell (xA X 3) ((ply σ o).2, .inl (piv σ o))) := hat
  have hT := (C.kn.1.2 2 _ rfl).1
  exact W.sald (v := .int (piv σ o i.toNatClampNeg)) C.1 C.2.1 hcell (hT _ (fun j => .int (piv σ o j))) (fun q => by cases q) (by show ¬ (i < 0 ∨ (arrV _ _ _).slots.size ≤ _); rw [arrV_size]; exact vin_in hi) (by show (arrV _ _ _).slots[_]? = _; rw [arrV_read _ _ (vin_lt hi)]) rfl rfl hd (kk H locs cells slots ls hH hS hc hs hl)
theorem ws_lald {Λ : PRo} {X : Ctx} (C : CX Λ X) {pc : Nat} {L : PL} {o : Nat} {i : Int32} {r : List Value} {σ : PSt} (hd : decode (mB (xm X)) pc = .ok (.laload, 1)) (ho : o < pnc σ) (hp : (ply σ o).1 = 4) (hi : vin i (ply σ o).2)
    (kk : WS X (pc + 1) L (.long (plv σ o i.toNatClampNeg) :: r) σ) : WS X pc L (.int i :: .ref o :: r) σ := by
  intro H locs cells slots ls hH hS hc hs hl
  have hat := hH.2 o ho
  rw [ent_a hp (by decide)] at hat
  have hcell : H[xo X + o]? = some (vp_cell (xA X 4) ((ply σ o).2, .inr (.inl (plv σ o)))) := hat
  have hT := (C.kn.1.2 3 _ rfl).1
  exact W.lald (v := .long (plv σ o i.toNatClampNeg)) C.1 C.2.1 hcell (hT _ (fun j => .long (plv σ o j))) (fun q => by cases q) (by show ¬ (i < 0 ∨ (arrV _ _ _).slots.size ≤ _); rw [arrV_size]; exact vin_in hi) (by show (arrV _ _ _).slots[_]? = _; rw [arrV_read _ _ (vin_lt hi)]) rfl rfl hd (kk H locs cells slots ls hH hS hc hs hl)
theorem ws_aald {Λ : PRo} {X : Ctx} (C : CX Λ X) {pc : Nat} {L : PL} {o j : Nat} {i : Int32} {r : List Value} {σ : PSt} (hd : decode (mB (xm X)) pc = .ok (.aaload, 1)) (ho : o < pnc σ) (hp : (ply σ o).1 = 5 ∨ (ply σ o).1 = 6) (hi : vin i (ply σ o).2) (hj : prv σ o i.toNatClampNeg = some j)
    (kk : WS X (pc + 1) L (.ref j :: r) σ) : WS X pc L (.int i :: .ref o :: r) σ := by
  intro H locs cells slots ls hH hS hc hs hl
  have hat := hH.2 o ho
  rcases hp with hp | hp
  · rw [ent_a hp (by decide)] at hat
    have hcell : H[xo X + o]? = some (vp_cell (xA X 5) ((ply σ o).2, .inr (.inr (.inr (.inr (fun i => (prv σ o i).map (fun j => xo X + j))))))) := hat
    have hT := (C.kn.1.2 4 _ rfl).1
    exact W.aald (v := .ref (xo X + j)) C.1 C.2.1 hcell (hT _ (fun i => va_rf ((prv σ o i).map (fun j => xo X + j)))) rfl (fun q => by cases q) (by show ¬ (i < 0 ∨ (arrV _ _ _).slots.size ≤ _); rw [arrV_size]; exact vin_in hi) (by show (arrV _ _ _).slots[_]? = _; rw [arrV_read _ _ (vin_lt hi)]; show some (va_rf ((prv σ o i.toNatClampNeg).map (fun j => xo X + j))) = _; rw [hj]; rfl) rfl rfl hd (kk H locs cells slots ls hH hS hc hs hl)
  · rw [ent_a hp (by decide)] at hat
    have hcell : H[xo X + o]? = some (vp_cell (xA X 6) ((ply σ o).2, .inr (.inr (.inr (.inr (fun i => (prv σ o i).map (fun j => xo X + j))))))) := hat
    have hT := (C.kn.1.2 5 _ rfl).1
    exact W.aald (v := .ref (xo X + j)) C.1 C.2.1 hcell (hT _ (fun i => va_rf ((prv σ o i).map (fun j => xo X + j)))) rfl (fun q => by cases q) (by show ¬ (i < 0 ∨ (arrV _ _ _).slots.size ≤ _); rw [arrV_size]; exact vin_in hi) (by show (arrV _ _ _).slots[_]? = _; rw [arrV_read _ _ (vin_lt hi)]; show some (va_rf ((prv σ o i.toNatClampNeg).map (fun j => xo X + j))) = _; rw [hj]; rfl) rfl rfl hd (kk H locs cells slots ls hH hS hc hs hl)
theorem ws_rold {Λ : PRo} {X : Ctx} (C : CX Λ X) {pc : Nat} {L : PL} {o : Nat} {i : Int32} {r : List Value} {σ : PSt} (hd : decode (mB (xm X)) pc = .ok (.iaload, 1)) (ho : o < Λ.1) (hi : vin i (Λ.2.1 o))
    (kk : WS X (pc + 1) L (.int (Λ.2.2 o i.toNatClampNeg) :: r) σ) : WS X pc L (.int i :: .retAddr o :: r) σ := by
  intro H locs cells slots ls hH hS hc hs hl
  exact va_ti C.1 C.2.1 (C.kn.2.2.1 o ho) hS (vin_in hi) rfl hd (kk H locs cells slots ls hH hS hc hs hl)
theorem ws_rolen {Λ : PRo} {X : Ctx} (C : CX Λ X) {pc : Nat} {L : PL} {o : Nat} {r : List Value} {σ : PSt} (hd : decode (mB (xm X)) pc = .ok (.arraylength, 1)) (ho : o < Λ.1)
    (kk : WS X (pc + 1) L (.int (Int32.ofNat (Λ.2.1 o)) :: r) σ) : WS X pc L (.retAddr o :: r) σ := by
  intro H locs cells slots ls hH hS hc hs hl
  exact va_tlen C.1 C.2.1 (C.kn.2.2.1 o ho) hS rfl hd (kk H locs cells slots ls hH hS hc hs hl)
theorem ws_len {Λ : PRo} {X : Ctx} (C : CX Λ X) {pc : Nat} {L : PL} {o : Nat} {r : List Value} {σ : PSt} (hd : decode (mB (xm X)) pc = .ok (.arraylength, 1)) (ho : o < pnc σ) (h1 : 1 ≤ (ply σ o).1) (h6 : (ply σ o).1 ≤ 6)
    (kk : WS X (pc + 1) L (.int (Int32.ofNat (ply σ o).2) :: r) σ) : WS X pc L (.ref o :: r) σ := by
  intro H locs cells slots ls hH hS hc hs hl
  have hat := hH.2 o ho
  rw [ent_a rfl (by omega)] at hat
  have hT := (C.kn.1.2 ((ply σ o).1 - 1) _ (tysL_at h1 h6)).1
  have hcell : H[xo X + o]? = some (vp_cell (xA X (ply σ o).1) ((ply σ o).2, arc (xo X) σ (ply σ o).1 o)) := hat
  have e : ∃ f, vp_cell (xA X (ply σ o).1) ((ply σ o).2, arc (xo X) σ (ply σ o).1 o) = arrV (xA X (ply σ o).1) (ply σ o).2 f := by
    unfold arc vp_cell
    dsimp only
    split <;> exact ⟨_, rfl⟩
  obtain ⟨f, e⟩ := e
  rw [e] at hcell
  exact W.alen (n := Int32.ofNat (ply σ o).2) C.1 C.2.1 hcell (hT _ f) (by rw [arrV_size] <;> rfl) rfl rfl hd (kk H locs cells slots ls hH hS hc hs hl)
theorem ws_iast {Λ : PRo} {X : Ctx} (C : CX Λ X) {pc : Nat} {L : PL} {o : Nat} {i x : Int32} {r : List Value} {σ : PSt} (hd : decode (mB (xm X)) pc = .ok (.iastore, 1)) (ho : o < pnc σ) (hp : (ply σ o).1 = 1) (hi : vin i (ply σ o).2)
    (kk : WS X (pc + 1) L r (wiv σ o i.toNatClampNeg (x))) : WS X pc L (.int x :: .int i :: .ref o :: r) σ := by
  intro H locs cells slots ls hH hS hc hs hl
  have hat := hH.2 o ho
  rw [ent_a hp (by decide)] at hat
  have hcell : H[xo X + o]? = some (vp_cell (xA X 1) ((ply σ o).2, .inl (piv σ o))) := hat
  have hT := (C.kn.1.2 0 _ rfl).1
  refine W.iast C.1 C.2.1 hcell (hT _ (fun j => .int (piv σ o j))) (fun q => by cases q) (by show ¬ (i < 0 ∨ (arrV _ _ _).slots.size ≤ _); rw [arrV_size]; exact vin_in hi) rfl rfl hd fun H1 e z oq => ?_
  refine kk H1 _ cells slots ls (hH.upd (k := o) rfl z oq (fun j hj => ent_congr rfl rfl (up2_n hj) rfl) ?_) (hS.put z oq (show xo X ≤ xo X + o by omega)) hc hs hl
  rw [ent_a (show (ply (wiv σ o i.toNatClampNeg (x)) o).1 = 1 from hp) (by decide)]
  show H1[xo X + o]? = some (vp_cell (xA X 1) ((ply σ o).2, .inl (up2 (piv σ) o i.toNatClampNeg (x) o)))
  rw [e, vp_cell_i, vp_cell_i, arrV_store]
  congr 2
  funext q
  by_cases hq : q = i.toNatClampNeg
  · subst hq
    simp [updV, up2]
    try rfl
  · simp [updV, up2, hq]
theorem ws_bast {Λ : PRo} {X : Ctx} (C : CX Λ X) {pc : Nat} {L : PL} {o : Nat} {i x : Int32} {r : List Value} {σ : PSt} (hd : decode (mB (xm X)) pc = .ok (.bastore, 1)) (ho : o < pnc σ) (hp : (ply σ o).1 = 2) (hi : vin i (ply σ o).2)
    (kk : WS X (pc + 1) L r (wiv σ o i.toNatClampNeg (x.toInt8.toInt32))) : WS X pc L (.int x :: .int i :: .ref o :: r) σ := by
  intro H locs cells slots ls hH hS hc hs hl
  have hat := hH.2 o ho
  rw [ent_a hp (by decide)] at hat
  have hcell : H[xo X + o]? = some (vp_cell (xA X 2) ((ply σ o).2, .inl (piv σ o))) := hat
  have hT := (C.kn.1.2 1 _ rfl).1
  refine W.bast C.1 C.2.1 hcell (hT _ (fun j => .int (piv σ o j))) (fun q => by cases q) (by show ¬ (i < 0 ∨ (arrV _ _ _).slots.size ≤ _); rw [arrV_size]; exact vin_in hi) rfl rfl hd fun H1 e z oq => ?_
  refine kk H1 _ cells slots ls (hH.upd (k := o) rfl z oq (fun j hj => ent_congr rfl rfl (up2_n hj) rfl) ?_) (hS.put z oq (show xo X ≤ xo X + o by omega)) hc hs hl
  rw [ent_a (show (ply (wiv σ o i.toNatClampNeg (x.toInt8.toInt32)) o).1 = 2 from hp) (by decide)]
  show H1[xo X + o]? = some (vp_cell (xA X 2) ((ply σ o).2, .inl (up2 (piv σ) o i.toNatClampNeg (x.toInt8.toInt32) o)))
  rw [e, vp_cell_i, vp_cell_i, arrV_store]
  congr 2
  funext q
  by_cases hq : q = i.toNatClampNeg
  · subst hq
    simp [updV, up2]
    try rfl
  · simp [updV, up2, hq]
theorem ws_sast {Λ : PRo} {X : Ctx} (C : CX Λ X) {pc : Nat} {L : PL} {o : Nat} {i x : Int32} {r : List Value} {σ : PSt} (hd : decode (mB (xm X)) pc = .ok (.sastore, 1)) (ho : o < pnc σ) (hp : (ply σ o).1 = 3) (hi : vin i (ply σ o).2)
    (kk : WS X (pc + 1) L r (wiv σ o i.toNatClampNeg (x.toInt16.toInt32))) : WS X pc L (.int x :: .int i :: .ref o :: r) σ := by
  intro H locs cells slots ls hH hS hc hs hl
  have hat := hH.2 o ho
  rw [ent_a hp (by decide)] at hat
  have hcell : H[xo X + o]? = some (vp_cell (xA X 3) ((ply σ o).2, .inl (piv σ o))) := hat
  have hT := (C.kn.1.2 2 _ rfl).1
  refine W.sast C.1 C.2.1 hcell (hT _ (fun j => .int (piv σ o j))) (fun q => by cases q) (by show ¬ (i < 0 ∨ (arrV _ _ _).slots.size ≤ _); rw [arrV_size]; exact vin_in hi) rfl rfl hd fun H1 e z oq => ?_
  refine kk H1 _ cells slots ls (hH.upd (k := o) rfl z oq (fun j hj => ent_congr rfl rfl (up2_n hj) rfl) ?_) (hS.put z oq (show xo X ≤ xo X + o by omega)) hc hs hl
  rw [ent_a (show (ply (wiv σ o i.toNatClampNeg (x.toInt16.toInt32)) o).1 = 3 from hp) (by decide)]
  show H1[xo X + o]? = some (vp_cell (xA X 3) ((ply σ o).2, .inl (up2 (piv σ) o i.toNatClampNeg (x.toInt16.toInt32) o)))
  rw [e, vp_cell_i, vp_cell_i, arrV_store]
  congr 2
  funext q
  by_cases hq : q = i.toNatClampNeg
  · subst hq
    simp [updV, up2]
    try rfl
  · simp [updV, up2, hq]
theorem ws_last {Λ : PRo} {X : Ctx} (C : CX Λ X) {pc : Nat} {L : PL} {o : Nat} {i : Int32} {x : Int64} {r : List Value} {σ : PSt} (hd : decode (mB (xm X)) pc = .ok (.lastore, 1)) (ho : o < pnc σ) (hp : (ply σ o).1 = 4) (hi : vin i (ply σ o).2)
    (kk : WS X (pc + 1) L r (wlv σ o i.toNatClampNeg x)) : WS X pc L (.long x :: .int i :: .ref o :: r) σ := by
  intro H locs cells slots ls hH hS hc hs hl
  have hat := hH.2 o ho
  rw [ent_a hp (by decide)] at hat
  have hcell : H[xo X + o]? = some (vp_cell (xA X 4) ((ply σ o).2, .inr (.inl (plv σ o)))) := hat
  have hT := (C.kn.1.2 3 _ rfl).1
  refine W.last C.1 C.2.1 hcell (hT _ (fun j => .long (plv σ o j))) (fun q => by cases q) (by show ¬ (i < 0 ∨ (arrV _ _ _).slots.size ≤ _); rw [arrV_size]; exact vin_in hi) rfl rfl hd fun H1 e z oq => ?_
  refine kk H1 _ cells slots ls (hH.upd (k := o) rfl z oq (fun j hj => ent_congr rfl rfl rfl (up2_n hj)) ?_) (hS.put z oq (show xo X ≤ xo X + o by omega)) hc hs hl
  rw [ent_a (show (ply (wlv σ o i.toNatClampNeg x) o).1 = 4 from hp) (by decide)]
  show H1[xo X + o]? = some (vp_cell (xA X 4) ((ply σ o).2, .inr (.inl (up2 (plv σ) o i.toNatClampNeg x o))))
  rw [e, vp_cell_l, vp_cell_l, arrV_store]
  congr 2
  funext q
  by_cases hq : q = i.toNatClampNeg
  · subst hq
    simp [updV, up2]
  · simp [updV, up2, hq]
theorem ws_gets {Λ : PRo} {X : Ctx} (C : CX Λ X) {pc : Nat} {L : PL} {j k : Nat} {r : List Value} {σ : PSt} (hd : decode (mB (xm X)) pc = .ok (.getstatic k, 3)) (h : sk (mC (xm X)) k = some j) (kk : WS X (pc + 3) L (.retAddr j :: r) σ) : WS X pc L r σ := by
  intro H locs cells slots ls hH hS hc hs hl
  obtain ⟨h1, h4⟩ := sk_14 _ C.mc _ (lkp_in h)
  exact va_gets C.1 C.2.1 (C.kn.2.2.2.1 j h1 h4) hS C.2.2.2.2.1 (C.2.2.2.2.2.1 _ (w_sk C.mc h)) (fun _ h9 => h9) hd (kk H locs cells slots ls hH hS hc hs hl)
theorem mkc_old {σ : PSt} {t a n j : Nat} (hj : j ≠ pnc σ) : ply (mkc σ t a n) j = ply σ j ∧ prv (mkc σ t a n) j = prv σ j ∧ piv (mkc σ t a n) j = piv σ j ∧ plv (mkc σ t a n) j = plv σ j := ⟨up1_n hj, up1_n hj, up1_n hj, up1_n hj⟩
theorem mkc_new {σ : PSt} {t a n : Nat} : ply (mkc σ t a n) (pnc σ) = (t, a) ∧ prv (mkc σ t a n) (pnc σ) = (fun _ => none) ∧ piv (mkc σ t a n) (pnc σ) = (fun _ => 0) ∧ plv (mkc σ t a n) (pnc σ) = (fun _ => 0) := ⟨up1_s, up1_s, up1_s, up1_s⟩
theorem va_S.grow {b0 : Nat} {H0 H H1 : Heap} {locs : List Loc} (h : va_S (fun q => b0 ≤ q) H0 H locs) (z : H.size ≤ H1.size) (o : ∀ q : Nat, q < H.size → H1[q]? = H[q]?) : va_S (fun q => b0 ≤ q) H0 H1 locs := ⟨Nat.le_trans h.1 z, fun q h1 h2 => (o q (Nat.lt_of_lt_of_le h1 h.1)).trans (h.2.1 q h1 h2), h.2.2⟩
theorem ws_new {Λ : PRo} {X : Ctx} (C : CX Λ X) {pc : Nat} {L : PL} {k ci : Nat} {r : List Value} {σ : PSt} (hd : decode (mB (xm X)) pc = .ok (.new k, 3)) (h : nw (mC (xm X)) k = some ci) (hr1 : pnc σ + 1 ≤ xk X + (xR X).cells) (hr2 : pns σ + nF ci ≤ xn X + (xR X).slots)
    (kk : WS X (pc + 3) L (.ref (pnc σ) :: r) (mkc σ 0 ci (nF ci))) : WS X pc L r σ := by
  intro H locs cells slots ls hH hS hc hs hl
  have hci : ci < NX := nw_lt _ C.mc _ (lkp_in h)
  have hKn := C.kn.1.1 ci _ (vwCl_at hci)
  have hb : xo X + pnc σ = H.size := hH.1.symm
  refine W.newcK (n := nF ci) C.1 C.2.1 C.2.2.2.2.1 (C.2.2.2.2.2.1 _ (w_nw C.mc h)) (C.2.2.2.2.2.1 _ (w_is hci)) (C.2.2.2.2.2.1 _ (w_in (nx_cl hci))) rfl hd (by omega) (by omega) hKn.2.1 rfl fun H1 kC hkC e1 z1 o1 => ?_
  rw [← hb]
  refine kk H1 locs (cells + 1) (slots + nF ci) ls (hH.push (τ := mkc σ 0 ci (nF ci)) rfl z1 o1 (fun j hj => ?_) ?_) (hS.grow (by omega) o1) (by show pnc σ + 1 = _; omega) (by show pns σ + nF ci = _; omega) hl
  · obtain ⟨a1, a2, a3, a4⟩ := mkc_old (σ := σ) (t := 0) (a := ci) (n := nF ci) (show j ≠ pnc σ by omega)
    exact ent_congr a1 a2 a3 a4
  · obtain ⟨a1, a2, a3, a4⟩ := mkc_new (σ := σ) (t := 0) (a := ci) (n := nF ci)
    rw [ent_o a1]
    refine ⟨_, vwCl_at hci, ?_⟩
    have hB := u_born (cTy ci) C.2.2.2.2.2.1 (w_lay hci) hKn hkC e1 (cT_ty hci)
    rw [hb]
    refine hB.to fun j hj => ?_
    have hj2 : j < nF ci := hj
    have a5 : vp_V (fls (xo X) (xt X) (mkc σ 0 ci (nF ci)) ci (pnc σ)) j = cv (xo X) (xt X) (fval (mkc σ 0 ci (nF ci)) ci (pnc σ) j) := by simp [vp_V, fls_get hj2]
    rw [a5]
    obtain ⟨k1, k2, k3, k4, k5, -⟩ := fk_ok ci hci j hj2
    have hfk : fk ci j = 0 ∨ fk ci j = 1 ∨ fk ci j = 2 ∨ fk ci j = 3 := by omega
    unfold fval
    rcases hfk with e | e | e | e
    · rw [e, a2]
      have := k4 e
      generalize cTy ci j = t at this
      cases t <;> first | rfl | cases this
    · rw [e, a3, k1 e]; rfl
    · rw [e, a4, k2 e]; rfl
    · rw [e, a3, k3 e]; rfl
theorem ws_newa_int {Λ : PRo} {X : Ctx} (C : CX Λ X) {pc : Nat} {L : PL} {n : Int32} {r : List Value} {σ : PSt} (hd : decode (mB (xm X)) pc = .ok (.newarray .int, 2)) (hn : ¬ n < 0) (hn2 : n.toNatClampNeg ≤ 10000) (hr1 : pnc σ + 1 ≤ xk X + (xR X).cells) (hr2 : pns σ + n.toNatClampNeg ≤ xn X + (xR X).slots)
    (kk : WS X (pc + 2) L (.ref (pnc σ) :: r) (mkc σ 1 n.toNatClampNeg n.toNatClampNeg)) : WS X pc L (.int n :: r) σ := by
  intro H locs cells slots ls hH hS hc hs hl
  have hb : xo X + pnc σ = H.size := hH.1.symm
  refine va_newaK C.1 C.2.1 (atype := .int) (C.2.2.2.2.2.1 (.arrayClass .int) (w_ex (by decide +kernel) rfl)) rfl hd rfl hn rfl (Nat.le_trans (Nat.mul_le_mul hn2 (show componentBytes .int ≤ 8 by decide)) (Nat.le_of_ble_eq_true rfl)) (by omega) (by omega) rfl fun H1 cA e1 z1 o1 hAr hNm => ?_
  have hRA : (xs X).vm.findClass ("[" ++ (newarray.typeOf .int).toString) = some (xA X 1) := (C.kn.1.2 0 _ rfl).2
  obtain rfl : cA = xA X 1 := Option.some.inj (hNm.symm.trans hRA)
  rw [← hb]
  refine kk H1 locs (cells + 1) (slots + n.toNatClampNeg) ls (hH.push (τ := mkc σ 1 n.toNatClampNeg n.toNatClampNeg) rfl z1 o1 (fun j hj => ?_) ?_) (hS.grow (by omega) o1) (by show pnc σ + 1 = _; omega) (by show pns σ + n.toNatClampNeg = _; omega) hl
  · obtain ⟨a1, a2, a3, a4⟩ := mkc_old (σ := σ) (t := 1) (a := n.toNatClampNeg) (n := n.toNatClampNeg) (show j ≠ pnc σ by omega)
    exact ent_congr a1 a2 a3 a4
  · obtain ⟨a1, a2, a3, a4⟩ := mkc_new (σ := σ) (t := 1) (a := n.toNatClampNeg) (n := n.toNatClampNeg)
    rw [ent_a (t := 1) (by rw [a1]) (by decide), a1]
    show H1[xo X + pnc σ]? = some (vp_cell (xA X 1) (n.toNatClampNeg, .inl (piv (mkc σ 1 n.toNatClampNeg n.toNatClampNeg) (pnc σ))))
    rw [a3, hb, e1]
    rfl
theorem ws_newa_byte {Λ : PRo} {X : Ctx} (C : CX Λ X) {pc : Nat} {L : PL} {n : Int32} {r : List Value} {σ : PSt} (hd : decode (mB (xm X)) pc = .ok (.newarray .byte, 2)) (hn : ¬ n < 0) (hn2 : n.toNatClampNeg ≤ 10000) (hr1 : pnc σ + 1 ≤ xk X + (xR X).cells) (hr2 : pns σ + n.toNatClampNeg ≤ xn X + (xR X).slots)
    (kk : WS X (pc + 2) L (.ref (pnc σ) :: r) (mkc σ 2 n.toNatClampNeg n.toNatClampNeg)) : WS X pc L (.int n :: r) σ := by
  intro H locs cells slots ls hH hS hc hs hl
  have hb : xo X + pnc σ = H.size := hH.1.symm
  refine va_newaK C.1 C.2.1 (atype := .byte) (C.2.2.2.2.2.1 (.arrayClass .byte) (w_ex (by decide +kernel) rfl)) rfl hd rfl hn rfl (Nat.le_trans (Nat.mul_le_mul hn2 (show componentBytes .byte ≤ 8 by decide)) (Nat.le_of_ble_eq_true rfl)) (by omega) (by omega) rfl fun H1 cA e1 z1 o1 hAr hNm => ?_
  have hRA : (xs X).vm.findClass ("[" ++ (newarray.typeOf .byte).toString) = some (xA X 2) := (C.kn.1.2 1 _ rfl).2
  obtain rfl : cA = xA X 2 := Option.some.inj (hNm.symm.trans hRA)
  rw [← hb]
  refine kk H1 locs (cells + 1) (slots + n.toNatClampNeg) ls (hH.push (τ := mkc σ 2 n.toNatClampNeg n.toNatClampNeg) rfl z1 o1 (fun j hj => ?_) ?_) (hS.grow (by omega) o1) (by show pnc σ + 1 = _; omega) (by show pns σ + n.toNatClampNeg = _; omega) hl
  · obtain ⟨a1, a2, a3, a4⟩ := mkc_old (σ := σ) (t := 2) (a := n.toNatClampNeg) (n := n.toNatClampNeg) (show j ≠ pnc σ by omega)
    exact ent_congr a1 a2 a3 a4
  · obtain ⟨a1, a2, a3, a4⟩ := mkc_new (σ := σ) (t := 2) (a := n.toNatClampNeg) (n := n.toNatClampNeg)
    rw [ent_a (t := 2) (by rw [a1]) (by decide), a1]
    show H1[xo X + pnc σ]? = some (vp_cell (xA X 2) (n.toNatClampNeg, .inl (piv (mkc σ 2 n.toNatClampNeg n.toNatClampNeg) (pnc σ))))
    rw [a3, hb, e1]
    rfl
theorem ws_newa_short {Λ : PRo} {X : Ctx} (C : CX Λ X) {pc : Nat} {L : PL} {n : Int32} {r : List Value} {σ : PSt} (hd : decode (mB (xm X)) pc = .ok (.newarray .short, 2)) (hn : ¬ n < 0) (hn2 : n.toNatClampNeg ≤ 10000) (hr1 : pnc σ + 1 ≤ xk X + (xR X).cells) (hr2 : pns σ + n.toNatClampNeg ≤ xn X + (xR X).slots)
    (kk : WS X (pc + 2) L (.ref (pnc σ) :: r) (mkc σ 3 n.toNatClampNeg n.toNatClampNeg)) : WS X pc L (.int n :: r) σ := by
  intro H locs cells slots ls hH hS hc hs hl
  have hb : xo X + pnc σ = H.size := hH.1.symm
  refine va_newaK C.1 C.2.1 (atype := .short) (C.2.2.2.2.2.1 (.arrayClass .short) (w_ex (by decide +kernel) rfl)) rfl hd rfl hn rfl (Nat.le_trans (Nat.mul_le_mul hn2 (show componentBytes .short ≤ 8 by decide)) (Nat.le_of_ble_eq_true rfl)) (by omega) (by omega) rfl fun H1 cA e1 z1 o1 hAr hNm => ?_
  have hRA : (xs X).vm.findClass ("[" ++ (newarray.typeOf .short).toString) = some (xA X 3) := (C.kn.1.2 2 _ rfl).2
  obtain rfl : cA = xA X 3 := Option.some.inj (hNm.symm.trans hRA)
  rw [← hb]
  refine kk H1 locs (cells + 1) (slots + n.toNatClampNeg) ls (hH.push (τ := mkc σ 3 n.toNatClampNeg n.toNatClampNeg) rfl z1 o1 (fun j hj => ?_) ?_) (hS.grow (by omega) o1) (by show pnc σ + 1 = _; omega) (by show pns σ + n.toNatClampNeg = _; omega) hl
  · obtain ⟨a1, a2, a3, a4⟩ := mkc_old (σ := σ) (t := 3) (a := n.toNatClampNeg) (n := n.toNatClampNeg) (show j ≠ pnc σ by omega)
    exact ent_congr a1 a2 a3 a4
  · obtain ⟨a1, a2, a3, a4⟩ := mkc_new (σ := σ) (t := 3) (a := n.toNatClampNeg) (n := n.toNatClampNeg)
    rw [ent_a (t := 3) (by rw [a1]) (by decide), a1]
    show H1[xo X + pnc σ]? = some (vp_cell (xA X 3) (n.toNatClampNeg, .inl (piv (mkc σ 3 n.toNatClampNeg n.toNatClampNeg) (pnc σ))))
    rw [a3, hb, e1]
    rfl
theorem ws_newa_long {Λ : PRo} {X : Ctx} (C : CX Λ X) {pc : Nat} {L : PL} {n : Int32} {r : List Value} {σ : PSt} (hd : decode (mB (xm X)) pc = .ok (.newarray .long, 2)) (hn : ¬ n < 0) (hn2 : n.toNatClampNeg ≤ 10000) (hr1 : pnc σ + 1 ≤ xk X + (xR X).cells) (hr2 : pns σ + n.toNatClampNeg ≤ xn X + (xR X).slots)
    (kk : WS X (pc + 2) L (.ref (pnc σ) :: r) (mkc σ 4 n.toNatClampNeg n.toNatClampNeg)) : WS X pc L (.int n :: r) σ := by
  intro H locs cells slots ls hH hS hc hs hl
  have hb : xo X + pnc σ = H.size := hH.1.symm
  refine va_newaK C.1 C.2.1 (atype := .long) (C.2.2.2.2.2.1 (.arrayClass .long) (w_ex (by decide +kernel) rfl)) rfl hd rfl hn rfl (Nat.le_trans (Nat.mul_le_mul hn2 (show componentBytes .long ≤ 8 by decide)) (Nat.le_of_ble_eq_true rfl)) (by omega) (by omega) rfl fun H1 cA e1 z1 o1 hAr hNm => ?_
  have hRA : (xs X).vm.findClass ("[" ++ (newarray.typeOf .long).toString) = some (xA X 4) := (C.kn.1.2 3 _ rfl).2
  obtain rfl : cA = xA X 4 := Option.some.inj (hNm.symm.trans hRA)
  rw [← hb]
  refine kk H1 locs (cells + 1) (slots + n.toNatClampNeg) ls (hH.push (τ := mkc σ 4 n.toNatClampNeg n.toNatClampNeg) rfl z1 o1 (fun j hj => ?_) ?_) (hS.grow (by omega) o1) (by show pnc σ + 1 = _; omega) (by show pns σ + n.toNatClampNeg = _; omega) hl
  · obtain ⟨a1, a2, a3, a4⟩ := mkc_old (σ := σ) (t := 4) (a := n.toNatClampNeg) (n := n.toNatClampNeg) (show j ≠ pnc σ by omega)
    exact ent_congr a1 a2 a3 a4
  · obtain ⟨a1, a2, a3, a4⟩ := mkc_new (σ := σ) (t := 4) (a := n.toNatClampNeg) (n := n.toNatClampNeg)
    rw [ent_a (t := 4) (by rw [a1]) (by decide), a1]
    show H1[xo X + pnc σ]? = some (vp_cell (xA X 4) (n.toNatClampNeg, .inr (.inl (plv (mkc σ 4 n.toNatClampNeg n.toNatClampNeg) (pnc σ)))))
    rw [a4, hb, e1]
    rfl
end
section
/-! ===== new int[n][k], new long[n][k]; then any instruction that calls nothing ===== -/
theorem mkrows_spec (t n : Nat) : ∀ (j : Nat) (σ : PSt), pnc (mkrows t n j σ) = pnc σ + j ∧ pns (mkrows t n j σ) = pns σ + j * n ∧
    (∀ q, q < pnc σ → ply (mkrows t n j σ) q = ply σ q ∧ prv (mkrows t n j σ) q = prv σ q ∧ piv (mkrows t n j σ) q = piv σ q ∧ plv (mkrows t n j σ) q = plv σ q) ∧
    ∀ q, pnc σ ≤ q → q < pnc σ + j → ply (mkrows t n j σ) q = (t, n) ∧ prv (mkrows t n j σ) q = (fun _ => none) ∧ piv (mkrows t n j σ) q = (fun _ => 0) ∧ plv (mkrows t n j σ) q = (fun _ => 0)
  | 0, σ => ⟨rfl, by show pns σ = pns σ + 0 * n; omega, fun _ _ => ⟨rfl, rfl, rfl, rfl⟩, fun q h1 h2 => by omega⟩
  | j + 1, σ => by
    obtain ⟨h1, h2, h3, h4⟩ := mkrows_spec t n j (mkc σ t n n)
    have e1 : pnc (mkc σ t n n) = pnc σ + 1 := rfl
    have e2 : pns (mkc σ t n n) = pns σ + n := rfl
    refine ⟨by show pnc (mkrows t n j (mkc σ t n n)) = _; rw [h1, e1]; omega, by show pns (mkrows t n j (mkc σ t n n)) = _; rw [h2, e2, Nat.succ_mul]; omega, fun q hq => ?_, fun q hq1 hq2 => ?_⟩
    · obtain ⟨a1, a2, a3, a4⟩ := h3 q (by rw [e1]; omega)
      obtain ⟨b1, b2, b3, b4⟩ := mkc_old (σ := σ) (t := t) (a := n) (n := n) (show q ≠ pnc σ by omega)
      exact ⟨a1.trans b1, a2.trans b2, a3.trans b3, a4.trans b4⟩
    · by_cases hq : q = pnc σ
      · subst hq
        obtain ⟨a1, a2, a3, a4⟩ := h3 (pnc σ) (by rw [e1]; omega)
        obtain ⟨b1, b2, b3, b4⟩ := mkc_new (σ := σ) (t := t) (a := n) (n := n)
        exact ⟨a1.trans b1, a2.trans b2, a3.trans b3, a4.trans b4⟩
      · exact h4 q (by rw [e1]; omega) (by rw [e1]; omega)
theorem mna_outer (c : ClassId) (N h0 : Nat) : ∀ i : Nat, Jvm.Free.Multi.outerC c N h0 i = arrV c N (fun j => va_rf (if j < i then some (h0 + 1 + j) else none))
  | 0 => by
    show ({ cls := c, slots := Array.replicate N .null, vm := .none } : Cell) = _
    rw [arrV_new]
    refine congrArg (arrV c N) (funext fun j => ?_)
    simp [va_rf]
  | i + 1 => by
    show (Jvm.Free.Multi.outerC c N h0 i).setSlot i (.ref (h0 + 1 + i)) = _
    rw [mna_outer c N h0 i, arrV_store]
    refine congrArg (arrV c N) (funext fun j => ?_)
    by_cases e : j = i
    · subst e
      simp [updV, va_rf]
    · by_cases h : j < i
      · simp [updV, e, h, Nat.lt_succ_of_lt h]
      · simp [updV, e, h, show ¬ j < i + 1 by omega]
theorem ws_mna {Λ : PRo} {X : Ctx} (C : CX Λ X) {pc : Nat} {L : PL} {n k : Int32} {idx t t1 : Nat} {ty : FieldType} {r : List Value} {σ : PSt} (hd : decode (mB (xm X)) pc = .ok (.multianewarray idx 2, 4)) (hm : mn (mC (xm X)) idx = some t) (hty : aty t = .array ty) (h56 : t = 5 ∧ t1 = 1 ∧ ty = .int ∨ t = 6 ∧ t1 = 4 ∧ ty = .long)
    (hn : ¬ n < 0) (hk : ¬ k < 0) (hn2 : n.toNatClampNeg ≤ 100) (hk2 : k.toNatClampNeg ≤ 100)
    (hr1 : pnc σ + 1 + n.toNatClampNeg ≤ xk X + (xR X).cells) (hr2 : pns σ + n.toNatClampNeg + n.toNatClampNeg * k.toNatClampNeg ≤ xn X + (xR X).slots)
    (kk : WS X (pc + 4) L (.ref (pnc σ) :: r) (mkrows t1 k.toNatClampNeg n.toNatClampNeg (wrr (mkc σ t n.toNatClampNeg n.toNatClampNeg) (pnc σ) (fun i => if i < n.toNatClampNeg then some (pnc σ + 1 + i) else none)))) : WS X pc L (.int k :: .int n :: r) σ := by
  intro H locs cells slots ls hH hS hc hs hl
  have hb : xo X + pnc σ = H.size := hH.1.symm
  have hcl : (Cond.classLink (cnm (mC (xm X))) idx ("[" ++ (FieldType.array ty).toString)).before (xa X) (xs X) = true := by
    have := C.2.2.2.2.2.1 _ (w_mn C.mc hm)
    unfold wMn at this
    rw [hty] at this
    exact this
  have hov : (Cond.arrayOver (.array ty)).before (xa X) (xs X) = true := by
    rcases h56 with ⟨-, -, rfl⟩ | ⟨-, -, rfl⟩
    · exact C.kn.2.2.2.2.1
    · exact C.kn.2.2.2.2.2
  have har : (Cond.arrayClass ty).before (xa X) (xs X) = true := by
    rcases h56 with ⟨-, -, rfl⟩ | ⟨-, -, rfl⟩
    · exact C.2.2.2.2.2.1 _ (w_ex (by decide +kernel) rfl)
    · exact C.2.2.2.2.2.1 _ (w_ex (by decide +kernel) rfl)
  have hcb : componentBytes ty ≤ 8 ∧ fits ty (defaultValue ty) = true ∧ (defaultValue ty).isDefault = true := by
    rcases h56 with ⟨-, -, rfl⟩ | ⟨-, -, rfl⟩ <;> decide
  have hmul : n.toNatClampNeg * 4 ≤ 400 := by omega
  have hmul2 : k.toNatClampNeg * componentBytes ty ≤ 100 * 8 := Nat.mul_le_mul hk2 hcb.1
  intro T hT Xs
  obtain ⟨vm₁, cA, comp, -, fA, fC, hO, hI, X', step⟩ := Xs.multianewarray2F C.1 C.2.2.2.2.1 hcl hov har (g := F0 (xi X) pc ls (.int k :: .int n :: r.map (cv (xo X) (xt X)))) rfl (by rw [C.2.1]; exact hd) rfl hn hk (by omega) (by omega) (by omega) hcb.2.1 hcb.2.2 (by omega) (by omega)
  have hRt : (xs X).vm.findClass ("[" ++ (FieldType.array ty).toString) = some (xA X t) := by
    rcases h56 with ⟨rfl, -, rfl⟩ | ⟨rfl, -, rfl⟩
    · exact (C.kn.1.2 4 _ rfl).2
    · exact (C.kn.1.2 5 _ rfl).2
  have hR1 : (xs X).vm.findClass (FieldType.array ty).toString = some (xA X t1) := by
    rcases h56 with ⟨-, rfl, rfl⟩ | ⟨-, rfl, rfl⟩
    · exact (C.kn.1.2 0 _ rfl).2
    · exact (C.kn.1.2 3 _ rfl).2
  obtain rfl : cA = xA X t := Option.some.inj (fA.symm.trans hRt)
  obtain rfl : comp = xA X t1 := Option.some.inj (fC.symm.trans hR1)
  generalize hF : Jvm.Free.Multi.fill (T.setVm vm₁) (xA X t) (xA X t1) n.toNatClampNeg k.toNatClampNeg (defaultValue ty) n.toNatClampNeg = F at X' step
  have hTh : (T.setVm vm₁).heap = H := hT
  obtain ⟨f1, f2, -, -⟩ := Jvm.Free.Multi.fill_facts (T.setVm vm₁) (xA X t) (xA X t1) n.toNatClampNeg k.toNatClampNeg (defaultValue ty) n.toNatClampNeg
  rw [hF, hTh] at f1 f2
  have hold : ∀ x : Nat, x < H.size → F.heap[x]? = H[x]? := fun x hx => by
    have := Jvm.Free.Multi.fill_old (T.setVm vm₁) (xA X t) (xA X t1) n.toNatClampNeg k.toNatClampNeg (defaultValue ty) (a := x) (by rw [hTh]; exact hx) n.toNatClampNeg
    rw [hF, hTh] at this
    exact this
  have hrow : ∀ j : Nat, j < n.toNatClampNeg → F.heap[H.size + 1 + j]? = some (Jvm.Free.Multi.innerC (xA X t1) k.toNatClampNeg (defaultValue ty)) := fun j hj => by
    have := Jvm.Free.Multi.fill_inner (T.setVm vm₁) (xA X t) (xA X t1) n.toNatClampNeg k.toNatClampNeg (defaultValue ty) n.toNatClampNeg j hj
    rw [hF, hTh] at this
    exact this
  rw [mna_outer] at f2
  generalize hσ0 : wrr (mkc σ t n.toNatClampNeg n.toNatClampNeg) (pnc σ) (fun i => if i < n.toNatClampNeg then some (pnc σ + 1 + i) else none) = σ0 at kk
  have z1 : pnc σ0 = pnc σ + 1 := by rw [← hσ0]; rfl
  have z2 : pns σ0 = pns σ + n.toNatClampNeg := by rw [← hσ0]; rfl
  have z3 : ∀ j, j ≠ pnc σ → ply σ0 j = ply σ j ∧ prv σ0 j = prv σ j ∧ piv σ0 j = piv σ j ∧ plv σ0 j = plv σ j := by
    intro j hj
    rw [← hσ0]
    obtain ⟨a1, a2, a3, a4⟩ := mkc_old (σ := σ) (t := t) (a := n.toNatClampNeg) (n := n.toNatClampNeg) hj
    refine ⟨a1, ?_, a3, a4⟩
    show up1 (prv (mkc σ t n.toNatClampNeg n.toNatClampNeg)) (pnc σ) _ j = _
    rw [up1_n hj]
    exact a2
  have z4 : ply σ0 (pnc σ) = (t, n.toNatClampNeg) ∧ prv σ0 (pnc σ) = (fun i => if i < n.toNatClampNeg then some (pnc σ + 1 + i) else none) := by
    rw [← hσ0]
    refine ⟨(mkc_new (σ := σ) (t := t) (a := n.toNatClampNeg) (n := n.toNatClampNeg)).1, ?_⟩
    show up1 (prv (mkc σ t n.toNatClampNeg n.toNatClampNeg)) (pnc σ) _ (pnc σ) = _
    exact up1_s
  obtain ⟨m1, m2, m3, m4⟩ := mkrows_spec t1 k.toNatClampNeg n.toNatClampNeg σ0
  generalize hτ : mkrows t1 k.toNatClampNeg n.toNatClampNeg σ0 = τ at kk m1 m2 m3 m4
  have ht0 : t ≠ 0 ∧ t1 ≠ 0 := by omega
  have hHd : Hd (xD X) (xA X) (xo X) (xt X) τ F.heap := by
    refine ⟨by rw [f1, m1, z1]; omega, fun j hj => ?_⟩
    by_cases hj1 : j < pnc σ
    · obtain ⟨a1, a2, a3, a4⟩ := m3 j (by omega)
      obtain ⟨b1, b2, b3, b4⟩ := z3 j (by omega)
      rw [ent_congr (a1.trans b1) (a2.trans b2) (a3.trans b3) (a4.trans b4)]
      exact (hH.2 j hj1).kept (hold _ (by show xo X + j < H.size; omega))
    · by_cases hj2 : j = pnc σ
      · subst hj2
        obtain ⟨a1, a2, a3, a4⟩ := m3 (pnc σ) (by omega)
        rw [ent_a (t := t) (by rw [a1, z4.1]) ht0.1, a1, z4.1]
        show F.heap[xo X + pnc σ]? = some (vp_cell (xA X t) (n.toNatClampNeg, arc (xo X) τ t (pnc σ)))
        rw [hb, f2]
        have ea : arc (xo X) τ t (pnc σ) = .inr (.inr (.inr (.inr (fun i => (prv τ (pnc σ) i).map (fun j => xo X + j))))) := by
          unfold arc
          rw [if_neg (by omega), if_pos (by omega)]
        rw [ea, vp_cell_q, a2, z4.2]
        refine congrArg some (congrArg (arrV (xA X t) n.toNatClampNeg) (funext fun q => congrArg va_rf ?_))
        by_cases hq : q < n.toNatClampNeg
        · simp only [hq, if_true, Option.map_some]
          congr 1
          omega
        · simp only [hq, if_false, Option.map_none]
      · obtain ⟨a1, a2, a3, a4⟩ := m4 j (by omega) (by omega)
        rw [ent_a (t := t1) (by rw [a1]) ht0.2, a1]
        show F.heap[xo X + j]? = some (vp_cell (xA X t1) (k.toNatClampNeg, arc (xo X) τ t1 j))
        have hr := hrow (j - (pnc σ + 1)) (by omega)
        rw [show H.size + 1 + (j - (pnc σ + 1)) = xo X + j by omega] at hr
        rw [hr]
        have e9 : Jvm.Free.Multi.innerC (xA X t1) k.toNatClampNeg (defaultValue ty) = arrV (xA X t1) k.toNatClampNeg (fun _ => defaultValue ty) := arrV_new _ _ _
        rw [e9]
        rcases h56 with ⟨-, rfl, rfl⟩ | ⟨-, rfl, rfl⟩
        · show some (arrV _ _ _) = some (arrV (xA X 1) k.toNatClampNeg (fun q => .int (piv τ j q)))
          rw [a3]; rfl
        · show some (arrV _ _ _) = some (arrV (xA X 4) k.toNatClampNeg (fun q => .long (plv τ j q)))
          rw [a4]; rfl
  obtain ⟨t9, a1, b1⟩ := kk F.heap locs (cells + 1 + n.toNatClampNeg) (slots + n.toNatClampNeg + n.toNatClampNeg * k.toNatClampNeg) ls hHd (hS.grow (by rw [f1]; omega) hold) (by rw [m1, z1]; omega) (by rw [m2, z2]; omega) hl F rfl X'
  refine ⟨t9, step t9 ?_, b1⟩
  have e : T.heap.size = xo X + pnc σ := by rw [hT, hb]
  rw [e]
  exact a1
end
section
theorem oLdI_i {Λ : PRo} {t : Nat} {st : List Value} {pc : Nat} {σ : PSt} {q : Nat × List Value × PSt} (h : oLdI Λ t st pc σ = some q) : (∃ i o r, st = .int i :: .ref o :: r ∧ (o < pnc σ ∧ (ply σ o).1 = t ∧ vin i (ply σ o).2) ∧ q = (pc, .int (piv σ o i.toNatClampNeg) :: r, σ)) ∨ ∃ i o r, st = .int i :: .retAddr o :: r ∧ (t = 1 ∧ o < Λ.1 ∧ vin i (Λ.2.1 o)) ∧ q = (pc, .int (Λ.2.2 o i.toNatClampNeg) :: r, σ) := by
  unfold oLdI at h
  split at h
  · split at h
    next hh => cases h; exact Or.inl ⟨_, _, _, rfl, hh, rfl⟩
    next => cases h
  · split at h
    next hh => cases h; exact Or.inr ⟨_, _, _, rfl, hh, rfl⟩
    next => cases h
  · cases h
theorem oLdL_i {st : List Value} {pc : Nat} {σ : PSt} {q : Nat × List Value × PSt} (h : oLdL st pc σ = some q) : ∃ i o r, st = .int i :: .ref o :: r ∧ (o < pnc σ ∧ (ply σ o).1 = 4 ∧ vin i (ply σ o).2) ∧ q = (pc, .long (plv σ o i.toNatClampNeg) :: r, σ) := by
  unfold oLdL at h
  split at h
  · split at h
    next hh => cases h; exact ⟨_, _, _, rfl, hh, rfl⟩
    next => cases h
  · cases h
theorem oLdA_i {st : List Value} {pc : Nat} {σ : PSt} {q : Nat × List Value × PSt} (h : oLdA st pc σ = some q) : ∃ i o r j, st = .int i :: .ref o :: r ∧ (o < pnc σ ∧ ((ply σ o).1 = 5 ∨ (ply σ o).1 = 6) ∧ vin i (ply σ o).2) ∧ prv σ o i.toNatClampNeg = some j ∧ q = (pc, .ref j :: r, σ) := by
  unfold oLdA at h
  split at h
  · split at h
    next hh =>
      rw [Option.map_eq_some_iff] at h
      obtain ⟨j, h1, rfl⟩ := h
      exact ⟨_, _, _, j, rfl, hh, h1, rfl⟩
    next => cases h
  · cases h
theorem oStI_i {t : Nat} {g : Int32 → Int32} {st : List Value} {pc : Nat} {σ : PSt} {q : Nat × List Value × PSt} (h : oStI t g st pc σ = some q) : ∃ x i o r, st = .int x :: .int i :: .ref o :: r ∧ (o < pnc σ ∧ (ply σ o).1 = t ∧ vin i (ply σ o).2) ∧ q = (pc, r, wiv σ o i.toNatClampNeg (g x)) := by
  unfold oStI at h
  split at h
  · split at h
    next hh => cases h; exact ⟨_, _, _, _, rfl, hh, rfl⟩
    next => cases h
  · cases h
theorem oStL_i {st : List Value} {pc : Nat} {σ : PSt} {q : Nat × List Value × PSt} (h : oStL st pc σ = some q) : ∃ x i o r, st = .long x :: .int i :: .ref o :: r ∧ (o < pnc σ ∧ (ply σ o).1 = 4 ∧ vin i (ply σ o).2) ∧ q = (pc, r, wlv σ o i.toNatClampNeg x) := by
  unfold oStL at h
  split at h
  · split at h
    next hh => cases h; exact ⟨_, _, _, _, rfl, hh, rfl⟩
    next => cases h
  · cases h
theorem oLen_i {Λ : PRo} {st : List Value} {pc : Nat} {σ : PSt} {q : Nat × List Value × PSt} (h : oLen Λ st pc σ = some q) : (∃ o r, st = .ref o :: r ∧ (o < pnc σ ∧ 1 ≤ (ply σ o).1 ∧ (ply σ o).1 ≤ 6) ∧ q = (pc, .int (Int32.ofNat (ply σ o).2) :: r, σ)) ∨ ∃ o r, st = .retAddr o :: r ∧ o < Λ.1 ∧ q = (pc, .int (Int32.ofNat (Λ.2.1 o)) :: r, σ) := by
  unfold oLen at h
  split at h
  · split at h
    next hh => cases h; exact Or.inl ⟨_, _, rfl, hh, rfl⟩
    next => cases h
  · split at h
    next hh => cases h; exact Or.inr ⟨_, _, rfl, hh, rfl⟩
    next => cases h
  · cases h
theorem oNewA_i {t : Nat} {st : List Value} {pc : Nat} {σ : PSt} {q : Nat × List Value × PSt} (h : oNewA t st pc σ = some q) : ∃ n r, st = .int n :: r ∧ (¬ n < 0 ∧ n.toNatClampNeg ≤ 10000 ∧ 1 ≤ t) ∧ q = (pc, .ref (pnc σ) :: r, mkc σ t n.toNatClampNeg n.toNatClampNeg) := by
  unfold oNewA at h
  split at h
  · split at h
    next hh => cases h; exact ⟨_, _, rfl, hh, rfl⟩
    next => cases h
  · cases h
theorem oMna_i {t : Nat} {st : List Value} {pc : Nat} {σ : PSt} {q : Nat × List Value × PSt} (h : oMna t st pc σ = some q) : ∃ k n r, st = .int k :: .int n :: r ∧ (¬ n < 0 ∧ ¬ k < 0 ∧ n.toNatClampNeg ≤ 100 ∧ k.toNatClampNeg ≤ 100 ∧ (t = 5 ∨ t = 6)) ∧ q = (pc, .ref (pnc σ) :: r, mkrows (if t = 5 then 1 else 4) k.toNatClampNeg n.toNatClampNeg (wrr (mkc σ t n.toNatClampNeg n.toNatClampNeg) (pnc σ) (fun i => if i < n.toNatClampNeg then some (pnc σ + 1 + i) else none))) := by
  unfold oMna at h
  split at h
  · split at h
    next hh => cases h; exact ⟨_, _, _, rfl, hh, rfl⟩
    next => cases h
  · cases h
set_option maxHeartbeats 4000000 in
theorem ws_pS {Λ : PRo} {X : Ctx} (C : CX Λ X) {i : Instr} {len pc : Nat} {L : PL} {st : List Value} {σ : PSt} {pc2 : Nat} {st2 : List Value} {σ2 : PSt} (hd : decode (mB (xm X)) pc = .ok (i, len)) (hlen : lenOk i len = true) (h : pS Λ (isIni (xm X)) (mC (xm X)) pc (pc + len) σ i st = some (pc2, st2, σ2))
    (hr1 : pnc σ2 ≤ xk X + (xR X).cells) (hr2 : pns σ2 ≤ xn X + (xR X).slots) (kk : WS X pc2 L st2 σ2) : WS X pc L st σ := by
  cases i
  case iconst n =>
    obtain rfl : len = 1 := Nat.eq_of_beq_eq_true hlen
    cases h
    exact fun H locs c1 s1 ls a b c d e => lv_iconst C.1 C.2.1  hd rfl (kk H locs c1 s1 ls a b c d e)
  case bipush n =>
    obtain rfl : len = 2 := Nat.eq_of_beq_eq_true hlen
    cases h
    exact fun H locs c1 s1 ls a b c d e => lv_bipush C.1 C.2.1  hd rfl (kk H locs c1 s1 ls a b c d e)
  case sipush n =>
    obtain rfl : len = 3 := Nat.eq_of_beq_eq_true hlen
    cases h
    exact fun H locs c1 s1 ls a b c d e => lv_sipush C.1 C.2.1  hd rfl (kk H locs c1 s1 ls a b c d e)
  case lconst n =>
    obtain rfl : len = 1 := Nat.eq_of_beq_eq_true hlen
    cases h
    exact fun H locs c1 s1 ls a b c d e => lv_lconst C.1 C.2.1  hd rfl (kk H locs c1 s1 ls a b c d e)
  case ldc_w k =>
    obtain rfl : len = 3 := Nat.eq_of_beq_eq_true hlen
    obtain ⟨v, hv, e⟩ := Option.map_eq_some_iff.mp h
    cases e
    exact fun H locs c1 s1 ls a b c d e => lv_ldcw C.1 C.2.1 C.2.2.2.2.1 (C.2.2.2.2.2.1 _ (w_ki C.mc hv)) hd  (kk H locs c1 s1 ls a b c d e)
  case ldc2_w k =>
    obtain rfl : len = 3 := Nat.eq_of_beq_eq_true hlen
    obtain ⟨v, hv, e⟩ := Option.map_eq_some_iff.mp h
    cases e
    exact fun H locs c1 s1 ls a b c d e => lv_ldc2 C.1 C.2.1 C.2.2.2.2.1 (C.2.2.2.2.2.1 _ (w_kl C.mc hv)) hd  (kk H locs c1 s1 ls a b c d e)
  case iadd =>
    obtain rfl : len = 1 := Nat.eq_of_beq_eq_true hlen
    obtain ⟨x, y, r, rfl, e⟩ := oI2_i h
    cases e
    exact fun H locs c1 s1 ls a b c d e => lv_iadd C.1 C.2.1  hd  (kk H locs c1 s1 ls a b c d e)
  case isub =>
    obtain rfl : len = 1 := Nat.eq_of_beq_eq_true hlen
    obtain ⟨x, y, r, rfl, e⟩ := oI2_i h
    cases e
    exact fun H locs c1 s1 ls a b c d e => lv_isub C.1 C.2.1  hd  (kk H locs c1 s1 ls a b c d e)
  case imul =>
    obtain rfl : len = 1 := Nat.eq_of_beq_eq_true hlen
    obtain ⟨x, y, r, rfl, e⟩ := oI2_i h
    cases e
    exact fun H locs c1 s1 ls a b c d e => lv_imul C.1 C.2.1  hd  (kk H locs c1 s1 ls a b c d e)
  case iand =>
    obtain rfl : len = 1 := Nat.eq_of_beq_eq_true hlen
    obtain ⟨x, y, r, rfl, e⟩ := oI2_i h
    cases e
    exact fun H locs c1 s1 ls a b c d e => lv_iand C.1 C.2.1  hd  (kk H locs c1 s1 ls a b c d e)
  case ior =>
    obtain rfl : len = 1 := Nat.eq_of_beq_eq_true hlen
    obtain ⟨x, y, r, rfl, e⟩ := oI2_i h
    cases e
    exact fun H locs c1 s1 ls a b c d e => lv_ior C.1 C.2.1  hd  (kk H locs c1 s1 ls a b c d e)
  case ixor =>
    obtain rfl : len = 1 := Nat.eq_of_beq_eq_true hlen
    obtain ⟨x, y, r, rfl, e⟩ := oI2_i h
    cases e
    exact fun H locs c1 s1 ls a b c d e => lv_ixor C.1 C.2.1  hd  (kk H locs c1 s1 ls a b c d e)
  case ishl =>
    obtain rfl : len = 1 := Nat.eq_of_beq_eq_true hlen
    obtain ⟨x, y, r, rfl, e⟩ := oI2_i h
    cases e
    exact fun H locs c1 s1 ls a b c d e => lv_ishl C.1 C.2.1  hd  (kk H locs c1 s1 ls a b c d e)
  case ishr =>
    obtain rfl : len = 1 := Nat.eq_of_beq_eq_true hlen
    obtain ⟨x, y, r, rfl, e⟩ := oI2_i h
    cases e
    exact fun H locs c1 s1 ls a b c d e => lv_ishr C.1 C.2.1  hd  (kk H locs c1 s1 ls a b c d e)
  case iushr =>
    obtain rfl : len = 1 := Nat.eq_of_beq_eq_true hlen
    obtain ⟨x, y, r, rfl, e⟩ := oI2_i h
    cases e
    exact fun H locs c1 s1 ls a b c d e => lv_iushr C.1 C.2.1  hd rfl (kk H locs c1 s1 ls a b c d e)
  case idiv =>
    obtain rfl : len = 1 := Nat.eq_of_beq_eq_true hlen
    obtain ⟨x, y, r, rfl, hne, e⟩ := oD2_i h
    cases e
    exact fun H locs c1 s1 ls a b c d e => lv_idiv C.1 C.2.1  hd hne (kk H locs c1 s1 ls a b c d e)
  case irem =>
    obtain rfl : len = 1 := Nat.eq_of_beq_eq_true hlen
    obtain ⟨x, y, r, rfl, hne, e⟩ := oD2_i h
    cases e
    exact fun H locs c1 s1 ls a b c d e => lv_irem C.1 C.2.1  hd hne (kk H locs c1 s1 ls a b c d e)
  case ineg =>
    obtain rfl : len = 1 := Nat.eq_of_beq_eq_true hlen
    obtain ⟨x, r, rfl, e⟩ := oI1_i h
    cases e
    exact fun H locs c1 s1 ls a b c d e => lv_ineg C.1 C.2.1  hd  (kk H locs c1 s1 ls a b c d e)
  case i2b =>
    obtain rfl : len = 1 := Nat.eq_of_beq_eq_true hlen
    obtain ⟨x, r, rfl, e⟩ := oI1_i h
    cases e
    exact fun H locs c1 s1 ls a b c d e => lv_i2b C.1 C.2.1  hd rfl (kk H locs c1 s1 ls a b c d e)
  case i2s =>
    obtain rfl : len = 1 := Nat.eq_of_beq_eq_true hlen
    obtain ⟨x, r, rfl, e⟩ := oI1_i h
    cases e
    exact fun H locs c1 s1 ls a b c d e => lv_i2s C.1 C.2.1  hd rfl (kk H locs c1 s1 ls a b c d e)
  case i2l =>
    obtain rfl : len = 1 := Nat.eq_of_beq_eq_true hlen
    unfold pS at h
    dsimp only at h
    split at h
    · cases h
      exact fun H locs c1 s1 ls a b c d e => lv_i2l C.1 C.2.1 hd rfl (kk H locs c1 s1 ls a b c d e)
    · cases h
  case l2i =>
    obtain rfl : len = 1 := Nat.eq_of_beq_eq_true hlen
    unfold pS at h
    dsimp only at h
    split at h
    · cases h
      exact fun H locs c1 s1 ls a b c d e => lv_l2i C.1 C.2.1 hd rfl (kk H locs c1 s1 ls a b c d e)
    · cases h
  case ladd =>
    obtain rfl : len = 1 := Nat.eq_of_beq_eq_true hlen
    obtain ⟨x, y, r, rfl, e⟩ := oL2_i h
    cases e
    exact fun H locs c1 s1 ls a b c d e => lv_ladd C.1 C.2.1  hd  (kk H locs c1 s1 ls a b c d e)
  case lsub =>
    obtain rfl : len = 1 := Nat.eq_of_beq_eq_true hlen
    obtain ⟨x, y, r, rfl, e⟩ := oL2_i h
    cases e
    exact fun H locs c1 s1 ls a b c d e => lv_lsub C.1 C.2.1  hd  (kk H locs c1 s1 ls a b c d e)
  case lmul =>
    obtain rfl : len = 1 := Nat.eq_of_beq_eq_true hlen
    obtain ⟨x, y, r, rfl, e⟩ := oL2_i h
    cases e
    exact fun H locs c1 s1 ls a b c d e => lv_lmul C.1 C.2.1  hd  (kk H locs c1 s1 ls a b c d e)
  case land =>
    obtain rfl : len = 1 := Nat.eq_of_beq_eq_true hlen
    obtain ⟨x, y, r, rfl, e⟩ := oL2_i h
    cases e
    exact fun H locs c1 s1 ls a b c d e => lv_land C.1 C.2.1  hd  (kk H locs c1 s1 ls a b c d e)
  case lor =>
    obtain rfl : len = 1 := Nat.eq_of_beq_eq_true hlen
    obtain ⟨x, y, r, rfl, e⟩ := oL2_i h
    cases e
    exact fun H locs c1 s1 ls a b c d e => lv_lor C.1 C.2.1  hd  (kk H locs c1 s1 ls a b c d e)
  case ldiv =>
    obtain rfl : len = 1 := Nat.eq_of_beq_eq_true hlen
    obtain ⟨x, y, r, rfl, hne, e⟩ := oE2_i h
    cases e
    exact fun H locs c1 s1 ls a b c d e => lv_ldiv C.1 C.2.1  hd hne (kk H locs c1 s1 ls a b c d e)
  case lrem =>
    obtain rfl : len = 1 := Nat.eq_of_beq_eq_true hlen
    obtain ⟨x, y, r, rfl, hne, e⟩ := oE2_i h
    cases e
    exact fun H locs c1 s1 ls a b c d e => lv_lrem C.1 C.2.1  hd hne (kk H locs c1 s1 ls a b c d e)
  case lcmp =>
    obtain rfl : len = 1 := Nat.eq_of_beq_eq_true hlen
    unfold pS at h
    dsimp only at h
    split at h
    · cases h
      exact fun H locs c1 s1 ls a b c d e => W.lcmp C.1 C.2.1 hd (kk H locs c1 s1 ls a b c d e)
    · cases h
  case lshl =>
    obtain rfl : len = 1 := Nat.eq_of_beq_eq_true hlen
    unfold pS at h
    dsimp only at h
    split at h
    · cases h
      exact fun H locs c1 s1 ls a b c d e => lv_lshl C.1 C.2.1 hd rfl (kk H locs c1 s1 ls a b c d e)
    · cases h
  case dup =>
    obtain rfl : len = 1 := Nat.eq_of_beq_eq_true hlen
    unfold pS at h
    dsimp only at h
    split at h
    · split at h
      next hv =>
        cases h
        exact fun H locs c1 s1 ls a b c d e => lv_dup C.1 C.2.1 hd ((cv_cat _).trans hv) (kk H locs c1 s1 ls a b c d e)
      next => cases h
    · cases h
  case dup2 =>
    obtain rfl : len = 1 := Nat.eq_of_beq_eq_true hlen
    unfold pS at h
    dsimp only at h
    split at h
    · split at h
      next hv =>
        cases h
        exact fun H locs c1 s1 ls a b c d e => lv_dup2_11 C.1 C.2.1 hd ((cv_cat _).trans hv.1) ((cv_cat _).trans hv.2) (kk H locs c1 s1 ls a b c d e)
      next => cases h
    · cases h
  case pop =>
    obtain rfl : len = 1 := Nat.eq_of_beq_eq_true hlen
    unfold pS at h
    dsimp only at h
    split at h
    · split at h
      next hv =>
        cases h
        exact fun H locs c1 s1 ls a b c d e => lv_pop C.1 C.2.1 hd ((cv_cat _).trans hv) (kk H locs c1 s1 ls a b c d e)
      next => cases h
    · cases h
  case goto off =>
    obtain rfl : len = 3 := Nat.eq_of_beq_eq_true hlen
    obtain ⟨t, ht, e⟩ := Option.map_eq_some_iff.mp h
    cases e
    exact fun H locs c1 s1 ls a b c d e => lv_goto C.1 C.2.1  hd (tgt_i ht) (kk H locs c1 s1 ls a b c d e)
  case ifCond cc off =>
    obtain rfl : len = 3 := Nat.eq_of_beq_eq_true hlen
    unfold pS at h
    dsimp only at h
    split at h
    next x r =>
      obtain ⟨t, ht, e⟩ := Option.map_eq_some_iff.mp h
      cases e
      cases cc
      case eq =>
        exact fun H locs c1 s1 ls a b c d e => lv_if_eq C.1 C.2.1 hd (tgt_i ht) (fun hq => by have k2 := kk; rw [show pbr .eq x 0 t (pc + 3) = t from if_pos hq] at k2; exact k2 H locs c1 s1 ls a b c d e) (fun hq => by have k2 := kk; rw [show pbr .eq x 0 t (pc + 3) = pc + 3 from if_neg hq] at k2; exact k2 H locs c1 s1 ls a b c d e)
      case ne =>
        exact fun H locs c1 s1 ls a b c d e => lv_if_ne C.1 C.2.1 hd (tgt_i ht) (fun hq => by have k2 := kk; rw [show pbr .ne x 0 t (pc + 3) = t from if_neg hq] at k2; exact k2 H locs c1 s1 ls a b c d e) (fun hq => by have k2 := kk; rw [show pbr .ne x 0 t (pc + 3) = pc + 3 from if_pos hq] at k2; exact k2 H locs c1 s1 ls a b c d e)
      case lt =>
        exact fun H locs c1 s1 ls a b c d e => lv_if_lt C.1 C.2.1 hd (tgt_i ht) (fun hq => by have k2 := kk; rw [show pbr .lt x 0 t (pc + 3) = t from if_pos hq] at k2; exact k2 H locs c1 s1 ls a b c d e) (fun hq => by have k2 := kk; rw [show pbr .lt x 0 t (pc + 3) = pc + 3 from if_neg hq] at k2; exact k2 H locs c1 s1 ls a b c d e)
      case ge =>
        exact fun H locs c1 s1 ls a b c d e => lv_if_ge C.1 C.2.1 hd (tgt_i ht) (fun hq => by have k2 := kk; rw [show pbr .ge x 0 t (pc + 3) = t from if_pos hq] at k2; exact k2 H locs c1 s1 ls a b c d e) (fun hq => by have k2 := kk; rw [show pbr .ge x 0 t (pc + 3) = pc + 3 from if_neg hq] at k2; exact k2 H locs c1 s1 ls a b c d e)
      case gt =>
        exact fun H locs c1 s1 ls a b c d e => lv_if_gt C.1 C.2.1 hd (tgt_i ht) (fun hq => by have k2 := kk; rw [show pbr .gt x 0 t (pc + 3) = t from if_pos hq] at k2; exact k2 H locs c1 s1 ls a b c d e) (fun hq => by have k2 := kk; rw [show pbr .gt x 0 t (pc + 3) = pc + 3 from if_neg hq] at k2; exact k2 H locs c1 s1 ls a b c d e)
      case le =>
        exact fun H locs c1 s1 ls a b c d e => lv_if_le C.1 C.2.1 hd (tgt_i ht) (fun hq => by have k2 := kk; rw [show pbr .le x 0 t (pc + 3) = t from if_pos hq] at k2; exact k2 H locs c1 s1 ls a b c d e) (fun hq => by have k2 := kk; rw [show pbr .le x 0 t (pc + 3) = pc + 3 from if_neg hq] at k2; exact k2 H locs c1 s1 ls a b c d e)
    next => cases h
  case if_icmp cc off =>
    obtain rfl : len = 3 := Nat.eq_of_beq_eq_true hlen
    unfold pS at h
    dsimp only at h
    split at h
    next y x r =>
      obtain ⟨t, ht, e⟩ := Option.map_eq_some_iff.mp h
      cases e
      cases cc
      case eq =>
        exact fun H locs c1 s1 ls a b c d e => lv_icmp_eq C.1 C.2.1 hd (tgt_i ht) (fun hq => by have k2 := kk; rw [show pbr .eq x y t (pc + 3) = t from if_pos hq] at k2; exact k2 H locs c1 s1 ls a b c d e) (fun hq => by have k2 := kk; rw [show pbr .eq x y t (pc + 3) = pc + 3 from if_neg hq] at k2; exact k2 H locs c1 s1 ls a b c d e)
      case ne =>
        exact fun H locs c1 s1 ls a b c d e => lv_icmp_ne C.1 C.2.1 hd (tgt_i ht) (fun hq => by have k2 := kk; rw [show pbr .ne x y t (pc + 3) = t from if_neg hq] at k2; exact k2 H locs c1 s1 ls a b c d e) (fun hq => by have k2 := kk; rw [show pbr .ne x y t (pc + 3) = pc + 3 from if_pos hq] at k2; exact k2 H locs c1 s1 ls a b c d e)
      case lt =>
        exact fun H locs c1 s1 ls a b c d e => lv_icmp_lt C.1 C.2.1 hd (tgt_i ht) (fun hq => by have k2 := kk; rw [show pbr .lt x y t (pc + 3) = t from if_pos hq] at k2; exact k2 H locs c1 s1 ls a b c d e) (fun hq => by have k2 := kk; rw [show pbr .lt x y t (pc + 3) = pc + 3 from if_neg hq] at k2; exact k2 H locs c1 s1 ls a b c d e)
      case ge =>
        exact fun H locs c1 s1 ls a b c d e => lv_icmp_ge C.1 C.2.1 hd (tgt_i ht) (fun hq => by have k2 := kk; rw [show pbr .ge x y t (pc + 3) = t from if_pos hq] at k2; exact k2 H locs c1 s1 ls a b c d e) (fun hq => by have k2 := kk; rw [show pbr .ge x y t (pc + 3) = pc + 3 from if_neg hq] at k2; exact k2 H locs c1 s1 ls a b c d e)
      case gt =>
        exact fun H locs c1 s1 ls a b c d e => lv_icmp_gt C.1 C.2.1 hd (tgt_i ht) (fun hq => by have k2 := kk; rw [show pbr .gt x y t (pc + 3) = t from if_pos hq] at k2; exact k2 H locs c1 s1 ls a b c d e) (fun hq => by have k2 := kk; rw [show pbr .gt x y t (pc + 3) = pc + 3 from if_neg hq] at k2; exact k2 H locs c1 s1 ls a b c d e)
      case le =>
        exact fun H locs c1 s1 ls a b c d e => lv_icmp_le C.1 C.2.1 hd (tgt_i ht) (fun hq => by have k2 := kk; rw [show pbr .le x y t (pc + 3) = t from if_pos hq] at k2; exact k2 H locs c1 s1 ls a b c d e) (fun hq => by have k2 := kk; rw [show pbr .le x y t (pc + 3) = pc + 3 from if_neg hq] at k2; exact k2 H locs c1 s1 ls a b c d e)
    next => cases h
  case tableswitch dd lo hi offs =>
    unfold pS at h
    dsimp only at h
    split at h
    next x r =>
      split at h
      next hh =>
        obtain ⟨t, ht, e⟩ := Option.map_eq_some_iff.mp h
        cases e
        exact fun H locs c1 s1 ls a b c d e => lv_tableOut C.1 C.2.1 hd hh (tgt_i ht) (kk H locs c1 s1 ls a b c d e)
      next hh =>
        obtain ⟨off, ho, h2⟩ := Option.bind_eq_some_iff.mp h
        obtain ⟨t, ht, e⟩ := Option.map_eq_some_iff.mp h2
        cases e
        exact fun H locs c1 s1 ls a b c d e => lv_tableIn C.1 C.2.1 hd (fun q => hh (Or.inl q)) (fun q => hh (Or.inr q)) ho (tgt_i ht) (kk H locs c1 s1 ls a b c d e)
    next => cases h
  case lookupswitch dd ps =>
    unfold pS at h
    dsimp only at h
    split at h
    next x r =>
      split at h
      next hh =>
        obtain ⟨t, ht, e⟩ := Option.map_eq_some_iff.mp h
        cases e
        exact fun H locs c1 s1 ls a b c d e => lv_lookup C.1 C.2.1 hd hh rfl (tgt_i ht) (kk H locs c1 s1 ls a b c d e)
      next => cases h
    next => cases h
  case getfield k =>
    obtain rfl : len = 3 := Nat.eq_of_beq_eq_true hlen
    obtain ⟨ob, r, ci, f, rfl, hfl, ho, hp, hf, e⟩ := oGet_i h
    cases e
    exact ws_get C hd hfl ho hp hf kk
  case putfield k =>
    obtain rfl : len = 3 := Nat.eq_of_beq_eq_true hlen
    obtain ⟨v, ob, r, ci, f, τ, rfl, hfl, ho, hp, hf, hfin, hv, e⟩ := oPut_i h
    cases e
    exact ws_put C hd hfl ho hp hf hfin hv kk
  case getstatic k =>
    obtain rfl : len = 3 := Nat.eq_of_beq_eq_true hlen
    obtain ⟨j, hj, e⟩ := Option.map_eq_some_iff.mp h
    cases e
    exact ws_gets C hd hj kk
  case iaload =>
    obtain rfl : len = 1 := Nat.eq_of_beq_eq_true hlen
    rcases oLdI_i h with ⟨i, ob, r, rfl, hh, e⟩ | ⟨i, ob, r, rfl, hh, e⟩
    · cases e
      exact ws_iald C hd hh.1 hh.2.1 hh.2.2 kk
    · cases e
      exact ws_rold C hd hh.2.1 hh.2.2 kk
  case baload =>
    obtain rfl : len = 1 := Nat.eq_of_beq_eq_true hlen
    rcases oLdI_i h with ⟨i, ob, r, rfl, hh, e⟩ | ⟨i, ob, r, rfl, hh, e⟩
    · cases e
      exact ws_bald C hd hh.1 hh.2.1 hh.2.2 kk
    · exact absurd hh.1 (by decide)
  case saload =>
    obtain rfl : len = 1 := Nat.eq_of_beq_eq_true hlen
    rcases oLdI_i h with ⟨i, ob, r, rfl, hh, e⟩ | ⟨i, ob, r, rfl, hh, e⟩
    · cases e
      exact ws_sald C hd hh.1 hh.2.1 hh.2.2 kk
    · exact absurd hh.1 (by decide)
  case laload =>
    obtain rfl : len = 1 := Nat.eq_of_beq_eq_true hlen
    obtain ⟨i, ob, r, rfl, hh, e⟩ := oLdL_i h
    cases e
    exact ws_lald C hd hh.1 hh.2.1 hh.2.2 kk
  case aaload =>
    obtain rfl : len = 1 := Nat.eq_of_beq_eq_true hlen
    obtain ⟨i, ob, r, j, rfl, hh, hj, e⟩ := oLdA_i h
    cases e
    exact ws_aald C hd hh.1 hh.2.1 hh.2.2 hj kk
  case iastore =>
    obtain rfl : len = 1 := Nat.eq_of_beq_eq_true hlen
    obtain ⟨x, i, ob, r, rfl, hh, e⟩ := oStI_i h
    cases e
    exact ws_iast C hd hh.1 hh.2.1 hh.2.2 kk
  case bastore =>
    obtain rfl : len = 1 := Nat.eq_of_beq_eq_true hlen
    obtain ⟨x, i, ob, r, rfl, hh, e⟩ := oStI_i h
    cases e
    exact ws_bast C hd hh.1 hh.2.1 hh.2.2 kk
  case sastore =>
    obtain rfl : len = 1 := Nat.eq_of_beq_eq_true hlen
    obtain ⟨x, i, ob, r, rfl, hh, e⟩ := oStI_i h
    cases e
    exact ws_sast C hd hh.1 hh.2.1 hh.2.2 kk
  case lastore =>
    obtain rfl : len = 1 := Nat.eq_of_beq_eq_true hlen
    obtain ⟨x, i, ob, r, rfl, hh, e⟩ := oStL_i h
    cases e
    exact ws_last C hd hh.1 hh.2.1 hh.2.2 kk
  case arraylength =>
    obtain rfl : len = 1 := Nat.eq_of_beq_eq_true hlen
    rcases oLen_i h with ⟨ob, r, rfl, hh, e⟩ | ⟨ob, r, rfl, hh, e⟩
    · cases e
      exact ws_len C hd hh.1 hh.2.1 hh.2.2 kk
    · cases e
      exact ws_rolen C hd hh kk
  case newarray at_ =>
    obtain rfl : len = 2 := Nat.eq_of_beq_eq_true hlen
    obtain ⟨n, r, rfl, hh, e⟩ := oNewA_i h
    cases e
    cases at_
    case boolean => exact absurd hh.2.2 (by decide)
    case char => exact absurd hh.2.2 (by decide)
    case float => exact absurd hh.2.2 (by decide)
    case double => exact absurd hh.2.2 (by decide)
    case byte =>
      exact ws_newa_byte C hd hh.1 hh.2.1 hr1 hr2 kk
    case short =>
      exact ws_newa_short C hd hh.1 hh.2.1 hr1 hr2 kk
    case int =>
      exact ws_newa_int C hd hh.1 hh.2.1 hr1 hr2 kk
    case long =>
      exact ws_newa_long C hd hh.1 hh.2.1 hr1 hr2 kk
  case new k =>
    obtain rfl : len = 3 := Nat.eq_of_beq_eq_true hlen
    obtain ⟨ci, hci, e⟩ := Option.map_eq_some_iff.mp h
    cases e
    exact ws_new C hd hci hr1 hr2 kk
  case multianewarray k dm =>
    obtain rfl : len = 4 := Nat.eq_of_beq_eq_true hlen
    unfold pS at h
    dsimp only at h
    split at h
    next hdm =>
      subst hdm
      obtain ⟨t, ht, h2⟩ := Option.bind_eq_some_iff.mp h
      obtain ⟨kx, n, r, rfl, hh, e⟩ := oMna_i h2
      cases e
      rcases hh.2.2.2.2 with rfl | rfl
      · obtain ⟨q1, q2, -⟩ := mkrows_spec 1 kx.toNatClampNeg n.toNatClampNeg (wrr (mkc σ 5 n.toNatClampNeg n.toNatClampNeg) (pnc σ) (fun i => if i < n.toNatClampNeg then some (pnc σ + 1 + i) else none))
        exact ws_mna C hd ht rfl (Or.inl ⟨rfl, rfl, rfl⟩) hh.1 hh.2.1 hh.2.2.1 hh.2.2.2.1 (by rw [if_pos rfl, q1] at hr1; exact hr1) (by rw [if_pos rfl, q2] at hr2; exact hr2) kk
      · obtain ⟨q1, q2, -⟩ := mkrows_spec 4 kx.toNatClampNeg n.toNatClampNeg (wrr (mkc σ 6 n.toNatClampNeg n.toNatClampNeg) (pnc σ) (fun i => if i < n.toNatClampNeg then some (pnc σ + 1 + i) else none))
        exact ws_mna C hd ht rfl (Or.inr ⟨rfl, rfl, rfl⟩) hh.1 hh.2.1 hh.2.2.1 hh.2.2.2.1 (by rw [if_neg (by decide), q1] at hr1; exact hr1) (by rw [if_neg (by decide), q2] at hr2; exact hr2) kk
    next => cases h
  all_goals (have h2 : (none : PO) = some (pc2, st2, σ2) := h; cases h2)
end
section
/-! ===== locals ===== -/
theorem lk_mem : ∀ {L : PL} {k : Nat} {v : Value}, lk L k = some v → (k, v) ∈ L
  | [], _, _, h => by cases h
  | q :: t, k, v, h => by
    unfold lk at h
    cases e : Nat.beq q.1 k with
    | true =>
      rw [e] at h
      cases h
      have e2 : q.1 = k := Nat.eq_of_beq_eq_true e
      subst e2
      exact List.mem_cons_self
    | false =>
      rw [e] at h
      exact List.mem_cons_of_mem _ (lk_mem h)
theorem put_mem : ∀ {L : PL} {k : Nat} {v : Value} {q : Nat × Value}, q ∈ put L k v → q = (k, v) ∨ q ∈ L
  | [], k, v, q, h => Or.inl (List.mem_singleton.mp h)
  | a :: t, k, v, q, h => by
    unfold put at h
    cases e : Nat.blt k a.1 with
    | true =>
      rw [e] at h
      rcases List.mem_cons.mp h with h | h
      · exact Or.inl h
      · exact Or.inr h
    | false =>
      rw [e] at h
      rcases List.mem_cons.mp h with h | h
      · exact Or.inr (h ▸ List.mem_cons_self)
      · rcases put_mem h with h | h
        · exact Or.inl h
        · exact Or.inr (List.mem_cons_of_mem _ h)
theorem has_at {X : Ctx} {ls : Array Slot} {n : Nat} {L : PL} {k : Nat} {v : Value} (hl : lv_has ls n (cvL X L)) (h : lk L k = some v) : ls[k]? = some (.val (cv (xo X) (xt X) v)) := hl.2.2 (k, cv (xo X) (xt X) v) (List.mem_map.mpr ⟨(k, v), lk_mem h, rfl⟩)
theorem has_weak {ls : Array Slot} {n : Nat} {l l' : List (Nat × Value)} (h : lv_has ls n l) (hs : ∀ q ∈ l', q ∈ l) : lv_has ls n l' := ⟨h.1, h.2.1, fun q hq => h.2.2 q (hs q hq)⟩
theorem rmk_in {L : PL} {i : Nat} {q : Nat × Value} (h : q ∈ rmk L i) : q ∈ L ∧ q.1 ≠ i := by
  obtain ⟨h1, h2⟩ := List.mem_filter.mp h
  refine ⟨h1, fun e => ?_⟩
  rw [e] at h2
  have : Nat.beq i i = true := Nat.beq_refl i
  rw [this] at h2
  cases h2
theorem lk_some_of {L : PL} {k : Nat} {v : Value} (h : (k, v) ∈ L) : ∃ w, lk L k = some w := by
  induction L with
  | nil => cases h
  | cons a t ih =>
    unfold lk
    cases e : Nat.beq a.1 k with
    | true => exact ⟨_, rfl⟩
    | false =>
      rcases List.mem_cons.mp h with h | h
      · subst h
        have : Nat.beq k k = true := Nat.beq_refl k
        rw [this] at e
        cases e
      · exact ih h
theorem rm1_in {X : Ctx} {ls : Array Slot} {n : Nat} {L : PL} {k : Nat} {q : Nat × Value} (hl : lv_has ls n (cvL X L)) (h : q ∈ rm1 L k) : q ∈ L ∧ q.1 ≠ k ∧ ¬ (q.1 + 1 = k ∧ q.2.category = 2) := by
  cases k with
  | zero =>
    obtain ⟨h1, h2⟩ := rmk_in h
    exact ⟨h1, h2, by omega⟩
  | succ j =>
    unfold rm1 at h
    dsimp only at h
    cases e : lg L j with
    | true =>
      rw [e] at h
      obtain ⟨h1, h2⟩ := rmk_in h
      obtain ⟨h3, h4⟩ := rmk_in h1
      exact ⟨h3, h4, by omega⟩
    | false =>
      rw [e] at h
      obtain ⟨h1, h2⟩ := rmk_in h
      refine ⟨h1, h2, fun hh => ?_⟩
      obtain ⟨h3, h4⟩ := hh
      have e3 : q.1 = j := by omega
      obtain ⟨w, hw⟩ := lk_some_of (L := L) (k := j) (v := q.2) (by rw [← e3]; exact h1)
      have a1 := has_at hl hw
      have a2 : ls[q.1]? = some (.val (cv (xo X) (xt X) q.2)) := hl.2.2 (q.1, cv (xo X) (xt X) q.2) (List.mem_map.mpr ⟨q, h1, rfl⟩)
      rw [e3, a1] at a2
      have a3 : cv (xo X) (xt X) w = cv (xo X) (xt X) q.2 := Slot.val.inj (Option.some.inj a2)
      have a4 : w.category = q.2.category := by
        have := congrArg Value.category a3
        rwa [cv_cat, cv_cat] at this
      unfold lg at e
      rw [hw] at e
      dsimp only at e
      rw [a4, h4] at e
      cases e
theorem has_ins1 {X : Ctx} {ls0 ls : Array Slot} {n : Nat} {L : PL} {k : Nat} {v w : Value} (h0 : lv_has ls0 n (cvL X L)) (hw : cv (xo X) (xt X) v = w) (h : lv_has ls n ((k, w) :: (cvL X L).filter (fun q => !(q.1 == k) && !(q.1 + 1 == k && q.2.category == 2)))) : lv_has ls n (cvL X (ins1 L k v)) := by
  subst hw
  refine has_weak h fun q hq => ?_
  obtain ⟨q0, hq0, rfl⟩ := List.mem_map.mp hq
  rcases put_mem hq0 with rfl | hq0
  · exact List.mem_cons_self
  · obtain ⟨a1, a2, a3⟩ := rm1_in h0 hq0
    refine List.mem_cons_of_mem _ (List.mem_filter.mpr ⟨List.mem_map.mpr ⟨q0, a1, rfl⟩, ?_⟩)
    rw [cv_cat]
    simp [a2]
    omega
theorem has_ins2 {X : Ctx} {ls0 ls : Array Slot} {n : Nat} {L : PL} {k : Nat} {v w : Value} (h0 : lv_has ls0 n (cvL X L)) (hw : cv (xo X) (xt X) v = w) (h : lv_has ls n ((k, w) :: (cvL X L).filter (fun q => !(q.1 == k) && (!(q.1 == k + 1) && !(q.1 + 1 == k && q.2.category == 2))))) : lv_has ls n (cvL X (ins2 L k v)) := by
  subst hw
  refine has_weak h fun q hq => ?_
  obtain ⟨q0, hq0, rfl⟩ := List.mem_map.mp hq
  rcases put_mem hq0 with rfl | hq0
  · exact List.mem_cons_self
  · obtain ⟨hq1, hq2⟩ := rmk_in hq0
    obtain ⟨a1, a2, a3⟩ := rm1_in h0 hq1
    refine List.mem_cons_of_mem _ (List.mem_filter.mpr ⟨List.mem_map.mpr ⟨q0, a1, rfl⟩, ?_⟩)
    rw [cv_cat]
    simp [a2, hq2]
    omega
theorem okI_i {v : Value} (h : okI v = true) : ∃ x, v = .int x := by cases v <;> first | exact ⟨_, rfl⟩ | cases h
theorem okL_i {v : Value} (h : okL v = true) : ∃ x, v = .long x := by cases v <;> first | exact ⟨_, rfl⟩ | cases h
theorem okA_i {v : Value} (h : okA v = true) (b0 : Nat) (tt : Nat → Nat) : ∃ x, cv b0 tt v = .ref x := by cases v <;> first | exact ⟨_, rfl⟩ | cases h
theorem pLd_i {ok : Value → Bool} {L : PL} {k : Nat} {st : List Value} {q : PL × List Value} (h : pLd ok L k st = some q) : ∃ v, lk L k = some v ∧ ok v = true ∧ q = (L, v :: st) := by
  obtain ⟨v, h1, h2⟩ := Option.bind_eq_some_iff.mp h
  cases e : ok v with
  | true => rw [e] at h2; cases h2; exact ⟨v, h1, e, rfl⟩
  | false => rw [e] at h2; cases h2
theorem pSt1_i {ok : Value → Bool} {nL : Nat} {L : PL} {k : Nat} {st : List Value} {q : PL × List Value} (h : pSt1 ok nL L k st = some q) : ∃ v r, st = v :: r ∧ ok v = true ∧ k < nL ∧ q = (ins1 L k v, r) := by
  unfold pSt1 at h
  split at h
  next v r =>
    cases e : ok v && Nat.blt k nL with
    | true =>
      rw [e] at h
      cases h
      simp only [Bool.and_eq_true] at e
      exact ⟨v, r, rfl, e.1, Nat.le_of_ble_eq_true e.2, rfl⟩
    | false => rw [e] at h; cases h
  next => cases h
theorem pSt2_i {nL : Nat} {L : PL} {k : Nat} {st : List Value} {q : PL × List Value} (h : pSt2 nL L k st = some q) : ∃ v r, st = v :: r ∧ okL v = true ∧ k + 1 < nL ∧ q = (ins2 L k v, r) := by
  unfold pSt2 at h
  split at h
  next v r =>
    cases e : okL v && Nat.blt (k + 1) nL with
    | true =>
      rw [e] at h
      cases h
      simp only [Bool.and_eq_true] at e
      exact ⟨v, r, rfl, e.1, Nat.le_of_ble_eq_true e.2, rfl⟩
    | false => rw [e] at h; cases h
  next => cases h
set_option maxHeartbeats 4000000 in
theorem ws_pL {Λ : PRo} {X : Ctx} (C : CX Λ X) {i : Instr} {len pc : Nat} {L : PL} {st : List Value} {σ : PSt} {L2 : PL} {st2 : List Value} (hd : decode (mB (xm X)) pc = .ok (i, len)) (hlen : lenOk i len = true) (h : pL i (mL (xm X)) L st = some (L2, st2))
    (kk : WS X (pc + len) L2 st2 σ) : WS X pc L st σ := by
  cases i
  case iload k =>
    obtain rfl : len = 2 := Nat.eq_of_beq_eq_true hlen
    obtain ⟨v, h1, h2, e⟩ := pLd_i h
    obtain ⟨x, rfl⟩ := okI_i h2
    cases e
    exact fun H locs c1 s1 ls a b c d e => lv_iload C.1 C.2.1 hd (has_at e h1) (kk H locs c1 s1 ls a b c d e)
  case iload_n k =>
    obtain rfl : len = 1 := Nat.eq_of_beq_eq_true hlen
    obtain ⟨v, h1, h2, e⟩ := pLd_i h
    obtain ⟨x, rfl⟩ := okI_i h2
    cases e
    exact fun H locs c1 s1 ls a b c d e => lv_iload_n C.1 C.2.1 hd rfl (has_at e h1) (kk H locs c1 s1 ls a b c d e)
  case lload k =>
    obtain rfl : len = 2 := Nat.eq_of_beq_eq_true hlen
    obtain ⟨v, h1, h2, e⟩ := pLd_i h
    obtain ⟨x, rfl⟩ := okL_i h2
    cases e
    exact fun H locs c1 s1 ls a b c d e => lv_lload C.1 C.2.1 hd (has_at e h1) (kk H locs c1 s1 ls a b c d e)
  case lload_n k =>
    obtain rfl : len = 1 := Nat.eq_of_beq_eq_true hlen
    obtain ⟨v, h1, h2, e⟩ := pLd_i h
    obtain ⟨x, rfl⟩ := okL_i h2
    cases e
    exact fun H locs c1 s1 ls a b c d e => lv_lload_n C.1 C.2.1 hd rfl (has_at e h1) (kk H locs c1 s1 ls a b c d e)
  case aload k =>
    obtain rfl : len = 2 := Nat.eq_of_beq_eq_true hlen
    obtain ⟨v, h1, h2, e⟩ := pLd_i h
    cases e
    intro H locs c1 s1 ls a b c d e
    obtain ⟨x, hx⟩ := okA_i h2 (xo X) (xt X)
    have k2 := kk H locs c1 s1 ls a b c d e
    rw [List.map_cons, hx] at k2
    exact lv_aload C.1 C.2.1 hd (by rw [← hx]; exact has_at e h1) k2
  case aload_n k =>
    obtain rfl : len = 1 := Nat.eq_of_beq_eq_true hlen
    obtain ⟨v, h1, h2, e⟩ := pLd_i h
    cases e
    intro H locs c1 s1 ls a b c d e
    obtain ⟨x, hx⟩ := okA_i h2 (xo X) (xt X)
    have k2 := kk H locs c1 s1 ls a b c d e
    rw [List.map_cons, hx] at k2
    exact lv_aload_n C.1 C.2.1 hd rfl (by rw [← hx]; exact has_at e h1) k2
  case istore k =>
    obtain rfl : len = 2 := Nat.eq_of_beq_eq_true hlen
    obtain ⟨v, r, rfl, h2, h3, e⟩ := pSt1_i h
    obtain ⟨x, rfl⟩ := okI_i h2
    cases e
    exact fun H locs c1 s1 ls a b c d e => lv_istore C.1 C.2.1 hd e h3 rfl (fun ls' hl' => kk H locs c1 s1 ls' a b c d (has_ins1 e rfl hl'))
  case istore_n k =>
    obtain rfl : len = 1 := Nat.eq_of_beq_eq_true hlen
    obtain ⟨v, r, rfl, h2, h3, e⟩ := pSt1_i h
    obtain ⟨x, rfl⟩ := okI_i h2
    cases e
    exact fun H locs c1 s1 ls a b c d e => lv_istore_n C.1 C.2.1 hd rfl e h3 rfl (fun ls' hl' => kk H locs c1 s1 ls' a b c d (has_ins1 e rfl hl'))
  case astore k =>
    obtain rfl : len = 2 := Nat.eq_of_beq_eq_true hlen
    obtain ⟨v, r, rfl, h2, h3, e⟩ := pSt1_i h
    cases e
    intro H locs c1 s1 ls a b c d e
    obtain ⟨x, hx⟩ := okA_i h2 (xo X) (xt X)
    rw [List.map_cons, hx]
    exact lv_astore C.1 C.2.1 hd e h3 rfl (fun ls' hl' => kk H locs c1 s1 ls' a b c d (has_ins1 e hx hl'))
  case astore_n k =>
    obtain rfl : len = 1 := Nat.eq_of_beq_eq_true hlen
    obtain ⟨v, r, rfl, h2, h3, e⟩ := pSt1_i h
    cases e
    intro H locs c1 s1 ls a b c d e
    obtain ⟨x, hx⟩ := okA_i h2 (xo X) (xt X)
    rw [List.map_cons, hx]
    exact lv_astore_n C.1 C.2.1 hd rfl e h3 rfl (fun ls' hl' => kk H locs c1 s1 ls' a b c d (has_ins1 e hx hl'))
  case lstore k =>
    obtain rfl : len = 2 := Nat.eq_of_beq_eq_true hlen
    obtain ⟨v, r, rfl, h2, h3, e⟩ := pSt2_i h
    obtain ⟨x, rfl⟩ := okL_i h2
    cases e
    exact fun H locs c1 s1 ls a b c d e => lv_lstore C.1 C.2.1 hd e h3 rfl (fun ls' hl' => kk H locs c1 s1 ls' a b c d (has_ins2 e rfl hl'))
  case lstore_n k =>
    obtain rfl : len = 1 := Nat.eq_of_beq_eq_true hlen
    obtain ⟨v, r, rfl, h2, h3, e⟩ := pSt2_i h
    obtain ⟨x, rfl⟩ := okL_i h2
    cases e
    exact fun H locs c1 s1 ls a b c d e => lv_lstore_n C.1 C.2.1 hd rfl e h3 rfl (fun ls' hl' => kk H locs c1 s1 ls' a b c d (has_ins2 e rfl hl'))
  case iinc k n =>
    obtain rfl : len = 3 := Nat.eq_of_beq_eq_true hlen
    unfold pL at h
    dsimp only at h
    split at h
    next x hx =>
      cases eb : Nat.blt k (mL (xm X)) with
      | false => rw [eb] at h; cases h
      | true =>
        rw [eb] at h
        cases h
        intro H locs c1 s1 ls a b c d e
        obtain ⟨j, hj⟩ := List.getElem?_of_mem (List.mem_map.mpr ⟨(k, .int x), lk_mem hx, rfl⟩ : (k, Value.int x) ∈ cvL X L)
        exact lv_iinc C.1 C.2.1 hd e hj rfl (Nat.le_of_ble_eq_true eb) rfl (fun ls' hl' => kk H locs c1 s1 ls' a b c d (has_ins1 (v := .int (x + Int32.ofInt n)) e rfl hl'))
    next => cases h
  all_goals (have h2 : (none : Option (PL × List Value)) = some (L2, st2) := h; cases h2)
theorem retOf_i {i : Instr} {st : List Value} {v : Option Value} (h : retOf i st = some v) : i = retI v ∧ st = v.toList ∧ ∀ len, lenOk i len = true → len = 1 := by
  cases i
  case ireturn =>
    unfold retOf at h
    dsimp only at h
    split at h
    · cases h; exact ⟨rfl, rfl, fun len h9 => Nat.eq_of_beq_eq_true h9⟩
    · cases h
  case lreturn =>
    unfold retOf at h
    dsimp only at h
    split at h
    · cases h; exact ⟨rfl, rfl, fun len h9 => Nat.eq_of_beq_eq_true h9⟩
    · cases h
  case areturn =>
    unfold retOf at h
    dsimp only at h
    split at h
    · cases h; exact ⟨rfl, rfl, fun len h9 => Nat.eq_of_beq_eq_true h9⟩
    · cases h
  case return_ =>
    unfold retOf at h
    dsimp only at h
    split at h
    · cases h; exact ⟨rfl, rfl, fun len h9 => Nat.eq_of_beq_eq_true h9⟩
    · cases h
  all_goals (have h2 : (none : Option (Option Value)) = some v := h; cases h2)
theorem callOf_i {i : Instr} {k idx : Nat} (h : callOf i = some (k, idx)) : (k = 0 ∧ i = .invokevirtual idx ∨ k = 1 ∧ i = .invokespecial idx ∨ k = 2 ∧ i = .invokestatic idx) ∧ ∀ len, lenOk i len = true → len = 3 := by
  cases i
  case invokevirtual k => cases h; exact ⟨Or.inl ⟨rfl, rfl⟩, fun len h9 => Nat.eq_of_beq_eq_true h9⟩
  case invokespecial k => cases h; exact ⟨Or.inr (Or.inl ⟨rfl, rfl⟩), fun len h9 => Nat.eq_of_beq_eq_true h9⟩
  case invokestatic k => cases h; exact ⟨Or.inr (Or.inr ⟨rfl, rfl⟩), fun len h9 => Nat.eq_of_beq_eq_true h9⟩
  all_goals (have h2 : (none : Option (Nat × Nat)) = some (k, idx) := h; cases h2)
theorem popN_i : ∀ {n : Nat} {st acc as rest : List Value}, popN n st acc = some (as, rest) → ∃ bs, as = bs ++ acc ∧ bs.length = n ∧ st = bs.reverse ++ rest
  | 0, st, acc, as, rest, h => by cases h; exact ⟨[], rfl, rfl, rfl⟩
  | n + 1, v :: st, acc, as, rest, h => by
    obtain ⟨bs, h1, h2, h3⟩ := popN_i (n := n) (show popN n st (v :: acc) = some (as, rest) from h)
    exact ⟨bs ++ [v], by simp [h1], by simp [h2], by simp [h3]⟩
  | n + 1, [], acc, as, rest, h => by cases h
end
section
/-! ===== calls ===== -/
def wsM (m : Nat) : List Cond := wCode m :: WALL
theorem wsM_in {m : Nat} (h : m < NM) : ∀ w ∈ wsM m, w ∈ WALL := by
  intro w hw
  rcases List.mem_cons.mp hw with rfl | hw
  · exact w_code h
  · exact hw
theorem good_wall {ws : List Cond} (h : ∀ w ∈ ws, w ∈ WALL) : GoodIn WALL ws := fun w hw => ⟨h w hw, good_of_word (List.mem_filter.mp (h w hw)).2⟩
def cRm (d mc ms : Nat) : Room := { frames := d, cells := mc, slots := ms, locals := 64 * d }
def cPc (Λ : PRo) (D : va_G) (dA : Nat → ClassId) (b0 : Nat) (tt : Nat → Nat) (as : List Value) (σ : PSt) : Array Value → State → Prop := va_Pc (as.map (cv b0 tt)) (fun U => Hd D dA b0 tt σ U.heap ∧ KN Λ D dA b0 tt U U.heap)
def cQc (D : va_G) (dA : Nat → ClassId) (b0 : Nat) (tt : Nat → Nat) (v : Option Value) (σ : PSt) : Array Value → State → Outcome → State → Prop := fun _ st o t => o = .returned (v.map (cv b0 tt)) ∧ Hd D dA b0 tt σ t.heap ∧ va_F (fun q => b0 ≤ q) st t
theorem args_cv {b0 : Nat} {tt : Nat → Nat} : ∀ (as : List Value) (i : Nat), (lv_args i as).map (fun q => (q.1, cv b0 tt q.2)) = lv_args i (as.map (cv b0 tt))
  | [], _ => rfl
  | v :: vs, i => by
    show (i, cv b0 tt v) :: (lv_args (if v.category = 2 then i + 2 else i + 1) vs).map _ = (i, cv b0 tt v) :: lv_args (if (cv b0 tt v).category = 2 then i + 2 else i + 1) (vs.map (cv b0 tt))
    rw [args_cv vs, cv_cat]
theorem sl_len : ∀ as : List Value, (lg_sl as).length ≤ catS as
  | [] => Nat.zero_le _
  | v :: vs => by
    have h := sl_len vs
    show (lg_sl (v :: vs)).length ≤ ((v :: vs).map fun v => v.category).sum
    have e : (lg_sl (v :: vs)).length = (if v.category = 2 then 2 else 1) + (lg_sl vs).length := by
      unfold lg_sl
      rw [List.flatMap_cons, List.length_append]
      split <;> rfl
    rw [e, List.map_cons, List.sum_cons]
    have h2 : (lg_sl vs).length ≤ (vs.map fun v => v.category).sum := h
    rcases lv_cat v with h1 | h1 <;> rw [h1] <;> simp <;> omega
theorem catS_cv {b0 : Nat} {tt : Nat → Nat} (st : List Value) : ((st.map (cv b0 tt)).map fun v => v.category).sum = catS st := by
  unfold catS
  rw [List.map_map]
  congr 1
  exact List.map_congr_left fun v _ => cv_cat v
theorem ret_any {p : Program} {l : Launch} {e : Env} {R : Room} {s : State} {m : MethodId} {args : Array Value} {below : List Frame} {meth : Method} {c : Code} {H : Heap} {locs : List Loc} {cells slots pc : Nat} {ls : Array Slot} {b0 : Nat} {tt : Nat → Nat} {Qc : Array Value → State → Outcome → State → Prop} {free : Addr → Prop} {cc : ByteArray} {r0 : Option FieldType} {v : Option Value} (hexec : p.tables.exec = Jvm.exec) (hb : c.code = cc) (hr0 : meth.sig.returnType = r0) (hok : okRet r0 v = true)
    (hq : ∀ t : State, t.heap = H → s.WarmedH t.vm → Qc args s (.returned (v.map (cv b0 tt))) t) (hf : ∀ q ∈ locs, free q.base) (hd : decode cc pc = .ok (retI v, 1)) (hlk : meth.locks = false) : W p l e R s m args below meth c H locs cells slots (MQ below Qc args s cells slots free) (F0 m pc ls (v.toList.map (cv b0 tt))) := by
  match v, hq, hok, hd with
  | none, hq, hok, hd =>
    have hr : r0 = none := by
            match r0, hok with
      | none, _ => rfl
      | some t, h => cases t <;> cases h
    exact W.vret hexec hb (hr0.trans hr) hq hf hd hlk
  | some (.int x), hq, hok, hd =>
    have hr : ∃ ty, r0 = some ty ∧ narrow ty (.int x) = .int x := by
            match r0, hok with
      | none, h => cases h
      | some .int, _ => exact ⟨_, rfl, rfl⟩
      | some .boolean, h =>
        refine ⟨_, rfl, ?_⟩
        have h2 : (x == 0 || x == 1) = true := h
        simp only [Bool.or_eq_true, beq_iff_eq] at h2
        rcases h2 with rfl | rfl <;> decide
      | some .byte, h => cases h
      | some .char, h => cases h
      | some .short, h => cases h
      | some .long, h => cases h
      | some .float, h => cases h
      | some .double, h => cases h
      | some (.object _), h => cases h
      | some (.array _), h => cases h
    obtain ⟨ty, hr, hn⟩ := hr
    exact W.zret hexec hb (hr0.trans hr) hn hq hf hd hlk
  | some (.long x), hq, hok, hd =>
    have hr : r0 = some .long := by
            match r0, hok with
      | none, h => cases h
      | some t, h => cases t <;> first | rfl | cases h
    exact W.lret hexec hb (hr0.trans hr) hq hf hd hlk
  | some (.ref x), hq, hok, hd =>
    have hr : ∃ n, r0 = some (.object n) := by
            match r0, hok with
      | none, h => cases h
      | some t, h => cases t <;> first | exact ⟨_, rfl⟩ | cases h
    obtain ⟨n, hr⟩ := hr
    exact W.aret hexec hb (hr0.trans hr) (Or.inl ⟨n, rfl⟩) (Or.inr ⟨_, rfl⟩) hq hf hd hlk
  | some (.float x), hq, hok, hd =>
        match r0, hok with
    | none, h => cases h
    | some t, h => cases t <;> cases h
  | some (.double x), hq, hok, hd =>
        match r0, hok with
    | none, h => cases h
    | some t, h => cases t <;> cases h
  | some .null, hq, hok, hd =>
        match r0, hok with
    | none, h => cases h
    | some t, h => cases t <;> cases h
  | some (.retAddr x), hq, hok, hd =>
        match r0, hok with
    | none, h => cases h
    | some t, h => cases t <;> cases h
/-- a callee's contract out of its walk -/
theorem met_of {Λ : PRo} {l : Launch} {D : va_G} {dA : Nat → ClassId} {b0 : Nat} {tt : Nat → Nat} {y d : Nat} {as : List Value} {σ σ1 : PSt} {v : Option Value} (hy : y < NM) (hcat : catS as ≤ mL y) (hm1 : pnc σ ≤ pnc σ1) (hm2 : pns σ ≤ pns σ1)
    (hB : ∀ X : Ctx, CX Λ X → xm X = y → d ≤ (xR X).frames → 64 * d ≤ (xR X).locals → pnc σ1 ≤ xk X + (xR X).cells → pns σ1 ≤ xn X + (xR X).slots → (∀ (pc' : Nat) (L' : PL), decode (mB (xm X)) pc' = .ok (retI v, 1) → okRet (mR (xm X)) v = true → WS X pc' L' v.toList σ1) → WS X 0 (entL as) [] σ) :
    Met l (mY y) (wsM y) (cRm d (pnc σ1 - pnc σ) (pns σ1 - pns σ)) (cPc Λ D dA b0 tt as σ) (cQc D dA b0 tt v σ1) (pnc σ1 - pnc σ) (pns σ1 - pns σ) (fun q => b0 ≤ q) := by
  refine Met.ofW (cc := mB y) (maxL := mL y) (ret := mR y) (mY_plain y hy) rfl ?_
  intro p e s m args below meth c s₁ B hml hv
  obtain ⟨rfl, hH, hKN⟩ := hv
  have hts := atoms_spec (ws := wsM y) B.pre
  have hown : s.vm.findClass (mY y).cls = some m.cls := findClass_of_methodNamed B.named
  rw [mC_nm y hy] at hown
  let X : Ctx := (p, l, e, (headSpec (wsM y) (cRm d (pnc σ1 - pnc σ) (pns σ1 - pns σ))).room, s, m, (as.map (cv b0 tt)).toArray, below, meth, c, MQ below (cQc D dA b0 tt v σ1) (as.map (cv b0 tt)).toArray s (pnc σ1 - pnc σ) (pns σ1 - pns σ) (fun q => b0 ≤ q), D, dA, b0, tt, pnc σ, pns σ, y)
  have hCX : CX Λ X := ⟨B.exec, B.bytes, B.returns, hml, hown, fun w hw => hts w (List.mem_cons_of_mem _ hw), B.notSynchronized, fun hi => by
    have h1 : meth.name = (mY y).name := (name_of_methodNamed B.named B.method).1
    show meth.name = "<init>"
    rw [h1]
    exact (mY_ini y hy (Nat.eq_of_beq_eq_true hi)).1, hKN, Nat.le_of_lt hy⟩
  have hl := lv_entry (as.map (cv b0 tt)) (n := mL y) (Nat.le_trans (sl_len _) (by unfold catS; rw [catS_cv]; exact hcat))
  rw [lg_entry_eq]
  generalize (lg_sl (as.map (cv b0 tt)) ++ List.replicate (mL y - (lg_sl (as.map (cv b0 tt))).length) Slot.unset).toArray = ls at hl ⊢
  have hl2 : lv_has ls (mL (xm X)) (cvL X (entL as)) := by
    show lv_has ls (mL y) ((lv_args 0 as).map fun q => (q.1, cv b0 tt q.2))
    rw [args_cv]
    exact hl
  refine hB X hCX rfl (Nat.le_refl d) (Nat.le_refl (64 * d)) (by show pnc σ1 ≤ pnc σ + (pnc σ1 - pnc σ); omega) (by show pns σ1 ≤ pns σ + (pns σ1 - pns σ); omega) ?_ s.heap [] 0 0 ls hH va_S.rf rfl rfl hl2
  intro pc' L' hd hok H' locs' cells' slots' ls' hH' hS' hc' hs' hl'
  obtain rfl : cells' = pnc σ1 - pnc σ := by have : pnc σ1 = pnc σ + cells' := hc'; omega
  obtain rfl : slots' = pns σ1 - pns σ := by have : pns σ1 = pns σ + slots' := hs'; omega
  have hq : ∀ t : State, t.heap = H' → s.WarmedH t.vm → cQc D dA b0 tt v σ1 (as.map (cv b0 tt)).toArray s (.returned (v.map (cv b0 tt))) t := fun t ht _ => ⟨rfl, by rw [ht]; exact hH', hS'.F ht⟩
  have hlk : meth.locks = false := B.notSynchronized
  have hrt : meth.sig.returnType = mR y := B.returns
  have hok2 : okRet (mR y) v = true := hok
  have hd2 : decode (mB y) pc' = .ok (retI v, 1) := hd
  exact ret_any B.exec B.bytes hrt hok2 hq hS'.2.2 hd2 hlk
/-- behind a call -/
theorem run_go {X : Ctx} {v : Option Value} {σ1 : PSt} {H : Heap} {locs : List Loc} {cells slots mc ms pc : Nat} {ls : Array Slot} {st0 rest : List Value} {a : Array Value}
    (hr : va_Run (xp X) (xl X) (xe X) (xR X) (xs X) (xi X) (xa X) (xb X) (xh X) (xc X) H locs cells slots mc ms (F0 (xi X) pc ls st0) rest (cQc (xD X) (xA X) (xo X) (xt X) v σ1 a) (fun q => xo X ≤ q)) (hS : va_S (fun q => xo X ≤ q) (xs X).heap H locs)
    (kk : ∀ (H1 : Heap) (locs1 : List Loc), Hd (xD X) (xA X) (xo X) (xt X) σ1 H1 → va_S (fun q => xo X ≤ q) (xs X).heap H1 locs1 → W (xp X) (xl X) (xe X) (xR X) (xs X) (xi X) (xa X) (xb X) (xh X) (xc X) H1 locs1 (cells + mc) (slots + ms) (xQ X) (F0 (xi X) (pc + 3) ls ((v.map (cv (xo X) (xt X))).toList ++ rest))) :
    W (xp X) (xl X) (xe X) (xR X) (xs X) (xi X) (xa X) (xb X) (xh X) (xc X) H locs cells slots (xQ X) (F0 (xi X) pc ls st0) := by
  intro T hT Xs
  obtain ⟨v9, st₀, t, T', L, h0, X', hL, e1, e2, ⟨hv, hb, hz, hk⟩, st⟩ := hr T hT Xs
  cases hv
  rw [h0] at hz hk
  obtain ⟨t2, a1, b1⟩ := kk T'.heap (locs ++ L) (by rw [e1]; exact hb) ⟨Nat.le_trans hS.1 (by rw [e1]; exact hz), fun q h1 h2 => by rw [e1, hk q (Nat.lt_of_lt_of_le h1 hS.1) h2]; exact hS.2.1 q h1 h2, fun q hq => by
      rcases List.mem_append.mp hq with h | h
      · exact hS.2.2 q h
      · exact hL q h⟩ T' rfl X'
  exact ⟨t2, st t2 a1, b1⟩
theorem cPc_blind {Λ : PRo} {D : va_G} {dA : Nat → ClassId} {b0 : Nat} {tt : Nat → Nat} {as : List Value} {σ : PSt} : FrameBlind (cPc Λ D dA b0 tt as σ) := fun a U g mk q => by
  obtain ⟨q0, q1, q2⟩ := q
  exact ⟨q0, q1, q2.moved (u := U) (U := U.calling g mk a) (Vm.Alike.refl U.vm) q2.2.1 (fun _ _ => rfl)⟩
theorem ws_call {Λ : PRo} {X : Ctx} (C : CX Λ X) {k idx y d pc : Nat} {i : Instr} {L : PL} {as rest : List Value} {σ σ1 : PSt} {v : Option Value} (hd : decode (mB (xm X)) pc = .ok (i, 3)) (hi : k = 0 ∧ i = .invokevirtual idx ∨ k = 1 ∧ i = .invokespecial idx ∨ k = 2 ∧ i = .invokestatic idx)
    (hca : ca (mC (xm X)) idx = some y) (hkd : kdOk k y = true) (hlen : as.length = nA y) (hcr : catS rest ≤ 8) (hcat : catS as ≤ mL y) (hvo : vOk k y as σ = true) (hdf : d + 1 ≤ (xR X).frames) (hdl : 64 * (d + 1) ≤ (xR X).locals)
    (hm1 : pnc σ ≤ pnc σ1) (hm2 : pns σ ≤ pns σ1) (hr1 : pnc σ1 ≤ xk X + (xR X).cells) (hr2 : pns σ1 ≤ xn X + (xR X).slots)
    (hB : ∀ X : Ctx, CX Λ X → xm X = y → d ≤ (xR X).frames → 64 * d ≤ (xR X).locals → pnc σ1 ≤ xk X + (xR X).cells → pns σ1 ≤ xn X + (xR X).slots → (∀ (pc' : Nat) (L' : PL), decode (mB (xm X)) pc' = .ok (retI v, 1) → okRet (mR (xm X)) v = true → WS X pc' L' v.toList σ1) → WS X 0 (entL as) [] σ)
    (kk : WS X (pc + 3) L (v.toList ++ rest) σ1) : WS X pc L (as.reverse ++ rest) σ := by
  have hy : y < NM := ca_y C.mc hca
  intro H locs cells slots ls hH hS hc hs hl
  have hKN := KN.at C hS
  have hM := met_of (Λ := Λ) (l := xl X) (D := xD X) (dA := xA X) (b0 := xo X) (tt := xt X) hy hcat hm1 hm2 hB
  have hts := C.2.2.2.2.2.1
  have hclo : ((mY y).cls ≠ "java/lang/invoke/MethodHandle" ∧ (mY y).cls ≠ "java/lang/invoke/VarHandle") := mY_mh y hy
  have hroom : (cRm d (pnc σ1 - pnc σ) (pns σ1 - pns σ)).frames + 1 ≤ (xR X).frames ∧ 8 + (mL y + 11) + (cRm d (pnc σ1 - pnc σ) (pns σ1 - pns σ)).locals ≤ (xR X).locals := by
    have := mL_le y (Nat.le_of_lt hy)
    refine ⟨hdf, ?_⟩
    show 8 + (mL y + 11) + 64 * d ≤ _
    omega
  have hf : cells + (pnc σ1 - pnc σ) ≤ (xR X).cells ∧ slots + (pns σ1 - pns σ) ≤ (xR X).slots := by omega
  have hini : (Cond.initialized (mY y).cls) ∈ WALL := by rw [mC_nm y hy]; exact w_in (mC_lt y (Nat.le_of_lt hy))
  have hpre : ∀ U : State, U.heap = H → (xs X).WarmedH U.vm → cPc Λ (xD X) (xA X) (xo X) (xt X) as σ (as.map (cv (xo X) (xt X))).toArray U := fun U hU hW => ⟨rfl, by rw [hU]; exact hH, by rw [hU]; exact hKN.moved hW.alike hKN.2.1 (fun _ _ => rfl)⟩
  have hfin : ∀ (H1 : Heap) (locs1 : List Loc), Hd (xD X) (xA X) (xo X) (xt X) σ1 H1 → va_S (fun q => xo X ≤ q) (xs X).heap H1 locs1 → W (xp X) (xl X) (xe X) (xR X) (xs X) (xi X) (xa X) (xb X) (xh X) (xc X) H1 locs1 (cells + (pnc σ1 - pnc σ)) (slots + (pns σ1 - pns σ)) (xQ X) (F0 (xi X) (pc + 3) ls ((v.map (cv (xo X) (xt X))).toList ++ rest.map (cv (xo X) (xt X)))) := by
    intro H1 locs1 h1 h2
    have := kk H1 locs1 (cells + (pnc σ1 - pnc σ)) (slots + (pns σ1 - pns σ)) ls h1 h2 (by omega) (by omega) hl
    rw [List.map_append] at this
    have e : (v.toList).map (cv (xo X) (xt X)) = (v.map (cv (xo X) (xt X))).toList := by cases v <;> rfl
    rw [e] at this
    exact this
  have hstk : ((as.reverse ++ rest).map (cv (xo X) (xt X))) = (as.map (cv (xo X) (xt X))).reverse ++ rest.map (cv (xo X) (xt X)) := by rw [List.map_append, List.map_reverse]
  rw [hstk]
  have hW8 : 2 * (F0 (xi X) pc ls ((as.map (cv (xo X) (xt X))).reverse ++ rest.map (cv (xo X) (xt X)))).monitorRoom + ((rest.map (cv (xo X) (xt X))).map fun v => v.category).sum ≤ 8 := lv_room (by rw [catS_cv]; exact hcr)
  have hfix : CallFix (xp X) (xi X) (xc X) (mB (xm X)) (mL (xm X)) (xs X) (xa X) WALL (cnm (mC (xm X))) := ⟨C.1, C.2.1, C.2.2.2.1, C.2.2.2.2.1, hts⟩
  have hkq : k = mK y := Nat.eq_of_beq_eq_true hkd
  have hpar := mY_par y hy
  have hlink := w_ca C.mc hca
  have recv : ∀ (b : Value) (bs : List Value), vOk 0 y (b :: bs) σ = true → ∃ o, b = .ref o ∧ ∃ cellB : Cell, H[xo X + o]? = some cellB ∧ cellB.vm.isStatics = false ∧ (xs X).vm.findClass (mY y).cls = some cellB.cls := by
    intro b bs hv0
    match b, hv0 with
    | .ref o, hv0 =>
      refine ⟨o, rfl, ?_⟩
      have hv1 : (Nat.blt o (pnc σ) && (Nat.beq (ply σ o).1 0 && Nat.beq (ply σ o).2 (mC y))) = true := hv0
      simp only [Bool.and_eq_true] at hv1
      have ho : o < pnc σ := Nat.le_of_ble_eq_true hv1.1
      have h0 : (ply σ o).1 = 0 := Nat.eq_of_beq_eq_true hv1.2.1
      have h1 : (ply σ o).2 = mC y := Nat.eq_of_beq_eq_true hv1.2.2
      have hp : ply σ o = (0, mC y) := by rw [← h0, ← h1]
      have hat := hH.2 o ho
      rw [ent_o hp] at hat
      obtain ⟨r0, g1, cell, g2, g3, g4, -⟩ := hat
      have hci := vwCl_lt g1
      obtain rfl : r0 = (cnm (mC y), cT (mC y), nF (mC y)) := Option.some.inj (g1.symm.trans (vwCl_at hci))
      refine ⟨cell, g2, by rw [g4]; rfl, ?_⟩
      rw [mC_nm y hy, g3]
      exact (C.kn.1.1 _ _ g1).2.1
  rcases hi with ⟨hk0, rfl⟩ | ⟨hk1, rfl⟩ | ⟨hk2, rfl⟩
  · subst hk0
    have hk9 : mK y = 0 := hkq.symm
    have hn2 : ¬ mK y = 2 := by omega
    obtain ⟨hnA, -⟩ := (mY_nA y hy).1 hn2
    match as, hlen, hvo, hM, hpre with
    | [], hlen, _, _, _ => exact absurd hlen (by simp; omega)
    | b :: bs, hlen, hvo, hM, hpre =>
      obtain ⟨o, rfl, hcell⟩ := recv b bs hvo
      have hpar2 : (parseMethodDescriptor (mY y).desc).map (fun d => d.parameters.length) = some (bs.length) := by
        rw [hpar, hk9]
        show some (nA y - 1) = _
        congr 1
        simp at hlen
        omega
      have hcw : CallW (xR X) (xs X) (xa X) (cnm (mC (xm X))) (mY y).cls idx (mY y) (mB y) (mL y) (mR y) (wsM y) (cRm d (pnc σ1 - pnc σ) (pns σ1 - pns σ)) (pnc σ1 - pnc σ) (pns σ1 - pns σ) bs.length :=
        cwV bs.length hts (good_wall (fun w hw => by
          rcases List.mem_append.mp hw with h | h
          · simp only [List.mem_cons, List.not_mem_nil, or_false] at h
            rcases h with rfl | rfl | rfl | rfl
            · exact hlink
            · exact w_im hy hn2
            · exact w_sel hy hk9
            · exact hini
          · exact wsM_in hy w h)) rfl rfl rfl ⟨rfl, hclo.1, hclo.2, hpar2⟩ hroom
      refine run_go (X := X) (st0 := ((Value.ref o :: bs).map (cv (xo X) (xt X))).reverse ++ rest.map (cv (xo X) (xt X))) (va_runV (As := bs.map (cv (xo X) (xt X))) (rest := rest.map (cv (xo X) (xt X))) (b := xo X + o) hfix hM hcw ⟨cPc_blind, hcell, hpre⟩ rfl (by simp) hl.1 ?_ hW8 hd hf) hS hfin
      show ((Value.ref o :: bs).map (cv (xo X) (xt X))).reverse ++ rest.map (cv (xo X) (xt X)) = _
      simp [cv]
  · subst hk1
    have hk9 : mK y = 1 := hkq.symm
    have hn2 : ¬ mK y = 2 := by omega
    obtain ⟨hnA, -⟩ := (mY_nA y hy).1 hn2
    obtain ⟨hnm, hret⟩ := mY_ini y hy hk9
    match as, hlen, hvo, hM, hpre with
    | [], hlen, _, _, _ => exact absurd hlen (by simp; omega)
    | b :: bs, hlen, hvo, hM, hpre =>
      obtain ⟨o, rfl, hcell⟩ := recv b bs hvo
      have hpar2 : (parseMethodDescriptor (mY y).desc).map (fun d => d.parameters.length) = some (bs.length) := by
        rw [hpar, hk9]
        show some (nA y - 1) = _
        congr 1
        simp at hlen
        omega
      have hw9 : wsM y = Cond.code (mY y) (mB y) (mL y) none :: WALL := by
        show Cond.code (mY y) (mB y) (mL y) (mR y) :: WALL = _
        rw [hret]
      refine run_go (X := X) (st0 := ((Value.ref o :: bs).map (cv (xo X) (xt X))).reverse ++ rest.map (cv (xo X) (xt X))) (va_runI (As := bs.map (cv (xo X) (xt X))) (rest := rest.map (cv (xo X) (xt X))) (b := xo X + o) hfix hM (cwI bs.length hts (good_wall (wsM_in hy)) hw9 rfl rfl (hts _ hini) (hts _ hlink) (hts _ (w_im hy hn2)) hnm ⟨hclo.1, hclo.2, hpar2⟩ hroom) ⟨cPc_blind, hpre⟩ rfl (by simp) hl.1 ?_ hW8 hd hf) hS hfin
      show ((Value.ref o :: bs).map (cv (xo X) (xt X))).reverse ++ rest.map (cv (xo X) (xt X)) = _
      simp [cv]
  · subst hk2
    have hk9 : mK y = 2 := hkq.symm
    have hpar2 : (parseMethodDescriptor (mY y).desc).map (fun d => d.parameters.length) = some (as.length) := by
      rw [hpar, hk9]
      show some (nA y) = _
      rw [hlen]
    exact run_go (X := X) (va_runS (As := as.map (cv (xo X) (xt X))) (rest := rest.map (cv (xo X) (xt X))) hfix hM (va_cwS as.length hts (good_wall (fun w hw => by
          rcases List.mem_append.mp hw with h | h
          · simp only [List.mem_cons, List.not_mem_nil, or_false] at h
            rcases h with rfl | rfl | rfl
            · exact hlink
            · exact w_st hy hk9
            · exact hini
          · exact wsM_in hy w h)) rfl rfl rfl ⟨hclo.1, hclo.2, hpar2⟩ hroom) ⟨cPc_blind, hpre⟩ rfl (by simp) hl.1 rfl hW8 hd hf) hS hfin
end
section
/-! ===== System.arraycopy, Math.max, Math.min, Object.<init> ===== -/
set_option maxHeartbeats 4000000 in
theorem ws_cpyI {Λ : PRo} {X : Ctx} (C : CX Λ X) {idx pc : Nat} {L : PL} {sp dp n : Int32} {a b : Nat} {r : List Value} {σ : PSt} (hd : decode (mB (xm X)) pc = .ok (.invokestatic idx, 3)) (hac : ac (mC (xm X)) idx = true) (hfr : 1 ≤ (xR X).frames) (hlo : 64 ≤ (xR X).locals) (hcr : catS r ≤ 8)
    (ha : a < pnc σ) (hb : b < pnc σ) (hta : (ply σ a).1 = 1) (htb : (ply σ b).1 = 1) (h1 : ¬ sp < 0) (h2 : ¬ dp < 0) (h3 : ¬ n < 0) (h4 : sp.toNatClampNeg + n.toNatClampNeg ≤ (ply σ a).2) (h5 : dp.toNatClampNeg + n.toNatClampNeg ≤ (ply σ b).2)
    (kk : WS X (pc + 3) L r (riv σ b (va_cpy (piv σ a) (piv σ b) sp.toNatClampNeg dp.toNatClampNeg n.toNatClampNeg))) : WS X pc L (.int n :: .int dp :: .ref b :: .int sp :: .ref a :: r) σ := by
  intro H locs cells slots ls hH hS hc hs hl
  have nn : ∀ z : Int32, ¬ z < 0 → z.toInt = (z.toNatClampNeg : Int) := by
    intro z hz
    have hz0 : (0 : Int) ≤ z.toInt := by
      have := Int32.not_lt.mp hz
      simpa using Int32.le_iff_toInt_le.mp this
    show z.toInt = ((z.toInt.toNat : Nat) : Int)
    omega
  have hata := hH.2 a ha
  rw [ent_a hta (by decide)] at hata
  have hc0 : H[xo X + a]? = some (vp_cell (xA X 1) ((ply σ a).2, .inl (piv σ a))) := hata
  have hatb := hH.2 b hb
  rw [ent_a htb (by decide)] at hatb
  have hc1 : H[xo X + b]? = some (vp_cell (xA X 1) ((ply σ b).2, .inl (piv σ b))) := hatb
  have hK := (C.kn.1.2 0 _ rfl).1
  obtain ⟨-, k0, hk0, cm0, hkk0⟩ := hK (ply σ a).2 (fun j => .int (piv σ a j))
  have hts := C.2.2.2.2.2.1
  have h40 : nativeFrameWords "java/lang/System" "arraycopy" 5 ≤ 40 := by decide +kernel
  intro T hT Xs
  obtain ⟨vm', X', step⟩ := Xs.arraycopy C.1 C.2.2.2.2.1 (hts _ (w_ac C.mc hac)) (hts _ (w_ex (w := .native arraycopyName) (by decide +kernel) rfl)) (hts _ (w_ex (w := .static arraycopyName) (by decide +kernel) rfl)) (hts _ (w_ex (w := .initialized "java/lang/System") (by decide +kernel) rfl)) (src := xo X + a) (dst := xo X + b) (cs := vp_cell (xA X 1) ((ply σ a).2, .inl (piv σ a))) (cd := vp_cell (xA X 1) ((ply σ b).2, .inl (piv σ b))) (srcPos := sp) (destPos := dp) (n := n) (by rw [hT]; exact hc0) (by rw [hT]; exact hc1)
    (fun _ h => by cases h) (fun _ h => by cases h) (fun h => by cases h) (fun h => by cases h) hk0 hk0 hkk0 hkk0 (by simp [refKind]) h1 h2 h3
    (by rw [nn sp h1, nn n h3]; show ¬ _ > ((arrV (xA X 1) (ply σ a).2 (fun j => .int (piv σ a j))).slots.size : Int); rw [arrV_size]; omega)
    (by rw [nn dp h2, nn n h3]; show ¬ _ > ((arrV (xA X 1) (ply σ b).2 (fun j => .int (piv σ b j))).slots.size : Int); rw [arrV_size]; omega)
    (fun vm₁ _ i hi => by
      have e : (vp_cell (xA X 1) ((ply σ a).2, .inl (piv σ a))).slots.getD (sp.toNatClampNeg + i) .null = .int (piv σ a (sp.toNatClampNeg + i)) := by
        show (arrV (xA X 1) (ply σ a).2 (fun j => .int (piv σ a j))).slots.getD _ _ = _
        rw [Array.getD_eq_getD_getElem?, arrV_read _ _ (by omega)]
        rfl
      refine ⟨?_, ?_⟩
      · rw [e]
        rfl
      · rw [e]
        exact trivial)
    (g := F0 (xi X) pc ls (.int n :: .int dp :: .ref (xo X + b) :: .int sp :: .ref (xo X + a) :: r.map (cv (xo X) (xt X)))) rfl (by rw [C.2.2.2.1]; exact hl.1) (rest := r.map (cv (xo X) (xt X))) rfl (by rw [C.2.1]; exact hd) hfr (by show 2 * 0 + _ + _ ≤ _; rw [catS_cv]; omega)
  have e1 : copied (vp_cell (xA X 1) ((ply σ a).2, .inl (piv σ a))) (vp_cell (xA X 1) ((ply σ b).2, .inl (piv σ b))) sp dp n = vp_cell (xA X 1) ((ply σ b).2, .inl (va_cpy (piv σ a) (piv σ b) sp.toNatClampNeg dp.toNatClampNeg n.toNatClampNeg)) := va_copied (fun z => .int z) (xA X 1) (xA X 1) (piv σ a) (piv σ b) h4
  rw [e1] at X' step
  have hlt : xo X + b < H.size := (Array.getElem?_eq_some_iff.mp hc1).1
  generalize hcell : vp_cell (xA X 1) ((ply σ b).2, .inl (va_cpy (piv σ a) (piv σ b) sp.toNatClampNeg dp.toNatClampNeg n.toNatClampNeg)) = cl at X' step
  have hheap : ((T.setVm vm').setCell (xo X + b) cl).heap = H.setIfInBounds (xo X + b) cl := by rw [← hT]; rfl
  have oq : ∀ q : Nat, q ≠ xo X + b → (H.setIfInBounds (xo X + b) cl)[q]? = H[q]? := fun q hq => by simp [Array.getElem?_setIfInBounds, Ne.symm hq]
  obtain ⟨t, a1, b1⟩ := kk _ (locs ++ _) cells slots ls (hH.upd (τ := riv σ b (va_cpy (piv σ a) (piv σ b) sp.toNatClampNeg dp.toNatClampNeg n.toNatClampNeg)) (k := b) (H1 := H.setIfInBounds (xo X + b) cl) rfl (by simp) oq (fun j hj => ent_congr rfl rfl (up1_n hj) rfl) (by
      rw [ent_a (show (ply (riv σ b _) b).1 = 1 from htb) (by decide)]
      show (H.setIfInBounds (xo X + b) cl)[xo X + b]? = some (vp_cell (xA X 1) ((ply σ b).2, .inl (up1 (piv σ) b _ b)))
      rw [up1_s, hcell]
      simp [Array.getElem?_setIfInBounds, hlt])) ⟨by simp; exact hS.1, fun q g1 g2 => by
      rw [oq q (fun e => g2 (by show xo X ≤ q; omega))]
      exact hS.2.1 q g1 g2, fun q hq => by
      rcases List.mem_append.mp hq with h | h
      · exact hS.2.2 q h
      · obtain ⟨z, -, hz⟩ := List.mem_map.mp h
        rw [← hz]
        show xo X ≤ xo X + b
        omega⟩ hc hs hl _ hheap X'
  exact ⟨t, step t a1, b1⟩
set_option maxHeartbeats 4000000 in
theorem ws_cpyL {Λ : PRo} {X : Ctx} (C : CX Λ X) {idx pc : Nat} {L : PL} {sp dp n : Int32} {a b : Nat} {r : List Value} {σ : PSt} (hd : decode (mB (xm X)) pc = .ok (.invokestatic idx, 3)) (hac : ac (mC (xm X)) idx = true) (hfr : 1 ≤ (xR X).frames) (hlo : 64 ≤ (xR X).locals) (hcr : catS r ≤ 8)
    (ha : a < pnc σ) (hb : b < pnc σ) (hta : (ply σ a).1 = 4) (htb : (ply σ b).1 = 4) (h1 : ¬ sp < 0) (h2 : ¬ dp < 0) (h3 : ¬ n < 0) (h4 : sp.toNatClampNeg + n.toNatClampNeg ≤ (ply σ a).2) (h5 : dp.toNatClampNeg + n.toNatClampNeg ≤ (ply σ b).2)
    (kk : WS X (pc + 3) L r (rlv σ b (va_cpy (plv σ a) (plv σ b) sp.toNatClampNeg dp.toNatClampNeg n.toNatClampNeg))) : WS X pc L (.int n :: .int dp :: .ref b :: .int sp :: .ref a :: r) σ := by
  intro H locs cells slots ls hH hS hc hs hl
  have nn : ∀ z : Int32, ¬ z < 0 → z.toInt = (z.toNatClampNeg : Int) := by
    intro z hz
    have hz0 : (0 : Int) ≤ z.toInt := by
      have := Int32.not_lt.mp hz
      simpa using Int32.le_iff_toInt_le.mp this
    show z.toInt = ((z.toInt.toNat : Nat) : Int)
    omega
  have hata := hH.2 a ha
  rw [ent_a hta (by decide)] at hata
  have hc0 : H[xo X + a]? = some (vp_cell (xA X 4) ((ply σ a).2, .inr (.inl (plv σ a)))) := hata
  have hatb := hH.2 b hb
  rw [ent_a htb (by decide)] at hatb
  have hc1 : H[xo X + b]? = some (vp_cell (xA X 4) ((ply σ b).2, .inr (.inl (plv σ b)))) := hatb
  have hK := (C.kn.1.2 3 _ rfl).1
  obtain ⟨-, k0, hk0, cm0, hkk0⟩ := hK (ply σ a).2 (fun j => .long (plv σ a j))
  have hts := C.2.2.2.2.2.1
  have h40 : nativeFrameWords "java/lang/System" "arraycopy" 5 ≤ 40 := by decide +kernel
  intro T hT Xs
  obtain ⟨vm', X', step⟩ := Xs.arraycopy C.1 C.2.2.2.2.1 (hts _ (w_ac C.mc hac)) (hts _ (w_ex (w := .native arraycopyName) (by decide +kernel) rfl)) (hts _ (w_ex (w := .static arraycopyName) (by decide +kernel) rfl)) (hts _ (w_ex (w := .initialized "java/lang/System") (by decide +kernel) rfl)) (src := xo X + a) (dst := xo X + b) (cs := vp_cell (xA X 4) ((ply σ a).2, .inr (.inl (plv σ a)))) (cd := vp_cell (xA X 4) ((ply σ b).2, .inr (.inl (plv σ b)))) (srcPos := sp) (destPos := dp) (n := n) (by rw [hT]; exact hc0) (by rw [hT]; exact hc1)
    (fun _ h => by cases h) (fun _ h => by cases h) (fun h => by cases h) (fun h => by cases h) hk0 hk0 hkk0 hkk0 (by simp [refKind]) h1 h2 h3
    (by rw [nn sp h1, nn n h3]; show ¬ _ > ((arrV (xA X 4) (ply σ a).2 (fun j => .long (plv σ a j))).slots.size : Int); rw [arrV_size]; omega)
    (by rw [nn dp h2, nn n h3]; show ¬ _ > ((arrV (xA X 4) (ply σ b).2 (fun j => .long (plv σ b j))).slots.size : Int); rw [arrV_size]; omega)
    (fun vm₁ _ i hi => by
      have e : (vp_cell (xA X 4) ((ply σ a).2, .inr (.inl (plv σ a)))).slots.getD (sp.toNatClampNeg + i) .null = .long (plv σ a (sp.toNatClampNeg + i)) := by
        show (arrV (xA X 4) (ply σ a).2 (fun j => .long (plv σ a j))).slots.getD _ _ = _
        rw [Array.getD_eq_getD_getElem?, arrV_read _ _ (by omega)]
        rfl
      refine ⟨?_, ?_⟩
      · rw [e]
        rfl
      · rw [e]
        exact trivial)
    (g := F0 (xi X) pc ls (.int n :: .int dp :: .ref (xo X + b) :: .int sp :: .ref (xo X + a) :: r.map (cv (xo X) (xt X)))) rfl (by rw [C.2.2.2.1]; exact hl.1) (rest := r.map (cv (xo X) (xt X))) rfl (by rw [C.2.1]; exact hd) hfr (by show 2 * 0 + _ + _ ≤ _; rw [catS_cv]; omega)
  have e1 : copied (vp_cell (xA X 4) ((ply σ a).2, .inr (.inl (plv σ a)))) (vp_cell (xA X 4) ((ply σ b).2, .inr (.inl (plv σ b)))) sp dp n = vp_cell (xA X 4) ((ply σ b).2, .inr (.inl (va_cpy (plv σ a) (plv σ b) sp.toNatClampNeg dp.toNatClampNeg n.toNatClampNeg))) := va_copied (fun z => .long z) (xA X 4) (xA X 4) (plv σ a) (plv σ b) h4
  rw [e1] at X' step
  have hlt : xo X + b < H.size := (Array.getElem?_eq_some_iff.mp hc1).1
  generalize hcell : vp_cell (xA X 4) ((ply σ b).2, .inr (.inl (va_cpy (plv σ a) (plv σ b) sp.toNatClampNeg dp.toNatClampNeg n.toNatClampNeg))) = cl at X' step
  have hheap : ((T.setVm vm').setCell (xo X + b) cl).heap = H.setIfInBounds (xo X + b) cl := by rw [← hT]; rfl
  have oq : ∀ q : Nat, q ≠ xo X + b → (H.setIfInBounds (xo X + b) cl)[q]? = H[q]? := fun q hq => by simp [Array.getElem?_setIfInBounds, Ne.symm hq]
  obtain ⟨t, a1, b1⟩ := kk _ (locs ++ _) cells slots ls (hH.upd (τ := rlv σ b (va_cpy (plv σ a) (plv σ b) sp.toNatClampNeg dp.toNatClampNeg n.toNatClampNeg)) (k := b) (H1 := H.setIfInBounds (xo X + b) cl) rfl (by simp) oq (fun j hj => ent_congr rfl rfl rfl (up1_n hj)) (by
      rw [ent_a (show (ply (rlv σ b _) b).1 = 4 from htb) (by decide)]
      show (H.setIfInBounds (xo X + b) cl)[xo X + b]? = some (vp_cell (xA X 4) ((ply σ b).2, .inr (.inl (up1 (plv σ) b _ b))))
      rw [up1_s, hcell]
      simp [Array.getElem?_setIfInBounds, hlt])) ⟨by simp; exact hS.1, fun q g1 g2 => by
      rw [oq q (fun e => g2 (by show xo X ≤ q; omega))]
      exact hS.2.1 q g1 g2, fun q hq => by
      rcases List.mem_append.mp hq with h | h
      · exact hS.2.2 q h
      · obtain ⟨z, -, hz⟩ := List.mem_map.mp h
        rw [← hz]
        show xo X ≤ xo X + b
        omega⟩ hc hs hl _ hheap X'
  exact ⟨t, step t a1, b1⟩
theorem ws_oi {Λ : PRo} {X : Ctx} (C : CX Λ X) {idx pc o : Nat} {L : PL} {r : List Value} {σ : PSt} (hd : decode (mB (xm X)) pc = .ok (.invokespecial idx, 3)) (hoi : oi (mC (xm X)) idx = true) (hfr : 1 ≤ (xR X).frames) (hlo : 64 ≤ (xR X).locals) (hcr : catS r ≤ 8) (kk : WS X (pc + 3) L r σ) : WS X pc L (.ref o :: r) σ := by
  intro H locs cells slots ls hH hS hc hs hl
  have hts := C.2.2.2.2.2.1
  refine W.objInit C.1 C.2.1 C.2.2.2.2.1 (hts _ (w_oi C.mc hoi)) (hts _ (w_ex (w := .instanceMethod objectInit) (by decide +kernel) rfl)) (hts _ (w_code0 (m := 9999) (by decide +kernel) rfl rfl)) rfl (by rw [C.2.2.2.1]; exact hl.1) rfl hd hfr (by show 2 * 0 + _ + 12 ≤ _; rw [catS_cv]; omega) ?_
  exact kk H locs cells slots ls hH hS hc hs hl
theorem ws_mm {Λ : PRo} {X : Ctx} (C : CX Λ X) {idx pc j : Nat} {L : PL} {st st1 : List Value} {σ : PSt} (hd : decode (mB (xm X)) pc = .ok (.invokestatic idx, 3)) (hmm : mm (mC (xm X)) idx = some j) (h : oMM j st = some st1) (hfr : 1 ≤ (xR X).frames) (hlo : 64 ≤ (xR X).locals) (hr1 : pnc σ ≤ xk X + (xR X).cells) (hr2 : pns σ ≤ xn X + (xR X).slots) (kk : WS X (pc + 3) L st1 σ) : WS X pc L st σ := by
  intro H locs cells slots ls hH hS hc hs hl
  have hts := C.2.2.2.2.2.1
  unfold oMM at h
  split at h
  next y x r =>
    split at h
    next hcr =>
      cases h
      have k2 := kk H locs cells slots ls hH hS hc hs hl
      have hlink := hts _ (w_mm C.mc hmm)
      rcases mm_01 _ C.mc _ (lkp_in hmm) with e | e
      · have e : j = 0 := e
        subst e
        exact va_mmax C.1 C.2.1 (by rw [C.2.2.2.1]; exact hl.1.symm) C.2.2.2.2.1 hlink (hts _ (w_ex (w := .static Lib.Math.max.name) (by decide +kernel) rfl)) (hts _ (w_ex (w := .initialized "java/lang/Math") (by decide +kernel) rfl)) (hts _ (w_code0 (m := 9998) (by decide +kernel) rfl rfl)) hfr (by rw [catS_cv]; omega) (by omega) (by omega) hd k2
      · have e : j = 1 := e
        subst e
        exact va_mmin C.1 C.2.1 (by rw [C.2.2.2.1]; exact hl.1.symm) C.2.2.2.2.1 hlink (hts _ (w_ex (w := .static Lib.Math.min.name) (by decide +kernel) rfl)) (hts _ (w_ex (w := .initialized "java/lang/Math") (by decide +kernel) rfl)) (hts _ (w_code0 (m := 9997) (by decide +kernel) rfl rfl)) hfr (by rw [catS_cv]; omega) (by omega) (by omega) hd k2
    next => cases h
  next => cases h
theorem pS_mono {Λ : PRo} {ini : Bool} {c pc pc' : Nat} {σ : PSt} {i : Instr} {st : List Value} {pc2 : Nat} {st2 : List Value} {σ2 : PSt} (h : pS Λ ini c pc pc' σ i st = some (pc2, st2, σ2)) : pnc σ ≤ pnc σ2 ∧ pns σ ≤ pns σ2 := by
  have hid : ∀ {q : Nat × List Value × PSt}, (q = (pc2, st2, σ2)) → q.2.2 = σ → pnc σ ≤ pnc σ2 ∧ pns σ ≤ pns σ2 := by
    intro q h1 h2
    subst h1
    have h2 : σ2 = σ := h2
    subst h2
    exact ⟨Nat.le_refl _, Nat.le_refl _⟩
  cases i
  case putfield k =>
    obtain ⟨v, ob, r, ci, f, τ, rfl, hfl, ho, hp, hf, hfin, hv, e⟩ := oPut_i h
    cases e
    obtain ⟨i1, i2, -⟩ := pval_i hv
    omega
  case iastore => obtain ⟨x, i, ob, r, rfl, hh, e⟩ := oStI_i h; cases e; exact ⟨Nat.le_refl _, Nat.le_refl _⟩
  case bastore => obtain ⟨x, i, ob, r, rfl, hh, e⟩ := oStI_i h; cases e; exact ⟨Nat.le_refl _, Nat.le_refl _⟩
  case sastore => obtain ⟨x, i, ob, r, rfl, hh, e⟩ := oStI_i h; cases e; exact ⟨Nat.le_refl _, Nat.le_refl _⟩
  case lastore => obtain ⟨x, i, ob, r, rfl, hh, e⟩ := oStL_i h; cases e; exact ⟨Nat.le_refl _, Nat.le_refl _⟩
  case newarray at_ =>
    obtain ⟨n, r, rfl, hh, e⟩ := oNewA_i h
    cases e
    exact ⟨Nat.le_succ _, Nat.le_add_right _ _⟩
  case new k =>
    obtain ⟨ci, hci, e⟩ := Option.map_eq_some_iff.mp h
    cases e
    exact ⟨Nat.le_succ _, Nat.le_add_right _ _⟩
  case multianewarray k dm =>
    unfold pS at h
    dsimp only at h
    split at h
    next hdm =>
      obtain ⟨t, ht, h2⟩ := Option.bind_eq_some_iff.mp h
      obtain ⟨kx, n, r, rfl, hh, e⟩ := oMna_i h2
      cases e
      obtain ⟨q1, q2, -⟩ := mkrows_spec (if t = 5 then 1 else 4) kx.toNatClampNeg n.toNatClampNeg (wrr (mkc σ t n.toNatClampNeg n.toNatClampNeg) (pnc σ) (fun i => if i < n.toNatClampNeg then some (pnc σ + 1 + i) else none))
      have z1 : pnc (wrr (mkc σ t n.toNatClampNeg n.toNatClampNeg) (pnc σ) (fun i => if i < n.toNatClampNeg then some (pnc σ + 1 + i) else none)) = pnc σ + 1 := rfl
      have z2 : pns (wrr (mkc σ t n.toNatClampNeg n.toNatClampNeg) (pnc σ) (fun i => if i < n.toNatClampNeg then some (pnc σ + 1 + i) else none)) = pns σ + n.toNatClampNeg := rfl
      rw [q1, q2, z1, z2]
      omega
    next => cases h
  case iconst n => cases h; exact ⟨Nat.le_refl _, Nat.le_refl _⟩
  case bipush n => cases h; exact ⟨Nat.le_refl _, Nat.le_refl _⟩
  case sipush n => cases h; exact ⟨Nat.le_refl _, Nat.le_refl _⟩
  case lconst n => cases h; exact ⟨Nat.le_refl _, Nat.le_refl _⟩
  case ldc_w k => obtain ⟨v, hv, e⟩ := Option.map_eq_some_iff.mp h; cases e; exact ⟨Nat.le_refl _, Nat.le_refl _⟩
  case ldc2_w k => obtain ⟨v, hv, e⟩ := Option.map_eq_some_iff.mp h; cases e; exact ⟨Nat.le_refl _, Nat.le_refl _⟩
  case getstatic k => obtain ⟨v, hv, e⟩ := Option.map_eq_some_iff.mp h; cases e; exact ⟨Nat.le_refl _, Nat.le_refl _⟩
  case goto k => obtain ⟨v, hv, e⟩ := Option.map_eq_some_iff.mp h; cases e; exact ⟨Nat.le_refl _, Nat.le_refl _⟩
  case getfield k => obtain ⟨ob, r, ci, f, rfl, hfl, ho, hp, hf, e⟩ := oGet_i h; cases e; exact ⟨Nat.le_refl _, Nat.le_refl _⟩
  case iadd => obtain ⟨x, y, r, rfl, e⟩ := oI2_i h; cases e; exact ⟨Nat.le_refl _, Nat.le_refl _⟩
  case isub => obtain ⟨x, y, r, rfl, e⟩ := oI2_i h; cases e; exact ⟨Nat.le_refl _, Nat.le_refl _⟩
  case imul => obtain ⟨x, y, r, rfl, e⟩ := oI2_i h; cases e; exact ⟨Nat.le_refl _, Nat.le_refl _⟩
  case iand => obtain ⟨x, y, r, rfl, e⟩ := oI2_i h; cases e; exact ⟨Nat.le_refl _, Nat.le_refl _⟩
  case ior => obtain ⟨x, y, r, rfl, e⟩ := oI2_i h; cases e; exact ⟨Nat.le_refl _, Nat.le_refl _⟩
  case ixor => obtain ⟨x, y, r, rfl, e⟩ := oI2_i h; cases e; exact ⟨Nat.le_refl _, Nat.le_refl _⟩
  case ishl => obtain ⟨x, y, r, rfl, e⟩ := oI2_i h; cases e; exact ⟨Nat.le_refl _, Nat.le_refl _⟩
  case ishr => obtain ⟨x, y, r, rfl, e⟩ := oI2_i h; cases e; exact ⟨Nat.le_refl _, Nat.le_refl _⟩
  case iushr => obtain ⟨x, y, r, rfl, e⟩ := oI2_i h; cases e; exact ⟨Nat.le_refl _, Nat.le_refl _⟩
  case idiv => obtain ⟨x, y, r, rfl, hne, e⟩ := oD2_i h; cases e; exact ⟨Nat.le_refl _, Nat.le_refl _⟩
  case irem => obtain ⟨x, y, r, rfl, hne, e⟩ := oD2_i h; cases e; exact ⟨Nat.le_refl _, Nat.le_refl _⟩
  case ineg => obtain ⟨x, r, rfl, e⟩ := oI1_i h; cases e; exact ⟨Nat.le_refl _, Nat.le_refl _⟩
  case i2b => obtain ⟨x, r, rfl, e⟩ := oI1_i h; cases e; exact ⟨Nat.le_refl _, Nat.le_refl _⟩
  case i2s => obtain ⟨x, r, rfl, e⟩ := oI1_i h; cases e; exact ⟨Nat.le_refl _, Nat.le_refl _⟩
  case ladd => obtain ⟨x, y, r, rfl, e⟩ := oL2_i h; cases e; exact ⟨Nat.le_refl _, Nat.le_refl _⟩
  case lsub => obtain ⟨x, y, r, rfl, e⟩ := oL2_i h; cases e; exact ⟨Nat.le_refl _, Nat.le_refl _⟩
  case lmul => obtain ⟨x, y, r, rfl, e⟩ := oL2_i h; cases e; exact ⟨Nat.le_refl _, Nat.le_refl _⟩
  case land => obtain ⟨x, y, r, rfl, e⟩ := oL2_i h; cases e; exact ⟨Nat.le_refl _, Nat.le_refl _⟩
  case lor => obtain ⟨x, y, r, rfl, e⟩ := oL2_i h; cases e; exact ⟨Nat.le_refl _, Nat.le_refl _⟩
  case ldiv => obtain ⟨x, y, r, rfl, hne, e⟩ := oE2_i h; cases e; exact ⟨Nat.le_refl _, Nat.le_refl _⟩
  case lrem => obtain ⟨x, y, r, rfl, hne, e⟩ := oE2_i h; cases e; exact ⟨Nat.le_refl _, Nat.le_refl _⟩
  case i2l =>
    unfold pS at h
    dsimp only at h
    split at h
    · cases h; exact ⟨Nat.le_refl _, Nat.le_refl _⟩
    · cases h
  case l2i =>
    unfold pS at h
    dsimp only at h
    split at h
    · cases h; exact ⟨Nat.le_refl _, Nat.le_refl _⟩
    · cases h
  case lcmp =>
    unfold pS at h
    dsimp only at h
    split at h
    · cases h; exact ⟨Nat.le_refl _, Nat.le_refl _⟩
    · cases h
  case lshl =>
    unfold pS at h
    dsimp only at h
    split at h
    · cases h; exact ⟨Nat.le_refl _, Nat.le_refl _⟩
    · cases h
  case dup =>
    unfold pS at h
    dsimp only at h
    split at h
    · split at h
      · cases h; exact ⟨Nat.le_refl _, Nat.le_refl _⟩
      · cases h
    · cases h
  case dup2 =>
    unfold pS at h
    dsimp only at h
    split at h
    · split at h
      · cases h; exact ⟨Nat.le_refl _, Nat.le_refl _⟩
      · cases h
    · cases h
  case pop =>
    unfold pS at h
    dsimp only at h
    split at h
    · split at h
      · cases h; exact ⟨Nat.le_refl _, Nat.le_refl _⟩
      · cases h
    · cases h
  case ifCond cc off =>
    unfold pS at h
    dsimp only at h
    split at h
    · obtain ⟨v, hv, e⟩ := Option.map_eq_some_iff.mp h; cases e; exact ⟨Nat.le_refl _, Nat.le_refl _⟩
    · cases h
  case if_icmp cc off =>
    unfold pS at h
    dsimp only at h
    split at h
    · obtain ⟨v, hv, e⟩ := Option.map_eq_some_iff.mp h; cases e; exact ⟨Nat.le_refl _, Nat.le_refl _⟩
    · cases h
  case tableswitch dd lo hi offs =>
    unfold pS at h
    dsimp only at h
    split at h
    · split at h
      · obtain ⟨v, hv, e⟩ := Option.map_eq_some_iff.mp h; cases e; exact ⟨Nat.le_refl _, Nat.le_refl _⟩
      · obtain ⟨off, ho, h2⟩ := Option.bind_eq_some_iff.mp h
        obtain ⟨v, hv, e⟩ := Option.map_eq_some_iff.mp h2; cases e; exact ⟨Nat.le_refl _, Nat.le_refl _⟩
    · cases h
  case lookupswitch dd ps =>
    unfold pS at h
    dsimp only at h
    split at h
    · split at h
      · obtain ⟨v, hv, e⟩ := Option.map_eq_some_iff.mp h; cases e; exact ⟨Nat.le_refl _, Nat.le_refl _⟩
      · cases h
    · cases h
  case iaload => rcases oLdI_i h with ⟨i, ob, r, rfl, hh, e⟩ | ⟨i, ob, r, rfl, hh, e⟩ <;> (cases e; exact ⟨Nat.le_refl _, Nat.le_refl _⟩)
  case baload => rcases oLdI_i h with ⟨i, ob, r, rfl, hh, e⟩ | ⟨i, ob, r, rfl, hh, e⟩ <;> (cases e; exact ⟨Nat.le_refl _, Nat.le_refl _⟩)
  case saload => rcases oLdI_i h with ⟨i, ob, r, rfl, hh, e⟩ | ⟨i, ob, r, rfl, hh, e⟩ <;> (cases e; exact ⟨Nat.le_refl _, Nat.le_refl _⟩)
  case laload => obtain ⟨i, ob, r, rfl, hh, e⟩ := oLdL_i h; cases e; exact ⟨Nat.le_refl _, Nat.le_refl _⟩
  case aaload => obtain ⟨i, ob, r, j, rfl, hh, hj, e⟩ := oLdA_i h; cases e; exact ⟨Nat.le_refl _, Nat.le_refl _⟩
  case arraylength => rcases oLen_i h with ⟨ob, r, rfl, hh, e⟩ | ⟨ob, r, rfl, hh, e⟩ <;> (cases e; exact ⟨Nat.le_refl _, Nat.le_refl _⟩)
  all_goals (have h2 : (none : PO) = some (pc2, st2, σ2) := h; cases h2)
end
section
/-! ===== THE RUN ===== -/
theorem oCpy_i {st : List Value} {σ : PSt} {q : List Value × PSt} (h : oCpy st σ = some q) : ∃ n dp b sp a r, st = .int n :: .int dp :: .ref b :: .int sp :: .ref a :: r ∧ (a < pnc σ ∧ b < pnc σ ∧ (ply σ a).1 = (ply σ b).1 ∧ ¬ sp < 0 ∧ ¬ dp < 0 ∧ ¬ n < 0 ∧ sp.toNatClampNeg + n.toNatClampNeg ≤ (ply σ a).2 ∧ dp.toNatClampNeg + n.toNatClampNeg ≤ (ply σ b).2 ∧ catS r ≤ 8) ∧
    ((ply σ a).1 = 1 ∧ q = (r, riv σ b (va_cpy (piv σ a) (piv σ b) sp.toNatClampNeg dp.toNatClampNeg n.toNatClampNeg)) ∨ (ply σ a).1 = 4 ∧ q = (r, rlv σ b (va_cpy (plv σ a) (plv σ b) sp.toNatClampNeg dp.toNatClampNeg n.toNatClampNeg))) := by
  unfold oCpy at h
  split at h
  · split at h
    next hh =>
      split at h
      next h1 => cases h; exact ⟨_, _, _, _, _, _, rfl, hh, Or.inl ⟨h1, rfl⟩⟩
      next =>
        split at h
        next h4 => cases h; exact ⟨_, _, _, _, _, _, rfl, hh, Or.inr ⟨h4, rfl⟩⟩
        next => cases h
    next => cases h
  · cases h
def Goal9 (Λ : PRo) (d m pc : Nat) (L : PL) (st : List Value) (σ : PSt) (v : Option Value) (σ1 : PSt) : Prop :=
  (pnc σ ≤ pnc σ1 ∧ pns σ ≤ pns σ1) ∧ ∀ X : Ctx, CX Λ X → xm X = m → d ≤ (xR X).frames → 64 * d ≤ (xR X).locals → pnc σ1 ≤ xk X + (xR X).cells → pns σ1 ≤ xn X + (xR X).slots →
    (∀ (pc' : Nat) (L' : PL), decode (mB (xm X)) pc' = .ok (retI v, 1) → okRet (mR (xm X)) v = true → WS X pc' L' v.toList σ1) → WS X pc L st σ
set_option maxHeartbeats 4000000 in
theorem MT (Λ : PRo) : ∀ (n d m pc : Nat) (L : PL) (st : List Value) (σ : PSt) (v : Option Value) (σ1 : PSt), prun Λ n d m pc L st σ = some (v, σ1) → Goal9 Λ d m pc L st σ v σ1 := by
  intro n
  induction n with
  | zero => intro d m pc L st σ v σ1 h; cases h
  | succ n ih =>
    intro d m pc L st σ v σ1 h
    unfold prun at h
    split at h
    next => cases h
    next i len hd =>
    split at h
    next hlen =>
      split at h
      next v' hret =>
        split at h
        next hok =>
          cases h
          refine ⟨⟨Nat.le_refl _, Nat.le_refl _⟩, fun X C hm _ _ _ _ kr => ?_⟩
          obtain ⟨rfl, rfl, hl1⟩ := retOf_i hret
          obtain rfl := hl1 len hlen
          subst hm
          exact kr pc L hd hok
        next => cases h
      next hret =>
        split at h
        next k idx hcall =>
          obtain ⟨hi, hl3⟩ := callOf_i hcall
          obtain rfl := hl3 len hlen
          split at h
          next => cases h
          next d' =>
          split at h
          next y hca =>
            split at h
            next hkd =>
              split at h
              next as rest hpop =>
                split at h
                next hc =>
                  split at h
                  next v2 σ2 hcal =>
                    obtain ⟨⟨m1, m2⟩, W1⟩ := ih _ _ _ _ _ _ _ _ hcal
                    obtain ⟨⟨m3, m4⟩, W2⟩ := ih _ _ _ _ _ _ _ _ h
                    refine ⟨⟨Nat.le_trans m1 m3, Nat.le_trans m2 m4⟩, fun X C hm hf hlo hr1 hr2 kr => ?_⟩
                    subst hm
                    obtain ⟨bs, e1, e2, e3⟩ := popN_i hpop
                    rw [List.append_nil] at e1
                    subst e1
                    subst e3
                    exact ws_call C hd hi hca hkd e2 hc.1 hc.2.1 hc.2.2 hf hlo m1 m2 (by omega) (by omega) W1 (W2 X C rfl hf hlo hr1 hr2 kr)
                  next => cases h
                next => cases h
              next => cases h
            next => cases h
          next hca =>
            split at h
            next hoi =>
              split at h
              next o rest =>
                split at h
                next hcr =>
                  obtain ⟨⟨m3, m4⟩, W2⟩ := ih _ _ _ _ _ _ _ _ h
                  refine ⟨⟨m3, m4⟩, fun X C hm hf hlo hr1 hr2 kr => ?_⟩
                  subst hm
                  have hi2 : i = .invokespecial idx := by
                    rcases hi with ⟨q, -⟩ | ⟨-, q⟩ | ⟨q, -⟩
                    · omega
                    · exact q
                    · omega
                  rw [hi2] at hd
                  exact ws_oi C hd hoi.2 (by omega) (by omega) hcr (W2 X C rfl hf hlo hr1 hr2 kr)
                next => cases h
              next => cases h
            next =>
              split at h
              next hac =>
                split at h
                next rest τ hcp =>
                  obtain ⟨⟨m3, m4⟩, W2⟩ := ih _ _ _ _ _ _ _ _ h
                  have hi2 : i = .invokestatic idx := by
                    rcases hi with ⟨q, -⟩ | ⟨q, -⟩ | ⟨-, q⟩
                    · omega
                    · omega
                    · exact q
                  obtain ⟨n9, dp, b, sp, a, r, rfl, hh, hq⟩ := oCpy_i hcp
                  rcases hq with ⟨ht, hq⟩ | ⟨ht, hq⟩
                  · cases hq
                    refine ⟨⟨m3, m4⟩, fun X C hm hf hlo hr1 hr2 kr => ?_⟩
                    subst hm
                    rw [hi2] at hd
                    exact ws_cpyI C hd hac.2 (by omega) (by omega) hh.2.2.2.2.2.2.2.2 hh.1 hh.2.1 ht (hh.2.2.1 ▸ ht) hh.2.2.2.1 hh.2.2.2.2.1 hh.2.2.2.2.2.1 hh.2.2.2.2.2.2.1 hh.2.2.2.2.2.2.2.1 (W2 X C rfl hf hlo hr1 hr2 kr)
                  · cases hq
                    refine ⟨⟨m3, m4⟩, fun X C hm hf hlo hr1 hr2 kr => ?_⟩
                    subst hm
                    rw [hi2] at hd
                    exact ws_cpyL C hd hac.2 (by omega) (by omega) hh.2.2.2.2.2.2.2.2 hh.1 hh.2.1 ht (hh.2.2.1 ▸ ht) hh.2.2.2.1 hh.2.2.2.2.1 hh.2.2.2.2.2.1 hh.2.2.2.2.2.2.1 hh.2.2.2.2.2.2.2.1 (W2 X C rfl hf hlo hr1 hr2 kr)
                next => cases h
              next =>
                split at h
                next hk2 =>
                  split at h
                  next j hmm =>
                    split at h
                    next st1 hst =>
                      obtain ⟨⟨m3, m4⟩, W2⟩ := ih _ _ _ _ _ _ _ _ h
                      refine ⟨⟨m3, m4⟩, fun X C hm hf hlo hr1 hr2 kr => ?_⟩
                      subst hm
                      have hi2 : i = .invokestatic idx := by
                        rcases hi with ⟨q, -⟩ | ⟨q, -⟩ | ⟨-, q⟩
                        · omega
                        · omega
                        · exact q
                      rw [hi2] at hd
                      exact ws_mm C hd hmm hst (by omega) (by omega) (by omega) (by omega) (W2 X C rfl hf hlo hr1 hr2 kr)
                    next => cases h
                  next => cases h
                next => cases h
        next hcall =>
          split at h
          next pc2 st2 σ2 hps =>
            obtain ⟨⟨m3, m4⟩, W2⟩ := ih _ _ _ _ _ _ _ _ h
            obtain ⟨m1, m2⟩ := pS_mono hps
            refine ⟨⟨Nat.le_trans m1 m3, Nat.le_trans m2 m4⟩, fun X C hm hf hlo hr1 hr2 kr => ?_⟩
            subst hm
            exact ws_pS C hd hlen hps (by omega) (by omega) (W2 X C rfl hf hlo hr1 hr2 kr)
          next =>
            split at h
            next L2 st2 hpl =>
              obtain ⟨⟨m3, m4⟩, W2⟩ := ih _ _ _ _ _ _ _ _ h
              refine ⟨⟨m3, m4⟩, fun X C hm hf hlo hr1 hr2 kr => ?_⟩
              subst hm
              exact ws_pL C hd hlen hpl (W2 X C rfl hf hlo hr1 hr2 kr)
            next => cases h
    next => cases h
end
section
/-! THE CLAIM OUT OF ONE WALK OF THE LAW'S BODY. Your part is whole_start (and what it stands on); all else here is the same for every law, but numbers. -/
def R_law : String := "LotNobodyWantsLaw"
def lw_P (b : Addr) (xs : List Int32) (args : Array Value) (s : State) : Prop := args = #[.ref b] ∧ s.IntsAt b xs ∧ xs.length ≤ 6 ∧ (Jvm.Cond.and given_1 narrow_1).before args s = true
def lw_Q (_ : Array Value) (s : State) (o : Outcome) (t : State) : Prop := o = .returned (some (.int 1)) ∧ Framed s o t [] 600000 7302250
def lw_Z (below : List Frame) (a : Array Value) (s : State) : State → Prop := fun t => ∃ o, t.status = .running ∧ Ended t below o ∧ lw_Q a s o t
/-- the law's own end, with 1 on the stack, nothing written that was there before, its room as the claim has it -/
theorem lw_ret {p : Program} {l : Launch} {e : Env} {s : State} {m : MethodId} {below : List Frame} {meth : Method} {c : Code} {b : Nat} (hx : p.tables.exec = Jvm.exec) (hb : c.code = code) (hr : meth.sig.returnType = ret) (hlocks : meth.locks = false) {pc : Nat} {H : Heap} {ls : Array Slot} (hdg : decode code pc = .ok (.ireturn, 1)) : W p l e room_1 s m #[Value.ref b] below meth c H [] 600000 7302250 (lw_Z below #[Value.ref b] s) (F0 m pc ls [.int 1]) := by
  intro T hT X
  obtain ⟨fs, hret, hrun, hended, hW, hframe⟩ := X.leave (v := some (.int 1)) (hlocks := hlocks) (fun h => by rw [hr] at h; cases h)
  have hmeth' : T.vm.method? m = some meth := X.method'
  refine ⟨T.setFrames fs, ?_, .returned (some (.int 1)), hrun, hended, rfl, ⟨_, rfl⟩, hW, hframe⟩
  jvm_step X.here [X.here.top, hx, hb, hdg, hmeth', hr, ret, narrow_b1]
  (try refine ⟨rfl, ?_⟩); (try refine ⟨rfl, ?_⟩)
  first | (intro acts; rw [hret _ acts rfl rfl rfl]) | rw [hret _ _ rfl rfl rfl]
  exact Steps.refl _
/-- what holds at the law's entry: the machine, the code, the tables' words (any of lw_tbl by 'hts w (by decide +kernel)'), the script of L ints xs at the cell b, what the Statement gives of the start (any of its parts by flat_of_before) -/
def lw_At (p : Program) (s : State) (m : MethodId) (meth : Method) (c : Code) (b L : Nat) (xs : Nat → Int32) : Prop :=
  p.tables.exec = Jvm.exec ∧ c.code = code ∧ meth.sig.returnType = ret ∧ c.maxLocals = 4 ∧ s.vm.findClass R_law = some m.cls ∧ (∀ w ∈ lw_tbl, w.before #[Value.ref b] s = true) ∧ va_X b L xs s s.heap ∧ b < s.heap.size ∧ meth.locks = false ∧ (Jvm.Cond.and given_1 narrow_1).before #[Value.ref b] s = true
end
section
/-! ===== THE LAW FROM ITS ENTRY ===== -/
def LAM (L : Nat) (xs : Nat → Int32) : PRo := (4, fun j => bif Nat.beq j 0 then L else stL j, fun j i => bif Nat.beq j 0 then xs i else stV j i)
/-- nothing yet -/
def σ00 : PSt := (0, 0, fun _ => (9, 0), fun _ _ => none, fun _ _ => 0, fun _ _ => 0)
theorem arr_known {s : State} {args : Array Value} {ty : FieldType} (h : (Cond.arrayClass ty).before args s = true) : ∃ cA : ClassId, ArrOfT s cA ty ∧ s.vm.findClass ("[" ++ ty.toString) = some cA := by
  obtain ⟨cA, kA, comp, hfind, hk, hkind⟩ := Cond.arrayClass_spec h
  exact ⟨cA, fun n z => ⟨fun k h => (by cases h), kA, hk, comp, hkind⟩, hfind⟩
theorem arr2_known {s : State} {args : Array Value} {ty : FieldType} (h : (Cond.arrayOver (.array ty)).before args s = true) : ∃ cA : ClassId, ArrOfT s cA (.array ty) ∧ s.vm.findClass ("[" ++ (FieldType.array ty).toString) = some cA := by
  obtain ⟨comp, c, k, h1, h2, h3, h4, h5⟩ := Stand.arrayOver_specB h
  exact ⟨c, fun n z => ⟨fun k h => (by cases h), k, h3, comp, h4⟩, h5⟩
theorem cls_known {s : State} {args : Array Value} (hts : ∀ w ∈ WALL, w.before args s = true) : ∀ n, n ≤ NX → ∃ (dC : Nat → ClassId) (dI : Nat → Nat → Nat), ∀ ci, ci < n → u_Kn s (cnm ci) (cT ci) (nF ci) (dC ci) (dI ci)
  | 0, _ => ⟨fun _ => 0, fun _ _ => 0, fun _ h => absurd h (Nat.not_lt_zero _)⟩
  | n + 1, hn => by
    obtain ⟨dC, dI, h⟩ := cls_known hts n (by omega)
    obtain ⟨c0, i0, h0⟩ := u_known (C := cnm n) (T := cT n) (N := nF n) (n := nF n) hts (w_lay (by omega)) (hts _ (w_is (by omega)))
    refine ⟨fun k => if k = n then c0 else dC k, fun k => if k = n then i0 else dI k, fun ci hci => ?_⟩
    by_cases e : ci = n
    · subst e
      simp only [if_true]
      exact h0
    · simp only [if_neg e]
      exact h ci (by omega)
theorem tys_known {s : State} {args : Array Value} (hts : ∀ w ∈ lw_tbl, w.before args s = true) (hts2 : ∀ w ∈ WALL, w.before args s = true) : ∃ dA : Nat → ClassId, (∀ (k : Nat) (q : ClassId × FieldType), (tysL dA)[k]? = some q → ArrOfT s q.1 q.2 ∧ va_RA s q.1 q.2) ∧ (Cond.arrayOver (.array .int)).before #[] s = true ∧ (Cond.arrayOver (.array .long)).before #[] s = true := by
  have ho5 : (Cond.arrayOver (.array .int)).before args s = true := hts _ (chk_map (f := wEx) sgEx_ok (a := .arrayOver (.array .int)) (by decide +kernel))
  have ho6 : (Cond.arrayOver (.array .long)).before args s = true := hts _ (chk_map (f := wEx) sgEx_ok (a := .arrayOver (.array .long)) (by decide +kernel))
  obtain ⟨c1, a1, b1⟩ := arr_known (hts2 _ (w_ex (w := .arrayClass .int) (by decide +kernel) rfl))
  obtain ⟨c2, a2, b2⟩ := arr_known (hts2 _ (w_ex (w := .arrayClass .byte) (by decide +kernel) rfl))
  obtain ⟨c3, a3, b3⟩ := arr_known (hts2 _ (w_ex (w := .arrayClass .short) (by decide +kernel) rfl))
  obtain ⟨c4, a4, b4⟩ := arr_known (hts2 _ (w_ex (w := .arrayClass .long) (by decide +kernel) rfl))
  obtain ⟨c5, a5, b5⟩ := arr2_known ho5
  obtain ⟨c6, a6, b6⟩ := arr2_known ho6
  refine ⟨fun t => match t with | 1 => c1 | 2 => c2 | 3 => c3 | 4 => c4 | 5 => c5 | _ => c6, fun k q hk => ?_, ho5, ho6⟩
  match k, hk with
  | 0, hk => cases hk; exact ⟨a1, b1⟩
  | 1, hk => cases hk; exact ⟨a2, b2⟩
  | 2, hk => cases hk; exact ⟨a3, b3⟩
  | 3, hk => cases hk; exact ⟨a4, b4⟩
  | 4, hk => cases hk; exact ⟨a5, b5⟩
  | 5, hk => cases hk; exact ⟨a6, b6⟩
  | k + 6, hk => simp [tysL] at hk
theorem st_known {s : State} {args : Array Value} (hts : ∀ w ∈ lw_tbl, w.before args s = true) (hts2 : ∀ w ∈ WALL, w.before args s = true) (hg : (Jvm.Cond.and given_1 narrow_1).before args s = true) (k : Nat) (h1 : 1 ≤ k) (h4 : k < 4) :
    ∃ t : Nat, va_T .int t (stL k) (fun i => .int (stV k i)) (fun a => s.heap.size ≤ a) s s.heap ∧ va_Z (stN k).1 (stN k).2.1 (stN k).2.2 (.ref t) (fun a => s.heap.size ≤ a) s s.heap := by
  have hs := flat_of_before _ hg
  obtain ⟨a1, a2, a3, a4⟩ := st_all k h4 h1
  have hA : ∀ a : Nat, a < s.heap.size → ¬ (fun a : Nat => s.heap.size ≤ a) a := fun a ha => by show ¬ s.heap.size ≤ a; omega
  obtain ⟨t, ht, hT⟩ := va_Tof (f := fun i => .int (stV k i)) (A := fun a => s.heap.size ≤ a) a4 (hs _ a2) (va_eqt (hs _ a3)) (fun j hj => va_eqt (hs _ (a1 j hj))) hA
  have hini : (Cond.initialized (stN k).1).before args s = true := by
    have hk : k = 1 ∨ k = 2 ∨ k = 3 := by omega
    rcases hk with rfl | rfl | rfl
    · exact hts2 _ (w_in (c := 3) (by decide))
    · exact hts2 _ (w_in (c := 3) (by decide))
    · exact hts2 _ (w_in (c := 10) (by decide))
  exact ⟨t, hT, va_Zref (hts _ (chk_map (f := wLs) sgLs_ok (sgLs_all k h4 h1))) hini ht hA⟩
theorem mB_law : mB NM = code := rfl
theorem law_of_run {n d : Nat} {L : Nat} {xs : Nat → Int32} {τ : PSt} (hrun : prun (LAM L xs) n d NM 0 [(0, .retAddr 0)] [] σ00 = some (some (.int 1), τ)) (hd1 : d ≤ 1000) (hn1 : pnc τ ≤ 600000) (hn2 : pns τ ≤ 7302250)
    {p : Program} {e : Env} {s : State} {m : MethodId} {below : List Frame} {meth : Method} {c : Code} (l : Launch) {b : Nat} (C0 : lw_At p s m meth c b L xs) : W p l e room_1 s m #[Value.ref b] below meth c s.heap [] 0 0 (lw_Z below #[Value.ref b] s) (entryFrame m ([Value.ref b] : List Value).toArray 4) := by
  obtain ⟨hx, hb, hr, hml, hown, hts, hX, hbl, hlocks, hgv⟩ := id C0
  have hts2 : ∀ w ∈ WALL, w.before #[Value.ref b] s = true := fun w hw => hts w (List.mem_filter.mp hw).1
  obtain ⟨dC, dI, hK1⟩ := cls_known hts2 NX (Nat.le_refl _)
  obtain ⟨dA, hK2, ho5, ho6⟩ := tys_known hts hts2
  obtain ⟨t1, hT1, hZ1⟩ := st_known hts hts2 hgv 1 (by decide) (by decide)
  obtain ⟨t2, hT2, hZ2⟩ := st_known hts hts2 hgv 2 (by decide) (by decide)
  obtain ⟨t3, hT3, hZ3⟩ := st_known hts hts2 hgv 3 (by decide) (by decide)
  have hT0 : va_T .int b L (fun i => .int (xs i)) (fun a => s.heap.size ≤ a) s s.heap := by
    obtain ⟨scr, g1, g2, g3, g4, g5⟩ := hX
    exact ⟨scr, g1, g2, g3, Nat.le_of_eq g4.symm, by rw [g4] <;> rfl, g5, by show ¬ s.heap.size ≤ b; omega⟩
  let tt : Nat → Nat := fun k => match k with | 0 => b | 1 => t1 | 2 => t2 | _ => t3
  let X : Ctx := (p, l, e, room_1, s, m, #[Value.ref b], below, meth, c, lw_Z below #[Value.ref b] s, (dC, dI), dA, s.heap.size, tt, 0, 0, NM)
  have hKN : KN (LAM L xs) (dC, dI) dA s.heap.size tt s s.heap := by
    refine ⟨⟨fun ci q hq => ?_, hK2⟩, Nat.le_refl _, fun j hj => ?_, fun j h1 hj => ?_, ho5, ho6⟩
    · have hci := vwCl_lt hq
      obtain rfl : q = (cnm ci, cT ci, nF ci) := Option.some.inj (hq.symm.trans (vwCl_at hci))
      exact hK1 ci hci
    · have hj : j < 4 := hj
      have : j = 0 ∨ j = 1 ∨ j = 2 ∨ j = 3 := by omega
      rcases this with rfl | rfl | rfl | rfl
      · exact hT0
      · exact hT1
      · exact hT2
      · exact hT3
    · have : j = 1 ∨ j = 2 ∨ j = 3 := by omega
      rcases this with rfl | rfl | rfl
      · exact hZ1
      · exact hZ2
      · exact hZ3
  have hCX : CX (LAM L xs) X := ⟨hx, hb.trans mB_law.symm, hr, hml, hown, hts2, hlocks, fun h => (by cases h), hKN, Nat.le_refl _⟩
  have hl := lv_entry ([.ref b]) (n := 4) (Nat.le_of_ble_eq_true rfl)
  rw [lg_entry_eq]
  generalize (lg_sl ([.ref b]) ++ List.replicate (4 - (lg_sl ([.ref b])).length) Slot.unset).toArray = ls at hl ⊢
  have hl2 : lv_has ls (mL (xm X)) (cvL X [(0, .retAddr 0)]) := hl
  obtain ⟨-, G⟩ := MT (LAM L xs) _ _ _ _ _ _ _ _ _ hrun
  have r1 : (xR X).frames = 2048 := rfl
  have r2 : (xR X).locals = 84000 := rfl
  have r3 : (xR X).cells = 600000 := rfl
  have r4 : (xR X).slots = 7302250 := rfl
  have r5 : xk X = 0 := rfl
  have r6 : xn X = 0 := rfl
  refine G X hCX rfl (by omega) (by omega) (by omega) (by omega) ?_ s.heap [] 0 0 ls ⟨rfl, fun k hk => absurd hk (Nat.not_lt_zero _)⟩ va_S.rf rfl rfl hl2
  intro pc' L' hd' hok H' locs' cells' slots' ls' hH' hS' hc' hs' hl'
  have hc2 : cells' ≤ 600000 := by have : pnc τ = 0 + cells' := hc'; omega
  have hs2 : slots' ≤ 7302250 := by have : pns τ = 0 + slots' := hs'; omega
  refine va_forget (fun q hq => hS'.2.2 q hq) ?_
  refine W.widen hc2 hs2 ?_
  have hd2 : decode (mB NM) pc' = .ok (.ireturn, 1) := hd'
  rw [mB_law] at hd2
  exact lw_ret hx hb hr hlocks hd2
end
section
/-! ===== more steps, deeper, more locals: the same run ===== -/
def SubL (L L' : PL) : Prop := ∀ k v, lk L k = some v → lk L' k = some v
theorem lk_cons {q : Nat × Value} {t : PL} {k : Nat} : lk (q :: t) k = bif Nat.beq q.1 k then some q.2 else lk t k := rfl
theorem lk_rmk {L : PL} {i j : Nat} : lk (rmk L i) j = if j = i then none else lk L j := by
  induction L with
  | nil =>
    show (none : Option Value) = if j = i then none else none
    split <;> rfl
  | cons a t ih =>
    unfold rmk at ih ⊢
    rw [List.filter_cons]
    by_cases h : a.1 = i
    · have e : Nat.beq a.1 i = true := by rw [h]; exact Nat.beq_refl i
      rw [e]
      simp only [Bool.not_true, Bool.false_eq_true, if_false]
      rw [ih]
      by_cases hj : j = i
      · rw [if_pos hj, if_pos hj]
      · rw [if_neg hj, if_neg hj]
        have e2 : Nat.beq a.1 j = false := by
          cases e3 : Nat.beq a.1 j
          · rfl
          · exact absurd (Nat.eq_of_beq_eq_true e3) (by omega)
        show _ = lk (a :: t) j
        rw [lk_cons, e2]
        rfl
    · have e : Nat.beq a.1 i = false := by
        cases e3 : Nat.beq a.1 i
        · rfl
        · exact absurd (Nat.eq_of_beq_eq_true e3) h
      rw [e]
      simp only [Bool.not_false, if_true]
      rw [lk_cons, lk_cons]
      cases e4 : Nat.beq a.1 j with
      | true =>
        have : a.1 = j := Nat.eq_of_beq_eq_true e4
        rw [if_neg (by omega)]
        rfl
      | false => exact ih
theorem lk_put {k : Nat} {v : Value} {j : Nat} : ∀ {L : PL}, lk L k = none → lk (put L k v) j = if j = k then some v else lk L j
  | [], _ => by
    unfold put lk
    by_cases hj : j = k
    · subst hj
      rw [if_pos rfl]
      have : Nat.beq j j = true := Nat.beq_refl j
      show (bif Nat.beq j j then some v else lk [] j) = _
      rw [this]
      rfl
    · rw [if_neg hj]
      have e2 : Nat.beq k j = false := by
        cases e3 : Nat.beq k j
        · rfl
        · exact absurd (Nat.eq_of_beq_eq_true e3) (by omega)
      show (bif Nat.beq k j then some v else lk [] j) = _
      rw [e2]
      rfl
  | a :: t, h => by
    rw [lk_cons] at h
    cases e : Nat.beq a.1 k with
    | true => rw [e] at h; cases h
    | false =>
      rw [e] at h
      unfold put
      cases eb : Nat.blt k a.1 with
      | true =>
        show lk ((k, v) :: a :: t) j = _
        by_cases hj : j = k
        · subst hj
          rw [if_pos rfl]
          rw [lk_cons]
          have : Nat.beq j j = true := Nat.beq_refl j
          show (bif Nat.beq j j then some v else _) = _
          rw [this]
          rfl
        · rw [if_neg hj]
          have e2 : Nat.beq k j = false := by
            cases e3 : Nat.beq k j
            · rfl
            · exact absurd (Nat.eq_of_beq_eq_true e3) (by omega)
          show (bif Nat.beq k j then some v else lk (a :: t) j) = _
          rw [e2]
          rfl
      | false =>
        show lk (a :: put t k v) j = _
        rw [lk_cons, lk_cons, lk_put (L := t) h]
        cases e4 : Nat.beq a.1 j with
        | true =>
          have e5 : a.1 = j := Nat.eq_of_beq_eq_true e4
          have : j ≠ k := by
            intro e6
            rw [e5, e6] at e
            have : Nat.beq k k = true := Nat.beq_refl k
            rw [this] at e
            cases e
          show some a.2 = if j = k then some v else some a.2
          rw [if_neg this]
        | false => rfl
theorem lk_rm1 {L : PL} {k j : Nat} : lk (rm1 L k) j = if j = k then none else if j + 1 = k ∧ lg L j = true then none else lk L j := by
  cases k with
  | zero =>
    show lk (rmk L 0) j = _
    rw [lk_rmk]
    by_cases hj : j = 0
    · rw [if_pos hj, if_pos hj]
    · rw [if_neg hj, if_neg hj, if_neg (by omega)]
  | succ i =>
    unfold rm1
    dsimp only
    cases e : lg L i with
    | true =>
      show lk (rmk (rmk L (i + 1)) i) j = _
      rw [lk_rmk, lk_rmk]
      by_cases h1 : j = i
      · subst h1
        rw [if_pos rfl, if_neg (by omega), if_pos ⟨rfl, e⟩]
      · rw [if_neg h1]
        by_cases h2 : j = i + 1
        · rw [if_pos h2, if_pos h2]
        · rw [if_neg h2, if_neg h2, if_neg (by omega)]
    | false =>
      show lk (rmk L (i + 1)) j = _
      rw [lk_rmk]
      by_cases h2 : j = i + 1
      · rw [if_pos h2, if_pos h2]
      · rw [if_neg h2, if_neg h2, if_neg]
        intro h3
        have : j = i := by omega
        subst this
        rw [e] at h3
        exact absurd h3.2 (by decide)
theorem lg_sub {L L' : PL} (h : SubL L L') {j : Nat} {w : Value} (hj : lk L j = some w) : lg L' j = lg L j := by
  unfold lg
  rw [hj, h j w hj]
theorem sub_ins1 {L L' : PL} (h : SubL L L') (k : Nat) (v : Value) : SubL (ins1 L k v) (ins1 L' k v) := by
  intro j w hw
  unfold ins1 at hw ⊢
  have n1 : lk (rm1 L k) k = none := by rw [lk_rm1, if_pos rfl]
  have n2 : lk (rm1 L' k) k = none := by rw [lk_rm1, if_pos rfl]
  rw [lk_put n1] at hw
  rw [lk_put n2]
  by_cases hj : j = k
  · rw [if_pos hj] at hw ⊢; exact hw
  · rw [if_neg hj] at hw ⊢
    rw [lk_rm1, if_neg hj] at hw ⊢
    by_cases hc : j + 1 = k ∧ lg L j = true
    · rw [if_pos hc] at hw; cases hw
    · rw [if_neg hc] at hw
      rw [lg_sub h hw, if_neg hc]
      exact h j w hw
theorem sub_ins2 {L L' : PL} (h : SubL L L') (k : Nat) (v : Value) : SubL (ins2 L k v) (ins2 L' k v) := by
  intro j w hw
  unfold ins2 rm2 at hw ⊢
  have n1 : lk (rmk (rm1 L k) (k + 1)) k = none := by rw [lk_rmk, if_neg (by omega), lk_rm1, if_pos rfl]
  have n2 : lk (rmk (rm1 L' k) (k + 1)) k = none := by rw [lk_rmk, if_neg (by omega), lk_rm1, if_pos rfl]
  rw [lk_put n1] at hw
  rw [lk_put n2]
  by_cases hj : j = k
  · rw [if_pos hj] at hw ⊢; exact hw
  · rw [if_neg hj] at hw ⊢
    rw [lk_rmk] at hw ⊢
    by_cases hj1 : j = k + 1
    · rw [if_pos hj1] at hw; cases hw
    · rw [if_neg hj1] at hw ⊢
      rw [lk_rm1, if_neg hj] at hw ⊢
      by_cases hc : j + 1 = k ∧ lg L j = true
      · rw [if_pos hc] at hw; cases hw
      · rw [if_neg hc] at hw
        rw [lg_sub h hw, if_neg hc]
        exact h j w hw
theorem pLd_sub {ok : Value → Bool} {L L' : PL} (hs : SubL L L') {k : Nat} {st : List Value} {q : PL × List Value} (h : pLd ok L k st = some q) : ∃ L2, pLd ok L' k st = some (L2, q.2) ∧ SubL q.1 L2 := by
  obtain ⟨v, h1, h2, rfl⟩ := pLd_i h
  refine ⟨L', ?_, hs⟩
  unfold pLd
  rw [hs k v h1, Option.bind_some, h2]
  rfl
theorem pL_sub {i : Instr} {nL : Nat} {L L' : PL} (hs : SubL L L') {st : List Value} {q : PL × List Value} (h : pL i nL L st = some q) : ∃ L2, pL i nL L' st = some (L2, q.2) ∧ SubL q.1 L2 := by
  have s1 : ∀ {ok : Value → Bool} {k : Nat}, pSt1 ok nL L k st = some q → ∃ L2, pSt1 ok nL L' k st = some (L2, q.2) ∧ SubL q.1 L2 := by
    intro ok k h
    obtain ⟨v, r, rfl, h1, h2, rfl⟩ := pSt1_i h
    refine ⟨ins1 L' k v, ?_, sub_ins1 hs k v⟩
    unfold pSt1
    dsimp only
    have : Nat.blt k nL = true := Nat.ble_eq_true_of_le h2
    rw [h1, this]
    rfl
  cases i
  case iload k => exact pLd_sub hs h
  case iload_n k => exact pLd_sub hs h
  case lload k => exact pLd_sub hs h
  case lload_n k => exact pLd_sub hs h
  case aload k => exact pLd_sub hs h
  case aload_n k => exact pLd_sub hs h
  case istore k => exact s1 h
  case istore_n k => exact s1 h
  case astore k => exact s1 h
  case astore_n k => exact s1 h
  case lstore k =>
    obtain ⟨v, r, rfl, h1, h2, rfl⟩ := pSt2_i h
    refine ⟨ins2 L' k v, ?_, sub_ins2 hs k v⟩
    show pSt2 nL L' k (v :: r) = _
    unfold pSt2
    dsimp only
    have : Nat.blt (k + 1) nL = true := Nat.ble_eq_true_of_le h2
    rw [h1, this]
    rfl
  case lstore_n k =>
    obtain ⟨v, r, rfl, h1, h2, rfl⟩ := pSt2_i h
    refine ⟨ins2 L' k v, ?_, sub_ins2 hs k v⟩
    show pSt2 nL L' k (v :: r) = _
    unfold pSt2
    dsimp only
    have : Nat.blt ((k : Nat) + 1) nL = true := Nat.ble_eq_true_of_le h2
    rw [h1, this]
    rfl
  case iinc k n =>
    unfold pL at h
    dsimp only at h
    split at h
    next x hx =>
      cases eb : Nat.blt k nL with
      | false => rw [eb] at h; cases h
      | true =>
        rw [eb] at h
        cases h
        refine ⟨ins1 L' k (.int (x + Int32.ofInt n)), ?_, sub_ins1 hs k _⟩
        unfold pL
        dsimp only
        rw [hs k _ hx]
        dsimp only
        rw [eb]
        rfl
    next => cases h
  all_goals (have h2 : (none : Option (PL × List Value)) = some q := h; cases h2)
theorem pL_none {i : Instr} {nL : Nat} {L : PL} {st : List Value} {q : PL × List Value} (h : pL i nL L st = some q) {Λ : PRo} {ini : Bool} {c pc pc' : Nat} {σ : PSt} : pS Λ ini c pc pc' σ i st = none ∧ retOf i st = none ∧ callOf i = none := by
  cases i
  case iload k => exact ⟨rfl, rfl, rfl⟩
  case iload_n k => exact ⟨rfl, rfl, rfl⟩
  case lload k => exact ⟨rfl, rfl, rfl⟩
  case lload_n k => exact ⟨rfl, rfl, rfl⟩
  case aload k => exact ⟨rfl, rfl, rfl⟩
  case aload_n k => exact ⟨rfl, rfl, rfl⟩
  case istore k => exact ⟨rfl, rfl, rfl⟩
  case istore_n k => exact ⟨rfl, rfl, rfl⟩
  case astore k => exact ⟨rfl, rfl, rfl⟩
  case astore_n k => exact ⟨rfl, rfl, rfl⟩
  case lstore k => exact ⟨rfl, rfl, rfl⟩
  case lstore_n k => exact ⟨rfl, rfl, rfl⟩
  case iinc k n => exact ⟨rfl, rfl, rfl⟩
  all_goals (have h2 : (none : Option (PL × List Value)) = some q := h; cases h2)
theorem pS_none {i : Instr} {st : List Value} {Λ : PRo} {ini : Bool} {c pc pc' : Nat} {σ : PSt} {q : Nat × List Value × PSt} (h : pS Λ ini c pc pc' σ i st = some q) : retOf i st = none ∧ callOf i = none := by
  cases i <;> first | exact ⟨rfl, rfl⟩ | (have h2 : (none : PO) = some q := h; cases h2)
/-! the four kinds of step, as rows -/
theorem prun_S {Λ : PRo} {n d m pc len : Nat} {L : PL} {st : List Value} {σ : PSt} {i : Instr} {pc2 : Nat} {st2 : List Value} {σ2 : PSt} (hd : decode (mB m) pc = .ok (i, len)) (hl : lenOk i len = true) (h : pS Λ (isIni m) (mC m) pc (pc + len) σ i st = some (pc2, st2, σ2)) : prun Λ (n + 1) d m pc L st σ = prun Λ n d m pc2 L st2 σ2 := by
  obtain ⟨h1, h2⟩ := pS_none h
  rw [prun, hd]
  dsimp only
  rw [if_pos hl, h1, h2]
  dsimp only
  rw [h]
theorem prun_L {Λ : PRo} {n d m pc len : Nat} {L : PL} {st : List Value} {σ : PSt} {i : Instr} {L2 : PL} {st2 : List Value} (hd : decode (mB m) pc = .ok (i, len)) (hl : lenOk i len = true) (h : pL i (mL m) L st = some (L2, st2)) : prun Λ (n + 1) d m pc L st σ = prun Λ n d m (pc + len) L2 st2 σ := by
  obtain ⟨h0, h1, h2⟩ := pL_none h (Λ := Λ) (ini := isIni m) (c := mC m) (pc := pc) (pc' := pc + len) (σ := σ)
  rw [prun, hd]
  dsimp only
  rw [if_pos hl, h1, h2]
  dsimp only
  rw [h0]
  dsimp only
  rw [h]
theorem prun_R {Λ : PRo} {n d m pc len : Nat} {L : PL} {st : List Value} {σ : PSt} {i : Instr} {v : Option Value} (hd : decode (mB m) pc = .ok (i, len)) (hl : lenOk i len = true) (h : retOf i st = some v) (hok : okRet (mR m) v = true) : prun Λ (n + 1) d m pc L st σ = some (v, σ) := by
  rw [prun, hd]
  dsimp only
  rw [if_pos hl, h]
  dsimp only
  rw [if_pos hok]
theorem retC {i : Instr} {q : Nat × Nat} (h : callOf i = some q) (st : List Value) : retOf i st = none := by
  cases i <;> first | rfl | (have h2 : (none : Option (Nat × Nat)) = some q := h; cases h2)
theorem prun_C {Λ : PRo} {n d m pc len k idx y : Nat} {L : PL} {st as rest : List Value} {σ σ1 : PSt} {i : Instr} {v : Option Value} (hd : decode (mB m) pc = .ok (i, len)) (hl : lenOk i len = true) (h : callOf i = some (k, idx)) (hca : ca (mC m) idx = some y) (hk : kdOk k y = true) (hp : popN (nA y) st [] = some (as, rest)) (hc : catS rest ≤ 8 ∧ catS as ≤ mL y ∧ vOk k y as σ = true)
    (hrun : prun Λ n d y 0 (entL as) [] σ = some (v, σ1)) : prun Λ (n + 1) (d + 1) m pc L st σ = prun Λ n (d + 1) m (pc + 3) L (v.toList ++ rest) σ1 := by
  rw [prun, hd]
  dsimp only
  rw [if_pos hl, retC h, h]
  dsimp only
  rw [hca]
  dsimp only
  rw [if_pos hk, hp]
  dsimp only
  rw [if_pos hc, hrun]
theorem prun_O {Λ : PRo} {n d m pc len k idx o : Nat} {L : PL} {rest : List Value} {σ : PSt} {i : Instr} (hd : decode (mB m) pc = .ok (i, len)) (hl : lenOk i len = true) (h : callOf i = some (k, idx)) (hca : ca (mC m) idx = none) (hoi : k = 1 ∧ oi (mC m) idx = true) (hc : catS rest ≤ 8) : prun Λ (n + 1) (d + 1) m pc L (.ref o :: rest) σ = prun Λ n (d + 1) m (pc + 3) L rest σ := by
  rw [prun, hd]
  dsimp only
  rw [if_pos hl, retC h, h]
  dsimp only
  rw [hca]
  dsimp only
  rw [if_pos hoi, if_pos hc]
theorem prun_A {Λ : PRo} {n d m pc len k idx : Nat} {L : PL} {st rest : List Value} {σ σ1 : PSt} {i : Instr} (hd : decode (mB m) pc = .ok (i, len)) (hl : lenOk i len = true) (h : callOf i = some (k, idx)) (hca : ca (mC m) idx = none) (hoi : ¬ (k = 1 ∧ oi (mC m) idx = true)) (hac : k = 2 ∧ ac (mC m) idx = true) (hcp : oCpy st σ = some (rest, σ1)) : prun Λ (n + 1) (d + 1) m pc L st σ = prun Λ n (d + 1) m (pc + 3) L rest σ1 := by
  rw [prun, hd]
  dsimp only
  rw [if_pos hl, retC h, h]
  dsimp only
  rw [hca]
  dsimp only
  rw [if_neg hoi, if_pos hac, hcp]
theorem prun_M {Λ : PRo} {n d m pc len k idx j : Nat} {L : PL} {st st1 : List Value} {σ : PSt} {i : Instr} (hd : decode (mB m) pc = .ok (i, len)) (hl : lenOk i len = true) (h : callOf i = some (k, idx)) (hca : ca (mC m) idx = none) (hoi : ¬ (k = 1 ∧ oi (mC m) idx = true)) (hac : ¬ (k = 2 ∧ ac (mC m) idx = true)) (hk : k = 2) (hmm : mm (mC m) idx = some j) (hst : oMM j st = some st1) : prun Λ (n + 1) (d + 1) m pc L st σ = prun Λ n (d + 1) m (pc + 3) L st1 σ := by
  rw [prun, hd]
  dsimp only
  rw [if_pos hl, retC h, h]
  dsimp only
  rw [hca]
  dsimp only
  rw [if_neg hoi, if_neg hac, if_pos hk, hmm]
  dsimp only
  rw [hst]
theorem pS_ro {Λ Λ' : PRo} (hΛ : Λ.1 = 0 ∨ Λ' = Λ) {ini : Bool} {c pc pc' : Nat} {σ : PSt} {i : Instr} {st : List Value} {q : Nat × List Value × PSt} (h : pS Λ ini c pc pc' σ i st = some q) : pS Λ' ini c pc pc' σ i st = some q := by
  rcases hΛ with hΛ | rfl
  · cases i
    case iaload =>
      rcases oLdI_i h with ⟨i, ob, r, rfl, hh, e⟩ | ⟨i, ob, r, rfl, hh, e⟩
      · subst e
        show oLdI Λ' 1 (.int i :: .ref ob :: r) pc' σ = _
        unfold oLdI
        dsimp only
        rw [if_pos hh]
      · exact absurd hh.2.1 (by omega)
    case baload =>
      rcases oLdI_i h with ⟨i, ob, r, rfl, hh, e⟩ | ⟨i, ob, r, rfl, hh, e⟩
      · subst e
        show oLdI Λ' 2 (.int i :: .ref ob :: r) pc' σ = _
        unfold oLdI
        dsimp only
        rw [if_pos hh]
      · exact absurd hh.2.1 (by omega)
    case saload =>
      rcases oLdI_i h with ⟨i, ob, r, rfl, hh, e⟩ | ⟨i, ob, r, rfl, hh, e⟩
      · subst e
        show oLdI Λ' 3 (.int i :: .ref ob :: r) pc' σ = _
        unfold oLdI
        dsimp only
        rw [if_pos hh]
      · exact absurd hh.2.1 (by omega)
    case arraylength =>
      rcases oLen_i h with ⟨ob, r, rfl, hh, e⟩ | ⟨ob, r, rfl, hh, e⟩
      · subst e
        show oLen Λ' (.ref ob :: r) pc' σ = _
        unfold oLen
        dsimp only
        rw [if_pos hh]
      · exact absurd hh (by omega)
    all_goals exact h
  · exact h
set_option maxHeartbeats 4000000 in
theorem prun_mono (Λ Λ' : PRo) (hΛ : Λ.1 = 0 ∨ Λ' = Λ) : ∀ (n d m pc : Nat) (L : PL) (st : List Value) (σ : PSt) (r : Option Value × PSt), prun Λ n d m pc L st σ = some r → ∀ (n' d' : Nat) (L' : PL), n ≤ n' → d ≤ d' → SubL L L' → prun Λ' n' d' m pc L' st σ = some r := by
  intro n
  induction n with
  | zero => intro d m pc L st σ r h; cases h
  | succ n ih =>
    intro d m pc L st σ r h n' d' L' hn hdd hs
    obtain ⟨n1, rfl⟩ : ∃ n1, n' = n1 + 1 := ⟨n' - 1, by omega⟩
    have hn1 : n ≤ n1 := by omega
    unfold prun at h
    split at h
    next => cases h
    next i len hd =>
    split at h
    next hlen =>
      split at h
      next v' hret =>
        split at h
        next hok =>
          cases h
          exact prun_R hd hlen hret hok
        next => cases h
      next hret =>
        split at h
        next k idx hcall =>
          split at h
          next => cases h
          next d1 =>
          obtain ⟨d2, rfl⟩ : ∃ d2, d' = d2 + 1 := ⟨d' - 1, by omega⟩
          split at h
          next y hca =>
            split at h
            next hkd =>
              split at h
              next as rest hpop =>
                split at h
                next hc =>
                  split at h
                  next v2 σ2 hcal =>
                    rw [prun_C hd hlen hcall hca hkd hpop hc (ih _ _ _ _ _ _ _ hcal n1 d2 _ hn1 (by omega) (fun _ _ h => h))]
                    exact ih _ _ _ _ _ _ _ h n1 (d2 + 1) L' hn1 (by omega) hs
                  next => cases h
                next => cases h
              next => cases h
            next => cases h
          next hca =>
            split at h
            next hoi =>
              split at h
              next o rest =>
                split at h
                next hcr =>
                  rw [prun_O hd hlen hcall hca hoi hcr]
                  exact ih _ _ _ _ _ _ _ h n1 (d2 + 1) L' hn1 (by omega) hs
                next => cases h
              next => cases h
            next hoi =>
              split at h
              next hac =>
                split at h
                next rest τ hcp =>
                  rw [prun_A hd hlen hcall hca hoi hac hcp]
                  exact ih _ _ _ _ _ _ _ h n1 (d2 + 1) L' hn1 (by omega) hs
                next => cases h
              next hac =>
                split at h
                next hk2 =>
                  split at h
                  next j hmm =>
                    split at h
                    next st1 hst =>
                      rw [prun_M hd hlen hcall hca hoi hac hk2 hmm hst]
                      exact ih _ _ _ _ _ _ _ h n1 (d2 + 1) L' hn1 (by omega) hs
                    next => cases h
                  next => cases h
                next => cases h
        next hcall =>
          split at h
          next pc2 st2 σ2 hps =>
            rw [prun_S hd hlen (pS_ro hΛ hps)]
            exact ih _ _ _ _ _ _ _ h n1 d' L' hn1 hdd hs
          next =>
            split at h
            next L2 st2 hpl =>
              obtain ⟨L3, h3, h4⟩ := pL_sub hs hpl
              rw [prun_L hd hlen h3]
              exact ih _ _ _ _ _ _ _ h n1 d' L3 hn1 hdd h4
            next => cases h
    next => cases h
end
section
/-! ===== ROWS: a function's answer is the run's answer ===== -/
abbrev SS : Type := (Nat → Nat → Int32) × (Nat → Nat → Int64)
def LAM0 : PRo := (0, fun _ => 0, fun _ _ => 0)
def runX : Option (Option Value × PSt) := prun LAM0 1500 12 138 0 [(0, .ref 0)] [] (mkc σ00 0 11 11)
def σX : PSt := (runX.getD (none, σ00)).2
def runM : Option (Option Value × PSt) := prun LAM0 1500 12 188 0 [(0, .ref (pnc σX))] [] (mkc σX 0 12 60)
def σM : PSt := (runM.getD (none, σ00)).2
theorem get_of {r : Option (Option Value × PSt)} (h1 : r.isSome = true) (h2 : (r.getD (none, σ00)).1.isNone = true) : r = some (none, (r.getD (none, σ00)).2) := by
  cases r with
  | none => cases h1
  | some q =>
    obtain ⟨v, τ⟩ := q
    cases v with
    | none => rfl
    | some v => cases h2
set_option maxRecDepth 100000 in
theorem runX_ok : runX = some (none, σX) := get_of (by decide +kernel) (by decide +kernel)
set_option maxRecDepth 100000 in
theorem runM_ok : runM = some (none, σM) := get_of (by decide +kernel) (by decide +kernel)
/-- the script, and what stands fast of a state: cells, kinds, references -/
abbrev EE : Type := Nat × (Nat → Int32) × PSt
abbrev lam (E : EE) : PRo := LAM E.1 E.2.1
/-- a state: ints and longs by cell and place -/
def mk (E : EE) (q : SS) : PSt := (pnc E.2.2, pns E.2.2, ply E.2.2, prv E.2.2, q.1, q.2)
def qof (τ : PSt) : SS := (piv τ, plv τ)
theorem mk_eta (L : Nat) (xs : Nat → Int32) (τ : PSt) : mk (L, xs, τ) (qof τ) = τ := rfl
end
section
def sI (q : SS) (k i : Nat) (x : Int32) : SS := (up2 q.1 k i x, q.2)
def sL (q : SS) (k i : Nat) (x : Int64) : SS := (q.1, up2 q.2 k i x)
def sR (q : SS) (k : Nat) (f : Nat → Int32) : SS := (up1 q.1 k f, q.2)
def sRL (q : SS) (k : Nat) (f : Nat → Int64) : SS := (q.1, up1 q.2 k f)
def nm {α β : Type} (e : α) (k : α → β) : β := k e
abbrev jrem (x y : Int32) : Int32 := x - x / y * y
abbrev jlrem (x y : Int64) : Int64 := x - x / y * y
abbrev jushr (x y : Int32) : Int32 := (x.toUInt32 >>> (y.toUInt32 &&& Int32.toUInt32 31)).toInt32
abbrev jshl (x y : Int32) : Int32 := x <<< (y &&& 31)
abbrev jshr (x y : Int32) : Int32 := x >>> (y &&& 31)
abbrev jlshl (x : Int64) (y : Int32) : Int64 := x <<< (y.toInt64 &&& 63)
abbrev jmax (x y : Int32) : Int32 := if x < y then y else x
abbrev jmin (x y : Int32) : Int32 := if y < x then y else x
def fx1 {A ρ : Type} (F : (A → Option ρ) → A → Option ρ) : Nat → A → Option ρ
  | 0, _ => none
  | n + 1, a => F (fx1 F n) a
def fx2 {A0 A1 ρ : Type} (F : (A0 → A1 → Option ρ) → A0 → A1 → Option ρ) : Nat → A0 → A1 → Option ρ
  | 0, _, _ => none
  | n + 1, a0, a1 => F (fx2 F n) a0 a1
def fx3 {A0 A1 A2 ρ : Type} (F : (A0 → A1 → A2 → Option ρ) → A0 → A1 → A2 → Option ρ) : Nat → A0 → A1 → A2 → Option ρ
  | 0, _, _, _ => none
  | n + 1, a0, a1, a2 => F (fx3 F n) a0 a1 a2
def fx4 {A0 A1 A2 A3 ρ : Type} (F : (A0 → A1 → A2 → A3 → Option ρ) → A0 → A1 → A2 → A3 → Option ρ) : Nat → A0 → A1 → A2 → A3 → Option ρ
  | 0, _, _, _, _ => none
  | n + 1, a0, a1, a2, a3 => F (fx4 F n) a0 a1 a2 a3
def fx5 {A0 A1 A2 A3 A4 ρ : Type} (F : (A0 → A1 → A2 → A3 → A4 → Option ρ) → A0 → A1 → A2 → A3 → A4 → Option ρ) : Nat → A0 → A1 → A2 → A3 → A4 → Option ρ
  | 0, _, _, _, _, _ => none
  | n + 1, a0, a1, a2, a3, a4 => F (fx5 F n) a0 a1 a2 a3 a4
def fx6 {A0 A1 A2 A3 A4 A5 ρ : Type} (F : (A0 → A1 → A2 → A3 → A4 → A5 → Option ρ) → A0 → A1 → A2 → A3 → A4 → A5 → Option ρ) : Nat → A0 → A1 → A2 → A3 → A4 → A5 → Option ρ
  | 0, _, _, _, _, _, _ => none
  | n + 1, a0, a1, a2, a3, a4, a5 => F (fx6 F n) a0 a1 a2 a3 a4 a5
def fx7 {A0 A1 A2 A3 A4 A5 A6 ρ : Type} (F : (A0 → A1 → A2 → A3 → A4 → A5 → A6 → Option ρ) → A0 → A1 → A2 → A3 → A4 → A5 → A6 → Option ρ) : Nat → A0 → A1 → A2 → A3 → A4 → A5 → A6 → Option ρ
  | 0, _, _, _, _, _, _, _ => none
  | n + 1, a0, a1, a2, a3, a4, a5, a6 => F (fx7 F n) a0 a1 a2 a3 a4 a5 a6
def fx8 {A0 A1 A2 A3 A4 A5 A6 A7 ρ : Type} (F : (A0 → A1 → A2 → A3 → A4 → A5 → A6 → A7 → Option ρ) → A0 → A1 → A2 → A3 → A4 → A5 → A6 → A7 → Option ρ) : Nat → A0 → A1 → A2 → A3 → A4 → A5 → A6 → A7 → Option ρ
  | 0, _, _, _, _, _, _, _, _ => none
  | n + 1, a0, a1, a2, a3, a4, a5, a6, a7 => F (fx8 F n) a0 a1 a2 a3 a4 a5 a6 a7
def fx9 {A0 A1 A2 A3 A4 A5 A6 A7 A8 ρ : Type} (F : (A0 → A1 → A2 → A3 → A4 → A5 → A6 → A7 → A8 → Option ρ) → A0 → A1 → A2 → A3 → A4 → A5 → A6 → A7 → A8 → Option ρ) : Nat → A0 → A1 → A2 → A3 → A4 → A5 → A6 → A7 → A8 → Option ρ
  | 0, _, _, _, _, _, _, _, _, _ => none
  | n + 1, a0, a1, a2, a3, a4, a5, a6, a7, a8 => F (fx9 F n) a0 a1 a2 a3 a4 a5 a6 a7 a8
def fx10 {A0 A1 A2 A3 A4 A5 A6 A7 A8 A9 ρ : Type} (F : (A0 → A1 → A2 → A3 → A4 → A5 → A6 → A7 → A8 → A9 → Option ρ) → A0 → A1 → A2 → A3 → A4 → A5 → A6 → A7 → A8 → A9 → Option ρ) : Nat → A0 → A1 → A2 → A3 → A4 → A5 → A6 → A7 → A8 → A9 → Option ρ
  | 0, _, _, _, _, _, _, _, _, _, _ => none
  | n + 1, a0, a1, a2, a3, a4, a5, a6, a7, a8, a9 => F (fx10 F n) a0 a1 a2 a3 a4 a5 a6 a7 a8 a9
def fx11 {A0 A1 A2 A3 A4 A5 A6 A7 A8 A9 A10 ρ : Type} (F : (A0 → A1 → A2 → A3 → A4 → A5 → A6 → A7 → A8 → A9 → A10 → Option ρ) → A0 → A1 → A2 → A3 → A4 → A5 → A6 → A7 → A8 → A9 → A10 → Option ρ) : Nat → A0 → A1 → A2 → A3 → A4 → A5 → A6 → A7 → A8 → A9 → A10 → Option ρ
  | 0, _, _, _, _, _, _, _, _, _, _, _ => none
  | n + 1, a0, a1, a2, a3, a4, a5, a6, a7, a8, a9, a10 => F (fx11 F n) a0 a1 a2 a3 a4 a5 a6 a7 a8 a9 a10
def fx12 {A0 A1 A2 A3 A4 A5 A6 A7 A8 A9 A10 A11 ρ : Type} (F : (A0 → A1 → A2 → A3 → A4 → A5 → A6 → A7 → A8 → A9 → A10 → A11 → Option ρ) → A0 → A1 → A2 → A3 → A4 → A5 → A6 → A7 → A8 → A9 → A10 → A11 → Option ρ) : Nat → A0 → A1 → A2 → A3 → A4 → A5 → A6 → A7 → A8 → A9 → A10 → A11 → Option ρ
  | 0, _, _, _, _, _, _, _, _, _, _, _, _ => none
  | n + 1, a0, a1, a2, a3, a4, a5, a6, a7, a8, a9, a10, a11 => F (fx12 F n) a0 a1 a2 a3 a4 a5 a6 a7 a8 a9 a10 a11
def sw {ρ : Type} (x : Int32) : List (Int × Option ρ) → Option ρ → Option ρ
  | [], d => d
  | (k, o) :: t, d => if x.toInt = k then o else sw x t d
def R (E : EE) {ρ : Type} (κ : ρ → Option Value × PSt) (d m pc : Nat) (L : PL) (st : List Value) (q : SS) (o : Option ρ) : Prop := ∀ r, o = some r → ∃ n, prun (lam E) n d m pc L st (mk E q) = some (κ r)
abbrev κI (E : EE) (r : Int32 × SS) : Option Value × PSt := (some (.int r.1), mk E r.2)
abbrev κL (E : EE) (r : Int64 × SS) : Option Value × PSt := (some (.long r.1), mk E r.2)
abbrev κV (E : EE) (r : SS) : Option Value × PSt := (none, mk E r)
abbrev κA (E : EE) (j : Nat) (r : SS) : Option Value × PSt := (some (.ref j), mk E r)
abbrev κi (E : EE) (q : SS) (r : Int32) : Option Value × PSt := (some (.int r), mk E q)
abbrev κl (E : EE) (q : SS) (r : Int64) : Option Value × PSt := (some (.long r), mk E q)
abbrev κv (E : EE) (q : SS) (_ : Unit) : Option Value × PSt := (none, mk E q)
abbrev κa (E : EE) (j : Nat) (q : SS) (_ : Unit) : Option Value × PSt := (some (.ref j), mk E q)
section ROWS
variable {E : EE} {ρ : Type} {κ : ρ → Option Value × PSt} {d m pc : Nat} {L L2 : PL} {st st2 : List Value} {q q2 : SS} {o o1 o2 : Option ρ}
theorem r_no : R E κ d m pc L st q (none : Option ρ) := fun r h => by cases h
theorem r_S {i : Instr} {len pc2 : Nat} (hd : decode (mB m) pc = .ok (i, len)) (hl : lenOk i len = true) (h : pS (lam E) (isIni m) (mC m) pc (pc + len) (mk E q) i st = some (pc2, st2, mk E q2)) (k : R E κ d m pc2 L st2 q2 o) : R E κ d m pc L st q o := fun r hr => by
  obtain ⟨n, hn⟩ := k r hr
  exact ⟨n + 1, (prun_S hd hl h).trans hn⟩
theorem r_L {i : Instr} {len : Nat} (hd : decode (mB m) pc = .ok (i, len)) (hl : lenOk i len = true) (h : pL i (mL m) L st = some (L2, st2)) (k : R E κ d m (pc + len) L2 st2 q o) : R E κ d m pc L st q o := fun r hr => by
  obtain ⟨n, hn⟩ := k r hr
  exact ⟨n + 1, (prun_L hd hl h).trans hn⟩
theorem r_ite {c : Prop} [Decidable c] (k1 : c → R E κ d m pc L st q o1) (k2 : ¬ c → R E κ d m pc L st q o2) : R E κ d m pc L st q (if c then o1 else o2) := by
  by_cases h : c
  · rw [if_pos h]; exact k1 h
  · rw [if_neg h]; exact k2 h
theorem r_chk {c : Prop} [Decidable c] (k1 : c → R E κ d m pc L st q o1) : R E κ d m pc L st q (if c then o1 else none) := r_ite k1 (fun _ => r_no)
theorem r_sub {L' : PL} (h : SubL L' L) (k : R E κ d m pc L' st q o) : R E κ d m pc L st q o := fun r hr => by
  obtain ⟨n, hn⟩ := k r hr
  exact ⟨n, prun_mono _ _ (Or.inr rfl) _ _ _ _ _ _ _ _ hn n d L (Nat.le_refl _) (Nat.le_refl _) h⟩
theorem sub_n : SubL [] L := fun k v h => by cases h
theorem sub_c {k0 : Nat} {v0 : Value} {t : PL} (h0 : lk L k0 = some v0) (h : SubL t L) : SubL ((k0, v0) :: t) L := fun k v hk => by
  rw [lk_cons] at hk
  cases e : Nat.beq k0 k with
  | true =>
    rw [show Nat.beq (k0, v0).1 k = true from e] at hk
    cases hk
    have : k0 = k := Nat.eq_of_beq_eq_true e
    subst this
    exact h0
  | false =>
    rw [show Nat.beq (k0, v0).1 k = false from e] at hk
    exact h k v hk
theorem r_nmI {x : Int32} {f : Int32 → Option ρ} (k : ∀ y, y = x → R E κ d m pc L (.int y :: st) q (f y)) : R E κ d m pc L (.int x :: st) q (nm x f) := k x rfl
theorem r_nmL {x : Int64} {f : Int64 → Option ρ} (k : ∀ y, y = x → R E κ d m pc L (.long y :: st) q (f y)) : R E κ d m pc L (.long x :: st) q (nm x f) := k x rfl
theorem r_nmS {f : SS → Option ρ} (k : ∀ y, y = q → R E κ d m pc L st y (f y)) : R E κ d m pc L st q (nm q f) := k q rfl
theorem r_iconst {n : Int} {v : Int32} (hd : decode (mB m) pc = .ok (.iconst n, 1)) (hv : Int32.ofInt n = v) (k : R E κ d m (pc + 1) L (.int v :: st) q o) : R E κ d m pc L st q o := r_S hd rfl rfl (by rw [hv]; exact k)
theorem r_bipush {n : Int} {v : Int32} (hd : decode (mB m) pc = .ok (.bipush n, 2)) (hv : (Int8.ofInt n).toInt32 = v) (k : R E κ d m (pc + 2) L (.int v :: st) q o) : R E κ d m pc L st q o := r_S hd rfl rfl (by rw [hv]; exact k)
theorem r_sipush {n : Int} {v : Int32} (hd : decode (mB m) pc = .ok (.sipush n, 3)) (hv : (Int16.ofInt n).toInt32 = v) (k : R E κ d m (pc + 3) L (.int v :: st) q o) : R E κ d m pc L st q o := r_S hd rfl rfl (by rw [hv]; exact k)
theorem r_lconst {n : Fin 2} {v : Int64} (hd : decode (mB m) pc = .ok (.lconst n, 1)) (hv : Int64.ofNat (n : Nat) = v) (k : R E κ d m (pc + 1) L (.long v :: st) q o) : R E κ d m pc L st q o := r_S hd rfl rfl (by rw [hv]; exact k)
theorem r_ldc {j : Nat} {v : Int32} (hd : decode (mB m) pc = .ok (.ldc_w j, 3)) (hv : ki (mC m) j = some v) (k : R E κ d m (pc + 3) L (.int v :: st) q o) : R E κ d m pc L st q o := r_S hd rfl (show Option.map _ (ki (mC m) j) = _ by rw [hv]; rfl) k
theorem r_ldc2 {j : Nat} {v : Int64} (hd : decode (mB m) pc = .ok (.ldc2_w j, 3)) (hv : kl (mC m) j = some v) (k : R E κ d m (pc + 3) L (.long v :: st) q o) : R E κ d m pc L st q o := r_S hd rfl (show Option.map _ (kl (mC m) j) = _ by rw [hv]; rfl) k
theorem r_iload_n {j : Fin 4} {x : Int32} (hd : decode (mB m) pc = .ok (.iload_n j, 1)) (h : lk L (j : Nat) = some (.int x)) (k : R E κ d m (pc + 1) L (.int x :: st) q o) : R E κ d m pc L st q o := r_L hd rfl (show pLd okI L (j : Nat) st = _ by unfold pLd; rw [h]; rfl) k
theorem r_iload {j : Nat} {x : Int32} (hd : decode (mB m) pc = .ok (.iload j, 2)) (h : lk L j = some (.int x)) (k : R E κ d m (pc + 2) L (.int x :: st) q o) : R E κ d m pc L st q o := r_L hd rfl (show pLd okI L j st = _ by unfold pLd; rw [h]; rfl) k
theorem r_lload_n {j : Fin 4} {x : Int64} (hd : decode (mB m) pc = .ok (.lload_n j, 1)) (h : lk L (j : Nat) = some (.long x)) (k : R E κ d m (pc + 1) L (.long x :: st) q o) : R E κ d m pc L st q o := r_L hd rfl (show pLd okL L (j : Nat) st = _ by unfold pLd; rw [h]; rfl) k
theorem r_lload {j : Nat} {x : Int64} (hd : decode (mB m) pc = .ok (.lload j, 2)) (h : lk L j = some (.long x)) (k : R E κ d m (pc + 2) L (.long x :: st) q o) : R E κ d m pc L st q o := r_L hd rfl (show pLd okL L j st = _ by unfold pLd; rw [h]; rfl) k
theorem r_aload_n {j : Fin 4} {x : Nat} (hd : decode (mB m) pc = .ok (.aload_n j, 1)) (h : lk L (j : Nat) = some (.ref x)) (k : R E κ d m (pc + 1) L (.ref x :: st) q o) : R E κ d m pc L st q o := r_L hd rfl (show pLd okA L (j : Nat) st = _ by unfold pLd; rw [h]; rfl) k
theorem r_aload {j : Nat} {x : Nat} (hd : decode (mB m) pc = .ok (.aload j, 2)) (h : lk L j = some (.ref x)) (k : R E κ d m (pc + 2) L (.ref x :: st) q o) : R E κ d m pc L st q o := r_L hd rfl (show pLd okA L j st = _ by unfold pLd; rw [h]; rfl) k
theorem r_roload_n {j : Fin 4} {x : Nat} (hd : decode (mB m) pc = .ok (.aload_n j, 1)) (h : lk L (j : Nat) = some (.retAddr x)) (k : R E κ d m (pc + 1) L (.retAddr x :: st) q o) : R E κ d m pc L st q o := r_L hd rfl (show pLd okA L (j : Nat) st = _ by unfold pLd; rw [h]; rfl) k
theorem r_roload {j : Nat} {x : Nat} (hd : decode (mB m) pc = .ok (.aload j, 2)) (h : lk L j = some (.retAddr x)) (k : R E κ d m (pc + 2) L (.retAddr x :: st) q o) : R E κ d m pc L st q o := r_L hd rfl (show pLd okA L j st = _ by unfold pLd; rw [h]; rfl) k
theorem r_istore_n {j : Fin 4} {x : Int32} (hd : decode (mB m) pc = .ok (.istore_n j, 1)) (hn : Nat.blt (j : Nat) (mL m) = true) (h : ins1 L (j : Nat) (.int x) = L2) (k : R E κ d m (pc + 1) L2 st q o) : R E κ d m pc L (.int x :: st) q o := r_L hd rfl (show pSt1 okI (mL m) L (j : Nat) (.int x :: st) = _ by unfold pSt1; dsimp only; rw [hn, h]; rfl) k
theorem r_istore {j : Nat} {x : Int32} (hd : decode (mB m) pc = .ok (.istore j, 2)) (hn : Nat.blt j (mL m) = true) (h : ins1 L j (.int x) = L2) (k : R E κ d m (pc + 2) L2 st q o) : R E κ d m pc L (.int x :: st) q o := r_L hd rfl (show pSt1 okI (mL m) L j (.int x :: st) = _ by unfold pSt1; dsimp only; rw [hn, h]; rfl) k
theorem r_astore_n {j : Fin 4} {x : Nat} (hd : decode (mB m) pc = .ok (.astore_n j, 1)) (hn : Nat.blt (j : Nat) (mL m) = true) (h : ins1 L (j : Nat) (.ref x) = L2) (k : R E κ d m (pc + 1) L2 st q o) : R E κ d m pc L (.ref x :: st) q o := r_L hd rfl (show pSt1 okA (mL m) L (j : Nat) (.ref x :: st) = _ by unfold pSt1; dsimp only; rw [hn, h]; rfl) k
theorem r_astore {j : Nat} {x : Nat} (hd : decode (mB m) pc = .ok (.astore j, 2)) (hn : Nat.blt j (mL m) = true) (h : ins1 L j (.ref x) = L2) (k : R E κ d m (pc + 2) L2 st q o) : R E κ d m pc L (.ref x :: st) q o := r_L hd rfl (show pSt1 okA (mL m) L j (.ref x :: st) = _ by unfold pSt1; dsimp only; rw [hn, h]; rfl) k
theorem r_lstore_n {j : Fin 4} {x : Int64} (hd : decode (mB m) pc = .ok (.lstore_n j, 1)) (hn : Nat.blt ((j : Nat) + 1) (mL m) = true) (h : ins2 L (j : Nat) (.long x) = L2) (k : R E κ d m (pc + 1) L2 st q o) : R E κ d m pc L (.long x :: st) q o := r_L hd rfl (show pSt2 (mL m) L (j : Nat) (.long x :: st) = _ by unfold pSt2; dsimp only; rw [hn, h]; rfl) k
theorem r_lstore {j : Nat} {x : Int64} (hd : decode (mB m) pc = .ok (.lstore j, 2)) (hn : Nat.blt (j + 1) (mL m) = true) (h : ins2 L j (.long x) = L2) (k : R E κ d m (pc + 2) L2 st q o) : R E κ d m pc L (.long x :: st) q o := r_L hd rfl (show pSt2 (mL m) L j (.long x :: st) = _ by unfold pSt2; dsimp only; rw [hn, h]; rfl) k
theorem r_iinc {j : Nat} {n : Int} {x v : Int32} (hd : decode (mB m) pc = .ok (.iinc j n, 3)) (hn : Nat.blt j (mL m) = true) (hx : lk L j = some (.int x)) (hv : x + Int32.ofInt n = v) (h : ins1 L j (.int v) = L2) (k : R E κ d m (pc + 3) L2 st q o) : R E κ d m pc L st q o := r_L hd rfl (by unfold pL; dsimp only; rw [hx]; dsimp only; rw [hn, hv, h]; rfl) k
theorem r_iadd {x y : Int32} (hd : decode (mB m) pc = .ok (.iadd, 1)) (k : R E κ d m (pc + 1) L (.int (x + y) :: st) q o) : R E κ d m pc L (.int y :: .int x :: st) q o := r_S hd rfl rfl k
theorem r_isub {x y : Int32} (hd : decode (mB m) pc = .ok (.isub, 1)) (k : R E κ d m (pc + 1) L (.int (x - y) :: st) q o) : R E κ d m pc L (.int y :: .int x :: st) q o := r_S hd rfl rfl k
theorem r_imul {x y : Int32} (hd : decode (mB m) pc = .ok (.imul, 1)) (k : R E κ d m (pc + 1) L (.int (x * y) :: st) q o) : R E κ d m pc L (.int y :: .int x :: st) q o := r_S hd rfl rfl k
theorem r_iand {x y : Int32} (hd : decode (mB m) pc = .ok (.iand, 1)) (k : R E κ d m (pc + 1) L (.int (x &&& y) :: st) q o) : R E κ d m pc L (.int y :: .int x :: st) q o := r_S hd rfl rfl k
theorem r_ior {x y : Int32} (hd : decode (mB m) pc = .ok (.ior, 1)) (k : R E κ d m (pc + 1) L (.int (x ||| y) :: st) q o) : R E κ d m pc L (.int y :: .int x :: st) q o := r_S hd rfl rfl k
theorem r_ixor {x y : Int32} (hd : decode (mB m) pc = .ok (.ixor, 1)) (k : R E κ d m (pc + 1) L (.int (x ^^^ y) :: st) q o) : R E κ d m pc L (.int y :: .int x :: st) q o := r_S hd rfl rfl k
theorem r_ishl {x y : Int32} (hd : decode (mB m) pc = .ok (.ishl, 1)) (k : R E κ d m (pc + 1) L (.int (jshl x y) :: st) q o) : R E κ d m pc L (.int y :: .int x :: st) q o := r_S hd rfl rfl k
theorem r_ishr {x y : Int32} (hd : decode (mB m) pc = .ok (.ishr, 1)) (k : R E κ d m (pc + 1) L (.int (jshr x y) :: st) q o) : R E κ d m pc L (.int y :: .int x :: st) q o := r_S hd rfl rfl k
theorem r_iushr {x y : Int32} (hd : decode (mB m) pc = .ok (.iushr, 1)) (k : R E κ d m (pc + 1) L (.int (jushr x y) :: st) q o) : R E κ d m pc L (.int y :: .int x :: st) q o := r_S hd rfl rfl k
theorem r_idiv {x y : Int32} (hd : decode (mB m) pc = .ok (.idiv, 1)) (k : R E κ d m (pc + 1) L (.int (x / y) :: st) q o) : R E κ d m pc L (.int y :: .int x :: st) q (if y = 0 then none else o) := r_ite (fun _ => r_no) (fun h => r_S hd rfl (show (if y = 0 then none else some (pc + 1, Value.int (x / y) :: st, mk E q)) = some (pc + 1, Value.int (x / y) :: st, mk E q) from if_neg h) k)
theorem r_idivC {x y : Int32} (hd : decode (mB m) pc = .ok (.idiv, 1)) (h : ¬ y = 0) (k : R E κ d m (pc + 1) L (.int (x / y) :: st) q o) : R E κ d m pc L (.int y :: .int x :: st) q o := r_S hd rfl (show (if y = 0 then none else some (pc + 1, Value.int (x / y) :: st, mk E q)) = some (pc + 1, Value.int (x / y) :: st, mk E q) from if_neg h) k
theorem r_irem {x y : Int32} (hd : decode (mB m) pc = .ok (.irem, 1)) (k : R E κ d m (pc + 1) L (.int (jrem x y) :: st) q o) : R E κ d m pc L (.int y :: .int x :: st) q (if y = 0 then none else o) := r_ite (fun _ => r_no) (fun h => r_S hd rfl (show (if y = 0 then none else some (pc + 1, Value.int (jrem x y) :: st, mk E q)) = some (pc + 1, Value.int (jrem x y) :: st, mk E q) from if_neg h) k)
theorem r_iremC {x y : Int32} (hd : decode (mB m) pc = .ok (.irem, 1)) (h : ¬ y = 0) (k : R E κ d m (pc + 1) L (.int (jrem x y) :: st) q o) : R E κ d m pc L (.int y :: .int x :: st) q o := r_S hd rfl (show (if y = 0 then none else some (pc + 1, Value.int (jrem x y) :: st, mk E q)) = some (pc + 1, Value.int (jrem x y) :: st, mk E q) from if_neg h) k
theorem r_ineg {x : Int32} (hd : decode (mB m) pc = .ok (.ineg, 1)) (k : R E κ d m (pc + 1) L (.int (-x) :: st) q o) : R E κ d m pc L (.int x :: st) q o := r_S hd rfl rfl k
theorem r_i2b {x : Int32} (hd : decode (mB m) pc = .ok (.i2b, 1)) (k : R E κ d m (pc + 1) L (.int (x.toInt8.toInt32) :: st) q o) : R E κ d m pc L (.int x :: st) q o := r_S hd rfl rfl k
theorem r_i2s {x : Int32} (hd : decode (mB m) pc = .ok (.i2s, 1)) (k : R E κ d m (pc + 1) L (.int (x.toInt16.toInt32) :: st) q o) : R E κ d m pc L (.int x :: st) q o := r_S hd rfl rfl k
theorem r_i2l {x : Int32} (hd : decode (mB m) pc = .ok (.i2l, 1)) (k : R E κ d m (pc + 1) L (.long x.toInt64 :: st) q o) : R E κ d m pc L (.int x :: st) q o := r_S hd rfl rfl k
theorem r_l2i {x : Int64} (hd : decode (mB m) pc = .ok (.l2i, 1)) (k : R E κ d m (pc + 1) L (.int x.toInt32 :: st) q o) : R E κ d m pc L (.long x :: st) q o := r_S hd rfl rfl k
theorem r_ladd {x y : Int64} (hd : decode (mB m) pc = .ok (.ladd, 1)) (k : R E κ d m (pc + 1) L (.long (x + y) :: st) q o) : R E κ d m pc L (.long y :: .long x :: st) q o := r_S hd rfl rfl k
theorem r_lsub {x y : Int64} (hd : decode (mB m) pc = .ok (.lsub, 1)) (k : R E κ d m (pc + 1) L (.long (x - y) :: st) q o) : R E κ d m pc L (.long y :: .long x :: st) q o := r_S hd rfl rfl k
theorem r_lmul {x y : Int64} (hd : decode (mB m) pc = .ok (.lmul, 1)) (k : R E κ d m (pc + 1) L (.long (x * y) :: st) q o) : R E κ d m pc L (.long y :: .long x :: st) q o := r_S hd rfl rfl k
theorem r_land {x y : Int64} (hd : decode (mB m) pc = .ok (.land, 1)) (k : R E κ d m (pc + 1) L (.long (x &&& y) :: st) q o) : R E κ d m pc L (.long y :: .long x :: st) q o := r_S hd rfl rfl k
theorem r_lor {x y : Int64} (hd : decode (mB m) pc = .ok (.lor, 1)) (k : R E κ d m (pc + 1) L (.long (x ||| y) :: st) q o) : R E κ d m pc L (.long y :: .long x :: st) q o := r_S hd rfl rfl k
theorem r_ldiv {x y : Int64} (hd : decode (mB m) pc = .ok (.ldiv, 1)) (k : R E κ d m (pc + 1) L (.long (x / y) :: st) q o) : R E κ d m pc L (.long y :: .long x :: st) q (if y = 0 then none else o) := r_ite (fun _ => r_no) (fun h => r_S hd rfl (show (if y = 0 then none else some (pc + 1, Value.long (x / y) :: st, mk E q)) = some (pc + 1, Value.long (x / y) :: st, mk E q) from if_neg h) k)
theorem r_lrem {x y : Int64} (hd : decode (mB m) pc = .ok (.lrem, 1)) (k : R E κ d m (pc + 1) L (.long (jlrem x y) :: st) q o) : R E κ d m pc L (.long y :: .long x :: st) q (if y = 0 then none else o) := r_ite (fun _ => r_no) (fun h => r_S hd rfl (show (if y = 0 then none else some (pc + 1, Value.long (jlrem x y) :: st, mk E q)) = some (pc + 1, Value.long (jlrem x y) :: st, mk E q) from if_neg h) k)
theorem r_lcmp {x y : Int64} (hd : decode (mB m) pc = .ok (.lcmp, 1)) (k : R E κ d m (pc + 1) L (.int (lg_cmp x y) :: st) q o) : R E κ d m pc L (.long y :: .long x :: st) q o := r_S hd rfl rfl k
theorem r_lshl {x : Int64} {y : Int32} (hd : decode (mB m) pc = .ok (.lshl, 1)) (k : R E κ d m (pc + 1) L (.long (jlshl x y) :: st) q o) : R E κ d m pc L (.int y :: .long x :: st) q o := r_S hd rfl rfl k
theorem r_dup {v : Value} (hd : decode (mB m) pc = .ok (.dup, 1)) (hv : v.category = 1) (k : R E κ d m (pc + 1) L (v :: v :: st) q o) : R E κ d m pc L (v :: st) q o := r_S hd rfl (by unfold pS; dsimp only; rw [if_pos hv]) k
theorem r_dup2 {v w : Value} (hd : decode (mB m) pc = .ok (.dup2, 1)) (hv : v.category = 1 ∧ w.category = 1) (k : R E κ d m (pc + 1) L (v :: w :: v :: w :: st) q o) : R E κ d m pc L (v :: w :: st) q o := r_S hd rfl (by unfold pS; dsimp only; rw [if_pos hv]) k
theorem r_pop {v : Value} (hd : decode (mB m) pc = .ok (.pop, 1)) (hv : v.category = 1) (k : R E κ d m (pc + 1) L st q o) : R E κ d m pc L (v :: st) q o := r_S hd rfl (by unfold pS; dsimp only; rw [if_pos hv]) k
theorem r_goto {off : Int} {t : Nat} (hd : decode (mB m) pc = .ok (.goto off, 3)) (ht : tgt pc off = some t) (k : R E κ d m t L st q o) : R E κ d m pc L st q o := r_S hd rfl (by unfold pS; dsimp only; rw [ht]; rfl) k
theorem r_if_eq {x : Int32} {off : Int} {t : Nat} (hd : decode (mB m) pc = .ok (.ifCond .eq off, 3)) (ht : tgt pc off = some t) (k1 : x = 0 → R E κ d m t L st q o1) (k2 : ¬ x = 0 → R E κ d m (pc + 3) L st q o2) : R E κ d m pc L (.int x :: st) q (if x = 0 then o1 else o2) := r_ite (fun h => r_S hd rfl (by unfold pS; dsimp only; rw [ht]; show some (pbr .eq _ _ _ _, _, _) = _; unfold pbr; dsimp only; rw [if_pos h]) (k1 h)) (fun h => r_S hd rfl (by unfold pS; dsimp only; rw [ht]; show some (pbr .eq _ _ _ _, _, _) = _; unfold pbr; dsimp only; rw [if_neg h]) (k2 h))
theorem r_icmp_eq {x y : Int32} {off : Int} {t : Nat} (hd : decode (mB m) pc = .ok (.if_icmp .eq off, 3)) (ht : tgt pc off = some t) (k1 : x = y → R E κ d m t L st q o1) (k2 : ¬ x = y → R E κ d m (pc + 3) L st q o2) : R E κ d m pc L (.int y :: .int x :: st) q (if x = y then o1 else o2) := r_ite (fun h => r_S hd rfl (by unfold pS; dsimp only; rw [ht]; show some (pbr .eq _ _ _ _, _, _) = _; unfold pbr; dsimp only; rw [if_pos h]) (k1 h)) (fun h => r_S hd rfl (by unfold pS; dsimp only; rw [ht]; show some (pbr .eq _ _ _ _, _, _) = _; unfold pbr; dsimp only; rw [if_neg h]) (k2 h))
theorem r_if_ne {x : Int32} {off : Int} {t : Nat} (hd : decode (mB m) pc = .ok (.ifCond .ne off, 3)) (ht : tgt pc off = some t) (k2 : x = 0 → R E κ d m (pc + 3) L st q o2) (k1 : ¬ x = 0 → R E κ d m t L st q o1) : R E κ d m pc L (.int x :: st) q (if x = 0 then o2 else o1) := r_ite (fun h => r_S hd rfl (by unfold pS; dsimp only; rw [ht]; show some (pbr .ne _ _ _ _, _, _) = _; unfold pbr; dsimp only; rw [if_pos h]) (k2 h)) (fun h => r_S hd rfl (by unfold pS; dsimp only; rw [ht]; show some (pbr .ne _ _ _ _, _, _) = _; unfold pbr; dsimp only; rw [if_neg h]) (k1 h))
theorem r_icmp_ne {x y : Int32} {off : Int} {t : Nat} (hd : decode (mB m) pc = .ok (.if_icmp .ne off, 3)) (ht : tgt pc off = some t) (k2 : x = y → R E κ d m (pc + 3) L st q o2) (k1 : ¬ x = y → R E κ d m t L st q o1) : R E κ d m pc L (.int y :: .int x :: st) q (if x = y then o2 else o1) := r_ite (fun h => r_S hd rfl (by unfold pS; dsimp only; rw [ht]; show some (pbr .ne _ _ _ _, _, _) = _; unfold pbr; dsimp only; rw [if_pos h]) (k2 h)) (fun h => r_S hd rfl (by unfold pS; dsimp only; rw [ht]; show some (pbr .ne _ _ _ _, _, _) = _; unfold pbr; dsimp only; rw [if_neg h]) (k1 h))
theorem r_if_lt {x : Int32} {off : Int} {t : Nat} (hd : decode (mB m) pc = .ok (.ifCond .lt off, 3)) (ht : tgt pc off = some t) (k1 : x < 0 → R E κ d m t L st q o1) (k2 : ¬ x < 0 → R E κ d m (pc + 3) L st q o2) : R E κ d m pc L (.int x :: st) q (if x < 0 then o1 else o2) := r_ite (fun h => r_S hd rfl (by unfold pS; dsimp only; rw [ht]; show some (pbr .lt _ _ _ _, _, _) = _; unfold pbr; dsimp only; rw [if_pos h]) (k1 h)) (fun h => r_S hd rfl (by unfold pS; dsimp only; rw [ht]; show some (pbr .lt _ _ _ _, _, _) = _; unfold pbr; dsimp only; rw [if_neg h]) (k2 h))
theorem r_icmp_lt {x y : Int32} {off : Int} {t : Nat} (hd : decode (mB m) pc = .ok (.if_icmp .lt off, 3)) (ht : tgt pc off = some t) (k1 : x < y → R E κ d m t L st q o1) (k2 : ¬ x < y → R E κ d m (pc + 3) L st q o2) : R E κ d m pc L (.int y :: .int x :: st) q (if x < y then o1 else o2) := r_ite (fun h => r_S hd rfl (by unfold pS; dsimp only; rw [ht]; show some (pbr .lt _ _ _ _, _, _) = _; unfold pbr; dsimp only; rw [if_pos h]) (k1 h)) (fun h => r_S hd rfl (by unfold pS; dsimp only; rw [ht]; show some (pbr .lt _ _ _ _, _, _) = _; unfold pbr; dsimp only; rw [if_neg h]) (k2 h))
theorem r_if_ge {x : Int32} {off : Int} {t : Nat} (hd : decode (mB m) pc = .ok (.ifCond .ge off, 3)) (ht : tgt pc off = some t) (k1 : 0 ≤ x → R E κ d m t L st q o1) (k2 : ¬ 0 ≤ x → R E κ d m (pc + 3) L st q o2) : R E κ d m pc L (.int x :: st) q (if 0 ≤ x then o1 else o2) := r_ite (fun h => r_S hd rfl (by unfold pS; dsimp only; rw [ht]; show some (pbr .ge _ _ _ _, _, _) = _; unfold pbr; dsimp only; rw [if_pos h]) (k1 h)) (fun h => r_S hd rfl (by unfold pS; dsimp only; rw [ht]; show some (pbr .ge _ _ _ _, _, _) = _; unfold pbr; dsimp only; rw [if_neg h]) (k2 h))
theorem r_icmp_ge {x y : Int32} {off : Int} {t : Nat} (hd : decode (mB m) pc = .ok (.if_icmp .ge off, 3)) (ht : tgt pc off = some t) (k1 : y ≤ x → R E κ d m t L st q o1) (k2 : ¬ y ≤ x → R E κ d m (pc + 3) L st q o2) : R E κ d m pc L (.int y :: .int x :: st) q (if y ≤ x then o1 else o2) := r_ite (fun h => r_S hd rfl (by unfold pS; dsimp only; rw [ht]; show some (pbr .ge _ _ _ _, _, _) = _; unfold pbr; dsimp only; rw [if_pos h]) (k1 h)) (fun h => r_S hd rfl (by unfold pS; dsimp only; rw [ht]; show some (pbr .ge _ _ _ _, _, _) = _; unfold pbr; dsimp only; rw [if_neg h]) (k2 h))
theorem r_if_gt {x : Int32} {off : Int} {t : Nat} (hd : decode (mB m) pc = .ok (.ifCond .gt off, 3)) (ht : tgt pc off = some t) (k1 : 0 < x → R E κ d m t L st q o1) (k2 : ¬ 0 < x → R E κ d m (pc + 3) L st q o2) : R E κ d m pc L (.int x :: st) q (if 0 < x then o1 else o2) := r_ite (fun h => r_S hd rfl (by unfold pS; dsimp only; rw [ht]; show some (pbr .gt _ _ _ _, _, _) = _; unfold pbr; dsimp only; rw [if_pos h]) (k1 h)) (fun h => r_S hd rfl (by unfold pS; dsimp only; rw [ht]; show some (pbr .gt _ _ _ _, _, _) = _; unfold pbr; dsimp only; rw [if_neg h]) (k2 h))
theorem r_icmp_gt {x y : Int32} {off : Int} {t : Nat} (hd : decode (mB m) pc = .ok (.if_icmp .gt off, 3)) (ht : tgt pc off = some t) (k1 : y < x → R E κ d m t L st q o1) (k2 : ¬ y < x → R E κ d m (pc + 3) L st q o2) : R E κ d m pc L (.int y :: .int x :: st) q (if y < x then o1 else o2) := r_ite (fun h => r_S hd rfl (by unfold pS; dsimp only; rw [ht]; show some (pbr .gt _ _ _ _, _, _) = _; unfold pbr; dsimp only; rw [if_pos h]) (k1 h)) (fun h => r_S hd rfl (by unfold pS; dsimp only; rw [ht]; show some (pbr .gt _ _ _ _, _, _) = _; unfold pbr; dsimp only; rw [if_neg h]) (k2 h))
theorem r_if_le {x : Int32} {off : Int} {t : Nat} (hd : decode (mB m) pc = .ok (.ifCond .le off, 3)) (ht : tgt pc off = some t) (k1 : x ≤ 0 → R E κ d m t L st q o1) (k2 : ¬ x ≤ 0 → R E κ d m (pc + 3) L st q o2) : R E κ d m pc L (.int x :: st) q (if x ≤ 0 then o1 else o2) := r_ite (fun h => r_S hd rfl (by unfold pS; dsimp only; rw [ht]; show some (pbr .le _ _ _ _, _, _) = _; unfold pbr; dsimp only; rw [if_pos h]) (k1 h)) (fun h => r_S hd rfl (by unfold pS; dsimp only; rw [ht]; show some (pbr .le _ _ _ _, _, _) = _; unfold pbr; dsimp only; rw [if_neg h]) (k2 h))
theorem r_icmp_le {x y : Int32} {off : Int} {t : Nat} (hd : decode (mB m) pc = .ok (.if_icmp .le off, 3)) (ht : tgt pc off = some t) (k1 : x ≤ y → R E κ d m t L st q o1) (k2 : ¬ x ≤ y → R E κ d m (pc + 3) L st q o2) : R E κ d m pc L (.int y :: .int x :: st) q (if x ≤ y then o1 else o2) := r_ite (fun h => r_S hd rfl (by unfold pS; dsimp only; rw [ht]; show some (pbr .le _ _ _ _, _, _) = _; unfold pbr; dsimp only; rw [if_pos h]) (k1 h)) (fun h => r_S hd rfl (by unfold pS; dsimp only; rw [ht]; show some (pbr .le _ _ _ _, _, _) = _; unfold pbr; dsimp only; rw [if_neg h]) (k2 h))
def swj (i : Instr) (pc : Nat) (v : Int) : Option Nat := match i with
  | .tableswitch d lo hi offs => if v < lo ∨ hi < v then tgt pc d else (offs[(v - lo).toNat]?).bind (tgt pc)
  | .lookupswitch d ps => if (ps.toList.zip (ps.toList.drop 1)).all (fun (a, next) => a.1 < next.1) = true then tgt pc (Op.lookupswitch.offset ps.toList d v) else none
  | _ => none
theorem r_jmp {i : Instr} {len t : Nat} {x : Int32} (hd : decode (mB m) pc = .ok (i, len)) (hl : lenOk i len = true) (hj : swj i pc x.toInt = some t) (k : R E κ d m t L st q o) : R E κ d m pc L (.int x :: st) q o := by
  cases i
  case tableswitch dd lo hi offs =>
    refine r_S hd hl ?_ k
    unfold swj at hj
    unfold pS
    dsimp only at hj ⊢
    split at hj
    next h =>
      rw [if_pos h, hj]
      rfl
    next h =>
      rw [if_neg h]
      obtain ⟨off, h1, h2⟩ := Option.bind_eq_some_iff.mp hj
      rw [h1, Option.bind_some, h2]
      rfl
  case lookupswitch dd ps =>
    refine r_S hd hl ?_ k
    unfold swj at hj
    unfold pS
    dsimp only at hj ⊢
    split at hj
    next h =>
      rw [if_pos h, hj]
      rfl
    next h => cases hj
  all_goals (have h2 : (none : Option Nat) = some t := hj; cases h2)
theorem r_sw1 {x : Int32} {j : Int} {t : List (Int × Option ρ)} {od : Option ρ} (k1 : x.toInt = j → R E κ d m pc L st q o1) (k2 : ¬ x.toInt = j → R E κ d m pc L st q (sw x t od)) : R E κ d m pc L st q (sw x ((j, o1) :: t) od) := r_ite k1 k2
/-! fields and rows of the fixed cells -/
def FF (E : EE) (c k o f kd : Nat) : Prop := ∃ ci, fl c k = some (ci, f) ∧ o < pnc E.2.2 ∧ ply E.2.2 o = (0, ci) ∧ f < nF ci ∧ fk ci f = kd ∧ ffin ci f = false
def FA (E : EE) (c k o j : Nat) : Prop := ∃ ci f, fl c k = some (ci, f) ∧ o < pnc E.2.2 ∧ ply E.2.2 o = (0, ci) ∧ f < nF ci ∧ fk ci f = 0 ∧ prv E.2.2 o f = some j
def AR (E : EE) (o t n : Nat) : Prop := o < pnc E.2.2 ∧ ply E.2.2 o = (t, n)
def OB (E : EE) (o ci : Nat) : Prop := o < pnc E.2.2 ∧ ply E.2.2 o = (0, ci)
theorem r_getI {k ob f kd : Nat} (hd : decode (mB m) pc = .ok (.getfield k, 3)) (h : FF E (mC m) k ob f kd) (hk : kd = 1 ∨ kd = 3) (kk : R E κ d m (pc + 3) L (.int (q.1 ob f) :: st) q o) : R E κ d m pc L (.ref ob :: st) q o := by
  obtain ⟨ci, h1, h2, h3, h4, h5, h6⟩ := h
  refine r_S hd rfl (q2 := q) (show oGet (mC m) k (.ref ob :: st) (pc + 3) (mk E q) = _ from ?_) kk
  unfold oGet
  dsimp only
  rw [h1]
  dsimp only
  rw [if_pos ⟨h2, h3, h4⟩]
  have e : fval (mk E q) ci ob f = .int (q.1 ob f) := by
    unfold fval
    rw [h5]
    rcases hk with rfl | rfl <;> rfl
  rw [e]
theorem r_getL {k ob f : Nat} (hd : decode (mB m) pc = .ok (.getfield k, 3)) (h : FF E (mC m) k ob f 2) (kk : R E κ d m (pc + 3) L (.long (q.2 ob f) :: st) q o) : R E κ d m pc L (.ref ob :: st) q o := by
  obtain ⟨ci, h1, h2, h3, h4, h5, h6⟩ := h
  refine r_S hd rfl (q2 := q) (show oGet (mC m) k (.ref ob :: st) (pc + 3) (mk E q) = _ from ?_) kk
  unfold oGet
  dsimp only
  rw [h1]
  dsimp only
  rw [if_pos ⟨h2, h3, h4⟩]
  have e : fval (mk E q) ci ob f = .long (q.2 ob f) := by
    unfold fval
    rw [h5]
    rfl
  rw [e]
theorem r_getA {k ob j : Nat} (hd : decode (mB m) pc = .ok (.getfield k, 3)) (h : FA E (mC m) k ob j) (kk : R E κ d m (pc + 3) L (.ref j :: st) q o) : R E κ d m pc L (.ref ob :: st) q o := by
  obtain ⟨ci, f, h1, h2, h3, h4, h5, h6⟩ := h
  refine r_S hd rfl (q2 := q) (show oGet (mC m) k (.ref ob :: st) (pc + 3) (mk E q) = _ from ?_) kk
  unfold oGet
  dsimp only
  rw [h1]
  dsimp only
  rw [if_pos ⟨h2, h3, h4⟩]
  have e : fval (mk E q) ci ob f = .ref j := by
    unfold fval
    rw [h5]
    show (match prv E.2.2 ob f with | some j => Value.ref j | none => Value.null) = _
    rw [h6]
  rw [e]
theorem r_putI {k ob f : Nat} {x : Int32} (hd : decode (mB m) pc = .ok (.putfield k, 3)) (h : FF E (mC m) k ob f 1) (kk : R E κ d m (pc + 3) L st (sI q ob f x) o) : R E κ d m pc L (.int x :: .ref ob :: st) q o := by
  obtain ⟨ci, h1, h2, h3, h4, h5, h6⟩ := h
  refine r_S hd rfl (q2 := sI q ob f x) (show oPut (isIni m) (mC m) k (.int x :: .ref ob :: st) (pc + 3) (mk E q) = _ from ?_) kk
  unfold oPut
  dsimp only
  rw [h1]
  dsimp only
  rw [if_pos ⟨h2, h3, h4, fun h9 => by rw [h6] at h9; cases h9⟩, h5]
  rfl
theorem r_putZ {k ob f : Nat} {x : Int32} (hd : decode (mB m) pc = .ok (.putfield k, 3)) (h : FF E (mC m) k ob f 3) (kk : R E κ d m (pc + 3) L st (sI q ob f x) o) : R E κ d m pc L (.int x :: .ref ob :: st) q (if x = 0 ∨ x = 1 then o else none) := r_chk fun hx => by
  obtain ⟨ci, h1, h2, h3, h4, h5, h6⟩ := h
  refine r_S hd rfl (q2 := sI q ob f x) (show oPut (isIni m) (mC m) k (.int x :: .ref ob :: st) (pc + 3) (mk E q) = _ from ?_) kk
  unfold oPut
  dsimp only
  rw [h1]
  dsimp only
  rw [if_pos ⟨h2, h3, h4, fun h9 => by rw [h6] at h9; cases h9⟩, h5]
  unfold pval
  dsimp only
  rw [if_pos (Or.inr ⟨rfl, hx⟩)]
  rfl
theorem r_putL {k ob f : Nat} {x : Int64} (hd : decode (mB m) pc = .ok (.putfield k, 3)) (h : FF E (mC m) k ob f 2) (kk : R E κ d m (pc + 3) L st (sL q ob f x) o) : R E κ d m pc L (.long x :: .ref ob :: st) q o := by
  obtain ⟨ci, h1, h2, h3, h4, h5, h6⟩ := h
  refine r_S hd rfl (q2 := sL q ob f x) (show oPut (isIni m) (mC m) k (.long x :: .ref ob :: st) (pc + 3) (mk E q) = _ from ?_) kk
  unfold oPut
  dsimp only
  rw [h1]
  dsimp only
  rw [if_pos ⟨h2, h3, h4, fun h9 => by rw [h6] at h9; cases h9⟩, h5]
  rfl
theorem r_gets {k j : Nat} (hd : decode (mB m) pc = .ok (.getstatic k, 3)) (h : sk (mC m) k = some j) (kk : R E κ d m (pc + 3) L (.retAddr j :: st) q o) : R E κ d m pc L st q o := r_S hd rfl (show Option.map _ (sk (mC m) k) = _ by rw [h]; rfl) kk
theorem r_iaload {ob n : Nat} {i : Int32} (hd : decode (mB m) pc = .ok (.iaload, 1)) (h : AR E ob 1 n) (kk : R E κ d m (pc + 1) L (.int (q.1 ob i.toNatClampNeg) :: st) q o) : R E κ d m pc L (.int i :: .ref ob :: st) q (if vin i n then o else none) := r_chk fun hi => by
  refine r_S hd rfl (q2 := q) (show oLdI (lam E) 1 (.int i :: .ref ob :: st) (pc + 1) (mk E q) = _ from ?_) kk
  unfold oLdI
  dsimp only
  have e : ply (mk E q) ob = (1, n) := h.2
  rw [if_pos ⟨h.1, by rw [e], by rw [e]; exact hi⟩]
  rfl
theorem r_baload {ob n : Nat} {i : Int32} (hd : decode (mB m) pc = .ok (.baload, 1)) (h : AR E ob 2 n) (kk : R E κ d m (pc + 1) L (.int (q.1 ob i.toNatClampNeg) :: st) q o) : R E κ d m pc L (.int i :: .ref ob :: st) q (if vin i n then o else none) := r_chk fun hi => by
  refine r_S hd rfl (q2 := q) (show oLdI (lam E) 2 (.int i :: .ref ob :: st) (pc + 1) (mk E q) = _ from ?_) kk
  unfold oLdI
  dsimp only
  have e : ply (mk E q) ob = (2, n) := h.2
  rw [if_pos ⟨h.1, by rw [e], by rw [e]; exact hi⟩]
  rfl
theorem r_saload {ob n : Nat} {i : Int32} (hd : decode (mB m) pc = .ok (.saload, 1)) (h : AR E ob 3 n) (kk : R E κ d m (pc + 1) L (.int (q.1 ob i.toNatClampNeg) :: st) q o) : R E κ d m pc L (.int i :: .ref ob :: st) q (if vin i n then o else none) := r_chk fun hi => by
  refine r_S hd rfl (q2 := q) (show oLdI (lam E) 3 (.int i :: .ref ob :: st) (pc + 1) (mk E q) = _ from ?_) kk
  unfold oLdI
  dsimp only
  have e : ply (mk E q) ob = (3, n) := h.2
  rw [if_pos ⟨h.1, by rw [e], by rw [e]; exact hi⟩]
  rfl
theorem r_laload {ob n : Nat} {i : Int32} (hd : decode (mB m) pc = .ok (.laload, 1)) (h : AR E ob 4 n) (kk : R E κ d m (pc + 1) L (.long (q.2 ob i.toNatClampNeg) :: st) q o) : R E κ d m pc L (.int i :: .ref ob :: st) q (if vin i n then o else none) := r_chk fun hi => by
  refine r_S hd rfl (q2 := q) (show oLdL (.int i :: .ref ob :: st) (pc + 1) (mk E q) = _ from ?_) kk
  unfold oLdL
  dsimp only
  have e : ply (mk E q) ob = (4, n) := h.2
  rw [if_pos ⟨h.1, by rw [e], by rw [e]; exact hi⟩]
  rfl
theorem r_aaload {ob t n b0 : Nat} {i : Int32} (hd : decode (mB m) pc = .ok (.aaload, 1)) (h : AR E ob t n) (ht : t = 5 ∨ t = 6) (hr : ∀ j, j < n → prv E.2.2 ob j = some (b0 + j)) (kk : vin i n → R E κ d m (pc + 1) L (.ref (b0 + i.toNatClampNeg) :: st) q o) : R E κ d m pc L (.int i :: .ref ob :: st) q (if vin i n then o else none) := r_chk fun hi => by
  refine r_S hd rfl (q2 := q) (show oLdA (.int i :: .ref ob :: st) (pc + 1) (mk E q) = _ from ?_) (kk hi)
  unfold oLdA
  dsimp only
  have e : ply (mk E q) ob = (t, n) := h.2
  rw [if_pos ⟨h.1, by rw [e]; exact ht, by rw [e]; exact hi⟩, show prv (mk E q) ob i.toNatClampNeg = some (b0 + i.toNatClampNeg) from hr _ (vin_lt hi)]
  rfl
theorem r_roaload {j : Nat} {i : Int32} (hd : decode (mB m) pc = .ok (.iaload, 1)) (hj : j < 4) (kk : R E κ d m (pc + 1) L (.int ((lam E).2.2 j i.toNatClampNeg) :: st) q o) : R E κ d m pc L (.int i :: .retAddr j :: st) q (if vin i ((lam E).2.1 j) then o else none) := r_chk fun hi => by
  refine r_S hd rfl (q2 := q) (show oLdI (lam E) 1 (.int i :: .retAddr j :: st) (pc + 1) (mk E q) = _ from ?_) kk
  unfold oLdI
  dsimp only
  rw [if_pos ⟨rfl, hj, hi⟩]
theorem r_len {ob t n : Nat} {v : Int32} (hd : decode (mB m) pc = .ok (.arraylength, 1)) (h : AR E ob t n) (ht : 1 ≤ t ∧ t ≤ 6) (hv : Int32.ofNat n = v) (kk : R E κ d m (pc + 1) L (.int v :: st) q o) : R E κ d m pc L (.ref ob :: st) q o := by
  refine r_S hd rfl (q2 := q) (show oLen (lam E) (.ref ob :: st) (pc + 1) (mk E q) = _ from ?_) kk
  unfold oLen
  dsimp only
  have e : ply (mk E q) ob = (t, n) := h.2
  rw [if_pos ⟨h.1, by rw [e]; exact ht.1, by rw [e]; exact ht.2⟩, e]
  dsimp only
  rw [hv]
theorem r_rolen {j : Nat} (hd : decode (mB m) pc = .ok (.arraylength, 1)) (hj : j < 4) (kk : R E κ d m (pc + 1) L (.int (Int32.ofNat ((lam E).2.1 j)) :: st) q o) : R E κ d m pc L (.retAddr j :: st) q o := by
  refine r_S hd rfl (q2 := q) (show oLen (lam E) (.retAddr j :: st) (pc + 1) (mk E q) = _ from ?_) kk
  unfold oLen
  dsimp only
  rw [if_pos (show j < (lam E).1 from hj)]
theorem r_iastore {ob n : Nat} {i x : Int32} (hd : decode (mB m) pc = .ok (.iastore, 1)) (h : AR E ob 1 n) (kk : R E κ d m (pc + 1) L st (sI q ob i.toNatClampNeg (x)) o) : R E κ d m pc L (.int x :: .int i :: .ref ob :: st) q (if vin i n then o else none) := r_chk fun hi => by
  refine r_S hd rfl (q2 := sI q ob i.toNatClampNeg (x)) (show oStI 1 (fun x => x) (.int x :: .int i :: .ref ob :: st) (pc + 1) (mk E q) = _ from ?_) kk
  unfold oStI
  dsimp only
  have e : ply (mk E q) ob = (1, n) := h.2
  rw [if_pos ⟨h.1, by rw [e], by rw [e]; exact hi⟩]
  rfl
theorem r_bastore {ob n : Nat} {i x : Int32} (hd : decode (mB m) pc = .ok (.bastore, 1)) (h : AR E ob 2 n) (kk : R E κ d m (pc + 1) L st (sI q ob i.toNatClampNeg (x.toInt8.toInt32)) o) : R E κ d m pc L (.int x :: .int i :: .ref ob :: st) q (if vin i n then o else none) := r_chk fun hi => by
  refine r_S hd rfl (q2 := sI q ob i.toNatClampNeg (x.toInt8.toInt32)) (show oStI 2 (fun x => x.toInt8.toInt32) (.int x :: .int i :: .ref ob :: st) (pc + 1) (mk E q) = _ from ?_) kk
  unfold oStI
  dsimp only
  have e : ply (mk E q) ob = (2, n) := h.2
  rw [if_pos ⟨h.1, by rw [e], by rw [e]; exact hi⟩]
  rfl
theorem r_sastore {ob n : Nat} {i x : Int32} (hd : decode (mB m) pc = .ok (.sastore, 1)) (h : AR E ob 3 n) (kk : R E κ d m (pc + 1) L st (sI q ob i.toNatClampNeg (x.toInt16.toInt32)) o) : R E κ d m pc L (.int x :: .int i :: .ref ob :: st) q (if vin i n then o else none) := r_chk fun hi => by
  refine r_S hd rfl (q2 := sI q ob i.toNatClampNeg (x.toInt16.toInt32)) (show oStI 3 (fun x => x.toInt16.toInt32) (.int x :: .int i :: .ref ob :: st) (pc + 1) (mk E q) = _ from ?_) kk
  unfold oStI
  dsimp only
  have e : ply (mk E q) ob = (3, n) := h.2
  rw [if_pos ⟨h.1, by rw [e], by rw [e]; exact hi⟩]
  rfl
theorem r_lastore {ob n : Nat} {i : Int32} {x : Int64} (hd : decode (mB m) pc = .ok (.lastore, 1)) (h : AR E ob 4 n) (kk : R E κ d m (pc + 1) L st (sL q ob i.toNatClampNeg x) o) : R E κ d m pc L (.long x :: .int i :: .ref ob :: st) q (if vin i n then o else none) := r_chk fun hi => by
  refine r_S hd rfl (q2 := sL q ob i.toNatClampNeg x) (show oStL (.long x :: .int i :: .ref ob :: st) (pc + 1) (mk E q) = _ from ?_) kk
  unfold oStL
  dsimp only
  have e : ply (mk E q) ob = (4, n) := h.2
  rw [if_pos ⟨h.1, by rw [e], by rw [e]; exact hi⟩]
  rfl
/-! returns -/
theorem r_ireturn {x : Int32} {r : ρ} (hd : decode (mB m) pc = .ok (.ireturn, 1)) (hok : okRet (mR m) (some (.int x)) = true) (hκ : κ r = (some (.int x), mk E q)) : R E κ d m pc L [.int x] q (some r) := fun r' hr => by
  cases hr
  exact ⟨1, (prun_R hd rfl rfl hok).trans (by rw [hκ])⟩
theorem r_zreturn {x : Int32} {r : ρ} (hd : decode (mB m) pc = .ok (.ireturn, 1)) (hm : mR m = some .boolean) (hκ : κ r = (some (.int x), mk E q)) : R E κ d m pc L [.int x] q (if x = 0 ∨ x = 1 then some r else none) := r_chk fun hx => r_ireturn hd (by rw [hm]; rcases hx with rfl | rfl <;> rfl) hκ
theorem r_lreturn {x : Int64} {r : ρ} (hd : decode (mB m) pc = .ok (.lreturn, 1)) (hok : okRet (mR m) (some (.long x)) = true) (hκ : κ r = (some (.long x), mk E q)) : R E κ d m pc L [.long x] q (some r) := fun r' hr => by
  cases hr
  exact ⟨1, (prun_R hd rfl rfl hok).trans (by rw [hκ])⟩
theorem r_areturn {x : Nat} {r : ρ} (hd : decode (mB m) pc = .ok (.areturn, 1)) (hok : okRet (mR m) (some (.ref x)) = true) (hκ : κ r = (some (.ref x), mk E q)) : R E κ d m pc L [.ref x] q (some r) := fun r' hr => by
  cases hr
  exact ⟨1, (prun_R hd rfl rfl hok).trans (by rw [hκ])⟩
theorem r_return {r : ρ} (hd : decode (mB m) pc = .ok (.return_, 1)) (hok : okRet (mR m) none = true) (hκ : κ r = (none, mk E q)) : R E κ d m pc L [] q (some r) := fun r' hr => by
  cases hr
  exact ⟨1, (prun_R hd rfl rfl hok).trans (by rw [hκ])⟩
/-! calls -/
def okc (k y : Nat) (as rest : List Value) : Bool := kdOk k y && (Nat.ble (catS rest) 8 && Nat.ble (catS as) (mL y))
theorem vok_v {k y ob ci : Nat} {as : List Value} (h : OB E ob ci) (hc : mC y = ci) : vOk k y (.ref ob :: as) (mk E q) = true := by
  unfold vOk
  cases e : Nat.beq k 2 with
  | true => rfl
  | false =>
    show (Nat.blt ob (pnc E.2.2) && (Nat.beq (ply E.2.2 ob).1 0 && Nat.beq (ply E.2.2 ob).2 (mC y))) = true
    rw [h.2, hc]
    have : Nat.blt ob (pnc E.2.2) = true := Nat.ble_eq_true_of_le h.1
    rw [this]
    show (true && (true && Nat.beq ci ci)) = true
    rw [Nat.beq_refl]
    rfl
theorem vok_s {y : Nat} {as : List Value} : vOk 2 y as (mk E q) = true := rfl
theorem r_call {ρ1 : Type} {κ1 : ρ1 → Option Value × PSt} {i : Instr} {k idx y : Nat} {as rest : List Value} {L0 : PL} {oc : Option ρ1} {f : ρ1 → Option ρ} (hd : decode (mB m) pc = .ok (i, 3)) (hl : lenOk i 3 = true) (hc : callOf i = some (k, idx)) (hca : ca (mC m) idx = some y) (hp : popN (nA y) st [] = some (as, rest)) (hok : okc k y as rest = true) (hvo : vOk k y as (mk E q) = true) (hL : entL as = L0)
    (hcal : R E κ1 d y 0 L0 [] q oc) (kk : ∀ r, ∃ v qr, κ1 r = (v, mk E qr) ∧ R E κ (d + 1) m (pc + 3) L (v.toList ++ rest) qr (f r)) : R E κ (d + 1) m pc L st q (oc.bind f) := fun r hr => by
  obtain ⟨r1, h1, h2⟩ := Option.bind_eq_some_iff.mp hr
  obtain ⟨n1, hn1⟩ := hcal r1 h1
  obtain ⟨v, qr, e, hk⟩ := kk r1
  obtain ⟨n2, hn2⟩ := hk r h2
  unfold okc at hok
  simp only [Bool.and_eq_true] at hok
  rw [e] at hn1
  subst hL
  refine ⟨max n1 n2 + 1, ?_⟩
  rw [prun_C hd hl hc hca hok.1 hp ⟨Nat.le_of_ble_eq_true hok.2.1, Nat.le_of_ble_eq_true hok.2.2, hvo⟩ (prun_mono _ _ (Or.inr rfl) _ _ _ _ _ _ _ _ hn1 _ _ _ (Nat.le_max_left _ _) (Nat.le_refl _) (fun _ _ h => h))]
  exact prun_mono _ _ (Or.inr rfl) _ _ _ _ _ _ _ _ hn2 _ _ _ (Nat.le_max_right _ _) (Nat.le_refl _) (fun _ _ h => h)
theorem r_callI {i : Instr} {k idx y : Nat} {as rest : List Value} {L0 : PL} {oc : Option (Int32 × SS)} {f : Int32 × SS → Option ρ} (hd : decode (mB m) pc = .ok (i, 3)) (hl : lenOk i 3 = true) (hc : callOf i = some (k, idx)) (hca : ca (mC m) idx = some y) (hp : popN (nA y) st [] = some (as, rest)) (hok : okc k y as rest = true) (hvo : vOk k y as (mk E q) = true) (hL : entL as = L0)
    (hcal : R E (κI E) d y 0 L0 [] q oc) (kk : ∀ r, R E κ (d + 1) m (pc + 3) L (.int r.1 :: rest) r.2 (f r)) : R E κ (d + 1) m pc L st q (oc.bind f) := r_call hd hl hc hca hp hok hvo hL hcal (fun r => ⟨some (.int r.1), r.2, rfl, kk r⟩)
theorem r_callL {i : Instr} {k idx y : Nat} {as rest : List Value} {L0 : PL} {oc : Option (Int64 × SS)} {f : Int64 × SS → Option ρ} (hd : decode (mB m) pc = .ok (i, 3)) (hl : lenOk i 3 = true) (hc : callOf i = some (k, idx)) (hca : ca (mC m) idx = some y) (hp : popN (nA y) st [] = some (as, rest)) (hok : okc k y as rest = true) (hvo : vOk k y as (mk E q) = true) (hL : entL as = L0)
    (hcal : R E (κL E) d y 0 L0 [] q oc) (kk : ∀ r, R E κ (d + 1) m (pc + 3) L (.long r.1 :: rest) r.2 (f r)) : R E κ (d + 1) m pc L st q (oc.bind f) := r_call hd hl hc hca hp hok hvo hL hcal (fun r => ⟨some (.long r.1), r.2, rfl, kk r⟩)
theorem r_callV {i : Instr} {k idx y : Nat} {as rest : List Value} {L0 : PL} {oc : Option (SS)} {f : SS → Option ρ} (hd : decode (mB m) pc = .ok (i, 3)) (hl : lenOk i 3 = true) (hc : callOf i = some (k, idx)) (hca : ca (mC m) idx = some y) (hp : popN (nA y) st [] = some (as, rest)) (hok : okc k y as rest = true) (hvo : vOk k y as (mk E q) = true) (hL : entL as = L0)
    (hcal : R E (κV E) d y 0 L0 [] q oc) (kk : ∀ r, R E κ (d + 1) m (pc + 3) L (rest) r (f r)) : R E κ (d + 1) m pc L st q (oc.bind f) := r_call hd hl hc hca hp hok hvo hL hcal (fun r => ⟨none, r, rfl, kk r⟩)
theorem r_calli {i : Instr} {k idx y : Nat} {as rest : List Value} {L0 : PL} {oc : Option (Int32)} {f : Int32 → Option ρ} (hd : decode (mB m) pc = .ok (i, 3)) (hl : lenOk i 3 = true) (hc : callOf i = some (k, idx)) (hca : ca (mC m) idx = some y) (hp : popN (nA y) st [] = some (as, rest)) (hok : okc k y as rest = true) (hvo : vOk k y as (mk E q) = true) (hL : entL as = L0)
    (hcal : R E (κi E q) d y 0 L0 [] q oc) (kk : ∀ r, R E κ (d + 1) m (pc + 3) L (.int r :: rest) q (f r)) : R E κ (d + 1) m pc L st q (oc.bind f) := r_call hd hl hc hca hp hok hvo hL hcal (fun r => ⟨some (.int r), q, rfl, kk r⟩)
theorem r_calll {i : Instr} {k idx y : Nat} {as rest : List Value} {L0 : PL} {oc : Option (Int64)} {f : Int64 → Option ρ} (hd : decode (mB m) pc = .ok (i, 3)) (hl : lenOk i 3 = true) (hc : callOf i = some (k, idx)) (hca : ca (mC m) idx = some y) (hp : popN (nA y) st [] = some (as, rest)) (hok : okc k y as rest = true) (hvo : vOk k y as (mk E q) = true) (hL : entL as = L0)
    (hcal : R E (κl E q) d y 0 L0 [] q oc) (kk : ∀ r, R E κ (d + 1) m (pc + 3) L (.long r :: rest) q (f r)) : R E κ (d + 1) m pc L st q (oc.bind f) := r_call hd hl hc hca hp hok hvo hL hcal (fun r => ⟨some (.long r), q, rfl, kk r⟩)
theorem r_callv {i : Instr} {k idx y : Nat} {as rest : List Value} {L0 : PL} {oc : Option (Unit)} {f : Unit → Option ρ} (hd : decode (mB m) pc = .ok (i, 3)) (hl : lenOk i 3 = true) (hc : callOf i = some (k, idx)) (hca : ca (mC m) idx = some y) (hp : popN (nA y) st [] = some (as, rest)) (hok : okc k y as rest = true) (hvo : vOk k y as (mk E q) = true) (hL : entL as = L0)
    (hcal : R E (κv E q) d y 0 L0 [] q oc) (kk : ∀ r, R E κ (d + 1) m (pc + 3) L (rest) q (f r)) : R E κ (d + 1) m pc L st q (oc.bind f) := r_call hd hl hc hca hp hok hvo hL hcal (fun r => ⟨none, q, rfl, kk r⟩)
theorem r_callA {i : Instr} {j k idx y : Nat} {as rest : List Value} {L0 : PL} {oc : Option SS} {f : SS → Option ρ} (hd : decode (mB m) pc = .ok (i, 3)) (hl : lenOk i 3 = true) (hc : callOf i = some (k, idx)) (hca : ca (mC m) idx = some y) (hp : popN (nA y) st [] = some (as, rest)) (hok : okc k y as rest = true) (hvo : vOk k y as (mk E q) = true) (hL : entL as = L0)
    (hcal : R E (κA E j) d y 0 L0 [] q oc) (kk : ∀ r, R E κ (d + 1) m (pc + 3) L (.ref j :: rest) r (f r)) : R E κ (d + 1) m pc L st q (oc.bind f) := r_call hd hl hc hca hp hok hvo hL hcal (fun r => ⟨some (.ref j), r, rfl, kk r⟩)
theorem r_calla {i : Instr} {j k idx y : Nat} {as rest : List Value} {L0 : PL} {oc : Option Unit} {f : Unit → Option ρ} (hd : decode (mB m) pc = .ok (i, 3)) (hl : lenOk i 3 = true) (hc : callOf i = some (k, idx)) (hca : ca (mC m) idx = some y) (hp : popN (nA y) st [] = some (as, rest)) (hok : okc k y as rest = true) (hvo : vOk k y as (mk E q) = true) (hL : entL as = L0)
    (hcal : R E (κa E j q) d y 0 L0 [] q oc) (kk : ∀ r, R E κ (d + 1) m (pc + 3) L (.ref j :: rest) q (f r)) : R E κ (d + 1) m pc L st q (oc.bind f) := r_call hd hl hc hca hp hok hvo hL hcal (fun r => ⟨some (.ref j), q, rfl, kk r⟩)
theorem r_mm {j idx : Nat} {x y v : Int32} (hd : decode (mB m) pc = .ok (.invokestatic idx, 3)) (hca : ca (mC m) idx = none ∧ oi (mC m) idx = false ∧ ac (mC m) idx = false ∧ mm (mC m) idx = some j) (hcr : Nat.ble (catS st) 8 = true) (hv : (bif Nat.beq j 0 then jmax x y else jmin x y) = v) (kk : R E κ (d + 1) m (pc + 3) L (.int v :: st) q o) : R E κ (d + 1) m pc L (.int y :: .int x :: st) q o := fun r hr => by
  obtain ⟨n, hn⟩ := kk r hr
  refine ⟨n + 1, ?_⟩
  obtain ⟨h1, h2, h3, h4⟩ := hca
  rw [prun_M hd rfl rfl h1 (by rw [h2]; intro h; cases h.2) (by rw [h3]; intro h; cases h.2) rfl h4 (st1 := .int v :: st)]
  · exact hn
  · unfold oMM
    dsimp only
    rw [if_pos (Nat.le_of_ble_eq_true hcr), ← hv]
    cases Nat.beq j 0 <;> rfl
abbrev cpok (n0 n1 : Nat) (sp dp n : Int32) : Prop := ¬ sp < 0 ∧ ¬ dp < 0 ∧ ¬ n < 0 ∧ sp.toNatClampNeg + n.toNatClampNeg ≤ n0 ∧ dp.toNatClampNeg + n.toNatClampNeg ≤ n1
theorem r_cpyI {idx a b n0 n1 : Nat} {sp dp n : Int32} (hd : decode (mB m) pc = .ok (.invokestatic idx, 3)) (hca : ca (mC m) idx = none ∧ oi (mC m) idx = false ∧ ac (mC m) idx = true) (ha : AR E a 1 n0) (hb : AR E b 1 n1) (hcr : Nat.ble (catS st) 8 = true)
    (kk : R E κ (d + 1) m (pc + 3) L st (sR q b (va_cpy (q.1 a) (q.1 b) sp.toNatClampNeg dp.toNatClampNeg n.toNatClampNeg)) o) : R E κ (d + 1) m pc L (.int n :: .int dp :: .ref b :: .int sp :: .ref a :: st) q (if cpok n0 n1 sp dp n then o else none) := r_chk fun hh r hr => by
  obtain ⟨n9, hn⟩ := kk r hr
  refine ⟨n9 + 1, ?_⟩
  obtain ⟨h1, h2, h3⟩ := hca
  rw [prun_A hd rfl rfl h1 (by rw [h2]; intro h; cases h.2) ⟨rfl, h3⟩ (rest := st) (σ1 := mk E (sR q b (va_cpy (q.1 a) (q.1 b) sp.toNatClampNeg dp.toNatClampNeg n.toNatClampNeg)))]
  · exact hn
  · have e1 : ply (mk E q) a = (1, n0) := ha.2
    have e2 : ply (mk E q) b = (1, n1) := hb.2
    unfold oCpy
    dsimp only
    rw [if_pos ⟨ha.1, hb.1, by rw [e1, e2], hh.1, hh.2.1, hh.2.2.1, by rw [e1]; exact hh.2.2.2.1, by rw [e2]; exact hh.2.2.2.2, Nat.le_of_ble_eq_true hcr⟩, if_pos (by rw [e1])]
    rfl
theorem r_cpyL {idx a b n0 n1 : Nat} {sp dp n : Int32} (hd : decode (mB m) pc = .ok (.invokestatic idx, 3)) (hca : ca (mC m) idx = none ∧ oi (mC m) idx = false ∧ ac (mC m) idx = true) (ha : AR E a 4 n0) (hb : AR E b 4 n1) (hcr : Nat.ble (catS st) 8 = true)
    (kk : R E κ (d + 1) m (pc + 3) L st (sRL q b (va_cpy (q.2 a) (q.2 b) sp.toNatClampNeg dp.toNatClampNeg n.toNatClampNeg)) o) : R E κ (d + 1) m pc L (.int n :: .int dp :: .ref b :: .int sp :: .ref a :: st) q (if cpok n0 n1 sp dp n then o else none) := r_chk fun hh r hr => by
  obtain ⟨n9, hn⟩ := kk r hr
  refine ⟨n9 + 1, ?_⟩
  obtain ⟨h1, h2, h3⟩ := hca
  rw [prun_A hd rfl rfl h1 (by rw [h2]; intro h; cases h.2) ⟨rfl, h3⟩ (rest := st) (σ1 := mk E (sRL q b (va_cpy (q.2 a) (q.2 b) sp.toNatClampNeg dp.toNatClampNeg n.toNatClampNeg)))]
  · exact hn
  · have e1 : ply (mk E q) a = (4, n0) := ha.2
    have e2 : ply (mk E q) b = (4, n1) := hb.2
    unfold oCpy
    dsimp only
    rw [if_pos ⟨ha.1, hb.1, by rw [e1, e2], hh.1, hh.2.1, hh.2.2.1, by rw [e1]; exact hh.2.2.2.1, by rw [e2]; exact hh.2.2.2.2, Nat.le_of_ble_eq_true hcr⟩, if_neg (by rw [e1]; show ¬ (4 : Nat) = 1; decide), if_pos (by rw [e1])]
    rfl
end ROWS
end
section
theorem i_vc : Claimed_1_1 ∧ Claimed_1_2 := sorry
end
