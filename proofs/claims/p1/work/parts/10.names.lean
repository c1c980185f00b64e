-- ===== PART A: goes FIRST, ahead of the names: the tables' words, and 'selects' of the private methods out of them =====
/-- a private method of a class that the tables say can be made, by its rows of tables_1 -/
def lw_okq (q : MethodName × Nat) : Prop := (q.1.cls ≠ "java/lang/invoke/MethodHandle" ∧ q.1.cls ≠ "java/lang/invoke/VarHandle") ∧ Cond.instantiable q.1.cls q.2 ∈ tables_1 ∧ Cond.privateMethod q.1 ∈ tables_1 ∧ Cond.instanceMethod q.1 ∈ tables_1
theorem lw_p0 : lw_okq (⟨"RowLineage$Sources", "addSource", "(I)I"⟩, 5) := ⟨⟨by decide +kernel, by decide +kernel⟩, List.mem_of_getElem? (i := 27) (by decide +kernel), List.mem_of_getElem? (i := 204) (by decide +kernel), List.mem_of_getElem? (i := 205) (by decide +kernel)⟩
theorem lw_p1 : lw_okq (⟨"RowLineage$Sources", "isSource", "(I)Z"⟩, 5) := ⟨⟨by decide +kernel, by decide +kernel⟩, List.mem_of_getElem? (i := 27) (by decide +kernel), List.mem_of_getElem? (i := 212) (by decide +kernel), List.mem_of_getElem? (i := 213) (by decide +kernel)⟩
theorem lw_p2 : lw_okq (⟨"RowLineage$Sources", "addRow", "(IIIII)I"⟩, 5) := ⟨⟨by decide +kernel, by decide +kernel⟩, List.mem_of_getElem? (i := 27) (by decide +kernel), List.mem_of_getElem? (i := 216) (by decide +kernel), List.mem_of_getElem? (i := 217) (by decide +kernel)⟩
theorem lw_p3 : lw_okq (⟨"RowLineage", "forgetWhatNodesGave", "()V"⟩, 9) := ⟨⟨by decide +kernel, by decide +kernel⟩, List.mem_of_getElem? (i := 19) (by decide +kernel), List.mem_of_getElem? (i := 220) (by decide +kernel), List.mem_of_getElem? (i := 221) (by decide +kernel)⟩
theorem lw_p4 : lw_okq (⟨"RowLineage", "openNode", "(IIII)LRowLineage$Node;"⟩, 9) := ⟨⟨by decide +kernel, by decide +kernel⟩, List.mem_of_getElem? (i := 19) (by decide +kernel), List.mem_of_getElem? (i := 228) (by decide +kernel), List.mem_of_getElem? (i := 229) (by decide +kernel)⟩
theorem lw_p5 : lw_okq (⟨"RowLineage$Node", "describe", "(IIII)V"⟩, 9) := ⟨⟨by decide +kernel, by decide +kernel⟩, List.mem_of_getElem? (i := 231) (by decide +kernel), List.mem_of_getElem? (i := 275) (by decide +kernel), List.mem_of_getElem? (i := 276) (by decide +kernel)⟩
theorem lw_p6 : lw_okq (⟨"RowLineage$Node", "detail", "(IIII)V"⟩, 9) := ⟨⟨by decide +kernel, by decide +kernel⟩, List.mem_of_getElem? (i := 231) (by decide +kernel), List.mem_of_getElem? (i := 279) (by decide +kernel), List.mem_of_getElem? (i := 280) (by decide +kernel)⟩
theorem lw_p7 : lw_okq (⟨"RowLineage", "hasColumn", "(II)Z"⟩, 9) := ⟨⟨by decide +kernel, by decide +kernel⟩, List.mem_of_getElem? (i := 19) (by decide +kernel), List.mem_of_getElem? (i := 287) (by decide +kernel), List.mem_of_getElem? (i := 288) (by decide +kernel)⟩
theorem lw_p8 : lw_okq (⟨"RowLineage", "isNode", "(I)Z"⟩, 9) := ⟨⟨by decide +kernel, by decide +kernel⟩, List.mem_of_getElem? (i := 19) (by decide +kernel), List.mem_of_getElem? (i := 291) (by decide +kernel), List.mem_of_getElem? (i := 292) (by decide +kernel)⟩
theorem lw_p9 : lw_okq (⟨"RowLineage", "addAlikeNode", "(III)I"⟩, 9) := ⟨⟨by decide +kernel, by decide +kernel⟩, List.mem_of_getElem? (i := 19) (by decide +kernel), List.mem_of_getElem? (i := 323) (by decide +kernel), List.mem_of_getElem? (i := 324) (by decide +kernel)⟩
theorem lw_p10 : lw_okq (⟨"RowLineage", "neededNodes", "(I)J"⟩, 9) := ⟨⟨by decide +kernel, by decide +kernel⟩, List.mem_of_getElem? (i := 19) (by decide +kernel), List.mem_of_getElem? (i := 343) (by decide +kernel), List.mem_of_getElem? (i := 344) (by decide +kernel)⟩
theorem lw_p11 : lw_okq (⟨"RowLineage", "bitOfNode", "(I)J"⟩, 9) := ⟨⟨by decide +kernel, by decide +kernel⟩, List.mem_of_getElem? (i := 19) (by decide +kernel), List.mem_of_getElem? (i := 347) (by decide +kernel), List.mem_of_getElem? (i := 348) (by decide +kernel)⟩
theorem lw_p12 : lw_okq (⟨"RowLineage", "tableOf", "(I)LRowLineage$Table;"⟩, 9) := ⟨⟨by decide +kernel, by decide +kernel⟩, List.mem_of_getElem? (i := 19) (by decide +kernel), List.mem_of_getElem? (i := 351) (by decide +kernel), List.mem_of_getElem? (i := 352) (by decide +kernel)⟩
theorem lw_p13 : lw_okq (⟨"RowLineage$Operators", "fill", "(LRowLineage$Node;LRowLineage$Sources;LRowLineage$Table;LRowLineage$Table;LRowLineage$Table;)Z"⟩, 5) := ⟨⟨by decide +kernel, by decide +kernel⟩, List.mem_of_getElem? (i := 58) (by decide +kernel), List.mem_of_getElem? (i := 355) (by decide +kernel), List.mem_of_getElem? (i := 356) (by decide +kernel)⟩
theorem lw_p14 : lw_okq (⟨"RowLineage$Table", "begin", "(I)V"⟩, 3) := ⟨⟨by decide +kernel, by decide +kernel⟩, List.mem_of_getElem? (i := 127) (by decide +kernel), List.mem_of_getElem? (i := 359) (by decide +kernel), List.mem_of_getElem? (i := 360) (by decide +kernel)⟩
theorem lw_p15 : lw_okq (⟨"RowLineage$Operators", "fillScan", "(LRowLineage$Node;LRowLineage$Sources;LRowLineage$Table;)Z"⟩, 5) := ⟨⟨by decide +kernel, by decide +kernel⟩, List.mem_of_getElem? (i := 58) (by decide +kernel), List.mem_of_getElem? (i := 363) (by decide +kernel), List.mem_of_getElem? (i := 364) (by decide +kernel)⟩
def lw_privs_1 : List (MethodName × Nat) := [(⟨"RowLineage$Sources", "addSource", "(I)I"⟩, 5), (⟨"RowLineage$Sources", "isSource", "(I)Z"⟩, 5), (⟨"RowLineage$Sources", "addRow", "(IIIII)I"⟩, 5), (⟨"RowLineage", "forgetWhatNodesGave", "()V"⟩, 9), (⟨"RowLineage", "openNode", "(IIII)LRowLineage$Node;"⟩, 9), (⟨"RowLineage$Node", "describe", "(IIII)V"⟩, 9), (⟨"RowLineage$Node", "detail", "(IIII)V"⟩, 9), (⟨"RowLineage", "hasColumn", "(II)Z"⟩, 9), (⟨"RowLineage", "isNode", "(I)Z"⟩, 9), (⟨"RowLineage", "addAlikeNode", "(III)I"⟩, 9), (⟨"RowLineage", "neededNodes", "(I)J"⟩, 9), (⟨"RowLineage", "bitOfNode", "(I)J"⟩, 9), (⟨"RowLineage", "tableOf", "(I)LRowLineage$Table;"⟩, 9), (⟨"RowLineage$Operators", "fill", "(LRowLineage$Node;LRowLineage$Sources;LRowLineage$Table;LRowLineage$Table;LRowLineage$Table;)Z"⟩, 5), (⟨"RowLineage$Table", "begin", "(I)V"⟩, 3), (⟨"RowLineage$Operators", "fillScan", "(LRowLineage$Node;LRowLineage$Sources;LRowLineage$Table;)Z"⟩, 5)]
theorem lw_r1 : ∀ q ∈ lw_privs_1, lw_okq q := List.forall_mem_cons.mpr ⟨lw_p0, List.forall_mem_cons.mpr ⟨lw_p1, List.forall_mem_cons.mpr ⟨lw_p2, List.forall_mem_cons.mpr ⟨lw_p3, List.forall_mem_cons.mpr ⟨lw_p4, List.forall_mem_cons.mpr ⟨lw_p5, List.forall_mem_cons.mpr ⟨lw_p6, List.forall_mem_cons.mpr ⟨lw_p7, List.forall_mem_cons.mpr ⟨lw_p8, List.forall_mem_cons.mpr ⟨lw_p9, List.forall_mem_cons.mpr ⟨lw_p10, List.forall_mem_cons.mpr ⟨lw_p11, List.forall_mem_cons.mpr ⟨lw_p12, List.forall_mem_cons.mpr ⟨lw_p13, List.forall_mem_cons.mpr ⟨lw_p14, List.forall_mem_cons.mpr ⟨lw_p15, fun _ h => absurd h List.not_mem_nil⟩⟩⟩⟩⟩⟩⟩⟩⟩⟩⟩⟩⟩⟩⟩⟩
theorem lw_p16 : lw_okq (⟨"RowLineage$Ways", "becomeTerm", "(JJ)V"⟩, 3) := ⟨⟨by decide +kernel, by decide +kernel⟩, List.mem_of_getElem? (i := 81) (by decide +kernel), List.mem_of_getElem? (i := 367) (by decide +kernel), List.mem_of_getElem? (i := 368) (by decide +kernel)⟩
theorem lw_p17 : lw_okq (⟨"RowLineage$Operators", "put", "(LRowLineage$Table;[ILRowLineage$Ways;)Z"⟩, 5) := ⟨⟨by decide +kernel, by decide +kernel⟩, List.mem_of_getElem? (i := 58) (by decide +kernel), List.mem_of_getElem? (i := 371) (by decide +kernel), List.mem_of_getElem? (i := 372) (by decide +kernel)⟩
theorem lw_p18 : lw_okq (⟨"RowLineage$Table", "findOrAdd", "([I)LRowLineage$Tuple;"⟩, 3) := ⟨⟨by decide +kernel, by decide +kernel⟩, List.mem_of_getElem? (i := 127) (by decide +kernel), List.mem_of_getElem? (i := 375) (by decide +kernel), List.mem_of_getElem? (i := 376) (by decide +kernel)⟩
theorem lw_p19 : lw_okq (⟨"RowLineage$Table", "firstBehind", "([I)I"⟩, 3) := ⟨⟨by decide +kernel, by decide +kernel⟩, List.mem_of_getElem? (i := 127) (by decide +kernel), List.mem_of_getElem? (i := 379) (by decide +kernel), List.mem_of_getElem? (i := 380) (by decide +kernel)⟩
theorem lw_p20 : lw_okq (⟨"RowLineage$Table", "order", "([I[I)I"⟩, 3) := ⟨⟨by decide +kernel, by decide +kernel⟩, List.mem_of_getElem? (i := 127) (by decide +kernel), List.mem_of_getElem? (i := 383) (by decide +kernel), List.mem_of_getElem? (i := 384) (by decide +kernel)⟩
theorem lw_p21 : lw_okq (⟨"RowLineage$Tuple", "become", "([I)V"⟩, 2) := ⟨⟨by decide +kernel, by decide +kernel⟩, List.mem_of_getElem? (i := 133) (by decide +kernel), List.mem_of_getElem? (i := 387) (by decide +kernel), List.mem_of_getElem? (i := 388) (by decide +kernel)⟩
theorem lw_p22 : lw_okq (⟨"RowLineage$Ways", "becomeFalse", "()V"⟩, 3) := ⟨⟨by decide +kernel, by decide +kernel⟩, List.mem_of_getElem? (i := 81) (by decide +kernel), List.mem_of_getElem? (i := 394) (by decide +kernel), List.mem_of_getElem? (i := 395) (by decide +kernel)⟩
theorem lw_p23 : lw_okq (⟨"RowLineage$Draft", "either", "(LRowLineage$Ways;LRowLineage$Ways;LRowLineage$Ways;)Z"⟩, 3) := ⟨⟨by decide +kernel, by decide +kernel⟩, List.mem_of_getElem? (i := 64) (by decide +kernel), List.mem_of_getElem? (i := 398) (by decide +kernel), List.mem_of_getElem? (i := 399) (by decide +kernel)⟩
theorem lw_p24 : lw_okq (⟨"RowLineage$Draft", "add", "(JJ)V"⟩, 3) := ⟨⟨by decide +kernel, by decide +kernel⟩, List.mem_of_getElem? (i := 64) (by decide +kernel), List.mem_of_getElem? (i := 402) (by decide +kernel), List.mem_of_getElem? (i := 403) (by decide +kernel)⟩
theorem lw_p25 : lw_okq (⟨"RowLineage$Draft", "settle", "(LRowLineage$Ways;)Z"⟩, 3) := ⟨⟨by decide +kernel, by decide +kernel⟩, List.mem_of_getElem? (i := 64) (by decide +kernel), List.mem_of_getElem? (i := 407) (by decide +kernel), List.mem_of_getElem? (i := 408) (by decide +kernel)⟩
theorem lw_p26 : lw_okq (⟨"RowLineage$Ways", "insert", "(JJ)V"⟩, 3) := ⟨⟨by decide +kernel, by decide +kernel⟩, List.mem_of_getElem? (i := 81) (by decide +kernel), List.mem_of_getElem? (i := 412) (by decide +kernel), List.mem_of_getElem? (i := 413) (by decide +kernel)⟩
theorem lw_p27 : lw_okq (⟨"RowLineage$Operators", "fillPick", "(LRowLineage$Node;LRowLineage$Table;LRowLineage$Table;)Z"⟩, 5) := ⟨⟨by decide +kernel, by decide +kernel⟩, List.mem_of_getElem? (i := 58) (by decide +kernel), List.mem_of_getElem? (i := 416) (by decide +kernel), List.mem_of_getElem? (i := 417) (by decide +kernel)⟩
theorem lw_p28 : lw_okq (⟨"RowLineage$Operators", "fillCols", "(LRowLineage$Node;LRowLineage$Table;LRowLineage$Table;)Z"⟩, 5) := ⟨⟨by decide +kernel, by decide +kernel⟩, List.mem_of_getElem? (i := 58) (by decide +kernel), List.mem_of_getElem? (i := 423) (by decide +kernel), List.mem_of_getElem? (i := 424) (by decide +kernel)⟩
theorem lw_p29 : lw_okq (⟨"RowLineage$Operators", "fillJoin", "(LRowLineage$Node;LRowLineage$Table;LRowLineage$Table;LRowLineage$Table;)Z"⟩, 5) := ⟨⟨by decide +kernel, by decide +kernel⟩, List.mem_of_getElem? (i := 58) (by decide +kernel), List.mem_of_getElem? (i := 427) (by decide +kernel), List.mem_of_getElem? (i := 428) (by decide +kernel)⟩
theorem lw_p30 : lw_okq (⟨"RowLineage$Operators", "putPair", "(LRowLineage$Table;ILRowLineage$Table;ILRowLineage$Table;)Z"⟩, 5) := ⟨⟨by decide +kernel, by decide +kernel⟩, List.mem_of_getElem? (i := 58) (by decide +kernel), List.mem_of_getElem? (i := 431) (by decide +kernel), List.mem_of_getElem? (i := 432) (by decide +kernel)⟩
theorem lw_p31 : lw_okq (⟨"RowLineage$Draft", "both", "(LRowLineage$Ways;LRowLineage$Ways;LRowLineage$Ways;)Z"⟩, 3) := ⟨⟨by decide +kernel, by decide +kernel⟩, List.mem_of_getElem? (i := 64) (by decide +kernel), List.mem_of_getElem? (i := 436) (by decide +kernel), List.mem_of_getElem? (i := 437) (by decide +kernel)⟩
def lw_privs_2 : List (MethodName × Nat) := [(⟨"RowLineage$Ways", "becomeTerm", "(JJ)V"⟩, 3), (⟨"RowLineage$Operators", "put", "(LRowLineage$Table;[ILRowLineage$Ways;)Z"⟩, 5), (⟨"RowLineage$Table", "findOrAdd", "([I)LRowLineage$Tuple;"⟩, 3), (⟨"RowLineage$Table", "firstBehind", "([I)I"⟩, 3), (⟨"RowLineage$Table", "order", "([I[I)I"⟩, 3), (⟨"RowLineage$Tuple", "become", "([I)V"⟩, 2), (⟨"RowLineage$Ways", "becomeFalse", "()V"⟩, 3), (⟨"RowLineage$Draft", "either", "(LRowLineage$Ways;LRowLineage$Ways;LRowLineage$Ways;)Z"⟩, 3), (⟨"RowLineage$Draft", "add", "(JJ)V"⟩, 3), (⟨"RowLineage$Draft", "settle", "(LRowLineage$Ways;)Z"⟩, 3), (⟨"RowLineage$Ways", "insert", "(JJ)V"⟩, 3), (⟨"RowLineage$Operators", "fillPick", "(LRowLineage$Node;LRowLineage$Table;LRowLineage$Table;)Z"⟩, 5), (⟨"RowLineage$Operators", "fillCols", "(LRowLineage$Node;LRowLineage$Table;LRowLineage$Table;)Z"⟩, 5), (⟨"RowLineage$Operators", "fillJoin", "(LRowLineage$Node;LRowLineage$Table;LRowLineage$Table;LRowLineage$Table;)Z"⟩, 5), (⟨"RowLineage$Operators", "putPair", "(LRowLineage$Table;ILRowLineage$Table;ILRowLineage$Table;)Z"⟩, 5), (⟨"RowLineage$Draft", "both", "(LRowLineage$Ways;LRowLineage$Ways;LRowLineage$Ways;)Z"⟩, 3)]
theorem lw_r2 : ∀ q ∈ lw_privs_2, lw_okq q := List.forall_mem_cons.mpr ⟨lw_p16, List.forall_mem_cons.mpr ⟨lw_p17, List.forall_mem_cons.mpr ⟨lw_p18, List.forall_mem_cons.mpr ⟨lw_p19, List.forall_mem_cons.mpr ⟨lw_p20, List.forall_mem_cons.mpr ⟨lw_p21, List.forall_mem_cons.mpr ⟨lw_p22, List.forall_mem_cons.mpr ⟨lw_p23, List.forall_mem_cons.mpr ⟨lw_p24, List.forall_mem_cons.mpr ⟨lw_p25, List.forall_mem_cons.mpr ⟨lw_p26, List.forall_mem_cons.mpr ⟨lw_p27, List.forall_mem_cons.mpr ⟨lw_p28, List.forall_mem_cons.mpr ⟨lw_p29, List.forall_mem_cons.mpr ⟨lw_p30, List.forall_mem_cons.mpr ⟨lw_p31, fun _ h => absurd h List.not_mem_nil⟩⟩⟩⟩⟩⟩⟩⟩⟩⟩⟩⟩⟩⟩⟩⟩
theorem lw_p32 : lw_okq (⟨"RowLineage$Operators", "putAll", "(LRowLineage$Table;LRowLineage$Table;)Z"⟩, 5) := ⟨⟨by decide +kernel, by decide +kernel⟩, List.mem_of_getElem? (i := 58) (by decide +kernel), List.mem_of_getElem? (i := 440) (by decide +kernel), List.mem_of_getElem? (i := 441) (by decide +kernel)⟩
theorem lw_p33 : lw_okq (⟨"RowLineage$Operators", "fillMinus", "(LRowLineage$Table;LRowLineage$Table;LRowLineage$Table;)Z"⟩, 5) := ⟨⟨by decide +kernel, by decide +kernel⟩, List.mem_of_getElem? (i := 58) (by decide +kernel), List.mem_of_getElem? (i := 444) (by decide +kernel), List.mem_of_getElem? (i := 445) (by decide +kernel)⟩
theorem lw_p34 : lw_okq (⟨"RowLineage$Table", "find", "([I)LRowLineage$Tuple;"⟩, 3) := ⟨⟨by decide +kernel, by decide +kernel⟩, List.mem_of_getElem? (i := 127) (by decide +kernel), List.mem_of_getElem? (i := 448) (by decide +kernel), List.mem_of_getElem? (i := 449) (by decide +kernel)⟩
theorem lw_p35 : lw_okq (⟨"RowLineage$Operators", "putWithout", "(LRowLineage$Tuple;LRowLineage$Tuple;LRowLineage$Table;)Z"⟩, 5) := ⟨⟨by decide +kernel, by decide +kernel⟩, List.mem_of_getElem? (i := 58) (by decide +kernel), List.mem_of_getElem? (i := 452) (by decide +kernel), List.mem_of_getElem? (i := 453) (by decide +kernel)⟩
theorem lw_p36 : lw_okq (⟨"RowLineage$Draft", "not", "(LRowLineage$Ways;LRowLineage$Ways;)Z"⟩, 3) := ⟨⟨by decide +kernel, by decide +kernel⟩, List.mem_of_getElem? (i := 64) (by decide +kernel), List.mem_of_getElem? (i := 456) (by decide +kernel), List.mem_of_getElem? (i := 457) (by decide +kernel)⟩
theorem lw_p37 : lw_okq (⟨"RowLineage$Ways", "becomeTrue", "()V"⟩, 3) := ⟨⟨by decide +kernel, by decide +kernel⟩, List.mem_of_getElem? (i := 81) (by decide +kernel), List.mem_of_getElem? (i := 460) (by decide +kernel), List.mem_of_getElem? (i := 461) (by decide +kernel)⟩
theorem lw_p38 : lw_okq (⟨"RowLineage$Draft", "addTurns", "(JJJJ)V"⟩, 3) := ⟨⟨by decide +kernel, by decide +kernel⟩, List.mem_of_getElem? (i := 64) (by decide +kernel), List.mem_of_getElem? (i := 465) (by decide +kernel), List.mem_of_getElem? (i := 466) (by decide +kernel)⟩
theorem lw_p39 : lw_okq (⟨"RowLineage$Operators", "fillFold", "(LRowLineage$Node;LRowLineage$Table;LRowLineage$Table;)Z"⟩, 5) := ⟨⟨by decide +kernel, by decide +kernel⟩, List.mem_of_getElem? (i := 58) (by decide +kernel), List.mem_of_getElem? (i := 469) (by decide +kernel), List.mem_of_getElem? (i := 470) (by decide +kernel)⟩
theorem lw_p40 : lw_okq (⟨"RowLineage$Operators", "gatherGroup", "(LRowLineage$Table;II)I"⟩, 5) := ⟨⟨by decide +kernel, by decide +kernel⟩, List.mem_of_getElem? (i := 58) (by decide +kernel), List.mem_of_getElem? (i := 476) (by decide +kernel), List.mem_of_getElem? (i := 477) (by decide +kernel)⟩
theorem lw_p41 : lw_okq (⟨"RowLineage$Operators", "putGroup", "(LRowLineage$Node;ILRowLineage$Table;)Z"⟩, 5) := ⟨⟨by decide +kernel, by decide +kernel⟩, List.mem_of_getElem? (i := 58) (by decide +kernel), List.mem_of_getElem? (i := 480) (by decide +kernel), List.mem_of_getElem? (i := 481) (by decide +kernel)⟩
theorem lw_p42 : lw_okq (⟨"RowLineage$Operators", "turnGroup", "(I)Z"⟩, 5) := ⟨⟨by decide +kernel, by decide +kernel⟩, List.mem_of_getElem? (i := 58) (by decide +kernel), List.mem_of_getElem? (i := 484) (by decide +kernel), List.mem_of_getElem? (i := 485) (by decide +kernel)⟩
theorem lw_p43 : lw_okq (⟨"RowLineage$Operators", "foldedNumber", "(LRowLineage$Node;II)I"⟩, 5) := ⟨⟨by decide +kernel, by decide +kernel⟩, List.mem_of_getElem? (i := 58) (by decide +kernel), List.mem_of_getElem? (i := 488) (by decide +kernel), List.mem_of_getElem? (i := 489) (by decide +kernel)⟩
theorem lw_p44 : lw_okq (⟨"RowLineage$Operators", "makeWaysOfSet", "(II)Z"⟩, 5) := ⟨⟨by decide +kernel, by decide +kernel⟩, List.mem_of_getElem? (i := 58) (by decide +kernel), List.mem_of_getElem? (i := 494) (by decide +kernel), List.mem_of_getElem? (i := 495) (by decide +kernel)⟩
theorem lw_p45 : lw_okq (⟨"RowLineage", "resultTuple", "(I)LRowLineage$Tuple;"⟩, 9) := ⟨⟨by decide +kernel, by decide +kernel⟩, List.mem_of_getElem? (i := 19) (by decide +kernel), List.mem_of_getElem? (i := 503) (by decide +kernel), List.mem_of_getElem? (i := 504) (by decide +kernel)⟩
theorem lw_p46 : lw_okq (⟨"RowLineage$Sources", "isRow", "(I)Z"⟩, 5) := ⟨⟨by decide +kernel, by decide +kernel⟩, List.mem_of_getElem? (i := 27) (by decide +kernel), List.mem_of_getElem? (i := 511) (by decide +kernel), List.mem_of_getElem? (i := 512) (by decide +kernel)⟩
theorem lw_p47 : lw_okq (⟨"RowLineage$Ways", "holdsWith", "(J)Z"⟩, 3) := ⟨⟨by decide +kernel, by decide +kernel⟩, List.mem_of_getElem? (i := 81) (by decide +kernel), List.mem_of_getElem? (i := 520) (by decide +kernel), List.mem_of_getElem? (i := 521) (by decide +kernel)⟩
def lw_privs_3 : List (MethodName × Nat) := [(⟨"RowLineage$Operators", "putAll", "(LRowLineage$Table;LRowLineage$Table;)Z"⟩, 5), (⟨"RowLineage$Operators", "fillMinus", "(LRowLineage$Table;LRowLineage$Table;LRowLineage$Table;)Z"⟩, 5), (⟨"RowLineage$Table", "find", "([I)LRowLineage$Tuple;"⟩, 3), (⟨"RowLineage$Operators", "putWithout", "(LRowLineage$Tuple;LRowLineage$Tuple;LRowLineage$Table;)Z"⟩, 5), (⟨"RowLineage$Draft", "not", "(LRowLineage$Ways;LRowLineage$Ways;)Z"⟩, 3), (⟨"RowLineage$Ways", "becomeTrue", "()V"⟩, 3), (⟨"RowLineage$Draft", "addTurns", "(JJJJ)V"⟩, 3), (⟨"RowLineage$Operators", "fillFold", "(LRowLineage$Node;LRowLineage$Table;LRowLineage$Table;)Z"⟩, 5), (⟨"RowLineage$Operators", "gatherGroup", "(LRowLineage$Table;II)I"⟩, 5), (⟨"RowLineage$Operators", "putGroup", "(LRowLineage$Node;ILRowLineage$Table;)Z"⟩, 5), (⟨"RowLineage$Operators", "turnGroup", "(I)Z"⟩, 5), (⟨"RowLineage$Operators", "foldedNumber", "(LRowLineage$Node;II)I"⟩, 5), (⟨"RowLineage$Operators", "makeWaysOfSet", "(II)Z"⟩, 5), (⟨"RowLineage", "resultTuple", "(I)LRowLineage$Tuple;"⟩, 9), (⟨"RowLineage$Sources", "isRow", "(I)Z"⟩, 5), (⟨"RowLineage$Ways", "holdsWith", "(J)Z"⟩, 3)]
theorem lw_r3 : ∀ q ∈ lw_privs_3, lw_okq q := List.forall_mem_cons.mpr ⟨lw_p32, List.forall_mem_cons.mpr ⟨lw_p33, List.forall_mem_cons.mpr ⟨lw_p34, List.forall_mem_cons.mpr ⟨lw_p35, List.forall_mem_cons.mpr ⟨lw_p36, List.forall_mem_cons.mpr ⟨lw_p37, List.forall_mem_cons.mpr ⟨lw_p38, List.forall_mem_cons.mpr ⟨lw_p39, List.forall_mem_cons.mpr ⟨lw_p40, List.forall_mem_cons.mpr ⟨lw_p41, List.forall_mem_cons.mpr ⟨lw_p42, List.forall_mem_cons.mpr ⟨lw_p43, List.forall_mem_cons.mpr ⟨lw_p44, List.forall_mem_cons.mpr ⟨lw_p45, List.forall_mem_cons.mpr ⟨lw_p46, List.forall_mem_cons.mpr ⟨lw_p47, fun _ h => absurd h List.not_mem_nil⟩⟩⟩⟩⟩⟩⟩⟩⟩⟩⟩⟩⟩⟩⟩⟩
theorem lw_p48 : lw_okq (⟨"RowLineage$Ways", "firstThatHolds", "(J)I"⟩, 3) := ⟨⟨by decide +kernel, by decide +kernel⟩, List.mem_of_getElem? (i := 81) (by decide +kernel), List.mem_of_getElem? (i := 524) (by decide +kernel), List.mem_of_getElem? (i := 525) (by decide +kernel)⟩
theorem lw_p49 : lw_okq (⟨"RowLineage$Ways", "rowsOfTerms", "()J"⟩, 3) := ⟨⟨by decide +kernel, by decide +kernel⟩, List.mem_of_getElem? (i := 81) (by decide +kernel), List.mem_of_getElem? (i := 549) (by decide +kernel), List.mem_of_getElem? (i := 550) (by decide +kernel)⟩
theorem lw_p50 : lw_okq (⟨"RowLineage", "isSeen", "(LRowLineage$Ways;JI)Z"⟩, 9) := ⟨⟨by decide +kernel, by decide +kernel⟩, List.mem_of_getElem? (i := 19) (by decide +kernel), List.mem_of_getElem? (i := 566) (by decide +kernel), List.mem_of_getElem? (i := 567) (by decide +kernel)⟩
theorem lw_p51 : lw_okq (⟨"RowLineage$Draft", "forget", "(LRowLineage$Ways;JLRowLineage$Ways;)V"⟩, 3) := ⟨⟨by decide +kernel, by decide +kernel⟩, List.mem_of_getElem? (i := 64) (by decide +kernel), List.mem_of_getElem? (i := 570) (by decide +kernel), List.mem_of_getElem? (i := 571) (by decide +kernel)⟩
theorem lw_p52 : lw_okq (⟨"RowLineage$Ways", "leastDropsToHold", "(J)I"⟩, 3) := ⟨⟨by decide +kernel, by decide +kernel⟩, List.mem_of_getElem? (i := 81) (by decide +kernel), List.mem_of_getElem? (i := 578) (by decide +kernel), List.mem_of_getElem? (i := 579) (by decide +kernel)⟩
theorem lw_p53 : lw_okq (⟨"RowLineage", "leastDropsToBreak", "(LRowLineage$Ways;)I"⟩, 9) := ⟨⟨by decide +kernel, by decide +kernel⟩, List.mem_of_getElem? (i := 19) (by decide +kernel), List.mem_of_getElem? (i := 583) (by decide +kernel), List.mem_of_getElem? (i := 584) (by decide +kernel)⟩
theorem lw_p54 : lw_okq (⟨"RowLineage$Table", "howManyHold", "(J)I"⟩, 3) := ⟨⟨by decide +kernel, by decide +kernel⟩, List.mem_of_getElem? (i := 127) (by decide +kernel), List.mem_of_getElem? (i := 594) (by decide +kernel), List.mem_of_getElem? (i := 595) (by decide +kernel)⟩
theorem lw_p55 : lw_okq (⟨"RowLineage$Sources", "forgetAll", "()V"⟩, 5) := ⟨⟨by decide +kernel, by decide +kernel⟩, List.mem_of_getElem? (i := 27) (by decide +kernel), List.mem_of_getElem? (i := 603) (by decide +kernel), List.mem_of_getElem? (i := 604) (by decide +kernel)⟩
theorem lw_p56 : lw_okq (⟨"java/lang/Throwable", "fillInStackTrace", "(I)Ljava/lang/Throwable;"⟩, 6) := ⟨⟨by decide +kernel, by decide +kernel⟩, List.mem_of_getElem? (i := 652) (by decide +kernel), List.mem_of_getElem? (i := 650) (by decide +kernel), List.mem_of_getElem? (i := 651) (by decide +kernel)⟩
theorem lw_p57 : lw_okq (⟨"RowLineageModel", "node", "(IIIIIIII)I"⟩, 31) := ⟨⟨by decide +kernel, by decide +kernel⟩, List.mem_of_getElem? (i := 708) (by decide +kernel), List.mem_of_getElem? (i := 825) (by decide +kernel), List.mem_of_getElem? (i := 826) (by decide +kernel)⟩
theorem lw_p58 : lw_okq (⟨"RowLineageModel", "isNode", "(I)Z"⟩, 31) := ⟨⟨by decide +kernel, by decide +kernel⟩, List.mem_of_getElem? (i := 708) (by decide +kernel), List.mem_of_getElem? (i := 833) (by decide +kernel), List.mem_of_getElem? (i := 834) (by decide +kernel)⟩
theorem lw_p59 : lw_okq (⟨"RowLineageModel", "isColumn", "(II)Z"⟩, 31) := ⟨⟨by decide +kernel, by decide +kernel⟩, List.mem_of_getElem? (i := 708) (by decide +kernel), List.mem_of_getElem? (i := 837) (by decide +kernel), List.mem_of_getElem? (i := 838) (by decide +kernel)⟩
theorem lw_p60 : lw_okq (⟨"RowLineageModel", "pair", "(III)I"⟩, 31) := ⟨⟨by decide +kernel, by decide +kernel⟩, List.mem_of_getElem? (i := 708) (by decide +kernel), List.mem_of_getElem? (i := 854) (by decide +kernel), List.mem_of_getElem? (i := 855) (by decide +kernel)⟩
theorem lw_p61 : lw_okq (⟨"RowLineageModel", "make", "(I)V"⟩, 31) := ⟨⟨by decide +kernel, by decide +kernel⟩, List.mem_of_getElem? (i := 708) (by decide +kernel), List.mem_of_getElem? (i := 874) (by decide +kernel), List.mem_of_getElem? (i := 875) (by decide +kernel)⟩
theorem lw_p62 : lw_okq (⟨"RowLineageModel", "makeScan", "(II)V"⟩, 31) := ⟨⟨by decide +kernel, by decide +kernel⟩, List.mem_of_getElem? (i := 708) (by decide +kernel), List.mem_of_getElem? (i := 878) (by decide +kernel), List.mem_of_getElem? (i := 879) (by decide +kernel)⟩
theorem lw_p63 : lw_okq (⟨"RowLineageModel", "truth", "(I)V"⟩, 31) := ⟨⟨by decide +kernel, by decide +kernel⟩, List.mem_of_getElem? (i := 708) (by decide +kernel), List.mem_of_getElem? (i := 882) (by decide +kernel), List.mem_of_getElem? (i := 883) (by decide +kernel)⟩
def lw_privs_4 : List (MethodName × Nat) := [(⟨"RowLineage$Ways", "firstThatHolds", "(J)I"⟩, 3), (⟨"RowLineage$Ways", "rowsOfTerms", "()J"⟩, 3), (⟨"RowLineage", "isSeen", "(LRowLineage$Ways;JI)Z"⟩, 9), (⟨"RowLineage$Draft", "forget", "(LRowLineage$Ways;JLRowLineage$Ways;)V"⟩, 3), (⟨"RowLineage$Ways", "leastDropsToHold", "(J)I"⟩, 3), (⟨"RowLineage", "leastDropsToBreak", "(LRowLineage$Ways;)I"⟩, 9), (⟨"RowLineage$Table", "howManyHold", "(J)I"⟩, 3), (⟨"RowLineage$Sources", "forgetAll", "()V"⟩, 5), (⟨"java/lang/Throwable", "fillInStackTrace", "(I)Ljava/lang/Throwable;"⟩, 6), (⟨"RowLineageModel", "node", "(IIIIIIII)I"⟩, 31), (⟨"RowLineageModel", "isNode", "(I)Z"⟩, 31), (⟨"RowLineageModel", "isColumn", "(II)Z"⟩, 31), (⟨"RowLineageModel", "pair", "(III)I"⟩, 31), (⟨"RowLineageModel", "make", "(I)V"⟩, 31), (⟨"RowLineageModel", "makeScan", "(II)V"⟩, 31), (⟨"RowLineageModel", "truth", "(I)V"⟩, 31)]
theorem lw_r4 : ∀ q ∈ lw_privs_4, lw_okq q := List.forall_mem_cons.mpr ⟨lw_p48, List.forall_mem_cons.mpr ⟨lw_p49, List.forall_mem_cons.mpr ⟨lw_p50, List.forall_mem_cons.mpr ⟨lw_p51, List.forall_mem_cons.mpr ⟨lw_p52, List.forall_mem_cons.mpr ⟨lw_p53, List.forall_mem_cons.mpr ⟨lw_p54, List.forall_mem_cons.mpr ⟨lw_p55, List.forall_mem_cons.mpr ⟨lw_p56, List.forall_mem_cons.mpr ⟨lw_p57, List.forall_mem_cons.mpr ⟨lw_p58, List.forall_mem_cons.mpr ⟨lw_p59, List.forall_mem_cons.mpr ⟨lw_p60, List.forall_mem_cons.mpr ⟨lw_p61, List.forall_mem_cons.mpr ⟨lw_p62, List.forall_mem_cons.mpr ⟨lw_p63, fun _ h => absurd h List.not_mem_nil⟩⟩⟩⟩⟩⟩⟩⟩⟩⟩⟩⟩⟩⟩⟩⟩
theorem lw_p64 : lw_okq (⟨"RowLineageModel", "comes", "(II)V"⟩, 31) := ⟨⟨by decide +kernel, by decide +kernel⟩, List.mem_of_getElem? (i := 708) (by decide +kernel), List.mem_of_getElem? (i := 886) (by decide +kernel), List.mem_of_getElem? (i := 887) (by decide +kernel)⟩
theorem lw_p65 : lw_okq (⟨"RowLineageModel", "find", "(I)I"⟩, 31) := ⟨⟨by decide +kernel, by decide +kernel⟩, List.mem_of_getElem? (i := 708) (by decide +kernel), List.mem_of_getElem? (i := 890) (by decide +kernel), List.mem_of_getElem? (i := 891) (by decide +kernel)⟩
theorem lw_p66 : lw_okq (⟨"RowLineageModel", "against", "(II)I"⟩, 31) := ⟨⟨by decide +kernel, by decide +kernel⟩, List.mem_of_getElem? (i := 708) (by decide +kernel), List.mem_of_getElem? (i := 894) (by decide +kernel), List.mem_of_getElem? (i := 895) (by decide +kernel)⟩
theorem lw_p67 : lw_okq (⟨"RowLineageModel", "cellAt", "(III)I"⟩, 31) := ⟨⟨by decide +kernel, by decide +kernel⟩, List.mem_of_getElem? (i := 708) (by decide +kernel), List.mem_of_getElem? (i := 898) (by decide +kernel), List.mem_of_getElem? (i := 899) (by decide +kernel)⟩
theorem lw_p68 : lw_okq (⟨"RowLineageModel", "either", "(III)V"⟩, 31) := ⟨⟨by decide +kernel, by decide +kernel⟩, List.mem_of_getElem? (i := 708) (by decide +kernel), List.mem_of_getElem? (i := 902) (by decide +kernel), List.mem_of_getElem? (i := 903) (by decide +kernel)⟩
theorem lw_p69 : lw_okq (⟨"RowLineageModel", "heapTerm", "(JJ)V"⟩, 31) := ⟨⟨by decide +kernel, by decide +kernel⟩, List.mem_of_getElem? (i := 708) (by decide +kernel), List.mem_of_getElem? (i := 906) (by decide +kernel), List.mem_of_getElem? (i := 907) (by decide +kernel)⟩
theorem lw_p70 : lw_okq (⟨"RowLineageModel", "settle", "(I)V"⟩, 31) := ⟨⟨by decide +kernel, by decide +kernel⟩, List.mem_of_getElem? (i := 708) (by decide +kernel), List.mem_of_getElem? (i := 910) (by decide +kernel), List.mem_of_getElem? (i := 911) (by decide +kernel)⟩
theorem lw_p71 : lw_okq (⟨"RowLineageModel", "goes", "(I)Z"⟩, 31) := ⟨⟨by decide +kernel, by decide +kernel⟩, List.mem_of_getElem? (i := 708) (by decide +kernel), List.mem_of_getElem? (i := 914) (by decide +kernel), List.mem_of_getElem? (i := 915) (by decide +kernel)⟩
theorem lw_p72 : lw_okq (⟨"RowLineageModel", "copy", "(II)V"⟩, 31) := ⟨⟨by decide +kernel, by decide +kernel⟩, List.mem_of_getElem? (i := 708) (by decide +kernel), List.mem_of_getElem? (i := 919) (by decide +kernel), List.mem_of_getElem? (i := 920) (by decide +kernel)⟩
theorem lw_p73 : lw_okq (⟨"RowLineageModel", "makePick", "(II)V"⟩, 31) := ⟨⟨by decide +kernel, by decide +kernel⟩, List.mem_of_getElem? (i := 708) (by decide +kernel), List.mem_of_getElem? (i := 923) (by decide +kernel), List.mem_of_getElem? (i := 924) (by decide +kernel)⟩
theorem lw_p74 : lw_okq (⟨"RowLineageModel", "take", "(III)V"⟩, 31) := ⟨⟨by decide +kernel, by decide +kernel⟩, List.mem_of_getElem? (i := 708) (by decide +kernel), List.mem_of_getElem? (i := 927) (by decide +kernel), List.mem_of_getElem? (i := 928) (by decide +kernel)⟩
theorem lw_p75 : lw_okq (⟨"RowLineageModel", "makeCols", "(II)V"⟩, 31) := ⟨⟨by decide +kernel, by decide +kernel⟩, List.mem_of_getElem? (i := 708) (by decide +kernel), List.mem_of_getElem? (i := 931) (by decide +kernel), List.mem_of_getElem? (i := 932) (by decide +kernel)⟩
theorem lw_p76 : lw_okq (⟨"RowLineageModel", "makeJoin", "(III)V"⟩, 31) := ⟨⟨by decide +kernel, by decide +kernel⟩, List.mem_of_getElem? (i := 708) (by decide +kernel), List.mem_of_getElem? (i := 935) (by decide +kernel), List.mem_of_getElem? (i := 936) (by decide +kernel)⟩
theorem lw_p77 : lw_okq (⟨"RowLineageModel", "both", "(III)V"⟩, 31) := ⟨⟨by decide +kernel, by decide +kernel⟩, List.mem_of_getElem? (i := 708) (by decide +kernel), List.mem_of_getElem? (i := 939) (by decide +kernel), List.mem_of_getElem? (i := 940) (by decide +kernel)⟩
theorem lw_p78 : lw_okq (⟨"RowLineageModel", "makeUnite", "(II)V"⟩, 31) := ⟨⟨by decide +kernel, by decide +kernel⟩, List.mem_of_getElem? (i := 708) (by decide +kernel), List.mem_of_getElem? (i := 943) (by decide +kernel), List.mem_of_getElem? (i := 944) (by decide +kernel)⟩
theorem lw_p79 : lw_okq (⟨"RowLineageModel", "makeMinus", "(III)V"⟩, 31) := ⟨⟨by decide +kernel, by decide +kernel⟩, List.mem_of_getElem? (i := 708) (by decide +kernel), List.mem_of_getElem? (i := 947) (by decide +kernel), List.mem_of_getElem? (i := 948) (by decide +kernel)⟩
def lw_privs_5 : List (MethodName × Nat) := [(⟨"RowLineageModel", "comes", "(II)V"⟩, 31), (⟨"RowLineageModel", "find", "(I)I"⟩, 31), (⟨"RowLineageModel", "against", "(II)I"⟩, 31), (⟨"RowLineageModel", "cellAt", "(III)I"⟩, 31), (⟨"RowLineageModel", "either", "(III)V"⟩, 31), (⟨"RowLineageModel", "heapTerm", "(JJ)V"⟩, 31), (⟨"RowLineageModel", "settle", "(I)V"⟩, 31), (⟨"RowLineageModel", "goes", "(I)Z"⟩, 31), (⟨"RowLineageModel", "copy", "(II)V"⟩, 31), (⟨"RowLineageModel", "makePick", "(II)V"⟩, 31), (⟨"RowLineageModel", "take", "(III)V"⟩, 31), (⟨"RowLineageModel", "makeCols", "(II)V"⟩, 31), (⟨"RowLineageModel", "makeJoin", "(III)V"⟩, 31), (⟨"RowLineageModel", "both", "(III)V"⟩, 31), (⟨"RowLineageModel", "makeUnite", "(II)V"⟩, 31), (⟨"RowLineageModel", "makeMinus", "(III)V"⟩, 31)]
theorem lw_r5 : ∀ q ∈ lw_privs_5, lw_okq q := List.forall_mem_cons.mpr ⟨lw_p64, List.forall_mem_cons.mpr ⟨lw_p65, List.forall_mem_cons.mpr ⟨lw_p66, List.forall_mem_cons.mpr ⟨lw_p67, List.forall_mem_cons.mpr ⟨lw_p68, List.forall_mem_cons.mpr ⟨lw_p69, List.forall_mem_cons.mpr ⟨lw_p70, List.forall_mem_cons.mpr ⟨lw_p71, List.forall_mem_cons.mpr ⟨lw_p72, List.forall_mem_cons.mpr ⟨lw_p73, List.forall_mem_cons.mpr ⟨lw_p74, List.forall_mem_cons.mpr ⟨lw_p75, List.forall_mem_cons.mpr ⟨lw_p76, List.forall_mem_cons.mpr ⟨lw_p77, List.forall_mem_cons.mpr ⟨lw_p78, List.forall_mem_cons.mpr ⟨lw_p79, fun _ h => absurd h List.not_mem_nil⟩⟩⟩⟩⟩⟩⟩⟩⟩⟩⟩⟩⟩⟩⟩⟩
theorem lw_p80 : lw_okq (⟨"RowLineageModel", "not", "(II)V"⟩, 31) := ⟨⟨by decide +kernel, by decide +kernel⟩, List.mem_of_getElem? (i := 708) (by decide +kernel), List.mem_of_getElem? (i := 951) (by decide +kernel), List.mem_of_getElem? (i := 952) (by decide +kernel)⟩
theorem lw_p81 : lw_okq (⟨"RowLineageModel", "turn", "(JJ)V"⟩, 31) := ⟨⟨by decide +kernel, by decide +kernel⟩, List.mem_of_getElem? (i := 708) (by decide +kernel), List.mem_of_getElem? (i := 955) (by decide +kernel), List.mem_of_getElem? (i := 956) (by decide +kernel)⟩
theorem lw_p82 : lw_okq (⟨"RowLineageModel", "makeFold", "(II)V"⟩, 31) := ⟨⟨by decide +kernel, by decide +kernel⟩, List.mem_of_getElem? (i := 708) (by decide +kernel), List.mem_of_getElem? (i := 959) (by decide +kernel), List.mem_of_getElem? (i := 960) (by decide +kernel)⟩
theorem lw_p83 : lw_okq (⟨"RowLineageModel", "makeGroup", "(III)V"⟩, 31) := ⟨⟨by decide +kernel, by decide +kernel⟩, List.mem_of_getElem? (i := 708) (by decide +kernel), List.mem_of_getElem? (i := 963) (by decide +kernel), List.mem_of_getElem? (i := 964) (by decide +kernel)⟩
theorem lw_p84 : lw_okq (⟨"RowLineageModel", "isTuple", "(I)Z"⟩, 31) := ⟨⟨by decide +kernel, by decide +kernel⟩, List.mem_of_getElem? (i := 708) (by decide +kernel), List.mem_of_getElem? (i := 971) (by decide +kernel), List.mem_of_getElem? (i := 972) (by decide +kernel)⟩
theorem lw_p85 : lw_okq (⟨"RowLineageModel", "isSo", "(IJ)Z"⟩, 31) := ⟨⟨by decide +kernel, by decide +kernel⟩, List.mem_of_getElem? (i := 708) (by decide +kernel), List.mem_of_getElem? (i := 991) (by decide +kernel), List.mem_of_getElem? (i := 992) (by decide +kernel)⟩
theorem lw_p86 : lw_okq (⟨"RowLineageModel", "first", "(IJ)I"⟩, 31) := ⟨⟨by decide +kernel, by decide +kernel⟩, List.mem_of_getElem? (i := 708) (by decide +kernel), List.mem_of_getElem? (i := 995) (by decide +kernel), List.mem_of_getElem? (i := 996) (by decide +kernel)⟩
theorem lw_p87 : lw_okq (⟨"RowLineageModel", "stand", "(I)Z"⟩, 31) := ⟨⟨by decide +kernel, by decide +kernel⟩, List.mem_of_getElem? (i := 708) (by decide +kernel), List.mem_of_getElem? (i := 1015) (by decide +kernel), List.mem_of_getElem? (i := 1016) (by decide +kernel)⟩
theorem lw_p88 : lw_okq (⟨"RowLineageModel", "rowsOf", "(I)J"⟩, 31) := ⟨⟨by decide +kernel, by decide +kernel⟩, List.mem_of_getElem? (i := 708) (by decide +kernel), List.mem_of_getElem? (i := 1019) (by decide +kernel), List.mem_of_getElem? (i := 1020) (by decide +kernel)⟩
def lw_privs_6 : List (MethodName × Nat) := [(⟨"RowLineageModel", "not", "(II)V"⟩, 31), (⟨"RowLineageModel", "turn", "(JJ)V"⟩, 31), (⟨"RowLineageModel", "makeFold", "(II)V"⟩, 31), (⟨"RowLineageModel", "makeGroup", "(III)V"⟩, 31), (⟨"RowLineageModel", "isTuple", "(I)Z"⟩, 31), (⟨"RowLineageModel", "isSo", "(IJ)Z"⟩, 31), (⟨"RowLineageModel", "first", "(IJ)I"⟩, 31), (⟨"RowLineageModel", "stand", "(I)Z"⟩, 31), (⟨"RowLineageModel", "rowsOf", "(I)J"⟩, 31)]
theorem lw_r6 : ∀ q ∈ lw_privs_6, lw_okq q := List.forall_mem_cons.mpr ⟨lw_p80, List.forall_mem_cons.mpr ⟨lw_p81, List.forall_mem_cons.mpr ⟨lw_p82, List.forall_mem_cons.mpr ⟨lw_p83, List.forall_mem_cons.mpr ⟨lw_p84, List.forall_mem_cons.mpr ⟨lw_p85, List.forall_mem_cons.mpr ⟨lw_p86, List.forall_mem_cons.mpr ⟨lw_p87, List.forall_mem_cons.mpr ⟨lw_p88, fun _ h => absurd h List.not_mem_nil⟩⟩⟩⟩⟩⟩⟩⟩⟩
def lw_privs : List (MethodName × Nat) := lw_privs_1 ++ (lw_privs_2 ++ (lw_privs_3 ++ (lw_privs_4 ++ (lw_privs_5 ++ (lw_privs_6)))))
def lw_tbl : List Cond := k2_sels lw_privs ++ tables_1
theorem lw_privs_ok : ∀ q ∈ lw_privs, lw_okq q := by
  show ∀ q ∈ lw_privs_1 ++ (lw_privs_2 ++ (lw_privs_3 ++ (lw_privs_4 ++ (lw_privs_5 ++ (lw_privs_6))))), lw_okq q
  exact List.forall_mem_append.mpr ⟨lw_r1, List.forall_mem_append.mpr ⟨lw_r2, List.forall_mem_append.mpr ⟨lw_r3, List.forall_mem_append.mpr ⟨lw_r4, List.forall_mem_append.mpr ⟨lw_r5, lw_r6⟩⟩⟩⟩⟩

/-! names: printed by TURN of the program itself -/
def RX0 : String := "RowLineage$Draft"
def TX0 : u_T := fun k => match k with
  | 0 => ("RowLineage$Draft", "needs", "[J", true)
  | 1 => ("RowLineage$Draft", "lacks", "[J", true)
  | _ => ("RowLineage$Draft", "size", "I", false)
def tyX0 : Nat → FieldType := fun k => match k with
  | 0 => .array .long
  | 1 => .array .long
  | _ => .int
abbrev wsX00 : List Cond := u_ws RX0 TX0 3
theorem nmX0 : ∀ a, a < 3 → ∀ b, b < 3 → a ≠ b → (TX0 a).2.1 ≠ (TX0 b).2.1 := by decide +kernel
theorem tyX0_ok : ∀ k, k < 3 → parseFieldDescriptor (TX0 k).2.2.1 = some (tyX0 k) := by decide +kernel
abbrev cX0_init : ByteArray := prog_2_method_1_code
def yX0_init : MethodName := ⟨RX0, "<init>", "()V"⟩
abbrev cX0_either : ByteArray := prog_2_method_2_code
def yX0_either : MethodName := ⟨RX0, "either", "(LRowLineage$Ways;LRowLineage$Ways;LRowLineage$Ways;)Z"⟩
abbrev cX0_both : ByteArray := prog_2_method_3_code
def yX0_both : MethodName := ⟨RX0, "both", "(LRowLineage$Ways;LRowLineage$Ways;LRowLineage$Ways;)Z"⟩
abbrev cX0_not : ByteArray := prog_2_method_4_code
def yX0_not : MethodName := ⟨RX0, "not", "(LRowLineage$Ways;LRowLineage$Ways;)Z"⟩
abbrev cX0_forget : ByteArray := prog_2_method_5_code
def yX0_forget : MethodName := ⟨RX0, "forget", "(LRowLineage$Ways;JLRowLineage$Ways;)V"⟩
abbrev cX0_addTurns : ByteArray := prog_2_method_6_code
def yX0_addTurns : MethodName := ⟨RX0, "addTurns", "(JJJJ)V"⟩
abbrev cX0_add : ByteArray := prog_2_method_7_code
def yX0_add : MethodName := ⟨RX0, "add", "(JJ)V"⟩
abbrev cX0_settle : ByteArray := prog_2_method_8_code
def yX0_settle : MethodName := ⟨RX0, "settle", "(LRowLineage$Ways;)Z"⟩
def RX1 : String := "RowLineage$Node"
def TX1 : u_T := fun k => match k with
  | 0 => ("RowLineage$Node", "operator", "I", false)
  | 1 => ("RowLineage$Node", "width", "I", false)
  | 2 => ("RowLineage$Node", "first", "I", false)
  | 3 => ("RowLineage$Node", "second", "I", false)
  | 4 => ("RowLineage$Node", "column", "I", false)
  | 5 => ("RowLineage$Node", "other", "I", false)
  | 6 => ("RowLineage$Node", "kind", "I", false)
  | 7 => ("RowLineage$Node", "number", "I", false)
  | _ => ("RowLineage$Node", "state", "I", false)
def tyX1 : Nat → FieldType := fun k => match k with
  | 0 => .int
  | 1 => .int
  | 2 => .int
  | 3 => .int
  | 4 => .int
  | 5 => .int
  | 6 => .int
  | 7 => .int
  | _ => .int
abbrev wsX10 : List Cond := u_ws RX1 TX1 9
theorem nmX1 : ∀ a, a < 9 → ∀ b, b < 9 → a ≠ b → (TX1 a).2.1 ≠ (TX1 b).2.1 := by decide +kernel
theorem tyX1_ok : ∀ k, k < 9 → parseFieldDescriptor (TX1 k).2.2.1 = some (tyX1 k) := by decide +kernel
abbrev cX1_init : ByteArray := prog_3_method_1_code
def yX1_init : MethodName := ⟨RX1, "<init>", "()V"⟩
abbrev cX1_describe : ByteArray := prog_3_method_2_code
def yX1_describe : MethodName := ⟨RX1, "describe", "(IIII)V"⟩
abbrev cX1_detail : ByteArray := prog_3_method_3_code
def yX1_detail : MethodName := ⟨RX1, "detail", "(IIII)V"⟩
def RX2 : String := "RowLineage$Operators"
def TX2 : u_T := fun k => match k with
  | 0 => ("RowLineage$Operators", "draft", "LRowLineage$Draft;", true)
  | 1 => ("RowLineage$Operators", "made", "LRowLineage$Ways;", true)
  | 2 => ("RowLineage$Operators", "turned", "[LRowLineage$Ways;", true)
  | 3 => ("RowLineage$Operators", "group", "[LRowLineage$Tuple;", true)
  | _ => ("RowLineage$Operators", "key", "[I", true)
def tyX2 : Nat → FieldType := fun k => match k with
  | 0 => .object "RowLineage$Draft"
  | 1 => .object "RowLineage$Ways"
  | 2 => .array (.object "RowLineage$Ways")
  | 3 => .array (.object "RowLineage$Tuple")
  | _ => .array .int
abbrev wsX20 : List Cond := u_ws RX2 TX2 5
theorem nmX2 : ∀ a, a < 5 → ∀ b, b < 5 → a ≠ b → (TX2 a).2.1 ≠ (TX2 b).2.1 := by decide +kernel
theorem tyX2_ok : ∀ k, k < 5 → parseFieldDescriptor (TX2 k).2.2.1 = some (tyX2 k) := by decide +kernel
abbrev cX2_init : ByteArray := prog_4_method_1_code
def yX2_init : MethodName := ⟨RX2, "<init>", "()V"⟩
abbrev cX2_fill : ByteArray := prog_4_method_2_code
def yX2_fill : MethodName := ⟨RX2, "fill", "(LRowLineage$Node;LRowLineage$Sources;LRowLineage$Table;LRowLineage$Table;LRowLineage$Table;)Z"⟩
abbrev cX2_fillScan : ByteArray := prog_4_method_3_code
def yX2_fillScan : MethodName := ⟨RX2, "fillScan", "(LRowLineage$Node;LRowLineage$Sources;LRowLineage$Table;)Z"⟩
abbrev cX2_fillPick : ByteArray := prog_4_method_4_code
def yX2_fillPick : MethodName := ⟨RX2, "fillPick", "(LRowLineage$Node;LRowLineage$Table;LRowLineage$Table;)Z"⟩
abbrev cX2_isPicked : ByteArray := prog_4_method_5_code
def yX2_isPicked : MethodName := ⟨RX2, "isPicked", "(LRowLineage$Node;[I)Z"⟩
abbrev cX2_fillCols : ByteArray := prog_4_method_6_code
def yX2_fillCols : MethodName := ⟨RX2, "fillCols", "(LRowLineage$Node;LRowLineage$Table;LRowLineage$Table;)Z"⟩
abbrev cX2_fillJoin : ByteArray := prog_4_method_7_code
def yX2_fillJoin : MethodName := ⟨RX2, "fillJoin", "(LRowLineage$Node;LRowLineage$Table;LRowLineage$Table;LRowLineage$Table;)Z"⟩
abbrev cX2_putPair : ByteArray := prog_4_method_8_code
def yX2_putPair : MethodName := ⟨RX2, "putPair", "(LRowLineage$Table;ILRowLineage$Table;ILRowLineage$Table;)Z"⟩
abbrev cX2_putAll : ByteArray := prog_4_method_9_code
def yX2_putAll : MethodName := ⟨RX2, "putAll", "(LRowLineage$Table;LRowLineage$Table;)Z"⟩
abbrev cX2_fillMinus : ByteArray := prog_4_method_10_code
def yX2_fillMinus : MethodName := ⟨RX2, "fillMinus", "(LRowLineage$Table;LRowLineage$Table;LRowLineage$Table;)Z"⟩
abbrev cX2_putWithout : ByteArray := prog_4_method_11_code
def yX2_putWithout : MethodName := ⟨RX2, "putWithout", "(LRowLineage$Tuple;LRowLineage$Tuple;LRowLineage$Table;)Z"⟩
abbrev cX2_fillFold : ByteArray := prog_4_method_12_code
def yX2_fillFold : MethodName := ⟨RX2, "fillFold", "(LRowLineage$Node;LRowLineage$Table;LRowLineage$Table;)Z"⟩
abbrev cX2_isFirstOfGroup : ByteArray := prog_4_method_13_code
def yX2_isFirstOfGroup : MethodName := ⟨RX2, "isFirstOfGroup", "(LRowLineage$Table;II)Z"⟩
abbrev cX2_gatherGroup : ByteArray := prog_4_method_14_code
def yX2_gatherGroup : MethodName := ⟨RX2, "gatherGroup", "(LRowLineage$Table;II)I"⟩
abbrev cX2_putGroup : ByteArray := prog_4_method_15_code
def yX2_putGroup : MethodName := ⟨RX2, "putGroup", "(LRowLineage$Node;ILRowLineage$Table;)Z"⟩
abbrev cX2_turnGroup : ByteArray := prog_4_method_16_code
def yX2_turnGroup : MethodName := ⟨RX2, "turnGroup", "(I)Z"⟩
abbrev cX2_makeWaysOfSet : ByteArray := prog_4_method_17_code
def yX2_makeWaysOfSet : MethodName := ⟨RX2, "makeWaysOfSet", "(II)Z"⟩
abbrev cX2_foldedNumber : ByteArray := prog_4_method_18_code
def yX2_foldedNumber : MethodName := ⟨RX2, "foldedNumber", "(LRowLineage$Node;II)I"⟩
abbrev cX2_put : ByteArray := prog_4_method_19_code
def yX2_put : MethodName := ⟨RX2, "put", "(LRowLineage$Table;[ILRowLineage$Ways;)Z"⟩
def RX3 : String := "RowLineage$Sources"
def TX3 : u_T := fun k => match k with
  | 0 => ("RowLineage$Sources", "widths", "[I", true)
  | 1 => ("RowLineage$Sources", "sourceOf", "[I", true)
  | 2 => ("RowLineage$Sources", "numbers", "[[I", true)
  | 3 => ("RowLineage$Sources", "sourceCount", "I", false)
  | _ => ("RowLineage$Sources", "rowCount", "I", false)
def tyX3 : Nat → FieldType := fun k => match k with
  | 0 => .array .int
  | 1 => .array .int
  | 2 => .array (.array .int)
  | 3 => .int
  | _ => .int
abbrev wsX30 : List Cond := u_ws RX3 TX3 5
theorem nmX3 : ∀ a, a < 5 → ∀ b, b < 5 → a ≠ b → (TX3 a).2.1 ≠ (TX3 b).2.1 := by decide +kernel
theorem tyX3_ok : ∀ k, k < 5 → parseFieldDescriptor (TX3 k).2.2.1 = some (tyX3 k) := by decide +kernel
abbrev cX3_init : ByteArray := prog_5_method_1_code
def yX3_init : MethodName := ⟨RX3, "<init>", "()V"⟩
abbrev cX3_isSource : ByteArray := prog_5_method_2_code
def yX3_isSource : MethodName := ⟨RX3, "isSource", "(I)Z"⟩
abbrev cX3_isRow : ByteArray := prog_5_method_3_code
def yX3_isRow : MethodName := ⟨RX3, "isRow", "(I)Z"⟩
abbrev cX3_addSource : ByteArray := prog_5_method_4_code
def yX3_addSource : MethodName := ⟨RX3, "addSource", "(I)I"⟩
abbrev cX3_addRow : ByteArray := prog_5_method_5_code
def yX3_addRow : MethodName := ⟨RX3, "addRow", "(IIIII)I"⟩
abbrev cX3_forgetAll : ByteArray := prog_5_method_6_code
def yX3_forgetAll : MethodName := ⟨RX3, "forgetAll", "()V"⟩
def RX4 : String := "RowLineage$Table"
def TX4 : u_T := fun k => match k with
  | 0 => ("RowLineage$Table", "tuples", "[LRowLineage$Tuple;", true)
  | 1 => ("RowLineage$Table", "size", "I", false)
  | _ => ("RowLineage$Table", "width", "I", false)
def tyX4 : Nat → FieldType := fun k => match k with
  | 0 => .array (.object "RowLineage$Tuple")
  | 1 => .int
  | _ => .int
abbrev wsX40 : List Cond := u_ws RX4 TX4 3
theorem nmX4 : ∀ a, a < 3 → ∀ b, b < 3 → a ≠ b → (TX4 a).2.1 ≠ (TX4 b).2.1 := by decide +kernel
theorem tyX4_ok : ∀ k, k < 3 → parseFieldDescriptor (TX4 k).2.2.1 = some (tyX4 k) := by decide +kernel
abbrev cX4_init : ByteArray := prog_6_method_1_code
def yX4_init : MethodName := ⟨RX4, "<init>", "(I)V"⟩
abbrev cX4_begin : ByteArray := prog_6_method_2_code
def yX4_begin : MethodName := ⟨RX4, "begin", "(I)V"⟩
abbrev cX4_find : ByteArray := prog_6_method_3_code
def yX4_find : MethodName := ⟨RX4, "find", "([I)LRowLineage$Tuple;"⟩
abbrev cX4_findOrAdd : ByteArray := prog_6_method_4_code
def yX4_findOrAdd : MethodName := ⟨RX4, "findOrAdd", "([I)LRowLineage$Tuple;"⟩
abbrev cX4_firstBehind : ByteArray := prog_6_method_5_code
def yX4_firstBehind : MethodName := ⟨RX4, "firstBehind", "([I)I"⟩
abbrev cX4_order : ByteArray := prog_6_method_6_code
def yX4_order : MethodName := ⟨RX4, "order", "([I[I)I"⟩
abbrev cX4_howManyHold : ByteArray := prog_6_method_7_code
def yX4_howManyHold : MethodName := ⟨RX4, "howManyHold", "(J)I"⟩
def RX5 : String := "RowLineage$Tuple"
def TX5 : u_T := fun k => match k with
  | 0 => ("RowLineage$Tuple", "cells", "[I", true)
  | _ => ("RowLineage$Tuple", "ways", "LRowLineage$Ways;", true)
def tyX5 : Nat → FieldType := fun k => match k with
  | 0 => .array .int
  | _ => .object "RowLineage$Ways"
abbrev wsX50 : List Cond := u_ws RX5 TX5 2
theorem nmX5 : ∀ a, a < 2 → ∀ b, b < 2 → a ≠ b → (TX5 a).2.1 ≠ (TX5 b).2.1 := by decide +kernel
theorem tyX5_ok : ∀ k, k < 2 → parseFieldDescriptor (TX5 k).2.2.1 = some (tyX5 k) := by decide +kernel
abbrev cX5_init : ByteArray := prog_7_method_1_code
def yX5_init : MethodName := ⟨RX5, "<init>", "()V"⟩
abbrev cX5_become : ByteArray := prog_7_method_2_code
def yX5_become : MethodName := ⟨RX5, "become", "([I)V"⟩
def RX6 : String := "RowLineage$Ways"
def TX6 : u_T := fun k => match k with
  | 0 => ("RowLineage$Ways", "needs", "[J", true)
  | 1 => ("RowLineage$Ways", "lacks", "[J", true)
  | _ => ("RowLineage$Ways", "size", "I", false)
def tyX6 : Nat → FieldType := fun k => match k with
  | 0 => .array .long
  | 1 => .array .long
  | _ => .int
abbrev wsX60 : List Cond := u_ws RX6 TX6 3
theorem nmX6 : ∀ a, a < 3 → ∀ b, b < 3 → a ≠ b → (TX6 a).2.1 ≠ (TX6 b).2.1 := by decide +kernel
theorem tyX6_ok : ∀ k, k < 3 → parseFieldDescriptor (TX6 k).2.2.1 = some (tyX6 k) := by decide +kernel
abbrev cX6_init : ByteArray := prog_8_method_1_code
def yX6_init : MethodName := ⟨RX6, "<init>", "()V"⟩
abbrev cX6_becomeFalse : ByteArray := prog_8_method_2_code
def yX6_becomeFalse : MethodName := ⟨RX6, "becomeFalse", "()V"⟩
abbrev cX6_becomeTrue : ByteArray := prog_8_method_3_code
def yX6_becomeTrue : MethodName := ⟨RX6, "becomeTrue", "()V"⟩
abbrev cX6_becomeTerm : ByteArray := prog_8_method_4_code
def yX6_becomeTerm : MethodName := ⟨RX6, "becomeTerm", "(JJ)V"⟩
abbrev cX6_insert : ByteArray := prog_8_method_5_code
def yX6_insert : MethodName := ⟨RX6, "insert", "(JJ)V"⟩
abbrev cX6_firstThatHolds : ByteArray := prog_8_method_6_code
def yX6_firstThatHolds : MethodName := ⟨RX6, "firstThatHolds", "(J)I"⟩
abbrev cX6_holdsWith : ByteArray := prog_8_method_7_code
def yX6_holdsWith : MethodName := ⟨RX6, "holdsWith", "(J)Z"⟩
abbrev cX6_rowsOfTerms : ByteArray := prog_8_method_8_code
def yX6_rowsOfTerms : MethodName := ⟨RX6, "rowsOfTerms", "()J"⟩
abbrev cX6_leastDropsToHold : ByteArray := prog_8_method_9_code
def yX6_leastDropsToHold : MethodName := ⟨RX6, "leastDropsToHold", "(J)I"⟩
def RX7 : String := "RowLineage"
def TX7 : u_T := fun k => match k with
  | 0 => ("RowLineage", "sources", "LRowLineage$Sources;", true)
  | 1 => ("RowLineage", "operators", "LRowLineage$Operators;", true)
  | 2 => ("RowLineage", "nodes", "[LRowLineage$Node;", true)
  | 3 => ("RowLineage", "tables", "[LRowLineage$Table;", true)
  | 4 => ("RowLineage", "nothing", "LRowLineage$Table;", true)
  | 5 => ("RowLineage", "blind", "LRowLineage$Ways;", true)
  | 6 => ("RowLineage", "nodeCount", "I", false)
  | 7 => ("RowLineage", "result", "I", false)
  | _ => ("RowLineage", "present", "J", false)
def tyX7 : Nat → FieldType := fun k => match k with
  | 0 => .object "RowLineage$Sources"
  | 1 => .object "RowLineage$Operators"
  | 2 => .array (.object "RowLineage$Node")
  | 3 => .array (.object "RowLineage$Table")
  | 4 => .object "RowLineage$Table"
  | 5 => .object "RowLineage$Ways"
  | 6 => .int
  | 7 => .int
  | _ => .long
abbrev wsX70 : List Cond := u_ws RX7 TX7 9
theorem nmX7 : ∀ a, a < 9 → ∀ b, b < 9 → a ≠ b → (TX7 a).2.1 ≠ (TX7 b).2.1 := by decide +kernel
theorem tyX7_ok : ∀ k, k < 9 → parseFieldDescriptor (TX7 k).2.2.1 = some (tyX7 k) := by decide +kernel
abbrev cX7_init : ByteArray := prog_1_method_1_code
def yX7_init : MethodName := ⟨RX7, "<init>", "()V"⟩
abbrev cX7_source : ByteArray := prog_1_method_2_code
def yX7_source : MethodName := ⟨RX7, "source", "(I)I"⟩
abbrev cX7_row : ByteArray := prog_1_method_3_code
def yX7_row : MethodName := ⟨RX7, "row", "(IIIII)I"⟩
abbrev cX7_scan : ByteArray := prog_1_method_4_code
def yX7_scan : MethodName := ⟨RX7, "scan", "(I)I"⟩
abbrev cX7_pick : ByteArray := prog_1_method_5_code
def yX7_pick : MethodName := ⟨RX7, "pick", "(IIIII)I"⟩
abbrev cX7_cols : ByteArray := prog_1_method_6_code
def yX7_cols : MethodName := ⟨RX7, "cols", "(II)I"⟩
abbrev cX7_join : ByteArray := prog_1_method_7_code
def yX7_join : MethodName := ⟨RX7, "join", "(IIII)I"⟩
abbrev cX7_unite : ByteArray := prog_1_method_8_code
def yX7_unite : MethodName := ⟨RX7, "unite", "(II)I"⟩
abbrev cX7_minus : ByteArray := prog_1_method_9_code
def yX7_minus : MethodName := ⟨RX7, "minus", "(II)I"⟩
abbrev cX7_fold : ByteArray := prog_1_method_10_code
def yX7_fold : MethodName := ⟨RX7, "fold", "(IIII)I"⟩
abbrev cX7_columns : ByteArray := prog_1_method_11_code
def yX7_columns : MethodName := ⟨RX7, "columns", "(I)I"⟩
abbrev cX7_run : ByteArray := prog_1_method_12_code
def yX7_run : MethodName := ⟨RX7, "run", "(I)I"⟩
abbrev cX7_cell : ByteArray := prog_1_method_13_code
def yX7_cell : MethodName := ⟨RX7, "cell", "(II)I"⟩
abbrev cX7_ways : ByteArray := prog_1_method_14_code
def yX7_ways : MethodName := ⟨RX7, "ways", "(I)I"⟩
abbrev cX7_way : ByteArray := prog_1_method_15_code
def yX7_way : MethodName := ⟨RX7, "way", "(III)J"⟩
abbrev cX7_drop : ByteArray := prog_1_method_16_code
def yX7_drop : MethodName := ⟨RX7, "drop", "(IZ)I"⟩
abbrev cX7_holds : ByteArray := prog_1_method_17_code
def yX7_holds : MethodName := ⟨RX7, "holds", "(I)I"⟩
abbrev cX7_made : ByteArray := prog_1_method_18_code
def yX7_made : MethodName := ⟨RX7, "made", "(I)I"⟩
abbrev cX7_under : ByteArray := prog_1_method_19_code
def yX7_under : MethodName := ⟨RX7, "under", "(IJ)I"⟩
abbrev cX7_forward : ByteArray := prog_1_method_20_code
def yX7_forward : MethodName := ⟨RX7, "forward", "(I)I"⟩
abbrev cX7_count : ByteArray := prog_1_method_21_code
def yX7_count : MethodName := ⟨RX7, "count", "(I)I"⟩
abbrev cX7_matters : ByteArray := prog_1_method_22_code
def yX7_matters : MethodName := ⟨RX7, "matters", "(II)I"⟩
abbrev cX7_blame : ByteArray := prog_1_method_23_code
def yX7_blame : MethodName := ⟨RX7, "blame", "(I)I"⟩
abbrev cX7_told : ByteArray := prog_1_method_24_code
def yX7_told : MethodName := ⟨RX7, "told", "(I)I"⟩
abbrev cX7_clear : ByteArray := prog_1_method_25_code
def yX7_clear : MethodName := ⟨RX7, "clear", "()V"⟩
abbrev cX7_isNode : ByteArray := prog_1_method_26_code
def yX7_isNode : MethodName := ⟨RX7, "isNode", "(I)Z"⟩
abbrev cX7_hasColumn : ByteArray := prog_1_method_27_code
def yX7_hasColumn : MethodName := ⟨RX7, "hasColumn", "(II)Z"⟩
abbrev cX7_addAlikeNode : ByteArray := prog_1_method_28_code
def yX7_addAlikeNode : MethodName := ⟨RX7, "addAlikeNode", "(III)I"⟩
abbrev cX7_openNode : ByteArray := prog_1_method_29_code
def yX7_openNode : MethodName := ⟨RX7, "openNode", "(IIII)LRowLineage$Node;"⟩
abbrev cX7_forgetWhatNodesGave : ByteArray := prog_1_method_30_code
def yX7_forgetWhatNodesGave : MethodName := ⟨RX7, "forgetWhatNodesGave", "()V"⟩
abbrev cX7_neededNodes : ByteArray := prog_1_method_31_code
def yX7_neededNodes : MethodName := ⟨RX7, "neededNodes", "(I)J"⟩
abbrev cX7_bitOfNode : ByteArray := prog_1_method_32_code
def yX7_bitOfNode : MethodName := ⟨RX7, "bitOfNode", "(I)J"⟩
abbrev cX7_tableOf : ByteArray := prog_1_method_33_code
def yX7_tableOf : MethodName := ⟨RX7, "tableOf", "(I)LRowLineage$Table;"⟩
abbrev cX7_resultTuple : ByteArray := prog_1_method_34_code
def yX7_resultTuple : MethodName := ⟨RX7, "resultTuple", "(I)LRowLineage$Tuple;"⟩
abbrev cX7_asNumber : ByteArray := prog_1_method_35_code
def yX7_asNumber : MethodName := ⟨RX7, "asNumber", "(Z)I"⟩
abbrev cX7_leastDigit : ByteArray := prog_1_method_36_code
def yX7_leastDigit : MethodName := ⟨RX7, "leastDigit", "(I)I"⟩
abbrev cX7_greatestDigit : ByteArray := prog_1_method_37_code
def yX7_greatestDigit : MethodName := ⟨RX7, "greatestDigit", "(I)I"⟩
abbrev cX7_digitCount : ByteArray := prog_1_method_38_code
def yX7_digitCount : MethodName := ⟨RX7, "digitCount", "(I)I"⟩
abbrev cX7_setsWithNone : ByteArray := prog_1_method_39_code
def yX7_setsWithNone : MethodName := ⟨RX7, "setsWithNone", "(LRowLineage$Ways;IJJI)I"⟩
abbrev cX7_isSeen : ByteArray := prog_1_method_40_code
def yX7_isSeen : MethodName := ⟨RX7, "isSeen", "(LRowLineage$Ways;JI)Z"⟩
abbrev cX7_leastDropsToBreak : ByteArray := prog_1_method_41_code
def yX7_leastDropsToBreak : MethodName := ⟨RX7, "leastDropsToBreak", "(LRowLineage$Ways;)I"⟩
abbrev cX7_canBreak : ByteArray := prog_1_method_42_code
def yX7_canBreak : MethodName := ⟨RX7, "canBreak", "(LRowLineage$Ways;JI)Z"⟩
def RX8 : String := "RowLineageModel"
def TX8 : u_T := fun k => match k with
  | 0 => ("RowLineageModel", "code", "I", false)
  | 1 => ("RowLineageModel", "sources", "I", false)
  | 2 => ("RowLineageModel", "sourceColumns", "[I", true)
  | 3 => ("RowLineageModel", "rows", "I", false)
  | 4 => ("RowLineageModel", "rowSource", "[I", true)
  | 5 => ("RowLineageModel", "rowCells", "[I", true)
  | 6 => ("RowLineageModel", "present", "J", false)
  | 7 => ("RowLineageModel", "nodes", "I", false)
  | 8 => ("RowLineageModel", "nOp", "[I", true)
  | 9 => ("RowLineageModel", "nFirst", "[I", true)
  | 10 => ("RowLineageModel", "nSecond", "[I", true)
  | 11 => ("RowLineageModel", "nA", "[I", true)
  | 12 => ("RowLineageModel", "nB", "[I", true)
  | 13 => ("RowLineageModel", "nC", "[I", true)
  | 14 => ("RowLineageModel", "nV", "[I", true)
  | 15 => ("RowLineageModel", "nColumns", "[I", true)
  | 16 => ("RowLineageModel", "cells", "[I", true)
  | 17 => ("RowLineageModel", "tuples", "[I", true)
  | 18 => ("RowLineageModel", "isMade", "[Z", true)
  | 19 => ("RowLineageModel", "resultColumns", "I", false)
  | 20 => ("RowLineageModel", "terms", "[I", true)
  | 21 => ("RowLineageModel", "needs", "[J", true)
  | 22 => ("RowLineageModel", "lacks", "[J", true)
  | 23 => ("RowLineageModel", "isFull", "Z", false)
  | 24 => ("RowLineageModel", "heapNeeds", "[J", true)
  | 25 => ("RowLineageModel", "heapLacks", "[J", true)
  | 26 => ("RowLineageModel", "heap", "I", false)
  | 27 => ("RowLineageModel", "tuple", "[I", true)
  | 28 => ("RowLineageModel", "group", "[I", true)
  | 29 => ("RowLineageModel", "inTerms", "[I", true)
  | _ => ("RowLineageModel", "inMany", "I", false)
def tyX8 : Nat → FieldType := fun k => match k with
  | 0 => .int
  | 1 => .int
  | 2 => .array .int
  | 3 => .int
  | 4 => .array .int
  | 5 => .array .int
  | 6 => .long
  | 7 => .int
  | 8 => .array .int
  | 9 => .array .int
  | 10 => .array .int
  | 11 => .array .int
  | 12 => .array .int
  | 13 => .array .int
  | 14 => .array .int
  | 15 => .array .int
  | 16 => .array .int
  | 17 => .array .int
  | 18 => .array .boolean
  | 19 => .int
  | 20 => .array .int
  | 21 => .array .long
  | 22 => .array .long
  | 23 => .boolean
  | 24 => .array .long
  | 25 => .array .long
  | 26 => .int
  | 27 => .array .int
  | 28 => .array .int
  | 29 => .array .int
  | _ => .int
abbrev wsX80 : List Cond := u_ws RX8 TX8 31
theorem nmX8 : ∀ a, a < 31 → ∀ b, b < 31 → a ≠ b → (TX8 a).2.1 ≠ (TX8 b).2.1 := by decide +kernel
theorem tyX8_ok : ∀ k, k < 31 → parseFieldDescriptor (TX8 k).2.2.1 = some (tyX8 k) := by decide +kernel
abbrev cX8_init : ByteArray := prog_10_method_1_code
def yX8_init : MethodName := ⟨RX8, "<init>", "()V"⟩
abbrev cX8_thrown : ByteArray := prog_10_method_2_code
def yX8_thrown : MethodName := ⟨RX8, "thrown", "()I"⟩
abbrev cX8_heapTerm : ByteArray := prog_10_method_3_code
def yX8_heapTerm : MethodName := ⟨RX8, "heapTerm", "(JJ)V"⟩
abbrev cX8_goes : ByteArray := prog_10_method_4_code
def yX8_goes : MethodName := ⟨RX8, "goes", "(I)Z"⟩
abbrev cX8_settle : ByteArray := prog_10_method_5_code
def yX8_settle : MethodName := ⟨RX8, "settle", "(I)V"⟩
abbrev cX8_either : ByteArray := prog_10_method_6_code
def yX8_either : MethodName := ⟨RX8, "either", "(III)V"⟩
abbrev cX8_both : ByteArray := prog_10_method_7_code
def yX8_both : MethodName := ⟨RX8, "both", "(III)V"⟩
abbrev cX8_truth : ByteArray := prog_10_method_8_code
def yX8_truth : MethodName := ⟨RX8, "truth", "(I)V"⟩
abbrev cX8_copy : ByteArray := prog_10_method_9_code
def yX8_copy : MethodName := ⟨RX8, "copy", "(II)V"⟩
abbrev cX8_not : ByteArray := prog_10_method_10_code
def yX8_not : MethodName := ⟨RX8, "not", "(II)V"⟩
abbrev cX8_turn : ByteArray := prog_10_method_11_code
def yX8_turn : MethodName := ⟨RX8, "turn", "(JJ)V"⟩
abbrev cX8_source : ByteArray := prog_10_method_12_code
def yX8_source : MethodName := ⟨RX8, "source", "(I)I"⟩
abbrev cX8_row : ByteArray := prog_10_method_13_code
def yX8_row : MethodName := ⟨RX8, "row", "(IIIII)I"⟩
abbrev cX8_isNode : ByteArray := prog_10_method_14_code
def yX8_isNode : MethodName := ⟨RX8, "isNode", "(I)Z"⟩
abbrev cX8_isColumn : ByteArray := prog_10_method_15_code
def yX8_isColumn : MethodName := ⟨RX8, "isColumn", "(II)Z"⟩
abbrev cX8_node : ByteArray := prog_10_method_16_code
def yX8_node : MethodName := ⟨RX8, "node", "(IIIIIIII)I"⟩
abbrev cX8_scan : ByteArray := prog_10_method_17_code
def yX8_scan : MethodName := ⟨RX8, "scan", "(I)I"⟩
abbrev cX8_pick : ByteArray := prog_10_method_18_code
def yX8_pick : MethodName := ⟨RX8, "pick", "(IIIII)I"⟩
abbrev cX8_cols : ByteArray := prog_10_method_19_code
def yX8_cols : MethodName := ⟨RX8, "cols", "(II)I"⟩
abbrev cX8_join : ByteArray := prog_10_method_20_code
def yX8_join : MethodName := ⟨RX8, "join", "(IIII)I"⟩
abbrev cX8_pair : ByteArray := prog_10_method_21_code
def yX8_pair : MethodName := ⟨RX8, "pair", "(III)I"⟩
abbrev cX8_unite : ByteArray := prog_10_method_22_code
def yX8_unite : MethodName := ⟨RX8, "unite", "(II)I"⟩
abbrev cX8_minus : ByteArray := prog_10_method_23_code
def yX8_minus : MethodName := ⟨RX8, "minus", "(II)I"⟩
abbrev cX8_fold : ByteArray := prog_10_method_24_code
def yX8_fold : MethodName := ⟨RX8, "fold", "(IIII)I"⟩
abbrev cX8_columns : ByteArray := prog_10_method_25_code
def yX8_columns : MethodName := ⟨RX8, "columns", "(I)I"⟩
abbrev cX8_cellAt : ByteArray := prog_10_method_26_code
def yX8_cellAt : MethodName := ⟨RX8, "cellAt", "(III)I"⟩
abbrev cX8_against : ByteArray := prog_10_method_27_code
def yX8_against : MethodName := ⟨RX8, "against", "(II)I"⟩
abbrev cX8_find : ByteArray := prog_10_method_28_code
def yX8_find : MethodName := ⟨RX8, "find", "(I)I"⟩
abbrev cX8_comes : ByteArray := prog_10_method_29_code
def yX8_comes : MethodName := ⟨RX8, "comes", "(II)V"⟩
abbrev cX8_take : ByteArray := prog_10_method_30_code
def yX8_take : MethodName := ⟨RX8, "take", "(III)V"⟩
abbrev cX8_make : ByteArray := prog_10_method_31_code
def yX8_make : MethodName := ⟨RX8, "make", "(I)V"⟩
abbrev cX8_makeScan : ByteArray := prog_10_method_32_code
def yX8_makeScan : MethodName := ⟨RX8, "makeScan", "(II)V"⟩
abbrev cX8_makePick : ByteArray := prog_10_method_33_code
def yX8_makePick : MethodName := ⟨RX8, "makePick", "(II)V"⟩
abbrev cX8_makeCols : ByteArray := prog_10_method_34_code
def yX8_makeCols : MethodName := ⟨RX8, "makeCols", "(II)V"⟩
abbrev cX8_makeJoin : ByteArray := prog_10_method_35_code
def yX8_makeJoin : MethodName := ⟨RX8, "makeJoin", "(III)V"⟩
abbrev cX8_makeUnite : ByteArray := prog_10_method_36_code
def yX8_makeUnite : MethodName := ⟨RX8, "makeUnite", "(II)V"⟩
abbrev cX8_makeMinus : ByteArray := prog_10_method_37_code
def yX8_makeMinus : MethodName := ⟨RX8, "makeMinus", "(III)V"⟩
abbrev cX8_makeFold : ByteArray := prog_10_method_38_code
def yX8_makeFold : MethodName := ⟨RX8, "makeFold", "(II)V"⟩
abbrev cX8_makeGroup : ByteArray := prog_10_method_39_code
def yX8_makeGroup : MethodName := ⟨RX8, "makeGroup", "(III)V"⟩
abbrev cX8_run : ByteArray := prog_10_method_40_code
def yX8_run : MethodName := ⟨RX8, "run", "(I)I"⟩
abbrev cX8_isTuple : ByteArray := prog_10_method_41_code
def yX8_isTuple : MethodName := ⟨RX8, "isTuple", "(I)Z"⟩
abbrev cX8_cell : ByteArray := prog_10_method_42_code
def yX8_cell : MethodName := ⟨RX8, "cell", "(II)I"⟩
abbrev cX8_ways : ByteArray := prog_10_method_43_code
def yX8_ways : MethodName := ⟨RX8, "ways", "(I)I"⟩
abbrev cX8_way : ByteArray := prog_10_method_44_code
def yX8_way : MethodName := ⟨RX8, "way", "(III)J"⟩
abbrev cX8_drop : ByteArray := prog_10_method_45_code
def yX8_drop : MethodName := ⟨RX8, "drop", "(IZ)I"⟩
abbrev cX8_first : ByteArray := prog_10_method_46_code
def yX8_first : MethodName := ⟨RX8, "first", "(IJ)I"⟩
abbrev cX8_isSo : ByteArray := prog_10_method_47_code
def yX8_isSo : MethodName := ⟨RX8, "isSo", "(IJ)Z"⟩
abbrev cX8_holds : ByteArray := prog_10_method_48_code
def yX8_holds : MethodName := ⟨RX8, "holds", "(I)I"⟩
abbrev cX8_made : ByteArray := prog_10_method_49_code
def yX8_made : MethodName := ⟨RX8, "made", "(I)I"⟩
abbrev cX8_under : ByteArray := prog_10_method_50_code
def yX8_under : MethodName := ⟨RX8, "under", "(IJ)I"⟩
abbrev cX8_forward : ByteArray := prog_10_method_51_code
def yX8_forward : MethodName := ⟨RX8, "forward", "(I)I"⟩
abbrev cX8_stand : ByteArray := prog_10_method_52_code
def yX8_stand : MethodName := ⟨RX8, "stand", "(I)Z"⟩
abbrev cX8_rowsOf : ByteArray := prog_10_method_53_code
def yX8_rowsOf : MethodName := ⟨RX8, "rowsOf", "(I)J"⟩
abbrev cX8_count : ByteArray := prog_10_method_54_code
def yX8_count : MethodName := ⟨RX8, "count", "(I)I"⟩
abbrev cX8_matters : ByteArray := prog_10_method_55_code
def yX8_matters : MethodName := ⟨RX8, "matters", "(II)I"⟩
abbrev cX8_ones : ByteArray := prog_10_method_56_code
def yX8_ones : MethodName := ⟨RX8, "ones", "(J)I"⟩
abbrev cX8_blame : ByteArray := prog_10_method_57_code
def yX8_blame : MethodName := ⟨RX8, "blame", "(I)I"⟩
abbrev cX8_told : ByteArray := prog_10_method_58_code
def yX8_told : MethodName := ⟨RX8, "told", "(I)I"⟩
abbrev cX8_clear : ByteArray := prog_10_method_59_code
def yX8_clear : MethodName := ⟨RX8, "clear", "()V"⟩
def RJ13 : String := "java/lang/Long"
def TJ13 : u_T := fun k => match k with
  | _ => ("", "", "", false)
def tyJ13 : Nat → FieldType := fun k => match k with
  | _ => .int
abbrev wsJ130 : List Cond := u_ws RJ13 TJ13 0
theorem nmJ13 : ∀ a, a < 0 → ∀ b, b < 0 → a ≠ b → (TJ13 a).2.1 ≠ (TJ13 b).2.1 := by decide +kernel
theorem tyJ13_ok : ∀ k, k < 0 → parseFieldDescriptor (TJ13 k).2.2.1 = some (tyJ13 k) := by decide +kernel
abbrev cJ13_bitCount_95d88 : ByteArray := prog_14_method_50_code
def yJ13_bitCount_95d88 : MethodName := ⟨RJ13, "bitCount", "(J)I"⟩
def RJ9 : String := "java/lang/Math"
def TJ9 : u_T := fun k => match k with
  | _ => ("", "", "", false)
def tyJ9 : Nat → FieldType := fun k => match k with
  | _ => .int
abbrev wsJ90 : List Cond := u_ws RJ9 TJ9 0
theorem nmJ9 : ∀ a, a < 0 → ∀ b, b < 0 → a ≠ b → (TJ9 a).2.1 ≠ (TJ9 b).2.1 := by decide +kernel
theorem tyJ9_ok : ∀ k, k < 0 → parseFieldDescriptor (TJ9 k).2.2.1 = some (tyJ9 k) := by decide +kernel
abbrev cJ9_max_7cf53 : ByteArray := prog_15_method_65_code
def yJ9_max_7cf53 : MethodName := ⟨RJ9, "max", "(II)I"⟩
abbrev cJ9_min_7cf53 : ByteArray := prog_15_method_69_code
def yJ9_min_7cf53 : MethodName := ⟨RJ9, "min", "(II)I"⟩
def RJ0 : String := "java/lang/String"
def TJ0 : u_T := fun k => match k with
  | _ => ("", "", "", false)
def tyJ0 : Nat → FieldType := fun k => match k with
  | _ => .int
abbrev wsJ00 : List Cond := u_ws RJ0 TJ0 0
theorem nmJ0 : ∀ a, a < 0 → ∀ b, b < 0 → a ≠ b → (TJ0 a).2.1 ≠ (TJ0 b).2.1 := by decide +kernel
theorem tyJ0_ok : ∀ k, k < 0 → parseFieldDescriptor (TJ0 k).2.2.1 = some (tyJ0 k) := by decide +kernel
def RJ10 : String := "java/lang/System"
def TJ10 : u_T := fun k => match k with
  | _ => ("", "", "", false)
def tyJ10 : Nat → FieldType := fun k => match k with
  | _ => .int
abbrev wsJ100 : List Cond := u_ws RJ10 TJ10 0
theorem nmJ10 : ∀ a, a < 0 → ∀ b, b < 0 → a ≠ b → (TJ10 a).2.1 ≠ (TJ10 b).2.1 := by decide +kernel
theorem tyJ10_ok : ∀ k, k < 0 → parseFieldDescriptor (TJ10 k).2.2.1 = some (tyJ10 k) := by decide +kernel
def RL : String := "RowLineageLaw"
abbrev cL_cell : ByteArray := method_3_code
def yL_cell : MethodName := ⟨RL, "cell", "(LRowLineage;II[J)I"⟩
abbrev cL_way : ByteArray := method_4_code
def yL_way : MethodName := ⟨RL, "way", "(LRowLineage;III[J)I"⟩
abbrev cL_law : ByteArray := code
def yL_law : MethodName := ⟨RL, "law", "([I)Z"⟩
abbrev vwCl : List vw_C := [(RX0, TX0, 3), (RX1, TX1, 9), (RX2, TX2, 5), (RX3, TX3, 5), (RX4, TX4, 3), (RX5, TX5, 2), (RX6, TX6, 3), (RX7, TX7, 9), (RX8, TX8, 31)]

def rl_BW : List Cond := lw_tbl.filter goodWord
def rl_Ns : List Cond := tables_1.filter rl_nw
theorem rl_BW_good : ∀ w ∈ rl_BW, goodWord w = true := fun _ h => (List.mem_filter.mp h).2
theorem rl_Ns_nw : ∀ w ∈ rl_Ns, rl_nw w = true := fun _ h => (List.mem_filter.mp h).2
theorem rl_bw {w : Cond} (i : Nat) (h : tables_1[i]? = some w) (hg : goodWord w = true) : w ∈ rl_BW := List.mem_filter.mpr ⟨List.mem_append_right _ (List.mem_of_getElem? h), hg⟩
theorem rl_bs {w : Cond} (i : Nat) (h : (k2_sels lw_privs)[i]? = some w) (hg : goodWord w = true) : w ∈ rl_BW := List.mem_filter.mpr ⟨List.mem_append_left _ (List.mem_of_getElem? h), hg⟩
theorem rl_ns {w : Cond} (i : Nat) (h : tables_1[i]? = some w) (hg : rl_nw w = true) : w ∈ rl_Ns := List.mem_filter.mpr ⟨List.mem_of_getElem? h, hg⟩
def rl_at : List Cond → Nat → Option Cond
  | [], _ => none
  | a :: _, 0 => some a
  | _ :: l, n + 1 => rl_at l n
theorem rl_at_mem {w : Cond} : ∀ {l : List Cond} {n : Nat}, rl_at l n = some w → w ∈ l
  | [], _, h => by cases h
  | a :: l, 0, h => by
    cases h
    exact List.mem_cons_self
  | a :: l, n + 1, h => List.mem_cons_of_mem a (rl_at_mem (l := l) (n := n) h)
theorem rl_b1 {w : Cond} (i : Nat) (h : rl_at tables_1_1 i = some w) (hg : goodWord w = true) : w ∈ rl_BW := List.mem_filter.mpr ⟨List.mem_append_right _ (List.mem_append_left _ (rl_at_mem h)), hg⟩
theorem rl_n1 {w : Cond} (i : Nat) (h : rl_at tables_1_1 i = some w) (hg : rl_nw w = true) : w ∈ rl_Ns := List.mem_filter.mpr ⟨(List.mem_append_left _ (rl_at_mem h)), hg⟩
theorem rl_b2 {w : Cond} (i : Nat) (h : rl_at tables_1_2 i = some w) (hg : goodWord w = true) : w ∈ rl_BW := List.mem_filter.mpr ⟨List.mem_append_right _ (List.mem_append_right _ (List.mem_append_left _ (rl_at_mem h))), hg⟩
theorem rl_n2 {w : Cond} (i : Nat) (h : rl_at tables_1_2 i = some w) (hg : rl_nw w = true) : w ∈ rl_Ns := List.mem_filter.mpr ⟨(List.mem_append_right _ (List.mem_append_left _ (rl_at_mem h))), hg⟩
theorem rl_b3 {w : Cond} (i : Nat) (h : rl_at tables_1_3 i = some w) (hg : goodWord w = true) : w ∈ rl_BW := List.mem_filter.mpr ⟨List.mem_append_right _ (List.mem_append_right _ (List.mem_append_right _ (List.mem_append_left _ (rl_at_mem h)))), hg⟩
theorem rl_n3 {w : Cond} (i : Nat) (h : rl_at tables_1_3 i = some w) (hg : rl_nw w = true) : w ∈ rl_Ns := List.mem_filter.mpr ⟨(List.mem_append_right _ (List.mem_append_right _ (List.mem_append_left _ (rl_at_mem h)))), hg⟩
theorem rl_b4 {w : Cond} (i : Nat) (h : rl_at tables_1_4 i = some w) (hg : goodWord w = true) : w ∈ rl_BW := List.mem_filter.mpr ⟨List.mem_append_right _ (List.mem_append_right _ (List.mem_append_right _ (List.mem_append_right _ (List.mem_append_left _ (rl_at_mem h))))), hg⟩
theorem rl_n4 {w : Cond} (i : Nat) (h : rl_at tables_1_4 i = some w) (hg : rl_nw w = true) : w ∈ rl_Ns := List.mem_filter.mpr ⟨(List.mem_append_right _ (List.mem_append_right _ (List.mem_append_right _ (List.mem_append_left _ (rl_at_mem h))))), hg⟩
theorem rl_b5 {w : Cond} (i : Nat) (h : rl_at tables_1_5 i = some w) (hg : goodWord w = true) : w ∈ rl_BW := List.mem_filter.mpr ⟨List.mem_append_right _ (List.mem_append_right _ (List.mem_append_right _ (List.mem_append_right _ (List.mem_append_right _ (rl_at_mem h))))), hg⟩
theorem rl_n5 {w : Cond} (i : Nat) (h : rl_at tables_1_5 i = some w) (hg : rl_nw w = true) : w ∈ rl_Ns := List.mem_filter.mpr ⟨(List.mem_append_right _ (List.mem_append_right _ (List.mem_append_right _ (List.mem_append_right _ (rl_at_mem h))))), hg⟩
theorem rl_v {w : Cond} (i : Nat) (h : rl_at (k2_sels lw_privs) i = some w) (hg : goodWord w = true) : w ∈ rl_BW := List.mem_filter.mpr ⟨List.mem_append_left _ (rl_at_mem h), hg⟩
theorem rl_BW_tbl : ∀ w ∈ rl_BW, w ∈ lw_tbl := fun _ h => (List.mem_filter.mp h).1
theorem rl_Ns_tbl : ∀ w ∈ rl_Ns, w ∈ lw_tbl := fun _ h => List.mem_append_right _ (List.mem_filter.mp h).1
