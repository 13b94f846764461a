/-- a private method of a class that the tables say can be made, by its rows of tables_1 -/
def lw_okq (q : MethodName × Nat) : Prop := (q.1.cls ≠ "java/lang/invoke/MethodHandle" ∧ q.1.cls ≠ "java/lang/invoke/VarHandle") ∧ Cond.instantiable q.1.cls q.2 ∈ tables_1 ∧ Cond.privateMethod q.1 ∈ tables_1 ∧ Cond.instanceMethod q.1 ∈ tables_1
theorem lw_p0 : lw_okq (⟨"ScopeTasks$Run", "start", "(II)V"⟩, 17) := ⟨⟨by decide +kernel, by decide +kernel⟩, List.mem_of_getElem? (i := 125) (by decide +kernel), List.mem_of_getElem? (i := 136) (by decide +kernel), List.mem_of_getElem? (i := 137) (by decide +kernel)⟩
theorem lw_p1 : lw_okq (⟨"ScopeTasks$Reader", "readItem", "()Z"⟩, 3) := ⟨⟨by decide +kernel, by decide +kernel⟩, List.mem_of_getElem? (i := 108) (by decide +kernel), List.mem_of_getElem? (i := 302) (by decide +kernel), List.mem_of_getElem? (i := 303) (by decide +kernel)⟩
theorem lw_p2 : lw_okq (⟨"ScopeTasks$Reader", "readRoot", "()Z"⟩, 3) := ⟨⟨by decide +kernel, by decide +kernel⟩, List.mem_of_getElem? (i := 108) (by decide +kernel), List.mem_of_getElem? (i := 306) (by decide +kernel), List.mem_of_getElem? (i := 307) (by decide +kernel)⟩
theorem lw_p3 : lw_okq (⟨"ScopeTasks$Reader", "readOperations", "(I)Z"⟩, 3) := ⟨⟨by decide +kernel, by decide +kernel⟩, List.mem_of_getElem? (i := 108) (by decide +kernel), List.mem_of_getElem? (i := 311) (by decide +kernel), List.mem_of_getElem? (i := 312) (by decide +kernel)⟩
theorem lw_p4 : lw_okq (⟨"ScopeTasks$Reader", "readOperation", "(I)Z"⟩, 3) := ⟨⟨by decide +kernel, by decide +kernel⟩, List.mem_of_getElem? (i := 108) (by decide +kernel), List.mem_of_getElem? (i := 315) (by decide +kernel), List.mem_of_getElem? (i := 316) (by decide +kernel)⟩
theorem lw_p5 : lw_okq (⟨"ScopeTasks$Reader", "readEnd", "()Z"⟩, 3) := ⟨⟨by decide +kernel, by decide +kernel⟩, List.mem_of_getElem? (i := 108) (by decide +kernel), List.mem_of_getElem? (i := 327) (by decide +kernel), List.mem_of_getElem? (i := 328) (by decide +kernel)⟩
theorem lw_p6 : lw_okq (⟨"ScopeTasks$Reader", "readTask", "()Z"⟩, 3) := ⟨⟨by decide +kernel, by decide +kernel⟩, List.mem_of_getElem? (i := 108) (by decide +kernel), List.mem_of_getElem? (i := 331) (by decide +kernel), List.mem_of_getElem? (i := 332) (by decide +kernel)⟩
theorem lw_p7 : lw_okq (⟨"ScopeTasks$Reader", "isTaskTold", "()Z"⟩, 3) := ⟨⟨by decide +kernel, by decide +kernel⟩, List.mem_of_getElem? (i := 108) (by decide +kernel), List.mem_of_getElem? (i := 335) (by decide +kernel), List.mem_of_getElem? (i := 336) (by decide +kernel)⟩
theorem lw_p8 : lw_okq (⟨"ScopeTasks$Reader", "readSetting", "([III)Z"⟩, 3) := ⟨⟨by decide +kernel, by decide +kernel⟩, List.mem_of_getElem? (i := 108) (by decide +kernel), List.mem_of_getElem? (i := 340) (by decide +kernel), List.mem_of_getElem? (i := 341) (by decide +kernel)⟩
theorem lw_p9 : lw_okq (⟨"ScopeTasks$Reader", "readGathers", "()Z"⟩, 3) := ⟨⟨by decide +kernel, by decide +kernel⟩, List.mem_of_getElem? (i := 108) (by decide +kernel), List.mem_of_getElem? (i := 344) (by decide +kernel), List.mem_of_getElem? (i := 345) (by decide +kernel)⟩
theorem lw_p10 : lw_okq (⟨"ScopeTasks$Run", "addCode", "(II)V"⟩, 17) := ⟨⟨by decide +kernel, by decide +kernel⟩, List.mem_of_getElem? (i := 125) (by decide +kernel), List.mem_of_getElem? (i := 374) (by decide +kernel), List.mem_of_getElem? (i := 375) (by decide +kernel)⟩
theorem lw_p11 : lw_okq (⟨"ScopeTasks$Run", "close", "(II)V"⟩, 17) := ⟨⟨by decide +kernel, by decide +kernel⟩, List.mem_of_getElem? (i := 125) (by decide +kernel), List.mem_of_getElem? (i := 378) (by decide +kernel), List.mem_of_getElem? (i := 379) (by decide +kernel)⟩
theorem lw_p12 : lw_okq (⟨"ScopeTasks$Run", "note", "(II)V"⟩, 17) := ⟨⟨by decide +kernel, by decide +kernel⟩, List.mem_of_getElem? (i := 125) (by decide +kernel), List.mem_of_getElem? (i := 382) (by decide +kernel), List.mem_of_getElem? (i := 383) (by decide +kernel)⟩
theorem lw_p13 : lw_okq (⟨"ScopeTasks$Run", "askChildren", "(I)V"⟩, 17) := ⟨⟨by decide +kernel, by decide +kernel⟩, List.mem_of_getElem? (i := 125) (by decide +kernel), List.mem_of_getElem? (i := 386) (by decide +kernel), List.mem_of_getElem? (i := 387) (by decide +kernel)⟩
theorem lw_p14 : lw_okq (⟨"ScopeTasks$Run", "goOn", "(I)V"⟩, 17) := ⟨⟨by decide +kernel, by decide +kernel⟩, List.mem_of_getElem? (i := 125) (by decide +kernel), List.mem_of_getElem? (i := 390) (by decide +kernel), List.mem_of_getElem? (i := 391) (by decide +kernel)⟩
theorem lw_p15 : lw_okq (⟨"ScopeTasks$Run", "operate", "(III)V"⟩, 17) := ⟨⟨by decide +kernel, by decide +kernel⟩, List.mem_of_getElem? (i := 125) (by decide +kernel), List.mem_of_getElem? (i := 394) (by decide +kernel), List.mem_of_getElem? (i := 395) (by decide +kernel)⟩
def lw_privs_1 : List (MethodName × Nat) := [(⟨"ScopeTasks$Run", "start", "(II)V"⟩, 17), (⟨"ScopeTasks$Reader", "readItem", "()Z"⟩, 3), (⟨"ScopeTasks$Reader", "readRoot", "()Z"⟩, 3), (⟨"ScopeTasks$Reader", "readOperations", "(I)Z"⟩, 3), (⟨"ScopeTasks$Reader", "readOperation", "(I)Z"⟩, 3), (⟨"ScopeTasks$Reader", "readEnd", "()Z"⟩, 3), (⟨"ScopeTasks$Reader", "readTask", "()Z"⟩, 3), (⟨"ScopeTasks$Reader", "isTaskTold", "()Z"⟩, 3), (⟨"ScopeTasks$Reader", "readSetting", "([III)Z"⟩, 3), (⟨"ScopeTasks$Reader", "readGathers", "()Z"⟩, 3), (⟨"ScopeTasks$Run", "addCode", "(II)V"⟩, 17), (⟨"ScopeTasks$Run", "close", "(II)V"⟩, 17), (⟨"ScopeTasks$Run", "note", "(II)V"⟩, 17), (⟨"ScopeTasks$Run", "askChildren", "(I)V"⟩, 17), (⟨"ScopeTasks$Run", "goOn", "(I)V"⟩, 17), (⟨"ScopeTasks$Run", "operate", "(III)V"⟩, 17)]
theorem lw_r1 : ∀ q ∈ lw_privs_1, lw_okq q := List.forall_mem_cons.mpr ⟨lw_p0, List.forall_mem_cons.mpr ⟨lw_p1, List.forall_mem_cons.mpr ⟨lw_p2, List.forall_mem_cons.mpr ⟨lw_p3, List.forall_mem_cons.mpr ⟨lw_p4, List.forall_mem_cons.mpr ⟨lw_p5, List.forall_mem_cons.mpr ⟨lw_p6, List.forall_mem_cons.mpr ⟨lw_p7, List.forall_mem_cons.mpr ⟨lw_p8, List.forall_mem_cons.mpr ⟨lw_p9, List.forall_mem_cons.mpr ⟨lw_p10, List.forall_mem_cons.mpr ⟨lw_p11, List.forall_mem_cons.mpr ⟨lw_p12, List.forall_mem_cons.mpr ⟨lw_p13, List.forall_mem_cons.mpr ⟨lw_p14, List.forall_mem_cons.mpr ⟨lw_p15, fun _ h => absurd h List.not_mem_nil⟩⟩⟩⟩⟩⟩⟩⟩⟩⟩⟩⟩⟩⟩⟩⟩
theorem lw_p16 : lw_okq (⟨"ScopeTasks$Run", "work", "(II)V"⟩, 17) := ⟨⟨by decide +kernel, by decide +kernel⟩, List.mem_of_getElem? (i := 125) (by decide +kernel), List.mem_of_getElem? (i := 398) (by decide +kernel), List.mem_of_getElem? (i := 399) (by decide +kernel)⟩
theorem lw_p17 : lw_okq (⟨"ScopeTasks$Run", "beginChild", "(I)V"⟩, 17) := ⟨⟨by decide +kernel, by decide +kernel⟩, List.mem_of_getElem? (i := 125) (by decide +kernel), List.mem_of_getElem? (i := 402) (by decide +kernel), List.mem_of_getElem? (i := 403) (by decide +kernel)⟩
theorem lw_p18 : lw_okq (⟨"ScopeTasks$Run", "cleansUp", "(I)Z"⟩, 17) := ⟨⟨by decide +kernel, by decide +kernel⟩, List.mem_of_getElem? (i := 125) (by decide +kernel), List.mem_of_getElem? (i := 410) (by decide +kernel), List.mem_of_getElem? (i := 411) (by decide +kernel)⟩
theorem lw_p19 : lw_okq (⟨"ScopeTasks$Run", "end", "(I)V"⟩, 17) := ⟨⟨by decide +kernel, by decide +kernel⟩, List.mem_of_getElem? (i := 125) (by decide +kernel), List.mem_of_getElem? (i := 414) (by decide +kernel), List.mem_of_getElem? (i := 415) (by decide +kernel)⟩
theorem lw_p20 : lw_okq (⟨"ScopeTasks$Run", "giveList", "(II)V"⟩, 17) := ⟨⟨by decide +kernel, by decide +kernel⟩, List.mem_of_getElem? (i := 125) (by decide +kernel), List.mem_of_getElem? (i := 418) (by decide +kernel), List.mem_of_getElem? (i := 419) (by decide +kernel)⟩
theorem lw_p21 : lw_okq (⟨"ScopeTasks$Run", "takeFailure", "(I)V"⟩, 17) := ⟨⟨by decide +kernel, by decide +kernel⟩, List.mem_of_getElem? (i := 125) (by decide +kernel), List.mem_of_getElem? (i := 422) (by decide +kernel), List.mem_of_getElem? (i := 423) (by decide +kernel)⟩
theorem lw_p22 : lw_okq (⟨"ScopeTasks", "isTask", "(I)Z"⟩, 14) := ⟨⟨by decide +kernel, by decide +kernel⟩, List.mem_of_getElem? (i := 11) (by decide +kernel), List.mem_of_getElem? (i := 430) (by decide +kernel), List.mem_of_getElem? (i := 431) (by decide +kernel)⟩
theorem lw_p23 : lw_okq (⟨"ScopeTasks", "suppose", "(II)V"⟩, 14) := ⟨⟨by decide +kernel, by decide +kernel⟩, List.mem_of_getElem? (i := 11) (by decide +kernel), List.mem_of_getElem? (i := 470) (by decide +kernel), List.mem_of_getElem? (i := 471) (by decide +kernel)⟩
theorem lw_p24 : lw_okq (⟨"ScopeTasks", "longestSeen", "()I"⟩, 14) := ⟨⟨by decide +kernel, by decide +kernel⟩, List.mem_of_getElem? (i := 11) (by decide +kernel), List.mem_of_getElem? (i := 491) (by decide +kernel), List.mem_of_getElem? (i := 492) (by decide +kernel)⟩
theorem lw_p25 : lw_okq (⟨"ScopeTasks", "agreesWithSeen", "()Z"⟩, 14) := ⟨⟨by decide +kernel, by decide +kernel⟩, List.mem_of_getElem? (i := 11) (by decide +kernel), List.mem_of_getElem? (i := 498) (by decide +kernel), List.mem_of_getElem? (i := 499) (by decide +kernel)⟩
theorem lw_p26 : lw_okq (⟨"ScopeTasksModel", "begins", "()V"⟩, 34) := ⟨⟨by decide +kernel, by decide +kernel⟩, List.mem_of_getElem? (i := 522) (by decide +kernel), List.mem_of_getElem? (i := 528) (by decide +kernel), List.mem_of_getElem? (i := 529) (by decide +kernel)⟩
theorem lw_p27 : lw_okq (⟨"ScopeTasksModel", "tellsAll", "()V"⟩, 34) := ⟨⟨by decide +kernel, by decide +kernel⟩, List.mem_of_getElem? (i := 522) (by decide +kernel), List.mem_of_getElem? (i := 532) (by decide +kernel), List.mem_of_getElem? (i := 533) (by decide +kernel)⟩
theorem lw_p28 : lw_okq (⟨"ScopeTasksModel", "starts", "([I)V"⟩, 34) := ⟨⟨by decide +kernel, by decide +kernel⟩, List.mem_of_getElem? (i := 522) (by decide +kernel), List.mem_of_getElem? (i := 536) (by decide +kernel), List.mem_of_getElem? (i := 537) (by decide +kernel)⟩
theorem lw_p29 : lw_okq (⟨"ScopeTasksModel", "blanks", "()V"⟩, 34) := ⟨⟨by decide +kernel, by decide +kernel⟩, List.mem_of_getElem? (i := 522) (by decide +kernel), List.mem_of_getElem? (i := 658) (by decide +kernel), List.mem_of_getElem? (i := 659) (by decide +kernel)⟩
theorem lw_p30 : lw_okq (⟨"ScopeTasksModel", "readsItem", "()Z"⟩, 34) := ⟨⟨by decide +kernel, by decide +kernel⟩, List.mem_of_getElem? (i := 522) (by decide +kernel), List.mem_of_getElem? (i := 662) (by decide +kernel), List.mem_of_getElem? (i := 663) (by decide +kernel)⟩
theorem lw_p31 : lw_okq (⟨"ScopeTasksModel", "next", "()V"⟩, 34) := ⟨⟨by decide +kernel, by decide +kernel⟩, List.mem_of_getElem? (i := 522) (by decide +kernel), List.mem_of_getElem? (i := 666) (by decide +kernel), List.mem_of_getElem? (i := 667) (by decide +kernel)⟩
def lw_privs_2 : List (MethodName × Nat) := [(⟨"ScopeTasks$Run", "work", "(II)V"⟩, 17), (⟨"ScopeTasks$Run", "beginChild", "(I)V"⟩, 17), (⟨"ScopeTasks$Run", "cleansUp", "(I)Z"⟩, 17), (⟨"ScopeTasks$Run", "end", "(I)V"⟩, 17), (⟨"ScopeTasks$Run", "giveList", "(II)V"⟩, 17), (⟨"ScopeTasks$Run", "takeFailure", "(I)V"⟩, 17), (⟨"ScopeTasks", "isTask", "(I)Z"⟩, 14), (⟨"ScopeTasks", "suppose", "(II)V"⟩, 14), (⟨"ScopeTasks", "longestSeen", "()I"⟩, 14), (⟨"ScopeTasks", "agreesWithSeen", "()Z"⟩, 14), (⟨"ScopeTasksModel", "begins", "()V"⟩, 34), (⟨"ScopeTasksModel", "tellsAll", "()V"⟩, 34), (⟨"ScopeTasksModel", "starts", "([I)V"⟩, 34), (⟨"ScopeTasksModel", "blanks", "()V"⟩, 34), (⟨"ScopeTasksModel", "readsItem", "()Z"⟩, 34), (⟨"ScopeTasksModel", "next", "()V"⟩, 34)]
theorem lw_r2 : ∀ q ∈ lw_privs_2, lw_okq q := List.forall_mem_cons.mpr ⟨lw_p16, List.forall_mem_cons.mpr ⟨lw_p17, List.forall_mem_cons.mpr ⟨lw_p18, List.forall_mem_cons.mpr ⟨lw_p19, List.forall_mem_cons.mpr ⟨lw_p20, List.forall_mem_cons.mpr ⟨lw_p21, List.forall_mem_cons.mpr ⟨lw_p22, List.forall_mem_cons.mpr ⟨lw_p23, List.forall_mem_cons.mpr ⟨lw_p24, List.forall_mem_cons.mpr ⟨lw_p25, List.forall_mem_cons.mpr ⟨lw_p26, List.forall_mem_cons.mpr ⟨lw_p27, List.forall_mem_cons.mpr ⟨lw_p28, List.forall_mem_cons.mpr ⟨lw_p29, List.forall_mem_cons.mpr ⟨lw_p30, List.forall_mem_cons.mpr ⟨lw_p31, fun _ h => absurd h List.not_mem_nil⟩⟩⟩⟩⟩⟩⟩⟩⟩⟩⟩⟩⟩⟩⟩⟩
theorem lw_p32 : lw_okq (⟨"ScopeTasksModel", "isFigure", "()Z"⟩, 34) := ⟨⟨by decide +kernel, by decide +kernel⟩, List.mem_of_getElem? (i := 522) (by decide +kernel), List.mem_of_getElem? (i := 670) (by decide +kernel), List.mem_of_getElem? (i := 671) (by decide +kernel)⟩
theorem lw_p33 : lw_okq (⟨"ScopeTasksModel", "fails", "()Z"⟩, 34) := ⟨⟨by decide +kernel, by decide +kernel⟩, List.mem_of_getElem? (i := 522) (by decide +kernel), List.mem_of_getElem? (i := 677) (by decide +kernel), List.mem_of_getElem? (i := 678) (by decide +kernel)⟩
theorem lw_p34 : lw_okq (⟨"ScopeTasksModel", "readsProgram", "(I)Z"⟩, 34) := ⟨⟨by decide +kernel, by decide +kernel⟩, List.mem_of_getElem? (i := 522) (by decide +kernel), List.mem_of_getElem? (i := 681) (by decide +kernel), List.mem_of_getElem? (i := 682) (by decide +kernel)⟩
theorem lw_p35 : lw_okq (⟨"ScopeTasksModel", "number", "(II)Z"⟩, 34) := ⟨⟨by decide +kernel, by decide +kernel⟩, List.mem_of_getElem? (i := 522) (by decide +kernel), List.mem_of_getElem? (i := 685) (by decide +kernel), List.mem_of_getElem? (i := 686) (by decide +kernel)⟩
theorem lw_p36 : lw_okq (⟨"ScopeTasksModel", "readsTask", "()Z"⟩, 34) := ⟨⟨by decide +kernel, by decide +kernel⟩, List.mem_of_getElem? (i := 522) (by decide +kernel), List.mem_of_getElem? (i := 689) (by decide +kernel), List.mem_of_getElem? (i := 690) (by decide +kernel)⟩
theorem lw_p37 : lw_okq (⟨"ScopeTasksModel", "readsOf", "(I)Z"⟩, 34) := ⟨⟨by decide +kernel, by decide +kernel⟩, List.mem_of_getElem? (i := 522) (by decide +kernel), List.mem_of_getElem? (i := 693) (by decide +kernel), List.mem_of_getElem? (i := 694) (by decide +kernel)⟩
theorem lw_p38 : lw_okq (⟨"ScopeTasksModel", "ends", "()Z"⟩, 34) := ⟨⟨by decide +kernel, by decide +kernel⟩, List.mem_of_getElem? (i := 522) (by decide +kernel), List.mem_of_getElem? (i := 697) (by decide +kernel), List.mem_of_getElem? (i := 698) (by decide +kernel)⟩
theorem lw_p39 : lw_okq (⟨"ScopeTasksModel", "remember", "()V"⟩, 34) := ⟨⟨by decide +kernel, by decide +kernel⟩, List.mem_of_getElem? (i := 522) (by decide +kernel), List.mem_of_getElem? (i := 708) (by decide +kernel), List.mem_of_getElem? (i := 709) (by decide +kernel)⟩
theorem lw_p40 : lw_okq (⟨"ScopeTasksModel", "tick", "([I)V"⟩, 34) := ⟨⟨by decide +kernel, by decide +kernel⟩, List.mem_of_getElem? (i := 522) (by decide +kernel), List.mem_of_getElem? (i := 712) (by decide +kernel), List.mem_of_getElem? (i := 713) (by decide +kernel)⟩
theorem lw_p41 : lw_okq (⟨"ScopeTasksModel", "closes", "([III)V"⟩, 34) := ⟨⟨by decide +kernel, by decide +kernel⟩, List.mem_of_getElem? (i := 522) (by decide +kernel), List.mem_of_getElem? (i := 722) (by decide +kernel), List.mem_of_getElem? (i := 723) (by decide +kernel)⟩
theorem lw_p42 : lw_okq (⟨"ScopeTasksModel", "asksChildren", "([II)V"⟩, 34) := ⟨⟨by decide +kernel, by decide +kernel⟩, List.mem_of_getElem? (i := 522) (by decide +kernel), List.mem_of_getElem? (i := 726) (by decide +kernel), List.mem_of_getElem? (i := 727) (by decide +kernel)⟩
theorem lw_p43 : lw_okq (⟨"ScopeTasksModel", "moves", "([II)V"⟩, 34) := ⟨⟨by decide +kernel, by decide +kernel⟩, List.mem_of_getElem? (i := 522) (by decide +kernel), List.mem_of_getElem? (i := 733) (by decide +kernel), List.mem_of_getElem? (i := 734) (by decide +kernel)⟩
theorem lw_p44 : lw_okq (⟨"ScopeTasksModel", "works", "([II)V"⟩, 34) := ⟨⟨by decide +kernel, by decide +kernel⟩, List.mem_of_getElem? (i := 522) (by decide +kernel), List.mem_of_getElem? (i := 737) (by decide +kernel), List.mem_of_getElem? (i := 738) (by decide +kernel)⟩
theorem lw_p45 : lw_okq (⟨"ScopeTasksModel", "beginsChild", "([II)V"⟩, 34) := ⟨⟨by decide +kernel, by decide +kernel⟩, List.mem_of_getElem? (i := 522) (by decide +kernel), List.mem_of_getElem? (i := 741) (by decide +kernel), List.mem_of_getElem? (i := 742) (by decide +kernel)⟩
theorem lw_p46 : lw_okq (⟨"ScopeTasksModel", "begin", "([II)V"⟩, 34) := ⟨⟨by decide +kernel, by decide +kernel⟩, List.mem_of_getElem? (i := 522) (by decide +kernel), List.mem_of_getElem? (i := 745) (by decide +kernel), List.mem_of_getElem? (i := 746) (by decide +kernel)⟩
theorem lw_p47 : lw_okq (⟨"ScopeTasksModel", "isBusy", "([II)Z"⟩, 34) := ⟨⟨by decide +kernel, by decide +kernel⟩, List.mem_of_getElem? (i := 522) (by decide +kernel), List.mem_of_getElem? (i := 749) (by decide +kernel), List.mem_of_getElem? (i := 750) (by decide +kernel)⟩
def lw_privs_3 : List (MethodName × Nat) := [(⟨"ScopeTasksModel", "isFigure", "()Z"⟩, 34), (⟨"ScopeTasksModel", "fails", "()Z"⟩, 34), (⟨"ScopeTasksModel", "readsProgram", "(I)Z"⟩, 34), (⟨"ScopeTasksModel", "number", "(II)Z"⟩, 34), (⟨"ScopeTasksModel", "readsTask", "()Z"⟩, 34), (⟨"ScopeTasksModel", "readsOf", "(I)Z"⟩, 34), (⟨"ScopeTasksModel", "ends", "()Z"⟩, 34), (⟨"ScopeTasksModel", "remember", "()V"⟩, 34), (⟨"ScopeTasksModel", "tick", "([I)V"⟩, 34), (⟨"ScopeTasksModel", "closes", "([III)V"⟩, 34), (⟨"ScopeTasksModel", "asksChildren", "([II)V"⟩, 34), (⟨"ScopeTasksModel", "moves", "([II)V"⟩, 34), (⟨"ScopeTasksModel", "works", "([II)V"⟩, 34), (⟨"ScopeTasksModel", "beginsChild", "([II)V"⟩, 34), (⟨"ScopeTasksModel", "begin", "([II)V"⟩, 34), (⟨"ScopeTasksModel", "isBusy", "([II)Z"⟩, 34)]
theorem lw_r3 : ∀ q ∈ lw_privs_3, lw_okq q := List.forall_mem_cons.mpr ⟨lw_p32, List.forall_mem_cons.mpr ⟨lw_p33, List.forall_mem_cons.mpr ⟨lw_p34, List.forall_mem_cons.mpr ⟨lw_p35, List.forall_mem_cons.mpr ⟨lw_p36, List.forall_mem_cons.mpr ⟨lw_p37, List.forall_mem_cons.mpr ⟨lw_p38, List.forall_mem_cons.mpr ⟨lw_p39, List.forall_mem_cons.mpr ⟨lw_p40, List.forall_mem_cons.mpr ⟨lw_p41, List.forall_mem_cons.mpr ⟨lw_p42, List.forall_mem_cons.mpr ⟨lw_p43, List.forall_mem_cons.mpr ⟨lw_p44, List.forall_mem_cons.mpr ⟨lw_p45, List.forall_mem_cons.mpr ⟨lw_p46, List.forall_mem_cons.mpr ⟨lw_p47, fun _ h => absurd h List.not_mem_nil⟩⟩⟩⟩⟩⟩⟩⟩⟩⟩⟩⟩⟩⟩⟩⟩
theorem lw_p48 : lw_okq (⟨"ScopeTasksModel", "cleansUp", "([II)V"⟩, 34) := ⟨⟨by decide +kernel, by decide +kernel⟩, List.mem_of_getElem? (i := 522) (by decide +kernel), List.mem_of_getElem? (i := 753) (by decide +kernel), List.mem_of_getElem? (i := 754) (by decide +kernel)⟩
theorem lw_p49 : lw_okq (⟨"ScopeTasksModel", "gives", "([II)V"⟩, 34) := ⟨⟨by decide +kernel, by decide +kernel⟩, List.mem_of_getElem? (i := 522) (by decide +kernel), List.mem_of_getElem? (i := 757) (by decide +kernel), List.mem_of_getElem? (i := 758) (by decide +kernel)⟩
theorem lw_p50 : lw_okq (⟨"ScopeTasksModel", "isTask", "(I)Z"⟩, 34) := ⟨⟨by decide +kernel, by decide +kernel⟩, List.mem_of_getElem? (i := 522) (by decide +kernel), List.mem_of_getElem? (i := 765) (by decide +kernel), List.mem_of_getElem? (i := 766) (by decide +kernel)⟩
theorem lw_p51 : lw_okq (⟨"ScopeTasksModel", "busySet", "(I)I"⟩, 34) := ⟨⟨by decide +kernel, by decide +kernel⟩, List.mem_of_getElem? (i := 522) (by decide +kernel), List.mem_of_getElem? (i := 777) (by decide +kernel), List.mem_of_getElem? (i := 778) (by decide +kernel)⟩
theorem lw_p52 : lw_okq (⟨"ScopeTasksModel", "goesOn", "(I)V"⟩, 34) := ⟨⟨by decide +kernel, by decide +kernel⟩, List.mem_of_getElem? (i := 522) (by decide +kernel), List.mem_of_getElem? (i := 796) (by decide +kernel), List.mem_of_getElem? (i := 797) (by decide +kernel)⟩
theorem lw_p53 : lw_okq (⟨"ScopeTasksModel", "howMany", "(I)I"⟩, 34) := ⟨⟨by decide +kernel, by decide +kernel⟩, List.mem_of_getElem? (i := 522) (by decide +kernel), List.mem_of_getElem? (i := 833) (by decide +kernel), List.mem_of_getElem? (i := 834) (by decide +kernel)⟩
def lw_privs_4 : List (MethodName × Nat) := [(⟨"ScopeTasksModel", "cleansUp", "([II)V"⟩, 34), (⟨"ScopeTasksModel", "gives", "([II)V"⟩, 34), (⟨"ScopeTasksModel", "isTask", "(I)Z"⟩, 34), (⟨"ScopeTasksModel", "busySet", "(I)I"⟩, 34), (⟨"ScopeTasksModel", "goesOn", "(I)V"⟩, 34), (⟨"ScopeTasksModel", "howMany", "(I)I"⟩, 34)]
theorem lw_r4 : ∀ q ∈ lw_privs_4, lw_okq q := List.forall_mem_cons.mpr ⟨lw_p48, List.forall_mem_cons.mpr ⟨lw_p49, List.forall_mem_cons.mpr ⟨lw_p50, List.forall_mem_cons.mpr ⟨lw_p51, List.forall_mem_cons.mpr ⟨lw_p52, List.forall_mem_cons.mpr ⟨lw_p53, fun _ h => absurd h List.not_mem_nil⟩⟩⟩⟩⟩⟩
def lw_privs : List (MethodName × Nat) := lw_privs_1 ++ (lw_privs_2 ++ (lw_privs_3 ++ (lw_privs_4)))
def lw_tbl : List Cond := k2_sels lw_privs ++ tables_1
theorem lw_privs_ok : ∀ q ∈ lw_privs, lw_okq q := by
  show ∀ q ∈ lw_privs_1 ++ (lw_privs_2 ++ (lw_privs_3 ++ (lw_privs_4))), lw_okq q
  exact List.forall_mem_append.mpr ⟨lw_r1, List.forall_mem_append.mpr ⟨lw_r2, List.forall_mem_append.mpr ⟨lw_r3, lw_r4⟩⟩⟩
theorem goodIn_r {big : List Cond} (ws : List Cond) (ps : List Nat) (hp : ws = ps.filterMap (fun i => big[i]?)) (h : ws.all goodWord = true) : GoodIn big ws := by
  intro w hw
  have h1 := List.all_eq_true.mp h w hw
  rw [hp] at hw
  obtain ⟨i, -, hi⟩ := List.mem_filterMap.mp hw
  have hm : w ∈ big := by first | exact List.mem_of_getElem? hi | exact List.getElem?_mem hi
  exact ⟨hm, good_of_word h1⟩
def RX0 : String := "ScopeTasks$History"
def TX0 : u_T := fun k => match k with
  | 0 => ("ScopeTasks$History", "rows", "[LScopeTasks$Run;", true)
  | 1 => ("ScopeTasks$History", "size", "I", false)
  | _ => ("ScopeTasks$History", "newest", "I", false)
def tyX0 : Nat → FieldType := fun k => match k with
  | 0 => .array (.object "ScopeTasks$Run")
  | 1 => .int
  | _ => .int
abbrev wsX00 : List Cond := u_ws RX0 TX0 3
theorem nmX0 : ∀ a, a < 3 → ∀ b, b < 3 → a ≠ b → (TX0 a).2.1 ≠ (TX0 b).2.1 := by decide +kernel
theorem tyX0_ok : ∀ k, k < 3 → parseFieldDescriptor (TX0 k).2.2.1 = some (tyX0 k) := by decide +kernel
abbrev cX0_init : ByteArray := prog_2_method_1_code
def yX0_init : MethodName := ⟨RX0, "<init>", "(LScopeTasks$Plan;)V"⟩
abbrev cX0_remember : ByteArray := prog_2_method_2_code
def yX0_remember : MethodName := ⟨RX0, "remember", "(LScopeTasks$Run;)V"⟩
abbrev cX0_restore : ByteArray := prog_2_method_3_code
def yX0_restore : MethodName := ⟨RX0, "restore", "(LScopeTasks$Run;)Z"⟩
def RX1 : String := "ScopeTasks$Plan"
def TX1 : u_T := fun k => match k with
  | 0 => ("ScopeTasks$Plan", "tasks", "I", false)
  | 1 => ("ScopeTasks$Plan", "parent", "[I", true)
  | 2 => ("ScopeTasks$Plan", "operations", "[I", true)
  | 3 => ("ScopeTasks$Plan", "operation", "[I", true)
  | 4 => ("ScopeTasks$Plan", "number", "[I", true)
  | 5 => ("ScopeTasks$Plan", "deadline", "[I", true)
  | 6 => ("ScopeTasks$Plan", "shield", "[I", true)
  | 7 => ("ScopeTasks$Plan", "cleanUp", "[I", true)
  | _ => ("ScopeTasks$Plan", "gathers", "[I", true)
def tyX1 : Nat → FieldType := fun k => match k with
  | 0 => .int
  | 1 => .array .int
  | 2 => .array .int
  | 3 => .array .int
  | 4 => .array .int
  | 5 => .array .int
  | 6 => .array .int
  | 7 => .array .int
  | _ => .array .int
abbrev wsX10 : List Cond := u_ws RX1 TX1 9
theorem nmX1 : ∀ a, a < 9 → ∀ b, b < 9 → a ≠ b → (TX1 a).2.1 ≠ (TX1 b).2.1 := by decide +kernel
theorem tyX1_ok : ∀ k, k < 9 → parseFieldDescriptor (TX1 k).2.2.1 = some (tyX1 k) := by decide +kernel
abbrev cX1_init : ByteArray := prog_3_method_1_code
def yX1_init : MethodName := ⟨RX1, "<init>", "()V"⟩
abbrev cX1_tellAnew : ByteArray := prog_3_method_2_code
def yX1_tellAnew : MethodName := ⟨RX1, "tellAnew", "()V"⟩
abbrev cX1_addTask : ByteArray := prog_3_method_3_code
def yX1_addTask : MethodName := ⟨RX1, "addTask", "(I)I"⟩
abbrev cX1_addOperation : ByteArray := prog_3_method_4_code
def yX1_addOperation : MethodName := ⟨RX1, "addOperation", "(III)Z"⟩
abbrev cX1_copyFrom : ByteArray := prog_3_method_5_code
def yX1_copyFrom : MethodName := ⟨RX1, "copyFrom", "(LScopeTasks$Plan;)V"⟩
def RX2 : String := "ScopeTasks$Reader"
def TX2 : u_T := fun k => match k with
  | 0 => ("ScopeTasks$Reader", "tokens", "LScopeTasks$Tokens;", true)
  | 1 => ("ScopeTasks$Reader", "plan", "LScopeTasks$Plan;", true)
  | _ => ("ScopeTasks$Reader", "items", "I", false)
def tyX2 : Nat → FieldType := fun k => match k with
  | 0 => .object "ScopeTasks$Tokens"
  | 1 => .object "ScopeTasks$Plan"
  | _ => .int
abbrev wsX20 : List Cond := u_ws RX2 TX2 3
theorem nmX2 : ∀ a, a < 3 → ∀ b, b < 3 → a ≠ b → (TX2 a).2.1 ≠ (TX2 b).2.1 := by decide +kernel
theorem tyX2_ok : ∀ k, k < 3 → parseFieldDescriptor (TX2 k).2.2.1 = some (tyX2 k) := by decide +kernel
abbrev cX2_init : ByteArray := prog_4_method_1_code
def yX2_init : MethodName := ⟨RX2, "<init>", "(LScopeTasks$Tokens;LScopeTasks$Plan;)V"⟩
abbrev cX2_readAll : ByteArray := prog_4_method_2_code
def yX2_readAll : MethodName := ⟨RX2, "readAll", "()Z"⟩
abbrev cX2_readItem : ByteArray := prog_4_method_3_code
def yX2_readItem : MethodName := ⟨RX2, "readItem", "()Z"⟩
abbrev cX2_readRoot : ByteArray := prog_4_method_4_code
def yX2_readRoot : MethodName := ⟨RX2, "readRoot", "()Z"⟩
abbrev cX2_readTask : ByteArray := prog_4_method_5_code
def yX2_readTask : MethodName := ⟨RX2, "readTask", "()Z"⟩
abbrev cX2_readSetting : ByteArray := prog_4_method_6_code
def yX2_readSetting : MethodName := ⟨RX2, "readSetting", "([III)Z"⟩
abbrev cX2_readGathers : ByteArray := prog_4_method_7_code
def yX2_readGathers : MethodName := ⟨RX2, "readGathers", "()Z"⟩
abbrev cX2_readOperations : ByteArray := prog_4_method_8_code
def yX2_readOperations : MethodName := ⟨RX2, "readOperations", "(I)Z"⟩
abbrev cX2_readOperation : ByteArray := prog_4_method_9_code
def yX2_readOperation : MethodName := ⟨RX2, "readOperation", "(I)Z"⟩
abbrev cX2_readEnd : ByteArray := prog_4_method_10_code
def yX2_readEnd : MethodName := ⟨RX2, "readEnd", "()Z"⟩
abbrev cX2_isTaskTold : ByteArray := prog_4_method_11_code
def yX2_isTaskTold : MethodName := ⟨RX2, "isTaskTold", "()Z"⟩
def RX3 : String := "ScopeTasks$Run"
def TX3 : u_T := fun k => match k with
  | 0 => ("ScopeTasks$Run", "plan", "LScopeTasks$Plan;", false)
  | 1 => ("ScopeTasks$Run", "tick", "I", false)
  | 2 => ("ScopeTasks$Run", "how", "[I", true)
  | 3 => ("ScopeTasks$Run", "out", "[I", true)
  | 4 => ("ScopeTasks$Run", "begunAt", "[I", true)
  | 5 => ("ScopeTasks$Run", "endedAt", "[I", true)
  | 6 => ("ScopeTasks$Run", "due", "[I", true)
  | 7 => ("ScopeTasks$Run", "behind", "[I", true)
  | 8 => ("ScopeTasks$Run", "worked", "[I", true)
  | 9 => ("ScopeTasks$Run", "cleaned", "[I", true)
  | 10 => ("ScopeTasks$Run", "asked", "[I", true)
  | 11 => ("ScopeTasks$Run", "codes", "[I", true)
  | 12 => ("ScopeTasks$Run", "list", "[I", true)
  | 13 => ("ScopeTasks$Run", "events", "I", false)
  | 14 => ("ScopeTasks$Run", "eventTick", "[I", true)
  | 15 => ("ScopeTasks$Run", "eventTask", "[I", true)
  | _ => ("ScopeTasks$Run", "eventKind", "[I", true)
def tyX3 : Nat → FieldType := fun k => match k with
  | 0 => .object "ScopeTasks$Plan"
  | 1 => .int
  | 2 => .array .int
  | 3 => .array .int
  | 4 => .array .int
  | 5 => .array .int
  | 6 => .array .int
  | 7 => .array .int
  | 8 => .array .int
  | 9 => .array .int
  | 10 => .array .int
  | 11 => .array .int
  | 12 => .array .int
  | 13 => .int
  | 14 => .array .int
  | 15 => .array .int
  | _ => .array .int
abbrev wsX30 : List Cond := u_ws RX3 TX3 17
theorem nmX3 : ∀ a, a < 17 → ∀ b, b < 17 → a ≠ b → (TX3 a).2.1 ≠ (TX3 b).2.1 := by decide +kernel
theorem tyX3_ok : ∀ k, k < 17 → parseFieldDescriptor (TX3 k).2.2.1 = some (tyX3 k) := by decide +kernel
abbrev cX3_init : ByteArray := prog_5_method_1_code
def yX3_init : MethodName := ⟨RX3, "<init>", "(LScopeTasks$Plan;)V"⟩
abbrev cX3_restart : ByteArray := prog_5_method_2_code
def yX3_restart : MethodName := ⟨RX3, "restart", "(LScopeTasks$Plan;)V"⟩
abbrev cX3_copyFrom : ByteArray := prog_5_method_3_code
def yX3_copyFrom : MethodName := ⟨RX3, "copyFrom", "(LScopeTasks$Run;)V"⟩
abbrev cX3_passUntilEnded : ByteArray := prog_5_method_4_code
def yX3_passUntilEnded : MethodName := ⟨RX3, "passUntilEnded", "(II)Z"⟩
abbrev cX3_hadEndedBy : ByteArray := prog_5_method_5_code
def yX3_hadEndedBy : MethodName := ⟨RX3, "hadEndedBy", "(II)Z"⟩
abbrev cX3_countThatAre : ByteArray := prog_5_method_6_code
def yX3_countThatAre : MethodName := ⟨RX3, "countThatAre", "(I)I"⟩
abbrev cX3_activeChildren : ByteArray := prog_5_method_7_code
def yX3_activeChildren : MethodName := ⟨RX3, "activeChildren", "(I)I"⟩
abbrev cX3_passTick : ByteArray := prog_5_method_8_code
def yX3_passTick : MethodName := ⟨RX3, "passTick", "()V"⟩
abbrev cX3_goOn : ByteArray := prog_5_method_9_code
def yX3_goOn : MethodName := ⟨RX3, "goOn", "(I)V"⟩
abbrev cX3_operate : ByteArray := prog_5_method_10_code
def yX3_operate : MethodName := ⟨RX3, "operate", "(III)V"⟩
abbrev cX3_work : ByteArray := prog_5_method_11_code
def yX3_work : MethodName := ⟨RX3, "work", "(II)V"⟩
abbrev cX3_beginChild : ByteArray := prog_5_method_12_code
def yX3_beginChild : MethodName := ⟨RX3, "beginChild", "(I)V"⟩
abbrev cX3_start : ByteArray := prog_5_method_13_code
def yX3_start : MethodName := ⟨RX3, "start", "(II)V"⟩
abbrev cX3_askChildren : ByteArray := prog_5_method_14_code
def yX3_askChildren : MethodName := ⟨RX3, "askChildren", "(I)V"⟩
abbrev cX3_close : ByteArray := prog_5_method_15_code
def yX3_close : MethodName := ⟨RX3, "close", "(II)V"⟩
abbrev cX3_cleansUp : ByteArray := prog_5_method_16_code
def yX3_cleansUp : MethodName := ⟨RX3, "cleansUp", "(I)Z"⟩
abbrev cX3_end : ByteArray := prog_5_method_17_code
def yX3_end : MethodName := ⟨RX3, "end", "(I)V"⟩
abbrev cX3_giveList : ByteArray := prog_5_method_18_code
def yX3_giveList : MethodName := ⟨RX3, "giveList", "(II)V"⟩
abbrev cX3_takeFailure : ByteArray := prog_5_method_19_code
def yX3_takeFailure : MethodName := ⟨RX3, "takeFailure", "(I)V"⟩
abbrev cX3_addCode : ByteArray := prog_5_method_20_code
def yX3_addCode : MethodName := ⟨RX3, "addCode", "(II)V"⟩
abbrev cX3_note : ByteArray := prog_5_method_21_code
def yX3_note : MethodName := ⟨RX3, "note", "(II)V"⟩
def RX4 : String := "ScopeTasks$Tokens"
def TX4 : u_T := fun k => match k with
  | 0 => ("ScopeTasks$Tokens", "letters", "[I", true)
  | 1 => ("ScopeTasks$Tokens", "length", "I", false)
  | 2 => ("ScopeTasks$Tokens", "kind", "I", false)
  | 3 => ("ScopeTasks$Tokens", "value", "I", false)
  | 4 => ("ScopeTasks$Tokens", "start", "I", false)
  | _ => ("ScopeTasks$Tokens", "next", "I", false)
def tyX4 : Nat → FieldType := fun k => match k with
  | 0 => .array .int
  | 1 => .int
  | 2 => .int
  | 3 => .int
  | 4 => .int
  | _ => .int
abbrev wsX40 : List Cond := u_ws RX4 TX4 6
theorem nmX4 : ∀ a, a < 6 → ∀ b, b < 6 → a ≠ b → (TX4 a).2.1 ≠ (TX4 b).2.1 := by decide +kernel
theorem tyX4_ok : ∀ k, k < 6 → parseFieldDescriptor (TX4 k).2.2.1 = some (tyX4 k) := by decide +kernel
abbrev cX4_init : ByteArray := prog_6_method_1_code
def yX4_init : MethodName := ⟨RX4, "<init>", "()V"⟩
abbrev cX4_append : ByteArray := prog_6_method_2_code
def yX4_append : MethodName := ⟨RX4, "append", "(I)Z"⟩
abbrev cX4_goToFirst : ByteArray := prog_6_method_3_code
def yX4_goToFirst : MethodName := ⟨RX4, "goToFirst", "()V"⟩
abbrev cX4_advance : ByteArray := prog_6_method_4_code
def yX4_advance : MethodName := ⟨RX4, "advance", "()V"⟩
abbrev cX4_isNumberWithin : ByteArray := prog_6_method_5_code
def yX4_isNumberWithin : MethodName := ⟨RX4, "isNumberWithin", "(II)Z"⟩
def RX5 : String := "ScopeTasks"
def TX5 : u_T := fun k => match k with
  | 0 => ("ScopeTasks", "text", "LScopeTasks$Tokens;", true)
  | 1 => ("ScopeTasks", "told", "LScopeTasks$Plan;", true)
  | 2 => ("ScopeTasks", "draft", "LScopeTasks$Plan;", true)
  | 3 => ("ScopeTasks", "supposed", "LScopeTasks$Plan;", true)
  | 4 => ("ScopeTasks", "reader", "LScopeTasks$Reader;", true)
  | 5 => ("ScopeTasks", "now", "LScopeTasks$Run;", true)
  | 6 => ("ScopeTasks", "trial", "LScopeTasks$Run;", true)
  | 7 => ("ScopeTasks", "history", "LScopeTasks$History;", true)
  | 8 => ("ScopeTasks", "images", "[LScopeTasks$Run;", true)
  | 9 => ("ScopeTasks", "kept", "[Z", true)
  | 10 => ("ScopeTasks", "seenTask", "[I", true)
  | 11 => ("ScopeTasks", "seenTicks", "[I", true)
  | 12 => ("ScopeTasks", "seenEnded", "[I", true)
  | _ => ("ScopeTasks", "seen", "I", false)
def tyX5 : Nat → FieldType := fun k => match k with
  | 0 => .object "ScopeTasks$Tokens"
  | 1 => .object "ScopeTasks$Plan"
  | 2 => .object "ScopeTasks$Plan"
  | 3 => .object "ScopeTasks$Plan"
  | 4 => .object "ScopeTasks$Reader"
  | 5 => .object "ScopeTasks$Run"
  | 6 => .object "ScopeTasks$Run"
  | 7 => .object "ScopeTasks$History"
  | 8 => .array (.object "ScopeTasks$Run")
  | 9 => .array .boolean
  | 10 => .array .int
  | 11 => .array .int
  | 12 => .array .int
  | _ => .int
abbrev wsX50 : List Cond := u_ws RX5 TX5 14
theorem nmX5 : ∀ a, a < 14 → ∀ b, b < 14 → a ≠ b → (TX5 a).2.1 ≠ (TX5 b).2.1 := by decide +kernel
theorem tyX5_ok : ∀ k, k < 14 → parseFieldDescriptor (TX5 k).2.2.1 = some (tyX5 k) := by decide +kernel
abbrev cX5_init : ByteArray := prog_1_method_1_code
def yX5_init : MethodName := ⟨RX5, "<init>", "()V"⟩
abbrev cX5_type : ByteArray := prog_1_method_2_code
def yX5_type : MethodName := ⟨RX5, "type", "(I)I"⟩
abbrev cX5_clear : ByteArray := prog_1_method_3_code
def yX5_clear : MethodName := ⟨RX5, "clear", "()I"⟩
abbrev cX5_tree : ByteArray := prog_1_method_4_code
def yX5_tree : MethodName := ⟨RX5, "tree", "()I"⟩
abbrev cX5_ticks : ByteArray := prog_1_method_5_code
def yX5_ticks : MethodName := ⟨RX5, "ticks", "(I)I"⟩
abbrev cX5_asks : ByteArray := prog_1_method_6_code
def yX5_asks : MethodName := ⟨RX5, "asks", "(I)I"⟩
abbrev cX5_undo : ByteArray := prog_1_method_7_code
def yX5_undo : MethodName := ⟨RX5, "undo", "()I"⟩
abbrev cX5_task : ByteArray := prog_1_method_8_code
def yX5_task : MethodName := ⟨RX5, "task", "(II)I"⟩
abbrev cX5_failure : ByteArray := prog_1_method_9_code
def yX5_failure : MethodName := ⟨RX5, "failure", "(II)I"⟩
abbrev cX5_trace : ByteArray := prog_1_method_10_code
def yX5_trace : MethodName := ⟨RX5, "trace", "(II)I"⟩
abbrev cX5_ends : ByteArray := prog_1_method_11_code
def yX5_ends : MethodName := ⟨RX5, "ends", "(II)I"⟩
abbrev cX5_wellBy : ByteArray := prog_1_method_12_code
def yX5_wellBy : MethodName := ⟨RX5, "wellBy", "()I"⟩
abbrev cX5_spares : ByteArray := prog_1_method_13_code
def yX5_spares : MethodName := ⟨RX5, "spares", "(I)I"⟩
abbrev cX5_sees : ByteArray := prog_1_method_14_code
def yX5_sees : MethodName := ⟨RX5, "sees", "(III)I"⟩
abbrev cX5_forget : ByteArray := prog_1_method_15_code
def yX5_forget : MethodName := ⟨RX5, "forget", "()I"⟩
abbrev cX5_fits : ByteArray := prog_1_method_16_code
def yX5_fits : MethodName := ⟨RX5, "fits", "(I)I"⟩
abbrev cX5_keep : ByteArray := prog_1_method_17_code
def yX5_keep : MethodName := ⟨RX5, "keep", "(I)I"⟩
abbrev cX5_back : ByteArray := prog_1_method_18_code
def yX5_back : MethodName := ⟨RX5, "back", "(I)I"⟩
abbrev cX5_count : ByteArray := prog_1_method_19_code
def yX5_count : MethodName := ⟨RX5, "count", "(I)I"⟩
abbrev cX5_isTask : ByteArray := prog_1_method_20_code
def yX5_isTask : MethodName := ⟨RX5, "isTask", "(I)Z"⟩
abbrev cX5_suppose : ByteArray := prog_1_method_21_code
def yX5_suppose : MethodName := ⟨RX5, "suppose", "(II)V"⟩
abbrev cX5_longestSeen : ByteArray := prog_1_method_22_code
def yX5_longestSeen : MethodName := ⟨RX5, "longestSeen", "()I"⟩
abbrev cX5_agreesWithSeen : ByteArray := prog_1_method_23_code
def yX5_agreesWithSeen : MethodName := ⟨RX5, "agreesWithSeen", "()Z"⟩
def RX6 : String := "ScopeTasksModel"
def TX6 : u_T := fun k => match k with
  | 0 => ("ScopeTasksModel", "letterMany", "I", false)
  | 1 => ("ScopeTasksModel", "text", "[I", true)
  | 2 => ("ScopeTasksModel", "readAt", "I", false)
  | 3 => ("ScopeTasksModel", "tokenAt", "I", false)
  | 4 => ("ScopeTasksModel", "token", "I", false)
  | 5 => ("ScopeTasksModel", "value", "I", false)
  | 6 => ("ScopeTasksModel", "faultAt", "I", false)
  | 7 => ("ScopeTasksModel", "readMany", "I", false)
  | 8 => ("ScopeTasksModel", "readGathers", "I", false)
  | 9 => ("ScopeTasksModel", "readParent", "[I", true)
  | 10 => ("ScopeTasksModel", "readSizes", "[I", true)
  | 11 => ("ScopeTasksModel", "readActs", "[I", true)
  | 12 => ("ScopeTasksModel", "readDeadlines", "[I", true)
  | 13 => ("ScopeTasksModel", "readShields", "[I", true)
  | 14 => ("ScopeTasksModel", "readCleans", "[I", true)
  | 15 => ("ScopeTasksModel", "taskMany", "I", false)
  | 16 => ("ScopeTasksModel", "gathers", "I", false)
  | 17 => ("ScopeTasksModel", "parent", "[I", true)
  | 18 => ("ScopeTasksModel", "sizes", "[I", true)
  | 19 => ("ScopeTasksModel", "acts", "[I", true)
  | 20 => ("ScopeTasksModel", "deadlines", "[I", true)
  | 21 => ("ScopeTasksModel", "shields", "[I", true)
  | 22 => ("ScopeTasksModel", "cleans", "[I", true)
  | 23 => ("ScopeTasksModel", "now", "[I", true)
  | 24 => ("ScopeTasksModel", "tried", "[I", true)
  | 25 => ("ScopeTasksModel", "undoMany", "I", false)
  | 26 => ("ScopeTasksModel", "undoAt", "I", false)
  | 27 => ("ScopeTasksModel", "undos", "[I", true)
  | 28 => ("ScopeTasksModel", "seenMany", "I", false)
  | 29 => ("ScopeTasksModel", "seenTask", "[I", true)
  | 30 => ("ScopeTasksModel", "seenTicks", "[I", true)
  | 31 => ("ScopeTasksModel", "seenEnded", "[I", true)
  | 32 => ("ScopeTasksModel", "isKept", "[Z", true)
  | _ => ("ScopeTasksModel", "kept", "[I", true)
def tyX6 : Nat → FieldType := fun k => match k with
  | 0 => .int
  | 1 => .array .int
  | 2 => .int
  | 3 => .int
  | 4 => .int
  | 5 => .int
  | 6 => .int
  | 7 => .int
  | 8 => .int
  | 9 => .array .int
  | 10 => .array .int
  | 11 => .array .int
  | 12 => .array .int
  | 13 => .array .int
  | 14 => .array .int
  | 15 => .int
  | 16 => .int
  | 17 => .array .int
  | 18 => .array .int
  | 19 => .array .int
  | 20 => .array .int
  | 21 => .array .int
  | 22 => .array .int
  | 23 => .array .int
  | 24 => .array .int
  | 25 => .int
  | 26 => .int
  | 27 => .array .int
  | 28 => .int
  | 29 => .array .int
  | 30 => .array .int
  | 31 => .array .int
  | 32 => .array .boolean
  | _ => .array .int
abbrev wsX60 : List Cond := u_ws RX6 TX6 34
theorem nmX6 : ∀ a, a < 34 → ∀ b, b < 34 → a ≠ b → (TX6 a).2.1 ≠ (TX6 b).2.1 := by decide +kernel
theorem tyX6_ok : ∀ k, k < 34 → parseFieldDescriptor (TX6 k).2.2.1 = some (tyX6 k) := by decide +kernel
abbrev cX6_init : ByteArray := prog_8_method_1_code
def yX6_init : MethodName := ⟨RX6, "<init>", "()V"⟩
abbrev cX6_in : ByteArray := prog_8_method_2_code
def yX6_in : MethodName := ⟨RX6, "in", "(III)Z"⟩
abbrev cX6_type : ByteArray := prog_8_method_3_code
def yX6_type : MethodName := ⟨RX6, "type", "(I)I"⟩
abbrev cX6_clear : ByteArray := prog_8_method_4_code
def yX6_clear : MethodName := ⟨RX6, "clear", "()I"⟩
abbrev cX6_isFigure : ByteArray := prog_8_method_5_code
def yX6_isFigure : MethodName := ⟨RX6, "isFigure", "()Z"⟩
abbrev cX6_blanks : ByteArray := prog_8_method_6_code
def yX6_blanks : MethodName := ⟨RX6, "blanks", "()V"⟩
abbrev cX6_isToken : ByteArray := prog_8_method_7_code
def yX6_isToken : MethodName := ⟨RX6, "isToken", "(I)Z"⟩
abbrev cX6_next : ByteArray := prog_8_method_8_code
def yX6_next : MethodName := ⟨RX6, "next", "()V"⟩
abbrev cX6_fails : ByteArray := prog_8_method_9_code
def yX6_fails : MethodName := ⟨RX6, "fails", "()Z"⟩
abbrev cX6_number : ByteArray := prog_8_method_10_code
def yX6_number : MethodName := ⟨RX6, "number", "(II)Z"⟩
abbrev cX6_ends : ByteArray := prog_8_method_11_code
def yX6_ends : MethodName := ⟨RX6, "ends", "()Z"⟩
abbrev cX6_begins : ByteArray := prog_8_method_12_code
def yX6_begins : MethodName := ⟨RX6, "begins", "()V"⟩
abbrev cX6_readsProgram : ByteArray := prog_8_method_13_code
def yX6_readsProgram : MethodName := ⟨RX6, "readsProgram", "(I)Z"⟩
abbrev cX6_readsTask : ByteArray := prog_8_method_14_code
def yX6_readsTask : MethodName := ⟨RX6, "readsTask", "()Z"⟩
abbrev cX6_readsOf : ByteArray := prog_8_method_15_code
def yX6_readsOf : MethodName := ⟨RX6, "readsOf", "(I)Z"⟩
abbrev cX6_readsItem : ByteArray := prog_8_method_16_code
def yX6_readsItem : MethodName := ⟨RX6, "readsItem", "()Z"⟩
abbrev cX6_tellsAll : ByteArray := prog_8_method_17_code
def yX6_tellsAll : MethodName := ⟨RX6, "tellsAll", "()V"⟩
abbrev cX6_tree : ByteArray := prog_8_method_18_code
def yX6_tree : MethodName := ⟨RX6, "tree", "()I"⟩
abbrev cX6_copies : ByteArray := prog_8_method_19_code
def yX6_copies : MethodName := ⟨RX6, "copies", "([I[I)V"⟩
abbrev cX6_starts : ByteArray := prog_8_method_20_code
def yX6_starts : MethodName := ⟨RX6, "starts", "([I)V"⟩
abbrev cX6_at : ByteArray := prog_8_method_21_code
def yX6_at : MethodName := ⟨RX6, "at", "([III)I"⟩
abbrev cX6_isHow : ByteArray := prog_8_method_22_code
def yX6_isHow : MethodName := ⟨RX6, "isHow", "([III)Z"⟩
abbrev cX6_traces : ByteArray := prog_8_method_23_code
def yX6_traces : MethodName := ⟨RX6, "traces", "([III)V"⟩
abbrev cX6_codes : ByteArray := prog_8_method_24_code
def yX6_codes : MethodName := ⟨RX6, "codes", "([III)V"⟩
abbrev cX6_asksChildren : ByteArray := prog_8_method_25_code
def yX6_asksChildren : MethodName := ⟨RX6, "asksChildren", "([II)V"⟩
abbrev cX6_closes : ByteArray := prog_8_method_26_code
def yX6_closes : MethodName := ⟨RX6, "closes", "([III)V"⟩
abbrev cX6_begin : ByteArray := prog_8_method_27_code
def yX6_begin : MethodName := ⟨RX6, "begin", "([II)V"⟩
abbrev cX6_beginsChild : ByteArray := prog_8_method_28_code
def yX6_beginsChild : MethodName := ⟨RX6, "beginsChild", "([II)V"⟩
abbrev cX6_isBusy : ByteArray := prog_8_method_29_code
def yX6_isBusy : MethodName := ⟨RX6, "isBusy", "([II)Z"⟩
abbrev cX6_works : ByteArray := prog_8_method_30_code
def yX6_works : MethodName := ⟨RX6, "works", "([II)V"⟩
abbrev cX6_moves : ByteArray := prog_8_method_31_code
def yX6_moves : MethodName := ⟨RX6, "moves", "([II)V"⟩
abbrev cX6_gives : ByteArray := prog_8_method_32_code
def yX6_gives : MethodName := ⟨RX6, "gives", "([II)V"⟩
abbrev cX6_cleansUp : ByteArray := prog_8_method_33_code
def yX6_cleansUp : MethodName := ⟨RX6, "cleansUp", "([II)V"⟩
abbrev cX6_tick : ByteArray := prog_8_method_34_code
def yX6_tick : MethodName := ⟨RX6, "tick", "([I)V"⟩
abbrev cX6_isTask : ByteArray := prog_8_method_35_code
def yX6_isTask : MethodName := ⟨RX6, "isTask", "(I)Z"⟩
abbrev cX6_remember : ByteArray := prog_8_method_36_code
def yX6_remember : MethodName := ⟨RX6, "remember", "()V"⟩
abbrev cX6_ticks : ByteArray := prog_8_method_37_code
def yX6_ticks : MethodName := ⟨RX6, "ticks", "(I)I"⟩
abbrev cX6_asks : ByteArray := prog_8_method_38_code
def yX6_asks : MethodName := ⟨RX6, "asks", "(I)I"⟩
abbrev cX6_undo : ByteArray := prog_8_method_39_code
def yX6_undo : MethodName := ⟨RX6, "undo", "()I"⟩
abbrev cX6_busySet : ByteArray := prog_8_method_40_code
def yX6_busySet : MethodName := ⟨RX6, "busySet", "(I)I"⟩
abbrev cX6_task : ByteArray := prog_8_method_41_code
def yX6_task : MethodName := ⟨RX6, "task", "(II)I"⟩
abbrev cX6_failure : ByteArray := prog_8_method_42_code
def yX6_failure : MethodName := ⟨RX6, "failure", "(II)I"⟩
abbrev cX6_trace : ByteArray := prog_8_method_43_code
def yX6_trace : MethodName := ⟨RX6, "trace", "(II)I"⟩
abbrev cX6_goesOn : ByteArray := prog_8_method_44_code
def yX6_goesOn : MethodName := ⟨RX6, "goesOn", "(I)V"⟩
abbrev cX6_ends_ : ByteArray := prog_8_method_45_code
def yX6_ends_ : MethodName := ⟨RX6, "ends", "(II)I"⟩
abbrev cX6_wellBy : ByteArray := prog_8_method_46_code
def yX6_wellBy : MethodName := ⟨RX6, "wellBy", "()I"⟩
abbrev cX6_spares : ByteArray := prog_8_method_47_code
def yX6_spares : MethodName := ⟨RX6, "spares", "(I)I"⟩
abbrev cX6_sees : ByteArray := prog_8_method_48_code
def yX6_sees : MethodName := ⟨RX6, "sees", "(III)I"⟩
abbrev cX6_forget : ByteArray := prog_8_method_49_code
def yX6_forget : MethodName := ⟨RX6, "forget", "()I"⟩
abbrev cX6_fits : ByteArray := prog_8_method_50_code
def yX6_fits : MethodName := ⟨RX6, "fits", "(I)I"⟩
abbrev cX6_keep : ByteArray := prog_8_method_51_code
def yX6_keep : MethodName := ⟨RX6, "keep", "(I)I"⟩
abbrev cX6_back : ByteArray := prog_8_method_52_code
def yX6_back : MethodName := ⟨RX6, "back", "(I)I"⟩
abbrev cX6_howMany : ByteArray := prog_8_method_53_code
def yX6_howMany : MethodName := ⟨RX6, "howMany", "(I)I"⟩
abbrev cX6_count : ByteArray := prog_8_method_54_code
def yX6_count : MethodName := ⟨RX6, "count", "(I)I"⟩
abbrev cJ9_max_7cf53 : ByteArray := prog_9_method_65_code
abbrev cJ9_min_7cf53 : ByteArray := prog_9_method_69_code
def RL : String := "ScopeTasksLaw"
abbrev cL_law : ByteArray := code
def yL_law : MethodName := ⟨RL, "law", "([I)Z"⟩
abbrev vwCl : List vw_C := [(RX0, TX0, 3), (RX1, TX1, 9), (RX2, TX2, 3), (RX3, TX3, 17), (RX4, TX4, 6), (RX5, TX5, 14), (RX6, TX6, 34)]
set_option maxRecDepth 20000 in
theorem inX0 : ∀ w ∈ wsX00, w ∈ lw_tbl := fun w h => (goodIn_r wsX00 [274, 276, 278] (by decide +kernel) (by decide +kernel) w h).1
set_option maxRecDepth 20000 in
theorem inX1 : ∀ w ∈ wsX10, w ∈ lw_tbl := fun w h => (goodIn_r wsX10 [142, 144, 146, 148, 150, 152, 154, 156, 158] (by decide +kernel) (by decide +kernel) w h).1
set_option maxRecDepth 20000 in
theorem inX2 : ∀ w ∈ wsX20, w ∈ lw_tbl := fun w h => (goodIn_r wsX20 [171, 173, 175] (by decide +kernel) (by decide +kernel) w h).1
set_option maxRecDepth 20000 in
theorem inX3 : ∀ w ∈ wsX30, w ∈ lw_tbl := fun w h => (goodIn_r wsX30 [226, 228, 230, 232, 234, 236, 238, 240, 242, 244, 246, 248, 250, 252, 254, 256, 258] (by decide +kernel) (by decide +kernel) w h).1
set_option maxRecDepth 20000 in
theorem inX4 : ∀ w ∈ wsX40, w ∈ lw_tbl := fun w h => (goodIn_r wsX40 [88, 90, 92, 94, 96, 98] (by decide +kernel) (by decide +kernel) w h).1
set_option maxRecDepth 20000 in
theorem inX5 : ∀ w ∈ wsX50, w ∈ lw_tbl := fun w h => (goodIn_r wsX50 [295, 297, 299, 301, 303, 305, 307, 309, 311, 313, 315, 317, 319, 321] (by decide +kernel) (by decide +kernel) w h).1
set_option maxRecDepth 20000 in
theorem inX6 : ∀ w ∈ wsX60, w ∈ lw_tbl := fun w h => (goodIn_r wsX60 [627, 629, 631, 633, 635, 637, 639, 641, 643, 645, 647, 649, 651, 653, 655, 657, 659, 661, 663, 665, 667, 669, 671, 673, 675, 677, 679, 681, 683, 685, 687, 689, 691, 693] (by decide +kernel) (by decide +kernel) w h).1
