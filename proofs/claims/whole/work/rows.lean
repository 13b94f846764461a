section
/-- a private method of a class that the tables say can be made, by its rows of tables_1 -/
def lw_okq (q : MethodName × Nat) : Prop := (q.1.cls ≠ "java/lang/invoke/MethodHandle" ∧ q.1.cls ≠ "java/lang/invoke/VarHandle") ∧ Cond.instantiable q.1.cls q.2 ∈ tables_1 ∧ Cond.privateMethod q.1 ∈ tables_1 ∧ Cond.instanceMethod q.1 ∈ tables_1
theorem lw_p0 : lw_okq (⟨"ScopeTasks$Run", "start", "(II)V"⟩, 17) := ⟨⟨by decide +kernel, by decide +kernel⟩, List.mem_of_getElem? (i := 125) (by decide +kernel), List.mem_of_getElem? (i := 136) (by decide +kernel), List.mem_of_getElem? (i := 137) (by decide +kernel)⟩
theorem lw_p1 : lw_okq (⟨"ScopeTasks$Reader", "readItem", "()Z"⟩, 3) := ⟨⟨by decide +kernel, by decide +kernel⟩, List.mem_of_getElem? (i := 108) (by decide +kernel), List.mem_of_getElem? (i := 302) (by decide +kernel), List.mem_of_getElem? (i := 303) (by decide +kernel)⟩
theorem lw_p2 : lw_okq (⟨"ScopeTasks$Reader", "readRoot", "()Z"⟩, 3) := ⟨⟨by decide +kernel, by decide +kernel⟩, List.mem_of_getElem? (i := 108) (by decide +kernel), List.mem_of_getElem? (i := 306) (by decide +kernel), List.mem_of_getElem? (i := 307) (by decide +kernel)⟩
theorem lw_p3 : lw_okq (⟨"ScopeTasks$Reader", "readOperations", "(I)Z"⟩, 3) := ⟨⟨by decide +kernel, by decide +kernel⟩, List.mem_of_getElem? (i := 108) (by decide +kernel), List.mem_of_getElem? (i := 311) (by decide +kernel), List.mem_of_getElem? (i := 312) (by decide +kernel)⟩
theorem lw_p4 : lw_okq (⟨"ScopeTasks$Reader", "readOperation", "(I)Z"⟩, 3) := ⟨⟨by decide +kernel, by decide +kernel⟩, List.mem_of_getElem? (i := 108) (by decide +kernel), List.mem_of_getElem? (i := 315) (by decide +kernel), List.mem_of_getElem? (i := 316) (by decide +kernel)⟩
theorem lw_p5 : lw_okq (⟨"ScopeTasks$Reader", "readEnd", "()Z"⟩, 3) := ⟨⟨by decide +kernel, by decide +kernel⟩, List.mem_of_getElem? (i := 108) (by decide +kernel), List.mem_of_getElem? (i := 327) (by decide +kernel), List.mem_of_getElem? (i := 328) (by decide +kernel)⟩
theorem lw_p6 : lw_okq (⟨"ScopeTasks$Reader", "readTask", "()Z"⟩, 3) := ⟨⟨by decide +kernel, by decide +kernel⟩, List.mem_of_getElem? (i := 108) (by decide +kernel), List.mem_of_getElem? (i := 331) (by decide +kernel), List.mem_of_getElem? (i := 332) (by decide +kernel)⟩
theorem lw_p7 : lw_okq (⟨"ScopeTasks$Reader", "isTaskTold", "()Z"⟩, 3) := ⟨⟨by decide +kernel, by decide +kernel⟩, List.mem_of_getElem? (i := 108) (by decide +kernel), List.mem_of_getElem? (i := 335) (by decide +kernel), List.mem_of_getElem? (i := 336) (by decide +kernel)⟩
theorem lw_p8 : lw_okq (⟨"ScopeTasks$Reader", "readSetting", "([III)Z"⟩, 3) := ⟨⟨by decide +kernel, by decide +kernel⟩, List.mem_of_getElem? (i := 108) (by decide +kernel), List.mem_of_getElem? (i := 340) (by decide +kernel), List.mem_of_getElem? (i := 341) (by decide +kernel)⟩
theorem lw_p9 : lw_okq (⟨"ScopeTasks$Reader", "readGathers", "()Z"⟩, 3) := ⟨⟨by decide +kernel, by decide +kernel⟩, List.mem_of_getElem? (i := 108) (by decide +kernel), List.mem_of_getElem? (i := 344) (by decide +kernel), List.mem_of_getElem? (i := 345) (by decide +kernel)⟩
theorem lw_p10 : lw_okq (⟨"ScopeTasks$Run", "addCode", "(II)V"⟩, 17) := ⟨⟨by decide +kernel, by decide +kernel⟩, List.mem_of_getElem? (i := 125) (by decide +kernel), List.mem_of_getElem? (i := 374) (by decide +kernel), List.mem_of_getElem? (i := 375) (by decide +kernel)⟩
theorem lw_p11 : lw_okq (⟨"ScopeTasks$Run", "close", "(II)V"⟩, 17) := ⟨⟨by decide +kernel, by decide +kernel⟩, List.mem_of_getElem? (i := 125) (by decide +kernel), List.mem_of_getElem? (i := 378) (by decide +kernel), List.mem_of_getElem? (i := 379) (by decide +kernel)⟩
theorem lw_p12 : lw_okq (⟨"ScopeTasks$Run", "note", "(II)V"⟩, 17) := ⟨⟨by decide +kernel, by decide +kernel⟩, List.mem_of_getElem? (i := 125) (by decide +kernel), List.mem_of_getElem? (i := 382) (by decide +kernel), List.mem_of_getElem? (i := 383) (by decide +kernel)⟩
theorem lw_p13 : lw_okq (⟨"ScopeTasks$Run", "askChildren", "(I)V"⟩, 17) := ⟨⟨by decide +kernel, by decide +kernel⟩, List.mem_of_getElem? (i := 125) (by decide +kernel), List.mem_of_getElem? (i := 386) (by decide +kernel), List.mem_of_getElem? (i := 387) (by decide +kernel)⟩
theorem lw_p14 : lw_okq (⟨"ScopeTasks$Run", "goOn", "(I)V"⟩, 17) := ⟨⟨by decide +kernel, by decide +kernel⟩, List.mem_of_getElem? (i := 125) (by decide +kernel), List.mem_of_getElem? (i := 390) (by decide +kernel), List.mem_of_getElem? (i := 391) (by decide +kernel)⟩
theorem lw_p15 : lw_okq (⟨"ScopeTasks$Run", "operate", "(III)V"⟩, 17) := ⟨⟨by decide +kernel, by decide +kernel⟩, List.mem_of_getElem? (i := 125) (by decide +kernel), List.mem_of_getElem? (i := 394) (by decide +kernel), List.mem_of_getElem? (i := 395) (by decide +kernel)⟩
def lw_privs_1 : List (MethodName × Nat) := [(⟨"ScopeTasks$Run", "start", "(II)V"⟩, 17), (⟨"ScopeTasks$Reader", "readItem", "()Z"⟩, 3), (⟨"ScopeTasks$Reader", "readRoot", "()Z"⟩, 3), (⟨"ScopeTasks$Reader", "readOperations", "(I)Z"⟩, 3), (⟨"ScopeTasks$Reader", "readOperation", "(I)Z"⟩, 3), (⟨"ScopeTasks$Reader", "readEnd", "()Z"⟩, 3), (⟨"ScopeTasks$Reader", "readTask", "()Z"⟩, 3), (⟨"ScopeTasks$Reader", "isTaskTold", "()Z"⟩, 3), (⟨"ScopeTasks$Reader", "readSetting", "([III)Z"⟩, 3), (⟨"ScopeTasks$Reader", "readGathers", "()Z"⟩, 3), (⟨"ScopeTasks$Run", "addCode", "(II)V"⟩, 17), (⟨"ScopeTasks$Run", "close", "(II)V"⟩, 17), (⟨"ScopeTasks$Run", "note", "(II)V"⟩, 17), (⟨"ScopeTasks$Run", "askChildren", "(I)V"⟩, 17), (⟨"ScopeTasks$Run", "goOn", "(I)V"⟩, 17), (⟨"ScopeTasks$Run", "operate", "(III)V"⟩, 17)]
theorem lw_r1 : ∀ q ∈ lw_privs_1, lw_okq q := List.forall_mem_cons.mpr ⟨lw_p0, List.forall_mem_cons.mpr ⟨lw_p1, List.forall_mem_cons.mpr ⟨lw_p2, List.forall_mem_cons.mpr ⟨lw_p3, List.forall_mem_cons.mpr ⟨lw_p4, List.forall_mem_cons.mpr ⟨lw_p5, List.forall_mem_cons.mpr ⟨lw_p6, List.forall_mem_cons.mpr ⟨lw_p7, List.forall_mem_cons.mpr ⟨lw_p8, List.forall_mem_cons.mpr ⟨lw_p9, List.forall_mem_cons.mpr ⟨lw_p10, List.forall_mem_cons.mpr ⟨lw_p11, List.forall_mem_cons.mpr ⟨lw_p12, List.forall_mem_cons.mpr ⟨lw_p13, List.forall_mem_cons.mpr ⟨lw_p14, List.forall_mem_cons.mpr ⟨lw_p15, fun _ h => absurd h List.not_mem_nil⟩⟩⟩⟩⟩⟩⟩⟩⟩⟩⟩⟩⟩⟩⟩⟩
theorem lw_p16 : lw_okq (⟨"ScopeTasks$Run", "work", "(II)V"⟩, 17) := ⟨⟨by decide +kernel, by decide +kernel⟩, List.mem_of_getElem? (i := 125) (by decide +kernel), List.mem_of_getElem? (i := 398) (by decide +kernel), List.mem_of_getElem? (i := 399) (by decide +kernel)⟩
theorem lw_p17 : lw_okq (⟨"ScopeTasks$Run", "beginChild", "(I)V"⟩, 17) := ⟨⟨by decide +kernel, by decide +kernel⟩, List.mem_of_getElem? (i := 125) (by decide +kernel), List.mem_of_getElem? (i := 402) (by decide +kernel), List.mem_of_getElem? (i := 403) (by decide +kernel)⟩
theorem lw_p18 : lw_okq (⟨"ScopeTasks$Run", "cleansUp", "(I)Z"⟩, 17) := ⟨⟨by decide +kernel, by decide +kernel⟩, List.mem_of_getElem? (i := 125) (by decide +kernel), List.mem_of_getElem? (i := 410) (by decide +kernel), List.mem_of_getElem? (i := 411) (by decide +kernel)⟩
theorem lw_p19 : lw_okq (⟨"ScopeTasks$Run", "end", "(I)V"⟩, 17) := ⟨⟨by decide +kernel, by decide +kernel⟩, List.mem_of_getElem? (i := 125) (by decide +kernel), List.mem_of_getElem? (i := 414) (by decide +kernel), List.mem_of_getElem? (i := 415) (by decide +kernel)⟩
theorem lw_p20 : lw_okq (⟨"ScopeTasks$Run", "giveList", "(II)V"⟩, 17) := ⟨⟨by decide +kernel, by decide +kernel⟩, List.mem_of_getElem? (i := 125) (by decide +kernel), List.mem_of_getElem? (i := 418) (by decide +kernel), List.mem_of_getElem? (i := 419) (by decide +kernel)⟩
theorem lw_p21 : lw_okq (⟨"ScopeTasks$Run", "takeFailure", "(I)V"⟩, 17) := ⟨⟨by decide +kernel, by decide +kernel⟩, List.mem_of_getElem? (i := 125) (by decide +kernel), List.mem_of_getElem? (i := 422) (by decide +kernel), List.mem_of_getElem? (i := 423) (by decide +kernel)⟩
theorem lw_p22 : lw_okq (⟨"ScopeTasks", "isTask", "(I)Z"⟩, 14) := ⟨⟨by decide +kernel, by decide +kernel⟩, List.mem_of_getElem? (i := 11) (by decide +kernel), List.mem_of_getElem? (i := 430) (by decide +kernel), List.mem_of_getElem? (i := 431) (by decide +kernel)⟩
theorem lw_p23 : lw_okq (⟨"ScopeTasks", "suppose", "(II)V"⟩, 14) := ⟨⟨by decide +kernel, by decide +kernel⟩, List.mem_of_getElem? (i := 11) (by decide +kernel), List.mem_of_getElem? (i := 470) (by decide +kernel), List.mem_of_getElem? (i := 471) (by decide +kernel)⟩
theorem lw_p24 : lw_okq (⟨"ScopeTasks", "longestSeen", "()I"⟩, 14) := ⟨⟨by decide +kernel, by decide +kernel⟩, List.mem_of_getElem? (i := 11) (by decide +kernel), List.mem_of_getElem? (i := 491) (by decide +kernel), List.mem_of_getElem? (i := 492) (by decide +kernel)⟩
theorem lw_p25 : lw_okq (⟨"ScopeTasks", "agreesWithSeen", "()Z"⟩, 14) := ⟨⟨by decide +kernel, by decide +kernel⟩, List.mem_of_getElem? (i := 11) (by decide +kernel), List.mem_of_getElem? (i := 498) (by decide +kernel), List.mem_of_getElem? (i := 499) (by decide +kernel)⟩
theorem lw_p26 : lw_okq (⟨"ScopeTasksModel", "begins", "()V"⟩, 34) := ⟨⟨by decide +kernel, by decide +kernel⟩, List.mem_of_getElem? (i := 522) (by decide +kernel), List.mem_of_getElem? (i := 528) (by decide +kernel), List.mem_of_getElem? (i := 529) (by decide +kernel)⟩
theorem lw_p27 : lw_okq (⟨"ScopeTasksModel", "tellsAll", "()V"⟩, 34) := ⟨⟨by decide +kernel, by decide +kernel⟩, List.mem_of_getElem? (i := 522) (by decide +kernel), List.mem_of_getElem? (i := 532) (by decide +kernel), List.mem_of_getElem? (i := 533) (by decide +kernel)⟩
theorem lw_p28 : lw_okq (⟨"ScopeTasksModel", "starts", "([I)V"⟩, 34) := ⟨⟨by decide +kernel, by decide +kernel⟩, List.mem_of_getElem? (i := 522) (by decide +kernel), List.mem_of_getElem? (i := 536) (by decide +kernel), List.mem_of_getElem? (i := 537) (by decide +kernel)⟩
theorem lw_p29 : lw_okq (⟨"ScopeTasksModel", "blanks", "()V"⟩, 34) := ⟨⟨by decide +kernel, by decide +kernel⟩, List.mem_of_getElem? (i := 522) (by decide +kernel), List.mem_of_getElem? (i := 658) (by decide +kernel), List.mem_of_getElem? (i := 659) (by decide +kernel)⟩
theorem lw_p30 : lw_okq (⟨"ScopeTasksModel", "readsItem", "()Z"⟩, 34) := ⟨⟨by decide +kernel, by decide +kernel⟩, List.mem_of_getElem? (i := 522) (by decide +kernel), List.mem_of_getElem? (i := 662) (by decide +kernel), List.mem_of_getElem? (i := 663) (by decide +kernel)⟩
theorem lw_p31 : lw_okq (⟨"ScopeTasksModel", "next", "()V"⟩, 34) := ⟨⟨by decide +kernel, by decide +kernel⟩, List.mem_of_getElem? (i := 522) (by decide +kernel), List.mem_of_getElem? (i := 666) (by decide +kernel), List.mem_of_getElem? (i := 667) (by decide +kernel)⟩
def lw_privs_2 : List (MethodName × Nat) := [(⟨"ScopeTasks$Run", "work", "(II)V"⟩, 17), (⟨"ScopeTasks$Run", "beginChild", "(I)V"⟩, 17), (⟨"ScopeTasks$Run", "cleansUp", "(I)Z"⟩, 17), (⟨"ScopeTasks$Run", "end", "(I)V"⟩, 17), (⟨"ScopeTasks$Run", "giveList", "(II)V"⟩, 17), (⟨"ScopeTasks$Run", "takeFailure", "(I)V"⟩, 17), (⟨"ScopeTasks", "isTask", "(I)Z"⟩, 14), (⟨"ScopeTasks", "suppose", "(II)V"⟩, 14), (⟨"ScopeTasks", "longestSeen", "()I"⟩, 14), (⟨"ScopeTasks", "agreesWithSeen", "()Z"⟩, 14), (⟨"ScopeTasksModel", "begins", "()V"⟩, 34), (⟨"ScopeTasksModel", "tellsAll", "()V"⟩, 34), (⟨"ScopeTasksModel", "starts", "([I)V"⟩, 34), (⟨"ScopeTasksModel", "blanks", "()V"⟩, 34), (⟨"ScopeTasksModel", "readsItem", "()Z"⟩, 34), (⟨"ScopeTasksModel", "next", "()V"⟩, 34)]
theorem lw_r2 : ∀ q ∈ lw_privs_2, lw_okq q := List.forall_mem_cons.mpr ⟨lw_p16, List.forall_mem_cons.mpr ⟨lw_p17, List.forall_mem_cons.mpr ⟨lw_p18, List.forall_mem_cons.mpr ⟨lw_p19, List.forall_mem_cons.mpr ⟨lw_p20, List.forall_mem_cons.mpr ⟨lw_p21, List.forall_mem_cons.mpr ⟨lw_p22, List.forall_mem_cons.mpr ⟨lw_p23, List.forall_mem_cons.mpr ⟨lw_p24, List.forall_mem_cons.mpr ⟨lw_p25, List.forall_mem_cons.mpr ⟨lw_p26, List.forall_mem_cons.mpr ⟨lw_p27, List.forall_mem_cons.mpr ⟨lw_p28, List.forall_mem_cons.mpr ⟨lw_p29, List.forall_mem_cons.mpr ⟨lw_p30, List.forall_mem_cons.mpr ⟨lw_p31, fun _ h => absurd h List.not_mem_nil⟩⟩⟩⟩⟩⟩⟩⟩⟩⟩⟩⟩⟩⟩⟩⟩
theorem lw_p32 : lw_okq (⟨"ScopeTasksModel", "isFigure", "()Z"⟩, 34) := ⟨⟨by decide +kernel, by decide +kernel⟩, List.mem_of_getElem? (i := 522) (by decide +kernel), List.mem_of_getElem? (i := 670) (by decide +kernel), List.mem_of_getElem? (i := 671) (by decide +kernel)⟩
theorem lw_p33 : lw_okq (⟨"ScopeTasksModel", "fails", "()Z"⟩, 34) := ⟨⟨by decide +kernel, by decide +kernel⟩, List.mem_of_getElem? (i := 522) (by decide +kernel), List.mem_of_getElem? (i := 677) (by decide +kernel), List.mem_of_getElem? (i := 678) (by decide +kernel)⟩
theorem lw_p34 : lw_okq (⟨"ScopeTasksModel", "readsProgram", "(I)Z"⟩, 34) := ⟨⟨by decide +kernel, by decide +kernel⟩, List.mem_of_getElem? (i := 522) (by decide +kernel), List.mem_of_getElem? (i := 681) (by decide +kernel), List.mem_of_getElem? (i := 682) (by decide +kernel)⟩
theorem lw_p35 : lw_okq (⟨"ScopeTasksModel", "number", "(II)Z"⟩, 34) := ⟨⟨by decide +kernel, by decide +kernel⟩, List.mem_of_getElem? (i := 522) (by decide +kernel), List.mem_of_getElem? (i := 685) (by decide +kernel), List.mem_of_getElem? (i := 686) (by decide +kernel)⟩
theorem lw_p36 : lw_okq (⟨"ScopeTasksModel", "readsTask", "()Z"⟩, 34) := ⟨⟨by decide +kernel, by decide +kernel⟩, List.mem_of_getElem? (i := 522) (by decide +kernel), List.mem_of_getElem? (i := 689) (by decide +kernel), List.mem_of_getElem? (i := 690) (by decide +kernel)⟩
theorem lw_p37 : lw_okq (⟨"ScopeTasksModel", "readsOf", "(I)Z"⟩, 34) := ⟨⟨by decide +kernel, by decide +kernel⟩, List.mem_of_getElem? (i := 522) (by decide +kernel), List.mem_of_getElem? (i := 693) (by decide +kernel), List.mem_of_getElem? (i := 694) (by decide +kernel)⟩
theorem lw_p38 : lw_okq (⟨"ScopeTasksModel", "ends", "()Z"⟩, 34) := ⟨⟨by decide +kernel, by decide +kernel⟩, List.mem_of_getElem? (i := 522) (by decide +kernel), List.mem_of_getElem? (i := 697) (by decide +kernel), List.mem_of_getElem? (i := 698) (by decide +kernel)⟩
theorem lw_p39 : lw_okq (⟨"ScopeTasksModel", "remember", "()V"⟩, 34) := ⟨⟨by decide +kernel, by decide +kernel⟩, List.mem_of_getElem? (i := 522) (by decide +kernel), List.mem_of_getElem? (i := 708) (by decide +kernel), List.mem_of_getElem? (i := 709) (by decide +kernel)⟩
theorem lw_p40 : lw_okq (⟨"ScopeTasksModel", "tick", "([I)V"⟩, 34) := ⟨⟨by decide +kernel, by decide +kernel⟩, List.mem_of_getElem? (i := 522) (by decide +kernel), List.mem_of_getElem? (i := 712) (by decide +kernel), List.mem_of_getElem? (i := 713) (by decide +kernel)⟩
theorem lw_p41 : lw_okq (⟨"ScopeTasksModel", "closes", "([III)V"⟩, 34) := ⟨⟨by decide +kernel, by decide +kernel⟩, List.mem_of_getElem? (i := 522) (by decide +kernel), List.mem_of_getElem? (i := 722) (by decide +kernel), List.mem_of_getElem? (i := 723) (by decide +kernel)⟩
theorem lw_p42 : lw_okq (⟨"ScopeTasksModel", "asksChildren", "([II)V"⟩, 34) := ⟨⟨by decide +kernel, by decide +kernel⟩, List.mem_of_getElem? (i := 522) (by decide +kernel), List.mem_of_getElem? (i := 726) (by decide +kernel), List.mem_of_getElem? (i := 727) (by decide +kernel)⟩
theorem lw_p43 : lw_okq (⟨"ScopeTasksModel", "moves", "([II)V"⟩, 34) := ⟨⟨by decide +kernel, by decide +kernel⟩, List.mem_of_getElem? (i := 522) (by decide +kernel), List.mem_of_getElem? (i := 733) (by decide +kernel), List.mem_of_getElem? (i := 734) (by decide +kernel)⟩
theorem lw_p44 : lw_okq (⟨"ScopeTasksModel", "works", "([II)V"⟩, 34) := ⟨⟨by decide +kernel, by decide +kernel⟩, List.mem_of_getElem? (i := 522) (by decide +kernel), List.mem_of_getElem? (i := 737) (by decide +kernel), List.mem_of_getElem? (i := 738) (by decide +kernel)⟩
theorem lw_p45 : lw_okq (⟨"ScopeTasksModel", "beginsChild", "([II)V"⟩, 34) := ⟨⟨by decide +kernel, by decide +kernel⟩, List.mem_of_getElem? (i := 522) (by decide +kernel), List.mem_of_getElem? (i := 741) (by decide +kernel), List.mem_of_getElem? (i := 742) (by decide +kernel)⟩
theorem lw_p46 : lw_okq (⟨"ScopeTasksModel", "begin", "([II)V"⟩, 34) := ⟨⟨by decide +kernel, by decide +kernel⟩, List.mem_of_getElem? (i := 522) (by decide +kernel), List.mem_of_getElem? (i := 745) (by decide +kernel), List.mem_of_getElem? (i := 746) (by decide +kernel)⟩
theorem lw_p47 : lw_okq (⟨"ScopeTasksModel", "isBusy", "([II)Z"⟩, 34) := ⟨⟨by decide +kernel, by decide +kernel⟩, List.mem_of_getElem? (i := 522) (by decide +kernel), List.mem_of_getElem? (i := 749) (by decide +kernel), List.mem_of_getElem? (i := 750) (by decide +kernel)⟩
def lw_privs_3 : List (MethodName × Nat) := [(⟨"ScopeTasksModel", "isFigure", "()Z"⟩, 34), (⟨"ScopeTasksModel", "fails", "()Z"⟩, 34), (⟨"ScopeTasksModel", "readsProgram", "(I)Z"⟩, 34), (⟨"ScopeTasksModel", "number", "(II)Z"⟩, 34), (⟨"ScopeTasksModel", "readsTask", "()Z"⟩, 34), (⟨"ScopeTasksModel", "readsOf", "(I)Z"⟩, 34), (⟨"ScopeTasksModel", "ends", "()Z"⟩, 34), (⟨"ScopeTasksModel", "remember", "()V"⟩, 34), (⟨"ScopeTasksModel", "tick", "([I)V"⟩, 34), (⟨"ScopeTasksModel", "closes", "([III)V"⟩, 34), (⟨"ScopeTasksModel", "asksChildren", "([II)V"⟩, 34), (⟨"ScopeTasksModel", "moves", "([II)V"⟩, 34), (⟨"ScopeTasksModel", "works", "([II)V"⟩, 34), (⟨"ScopeTasksModel", "beginsChild", "([II)V"⟩, 34), (⟨"ScopeTasksModel", "begin", "([II)V"⟩, 34), (⟨"ScopeTasksModel", "isBusy", "([II)Z"⟩, 34)]
theorem lw_r3 : ∀ q ∈ lw_privs_3, lw_okq q := List.forall_mem_cons.mpr ⟨lw_p32, List.forall_mem_cons.mpr ⟨lw_p33, List.forall_mem_cons.mpr ⟨lw_p34, List.forall_mem_cons.mpr ⟨lw_p35, List.forall_mem_cons.mpr ⟨lw_p36, List.forall_mem_cons.mpr ⟨lw_p37, List.forall_mem_cons.mpr ⟨lw_p38, List.forall_mem_cons.mpr ⟨lw_p39, List.forall_mem_cons.mpr ⟨lw_p40, List.forall_mem_cons.mpr ⟨lw_p41, List.forall_mem_cons.mpr ⟨lw_p42, List.forall_mem_cons.mpr ⟨lw_p43, List.forall_mem_cons.mpr ⟨lw_p44, List.forall_mem_cons.mpr ⟨lw_p45, List.forall_mem_cons.mpr ⟨lw_p46, List.forall_mem_cons.mpr ⟨lw_p47, fun _ h => absurd h List.not_mem_nil⟩⟩⟩⟩⟩⟩⟩⟩⟩⟩⟩⟩⟩⟩⟩⟩
theorem lw_p48 : lw_okq (⟨"ScopeTasksModel", "cleansUp", "([II)V"⟩, 34) := ⟨⟨by decide +kernel, by decide +kernel⟩, List.mem_of_getElem? (i := 522) (by decide +kernel), List.mem_of_getElem? (i := 753) (by decide +kernel), List.mem_of_getElem? (i := 754) (by decide +kernel)⟩
theorem lw_p49 : lw_okq (⟨"ScopeTasksModel", "gives", "([II)V"⟩, 34) := ⟨⟨by decide +kernel, by decide +kernel⟩, List.mem_of_getElem? (i := 522) (by decide +kernel), List.mem_of_getElem? (i := 757) (by decide +kernel), List.mem_of_getElem? (i := 758) (by decide +kernel)⟩
theorem lw_p50 : lw_okq (⟨"ScopeTasksModel", "isTask", "(I)Z"⟩, 34) := ⟨⟨by decide +kernel, by decide +kernel⟩, List.mem_of_getElem? (i := 522) (by decide +kernel), List.mem_of_getElem? (i := 765) (by decide +kernel), List.mem_of_getElem? (i := 766) (by decide +kernel)⟩
theorem lw_p51 : lw_okq (⟨"ScopeTasksModel", "busySet", "(I)I"⟩, 34) := ⟨⟨by decide +kernel, by decide +kernel⟩, List.mem_of_getElem? (i := 522) (by decide +kernel), List.mem_of_getElem? (i := 777) (by decide +kernel), List.mem_of_getElem? (i := 778) (by decide +kernel)⟩
theorem lw_p52 : lw_okq (⟨"ScopeTasksModel", "goesOn", "(I)V"⟩, 34) := ⟨⟨by decide +kernel, by decide +kernel⟩, List.mem_of_getElem? (i := 522) (by decide +kernel), List.mem_of_getElem? (i := 796) (by decide +kernel), List.mem_of_getElem? (i := 797) (by decide +kernel)⟩
theorem lw_p53 : lw_okq (⟨"ScopeTasksModel", "howMany", "(I)I"⟩, 34) := ⟨⟨by decide +kernel, by decide +kernel⟩, List.mem_of_getElem? (i := 522) (by decide +kernel), List.mem_of_getElem? (i := 833) (by decide +kernel), List.mem_of_getElem? (i := 834) (by decide +kernel)⟩
def lw_privs_4 : List (MethodName × Nat) := [(⟨"ScopeTasksModel", "cleansUp", "([II)V"⟩, 34), (⟨"ScopeTasksModel", "gives", "([II)V"⟩, 34), (⟨"ScopeTasksModel", "isTask", "(I)Z"⟩, 34), (⟨"ScopeTasksModel", "busySet", "(I)I"⟩, 34), (⟨"ScopeTasksModel", "goesOn", "(I)V"⟩, 34), (⟨"ScopeTasksModel", "howMany", "(I)I"⟩, 34)]
theorem lw_r4 : ∀ q ∈ lw_privs_4, lw_okq q := List.forall_mem_cons.mpr ⟨lw_p48, List.forall_mem_cons.mpr ⟨lw_p49, List.forall_mem_cons.mpr ⟨lw_p50, List.forall_mem_cons.mpr ⟨lw_p51, List.forall_mem_cons.mpr ⟨lw_p52, List.forall_mem_cons.mpr ⟨lw_p53, fun _ h => absurd h List.not_mem_nil⟩⟩⟩⟩⟩⟩
def lw_privs : List (MethodName × Nat) := lw_privs_1 ++ (lw_privs_2 ++ (lw_privs_3 ++ (lw_privs_4)))
def lw_tbl : List Cond := k2_sels lw_privs ++ tables_1
theorem lw_privs_ok : ∀ q ∈ lw_privs, lw_okq q := by
  show ∀ q ∈ lw_privs_1 ++ (lw_privs_2 ++ (lw_privs_3 ++ (lw_privs_4))), lw_okq q
  exact List.forall_mem_append.mpr ⟨lw_r1, List.forall_mem_append.mpr ⟨lw_r2, List.forall_mem_append.mpr ⟨lw_r3, lw_r4⟩⟩⟩
theorem goodIn_r {big : List Cond} (ws : List Cond) (ps : List Nat) (hp : ws = ps.filterMap (fun i => big[i]?)) (h : ws.all goodWord = true) : GoodIn big ws := by
  intro w hw
  have h1 := List.all_eq_true.mp h w hw
  rw [hp] at hw
  obtain ⟨i, -, hi⟩ := List.mem_filterMap.mp hw
  have hm : w ∈ big := by first | exact List.mem_of_getElem? hi | exact List.getElem?_mem hi
  exact ⟨hm, good_of_word h1⟩
def RX0 : String := "ScopeTasks$History"
def TX0 : u_T := fun k => match k with
  | 0 => ("ScopeTasks$History", "rows", "[LScopeTasks$Run;", true)
  | 1 => ("ScopeTasks$History", "size", "I", false)
  | _ => ("ScopeTasks$History", "newest", "I", false)
def tyX0 : Nat → FieldType := fun k => match k with
  | 0 => .array (.object "ScopeTasks$Run")
  | 1 => .int
  | _ => .int
abbrev wsX00 : List Cond := u_ws RX0 TX0 3
theorem nmX0 : ∀ a, a < 3 → ∀ b, b < 3 → a ≠ b → (TX0 a).2.1 ≠ (TX0 b).2.1 := by decide +kernel
theorem tyX0_ok : ∀ k, k < 3 → parseFieldDescriptor (TX0 k).2.2.1 = some (tyX0 k) := by decide +kernel
abbrev cX0_init : ByteArray := prog_2_method_1_code
def yX0_init : MethodName := ⟨RX0, "<init>", "(LScopeTasks$Plan;)V"⟩
abbrev cX0_remember : ByteArray := prog_2_method_2_code
def yX0_remember : MethodName := ⟨RX0, "remember", "(LScopeTasks$Run;)V"⟩
abbrev cX0_restore : ByteArray := prog_2_method_3_code
def yX0_restore : MethodName := ⟨RX0, "restore", "(LScopeTasks$Run;)Z"⟩
def RX1 : String := "ScopeTasks$Plan"
def TX1 : u_T := fun k => match k with
  | 0 => ("ScopeTasks$Plan", "tasks", "I", false)
  | 1 => ("ScopeTasks$Plan", "parent", "[I", true)
  | 2 => ("ScopeTasks$Plan", "operations", "[I", true)
  | 3 => ("ScopeTasks$Plan", "operation", "[I", true)
  | 4 => ("ScopeTasks$Plan", "number", "[I", true)
  | 5 => ("ScopeTasks$Plan", "deadline", "[I", true)
  | 6 => ("ScopeTasks$Plan", "shield", "[I", true)
  | 7 => ("ScopeTasks$Plan", "cleanUp", "[I", true)
  | _ => ("ScopeTasks$Plan", "gathers", "[I", true)
def tyX1 : Nat → FieldType := fun k => match k with
  | 0 => .int
  | 1 => .array .int
  | 2 => .array .int
  | 3 => .array .int
  | 4 => .array .int
  | 5 => .array .int
  | 6 => .array .int
  | 7 => .array .int
  | _ => .array .int
abbrev wsX10 : List Cond := u_ws RX1 TX1 9
theorem nmX1 : ∀ a, a < 9 → ∀ b, b < 9 → a ≠ b → (TX1 a).2.1 ≠ (TX1 b).2.1 := by decide +kernel
theorem tyX1_ok : ∀ k, k < 9 → parseFieldDescriptor (TX1 k).2.2.1 = some (tyX1 k) := by decide +kernel
abbrev cX1_init : ByteArray := prog_3_method_1_code
def yX1_init : MethodName := ⟨RX1, "<init>", "()V"⟩
abbrev cX1_tellAnew : ByteArray := prog_3_method_2_code
def yX1_tellAnew : MethodName := ⟨RX1, "tellAnew", "()V"⟩
abbrev cX1_addTask : ByteArray := prog_3_method_3_code
def yX1_addTask : MethodName := ⟨RX1, "addTask", "(I)I"⟩
abbrev cX1_addOperation : ByteArray := prog_3_method_4_code
def yX1_addOperation : MethodName := ⟨RX1, "addOperation", "(III)Z"⟩
abbrev cX1_copyFrom : ByteArray := prog_3_method_5_code
def yX1_copyFrom : MethodName := ⟨RX1, "copyFrom", "(LScopeTasks$Plan;)V"⟩
def RX2 : String := "ScopeTasks$Reader"
def TX2 : u_T := fun k => match k with
  | 0 => ("ScopeTasks$Reader", "tokens", "LScopeTasks$Tokens;", true)
  | 1 => ("ScopeTasks$Reader", "plan", "LScopeTasks$Plan;", true)
  | _ => ("ScopeTasks$Reader", "items", "I", false)
def tyX2 : Nat → FieldType := fun k => match k with
  | 0 => .object "ScopeTasks$Tokens"
  | 1 => .object "ScopeTasks$Plan"
  | _ => .int
abbrev wsX20 : List Cond := u_ws RX2 TX2 3
theorem nmX2 : ∀ a, a < 3 → ∀ b, b < 3 → a ≠ b → (TX2 a).2.1 ≠ (TX2 b).2.1 := by decide +kernel
theorem tyX2_ok : ∀ k, k < 3 → parseFieldDescriptor (TX2 k).2.2.1 = some (tyX2 k) := by decide +kernel
abbrev cX2_init : ByteArray := prog_4_method_1_code
def yX2_init : MethodName := ⟨RX2, "<init>", "(LScopeTasks$Tokens;LScopeTasks$Plan;)V"⟩
abbrev cX2_readAll : ByteArray := prog_4_method_2_code
def yX2_readAll : MethodName := ⟨RX2, "readAll", "()Z"⟩
abbrev cX2_readItem : ByteArray := prog_4_method_3_code
def yX2_readItem : MethodName := ⟨RX2, "readItem", "()Z"⟩
abbrev cX2_readRoot : ByteArray := prog_4_method_4_code
def yX2_readRoot : MethodName := ⟨RX2, "readRoot", "()Z"⟩
abbrev cX2_readTask : ByteArray := prog_4_method_5_code
def yX2_readTask : MethodName := ⟨RX2, "readTask", "()Z"⟩
abbrev cX2_readSetting : ByteArray := prog_4_method_6_code
def yX2_readSetting : MethodName := ⟨RX2, "readSetting", "([III)Z"⟩
abbrev cX2_readGathers : ByteArray := prog_4_method_7_code
def yX2_readGathers : MethodName := ⟨RX2, "readGathers", "()Z"⟩
abbrev cX2_readOperations : ByteArray := prog_4_method_8_code
def yX2_readOperations : MethodName := ⟨RX2, "readOperations", "(I)Z"⟩
abbrev cX2_readOperation : ByteArray := prog_4_method_9_code
def yX2_readOperation : MethodName := ⟨RX2, "readOperation", "(I)Z"⟩
abbrev cX2_readEnd : ByteArray := prog_4_method_10_code
def yX2_readEnd : MethodName := ⟨RX2, "readEnd", "()Z"⟩
abbrev cX2_isTaskTold : ByteArray := prog_4_method_11_code
def yX2_isTaskTold : MethodName := ⟨RX2, "isTaskTold", "()Z"⟩
def RX3 : String := "ScopeTasks$Run"
def TX3 : u_T := fun k => match k with
  | 0 => ("ScopeTasks$Run", "plan", "LScopeTasks$Plan;", false)
  | 1 => ("ScopeTasks$Run", "tick", "I", false)
  | 2 => ("ScopeTasks$Run", "how", "[I", true)
  | 3 => ("ScopeTasks$Run", "out", "[I", true)
  | 4 => ("ScopeTasks$Run", "begunAt", "[I", true)
  | 5 => ("ScopeTasks$Run", "endedAt", "[I", true)
  | 6 => ("ScopeTasks$Run", "due", "[I", true)
  | 7 => ("ScopeTasks$Run", "behind", "[I", true)
  | 8 => ("ScopeTasks$Run", "worked", "[I", true)
  | 9 => ("ScopeTasks$Run", "cleaned", "[I", true)
  | 10 => ("ScopeTasks$Run", "asked", "[I", true)
  | 11 => ("ScopeTasks$Run", "codes", "[I", true)
  | 12 => ("ScopeTasks$Run", "list", "[I", true)
  | 13 => ("ScopeTasks$Run", "events", "I", false)
  | 14 => ("ScopeTasks$Run", "eventTick", "[I", true)
  | 15 => ("ScopeTasks$Run", "eventTask", "[I", true)
  | _ => ("ScopeTasks$Run", "eventKind", "[I", true)
def tyX3 : Nat → FieldType := fun k => match k with
  | 0 => .object "ScopeTasks$Plan"
  | 1 => .int
  | 2 => .array .int
  | 3 => .array .int
  | 4 => .array .int
  | 5 => .array .int
  | 6 => .array .int
  | 7 => .array .int
  | 8 => .array .int
  | 9 => .array .int
  | 10 => .array .int
  | 11 => .array .int
  | 12 => .array .int
  | 13 => .int
  | 14 => .array .int
  | 15 => .array .int
  | _ => .array .int
abbrev wsX30 : List Cond := u_ws RX3 TX3 17
theorem nmX3 : ∀ a, a < 17 → ∀ b, b < 17 → a ≠ b → (TX3 a).2.1 ≠ (TX3 b).2.1 := by decide +kernel
theorem tyX3_ok : ∀ k, k < 17 → parseFieldDescriptor (TX3 k).2.2.1 = some (tyX3 k) := by decide +kernel
abbrev cX3_init : ByteArray := prog_5_method_1_code
def yX3_init : MethodName := ⟨RX3, "<init>", "(LScopeTasks$Plan;)V"⟩
abbrev cX3_restart : ByteArray := prog_5_method_2_code
def yX3_restart : MethodName := ⟨RX3, "restart", "(LScopeTasks$Plan;)V"⟩
abbrev cX3_copyFrom : ByteArray := prog_5_method_3_code
def yX3_copyFrom : MethodName := ⟨RX3, "copyFrom", "(LScopeTasks$Run;)V"⟩
abbrev cX3_passUntilEnded : ByteArray := prog_5_method_4_code
def yX3_passUntilEnded : MethodName := ⟨RX3, "passUntilEnded", "(II)Z"⟩
abbrev cX3_hadEndedBy : ByteArray := prog_5_method_5_code
def yX3_hadEndedBy : MethodName := ⟨RX3, "hadEndedBy", "(II)Z"⟩
abbrev cX3_countThatAre : ByteArray := prog_5_method_6_code
def yX3_countThatAre : MethodName := ⟨RX3, "countThatAre", "(I)I"⟩
abbrev cX3_activeChildren : ByteArray := prog_5_method_7_code
def yX3_activeChildren : MethodName := ⟨RX3, "activeChildren", "(I)I"⟩
abbrev cX3_passTick : ByteArray := prog_5_method_8_code
def yX3_passTick : MethodName := ⟨RX3, "passTick", "()V"⟩
abbrev cX3_goOn : ByteArray := prog_5_method_9_code
def yX3_goOn : MethodName := ⟨RX3, "goOn", "(I)V"⟩
abbrev cX3_operate : ByteArray := prog_5_method_10_code
def yX3_operate : MethodName := ⟨RX3, "operate", "(III)V"⟩
abbrev cX3_work : ByteArray := prog_5_method_11_code
def yX3_work : MethodName := ⟨RX3, "work", "(II)V"⟩
abbrev cX3_beginChild : ByteArray := prog_5_method_12_code
def yX3_beginChild : MethodName := ⟨RX3, "beginChild", "(I)V"⟩
abbrev cX3_start : ByteArray := prog_5_method_13_code
def yX3_start : MethodName := ⟨RX3, "start", "(II)V"⟩
abbrev cX3_askChildren : ByteArray := prog_5_method_14_code
def yX3_askChildren : MethodName := ⟨RX3, "askChildren", "(I)V"⟩
abbrev cX3_close : ByteArray := prog_5_method_15_code
def yX3_close : MethodName := ⟨RX3, "close", "(II)V"⟩
abbrev cX3_cleansUp : ByteArray := prog_5_method_16_code
def yX3_cleansUp : MethodName := ⟨RX3, "cleansUp", "(I)Z"⟩
abbrev cX3_end : ByteArray := prog_5_method_17_code
def yX3_end : MethodName := ⟨RX3, "end", "(I)V"⟩
abbrev cX3_giveList : ByteArray := prog_5_method_18_code
def yX3_giveList : MethodName := ⟨RX3, "giveList", "(II)V"⟩
abbrev cX3_takeFailure : ByteArray := prog_5_method_19_code
def yX3_takeFailure : MethodName := ⟨RX3, "takeFailure", "(I)V"⟩
abbrev cX3_addCode : ByteArray := prog_5_method_20_code
def yX3_addCode : MethodName := ⟨RX3, "addCode", "(II)V"⟩
abbrev cX3_note : ByteArray := prog_5_method_21_code
def yX3_note : MethodName := ⟨RX3, "note", "(II)V"⟩
def RX4 : String := "ScopeTasks$Tokens"
def TX4 : u_T := fun k => match k with
  | 0 => ("ScopeTasks$Tokens", "letters", "[I", true)
  | 1 => ("ScopeTasks$Tokens", "length", "I", false)
  | 2 => ("ScopeTasks$Tokens", "kind", "I", false)
  | 3 => ("ScopeTasks$Tokens", "value", "I", false)
  | 4 => ("ScopeTasks$Tokens", "start", "I", false)
  | _ => ("ScopeTasks$Tokens", "next", "I", false)
def tyX4 : Nat → FieldType := fun k => match k with
  | 0 => .array .int
  | 1 => .int
  | 2 => .int
  | 3 => .int
  | 4 => .int
  | _ => .int
abbrev wsX40 : List Cond := u_ws RX4 TX4 6
theorem nmX4 : ∀ a, a < 6 → ∀ b, b < 6 → a ≠ b → (TX4 a).2.1 ≠ (TX4 b).2.1 := by decide +kernel
theorem tyX4_ok : ∀ k, k < 6 → parseFieldDescriptor (TX4 k).2.2.1 = some (tyX4 k) := by decide +kernel
abbrev cX4_init : ByteArray := prog_6_method_1_code
def yX4_init : MethodName := ⟨RX4, "<init>", "()V"⟩
abbrev cX4_append : ByteArray := prog_6_method_2_code
def yX4_append : MethodName := ⟨RX4, "append", "(I)Z"⟩
abbrev cX4_goToFirst : ByteArray := prog_6_method_3_code
def yX4_goToFirst : MethodName := ⟨RX4, "goToFirst", "()V"⟩
abbrev cX4_advance : ByteArray := prog_6_method_4_code
def yX4_advance : MethodName := ⟨RX4, "advance", "()V"⟩
abbrev cX4_isNumberWithin : ByteArray := prog_6_method_5_code
def yX4_isNumberWithin : MethodName := ⟨RX4, "isNumberWithin", "(II)Z"⟩
def RX5 : String := "ScopeTasks"
def TX5 : u_T := fun k => match k with
  | 0 => ("ScopeTasks", "text", "LScopeTasks$Tokens;", true)
  | 1 => ("ScopeTasks", "told", "LScopeTasks$Plan;", true)
  | 2 => ("ScopeTasks", "draft", "LScopeTasks$Plan;", true)
  | 3 => ("ScopeTasks", "supposed", "LScopeTasks$Plan;", true)
  | 4 => ("ScopeTasks", "reader", "LScopeTasks$Reader;", true)
  | 5 => ("ScopeTasks", "now", "LScopeTasks$Run;", true)
  | 6 => ("ScopeTasks", "trial", "LScopeTasks$Run;", true)
  | 7 => ("ScopeTasks", "history", "LScopeTasks$History;", true)
  | 8 => ("ScopeTasks", "images", "[LScopeTasks$Run;", true)
  | 9 => ("ScopeTasks", "kept", "[Z", true)
  | 10 => ("ScopeTasks", "seenTask", "[I", true)
  | 11 => ("ScopeTasks", "seenTicks", "[I", true)
  | 12 => ("ScopeTasks", "seenEnded", "[I", true)
  | _ => ("ScopeTasks", "seen", "I", false)
def tyX5 : Nat → FieldType := fun k => match k with
  | 0 => .object "ScopeTasks$Tokens"
  | 1 => .object "ScopeTasks$Plan"
  | 2 => .object "ScopeTasks$Plan"
  | 3 => .object "ScopeTasks$Plan"
  | 4 => .object "ScopeTasks$Reader"
  | 5 => .object "ScopeTasks$Run"
  | 6 => .object "ScopeTasks$Run"
  | 7 => .object "ScopeTasks$History"
  | 8 => .array (.object "ScopeTasks$Run")
  | 9 => .array .boolean
  | 10 => .array .int
  | 11 => .array .int
  | 12 => .array .int
  | _ => .int
abbrev wsX50 : List Cond := u_ws RX5 TX5 14
theorem nmX5 : ∀ a, a < 14 → ∀ b, b < 14 → a ≠ b → (TX5 a).2.1 ≠ (TX5 b).2.1 := by decide +kernel
theorem tyX5_ok : ∀ k, k < 14 → parseFieldDescriptor (TX5 k).2.2.1 = some (tyX5 k) := by decide +kernel
abbrev cX5_init : ByteArray := prog_1_method_1_code
def yX5_init : MethodName := ⟨RX5, "<init>", "()V"⟩
abbrev cX5_type : ByteArray := prog_1_method_2_code
def yX5_type : MethodName := ⟨RX5, "type", "(I)I"⟩
abbrev cX5_clear : ByteArray := prog_1_method_3_code
def yX5_clear : MethodName := ⟨RX5, "clear", "()I"⟩
abbrev cX5_tree : ByteArray := prog_1_method_4_code
def yX5_tree : MethodName := ⟨RX5, "tree", "()I"⟩
abbrev cX5_ticks : ByteArray := prog_1_method_5_code
def yX5_ticks : MethodName := ⟨RX5, "ticks", "(I)I"⟩
abbrev cX5_asks : ByteArray := prog_1_method_6_code
def yX5_asks : MethodName := ⟨RX5, "asks", "(I)I"⟩
abbrev cX5_undo : ByteArray := prog_1_method_7_code
def yX5_undo : MethodName := ⟨RX5, "undo", "()I"⟩
abbrev cX5_task : ByteArray := prog_1_method_8_code
def yX5_task : MethodName := ⟨RX5, "task", "(II)I"⟩
abbrev cX5_failure : ByteArray := prog_1_method_9_code
def yX5_failure : MethodName := ⟨RX5, "failure", "(II)I"⟩
abbrev cX5_trace : ByteArray := prog_1_method_10_code
def yX5_trace : MethodName := ⟨RX5, "trace", "(II)I"⟩
abbrev cX5_ends : ByteArray := prog_1_method_11_code
def yX5_ends : MethodName := ⟨RX5, "ends", "(II)I"⟩
abbrev cX5_wellBy : ByteArray := prog_1_method_12_code
def yX5_wellBy : MethodName := ⟨RX5, "wellBy", "()I"⟩
abbrev cX5_spares : ByteArray := prog_1_method_13_code
def yX5_spares : MethodName := ⟨RX5, "spares", "(I)I"⟩
abbrev cX5_sees : ByteArray := prog_1_method_14_code
def yX5_sees : MethodName := ⟨RX5, "sees", "(III)I"⟩
abbrev cX5_forget : ByteArray := prog_1_method_15_code
def yX5_forget : MethodName := ⟨RX5, "forget", "()I"⟩
abbrev cX5_fits : ByteArray := prog_1_method_16_code
def yX5_fits : MethodName := ⟨RX5, "fits", "(I)I"⟩
abbrev cX5_keep : ByteArray := prog_1_method_17_code
def yX5_keep : MethodName := ⟨RX5, "keep", "(I)I"⟩
abbrev cX5_back : ByteArray := prog_1_method_18_code
def yX5_back : MethodName := ⟨RX5, "back", "(I)I"⟩
abbrev cX5_count : ByteArray := prog_1_method_19_code
def yX5_count : MethodName := ⟨RX5, "count", "(I)I"⟩
abbrev cX5_isTask : ByteArray := prog_1_method_20_code
def yX5_isTask : MethodName := ⟨RX5, "isTask", "(I)Z"⟩
abbrev cX5_suppose : ByteArray := prog_1_method_21_code
def yX5_suppose : MethodName := ⟨RX5, "suppose", "(II)V"⟩
abbrev cX5_longestSeen : ByteArray := prog_1_method_22_code
def yX5_longestSeen : MethodName := ⟨RX5, "longestSeen", "()I"⟩
abbrev cX5_agreesWithSeen : ByteArray := prog_1_method_23_code
def yX5_agreesWithSeen : MethodName := ⟨RX5, "agreesWithSeen", "()Z"⟩
def RX6 : String := "ScopeTasksModel"
def TX6 : u_T := fun k => match k with
  | 0 => ("ScopeTasksModel", "letterMany", "I", false)
  | 1 => ("ScopeTasksModel", "text", "[I", true)
  | 2 => ("ScopeTasksModel", "readAt", "I", false)
  | 3 => ("ScopeTasksModel", "tokenAt", "I", false)
  | 4 => ("ScopeTasksModel", "token", "I", false)
  | 5 => ("ScopeTasksModel", "value", "I", false)
  | 6 => ("ScopeTasksModel", "faultAt", "I", false)
  | 7 => ("ScopeTasksModel", "readMany", "I", false)
  | 8 => ("ScopeTasksModel", "readGathers", "I", false)
  | 9 => ("ScopeTasksModel", "readParent", "[I", true)
  | 10 => ("ScopeTasksModel", "readSizes", "[I", true)
  | 11 => ("ScopeTasksModel", "readActs", "[I", true)
  | 12 => ("ScopeTasksModel", "readDeadlines", "[I", true)
  | 13 => ("ScopeTasksModel", "readShields", "[I", true)
  | 14 => ("ScopeTasksModel", "readCleans", "[I", true)
  | 15 => ("ScopeTasksModel", "taskMany", "I", false)
  | 16 => ("ScopeTasksModel", "gathers", "I", false)
  | 17 => ("ScopeTasksModel", "parent", "[I", true)
  | 18 => ("ScopeTasksModel", "sizes", "[I", true)
  | 19 => ("ScopeTasksModel", "acts", "[I", true)
  | 20 => ("ScopeTasksModel", "deadlines", "[I", true)
  | 21 => ("ScopeTasksModel", "shields", "[I", true)
  | 22 => ("ScopeTasksModel", "cleans", "[I", true)
  | 23 => ("ScopeTasksModel", "now", "[I", true)
  | 24 => ("ScopeTasksModel", "tried", "[I", true)
  | 25 => ("ScopeTasksModel", "undoMany", "I", false)
  | 26 => ("ScopeTasksModel", "undoAt", "I", false)
  | 27 => ("ScopeTasksModel", "undos", "[I", true)
  | 28 => ("ScopeTasksModel", "seenMany", "I", false)
  | 29 => ("ScopeTasksModel", "seenTask", "[I", true)
  | 30 => ("ScopeTasksModel", "seenTicks", "[I", true)
  | 31 => ("ScopeTasksModel", "seenEnded", "[I", true)
  | 32 => ("ScopeTasksModel", "isKept", "[Z", true)
  | _ => ("ScopeTasksModel", "kept", "[I", true)
def tyX6 : Nat → FieldType := fun k => match k with
  | 0 => .int
  | 1 => .array .int
  | 2 => .int
  | 3 => .int
  | 4 => .int
  | 5 => .int
  | 6 => .int
  | 7 => .int
  | 8 => .int
  | 9 => .array .int
  | 10 => .array .int
  | 11 => .array .int
  | 12 => .array .int
  | 13 => .array .int
  | 14 => .array .int
  | 15 => .int
  | 16 => .int
  | 17 => .array .int
  | 18 => .array .int
  | 19 => .array .int
  | 20 => .array .int
  | 21 => .array .int
  | 22 => .array .int
  | 23 => .array .int
  | 24 => .array .int
  | 25 => .int
  | 26 => .int
  | 27 => .array .int
  | 28 => .int
  | 29 => .array .int
  | 30 => .array .int
  | 31 => .array .int
  | 32 => .array .boolean
  | _ => .array .int
abbrev wsX60 : List Cond := u_ws RX6 TX6 34
theorem nmX6 : ∀ a, a < 34 → ∀ b, b < 34 → a ≠ b → (TX6 a).2.1 ≠ (TX6 b).2.1 := by decide +kernel
theorem tyX6_ok : ∀ k, k < 34 → parseFieldDescriptor (TX6 k).2.2.1 = some (tyX6 k) := by decide +kernel
abbrev cX6_init : ByteArray := prog_8_method_1_code
def yX6_init : MethodName := ⟨RX6, "<init>", "()V"⟩
abbrev cX6_in : ByteArray := prog_8_method_2_code
def yX6_in : MethodName := ⟨RX6, "in", "(III)Z"⟩
abbrev cX6_type : ByteArray := prog_8_method_3_code
def yX6_type : MethodName := ⟨RX6, "type", "(I)I"⟩
abbrev cX6_clear : ByteArray := prog_8_method_4_code
def yX6_clear : MethodName := ⟨RX6, "clear", "()I"⟩
abbrev cX6_isFigure : ByteArray := prog_8_method_5_code
def yX6_isFigure : MethodName := ⟨RX6, "isFigure", "()Z"⟩
abbrev cX6_blanks : ByteArray := prog_8_method_6_code
def yX6_blanks : MethodName := ⟨RX6, "blanks", "()V"⟩
abbrev cX6_isToken : ByteArray := prog_8_method_7_code
def yX6_isToken : MethodName := ⟨RX6, "isToken", "(I)Z"⟩
abbrev cX6_next : ByteArray := prog_8_method_8_code
def yX6_next : MethodName := ⟨RX6, "next", "()V"⟩
abbrev cX6_fails : ByteArray := prog_8_method_9_code
def yX6_fails : MethodName := ⟨RX6, "fails", "()Z"⟩
abbrev cX6_number : ByteArray := prog_8_method_10_code
def yX6_number : MethodName := ⟨RX6, "number", "(II)Z"⟩
abbrev cX6_ends : ByteArray := prog_8_method_11_code
def yX6_ends : MethodName := ⟨RX6, "ends", "()Z"⟩
abbrev cX6_begins : ByteArray := prog_8_method_12_code
def yX6_begins : MethodName := ⟨RX6, "begins", "()V"⟩
abbrev cX6_readsProgram : ByteArray := prog_8_method_13_code
def yX6_readsProgram : MethodName := ⟨RX6, "readsProgram", "(I)Z"⟩
abbrev cX6_readsTask : ByteArray := prog_8_method_14_code
def yX6_readsTask : MethodName := ⟨RX6, "readsTask", "()Z"⟩
abbrev cX6_readsOf : ByteArray := prog_8_method_15_code
def yX6_readsOf : MethodName := ⟨RX6, "readsOf", "(I)Z"⟩
abbrev cX6_readsItem : ByteArray := prog_8_method_16_code
def yX6_readsItem : MethodName := ⟨RX6, "readsItem", "()Z"⟩
abbrev cX6_tellsAll : ByteArray := prog_8_method_17_code
def yX6_tellsAll : MethodName := ⟨RX6, "tellsAll", "()V"⟩
abbrev cX6_tree : ByteArray := prog_8_method_18_code
def yX6_tree : MethodName := ⟨RX6, "tree", "()I"⟩
abbrev cX6_copies : ByteArray := prog_8_method_19_code
def yX6_copies : MethodName := ⟨RX6, "copies", "([I[I)V"⟩
abbrev cX6_starts : ByteArray := prog_8_method_20_code
def yX6_starts : MethodName := ⟨RX6, "starts", "([I)V"⟩
abbrev cX6_at : ByteArray := prog_8_method_21_code
def yX6_at : MethodName := ⟨RX6, "at", "([III)I"⟩
abbrev cX6_isHow : ByteArray := prog_8_method_22_code
def yX6_isHow : MethodName := ⟨RX6, "isHow", "([III)Z"⟩
abbrev cX6_traces : ByteArray := prog_8_method_23_code
def yX6_traces : MethodName := ⟨RX6, "traces", "([III)V"⟩
abbrev cX6_codes : ByteArray := prog_8_method_24_code
def yX6_codes : MethodName := ⟨RX6, "codes", "([III)V"⟩
abbrev cX6_asksChildren : ByteArray := prog_8_method_25_code
def yX6_asksChildren : MethodName := ⟨RX6, "asksChildren", "([II)V"⟩
abbrev cX6_closes : ByteArray := prog_8_method_26_code
def yX6_closes : MethodName := ⟨RX6, "closes", "([III)V"⟩
abbrev cX6_begin : ByteArray := prog_8_method_27_code
def yX6_begin : MethodName := ⟨RX6, "begin", "([II)V"⟩
abbrev cX6_beginsChild : ByteArray := prog_8_method_28_code
def yX6_beginsChild : MethodName := ⟨RX6, "beginsChild", "([II)V"⟩
abbrev cX6_isBusy : ByteArray := prog_8_method_29_code
def yX6_isBusy : MethodName := ⟨RX6, "isBusy", "([II)Z"⟩
abbrev cX6_works : ByteArray := prog_8_method_30_code
def yX6_works : MethodName := ⟨RX6, "works", "([II)V"⟩
abbrev cX6_moves : ByteArray := prog_8_method_31_code
def yX6_moves : MethodName := ⟨RX6, "moves", "([II)V"⟩
abbrev cX6_gives : ByteArray := prog_8_method_32_code
def yX6_gives : MethodName := ⟨RX6, "gives", "([II)V"⟩
abbrev cX6_cleansUp : ByteArray := prog_8_method_33_code
def yX6_cleansUp : MethodName := ⟨RX6, "cleansUp", "([II)V"⟩
abbrev cX6_tick : ByteArray := prog_8_method_34_code
def yX6_tick : MethodName := ⟨RX6, "tick", "([I)V"⟩
abbrev cX6_isTask : ByteArray := prog_8_method_35_code
def yX6_isTask : MethodName := ⟨RX6, "isTask", "(I)Z"⟩
abbrev cX6_remember : ByteArray := prog_8_method_36_code
def yX6_remember : MethodName := ⟨RX6, "remember", "()V"⟩
abbrev cX6_ticks : ByteArray := prog_8_method_37_code
def yX6_ticks : MethodName := ⟨RX6, "ticks", "(I)I"⟩
abbrev cX6_asks : ByteArray := prog_8_method_38_code
def yX6_asks : MethodName := ⟨RX6, "asks", "(I)I"⟩
abbrev cX6_undo : ByteArray := prog_8_method_39_code
def yX6_undo : MethodName := ⟨RX6, "undo", "()I"⟩
abbrev cX6_busySet : ByteArray := prog_8_method_40_code
def yX6_busySet : MethodName := ⟨RX6, "busySet", "(I)I"⟩
abbrev cX6_task : ByteArray := prog_8_method_41_code
def yX6_task : MethodName := ⟨RX6, "task", "(II)I"⟩
abbrev cX6_failure : ByteArray := prog_8_method_42_code
def yX6_failure : MethodName := ⟨RX6, "failure", "(II)I"⟩
abbrev cX6_trace : ByteArray := prog_8_method_43_code
def yX6_trace : MethodName := ⟨RX6, "trace", "(II)I"⟩
abbrev cX6_goesOn : ByteArray := prog_8_method_44_code
def yX6_goesOn : MethodName := ⟨RX6, "goesOn", "(I)V"⟩
abbrev cX6_ends_ : ByteArray := prog_8_method_45_code
def yX6_ends_ : MethodName := ⟨RX6, "ends", "(II)I"⟩
abbrev cX6_wellBy : ByteArray := prog_8_method_46_code
def yX6_wellBy : MethodName := ⟨RX6, "wellBy", "()I"⟩
abbrev cX6_spares : ByteArray := prog_8_method_47_code
def yX6_spares : MethodName := ⟨RX6, "spares", "(I)I"⟩
abbrev cX6_sees : ByteArray := prog_8_method_48_code
def yX6_sees : MethodName := ⟨RX6, "sees", "(III)I"⟩
abbrev cX6_forget : ByteArray := prog_8_method_49_code
def yX6_forget : MethodName := ⟨RX6, "forget", "()I"⟩
abbrev cX6_fits : ByteArray := prog_8_method_50_code
def yX6_fits : MethodName := ⟨RX6, "fits", "(I)I"⟩
abbrev cX6_keep : ByteArray := prog_8_method_51_code
def yX6_keep : MethodName := ⟨RX6, "keep", "(I)I"⟩
abbrev cX6_back : ByteArray := prog_8_method_52_code
def yX6_back : MethodName := ⟨RX6, "back", "(I)I"⟩
abbrev cX6_howMany : ByteArray := prog_8_method_53_code
def yX6_howMany : MethodName := ⟨RX6, "howMany", "(I)I"⟩
abbrev cX6_count : ByteArray := prog_8_method_54_code
def yX6_count : MethodName := ⟨RX6, "count", "(I)I"⟩
abbrev cJ9_max_7cf53 : ByteArray := prog_9_method_65_code
abbrev cJ9_min_7cf53 : ByteArray := prog_9_method_69_code
def RL : String := "ScopeTasksLaw"
abbrev cL_law : ByteArray := code
def yL_law : MethodName := ⟨RL, "law", "([I)Z"⟩
abbrev vwCl : List vw_C := [(RX0, TX0, 3), (RX1, TX1, 9), (RX2, TX2, 3), (RX3, TX3, 17), (RX4, TX4, 6), (RX5, TX5, 14), (RX6, TX6, 34)]
set_option maxRecDepth 20000 in
theorem inX0 : ∀ w ∈ wsX00, w ∈ lw_tbl := fun w h => (goodIn_r wsX00 [274, 276, 278] (by decide +kernel) (by decide +kernel) w h).1
set_option maxRecDepth 20000 in
theorem inX1 : ∀ w ∈ wsX10, w ∈ lw_tbl := fun w h => (goodIn_r wsX10 [142, 144, 146, 148, 150, 152, 154, 156, 158] (by decide +kernel) (by decide +kernel) w h).1
set_option maxRecDepth 20000 in
theorem inX2 : ∀ w ∈ wsX20, w ∈ lw_tbl := fun w h => (goodIn_r wsX20 [171, 173, 175] (by decide +kernel) (by decide +kernel) w h).1
set_option maxRecDepth 20000 in
theorem inX3 : ∀ w ∈ wsX30, w ∈ lw_tbl := fun w h => (goodIn_r wsX30 [226, 228, 230, 232, 234, 236, 238, 240, 242, 244, 246, 248, 250, 252, 254, 256, 258] (by decide +kernel) (by decide +kernel) w h).1
set_option maxRecDepth 20000 in
theorem inX4 : ∀ w ∈ wsX40, w ∈ lw_tbl := fun w h => (goodIn_r wsX40 [88, 90, 92, 94, 96, 98] (by decide +kernel) (by decide +kernel) w h).1
set_option maxRecDepth 20000 in
theorem inX5 : ∀ w ∈ wsX50, w ∈ lw_tbl := fun w h => (goodIn_r wsX50 [295, 297, 299, 301, 303, 305, 307, 309, 311, 313, 315, 317, 319, 321] (by decide +kernel) (by decide +kernel) w h).1
set_option maxRecDepth 20000 in
theorem inX6 : ∀ w ∈ wsX60, w ∈ lw_tbl := fun w h => (goodIn_r wsX60 [627, 629, 631, 633, 635, 637, 639, 641, 643, 645, 647, 649, 651, 653, 655, 657, 659, 661, 663, 665, 667, 669, 671, 673, 675, 677, 679, 681, 683, 685, 687, 689, 691, 693] (by decide +kernel) (by decide +kernel) w h).1
end
section
theorem dX6_init_0 : decode cX6_init 0 = .ok (.aload_n 0, 1) := by decide +kernel
theorem dX6_init_1 : decode cX6_init 1 = .ok (.invokespecial 1, 3) := by decide +kernel
theorem dX6_init_4 : decode cX6_init 4 = .ok (.aload_n 0, 1) := by decide +kernel
theorem dX6_init_5 : decode cX6_init 5 = .ok (.bipush 120, 2) := by decide +kernel
theorem dX6_init_7 : decode cX6_init 7 = .ok (.newarray .int, 2) := by decide +kernel
theorem dX6_init_9 : decode cX6_init 9 = .ok (.putfield 7, 3) := by decide +kernel
theorem dX6_init_12 : decode cX6_init 12 = .ok (.aload_n 0, 1) := by decide +kernel
theorem dX6_init_13 : decode cX6_init 13 = .ok (.bipush 8, 2) := by decide +kernel
theorem dX6_init_15 : decode cX6_init 15 = .ok (.newarray .int, 2) := by decide +kernel
theorem dX6_init_17 : decode cX6_init 17 = .ok (.putfield 13, 3) := by decide +kernel
theorem dX6_init_20 : decode cX6_init 20 = .ok (.aload_n 0, 1) := by decide +kernel
theorem dX6_init_21 : decode cX6_init 21 = .ok (.bipush 8, 2) := by decide +kernel
theorem dX6_init_23 : decode cX6_init 23 = .ok (.newarray .int, 2) := by decide +kernel
theorem dX6_init_25 : decode cX6_init 25 = .ok (.putfield 16, 3) := by decide +kernel
theorem dX6_init_28 : decode cX6_init 28 = .ok (.aload_n 0, 1) := by decide +kernel
theorem dX6_init_29 : decode cX6_init 29 = .ok (.bipush 96, 2) := by decide +kernel
theorem dX6_init_31 : decode cX6_init 31 = .ok (.newarray .int, 2) := by decide +kernel
theorem dX6_init_33 : decode cX6_init 33 = .ok (.putfield 19, 3) := by decide +kernel
theorem dX6_init_36 : decode cX6_init 36 = .ok (.aload_n 0, 1) := by decide +kernel
theorem dX6_init_37 : decode cX6_init 37 = .ok (.bipush 8, 2) := by decide +kernel
theorem dX6_init_39 : decode cX6_init 39 = .ok (.newarray .int, 2) := by decide +kernel
theorem dX6_init_41 : decode cX6_init 41 = .ok (.putfield 22, 3) := by decide +kernel
theorem dX6_init_44 : decode cX6_init 44 = .ok (.aload_n 0, 1) := by decide +kernel
theorem dX6_init_45 : decode cX6_init 45 = .ok (.bipush 8, 2) := by decide +kernel
theorem dX6_init_47 : decode cX6_init 47 = .ok (.newarray .int, 2) := by decide +kernel
theorem dX6_init_49 : decode cX6_init 49 = .ok (.putfield 25, 3) := by decide +kernel
theorem dX6_init_52 : decode cX6_init 52 = .ok (.aload_n 0, 1) := by decide +kernel
theorem dX6_init_53 : decode cX6_init 53 = .ok (.bipush 8, 2) := by decide +kernel
theorem dX6_init_55 : decode cX6_init 55 = .ok (.newarray .int, 2) := by decide +kernel
theorem dX6_init_57 : decode cX6_init 57 = .ok (.putfield 28, 3) := by decide +kernel
theorem dX6_init_60 : decode cX6_init 60 = .ok (.aload_n 0, 1) := by decide +kernel
theorem dX6_init_61 : decode cX6_init 61 = .ok (.bipush 8, 2) := by decide +kernel
theorem dX6_init_63 : decode cX6_init 63 = .ok (.newarray .int, 2) := by decide +kernel
theorem dX6_init_65 : decode cX6_init 65 = .ok (.putfield 31, 3) := by decide +kernel
theorem dX6_init_68 : decode cX6_init 68 = .ok (.aload_n 0, 1) := by decide +kernel
theorem dX6_init_69 : decode cX6_init 69 = .ok (.bipush 8, 2) := by decide +kernel
theorem dX6_init_71 : decode cX6_init 71 = .ok (.newarray .int, 2) := by decide +kernel
theorem dX6_init_73 : decode cX6_init 73 = .ok (.putfield 34, 3) := by decide +kernel
theorem dX6_init_76 : decode cX6_init 76 = .ok (.aload_n 0, 1) := by decide +kernel
theorem dX6_init_77 : decode cX6_init 77 = .ok (.bipush 96, 2) := by decide +kernel
theorem dX6_init_79 : decode cX6_init 79 = .ok (.newarray .int, 2) := by decide +kernel
theorem dX6_init_81 : decode cX6_init 81 = .ok (.putfield 37, 3) := by decide +kernel
theorem dX6_init_84 : decode cX6_init 84 = .ok (.aload_n 0, 1) := by decide +kernel
theorem dX6_init_85 : decode cX6_init 85 = .ok (.bipush 8, 2) := by decide +kernel
theorem dX6_init_87 : decode cX6_init 87 = .ok (.newarray .int, 2) := by decide +kernel
theorem dX6_init_89 : decode cX6_init 89 = .ok (.putfield 40, 3) := by decide +kernel
theorem dX6_init_92 : decode cX6_init 92 = .ok (.aload_n 0, 1) := by decide +kernel
theorem dX6_init_93 : decode cX6_init 93 = .ok (.bipush 8, 2) := by decide +kernel
theorem dX6_init_95 : decode cX6_init 95 = .ok (.newarray .int, 2) := by decide +kernel
theorem dX6_init_97 : decode cX6_init 97 = .ok (.putfield 43, 3) := by decide +kernel
theorem dX6_init_100 : decode cX6_init 100 = .ok (.aload_n 0, 1) := by decide +kernel
theorem dX6_init_101 : decode cX6_init 101 = .ok (.bipush 8, 2) := by decide +kernel
theorem dX6_init_103 : decode cX6_init 103 = .ok (.newarray .int, 2) := by decide +kernel
theorem dX6_init_105 : decode cX6_init 105 = .ok (.putfield 46, 3) := by decide +kernel
theorem dX6_init_108 : decode cX6_init 108 = .ok (.aload_n 0, 1) := by decide +kernel
theorem dX6_init_109 : decode cX6_init 109 = .ok (.sipush 326, 3) := by decide +kernel
theorem dX6_init_112 : decode cX6_init 112 = .ok (.newarray .int, 2) := by decide +kernel
theorem dX6_init_114 : decode cX6_init 114 = .ok (.putfield 49, 3) := by decide +kernel
theorem dX6_init_117 : decode cX6_init 117 = .ok (.aload_n 0, 1) := by decide +kernel
theorem dX6_init_118 : decode cX6_init 118 = .ok (.sipush 326, 3) := by decide +kernel
theorem dX6_init_121 : decode cX6_init 121 = .ok (.newarray .int, 2) := by decide +kernel
theorem dX6_init_123 : decode cX6_init 123 = .ok (.putfield 52, 3) := by decide +kernel
theorem dX6_init_126 : decode cX6_init 126 = .ok (.aload_n 0, 1) := by decide +kernel
theorem dX6_init_127 : decode cX6_init 127 = .ok (.sipush 3912, 3) := by decide +kernel
theorem dX6_init_130 : decode cX6_init 130 = .ok (.newarray .int, 2) := by decide +kernel
theorem dX6_init_132 : decode cX6_init 132 = .ok (.putfield 55, 3) := by decide +kernel
theorem dX6_init_135 : decode cX6_init 135 = .ok (.aload_n 0, 1) := by decide +kernel
theorem dX6_init_136 : decode cX6_init 136 = .ok (.bipush 6, 2) := by decide +kernel
theorem dX6_init_138 : decode cX6_init 138 = .ok (.newarray .int, 2) := by decide +kernel
theorem dX6_init_140 : decode cX6_init 140 = .ok (.putfield 58, 3) := by decide +kernel
theorem dX6_init_143 : decode cX6_init 143 = .ok (.aload_n 0, 1) := by decide +kernel
theorem dX6_init_144 : decode cX6_init 144 = .ok (.bipush 6, 2) := by decide +kernel
theorem dX6_init_146 : decode cX6_init 146 = .ok (.newarray .int, 2) := by decide +kernel
theorem dX6_init_148 : decode cX6_init 148 = .ok (.putfield 61, 3) := by decide +kernel
theorem dX6_init_151 : decode cX6_init 151 = .ok (.aload_n 0, 1) := by decide +kernel
theorem dX6_init_152 : decode cX6_init 152 = .ok (.bipush 6, 2) := by decide +kernel
theorem dX6_init_154 : decode cX6_init 154 = .ok (.newarray .int, 2) := by decide +kernel
theorem dX6_init_156 : decode cX6_init 156 = .ok (.putfield 64, 3) := by decide +kernel
theorem dX6_init_159 : decode cX6_init 159 = .ok (.aload_n 0, 1) := by decide +kernel
theorem dX6_init_160 : decode cX6_init 160 = .ok (.iconst 2, 1) := by decide +kernel
theorem dX6_init_161 : decode cX6_init 161 = .ok (.newarray .boolean, 2) := by decide +kernel
theorem dX6_init_163 : decode cX6_init 163 = .ok (.putfield 67, 3) := by decide +kernel
theorem dX6_init_166 : decode cX6_init 166 = .ok (.aload_n 0, 1) := by decide +kernel
theorem dX6_init_167 : decode cX6_init 167 = .ok (.sipush 652, 3) := by decide +kernel
theorem dX6_init_170 : decode cX6_init 170 = .ok (.newarray .int, 2) := by decide +kernel
theorem dX6_init_172 : decode cX6_init 172 = .ok (.putfield 71, 3) := by decide +kernel
theorem dX6_init_175 : decode cX6_init 175 = .ok (.aload_n 0, 1) := by decide +kernel
theorem dX6_init_176 : decode cX6_init 176 = .ok (.invokevirtual 74, 3) := by decide +kernel
theorem dX6_init_179 : decode cX6_init 179 = .ok (.aload_n 0, 1) := by decide +kernel
theorem dX6_init_180 : decode cX6_init 180 = .ok (.invokevirtual 77, 3) := by decide +kernel
theorem dX6_init_183 : decode cX6_init 183 = .ok (.return_, 1) := by decide +kernel
theorem dX6_in_0 : decode cX6_in 0 = .ok (.iload_n 0, 1) := by decide +kernel
theorem dX6_in_1 : decode cX6_in 1 = .ok (.iload_n 1, 1) := by decide +kernel
theorem dX6_in_2 : decode cX6_in 2 = .ok (.if_icmp .lt 12, 3) := by decide +kernel
theorem dX6_in_5 : decode cX6_in 5 = .ok (.iload_n 0, 1) := by decide +kernel
theorem dX6_in_6 : decode cX6_in 6 = .ok (.iload_n 2, 1) := by decide +kernel
theorem dX6_in_7 : decode cX6_in 7 = .ok (.if_icmp .gt 7, 3) := by decide +kernel
theorem dX6_in_10 : decode cX6_in 10 = .ok (.iconst 1, 1) := by decide +kernel
theorem dX6_in_11 : decode cX6_in 11 = .ok (.goto 4, 3) := by decide +kernel
theorem dX6_in_14 : decode cX6_in 14 = .ok (.iconst 0, 1) := by decide +kernel
theorem dX6_in_15 : decode cX6_in 15 = .ok (.ireturn, 1) := by decide +kernel
theorem dX6_type_0 : decode cX6_type 0 = .ok (.iload_n 1, 1) := by decide +kernel
theorem dX6_type_1 : decode cX6_type 1 = .ok (.iconst 0, 1) := by decide +kernel
theorem dX6_type_2 : decode cX6_type 2 = .ok (.sipush 255, 3) := by decide +kernel
theorem dX6_type_5 : decode cX6_type 5 = .ok (.invokestatic 80, 3) := by decide +kernel
theorem dX6_type_8 : decode cX6_type 8 = .ok (.ifCond .ne 5, 3) := by decide +kernel
theorem dX6_type_11 : decode cX6_type 11 = .ok (.iconst (-1), 1) := by decide +kernel
theorem dX6_type_12 : decode cX6_type 12 = .ok (.ireturn, 1) := by decide +kernel
theorem dX6_type_13 : decode cX6_type 13 = .ok (.aload_n 0, 1) := by decide +kernel
theorem dX6_type_14 : decode cX6_type 14 = .ok (.getfield 84, 3) := by decide +kernel
theorem dX6_type_17 : decode cX6_type 17 = .ok (.bipush 120, 2) := by decide +kernel
theorem dX6_type_19 : decode cX6_type 19 = .ok (.if_icmp .ne 6, 3) := by decide +kernel
theorem dX6_type_22 : decode cX6_type 22 = .ok (.bipush (-3), 2) := by decide +kernel
theorem dX6_type_24 : decode cX6_type 24 = .ok (.ireturn, 1) := by decide +kernel
theorem dX6_type_25 : decode cX6_type 25 = .ok (.aload_n 0, 1) := by decide +kernel
theorem dX6_type_26 : decode cX6_type 26 = .ok (.getfield 7, 3) := by decide +kernel
theorem dX6_type_29 : decode cX6_type 29 = .ok (.aload_n 0, 1) := by decide +kernel
theorem dX6_type_30 : decode cX6_type 30 = .ok (.getfield 84, 3) := by decide +kernel
theorem dX6_type_33 : decode cX6_type 33 = .ok (.iload_n 1, 1) := by decide +kernel
theorem dX6_type_34 : decode cX6_type 34 = .ok (.iastore, 1) := by decide +kernel
theorem dX6_type_35 : decode cX6_type 35 = .ok (.aload_n 0, 1) := by decide +kernel
theorem dX6_type_36 : decode cX6_type 36 = .ok (.dup, 1) := by decide +kernel
theorem dX6_type_37 : decode cX6_type 37 = .ok (.getfield 84, 3) := by decide +kernel
theorem dX6_type_40 : decode cX6_type 40 = .ok (.iconst 1, 1) := by decide +kernel
theorem dX6_type_41 : decode cX6_type 41 = .ok (.iadd, 1) := by decide +kernel
theorem dX6_type_42 : decode cX6_type 42 = .ok (.putfield 84, 3) := by decide +kernel
theorem dX6_type_45 : decode cX6_type 45 = .ok (.aload_n 0, 1) := by decide +kernel
theorem dX6_type_46 : decode cX6_type 46 = .ok (.getfield 84, 3) := by decide +kernel
theorem dX6_type_49 : decode cX6_type 49 = .ok (.ireturn, 1) := by decide +kernel
theorem dX6_clear_0 : decode cX6_clear 0 = .ok (.aload_n 0, 1) := by decide +kernel
theorem dX6_clear_1 : decode cX6_clear 1 = .ok (.getfield 84, 3) := by decide +kernel
theorem dX6_clear_4 : decode cX6_clear 4 = .ok (.istore_n 1, 1) := by decide +kernel
theorem dX6_clear_5 : decode cX6_clear 5 = .ok (.aload_n 0, 1) := by decide +kernel
theorem dX6_clear_6 : decode cX6_clear 6 = .ok (.iconst 0, 1) := by decide +kernel
theorem dX6_clear_7 : decode cX6_clear 7 = .ok (.putfield 84, 3) := by decide +kernel
theorem dX6_clear_10 : decode cX6_clear 10 = .ok (.iload_n 1, 1) := by decide +kernel
theorem dX6_clear_11 : decode cX6_clear 11 = .ok (.ireturn, 1) := by decide +kernel
theorem dX6_isFigure_0 : decode cX6_isFigure 0 = .ok (.aload_n 0, 1) := by decide +kernel
theorem dX6_isFigure_1 : decode cX6_isFigure 1 = .ok (.getfield 88, 3) := by decide +kernel
theorem dX6_isFigure_4 : decode cX6_isFigure 4 = .ok (.aload_n 0, 1) := by decide +kernel
theorem dX6_isFigure_5 : decode cX6_isFigure 5 = .ok (.getfield 84, 3) := by decide +kernel
theorem dX6_isFigure_8 : decode cX6_isFigure 8 = .ok (.if_icmp .ge 26, 3) := by decide +kernel
theorem dX6_isFigure_11 : decode cX6_isFigure 11 = .ok (.aload_n 0, 1) := by decide +kernel
theorem dX6_isFigure_12 : decode cX6_isFigure 12 = .ok (.getfield 7, 3) := by decide +kernel
theorem dX6_isFigure_15 : decode cX6_isFigure 15 = .ok (.aload_n 0, 1) := by decide +kernel
theorem dX6_isFigure_16 : decode cX6_isFigure 16 = .ok (.getfield 88, 3) := by decide +kernel
theorem dX6_isFigure_19 : decode cX6_isFigure 19 = .ok (.iaload, 1) := by decide +kernel
theorem dX6_isFigure_20 : decode cX6_isFigure 20 = .ok (.bipush 48, 2) := by decide +kernel
theorem dX6_isFigure_22 : decode cX6_isFigure 22 = .ok (.bipush 57, 2) := by decide +kernel
theorem dX6_isFigure_24 : decode cX6_isFigure 24 = .ok (.invokestatic 80, 3) := by decide +kernel
theorem dX6_isFigure_27 : decode cX6_isFigure 27 = .ok (.ifCond .eq 7, 3) := by decide +kernel
theorem dX6_isFigure_30 : decode cX6_isFigure 30 = .ok (.iconst 1, 1) := by decide +kernel
theorem dX6_isFigure_31 : decode cX6_isFigure 31 = .ok (.goto 4, 3) := by decide +kernel
theorem dX6_isFigure_34 : decode cX6_isFigure 34 = .ok (.iconst 0, 1) := by decide +kernel
theorem dX6_isFigure_35 : decode cX6_isFigure 35 = .ok (.ireturn, 1) := by decide +kernel
theorem dX6_blanks_0 : decode cX6_blanks 0 = .ok (.aload_n 0, 1) := by decide +kernel
theorem dX6_blanks_1 : decode cX6_blanks 1 = .ok (.getfield 88, 3) := by decide +kernel
theorem dX6_blanks_4 : decode cX6_blanks 4 = .ok (.aload_n 0, 1) := by decide +kernel
theorem dX6_blanks_5 : decode cX6_blanks 5 = .ok (.getfield 84, 3) := by decide +kernel
theorem dX6_blanks_8 : decode cX6_blanks 8 = .ok (.if_icmp .ge 30, 3) := by decide +kernel
theorem dX6_blanks_11 : decode cX6_blanks 11 = .ok (.aload_n 0, 1) := by decide +kernel
theorem dX6_blanks_12 : decode cX6_blanks 12 = .ok (.getfield 7, 3) := by decide +kernel
theorem dX6_blanks_15 : decode cX6_blanks 15 = .ok (.aload_n 0, 1) := by decide +kernel
theorem dX6_blanks_16 : decode cX6_blanks 16 = .ok (.getfield 88, 3) := by decide +kernel
theorem dX6_blanks_19 : decode cX6_blanks 19 = .ok (.iaload, 1) := by decide +kernel
theorem dX6_blanks_20 : decode cX6_blanks 20 = .ok (.bipush 32, 2) := by decide +kernel
theorem dX6_blanks_22 : decode cX6_blanks 22 = .ok (.if_icmp .ne 16, 3) := by decide +kernel
theorem dX6_blanks_25 : decode cX6_blanks 25 = .ok (.aload_n 0, 1) := by decide +kernel
theorem dX6_blanks_26 : decode cX6_blanks 26 = .ok (.dup, 1) := by decide +kernel
theorem dX6_blanks_27 : decode cX6_blanks 27 = .ok (.getfield 88, 3) := by decide +kernel
theorem dX6_blanks_30 : decode cX6_blanks 30 = .ok (.iconst 1, 1) := by decide +kernel
theorem dX6_blanks_31 : decode cX6_blanks 31 = .ok (.iadd, 1) := by decide +kernel
theorem dX6_blanks_32 : decode cX6_blanks 32 = .ok (.putfield 88, 3) := by decide +kernel
theorem dX6_blanks_35 : decode cX6_blanks 35 = .ok (.goto (-35), 3) := by decide +kernel
theorem dX6_blanks_38 : decode cX6_blanks 38 = .ok (.return_, 1) := by decide +kernel
theorem dX6_isToken_0 : decode cX6_isToken 0 = .ok (.iload_n 0, 1) := by decide +kernel
theorem dX6_isToken_1 : decode cX6_isToken 1 = .ok (.lookupswitch 109 #[(59, 107), (98, 107), (99, 107), (100, 107), (102, 107), (103, 107), (106, 107), (114, 107), (115, 107), (116, 107), (119, 107), (120, 107)], 107) := by decide +kernel
theorem dX6_isToken_108 : decode cX6_isToken 108 = .ok (.iconst 1, 1) := by decide +kernel
theorem dX6_isToken_109 : decode cX6_isToken 109 = .ok (.ireturn, 1) := by decide +kernel
theorem dX6_isToken_110 : decode cX6_isToken 110 = .ok (.iconst 0, 1) := by decide +kernel
theorem dX6_isToken_111 : decode cX6_isToken 111 = .ok (.ireturn, 1) := by decide +kernel
theorem dX6_next_0 : decode cX6_next 0 = .ok (.aload_n 0, 1) := by decide +kernel
theorem dX6_next_1 : decode cX6_next 1 = .ok (.invokevirtual 91, 3) := by decide +kernel
theorem dX6_next_4 : decode cX6_next 4 = .ok (.aload_n 0, 1) := by decide +kernel
theorem dX6_next_5 : decode cX6_next 5 = .ok (.aload_n 0, 1) := by decide +kernel
theorem dX6_next_6 : decode cX6_next 6 = .ok (.getfield 88, 3) := by decide +kernel
theorem dX6_next_9 : decode cX6_next 9 = .ok (.putfield 94, 3) := by decide +kernel
theorem dX6_next_12 : decode cX6_next 12 = .ok (.aload_n 0, 1) := by decide +kernel
theorem dX6_next_13 : decode cX6_next 13 = .ok (.getfield 88, 3) := by decide +kernel
theorem dX6_next_16 : decode cX6_next 16 = .ok (.aload_n 0, 1) := by decide +kernel
theorem dX6_next_17 : decode cX6_next 17 = .ok (.getfield 84, 3) := by decide +kernel
theorem dX6_next_20 : decode cX6_next 20 = .ok (.if_icmp .ne 11, 3) := by decide +kernel
theorem dX6_next_23 : decode cX6_next 23 = .ok (.aload_n 0, 1) := by decide +kernel
theorem dX6_next_24 : decode cX6_next 24 = .ok (.iconst (-1), 1) := by decide +kernel
theorem dX6_next_25 : decode cX6_next 25 = .ok (.putfield 97, 3) := by decide +kernel
theorem dX6_next_28 : decode cX6_next 28 = .ok (.goto 167, 3) := by decide +kernel
theorem dX6_next_31 : decode cX6_next 31 = .ok (.aload_n 0, 1) := by decide +kernel
theorem dX6_next_32 : decode cX6_next 32 = .ok (.invokevirtual 100, 3) := by decide +kernel
theorem dX6_next_35 : decode cX6_next 35 = .ok (.ifCond .eq 117, 3) := by decide +kernel
theorem dX6_next_38 : decode cX6_next 38 = .ok (.aload_n 0, 1) := by decide +kernel
theorem dX6_next_39 : decode cX6_next 39 = .ok (.iconst 0, 1) := by decide +kernel
theorem dX6_next_40 : decode cX6_next 40 = .ok (.putfield 104, 3) := by decide +kernel
theorem dX6_next_43 : decode cX6_next 43 = .ok (.aload_n 0, 1) := by decide +kernel
theorem dX6_next_44 : decode cX6_next 44 = .ok (.invokevirtual 100, 3) := by decide +kernel
theorem dX6_next_47 : decode cX6_next 47 = .ok (.ifCond .eq 56, 3) := by decide +kernel
theorem dX6_next_50 : decode cX6_next 50 = .ok (.aload_n 0, 1) := by decide +kernel
theorem dX6_next_51 : decode cX6_next 51 = .ok (.aload_n 0, 1) := by decide +kernel
theorem dX6_next_52 : decode cX6_next 52 = .ok (.getfield 104, 3) := by decide +kernel
theorem dX6_next_55 : decode cX6_next 55 = .ok (.bipush 99, 2) := by decide +kernel
theorem dX6_next_57 : decode cX6_next 57 = .ok (.if_icmp .le 10, 3) := by decide +kernel
theorem dX6_next_60 : decode cX6_next 60 = .ok (.aload_n 0, 1) := by decide +kernel
theorem dX6_next_61 : decode cX6_next 61 = .ok (.getfield 104, 3) := by decide +kernel
theorem dX6_next_64 : decode cX6_next 64 = .ok (.goto 23, 3) := by decide +kernel
theorem dX6_next_67 : decode cX6_next 67 = .ok (.bipush 10, 2) := by decide +kernel
theorem dX6_next_69 : decode cX6_next 69 = .ok (.aload_n 0, 1) := by decide +kernel
theorem dX6_next_70 : decode cX6_next 70 = .ok (.getfield 104, 3) := by decide +kernel
theorem dX6_next_73 : decode cX6_next 73 = .ok (.imul, 1) := by decide +kernel
theorem dX6_next_74 : decode cX6_next 74 = .ok (.aload_n 0, 1) := by decide +kernel
theorem dX6_next_75 : decode cX6_next 75 = .ok (.getfield 7, 3) := by decide +kernel
theorem dX6_next_78 : decode cX6_next 78 = .ok (.aload_n 0, 1) := by decide +kernel
theorem dX6_next_79 : decode cX6_next 79 = .ok (.getfield 88, 3) := by decide +kernel
theorem dX6_next_82 : decode cX6_next 82 = .ok (.iaload, 1) := by decide +kernel
theorem dX6_next_83 : decode cX6_next 83 = .ok (.iadd, 1) := by decide +kernel
theorem dX6_next_84 : decode cX6_next 84 = .ok (.bipush 48, 2) := by decide +kernel
theorem dX6_next_86 : decode cX6_next 86 = .ok (.isub, 1) := by decide +kernel
theorem dX6_next_87 : decode cX6_next 87 = .ok (.putfield 104, 3) := by decide +kernel
theorem dX6_next_90 : decode cX6_next 90 = .ok (.aload_n 0, 1) := by decide +kernel
theorem dX6_next_91 : decode cX6_next 91 = .ok (.dup, 1) := by decide +kernel
theorem dX6_next_92 : decode cX6_next 92 = .ok (.getfield 88, 3) := by decide +kernel
theorem dX6_next_95 : decode cX6_next 95 = .ok (.iconst 1, 1) := by decide +kernel
theorem dX6_next_96 : decode cX6_next 96 = .ok (.iadd, 1) := by decide +kernel
theorem dX6_next_97 : decode cX6_next 97 = .ok (.putfield 88, 3) := by decide +kernel
theorem dX6_next_100 : decode cX6_next 100 = .ok (.goto (-57), 3) := by decide +kernel
theorem dX6_next_103 : decode cX6_next 103 = .ok (.aload_n 0, 1) := by decide +kernel
theorem dX6_next_104 : decode cX6_next 104 = .ok (.aload_n 0, 1) := by decide +kernel
theorem dX6_next_105 : decode cX6_next 105 = .ok (.getfield 104, 3) := by decide +kernel
theorem dX6_next_108 : decode cX6_next 108 = .ok (.bipush 99, 2) := by decide +kernel
theorem dX6_next_110 : decode cX6_next 110 = .ok (.if_icmp .gt 30, 3) := by decide +kernel
theorem dX6_next_113 : decode cX6_next 113 = .ok (.aload_n 0, 1) := by decide +kernel
theorem dX6_next_114 : decode cX6_next 114 = .ok (.getfield 7, 3) := by decide +kernel
theorem dX6_next_117 : decode cX6_next 117 = .ok (.aload_n 0, 1) := by decide +kernel
theorem dX6_next_118 : decode cX6_next 118 = .ok (.getfield 94, 3) := by decide +kernel
theorem dX6_next_121 : decode cX6_next 121 = .ok (.iaload, 1) := by decide +kernel
theorem dX6_next_122 : decode cX6_next 122 = .ok (.bipush 48, 2) := by decide +kernel
theorem dX6_next_124 : decode cX6_next 124 = .ok (.if_icmp .ne 21, 3) := by decide +kernel
theorem dX6_next_127 : decode cX6_next 127 = .ok (.aload_n 0, 1) := by decide +kernel
theorem dX6_next_128 : decode cX6_next 128 = .ok (.getfield 88, 3) := by decide +kernel
theorem dX6_next_131 : decode cX6_next 131 = .ok (.aload_n 0, 1) := by decide +kernel
theorem dX6_next_132 : decode cX6_next 132 = .ok (.getfield 94, 3) := by decide +kernel
theorem dX6_next_135 : decode cX6_next 135 = .ok (.isub, 1) := by decide +kernel
theorem dX6_next_136 : decode cX6_next 136 = .ok (.iconst 1, 1) := by decide +kernel
theorem dX6_next_137 : decode cX6_next 137 = .ok (.if_icmp .le 8, 3) := by decide +kernel
theorem dX6_next_140 : decode cX6_next 140 = .ok (.bipush (-2), 2) := by decide +kernel
theorem dX6_next_142 : decode cX6_next 142 = .ok (.goto 4, 3) := by decide +kernel
theorem dX6_next_145 : decode cX6_next 145 = .ok (.iconst 0, 1) := by decide +kernel
theorem dX6_next_146 : decode cX6_next 146 = .ok (.putfield 97, 3) := by decide +kernel
theorem dX6_next_149 : decode cX6_next 149 = .ok (.goto 46, 3) := by decide +kernel
theorem dX6_next_152 : decode cX6_next 152 = .ok (.aload_n 0, 1) := by decide +kernel
theorem dX6_next_153 : decode cX6_next 153 = .ok (.aload_n 0, 1) := by decide +kernel
theorem dX6_next_154 : decode cX6_next 154 = .ok (.getfield 7, 3) := by decide +kernel
theorem dX6_next_157 : decode cX6_next 157 = .ok (.aload_n 0, 1) := by decide +kernel
theorem dX6_next_158 : decode cX6_next 158 = .ok (.getfield 88, 3) := by decide +kernel
theorem dX6_next_161 : decode cX6_next 161 = .ok (.iaload, 1) := by decide +kernel
theorem dX6_next_162 : decode cX6_next 162 = .ok (.invokestatic 107, 3) := by decide +kernel
theorem dX6_next_165 : decode cX6_next 165 = .ok (.ifCond .eq 15, 3) := by decide +kernel
theorem dX6_next_168 : decode cX6_next 168 = .ok (.aload_n 0, 1) := by decide +kernel
theorem dX6_next_169 : decode cX6_next 169 = .ok (.getfield 7, 3) := by decide +kernel
theorem dX6_next_172 : decode cX6_next 172 = .ok (.aload_n 0, 1) := by decide +kernel
theorem dX6_next_173 : decode cX6_next 173 = .ok (.getfield 88, 3) := by decide +kernel
theorem dX6_next_176 : decode cX6_next 176 = .ok (.iaload, 1) := by decide +kernel
theorem dX6_next_177 : decode cX6_next 177 = .ok (.goto 5, 3) := by decide +kernel
theorem dX6_next_180 : decode cX6_next 180 = .ok (.bipush (-2), 2) := by decide +kernel
theorem dX6_next_182 : decode cX6_next 182 = .ok (.putfield 97, 3) := by decide +kernel
theorem dX6_next_185 : decode cX6_next 185 = .ok (.aload_n 0, 1) := by decide +kernel
theorem dX6_next_186 : decode cX6_next 186 = .ok (.dup, 1) := by decide +kernel
theorem dX6_next_187 : decode cX6_next 187 = .ok (.getfield 88, 3) := by decide +kernel
theorem dX6_next_190 : decode cX6_next 190 = .ok (.iconst 1, 1) := by decide +kernel
theorem dX6_next_191 : decode cX6_next 191 = .ok (.iadd, 1) := by decide +kernel
theorem dX6_next_192 : decode cX6_next 192 = .ok (.putfield 88, 3) := by decide +kernel
theorem dX6_next_195 : decode cX6_next 195 = .ok (.return_, 1) := by decide +kernel
theorem dX6_fails_0 : decode cX6_fails 0 = .ok (.aload_n 0, 1) := by decide +kernel
theorem dX6_fails_1 : decode cX6_fails 1 = .ok (.aload_n 0, 1) := by decide +kernel
theorem dX6_fails_2 : decode cX6_fails 2 = .ok (.getfield 94, 3) := by decide +kernel
theorem dX6_fails_5 : decode cX6_fails 5 = .ok (.putfield 111, 3) := by decide +kernel
theorem dX6_fails_8 : decode cX6_fails 8 = .ok (.iconst 0, 1) := by decide +kernel
theorem dX6_fails_9 : decode cX6_fails 9 = .ok (.ireturn, 1) := by decide +kernel
theorem dX6_number_0 : decode cX6_number 0 = .ok (.aload_n 0, 1) := by decide +kernel
theorem dX6_number_1 : decode cX6_number 1 = .ok (.invokevirtual 114, 3) := by decide +kernel
theorem dX6_number_4 : decode cX6_number 4 = .ok (.aload_n 0, 1) := by decide +kernel
theorem dX6_number_5 : decode cX6_number 5 = .ok (.getfield 97, 3) := by decide +kernel
theorem dX6_number_8 : decode cX6_number 8 = .ok (.ifCond .ne 15, 3) := by decide +kernel
theorem dX6_number_11 : decode cX6_number 11 = .ok (.aload_n 0, 1) := by decide +kernel
theorem dX6_number_12 : decode cX6_number 12 = .ok (.getfield 104, 3) := by decide +kernel
theorem dX6_number_15 : decode cX6_number 15 = .ok (.iload_n 1, 1) := by decide +kernel
theorem dX6_number_16 : decode cX6_number 16 = .ok (.iload_n 2, 1) := by decide +kernel
theorem dX6_number_17 : decode cX6_number 17 = .ok (.invokestatic 80, 3) := by decide +kernel
theorem dX6_number_20 : decode cX6_number 20 = .ok (.ifCond .ne 10, 3) := by decide +kernel
theorem dX6_number_23 : decode cX6_number 23 = .ok (.aload_n 0, 1) := by decide +kernel
theorem dX6_number_24 : decode cX6_number 24 = .ok (.invokevirtual 117, 3) := by decide +kernel
theorem dX6_number_27 : decode cX6_number 27 = .ok (.ifCond .eq 7, 3) := by decide +kernel
theorem dX6_number_30 : decode cX6_number 30 = .ok (.iconst 1, 1) := by decide +kernel
theorem dX6_number_31 : decode cX6_number 31 = .ok (.goto 4, 3) := by decide +kernel
theorem dX6_number_34 : decode cX6_number 34 = .ok (.iconst 0, 1) := by decide +kernel
theorem dX6_number_35 : decode cX6_number 35 = .ok (.ireturn, 1) := by decide +kernel
theorem dX6_ends_0 : decode cX6_ends 0 = .ok (.aload_n 0, 1) := by decide +kernel
theorem dX6_ends_1 : decode cX6_ends 1 = .ok (.invokevirtual 114, 3) := by decide +kernel
theorem dX6_ends_4 : decode cX6_ends 4 = .ok (.aload_n 0, 1) := by decide +kernel
theorem dX6_ends_5 : decode cX6_ends 5 = .ok (.getfield 97, 3) := by decide +kernel
theorem dX6_ends_8 : decode cX6_ends 8 = .ok (.bipush 59, 2) := by decide +kernel
theorem dX6_ends_10 : decode cX6_ends 10 = .ok (.if_icmp .eq 10, 3) := by decide +kernel
theorem dX6_ends_13 : decode cX6_ends 13 = .ok (.aload_n 0, 1) := by decide +kernel
theorem dX6_ends_14 : decode cX6_ends 14 = .ok (.invokevirtual 117, 3) := by decide +kernel
theorem dX6_ends_17 : decode cX6_ends 17 = .ok (.ifCond .eq 7, 3) := by decide +kernel
theorem dX6_ends_20 : decode cX6_ends 20 = .ok (.iconst 1, 1) := by decide +kernel
theorem dX6_ends_21 : decode cX6_ends 21 = .ok (.goto 4, 3) := by decide +kernel
theorem dX6_ends_24 : decode cX6_ends 24 = .ok (.iconst 0, 1) := by decide +kernel
theorem dX6_ends_25 : decode cX6_ends 25 = .ok (.ireturn, 1) := by decide +kernel
theorem dX6_begins_0 : decode cX6_begins 0 = .ok (.aload_n 0, 1) := by decide +kernel
theorem dX6_begins_1 : decode cX6_begins 1 = .ok (.iconst 0, 1) := by decide +kernel
theorem dX6_begins_2 : decode cX6_begins 2 = .ok (.putfield 120, 3) := by decide +kernel
theorem dX6_begins_5 : decode cX6_begins 5 = .ok (.aload_n 0, 1) := by decide +kernel
theorem dX6_begins_6 : decode cX6_begins 6 = .ok (.iconst 0, 1) := by decide +kernel
theorem dX6_begins_7 : decode cX6_begins 7 = .ok (.putfield 123, 3) := by decide +kernel
theorem dX6_begins_10 : decode cX6_begins 10 = .ok (.iconst 0, 1) := by decide +kernel
theorem dX6_begins_11 : decode cX6_begins 11 = .ok (.istore_n 1, 1) := by decide +kernel
theorem dX6_begins_12 : decode cX6_begins 12 = .ok (.iload_n 1, 1) := by decide +kernel
theorem dX6_begins_13 : decode cX6_begins 13 = .ok (.bipush 8, 2) := by decide +kernel
theorem dX6_begins_15 : decode cX6_begins 15 = .ok (.if_icmp .ge 46, 3) := by decide +kernel
theorem dX6_begins_18 : decode cX6_begins 18 = .ok (.aload_n 0, 1) := by decide +kernel
theorem dX6_begins_19 : decode cX6_begins 19 = .ok (.getfield 13, 3) := by decide +kernel
theorem dX6_begins_22 : decode cX6_begins 22 = .ok (.iload_n 1, 1) := by decide +kernel
theorem dX6_begins_23 : decode cX6_begins 23 = .ok (.bipush (-9), 2) := by decide +kernel
theorem dX6_begins_25 : decode cX6_begins 25 = .ok (.iastore, 1) := by decide +kernel
theorem dX6_begins_26 : decode cX6_begins 26 = .ok (.aload_n 0, 1) := by decide +kernel
theorem dX6_begins_27 : decode cX6_begins 27 = .ok (.getfield 16, 3) := by decide +kernel
theorem dX6_begins_30 : decode cX6_begins 30 = .ok (.iload_n 1, 1) := by decide +kernel
theorem dX6_begins_31 : decode cX6_begins 31 = .ok (.iconst 0, 1) := by decide +kernel
theorem dX6_begins_32 : decode cX6_begins 32 = .ok (.iastore, 1) := by decide +kernel
theorem dX6_begins_33 : decode cX6_begins 33 = .ok (.aload_n 0, 1) := by decide +kernel
theorem dX6_begins_34 : decode cX6_begins 34 = .ok (.getfield 22, 3) := by decide +kernel
theorem dX6_begins_37 : decode cX6_begins 37 = .ok (.iload_n 1, 1) := by decide +kernel
theorem dX6_begins_38 : decode cX6_begins 38 = .ok (.bipush 99, 2) := by decide +kernel
theorem dX6_begins_40 : decode cX6_begins 40 = .ok (.iastore, 1) := by decide +kernel
theorem dX6_begins_41 : decode cX6_begins 41 = .ok (.aload_n 0, 1) := by decide +kernel
theorem dX6_begins_42 : decode cX6_begins 42 = .ok (.getfield 25, 3) := by decide +kernel
theorem dX6_begins_45 : decode cX6_begins 45 = .ok (.iload_n 1, 1) := by decide +kernel
theorem dX6_begins_46 : decode cX6_begins 46 = .ok (.iconst 0, 1) := by decide +kernel
theorem dX6_begins_47 : decode cX6_begins 47 = .ok (.iastore, 1) := by decide +kernel
theorem dX6_begins_48 : decode cX6_begins 48 = .ok (.aload_n 0, 1) := by decide +kernel
theorem dX6_begins_49 : decode cX6_begins 49 = .ok (.getfield 28, 3) := by decide +kernel
theorem dX6_begins_52 : decode cX6_begins 52 = .ok (.iload_n 1, 1) := by decide +kernel
theorem dX6_begins_53 : decode cX6_begins 53 = .ok (.iconst 0, 1) := by decide +kernel
theorem dX6_begins_54 : decode cX6_begins 54 = .ok (.iastore, 1) := by decide +kernel
theorem dX6_begins_55 : decode cX6_begins 55 = .ok (.iinc 1 1, 3) := by decide +kernel
theorem dX6_begins_58 : decode cX6_begins 58 = .ok (.goto (-46), 3) := by decide +kernel
theorem dX6_begins_61 : decode cX6_begins 61 = .ok (.return_, 1) := by decide +kernel
theorem dX6_readsProgram_0 : decode cX6_readsProgram 0 = .ok (.aload_n 0, 1) := by decide +kernel
theorem dX6_readsProgram_1 : decode cX6_readsProgram 1 = .ok (.invokevirtual 114, 3) := by decide +kernel
theorem dX6_readsProgram_4 : decode cX6_readsProgram 4 = .ok (.aload_n 0, 1) := by decide +kernel
theorem dX6_readsProgram_5 : decode cX6_readsProgram 5 = .ok (.getfield 97, 3) := by decide +kernel
theorem dX6_readsProgram_8 : decode cX6_readsProgram 8 = .ok (.bipush 59, 2) := by decide +kernel
theorem dX6_readsProgram_10 : decode cX6_readsProgram 10 = .ok (.if_icmp .eq 157, 3) := by decide +kernel
theorem dX6_readsProgram_13 : decode cX6_readsProgram 13 = .ok (.aload_n 0, 1) := by decide +kernel
theorem dX6_readsProgram_14 : decode cX6_readsProgram 14 = .ok (.getfield 97, 3) := by decide +kernel
theorem dX6_readsProgram_17 : decode cX6_readsProgram 17 = .ok (.istore_n 2, 1) := by decide +kernel
theorem dX6_readsProgram_18 : decode cX6_readsProgram 18 = .ok (.iload_n 2, 1) := by decide +kernel
theorem dX6_readsProgram_19 : decode cX6_readsProgram 19 = .ok (.bipush 119, 2) := by decide +kernel
theorem dX6_readsProgram_21 : decode cX6_readsProgram 21 = .ok (.if_icmp .eq 27, 3) := by decide +kernel
theorem dX6_readsProgram_24 : decode cX6_readsProgram 24 = .ok (.iload_n 2, 1) := by decide +kernel
theorem dX6_readsProgram_25 : decode cX6_readsProgram 25 = .ok (.bipush 98, 2) := by decide +kernel
theorem dX6_readsProgram_27 : decode cX6_readsProgram 27 = .ok (.if_icmp .eq 21, 3) := by decide +kernel
theorem dX6_readsProgram_30 : decode cX6_readsProgram 30 = .ok (.iload_n 2, 1) := by decide +kernel
theorem dX6_readsProgram_31 : decode cX6_readsProgram 31 = .ok (.bipush 106, 2) := by decide +kernel
theorem dX6_readsProgram_33 : decode cX6_readsProgram 33 = .ok (.if_icmp .eq 15, 3) := by decide +kernel
theorem dX6_readsProgram_36 : decode cX6_readsProgram 36 = .ok (.iload_n 2, 1) := by decide +kernel
theorem dX6_readsProgram_37 : decode cX6_readsProgram 37 = .ok (.bipush 120, 2) := by decide +kernel
theorem dX6_readsProgram_39 : decode cX6_readsProgram 39 = .ok (.if_icmp .eq 9, 3) := by decide +kernel
theorem dX6_readsProgram_42 : decode cX6_readsProgram 42 = .ok (.iload_n 2, 1) := by decide +kernel
theorem dX6_readsProgram_43 : decode cX6_readsProgram 43 = .ok (.bipush 102, 2) := by decide +kernel
theorem dX6_readsProgram_45 : decode cX6_readsProgram 45 = .ok (.if_icmp .ne 7, 3) := by decide +kernel
theorem dX6_readsProgram_48 : decode cX6_readsProgram 48 = .ok (.iconst 1, 1) := by decide +kernel
theorem dX6_readsProgram_49 : decode cX6_readsProgram 49 = .ok (.goto 4, 3) := by decide +kernel
theorem dX6_readsProgram_52 : decode cX6_readsProgram 52 = .ok (.iconst 0, 1) := by decide +kernel
theorem dX6_readsProgram_53 : decode cX6_readsProgram 53 = .ok (.istore_n 3, 1) := by decide +kernel
theorem dX6_readsProgram_54 : decode cX6_readsProgram 54 = .ok (.iload_n 3, 1) := by decide +kernel
theorem dX6_readsProgram_55 : decode cX6_readsProgram 55 = .ok (.ifCond .eq 14, 3) := by decide +kernel
theorem dX6_readsProgram_58 : decode cX6_readsProgram 58 = .ok (.aload_n 0, 1) := by decide +kernel
theorem dX6_readsProgram_59 : decode cX6_readsProgram 59 = .ok (.getfield 16, 3) := by decide +kernel
theorem dX6_readsProgram_62 : decode cX6_readsProgram 62 = .ok (.iload_n 1, 1) := by decide +kernel
theorem dX6_readsProgram_63 : decode cX6_readsProgram 63 = .ok (.iaload, 1) := by decide +kernel
theorem dX6_readsProgram_64 : decode cX6_readsProgram 64 = .ok (.bipush 6, 2) := by decide +kernel
theorem dX6_readsProgram_66 : decode cX6_readsProgram 66 = .ok (.if_icmp .ne 8, 3) := by decide +kernel
theorem dX6_readsProgram_69 : decode cX6_readsProgram 69 = .ok (.aload_n 0, 1) := by decide +kernel
theorem dX6_readsProgram_70 : decode cX6_readsProgram 70 = .ok (.invokevirtual 117, 3) := by decide +kernel
theorem dX6_readsProgram_73 : decode cX6_readsProgram 73 = .ok (.ireturn, 1) := by decide +kernel
theorem dX6_readsProgram_74 : decode cX6_readsProgram 74 = .ok (.iload_n 2, 1) := by decide +kernel
theorem dX6_readsProgram_75 : decode cX6_readsProgram 75 = .ok (.bipush 119, 2) := by decide +kernel
theorem dX6_readsProgram_77 : decode cX6_readsProgram 77 = .ok (.if_icmp .eq 9, 3) := by decide +kernel
theorem dX6_readsProgram_80 : decode cX6_readsProgram 80 = .ok (.iload_n 2, 1) := by decide +kernel
theorem dX6_readsProgram_81 : decode cX6_readsProgram 81 = .ok (.bipush 102, 2) := by decide +kernel
theorem dX6_readsProgram_83 : decode cX6_readsProgram 83 = .ok (.if_icmp .ne 15, 3) := by decide +kernel
theorem dX6_readsProgram_86 : decode cX6_readsProgram 86 = .ok (.aload_n 0, 1) := by decide +kernel
theorem dX6_readsProgram_87 : decode cX6_readsProgram 87 = .ok (.iconst 1, 1) := by decide +kernel
theorem dX6_readsProgram_88 : decode cX6_readsProgram 88 = .ok (.bipush 9, 2) := by decide +kernel
theorem dX6_readsProgram_90 : decode cX6_readsProgram 90 = .ok (.invokevirtual 126, 3) := by decide +kernel
theorem dX6_readsProgram_93 : decode cX6_readsProgram 93 = .ok (.ifCond .ne 5, 3) := by decide +kernel
theorem dX6_readsProgram_96 : decode cX6_readsProgram 96 = .ok (.iconst 0, 1) := by decide +kernel
theorem dX6_readsProgram_97 : decode cX6_readsProgram 97 = .ok (.ireturn, 1) := by decide +kernel
theorem dX6_readsProgram_98 : decode cX6_readsProgram 98 = .ok (.bipush 12, 2) := by decide +kernel
theorem dX6_readsProgram_100 : decode cX6_readsProgram 100 = .ok (.iload_n 1, 1) := by decide +kernel
theorem dX6_readsProgram_101 : decode cX6_readsProgram 101 = .ok (.imul, 1) := by decide +kernel
theorem dX6_readsProgram_102 : decode cX6_readsProgram 102 = .ok (.iconst 2, 1) := by decide +kernel
theorem dX6_readsProgram_103 : decode cX6_readsProgram 103 = .ok (.aload_n 0, 1) := by decide +kernel
theorem dX6_readsProgram_104 : decode cX6_readsProgram 104 = .ok (.getfield 16, 3) := by decide +kernel
theorem dX6_readsProgram_107 : decode cX6_readsProgram 107 = .ok (.iload_n 1, 1) := by decide +kernel
theorem dX6_readsProgram_108 : decode cX6_readsProgram 108 = .ok (.iaload, 1) := by decide +kernel
theorem dX6_readsProgram_109 : decode cX6_readsProgram 109 = .ok (.imul, 1) := by decide +kernel
theorem dX6_readsProgram_110 : decode cX6_readsProgram 110 = .ok (.iadd, 1) := by decide +kernel
theorem dX6_readsProgram_111 : decode cX6_readsProgram 111 = .ok (.istore 4, 2) := by decide +kernel
theorem dX6_readsProgram_113 : decode cX6_readsProgram 113 = .ok (.aload_n 0, 1) := by decide +kernel
theorem dX6_readsProgram_114 : decode cX6_readsProgram 114 = .ok (.getfield 19, 3) := by decide +kernel
theorem dX6_readsProgram_117 : decode cX6_readsProgram 117 = .ok (.iload 4, 2) := by decide +kernel
theorem dX6_readsProgram_119 : decode cX6_readsProgram 119 = .ok (.iload_n 2, 1) := by decide +kernel
theorem dX6_readsProgram_120 : decode cX6_readsProgram 120 = .ok (.iastore, 1) := by decide +kernel
theorem dX6_readsProgram_121 : decode cX6_readsProgram 121 = .ok (.aload_n 0, 1) := by decide +kernel
theorem dX6_readsProgram_122 : decode cX6_readsProgram 122 = .ok (.getfield 19, 3) := by decide +kernel
theorem dX6_readsProgram_125 : decode cX6_readsProgram 125 = .ok (.iload 4, 2) := by decide +kernel
theorem dX6_readsProgram_127 : decode cX6_readsProgram 127 = .ok (.iconst 1, 1) := by decide +kernel
theorem dX6_readsProgram_128 : decode cX6_readsProgram 128 = .ok (.iadd, 1) := by decide +kernel
theorem dX6_readsProgram_129 : decode cX6_readsProgram 129 = .ok (.iload_n 2, 1) := by decide +kernel
theorem dX6_readsProgram_130 : decode cX6_readsProgram 130 = .ok (.bipush 119, 2) := by decide +kernel
theorem dX6_readsProgram_132 : decode cX6_readsProgram 132 = .ok (.if_icmp .eq 9, 3) := by decide +kernel
theorem dX6_readsProgram_135 : decode cX6_readsProgram 135 = .ok (.iload_n 2, 1) := by decide +kernel
theorem dX6_readsProgram_136 : decode cX6_readsProgram 136 = .ok (.bipush 102, 2) := by decide +kernel
theorem dX6_readsProgram_138 : decode cX6_readsProgram 138 = .ok (.if_icmp .ne 10, 3) := by decide +kernel
theorem dX6_readsProgram_141 : decode cX6_readsProgram 141 = .ok (.aload_n 0, 1) := by decide +kernel
theorem dX6_readsProgram_142 : decode cX6_readsProgram 142 = .ok (.getfield 104, 3) := by decide +kernel
theorem dX6_readsProgram_145 : decode cX6_readsProgram 145 = .ok (.goto 4, 3) := by decide +kernel
theorem dX6_readsProgram_148 : decode cX6_readsProgram 148 = .ok (.iconst 0, 1) := by decide +kernel
theorem dX6_readsProgram_149 : decode cX6_readsProgram 149 = .ok (.iastore, 1) := by decide +kernel
theorem dX6_readsProgram_150 : decode cX6_readsProgram 150 = .ok (.aload_n 0, 1) := by decide +kernel
theorem dX6_readsProgram_151 : decode cX6_readsProgram 151 = .ok (.getfield 16, 3) := by decide +kernel
theorem dX6_readsProgram_154 : decode cX6_readsProgram 154 = .ok (.iload_n 1, 1) := by decide +kernel
theorem dX6_readsProgram_155 : decode cX6_readsProgram 155 = .ok (.dup2, 1) := by decide +kernel
theorem dX6_readsProgram_156 : decode cX6_readsProgram 156 = .ok (.iaload, 1) := by decide +kernel
theorem dX6_readsProgram_157 : decode cX6_readsProgram 157 = .ok (.iconst 1, 1) := by decide +kernel
theorem dX6_readsProgram_158 : decode cX6_readsProgram 158 = .ok (.iadd, 1) := by decide +kernel
theorem dX6_readsProgram_159 : decode cX6_readsProgram 159 = .ok (.iastore, 1) := by decide +kernel
theorem dX6_readsProgram_160 : decode cX6_readsProgram 160 = .ok (.aload_n 0, 1) := by decide +kernel
theorem dX6_readsProgram_161 : decode cX6_readsProgram 161 = .ok (.invokevirtual 114, 3) := by decide +kernel
theorem dX6_readsProgram_164 : decode cX6_readsProgram 164 = .ok (.goto (-160), 3) := by decide +kernel
theorem dX6_readsProgram_167 : decode cX6_readsProgram 167 = .ok (.iconst 1, 1) := by decide +kernel
theorem dX6_readsProgram_168 : decode cX6_readsProgram 168 = .ok (.ireturn, 1) := by decide +kernel
theorem dX6_readsTask_0 : decode cX6_readsTask 0 = .ok (.aload_n 0, 1) := by decide +kernel
theorem dX6_readsTask_1 : decode cX6_readsTask 1 = .ok (.getfield 120, 3) := by decide +kernel
theorem dX6_readsTask_4 : decode cX6_readsTask 4 = .ok (.bipush 8, 2) := by decide +kernel
theorem dX6_readsTask_6 : decode cX6_readsTask 6 = .ok (.if_icmp .ne 8, 3) := by decide +kernel
theorem dX6_readsTask_9 : decode cX6_readsTask 9 = .ok (.aload_n 0, 1) := by decide +kernel
theorem dX6_readsTask_10 : decode cX6_readsTask 10 = .ok (.invokevirtual 117, 3) := by decide +kernel
theorem dX6_readsTask_13 : decode cX6_readsTask 13 = .ok (.ireturn, 1) := by decide +kernel
theorem dX6_readsTask_14 : decode cX6_readsTask 14 = .ok (.aload_n 0, 1) := by decide +kernel
theorem dX6_readsTask_15 : decode cX6_readsTask 15 = .ok (.iconst 0, 1) := by decide +kernel
theorem dX6_readsTask_16 : decode cX6_readsTask 16 = .ok (.aload_n 0, 1) := by decide +kernel
theorem dX6_readsTask_17 : decode cX6_readsTask 17 = .ok (.getfield 120, 3) := by decide +kernel
theorem dX6_readsTask_20 : decode cX6_readsTask 20 = .ok (.iconst 1, 1) := by decide +kernel
theorem dX6_readsTask_21 : decode cX6_readsTask 21 = .ok (.isub, 1) := by decide +kernel
theorem dX6_readsTask_22 : decode cX6_readsTask 22 = .ok (.invokevirtual 126, 3) := by decide +kernel
theorem dX6_readsTask_25 : decode cX6_readsTask 25 = .ok (.ifCond .ne 5, 3) := by decide +kernel
theorem dX6_readsTask_28 : decode cX6_readsTask 28 = .ok (.iconst 0, 1) := by decide +kernel
theorem dX6_readsTask_29 : decode cX6_readsTask 29 = .ok (.ireturn, 1) := by decide +kernel
theorem dX6_readsTask_30 : decode cX6_readsTask 30 = .ok (.aload_n 0, 1) := by decide +kernel
theorem dX6_readsTask_31 : decode cX6_readsTask 31 = .ok (.getfield 13, 3) := by decide +kernel
theorem dX6_readsTask_34 : decode cX6_readsTask 34 = .ok (.aload_n 0, 1) := by decide +kernel
theorem dX6_readsTask_35 : decode cX6_readsTask 35 = .ok (.getfield 120, 3) := by decide +kernel
theorem dX6_readsTask_38 : decode cX6_readsTask 38 = .ok (.aload_n 0, 1) := by decide +kernel
theorem dX6_readsTask_39 : decode cX6_readsTask 39 = .ok (.getfield 104, 3) := by decide +kernel
theorem dX6_readsTask_42 : decode cX6_readsTask 42 = .ok (.iastore, 1) := by decide +kernel
theorem dX6_readsTask_43 : decode cX6_readsTask 43 = .ok (.aload_n 0, 1) := by decide +kernel
theorem dX6_readsTask_44 : decode cX6_readsTask 44 = .ok (.dup, 1) := by decide +kernel
theorem dX6_readsTask_45 : decode cX6_readsTask 45 = .ok (.getfield 120, 3) := by decide +kernel
theorem dX6_readsTask_48 : decode cX6_readsTask 48 = .ok (.iconst 1, 1) := by decide +kernel
theorem dX6_readsTask_49 : decode cX6_readsTask 49 = .ok (.iadd, 1) := by decide +kernel
theorem dX6_readsTask_50 : decode cX6_readsTask 50 = .ok (.putfield 120, 3) := by decide +kernel
theorem dX6_readsTask_53 : decode cX6_readsTask 53 = .ok (.aload_n 0, 1) := by decide +kernel
theorem dX6_readsTask_54 : decode cX6_readsTask 54 = .ok (.aload_n 0, 1) := by decide +kernel
theorem dX6_readsTask_55 : decode cX6_readsTask 55 = .ok (.getfield 120, 3) := by decide +kernel
theorem dX6_readsTask_58 : decode cX6_readsTask 58 = .ok (.iconst 1, 1) := by decide +kernel
theorem dX6_readsTask_59 : decode cX6_readsTask 59 = .ok (.isub, 1) := by decide +kernel
theorem dX6_readsTask_60 : decode cX6_readsTask 60 = .ok (.invokevirtual 130, 3) := by decide +kernel
theorem dX6_readsTask_63 : decode cX6_readsTask 63 = .ok (.ireturn, 1) := by decide +kernel
theorem dX6_readsOf_0 : decode cX6_readsOf 0 = .ok (.aload_n 0, 1) := by decide +kernel
theorem dX6_readsOf_1 : decode cX6_readsOf 1 = .ok (.iconst 0, 1) := by decide +kernel
theorem dX6_readsOf_2 : decode cX6_readsOf 2 = .ok (.aload_n 0, 1) := by decide +kernel
theorem dX6_readsOf_3 : decode cX6_readsOf 3 = .ok (.getfield 120, 3) := by decide +kernel
theorem dX6_readsOf_6 : decode cX6_readsOf 6 = .ok (.iconst 1, 1) := by decide +kernel
theorem dX6_readsOf_7 : decode cX6_readsOf 7 = .ok (.isub, 1) := by decide +kernel
theorem dX6_readsOf_8 : decode cX6_readsOf 8 = .ok (.invokevirtual 126, 3) := by decide +kernel
theorem dX6_readsOf_11 : decode cX6_readsOf 11 = .ok (.ifCond .ne 5, 3) := by decide +kernel
theorem dX6_readsOf_14 : decode cX6_readsOf 14 = .ok (.iconst 0, 1) := by decide +kernel
theorem dX6_readsOf_15 : decode cX6_readsOf 15 = .ok (.ireturn, 1) := by decide +kernel
theorem dX6_readsOf_16 : decode cX6_readsOf 16 = .ok (.aload_n 0, 1) := by decide +kernel
theorem dX6_readsOf_17 : decode cX6_readsOf 17 = .ok (.getfield 104, 3) := by decide +kernel
theorem dX6_readsOf_20 : decode cX6_readsOf 20 = .ok (.istore_n 2, 1) := by decide +kernel
theorem dX6_readsOf_21 : decode cX6_readsOf 21 = .ok (.iload_n 1, 1) := by decide +kernel
theorem dX6_readsOf_22 : decode cX6_readsOf 22 = .ok (.bipush 103, 2) := by decide +kernel
theorem dX6_readsOf_24 : decode cX6_readsOf 24 = .ok (.if_icmp .ne 37, 3) := by decide +kernel
theorem dX6_readsOf_27 : decode cX6_readsOf 27 = .ok (.aload_n 0, 1) := by decide +kernel
theorem dX6_readsOf_28 : decode cX6_readsOf 28 = .ok (.getfield 123, 3) := by decide +kernel
theorem dX6_readsOf_31 : decode cX6_readsOf 31 = .ok (.iload_n 2, 1) := by decide +kernel
theorem dX6_readsOf_32 : decode cX6_readsOf 32 = .ok (.ishr, 1) := by decide +kernel
theorem dX6_readsOf_33 : decode cX6_readsOf 33 = .ok (.iconst 1, 1) := by decide +kernel
theorem dX6_readsOf_34 : decode cX6_readsOf 34 = .ok (.iand, 1) := by decide +kernel
theorem dX6_readsOf_35 : decode cX6_readsOf 35 = .ok (.iconst 1, 1) := by decide +kernel
theorem dX6_readsOf_36 : decode cX6_readsOf 36 = .ok (.if_icmp .ne 8, 3) := by decide +kernel
theorem dX6_readsOf_39 : decode cX6_readsOf 39 = .ok (.aload_n 0, 1) := by decide +kernel
theorem dX6_readsOf_40 : decode cX6_readsOf 40 = .ok (.invokevirtual 117, 3) := by decide +kernel
theorem dX6_readsOf_43 : decode cX6_readsOf 43 = .ok (.ireturn, 1) := by decide +kernel
theorem dX6_readsOf_44 : decode cX6_readsOf 44 = .ok (.aload_n 0, 1) := by decide +kernel
theorem dX6_readsOf_45 : decode cX6_readsOf 45 = .ok (.dup, 1) := by decide +kernel
theorem dX6_readsOf_46 : decode cX6_readsOf 46 = .ok (.getfield 123, 3) := by decide +kernel
theorem dX6_readsOf_49 : decode cX6_readsOf 49 = .ok (.iconst 1, 1) := by decide +kernel
theorem dX6_readsOf_50 : decode cX6_readsOf 50 = .ok (.iload_n 2, 1) := by decide +kernel
theorem dX6_readsOf_51 : decode cX6_readsOf 51 = .ok (.ishl, 1) := by decide +kernel
theorem dX6_readsOf_52 : decode cX6_readsOf 52 = .ok (.ior, 1) := by decide +kernel
theorem dX6_readsOf_53 : decode cX6_readsOf 53 = .ok (.putfield 123, 3) := by decide +kernel
theorem dX6_readsOf_56 : decode cX6_readsOf 56 = .ok (.aload_n 0, 1) := by decide +kernel
theorem dX6_readsOf_57 : decode cX6_readsOf 57 = .ok (.invokevirtual 133, 3) := by decide +kernel
theorem dX6_readsOf_60 : decode cX6_readsOf 60 = .ok (.ireturn, 1) := by decide +kernel
theorem dX6_readsOf_61 : decode cX6_readsOf 61 = .ok (.aload_n 0, 1) := by decide +kernel
theorem dX6_readsOf_62 : decode cX6_readsOf 62 = .ok (.iload_n 1, 1) := by decide +kernel
theorem dX6_readsOf_63 : decode cX6_readsOf 63 = .ok (.bipush 100, 2) := by decide +kernel
theorem dX6_readsOf_65 : decode cX6_readsOf 65 = .ok (.if_icmp .ne 7, 3) := by decide +kernel
theorem dX6_readsOf_68 : decode cX6_readsOf 68 = .ok (.iconst 1, 1) := by decide +kernel
theorem dX6_readsOf_69 : decode cX6_readsOf 69 = .ok (.goto 4, 3) := by decide +kernel
theorem dX6_readsOf_72 : decode cX6_readsOf 72 = .ok (.iconst 0, 1) := by decide +kernel
theorem dX6_readsOf_73 : decode cX6_readsOf 73 = .ok (.iload_n 1, 1) := by decide +kernel
theorem dX6_readsOf_74 : decode cX6_readsOf 74 = .ok (.bipush 100, 2) := by decide +kernel
theorem dX6_readsOf_76 : decode cX6_readsOf 76 = .ok (.if_icmp .ne 8, 3) := by decide +kernel
theorem dX6_readsOf_79 : decode cX6_readsOf 79 = .ok (.bipush 60, 2) := by decide +kernel
theorem dX6_readsOf_81 : decode cX6_readsOf 81 = .ok (.goto 15, 3) := by decide +kernel
theorem dX6_readsOf_84 : decode cX6_readsOf 84 = .ok (.iload_n 1, 1) := by decide +kernel
theorem dX6_readsOf_85 : decode cX6_readsOf 85 = .ok (.bipush 115, 2) := by decide +kernel
theorem dX6_readsOf_87 : decode cX6_readsOf 87 = .ok (.if_icmp .ne 8, 3) := by decide +kernel
theorem dX6_readsOf_90 : decode cX6_readsOf 90 = .ok (.bipush 6, 2) := by decide +kernel
theorem dX6_readsOf_92 : decode cX6_readsOf 92 = .ok (.goto 4, 3) := by decide +kernel
theorem dX6_readsOf_95 : decode cX6_readsOf 95 = .ok (.iconst 5, 1) := by decide +kernel
theorem dX6_readsOf_96 : decode cX6_readsOf 96 = .ok (.invokevirtual 126, 3) := by decide +kernel
theorem dX6_readsOf_99 : decode cX6_readsOf 99 = .ok (.ifCond .ne 5, 3) := by decide +kernel
theorem dX6_readsOf_102 : decode cX6_readsOf 102 = .ok (.iconst 0, 1) := by decide +kernel
theorem dX6_readsOf_103 : decode cX6_readsOf 103 = .ok (.ireturn, 1) := by decide +kernel
theorem dX6_readsOf_104 : decode cX6_readsOf 104 = .ok (.aload_n 0, 1) := by decide +kernel
theorem dX6_readsOf_105 : decode cX6_readsOf 105 = .ok (.getfield 22, 3) := by decide +kernel
theorem dX6_readsOf_108 : decode cX6_readsOf 108 = .ok (.iload_n 2, 1) := by decide +kernel
theorem dX6_readsOf_109 : decode cX6_readsOf 109 = .ok (.iload_n 1, 1) := by decide +kernel
theorem dX6_readsOf_110 : decode cX6_readsOf 110 = .ok (.bipush 100, 2) := by decide +kernel
theorem dX6_readsOf_112 : decode cX6_readsOf 112 = .ok (.if_icmp .ne 10, 3) := by decide +kernel
theorem dX6_readsOf_115 : decode cX6_readsOf 115 = .ok (.aload_n 0, 1) := by decide +kernel
theorem dX6_readsOf_116 : decode cX6_readsOf 116 = .ok (.getfield 104, 3) := by decide +kernel
theorem dX6_readsOf_119 : decode cX6_readsOf 119 = .ok (.goto 9, 3) := by decide +kernel
theorem dX6_readsOf_122 : decode cX6_readsOf 122 = .ok (.aload_n 0, 1) := by decide +kernel
theorem dX6_readsOf_123 : decode cX6_readsOf 123 = .ok (.getfield 22, 3) := by decide +kernel
theorem dX6_readsOf_126 : decode cX6_readsOf 126 = .ok (.iload_n 2, 1) := by decide +kernel
theorem dX6_readsOf_127 : decode cX6_readsOf 127 = .ok (.iaload, 1) := by decide +kernel
theorem dX6_readsOf_128 : decode cX6_readsOf 128 = .ok (.iastore, 1) := by decide +kernel
theorem dX6_readsOf_129 : decode cX6_readsOf 129 = .ok (.aload_n 0, 1) := by decide +kernel
theorem dX6_readsOf_130 : decode cX6_readsOf 130 = .ok (.getfield 25, 3) := by decide +kernel
theorem dX6_readsOf_133 : decode cX6_readsOf 133 = .ok (.iload_n 2, 1) := by decide +kernel
theorem dX6_readsOf_134 : decode cX6_readsOf 134 = .ok (.iload_n 1, 1) := by decide +kernel
theorem dX6_readsOf_135 : decode cX6_readsOf 135 = .ok (.bipush 115, 2) := by decide +kernel
theorem dX6_readsOf_137 : decode cX6_readsOf 137 = .ok (.if_icmp .ne 10, 3) := by decide +kernel
theorem dX6_readsOf_140 : decode cX6_readsOf 140 = .ok (.aload_n 0, 1) := by decide +kernel
theorem dX6_readsOf_141 : decode cX6_readsOf 141 = .ok (.getfield 104, 3) := by decide +kernel
theorem dX6_readsOf_144 : decode cX6_readsOf 144 = .ok (.goto 9, 3) := by decide +kernel
theorem dX6_readsOf_147 : decode cX6_readsOf 147 = .ok (.aload_n 0, 1) := by decide +kernel
theorem dX6_readsOf_148 : decode cX6_readsOf 148 = .ok (.getfield 25, 3) := by decide +kernel
theorem dX6_readsOf_151 : decode cX6_readsOf 151 = .ok (.iload_n 2, 1) := by decide +kernel
theorem dX6_readsOf_152 : decode cX6_readsOf 152 = .ok (.iaload, 1) := by decide +kernel
theorem dX6_readsOf_153 : decode cX6_readsOf 153 = .ok (.iastore, 1) := by decide +kernel
theorem dX6_readsOf_154 : decode cX6_readsOf 154 = .ok (.aload_n 0, 1) := by decide +kernel
theorem dX6_readsOf_155 : decode cX6_readsOf 155 = .ok (.getfield 28, 3) := by decide +kernel
theorem dX6_readsOf_158 : decode cX6_readsOf 158 = .ok (.iload_n 2, 1) := by decide +kernel
theorem dX6_readsOf_159 : decode cX6_readsOf 159 = .ok (.iload_n 1, 1) := by decide +kernel
theorem dX6_readsOf_160 : decode cX6_readsOf 160 = .ok (.bipush 99, 2) := by decide +kernel
theorem dX6_readsOf_162 : decode cX6_readsOf 162 = .ok (.if_icmp .ne 10, 3) := by decide +kernel
theorem dX6_readsOf_165 : decode cX6_readsOf 165 = .ok (.aload_n 0, 1) := by decide +kernel
theorem dX6_readsOf_166 : decode cX6_readsOf 166 = .ok (.getfield 104, 3) := by decide +kernel
theorem dX6_readsOf_169 : decode cX6_readsOf 169 = .ok (.goto 9, 3) := by decide +kernel
theorem dX6_readsOf_172 : decode cX6_readsOf 172 = .ok (.aload_n 0, 1) := by decide +kernel
theorem dX6_readsOf_173 : decode cX6_readsOf 173 = .ok (.getfield 28, 3) := by decide +kernel
theorem dX6_readsOf_176 : decode cX6_readsOf 176 = .ok (.iload_n 2, 1) := by decide +kernel
theorem dX6_readsOf_177 : decode cX6_readsOf 177 = .ok (.iaload, 1) := by decide +kernel
theorem dX6_readsOf_178 : decode cX6_readsOf 178 = .ok (.iastore, 1) := by decide +kernel
theorem dX6_readsOf_179 : decode cX6_readsOf 179 = .ok (.aload_n 0, 1) := by decide +kernel
theorem dX6_readsOf_180 : decode cX6_readsOf 180 = .ok (.invokevirtual 133, 3) := by decide +kernel
theorem dX6_readsOf_183 : decode cX6_readsOf 183 = .ok (.ireturn, 1) := by decide +kernel
theorem dX6_readsItem_0 : decode cX6_readsItem 0 = .ok (.aload_n 0, 1) := by decide +kernel
theorem dX6_readsItem_1 : decode cX6_readsItem 1 = .ok (.invokevirtual 114, 3) := by decide +kernel
theorem dX6_readsItem_4 : decode cX6_readsItem 4 = .ok (.aload_n 0, 1) := by decide +kernel
theorem dX6_readsItem_5 : decode cX6_readsItem 5 = .ok (.getfield 97, 3) := by decide +kernel
theorem dX6_readsItem_8 : decode cX6_readsItem 8 = .ok (.istore_n 1, 1) := by decide +kernel
theorem dX6_readsItem_9 : decode cX6_readsItem 9 = .ok (.iload_n 1, 1) := by decide +kernel
theorem dX6_readsItem_10 : decode cX6_readsItem 10 = .ok (.bipush 114, 2) := by decide +kernel
theorem dX6_readsItem_12 : decode cX6_readsItem 12 = .ok (.if_icmp .ne 26, 3) := by decide +kernel
theorem dX6_readsItem_15 : decode cX6_readsItem 15 = .ok (.aload_n 0, 1) := by decide +kernel
theorem dX6_readsItem_16 : decode cX6_readsItem 16 = .ok (.getfield 120, 3) := by decide +kernel
theorem dX6_readsItem_19 : decode cX6_readsItem 19 = .ok (.ifCond .le 8, 3) := by decide +kernel
theorem dX6_readsItem_22 : decode cX6_readsItem 22 = .ok (.aload_n 0, 1) := by decide +kernel
theorem dX6_readsItem_23 : decode cX6_readsItem 23 = .ok (.invokevirtual 117, 3) := by decide +kernel
theorem dX6_readsItem_26 : decode cX6_readsItem 26 = .ok (.ireturn, 1) := by decide +kernel
theorem dX6_readsItem_27 : decode cX6_readsItem 27 = .ok (.aload_n 0, 1) := by decide +kernel
theorem dX6_readsItem_28 : decode cX6_readsItem 28 = .ok (.iconst 1, 1) := by decide +kernel
theorem dX6_readsItem_29 : decode cX6_readsItem 29 = .ok (.putfield 120, 3) := by decide +kernel
theorem dX6_readsItem_32 : decode cX6_readsItem 32 = .ok (.aload_n 0, 1) := by decide +kernel
theorem dX6_readsItem_33 : decode cX6_readsItem 33 = .ok (.iconst 0, 1) := by decide +kernel
theorem dX6_readsItem_34 : decode cX6_readsItem 34 = .ok (.invokevirtual 130, 3) := by decide +kernel
theorem dX6_readsItem_37 : decode cX6_readsItem 37 = .ok (.ireturn, 1) := by decide +kernel
theorem dX6_readsItem_38 : decode cX6_readsItem 38 = .ok (.aload_n 0, 1) := by decide +kernel
theorem dX6_readsItem_39 : decode cX6_readsItem 39 = .ok (.getfield 120, 3) := by decide +kernel
theorem dX6_readsItem_42 : decode cX6_readsItem 42 = .ok (.ifCond .ne 8, 3) := by decide +kernel
theorem dX6_readsItem_45 : decode cX6_readsItem 45 = .ok (.aload_n 0, 1) := by decide +kernel
theorem dX6_readsItem_46 : decode cX6_readsItem 46 = .ok (.invokevirtual 117, 3) := by decide +kernel
theorem dX6_readsItem_49 : decode cX6_readsItem 49 = .ok (.ireturn, 1) := by decide +kernel
theorem dX6_readsItem_50 : decode cX6_readsItem 50 = .ok (.iload_n 1, 1) := by decide +kernel
theorem dX6_readsItem_51 : decode cX6_readsItem 51 = .ok (.lookupswitch 60 #[(99, 54), (100, 54), (103, 54), (115, 54), (116, 49)], 49) := by decide +kernel
theorem dX6_readsItem_100 : decode cX6_readsItem 100 = .ok (.aload_n 0, 1) := by decide +kernel
theorem dX6_readsItem_101 : decode cX6_readsItem 101 = .ok (.invokevirtual 136, 3) := by decide +kernel
theorem dX6_readsItem_104 : decode cX6_readsItem 104 = .ok (.ireturn, 1) := by decide +kernel
theorem dX6_readsItem_105 : decode cX6_readsItem 105 = .ok (.aload_n 0, 1) := by decide +kernel
theorem dX6_readsItem_106 : decode cX6_readsItem 106 = .ok (.iload_n 1, 1) := by decide +kernel
theorem dX6_readsItem_107 : decode cX6_readsItem 107 = .ok (.invokevirtual 139, 3) := by decide +kernel
theorem dX6_readsItem_110 : decode cX6_readsItem 110 = .ok (.ireturn, 1) := by decide +kernel
theorem dX6_readsItem_111 : decode cX6_readsItem 111 = .ok (.aload_n 0, 1) := by decide +kernel
theorem dX6_readsItem_112 : decode cX6_readsItem 112 = .ok (.invokevirtual 117, 3) := by decide +kernel
theorem dX6_readsItem_115 : decode cX6_readsItem 115 = .ok (.ireturn, 1) := by decide +kernel
theorem dX6_tellsAll_0 : decode cX6_tellsAll 0 = .ok (.aload_n 0, 1) := by decide +kernel
theorem dX6_tellsAll_1 : decode cX6_tellsAll 1 = .ok (.aload_n 0, 1) := by decide +kernel
theorem dX6_tellsAll_2 : decode cX6_tellsAll 2 = .ok (.getfield 120, 3) := by decide +kernel
theorem dX6_tellsAll_5 : decode cX6_tellsAll 5 = .ok (.ifCond .le 10, 3) := by decide +kernel
theorem dX6_tellsAll_8 : decode cX6_tellsAll 8 = .ok (.aload_n 0, 1) := by decide +kernel
theorem dX6_tellsAll_9 : decode cX6_tellsAll 9 = .ok (.getfield 120, 3) := by decide +kernel
theorem dX6_tellsAll_12 : decode cX6_tellsAll 12 = .ok (.goto 4, 3) := by decide +kernel
theorem dX6_tellsAll_15 : decode cX6_tellsAll 15 = .ok (.iconst 1, 1) := by decide +kernel
theorem dX6_tellsAll_16 : decode cX6_tellsAll 16 = .ok (.putfield 142, 3) := by decide +kernel
theorem dX6_tellsAll_19 : decode cX6_tellsAll 19 = .ok (.aload_n 0, 1) := by decide +kernel
theorem dX6_tellsAll_20 : decode cX6_tellsAll 20 = .ok (.aload_n 0, 1) := by decide +kernel
theorem dX6_tellsAll_21 : decode cX6_tellsAll 21 = .ok (.getfield 123, 3) := by decide +kernel
theorem dX6_tellsAll_24 : decode cX6_tellsAll 24 = .ok (.putfield 145, 3) := by decide +kernel
theorem dX6_tellsAll_27 : decode cX6_tellsAll 27 = .ok (.iconst 0, 1) := by decide +kernel
theorem dX6_tellsAll_28 : decode cX6_tellsAll 28 = .ok (.istore_n 1, 1) := by decide +kernel
theorem dX6_tellsAll_29 : decode cX6_tellsAll 29 = .ok (.iload_n 1, 1) := by decide +kernel
theorem dX6_tellsAll_30 : decode cX6_tellsAll 30 = .ok (.bipush 8, 2) := by decide +kernel
theorem dX6_tellsAll_32 : decode cX6_tellsAll 32 = .ok (.if_icmp .ge 103, 3) := by decide +kernel
theorem dX6_tellsAll_35 : decode cX6_tellsAll 35 = .ok (.aload_n 0, 1) := by decide +kernel
theorem dX6_tellsAll_36 : decode cX6_tellsAll 36 = .ok (.getfield 31, 3) := by decide +kernel
theorem dX6_tellsAll_39 : decode cX6_tellsAll 39 = .ok (.iload_n 1, 1) := by decide +kernel
theorem dX6_tellsAll_40 : decode cX6_tellsAll 40 = .ok (.aload_n 0, 1) := by decide +kernel
theorem dX6_tellsAll_41 : decode cX6_tellsAll 41 = .ok (.getfield 13, 3) := by decide +kernel
theorem dX6_tellsAll_44 : decode cX6_tellsAll 44 = .ok (.iload_n 1, 1) := by decide +kernel
theorem dX6_tellsAll_45 : decode cX6_tellsAll 45 = .ok (.iaload, 1) := by decide +kernel
theorem dX6_tellsAll_46 : decode cX6_tellsAll 46 = .ok (.iastore, 1) := by decide +kernel
theorem dX6_tellsAll_47 : decode cX6_tellsAll 47 = .ok (.aload_n 0, 1) := by decide +kernel
theorem dX6_tellsAll_48 : decode cX6_tellsAll 48 = .ok (.getfield 34, 3) := by decide +kernel
theorem dX6_tellsAll_51 : decode cX6_tellsAll 51 = .ok (.iload_n 1, 1) := by decide +kernel
theorem dX6_tellsAll_52 : decode cX6_tellsAll 52 = .ok (.aload_n 0, 1) := by decide +kernel
theorem dX6_tellsAll_53 : decode cX6_tellsAll 53 = .ok (.getfield 16, 3) := by decide +kernel
theorem dX6_tellsAll_56 : decode cX6_tellsAll 56 = .ok (.iload_n 1, 1) := by decide +kernel
theorem dX6_tellsAll_57 : decode cX6_tellsAll 57 = .ok (.iaload, 1) := by decide +kernel
theorem dX6_tellsAll_58 : decode cX6_tellsAll 58 = .ok (.iastore, 1) := by decide +kernel
theorem dX6_tellsAll_59 : decode cX6_tellsAll 59 = .ok (.aload_n 0, 1) := by decide +kernel
theorem dX6_tellsAll_60 : decode cX6_tellsAll 60 = .ok (.getfield 40, 3) := by decide +kernel
theorem dX6_tellsAll_63 : decode cX6_tellsAll 63 = .ok (.iload_n 1, 1) := by decide +kernel
theorem dX6_tellsAll_64 : decode cX6_tellsAll 64 = .ok (.aload_n 0, 1) := by decide +kernel
theorem dX6_tellsAll_65 : decode cX6_tellsAll 65 = .ok (.getfield 22, 3) := by decide +kernel
theorem dX6_tellsAll_68 : decode cX6_tellsAll 68 = .ok (.iload_n 1, 1) := by decide +kernel
theorem dX6_tellsAll_69 : decode cX6_tellsAll 69 = .ok (.iaload, 1) := by decide +kernel
theorem dX6_tellsAll_70 : decode cX6_tellsAll 70 = .ok (.iastore, 1) := by decide +kernel
theorem dX6_tellsAll_71 : decode cX6_tellsAll 71 = .ok (.aload_n 0, 1) := by decide +kernel
theorem dX6_tellsAll_72 : decode cX6_tellsAll 72 = .ok (.getfield 43, 3) := by decide +kernel
theorem dX6_tellsAll_75 : decode cX6_tellsAll 75 = .ok (.iload_n 1, 1) := by decide +kernel
theorem dX6_tellsAll_76 : decode cX6_tellsAll 76 = .ok (.aload_n 0, 1) := by decide +kernel
theorem dX6_tellsAll_77 : decode cX6_tellsAll 77 = .ok (.getfield 25, 3) := by decide +kernel
theorem dX6_tellsAll_80 : decode cX6_tellsAll 80 = .ok (.iload_n 1, 1) := by decide +kernel
theorem dX6_tellsAll_81 : decode cX6_tellsAll 81 = .ok (.iaload, 1) := by decide +kernel
theorem dX6_tellsAll_82 : decode cX6_tellsAll 82 = .ok (.iastore, 1) := by decide +kernel
theorem dX6_tellsAll_83 : decode cX6_tellsAll 83 = .ok (.aload_n 0, 1) := by decide +kernel
theorem dX6_tellsAll_84 : decode cX6_tellsAll 84 = .ok (.getfield 46, 3) := by decide +kernel
theorem dX6_tellsAll_87 : decode cX6_tellsAll 87 = .ok (.iload_n 1, 1) := by decide +kernel
theorem dX6_tellsAll_88 : decode cX6_tellsAll 88 = .ok (.aload_n 0, 1) := by decide +kernel
theorem dX6_tellsAll_89 : decode cX6_tellsAll 89 = .ok (.getfield 28, 3) := by decide +kernel
theorem dX6_tellsAll_92 : decode cX6_tellsAll 92 = .ok (.iload_n 1, 1) := by decide +kernel
theorem dX6_tellsAll_93 : decode cX6_tellsAll 93 = .ok (.iaload, 1) := by decide +kernel
theorem dX6_tellsAll_94 : decode cX6_tellsAll 94 = .ok (.iastore, 1) := by decide +kernel
theorem dX6_tellsAll_95 : decode cX6_tellsAll 95 = .ok (.bipush 12, 2) := by decide +kernel
theorem dX6_tellsAll_97 : decode cX6_tellsAll 97 = .ok (.iload_n 1, 1) := by decide +kernel
theorem dX6_tellsAll_98 : decode cX6_tellsAll 98 = .ok (.imul, 1) := by decide +kernel
theorem dX6_tellsAll_99 : decode cX6_tellsAll 99 = .ok (.istore_n 2, 1) := by decide +kernel
theorem dX6_tellsAll_100 : decode cX6_tellsAll 100 = .ok (.iload_n 2, 1) := by decide +kernel
theorem dX6_tellsAll_101 : decode cX6_tellsAll 101 = .ok (.bipush 12, 2) := by decide +kernel
theorem dX6_tellsAll_103 : decode cX6_tellsAll 103 = .ok (.iload_n 1, 1) := by decide +kernel
theorem dX6_tellsAll_104 : decode cX6_tellsAll 104 = .ok (.imul, 1) := by decide +kernel
theorem dX6_tellsAll_105 : decode cX6_tellsAll 105 = .ok (.bipush 12, 2) := by decide +kernel
theorem dX6_tellsAll_107 : decode cX6_tellsAll 107 = .ok (.iadd, 1) := by decide +kernel
theorem dX6_tellsAll_108 : decode cX6_tellsAll 108 = .ok (.if_icmp .ge 21, 3) := by decide +kernel
theorem dX6_tellsAll_111 : decode cX6_tellsAll 111 = .ok (.aload_n 0, 1) := by decide +kernel
theorem dX6_tellsAll_112 : decode cX6_tellsAll 112 = .ok (.getfield 37, 3) := by decide +kernel
theorem dX6_tellsAll_115 : decode cX6_tellsAll 115 = .ok (.iload_n 2, 1) := by decide +kernel
theorem dX6_tellsAll_116 : decode cX6_tellsAll 116 = .ok (.aload_n 0, 1) := by decide +kernel
theorem dX6_tellsAll_117 : decode cX6_tellsAll 117 = .ok (.getfield 19, 3) := by decide +kernel
theorem dX6_tellsAll_120 : decode cX6_tellsAll 120 = .ok (.iload_n 2, 1) := by decide +kernel
theorem dX6_tellsAll_121 : decode cX6_tellsAll 121 = .ok (.iaload, 1) := by decide +kernel
theorem dX6_tellsAll_122 : decode cX6_tellsAll 122 = .ok (.iastore, 1) := by decide +kernel
theorem dX6_tellsAll_123 : decode cX6_tellsAll 123 = .ok (.iinc 2 1, 3) := by decide +kernel
theorem dX6_tellsAll_126 : decode cX6_tellsAll 126 = .ok (.goto (-26), 3) := by decide +kernel
theorem dX6_tellsAll_129 : decode cX6_tellsAll 129 = .ok (.iinc 1 1, 3) := by decide +kernel
theorem dX6_tellsAll_132 : decode cX6_tellsAll 132 = .ok (.goto (-103), 3) := by decide +kernel
theorem dX6_tellsAll_135 : decode cX6_tellsAll 135 = .ok (.aload_n 0, 1) := by decide +kernel
theorem dX6_tellsAll_136 : decode cX6_tellsAll 136 = .ok (.aload_n 0, 1) := by decide +kernel
theorem dX6_tellsAll_137 : decode cX6_tellsAll 137 = .ok (.getfield 49, 3) := by decide +kernel
theorem dX6_tellsAll_140 : decode cX6_tellsAll 140 = .ok (.invokevirtual 148, 3) := by decide +kernel
theorem dX6_tellsAll_143 : decode cX6_tellsAll 143 = .ok (.aload_n 0, 1) := by decide +kernel
theorem dX6_tellsAll_144 : decode cX6_tellsAll 144 = .ok (.iconst 0, 1) := by decide +kernel
theorem dX6_tellsAll_145 : decode cX6_tellsAll 145 = .ok (.putfield 152, 3) := by decide +kernel
theorem dX6_tellsAll_148 : decode cX6_tellsAll 148 = .ok (.aload_n 0, 1) := by decide +kernel
theorem dX6_tellsAll_149 : decode cX6_tellsAll 149 = .ok (.iconst 0, 1) := by decide +kernel
theorem dX6_tellsAll_150 : decode cX6_tellsAll 150 = .ok (.putfield 155, 3) := by decide +kernel
theorem dX6_tellsAll_153 : decode cX6_tellsAll 153 = .ok (.aload_n 0, 1) := by decide +kernel
theorem dX6_tellsAll_154 : decode cX6_tellsAll 154 = .ok (.getfield 67, 3) := by decide +kernel
theorem dX6_tellsAll_157 : decode cX6_tellsAll 157 = .ok (.iconst 0, 1) := by decide +kernel
theorem dX6_tellsAll_158 : decode cX6_tellsAll 158 = .ok (.iconst 0, 1) := by decide +kernel
theorem dX6_tellsAll_159 : decode cX6_tellsAll 159 = .ok (.bastore, 1) := by decide +kernel
theorem dX6_tellsAll_160 : decode cX6_tellsAll 160 = .ok (.aload_n 0, 1) := by decide +kernel
theorem dX6_tellsAll_161 : decode cX6_tellsAll 161 = .ok (.getfield 67, 3) := by decide +kernel
theorem dX6_tellsAll_164 : decode cX6_tellsAll 164 = .ok (.iconst 1, 1) := by decide +kernel
theorem dX6_tellsAll_165 : decode cX6_tellsAll 165 = .ok (.iconst 0, 1) := by decide +kernel
theorem dX6_tellsAll_166 : decode cX6_tellsAll 166 = .ok (.bastore, 1) := by decide +kernel
theorem dX6_tellsAll_167 : decode cX6_tellsAll 167 = .ok (.return_, 1) := by decide +kernel
theorem dX6_tree_0 : decode cX6_tree 0 = .ok (.aload_n 0, 1) := by decide +kernel
theorem dX6_tree_1 : decode cX6_tree 1 = .ok (.invokevirtual 74, 3) := by decide +kernel
theorem dX6_tree_4 : decode cX6_tree 4 = .ok (.aload_n 0, 1) := by decide +kernel
theorem dX6_tree_5 : decode cX6_tree 5 = .ok (.iconst 0, 1) := by decide +kernel
theorem dX6_tree_6 : decode cX6_tree 6 = .ok (.putfield 88, 3) := by decide +kernel
theorem dX6_tree_9 : decode cX6_tree 9 = .ok (.iconst 0, 1) := by decide +kernel
theorem dX6_tree_10 : decode cX6_tree 10 = .ok (.istore_n 1, 1) := by decide +kernel
theorem dX6_tree_11 : decode cX6_tree 11 = .ok (.aload_n 0, 1) := by decide +kernel
theorem dX6_tree_12 : decode cX6_tree 12 = .ok (.invokevirtual 91, 3) := by decide +kernel
theorem dX6_tree_15 : decode cX6_tree 15 = .ok (.aload_n 0, 1) := by decide +kernel
theorem dX6_tree_16 : decode cX6_tree 16 = .ok (.getfield 88, 3) := by decide +kernel
theorem dX6_tree_19 : decode cX6_tree 19 = .ok (.aload_n 0, 1) := by decide +kernel
theorem dX6_tree_20 : decode cX6_tree 20 = .ok (.getfield 84, 3) := by decide +kernel
theorem dX6_tree_23 : decode cX6_tree 23 = .ok (.if_icmp .ge 28, 3) := by decide +kernel
theorem dX6_tree_26 : decode cX6_tree 26 = .ok (.aload_n 0, 1) := by decide +kernel
theorem dX6_tree_27 : decode cX6_tree 27 = .ok (.invokevirtual 158, 3) := by decide +kernel
theorem dX6_tree_30 : decode cX6_tree 30 = .ok (.ifCond .ne 11, 3) := by decide +kernel
theorem dX6_tree_33 : decode cX6_tree 33 = .ok (.bipush (-10), 2) := by decide +kernel
theorem dX6_tree_35 : decode cX6_tree 35 = .ok (.aload_n 0, 1) := by decide +kernel
theorem dX6_tree_36 : decode cX6_tree 36 = .ok (.getfield 111, 3) := by decide +kernel
theorem dX6_tree_39 : decode cX6_tree 39 = .ok (.isub, 1) := by decide +kernel
theorem dX6_tree_40 : decode cX6_tree 40 = .ok (.ireturn, 1) := by decide +kernel
theorem dX6_tree_41 : decode cX6_tree 41 = .ok (.iinc 1 1, 3) := by decide +kernel
theorem dX6_tree_44 : decode cX6_tree 44 = .ok (.aload_n 0, 1) := by decide +kernel
theorem dX6_tree_45 : decode cX6_tree 45 = .ok (.invokevirtual 91, 3) := by decide +kernel
theorem dX6_tree_48 : decode cX6_tree 48 = .ok (.goto (-33), 3) := by decide +kernel
theorem dX6_tree_51 : decode cX6_tree 51 = .ok (.aload_n 0, 1) := by decide +kernel
theorem dX6_tree_52 : decode cX6_tree 52 = .ok (.iconst 0, 1) := by decide +kernel
theorem dX6_tree_53 : decode cX6_tree 53 = .ok (.putfield 84, 3) := by decide +kernel
theorem dX6_tree_56 : decode cX6_tree 56 = .ok (.aload_n 0, 1) := by decide +kernel
theorem dX6_tree_57 : decode cX6_tree 57 = .ok (.invokevirtual 77, 3) := by decide +kernel
theorem dX6_tree_60 : decode cX6_tree 60 = .ok (.iload_n 1, 1) := by decide +kernel
theorem dX6_tree_61 : decode cX6_tree 61 = .ok (.ireturn, 1) := by decide +kernel
theorem dX6_copies_0 : decode cX6_copies 0 = .ok (.iconst 0, 1) := by decide +kernel
theorem dX6_copies_1 : decode cX6_copies 1 = .ok (.istore_n 2, 1) := by decide +kernel
theorem dX6_copies_2 : decode cX6_copies 2 = .ok (.iload_n 2, 1) := by decide +kernel
theorem dX6_copies_3 : decode cX6_copies 3 = .ok (.sipush 326, 3) := by decide +kernel
theorem dX6_copies_6 : decode cX6_copies 6 = .ok (.if_icmp .ge 15, 3) := by decide +kernel
theorem dX6_copies_9 : decode cX6_copies 9 = .ok (.aload_n 1, 1) := by decide +kernel
theorem dX6_copies_10 : decode cX6_copies 10 = .ok (.iload_n 2, 1) := by decide +kernel
theorem dX6_copies_11 : decode cX6_copies 11 = .ok (.aload_n 0, 1) := by decide +kernel
theorem dX6_copies_12 : decode cX6_copies 12 = .ok (.iload_n 2, 1) := by decide +kernel
theorem dX6_copies_13 : decode cX6_copies 13 = .ok (.iaload, 1) := by decide +kernel
theorem dX6_copies_14 : decode cX6_copies 14 = .ok (.iastore, 1) := by decide +kernel
theorem dX6_copies_15 : decode cX6_copies 15 = .ok (.iinc 2 1, 3) := by decide +kernel
theorem dX6_copies_18 : decode cX6_copies 18 = .ok (.goto (-16), 3) := by decide +kernel
theorem dX6_copies_21 : decode cX6_copies 21 = .ok (.return_, 1) := by decide +kernel
theorem dX6_starts_0 : decode cX6_starts 0 = .ok (.iconst 0, 1) := by decide +kernel
theorem dX6_starts_1 : decode cX6_starts 1 = .ok (.istore_n 2, 1) := by decide +kernel
theorem dX6_starts_2 : decode cX6_starts 2 = .ok (.iload_n 2, 1) := by decide +kernel
theorem dX6_starts_3 : decode cX6_starts 3 = .ok (.sipush 326, 3) := by decide +kernel
theorem dX6_starts_6 : decode cX6_starts 6 = .ok (.if_icmp .ge 13, 3) := by decide +kernel
theorem dX6_starts_9 : decode cX6_starts 9 = .ok (.aload_n 1, 1) := by decide +kernel
theorem dX6_starts_10 : decode cX6_starts 10 = .ok (.iload_n 2, 1) := by decide +kernel
theorem dX6_starts_11 : decode cX6_starts 11 = .ok (.iconst 0, 1) := by decide +kernel
theorem dX6_starts_12 : decode cX6_starts 12 = .ok (.iastore, 1) := by decide +kernel
theorem dX6_starts_13 : decode cX6_starts 13 = .ok (.iinc 2 1, 3) := by decide +kernel
theorem dX6_starts_16 : decode cX6_starts 16 = .ok (.goto (-14), 3) := by decide +kernel
theorem dX6_starts_19 : decode cX6_starts 19 = .ok (.iconst 0, 1) := by decide +kernel
theorem dX6_starts_20 : decode cX6_starts 20 = .ok (.istore_n 2, 1) := by decide +kernel
theorem dX6_starts_21 : decode cX6_starts 21 = .ok (.iload_n 2, 1) := by decide +kernel
theorem dX6_starts_22 : decode cX6_starts 22 = .ok (.bipush 8, 2) := by decide +kernel
theorem dX6_starts_24 : decode cX6_starts 24 = .ok (.if_icmp .ge 30, 3) := by decide +kernel
theorem dX6_starts_27 : decode cX6_starts 27 = .ok (.aload_n 1, 1) := by decide +kernel
theorem dX6_starts_28 : decode cX6_starts 28 = .ok (.bipush 18, 2) := by decide +kernel
theorem dX6_starts_30 : decode cX6_starts 30 = .ok (.iload_n 2, 1) := by decide +kernel
theorem dX6_starts_31 : decode cX6_starts 31 = .ok (.imul, 1) := by decide +kernel
theorem dX6_starts_32 : decode cX6_starts 32 = .ok (.iconst 1, 1) := by decide +kernel
theorem dX6_starts_33 : decode cX6_starts 33 = .ok (.iadd, 1) := by decide +kernel
theorem dX6_starts_34 : decode cX6_starts 34 = .ok (.bipush (-9), 2) := by decide +kernel
theorem dX6_starts_36 : decode cX6_starts 36 = .ok (.iastore, 1) := by decide +kernel
theorem dX6_starts_37 : decode cX6_starts 37 = .ok (.aload_n 1, 1) := by decide +kernel
theorem dX6_starts_38 : decode cX6_starts 38 = .ok (.bipush 18, 2) := by decide +kernel
theorem dX6_starts_40 : decode cX6_starts 40 = .ok (.iload_n 2, 1) := by decide +kernel
theorem dX6_starts_41 : decode cX6_starts 41 = .ok (.imul, 1) := by decide +kernel
theorem dX6_starts_42 : decode cX6_starts 42 = .ok (.bipush 8, 2) := by decide +kernel
theorem dX6_starts_44 : decode cX6_starts 44 = .ok (.iadd, 1) := by decide +kernel
theorem dX6_starts_45 : decode cX6_starts 45 = .ok (.bipush (-9), 2) := by decide +kernel
theorem dX6_starts_47 : decode cX6_starts 47 = .ok (.iastore, 1) := by decide +kernel
theorem dX6_starts_48 : decode cX6_starts 48 = .ok (.iinc 2 1, 3) := by decide +kernel
theorem dX6_starts_51 : decode cX6_starts 51 = .ok (.goto (-30), 3) := by decide +kernel
theorem dX6_starts_54 : decode cX6_starts 54 = .ok (.aload_n 1, 1) := by decide +kernel
theorem dX6_starts_55 : decode cX6_starts 55 = .ok (.iconst 0, 1) := by decide +kernel
theorem dX6_starts_56 : decode cX6_starts 56 = .ok (.iconst 1, 1) := by decide +kernel
theorem dX6_starts_57 : decode cX6_starts 57 = .ok (.iastore, 1) := by decide +kernel
theorem dX6_starts_58 : decode cX6_starts 58 = .ok (.aload_n 1, 1) := by decide +kernel
theorem dX6_starts_59 : decode cX6_starts 59 = .ok (.iconst 4, 1) := by decide +kernel
theorem dX6_starts_60 : decode cX6_starts 60 = .ok (.aload_n 0, 1) := by decide +kernel
theorem dX6_starts_61 : decode cX6_starts 61 = .ok (.getfield 40, 3) := by decide +kernel
theorem dX6_starts_64 : decode cX6_starts 64 = .ok (.iconst 0, 1) := by decide +kernel
theorem dX6_starts_65 : decode cX6_starts 65 = .ok (.iaload, 1) := by decide +kernel
theorem dX6_starts_66 : decode cX6_starts 66 = .ok (.bipush 99, 2) := by decide +kernel
theorem dX6_starts_68 : decode cX6_starts 68 = .ok (.if_icmp .ne 9, 3) := by decide +kernel
theorem dX6_starts_71 : decode cX6_starts 71 = .ok (.sipush 9999, 3) := by decide +kernel
theorem dX6_starts_74 : decode cX6_starts 74 = .ok (.goto 9, 3) := by decide +kernel
theorem dX6_starts_77 : decode cX6_starts 77 = .ok (.aload_n 0, 1) := by decide +kernel
theorem dX6_starts_78 : decode cX6_starts 78 = .ok (.getfield 40, 3) := by decide +kernel
theorem dX6_starts_81 : decode cX6_starts 81 = .ok (.iconst 0, 1) := by decide +kernel
theorem dX6_starts_82 : decode cX6_starts 82 = .ok (.iaload, 1) := by decide +kernel
theorem dX6_starts_83 : decode cX6_starts 83 = .ok (.iastore, 1) := by decide +kernel
theorem dX6_starts_84 : decode cX6_starts 84 = .ok (.return_, 1) := by decide +kernel
theorem dX6_at_0 : decode cX6_at 0 = .ok (.aload_n 0, 1) := by decide +kernel
theorem dX6_at_1 : decode cX6_at 1 = .ok (.bipush 18, 2) := by decide +kernel
theorem dX6_at_3 : decode cX6_at 3 = .ok (.iload_n 1, 1) := by decide +kernel
theorem dX6_at_4 : decode cX6_at 4 = .ok (.imul, 1) := by decide +kernel
theorem dX6_at_5 : decode cX6_at 5 = .ok (.iload_n 2, 1) := by decide +kernel
theorem dX6_at_6 : decode cX6_at 6 = .ok (.iadd, 1) := by decide +kernel
theorem dX6_at_7 : decode cX6_at 7 = .ok (.iaload, 1) := by decide +kernel
theorem dX6_at_8 : decode cX6_at 8 = .ok (.ireturn, 1) := by decide +kernel
theorem dX6_isHow_0 : decode cX6_isHow 0 = .ok (.aload_n 0, 1) := by decide +kernel
theorem dX6_isHow_1 : decode cX6_isHow 1 = .ok (.bipush 18, 2) := by decide +kernel
theorem dX6_isHow_3 : decode cX6_isHow 3 = .ok (.iload_n 1, 1) := by decide +kernel
theorem dX6_isHow_4 : decode cX6_isHow 4 = .ok (.imul, 1) := by decide +kernel
theorem dX6_isHow_5 : decode cX6_isHow 5 = .ok (.iconst 0, 1) := by decide +kernel
theorem dX6_isHow_6 : decode cX6_isHow 6 = .ok (.iadd, 1) := by decide +kernel
theorem dX6_isHow_7 : decode cX6_isHow 7 = .ok (.iaload, 1) := by decide +kernel
theorem dX6_isHow_8 : decode cX6_isHow 8 = .ok (.iload_n 2, 1) := by decide +kernel
theorem dX6_isHow_9 : decode cX6_isHow 9 = .ok (.if_icmp .ne 7, 3) := by decide +kernel
theorem dX6_isHow_12 : decode cX6_isHow 12 = .ok (.iconst 1, 1) := by decide +kernel
theorem dX6_isHow_13 : decode cX6_isHow 13 = .ok (.goto 4, 3) := by decide +kernel
theorem dX6_isHow_16 : decode cX6_isHow 16 = .ok (.iconst 0, 1) := by decide +kernel
theorem dX6_isHow_17 : decode cX6_isHow 17 = .ok (.ireturn, 1) := by decide +kernel
theorem dX6_traces_0 : decode cX6_traces 0 = .ok (.aload_n 0, 1) := by decide +kernel
theorem dX6_traces_1 : decode cX6_traces 1 = .ok (.sipush 145, 3) := by decide +kernel
theorem dX6_traces_4 : decode cX6_traces 4 = .ok (.iaload, 1) := by decide +kernel
theorem dX6_traces_5 : decode cX6_traces 5 = .ok (.bipush 60, 2) := by decide +kernel
theorem dX6_traces_7 : decode cX6_traces 7 = .ok (.if_icmp .ge 44, 3) := by decide +kernel
theorem dX6_traces_10 : decode cX6_traces 10 = .ok (.sipush 146, 3) := by decide +kernel
theorem dX6_traces_13 : decode cX6_traces 13 = .ok (.iconst 3, 1) := by decide +kernel
theorem dX6_traces_14 : decode cX6_traces 14 = .ok (.aload_n 0, 1) := by decide +kernel
theorem dX6_traces_15 : decode cX6_traces 15 = .ok (.sipush 145, 3) := by decide +kernel
theorem dX6_traces_18 : decode cX6_traces 18 = .ok (.iaload, 1) := by decide +kernel
theorem dX6_traces_19 : decode cX6_traces 19 = .ok (.imul, 1) := by decide +kernel
theorem dX6_traces_20 : decode cX6_traces 20 = .ok (.iadd, 1) := by decide +kernel
theorem dX6_traces_21 : decode cX6_traces 21 = .ok (.istore_n 3, 1) := by decide +kernel
theorem dX6_traces_22 : decode cX6_traces 22 = .ok (.aload_n 0, 1) := by decide +kernel
theorem dX6_traces_23 : decode cX6_traces 23 = .ok (.iload_n 3, 1) := by decide +kernel
theorem dX6_traces_24 : decode cX6_traces 24 = .ok (.aload_n 0, 1) := by decide +kernel
theorem dX6_traces_25 : decode cX6_traces 25 = .ok (.sipush 144, 3) := by decide +kernel
theorem dX6_traces_28 : decode cX6_traces 28 = .ok (.iaload, 1) := by decide +kernel
theorem dX6_traces_29 : decode cX6_traces 29 = .ok (.iastore, 1) := by decide +kernel
theorem dX6_traces_30 : decode cX6_traces 30 = .ok (.aload_n 0, 1) := by decide +kernel
theorem dX6_traces_31 : decode cX6_traces 31 = .ok (.iload_n 3, 1) := by decide +kernel
theorem dX6_traces_32 : decode cX6_traces 32 = .ok (.iconst 1, 1) := by decide +kernel
theorem dX6_traces_33 : decode cX6_traces 33 = .ok (.iadd, 1) := by decide +kernel
theorem dX6_traces_34 : decode cX6_traces 34 = .ok (.iload_n 1, 1) := by decide +kernel
theorem dX6_traces_35 : decode cX6_traces 35 = .ok (.iastore, 1) := by decide +kernel
theorem dX6_traces_36 : decode cX6_traces 36 = .ok (.aload_n 0, 1) := by decide +kernel
theorem dX6_traces_37 : decode cX6_traces 37 = .ok (.iload_n 3, 1) := by decide +kernel
theorem dX6_traces_38 : decode cX6_traces 38 = .ok (.iconst 2, 1) := by decide +kernel
theorem dX6_traces_39 : decode cX6_traces 39 = .ok (.iadd, 1) := by decide +kernel
theorem dX6_traces_40 : decode cX6_traces 40 = .ok (.iload_n 2, 1) := by decide +kernel
theorem dX6_traces_41 : decode cX6_traces 41 = .ok (.iastore, 1) := by decide +kernel
theorem dX6_traces_42 : decode cX6_traces 42 = .ok (.aload_n 0, 1) := by decide +kernel
theorem dX6_traces_43 : decode cX6_traces 43 = .ok (.sipush 145, 3) := by decide +kernel
theorem dX6_traces_46 : decode cX6_traces 46 = .ok (.dup2, 1) := by decide +kernel
theorem dX6_traces_47 : decode cX6_traces 47 = .ok (.iaload, 1) := by decide +kernel
theorem dX6_traces_48 : decode cX6_traces 48 = .ok (.iconst 1, 1) := by decide +kernel
theorem dX6_traces_49 : decode cX6_traces 49 = .ok (.iadd, 1) := by decide +kernel
theorem dX6_traces_50 : decode cX6_traces 50 = .ok (.iastore, 1) := by decide +kernel
theorem dX6_traces_51 : decode cX6_traces 51 = .ok (.return_, 1) := by decide +kernel
theorem dX6_codes_0 : decode cX6_codes 0 = .ok (.aload_n 0, 1) := by decide +kernel
theorem dX6_codes_1 : decode cX6_codes 1 = .ok (.iload_n 1, 1) := by decide +kernel
theorem dX6_codes_2 : decode cX6_codes 2 = .ok (.bipush 9, 2) := by decide +kernel
theorem dX6_codes_4 : decode cX6_codes 4 = .ok (.invokestatic 161, 3) := by decide +kernel
theorem dX6_codes_7 : decode cX6_codes 7 = .ok (.bipush 8, 2) := by decide +kernel
theorem dX6_codes_9 : decode cX6_codes 9 = .ok (.if_icmp .ge 34, 3) := by decide +kernel
theorem dX6_codes_12 : decode cX6_codes 12 = .ok (.aload_n 0, 1) := by decide +kernel
theorem dX6_codes_13 : decode cX6_codes 13 = .ok (.bipush 18, 2) := by decide +kernel
theorem dX6_codes_15 : decode cX6_codes 15 = .ok (.iload_n 1, 1) := by decide +kernel
theorem dX6_codes_16 : decode cX6_codes 16 = .ok (.imul, 1) := by decide +kernel
theorem dX6_codes_17 : decode cX6_codes 17 = .ok (.bipush 10, 2) := by decide +kernel
theorem dX6_codes_19 : decode cX6_codes 19 = .ok (.iadd, 1) := by decide +kernel
theorem dX6_codes_20 : decode cX6_codes 20 = .ok (.aload_n 0, 1) := by decide +kernel
theorem dX6_codes_21 : decode cX6_codes 21 = .ok (.iload_n 1, 1) := by decide +kernel
theorem dX6_codes_22 : decode cX6_codes 22 = .ok (.bipush 9, 2) := by decide +kernel
theorem dX6_codes_24 : decode cX6_codes 24 = .ok (.invokestatic 161, 3) := by decide +kernel
theorem dX6_codes_27 : decode cX6_codes 27 = .ok (.iadd, 1) := by decide +kernel
theorem dX6_codes_28 : decode cX6_codes 28 = .ok (.iload_n 2, 1) := by decide +kernel
theorem dX6_codes_29 : decode cX6_codes 29 = .ok (.iastore, 1) := by decide +kernel
theorem dX6_codes_30 : decode cX6_codes 30 = .ok (.aload_n 0, 1) := by decide +kernel
theorem dX6_codes_31 : decode cX6_codes 31 = .ok (.bipush 18, 2) := by decide +kernel
theorem dX6_codes_33 : decode cX6_codes 33 = .ok (.iload_n 1, 1) := by decide +kernel
theorem dX6_codes_34 : decode cX6_codes 34 = .ok (.imul, 1) := by decide +kernel
theorem dX6_codes_35 : decode cX6_codes 35 = .ok (.bipush 9, 2) := by decide +kernel
theorem dX6_codes_37 : decode cX6_codes 37 = .ok (.iadd, 1) := by decide +kernel
theorem dX6_codes_38 : decode cX6_codes 38 = .ok (.dup2, 1) := by decide +kernel
theorem dX6_codes_39 : decode cX6_codes 39 = .ok (.iaload, 1) := by decide +kernel
theorem dX6_codes_40 : decode cX6_codes 40 = .ok (.iconst 1, 1) := by decide +kernel
theorem dX6_codes_41 : decode cX6_codes 41 = .ok (.iadd, 1) := by decide +kernel
theorem dX6_codes_42 : decode cX6_codes 42 = .ok (.iastore, 1) := by decide +kernel
theorem dX6_codes_43 : decode cX6_codes 43 = .ok (.return_, 1) := by decide +kernel
theorem dX6_asksChildren_0 : decode cX6_asksChildren 0 = .ok (.iconst 1, 1) := by decide +kernel
theorem dX6_asksChildren_1 : decode cX6_asksChildren 1 = .ok (.istore_n 3, 1) := by decide +kernel
theorem dX6_asksChildren_2 : decode cX6_asksChildren 2 = .ok (.iload_n 3, 1) := by decide +kernel
theorem dX6_asksChildren_3 : decode cX6_asksChildren 3 = .ok (.aload_n 0, 1) := by decide +kernel
theorem dX6_asksChildren_4 : decode cX6_asksChildren 4 = .ok (.getfield 142, 3) := by decide +kernel
theorem dX6_asksChildren_7 : decode cX6_asksChildren 7 = .ok (.if_icmp .ge 37, 3) := by decide +kernel
theorem dX6_asksChildren_10 : decode cX6_asksChildren 10 = .ok (.aload_n 0, 1) := by decide +kernel
theorem dX6_asksChildren_11 : decode cX6_asksChildren 11 = .ok (.getfield 31, 3) := by decide +kernel
theorem dX6_asksChildren_14 : decode cX6_asksChildren 14 = .ok (.iload_n 3, 1) := by decide +kernel
theorem dX6_asksChildren_15 : decode cX6_asksChildren 15 = .ok (.iaload, 1) := by decide +kernel
theorem dX6_asksChildren_16 : decode cX6_asksChildren 16 = .ok (.iload_n 2, 1) := by decide +kernel
theorem dX6_asksChildren_17 : decode cX6_asksChildren 17 = .ok (.if_icmp .ne 21, 3) := by decide +kernel
theorem dX6_asksChildren_20 : decode cX6_asksChildren 20 = .ok (.aload_n 1, 1) := by decide +kernel
theorem dX6_asksChildren_21 : decode cX6_asksChildren 21 = .ok (.iload_n 3, 1) := by decide +kernel
theorem dX6_asksChildren_22 : decode cX6_asksChildren 22 = .ok (.iconst 1, 1) := by decide +kernel
theorem dX6_asksChildren_23 : decode cX6_asksChildren 23 = .ok (.invokestatic 165, 3) := by decide +kernel
theorem dX6_asksChildren_26 : decode cX6_asksChildren 26 = .ok (.ifCond .eq 12, 3) := by decide +kernel
theorem dX6_asksChildren_29 : decode cX6_asksChildren 29 = .ok (.aload_n 1, 1) := by decide +kernel
theorem dX6_asksChildren_30 : decode cX6_asksChildren 30 = .ok (.bipush 18, 2) := by decide +kernel
theorem dX6_asksChildren_32 : decode cX6_asksChildren 32 = .ok (.iload_n 3, 1) := by decide +kernel
theorem dX6_asksChildren_33 : decode cX6_asksChildren 33 = .ok (.imul, 1) := by decide +kernel
theorem dX6_asksChildren_34 : decode cX6_asksChildren 34 = .ok (.iconst 5, 1) := by decide +kernel
theorem dX6_asksChildren_35 : decode cX6_asksChildren 35 = .ok (.iadd, 1) := by decide +kernel
theorem dX6_asksChildren_36 : decode cX6_asksChildren 36 = .ok (.iconst 1, 1) := by decide +kernel
theorem dX6_asksChildren_37 : decode cX6_asksChildren 37 = .ok (.iastore, 1) := by decide +kernel
theorem dX6_asksChildren_38 : decode cX6_asksChildren 38 = .ok (.iinc 3 1, 3) := by decide +kernel
theorem dX6_asksChildren_41 : decode cX6_asksChildren 41 = .ok (.goto (-39), 3) := by decide +kernel
theorem dX6_asksChildren_44 : decode cX6_asksChildren 44 = .ok (.return_, 1) := by decide +kernel
theorem dX6_closes_0 : decode cX6_closes 0 = .ok (.aload_n 1, 1) := by decide +kernel
theorem dX6_closes_1 : decode cX6_closes 1 = .ok (.iload_n 2, 1) := by decide +kernel
theorem dX6_closes_2 : decode cX6_closes 2 = .ok (.bipush 9, 2) := by decide +kernel
theorem dX6_closes_4 : decode cX6_closes 4 = .ok (.invokestatic 161, 3) := by decide +kernel
theorem dX6_closes_7 : decode cX6_closes 7 = .ok (.ifCond .le 7, 3) := by decide +kernel
theorem dX6_closes_10 : decode cX6_closes 10 = .ok (.iconst 1, 1) := by decide +kernel
theorem dX6_closes_11 : decode cX6_closes 11 = .ok (.goto 4, 3) := by decide +kernel
theorem dX6_closes_14 : decode cX6_closes 14 = .ok (.iconst 0, 1) := by decide +kernel
theorem dX6_closes_15 : decode cX6_closes 15 = .ok (.istore 4, 2) := by decide +kernel
theorem dX6_closes_17 : decode cX6_closes 17 = .ok (.aload_n 1, 1) := by decide +kernel
theorem dX6_closes_18 : decode cX6_closes 18 = .ok (.bipush 18, 2) := by decide +kernel
theorem dX6_closes_20 : decode cX6_closes 20 = .ok (.iload_n 2, 1) := by decide +kernel
theorem dX6_closes_21 : decode cX6_closes 21 = .ok (.imul, 1) := by decide +kernel
theorem dX6_closes_22 : decode cX6_closes 22 = .ok (.iconst 0, 1) := by decide +kernel
theorem dX6_closes_23 : decode cX6_closes 23 = .ok (.iadd, 1) := by decide +kernel
theorem dX6_closes_24 : decode cX6_closes 24 = .ok (.iconst 2, 1) := by decide +kernel
theorem dX6_closes_25 : decode cX6_closes 25 = .ok (.iastore, 1) := by decide +kernel
theorem dX6_closes_26 : decode cX6_closes 26 = .ok (.aload_n 1, 1) := by decide +kernel
theorem dX6_closes_27 : decode cX6_closes 27 = .ok (.bipush 18, 2) := by decide +kernel
theorem dX6_closes_29 : decode cX6_closes 29 = .ok (.iload_n 2, 1) := by decide +kernel
theorem dX6_closes_30 : decode cX6_closes 30 = .ok (.imul, 1) := by decide +kernel
theorem dX6_closes_31 : decode cX6_closes 31 = .ok (.iconst 1, 1) := by decide +kernel
theorem dX6_closes_32 : decode cX6_closes 32 = .ok (.iadd, 1) := by decide +kernel
theorem dX6_closes_33 : decode cX6_closes 33 = .ok (.iload_n 3, 1) := by decide +kernel
theorem dX6_closes_34 : decode cX6_closes 34 = .ok (.ifCond .ne 12, 3) := by decide +kernel
theorem dX6_closes_37 : decode cX6_closes 37 = .ok (.iload 4, 2) := by decide +kernel
theorem dX6_closes_39 : decode cX6_closes 39 = .ok (.ifCond .eq 7, 3) := by decide +kernel
theorem dX6_closes_42 : decode cX6_closes 42 = .ok (.iconst 1, 1) := by decide +kernel
theorem dX6_closes_43 : decode cX6_closes 43 = .ok (.goto 4, 3) := by decide +kernel
theorem dX6_closes_46 : decode cX6_closes 46 = .ok (.iload_n 3, 1) := by decide +kernel
theorem dX6_closes_47 : decode cX6_closes 47 = .ok (.iastore, 1) := by decide +kernel
theorem dX6_closes_48 : decode cX6_closes 48 = .ok (.iload_n 3, 1) := by decide +kernel
theorem dX6_closes_49 : decode cX6_closes 49 = .ok (.ifCond .ne 8, 3) := by decide +kernel
theorem dX6_closes_52 : decode cX6_closes 52 = .ok (.iload 4, 2) := by decide +kernel
theorem dX6_closes_54 : decode cX6_closes 54 = .ok (.ifCond .eq 9, 3) := by decide +kernel
theorem dX6_closes_57 : decode cX6_closes 57 = .ok (.aload_n 0, 1) := by decide +kernel
theorem dX6_closes_58 : decode cX6_closes 58 = .ok (.aload_n 1, 1) := by decide +kernel
theorem dX6_closes_59 : decode cX6_closes 59 = .ok (.iload_n 2, 1) := by decide +kernel
theorem dX6_closes_60 : decode cX6_closes 60 = .ok (.invokevirtual 169, 3) := by decide +kernel
theorem dX6_closes_63 : decode cX6_closes 63 = .ok (.aload_n 1, 1) := by decide +kernel
theorem dX6_closes_64 : decode cX6_closes 64 = .ok (.iload_n 2, 1) := by decide +kernel
theorem dX6_closes_65 : decode cX6_closes 65 = .ok (.iconst 1, 1) := by decide +kernel
theorem dX6_closes_66 : decode cX6_closes 66 = .ok (.invokestatic 173, 3) := by decide +kernel
theorem dX6_closes_69 : decode cX6_closes 69 = .ok (.return_, 1) := by decide +kernel
theorem dX6_begin_0 : decode cX6_begin 0 = .ok (.aload_n 0, 1) := by decide +kernel
theorem dX6_begin_1 : decode cX6_begin 1 = .ok (.getfield 40, 3) := by decide +kernel
theorem dX6_begin_4 : decode cX6_begin 4 = .ok (.iload_n 2, 1) := by decide +kernel
theorem dX6_begin_5 : decode cX6_begin 5 = .ok (.iaload, 1) := by decide +kernel
theorem dX6_begin_6 : decode cX6_begin 6 = .ok (.bipush 99, 2) := by decide +kernel
theorem dX6_begin_8 : decode cX6_begin 8 = .ok (.if_icmp .ne 9, 3) := by decide +kernel
theorem dX6_begin_11 : decode cX6_begin 11 = .ok (.sipush 9999, 3) := by decide +kernel
theorem dX6_begin_14 : decode cX6_begin 14 = .ok (.goto 15, 3) := by decide +kernel
theorem dX6_begin_17 : decode cX6_begin 17 = .ok (.aload_n 1, 1) := by decide +kernel
theorem dX6_begin_18 : decode cX6_begin 18 = .ok (.sipush 144, 3) := by decide +kernel
theorem dX6_begin_21 : decode cX6_begin 21 = .ok (.iaload, 1) := by decide +kernel
theorem dX6_begin_22 : decode cX6_begin 22 = .ok (.aload_n 0, 1) := by decide +kernel
theorem dX6_begin_23 : decode cX6_begin 23 = .ok (.getfield 40, 3) := by decide +kernel
theorem dX6_begin_26 : decode cX6_begin 26 = .ok (.iload_n 2, 1) := by decide +kernel
theorem dX6_begin_27 : decode cX6_begin 27 = .ok (.iaload, 1) := by decide +kernel
theorem dX6_begin_28 : decode cX6_begin 28 = .ok (.iadd, 1) := by decide +kernel
theorem dX6_begin_29 : decode cX6_begin 29 = .ok (.istore_n 3, 1) := by decide +kernel
theorem dX6_begin_30 : decode cX6_begin 30 = .ok (.aload_n 1, 1) := by decide +kernel
theorem dX6_begin_31 : decode cX6_begin 31 = .ok (.aload_n 0, 1) := by decide +kernel
theorem dX6_begin_32 : decode cX6_begin 32 = .ok (.getfield 31, 3) := by decide +kernel
theorem dX6_begin_35 : decode cX6_begin 35 = .ok (.iload_n 2, 1) := by decide +kernel
theorem dX6_begin_36 : decode cX6_begin 36 = .ok (.iaload, 1) := by decide +kernel
theorem dX6_begin_37 : decode cX6_begin 37 = .ok (.iconst 4, 1) := by decide +kernel
theorem dX6_begin_38 : decode cX6_begin 38 = .ok (.invokestatic 161, 3) := by decide +kernel
theorem dX6_begin_41 : decode cX6_begin 41 = .ok (.istore 4, 2) := by decide +kernel
theorem dX6_begin_43 : decode cX6_begin 43 = .ok (.aload_n 1, 1) := by decide +kernel
theorem dX6_begin_44 : decode cX6_begin 44 = .ok (.bipush 18, 2) := by decide +kernel
theorem dX6_begin_46 : decode cX6_begin 46 = .ok (.iload_n 2, 1) := by decide +kernel
theorem dX6_begin_47 : decode cX6_begin 47 = .ok (.imul, 1) := by decide +kernel
theorem dX6_begin_48 : decode cX6_begin 48 = .ok (.iconst 0, 1) := by decide +kernel
theorem dX6_begin_49 : decode cX6_begin 49 = .ok (.iadd, 1) := by decide +kernel
theorem dX6_begin_50 : decode cX6_begin 50 = .ok (.iconst 1, 1) := by decide +kernel
theorem dX6_begin_51 : decode cX6_begin 51 = .ok (.iastore, 1) := by decide +kernel
theorem dX6_begin_52 : decode cX6_begin 52 = .ok (.aload_n 1, 1) := by decide +kernel
theorem dX6_begin_53 : decode cX6_begin 53 = .ok (.bipush 18, 2) := by decide +kernel
theorem dX6_begin_55 : decode cX6_begin 55 = .ok (.iload_n 2, 1) := by decide +kernel
theorem dX6_begin_56 : decode cX6_begin 56 = .ok (.imul, 1) := by decide +kernel
theorem dX6_begin_57 : decode cX6_begin 57 = .ok (.iconst 4, 1) := by decide +kernel
theorem dX6_begin_58 : decode cX6_begin 58 = .ok (.iadd, 1) := by decide +kernel
theorem dX6_begin_59 : decode cX6_begin 59 = .ok (.iload_n 3, 1) := by decide +kernel
theorem dX6_begin_60 : decode cX6_begin 60 = .ok (.iload 4, 2) := by decide +kernel
theorem dX6_begin_62 : decode cX6_begin 62 = .ok (.if_icmp .ge 7, 3) := by decide +kernel
theorem dX6_begin_65 : decode cX6_begin 65 = .ok (.iload_n 3, 1) := by decide +kernel
theorem dX6_begin_66 : decode cX6_begin 66 = .ok (.goto 5, 3) := by decide +kernel
theorem dX6_begin_69 : decode cX6_begin 69 = .ok (.iload 4, 2) := by decide +kernel
theorem dX6_begin_71 : decode cX6_begin 71 = .ok (.iastore, 1) := by decide +kernel
theorem dX6_begin_72 : decode cX6_begin 72 = .ok (.aload_n 1, 1) := by decide +kernel
theorem dX6_begin_73 : decode cX6_begin 73 = .ok (.bipush 18, 2) := by decide +kernel
theorem dX6_begin_75 : decode cX6_begin 75 = .ok (.iload_n 2, 1) := by decide +kernel
theorem dX6_begin_76 : decode cX6_begin 76 = .ok (.imul, 1) := by decide +kernel
theorem dX6_begin_77 : decode cX6_begin 77 = .ok (.bipush 7, 2) := by decide +kernel
theorem dX6_begin_79 : decode cX6_begin 79 = .ok (.iadd, 1) := by decide +kernel
theorem dX6_begin_80 : decode cX6_begin 80 = .ok (.aload_n 1, 1) := by decide +kernel
theorem dX6_begin_81 : decode cX6_begin 81 = .ok (.sipush 144, 3) := by decide +kernel
theorem dX6_begin_84 : decode cX6_begin 84 = .ok (.iaload, 1) := by decide +kernel
theorem dX6_begin_85 : decode cX6_begin 85 = .ok (.iastore, 1) := by decide +kernel
theorem dX6_begin_86 : decode cX6_begin 86 = .ok (.aload_n 1, 1) := by decide +kernel
theorem dX6_begin_87 : decode cX6_begin 87 = .ok (.iload_n 2, 1) := by decide +kernel
theorem dX6_begin_88 : decode cX6_begin 88 = .ok (.iconst 0, 1) := by decide +kernel
theorem dX6_begin_89 : decode cX6_begin 89 = .ok (.invokestatic 173, 3) := by decide +kernel
theorem dX6_begin_92 : decode cX6_begin 92 = .ok (.return_, 1) := by decide +kernel
theorem dX6_beginsChild_0 : decode cX6_beginsChild 0 = .ok (.iconst 1, 1) := by decide +kernel
theorem dX6_beginsChild_1 : decode cX6_beginsChild 1 = .ok (.istore_n 3, 1) := by decide +kernel
theorem dX6_beginsChild_2 : decode cX6_beginsChild 2 = .ok (.iload_n 3, 1) := by decide +kernel
theorem dX6_beginsChild_3 : decode cX6_beginsChild 3 = .ok (.aload_n 0, 1) := by decide +kernel
theorem dX6_beginsChild_4 : decode cX6_beginsChild 4 = .ok (.getfield 142, 3) := by decide +kernel
theorem dX6_beginsChild_7 : decode cX6_beginsChild 7 = .ok (.if_icmp .ge 35, 3) := by decide +kernel
theorem dX6_beginsChild_10 : decode cX6_beginsChild 10 = .ok (.aload_n 0, 1) := by decide +kernel
theorem dX6_beginsChild_11 : decode cX6_beginsChild 11 = .ok (.getfield 31, 3) := by decide +kernel
theorem dX6_beginsChild_14 : decode cX6_beginsChild 14 = .ok (.iload_n 3, 1) := by decide +kernel
theorem dX6_beginsChild_15 : decode cX6_beginsChild 15 = .ok (.iaload, 1) := by decide +kernel
theorem dX6_beginsChild_16 : decode cX6_beginsChild 16 = .ok (.iload_n 2, 1) := by decide +kernel
theorem dX6_beginsChild_17 : decode cX6_beginsChild 17 = .ok (.if_icmp .ne 19, 3) := by decide +kernel
theorem dX6_beginsChild_20 : decode cX6_beginsChild 20 = .ok (.aload_n 1, 1) := by decide +kernel
theorem dX6_beginsChild_21 : decode cX6_beginsChild 21 = .ok (.iload_n 3, 1) := by decide +kernel
theorem dX6_beginsChild_22 : decode cX6_beginsChild 22 = .ok (.iconst 0, 1) := by decide +kernel
theorem dX6_beginsChild_23 : decode cX6_beginsChild 23 = .ok (.invokestatic 165, 3) := by decide +kernel
theorem dX6_beginsChild_26 : decode cX6_beginsChild 26 = .ok (.ifCond .eq 10, 3) := by decide +kernel
theorem dX6_beginsChild_29 : decode cX6_beginsChild 29 = .ok (.aload_n 0, 1) := by decide +kernel
theorem dX6_beginsChild_30 : decode cX6_beginsChild 30 = .ok (.aload_n 1, 1) := by decide +kernel
theorem dX6_beginsChild_31 : decode cX6_beginsChild 31 = .ok (.iload_n 3, 1) := by decide +kernel
theorem dX6_beginsChild_32 : decode cX6_beginsChild 32 = .ok (.invokevirtual 177, 3) := by decide +kernel
theorem dX6_beginsChild_35 : decode cX6_beginsChild 35 = .ok (.return_, 1) := by decide +kernel
theorem dX6_beginsChild_36 : decode cX6_beginsChild 36 = .ok (.iinc 3 1, 3) := by decide +kernel
theorem dX6_beginsChild_39 : decode cX6_beginsChild 39 = .ok (.goto (-37), 3) := by decide +kernel
theorem dX6_beginsChild_42 : decode cX6_beginsChild 42 = .ok (.return_, 1) := by decide +kernel
theorem dX6_isBusy_0 : decode cX6_isBusy 0 = .ok (.iconst 0, 1) := by decide +kernel
theorem dX6_isBusy_1 : decode cX6_isBusy 1 = .ok (.istore_n 3, 1) := by decide +kernel
theorem dX6_isBusy_2 : decode cX6_isBusy 2 = .ok (.iconst 1, 1) := by decide +kernel
theorem dX6_isBusy_3 : decode cX6_isBusy 3 = .ok (.istore 4, 2) := by decide +kernel
theorem dX6_isBusy_5 : decode cX6_isBusy 5 = .ok (.iload 4, 2) := by decide +kernel
theorem dX6_isBusy_7 : decode cX6_isBusy 7 = .ok (.aload_n 0, 1) := by decide +kernel
theorem dX6_isBusy_8 : decode cX6_isBusy 8 = .ok (.getfield 142, 3) := by decide +kernel
theorem dX6_isBusy_11 : decode cX6_isBusy 11 = .ok (.if_icmp .ge 50, 3) := by decide +kernel
theorem dX6_isBusy_14 : decode cX6_isBusy 14 = .ok (.iload_n 3, 1) := by decide +kernel
theorem dX6_isBusy_15 : decode cX6_isBusy 15 = .ok (.ifCond .ne 34, 3) := by decide +kernel
theorem dX6_isBusy_18 : decode cX6_isBusy 18 = .ok (.aload_n 0, 1) := by decide +kernel
theorem dX6_isBusy_19 : decode cX6_isBusy 19 = .ok (.getfield 31, 3) := by decide +kernel
theorem dX6_isBusy_22 : decode cX6_isBusy 22 = .ok (.iload 4, 2) := by decide +kernel
theorem dX6_isBusy_24 : decode cX6_isBusy 24 = .ok (.iaload, 1) := by decide +kernel
theorem dX6_isBusy_25 : decode cX6_isBusy 25 = .ok (.iload_n 2, 1) := by decide +kernel
theorem dX6_isBusy_26 : decode cX6_isBusy 26 = .ok (.if_icmp .ne 27, 3) := by decide +kernel
theorem dX6_isBusy_29 : decode cX6_isBusy 29 = .ok (.aload_n 1, 1) := by decide +kernel
theorem dX6_isBusy_30 : decode cX6_isBusy 30 = .ok (.iload 4, 2) := by decide +kernel
theorem dX6_isBusy_32 : decode cX6_isBusy 32 = .ok (.iconst 1, 1) := by decide +kernel
theorem dX6_isBusy_33 : decode cX6_isBusy 33 = .ok (.invokestatic 165, 3) := by decide +kernel
theorem dX6_isBusy_36 : decode cX6_isBusy 36 = .ok (.ifCond .ne 13, 3) := by decide +kernel
theorem dX6_isBusy_39 : decode cX6_isBusy 39 = .ok (.aload_n 1, 1) := by decide +kernel
theorem dX6_isBusy_40 : decode cX6_isBusy 40 = .ok (.iload 4, 2) := by decide +kernel
theorem dX6_isBusy_42 : decode cX6_isBusy 42 = .ok (.iconst 2, 1) := by decide +kernel
theorem dX6_isBusy_43 : decode cX6_isBusy 43 = .ok (.invokestatic 165, 3) := by decide +kernel
theorem dX6_isBusy_46 : decode cX6_isBusy 46 = .ok (.ifCond .eq 7, 3) := by decide +kernel
theorem dX6_isBusy_49 : decode cX6_isBusy 49 = .ok (.iconst 1, 1) := by decide +kernel
theorem dX6_isBusy_50 : decode cX6_isBusy 50 = .ok (.goto 4, 3) := by decide +kernel
theorem dX6_isBusy_53 : decode cX6_isBusy 53 = .ok (.iconst 0, 1) := by decide +kernel
theorem dX6_isBusy_54 : decode cX6_isBusy 54 = .ok (.istore_n 3, 1) := by decide +kernel
theorem dX6_isBusy_55 : decode cX6_isBusy 55 = .ok (.iinc 4 1, 3) := by decide +kernel
theorem dX6_isBusy_58 : decode cX6_isBusy 58 = .ok (.goto (-53), 3) := by decide +kernel
theorem dX6_isBusy_61 : decode cX6_isBusy 61 = .ok (.iload_n 3, 1) := by decide +kernel
theorem dX6_isBusy_62 : decode cX6_isBusy 62 = .ok (.ireturn, 1) := by decide +kernel
theorem dX6_works_0 : decode cX6_works 0 = .ok (.bipush 18, 2) := by decide +kernel
theorem dX6_works_2 : decode cX6_works 2 = .ok (.iload_n 2, 1) := by decide +kernel
theorem dX6_works_3 : decode cX6_works 3 = .ok (.imul, 1) := by decide +kernel
theorem dX6_works_4 : decode cX6_works 4 = .ok (.istore_n 3, 1) := by decide +kernel
theorem dX6_works_5 : decode cX6_works 5 = .ok (.bipush 12, 2) := by decide +kernel
theorem dX6_works_7 : decode cX6_works 7 = .ok (.iload_n 2, 1) := by decide +kernel
theorem dX6_works_8 : decode cX6_works 8 = .ok (.imul, 1) := by decide +kernel
theorem dX6_works_9 : decode cX6_works 9 = .ok (.iconst 2, 1) := by decide +kernel
theorem dX6_works_10 : decode cX6_works 10 = .ok (.aload_n 1, 1) := by decide +kernel
theorem dX6_works_11 : decode cX6_works 11 = .ok (.iload_n 3, 1) := by decide +kernel
theorem dX6_works_12 : decode cX6_works 12 = .ok (.iconst 2, 1) := by decide +kernel
theorem dX6_works_13 : decode cX6_works 13 = .ok (.iadd, 1) := by decide +kernel
theorem dX6_works_14 : decode cX6_works 14 = .ok (.iaload, 1) := by decide +kernel
theorem dX6_works_15 : decode cX6_works 15 = .ok (.imul, 1) := by decide +kernel
theorem dX6_works_16 : decode cX6_works 16 = .ok (.iadd, 1) := by decide +kernel
theorem dX6_works_17 : decode cX6_works 17 = .ok (.istore 4, 2) := by decide +kernel
theorem dX6_works_19 : decode cX6_works 19 = .ok (.aload_n 0, 1) := by decide +kernel
theorem dX6_works_20 : decode cX6_works 20 = .ok (.getfield 37, 3) := by decide +kernel
theorem dX6_works_23 : decode cX6_works 23 = .ok (.iload 4, 2) := by decide +kernel
theorem dX6_works_25 : decode cX6_works 25 = .ok (.iaload, 1) := by decide +kernel
theorem dX6_works_26 : decode cX6_works 26 = .ok (.lookupswitch 147 #[(98, 86), (106, 104), (119, 42), (120, 129)], 42) := by decide +kernel
theorem dX6_works_68 : decode cX6_works 68 = .ok (.aload_n 1, 1) := by decide +kernel
theorem dX6_works_69 : decode cX6_works 69 = .ok (.iload_n 3, 1) := by decide +kernel
theorem dX6_works_70 : decode cX6_works 70 = .ok (.iconst 3, 1) := by decide +kernel
theorem dX6_works_71 : decode cX6_works 71 = .ok (.iadd, 1) := by decide +kernel
theorem dX6_works_72 : decode cX6_works 72 = .ok (.dup2, 1) := by decide +kernel
theorem dX6_works_73 : decode cX6_works 73 = .ok (.iaload, 1) := by decide +kernel
theorem dX6_works_74 : decode cX6_works 74 = .ok (.iconst 1, 1) := by decide +kernel
theorem dX6_works_75 : decode cX6_works 75 = .ok (.iadd, 1) := by decide +kernel
theorem dX6_works_76 : decode cX6_works 76 = .ok (.iastore, 1) := by decide +kernel
theorem dX6_works_77 : decode cX6_works 77 = .ok (.aload_n 1, 1) := by decide +kernel
theorem dX6_works_78 : decode cX6_works 78 = .ok (.iload_n 3, 1) := by decide +kernel
theorem dX6_works_79 : decode cX6_works 79 = .ok (.iconst 3, 1) := by decide +kernel
theorem dX6_works_80 : decode cX6_works 80 = .ok (.iadd, 1) := by decide +kernel
theorem dX6_works_81 : decode cX6_works 81 = .ok (.iaload, 1) := by decide +kernel
theorem dX6_works_82 : decode cX6_works 82 = .ok (.aload_n 0, 1) := by decide +kernel
theorem dX6_works_83 : decode cX6_works 83 = .ok (.getfield 37, 3) := by decide +kernel
theorem dX6_works_86 : decode cX6_works 86 = .ok (.iload 4, 2) := by decide +kernel
theorem dX6_works_88 : decode cX6_works 88 = .ok (.iconst 1, 1) := by decide +kernel
theorem dX6_works_89 : decode cX6_works 89 = .ok (.iadd, 1) := by decide +kernel
theorem dX6_works_90 : decode cX6_works 90 = .ok (.iaload, 1) := by decide +kernel
theorem dX6_works_91 : decode cX6_works 91 = .ok (.if_icmp .ne 103, 3) := by decide +kernel
theorem dX6_works_94 : decode cX6_works 94 = .ok (.aload_n 1, 1) := by decide +kernel
theorem dX6_works_95 : decode cX6_works 95 = .ok (.iload_n 3, 1) := by decide +kernel
theorem dX6_works_96 : decode cX6_works 96 = .ok (.iconst 3, 1) := by decide +kernel
theorem dX6_works_97 : decode cX6_works 97 = .ok (.iadd, 1) := by decide +kernel
theorem dX6_works_98 : decode cX6_works 98 = .ok (.iconst 0, 1) := by decide +kernel
theorem dX6_works_99 : decode cX6_works 99 = .ok (.iastore, 1) := by decide +kernel
theorem dX6_works_100 : decode cX6_works 100 = .ok (.aload_n 1, 1) := by decide +kernel
theorem dX6_works_101 : decode cX6_works 101 = .ok (.iload_n 3, 1) := by decide +kernel
theorem dX6_works_102 : decode cX6_works 102 = .ok (.iconst 2, 1) := by decide +kernel
theorem dX6_works_103 : decode cX6_works 103 = .ok (.iadd, 1) := by decide +kernel
theorem dX6_works_104 : decode cX6_works 104 = .ok (.dup2, 1) := by decide +kernel
theorem dX6_works_105 : decode cX6_works 105 = .ok (.iaload, 1) := by decide +kernel
theorem dX6_works_106 : decode cX6_works 106 = .ok (.iconst 1, 1) := by decide +kernel
theorem dX6_works_107 : decode cX6_works 107 = .ok (.iadd, 1) := by decide +kernel
theorem dX6_works_108 : decode cX6_works 108 = .ok (.iastore, 1) := by decide +kernel
theorem dX6_works_109 : decode cX6_works 109 = .ok (.goto 85, 3) := by decide +kernel
theorem dX6_works_112 : decode cX6_works 112 = .ok (.aload_n 1, 1) := by decide +kernel
theorem dX6_works_113 : decode cX6_works 113 = .ok (.iload_n 3, 1) := by decide +kernel
theorem dX6_works_114 : decode cX6_works 114 = .ok (.iconst 2, 1) := by decide +kernel
theorem dX6_works_115 : decode cX6_works 115 = .ok (.iadd, 1) := by decide +kernel
theorem dX6_works_116 : decode cX6_works 116 = .ok (.dup2, 1) := by decide +kernel
theorem dX6_works_117 : decode cX6_works 117 = .ok (.iaload, 1) := by decide +kernel
theorem dX6_works_118 : decode cX6_works 118 = .ok (.iconst 1, 1) := by decide +kernel
theorem dX6_works_119 : decode cX6_works 119 = .ok (.iadd, 1) := by decide +kernel
theorem dX6_works_120 : decode cX6_works 120 = .ok (.iastore, 1) := by decide +kernel
theorem dX6_works_121 : decode cX6_works 121 = .ok (.aload_n 0, 1) := by decide +kernel
theorem dX6_works_122 : decode cX6_works 122 = .ok (.aload_n 1, 1) := by decide +kernel
theorem dX6_works_123 : decode cX6_works 123 = .ok (.iload_n 2, 1) := by decide +kernel
theorem dX6_works_124 : decode cX6_works 124 = .ok (.invokevirtual 180, 3) := by decide +kernel
theorem dX6_works_127 : decode cX6_works 127 = .ok (.goto 67, 3) := by decide +kernel
theorem dX6_works_130 : decode cX6_works 130 = .ok (.aload_n 1, 1) := by decide +kernel
theorem dX6_works_131 : decode cX6_works 131 = .ok (.iload_n 3, 1) := by decide +kernel
theorem dX6_works_132 : decode cX6_works 132 = .ok (.iconst 2, 1) := by decide +kernel
theorem dX6_works_133 : decode cX6_works 133 = .ok (.iadd, 1) := by decide +kernel
theorem dX6_works_134 : decode cX6_works 134 = .ok (.dup2, 1) := by decide +kernel
theorem dX6_works_135 : decode cX6_works 135 = .ok (.iaload, 1) := by decide +kernel
theorem dX6_works_136 : decode cX6_works 136 = .ok (.aload_n 0, 1) := by decide +kernel
theorem dX6_works_137 : decode cX6_works 137 = .ok (.aload_n 1, 1) := by decide +kernel
theorem dX6_works_138 : decode cX6_works 138 = .ok (.iload_n 2, 1) := by decide +kernel
theorem dX6_works_139 : decode cX6_works 139 = .ok (.invokevirtual 183, 3) := by decide +kernel
theorem dX6_works_142 : decode cX6_works 142 = .ok (.ifCond .eq 7, 3) := by decide +kernel
theorem dX6_works_145 : decode cX6_works 145 = .ok (.iconst 0, 1) := by decide +kernel
theorem dX6_works_146 : decode cX6_works 146 = .ok (.goto 4, 3) := by decide +kernel
theorem dX6_works_149 : decode cX6_works 149 = .ok (.iconst 1, 1) := by decide +kernel
theorem dX6_works_150 : decode cX6_works 150 = .ok (.iadd, 1) := by decide +kernel
theorem dX6_works_151 : decode cX6_works 151 = .ok (.iastore, 1) := by decide +kernel
theorem dX6_works_152 : decode cX6_works 152 = .ok (.goto 42, 3) := by decide +kernel
theorem dX6_works_155 : decode cX6_works 155 = .ok (.aload_n 1, 1) := by decide +kernel
theorem dX6_works_156 : decode cX6_works 156 = .ok (.iload_n 3, 1) := by decide +kernel
theorem dX6_works_157 : decode cX6_works 157 = .ok (.iconst 2, 1) := by decide +kernel
theorem dX6_works_158 : decode cX6_works 158 = .ok (.iadd, 1) := by decide +kernel
theorem dX6_works_159 : decode cX6_works 159 = .ok (.dup2, 1) := by decide +kernel
theorem dX6_works_160 : decode cX6_works 160 = .ok (.iaload, 1) := by decide +kernel
theorem dX6_works_161 : decode cX6_works 161 = .ok (.iconst 1, 1) := by decide +kernel
theorem dX6_works_162 : decode cX6_works 162 = .ok (.iadd, 1) := by decide +kernel
theorem dX6_works_163 : decode cX6_works 163 = .ok (.iastore, 1) := by decide +kernel
theorem dX6_works_164 : decode cX6_works 164 = .ok (.aload_n 0, 1) := by decide +kernel
theorem dX6_works_165 : decode cX6_works 165 = .ok (.aload_n 1, 1) := by decide +kernel
theorem dX6_works_166 : decode cX6_works 166 = .ok (.iload_n 2, 1) := by decide +kernel
theorem dX6_works_167 : decode cX6_works 167 = .ok (.invokevirtual 169, 3) := by decide +kernel
theorem dX6_works_170 : decode cX6_works 170 = .ok (.goto 24, 3) := by decide +kernel
theorem dX6_works_173 : decode cX6_works 173 = .ok (.aload_n 1, 1) := by decide +kernel
theorem dX6_works_174 : decode cX6_works 174 = .ok (.iload_n 2, 1) := by decide +kernel
theorem dX6_works_175 : decode cX6_works 175 = .ok (.aload_n 0, 1) := by decide +kernel
theorem dX6_works_176 : decode cX6_works 176 = .ok (.getfield 37, 3) := by decide +kernel
theorem dX6_works_179 : decode cX6_works 179 = .ok (.iload 4, 2) := by decide +kernel
theorem dX6_works_181 : decode cX6_works 181 = .ok (.iconst 1, 1) := by decide +kernel
theorem dX6_works_182 : decode cX6_works 182 = .ok (.iadd, 1) := by decide +kernel
theorem dX6_works_183 : decode cX6_works 183 = .ok (.iaload, 1) := by decide +kernel
theorem dX6_works_184 : decode cX6_works 184 = .ok (.invokestatic 187, 3) := by decide +kernel
theorem dX6_works_187 : decode cX6_works 187 = .ok (.aload_n 0, 1) := by decide +kernel
theorem dX6_works_188 : decode cX6_works 188 = .ok (.aload_n 1, 1) := by decide +kernel
theorem dX6_works_189 : decode cX6_works 189 = .ok (.iload_n 2, 1) := by decide +kernel
theorem dX6_works_190 : decode cX6_works 190 = .ok (.iconst 1, 1) := by decide +kernel
theorem dX6_works_191 : decode cX6_works 191 = .ok (.invokevirtual 190, 3) := by decide +kernel
theorem dX6_works_194 : decode cX6_works 194 = .ok (.return_, 1) := by decide +kernel
theorem dX6_moves_0 : decode cX6_moves 0 = .ok (.aload_n 1, 1) := by decide +kernel
theorem dX6_moves_1 : decode cX6_moves 1 = .ok (.iload_n 2, 1) := by decide +kernel
theorem dX6_moves_2 : decode cX6_moves 2 = .ok (.iconst 5, 1) := by decide +kernel
theorem dX6_moves_3 : decode cX6_moves 3 = .ok (.invokestatic 161, 3) := by decide +kernel
theorem dX6_moves_6 : decode cX6_moves 6 = .ok (.iconst 1, 1) := by decide +kernel
theorem dX6_moves_7 : decode cX6_moves 7 = .ok (.if_icmp .ne 28, 3) := by decide +kernel
theorem dX6_moves_10 : decode cX6_moves 10 = .ok (.aload_n 1, 1) := by decide +kernel
theorem dX6_moves_11 : decode cX6_moves 11 = .ok (.iload_n 2, 1) := by decide +kernel
theorem dX6_moves_12 : decode cX6_moves 12 = .ok (.iconst 2, 1) := by decide +kernel
theorem dX6_moves_13 : decode cX6_moves 13 = .ok (.invokestatic 161, 3) := by decide +kernel
theorem dX6_moves_16 : decode cX6_moves 16 = .ok (.aload_n 0, 1) := by decide +kernel
theorem dX6_moves_17 : decode cX6_moves 17 = .ok (.getfield 43, 3) := by decide +kernel
theorem dX6_moves_20 : decode cX6_moves 20 = .ok (.iload_n 2, 1) := by decide +kernel
theorem dX6_moves_21 : decode cX6_moves 21 = .ok (.iaload, 1) := by decide +kernel
theorem dX6_moves_22 : decode cX6_moves 22 = .ok (.if_icmp .lt 13, 3) := by decide +kernel
theorem dX6_moves_25 : decode cX6_moves 25 = .ok (.aload_n 0, 1) := by decide +kernel
theorem dX6_moves_26 : decode cX6_moves 26 = .ok (.aload_n 1, 1) := by decide +kernel
theorem dX6_moves_27 : decode cX6_moves 27 = .ok (.iload_n 2, 1) := by decide +kernel
theorem dX6_moves_28 : decode cX6_moves 28 = .ok (.iconst 2, 1) := by decide +kernel
theorem dX6_moves_29 : decode cX6_moves 29 = .ok (.invokevirtual 190, 3) := by decide +kernel
theorem dX6_moves_32 : decode cX6_moves 32 = .ok (.goto 34, 3) := by decide +kernel
theorem dX6_moves_35 : decode cX6_moves 35 = .ok (.aload_n 1, 1) := by decide +kernel
theorem dX6_moves_36 : decode cX6_moves 36 = .ok (.iload_n 2, 1) := by decide +kernel
theorem dX6_moves_37 : decode cX6_moves 37 = .ok (.iconst 2, 1) := by decide +kernel
theorem dX6_moves_38 : decode cX6_moves 38 = .ok (.invokestatic 161, 3) := by decide +kernel
theorem dX6_moves_41 : decode cX6_moves 41 = .ok (.aload_n 0, 1) := by decide +kernel
theorem dX6_moves_42 : decode cX6_moves 42 = .ok (.getfield 34, 3) := by decide +kernel
theorem dX6_moves_45 : decode cX6_moves 45 = .ok (.iload_n 2, 1) := by decide +kernel
theorem dX6_moves_46 : decode cX6_moves 46 = .ok (.iaload, 1) := by decide +kernel
theorem dX6_moves_47 : decode cX6_moves 47 = .ok (.if_icmp .ne 13, 3) := by decide +kernel
theorem dX6_moves_50 : decode cX6_moves 50 = .ok (.aload_n 0, 1) := by decide +kernel
theorem dX6_moves_51 : decode cX6_moves 51 = .ok (.aload_n 1, 1) := by decide +kernel
theorem dX6_moves_52 : decode cX6_moves 52 = .ok (.iload_n 2, 1) := by decide +kernel
theorem dX6_moves_53 : decode cX6_moves 53 = .ok (.iconst 0, 1) := by decide +kernel
theorem dX6_moves_54 : decode cX6_moves 54 = .ok (.invokevirtual 190, 3) := by decide +kernel
theorem dX6_moves_57 : decode cX6_moves 57 = .ok (.goto 9, 3) := by decide +kernel
theorem dX6_moves_60 : decode cX6_moves 60 = .ok (.aload_n 0, 1) := by decide +kernel
theorem dX6_moves_61 : decode cX6_moves 61 = .ok (.aload_n 1, 1) := by decide +kernel
theorem dX6_moves_62 : decode cX6_moves 62 = .ok (.iload_n 2, 1) := by decide +kernel
theorem dX6_moves_63 : decode cX6_moves 63 = .ok (.invokevirtual 193, 3) := by decide +kernel
theorem dX6_moves_66 : decode cX6_moves 66 = .ok (.return_, 1) := by decide +kernel
theorem dX6_gives_0 : decode cX6_gives 0 = .ok (.aload_n 0, 1) := by decide +kernel
theorem dX6_gives_1 : decode cX6_gives 1 = .ok (.getfield 31, 3) := by decide +kernel
theorem dX6_gives_4 : decode cX6_gives 4 = .ok (.iload_n 2, 1) := by decide +kernel
theorem dX6_gives_5 : decode cX6_gives 5 = .ok (.iaload, 1) := by decide +kernel
theorem dX6_gives_6 : decode cX6_gives 6 = .ok (.istore_n 3, 1) := by decide +kernel
theorem dX6_gives_7 : decode cX6_gives 7 = .ok (.iconst 0, 1) := by decide +kernel
theorem dX6_gives_8 : decode cX6_gives 8 = .ok (.istore 4, 2) := by decide +kernel
theorem dX6_gives_10 : decode cX6_gives 10 = .ok (.iload 4, 2) := by decide +kernel
theorem dX6_gives_12 : decode cX6_gives 12 = .ok (.aload_n 1, 1) := by decide +kernel
theorem dX6_gives_13 : decode cX6_gives 13 = .ok (.iload_n 2, 1) := by decide +kernel
theorem dX6_gives_14 : decode cX6_gives 14 = .ok (.bipush 9, 2) := by decide +kernel
theorem dX6_gives_16 : decode cX6_gives 16 = .ok (.invokestatic 161, 3) := by decide +kernel
theorem dX6_gives_19 : decode cX6_gives 19 = .ok (.if_icmp .ge 24, 3) := by decide +kernel
theorem dX6_gives_22 : decode cX6_gives 22 = .ok (.aload_n 1, 1) := by decide +kernel
theorem dX6_gives_23 : decode cX6_gives 23 = .ok (.iload_n 3, 1) := by decide +kernel
theorem dX6_gives_24 : decode cX6_gives 24 = .ok (.aload_n 1, 1) := by decide +kernel
theorem dX6_gives_25 : decode cX6_gives 25 = .ok (.iload_n 2, 1) := by decide +kernel
theorem dX6_gives_26 : decode cX6_gives 26 = .ok (.bipush 10, 2) := by decide +kernel
theorem dX6_gives_28 : decode cX6_gives 28 = .ok (.iload 4, 2) := by decide +kernel
theorem dX6_gives_30 : decode cX6_gives 30 = .ok (.iadd, 1) := by decide +kernel
theorem dX6_gives_31 : decode cX6_gives 31 = .ok (.invokestatic 161, 3) := by decide +kernel
theorem dX6_gives_34 : decode cX6_gives 34 = .ok (.invokestatic 187, 3) := by decide +kernel
theorem dX6_gives_37 : decode cX6_gives 37 = .ok (.iinc 4 1, 3) := by decide +kernel
theorem dX6_gives_40 : decode cX6_gives 40 = .ok (.goto (-30), 3) := by decide +kernel
theorem dX6_gives_43 : decode cX6_gives 43 = .ok (.aload_n 1, 1) := by decide +kernel
theorem dX6_gives_44 : decode cX6_gives 44 = .ok (.iload_n 3, 1) := by decide +kernel
theorem dX6_gives_45 : decode cX6_gives 45 = .ok (.iconst 1, 1) := by decide +kernel
theorem dX6_gives_46 : decode cX6_gives 46 = .ok (.invokestatic 165, 3) := by decide +kernel
theorem dX6_gives_49 : decode cX6_gives 49 = .ok (.ifCond .eq 24, 3) := by decide +kernel
theorem dX6_gives_52 : decode cX6_gives 52 = .ok (.aload_n 0, 1) := by decide +kernel
theorem dX6_gives_53 : decode cX6_gives 53 = .ok (.getfield 145, 3) := by decide +kernel
theorem dX6_gives_56 : decode cX6_gives 56 = .ok (.iload_n 3, 1) := by decide +kernel
theorem dX6_gives_57 : decode cX6_gives 57 = .ok (.ishr, 1) := by decide +kernel
theorem dX6_gives_58 : decode cX6_gives 58 = .ok (.iconst 1, 1) := by decide +kernel
theorem dX6_gives_59 : decode cX6_gives 59 = .ok (.iand, 1) := by decide +kernel
theorem dX6_gives_60 : decode cX6_gives 60 = .ok (.ifCond .ne 13, 3) := by decide +kernel
theorem dX6_gives_63 : decode cX6_gives 63 = .ok (.aload_n 0, 1) := by decide +kernel
theorem dX6_gives_64 : decode cX6_gives 64 = .ok (.aload_n 1, 1) := by decide +kernel
theorem dX6_gives_65 : decode cX6_gives 65 = .ok (.iload_n 3, 1) := by decide +kernel
theorem dX6_gives_66 : decode cX6_gives 66 = .ok (.iconst 1, 1) := by decide +kernel
theorem dX6_gives_67 : decode cX6_gives 67 = .ok (.invokevirtual 190, 3) := by decide +kernel
theorem dX6_gives_70 : decode cX6_gives 70 = .ok (.goto 36, 3) := by decide +kernel
theorem dX6_gives_73 : decode cX6_gives 73 = .ok (.aload_n 1, 1) := by decide +kernel
theorem dX6_gives_74 : decode cX6_gives 74 = .ok (.iload_n 3, 1) := by decide +kernel
theorem dX6_gives_75 : decode cX6_gives 75 = .ok (.iconst 2, 1) := by decide +kernel
theorem dX6_gives_76 : decode cX6_gives 76 = .ok (.invokestatic 165, 3) := by decide +kernel
theorem dX6_gives_79 : decode cX6_gives 79 = .ok (.ifCond .eq 27, 3) := by decide +kernel
theorem dX6_gives_82 : decode cX6_gives 82 = .ok (.aload_n 1, 1) := by decide +kernel
theorem dX6_gives_83 : decode cX6_gives 83 = .ok (.iload_n 3, 1) := by decide +kernel
theorem dX6_gives_84 : decode cX6_gives 84 = .ok (.iconst 1, 1) := by decide +kernel
theorem dX6_gives_85 : decode cX6_gives 85 = .ok (.invokestatic 161, 3) := by decide +kernel
theorem dX6_gives_88 : decode cX6_gives 88 = .ok (.ifCond .ne 18, 3) := by decide +kernel
theorem dX6_gives_91 : decode cX6_gives 91 = .ok (.aload_n 1, 1) := by decide +kernel
theorem dX6_gives_92 : decode cX6_gives 92 = .ok (.bipush 18, 2) := by decide +kernel
theorem dX6_gives_94 : decode cX6_gives 94 = .ok (.iload_n 3, 1) := by decide +kernel
theorem dX6_gives_95 : decode cX6_gives 95 = .ok (.imul, 1) := by decide +kernel
theorem dX6_gives_96 : decode cX6_gives 96 = .ok (.iconst 1, 1) := by decide +kernel
theorem dX6_gives_97 : decode cX6_gives 97 = .ok (.iadd, 1) := by decide +kernel
theorem dX6_gives_98 : decode cX6_gives 98 = .ok (.iconst 1, 1) := by decide +kernel
theorem dX6_gives_99 : decode cX6_gives 99 = .ok (.iastore, 1) := by decide +kernel
theorem dX6_gives_100 : decode cX6_gives 100 = .ok (.aload_n 0, 1) := by decide +kernel
theorem dX6_gives_101 : decode cX6_gives 101 = .ok (.aload_n 1, 1) := by decide +kernel
theorem dX6_gives_102 : decode cX6_gives 102 = .ok (.iload_n 3, 1) := by decide +kernel
theorem dX6_gives_103 : decode cX6_gives 103 = .ok (.invokevirtual 169, 3) := by decide +kernel
theorem dX6_gives_106 : decode cX6_gives 106 = .ok (.return_, 1) := by decide +kernel
theorem dX6_cleansUp_0 : decode cX6_cleansUp 0 = .ok (.aload_n 1, 1) := by decide +kernel
theorem dX6_cleansUp_1 : decode cX6_cleansUp 1 = .ok (.iload_n 2, 1) := by decide +kernel
theorem dX6_cleansUp_2 : decode cX6_cleansUp 2 = .ok (.bipush 6, 2) := by decide +kernel
theorem dX6_cleansUp_4 : decode cX6_cleansUp 4 = .ok (.invokestatic 161, 3) := by decide +kernel
theorem dX6_cleansUp_7 : decode cX6_cleansUp 7 = .ok (.aload_n 0, 1) := by decide +kernel
theorem dX6_cleansUp_8 : decode cX6_cleansUp 8 = .ok (.getfield 46, 3) := by decide +kernel
theorem dX6_cleansUp_11 : decode cX6_cleansUp 11 = .ok (.iload_n 2, 1) := by decide +kernel
theorem dX6_cleansUp_12 : decode cX6_cleansUp 12 = .ok (.iaload, 1) := by decide +kernel
theorem dX6_cleansUp_13 : decode cX6_cleansUp 13 = .ok (.if_icmp .ge 16, 3) := by decide +kernel
theorem dX6_cleansUp_16 : decode cX6_cleansUp 16 = .ok (.aload_n 1, 1) := by decide +kernel
theorem dX6_cleansUp_17 : decode cX6_cleansUp 17 = .ok (.bipush 18, 2) := by decide +kernel
theorem dX6_cleansUp_19 : decode cX6_cleansUp 19 = .ok (.iload_n 2, 1) := by decide +kernel
theorem dX6_cleansUp_20 : decode cX6_cleansUp 20 = .ok (.imul, 1) := by decide +kernel
theorem dX6_cleansUp_21 : decode cX6_cleansUp 21 = .ok (.bipush 6, 2) := by decide +kernel
theorem dX6_cleansUp_23 : decode cX6_cleansUp 23 = .ok (.iadd, 1) := by decide +kernel
theorem dX6_cleansUp_24 : decode cX6_cleansUp 24 = .ok (.dup2, 1) := by decide +kernel
theorem dX6_cleansUp_25 : decode cX6_cleansUp 25 = .ok (.iaload, 1) := by decide +kernel
theorem dX6_cleansUp_26 : decode cX6_cleansUp 26 = .ok (.iconst 1, 1) := by decide +kernel
theorem dX6_cleansUp_27 : decode cX6_cleansUp 27 = .ok (.iadd, 1) := by decide +kernel
theorem dX6_cleansUp_28 : decode cX6_cleansUp 28 = .ok (.iastore, 1) := by decide +kernel
theorem dX6_cleansUp_29 : decode cX6_cleansUp 29 = .ok (.aload_n 1, 1) := by decide +kernel
theorem dX6_cleansUp_30 : decode cX6_cleansUp 30 = .ok (.iload_n 2, 1) := by decide +kernel
theorem dX6_cleansUp_31 : decode cX6_cleansUp 31 = .ok (.bipush 6, 2) := by decide +kernel
theorem dX6_cleansUp_33 : decode cX6_cleansUp 33 = .ok (.invokestatic 161, 3) := by decide +kernel
theorem dX6_cleansUp_36 : decode cX6_cleansUp 36 = .ok (.aload_n 0, 1) := by decide +kernel
theorem dX6_cleansUp_37 : decode cX6_cleansUp 37 = .ok (.getfield 46, 3) := by decide +kernel
theorem dX6_cleansUp_40 : decode cX6_cleansUp 40 = .ok (.iload_n 2, 1) := by decide +kernel
theorem dX6_cleansUp_41 : decode cX6_cleansUp 41 = .ok (.iaload, 1) := by decide +kernel
theorem dX6_cleansUp_42 : decode cX6_cleansUp 42 = .ok (.if_icmp .ne 59, 3) := by decide +kernel
theorem dX6_cleansUp_45 : decode cX6_cleansUp 45 = .ok (.aload_n 1, 1) := by decide +kernel
theorem dX6_cleansUp_46 : decode cX6_cleansUp 46 = .ok (.bipush 18, 2) := by decide +kernel
theorem dX6_cleansUp_48 : decode cX6_cleansUp 48 = .ok (.iload_n 2, 1) := by decide +kernel
theorem dX6_cleansUp_49 : decode cX6_cleansUp 49 = .ok (.imul, 1) := by decide +kernel
theorem dX6_cleansUp_50 : decode cX6_cleansUp 50 = .ok (.iconst 0, 1) := by decide +kernel
theorem dX6_cleansUp_51 : decode cX6_cleansUp 51 = .ok (.iadd, 1) := by decide +kernel
theorem dX6_cleansUp_52 : decode cX6_cleansUp 52 = .ok (.iconst 3, 1) := by decide +kernel
theorem dX6_cleansUp_53 : decode cX6_cleansUp 53 = .ok (.iastore, 1) := by decide +kernel
theorem dX6_cleansUp_54 : decode cX6_cleansUp 54 = .ok (.aload_n 1, 1) := by decide +kernel
theorem dX6_cleansUp_55 : decode cX6_cleansUp 55 = .ok (.bipush 18, 2) := by decide +kernel
theorem dX6_cleansUp_57 : decode cX6_cleansUp 57 = .ok (.iload_n 2, 1) := by decide +kernel
theorem dX6_cleansUp_58 : decode cX6_cleansUp 58 = .ok (.imul, 1) := by decide +kernel
theorem dX6_cleansUp_59 : decode cX6_cleansUp 59 = .ok (.bipush 8, 2) := by decide +kernel
theorem dX6_cleansUp_61 : decode cX6_cleansUp 61 = .ok (.iadd, 1) := by decide +kernel
theorem dX6_cleansUp_62 : decode cX6_cleansUp 62 = .ok (.aload_n 1, 1) := by decide +kernel
theorem dX6_cleansUp_63 : decode cX6_cleansUp 63 = .ok (.sipush 144, 3) := by decide +kernel
theorem dX6_cleansUp_66 : decode cX6_cleansUp 66 = .ok (.iaload, 1) := by decide +kernel
theorem dX6_cleansUp_67 : decode cX6_cleansUp 67 = .ok (.iastore, 1) := by decide +kernel
theorem dX6_cleansUp_68 : decode cX6_cleansUp 68 = .ok (.aload_n 1, 1) := by decide +kernel
theorem dX6_cleansUp_69 : decode cX6_cleansUp 69 = .ok (.iload_n 2, 1) := by decide +kernel
theorem dX6_cleansUp_70 : decode cX6_cleansUp 70 = .ok (.iconst 2, 1) := by decide +kernel
theorem dX6_cleansUp_71 : decode cX6_cleansUp 71 = .ok (.invokestatic 173, 3) := by decide +kernel
theorem dX6_cleansUp_74 : decode cX6_cleansUp 74 = .ok (.aload_n 1, 1) := by decide +kernel
theorem dX6_cleansUp_75 : decode cX6_cleansUp 75 = .ok (.iload_n 2, 1) := by decide +kernel
theorem dX6_cleansUp_76 : decode cX6_cleansUp 76 = .ok (.iconst 1, 1) := by decide +kernel
theorem dX6_cleansUp_77 : decode cX6_cleansUp 77 = .ok (.invokestatic 161, 3) := by decide +kernel
theorem dX6_cleansUp_80 : decode cX6_cleansUp 80 = .ok (.istore_n 3, 1) := by decide +kernel
theorem dX6_cleansUp_81 : decode cX6_cleansUp 81 = .ok (.iload_n 2, 1) := by decide +kernel
theorem dX6_cleansUp_82 : decode cX6_cleansUp 82 = .ok (.ifCond .le 19, 3) := by decide +kernel
theorem dX6_cleansUp_85 : decode cX6_cleansUp 85 = .ok (.iload_n 3, 1) := by decide +kernel
theorem dX6_cleansUp_86 : decode cX6_cleansUp 86 = .ok (.iconst 1, 1) := by decide +kernel
theorem dX6_cleansUp_87 : decode cX6_cleansUp 87 = .ok (.if_icmp .eq 8, 3) := by decide +kernel
theorem dX6_cleansUp_90 : decode cX6_cleansUp 90 = .ok (.iload_n 3, 1) := by decide +kernel
theorem dX6_cleansUp_91 : decode cX6_cleansUp 91 = .ok (.iconst 3, 1) := by decide +kernel
theorem dX6_cleansUp_92 : decode cX6_cleansUp 92 = .ok (.if_icmp .ne 9, 3) := by decide +kernel
theorem dX6_cleansUp_95 : decode cX6_cleansUp 95 = .ok (.aload_n 0, 1) := by decide +kernel
theorem dX6_cleansUp_96 : decode cX6_cleansUp 96 = .ok (.aload_n 1, 1) := by decide +kernel
theorem dX6_cleansUp_97 : decode cX6_cleansUp 97 = .ok (.iload_n 2, 1) := by decide +kernel
theorem dX6_cleansUp_98 : decode cX6_cleansUp 98 = .ok (.invokevirtual 196, 3) := by decide +kernel
theorem dX6_cleansUp_101 : decode cX6_cleansUp 101 = .ok (.return_, 1) := by decide +kernel
theorem dX6_tick_0 : decode cX6_tick 0 = .ok (.aload_n 1, 1) := by decide +kernel
theorem dX6_tick_1 : decode cX6_tick 1 = .ok (.sipush 144, 3) := by decide +kernel
theorem dX6_tick_4 : decode cX6_tick 4 = .ok (.dup2, 1) := by decide +kernel
theorem dX6_tick_5 : decode cX6_tick 5 = .ok (.iaload, 1) := by decide +kernel
theorem dX6_tick_6 : decode cX6_tick 6 = .ok (.iconst 1, 1) := by decide +kernel
theorem dX6_tick_7 : decode cX6_tick 7 = .ok (.iadd, 1) := by decide +kernel
theorem dX6_tick_8 : decode cX6_tick 8 = .ok (.iastore, 1) := by decide +kernel
theorem dX6_tick_9 : decode cX6_tick 9 = .ok (.iconst 0, 1) := by decide +kernel
theorem dX6_tick_10 : decode cX6_tick 10 = .ok (.istore_n 2, 1) := by decide +kernel
theorem dX6_tick_11 : decode cX6_tick 11 = .ok (.iload_n 2, 1) := by decide +kernel
theorem dX6_tick_12 : decode cX6_tick 12 = .ok (.aload_n 0, 1) := by decide +kernel
theorem dX6_tick_13 : decode cX6_tick 13 = .ok (.getfield 142, 3) := by decide +kernel
theorem dX6_tick_16 : decode cX6_tick 16 = .ok (.if_icmp .ge 46, 3) := by decide +kernel
theorem dX6_tick_19 : decode cX6_tick 19 = .ok (.aload_n 1, 1) := by decide +kernel
theorem dX6_tick_20 : decode cX6_tick 20 = .ok (.iload_n 2, 1) := by decide +kernel
theorem dX6_tick_21 : decode cX6_tick 21 = .ok (.iconst 1, 1) := by decide +kernel
theorem dX6_tick_22 : decode cX6_tick 22 = .ok (.invokestatic 165, 3) := by decide +kernel
theorem dX6_tick_25 : decode cX6_tick 25 = .ok (.ifCond .eq 31, 3) := by decide +kernel
theorem dX6_tick_28 : decode cX6_tick 28 = .ok (.aload_n 1, 1) := by decide +kernel
theorem dX6_tick_29 : decode cX6_tick 29 = .ok (.sipush 144, 3) := by decide +kernel
theorem dX6_tick_32 : decode cX6_tick 32 = .ok (.iaload, 1) := by decide +kernel
theorem dX6_tick_33 : decode cX6_tick 33 = .ok (.aload_n 1, 1) := by decide +kernel
theorem dX6_tick_34 : decode cX6_tick 34 = .ok (.iload_n 2, 1) := by decide +kernel
theorem dX6_tick_35 : decode cX6_tick 35 = .ok (.iconst 4, 1) := by decide +kernel
theorem dX6_tick_36 : decode cX6_tick 36 = .ok (.invokestatic 161, 3) := by decide +kernel
theorem dX6_tick_39 : decode cX6_tick 39 = .ok (.if_icmp .le 17, 3) := by decide +kernel
theorem dX6_tick_42 : decode cX6_tick 42 = .ok (.aload_n 1, 1) := by decide +kernel
theorem dX6_tick_43 : decode cX6_tick 43 = .ok (.iload_n 2, 1) := by decide +kernel
theorem dX6_tick_44 : decode cX6_tick 44 = .ok (.bipush 10, 2) := by decide +kernel
theorem dX6_tick_46 : decode cX6_tick 46 = .ok (.invokestatic 187, 3) := by decide +kernel
theorem dX6_tick_49 : decode cX6_tick 49 = .ok (.aload_n 0, 1) := by decide +kernel
theorem dX6_tick_50 : decode cX6_tick 50 = .ok (.aload_n 1, 1) := by decide +kernel
theorem dX6_tick_51 : decode cX6_tick 51 = .ok (.iload_n 2, 1) := by decide +kernel
theorem dX6_tick_52 : decode cX6_tick 52 = .ok (.iconst 3, 1) := by decide +kernel
theorem dX6_tick_53 : decode cX6_tick 53 = .ok (.invokevirtual 190, 3) := by decide +kernel
theorem dX6_tick_56 : decode cX6_tick 56 = .ok (.iinc 2 1, 3) := by decide +kernel
theorem dX6_tick_59 : decode cX6_tick 59 = .ok (.goto (-48), 3) := by decide +kernel
theorem dX6_tick_62 : decode cX6_tick 62 = .ok (.iconst 0, 1) := by decide +kernel
theorem dX6_tick_63 : decode cX6_tick 63 = .ok (.istore_n 2, 1) := by decide +kernel
theorem dX6_tick_64 : decode cX6_tick 64 = .ok (.iload_n 2, 1) := by decide +kernel
theorem dX6_tick_65 : decode cX6_tick 65 = .ok (.aload_n 0, 1) := by decide +kernel
theorem dX6_tick_66 : decode cX6_tick 66 = .ok (.getfield 142, 3) := by decide +kernel
theorem dX6_tick_69 : decode cX6_tick 69 = .ok (.if_icmp .ge 43, 3) := by decide +kernel
theorem dX6_tick_72 : decode cX6_tick 72 = .ok (.aload_n 1, 1) := by decide +kernel
theorem dX6_tick_73 : decode cX6_tick 73 = .ok (.iload_n 2, 1) := by decide +kernel
theorem dX6_tick_74 : decode cX6_tick 74 = .ok (.iconst 1, 1) := by decide +kernel
theorem dX6_tick_75 : decode cX6_tick 75 = .ok (.invokestatic 165, 3) := by decide +kernel
theorem dX6_tick_78 : decode cX6_tick 78 = .ok (.ifCond .eq 28, 3) := by decide +kernel
theorem dX6_tick_81 : decode cX6_tick 81 = .ok (.iload_n 2, 1) := by decide +kernel
theorem dX6_tick_82 : decode cX6_tick 82 = .ok (.ifCond .eq 18, 3) := by decide +kernel
theorem dX6_tick_85 : decode cX6_tick 85 = .ok (.aload_n 1, 1) := by decide +kernel
theorem dX6_tick_86 : decode cX6_tick 86 = .ok (.iload_n 2, 1) := by decide +kernel
theorem dX6_tick_87 : decode cX6_tick 87 = .ok (.bipush 7, 2) := by decide +kernel
theorem dX6_tick_89 : decode cX6_tick 89 = .ok (.invokestatic 161, 3) := by decide +kernel
theorem dX6_tick_92 : decode cX6_tick 92 = .ok (.aload_n 1, 1) := by decide +kernel
theorem dX6_tick_93 : decode cX6_tick 93 = .ok (.sipush 144, 3) := by decide +kernel
theorem dX6_tick_96 : decode cX6_tick 96 = .ok (.iaload, 1) := by decide +kernel
theorem dX6_tick_97 : decode cX6_tick 97 = .ok (.if_icmp .ge 9, 3) := by decide +kernel
theorem dX6_tick_100 : decode cX6_tick 100 = .ok (.aload_n 0, 1) := by decide +kernel
theorem dX6_tick_101 : decode cX6_tick 101 = .ok (.aload_n 1, 1) := by decide +kernel
theorem dX6_tick_102 : decode cX6_tick 102 = .ok (.iload_n 2, 1) := by decide +kernel
theorem dX6_tick_103 : decode cX6_tick 103 = .ok (.invokevirtual 199, 3) := by decide +kernel
theorem dX6_tick_106 : decode cX6_tick 106 = .ok (.iinc 2 1, 3) := by decide +kernel
theorem dX6_tick_109 : decode cX6_tick 109 = .ok (.goto (-45), 3) := by decide +kernel
theorem dX6_tick_112 : decode cX6_tick 112 = .ok (.aload_n 0, 1) := by decide +kernel
theorem dX6_tick_113 : decode cX6_tick 113 = .ok (.getfield 142, 3) := by decide +kernel
theorem dX6_tick_116 : decode cX6_tick 116 = .ok (.iconst 1, 1) := by decide +kernel
theorem dX6_tick_117 : decode cX6_tick 117 = .ok (.isub, 1) := by decide +kernel
theorem dX6_tick_118 : decode cX6_tick 118 = .ok (.istore_n 2, 1) := by decide +kernel
theorem dX6_tick_119 : decode cX6_tick 119 = .ok (.iload_n 2, 1) := by decide +kernel
theorem dX6_tick_120 : decode cX6_tick 120 = .ok (.ifCond .lt 33, 3) := by decide +kernel
theorem dX6_tick_123 : decode cX6_tick 123 = .ok (.aload_n 1, 1) := by decide +kernel
theorem dX6_tick_124 : decode cX6_tick 124 = .ok (.iload_n 2, 1) := by decide +kernel
theorem dX6_tick_125 : decode cX6_tick 125 = .ok (.iconst 2, 1) := by decide +kernel
theorem dX6_tick_126 : decode cX6_tick 126 = .ok (.invokestatic 165, 3) := by decide +kernel
theorem dX6_tick_129 : decode cX6_tick 129 = .ok (.ifCond .eq 18, 3) := by decide +kernel
theorem dX6_tick_132 : decode cX6_tick 132 = .ok (.aload_n 0, 1) := by decide +kernel
theorem dX6_tick_133 : decode cX6_tick 133 = .ok (.aload_n 1, 1) := by decide +kernel
theorem dX6_tick_134 : decode cX6_tick 134 = .ok (.iload_n 2, 1) := by decide +kernel
theorem dX6_tick_135 : decode cX6_tick 135 = .ok (.invokevirtual 183, 3) := by decide +kernel
theorem dX6_tick_138 : decode cX6_tick 138 = .ok (.ifCond .ne 9, 3) := by decide +kernel
theorem dX6_tick_141 : decode cX6_tick 141 = .ok (.aload_n 0, 1) := by decide +kernel
theorem dX6_tick_142 : decode cX6_tick 142 = .ok (.aload_n 1, 1) := by decide +kernel
theorem dX6_tick_143 : decode cX6_tick 143 = .ok (.iload_n 2, 1) := by decide +kernel
theorem dX6_tick_144 : decode cX6_tick 144 = .ok (.invokevirtual 202, 3) := by decide +kernel
theorem dX6_tick_147 : decode cX6_tick 147 = .ok (.iinc 2 (-1), 3) := by decide +kernel
theorem dX6_tick_150 : decode cX6_tick 150 = .ok (.goto (-31), 3) := by decide +kernel
theorem dX6_tick_153 : decode cX6_tick 153 = .ok (.return_, 1) := by decide +kernel
theorem dX6_isTask_0 : decode cX6_isTask 0 = .ok (.iload_n 1, 1) := by decide +kernel
theorem dX6_isTask_1 : decode cX6_isTask 1 = .ok (.iconst 0, 1) := by decide +kernel
theorem dX6_isTask_2 : decode cX6_isTask 2 = .ok (.aload_n 0, 1) := by decide +kernel
theorem dX6_isTask_3 : decode cX6_isTask 3 = .ok (.getfield 142, 3) := by decide +kernel
theorem dX6_isTask_6 : decode cX6_isTask 6 = .ok (.iconst 1, 1) := by decide +kernel
theorem dX6_isTask_7 : decode cX6_isTask 7 = .ok (.isub, 1) := by decide +kernel
theorem dX6_isTask_8 : decode cX6_isTask 8 = .ok (.invokestatic 80, 3) := by decide +kernel
theorem dX6_isTask_11 : decode cX6_isTask 11 = .ok (.ireturn, 1) := by decide +kernel
theorem dX6_remember_0 : decode cX6_remember 0 = .ok (.iconst 0, 1) := by decide +kernel
theorem dX6_remember_1 : decode cX6_remember 1 = .ok (.istore_n 1, 1) := by decide +kernel
theorem dX6_remember_2 : decode cX6_remember 2 = .ok (.iload_n 1, 1) := by decide +kernel
theorem dX6_remember_3 : decode cX6_remember 3 = .ok (.sipush 326, 3) := by decide +kernel
theorem dX6_remember_6 : decode cX6_remember 6 = .ok (.if_icmp .ge 30, 3) := by decide +kernel
theorem dX6_remember_9 : decode cX6_remember 9 = .ok (.aload_n 0, 1) := by decide +kernel
theorem dX6_remember_10 : decode cX6_remember 10 = .ok (.getfield 55, 3) := by decide +kernel
theorem dX6_remember_13 : decode cX6_remember 13 = .ok (.sipush 326, 3) := by decide +kernel
theorem dX6_remember_16 : decode cX6_remember 16 = .ok (.aload_n 0, 1) := by decide +kernel
theorem dX6_remember_17 : decode cX6_remember 17 = .ok (.getfield 205, 3) := by decide +kernel
theorem dX6_remember_20 : decode cX6_remember 20 = .ok (.imul, 1) := by decide +kernel
theorem dX6_remember_21 : decode cX6_remember 21 = .ok (.iload_n 1, 1) := by decide +kernel
theorem dX6_remember_22 : decode cX6_remember 22 = .ok (.iadd, 1) := by decide +kernel
theorem dX6_remember_23 : decode cX6_remember 23 = .ok (.aload_n 0, 1) := by decide +kernel
theorem dX6_remember_24 : decode cX6_remember 24 = .ok (.getfield 49, 3) := by decide +kernel
theorem dX6_remember_27 : decode cX6_remember 27 = .ok (.iload_n 1, 1) := by decide +kernel
theorem dX6_remember_28 : decode cX6_remember 28 = .ok (.iaload, 1) := by decide +kernel
theorem dX6_remember_29 : decode cX6_remember 29 = .ok (.iastore, 1) := by decide +kernel
theorem dX6_remember_30 : decode cX6_remember 30 = .ok (.iinc 1 1, 3) := by decide +kernel
theorem dX6_remember_33 : decode cX6_remember 33 = .ok (.goto (-31), 3) := by decide +kernel
theorem dX6_remember_36 : decode cX6_remember 36 = .ok (.aload_n 0, 1) := by decide +kernel
theorem dX6_remember_37 : decode cX6_remember 37 = .ok (.aload_n 0, 1) := by decide +kernel
theorem dX6_remember_38 : decode cX6_remember 38 = .ok (.getfield 205, 3) := by decide +kernel
theorem dX6_remember_41 : decode cX6_remember 41 = .ok (.iconst 1, 1) := by decide +kernel
theorem dX6_remember_42 : decode cX6_remember 42 = .ok (.iadd, 1) := by decide +kernel
theorem dX6_remember_43 : decode cX6_remember 43 = .ok (.bipush 12, 2) := by decide +kernel
theorem dX6_remember_45 : decode cX6_remember 45 = .ok (.irem, 1) := by decide +kernel
theorem dX6_remember_46 : decode cX6_remember 46 = .ok (.putfield 205, 3) := by decide +kernel
theorem dX6_remember_49 : decode cX6_remember 49 = .ok (.aload_n 0, 1) := by decide +kernel
theorem dX6_remember_50 : decode cX6_remember 50 = .ok (.dup, 1) := by decide +kernel
theorem dX6_remember_51 : decode cX6_remember 51 = .ok (.getfield 152, 3) := by decide +kernel
theorem dX6_remember_54 : decode cX6_remember 54 = .ok (.aload_n 0, 1) := by decide +kernel
theorem dX6_remember_55 : decode cX6_remember 55 = .ok (.getfield 152, 3) := by decide +kernel
theorem dX6_remember_58 : decode cX6_remember 58 = .ok (.bipush 12, 2) := by decide +kernel
theorem dX6_remember_60 : decode cX6_remember 60 = .ok (.if_icmp .ge 7, 3) := by decide +kernel
theorem dX6_remember_63 : decode cX6_remember 63 = .ok (.iconst 1, 1) := by decide +kernel
theorem dX6_remember_64 : decode cX6_remember 64 = .ok (.goto 4, 3) := by decide +kernel
theorem dX6_remember_67 : decode cX6_remember 67 = .ok (.iconst 0, 1) := by decide +kernel
theorem dX6_remember_68 : decode cX6_remember 68 = .ok (.iadd, 1) := by decide +kernel
theorem dX6_remember_69 : decode cX6_remember 69 = .ok (.putfield 152, 3) := by decide +kernel
theorem dX6_remember_72 : decode cX6_remember 72 = .ok (.return_, 1) := by decide +kernel
theorem dX6_ticks_0 : decode cX6_ticks 0 = .ok (.iload_n 1, 1) := by decide +kernel
theorem dX6_ticks_1 : decode cX6_ticks 1 = .ok (.iconst 1, 1) := by decide +kernel
theorem dX6_ticks_2 : decode cX6_ticks 2 = .ok (.bipush 12, 2) := by decide +kernel
theorem dX6_ticks_4 : decode cX6_ticks 4 = .ok (.invokestatic 80, 3) := by decide +kernel
theorem dX6_ticks_7 : decode cX6_ticks 7 = .ok (.ifCond .ne 5, 3) := by decide +kernel
theorem dX6_ticks_10 : decode cX6_ticks 10 = .ok (.iconst (-1), 1) := by decide +kernel
theorem dX6_ticks_11 : decode cX6_ticks 11 = .ok (.ireturn, 1) := by decide +kernel
theorem dX6_ticks_12 : decode cX6_ticks 12 = .ok (.aload_n 0, 1) := by decide +kernel
theorem dX6_ticks_13 : decode cX6_ticks 13 = .ok (.getfield 49, 3) := by decide +kernel
theorem dX6_ticks_16 : decode cX6_ticks 16 = .ok (.iconst 0, 1) := by decide +kernel
theorem dX6_ticks_17 : decode cX6_ticks 17 = .ok (.iconst 3, 1) := by decide +kernel
theorem dX6_ticks_18 : decode cX6_ticks 18 = .ok (.invokestatic 165, 3) := by decide +kernel
theorem dX6_ticks_21 : decode cX6_ticks 21 = .ok (.ifCond .eq 6, 3) := by decide +kernel
theorem dX6_ticks_24 : decode cX6_ticks 24 = .ok (.bipush (-2), 2) := by decide +kernel
theorem dX6_ticks_26 : decode cX6_ticks 26 = .ok (.ireturn, 1) := by decide +kernel
theorem dX6_ticks_27 : decode cX6_ticks 27 = .ok (.aload_n 0, 1) := by decide +kernel
theorem dX6_ticks_28 : decode cX6_ticks 28 = .ok (.getfield 49, 3) := by decide +kernel
theorem dX6_ticks_31 : decode cX6_ticks 31 = .ok (.sipush 144, 3) := by decide +kernel
theorem dX6_ticks_34 : decode cX6_ticks 34 = .ok (.iaload, 1) := by decide +kernel
theorem dX6_ticks_35 : decode cX6_ticks 35 = .ok (.iload_n 1, 1) := by decide +kernel
theorem dX6_ticks_36 : decode cX6_ticks 36 = .ok (.iadd, 1) := by decide +kernel
theorem dX6_ticks_37 : decode cX6_ticks 37 = .ok (.sipush 999, 3) := by decide +kernel
theorem dX6_ticks_40 : decode cX6_ticks 40 = .ok (.if_icmp .le 6, 3) := by decide +kernel
theorem dX6_ticks_43 : decode cX6_ticks 43 = .ok (.bipush (-3), 2) := by decide +kernel
theorem dX6_ticks_45 : decode cX6_ticks 45 = .ok (.ireturn, 1) := by decide +kernel
theorem dX6_ticks_46 : decode cX6_ticks 46 = .ok (.iconst 0, 1) := by decide +kernel
theorem dX6_ticks_47 : decode cX6_ticks 47 = .ok (.istore_n 2, 1) := by decide +kernel
theorem dX6_ticks_48 : decode cX6_ticks 48 = .ok (.iload_n 2, 1) := by decide +kernel
theorem dX6_ticks_49 : decode cX6_ticks 49 = .ok (.iload_n 1, 1) := by decide +kernel
theorem dX6_ticks_50 : decode cX6_ticks 50 = .ok (.if_icmp .ge 33, 3) := by decide +kernel
theorem dX6_ticks_53 : decode cX6_ticks 53 = .ok (.aload_n 0, 1) := by decide +kernel
theorem dX6_ticks_54 : decode cX6_ticks 54 = .ok (.getfield 49, 3) := by decide +kernel
theorem dX6_ticks_57 : decode cX6_ticks 57 = .ok (.iconst 0, 1) := by decide +kernel
theorem dX6_ticks_58 : decode cX6_ticks 58 = .ok (.iconst 3, 1) := by decide +kernel
theorem dX6_ticks_59 : decode cX6_ticks 59 = .ok (.invokestatic 165, 3) := by decide +kernel
theorem dX6_ticks_62 : decode cX6_ticks 62 = .ok (.ifCond .ne 21, 3) := by decide +kernel
theorem dX6_ticks_65 : decode cX6_ticks 65 = .ok (.aload_n 0, 1) := by decide +kernel
theorem dX6_ticks_66 : decode cX6_ticks 66 = .ok (.invokevirtual 208, 3) := by decide +kernel
theorem dX6_ticks_69 : decode cX6_ticks 69 = .ok (.aload_n 0, 1) := by decide +kernel
theorem dX6_ticks_70 : decode cX6_ticks 70 = .ok (.aload_n 0, 1) := by decide +kernel
theorem dX6_ticks_71 : decode cX6_ticks 71 = .ok (.getfield 49, 3) := by decide +kernel
theorem dX6_ticks_74 : decode cX6_ticks 74 = .ok (.invokevirtual 211, 3) := by decide +kernel
theorem dX6_ticks_77 : decode cX6_ticks 77 = .ok (.iinc 2 1, 3) := by decide +kernel
theorem dX6_ticks_80 : decode cX6_ticks 80 = .ok (.goto (-32), 3) := by decide +kernel
theorem dX6_ticks_83 : decode cX6_ticks 83 = .ok (.aload_n 0, 1) := by decide +kernel
theorem dX6_ticks_84 : decode cX6_ticks 84 = .ok (.getfield 49, 3) := by decide +kernel
theorem dX6_ticks_87 : decode cX6_ticks 87 = .ok (.sipush 144, 3) := by decide +kernel
theorem dX6_ticks_90 : decode cX6_ticks 90 = .ok (.iaload, 1) := by decide +kernel
theorem dX6_ticks_91 : decode cX6_ticks 91 = .ok (.ireturn, 1) := by decide +kernel
theorem dX6_asks_0 : decode cX6_asks 0 = .ok (.aload_n 0, 1) := by decide +kernel
theorem dX6_asks_1 : decode cX6_asks 1 = .ok (.iload_n 1, 1) := by decide +kernel
theorem dX6_asks_2 : decode cX6_asks 2 = .ok (.invokevirtual 214, 3) := by decide +kernel
theorem dX6_asks_5 : decode cX6_asks 5 = .ok (.ifCond .ne 5, 3) := by decide +kernel
theorem dX6_asks_8 : decode cX6_asks 8 = .ok (.iconst (-1), 1) := by decide +kernel
theorem dX6_asks_9 : decode cX6_asks 9 = .ok (.ireturn, 1) := by decide +kernel
theorem dX6_asks_10 : decode cX6_asks 10 = .ok (.aload_n 0, 1) := by decide +kernel
theorem dX6_asks_11 : decode cX6_asks 11 = .ok (.getfield 49, 3) := by decide +kernel
theorem dX6_asks_14 : decode cX6_asks 14 = .ok (.iload_n 1, 1) := by decide +kernel
theorem dX6_asks_15 : decode cX6_asks 15 = .ok (.iconst 1, 1) := by decide +kernel
theorem dX6_asks_16 : decode cX6_asks 16 = .ok (.invokestatic 165, 3) := by decide +kernel
theorem dX6_asks_19 : decode cX6_asks 19 = .ok (.ifCond .eq 16, 3) := by decide +kernel
theorem dX6_asks_22 : decode cX6_asks 22 = .ok (.aload_n 0, 1) := by decide +kernel
theorem dX6_asks_23 : decode cX6_asks 23 = .ok (.getfield 49, 3) := by decide +kernel
theorem dX6_asks_26 : decode cX6_asks 26 = .ok (.iload_n 1, 1) := by decide +kernel
theorem dX6_asks_27 : decode cX6_asks 27 = .ok (.iconst 5, 1) := by decide +kernel
theorem dX6_asks_28 : decode cX6_asks 28 = .ok (.invokestatic 161, 3) := by decide +kernel
theorem dX6_asks_31 : decode cX6_asks 31 = .ok (.iconst 1, 1) := by decide +kernel
theorem dX6_asks_32 : decode cX6_asks 32 = .ok (.if_icmp .ne 6, 3) := by decide +kernel
theorem dX6_asks_35 : decode cX6_asks 35 = .ok (.bipush (-2), 2) := by decide +kernel
theorem dX6_asks_37 : decode cX6_asks 37 = .ok (.ireturn, 1) := by decide +kernel
theorem dX6_asks_38 : decode cX6_asks 38 = .ok (.aload_n 0, 1) := by decide +kernel
theorem dX6_asks_39 : decode cX6_asks 39 = .ok (.invokevirtual 208, 3) := by decide +kernel
theorem dX6_asks_42 : decode cX6_asks 42 = .ok (.aload_n 0, 1) := by decide +kernel
theorem dX6_asks_43 : decode cX6_asks 43 = .ok (.getfield 49, 3) := by decide +kernel
theorem dX6_asks_46 : decode cX6_asks 46 = .ok (.bipush 18, 2) := by decide +kernel
theorem dX6_asks_48 : decode cX6_asks 48 = .ok (.iload_n 1, 1) := by decide +kernel
theorem dX6_asks_49 : decode cX6_asks 49 = .ok (.imul, 1) := by decide +kernel
theorem dX6_asks_50 : decode cX6_asks 50 = .ok (.iconst 5, 1) := by decide +kernel
theorem dX6_asks_51 : decode cX6_asks 51 = .ok (.iadd, 1) := by decide +kernel
theorem dX6_asks_52 : decode cX6_asks 52 = .ok (.iconst 1, 1) := by decide +kernel
theorem dX6_asks_53 : decode cX6_asks 53 = .ok (.iastore, 1) := by decide +kernel
theorem dX6_asks_54 : decode cX6_asks 54 = .ok (.aload_n 0, 1) := by decide +kernel
theorem dX6_asks_55 : decode cX6_asks 55 = .ok (.getfield 49, 3) := by decide +kernel
theorem dX6_asks_58 : decode cX6_asks 58 = .ok (.iload_n 1, 1) := by decide +kernel
theorem dX6_asks_59 : decode cX6_asks 59 = .ok (.iconst 2, 1) := by decide +kernel
theorem dX6_asks_60 : decode cX6_asks 60 = .ok (.invokestatic 161, 3) := by decide +kernel
theorem dX6_asks_63 : decode cX6_asks 63 = .ok (.ireturn, 1) := by decide +kernel
theorem dX6_undo_0 : decode cX6_undo 0 = .ok (.aload_n 0, 1) := by decide +kernel
theorem dX6_undo_1 : decode cX6_undo 1 = .ok (.getfield 152, 3) := by decide +kernel
theorem dX6_undo_4 : decode cX6_undo 4 = .ok (.ifCond .ne 6, 3) := by decide +kernel
theorem dX6_undo_7 : decode cX6_undo 7 = .ok (.bipush (-2), 2) := by decide +kernel
theorem dX6_undo_9 : decode cX6_undo 9 = .ok (.ireturn, 1) := by decide +kernel
theorem dX6_undo_10 : decode cX6_undo 10 = .ok (.aload_n 0, 1) := by decide +kernel
theorem dX6_undo_11 : decode cX6_undo 11 = .ok (.aload_n 0, 1) := by decide +kernel
theorem dX6_undo_12 : decode cX6_undo 12 = .ok (.getfield 205, 3) := by decide +kernel
theorem dX6_undo_15 : decode cX6_undo 15 = .ok (.bipush 12, 2) := by decide +kernel
theorem dX6_undo_17 : decode cX6_undo 17 = .ok (.iadd, 1) := by decide +kernel
theorem dX6_undo_18 : decode cX6_undo 18 = .ok (.iconst 1, 1) := by decide +kernel
theorem dX6_undo_19 : decode cX6_undo 19 = .ok (.isub, 1) := by decide +kernel
theorem dX6_undo_20 : decode cX6_undo 20 = .ok (.bipush 12, 2) := by decide +kernel
theorem dX6_undo_22 : decode cX6_undo 22 = .ok (.irem, 1) := by decide +kernel
theorem dX6_undo_23 : decode cX6_undo 23 = .ok (.putfield 205, 3) := by decide +kernel
theorem dX6_undo_26 : decode cX6_undo 26 = .ok (.aload_n 0, 1) := by decide +kernel
theorem dX6_undo_27 : decode cX6_undo 27 = .ok (.dup, 1) := by decide +kernel
theorem dX6_undo_28 : decode cX6_undo 28 = .ok (.getfield 152, 3) := by decide +kernel
theorem dX6_undo_31 : decode cX6_undo 31 = .ok (.iconst 1, 1) := by decide +kernel
theorem dX6_undo_32 : decode cX6_undo 32 = .ok (.isub, 1) := by decide +kernel
theorem dX6_undo_33 : decode cX6_undo 33 = .ok (.putfield 152, 3) := by decide +kernel
theorem dX6_undo_36 : decode cX6_undo 36 = .ok (.iconst 0, 1) := by decide +kernel
theorem dX6_undo_37 : decode cX6_undo 37 = .ok (.istore_n 1, 1) := by decide +kernel
theorem dX6_undo_38 : decode cX6_undo 38 = .ok (.iload_n 1, 1) := by decide +kernel
theorem dX6_undo_39 : decode cX6_undo 39 = .ok (.sipush 326, 3) := by decide +kernel
theorem dX6_undo_42 : decode cX6_undo 42 = .ok (.if_icmp .ge 30, 3) := by decide +kernel
theorem dX6_undo_45 : decode cX6_undo 45 = .ok (.aload_n 0, 1) := by decide +kernel
theorem dX6_undo_46 : decode cX6_undo 46 = .ok (.getfield 49, 3) := by decide +kernel
theorem dX6_undo_49 : decode cX6_undo 49 = .ok (.iload_n 1, 1) := by decide +kernel
theorem dX6_undo_50 : decode cX6_undo 50 = .ok (.aload_n 0, 1) := by decide +kernel
theorem dX6_undo_51 : decode cX6_undo 51 = .ok (.getfield 55, 3) := by decide +kernel
theorem dX6_undo_54 : decode cX6_undo 54 = .ok (.sipush 326, 3) := by decide +kernel
theorem dX6_undo_57 : decode cX6_undo 57 = .ok (.aload_n 0, 1) := by decide +kernel
theorem dX6_undo_58 : decode cX6_undo 58 = .ok (.getfield 205, 3) := by decide +kernel
theorem dX6_undo_61 : decode cX6_undo 61 = .ok (.imul, 1) := by decide +kernel
theorem dX6_undo_62 : decode cX6_undo 62 = .ok (.iload_n 1, 1) := by decide +kernel
theorem dX6_undo_63 : decode cX6_undo 63 = .ok (.iadd, 1) := by decide +kernel
theorem dX6_undo_64 : decode cX6_undo 64 = .ok (.iaload, 1) := by decide +kernel
theorem dX6_undo_65 : decode cX6_undo 65 = .ok (.iastore, 1) := by decide +kernel
theorem dX6_undo_66 : decode cX6_undo 66 = .ok (.iinc 1 1, 3) := by decide +kernel
theorem dX6_undo_69 : decode cX6_undo 69 = .ok (.goto (-31), 3) := by decide +kernel
theorem dX6_undo_72 : decode cX6_undo 72 = .ok (.aload_n 0, 1) := by decide +kernel
theorem dX6_undo_73 : decode cX6_undo 73 = .ok (.getfield 152, 3) := by decide +kernel
theorem dX6_undo_76 : decode cX6_undo 76 = .ok (.ireturn, 1) := by decide +kernel
theorem dX6_busySet_0 : decode cX6_busySet 0 = .ok (.iconst 0, 1) := by decide +kernel
theorem dX6_busySet_1 : decode cX6_busySet 1 = .ok (.istore_n 2, 1) := by decide +kernel
theorem dX6_busySet_2 : decode cX6_busySet 2 = .ok (.iconst 1, 1) := by decide +kernel
theorem dX6_busySet_3 : decode cX6_busySet 3 = .ok (.istore_n 3, 1) := by decide +kernel
theorem dX6_busySet_4 : decode cX6_busySet 4 = .ok (.iload_n 3, 1) := by decide +kernel
theorem dX6_busySet_5 : decode cX6_busySet 5 = .ok (.aload_n 0, 1) := by decide +kernel
theorem dX6_busySet_6 : decode cX6_busySet 6 = .ok (.getfield 142, 3) := by decide +kernel
theorem dX6_busySet_9 : decode cX6_busySet 9 = .ok (.if_icmp .ge 53, 3) := by decide +kernel
theorem dX6_busySet_12 : decode cX6_busySet 12 = .ok (.iload_n 2, 1) := by decide +kernel
theorem dX6_busySet_13 : decode cX6_busySet 13 = .ok (.aload_n 0, 1) := by decide +kernel
theorem dX6_busySet_14 : decode cX6_busySet 14 = .ok (.getfield 31, 3) := by decide +kernel
theorem dX6_busySet_17 : decode cX6_busySet 17 = .ok (.iload_n 3, 1) := by decide +kernel
theorem dX6_busySet_18 : decode cX6_busySet 18 = .ok (.iaload, 1) := by decide +kernel
theorem dX6_busySet_19 : decode cX6_busySet 19 = .ok (.iload_n 1, 1) := by decide +kernel
theorem dX6_busySet_20 : decode cX6_busySet 20 = .ok (.if_icmp .ne 33, 3) := by decide +kernel
theorem dX6_busySet_23 : decode cX6_busySet 23 = .ok (.aload_n 0, 1) := by decide +kernel
theorem dX6_busySet_24 : decode cX6_busySet 24 = .ok (.getfield 49, 3) := by decide +kernel
theorem dX6_busySet_27 : decode cX6_busySet 27 = .ok (.iload_n 3, 1) := by decide +kernel
theorem dX6_busySet_28 : decode cX6_busySet 28 = .ok (.iconst 1, 1) := by decide +kernel
theorem dX6_busySet_29 : decode cX6_busySet 29 = .ok (.invokestatic 165, 3) := by decide +kernel
theorem dX6_busySet_32 : decode cX6_busySet 32 = .ok (.ifCond .ne 15, 3) := by decide +kernel
theorem dX6_busySet_35 : decode cX6_busySet 35 = .ok (.aload_n 0, 1) := by decide +kernel
theorem dX6_busySet_36 : decode cX6_busySet 36 = .ok (.getfield 49, 3) := by decide +kernel
theorem dX6_busySet_39 : decode cX6_busySet 39 = .ok (.iload_n 3, 1) := by decide +kernel
theorem dX6_busySet_40 : decode cX6_busySet 40 = .ok (.iconst 2, 1) := by decide +kernel
theorem dX6_busySet_41 : decode cX6_busySet 41 = .ok (.invokestatic 165, 3) := by decide +kernel
theorem dX6_busySet_44 : decode cX6_busySet 44 = .ok (.ifCond .eq 9, 3) := by decide +kernel
theorem dX6_busySet_47 : decode cX6_busySet 47 = .ok (.iconst 1, 1) := by decide +kernel
theorem dX6_busySet_48 : decode cX6_busySet 48 = .ok (.iload_n 3, 1) := by decide +kernel
theorem dX6_busySet_49 : decode cX6_busySet 49 = .ok (.ishl, 1) := by decide +kernel
theorem dX6_busySet_50 : decode cX6_busySet 50 = .ok (.goto 4, 3) := by decide +kernel
theorem dX6_busySet_53 : decode cX6_busySet 53 = .ok (.iconst 0, 1) := by decide +kernel
theorem dX6_busySet_54 : decode cX6_busySet 54 = .ok (.ior, 1) := by decide +kernel
theorem dX6_busySet_55 : decode cX6_busySet 55 = .ok (.istore_n 2, 1) := by decide +kernel
theorem dX6_busySet_56 : decode cX6_busySet 56 = .ok (.iinc 3 1, 3) := by decide +kernel
theorem dX6_busySet_59 : decode cX6_busySet 59 = .ok (.goto (-55), 3) := by decide +kernel
theorem dX6_busySet_62 : decode cX6_busySet 62 = .ok (.iload_n 2, 1) := by decide +kernel
theorem dX6_busySet_63 : decode cX6_busySet 63 = .ok (.ireturn, 1) := by decide +kernel
theorem dX6_task_0 : decode cX6_task 0 = .ok (.aload_n 0, 1) := by decide +kernel
theorem dX6_task_1 : decode cX6_task 1 = .ok (.iload_n 1, 1) := by decide +kernel
theorem dX6_task_2 : decode cX6_task 2 = .ok (.invokevirtual 214, 3) := by decide +kernel
theorem dX6_task_5 : decode cX6_task 5 = .ok (.ifCond .eq 13, 3) := by decide +kernel
theorem dX6_task_8 : decode cX6_task 8 = .ok (.iload_n 2, 1) := by decide +kernel
theorem dX6_task_9 : decode cX6_task 9 = .ok (.iconst 0, 1) := by decide +kernel
theorem dX6_task_10 : decode cX6_task 10 = .ok (.bipush 7, 2) := by decide +kernel
theorem dX6_task_12 : decode cX6_task 12 = .ok (.invokestatic 80, 3) := by decide +kernel
theorem dX6_task_15 : decode cX6_task 15 = .ok (.ifCond .ne 5, 3) := by decide +kernel
theorem dX6_task_18 : decode cX6_task 18 = .ok (.iconst (-1), 1) := by decide +kernel
theorem dX6_task_19 : decode cX6_task 19 = .ok (.ireturn, 1) := by decide +kernel
theorem dX6_task_20 : decode cX6_task 20 = .ok (.iload_n 2, 1) := by decide +kernel
theorem dX6_task_21 : decode cX6_task 21 = .ok (.tableswitch 143 0 6 #[43, 50, 60, 70, 80, 122, 132], 43) := by decide +kernel
theorem dX6_task_64 : decode cX6_task 64 = .ok (.aload_n 0, 1) := by decide +kernel
theorem dX6_task_65 : decode cX6_task 65 = .ok (.getfield 31, 3) := by decide +kernel
theorem dX6_task_68 : decode cX6_task 68 = .ok (.iload_n 1, 1) := by decide +kernel
theorem dX6_task_69 : decode cX6_task 69 = .ok (.iaload, 1) := by decide +kernel
theorem dX6_task_70 : decode cX6_task 70 = .ok (.ireturn, 1) := by decide +kernel
theorem dX6_task_71 : decode cX6_task 71 = .ok (.aload_n 0, 1) := by decide +kernel
theorem dX6_task_72 : decode cX6_task 72 = .ok (.getfield 49, 3) := by decide +kernel
theorem dX6_task_75 : decode cX6_task 75 = .ok (.iload_n 1, 1) := by decide +kernel
theorem dX6_task_76 : decode cX6_task 76 = .ok (.iconst 0, 1) := by decide +kernel
theorem dX6_task_77 : decode cX6_task 77 = .ok (.invokestatic 161, 3) := by decide +kernel
theorem dX6_task_80 : decode cX6_task 80 = .ok (.ireturn, 1) := by decide +kernel
theorem dX6_task_81 : decode cX6_task 81 = .ok (.aload_n 0, 1) := by decide +kernel
theorem dX6_task_82 : decode cX6_task 82 = .ok (.getfield 49, 3) := by decide +kernel
theorem dX6_task_85 : decode cX6_task 85 = .ok (.iload_n 1, 1) := by decide +kernel
theorem dX6_task_86 : decode cX6_task 86 = .ok (.iconst 1, 1) := by decide +kernel
theorem dX6_task_87 : decode cX6_task 87 = .ok (.invokestatic 161, 3) := by decide +kernel
theorem dX6_task_90 : decode cX6_task 90 = .ok (.ireturn, 1) := by decide +kernel
theorem dX6_task_91 : decode cX6_task 91 = .ok (.aload_n 0, 1) := by decide +kernel
theorem dX6_task_92 : decode cX6_task 92 = .ok (.getfield 49, 3) := by decide +kernel
theorem dX6_task_95 : decode cX6_task 95 = .ok (.iload_n 1, 1) := by decide +kernel
theorem dX6_task_96 : decode cX6_task 96 = .ok (.iconst 2, 1) := by decide +kernel
theorem dX6_task_97 : decode cX6_task 97 = .ok (.invokestatic 161, 3) := by decide +kernel
theorem dX6_task_100 : decode cX6_task 100 = .ok (.ireturn, 1) := by decide +kernel
theorem dX6_task_101 : decode cX6_task 101 = .ok (.aload_n 0, 1) := by decide +kernel
theorem dX6_task_102 : decode cX6_task 102 = .ok (.getfield 49, 3) := by decide +kernel
theorem dX6_task_105 : decode cX6_task 105 = .ok (.iload_n 1, 1) := by decide +kernel
theorem dX6_task_106 : decode cX6_task 106 = .ok (.iconst 0, 1) := by decide +kernel
theorem dX6_task_107 : decode cX6_task 107 = .ok (.invokestatic 165, 3) := by decide +kernel
theorem dX6_task_110 : decode cX6_task 110 = .ok (.ifCond .ne 18, 3) := by decide +kernel
theorem dX6_task_113 : decode cX6_task 113 = .ok (.aload_n 0, 1) := by decide +kernel
theorem dX6_task_114 : decode cX6_task 114 = .ok (.getfield 49, 3) := by decide +kernel
theorem dX6_task_117 : decode cX6_task 117 = .ok (.iload_n 1, 1) := by decide +kernel
theorem dX6_task_118 : decode cX6_task 118 = .ok (.iconst 4, 1) := by decide +kernel
theorem dX6_task_119 : decode cX6_task 119 = .ok (.invokestatic 161, 3) := by decide +kernel
theorem dX6_task_122 : decode cX6_task 122 = .ok (.sipush 9999, 3) := by decide +kernel
theorem dX6_task_125 : decode cX6_task 125 = .ok (.if_icmp .ne 8, 3) := by decide +kernel
theorem dX6_task_128 : decode cX6_task 128 = .ok (.bipush (-9), 2) := by decide +kernel
theorem dX6_task_130 : decode cX6_task 130 = .ok (.goto 12, 3) := by decide +kernel
theorem dX6_task_133 : decode cX6_task 133 = .ok (.aload_n 0, 1) := by decide +kernel
theorem dX6_task_134 : decode cX6_task 134 = .ok (.getfield 49, 3) := by decide +kernel
theorem dX6_task_137 : decode cX6_task 137 = .ok (.iload_n 1, 1) := by decide +kernel
theorem dX6_task_138 : decode cX6_task 138 = .ok (.iconst 4, 1) := by decide +kernel
theorem dX6_task_139 : decode cX6_task 139 = .ok (.invokestatic 161, 3) := by decide +kernel
theorem dX6_task_142 : decode cX6_task 142 = .ok (.ireturn, 1) := by decide +kernel
theorem dX6_task_143 : decode cX6_task 143 = .ok (.aload_n 0, 1) := by decide +kernel
theorem dX6_task_144 : decode cX6_task 144 = .ok (.getfield 49, 3) := by decide +kernel
theorem dX6_task_147 : decode cX6_task 147 = .ok (.iload_n 1, 1) := by decide +kernel
theorem dX6_task_148 : decode cX6_task 148 = .ok (.iconst 5, 1) := by decide +kernel
theorem dX6_task_149 : decode cX6_task 149 = .ok (.invokestatic 161, 3) := by decide +kernel
theorem dX6_task_152 : decode cX6_task 152 = .ok (.ireturn, 1) := by decide +kernel
theorem dX6_task_153 : decode cX6_task 153 = .ok (.aload_n 0, 1) := by decide +kernel
theorem dX6_task_154 : decode cX6_task 154 = .ok (.getfield 49, 3) := by decide +kernel
theorem dX6_task_157 : decode cX6_task 157 = .ok (.iload_n 1, 1) := by decide +kernel
theorem dX6_task_158 : decode cX6_task 158 = .ok (.bipush 9, 2) := by decide +kernel
theorem dX6_task_160 : decode cX6_task 160 = .ok (.invokestatic 161, 3) := by decide +kernel
theorem dX6_task_163 : decode cX6_task 163 = .ok (.ireturn, 1) := by decide +kernel
theorem dX6_task_164 : decode cX6_task 164 = .ok (.aload_n 0, 1) := by decide +kernel
theorem dX6_task_165 : decode cX6_task 165 = .ok (.iload_n 1, 1) := by decide +kernel
theorem dX6_task_166 : decode cX6_task 166 = .ok (.invokevirtual 217, 3) := by decide +kernel
theorem dX6_task_169 : decode cX6_task 169 = .ok (.ireturn, 1) := by decide +kernel
theorem dX6_failure_0 : decode cX6_failure 0 = .ok (.aload_n 0, 1) := by decide +kernel
theorem dX6_failure_1 : decode cX6_failure 1 = .ok (.iload_n 1, 1) := by decide +kernel
theorem dX6_failure_2 : decode cX6_failure 2 = .ok (.invokevirtual 214, 3) := by decide +kernel
theorem dX6_failure_5 : decode cX6_failure 5 = .ok (.ifCond .eq 7, 3) := by decide +kernel
theorem dX6_failure_8 : decode cX6_failure 8 = .ok (.iload_n 2, 1) := by decide +kernel
theorem dX6_failure_9 : decode cX6_failure 9 = .ok (.ifCond .ge 5, 3) := by decide +kernel
theorem dX6_failure_12 : decode cX6_failure 12 = .ok (.iconst (-1), 1) := by decide +kernel
theorem dX6_failure_13 : decode cX6_failure 13 = .ok (.ireturn, 1) := by decide +kernel
theorem dX6_failure_14 : decode cX6_failure 14 = .ok (.iload_n 2, 1) := by decide +kernel
theorem dX6_failure_15 : decode cX6_failure 15 = .ok (.aload_n 0, 1) := by decide +kernel
theorem dX6_failure_16 : decode cX6_failure 16 = .ok (.getfield 49, 3) := by decide +kernel
theorem dX6_failure_19 : decode cX6_failure 19 = .ok (.iload_n 1, 1) := by decide +kernel
theorem dX6_failure_20 : decode cX6_failure 20 = .ok (.bipush 9, 2) := by decide +kernel
theorem dX6_failure_22 : decode cX6_failure 22 = .ok (.invokestatic 161, 3) := by decide +kernel
theorem dX6_failure_25 : decode cX6_failure 25 = .ok (.if_icmp .ge 18, 3) := by decide +kernel
theorem dX6_failure_28 : decode cX6_failure 28 = .ok (.aload_n 0, 1) := by decide +kernel
theorem dX6_failure_29 : decode cX6_failure 29 = .ok (.getfield 49, 3) := by decide +kernel
theorem dX6_failure_32 : decode cX6_failure 32 = .ok (.iload_n 1, 1) := by decide +kernel
theorem dX6_failure_33 : decode cX6_failure 33 = .ok (.bipush 10, 2) := by decide +kernel
theorem dX6_failure_35 : decode cX6_failure 35 = .ok (.iload_n 2, 1) := by decide +kernel
theorem dX6_failure_36 : decode cX6_failure 36 = .ok (.iadd, 1) := by decide +kernel
theorem dX6_failure_37 : decode cX6_failure 37 = .ok (.invokestatic 161, 3) := by decide +kernel
theorem dX6_failure_40 : decode cX6_failure 40 = .ok (.goto 5, 3) := by decide +kernel
theorem dX6_failure_43 : decode cX6_failure 43 = .ok (.bipush (-9), 2) := by decide +kernel
theorem dX6_failure_45 : decode cX6_failure 45 = .ok (.ireturn, 1) := by decide +kernel
theorem dX6_trace_0 : decode cX6_trace 0 = .ok (.iload_n 1, 1) := by decide +kernel
theorem dX6_trace_1 : decode cX6_trace 1 = .ok (.ifCond .lt 12, 3) := by decide +kernel
theorem dX6_trace_4 : decode cX6_trace 4 = .ok (.iload_n 2, 1) := by decide +kernel
theorem dX6_trace_5 : decode cX6_trace 5 = .ok (.iconst 0, 1) := by decide +kernel
theorem dX6_trace_6 : decode cX6_trace 6 = .ok (.iconst 2, 1) := by decide +kernel
theorem dX6_trace_7 : decode cX6_trace 7 = .ok (.invokestatic 80, 3) := by decide +kernel
theorem dX6_trace_10 : decode cX6_trace 10 = .ok (.ifCond .ne 5, 3) := by decide +kernel
theorem dX6_trace_13 : decode cX6_trace 13 = .ok (.iconst (-1), 1) := by decide +kernel
theorem dX6_trace_14 : decode cX6_trace 14 = .ok (.ireturn, 1) := by decide +kernel
theorem dX6_trace_15 : decode cX6_trace 15 = .ok (.iload_n 1, 1) := by decide +kernel
theorem dX6_trace_16 : decode cX6_trace 16 = .ok (.aload_n 0, 1) := by decide +kernel
theorem dX6_trace_17 : decode cX6_trace 17 = .ok (.getfield 49, 3) := by decide +kernel
theorem dX6_trace_20 : decode cX6_trace 20 = .ok (.sipush 145, 3) := by decide +kernel
theorem dX6_trace_23 : decode cX6_trace 23 = .ok (.iaload, 1) := by decide +kernel
theorem dX6_trace_24 : decode cX6_trace 24 = .ok (.if_icmp .ge 20, 3) := by decide +kernel
theorem dX6_trace_27 : decode cX6_trace 27 = .ok (.aload_n 0, 1) := by decide +kernel
theorem dX6_trace_28 : decode cX6_trace 28 = .ok (.getfield 49, 3) := by decide +kernel
theorem dX6_trace_31 : decode cX6_trace 31 = .ok (.sipush 146, 3) := by decide +kernel
theorem dX6_trace_34 : decode cX6_trace 34 = .ok (.iconst 3, 1) := by decide +kernel
theorem dX6_trace_35 : decode cX6_trace 35 = .ok (.iload_n 1, 1) := by decide +kernel
theorem dX6_trace_36 : decode cX6_trace 36 = .ok (.imul, 1) := by decide +kernel
theorem dX6_trace_37 : decode cX6_trace 37 = .ok (.iadd, 1) := by decide +kernel
theorem dX6_trace_38 : decode cX6_trace 38 = .ok (.iload_n 2, 1) := by decide +kernel
theorem dX6_trace_39 : decode cX6_trace 39 = .ok (.iadd, 1) := by decide +kernel
theorem dX6_trace_40 : decode cX6_trace 40 = .ok (.iaload, 1) := by decide +kernel
theorem dX6_trace_41 : decode cX6_trace 41 = .ok (.goto 5, 3) := by decide +kernel
theorem dX6_trace_44 : decode cX6_trace 44 = .ok (.bipush (-9), 2) := by decide +kernel
theorem dX6_trace_46 : decode cX6_trace 46 = .ok (.ireturn, 1) := by decide +kernel
theorem dX6_goesOn_0 : decode cX6_goesOn 0 = .ok (.iconst 0, 1) := by decide +kernel
theorem dX6_goesOn_1 : decode cX6_goesOn 1 = .ok (.istore_n 2, 1) := by decide +kernel
theorem dX6_goesOn_2 : decode cX6_goesOn 2 = .ok (.iload_n 2, 1) := by decide +kernel
theorem dX6_goesOn_3 : decode cX6_goesOn 3 = .ok (.iload_n 1, 1) := by decide +kernel
theorem dX6_goesOn_4 : decode cX6_goesOn 4 = .ok (.if_icmp .ge 29, 3) := by decide +kernel
theorem dX6_goesOn_7 : decode cX6_goesOn 7 = .ok (.aload_n 0, 1) := by decide +kernel
theorem dX6_goesOn_8 : decode cX6_goesOn 8 = .ok (.getfield 52, 3) := by decide +kernel
theorem dX6_goesOn_11 : decode cX6_goesOn 11 = .ok (.iconst 0, 1) := by decide +kernel
theorem dX6_goesOn_12 : decode cX6_goesOn 12 = .ok (.iconst 3, 1) := by decide +kernel
theorem dX6_goesOn_13 : decode cX6_goesOn 13 = .ok (.invokestatic 165, 3) := by decide +kernel
theorem dX6_goesOn_16 : decode cX6_goesOn 16 = .ok (.ifCond .ne 17, 3) := by decide +kernel
theorem dX6_goesOn_19 : decode cX6_goesOn 19 = .ok (.aload_n 0, 1) := by decide +kernel
theorem dX6_goesOn_20 : decode cX6_goesOn 20 = .ok (.aload_n 0, 1) := by decide +kernel
theorem dX6_goesOn_21 : decode cX6_goesOn 21 = .ok (.getfield 52, 3) := by decide +kernel
theorem dX6_goesOn_24 : decode cX6_goesOn 24 = .ok (.invokevirtual 211, 3) := by decide +kernel
theorem dX6_goesOn_27 : decode cX6_goesOn 27 = .ok (.iinc 2 1, 3) := by decide +kernel
theorem dX6_goesOn_30 : decode cX6_goesOn 30 = .ok (.goto (-28), 3) := by decide +kernel
theorem dX6_goesOn_33 : decode cX6_goesOn 33 = .ok (.return_, 1) := by decide +kernel
theorem dX6_ends__0 : decode cX6_ends_ 0 = .ok (.aload_n 0, 1) := by decide +kernel
theorem dX6_ends__1 : decode cX6_ends_ 1 = .ok (.iload_n 1, 1) := by decide +kernel
theorem dX6_ends__2 : decode cX6_ends_ 2 = .ok (.invokevirtual 214, 3) := by decide +kernel
theorem dX6_ends__5 : decode cX6_ends_ 5 = .ok (.ifCond .eq 12, 3) := by decide +kernel
theorem dX6_ends__8 : decode cX6_ends_ 8 = .ok (.iload_n 2, 1) := by decide +kernel
theorem dX6_ends__9 : decode cX6_ends_ 9 = .ok (.iconst 0, 1) := by decide +kernel
theorem dX6_ends__10 : decode cX6_ends_ 10 = .ok (.iconst 1, 1) := by decide +kernel
theorem dX6_ends__11 : decode cX6_ends_ 11 = .ok (.invokestatic 80, 3) := by decide +kernel
theorem dX6_ends__14 : decode cX6_ends_ 14 = .ok (.ifCond .ne 5, 3) := by decide +kernel
theorem dX6_ends__17 : decode cX6_ends_ 17 = .ok (.iconst (-1), 1) := by decide +kernel
theorem dX6_ends__18 : decode cX6_ends_ 18 = .ok (.ireturn, 1) := by decide +kernel
theorem dX6_ends__19 : decode cX6_ends_ 19 = .ok (.aload_n 0, 1) := by decide +kernel
theorem dX6_ends__20 : decode cX6_ends_ 20 = .ok (.getfield 49, 3) := by decide +kernel
theorem dX6_ends__23 : decode cX6_ends_ 23 = .ok (.aload_n 0, 1) := by decide +kernel
theorem dX6_ends__24 : decode cX6_ends_ 24 = .ok (.getfield 52, 3) := by decide +kernel
theorem dX6_ends__27 : decode cX6_ends_ 27 = .ok (.invokestatic 221, 3) := by decide +kernel
theorem dX6_ends__30 : decode cX6_ends_ 30 = .ok (.aload_n 0, 1) := by decide +kernel
theorem dX6_ends__31 : decode cX6_ends_ 31 = .ok (.sipush 200, 3) := by decide +kernel
theorem dX6_ends__34 : decode cX6_ends_ 34 = .ok (.invokevirtual 225, 3) := by decide +kernel
theorem dX6_ends__37 : decode cX6_ends_ 37 = .ok (.aload_n 0, 1) := by decide +kernel
theorem dX6_ends__38 : decode cX6_ends_ 38 = .ok (.getfield 52, 3) := by decide +kernel
theorem dX6_ends__41 : decode cX6_ends_ 41 = .ok (.iload_n 1, 1) := by decide +kernel
theorem dX6_ends__42 : decode cX6_ends_ 42 = .ok (.iconst 3, 1) := by decide +kernel
theorem dX6_ends__43 : decode cX6_ends_ 43 = .ok (.invokestatic 165, 3) := by decide +kernel
theorem dX6_ends__46 : decode cX6_ends_ 46 = .ok (.ifCond .ne 8, 3) := by decide +kernel
theorem dX6_ends__49 : decode cX6_ends_ 49 = .ok (.bipush (-9), 2) := by decide +kernel
theorem dX6_ends__51 : decode cX6_ends_ 51 = .ok (.goto 21, 3) := by decide +kernel
theorem dX6_ends__54 : decode cX6_ends_ 54 = .ok (.aload_n 0, 1) := by decide +kernel
theorem dX6_ends__55 : decode cX6_ends_ 55 = .ok (.getfield 52, 3) := by decide +kernel
theorem dX6_ends__58 : decode cX6_ends_ 58 = .ok (.iload_n 1, 1) := by decide +kernel
theorem dX6_ends__59 : decode cX6_ends_ 59 = .ok (.iload_n 2, 1) := by decide +kernel
theorem dX6_ends__60 : decode cX6_ends_ 60 = .ok (.ifCond .ne 8, 3) := by decide +kernel
theorem dX6_ends__63 : decode cX6_ends_ 63 = .ok (.bipush 8, 2) := by decide +kernel
theorem dX6_ends__65 : decode cX6_ends_ 65 = .ok (.goto 4, 3) := by decide +kernel
theorem dX6_ends__68 : decode cX6_ends_ 68 = .ok (.iconst 1, 1) := by decide +kernel
theorem dX6_ends__69 : decode cX6_ends_ 69 = .ok (.invokestatic 161, 3) := by decide +kernel
theorem dX6_ends__72 : decode cX6_ends_ 72 = .ok (.ireturn, 1) := by decide +kernel
theorem dX6_wellBy_0 : decode cX6_wellBy 0 = .ok (.aload_n 0, 1) := by decide +kernel
theorem dX6_wellBy_1 : decode cX6_wellBy 1 = .ok (.getfield 40, 3) := by decide +kernel
theorem dX6_wellBy_4 : decode cX6_wellBy 4 = .ok (.iconst 0, 1) := by decide +kernel
theorem dX6_wellBy_5 : decode cX6_wellBy 5 = .ok (.iaload, 1) := by decide +kernel
theorem dX6_wellBy_6 : decode cX6_wellBy 6 = .ok (.istore_n 1, 1) := by decide +kernel
theorem dX6_wellBy_7 : decode cX6_wellBy 7 = .ok (.bipush (-9), 2) := by decide +kernel
theorem dX6_wellBy_9 : decode cX6_wellBy 9 = .ok (.istore_n 2, 1) := by decide +kernel
theorem dX6_wellBy_10 : decode cX6_wellBy 10 = .ok (.iconst 1, 1) := by decide +kernel
theorem dX6_wellBy_11 : decode cX6_wellBy 11 = .ok (.istore_n 3, 1) := by decide +kernel
theorem dX6_wellBy_12 : decode cX6_wellBy 12 = .ok (.iload_n 3, 1) := by decide +kernel
theorem dX6_wellBy_13 : decode cX6_wellBy 13 = .ok (.bipush 60, 2) := by decide +kernel
theorem dX6_wellBy_15 : decode cX6_wellBy 15 = .ok (.if_icmp .gt 65, 3) := by decide +kernel
theorem dX6_wellBy_18 : decode cX6_wellBy 18 = .ok (.iload_n 2, 1) := by decide +kernel
theorem dX6_wellBy_19 : decode cX6_wellBy 19 = .ok (.bipush (-9), 2) := by decide +kernel
theorem dX6_wellBy_21 : decode cX6_wellBy 21 = .ok (.if_icmp .ne 59, 3) := by decide +kernel
theorem dX6_wellBy_24 : decode cX6_wellBy 24 = .ok (.aload_n 0, 1) := by decide +kernel
theorem dX6_wellBy_25 : decode cX6_wellBy 25 = .ok (.getfield 40, 3) := by decide +kernel
theorem dX6_wellBy_28 : decode cX6_wellBy 28 = .ok (.iconst 0, 1) := by decide +kernel
theorem dX6_wellBy_29 : decode cX6_wellBy 29 = .ok (.iload_n 3, 1) := by decide +kernel
theorem dX6_wellBy_30 : decode cX6_wellBy 30 = .ok (.iastore, 1) := by decide +kernel
theorem dX6_wellBy_31 : decode cX6_wellBy 31 = .ok (.aload_n 0, 1) := by decide +kernel
theorem dX6_wellBy_32 : decode cX6_wellBy 32 = .ok (.aload_n 0, 1) := by decide +kernel
theorem dX6_wellBy_33 : decode cX6_wellBy 33 = .ok (.getfield 52, 3) := by decide +kernel
theorem dX6_wellBy_36 : decode cX6_wellBy 36 = .ok (.invokevirtual 148, 3) := by decide +kernel
theorem dX6_wellBy_39 : decode cX6_wellBy 39 = .ok (.aload_n 0, 1) := by decide +kernel
theorem dX6_wellBy_40 : decode cX6_wellBy 40 = .ok (.sipush 200, 3) := by decide +kernel
theorem dX6_wellBy_43 : decode cX6_wellBy 43 = .ok (.invokevirtual 225, 3) := by decide +kernel
theorem dX6_wellBy_46 : decode cX6_wellBy 46 = .ok (.aload_n 0, 1) := by decide +kernel
theorem dX6_wellBy_47 : decode cX6_wellBy 47 = .ok (.getfield 52, 3) := by decide +kernel
theorem dX6_wellBy_50 : decode cX6_wellBy 50 = .ok (.iconst 0, 1) := by decide +kernel
theorem dX6_wellBy_51 : decode cX6_wellBy 51 = .ok (.iconst 3, 1) := by decide +kernel
theorem dX6_wellBy_52 : decode cX6_wellBy 52 = .ok (.invokestatic 165, 3) := by decide +kernel
theorem dX6_wellBy_55 : decode cX6_wellBy 55 = .ok (.ifCond .eq 16, 3) := by decide +kernel
theorem dX6_wellBy_58 : decode cX6_wellBy 58 = .ok (.aload_n 0, 1) := by decide +kernel
theorem dX6_wellBy_59 : decode cX6_wellBy 59 = .ok (.getfield 52, 3) := by decide +kernel
theorem dX6_wellBy_62 : decode cX6_wellBy 62 = .ok (.iconst 1, 1) := by decide +kernel
theorem dX6_wellBy_63 : decode cX6_wellBy 63 = .ok (.iaload, 1) := by decide +kernel
theorem dX6_wellBy_64 : decode cX6_wellBy 64 = .ok (.ifCond .ne 7, 3) := by decide +kernel
theorem dX6_wellBy_67 : decode cX6_wellBy 67 = .ok (.iload_n 3, 1) := by decide +kernel
theorem dX6_wellBy_68 : decode cX6_wellBy 68 = .ok (.goto 5, 3) := by decide +kernel
theorem dX6_wellBy_71 : decode cX6_wellBy 71 = .ok (.bipush (-9), 2) := by decide +kernel
theorem dX6_wellBy_73 : decode cX6_wellBy 73 = .ok (.istore_n 2, 1) := by decide +kernel
theorem dX6_wellBy_74 : decode cX6_wellBy 74 = .ok (.iinc 3 1, 3) := by decide +kernel
theorem dX6_wellBy_77 : decode cX6_wellBy 77 = .ok (.goto (-65), 3) := by decide +kernel
theorem dX6_wellBy_80 : decode cX6_wellBy 80 = .ok (.aload_n 0, 1) := by decide +kernel
theorem dX6_wellBy_81 : decode cX6_wellBy 81 = .ok (.getfield 40, 3) := by decide +kernel
theorem dX6_wellBy_84 : decode cX6_wellBy 84 = .ok (.iconst 0, 1) := by decide +kernel
theorem dX6_wellBy_85 : decode cX6_wellBy 85 = .ok (.iload_n 1, 1) := by decide +kernel
theorem dX6_wellBy_86 : decode cX6_wellBy 86 = .ok (.iastore, 1) := by decide +kernel
theorem dX6_wellBy_87 : decode cX6_wellBy 87 = .ok (.iload_n 2, 1) := by decide +kernel
theorem dX6_wellBy_88 : decode cX6_wellBy 88 = .ok (.ireturn, 1) := by decide +kernel
theorem dX6_spares_0 : decode cX6_spares 0 = .ok (.aload_n 0, 1) := by decide +kernel
theorem dX6_spares_1 : decode cX6_spares 1 = .ok (.iload_n 1, 1) := by decide +kernel
theorem dX6_spares_2 : decode cX6_spares 2 = .ok (.invokevirtual 214, 3) := by decide +kernel
theorem dX6_spares_5 : decode cX6_spares 5 = .ok (.ifCond .eq 15, 3) := by decide +kernel
theorem dX6_spares_8 : decode cX6_spares 8 = .ok (.aload_n 0, 1) := by decide +kernel
theorem dX6_spares_9 : decode cX6_spares 9 = .ok (.getfield 49, 3) := by decide +kernel
theorem dX6_spares_12 : decode cX6_spares 12 = .ok (.iload_n 1, 1) := by decide +kernel
theorem dX6_spares_13 : decode cX6_spares 13 = .ok (.iconst 1, 1) := by decide +kernel
theorem dX6_spares_14 : decode cX6_spares 14 = .ok (.invokestatic 165, 3) := by decide +kernel
theorem dX6_spares_17 : decode cX6_spares 17 = .ok (.ifCond .ne 6, 3) := by decide +kernel
theorem dX6_spares_20 : decode cX6_spares 20 = .ok (.ldc 229, 2) := by decide +kernel
theorem dX6_spares_22 : decode cX6_spares 22 = .ok (.ireturn, 1) := by decide +kernel
theorem dX6_spares_23 : decode cX6_spares 23 = .ok (.aload_n 0, 1) := by decide +kernel
theorem dX6_spares_24 : decode cX6_spares 24 = .ok (.getfield 49, 3) := by decide +kernel
theorem dX6_spares_27 : decode cX6_spares 27 = .ok (.aload_n 0, 1) := by decide +kernel
theorem dX6_spares_28 : decode cX6_spares 28 = .ok (.getfield 52, 3) := by decide +kernel
theorem dX6_spares_31 : decode cX6_spares 31 = .ok (.invokestatic 221, 3) := by decide +kernel
theorem dX6_spares_34 : decode cX6_spares 34 = .ok (.aload_n 0, 1) := by decide +kernel
theorem dX6_spares_35 : decode cX6_spares 35 = .ok (.sipush 200, 3) := by decide +kernel
theorem dX6_spares_38 : decode cX6_spares 38 = .ok (.invokevirtual 225, 3) := by decide +kernel
theorem dX6_spares_41 : decode cX6_spares 41 = .ok (.aload_n 0, 1) := by decide +kernel
theorem dX6_spares_42 : decode cX6_spares 42 = .ok (.getfield 52, 3) := by decide +kernel
theorem dX6_spares_45 : decode cX6_spares 45 = .ok (.bipush 8, 2) := by decide +kernel
theorem dX6_spares_47 : decode cX6_spares 47 = .ok (.iaload, 1) := by decide +kernel
theorem dX6_spares_48 : decode cX6_spares 48 = .ok (.istore_n 2, 1) := by decide +kernel
theorem dX6_spares_49 : decode cX6_spares 49 = .ok (.aload_n 0, 1) := by decide +kernel
theorem dX6_spares_50 : decode cX6_spares 50 = .ok (.getfield 49, 3) := by decide +kernel
theorem dX6_spares_53 : decode cX6_spares 53 = .ok (.aload_n 0, 1) := by decide +kernel
theorem dX6_spares_54 : decode cX6_spares 54 = .ok (.getfield 52, 3) := by decide +kernel
theorem dX6_spares_57 : decode cX6_spares 57 = .ok (.invokestatic 221, 3) := by decide +kernel
theorem dX6_spares_60 : decode cX6_spares 60 = .ok (.aload_n 0, 1) := by decide +kernel
theorem dX6_spares_61 : decode cX6_spares 61 = .ok (.getfield 52, 3) := by decide +kernel
theorem dX6_spares_64 : decode cX6_spares 64 = .ok (.bipush 18, 2) := by decide +kernel
theorem dX6_spares_66 : decode cX6_spares 66 = .ok (.iload_n 1, 1) := by decide +kernel
theorem dX6_spares_67 : decode cX6_spares 67 = .ok (.imul, 1) := by decide +kernel
theorem dX6_spares_68 : decode cX6_spares 68 = .ok (.iconst 5, 1) := by decide +kernel
theorem dX6_spares_69 : decode cX6_spares 69 = .ok (.iadd, 1) := by decide +kernel
theorem dX6_spares_70 : decode cX6_spares 70 = .ok (.iconst 1, 1) := by decide +kernel
theorem dX6_spares_71 : decode cX6_spares 71 = .ok (.iastore, 1) := by decide +kernel
theorem dX6_spares_72 : decode cX6_spares 72 = .ok (.aload_n 0, 1) := by decide +kernel
theorem dX6_spares_73 : decode cX6_spares 73 = .ok (.sipush 200, 3) := by decide +kernel
theorem dX6_spares_76 : decode cX6_spares 76 = .ok (.invokevirtual 225, 3) := by decide +kernel
theorem dX6_spares_79 : decode cX6_spares 79 = .ok (.iload_n 2, 1) := by decide +kernel
theorem dX6_spares_80 : decode cX6_spares 80 = .ok (.bipush (-9), 2) := by decide +kernel
theorem dX6_spares_82 : decode cX6_spares 82 = .ok (.if_icmp .eq 15, 3) := by decide +kernel
theorem dX6_spares_85 : decode cX6_spares 85 = .ok (.aload_n 0, 1) := by decide +kernel
theorem dX6_spares_86 : decode cX6_spares 86 = .ok (.getfield 52, 3) := by decide +kernel
theorem dX6_spares_89 : decode cX6_spares 89 = .ok (.bipush 8, 2) := by decide +kernel
theorem dX6_spares_91 : decode cX6_spares 91 = .ok (.iaload, 1) := by decide +kernel
theorem dX6_spares_92 : decode cX6_spares 92 = .ok (.bipush (-9), 2) := by decide +kernel
theorem dX6_spares_94 : decode cX6_spares 94 = .ok (.if_icmp .ne 8, 3) := by decide +kernel
theorem dX6_spares_97 : decode cX6_spares 97 = .ok (.ldc 229, 2) := by decide +kernel
theorem dX6_spares_99 : decode cX6_spares 99 = .ok (.goto 12, 3) := by decide +kernel
theorem dX6_spares_102 : decode cX6_spares 102 = .ok (.iload_n 2, 1) := by decide +kernel
theorem dX6_spares_103 : decode cX6_spares 103 = .ok (.aload_n 0, 1) := by decide +kernel
theorem dX6_spares_104 : decode cX6_spares 104 = .ok (.getfield 52, 3) := by decide +kernel
theorem dX6_spares_107 : decode cX6_spares 107 = .ok (.bipush 8, 2) := by decide +kernel
theorem dX6_spares_109 : decode cX6_spares 109 = .ok (.iaload, 1) := by decide +kernel
theorem dX6_spares_110 : decode cX6_spares 110 = .ok (.isub, 1) := by decide +kernel
theorem dX6_spares_111 : decode cX6_spares 111 = .ok (.ireturn, 1) := by decide +kernel
theorem dX6_sees_0 : decode cX6_sees 0 = .ok (.aload_n 0, 1) := by decide +kernel
theorem dX6_sees_1 : decode cX6_sees 1 = .ok (.iload_n 1, 1) := by decide +kernel
theorem dX6_sees_2 : decode cX6_sees 2 = .ok (.invokevirtual 214, 3) := by decide +kernel
theorem dX6_sees_5 : decode cX6_sees 5 = .ok (.ifCond .eq 22, 3) := by decide +kernel
theorem dX6_sees_8 : decode cX6_sees 8 = .ok (.iload_n 2, 1) := by decide +kernel
theorem dX6_sees_9 : decode cX6_sees 9 = .ok (.iconst 1, 1) := by decide +kernel
theorem dX6_sees_10 : decode cX6_sees 10 = .ok (.bipush 60, 2) := by decide +kernel
theorem dX6_sees_12 : decode cX6_sees 12 = .ok (.invokestatic 80, 3) := by decide +kernel
theorem dX6_sees_15 : decode cX6_sees 15 = .ok (.ifCond .eq 12, 3) := by decide +kernel
theorem dX6_sees_18 : decode cX6_sees 18 = .ok (.iload_n 3, 1) := by decide +kernel
theorem dX6_sees_19 : decode cX6_sees 19 = .ok (.iconst 0, 1) := by decide +kernel
theorem dX6_sees_20 : decode cX6_sees 20 = .ok (.iconst 1, 1) := by decide +kernel
theorem dX6_sees_21 : decode cX6_sees 21 = .ok (.invokestatic 80, 3) := by decide +kernel
theorem dX6_sees_24 : decode cX6_sees 24 = .ok (.ifCond .ne 5, 3) := by decide +kernel
theorem dX6_sees_27 : decode cX6_sees 27 = .ok (.iconst (-1), 1) := by decide +kernel
theorem dX6_sees_28 : decode cX6_sees 28 = .ok (.ireturn, 1) := by decide +kernel
theorem dX6_sees_29 : decode cX6_sees 29 = .ok (.aload_n 0, 1) := by decide +kernel
theorem dX6_sees_30 : decode cX6_sees 30 = .ok (.getfield 155, 3) := by decide +kernel
theorem dX6_sees_33 : decode cX6_sees 33 = .ok (.bipush 6, 2) := by decide +kernel
theorem dX6_sees_35 : decode cX6_sees 35 = .ok (.if_icmp .ne 6, 3) := by decide +kernel
theorem dX6_sees_38 : decode cX6_sees 38 = .ok (.bipush (-3), 2) := by decide +kernel
theorem dX6_sees_40 : decode cX6_sees 40 = .ok (.ireturn, 1) := by decide +kernel
theorem dX6_sees_41 : decode cX6_sees 41 = .ok (.aload_n 0, 1) := by decide +kernel
theorem dX6_sees_42 : decode cX6_sees 42 = .ok (.getfield 58, 3) := by decide +kernel
theorem dX6_sees_45 : decode cX6_sees 45 = .ok (.aload_n 0, 1) := by decide +kernel
theorem dX6_sees_46 : decode cX6_sees 46 = .ok (.getfield 155, 3) := by decide +kernel
theorem dX6_sees_49 : decode cX6_sees 49 = .ok (.iload_n 1, 1) := by decide +kernel
theorem dX6_sees_50 : decode cX6_sees 50 = .ok (.iastore, 1) := by decide +kernel
theorem dX6_sees_51 : decode cX6_sees 51 = .ok (.aload_n 0, 1) := by decide +kernel
theorem dX6_sees_52 : decode cX6_sees 52 = .ok (.getfield 61, 3) := by decide +kernel
theorem dX6_sees_55 : decode cX6_sees 55 = .ok (.aload_n 0, 1) := by decide +kernel
theorem dX6_sees_56 : decode cX6_sees 56 = .ok (.getfield 155, 3) := by decide +kernel
theorem dX6_sees_59 : decode cX6_sees 59 = .ok (.iload_n 2, 1) := by decide +kernel
theorem dX6_sees_60 : decode cX6_sees 60 = .ok (.iastore, 1) := by decide +kernel
theorem dX6_sees_61 : decode cX6_sees 61 = .ok (.aload_n 0, 1) := by decide +kernel
theorem dX6_sees_62 : decode cX6_sees 62 = .ok (.getfield 64, 3) := by decide +kernel
theorem dX6_sees_65 : decode cX6_sees 65 = .ok (.aload_n 0, 1) := by decide +kernel
theorem dX6_sees_66 : decode cX6_sees 66 = .ok (.getfield 155, 3) := by decide +kernel
theorem dX6_sees_69 : decode cX6_sees 69 = .ok (.iload_n 3, 1) := by decide +kernel
theorem dX6_sees_70 : decode cX6_sees 70 = .ok (.iastore, 1) := by decide +kernel
theorem dX6_sees_71 : decode cX6_sees 71 = .ok (.aload_n 0, 1) := by decide +kernel
theorem dX6_sees_72 : decode cX6_sees 72 = .ok (.dup, 1) := by decide +kernel
theorem dX6_sees_73 : decode cX6_sees 73 = .ok (.getfield 155, 3) := by decide +kernel
theorem dX6_sees_76 : decode cX6_sees 76 = .ok (.iconst 1, 1) := by decide +kernel
theorem dX6_sees_77 : decode cX6_sees 77 = .ok (.iadd, 1) := by decide +kernel
theorem dX6_sees_78 : decode cX6_sees 78 = .ok (.putfield 155, 3) := by decide +kernel
theorem dX6_sees_81 : decode cX6_sees 81 = .ok (.aload_n 0, 1) := by decide +kernel
theorem dX6_sees_82 : decode cX6_sees 82 = .ok (.getfield 155, 3) := by decide +kernel
theorem dX6_sees_85 : decode cX6_sees 85 = .ok (.ireturn, 1) := by decide +kernel
theorem dX6_forget_0 : decode cX6_forget 0 = .ok (.aload_n 0, 1) := by decide +kernel
theorem dX6_forget_1 : decode cX6_forget 1 = .ok (.getfield 155, 3) := by decide +kernel
theorem dX6_forget_4 : decode cX6_forget 4 = .ok (.istore_n 1, 1) := by decide +kernel
theorem dX6_forget_5 : decode cX6_forget 5 = .ok (.aload_n 0, 1) := by decide +kernel
theorem dX6_forget_6 : decode cX6_forget 6 = .ok (.iconst 0, 1) := by decide +kernel
theorem dX6_forget_7 : decode cX6_forget 7 = .ok (.putfield 155, 3) := by decide +kernel
theorem dX6_forget_10 : decode cX6_forget 10 = .ok (.iload_n 1, 1) := by decide +kernel
theorem dX6_forget_11 : decode cX6_forget 11 = .ok (.ireturn, 1) := by decide +kernel
theorem dX6_fits_0 : decode cX6_fits 0 = .ok (.aload_n 0, 1) := by decide +kernel
theorem dX6_fits_1 : decode cX6_fits 1 = .ok (.iload_n 1, 1) := by decide +kernel
theorem dX6_fits_2 : decode cX6_fits 2 = .ok (.invokevirtual 214, 3) := by decide +kernel
theorem dX6_fits_5 : decode cX6_fits 5 = .ok (.ifCond .ne 5, 3) := by decide +kernel
theorem dX6_fits_8 : decode cX6_fits 8 = .ok (.iconst (-1), 1) := by decide +kernel
theorem dX6_fits_9 : decode cX6_fits 9 = .ok (.ireturn, 1) := by decide +kernel
theorem dX6_fits_10 : decode cX6_fits 10 = .ok (.aload_n 0, 1) := by decide +kernel
theorem dX6_fits_11 : decode cX6_fits 11 = .ok (.getfield 40, 3) := by decide +kernel
theorem dX6_fits_14 : decode cX6_fits 14 = .ok (.iload_n 1, 1) := by decide +kernel
theorem dX6_fits_15 : decode cX6_fits 15 = .ok (.iaload, 1) := by decide +kernel
theorem dX6_fits_16 : decode cX6_fits 16 = .ok (.istore_n 2, 1) := by decide +kernel
theorem dX6_fits_17 : decode cX6_fits 17 = .ok (.iconst 0, 1) := by decide +kernel
theorem dX6_fits_18 : decode cX6_fits 18 = .ok (.istore_n 3, 1) := by decide +kernel
theorem dX6_fits_19 : decode cX6_fits 19 = .ok (.iconst 1, 1) := by decide +kernel
theorem dX6_fits_20 : decode cX6_fits 20 = .ok (.istore 4, 2) := by decide +kernel
theorem dX6_fits_22 : decode cX6_fits 22 = .ok (.iload 4, 2) := by decide +kernel
theorem dX6_fits_24 : decode cX6_fits 24 = .ok (.bipush 30, 2) := by decide +kernel
theorem dX6_fits_26 : decode cX6_fits 26 = .ok (.if_icmp .gt 132, 3) := by decide +kernel
theorem dX6_fits_29 : decode cX6_fits 29 = .ok (.aload_n 0, 1) := by decide +kernel
theorem dX6_fits_30 : decode cX6_fits 30 = .ok (.getfield 40, 3) := by decide +kernel
theorem dX6_fits_33 : decode cX6_fits 33 = .ok (.iload_n 1, 1) := by decide +kernel
theorem dX6_fits_34 : decode cX6_fits 34 = .ok (.iload 4, 2) := by decide +kernel
theorem dX6_fits_36 : decode cX6_fits 36 = .ok (.iastore, 1) := by decide +kernel
theorem dX6_fits_37 : decode cX6_fits 37 = .ok (.aload_n 0, 1) := by decide +kernel
theorem dX6_fits_38 : decode cX6_fits 38 = .ok (.aload_n 0, 1) := by decide +kernel
theorem dX6_fits_39 : decode cX6_fits 39 = .ok (.getfield 52, 3) := by decide +kernel
theorem dX6_fits_42 : decode cX6_fits 42 = .ok (.invokevirtual 148, 3) := by decide +kernel
theorem dX6_fits_45 : decode cX6_fits 45 = .ok (.aload_n 0, 1) := by decide +kernel
theorem dX6_fits_46 : decode cX6_fits 46 = .ok (.bipush 60, 2) := by decide +kernel
theorem dX6_fits_48 : decode cX6_fits 48 = .ok (.invokevirtual 225, 3) := by decide +kernel
theorem dX6_fits_51 : decode cX6_fits 51 = .ok (.iconst 1, 1) := by decide +kernel
theorem dX6_fits_52 : decode cX6_fits 52 = .ok (.istore 5, 2) := by decide +kernel
theorem dX6_fits_54 : decode cX6_fits 54 = .ok (.iconst 0, 1) := by decide +kernel
theorem dX6_fits_55 : decode cX6_fits 55 = .ok (.istore 6, 2) := by decide +kernel
theorem dX6_fits_57 : decode cX6_fits 57 = .ok (.iload 6, 2) := by decide +kernel
theorem dX6_fits_59 : decode cX6_fits 59 = .ok (.aload_n 0, 1) := by decide +kernel
theorem dX6_fits_60 : decode cX6_fits 60 = .ok (.getfield 155, 3) := by decide +kernel
theorem dX6_fits_63 : decode cX6_fits 63 = .ok (.if_icmp .ge 73, 3) := by decide +kernel
theorem dX6_fits_66 : decode cX6_fits 66 = .ok (.aload_n 0, 1) := by decide +kernel
theorem dX6_fits_67 : decode cX6_fits 67 = .ok (.getfield 52, 3) := by decide +kernel
theorem dX6_fits_70 : decode cX6_fits 70 = .ok (.aload_n 0, 1) := by decide +kernel
theorem dX6_fits_71 : decode cX6_fits 71 = .ok (.getfield 58, 3) := by decide +kernel
theorem dX6_fits_74 : decode cX6_fits 74 = .ok (.iload 6, 2) := by decide +kernel
theorem dX6_fits_76 : decode cX6_fits 76 = .ok (.iaload, 1) := by decide +kernel
theorem dX6_fits_77 : decode cX6_fits 77 = .ok (.bipush 8, 2) := by decide +kernel
theorem dX6_fits_79 : decode cX6_fits 79 = .ok (.invokestatic 161, 3) := by decide +kernel
theorem dX6_fits_82 : decode cX6_fits 82 = .ok (.istore 7, 2) := by decide +kernel
theorem dX6_fits_84 : decode cX6_fits 84 = .ok (.iload 5, 2) := by decide +kernel
theorem dX6_fits_86 : decode cX6_fits 86 = .ok (.ifCond .eq 41, 3) := by decide +kernel
theorem dX6_fits_89 : decode cX6_fits 89 = .ok (.iload 7, 2) := by decide +kernel
theorem dX6_fits_91 : decode cX6_fits 91 = .ok (.bipush (-9), 2) := by decide +kernel
theorem dX6_fits_93 : decode cX6_fits 93 = .ok (.if_icmp .eq 19, 3) := by decide +kernel
theorem dX6_fits_96 : decode cX6_fits 96 = .ok (.iload 7, 2) := by decide +kernel
theorem dX6_fits_98 : decode cX6_fits 98 = .ok (.aload_n 0, 1) := by decide +kernel
theorem dX6_fits_99 : decode cX6_fits 99 = .ok (.getfield 61, 3) := by decide +kernel
theorem dX6_fits_102 : decode cX6_fits 102 = .ok (.iload 6, 2) := by decide +kernel
theorem dX6_fits_104 : decode cX6_fits 104 = .ok (.iaload, 1) := by decide +kernel
theorem dX6_fits_105 : decode cX6_fits 105 = .ok (.if_icmp .gt 7, 3) := by decide +kernel
theorem dX6_fits_108 : decode cX6_fits 108 = .ok (.iconst 1, 1) := by decide +kernel
theorem dX6_fits_109 : decode cX6_fits 109 = .ok (.goto 4, 3) := by decide +kernel
theorem dX6_fits_112 : decode cX6_fits 112 = .ok (.iconst 0, 1) := by decide +kernel
theorem dX6_fits_113 : decode cX6_fits 113 = .ok (.aload_n 0, 1) := by decide +kernel
theorem dX6_fits_114 : decode cX6_fits 114 = .ok (.getfield 64, 3) := by decide +kernel
theorem dX6_fits_117 : decode cX6_fits 117 = .ok (.iload 6, 2) := by decide +kernel
theorem dX6_fits_119 : decode cX6_fits 119 = .ok (.iaload, 1) := by decide +kernel
theorem dX6_fits_120 : decode cX6_fits 120 = .ok (.if_icmp .ne 7, 3) := by decide +kernel
theorem dX6_fits_123 : decode cX6_fits 123 = .ok (.iconst 1, 1) := by decide +kernel
theorem dX6_fits_124 : decode cX6_fits 124 = .ok (.goto 4, 3) := by decide +kernel
theorem dX6_fits_127 : decode cX6_fits 127 = .ok (.iconst 0, 1) := by decide +kernel
theorem dX6_fits_128 : decode cX6_fits 128 = .ok (.istore 5, 2) := by decide +kernel
theorem dX6_fits_130 : decode cX6_fits 130 = .ok (.iinc 6 1, 3) := by decide +kernel
theorem dX6_fits_133 : decode cX6_fits 133 = .ok (.goto (-76), 3) := by decide +kernel
theorem dX6_fits_136 : decode cX6_fits 136 = .ok (.iload_n 3, 1) := by decide +kernel
theorem dX6_fits_137 : decode cX6_fits 137 = .ok (.iload 5, 2) := by decide +kernel
theorem dX6_fits_139 : decode cX6_fits 139 = .ok (.ifCond .eq 10, 3) := by decide +kernel
theorem dX6_fits_142 : decode cX6_fits 142 = .ok (.iconst 1, 1) := by decide +kernel
theorem dX6_fits_143 : decode cX6_fits 143 = .ok (.iload 4, 2) := by decide +kernel
theorem dX6_fits_145 : decode cX6_fits 145 = .ok (.ishl, 1) := by decide +kernel
theorem dX6_fits_146 : decode cX6_fits 146 = .ok (.goto 4, 3) := by decide +kernel
theorem dX6_fits_149 : decode cX6_fits 149 = .ok (.iconst 0, 1) := by decide +kernel
theorem dX6_fits_150 : decode cX6_fits 150 = .ok (.ior, 1) := by decide +kernel
theorem dX6_fits_151 : decode cX6_fits 151 = .ok (.istore_n 3, 1) := by decide +kernel
theorem dX6_fits_152 : decode cX6_fits 152 = .ok (.iinc 4 1, 3) := by decide +kernel
theorem dX6_fits_155 : decode cX6_fits 155 = .ok (.goto (-133), 3) := by decide +kernel
theorem dX6_fits_158 : decode cX6_fits 158 = .ok (.aload_n 0, 1) := by decide +kernel
theorem dX6_fits_159 : decode cX6_fits 159 = .ok (.getfield 40, 3) := by decide +kernel
theorem dX6_fits_162 : decode cX6_fits 162 = .ok (.iload_n 1, 1) := by decide +kernel
theorem dX6_fits_163 : decode cX6_fits 163 = .ok (.iload_n 2, 1) := by decide +kernel
theorem dX6_fits_164 : decode cX6_fits 164 = .ok (.iastore, 1) := by decide +kernel
theorem dX6_fits_165 : decode cX6_fits 165 = .ok (.iload_n 3, 1) := by decide +kernel
theorem dX6_fits_166 : decode cX6_fits 166 = .ok (.ireturn, 1) := by decide +kernel
theorem dX6_keep_0 : decode cX6_keep 0 = .ok (.iload_n 1, 1) := by decide +kernel
theorem dX6_keep_1 : decode cX6_keep 1 = .ok (.iconst 0, 1) := by decide +kernel
theorem dX6_keep_2 : decode cX6_keep 2 = .ok (.iconst 1, 1) := by decide +kernel
theorem dX6_keep_3 : decode cX6_keep 3 = .ok (.invokestatic 80, 3) := by decide +kernel
theorem dX6_keep_6 : decode cX6_keep 6 = .ok (.ifCond .ne 5, 3) := by decide +kernel
theorem dX6_keep_9 : decode cX6_keep 9 = .ok (.iconst (-1), 1) := by decide +kernel
theorem dX6_keep_10 : decode cX6_keep 10 = .ok (.ireturn, 1) := by decide +kernel
theorem dX6_keep_11 : decode cX6_keep 11 = .ok (.aload_n 0, 1) := by decide +kernel
theorem dX6_keep_12 : decode cX6_keep 12 = .ok (.getfield 67, 3) := by decide +kernel
theorem dX6_keep_15 : decode cX6_keep 15 = .ok (.iload_n 1, 1) := by decide +kernel
theorem dX6_keep_16 : decode cX6_keep 16 = .ok (.iconst 1, 1) := by decide +kernel
theorem dX6_keep_17 : decode cX6_keep 17 = .ok (.bastore, 1) := by decide +kernel
theorem dX6_keep_18 : decode cX6_keep 18 = .ok (.iconst 0, 1) := by decide +kernel
theorem dX6_keep_19 : decode cX6_keep 19 = .ok (.istore_n 2, 1) := by decide +kernel
theorem dX6_keep_20 : decode cX6_keep 20 = .ok (.iload_n 2, 1) := by decide +kernel
theorem dX6_keep_21 : decode cX6_keep 21 = .ok (.sipush 326, 3) := by decide +kernel
theorem dX6_keep_24 : decode cX6_keep 24 = .ok (.if_icmp .ge 27, 3) := by decide +kernel
theorem dX6_keep_27 : decode cX6_keep 27 = .ok (.aload_n 0, 1) := by decide +kernel
theorem dX6_keep_28 : decode cX6_keep 28 = .ok (.getfield 71, 3) := by decide +kernel
theorem dX6_keep_31 : decode cX6_keep 31 = .ok (.sipush 326, 3) := by decide +kernel
theorem dX6_keep_34 : decode cX6_keep 34 = .ok (.iload_n 1, 1) := by decide +kernel
theorem dX6_keep_35 : decode cX6_keep 35 = .ok (.imul, 1) := by decide +kernel
theorem dX6_keep_36 : decode cX6_keep 36 = .ok (.iload_n 2, 1) := by decide +kernel
theorem dX6_keep_37 : decode cX6_keep 37 = .ok (.iadd, 1) := by decide +kernel
theorem dX6_keep_38 : decode cX6_keep 38 = .ok (.aload_n 0, 1) := by decide +kernel
theorem dX6_keep_39 : decode cX6_keep 39 = .ok (.getfield 49, 3) := by decide +kernel
theorem dX6_keep_42 : decode cX6_keep 42 = .ok (.iload_n 2, 1) := by decide +kernel
theorem dX6_keep_43 : decode cX6_keep 43 = .ok (.iaload, 1) := by decide +kernel
theorem dX6_keep_44 : decode cX6_keep 44 = .ok (.iastore, 1) := by decide +kernel
theorem dX6_keep_45 : decode cX6_keep 45 = .ok (.iinc 2 1, 3) := by decide +kernel
theorem dX6_keep_48 : decode cX6_keep 48 = .ok (.goto (-28), 3) := by decide +kernel
theorem dX6_keep_51 : decode cX6_keep 51 = .ok (.aload_n 0, 1) := by decide +kernel
theorem dX6_keep_52 : decode cX6_keep 52 = .ok (.getfield 49, 3) := by decide +kernel
theorem dX6_keep_55 : decode cX6_keep 55 = .ok (.sipush 144, 3) := by decide +kernel
theorem dX6_keep_58 : decode cX6_keep 58 = .ok (.iaload, 1) := by decide +kernel
theorem dX6_keep_59 : decode cX6_keep 59 = .ok (.ireturn, 1) := by decide +kernel
theorem dX6_back_0 : decode cX6_back 0 = .ok (.iload_n 1, 1) := by decide +kernel
theorem dX6_back_1 : decode cX6_back 1 = .ok (.iconst 0, 1) := by decide +kernel
theorem dX6_back_2 : decode cX6_back 2 = .ok (.iconst 1, 1) := by decide +kernel
theorem dX6_back_3 : decode cX6_back 3 = .ok (.invokestatic 80, 3) := by decide +kernel
theorem dX6_back_6 : decode cX6_back 6 = .ok (.ifCond .ne 5, 3) := by decide +kernel
theorem dX6_back_9 : decode cX6_back 9 = .ok (.iconst (-1), 1) := by decide +kernel
theorem dX6_back_10 : decode cX6_back 10 = .ok (.ireturn, 1) := by decide +kernel
theorem dX6_back_11 : decode cX6_back 11 = .ok (.aload_n 0, 1) := by decide +kernel
theorem dX6_back_12 : decode cX6_back 12 = .ok (.getfield 67, 3) := by decide +kernel
theorem dX6_back_15 : decode cX6_back 15 = .ok (.iload_n 1, 1) := by decide +kernel
theorem dX6_back_16 : decode cX6_back 16 = .ok (.baload, 1) := by decide +kernel
theorem dX6_back_17 : decode cX6_back 17 = .ok (.ifCond .ne 6, 3) := by decide +kernel
theorem dX6_back_20 : decode cX6_back 20 = .ok (.bipush (-2), 2) := by decide +kernel
theorem dX6_back_22 : decode cX6_back 22 = .ok (.ireturn, 1) := by decide +kernel
theorem dX6_back_23 : decode cX6_back 23 = .ok (.iconst 0, 1) := by decide +kernel
theorem dX6_back_24 : decode cX6_back 24 = .ok (.istore_n 2, 1) := by decide +kernel
theorem dX6_back_25 : decode cX6_back 25 = .ok (.iload_n 2, 1) := by decide +kernel
theorem dX6_back_26 : decode cX6_back 26 = .ok (.sipush 326, 3) := by decide +kernel
theorem dX6_back_29 : decode cX6_back 29 = .ok (.if_icmp .ge 27, 3) := by decide +kernel
theorem dX6_back_32 : decode cX6_back 32 = .ok (.aload_n 0, 1) := by decide +kernel
theorem dX6_back_33 : decode cX6_back 33 = .ok (.getfield 49, 3) := by decide +kernel
theorem dX6_back_36 : decode cX6_back 36 = .ok (.iload_n 2, 1) := by decide +kernel
theorem dX6_back_37 : decode cX6_back 37 = .ok (.aload_n 0, 1) := by decide +kernel
theorem dX6_back_38 : decode cX6_back 38 = .ok (.getfield 71, 3) := by decide +kernel
theorem dX6_back_41 : decode cX6_back 41 = .ok (.sipush 326, 3) := by decide +kernel
theorem dX6_back_44 : decode cX6_back 44 = .ok (.iload_n 1, 1) := by decide +kernel
theorem dX6_back_45 : decode cX6_back 45 = .ok (.imul, 1) := by decide +kernel
theorem dX6_back_46 : decode cX6_back 46 = .ok (.iload_n 2, 1) := by decide +kernel
theorem dX6_back_47 : decode cX6_back 47 = .ok (.iadd, 1) := by decide +kernel
theorem dX6_back_48 : decode cX6_back 48 = .ok (.iaload, 1) := by decide +kernel
theorem dX6_back_49 : decode cX6_back 49 = .ok (.iastore, 1) := by decide +kernel
theorem dX6_back_50 : decode cX6_back 50 = .ok (.iinc 2 1, 3) := by decide +kernel
theorem dX6_back_53 : decode cX6_back 53 = .ok (.goto (-28), 3) := by decide +kernel
theorem dX6_back_56 : decode cX6_back 56 = .ok (.aload_n 0, 1) := by decide +kernel
theorem dX6_back_57 : decode cX6_back 57 = .ok (.iconst 0, 1) := by decide +kernel
theorem dX6_back_58 : decode cX6_back 58 = .ok (.putfield 152, 3) := by decide +kernel
theorem dX6_back_61 : decode cX6_back 61 = .ok (.aload_n 0, 1) := by decide +kernel
theorem dX6_back_62 : decode cX6_back 62 = .ok (.getfield 49, 3) := by decide +kernel
theorem dX6_back_65 : decode cX6_back 65 = .ok (.sipush 144, 3) := by decide +kernel
theorem dX6_back_68 : decode cX6_back 68 = .ok (.iaload, 1) := by decide +kernel
theorem dX6_back_69 : decode cX6_back 69 = .ok (.ireturn, 1) := by decide +kernel
theorem dX6_howMany_0 : decode cX6_howMany 0 = .ok (.iconst 0, 1) := by decide +kernel
theorem dX6_howMany_1 : decode cX6_howMany 1 = .ok (.istore_n 2, 1) := by decide +kernel
theorem dX6_howMany_2 : decode cX6_howMany 2 = .ok (.iconst 0, 1) := by decide +kernel
theorem dX6_howMany_3 : decode cX6_howMany 3 = .ok (.istore_n 3, 1) := by decide +kernel
theorem dX6_howMany_4 : decode cX6_howMany 4 = .ok (.iload_n 3, 1) := by decide +kernel
theorem dX6_howMany_5 : decode cX6_howMany 5 = .ok (.aload_n 0, 1) := by decide +kernel
theorem dX6_howMany_6 : decode cX6_howMany 6 = .ok (.getfield 142, 3) := by decide +kernel
theorem dX6_howMany_9 : decode cX6_howMany 9 = .ok (.if_icmp .ge 29, 3) := by decide +kernel
theorem dX6_howMany_12 : decode cX6_howMany 12 = .ok (.iload_n 2, 1) := by decide +kernel
theorem dX6_howMany_13 : decode cX6_howMany 13 = .ok (.aload_n 0, 1) := by decide +kernel
theorem dX6_howMany_14 : decode cX6_howMany 14 = .ok (.getfield 49, 3) := by decide +kernel
theorem dX6_howMany_17 : decode cX6_howMany 17 = .ok (.iload_n 3, 1) := by decide +kernel
theorem dX6_howMany_18 : decode cX6_howMany 18 = .ok (.iload_n 1, 1) := by decide +kernel
theorem dX6_howMany_19 : decode cX6_howMany 19 = .ok (.invokestatic 165, 3) := by decide +kernel
theorem dX6_howMany_22 : decode cX6_howMany 22 = .ok (.ifCond .eq 7, 3) := by decide +kernel
theorem dX6_howMany_25 : decode cX6_howMany 25 = .ok (.iconst 1, 1) := by decide +kernel
theorem dX6_howMany_26 : decode cX6_howMany 26 = .ok (.goto 4, 3) := by decide +kernel
theorem dX6_howMany_29 : decode cX6_howMany 29 = .ok (.iconst 0, 1) := by decide +kernel
theorem dX6_howMany_30 : decode cX6_howMany 30 = .ok (.iadd, 1) := by decide +kernel
theorem dX6_howMany_31 : decode cX6_howMany 31 = .ok (.istore_n 2, 1) := by decide +kernel
theorem dX6_howMany_32 : decode cX6_howMany 32 = .ok (.iinc 3 1, 3) := by decide +kernel
theorem dX6_howMany_35 : decode cX6_howMany 35 = .ok (.goto (-31), 3) := by decide +kernel
theorem dX6_howMany_38 : decode cX6_howMany 38 = .ok (.iload_n 2, 1) := by decide +kernel
theorem dX6_howMany_39 : decode cX6_howMany 39 = .ok (.ireturn, 1) := by decide +kernel
theorem dX6_count_0 : decode cX6_count 0 = .ok (.iload_n 1, 1) := by decide +kernel
theorem dX6_count_1 : decode cX6_count 1 = .ok (.tableswitch 107 0 8 #[51, 56, 65, 71, 77, 83, 92, 97, 102], 51) := by decide +kernel
theorem dX6_count_52 : decode cX6_count 52 = .ok (.aload_n 0, 1) := by decide +kernel
theorem dX6_count_53 : decode cX6_count 53 = .ok (.getfield 142, 3) := by decide +kernel
theorem dX6_count_56 : decode cX6_count 56 = .ok (.ireturn, 1) := by decide +kernel
theorem dX6_count_57 : decode cX6_count 57 = .ok (.aload_n 0, 1) := by decide +kernel
theorem dX6_count_58 : decode cX6_count 58 = .ok (.getfield 49, 3) := by decide +kernel
theorem dX6_count_61 : decode cX6_count 61 = .ok (.sipush 144, 3) := by decide +kernel
theorem dX6_count_64 : decode cX6_count 64 = .ok (.iaload, 1) := by decide +kernel
theorem dX6_count_65 : decode cX6_count 65 = .ok (.ireturn, 1) := by decide +kernel
theorem dX6_count_66 : decode cX6_count 66 = .ok (.aload_n 0, 1) := by decide +kernel
theorem dX6_count_67 : decode cX6_count 67 = .ok (.iconst 1, 1) := by decide +kernel
theorem dX6_count_68 : decode cX6_count 68 = .ok (.invokevirtual 230, 3) := by decide +kernel
theorem dX6_count_71 : decode cX6_count 71 = .ok (.ireturn, 1) := by decide +kernel
theorem dX6_count_72 : decode cX6_count 72 = .ok (.aload_n 0, 1) := by decide +kernel
theorem dX6_count_73 : decode cX6_count 73 = .ok (.iconst 2, 1) := by decide +kernel
theorem dX6_count_74 : decode cX6_count 74 = .ok (.invokevirtual 230, 3) := by decide +kernel
theorem dX6_count_77 : decode cX6_count 77 = .ok (.ireturn, 1) := by decide +kernel
theorem dX6_count_78 : decode cX6_count 78 = .ok (.aload_n 0, 1) := by decide +kernel
theorem dX6_count_79 : decode cX6_count 79 = .ok (.iconst 3, 1) := by decide +kernel
theorem dX6_count_80 : decode cX6_count 80 = .ok (.invokevirtual 230, 3) := by decide +kernel
theorem dX6_count_83 : decode cX6_count 83 = .ok (.ireturn, 1) := by decide +kernel
theorem dX6_count_84 : decode cX6_count 84 = .ok (.aload_n 0, 1) := by decide +kernel
theorem dX6_count_85 : decode cX6_count 85 = .ok (.getfield 49, 3) := by decide +kernel
theorem dX6_count_88 : decode cX6_count 88 = .ok (.sipush 145, 3) := by decide +kernel
theorem dX6_count_91 : decode cX6_count 91 = .ok (.iaload, 1) := by decide +kernel
theorem dX6_count_92 : decode cX6_count 92 = .ok (.ireturn, 1) := by decide +kernel
theorem dX6_count_93 : decode cX6_count 93 = .ok (.aload_n 0, 1) := by decide +kernel
theorem dX6_count_94 : decode cX6_count 94 = .ok (.getfield 155, 3) := by decide +kernel
theorem dX6_count_97 : decode cX6_count 97 = .ok (.ireturn, 1) := by decide +kernel
theorem dX6_count_98 : decode cX6_count 98 = .ok (.aload_n 0, 1) := by decide +kernel
theorem dX6_count_99 : decode cX6_count 99 = .ok (.getfield 84, 3) := by decide +kernel
theorem dX6_count_102 : decode cX6_count 102 = .ok (.ireturn, 1) := by decide +kernel
theorem dX6_count_103 : decode cX6_count 103 = .ok (.aload_n 0, 1) := by decide +kernel
theorem dX6_count_104 : decode cX6_count 104 = .ok (.getfield 152, 3) := by decide +kernel
theorem dX6_count_107 : decode cX6_count 107 = .ok (.ireturn, 1) := by decide +kernel
theorem dX6_count_108 : decode cX6_count 108 = .ok (.iconst (-1), 1) := by decide +kernel
theorem dX6_count_109 : decode cX6_count 109 = .ok (.ireturn, 1) := by decide +kernel
end
section
theorem dX0_init_0 : decode cX0_init 0 = .ok (.aload_n 0, 1) := by decide +kernel
theorem dX0_init_1 : decode cX0_init 1 = .ok (.invokespecial 3, 3) := by decide +kernel
theorem dX0_init_4 : decode cX0_init 4 = .ok (.aload_n 0, 1) := by decide +kernel
theorem dX0_init_5 : decode cX0_init 5 = .ok (.bipush 12, 2) := by decide +kernel
theorem dX0_init_7 : decode cX0_init 7 = .ok (.anewarray 9, 3) := by decide +kernel
theorem dX0_init_10 : decode cX0_init 10 = .ok (.putfield 11, 3) := by decide +kernel
theorem dX0_init_13 : decode cX0_init 13 = .ok (.aload_n 0, 1) := by decide +kernel
theorem dX0_init_14 : decode cX0_init 14 = .ok (.iconst 0, 1) := by decide +kernel
theorem dX0_init_15 : decode cX0_init 15 = .ok (.putfield 17, 3) := by decide +kernel
theorem dX0_init_18 : decode cX0_init 18 = .ok (.aload_n 0, 1) := by decide +kernel
theorem dX0_init_19 : decode cX0_init 19 = .ok (.iconst 0, 1) := by decide +kernel
theorem dX0_init_20 : decode cX0_init 20 = .ok (.putfield 21, 3) := by decide +kernel
theorem dX0_init_23 : decode cX0_init 23 = .ok (.iconst 0, 1) := by decide +kernel
theorem dX0_init_24 : decode cX0_init 24 = .ok (.istore_n 2, 1) := by decide +kernel
theorem dX0_init_25 : decode cX0_init 25 = .ok (.iload_n 2, 1) := by decide +kernel
theorem dX0_init_26 : decode cX0_init 26 = .ok (.bipush 12, 2) := by decide +kernel
theorem dX0_init_28 : decode cX0_init 28 = .ok (.if_icmp .ge 23, 3) := by decide +kernel
theorem dX0_init_31 : decode cX0_init 31 = .ok (.aload_n 0, 1) := by decide +kernel
theorem dX0_init_32 : decode cX0_init 32 = .ok (.getfield 11, 3) := by decide +kernel
theorem dX0_init_35 : decode cX0_init 35 = .ok (.iload_n 2, 1) := by decide +kernel
theorem dX0_init_36 : decode cX0_init 36 = .ok (.new 9, 3) := by decide +kernel
theorem dX0_init_39 : decode cX0_init 39 = .ok (.dup, 1) := by decide +kernel
theorem dX0_init_40 : decode cX0_init 40 = .ok (.aload_n 1, 1) := by decide +kernel
theorem dX0_init_41 : decode cX0_init 41 = .ok (.invokespecial 24, 3) := by decide +kernel
theorem dX0_init_44 : decode cX0_init 44 = .ok (.aastore, 1) := by decide +kernel
theorem dX0_init_45 : decode cX0_init 45 = .ok (.iinc 2 1, 3) := by decide +kernel
theorem dX0_init_48 : decode cX0_init 48 = .ok (.goto (-23), 3) := by decide +kernel
theorem dX0_init_51 : decode cX0_init 51 = .ok (.return_, 1) := by decide +kernel
theorem dX0_remember_0 : decode cX0_remember 0 = .ok (.aload_n 0, 1) := by decide +kernel
theorem dX0_remember_1 : decode cX0_remember 1 = .ok (.aload_n 0, 1) := by decide +kernel
theorem dX0_remember_2 : decode cX0_remember 2 = .ok (.getfield 21, 3) := by decide +kernel
theorem dX0_remember_5 : decode cX0_remember 5 = .ok (.iconst 1, 1) := by decide +kernel
theorem dX0_remember_6 : decode cX0_remember 6 = .ok (.iadd, 1) := by decide +kernel
theorem dX0_remember_7 : decode cX0_remember 7 = .ok (.bipush 12, 2) := by decide +kernel
theorem dX0_remember_9 : decode cX0_remember 9 = .ok (.if_icmp .ge 12, 3) := by decide +kernel
theorem dX0_remember_12 : decode cX0_remember 12 = .ok (.aload_n 0, 1) := by decide +kernel
theorem dX0_remember_13 : decode cX0_remember 13 = .ok (.getfield 21, 3) := by decide +kernel
theorem dX0_remember_16 : decode cX0_remember 16 = .ok (.iconst 1, 1) := by decide +kernel
theorem dX0_remember_17 : decode cX0_remember 17 = .ok (.iadd, 1) := by decide +kernel
theorem dX0_remember_18 : decode cX0_remember 18 = .ok (.goto 4, 3) := by decide +kernel
theorem dX0_remember_21 : decode cX0_remember 21 = .ok (.iconst 0, 1) := by decide +kernel
theorem dX0_remember_22 : decode cX0_remember 22 = .ok (.putfield 21, 3) := by decide +kernel
theorem dX0_remember_25 : decode cX0_remember 25 = .ok (.aload_n 0, 1) := by decide +kernel
theorem dX0_remember_26 : decode cX0_remember 26 = .ok (.getfield 11, 3) := by decide +kernel
theorem dX0_remember_29 : decode cX0_remember 29 = .ok (.aload_n 0, 1) := by decide +kernel
theorem dX0_remember_30 : decode cX0_remember 30 = .ok (.getfield 21, 3) := by decide +kernel
theorem dX0_remember_33 : decode cX0_remember 33 = .ok (.aaload, 1) := by decide +kernel
theorem dX0_remember_34 : decode cX0_remember 34 = .ok (.aload_n 1, 1) := by decide +kernel
theorem dX0_remember_35 : decode cX0_remember 35 = .ok (.invokevirtual 27, 3) := by decide +kernel
theorem dX0_remember_38 : decode cX0_remember 38 = .ok (.aload_n 0, 1) := by decide +kernel
theorem dX0_remember_39 : decode cX0_remember 39 = .ok (.aload_n 0, 1) := by decide +kernel
theorem dX0_remember_40 : decode cX0_remember 40 = .ok (.getfield 17, 3) := by decide +kernel
theorem dX0_remember_43 : decode cX0_remember 43 = .ok (.iconst 1, 1) := by decide +kernel
theorem dX0_remember_44 : decode cX0_remember 44 = .ok (.iadd, 1) := by decide +kernel
theorem dX0_remember_45 : decode cX0_remember 45 = .ok (.bipush 12, 2) := by decide +kernel
theorem dX0_remember_47 : decode cX0_remember 47 = .ok (.invokestatic 31, 3) := by decide +kernel
theorem dX0_remember_50 : decode cX0_remember 50 = .ok (.putfield 17, 3) := by decide +kernel
theorem dX0_remember_53 : decode cX0_remember 53 = .ok (.return_, 1) := by decide +kernel
theorem dX0_restore_0 : decode cX0_restore 0 = .ok (.aload_n 0, 1) := by decide +kernel
theorem dX0_restore_1 : decode cX0_restore 1 = .ok (.getfield 17, 3) := by decide +kernel
theorem dX0_restore_4 : decode cX0_restore 4 = .ok (.ifCond .ne 5, 3) := by decide +kernel
theorem dX0_restore_7 : decode cX0_restore 7 = .ok (.iconst 0, 1) := by decide +kernel
theorem dX0_restore_8 : decode cX0_restore 8 = .ok (.ireturn, 1) := by decide +kernel
theorem dX0_restore_9 : decode cX0_restore 9 = .ok (.aload_n 1, 1) := by decide +kernel
theorem dX0_restore_10 : decode cX0_restore 10 = .ok (.aload_n 0, 1) := by decide +kernel
theorem dX0_restore_11 : decode cX0_restore 11 = .ok (.getfield 11, 3) := by decide +kernel
theorem dX0_restore_14 : decode cX0_restore 14 = .ok (.aload_n 0, 1) := by decide +kernel
theorem dX0_restore_15 : decode cX0_restore 15 = .ok (.getfield 21, 3) := by decide +kernel
theorem dX0_restore_18 : decode cX0_restore 18 = .ok (.aaload, 1) := by decide +kernel
theorem dX0_restore_19 : decode cX0_restore 19 = .ok (.invokevirtual 27, 3) := by decide +kernel
theorem dX0_restore_22 : decode cX0_restore 22 = .ok (.aload_n 0, 1) := by decide +kernel
theorem dX0_restore_23 : decode cX0_restore 23 = .ok (.aload_n 0, 1) := by decide +kernel
theorem dX0_restore_24 : decode cX0_restore 24 = .ok (.getfield 21, 3) := by decide +kernel
theorem dX0_restore_27 : decode cX0_restore 27 = .ok (.ifCond .le 12, 3) := by decide +kernel
theorem dX0_restore_30 : decode cX0_restore 30 = .ok (.aload_n 0, 1) := by decide +kernel
theorem dX0_restore_31 : decode cX0_restore 31 = .ok (.getfield 21, 3) := by decide +kernel
theorem dX0_restore_34 : decode cX0_restore 34 = .ok (.iconst 1, 1) := by decide +kernel
theorem dX0_restore_35 : decode cX0_restore 35 = .ok (.isub, 1) := by decide +kernel
theorem dX0_restore_36 : decode cX0_restore 36 = .ok (.goto 5, 3) := by decide +kernel
theorem dX0_restore_39 : decode cX0_restore 39 = .ok (.bipush 11, 2) := by decide +kernel
theorem dX0_restore_41 : decode cX0_restore 41 = .ok (.putfield 21, 3) := by decide +kernel
theorem dX0_restore_44 : decode cX0_restore 44 = .ok (.aload_n 0, 1) := by decide +kernel
theorem dX0_restore_45 : decode cX0_restore 45 = .ok (.dup, 1) := by decide +kernel
theorem dX0_restore_46 : decode cX0_restore 46 = .ok (.getfield 17, 3) := by decide +kernel
theorem dX0_restore_49 : decode cX0_restore 49 = .ok (.iconst 1, 1) := by decide +kernel
theorem dX0_restore_50 : decode cX0_restore 50 = .ok (.isub, 1) := by decide +kernel
theorem dX0_restore_51 : decode cX0_restore 51 = .ok (.putfield 17, 3) := by decide +kernel
theorem dX0_restore_54 : decode cX0_restore 54 = .ok (.iconst 1, 1) := by decide +kernel
theorem dX0_restore_55 : decode cX0_restore 55 = .ok (.ireturn, 1) := by decide +kernel
theorem dX1_init_0 : decode cX1_init 0 = .ok (.aload_n 0, 1) := by decide +kernel
theorem dX1_init_1 : decode cX1_init 1 = .ok (.invokespecial 3, 3) := by decide +kernel
theorem dX1_init_4 : decode cX1_init 4 = .ok (.aload_n 0, 1) := by decide +kernel
theorem dX1_init_5 : decode cX1_init 5 = .ok (.iconst 0, 1) := by decide +kernel
theorem dX1_init_6 : decode cX1_init 6 = .ok (.putfield 9, 3) := by decide +kernel
theorem dX1_init_9 : decode cX1_init 9 = .ok (.aload_n 0, 1) := by decide +kernel
theorem dX1_init_10 : decode cX1_init 10 = .ok (.bipush 8, 2) := by decide +kernel
theorem dX1_init_12 : decode cX1_init 12 = .ok (.newarray .int, 2) := by decide +kernel
theorem dX1_init_14 : decode cX1_init 14 = .ok (.putfield 15, 3) := by decide +kernel
theorem dX1_init_17 : decode cX1_init 17 = .ok (.aload_n 0, 1) := by decide +kernel
theorem dX1_init_18 : decode cX1_init 18 = .ok (.bipush 8, 2) := by decide +kernel
theorem dX1_init_20 : decode cX1_init 20 = .ok (.newarray .int, 2) := by decide +kernel
theorem dX1_init_22 : decode cX1_init 22 = .ok (.putfield 19, 3) := by decide +kernel
theorem dX1_init_25 : decode cX1_init 25 = .ok (.aload_n 0, 1) := by decide +kernel
theorem dX1_init_26 : decode cX1_init 26 = .ok (.bipush 48, 2) := by decide +kernel
theorem dX1_init_28 : decode cX1_init 28 = .ok (.newarray .int, 2) := by decide +kernel
theorem dX1_init_30 : decode cX1_init 30 = .ok (.putfield 22, 3) := by decide +kernel
theorem dX1_init_33 : decode cX1_init 33 = .ok (.aload_n 0, 1) := by decide +kernel
theorem dX1_init_34 : decode cX1_init 34 = .ok (.bipush 48, 2) := by decide +kernel
theorem dX1_init_36 : decode cX1_init 36 = .ok (.newarray .int, 2) := by decide +kernel
theorem dX1_init_38 : decode cX1_init 38 = .ok (.putfield 25, 3) := by decide +kernel
theorem dX1_init_41 : decode cX1_init 41 = .ok (.aload_n 0, 1) := by decide +kernel
theorem dX1_init_42 : decode cX1_init 42 = .ok (.bipush 8, 2) := by decide +kernel
theorem dX1_init_44 : decode cX1_init 44 = .ok (.newarray .int, 2) := by decide +kernel
theorem dX1_init_46 : decode cX1_init 46 = .ok (.putfield 28, 3) := by decide +kernel
theorem dX1_init_49 : decode cX1_init 49 = .ok (.aload_n 0, 1) := by decide +kernel
theorem dX1_init_50 : decode cX1_init 50 = .ok (.bipush 8, 2) := by decide +kernel
theorem dX1_init_52 : decode cX1_init 52 = .ok (.newarray .int, 2) := by decide +kernel
theorem dX1_init_54 : decode cX1_init 54 = .ok (.putfield 31, 3) := by decide +kernel
theorem dX1_init_57 : decode cX1_init 57 = .ok (.aload_n 0, 1) := by decide +kernel
theorem dX1_init_58 : decode cX1_init 58 = .ok (.bipush 8, 2) := by decide +kernel
theorem dX1_init_60 : decode cX1_init 60 = .ok (.newarray .int, 2) := by decide +kernel
theorem dX1_init_62 : decode cX1_init 62 = .ok (.putfield 34, 3) := by decide +kernel
theorem dX1_init_65 : decode cX1_init 65 = .ok (.aload_n 0, 1) := by decide +kernel
theorem dX1_init_66 : decode cX1_init 66 = .ok (.bipush 8, 2) := by decide +kernel
theorem dX1_init_68 : decode cX1_init 68 = .ok (.newarray .int, 2) := by decide +kernel
theorem dX1_init_70 : decode cX1_init 70 = .ok (.putfield 37, 3) := by decide +kernel
theorem dX1_init_73 : decode cX1_init 73 = .ok (.aload_n 0, 1) := by decide +kernel
theorem dX1_init_74 : decode cX1_init 74 = .ok (.invokevirtual 40, 3) := by decide +kernel
theorem dX1_init_77 : decode cX1_init 77 = .ok (.return_, 1) := by decide +kernel
theorem dX1_tellAnew_0 : decode cX1_tellAnew 0 = .ok (.aload_n 0, 1) := by decide +kernel
theorem dX1_tellAnew_1 : decode cX1_tellAnew 1 = .ok (.iconst 0, 1) := by decide +kernel
theorem dX1_tellAnew_2 : decode cX1_tellAnew 2 = .ok (.putfield 9, 3) := by decide +kernel
theorem dX1_tellAnew_5 : decode cX1_tellAnew 5 = .ok (.aload_n 0, 1) := by decide +kernel
theorem dX1_tellAnew_6 : decode cX1_tellAnew 6 = .ok (.bipush (-9), 2) := by decide +kernel
theorem dX1_tellAnew_8 : decode cX1_tellAnew 8 = .ok (.invokevirtual 43, 3) := by decide +kernel
theorem dX1_tellAnew_11 : decode cX1_tellAnew 11 = .ok (.pop, 1) := by decide +kernel
theorem dX1_tellAnew_12 : decode cX1_tellAnew 12 = .ok (.return_, 1) := by decide +kernel
theorem dX1_addTask_0 : decode cX1_addTask 0 = .ok (.aload_n 0, 1) := by decide +kernel
theorem dX1_addTask_1 : decode cX1_addTask 1 = .ok (.getfield 9, 3) := by decide +kernel
theorem dX1_addTask_4 : decode cX1_addTask 4 = .ok (.bipush 8, 2) := by decide +kernel
theorem dX1_addTask_6 : decode cX1_addTask 6 = .ok (.if_icmp .lt 6, 3) := by decide +kernel
theorem dX1_addTask_9 : decode cX1_addTask 9 = .ok (.bipush (-9), 2) := by decide +kernel
theorem dX1_addTask_11 : decode cX1_addTask 11 = .ok (.ireturn, 1) := by decide +kernel
theorem dX1_addTask_12 : decode cX1_addTask 12 = .ok (.aload_n 0, 1) := by decide +kernel
theorem dX1_addTask_13 : decode cX1_addTask 13 = .ok (.getfield 9, 3) := by decide +kernel
theorem dX1_addTask_16 : decode cX1_addTask 16 = .ok (.istore_n 2, 1) := by decide +kernel
theorem dX1_addTask_17 : decode cX1_addTask 17 = .ok (.aload_n 0, 1) := by decide +kernel
theorem dX1_addTask_18 : decode cX1_addTask 18 = .ok (.dup, 1) := by decide +kernel
theorem dX1_addTask_19 : decode cX1_addTask 19 = .ok (.getfield 9, 3) := by decide +kernel
theorem dX1_addTask_22 : decode cX1_addTask 22 = .ok (.iconst 1, 1) := by decide +kernel
theorem dX1_addTask_23 : decode cX1_addTask 23 = .ok (.iadd, 1) := by decide +kernel
theorem dX1_addTask_24 : decode cX1_addTask 24 = .ok (.putfield 9, 3) := by decide +kernel
theorem dX1_addTask_27 : decode cX1_addTask 27 = .ok (.aload_n 0, 1) := by decide +kernel
theorem dX1_addTask_28 : decode cX1_addTask 28 = .ok (.getfield 15, 3) := by decide +kernel
theorem dX1_addTask_31 : decode cX1_addTask 31 = .ok (.iload_n 2, 1) := by decide +kernel
theorem dX1_addTask_32 : decode cX1_addTask 32 = .ok (.iload_n 1, 1) := by decide +kernel
theorem dX1_addTask_33 : decode cX1_addTask 33 = .ok (.iastore, 1) := by decide +kernel
theorem dX1_addTask_34 : decode cX1_addTask 34 = .ok (.aload_n 0, 1) := by decide +kernel
theorem dX1_addTask_35 : decode cX1_addTask 35 = .ok (.getfield 19, 3) := by decide +kernel
theorem dX1_addTask_38 : decode cX1_addTask 38 = .ok (.iload_n 2, 1) := by decide +kernel
theorem dX1_addTask_39 : decode cX1_addTask 39 = .ok (.iconst 0, 1) := by decide +kernel
theorem dX1_addTask_40 : decode cX1_addTask 40 = .ok (.iastore, 1) := by decide +kernel
theorem dX1_addTask_41 : decode cX1_addTask 41 = .ok (.aload_n 0, 1) := by decide +kernel
theorem dX1_addTask_42 : decode cX1_addTask 42 = .ok (.getfield 28, 3) := by decide +kernel
theorem dX1_addTask_45 : decode cX1_addTask 45 = .ok (.iload_n 2, 1) := by decide +kernel
theorem dX1_addTask_46 : decode cX1_addTask 46 = .ok (.bipush 99, 2) := by decide +kernel
theorem dX1_addTask_48 : decode cX1_addTask 48 = .ok (.iastore, 1) := by decide +kernel
theorem dX1_addTask_49 : decode cX1_addTask 49 = .ok (.aload_n 0, 1) := by decide +kernel
theorem dX1_addTask_50 : decode cX1_addTask 50 = .ok (.getfield 31, 3) := by decide +kernel
theorem dX1_addTask_53 : decode cX1_addTask 53 = .ok (.iload_n 2, 1) := by decide +kernel
theorem dX1_addTask_54 : decode cX1_addTask 54 = .ok (.iconst 0, 1) := by decide +kernel
theorem dX1_addTask_55 : decode cX1_addTask 55 = .ok (.iastore, 1) := by decide +kernel
theorem dX1_addTask_56 : decode cX1_addTask 56 = .ok (.aload_n 0, 1) := by decide +kernel
theorem dX1_addTask_57 : decode cX1_addTask 57 = .ok (.getfield 34, 3) := by decide +kernel
theorem dX1_addTask_60 : decode cX1_addTask 60 = .ok (.iload_n 2, 1) := by decide +kernel
theorem dX1_addTask_61 : decode cX1_addTask 61 = .ok (.iconst 0, 1) := by decide +kernel
theorem dX1_addTask_62 : decode cX1_addTask 62 = .ok (.iastore, 1) := by decide +kernel
theorem dX1_addTask_63 : decode cX1_addTask 63 = .ok (.aload_n 0, 1) := by decide +kernel
theorem dX1_addTask_64 : decode cX1_addTask 64 = .ok (.getfield 37, 3) := by decide +kernel
theorem dX1_addTask_67 : decode cX1_addTask 67 = .ok (.iload_n 2, 1) := by decide +kernel
theorem dX1_addTask_68 : decode cX1_addTask 68 = .ok (.iconst 0, 1) := by decide +kernel
theorem dX1_addTask_69 : decode cX1_addTask 69 = .ok (.iastore, 1) := by decide +kernel
theorem dX1_addTask_70 : decode cX1_addTask 70 = .ok (.iload_n 2, 1) := by decide +kernel
theorem dX1_addTask_71 : decode cX1_addTask 71 = .ok (.ireturn, 1) := by decide +kernel
theorem dX1_addOperation_0 : decode cX1_addOperation 0 = .ok (.iload_n 1, 1) := by decide +kernel
theorem dX1_addOperation_1 : decode cX1_addOperation 1 = .ok (.ifCond .lt 22, 3) := by decide +kernel
theorem dX1_addOperation_4 : decode cX1_addOperation 4 = .ok (.iload_n 1, 1) := by decide +kernel
theorem dX1_addOperation_5 : decode cX1_addOperation 5 = .ok (.aload_n 0, 1) := by decide +kernel
theorem dX1_addOperation_6 : decode cX1_addOperation 6 = .ok (.getfield 9, 3) := by decide +kernel
theorem dX1_addOperation_9 : decode cX1_addOperation 9 = .ok (.if_icmp .ge 14, 3) := by decide +kernel
theorem dX1_addOperation_12 : decode cX1_addOperation 12 = .ok (.aload_n 0, 1) := by decide +kernel
theorem dX1_addOperation_13 : decode cX1_addOperation 13 = .ok (.getfield 19, 3) := by decide +kernel
theorem dX1_addOperation_16 : decode cX1_addOperation 16 = .ok (.iload_n 1, 1) := by decide +kernel
theorem dX1_addOperation_17 : decode cX1_addOperation 17 = .ok (.iaload, 1) := by decide +kernel
theorem dX1_addOperation_18 : decode cX1_addOperation 18 = .ok (.bipush 6, 2) := by decide +kernel
theorem dX1_addOperation_20 : decode cX1_addOperation 20 = .ok (.if_icmp .lt 5, 3) := by decide +kernel
theorem dX1_addOperation_23 : decode cX1_addOperation 23 = .ok (.iconst 0, 1) := by decide +kernel
theorem dX1_addOperation_24 : decode cX1_addOperation 24 = .ok (.ireturn, 1) := by decide +kernel
theorem dX1_addOperation_25 : decode cX1_addOperation 25 = .ok (.iload_n 1, 1) := by decide +kernel
theorem dX1_addOperation_26 : decode cX1_addOperation 26 = .ok (.bipush 6, 2) := by decide +kernel
theorem dX1_addOperation_28 : decode cX1_addOperation 28 = .ok (.imul, 1) := by decide +kernel
theorem dX1_addOperation_29 : decode cX1_addOperation 29 = .ok (.aload_n 0, 1) := by decide +kernel
theorem dX1_addOperation_30 : decode cX1_addOperation 30 = .ok (.getfield 19, 3) := by decide +kernel
theorem dX1_addOperation_33 : decode cX1_addOperation 33 = .ok (.iload_n 1, 1) := by decide +kernel
theorem dX1_addOperation_34 : decode cX1_addOperation 34 = .ok (.iaload, 1) := by decide +kernel
theorem dX1_addOperation_35 : decode cX1_addOperation 35 = .ok (.iadd, 1) := by decide +kernel
theorem dX1_addOperation_36 : decode cX1_addOperation 36 = .ok (.istore 4, 2) := by decide +kernel
theorem dX1_addOperation_38 : decode cX1_addOperation 38 = .ok (.aload_n 0, 1) := by decide +kernel
theorem dX1_addOperation_39 : decode cX1_addOperation 39 = .ok (.getfield 22, 3) := by decide +kernel
theorem dX1_addOperation_42 : decode cX1_addOperation 42 = .ok (.iload 4, 2) := by decide +kernel
theorem dX1_addOperation_44 : decode cX1_addOperation 44 = .ok (.iload_n 2, 1) := by decide +kernel
theorem dX1_addOperation_45 : decode cX1_addOperation 45 = .ok (.iastore, 1) := by decide +kernel
theorem dX1_addOperation_46 : decode cX1_addOperation 46 = .ok (.aload_n 0, 1) := by decide +kernel
theorem dX1_addOperation_47 : decode cX1_addOperation 47 = .ok (.getfield 25, 3) := by decide +kernel
theorem dX1_addOperation_50 : decode cX1_addOperation 50 = .ok (.iload 4, 2) := by decide +kernel
theorem dX1_addOperation_52 : decode cX1_addOperation 52 = .ok (.iload_n 3, 1) := by decide +kernel
theorem dX1_addOperation_53 : decode cX1_addOperation 53 = .ok (.iastore, 1) := by decide +kernel
theorem dX1_addOperation_54 : decode cX1_addOperation 54 = .ok (.aload_n 0, 1) := by decide +kernel
theorem dX1_addOperation_55 : decode cX1_addOperation 55 = .ok (.getfield 19, 3) := by decide +kernel
theorem dX1_addOperation_58 : decode cX1_addOperation 58 = .ok (.iload_n 1, 1) := by decide +kernel
theorem dX1_addOperation_59 : decode cX1_addOperation 59 = .ok (.dup2, 1) := by decide +kernel
theorem dX1_addOperation_60 : decode cX1_addOperation 60 = .ok (.iaload, 1) := by decide +kernel
theorem dX1_addOperation_61 : decode cX1_addOperation 61 = .ok (.iconst 1, 1) := by decide +kernel
theorem dX1_addOperation_62 : decode cX1_addOperation 62 = .ok (.iadd, 1) := by decide +kernel
theorem dX1_addOperation_63 : decode cX1_addOperation 63 = .ok (.iastore, 1) := by decide +kernel
theorem dX1_addOperation_64 : decode cX1_addOperation 64 = .ok (.iconst 1, 1) := by decide +kernel
theorem dX1_addOperation_65 : decode cX1_addOperation 65 = .ok (.ireturn, 1) := by decide +kernel
theorem dX1_copyFrom_0 : decode cX1_copyFrom 0 = .ok (.aload_n 0, 1) := by decide +kernel
theorem dX1_copyFrom_1 : decode cX1_copyFrom 1 = .ok (.aload_n 1, 1) := by decide +kernel
theorem dX1_copyFrom_2 : decode cX1_copyFrom 2 = .ok (.getfield 9, 3) := by decide +kernel
theorem dX1_copyFrom_5 : decode cX1_copyFrom 5 = .ok (.putfield 9, 3) := by decide +kernel
theorem dX1_copyFrom_8 : decode cX1_copyFrom 8 = .ok (.aload_n 1, 1) := by decide +kernel
theorem dX1_copyFrom_9 : decode cX1_copyFrom 9 = .ok (.getfield 15, 3) := by decide +kernel
theorem dX1_copyFrom_12 : decode cX1_copyFrom 12 = .ok (.iconst 0, 1) := by decide +kernel
theorem dX1_copyFrom_13 : decode cX1_copyFrom 13 = .ok (.aload_n 0, 1) := by decide +kernel
theorem dX1_copyFrom_14 : decode cX1_copyFrom 14 = .ok (.getfield 15, 3) := by decide +kernel
theorem dX1_copyFrom_17 : decode cX1_copyFrom 17 = .ok (.iconst 0, 1) := by decide +kernel
theorem dX1_copyFrom_18 : decode cX1_copyFrom 18 = .ok (.bipush 8, 2) := by decide +kernel
theorem dX1_copyFrom_20 : decode cX1_copyFrom 20 = .ok (.invokestatic 47, 3) := by decide +kernel
theorem dX1_copyFrom_23 : decode cX1_copyFrom 23 = .ok (.aload_n 1, 1) := by decide +kernel
theorem dX1_copyFrom_24 : decode cX1_copyFrom 24 = .ok (.getfield 19, 3) := by decide +kernel
theorem dX1_copyFrom_27 : decode cX1_copyFrom 27 = .ok (.iconst 0, 1) := by decide +kernel
theorem dX1_copyFrom_28 : decode cX1_copyFrom 28 = .ok (.aload_n 0, 1) := by decide +kernel
theorem dX1_copyFrom_29 : decode cX1_copyFrom 29 = .ok (.getfield 19, 3) := by decide +kernel
theorem dX1_copyFrom_32 : decode cX1_copyFrom 32 = .ok (.iconst 0, 1) := by decide +kernel
theorem dX1_copyFrom_33 : decode cX1_copyFrom 33 = .ok (.bipush 8, 2) := by decide +kernel
theorem dX1_copyFrom_35 : decode cX1_copyFrom 35 = .ok (.invokestatic 47, 3) := by decide +kernel
theorem dX1_copyFrom_38 : decode cX1_copyFrom 38 = .ok (.aload_n 1, 1) := by decide +kernel
theorem dX1_copyFrom_39 : decode cX1_copyFrom 39 = .ok (.getfield 22, 3) := by decide +kernel
theorem dX1_copyFrom_42 : decode cX1_copyFrom 42 = .ok (.iconst 0, 1) := by decide +kernel
theorem dX1_copyFrom_43 : decode cX1_copyFrom 43 = .ok (.aload_n 0, 1) := by decide +kernel
theorem dX1_copyFrom_44 : decode cX1_copyFrom 44 = .ok (.getfield 22, 3) := by decide +kernel
theorem dX1_copyFrom_47 : decode cX1_copyFrom 47 = .ok (.iconst 0, 1) := by decide +kernel
theorem dX1_copyFrom_48 : decode cX1_copyFrom 48 = .ok (.bipush 48, 2) := by decide +kernel
theorem dX1_copyFrom_50 : decode cX1_copyFrom 50 = .ok (.invokestatic 47, 3) := by decide +kernel
theorem dX1_copyFrom_53 : decode cX1_copyFrom 53 = .ok (.aload_n 1, 1) := by decide +kernel
theorem dX1_copyFrom_54 : decode cX1_copyFrom 54 = .ok (.getfield 25, 3) := by decide +kernel
theorem dX1_copyFrom_57 : decode cX1_copyFrom 57 = .ok (.iconst 0, 1) := by decide +kernel
theorem dX1_copyFrom_58 : decode cX1_copyFrom 58 = .ok (.aload_n 0, 1) := by decide +kernel
theorem dX1_copyFrom_59 : decode cX1_copyFrom 59 = .ok (.getfield 25, 3) := by decide +kernel
theorem dX1_copyFrom_62 : decode cX1_copyFrom 62 = .ok (.iconst 0, 1) := by decide +kernel
theorem dX1_copyFrom_63 : decode cX1_copyFrom 63 = .ok (.bipush 48, 2) := by decide +kernel
theorem dX1_copyFrom_65 : decode cX1_copyFrom 65 = .ok (.invokestatic 47, 3) := by decide +kernel
theorem dX1_copyFrom_68 : decode cX1_copyFrom 68 = .ok (.aload_n 1, 1) := by decide +kernel
theorem dX1_copyFrom_69 : decode cX1_copyFrom 69 = .ok (.getfield 28, 3) := by decide +kernel
theorem dX1_copyFrom_72 : decode cX1_copyFrom 72 = .ok (.iconst 0, 1) := by decide +kernel
theorem dX1_copyFrom_73 : decode cX1_copyFrom 73 = .ok (.aload_n 0, 1) := by decide +kernel
theorem dX1_copyFrom_74 : decode cX1_copyFrom 74 = .ok (.getfield 28, 3) := by decide +kernel
theorem dX1_copyFrom_77 : decode cX1_copyFrom 77 = .ok (.iconst 0, 1) := by decide +kernel
theorem dX1_copyFrom_78 : decode cX1_copyFrom 78 = .ok (.bipush 8, 2) := by decide +kernel
theorem dX1_copyFrom_80 : decode cX1_copyFrom 80 = .ok (.invokestatic 47, 3) := by decide +kernel
theorem dX1_copyFrom_83 : decode cX1_copyFrom 83 = .ok (.aload_n 1, 1) := by decide +kernel
theorem dX1_copyFrom_84 : decode cX1_copyFrom 84 = .ok (.getfield 31, 3) := by decide +kernel
theorem dX1_copyFrom_87 : decode cX1_copyFrom 87 = .ok (.iconst 0, 1) := by decide +kernel
theorem dX1_copyFrom_88 : decode cX1_copyFrom 88 = .ok (.aload_n 0, 1) := by decide +kernel
theorem dX1_copyFrom_89 : decode cX1_copyFrom 89 = .ok (.getfield 31, 3) := by decide +kernel
theorem dX1_copyFrom_92 : decode cX1_copyFrom 92 = .ok (.iconst 0, 1) := by decide +kernel
theorem dX1_copyFrom_93 : decode cX1_copyFrom 93 = .ok (.bipush 8, 2) := by decide +kernel
theorem dX1_copyFrom_95 : decode cX1_copyFrom 95 = .ok (.invokestatic 47, 3) := by decide +kernel
theorem dX1_copyFrom_98 : decode cX1_copyFrom 98 = .ok (.aload_n 1, 1) := by decide +kernel
theorem dX1_copyFrom_99 : decode cX1_copyFrom 99 = .ok (.getfield 34, 3) := by decide +kernel
theorem dX1_copyFrom_102 : decode cX1_copyFrom 102 = .ok (.iconst 0, 1) := by decide +kernel
theorem dX1_copyFrom_103 : decode cX1_copyFrom 103 = .ok (.aload_n 0, 1) := by decide +kernel
theorem dX1_copyFrom_104 : decode cX1_copyFrom 104 = .ok (.getfield 34, 3) := by decide +kernel
theorem dX1_copyFrom_107 : decode cX1_copyFrom 107 = .ok (.iconst 0, 1) := by decide +kernel
theorem dX1_copyFrom_108 : decode cX1_copyFrom 108 = .ok (.bipush 8, 2) := by decide +kernel
theorem dX1_copyFrom_110 : decode cX1_copyFrom 110 = .ok (.invokestatic 47, 3) := by decide +kernel
theorem dX1_copyFrom_113 : decode cX1_copyFrom 113 = .ok (.aload_n 1, 1) := by decide +kernel
theorem dX1_copyFrom_114 : decode cX1_copyFrom 114 = .ok (.getfield 37, 3) := by decide +kernel
theorem dX1_copyFrom_117 : decode cX1_copyFrom 117 = .ok (.iconst 0, 1) := by decide +kernel
theorem dX1_copyFrom_118 : decode cX1_copyFrom 118 = .ok (.aload_n 0, 1) := by decide +kernel
theorem dX1_copyFrom_119 : decode cX1_copyFrom 119 = .ok (.getfield 37, 3) := by decide +kernel
theorem dX1_copyFrom_122 : decode cX1_copyFrom 122 = .ok (.iconst 0, 1) := by decide +kernel
theorem dX1_copyFrom_123 : decode cX1_copyFrom 123 = .ok (.bipush 8, 2) := by decide +kernel
theorem dX1_copyFrom_125 : decode cX1_copyFrom 125 = .ok (.invokestatic 47, 3) := by decide +kernel
theorem dX1_copyFrom_128 : decode cX1_copyFrom 128 = .ok (.return_, 1) := by decide +kernel
theorem dX2_init_0 : decode cX2_init 0 = .ok (.aload_n 0, 1) := by decide +kernel
theorem dX2_init_1 : decode cX2_init 1 = .ok (.invokespecial 3, 3) := by decide +kernel
theorem dX2_init_4 : decode cX2_init 4 = .ok (.aload_n 0, 1) := by decide +kernel
theorem dX2_init_5 : decode cX2_init 5 = .ok (.iconst 0, 1) := by decide +kernel
theorem dX2_init_6 : decode cX2_init 6 = .ok (.putfield 9, 3) := by decide +kernel
theorem dX2_init_9 : decode cX2_init 9 = .ok (.aload_n 0, 1) := by decide +kernel
theorem dX2_init_10 : decode cX2_init 10 = .ok (.aload_n 1, 1) := by decide +kernel
theorem dX2_init_11 : decode cX2_init 11 = .ok (.putfield 15, 3) := by decide +kernel
theorem dX2_init_14 : decode cX2_init 14 = .ok (.aload_n 0, 1) := by decide +kernel
theorem dX2_init_15 : decode cX2_init 15 = .ok (.aload_n 2, 1) := by decide +kernel
theorem dX2_init_16 : decode cX2_init 16 = .ok (.putfield 19, 3) := by decide +kernel
theorem dX2_init_19 : decode cX2_init 19 = .ok (.return_, 1) := by decide +kernel
theorem dX2_readAll_0 : decode cX2_readAll 0 = .ok (.aload_n 0, 1) := by decide +kernel
theorem dX2_readAll_1 : decode cX2_readAll 1 = .ok (.iconst 0, 1) := by decide +kernel
theorem dX2_readAll_2 : decode cX2_readAll 2 = .ok (.putfield 9, 3) := by decide +kernel
theorem dX2_readAll_5 : decode cX2_readAll 5 = .ok (.aload_n 0, 1) := by decide +kernel
theorem dX2_readAll_6 : decode cX2_readAll 6 = .ok (.getfield 19, 3) := by decide +kernel
theorem dX2_readAll_9 : decode cX2_readAll 9 = .ok (.invokevirtual 23, 3) := by decide +kernel
theorem dX2_readAll_12 : decode cX2_readAll 12 = .ok (.aload_n 0, 1) := by decide +kernel
theorem dX2_readAll_13 : decode cX2_readAll 13 = .ok (.getfield 15, 3) := by decide +kernel
theorem dX2_readAll_16 : decode cX2_readAll 16 = .ok (.invokevirtual 28, 3) := by decide +kernel
theorem dX2_readAll_19 : decode cX2_readAll 19 = .ok (.iconst 0, 1) := by decide +kernel
theorem dX2_readAll_20 : decode cX2_readAll 20 = .ok (.istore_n 1, 1) := by decide +kernel
theorem dX2_readAll_21 : decode cX2_readAll 21 = .ok (.iload_n 1, 1) := by decide +kernel
theorem dX2_readAll_22 : decode cX2_readAll 22 = .ok (.bipush 120, 2) := by decide +kernel
theorem dX2_readAll_24 : decode cX2_readAll 24 = .ok (.if_icmp .ge 39, 3) := by decide +kernel
theorem dX2_readAll_27 : decode cX2_readAll 27 = .ok (.aload_n 0, 1) := by decide +kernel
theorem dX2_readAll_28 : decode cX2_readAll 28 = .ok (.getfield 15, 3) := by decide +kernel
theorem dX2_readAll_31 : decode cX2_readAll 31 = .ok (.getfield 33, 3) := by decide +kernel
theorem dX2_readAll_34 : decode cX2_readAll 34 = .ok (.iconst (-1), 1) := by decide +kernel
theorem dX2_readAll_35 : decode cX2_readAll 35 = .ok (.if_icmp .eq 28, 3) := by decide +kernel
theorem dX2_readAll_38 : decode cX2_readAll 38 = .ok (.aload_n 0, 1) := by decide +kernel
theorem dX2_readAll_39 : decode cX2_readAll 39 = .ok (.invokevirtual 36, 3) := by decide +kernel
theorem dX2_readAll_42 : decode cX2_readAll 42 = .ok (.ifCond .ne 5, 3) := by decide +kernel
theorem dX2_readAll_45 : decode cX2_readAll 45 = .ok (.iconst 0, 1) := by decide +kernel
theorem dX2_readAll_46 : decode cX2_readAll 46 = .ok (.ireturn, 1) := by decide +kernel
theorem dX2_readAll_47 : decode cX2_readAll 47 = .ok (.aload_n 0, 1) := by decide +kernel
theorem dX2_readAll_48 : decode cX2_readAll 48 = .ok (.dup, 1) := by decide +kernel
theorem dX2_readAll_49 : decode cX2_readAll 49 = .ok (.getfield 9, 3) := by decide +kernel
theorem dX2_readAll_52 : decode cX2_readAll 52 = .ok (.iconst 1, 1) := by decide +kernel
theorem dX2_readAll_53 : decode cX2_readAll 53 = .ok (.iadd, 1) := by decide +kernel
theorem dX2_readAll_54 : decode cX2_readAll 54 = .ok (.putfield 9, 3) := by decide +kernel
theorem dX2_readAll_57 : decode cX2_readAll 57 = .ok (.iinc 1 1, 3) := by decide +kernel
theorem dX2_readAll_60 : decode cX2_readAll 60 = .ok (.goto (-39), 3) := by decide +kernel
theorem dX2_readAll_63 : decode cX2_readAll 63 = .ok (.iconst 1, 1) := by decide +kernel
theorem dX2_readAll_64 : decode cX2_readAll 64 = .ok (.ireturn, 1) := by decide +kernel
theorem dX2_readItem_0 : decode cX2_readItem 0 = .ok (.aload_n 0, 1) := by decide +kernel
theorem dX2_readItem_1 : decode cX2_readItem 1 = .ok (.getfield 15, 3) := by decide +kernel
theorem dX2_readItem_4 : decode cX2_readItem 4 = .ok (.getfield 33, 3) := by decide +kernel
theorem dX2_readItem_7 : decode cX2_readItem 7 = .ok (.bipush 114, 2) := by decide +kernel
theorem dX2_readItem_9 : decode cX2_readItem 9 = .ok (.if_icmp .ne 7, 3) := by decide +kernel
theorem dX2_readItem_12 : decode cX2_readItem 12 = .ok (.iconst 1, 1) := by decide +kernel
theorem dX2_readItem_13 : decode cX2_readItem 13 = .ok (.goto 4, 3) := by decide +kernel
theorem dX2_readItem_16 : decode cX2_readItem 16 = .ok (.iconst 0, 1) := by decide +kernel
theorem dX2_readItem_17 : decode cX2_readItem 17 = .ok (.aload_n 0, 1) := by decide +kernel
theorem dX2_readItem_18 : decode cX2_readItem 18 = .ok (.getfield 9, 3) := by decide +kernel
theorem dX2_readItem_21 : decode cX2_readItem 21 = .ok (.ifCond .ne 7, 3) := by decide +kernel
theorem dX2_readItem_24 : decode cX2_readItem 24 = .ok (.iconst 1, 1) := by decide +kernel
theorem dX2_readItem_25 : decode cX2_readItem 25 = .ok (.goto 4, 3) := by decide +kernel
theorem dX2_readItem_28 : decode cX2_readItem 28 = .ok (.iconst 0, 1) := by decide +kernel
theorem dX2_readItem_29 : decode cX2_readItem 29 = .ok (.if_icmp .eq 5, 3) := by decide +kernel
theorem dX2_readItem_32 : decode cX2_readItem 32 = .ok (.iconst 0, 1) := by decide +kernel
theorem dX2_readItem_33 : decode cX2_readItem 33 = .ok (.ireturn, 1) := by decide +kernel
theorem dX2_readItem_34 : decode cX2_readItem 34 = .ok (.aload_n 0, 1) := by decide +kernel
theorem dX2_readItem_35 : decode cX2_readItem 35 = .ok (.getfield 15, 3) := by decide +kernel
theorem dX2_readItem_38 : decode cX2_readItem 38 = .ok (.getfield 33, 3) := by decide +kernel
theorem dX2_readItem_41 : decode cX2_readItem 41 = .ok (.tableswitch 146 99 116 #[127, 97, 146, 146, 141, 146, 146, 146, 146, 146, 146, 146, 146, 146, 146, 87, 112, 92], 87) := by decide +kernel
theorem dX2_readItem_128 : decode cX2_readItem 128 = .ok (.aload_n 0, 1) := by decide +kernel
theorem dX2_readItem_129 : decode cX2_readItem 129 = .ok (.invokevirtual 40, 3) := by decide +kernel
theorem dX2_readItem_132 : decode cX2_readItem 132 = .ok (.ireturn, 1) := by decide +kernel
theorem dX2_readItem_133 : decode cX2_readItem 133 = .ok (.aload_n 0, 1) := by decide +kernel
theorem dX2_readItem_134 : decode cX2_readItem 134 = .ok (.invokevirtual 43, 3) := by decide +kernel
theorem dX2_readItem_137 : decode cX2_readItem 137 = .ok (.ireturn, 1) := by decide +kernel
theorem dX2_readItem_138 : decode cX2_readItem 138 = .ok (.aload_n 0, 1) := by decide +kernel
theorem dX2_readItem_139 : decode cX2_readItem 139 = .ok (.aload_n 0, 1) := by decide +kernel
theorem dX2_readItem_140 : decode cX2_readItem 140 = .ok (.getfield 19, 3) := by decide +kernel
theorem dX2_readItem_143 : decode cX2_readItem 143 = .ok (.getfield 46, 3) := by decide +kernel
theorem dX2_readItem_146 : decode cX2_readItem 146 = .ok (.iconst 1, 1) := by decide +kernel
theorem dX2_readItem_147 : decode cX2_readItem 147 = .ok (.bipush 60, 2) := by decide +kernel
theorem dX2_readItem_149 : decode cX2_readItem 149 = .ok (.invokevirtual 50, 3) := by decide +kernel
theorem dX2_readItem_152 : decode cX2_readItem 152 = .ok (.ireturn, 1) := by decide +kernel
theorem dX2_readItem_153 : decode cX2_readItem 153 = .ok (.aload_n 0, 1) := by decide +kernel
theorem dX2_readItem_154 : decode cX2_readItem 154 = .ok (.aload_n 0, 1) := by decide +kernel
theorem dX2_readItem_155 : decode cX2_readItem 155 = .ok (.getfield 19, 3) := by decide +kernel
theorem dX2_readItem_158 : decode cX2_readItem 158 = .ok (.getfield 54, 3) := by decide +kernel
theorem dX2_readItem_161 : decode cX2_readItem 161 = .ok (.iconst 0, 1) := by decide +kernel
theorem dX2_readItem_162 : decode cX2_readItem 162 = .ok (.bipush 6, 2) := by decide +kernel
theorem dX2_readItem_164 : decode cX2_readItem 164 = .ok (.invokevirtual 50, 3) := by decide +kernel
theorem dX2_readItem_167 : decode cX2_readItem 167 = .ok (.ireturn, 1) := by decide +kernel
theorem dX2_readItem_168 : decode cX2_readItem 168 = .ok (.aload_n 0, 1) := by decide +kernel
theorem dX2_readItem_169 : decode cX2_readItem 169 = .ok (.aload_n 0, 1) := by decide +kernel
theorem dX2_readItem_170 : decode cX2_readItem 170 = .ok (.getfield 19, 3) := by decide +kernel
theorem dX2_readItem_173 : decode cX2_readItem 173 = .ok (.getfield 57, 3) := by decide +kernel
theorem dX2_readItem_176 : decode cX2_readItem 176 = .ok (.iconst 0, 1) := by decide +kernel
theorem dX2_readItem_177 : decode cX2_readItem 177 = .ok (.iconst 5, 1) := by decide +kernel
theorem dX2_readItem_178 : decode cX2_readItem 178 = .ok (.invokevirtual 50, 3) := by decide +kernel
theorem dX2_readItem_181 : decode cX2_readItem 181 = .ok (.ireturn, 1) := by decide +kernel
theorem dX2_readItem_182 : decode cX2_readItem 182 = .ok (.aload_n 0, 1) := by decide +kernel
theorem dX2_readItem_183 : decode cX2_readItem 183 = .ok (.invokevirtual 60, 3) := by decide +kernel
theorem dX2_readItem_186 : decode cX2_readItem 186 = .ok (.ireturn, 1) := by decide +kernel
theorem dX2_readItem_187 : decode cX2_readItem 187 = .ok (.iconst 0, 1) := by decide +kernel
theorem dX2_readItem_188 : decode cX2_readItem 188 = .ok (.ireturn, 1) := by decide +kernel
theorem dX2_readRoot_0 : decode cX2_readRoot 0 = .ok (.aload_n 0, 1) := by decide +kernel
theorem dX2_readRoot_1 : decode cX2_readRoot 1 = .ok (.getfield 15, 3) := by decide +kernel
theorem dX2_readRoot_4 : decode cX2_readRoot 4 = .ok (.invokevirtual 63, 3) := by decide +kernel
theorem dX2_readRoot_7 : decode cX2_readRoot 7 = .ok (.aload_n 0, 1) := by decide +kernel
theorem dX2_readRoot_8 : decode cX2_readRoot 8 = .ok (.iconst 0, 1) := by decide +kernel
theorem dX2_readRoot_9 : decode cX2_readRoot 9 = .ok (.invokevirtual 66, 3) := by decide +kernel
theorem dX2_readRoot_12 : decode cX2_readRoot 12 = .ok (.ireturn, 1) := by decide +kernel
theorem dX2_readTask_0 : decode cX2_readTask 0 = .ok (.aload_n 0, 1) := by decide +kernel
theorem dX2_readTask_1 : decode cX2_readTask 1 = .ok (.getfield 19, 3) := by decide +kernel
theorem dX2_readTask_4 : decode cX2_readTask 4 = .ok (.getfield 70, 3) := by decide +kernel
theorem dX2_readTask_7 : decode cX2_readTask 7 = .ok (.bipush 8, 2) := by decide +kernel
theorem dX2_readTask_9 : decode cX2_readTask 9 = .ok (.if_icmp .lt 5, 3) := by decide +kernel
theorem dX2_readTask_12 : decode cX2_readTask 12 = .ok (.iconst 0, 1) := by decide +kernel
theorem dX2_readTask_13 : decode cX2_readTask 13 = .ok (.ireturn, 1) := by decide +kernel
theorem dX2_readTask_14 : decode cX2_readTask 14 = .ok (.aload_n 0, 1) := by decide +kernel
theorem dX2_readTask_15 : decode cX2_readTask 15 = .ok (.getfield 15, 3) := by decide +kernel
theorem dX2_readTask_18 : decode cX2_readTask 18 = .ok (.invokevirtual 63, 3) := by decide +kernel
theorem dX2_readTask_21 : decode cX2_readTask 21 = .ok (.aload_n 0, 1) := by decide +kernel
theorem dX2_readTask_22 : decode cX2_readTask 22 = .ok (.invokevirtual 73, 3) := by decide +kernel
theorem dX2_readTask_25 : decode cX2_readTask 25 = .ok (.ifCond .ne 5, 3) := by decide +kernel
theorem dX2_readTask_28 : decode cX2_readTask 28 = .ok (.iconst 0, 1) := by decide +kernel
theorem dX2_readTask_29 : decode cX2_readTask 29 = .ok (.ireturn, 1) := by decide +kernel
theorem dX2_readTask_30 : decode cX2_readTask 30 = .ok (.aload_n 0, 1) := by decide +kernel
theorem dX2_readTask_31 : decode cX2_readTask 31 = .ok (.getfield 19, 3) := by decide +kernel
theorem dX2_readTask_34 : decode cX2_readTask 34 = .ok (.aload_n 0, 1) := by decide +kernel
theorem dX2_readTask_35 : decode cX2_readTask 35 = .ok (.getfield 15, 3) := by decide +kernel
theorem dX2_readTask_38 : decode cX2_readTask 38 = .ok (.getfield 76, 3) := by decide +kernel
theorem dX2_readTask_41 : decode cX2_readTask 41 = .ok (.invokevirtual 79, 3) := by decide +kernel
theorem dX2_readTask_44 : decode cX2_readTask 44 = .ok (.istore_n 1, 1) := by decide +kernel
theorem dX2_readTask_45 : decode cX2_readTask 45 = .ok (.aload_n 0, 1) := by decide +kernel
theorem dX2_readTask_46 : decode cX2_readTask 46 = .ok (.getfield 15, 3) := by decide +kernel
theorem dX2_readTask_49 : decode cX2_readTask 49 = .ok (.invokevirtual 63, 3) := by decide +kernel
theorem dX2_readTask_52 : decode cX2_readTask 52 = .ok (.aload_n 0, 1) := by decide +kernel
theorem dX2_readTask_53 : decode cX2_readTask 53 = .ok (.iload_n 1, 1) := by decide +kernel
theorem dX2_readTask_54 : decode cX2_readTask 54 = .ok (.invokevirtual 66, 3) := by decide +kernel
theorem dX2_readTask_57 : decode cX2_readTask 57 = .ok (.ireturn, 1) := by decide +kernel
theorem dX2_readSetting_0 : decode cX2_readSetting 0 = .ok (.aload_n 0, 1) := by decide +kernel
theorem dX2_readSetting_1 : decode cX2_readSetting 1 = .ok (.getfield 15, 3) := by decide +kernel
theorem dX2_readSetting_4 : decode cX2_readSetting 4 = .ok (.invokevirtual 63, 3) := by decide +kernel
theorem dX2_readSetting_7 : decode cX2_readSetting 7 = .ok (.aload_n 0, 1) := by decide +kernel
theorem dX2_readSetting_8 : decode cX2_readSetting 8 = .ok (.invokevirtual 73, 3) := by decide +kernel
theorem dX2_readSetting_11 : decode cX2_readSetting 11 = .ok (.ifCond .ne 5, 3) := by decide +kernel
theorem dX2_readSetting_14 : decode cX2_readSetting 14 = .ok (.iconst 0, 1) := by decide +kernel
theorem dX2_readSetting_15 : decode cX2_readSetting 15 = .ok (.ireturn, 1) := by decide +kernel
theorem dX2_readSetting_16 : decode cX2_readSetting 16 = .ok (.aload_n 0, 1) := by decide +kernel
theorem dX2_readSetting_17 : decode cX2_readSetting 17 = .ok (.getfield 15, 3) := by decide +kernel
theorem dX2_readSetting_20 : decode cX2_readSetting 20 = .ok (.getfield 76, 3) := by decide +kernel
theorem dX2_readSetting_23 : decode cX2_readSetting 23 = .ok (.istore 4, 2) := by decide +kernel
theorem dX2_readSetting_25 : decode cX2_readSetting 25 = .ok (.aload_n 0, 1) := by decide +kernel
theorem dX2_readSetting_26 : decode cX2_readSetting 26 = .ok (.getfield 15, 3) := by decide +kernel
theorem dX2_readSetting_29 : decode cX2_readSetting 29 = .ok (.invokevirtual 63, 3) := by decide +kernel
theorem dX2_readSetting_32 : decode cX2_readSetting 32 = .ok (.aload_n 0, 1) := by decide +kernel
theorem dX2_readSetting_33 : decode cX2_readSetting 33 = .ok (.getfield 15, 3) := by decide +kernel
theorem dX2_readSetting_36 : decode cX2_readSetting 36 = .ok (.iload_n 2, 1) := by decide +kernel
theorem dX2_readSetting_37 : decode cX2_readSetting 37 = .ok (.iload_n 3, 1) := by decide +kernel
theorem dX2_readSetting_38 : decode cX2_readSetting 38 = .ok (.invokevirtual 83, 3) := by decide +kernel
theorem dX2_readSetting_41 : decode cX2_readSetting 41 = .ok (.ifCond .ne 5, 3) := by decide +kernel
theorem dX2_readSetting_44 : decode cX2_readSetting 44 = .ok (.iconst 0, 1) := by decide +kernel
theorem dX2_readSetting_45 : decode cX2_readSetting 45 = .ok (.ireturn, 1) := by decide +kernel
theorem dX2_readSetting_46 : decode cX2_readSetting 46 = .ok (.aload_n 1, 1) := by decide +kernel
theorem dX2_readSetting_47 : decode cX2_readSetting 47 = .ok (.iload 4, 2) := by decide +kernel
theorem dX2_readSetting_49 : decode cX2_readSetting 49 = .ok (.aload_n 0, 1) := by decide +kernel
theorem dX2_readSetting_50 : decode cX2_readSetting 50 = .ok (.getfield 15, 3) := by decide +kernel
theorem dX2_readSetting_53 : decode cX2_readSetting 53 = .ok (.getfield 76, 3) := by decide +kernel
theorem dX2_readSetting_56 : decode cX2_readSetting 56 = .ok (.iastore, 1) := by decide +kernel
theorem dX2_readSetting_57 : decode cX2_readSetting 57 = .ok (.aload_n 0, 1) := by decide +kernel
theorem dX2_readSetting_58 : decode cX2_readSetting 58 = .ok (.getfield 15, 3) := by decide +kernel
theorem dX2_readSetting_61 : decode cX2_readSetting 61 = .ok (.invokevirtual 63, 3) := by decide +kernel
theorem dX2_readSetting_64 : decode cX2_readSetting 64 = .ok (.aload_n 0, 1) := by decide +kernel
theorem dX2_readSetting_65 : decode cX2_readSetting 65 = .ok (.invokevirtual 87, 3) := by decide +kernel
theorem dX2_readSetting_68 : decode cX2_readSetting 68 = .ok (.ireturn, 1) := by decide +kernel
theorem dX2_readGathers_0 : decode cX2_readGathers 0 = .ok (.aload_n 0, 1) := by decide +kernel
theorem dX2_readGathers_1 : decode cX2_readGathers 1 = .ok (.getfield 15, 3) := by decide +kernel
theorem dX2_readGathers_4 : decode cX2_readGathers 4 = .ok (.invokevirtual 63, 3) := by decide +kernel
theorem dX2_readGathers_7 : decode cX2_readGathers 7 = .ok (.aload_n 0, 1) := by decide +kernel
theorem dX2_readGathers_8 : decode cX2_readGathers 8 = .ok (.invokevirtual 73, 3) := by decide +kernel
theorem dX2_readGathers_11 : decode cX2_readGathers 11 = .ok (.ifCond .eq 22, 3) := by decide +kernel
theorem dX2_readGathers_14 : decode cX2_readGathers 14 = .ok (.aload_n 0, 1) := by decide +kernel
theorem dX2_readGathers_15 : decode cX2_readGathers 15 = .ok (.getfield 19, 3) := by decide +kernel
theorem dX2_readGathers_18 : decode cX2_readGathers 18 = .ok (.getfield 90, 3) := by decide +kernel
theorem dX2_readGathers_21 : decode cX2_readGathers 21 = .ok (.aload_n 0, 1) := by decide +kernel
theorem dX2_readGathers_22 : decode cX2_readGathers 22 = .ok (.getfield 15, 3) := by decide +kernel
theorem dX2_readGathers_25 : decode cX2_readGathers 25 = .ok (.getfield 76, 3) := by decide +kernel
theorem dX2_readGathers_28 : decode cX2_readGathers 28 = .ok (.iaload, 1) := by decide +kernel
theorem dX2_readGathers_29 : decode cX2_readGathers 29 = .ok (.iconst 1, 1) := by decide +kernel
theorem dX2_readGathers_30 : decode cX2_readGathers 30 = .ok (.if_icmp .ne 5, 3) := by decide +kernel
theorem dX2_readGathers_33 : decode cX2_readGathers 33 = .ok (.iconst 0, 1) := by decide +kernel
theorem dX2_readGathers_34 : decode cX2_readGathers 34 = .ok (.ireturn, 1) := by decide +kernel
theorem dX2_readGathers_35 : decode cX2_readGathers 35 = .ok (.aload_n 0, 1) := by decide +kernel
theorem dX2_readGathers_36 : decode cX2_readGathers 36 = .ok (.getfield 19, 3) := by decide +kernel
theorem dX2_readGathers_39 : decode cX2_readGathers 39 = .ok (.getfield 90, 3) := by decide +kernel
theorem dX2_readGathers_42 : decode cX2_readGathers 42 = .ok (.aload_n 0, 1) := by decide +kernel
theorem dX2_readGathers_43 : decode cX2_readGathers 43 = .ok (.getfield 15, 3) := by decide +kernel
theorem dX2_readGathers_46 : decode cX2_readGathers 46 = .ok (.getfield 76, 3) := by decide +kernel
theorem dX2_readGathers_49 : decode cX2_readGathers 49 = .ok (.iconst 1, 1) := by decide +kernel
theorem dX2_readGathers_50 : decode cX2_readGathers 50 = .ok (.iastore, 1) := by decide +kernel
theorem dX2_readGathers_51 : decode cX2_readGathers 51 = .ok (.aload_n 0, 1) := by decide +kernel
theorem dX2_readGathers_52 : decode cX2_readGathers 52 = .ok (.getfield 15, 3) := by decide +kernel
theorem dX2_readGathers_55 : decode cX2_readGathers 55 = .ok (.invokevirtual 63, 3) := by decide +kernel
theorem dX2_readGathers_58 : decode cX2_readGathers 58 = .ok (.aload_n 0, 1) := by decide +kernel
theorem dX2_readGathers_59 : decode cX2_readGathers 59 = .ok (.invokevirtual 87, 3) := by decide +kernel
theorem dX2_readGathers_62 : decode cX2_readGathers 62 = .ok (.ireturn, 1) := by decide +kernel
theorem dX2_readOperations_0 : decode cX2_readOperations 0 = .ok (.iconst 0, 1) := by decide +kernel
theorem dX2_readOperations_1 : decode cX2_readOperations 1 = .ok (.istore_n 2, 1) := by decide +kernel
theorem dX2_readOperations_2 : decode cX2_readOperations 2 = .ok (.iload_n 2, 1) := by decide +kernel
theorem dX2_readOperations_3 : decode cX2_readOperations 3 = .ok (.bipush 6, 2) := by decide +kernel
theorem dX2_readOperations_5 : decode cX2_readOperations 5 = .ok (.if_icmp .ge 31, 3) := by decide +kernel
theorem dX2_readOperations_8 : decode cX2_readOperations 8 = .ok (.aload_n 0, 1) := by decide +kernel
theorem dX2_readOperations_9 : decode cX2_readOperations 9 = .ok (.getfield 15, 3) := by decide +kernel
theorem dX2_readOperations_12 : decode cX2_readOperations 12 = .ok (.getfield 33, 3) := by decide +kernel
theorem dX2_readOperations_15 : decode cX2_readOperations 15 = .ok (.bipush 59, 2) := by decide +kernel
theorem dX2_readOperations_17 : decode cX2_readOperations 17 = .ok (.if_icmp .eq 19, 3) := by decide +kernel
theorem dX2_readOperations_20 : decode cX2_readOperations 20 = .ok (.aload_n 0, 1) := by decide +kernel
theorem dX2_readOperations_21 : decode cX2_readOperations 21 = .ok (.iload_n 1, 1) := by decide +kernel
theorem dX2_readOperations_22 : decode cX2_readOperations 22 = .ok (.invokevirtual 93, 3) := by decide +kernel
theorem dX2_readOperations_25 : decode cX2_readOperations 25 = .ok (.ifCond .ne 5, 3) := by decide +kernel
theorem dX2_readOperations_28 : decode cX2_readOperations 28 = .ok (.iconst 0, 1) := by decide +kernel
theorem dX2_readOperations_29 : decode cX2_readOperations 29 = .ok (.ireturn, 1) := by decide +kernel
theorem dX2_readOperations_30 : decode cX2_readOperations 30 = .ok (.iinc 2 1, 3) := by decide +kernel
theorem dX2_readOperations_33 : decode cX2_readOperations 33 = .ok (.goto (-31), 3) := by decide +kernel
theorem dX2_readOperations_36 : decode cX2_readOperations 36 = .ok (.aload_n 0, 1) := by decide +kernel
theorem dX2_readOperations_37 : decode cX2_readOperations 37 = .ok (.invokevirtual 87, 3) := by decide +kernel
theorem dX2_readOperations_40 : decode cX2_readOperations 40 = .ok (.ireturn, 1) := by decide +kernel
theorem dX2_readOperation_0 : decode cX2_readOperation 0 = .ok (.aload_n 0, 1) := by decide +kernel
theorem dX2_readOperation_1 : decode cX2_readOperation 1 = .ok (.getfield 15, 3) := by decide +kernel
theorem dX2_readOperation_4 : decode cX2_readOperation 4 = .ok (.getfield 33, 3) := by decide +kernel
theorem dX2_readOperation_7 : decode cX2_readOperation 7 = .ok (.istore_n 2, 1) := by decide +kernel
theorem dX2_readOperation_8 : decode cX2_readOperation 8 = .ok (.iconst 0, 1) := by decide +kernel
theorem dX2_readOperation_9 : decode cX2_readOperation 9 = .ok (.istore_n 3, 1) := by decide +kernel
theorem dX2_readOperation_10 : decode cX2_readOperation 10 = .ok (.iload_n 2, 1) := by decide +kernel
theorem dX2_readOperation_11 : decode cX2_readOperation 11 = .ok (.bipush 119, 2) := by decide +kernel
theorem dX2_readOperation_13 : decode cX2_readOperation 13 = .ok (.if_icmp .eq 9, 3) := by decide +kernel
theorem dX2_readOperation_16 : decode cX2_readOperation 16 = .ok (.iload_n 2, 1) := by decide +kernel
theorem dX2_readOperation_17 : decode cX2_readOperation 17 = .ok (.bipush 102, 2) := by decide +kernel
theorem dX2_readOperation_19 : decode cX2_readOperation 19 = .ok (.if_icmp .ne 36, 3) := by decide +kernel
theorem dX2_readOperation_22 : decode cX2_readOperation 22 = .ok (.aload_n 0, 1) := by decide +kernel
theorem dX2_readOperation_23 : decode cX2_readOperation 23 = .ok (.getfield 15, 3) := by decide +kernel
theorem dX2_readOperation_26 : decode cX2_readOperation 26 = .ok (.invokevirtual 63, 3) := by decide +kernel
theorem dX2_readOperation_29 : decode cX2_readOperation 29 = .ok (.aload_n 0, 1) := by decide +kernel
theorem dX2_readOperation_30 : decode cX2_readOperation 30 = .ok (.getfield 15, 3) := by decide +kernel
theorem dX2_readOperation_33 : decode cX2_readOperation 33 = .ok (.iconst 1, 1) := by decide +kernel
theorem dX2_readOperation_34 : decode cX2_readOperation 34 = .ok (.bipush 9, 2) := by decide +kernel
theorem dX2_readOperation_36 : decode cX2_readOperation 36 = .ok (.invokevirtual 83, 3) := by decide +kernel
theorem dX2_readOperation_39 : decode cX2_readOperation 39 = .ok (.ifCond .ne 5, 3) := by decide +kernel
theorem dX2_readOperation_42 : decode cX2_readOperation 42 = .ok (.iconst 0, 1) := by decide +kernel
theorem dX2_readOperation_43 : decode cX2_readOperation 43 = .ok (.ireturn, 1) := by decide +kernel
theorem dX2_readOperation_44 : decode cX2_readOperation 44 = .ok (.aload_n 0, 1) := by decide +kernel
theorem dX2_readOperation_45 : decode cX2_readOperation 45 = .ok (.getfield 15, 3) := by decide +kernel
theorem dX2_readOperation_48 : decode cX2_readOperation 48 = .ok (.getfield 76, 3) := by decide +kernel
theorem dX2_readOperation_51 : decode cX2_readOperation 51 = .ok (.istore_n 3, 1) := by decide +kernel
theorem dX2_readOperation_52 : decode cX2_readOperation 52 = .ok (.goto 23, 3) := by decide +kernel
theorem dX2_readOperation_55 : decode cX2_readOperation 55 = .ok (.iload_n 2, 1) := by decide +kernel
theorem dX2_readOperation_56 : decode cX2_readOperation 56 = .ok (.bipush 98, 2) := by decide +kernel
theorem dX2_readOperation_58 : decode cX2_readOperation 58 = .ok (.if_icmp .eq 17, 3) := by decide +kernel
theorem dX2_readOperation_61 : decode cX2_readOperation 61 = .ok (.iload_n 2, 1) := by decide +kernel
theorem dX2_readOperation_62 : decode cX2_readOperation 62 = .ok (.bipush 106, 2) := by decide +kernel
theorem dX2_readOperation_64 : decode cX2_readOperation 64 = .ok (.if_icmp .eq 11, 3) := by decide +kernel
theorem dX2_readOperation_67 : decode cX2_readOperation 67 = .ok (.iload_n 2, 1) := by decide +kernel
theorem dX2_readOperation_68 : decode cX2_readOperation 68 = .ok (.bipush 120, 2) := by decide +kernel
theorem dX2_readOperation_70 : decode cX2_readOperation 70 = .ok (.if_icmp .eq 5, 3) := by decide +kernel
theorem dX2_readOperation_73 : decode cX2_readOperation 73 = .ok (.iconst 0, 1) := by decide +kernel
theorem dX2_readOperation_74 : decode cX2_readOperation 74 = .ok (.ireturn, 1) := by decide +kernel
theorem dX2_readOperation_75 : decode cX2_readOperation 75 = .ok (.aload_n 0, 1) := by decide +kernel
theorem dX2_readOperation_76 : decode cX2_readOperation 76 = .ok (.getfield 15, 3) := by decide +kernel
theorem dX2_readOperation_79 : decode cX2_readOperation 79 = .ok (.invokevirtual 63, 3) := by decide +kernel
theorem dX2_readOperation_82 : decode cX2_readOperation 82 = .ok (.aload_n 0, 1) := by decide +kernel
theorem dX2_readOperation_83 : decode cX2_readOperation 83 = .ok (.getfield 19, 3) := by decide +kernel
theorem dX2_readOperation_86 : decode cX2_readOperation 86 = .ok (.iload_n 1, 1) := by decide +kernel
theorem dX2_readOperation_87 : decode cX2_readOperation 87 = .ok (.iload_n 2, 1) := by decide +kernel
theorem dX2_readOperation_88 : decode cX2_readOperation 88 = .ok (.iload_n 3, 1) := by decide +kernel
theorem dX2_readOperation_89 : decode cX2_readOperation 89 = .ok (.invokevirtual 96, 3) := by decide +kernel
theorem dX2_readOperation_92 : decode cX2_readOperation 92 = .ok (.ireturn, 1) := by decide +kernel
theorem dX2_readEnd_0 : decode cX2_readEnd 0 = .ok (.aload_n 0, 1) := by decide +kernel
theorem dX2_readEnd_1 : decode cX2_readEnd 1 = .ok (.getfield 15, 3) := by decide +kernel
theorem dX2_readEnd_4 : decode cX2_readEnd 4 = .ok (.getfield 33, 3) := by decide +kernel
theorem dX2_readEnd_7 : decode cX2_readEnd 7 = .ok (.bipush 59, 2) := by decide +kernel
theorem dX2_readEnd_9 : decode cX2_readEnd 9 = .ok (.if_icmp .eq 5, 3) := by decide +kernel
theorem dX2_readEnd_12 : decode cX2_readEnd 12 = .ok (.iconst 0, 1) := by decide +kernel
theorem dX2_readEnd_13 : decode cX2_readEnd 13 = .ok (.ireturn, 1) := by decide +kernel
theorem dX2_readEnd_14 : decode cX2_readEnd 14 = .ok (.aload_n 0, 1) := by decide +kernel
theorem dX2_readEnd_15 : decode cX2_readEnd 15 = .ok (.getfield 15, 3) := by decide +kernel
theorem dX2_readEnd_18 : decode cX2_readEnd 18 = .ok (.invokevirtual 63, 3) := by decide +kernel
theorem dX2_readEnd_21 : decode cX2_readEnd 21 = .ok (.iconst 1, 1) := by decide +kernel
theorem dX2_readEnd_22 : decode cX2_readEnd 22 = .ok (.ireturn, 1) := by decide +kernel
theorem dX2_isTaskTold_0 : decode cX2_isTaskTold 0 = .ok (.aload_n 0, 1) := by decide +kernel
theorem dX2_isTaskTold_1 : decode cX2_isTaskTold 1 = .ok (.getfield 15, 3) := by decide +kernel
theorem dX2_isTaskTold_4 : decode cX2_isTaskTold 4 = .ok (.iconst 0, 1) := by decide +kernel
theorem dX2_isTaskTold_5 : decode cX2_isTaskTold 5 = .ok (.aload_n 0, 1) := by decide +kernel
theorem dX2_isTaskTold_6 : decode cX2_isTaskTold 6 = .ok (.getfield 19, 3) := by decide +kernel
theorem dX2_isTaskTold_9 : decode cX2_isTaskTold 9 = .ok (.getfield 70, 3) := by decide +kernel
theorem dX2_isTaskTold_12 : decode cX2_isTaskTold 12 = .ok (.iconst 1, 1) := by decide +kernel
theorem dX2_isTaskTold_13 : decode cX2_isTaskTold 13 = .ok (.isub, 1) := by decide +kernel
theorem dX2_isTaskTold_14 : decode cX2_isTaskTold 14 = .ok (.invokevirtual 83, 3) := by decide +kernel
theorem dX2_isTaskTold_17 : decode cX2_isTaskTold 17 = .ok (.ireturn, 1) := by decide +kernel
theorem dX3_init_0 : decode cX3_init 0 = .ok (.aload_n 0, 1) := by decide +kernel
theorem dX3_init_1 : decode cX3_init 1 = .ok (.invokespecial 3, 3) := by decide +kernel
theorem dX3_init_4 : decode cX3_init 4 = .ok (.aload_n 0, 1) := by decide +kernel
theorem dX3_init_5 : decode cX3_init 5 = .ok (.iconst 0, 1) := by decide +kernel
theorem dX3_init_6 : decode cX3_init 6 = .ok (.putfield 9, 3) := by decide +kernel
theorem dX3_init_9 : decode cX3_init 9 = .ok (.aload_n 0, 1) := by decide +kernel
theorem dX3_init_10 : decode cX3_init 10 = .ok (.bipush 8, 2) := by decide +kernel
theorem dX3_init_12 : decode cX3_init 12 = .ok (.newarray .int, 2) := by decide +kernel
theorem dX3_init_14 : decode cX3_init 14 = .ok (.putfield 15, 3) := by decide +kernel
theorem dX3_init_17 : decode cX3_init 17 = .ok (.aload_n 0, 1) := by decide +kernel
theorem dX3_init_18 : decode cX3_init 18 = .ok (.bipush 8, 2) := by decide +kernel
theorem dX3_init_20 : decode cX3_init 20 = .ok (.newarray .int, 2) := by decide +kernel
theorem dX3_init_22 : decode cX3_init 22 = .ok (.putfield 19, 3) := by decide +kernel
theorem dX3_init_25 : decode cX3_init 25 = .ok (.aload_n 0, 1) := by decide +kernel
theorem dX3_init_26 : decode cX3_init 26 = .ok (.bipush 8, 2) := by decide +kernel
theorem dX3_init_28 : decode cX3_init 28 = .ok (.newarray .int, 2) := by decide +kernel
theorem dX3_init_30 : decode cX3_init 30 = .ok (.putfield 22, 3) := by decide +kernel
theorem dX3_init_33 : decode cX3_init 33 = .ok (.aload_n 0, 1) := by decide +kernel
theorem dX3_init_34 : decode cX3_init 34 = .ok (.bipush 8, 2) := by decide +kernel
theorem dX3_init_36 : decode cX3_init 36 = .ok (.newarray .int, 2) := by decide +kernel
theorem dX3_init_38 : decode cX3_init 38 = .ok (.putfield 25, 3) := by decide +kernel
theorem dX3_init_41 : decode cX3_init 41 = .ok (.aload_n 0, 1) := by decide +kernel
theorem dX3_init_42 : decode cX3_init 42 = .ok (.bipush 8, 2) := by decide +kernel
theorem dX3_init_44 : decode cX3_init 44 = .ok (.newarray .int, 2) := by decide +kernel
theorem dX3_init_46 : decode cX3_init 46 = .ok (.putfield 28, 3) := by decide +kernel
theorem dX3_init_49 : decode cX3_init 49 = .ok (.aload_n 0, 1) := by decide +kernel
theorem dX3_init_50 : decode cX3_init 50 = .ok (.bipush 8, 2) := by decide +kernel
theorem dX3_init_52 : decode cX3_init 52 = .ok (.newarray .int, 2) := by decide +kernel
theorem dX3_init_54 : decode cX3_init 54 = .ok (.putfield 31, 3) := by decide +kernel
theorem dX3_init_57 : decode cX3_init 57 = .ok (.aload_n 0, 1) := by decide +kernel
theorem dX3_init_58 : decode cX3_init 58 = .ok (.bipush 8, 2) := by decide +kernel
theorem dX3_init_60 : decode cX3_init 60 = .ok (.newarray .int, 2) := by decide +kernel
theorem dX3_init_62 : decode cX3_init 62 = .ok (.putfield 34, 3) := by decide +kernel
theorem dX3_init_65 : decode cX3_init 65 = .ok (.aload_n 0, 1) := by decide +kernel
theorem dX3_init_66 : decode cX3_init 66 = .ok (.bipush 8, 2) := by decide +kernel
theorem dX3_init_68 : decode cX3_init 68 = .ok (.newarray .int, 2) := by decide +kernel
theorem dX3_init_70 : decode cX3_init 70 = .ok (.putfield 37, 3) := by decide +kernel
theorem dX3_init_73 : decode cX3_init 73 = .ok (.aload_n 0, 1) := by decide +kernel
theorem dX3_init_74 : decode cX3_init 74 = .ok (.bipush 8, 2) := by decide +kernel
theorem dX3_init_76 : decode cX3_init 76 = .ok (.newarray .int, 2) := by decide +kernel
theorem dX3_init_78 : decode cX3_init 78 = .ok (.putfield 40, 3) := by decide +kernel
theorem dX3_init_81 : decode cX3_init 81 = .ok (.aload_n 0, 1) := by decide +kernel
theorem dX3_init_82 : decode cX3_init 82 = .ok (.bipush 8, 2) := by decide +kernel
theorem dX3_init_84 : decode cX3_init 84 = .ok (.newarray .int, 2) := by decide +kernel
theorem dX3_init_86 : decode cX3_init 86 = .ok (.putfield 43, 3) := by decide +kernel
theorem dX3_init_89 : decode cX3_init 89 = .ok (.aload_n 0, 1) := by decide +kernel
theorem dX3_init_90 : decode cX3_init 90 = .ok (.bipush 64, 2) := by decide +kernel
theorem dX3_init_92 : decode cX3_init 92 = .ok (.newarray .int, 2) := by decide +kernel
theorem dX3_init_94 : decode cX3_init 94 = .ok (.putfield 46, 3) := by decide +kernel
theorem dX3_init_97 : decode cX3_init 97 = .ok (.aload_n 0, 1) := by decide +kernel
theorem dX3_init_98 : decode cX3_init 98 = .ok (.iconst 0, 1) := by decide +kernel
theorem dX3_init_99 : decode cX3_init 99 = .ok (.putfield 49, 3) := by decide +kernel
theorem dX3_init_102 : decode cX3_init 102 = .ok (.aload_n 0, 1) := by decide +kernel
theorem dX3_init_103 : decode cX3_init 103 = .ok (.bipush 60, 2) := by decide +kernel
theorem dX3_init_105 : decode cX3_init 105 = .ok (.newarray .int, 2) := by decide +kernel
theorem dX3_init_107 : decode cX3_init 107 = .ok (.putfield 52, 3) := by decide +kernel
theorem dX3_init_110 : decode cX3_init 110 = .ok (.aload_n 0, 1) := by decide +kernel
theorem dX3_init_111 : decode cX3_init 111 = .ok (.bipush 60, 2) := by decide +kernel
theorem dX3_init_113 : decode cX3_init 113 = .ok (.newarray .int, 2) := by decide +kernel
theorem dX3_init_115 : decode cX3_init 115 = .ok (.putfield 55, 3) := by decide +kernel
theorem dX3_init_118 : decode cX3_init 118 = .ok (.aload_n 0, 1) := by decide +kernel
theorem dX3_init_119 : decode cX3_init 119 = .ok (.bipush 60, 2) := by decide +kernel
theorem dX3_init_121 : decode cX3_init 121 = .ok (.newarray .int, 2) := by decide +kernel
theorem dX3_init_123 : decode cX3_init 123 = .ok (.putfield 58, 3) := by decide +kernel
theorem dX3_init_126 : decode cX3_init 126 = .ok (.aload_n 0, 1) := by decide +kernel
theorem dX3_init_127 : decode cX3_init 127 = .ok (.aload_n 1, 1) := by decide +kernel
theorem dX3_init_128 : decode cX3_init 128 = .ok (.invokevirtual 61, 3) := by decide +kernel
theorem dX3_init_131 : decode cX3_init 131 = .ok (.return_, 1) := by decide +kernel
theorem dX3_restart_0 : decode cX3_restart 0 = .ok (.aload_n 0, 1) := by decide +kernel
theorem dX3_restart_1 : decode cX3_restart 1 = .ok (.aload_n 1, 1) := by decide +kernel
theorem dX3_restart_2 : decode cX3_restart 2 = .ok (.putfield 65, 3) := by decide +kernel
theorem dX3_restart_5 : decode cX3_restart 5 = .ok (.aload_n 0, 1) := by decide +kernel
theorem dX3_restart_6 : decode cX3_restart 6 = .ok (.iconst 0, 1) := by decide +kernel
theorem dX3_restart_7 : decode cX3_restart 7 = .ok (.putfield 9, 3) := by decide +kernel
theorem dX3_restart_10 : decode cX3_restart 10 = .ok (.aload_n 0, 1) := by decide +kernel
theorem dX3_restart_11 : decode cX3_restart 11 = .ok (.iconst 0, 1) := by decide +kernel
theorem dX3_restart_12 : decode cX3_restart 12 = .ok (.putfield 49, 3) := by decide +kernel
theorem dX3_restart_15 : decode cX3_restart 15 = .ok (.iconst 0, 1) := by decide +kernel
theorem dX3_restart_16 : decode cX3_restart 16 = .ok (.istore_n 2, 1) := by decide +kernel
theorem dX3_restart_17 : decode cX3_restart 17 = .ok (.iload_n 2, 1) := by decide +kernel
theorem dX3_restart_18 : decode cX3_restart 18 = .ok (.bipush 8, 2) := by decide +kernel
theorem dX3_restart_20 : decode cX3_restart 20 = .ok (.if_icmp .ge 81, 3) := by decide +kernel
theorem dX3_restart_23 : decode cX3_restart 23 = .ok (.aload_n 0, 1) := by decide +kernel
theorem dX3_restart_24 : decode cX3_restart 24 = .ok (.getfield 15, 3) := by decide +kernel
theorem dX3_restart_27 : decode cX3_restart 27 = .ok (.iload_n 2, 1) := by decide +kernel
theorem dX3_restart_28 : decode cX3_restart 28 = .ok (.iconst 0, 1) := by decide +kernel
theorem dX3_restart_29 : decode cX3_restart 29 = .ok (.iastore, 1) := by decide +kernel
theorem dX3_restart_30 : decode cX3_restart 30 = .ok (.aload_n 0, 1) := by decide +kernel
theorem dX3_restart_31 : decode cX3_restart 31 = .ok (.getfield 19, 3) := by decide +kernel
theorem dX3_restart_34 : decode cX3_restart 34 = .ok (.iload_n 2, 1) := by decide +kernel
theorem dX3_restart_35 : decode cX3_restart 35 = .ok (.bipush (-9), 2) := by decide +kernel
theorem dX3_restart_37 : decode cX3_restart 37 = .ok (.iastore, 1) := by decide +kernel
theorem dX3_restart_38 : decode cX3_restart 38 = .ok (.aload_n 0, 1) := by decide +kernel
theorem dX3_restart_39 : decode cX3_restart 39 = .ok (.getfield 22, 3) := by decide +kernel
theorem dX3_restart_42 : decode cX3_restart 42 = .ok (.iload_n 2, 1) := by decide +kernel
theorem dX3_restart_43 : decode cX3_restart 43 = .ok (.iconst 0, 1) := by decide +kernel
theorem dX3_restart_44 : decode cX3_restart 44 = .ok (.iastore, 1) := by decide +kernel
theorem dX3_restart_45 : decode cX3_restart 45 = .ok (.aload_n 0, 1) := by decide +kernel
theorem dX3_restart_46 : decode cX3_restart 46 = .ok (.getfield 25, 3) := by decide +kernel
theorem dX3_restart_49 : decode cX3_restart 49 = .ok (.iload_n 2, 1) := by decide +kernel
theorem dX3_restart_50 : decode cX3_restart 50 = .ok (.iconst 0, 1) := by decide +kernel
theorem dX3_restart_51 : decode cX3_restart 51 = .ok (.iastore, 1) := by decide +kernel
theorem dX3_restart_52 : decode cX3_restart 52 = .ok (.aload_n 0, 1) := by decide +kernel
theorem dX3_restart_53 : decode cX3_restart 53 = .ok (.getfield 28, 3) := by decide +kernel
theorem dX3_restart_56 : decode cX3_restart 56 = .ok (.iload_n 2, 1) := by decide +kernel
theorem dX3_restart_57 : decode cX3_restart 57 = .ok (.ldc 69, 2) := by decide +kernel
theorem dX3_restart_59 : decode cX3_restart 59 = .ok (.iastore, 1) := by decide +kernel
theorem dX3_restart_60 : decode cX3_restart 60 = .ok (.aload_n 0, 1) := by decide +kernel
theorem dX3_restart_61 : decode cX3_restart 61 = .ok (.getfield 31, 3) := by decide +kernel
theorem dX3_restart_64 : decode cX3_restart 64 = .ok (.iload_n 2, 1) := by decide +kernel
theorem dX3_restart_65 : decode cX3_restart 65 = .ok (.iconst 0, 1) := by decide +kernel
theorem dX3_restart_66 : decode cX3_restart 66 = .ok (.iastore, 1) := by decide +kernel
theorem dX3_restart_67 : decode cX3_restart 67 = .ok (.aload_n 0, 1) := by decide +kernel
theorem dX3_restart_68 : decode cX3_restart 68 = .ok (.getfield 34, 3) := by decide +kernel
theorem dX3_restart_71 : decode cX3_restart 71 = .ok (.iload_n 2, 1) := by decide +kernel
theorem dX3_restart_72 : decode cX3_restart 72 = .ok (.iconst 0, 1) := by decide +kernel
theorem dX3_restart_73 : decode cX3_restart 73 = .ok (.iastore, 1) := by decide +kernel
theorem dX3_restart_74 : decode cX3_restart 74 = .ok (.aload_n 0, 1) := by decide +kernel
theorem dX3_restart_75 : decode cX3_restart 75 = .ok (.getfield 37, 3) := by decide +kernel
theorem dX3_restart_78 : decode cX3_restart 78 = .ok (.iload_n 2, 1) := by decide +kernel
theorem dX3_restart_79 : decode cX3_restart 79 = .ok (.iconst 0, 1) := by decide +kernel
theorem dX3_restart_80 : decode cX3_restart 80 = .ok (.iastore, 1) := by decide +kernel
theorem dX3_restart_81 : decode cX3_restart 81 = .ok (.aload_n 0, 1) := by decide +kernel
theorem dX3_restart_82 : decode cX3_restart 82 = .ok (.getfield 40, 3) := by decide +kernel
theorem dX3_restart_85 : decode cX3_restart 85 = .ok (.iload_n 2, 1) := by decide +kernel
theorem dX3_restart_86 : decode cX3_restart 86 = .ok (.iconst 0, 1) := by decide +kernel
theorem dX3_restart_87 : decode cX3_restart 87 = .ok (.iastore, 1) := by decide +kernel
theorem dX3_restart_88 : decode cX3_restart 88 = .ok (.aload_n 0, 1) := by decide +kernel
theorem dX3_restart_89 : decode cX3_restart 89 = .ok (.getfield 43, 3) := by decide +kernel
theorem dX3_restart_92 : decode cX3_restart 92 = .ok (.iload_n 2, 1) := by decide +kernel
theorem dX3_restart_93 : decode cX3_restart 93 = .ok (.iconst 0, 1) := by decide +kernel
theorem dX3_restart_94 : decode cX3_restart 94 = .ok (.iastore, 1) := by decide +kernel
theorem dX3_restart_95 : decode cX3_restart 95 = .ok (.iinc 2 1, 3) := by decide +kernel
theorem dX3_restart_98 : decode cX3_restart 98 = .ok (.goto (-81), 3) := by decide +kernel
theorem dX3_restart_101 : decode cX3_restart 101 = .ok (.aload_n 0, 1) := by decide +kernel
theorem dX3_restart_102 : decode cX3_restart 102 = .ok (.iconst 0, 1) := by decide +kernel
theorem dX3_restart_103 : decode cX3_restart 103 = .ok (.ldc 69, 2) := by decide +kernel
theorem dX3_restart_105 : decode cX3_restart 105 = .ok (.invokevirtual 70, 3) := by decide +kernel
theorem dX3_restart_108 : decode cX3_restart 108 = .ok (.return_, 1) := by decide +kernel
theorem dX3_copyFrom_0 : decode cX3_copyFrom 0 = .ok (.aload_n 0, 1) := by decide +kernel
theorem dX3_copyFrom_1 : decode cX3_copyFrom 1 = .ok (.aload_n 1, 1) := by decide +kernel
theorem dX3_copyFrom_2 : decode cX3_copyFrom 2 = .ok (.getfield 65, 3) := by decide +kernel
theorem dX3_copyFrom_5 : decode cX3_copyFrom 5 = .ok (.putfield 65, 3) := by decide +kernel
theorem dX3_copyFrom_8 : decode cX3_copyFrom 8 = .ok (.aload_n 0, 1) := by decide +kernel
theorem dX3_copyFrom_9 : decode cX3_copyFrom 9 = .ok (.aload_n 1, 1) := by decide +kernel
theorem dX3_copyFrom_10 : decode cX3_copyFrom 10 = .ok (.getfield 9, 3) := by decide +kernel
theorem dX3_copyFrom_13 : decode cX3_copyFrom 13 = .ok (.putfield 9, 3) := by decide +kernel
theorem dX3_copyFrom_16 : decode cX3_copyFrom 16 = .ok (.aload_n 0, 1) := by decide +kernel
theorem dX3_copyFrom_17 : decode cX3_copyFrom 17 = .ok (.aload_n 1, 1) := by decide +kernel
theorem dX3_copyFrom_18 : decode cX3_copyFrom 18 = .ok (.getfield 49, 3) := by decide +kernel
theorem dX3_copyFrom_21 : decode cX3_copyFrom 21 = .ok (.putfield 49, 3) := by decide +kernel
theorem dX3_copyFrom_24 : decode cX3_copyFrom 24 = .ok (.aload_n 1, 1) := by decide +kernel
theorem dX3_copyFrom_25 : decode cX3_copyFrom 25 = .ok (.getfield 15, 3) := by decide +kernel
theorem dX3_copyFrom_28 : decode cX3_copyFrom 28 = .ok (.iconst 0, 1) := by decide +kernel
theorem dX3_copyFrom_29 : decode cX3_copyFrom 29 = .ok (.aload_n 0, 1) := by decide +kernel
theorem dX3_copyFrom_30 : decode cX3_copyFrom 30 = .ok (.getfield 15, 3) := by decide +kernel
theorem dX3_copyFrom_33 : decode cX3_copyFrom 33 = .ok (.iconst 0, 1) := by decide +kernel
theorem dX3_copyFrom_34 : decode cX3_copyFrom 34 = .ok (.bipush 8, 2) := by decide +kernel
theorem dX3_copyFrom_36 : decode cX3_copyFrom 36 = .ok (.invokestatic 74, 3) := by decide +kernel
theorem dX3_copyFrom_39 : decode cX3_copyFrom 39 = .ok (.aload_n 1, 1) := by decide +kernel
theorem dX3_copyFrom_40 : decode cX3_copyFrom 40 = .ok (.getfield 19, 3) := by decide +kernel
theorem dX3_copyFrom_43 : decode cX3_copyFrom 43 = .ok (.iconst 0, 1) := by decide +kernel
theorem dX3_copyFrom_44 : decode cX3_copyFrom 44 = .ok (.aload_n 0, 1) := by decide +kernel
theorem dX3_copyFrom_45 : decode cX3_copyFrom 45 = .ok (.getfield 19, 3) := by decide +kernel
theorem dX3_copyFrom_48 : decode cX3_copyFrom 48 = .ok (.iconst 0, 1) := by decide +kernel
theorem dX3_copyFrom_49 : decode cX3_copyFrom 49 = .ok (.bipush 8, 2) := by decide +kernel
theorem dX3_copyFrom_51 : decode cX3_copyFrom 51 = .ok (.invokestatic 74, 3) := by decide +kernel
theorem dX3_copyFrom_54 : decode cX3_copyFrom 54 = .ok (.aload_n 1, 1) := by decide +kernel
theorem dX3_copyFrom_55 : decode cX3_copyFrom 55 = .ok (.getfield 22, 3) := by decide +kernel
theorem dX3_copyFrom_58 : decode cX3_copyFrom 58 = .ok (.iconst 0, 1) := by decide +kernel
theorem dX3_copyFrom_59 : decode cX3_copyFrom 59 = .ok (.aload_n 0, 1) := by decide +kernel
theorem dX3_copyFrom_60 : decode cX3_copyFrom 60 = .ok (.getfield 22, 3) := by decide +kernel
theorem dX3_copyFrom_63 : decode cX3_copyFrom 63 = .ok (.iconst 0, 1) := by decide +kernel
theorem dX3_copyFrom_64 : decode cX3_copyFrom 64 = .ok (.bipush 8, 2) := by decide +kernel
theorem dX3_copyFrom_66 : decode cX3_copyFrom 66 = .ok (.invokestatic 74, 3) := by decide +kernel
theorem dX3_copyFrom_69 : decode cX3_copyFrom 69 = .ok (.aload_n 1, 1) := by decide +kernel
theorem dX3_copyFrom_70 : decode cX3_copyFrom 70 = .ok (.getfield 25, 3) := by decide +kernel
theorem dX3_copyFrom_73 : decode cX3_copyFrom 73 = .ok (.iconst 0, 1) := by decide +kernel
theorem dX3_copyFrom_74 : decode cX3_copyFrom 74 = .ok (.aload_n 0, 1) := by decide +kernel
theorem dX3_copyFrom_75 : decode cX3_copyFrom 75 = .ok (.getfield 25, 3) := by decide +kernel
theorem dX3_copyFrom_78 : decode cX3_copyFrom 78 = .ok (.iconst 0, 1) := by decide +kernel
theorem dX3_copyFrom_79 : decode cX3_copyFrom 79 = .ok (.bipush 8, 2) := by decide +kernel
theorem dX3_copyFrom_81 : decode cX3_copyFrom 81 = .ok (.invokestatic 74, 3) := by decide +kernel
theorem dX3_copyFrom_84 : decode cX3_copyFrom 84 = .ok (.aload_n 1, 1) := by decide +kernel
theorem dX3_copyFrom_85 : decode cX3_copyFrom 85 = .ok (.getfield 28, 3) := by decide +kernel
theorem dX3_copyFrom_88 : decode cX3_copyFrom 88 = .ok (.iconst 0, 1) := by decide +kernel
theorem dX3_copyFrom_89 : decode cX3_copyFrom 89 = .ok (.aload_n 0, 1) := by decide +kernel
theorem dX3_copyFrom_90 : decode cX3_copyFrom 90 = .ok (.getfield 28, 3) := by decide +kernel
theorem dX3_copyFrom_93 : decode cX3_copyFrom 93 = .ok (.iconst 0, 1) := by decide +kernel
theorem dX3_copyFrom_94 : decode cX3_copyFrom 94 = .ok (.bipush 8, 2) := by decide +kernel
theorem dX3_copyFrom_96 : decode cX3_copyFrom 96 = .ok (.invokestatic 74, 3) := by decide +kernel
theorem dX3_copyFrom_99 : decode cX3_copyFrom 99 = .ok (.aload_n 1, 1) := by decide +kernel
theorem dX3_copyFrom_100 : decode cX3_copyFrom 100 = .ok (.getfield 31, 3) := by decide +kernel
theorem dX3_copyFrom_103 : decode cX3_copyFrom 103 = .ok (.iconst 0, 1) := by decide +kernel
theorem dX3_copyFrom_104 : decode cX3_copyFrom 104 = .ok (.aload_n 0, 1) := by decide +kernel
theorem dX3_copyFrom_105 : decode cX3_copyFrom 105 = .ok (.getfield 31, 3) := by decide +kernel
theorem dX3_copyFrom_108 : decode cX3_copyFrom 108 = .ok (.iconst 0, 1) := by decide +kernel
theorem dX3_copyFrom_109 : decode cX3_copyFrom 109 = .ok (.bipush 8, 2) := by decide +kernel
theorem dX3_copyFrom_111 : decode cX3_copyFrom 111 = .ok (.invokestatic 74, 3) := by decide +kernel
theorem dX3_copyFrom_114 : decode cX3_copyFrom 114 = .ok (.aload_n 1, 1) := by decide +kernel
theorem dX3_copyFrom_115 : decode cX3_copyFrom 115 = .ok (.getfield 34, 3) := by decide +kernel
theorem dX3_copyFrom_118 : decode cX3_copyFrom 118 = .ok (.iconst 0, 1) := by decide +kernel
theorem dX3_copyFrom_119 : decode cX3_copyFrom 119 = .ok (.aload_n 0, 1) := by decide +kernel
theorem dX3_copyFrom_120 : decode cX3_copyFrom 120 = .ok (.getfield 34, 3) := by decide +kernel
theorem dX3_copyFrom_123 : decode cX3_copyFrom 123 = .ok (.iconst 0, 1) := by decide +kernel
theorem dX3_copyFrom_124 : decode cX3_copyFrom 124 = .ok (.bipush 8, 2) := by decide +kernel
theorem dX3_copyFrom_126 : decode cX3_copyFrom 126 = .ok (.invokestatic 74, 3) := by decide +kernel
theorem dX3_copyFrom_129 : decode cX3_copyFrom 129 = .ok (.aload_n 1, 1) := by decide +kernel
theorem dX3_copyFrom_130 : decode cX3_copyFrom 130 = .ok (.getfield 37, 3) := by decide +kernel
theorem dX3_copyFrom_133 : decode cX3_copyFrom 133 = .ok (.iconst 0, 1) := by decide +kernel
theorem dX3_copyFrom_134 : decode cX3_copyFrom 134 = .ok (.aload_n 0, 1) := by decide +kernel
theorem dX3_copyFrom_135 : decode cX3_copyFrom 135 = .ok (.getfield 37, 3) := by decide +kernel
theorem dX3_copyFrom_138 : decode cX3_copyFrom 138 = .ok (.iconst 0, 1) := by decide +kernel
theorem dX3_copyFrom_139 : decode cX3_copyFrom 139 = .ok (.bipush 8, 2) := by decide +kernel
theorem dX3_copyFrom_141 : decode cX3_copyFrom 141 = .ok (.invokestatic 74, 3) := by decide +kernel
theorem dX3_copyFrom_144 : decode cX3_copyFrom 144 = .ok (.aload_n 1, 1) := by decide +kernel
theorem dX3_copyFrom_145 : decode cX3_copyFrom 145 = .ok (.getfield 40, 3) := by decide +kernel
theorem dX3_copyFrom_148 : decode cX3_copyFrom 148 = .ok (.iconst 0, 1) := by decide +kernel
theorem dX3_copyFrom_149 : decode cX3_copyFrom 149 = .ok (.aload_n 0, 1) := by decide +kernel
theorem dX3_copyFrom_150 : decode cX3_copyFrom 150 = .ok (.getfield 40, 3) := by decide +kernel
theorem dX3_copyFrom_153 : decode cX3_copyFrom 153 = .ok (.iconst 0, 1) := by decide +kernel
theorem dX3_copyFrom_154 : decode cX3_copyFrom 154 = .ok (.bipush 8, 2) := by decide +kernel
theorem dX3_copyFrom_156 : decode cX3_copyFrom 156 = .ok (.invokestatic 74, 3) := by decide +kernel
theorem dX3_copyFrom_159 : decode cX3_copyFrom 159 = .ok (.aload_n 1, 1) := by decide +kernel
theorem dX3_copyFrom_160 : decode cX3_copyFrom 160 = .ok (.getfield 43, 3) := by decide +kernel
theorem dX3_copyFrom_163 : decode cX3_copyFrom 163 = .ok (.iconst 0, 1) := by decide +kernel
theorem dX3_copyFrom_164 : decode cX3_copyFrom 164 = .ok (.aload_n 0, 1) := by decide +kernel
theorem dX3_copyFrom_165 : decode cX3_copyFrom 165 = .ok (.getfield 43, 3) := by decide +kernel
theorem dX3_copyFrom_168 : decode cX3_copyFrom 168 = .ok (.iconst 0, 1) := by decide +kernel
theorem dX3_copyFrom_169 : decode cX3_copyFrom 169 = .ok (.bipush 8, 2) := by decide +kernel
theorem dX3_copyFrom_171 : decode cX3_copyFrom 171 = .ok (.invokestatic 74, 3) := by decide +kernel
theorem dX3_copyFrom_174 : decode cX3_copyFrom 174 = .ok (.aload_n 1, 1) := by decide +kernel
theorem dX3_copyFrom_175 : decode cX3_copyFrom 175 = .ok (.getfield 46, 3) := by decide +kernel
theorem dX3_copyFrom_178 : decode cX3_copyFrom 178 = .ok (.iconst 0, 1) := by decide +kernel
theorem dX3_copyFrom_179 : decode cX3_copyFrom 179 = .ok (.aload_n 0, 1) := by decide +kernel
theorem dX3_copyFrom_180 : decode cX3_copyFrom 180 = .ok (.getfield 46, 3) := by decide +kernel
theorem dX3_copyFrom_183 : decode cX3_copyFrom 183 = .ok (.iconst 0, 1) := by decide +kernel
theorem dX3_copyFrom_184 : decode cX3_copyFrom 184 = .ok (.bipush 64, 2) := by decide +kernel
theorem dX3_copyFrom_186 : decode cX3_copyFrom 186 = .ok (.invokestatic 74, 3) := by decide +kernel
theorem dX3_copyFrom_189 : decode cX3_copyFrom 189 = .ok (.aload_n 1, 1) := by decide +kernel
theorem dX3_copyFrom_190 : decode cX3_copyFrom 190 = .ok (.getfield 52, 3) := by decide +kernel
theorem dX3_copyFrom_193 : decode cX3_copyFrom 193 = .ok (.iconst 0, 1) := by decide +kernel
theorem dX3_copyFrom_194 : decode cX3_copyFrom 194 = .ok (.aload_n 0, 1) := by decide +kernel
theorem dX3_copyFrom_195 : decode cX3_copyFrom 195 = .ok (.getfield 52, 3) := by decide +kernel
theorem dX3_copyFrom_198 : decode cX3_copyFrom 198 = .ok (.iconst 0, 1) := by decide +kernel
theorem dX3_copyFrom_199 : decode cX3_copyFrom 199 = .ok (.bipush 60, 2) := by decide +kernel
theorem dX3_copyFrom_201 : decode cX3_copyFrom 201 = .ok (.invokestatic 74, 3) := by decide +kernel
theorem dX3_copyFrom_204 : decode cX3_copyFrom 204 = .ok (.aload_n 1, 1) := by decide +kernel
theorem dX3_copyFrom_205 : decode cX3_copyFrom 205 = .ok (.getfield 55, 3) := by decide +kernel
theorem dX3_copyFrom_208 : decode cX3_copyFrom 208 = .ok (.iconst 0, 1) := by decide +kernel
theorem dX3_copyFrom_209 : decode cX3_copyFrom 209 = .ok (.aload_n 0, 1) := by decide +kernel
theorem dX3_copyFrom_210 : decode cX3_copyFrom 210 = .ok (.getfield 55, 3) := by decide +kernel
theorem dX3_copyFrom_213 : decode cX3_copyFrom 213 = .ok (.iconst 0, 1) := by decide +kernel
theorem dX3_copyFrom_214 : decode cX3_copyFrom 214 = .ok (.bipush 60, 2) := by decide +kernel
theorem dX3_copyFrom_216 : decode cX3_copyFrom 216 = .ok (.invokestatic 74, 3) := by decide +kernel
theorem dX3_copyFrom_219 : decode cX3_copyFrom 219 = .ok (.aload_n 1, 1) := by decide +kernel
theorem dX3_copyFrom_220 : decode cX3_copyFrom 220 = .ok (.getfield 58, 3) := by decide +kernel
theorem dX3_copyFrom_223 : decode cX3_copyFrom 223 = .ok (.iconst 0, 1) := by decide +kernel
theorem dX3_copyFrom_224 : decode cX3_copyFrom 224 = .ok (.aload_n 0, 1) := by decide +kernel
theorem dX3_copyFrom_225 : decode cX3_copyFrom 225 = .ok (.getfield 58, 3) := by decide +kernel
theorem dX3_copyFrom_228 : decode cX3_copyFrom 228 = .ok (.iconst 0, 1) := by decide +kernel
theorem dX3_copyFrom_229 : decode cX3_copyFrom 229 = .ok (.bipush 60, 2) := by decide +kernel
theorem dX3_copyFrom_231 : decode cX3_copyFrom 231 = .ok (.invokestatic 74, 3) := by decide +kernel
theorem dX3_copyFrom_234 : decode cX3_copyFrom 234 = .ok (.return_, 1) := by decide +kernel
theorem dX3_passUntilEnded_0 : decode cX3_passUntilEnded 0 = .ok (.iconst 0, 1) := by decide +kernel
theorem dX3_passUntilEnded_1 : decode cX3_passUntilEnded 1 = .ok (.istore_n 3, 1) := by decide +kernel
theorem dX3_passUntilEnded_2 : decode cX3_passUntilEnded 2 = .ok (.iload_n 3, 1) := by decide +kernel
theorem dX3_passUntilEnded_3 : decode cX3_passUntilEnded 3 = .ok (.iload_n 2, 1) := by decide +kernel
theorem dX3_passUntilEnded_4 : decode cX3_passUntilEnded 4 = .ok (.if_icmp .ge 33, 3) := by decide +kernel
theorem dX3_passUntilEnded_7 : decode cX3_passUntilEnded 7 = .ok (.aload_n 0, 1) := by decide +kernel
theorem dX3_passUntilEnded_8 : decode cX3_passUntilEnded 8 = .ok (.getfield 15, 3) := by decide +kernel
theorem dX3_passUntilEnded_11 : decode cX3_passUntilEnded 11 = .ok (.iload_n 1, 1) := by decide +kernel
theorem dX3_passUntilEnded_12 : decode cX3_passUntilEnded 12 = .ok (.iaload, 1) := by decide +kernel
theorem dX3_passUntilEnded_13 : decode cX3_passUntilEnded 13 = .ok (.iconst 3, 1) := by decide +kernel
theorem dX3_passUntilEnded_14 : decode cX3_passUntilEnded 14 = .ok (.if_icmp .eq 23, 3) := by decide +kernel
theorem dX3_passUntilEnded_17 : decode cX3_passUntilEnded 17 = .ok (.aload_n 0, 1) := by decide +kernel
theorem dX3_passUntilEnded_18 : decode cX3_passUntilEnded 18 = .ok (.getfield 15, 3) := by decide +kernel
theorem dX3_passUntilEnded_21 : decode cX3_passUntilEnded 21 = .ok (.iconst 0, 1) := by decide +kernel
theorem dX3_passUntilEnded_22 : decode cX3_passUntilEnded 22 = .ok (.iaload, 1) := by decide +kernel
theorem dX3_passUntilEnded_23 : decode cX3_passUntilEnded 23 = .ok (.iconst 3, 1) := by decide +kernel
theorem dX3_passUntilEnded_24 : decode cX3_passUntilEnded 24 = .ok (.if_icmp .eq 13, 3) := by decide +kernel
theorem dX3_passUntilEnded_27 : decode cX3_passUntilEnded 27 = .ok (.aload_n 0, 1) := by decide +kernel
theorem dX3_passUntilEnded_28 : decode cX3_passUntilEnded 28 = .ok (.invokevirtual 80, 3) := by decide +kernel
theorem dX3_passUntilEnded_31 : decode cX3_passUntilEnded 31 = .ok (.iinc 3 1, 3) := by decide +kernel
theorem dX3_passUntilEnded_34 : decode cX3_passUntilEnded 34 = .ok (.goto (-32), 3) := by decide +kernel
theorem dX3_passUntilEnded_37 : decode cX3_passUntilEnded 37 = .ok (.aload_n 0, 1) := by decide +kernel
theorem dX3_passUntilEnded_38 : decode cX3_passUntilEnded 38 = .ok (.getfield 15, 3) := by decide +kernel
theorem dX3_passUntilEnded_41 : decode cX3_passUntilEnded 41 = .ok (.iload_n 1, 1) := by decide +kernel
theorem dX3_passUntilEnded_42 : decode cX3_passUntilEnded 42 = .ok (.iaload, 1) := by decide +kernel
theorem dX3_passUntilEnded_43 : decode cX3_passUntilEnded 43 = .ok (.iconst 3, 1) := by decide +kernel
theorem dX3_passUntilEnded_44 : decode cX3_passUntilEnded 44 = .ok (.if_icmp .ne 7, 3) := by decide +kernel
theorem dX3_passUntilEnded_47 : decode cX3_passUntilEnded 47 = .ok (.iconst 1, 1) := by decide +kernel
theorem dX3_passUntilEnded_48 : decode cX3_passUntilEnded 48 = .ok (.goto 4, 3) := by decide +kernel
theorem dX3_passUntilEnded_51 : decode cX3_passUntilEnded 51 = .ok (.iconst 0, 1) := by decide +kernel
theorem dX3_passUntilEnded_52 : decode cX3_passUntilEnded 52 = .ok (.ireturn, 1) := by decide +kernel
theorem dX3_hadEndedBy_0 : decode cX3_hadEndedBy 0 = .ok (.aload_n 0, 1) := by decide +kernel
theorem dX3_hadEndedBy_1 : decode cX3_hadEndedBy 1 = .ok (.getfield 15, 3) := by decide +kernel
theorem dX3_hadEndedBy_4 : decode cX3_hadEndedBy 4 = .ok (.iload_n 1, 1) := by decide +kernel
theorem dX3_hadEndedBy_5 : decode cX3_hadEndedBy 5 = .ok (.iaload, 1) := by decide +kernel
theorem dX3_hadEndedBy_6 : decode cX3_hadEndedBy 6 = .ok (.iconst 3, 1) := by decide +kernel
theorem dX3_hadEndedBy_7 : decode cX3_hadEndedBy 7 = .ok (.if_icmp .ne 17, 3) := by decide +kernel
theorem dX3_hadEndedBy_10 : decode cX3_hadEndedBy 10 = .ok (.aload_n 0, 1) := by decide +kernel
theorem dX3_hadEndedBy_11 : decode cX3_hadEndedBy 11 = .ok (.getfield 25, 3) := by decide +kernel
theorem dX3_hadEndedBy_14 : decode cX3_hadEndedBy 14 = .ok (.iload_n 1, 1) := by decide +kernel
theorem dX3_hadEndedBy_15 : decode cX3_hadEndedBy 15 = .ok (.iaload, 1) := by decide +kernel
theorem dX3_hadEndedBy_16 : decode cX3_hadEndedBy 16 = .ok (.iload_n 2, 1) := by decide +kernel
theorem dX3_hadEndedBy_17 : decode cX3_hadEndedBy 17 = .ok (.if_icmp .gt 7, 3) := by decide +kernel
theorem dX3_hadEndedBy_20 : decode cX3_hadEndedBy 20 = .ok (.iconst 1, 1) := by decide +kernel
theorem dX3_hadEndedBy_21 : decode cX3_hadEndedBy 21 = .ok (.goto 4, 3) := by decide +kernel
theorem dX3_hadEndedBy_24 : decode cX3_hadEndedBy 24 = .ok (.iconst 0, 1) := by decide +kernel
theorem dX3_hadEndedBy_25 : decode cX3_hadEndedBy 25 = .ok (.ireturn, 1) := by decide +kernel
theorem dX3_countThatAre_0 : decode cX3_countThatAre 0 = .ok (.iconst 0, 1) := by decide +kernel
theorem dX3_countThatAre_1 : decode cX3_countThatAre 1 = .ok (.istore_n 2, 1) := by decide +kernel
theorem dX3_countThatAre_2 : decode cX3_countThatAre 2 = .ok (.iconst 0, 1) := by decide +kernel
theorem dX3_countThatAre_3 : decode cX3_countThatAre 3 = .ok (.istore_n 3, 1) := by decide +kernel
theorem dX3_countThatAre_4 : decode cX3_countThatAre 4 = .ok (.iload_n 3, 1) := by decide +kernel
theorem dX3_countThatAre_5 : decode cX3_countThatAre 5 = .ok (.aload_n 0, 1) := by decide +kernel
theorem dX3_countThatAre_6 : decode cX3_countThatAre 6 = .ok (.getfield 65, 3) := by decide +kernel
theorem dX3_countThatAre_9 : decode cX3_countThatAre 9 = .ok (.getfield 83, 3) := by decide +kernel
theorem dX3_countThatAre_12 : decode cX3_countThatAre 12 = .ok (.if_icmp .ge 22, 3) := by decide +kernel
theorem dX3_countThatAre_15 : decode cX3_countThatAre 15 = .ok (.aload_n 0, 1) := by decide +kernel
theorem dX3_countThatAre_16 : decode cX3_countThatAre 16 = .ok (.getfield 15, 3) := by decide +kernel
theorem dX3_countThatAre_19 : decode cX3_countThatAre 19 = .ok (.iload_n 3, 1) := by decide +kernel
theorem dX3_countThatAre_20 : decode cX3_countThatAre 20 = .ok (.iaload, 1) := by decide +kernel
theorem dX3_countThatAre_21 : decode cX3_countThatAre 21 = .ok (.iload_n 1, 1) := by decide +kernel
theorem dX3_countThatAre_22 : decode cX3_countThatAre 22 = .ok (.if_icmp .ne 6, 3) := by decide +kernel
theorem dX3_countThatAre_25 : decode cX3_countThatAre 25 = .ok (.iinc 2 1, 3) := by decide +kernel
theorem dX3_countThatAre_28 : decode cX3_countThatAre 28 = .ok (.iinc 3 1, 3) := by decide +kernel
theorem dX3_countThatAre_31 : decode cX3_countThatAre 31 = .ok (.goto (-27), 3) := by decide +kernel
theorem dX3_countThatAre_34 : decode cX3_countThatAre 34 = .ok (.iload_n 2, 1) := by decide +kernel
theorem dX3_countThatAre_35 : decode cX3_countThatAre 35 = .ok (.ireturn, 1) := by decide +kernel
theorem dX3_activeChildren_0 : decode cX3_activeChildren 0 = .ok (.iconst 0, 1) := by decide +kernel
theorem dX3_activeChildren_1 : decode cX3_activeChildren 1 = .ok (.istore_n 2, 1) := by decide +kernel
theorem dX3_activeChildren_2 : decode cX3_activeChildren 2 = .ok (.iload_n 1, 1) := by decide +kernel
theorem dX3_activeChildren_3 : decode cX3_activeChildren 3 = .ok (.iconst 1, 1) := by decide +kernel
theorem dX3_activeChildren_4 : decode cX3_activeChildren 4 = .ok (.iadd, 1) := by decide +kernel
theorem dX3_activeChildren_5 : decode cX3_activeChildren 5 = .ok (.istore_n 3, 1) := by decide +kernel
theorem dX3_activeChildren_6 : decode cX3_activeChildren 6 = .ok (.iload_n 3, 1) := by decide +kernel
theorem dX3_activeChildren_7 : decode cX3_activeChildren 7 = .ok (.aload_n 0, 1) := by decide +kernel
theorem dX3_activeChildren_8 : decode cX3_activeChildren 8 = .ok (.getfield 65, 3) := by decide +kernel
theorem dX3_activeChildren_11 : decode cX3_activeChildren 11 = .ok (.getfield 83, 3) := by decide +kernel
theorem dX3_activeChildren_14 : decode cX3_activeChildren 14 = .ok (.if_icmp .ge 48, 3) := by decide +kernel
theorem dX3_activeChildren_17 : decode cX3_activeChildren 17 = .ok (.aload_n 0, 1) := by decide +kernel
theorem dX3_activeChildren_18 : decode cX3_activeChildren 18 = .ok (.getfield 65, 3) := by decide +kernel
theorem dX3_activeChildren_21 : decode cX3_activeChildren 21 = .ok (.getfield 88, 3) := by decide +kernel
theorem dX3_activeChildren_24 : decode cX3_activeChildren 24 = .ok (.iload_n 3, 1) := by decide +kernel
theorem dX3_activeChildren_25 : decode cX3_activeChildren 25 = .ok (.iaload, 1) := by decide +kernel
theorem dX3_activeChildren_26 : decode cX3_activeChildren 26 = .ok (.iload_n 1, 1) := by decide +kernel
theorem dX3_activeChildren_27 : decode cX3_activeChildren 27 = .ok (.if_icmp .ne 29, 3) := by decide +kernel
theorem dX3_activeChildren_30 : decode cX3_activeChildren 30 = .ok (.aload_n 0, 1) := by decide +kernel
theorem dX3_activeChildren_31 : decode cX3_activeChildren 31 = .ok (.getfield 15, 3) := by decide +kernel
theorem dX3_activeChildren_34 : decode cX3_activeChildren 34 = .ok (.iload_n 3, 1) := by decide +kernel
theorem dX3_activeChildren_35 : decode cX3_activeChildren 35 = .ok (.iaload, 1) := by decide +kernel
theorem dX3_activeChildren_36 : decode cX3_activeChildren 36 = .ok (.iconst 1, 1) := by decide +kernel
theorem dX3_activeChildren_37 : decode cX3_activeChildren 37 = .ok (.if_icmp .eq 13, 3) := by decide +kernel
theorem dX3_activeChildren_40 : decode cX3_activeChildren 40 = .ok (.aload_n 0, 1) := by decide +kernel
theorem dX3_activeChildren_41 : decode cX3_activeChildren 41 = .ok (.getfield 15, 3) := by decide +kernel
theorem dX3_activeChildren_44 : decode cX3_activeChildren 44 = .ok (.iload_n 3, 1) := by decide +kernel
theorem dX3_activeChildren_45 : decode cX3_activeChildren 45 = .ok (.iaload, 1) := by decide +kernel
theorem dX3_activeChildren_46 : decode cX3_activeChildren 46 = .ok (.iconst 2, 1) := by decide +kernel
theorem dX3_activeChildren_47 : decode cX3_activeChildren 47 = .ok (.if_icmp .ne 9, 3) := by decide +kernel
theorem dX3_activeChildren_50 : decode cX3_activeChildren 50 = .ok (.iload_n 2, 1) := by decide +kernel
theorem dX3_activeChildren_51 : decode cX3_activeChildren 51 = .ok (.iconst 1, 1) := by decide +kernel
theorem dX3_activeChildren_52 : decode cX3_activeChildren 52 = .ok (.iload_n 3, 1) := by decide +kernel
theorem dX3_activeChildren_53 : decode cX3_activeChildren 53 = .ok (.ishl, 1) := by decide +kernel
theorem dX3_activeChildren_54 : decode cX3_activeChildren 54 = .ok (.ior, 1) := by decide +kernel
theorem dX3_activeChildren_55 : decode cX3_activeChildren 55 = .ok (.istore_n 2, 1) := by decide +kernel
theorem dX3_activeChildren_56 : decode cX3_activeChildren 56 = .ok (.iinc 3 1, 3) := by decide +kernel
theorem dX3_activeChildren_59 : decode cX3_activeChildren 59 = .ok (.goto (-53), 3) := by decide +kernel
theorem dX3_activeChildren_62 : decode cX3_activeChildren 62 = .ok (.iload_n 2, 1) := by decide +kernel
theorem dX3_activeChildren_63 : decode cX3_activeChildren 63 = .ok (.ireturn, 1) := by decide +kernel
theorem dX3_passTick_0 : decode cX3_passTick 0 = .ok (.aload_n 0, 1) := by decide +kernel
theorem dX3_passTick_1 : decode cX3_passTick 1 = .ok (.dup, 1) := by decide +kernel
theorem dX3_passTick_2 : decode cX3_passTick 2 = .ok (.getfield 9, 3) := by decide +kernel
theorem dX3_passTick_5 : decode cX3_passTick 5 = .ok (.iconst 1, 1) := by decide +kernel
theorem dX3_passTick_6 : decode cX3_passTick 6 = .ok (.iadd, 1) := by decide +kernel
theorem dX3_passTick_7 : decode cX3_passTick 7 = .ok (.putfield 9, 3) := by decide +kernel
theorem dX3_passTick_10 : decode cX3_passTick 10 = .ok (.iconst 0, 1) := by decide +kernel
theorem dX3_passTick_11 : decode cX3_passTick 11 = .ok (.istore_n 1, 1) := by decide +kernel
theorem dX3_passTick_12 : decode cX3_passTick 12 = .ok (.iload_n 1, 1) := by decide +kernel
theorem dX3_passTick_13 : decode cX3_passTick 13 = .ok (.aload_n 0, 1) := by decide +kernel
theorem dX3_passTick_14 : decode cX3_passTick 14 = .ok (.getfield 65, 3) := by decide +kernel
theorem dX3_passTick_17 : decode cX3_passTick 17 = .ok (.getfield 83, 3) := by decide +kernel
theorem dX3_passTick_20 : decode cX3_passTick 20 = .ok (.if_icmp .ge 45, 3) := by decide +kernel
theorem dX3_passTick_23 : decode cX3_passTick 23 = .ok (.aload_n 0, 1) := by decide +kernel
theorem dX3_passTick_24 : decode cX3_passTick 24 = .ok (.getfield 15, 3) := by decide +kernel
theorem dX3_passTick_27 : decode cX3_passTick 27 = .ok (.iload_n 1, 1) := by decide +kernel
theorem dX3_passTick_28 : decode cX3_passTick 28 = .ok (.iaload, 1) := by decide +kernel
theorem dX3_passTick_29 : decode cX3_passTick 29 = .ok (.iconst 1, 1) := by decide +kernel
theorem dX3_passTick_30 : decode cX3_passTick 30 = .ok (.if_icmp .ne 29, 3) := by decide +kernel
theorem dX3_passTick_33 : decode cX3_passTick 33 = .ok (.aload_n 0, 1) := by decide +kernel
theorem dX3_passTick_34 : decode cX3_passTick 34 = .ok (.getfield 9, 3) := by decide +kernel
theorem dX3_passTick_37 : decode cX3_passTick 37 = .ok (.aload_n 0, 1) := by decide +kernel
theorem dX3_passTick_38 : decode cX3_passTick 38 = .ok (.getfield 28, 3) := by decide +kernel
theorem dX3_passTick_41 : decode cX3_passTick 41 = .ok (.iload_n 1, 1) := by decide +kernel
theorem dX3_passTick_42 : decode cX3_passTick 42 = .ok (.iaload, 1) := by decide +kernel
theorem dX3_passTick_43 : decode cX3_passTick 43 = .ok (.if_icmp .le 16, 3) := by decide +kernel
theorem dX3_passTick_46 : decode cX3_passTick 46 = .ok (.aload_n 0, 1) := by decide +kernel
theorem dX3_passTick_47 : decode cX3_passTick 47 = .ok (.iload_n 1, 1) := by decide +kernel
theorem dX3_passTick_48 : decode cX3_passTick 48 = .ok (.bipush 10, 2) := by decide +kernel
theorem dX3_passTick_50 : decode cX3_passTick 50 = .ok (.invokevirtual 91, 3) := by decide +kernel
theorem dX3_passTick_53 : decode cX3_passTick 53 = .ok (.aload_n 0, 1) := by decide +kernel
theorem dX3_passTick_54 : decode cX3_passTick 54 = .ok (.iload_n 1, 1) := by decide +kernel
theorem dX3_passTick_55 : decode cX3_passTick 55 = .ok (.iconst 3, 1) := by decide +kernel
theorem dX3_passTick_56 : decode cX3_passTick 56 = .ok (.invokevirtual 94, 3) := by decide +kernel
theorem dX3_passTick_59 : decode cX3_passTick 59 = .ok (.iinc 1 1, 3) := by decide +kernel
theorem dX3_passTick_62 : decode cX3_passTick 62 = .ok (.goto (-50), 3) := by decide +kernel
theorem dX3_passTick_65 : decode cX3_passTick 65 = .ok (.iconst 0, 1) := by decide +kernel
theorem dX3_passTick_66 : decode cX3_passTick 66 = .ok (.istore_n 1, 1) := by decide +kernel
theorem dX3_passTick_67 : decode cX3_passTick 67 = .ok (.iload_n 1, 1) := by decide +kernel
theorem dX3_passTick_68 : decode cX3_passTick 68 = .ok (.aload_n 0, 1) := by decide +kernel
theorem dX3_passTick_69 : decode cX3_passTick 69 = .ok (.getfield 65, 3) := by decide +kernel
theorem dX3_passTick_72 : decode cX3_passTick 72 = .ok (.getfield 83, 3) := by decide +kernel
theorem dX3_passTick_75 : decode cX3_passTick 75 = .ok (.if_icmp .ge 37, 3) := by decide +kernel
theorem dX3_passTick_78 : decode cX3_passTick 78 = .ok (.aload_n 0, 1) := by decide +kernel
theorem dX3_passTick_79 : decode cX3_passTick 79 = .ok (.getfield 15, 3) := by decide +kernel
theorem dX3_passTick_82 : decode cX3_passTick 82 = .ok (.iload_n 1, 1) := by decide +kernel
theorem dX3_passTick_83 : decode cX3_passTick 83 = .ok (.iaload, 1) := by decide +kernel
theorem dX3_passTick_84 : decode cX3_passTick 84 = .ok (.iconst 1, 1) := by decide +kernel
theorem dX3_passTick_85 : decode cX3_passTick 85 = .ok (.if_icmp .ne 21, 3) := by decide +kernel
theorem dX3_passTick_88 : decode cX3_passTick 88 = .ok (.aload_n 0, 1) := by decide +kernel
theorem dX3_passTick_89 : decode cX3_passTick 89 = .ok (.getfield 22, 3) := by decide +kernel
theorem dX3_passTick_92 : decode cX3_passTick 92 = .ok (.iload_n 1, 1) := by decide +kernel
theorem dX3_passTick_93 : decode cX3_passTick 93 = .ok (.iaload, 1) := by decide +kernel
theorem dX3_passTick_94 : decode cX3_passTick 94 = .ok (.aload_n 0, 1) := by decide +kernel
theorem dX3_passTick_95 : decode cX3_passTick 95 = .ok (.getfield 9, 3) := by decide +kernel
theorem dX3_passTick_98 : decode cX3_passTick 98 = .ok (.if_icmp .ge 8, 3) := by decide +kernel
theorem dX3_passTick_101 : decode cX3_passTick 101 = .ok (.aload_n 0, 1) := by decide +kernel
theorem dX3_passTick_102 : decode cX3_passTick 102 = .ok (.iload_n 1, 1) := by decide +kernel
theorem dX3_passTick_103 : decode cX3_passTick 103 = .ok (.invokevirtual 97, 3) := by decide +kernel
theorem dX3_passTick_106 : decode cX3_passTick 106 = .ok (.iinc 1 1, 3) := by decide +kernel
theorem dX3_passTick_109 : decode cX3_passTick 109 = .ok (.goto (-42), 3) := by decide +kernel
theorem dX3_passTick_112 : decode cX3_passTick 112 = .ok (.aload_n 0, 1) := by decide +kernel
theorem dX3_passTick_113 : decode cX3_passTick 113 = .ok (.getfield 65, 3) := by decide +kernel
theorem dX3_passTick_116 : decode cX3_passTick 116 = .ok (.getfield 83, 3) := by decide +kernel
theorem dX3_passTick_119 : decode cX3_passTick 119 = .ok (.iconst 1, 1) := by decide +kernel
theorem dX3_passTick_120 : decode cX3_passTick 120 = .ok (.isub, 1) := by decide +kernel
theorem dX3_passTick_121 : decode cX3_passTick 121 = .ok (.istore_n 1, 1) := by decide +kernel
theorem dX3_passTick_122 : decode cX3_passTick 122 = .ok (.iload_n 1, 1) := by decide +kernel
theorem dX3_passTick_123 : decode cX3_passTick 123 = .ok (.ifCond .lt 40, 3) := by decide +kernel
theorem dX3_passTick_126 : decode cX3_passTick 126 = .ok (.aload_n 0, 1) := by decide +kernel
theorem dX3_passTick_127 : decode cX3_passTick 127 = .ok (.getfield 15, 3) := by decide +kernel
theorem dX3_passTick_130 : decode cX3_passTick 130 = .ok (.iload_n 1, 1) := by decide +kernel
theorem dX3_passTick_131 : decode cX3_passTick 131 = .ok (.iaload, 1) := by decide +kernel
theorem dX3_passTick_132 : decode cX3_passTick 132 = .ok (.iconst 2, 1) := by decide +kernel
theorem dX3_passTick_133 : decode cX3_passTick 133 = .ok (.if_icmp .ne 24, 3) := by decide +kernel
theorem dX3_passTick_136 : decode cX3_passTick 136 = .ok (.aload_n 0, 1) := by decide +kernel
theorem dX3_passTick_137 : decode cX3_passTick 137 = .ok (.iload_n 1, 1) := by decide +kernel
theorem dX3_passTick_138 : decode cX3_passTick 138 = .ok (.invokevirtual 101, 3) := by decide +kernel
theorem dX3_passTick_141 : decode cX3_passTick 141 = .ok (.ifCond .ne 16, 3) := by decide +kernel
theorem dX3_passTick_144 : decode cX3_passTick 144 = .ok (.aload_n 0, 1) := by decide +kernel
theorem dX3_passTick_145 : decode cX3_passTick 145 = .ok (.iload_n 1, 1) := by decide +kernel
theorem dX3_passTick_146 : decode cX3_passTick 146 = .ok (.invokevirtual 105, 3) := by decide +kernel
theorem dX3_passTick_149 : decode cX3_passTick 149 = .ok (.ifCond .eq 8, 3) := by decide +kernel
theorem dX3_passTick_152 : decode cX3_passTick 152 = .ok (.aload_n 0, 1) := by decide +kernel
theorem dX3_passTick_153 : decode cX3_passTick 153 = .ok (.iload_n 1, 1) := by decide +kernel
theorem dX3_passTick_154 : decode cX3_passTick 154 = .ok (.invokevirtual 109, 3) := by decide +kernel
theorem dX3_passTick_157 : decode cX3_passTick 157 = .ok (.iinc 1 (-1), 3) := by decide +kernel
theorem dX3_passTick_160 : decode cX3_passTick 160 = .ok (.goto (-38), 3) := by decide +kernel
theorem dX3_passTick_163 : decode cX3_passTick 163 = .ok (.return_, 1) := by decide +kernel
theorem dX3_goOn_0 : decode cX3_goOn 0 = .ok (.aload_n 0, 1) := by decide +kernel
theorem dX3_goOn_1 : decode cX3_goOn 1 = .ok (.getfield 40, 3) := by decide +kernel
theorem dX3_goOn_4 : decode cX3_goOn 4 = .ok (.iload_n 1, 1) := by decide +kernel
theorem dX3_goOn_5 : decode cX3_goOn 5 = .ok (.iaload, 1) := by decide +kernel
theorem dX3_goOn_6 : decode cX3_goOn 6 = .ok (.iconst 1, 1) := by decide +kernel
theorem dX3_goOn_7 : decode cX3_goOn 7 = .ok (.if_icmp .ne 30, 3) := by decide +kernel
theorem dX3_goOn_10 : decode cX3_goOn 10 = .ok (.aload_n 0, 1) := by decide +kernel
theorem dX3_goOn_11 : decode cX3_goOn 11 = .ok (.getfield 31, 3) := by decide +kernel
theorem dX3_goOn_14 : decode cX3_goOn 14 = .ok (.iload_n 1, 1) := by decide +kernel
theorem dX3_goOn_15 : decode cX3_goOn 15 = .ok (.iaload, 1) := by decide +kernel
theorem dX3_goOn_16 : decode cX3_goOn 16 = .ok (.aload_n 0, 1) := by decide +kernel
theorem dX3_goOn_17 : decode cX3_goOn 17 = .ok (.getfield 65, 3) := by decide +kernel
theorem dX3_goOn_20 : decode cX3_goOn 20 = .ok (.getfield 112, 3) := by decide +kernel
theorem dX3_goOn_23 : decode cX3_goOn 23 = .ok (.iload_n 1, 1) := by decide +kernel
theorem dX3_goOn_24 : decode cX3_goOn 24 = .ok (.iaload, 1) := by decide +kernel
theorem dX3_goOn_25 : decode cX3_goOn 25 = .ok (.if_icmp .lt 12, 3) := by decide +kernel
theorem dX3_goOn_28 : decode cX3_goOn 28 = .ok (.aload_n 0, 1) := by decide +kernel
theorem dX3_goOn_29 : decode cX3_goOn 29 = .ok (.iload_n 1, 1) := by decide +kernel
theorem dX3_goOn_30 : decode cX3_goOn 30 = .ok (.iconst 2, 1) := by decide +kernel
theorem dX3_goOn_31 : decode cX3_goOn 31 = .ok (.invokevirtual 94, 3) := by decide +kernel
theorem dX3_goOn_34 : decode cX3_goOn 34 = .ok (.goto 76, 3) := by decide +kernel
theorem dX3_goOn_37 : decode cX3_goOn 37 = .ok (.aload_n 0, 1) := by decide +kernel
theorem dX3_goOn_38 : decode cX3_goOn 38 = .ok (.getfield 31, 3) := by decide +kernel
theorem dX3_goOn_41 : decode cX3_goOn 41 = .ok (.iload_n 1, 1) := by decide +kernel
theorem dX3_goOn_42 : decode cX3_goOn 42 = .ok (.iaload, 1) := by decide +kernel
theorem dX3_goOn_43 : decode cX3_goOn 43 = .ok (.aload_n 0, 1) := by decide +kernel
theorem dX3_goOn_44 : decode cX3_goOn 44 = .ok (.getfield 65, 3) := by decide +kernel
theorem dX3_goOn_47 : decode cX3_goOn 47 = .ok (.getfield 115, 3) := by decide +kernel
theorem dX3_goOn_50 : decode cX3_goOn 50 = .ok (.iload_n 1, 1) := by decide +kernel
theorem dX3_goOn_51 : decode cX3_goOn 51 = .ok (.iaload, 1) := by decide +kernel
theorem dX3_goOn_52 : decode cX3_goOn 52 = .ok (.if_icmp .ge 14, 3) := by decide +kernel
theorem dX3_goOn_55 : decode cX3_goOn 55 = .ok (.aload_n 0, 1) := by decide +kernel
theorem dX3_goOn_56 : decode cX3_goOn 56 = .ok (.getfield 31, 3) := by decide +kernel
theorem dX3_goOn_59 : decode cX3_goOn 59 = .ok (.iload_n 1, 1) := by decide +kernel
theorem dX3_goOn_60 : decode cX3_goOn 60 = .ok (.iaload, 1) := by decide +kernel
theorem dX3_goOn_61 : decode cX3_goOn 61 = .ok (.bipush 6, 2) := by decide +kernel
theorem dX3_goOn_63 : decode cX3_goOn 63 = .ok (.if_icmp .lt 12, 3) := by decide +kernel
theorem dX3_goOn_66 : decode cX3_goOn 66 = .ok (.aload_n 0, 1) := by decide +kernel
theorem dX3_goOn_67 : decode cX3_goOn 67 = .ok (.iload_n 1, 1) := by decide +kernel
theorem dX3_goOn_68 : decode cX3_goOn 68 = .ok (.iconst 0, 1) := by decide +kernel
theorem dX3_goOn_69 : decode cX3_goOn 69 = .ok (.invokevirtual 94, 3) := by decide +kernel
theorem dX3_goOn_72 : decode cX3_goOn 72 = .ok (.goto 38, 3) := by decide +kernel
theorem dX3_goOn_75 : decode cX3_goOn 75 = .ok (.iload_n 1, 1) := by decide +kernel
theorem dX3_goOn_76 : decode cX3_goOn 76 = .ok (.bipush 6, 2) := by decide +kernel
theorem dX3_goOn_78 : decode cX3_goOn 78 = .ok (.imul, 1) := by decide +kernel
theorem dX3_goOn_79 : decode cX3_goOn 79 = .ok (.aload_n 0, 1) := by decide +kernel
theorem dX3_goOn_80 : decode cX3_goOn 80 = .ok (.getfield 31, 3) := by decide +kernel
theorem dX3_goOn_83 : decode cX3_goOn 83 = .ok (.iload_n 1, 1) := by decide +kernel
theorem dX3_goOn_84 : decode cX3_goOn 84 = .ok (.iaload, 1) := by decide +kernel
theorem dX3_goOn_85 : decode cX3_goOn 85 = .ok (.iadd, 1) := by decide +kernel
theorem dX3_goOn_86 : decode cX3_goOn 86 = .ok (.istore_n 2, 1) := by decide +kernel
theorem dX3_goOn_87 : decode cX3_goOn 87 = .ok (.aload_n 0, 1) := by decide +kernel
theorem dX3_goOn_88 : decode cX3_goOn 88 = .ok (.iload_n 1, 1) := by decide +kernel
theorem dX3_goOn_89 : decode cX3_goOn 89 = .ok (.aload_n 0, 1) := by decide +kernel
theorem dX3_goOn_90 : decode cX3_goOn 90 = .ok (.getfield 65, 3) := by decide +kernel
theorem dX3_goOn_93 : decode cX3_goOn 93 = .ok (.getfield 118, 3) := by decide +kernel
theorem dX3_goOn_96 : decode cX3_goOn 96 = .ok (.iload_n 2, 1) := by decide +kernel
theorem dX3_goOn_97 : decode cX3_goOn 97 = .ok (.iaload, 1) := by decide +kernel
theorem dX3_goOn_98 : decode cX3_goOn 98 = .ok (.aload_n 0, 1) := by decide +kernel
theorem dX3_goOn_99 : decode cX3_goOn 99 = .ok (.getfield 65, 3) := by decide +kernel
theorem dX3_goOn_102 : decode cX3_goOn 102 = .ok (.getfield 121, 3) := by decide +kernel
theorem dX3_goOn_105 : decode cX3_goOn 105 = .ok (.iload_n 2, 1) := by decide +kernel
theorem dX3_goOn_106 : decode cX3_goOn 106 = .ok (.iaload, 1) := by decide +kernel
theorem dX3_goOn_107 : decode cX3_goOn 107 = .ok (.invokevirtual 124, 3) := by decide +kernel
theorem dX3_goOn_110 : decode cX3_goOn 110 = .ok (.return_, 1) := by decide +kernel
theorem dX3_operate_0 : decode cX3_operate 0 = .ok (.iload_n 2, 1) := by decide +kernel
theorem dX3_operate_1 : decode cX3_operate 1 = .ok (.lookupswitch 109 #[(98, 52), (106, 70), (119, 43), (120, 91)], 43) := by decide +kernel
theorem dX3_operate_44 : decode cX3_operate 44 = .ok (.aload_n 0, 1) := by decide +kernel
theorem dX3_operate_45 : decode cX3_operate 45 = .ok (.iload_n 1, 1) := by decide +kernel
theorem dX3_operate_46 : decode cX3_operate 46 = .ok (.iload_n 3, 1) := by decide +kernel
theorem dX3_operate_47 : decode cX3_operate 47 = .ok (.invokevirtual 128, 3) := by decide +kernel
theorem dX3_operate_50 : decode cX3_operate 50 = .ok (.goto 72, 3) := by decide +kernel
theorem dX3_operate_53 : decode cX3_operate 53 = .ok (.aload_n 0, 1) := by decide +kernel
theorem dX3_operate_54 : decode cX3_operate 54 = .ok (.iload_n 1, 1) := by decide +kernel
theorem dX3_operate_55 : decode cX3_operate 55 = .ok (.invokevirtual 131, 3) := by decide +kernel
theorem dX3_operate_58 : decode cX3_operate 58 = .ok (.aload_n 0, 1) := by decide +kernel
theorem dX3_operate_59 : decode cX3_operate 59 = .ok (.getfield 31, 3) := by decide +kernel
theorem dX3_operate_62 : decode cX3_operate 62 = .ok (.iload_n 1, 1) := by decide +kernel
theorem dX3_operate_63 : decode cX3_operate 63 = .ok (.dup2, 1) := by decide +kernel
theorem dX3_operate_64 : decode cX3_operate 64 = .ok (.iaload, 1) := by decide +kernel
theorem dX3_operate_65 : decode cX3_operate 65 = .ok (.iconst 1, 1) := by decide +kernel
theorem dX3_operate_66 : decode cX3_operate 66 = .ok (.iadd, 1) := by decide +kernel
theorem dX3_operate_67 : decode cX3_operate 67 = .ok (.iastore, 1) := by decide +kernel
theorem dX3_operate_68 : decode cX3_operate 68 = .ok (.goto 54, 3) := by decide +kernel
theorem dX3_operate_71 : decode cX3_operate 71 = .ok (.aload_n 0, 1) := by decide +kernel
theorem dX3_operate_72 : decode cX3_operate 72 = .ok (.iload_n 1, 1) := by decide +kernel
theorem dX3_operate_73 : decode cX3_operate 73 = .ok (.invokevirtual 101, 3) := by decide +kernel
theorem dX3_operate_76 : decode cX3_operate 76 = .ok (.ifCond .ne 46, 3) := by decide +kernel
theorem dX3_operate_79 : decode cX3_operate 79 = .ok (.aload_n 0, 1) := by decide +kernel
theorem dX3_operate_80 : decode cX3_operate 80 = .ok (.getfield 31, 3) := by decide +kernel
theorem dX3_operate_83 : decode cX3_operate 83 = .ok (.iload_n 1, 1) := by decide +kernel
theorem dX3_operate_84 : decode cX3_operate 84 = .ok (.dup2, 1) := by decide +kernel
theorem dX3_operate_85 : decode cX3_operate 85 = .ok (.iaload, 1) := by decide +kernel
theorem dX3_operate_86 : decode cX3_operate 86 = .ok (.iconst 1, 1) := by decide +kernel
theorem dX3_operate_87 : decode cX3_operate 87 = .ok (.iadd, 1) := by decide +kernel
theorem dX3_operate_88 : decode cX3_operate 88 = .ok (.iastore, 1) := by decide +kernel
theorem dX3_operate_89 : decode cX3_operate 89 = .ok (.goto 33, 3) := by decide +kernel
theorem dX3_operate_92 : decode cX3_operate 92 = .ok (.aload_n 0, 1) := by decide +kernel
theorem dX3_operate_93 : decode cX3_operate 93 = .ok (.iload_n 1, 1) := by decide +kernel
theorem dX3_operate_94 : decode cX3_operate 94 = .ok (.invokevirtual 134, 3) := by decide +kernel
theorem dX3_operate_97 : decode cX3_operate 97 = .ok (.aload_n 0, 1) := by decide +kernel
theorem dX3_operate_98 : decode cX3_operate 98 = .ok (.getfield 31, 3) := by decide +kernel
theorem dX3_operate_101 : decode cX3_operate 101 = .ok (.iload_n 1, 1) := by decide +kernel
theorem dX3_operate_102 : decode cX3_operate 102 = .ok (.dup2, 1) := by decide +kernel
theorem dX3_operate_103 : decode cX3_operate 103 = .ok (.iaload, 1) := by decide +kernel
theorem dX3_operate_104 : decode cX3_operate 104 = .ok (.iconst 1, 1) := by decide +kernel
theorem dX3_operate_105 : decode cX3_operate 105 = .ok (.iadd, 1) := by decide +kernel
theorem dX3_operate_106 : decode cX3_operate 106 = .ok (.iastore, 1) := by decide +kernel
theorem dX3_operate_107 : decode cX3_operate 107 = .ok (.goto 15, 3) := by decide +kernel
theorem dX3_operate_110 : decode cX3_operate 110 = .ok (.aload_n 0, 1) := by decide +kernel
theorem dX3_operate_111 : decode cX3_operate 111 = .ok (.iload_n 1, 1) := by decide +kernel
theorem dX3_operate_112 : decode cX3_operate 112 = .ok (.iload_n 3, 1) := by decide +kernel
theorem dX3_operate_113 : decode cX3_operate 113 = .ok (.invokevirtual 91, 3) := by decide +kernel
theorem dX3_operate_116 : decode cX3_operate 116 = .ok (.aload_n 0, 1) := by decide +kernel
theorem dX3_operate_117 : decode cX3_operate 117 = .ok (.iload_n 1, 1) := by decide +kernel
theorem dX3_operate_118 : decode cX3_operate 118 = .ok (.iconst 1, 1) := by decide +kernel
theorem dX3_operate_119 : decode cX3_operate 119 = .ok (.invokevirtual 94, 3) := by decide +kernel
theorem dX3_operate_122 : decode cX3_operate 122 = .ok (.return_, 1) := by decide +kernel
theorem dX3_work_0 : decode cX3_work 0 = .ok (.aload_n 0, 1) := by decide +kernel
theorem dX3_work_1 : decode cX3_work 1 = .ok (.getfield 34, 3) := by decide +kernel
theorem dX3_work_4 : decode cX3_work 4 = .ok (.iload_n 1, 1) := by decide +kernel
theorem dX3_work_5 : decode cX3_work 5 = .ok (.dup2, 1) := by decide +kernel
theorem dX3_work_6 : decode cX3_work 6 = .ok (.iaload, 1) := by decide +kernel
theorem dX3_work_7 : decode cX3_work 7 = .ok (.iconst 1, 1) := by decide +kernel
theorem dX3_work_8 : decode cX3_work 8 = .ok (.iadd, 1) := by decide +kernel
theorem dX3_work_9 : decode cX3_work 9 = .ok (.iastore, 1) := by decide +kernel
theorem dX3_work_10 : decode cX3_work 10 = .ok (.aload_n 0, 1) := by decide +kernel
theorem dX3_work_11 : decode cX3_work 11 = .ok (.getfield 34, 3) := by decide +kernel
theorem dX3_work_14 : decode cX3_work 14 = .ok (.iload_n 1, 1) := by decide +kernel
theorem dX3_work_15 : decode cX3_work 15 = .ok (.iaload, 1) := by decide +kernel
theorem dX3_work_16 : decode cX3_work 16 = .ok (.iload_n 2, 1) := by decide +kernel
theorem dX3_work_17 : decode cX3_work 17 = .ok (.if_icmp .lt 20, 3) := by decide +kernel
theorem dX3_work_20 : decode cX3_work 20 = .ok (.aload_n 0, 1) := by decide +kernel
theorem dX3_work_21 : decode cX3_work 21 = .ok (.getfield 34, 3) := by decide +kernel
theorem dX3_work_24 : decode cX3_work 24 = .ok (.iload_n 1, 1) := by decide +kernel
theorem dX3_work_25 : decode cX3_work 25 = .ok (.iconst 0, 1) := by decide +kernel
theorem dX3_work_26 : decode cX3_work 26 = .ok (.iastore, 1) := by decide +kernel
theorem dX3_work_27 : decode cX3_work 27 = .ok (.aload_n 0, 1) := by decide +kernel
theorem dX3_work_28 : decode cX3_work 28 = .ok (.getfield 31, 3) := by decide +kernel
theorem dX3_work_31 : decode cX3_work 31 = .ok (.iload_n 1, 1) := by decide +kernel
theorem dX3_work_32 : decode cX3_work 32 = .ok (.dup2, 1) := by decide +kernel
theorem dX3_work_33 : decode cX3_work 33 = .ok (.iaload, 1) := by decide +kernel
theorem dX3_work_34 : decode cX3_work 34 = .ok (.iconst 1, 1) := by decide +kernel
theorem dX3_work_35 : decode cX3_work 35 = .ok (.iadd, 1) := by decide +kernel
theorem dX3_work_36 : decode cX3_work 36 = .ok (.iastore, 1) := by decide +kernel
theorem dX3_work_37 : decode cX3_work 37 = .ok (.return_, 1) := by decide +kernel
theorem dX3_beginChild_0 : decode cX3_beginChild 0 = .ok (.iload_n 1, 1) := by decide +kernel
theorem dX3_beginChild_1 : decode cX3_beginChild 1 = .ok (.iconst 1, 1) := by decide +kernel
theorem dX3_beginChild_2 : decode cX3_beginChild 2 = .ok (.iadd, 1) := by decide +kernel
theorem dX3_beginChild_3 : decode cX3_beginChild 3 = .ok (.istore_n 2, 1) := by decide +kernel
theorem dX3_beginChild_4 : decode cX3_beginChild 4 = .ok (.iload_n 2, 1) := by decide +kernel
theorem dX3_beginChild_5 : decode cX3_beginChild 5 = .ok (.aload_n 0, 1) := by decide +kernel
theorem dX3_beginChild_6 : decode cX3_beginChild 6 = .ok (.getfield 65, 3) := by decide +kernel
theorem dX3_beginChild_9 : decode cX3_beginChild 9 = .ok (.getfield 83, 3) := by decide +kernel
theorem dX3_beginChild_12 : decode cX3_beginChild 12 = .ok (.if_icmp .ge 49, 3) := by decide +kernel
theorem dX3_beginChild_15 : decode cX3_beginChild 15 = .ok (.aload_n 0, 1) := by decide +kernel
theorem dX3_beginChild_16 : decode cX3_beginChild 16 = .ok (.getfield 65, 3) := by decide +kernel
theorem dX3_beginChild_19 : decode cX3_beginChild 19 = .ok (.getfield 88, 3) := by decide +kernel
theorem dX3_beginChild_22 : decode cX3_beginChild 22 = .ok (.iload_n 2, 1) := by decide +kernel
theorem dX3_beginChild_23 : decode cX3_beginChild 23 = .ok (.iaload, 1) := by decide +kernel
theorem dX3_beginChild_24 : decode cX3_beginChild 24 = .ok (.iload_n 1, 1) := by decide +kernel
theorem dX3_beginChild_25 : decode cX3_beginChild 25 = .ok (.if_icmp .ne 30, 3) := by decide +kernel
theorem dX3_beginChild_28 : decode cX3_beginChild 28 = .ok (.aload_n 0, 1) := by decide +kernel
theorem dX3_beginChild_29 : decode cX3_beginChild 29 = .ok (.getfield 15, 3) := by decide +kernel
theorem dX3_beginChild_32 : decode cX3_beginChild 32 = .ok (.iload_n 2, 1) := by decide +kernel
theorem dX3_beginChild_33 : decode cX3_beginChild 33 = .ok (.iaload, 1) := by decide +kernel
theorem dX3_beginChild_34 : decode cX3_beginChild 34 = .ok (.ifCond .ne 21, 3) := by decide +kernel
theorem dX3_beginChild_37 : decode cX3_beginChild 37 = .ok (.aload_n 0, 1) := by decide +kernel
theorem dX3_beginChild_38 : decode cX3_beginChild 38 = .ok (.iload_n 2, 1) := by decide +kernel
theorem dX3_beginChild_39 : decode cX3_beginChild 39 = .ok (.aload_n 0, 1) := by decide +kernel
theorem dX3_beginChild_40 : decode cX3_beginChild 40 = .ok (.getfield 28, 3) := by decide +kernel
theorem dX3_beginChild_43 : decode cX3_beginChild 43 = .ok (.iload_n 1, 1) := by decide +kernel
theorem dX3_beginChild_44 : decode cX3_beginChild 44 = .ok (.iaload, 1) := by decide +kernel
theorem dX3_beginChild_45 : decode cX3_beginChild 45 = .ok (.invokevirtual 70, 3) := by decide +kernel
theorem dX3_beginChild_48 : decode cX3_beginChild 48 = .ok (.aload_n 0, 1) := by decide +kernel
theorem dX3_beginChild_49 : decode cX3_beginChild 49 = .ok (.iload_n 2, 1) := by decide +kernel
theorem dX3_beginChild_50 : decode cX3_beginChild 50 = .ok (.iconst 0, 1) := by decide +kernel
theorem dX3_beginChild_51 : decode cX3_beginChild 51 = .ok (.invokevirtual 137, 3) := by decide +kernel
theorem dX3_beginChild_54 : decode cX3_beginChild 54 = .ok (.return_, 1) := by decide +kernel
theorem dX3_beginChild_55 : decode cX3_beginChild 55 = .ok (.iinc 2 1, 3) := by decide +kernel
theorem dX3_beginChild_58 : decode cX3_beginChild 58 = .ok (.goto (-54), 3) := by decide +kernel
theorem dX3_beginChild_61 : decode cX3_beginChild 61 = .ok (.return_, 1) := by decide +kernel
theorem dX3_start_0 : decode cX3_start 0 = .ok (.aload_n 0, 1) := by decide +kernel
theorem dX3_start_1 : decode cX3_start 1 = .ok (.getfield 15, 3) := by decide +kernel
theorem dX3_start_4 : decode cX3_start 4 = .ok (.iload_n 1, 1) := by decide +kernel
theorem dX3_start_5 : decode cX3_start 5 = .ok (.iconst 1, 1) := by decide +kernel
theorem dX3_start_6 : decode cX3_start 6 = .ok (.iastore, 1) := by decide +kernel
theorem dX3_start_7 : decode cX3_start 7 = .ok (.aload_n 0, 1) := by decide +kernel
theorem dX3_start_8 : decode cX3_start 8 = .ok (.getfield 22, 3) := by decide +kernel
theorem dX3_start_11 : decode cX3_start 11 = .ok (.iload_n 1, 1) := by decide +kernel
theorem dX3_start_12 : decode cX3_start 12 = .ok (.aload_n 0, 1) := by decide +kernel
theorem dX3_start_13 : decode cX3_start 13 = .ok (.getfield 9, 3) := by decide +kernel
theorem dX3_start_16 : decode cX3_start 16 = .ok (.iastore, 1) := by decide +kernel
theorem dX3_start_17 : decode cX3_start 17 = .ok (.aload_n 0, 1) := by decide +kernel
theorem dX3_start_18 : decode cX3_start 18 = .ok (.getfield 28, 3) := by decide +kernel
theorem dX3_start_21 : decode cX3_start 21 = .ok (.iload_n 1, 1) := by decide +kernel
theorem dX3_start_22 : decode cX3_start 22 = .ok (.iload_n 2, 1) := by decide +kernel
theorem dX3_start_23 : decode cX3_start 23 = .ok (.iastore, 1) := by decide +kernel
theorem dX3_start_24 : decode cX3_start 24 = .ok (.aload_n 0, 1) := by decide +kernel
theorem dX3_start_25 : decode cX3_start 25 = .ok (.getfield 65, 3) := by decide +kernel
theorem dX3_start_28 : decode cX3_start 28 = .ok (.getfield 140, 3) := by decide +kernel
theorem dX3_start_31 : decode cX3_start 31 = .ok (.iload_n 1, 1) := by decide +kernel
theorem dX3_start_32 : decode cX3_start 32 = .ok (.iaload, 1) := by decide +kernel
theorem dX3_start_33 : decode cX3_start 33 = .ok (.bipush 99, 2) := by decide +kernel
theorem dX3_start_35 : decode cX3_start 35 = .ok (.if_icmp .eq 27, 3) := by decide +kernel
theorem dX3_start_38 : decode cX3_start 38 = .ok (.aload_n 0, 1) := by decide +kernel
theorem dX3_start_39 : decode cX3_start 39 = .ok (.getfield 28, 3) := by decide +kernel
theorem dX3_start_42 : decode cX3_start 42 = .ok (.iload_n 1, 1) := by decide +kernel
theorem dX3_start_43 : decode cX3_start 43 = .ok (.iload_n 2, 1) := by decide +kernel
theorem dX3_start_44 : decode cX3_start 44 = .ok (.aload_n 0, 1) := by decide +kernel
theorem dX3_start_45 : decode cX3_start 45 = .ok (.getfield 9, 3) := by decide +kernel
theorem dX3_start_48 : decode cX3_start 48 = .ok (.aload_n 0, 1) := by decide +kernel
theorem dX3_start_49 : decode cX3_start 49 = .ok (.getfield 65, 3) := by decide +kernel
theorem dX3_start_52 : decode cX3_start 52 = .ok (.getfield 140, 3) := by decide +kernel
theorem dX3_start_55 : decode cX3_start 55 = .ok (.iload_n 1, 1) := by decide +kernel
theorem dX3_start_56 : decode cX3_start 56 = .ok (.iaload, 1) := by decide +kernel
theorem dX3_start_57 : decode cX3_start 57 = .ok (.iadd, 1) := by decide +kernel
theorem dX3_start_58 : decode cX3_start 58 = .ok (.invokestatic 143, 3) := by decide +kernel
theorem dX3_start_61 : decode cX3_start 61 = .ok (.iastore, 1) := by decide +kernel
theorem dX3_start_62 : decode cX3_start 62 = .ok (.return_, 1) := by decide +kernel
theorem dX3_askChildren_0 : decode cX3_askChildren 0 = .ok (.iload_n 1, 1) := by decide +kernel
theorem dX3_askChildren_1 : decode cX3_askChildren 1 = .ok (.iconst 1, 1) := by decide +kernel
theorem dX3_askChildren_2 : decode cX3_askChildren 2 = .ok (.iadd, 1) := by decide +kernel
theorem dX3_askChildren_3 : decode cX3_askChildren 3 = .ok (.istore_n 2, 1) := by decide +kernel
theorem dX3_askChildren_4 : decode cX3_askChildren 4 = .ok (.iload_n 2, 1) := by decide +kernel
theorem dX3_askChildren_5 : decode cX3_askChildren 5 = .ok (.aload_n 0, 1) := by decide +kernel
theorem dX3_askChildren_6 : decode cX3_askChildren 6 = .ok (.getfield 65, 3) := by decide +kernel
theorem dX3_askChildren_9 : decode cX3_askChildren 9 = .ok (.getfield 83, 3) := by decide +kernel
theorem dX3_askChildren_12 : decode cX3_askChildren 12 = .ok (.if_icmp .ge 39, 3) := by decide +kernel
theorem dX3_askChildren_15 : decode cX3_askChildren 15 = .ok (.aload_n 0, 1) := by decide +kernel
theorem dX3_askChildren_16 : decode cX3_askChildren 16 = .ok (.getfield 65, 3) := by decide +kernel
theorem dX3_askChildren_19 : decode cX3_askChildren 19 = .ok (.getfield 88, 3) := by decide +kernel
theorem dX3_askChildren_22 : decode cX3_askChildren 22 = .ok (.iload_n 2, 1) := by decide +kernel
theorem dX3_askChildren_23 : decode cX3_askChildren 23 = .ok (.iaload, 1) := by decide +kernel
theorem dX3_askChildren_24 : decode cX3_askChildren 24 = .ok (.iload_n 1, 1) := by decide +kernel
theorem dX3_askChildren_25 : decode cX3_askChildren 25 = .ok (.if_icmp .ne 20, 3) := by decide +kernel
theorem dX3_askChildren_28 : decode cX3_askChildren 28 = .ok (.aload_n 0, 1) := by decide +kernel
theorem dX3_askChildren_29 : decode cX3_askChildren 29 = .ok (.getfield 15, 3) := by decide +kernel
theorem dX3_askChildren_32 : decode cX3_askChildren 32 = .ok (.iload_n 2, 1) := by decide +kernel
theorem dX3_askChildren_33 : decode cX3_askChildren 33 = .ok (.iaload, 1) := by decide +kernel
theorem dX3_askChildren_34 : decode cX3_askChildren 34 = .ok (.iconst 1, 1) := by decide +kernel
theorem dX3_askChildren_35 : decode cX3_askChildren 35 = .ok (.if_icmp .ne 10, 3) := by decide +kernel
theorem dX3_askChildren_38 : decode cX3_askChildren 38 = .ok (.aload_n 0, 1) := by decide +kernel
theorem dX3_askChildren_39 : decode cX3_askChildren 39 = .ok (.getfield 40, 3) := by decide +kernel
theorem dX3_askChildren_42 : decode cX3_askChildren 42 = .ok (.iload_n 2, 1) := by decide +kernel
theorem dX3_askChildren_43 : decode cX3_askChildren 43 = .ok (.iconst 1, 1) := by decide +kernel
theorem dX3_askChildren_44 : decode cX3_askChildren 44 = .ok (.iastore, 1) := by decide +kernel
theorem dX3_askChildren_45 : decode cX3_askChildren 45 = .ok (.iinc 2 1, 3) := by decide +kernel
theorem dX3_askChildren_48 : decode cX3_askChildren 48 = .ok (.goto (-44), 3) := by decide +kernel
theorem dX3_askChildren_51 : decode cX3_askChildren 51 = .ok (.return_, 1) := by decide +kernel
theorem dX3_close_0 : decode cX3_close 0 = .ok (.aload_n 0, 1) := by decide +kernel
theorem dX3_close_1 : decode cX3_close 1 = .ok (.getfield 15, 3) := by decide +kernel
theorem dX3_close_4 : decode cX3_close 4 = .ok (.iload_n 1, 1) := by decide +kernel
theorem dX3_close_5 : decode cX3_close 5 = .ok (.iconst 2, 1) := by decide +kernel
theorem dX3_close_6 : decode cX3_close 6 = .ok (.iastore, 1) := by decide +kernel
theorem dX3_close_7 : decode cX3_close 7 = .ok (.aload_n 0, 1) := by decide +kernel
theorem dX3_close_8 : decode cX3_close 8 = .ok (.getfield 19, 3) := by decide +kernel
theorem dX3_close_11 : decode cX3_close 11 = .ok (.iload_n 1, 1) := by decide +kernel
theorem dX3_close_12 : decode cX3_close 12 = .ok (.iload_n 2, 1) := by decide +kernel
theorem dX3_close_13 : decode cX3_close 13 = .ok (.ifCond .ne 16, 3) := by decide +kernel
theorem dX3_close_16 : decode cX3_close 16 = .ok (.aload_n 0, 1) := by decide +kernel
theorem dX3_close_17 : decode cX3_close 17 = .ok (.getfield 43, 3) := by decide +kernel
theorem dX3_close_20 : decode cX3_close 20 = .ok (.iload_n 1, 1) := by decide +kernel
theorem dX3_close_21 : decode cX3_close 21 = .ok (.iaload, 1) := by decide +kernel
theorem dX3_close_22 : decode cX3_close 22 = .ok (.ifCond .le 7, 3) := by decide +kernel
theorem dX3_close_25 : decode cX3_close 25 = .ok (.iconst 1, 1) := by decide +kernel
theorem dX3_close_26 : decode cX3_close 26 = .ok (.goto 4, 3) := by decide +kernel
theorem dX3_close_29 : decode cX3_close 29 = .ok (.iload_n 2, 1) := by decide +kernel
theorem dX3_close_30 : decode cX3_close 30 = .ok (.iastore, 1) := by decide +kernel
theorem dX3_close_31 : decode cX3_close 31 = .ok (.aload_n 0, 1) := by decide +kernel
theorem dX3_close_32 : decode cX3_close 32 = .ok (.iload_n 1, 1) := by decide +kernel
theorem dX3_close_33 : decode cX3_close 33 = .ok (.iconst 1, 1) := by decide +kernel
theorem dX3_close_34 : decode cX3_close 34 = .ok (.invokevirtual 137, 3) := by decide +kernel
theorem dX3_close_37 : decode cX3_close 37 = .ok (.aload_n 0, 1) := by decide +kernel
theorem dX3_close_38 : decode cX3_close 38 = .ok (.getfield 19, 3) := by decide +kernel
theorem dX3_close_41 : decode cX3_close 41 = .ok (.iload_n 1, 1) := by decide +kernel
theorem dX3_close_42 : decode cX3_close 42 = .ok (.iaload, 1) := by decide +kernel
theorem dX3_close_43 : decode cX3_close 43 = .ok (.ifCond .eq 8, 3) := by decide +kernel
theorem dX3_close_46 : decode cX3_close 46 = .ok (.aload_n 0, 1) := by decide +kernel
theorem dX3_close_47 : decode cX3_close 47 = .ok (.iload_n 1, 1) := by decide +kernel
theorem dX3_close_48 : decode cX3_close 48 = .ok (.invokevirtual 134, 3) := by decide +kernel
theorem dX3_close_51 : decode cX3_close 51 = .ok (.return_, 1) := by decide +kernel
theorem dX3_cleansUp_0 : decode cX3_cleansUp 0 = .ok (.aload_n 0, 1) := by decide +kernel
theorem dX3_cleansUp_1 : decode cX3_cleansUp 1 = .ok (.getfield 37, 3) := by decide +kernel
theorem dX3_cleansUp_4 : decode cX3_cleansUp 4 = .ok (.iload_n 1, 1) := by decide +kernel
theorem dX3_cleansUp_5 : decode cX3_cleansUp 5 = .ok (.iaload, 1) := by decide +kernel
theorem dX3_cleansUp_6 : decode cX3_cleansUp 6 = .ok (.aload_n 0, 1) := by decide +kernel
theorem dX3_cleansUp_7 : decode cX3_cleansUp 7 = .ok (.getfield 65, 3) := by decide +kernel
theorem dX3_cleansUp_10 : decode cX3_cleansUp 10 = .ok (.getfield 149, 3) := by decide +kernel
theorem dX3_cleansUp_13 : decode cX3_cleansUp 13 = .ok (.iload_n 1, 1) := by decide +kernel
theorem dX3_cleansUp_14 : decode cX3_cleansUp 14 = .ok (.iaload, 1) := by decide +kernel
theorem dX3_cleansUp_15 : decode cX3_cleansUp 15 = .ok (.if_icmp .ge 13, 3) := by decide +kernel
theorem dX3_cleansUp_18 : decode cX3_cleansUp 18 = .ok (.aload_n 0, 1) := by decide +kernel
theorem dX3_cleansUp_19 : decode cX3_cleansUp 19 = .ok (.getfield 37, 3) := by decide +kernel
theorem dX3_cleansUp_22 : decode cX3_cleansUp 22 = .ok (.iload_n 1, 1) := by decide +kernel
theorem dX3_cleansUp_23 : decode cX3_cleansUp 23 = .ok (.dup2, 1) := by decide +kernel
theorem dX3_cleansUp_24 : decode cX3_cleansUp 24 = .ok (.iaload, 1) := by decide +kernel
theorem dX3_cleansUp_25 : decode cX3_cleansUp 25 = .ok (.iconst 1, 1) := by decide +kernel
theorem dX3_cleansUp_26 : decode cX3_cleansUp 26 = .ok (.iadd, 1) := by decide +kernel
theorem dX3_cleansUp_27 : decode cX3_cleansUp 27 = .ok (.iastore, 1) := by decide +kernel
theorem dX3_cleansUp_28 : decode cX3_cleansUp 28 = .ok (.aload_n 0, 1) := by decide +kernel
theorem dX3_cleansUp_29 : decode cX3_cleansUp 29 = .ok (.getfield 37, 3) := by decide +kernel
theorem dX3_cleansUp_32 : decode cX3_cleansUp 32 = .ok (.iload_n 1, 1) := by decide +kernel
theorem dX3_cleansUp_33 : decode cX3_cleansUp 33 = .ok (.iaload, 1) := by decide +kernel
theorem dX3_cleansUp_34 : decode cX3_cleansUp 34 = .ok (.aload_n 0, 1) := by decide +kernel
theorem dX3_cleansUp_35 : decode cX3_cleansUp 35 = .ok (.getfield 65, 3) := by decide +kernel
theorem dX3_cleansUp_38 : decode cX3_cleansUp 38 = .ok (.getfield 149, 3) := by decide +kernel
theorem dX3_cleansUp_41 : decode cX3_cleansUp 41 = .ok (.iload_n 1, 1) := by decide +kernel
theorem dX3_cleansUp_42 : decode cX3_cleansUp 42 = .ok (.iaload, 1) := by decide +kernel
theorem dX3_cleansUp_43 : decode cX3_cleansUp 43 = .ok (.if_icmp .lt 7, 3) := by decide +kernel
theorem dX3_cleansUp_46 : decode cX3_cleansUp 46 = .ok (.iconst 1, 1) := by decide +kernel
theorem dX3_cleansUp_47 : decode cX3_cleansUp 47 = .ok (.goto 4, 3) := by decide +kernel
theorem dX3_cleansUp_50 : decode cX3_cleansUp 50 = .ok (.iconst 0, 1) := by decide +kernel
theorem dX3_cleansUp_51 : decode cX3_cleansUp 51 = .ok (.ireturn, 1) := by decide +kernel
theorem dX3_end_0 : decode cX3_end 0 = .ok (.aload_n 0, 1) := by decide +kernel
theorem dX3_end_1 : decode cX3_end 1 = .ok (.getfield 15, 3) := by decide +kernel
theorem dX3_end_4 : decode cX3_end 4 = .ok (.iload_n 1, 1) := by decide +kernel
theorem dX3_end_5 : decode cX3_end 5 = .ok (.iconst 3, 1) := by decide +kernel
theorem dX3_end_6 : decode cX3_end 6 = .ok (.iastore, 1) := by decide +kernel
theorem dX3_end_7 : decode cX3_end 7 = .ok (.aload_n 0, 1) := by decide +kernel
theorem dX3_end_8 : decode cX3_end 8 = .ok (.getfield 25, 3) := by decide +kernel
theorem dX3_end_11 : decode cX3_end 11 = .ok (.iload_n 1, 1) := by decide +kernel
theorem dX3_end_12 : decode cX3_end 12 = .ok (.aload_n 0, 1) := by decide +kernel
theorem dX3_end_13 : decode cX3_end 13 = .ok (.getfield 9, 3) := by decide +kernel
theorem dX3_end_16 : decode cX3_end 16 = .ok (.iastore, 1) := by decide +kernel
theorem dX3_end_17 : decode cX3_end 17 = .ok (.aload_n 0, 1) := by decide +kernel
theorem dX3_end_18 : decode cX3_end 18 = .ok (.iload_n 1, 1) := by decide +kernel
theorem dX3_end_19 : decode cX3_end 19 = .ok (.iconst 2, 1) := by decide +kernel
theorem dX3_end_20 : decode cX3_end 20 = .ok (.invokevirtual 137, 3) := by decide +kernel
theorem dX3_end_23 : decode cX3_end 23 = .ok (.aload_n 0, 1) := by decide +kernel
theorem dX3_end_24 : decode cX3_end 24 = .ok (.getfield 65, 3) := by decide +kernel
theorem dX3_end_27 : decode cX3_end 27 = .ok (.getfield 88, 3) := by decide +kernel
theorem dX3_end_30 : decode cX3_end 30 = .ok (.iload_n 1, 1) := by decide +kernel
theorem dX3_end_31 : decode cX3_end 31 = .ok (.iaload, 1) := by decide +kernel
theorem dX3_end_32 : decode cX3_end 32 = .ok (.istore_n 2, 1) := by decide +kernel
theorem dX3_end_33 : decode cX3_end 33 = .ok (.iload_n 2, 1) := by decide +kernel
theorem dX3_end_34 : decode cX3_end 34 = .ok (.ifCond .lt 34, 3) := by decide +kernel
theorem dX3_end_37 : decode cX3_end 37 = .ok (.aload_n 0, 1) := by decide +kernel
theorem dX3_end_38 : decode cX3_end 38 = .ok (.getfield 19, 3) := by decide +kernel
theorem dX3_end_41 : decode cX3_end 41 = .ok (.iload_n 1, 1) := by decide +kernel
theorem dX3_end_42 : decode cX3_end 42 = .ok (.iaload, 1) := by decide +kernel
theorem dX3_end_43 : decode cX3_end 43 = .ok (.iconst 1, 1) := by decide +kernel
theorem dX3_end_44 : decode cX3_end 44 = .ok (.if_icmp .eq 13, 3) := by decide +kernel
theorem dX3_end_47 : decode cX3_end 47 = .ok (.aload_n 0, 1) := by decide +kernel
theorem dX3_end_48 : decode cX3_end 48 = .ok (.getfield 19, 3) := by decide +kernel
theorem dX3_end_51 : decode cX3_end 51 = .ok (.iload_n 1, 1) := by decide +kernel
theorem dX3_end_52 : decode cX3_end 52 = .ok (.iaload, 1) := by decide +kernel
theorem dX3_end_53 : decode cX3_end 53 = .ok (.iconst 3, 1) := by decide +kernel
theorem dX3_end_54 : decode cX3_end 54 = .ok (.if_icmp .ne 14, 3) := by decide +kernel
theorem dX3_end_57 : decode cX3_end 57 = .ok (.aload_n 0, 1) := by decide +kernel
theorem dX3_end_58 : decode cX3_end 58 = .ok (.iload_n 1, 1) := by decide +kernel
theorem dX3_end_59 : decode cX3_end 59 = .ok (.iload_n 2, 1) := by decide +kernel
theorem dX3_end_60 : decode cX3_end 60 = .ok (.invokevirtual 152, 3) := by decide +kernel
theorem dX3_end_63 : decode cX3_end 63 = .ok (.aload_n 0, 1) := by decide +kernel
theorem dX3_end_64 : decode cX3_end 64 = .ok (.iload_n 2, 1) := by decide +kernel
theorem dX3_end_65 : decode cX3_end 65 = .ok (.invokevirtual 155, 3) := by decide +kernel
theorem dX3_end_68 : decode cX3_end 68 = .ok (.return_, 1) := by decide +kernel
theorem dX3_giveList_0 : decode cX3_giveList 0 = .ok (.iconst 0, 1) := by decide +kernel
theorem dX3_giveList_1 : decode cX3_giveList 1 = .ok (.istore_n 3, 1) := by decide +kernel
theorem dX3_giveList_2 : decode cX3_giveList 2 = .ok (.iload_n 3, 1) := by decide +kernel
theorem dX3_giveList_3 : decode cX3_giveList 3 = .ok (.aload_n 0, 1) := by decide +kernel
theorem dX3_giveList_4 : decode cX3_giveList 4 = .ok (.getfield 43, 3) := by decide +kernel
theorem dX3_giveList_7 : decode cX3_giveList 7 = .ok (.iload_n 1, 1) := by decide +kernel
theorem dX3_giveList_8 : decode cX3_giveList 8 = .ok (.iaload, 1) := by decide +kernel
theorem dX3_giveList_9 : decode cX3_giveList 9 = .ok (.if_icmp .ge 31, 3) := by decide +kernel
theorem dX3_giveList_12 : decode cX3_giveList 12 = .ok (.iload_n 3, 1) := by decide +kernel
theorem dX3_giveList_13 : decode cX3_giveList 13 = .ok (.bipush 8, 2) := by decide +kernel
theorem dX3_giveList_15 : decode cX3_giveList 15 = .ok (.if_icmp .ge 25, 3) := by decide +kernel
theorem dX3_giveList_18 : decode cX3_giveList 18 = .ok (.aload_n 0, 1) := by decide +kernel
theorem dX3_giveList_19 : decode cX3_giveList 19 = .ok (.iload_n 2, 1) := by decide +kernel
theorem dX3_giveList_20 : decode cX3_giveList 20 = .ok (.aload_n 0, 1) := by decide +kernel
theorem dX3_giveList_21 : decode cX3_giveList 21 = .ok (.getfield 46, 3) := by decide +kernel
theorem dX3_giveList_24 : decode cX3_giveList 24 = .ok (.iload_n 1, 1) := by decide +kernel
theorem dX3_giveList_25 : decode cX3_giveList 25 = .ok (.bipush 8, 2) := by decide +kernel
theorem dX3_giveList_27 : decode cX3_giveList 27 = .ok (.imul, 1) := by decide +kernel
theorem dX3_giveList_28 : decode cX3_giveList 28 = .ok (.iload_n 3, 1) := by decide +kernel
theorem dX3_giveList_29 : decode cX3_giveList 29 = .ok (.iadd, 1) := by decide +kernel
theorem dX3_giveList_30 : decode cX3_giveList 30 = .ok (.iaload, 1) := by decide +kernel
theorem dX3_giveList_31 : decode cX3_giveList 31 = .ok (.invokevirtual 91, 3) := by decide +kernel
theorem dX3_giveList_34 : decode cX3_giveList 34 = .ok (.iinc 3 1, 3) := by decide +kernel
theorem dX3_giveList_37 : decode cX3_giveList 37 = .ok (.goto (-35), 3) := by decide +kernel
theorem dX3_giveList_40 : decode cX3_giveList 40 = .ok (.return_, 1) := by decide +kernel
theorem dX3_takeFailure_0 : decode cX3_takeFailure 0 = .ok (.aload_n 0, 1) := by decide +kernel
theorem dX3_takeFailure_1 : decode cX3_takeFailure 1 = .ok (.getfield 15, 3) := by decide +kernel
theorem dX3_takeFailure_4 : decode cX3_takeFailure 4 = .ok (.iload_n 1, 1) := by decide +kernel
theorem dX3_takeFailure_5 : decode cX3_takeFailure 5 = .ok (.iaload, 1) := by decide +kernel
theorem dX3_takeFailure_6 : decode cX3_takeFailure 6 = .ok (.iconst 1, 1) := by decide +kernel
theorem dX3_takeFailure_7 : decode cX3_takeFailure 7 = .ok (.if_icmp .ne 24, 3) := by decide +kernel
theorem dX3_takeFailure_10 : decode cX3_takeFailure 10 = .ok (.aload_n 0, 1) := by decide +kernel
theorem dX3_takeFailure_11 : decode cX3_takeFailure 11 = .ok (.getfield 65, 3) := by decide +kernel
theorem dX3_takeFailure_14 : decode cX3_takeFailure 14 = .ok (.getfield 158, 3) := by decide +kernel
theorem dX3_takeFailure_17 : decode cX3_takeFailure 17 = .ok (.iload_n 1, 1) := by decide +kernel
theorem dX3_takeFailure_18 : decode cX3_takeFailure 18 = .ok (.iaload, 1) := by decide +kernel
theorem dX3_takeFailure_19 : decode cX3_takeFailure 19 = .ok (.ifCond .ne 12, 3) := by decide +kernel
theorem dX3_takeFailure_22 : decode cX3_takeFailure 22 = .ok (.aload_n 0, 1) := by decide +kernel
theorem dX3_takeFailure_23 : decode cX3_takeFailure 23 = .ok (.iload_n 1, 1) := by decide +kernel
theorem dX3_takeFailure_24 : decode cX3_takeFailure 24 = .ok (.iconst 1, 1) := by decide +kernel
theorem dX3_takeFailure_25 : decode cX3_takeFailure 25 = .ok (.invokevirtual 94, 3) := by decide +kernel
theorem dX3_takeFailure_28 : decode cX3_takeFailure 28 = .ok (.goto 34, 3) := by decide +kernel
theorem dX3_takeFailure_31 : decode cX3_takeFailure 31 = .ok (.aload_n 0, 1) := by decide +kernel
theorem dX3_takeFailure_32 : decode cX3_takeFailure 32 = .ok (.getfield 15, 3) := by decide +kernel
theorem dX3_takeFailure_35 : decode cX3_takeFailure 35 = .ok (.iload_n 1, 1) := by decide +kernel
theorem dX3_takeFailure_36 : decode cX3_takeFailure 36 = .ok (.iaload, 1) := by decide +kernel
theorem dX3_takeFailure_37 : decode cX3_takeFailure 37 = .ok (.iconst 2, 1) := by decide +kernel
theorem dX3_takeFailure_38 : decode cX3_takeFailure 38 = .ok (.if_icmp .ne 24, 3) := by decide +kernel
theorem dX3_takeFailure_41 : decode cX3_takeFailure 41 = .ok (.aload_n 0, 1) := by decide +kernel
theorem dX3_takeFailure_42 : decode cX3_takeFailure 42 = .ok (.getfield 19, 3) := by decide +kernel
theorem dX3_takeFailure_45 : decode cX3_takeFailure 45 = .ok (.iload_n 1, 1) := by decide +kernel
theorem dX3_takeFailure_46 : decode cX3_takeFailure 46 = .ok (.iaload, 1) := by decide +kernel
theorem dX3_takeFailure_47 : decode cX3_takeFailure 47 = .ok (.ifCond .ne 15, 3) := by decide +kernel
theorem dX3_takeFailure_50 : decode cX3_takeFailure 50 = .ok (.aload_n 0, 1) := by decide +kernel
theorem dX3_takeFailure_51 : decode cX3_takeFailure 51 = .ok (.getfield 19, 3) := by decide +kernel
theorem dX3_takeFailure_54 : decode cX3_takeFailure 54 = .ok (.iload_n 1, 1) := by decide +kernel
theorem dX3_takeFailure_55 : decode cX3_takeFailure 55 = .ok (.iconst 1, 1) := by decide +kernel
theorem dX3_takeFailure_56 : decode cX3_takeFailure 56 = .ok (.iastore, 1) := by decide +kernel
theorem dX3_takeFailure_57 : decode cX3_takeFailure 57 = .ok (.aload_n 0, 1) := by decide +kernel
theorem dX3_takeFailure_58 : decode cX3_takeFailure 58 = .ok (.iload_n 1, 1) := by decide +kernel
theorem dX3_takeFailure_59 : decode cX3_takeFailure 59 = .ok (.invokevirtual 134, 3) := by decide +kernel
theorem dX3_takeFailure_62 : decode cX3_takeFailure 62 = .ok (.return_, 1) := by decide +kernel
theorem dX3_addCode_0 : decode cX3_addCode 0 = .ok (.aload_n 0, 1) := by decide +kernel
theorem dX3_addCode_1 : decode cX3_addCode 1 = .ok (.getfield 43, 3) := by decide +kernel
theorem dX3_addCode_4 : decode cX3_addCode 4 = .ok (.iload_n 1, 1) := by decide +kernel
theorem dX3_addCode_5 : decode cX3_addCode 5 = .ok (.iaload, 1) := by decide +kernel
theorem dX3_addCode_6 : decode cX3_addCode 6 = .ok (.bipush 8, 2) := by decide +kernel
theorem dX3_addCode_8 : decode cX3_addCode 8 = .ok (.if_icmp .ge 30, 3) := by decide +kernel
theorem dX3_addCode_11 : decode cX3_addCode 11 = .ok (.aload_n 0, 1) := by decide +kernel
theorem dX3_addCode_12 : decode cX3_addCode 12 = .ok (.getfield 46, 3) := by decide +kernel
theorem dX3_addCode_15 : decode cX3_addCode 15 = .ok (.iload_n 1, 1) := by decide +kernel
theorem dX3_addCode_16 : decode cX3_addCode 16 = .ok (.bipush 8, 2) := by decide +kernel
theorem dX3_addCode_18 : decode cX3_addCode 18 = .ok (.imul, 1) := by decide +kernel
theorem dX3_addCode_19 : decode cX3_addCode 19 = .ok (.aload_n 0, 1) := by decide +kernel
theorem dX3_addCode_20 : decode cX3_addCode 20 = .ok (.getfield 43, 3) := by decide +kernel
theorem dX3_addCode_23 : decode cX3_addCode 23 = .ok (.iload_n 1, 1) := by decide +kernel
theorem dX3_addCode_24 : decode cX3_addCode 24 = .ok (.iaload, 1) := by decide +kernel
theorem dX3_addCode_25 : decode cX3_addCode 25 = .ok (.iadd, 1) := by decide +kernel
theorem dX3_addCode_26 : decode cX3_addCode 26 = .ok (.iload_n 2, 1) := by decide +kernel
theorem dX3_addCode_27 : decode cX3_addCode 27 = .ok (.iastore, 1) := by decide +kernel
theorem dX3_addCode_28 : decode cX3_addCode 28 = .ok (.aload_n 0, 1) := by decide +kernel
theorem dX3_addCode_29 : decode cX3_addCode 29 = .ok (.getfield 43, 3) := by decide +kernel
theorem dX3_addCode_32 : decode cX3_addCode 32 = .ok (.iload_n 1, 1) := by decide +kernel
theorem dX3_addCode_33 : decode cX3_addCode 33 = .ok (.dup2, 1) := by decide +kernel
theorem dX3_addCode_34 : decode cX3_addCode 34 = .ok (.iaload, 1) := by decide +kernel
theorem dX3_addCode_35 : decode cX3_addCode 35 = .ok (.iconst 1, 1) := by decide +kernel
theorem dX3_addCode_36 : decode cX3_addCode 36 = .ok (.iadd, 1) := by decide +kernel
theorem dX3_addCode_37 : decode cX3_addCode 37 = .ok (.iastore, 1) := by decide +kernel
theorem dX3_addCode_38 : decode cX3_addCode 38 = .ok (.return_, 1) := by decide +kernel
theorem dX3_note_0 : decode cX3_note 0 = .ok (.aload_n 0, 1) := by decide +kernel
theorem dX3_note_1 : decode cX3_note 1 = .ok (.getfield 49, 3) := by decide +kernel
theorem dX3_note_4 : decode cX3_note 4 = .ok (.bipush 60, 2) := by decide +kernel
theorem dX3_note_6 : decode cX3_note 6 = .ok (.if_icmp .ge 46, 3) := by decide +kernel
theorem dX3_note_9 : decode cX3_note 9 = .ok (.aload_n 0, 1) := by decide +kernel
theorem dX3_note_10 : decode cX3_note 10 = .ok (.getfield 52, 3) := by decide +kernel
theorem dX3_note_13 : decode cX3_note 13 = .ok (.aload_n 0, 1) := by decide +kernel
theorem dX3_note_14 : decode cX3_note 14 = .ok (.getfield 49, 3) := by decide +kernel
theorem dX3_note_17 : decode cX3_note 17 = .ok (.aload_n 0, 1) := by decide +kernel
theorem dX3_note_18 : decode cX3_note 18 = .ok (.getfield 9, 3) := by decide +kernel
theorem dX3_note_21 : decode cX3_note 21 = .ok (.iastore, 1) := by decide +kernel
theorem dX3_note_22 : decode cX3_note 22 = .ok (.aload_n 0, 1) := by decide +kernel
theorem dX3_note_23 : decode cX3_note 23 = .ok (.getfield 55, 3) := by decide +kernel
theorem dX3_note_26 : decode cX3_note 26 = .ok (.aload_n 0, 1) := by decide +kernel
theorem dX3_note_27 : decode cX3_note 27 = .ok (.getfield 49, 3) := by decide +kernel
theorem dX3_note_30 : decode cX3_note 30 = .ok (.iload_n 1, 1) := by decide +kernel
theorem dX3_note_31 : decode cX3_note 31 = .ok (.iastore, 1) := by decide +kernel
theorem dX3_note_32 : decode cX3_note 32 = .ok (.aload_n 0, 1) := by decide +kernel
theorem dX3_note_33 : decode cX3_note 33 = .ok (.getfield 58, 3) := by decide +kernel
theorem dX3_note_36 : decode cX3_note 36 = .ok (.aload_n 0, 1) := by decide +kernel
theorem dX3_note_37 : decode cX3_note 37 = .ok (.getfield 49, 3) := by decide +kernel
theorem dX3_note_40 : decode cX3_note 40 = .ok (.iload_n 2, 1) := by decide +kernel
theorem dX3_note_41 : decode cX3_note 41 = .ok (.iastore, 1) := by decide +kernel
theorem dX3_note_42 : decode cX3_note 42 = .ok (.aload_n 0, 1) := by decide +kernel
theorem dX3_note_43 : decode cX3_note 43 = .ok (.dup, 1) := by decide +kernel
theorem dX3_note_44 : decode cX3_note 44 = .ok (.getfield 49, 3) := by decide +kernel
theorem dX3_note_47 : decode cX3_note 47 = .ok (.iconst 1, 1) := by decide +kernel
theorem dX3_note_48 : decode cX3_note 48 = .ok (.iadd, 1) := by decide +kernel
theorem dX3_note_49 : decode cX3_note 49 = .ok (.putfield 49, 3) := by decide +kernel
theorem dX3_note_52 : decode cX3_note 52 = .ok (.return_, 1) := by decide +kernel
theorem dX4_init_0 : decode cX4_init 0 = .ok (.aload_n 0, 1) := by decide +kernel
theorem dX4_init_1 : decode cX4_init 1 = .ok (.invokespecial 3, 3) := by decide +kernel
theorem dX4_init_4 : decode cX4_init 4 = .ok (.aload_n 0, 1) := by decide +kernel
theorem dX4_init_5 : decode cX4_init 5 = .ok (.bipush 120, 2) := by decide +kernel
theorem dX4_init_7 : decode cX4_init 7 = .ok (.newarray .int, 2) := by decide +kernel
theorem dX4_init_9 : decode cX4_init 9 = .ok (.putfield 9, 3) := by decide +kernel
theorem dX4_init_12 : decode cX4_init 12 = .ok (.aload_n 0, 1) := by decide +kernel
theorem dX4_init_13 : decode cX4_init 13 = .ok (.iconst 0, 1) := by decide +kernel
theorem dX4_init_14 : decode cX4_init 14 = .ok (.putfield 15, 3) := by decide +kernel
theorem dX4_init_17 : decode cX4_init 17 = .ok (.aload_n 0, 1) := by decide +kernel
theorem dX4_init_18 : decode cX4_init 18 = .ok (.iconst (-1), 1) := by decide +kernel
theorem dX4_init_19 : decode cX4_init 19 = .ok (.putfield 19, 3) := by decide +kernel
theorem dX4_init_22 : decode cX4_init 22 = .ok (.aload_n 0, 1) := by decide +kernel
theorem dX4_init_23 : decode cX4_init 23 = .ok (.iconst 0, 1) := by decide +kernel
theorem dX4_init_24 : decode cX4_init 24 = .ok (.putfield 22, 3) := by decide +kernel
theorem dX4_init_27 : decode cX4_init 27 = .ok (.aload_n 0, 1) := by decide +kernel
theorem dX4_init_28 : decode cX4_init 28 = .ok (.iconst 0, 1) := by decide +kernel
theorem dX4_init_29 : decode cX4_init 29 = .ok (.putfield 25, 3) := by decide +kernel
theorem dX4_init_32 : decode cX4_init 32 = .ok (.aload_n 0, 1) := by decide +kernel
theorem dX4_init_33 : decode cX4_init 33 = .ok (.iconst 0, 1) := by decide +kernel
theorem dX4_init_34 : decode cX4_init 34 = .ok (.putfield 28, 3) := by decide +kernel
theorem dX4_init_37 : decode cX4_init 37 = .ok (.return_, 1) := by decide +kernel
theorem dX4_append_0 : decode cX4_append 0 = .ok (.aload_n 0, 1) := by decide +kernel
theorem dX4_append_1 : decode cX4_append 1 = .ok (.getfield 15, 3) := by decide +kernel
theorem dX4_append_4 : decode cX4_append 4 = .ok (.bipush 120, 2) := by decide +kernel
theorem dX4_append_6 : decode cX4_append 6 = .ok (.if_icmp .lt 5, 3) := by decide +kernel
theorem dX4_append_9 : decode cX4_append 9 = .ok (.iconst 0, 1) := by decide +kernel
theorem dX4_append_10 : decode cX4_append 10 = .ok (.ireturn, 1) := by decide +kernel
theorem dX4_append_11 : decode cX4_append 11 = .ok (.aload_n 0, 1) := by decide +kernel
theorem dX4_append_12 : decode cX4_append 12 = .ok (.getfield 9, 3) := by decide +kernel
theorem dX4_append_15 : decode cX4_append 15 = .ok (.aload_n 0, 1) := by decide +kernel
theorem dX4_append_16 : decode cX4_append 16 = .ok (.getfield 15, 3) := by decide +kernel
theorem dX4_append_19 : decode cX4_append 19 = .ok (.iload_n 1, 1) := by decide +kernel
theorem dX4_append_20 : decode cX4_append 20 = .ok (.iastore, 1) := by decide +kernel
theorem dX4_append_21 : decode cX4_append 21 = .ok (.aload_n 0, 1) := by decide +kernel
theorem dX4_append_22 : decode cX4_append 22 = .ok (.dup, 1) := by decide +kernel
theorem dX4_append_23 : decode cX4_append 23 = .ok (.getfield 15, 3) := by decide +kernel
theorem dX4_append_26 : decode cX4_append 26 = .ok (.iconst 1, 1) := by decide +kernel
theorem dX4_append_27 : decode cX4_append 27 = .ok (.iadd, 1) := by decide +kernel
theorem dX4_append_28 : decode cX4_append 28 = .ok (.putfield 15, 3) := by decide +kernel
theorem dX4_append_31 : decode cX4_append 31 = .ok (.iconst 1, 1) := by decide +kernel
theorem dX4_append_32 : decode cX4_append 32 = .ok (.ireturn, 1) := by decide +kernel
theorem dX4_goToFirst_0 : decode cX4_goToFirst 0 = .ok (.aload_n 0, 1) := by decide +kernel
theorem dX4_goToFirst_1 : decode cX4_goToFirst 1 = .ok (.iconst 0, 1) := by decide +kernel
theorem dX4_goToFirst_2 : decode cX4_goToFirst 2 = .ok (.putfield 28, 3) := by decide +kernel
theorem dX4_goToFirst_5 : decode cX4_goToFirst 5 = .ok (.aload_n 0, 1) := by decide +kernel
theorem dX4_goToFirst_6 : decode cX4_goToFirst 6 = .ok (.invokevirtual 31, 3) := by decide +kernel
theorem dX4_goToFirst_9 : decode cX4_goToFirst 9 = .ok (.return_, 1) := by decide +kernel
theorem dX4_advance_0 : decode cX4_advance 0 = .ok (.aload_n 0, 1) := by decide +kernel
theorem dX4_advance_1 : decode cX4_advance 1 = .ok (.getfield 28, 3) := by decide +kernel
theorem dX4_advance_4 : decode cX4_advance 4 = .ok (.aload_n 0, 1) := by decide +kernel
theorem dX4_advance_5 : decode cX4_advance 5 = .ok (.getfield 15, 3) := by decide +kernel
theorem dX4_advance_8 : decode cX4_advance 8 = .ok (.if_icmp .ge 30, 3) := by decide +kernel
theorem dX4_advance_11 : decode cX4_advance 11 = .ok (.aload_n 0, 1) := by decide +kernel
theorem dX4_advance_12 : decode cX4_advance 12 = .ok (.getfield 9, 3) := by decide +kernel
theorem dX4_advance_15 : decode cX4_advance 15 = .ok (.aload_n 0, 1) := by decide +kernel
theorem dX4_advance_16 : decode cX4_advance 16 = .ok (.getfield 28, 3) := by decide +kernel
theorem dX4_advance_19 : decode cX4_advance 19 = .ok (.iaload, 1) := by decide +kernel
theorem dX4_advance_20 : decode cX4_advance 20 = .ok (.bipush 32, 2) := by decide +kernel
theorem dX4_advance_22 : decode cX4_advance 22 = .ok (.if_icmp .ne 16, 3) := by decide +kernel
theorem dX4_advance_25 : decode cX4_advance 25 = .ok (.aload_n 0, 1) := by decide +kernel
theorem dX4_advance_26 : decode cX4_advance 26 = .ok (.dup, 1) := by decide +kernel
theorem dX4_advance_27 : decode cX4_advance 27 = .ok (.getfield 28, 3) := by decide +kernel
theorem dX4_advance_30 : decode cX4_advance 30 = .ok (.iconst 1, 1) := by decide +kernel
theorem dX4_advance_31 : decode cX4_advance 31 = .ok (.iadd, 1) := by decide +kernel
theorem dX4_advance_32 : decode cX4_advance 32 = .ok (.putfield 28, 3) := by decide +kernel
theorem dX4_advance_35 : decode cX4_advance 35 = .ok (.goto (-35), 3) := by decide +kernel
theorem dX4_advance_38 : decode cX4_advance 38 = .ok (.aload_n 0, 1) := by decide +kernel
theorem dX4_advance_39 : decode cX4_advance 39 = .ok (.aload_n 0, 1) := by decide +kernel
theorem dX4_advance_40 : decode cX4_advance 40 = .ok (.getfield 28, 3) := by decide +kernel
theorem dX4_advance_43 : decode cX4_advance 43 = .ok (.putfield 25, 3) := by decide +kernel
theorem dX4_advance_46 : decode cX4_advance 46 = .ok (.aload_n 0, 1) := by decide +kernel
theorem dX4_advance_47 : decode cX4_advance 47 = .ok (.iconst 0, 1) := by decide +kernel
theorem dX4_advance_48 : decode cX4_advance 48 = .ok (.putfield 22, 3) := by decide +kernel
theorem dX4_advance_51 : decode cX4_advance 51 = .ok (.aload_n 0, 1) := by decide +kernel
theorem dX4_advance_52 : decode cX4_advance 52 = .ok (.getfield 28, 3) := by decide +kernel
theorem dX4_advance_55 : decode cX4_advance 55 = .ok (.aload_n 0, 1) := by decide +kernel
theorem dX4_advance_56 : decode cX4_advance 56 = .ok (.getfield 15, 3) := by decide +kernel
theorem dX4_advance_59 : decode cX4_advance 59 = .ok (.if_icmp .ge 73, 3) := by decide +kernel
theorem dX4_advance_62 : decode cX4_advance 62 = .ok (.aload_n 0, 1) := by decide +kernel
theorem dX4_advance_63 : decode cX4_advance 63 = .ok (.getfield 9, 3) := by decide +kernel
theorem dX4_advance_66 : decode cX4_advance 66 = .ok (.aload_n 0, 1) := by decide +kernel
theorem dX4_advance_67 : decode cX4_advance 67 = .ok (.getfield 28, 3) := by decide +kernel
theorem dX4_advance_70 : decode cX4_advance 70 = .ok (.iaload, 1) := by decide +kernel
theorem dX4_advance_71 : decode cX4_advance 71 = .ok (.bipush 48, 2) := by decide +kernel
theorem dX4_advance_73 : decode cX4_advance 73 = .ok (.if_icmp .lt 59, 3) := by decide +kernel
theorem dX4_advance_76 : decode cX4_advance 76 = .ok (.aload_n 0, 1) := by decide +kernel
theorem dX4_advance_77 : decode cX4_advance 77 = .ok (.getfield 9, 3) := by decide +kernel
theorem dX4_advance_80 : decode cX4_advance 80 = .ok (.aload_n 0, 1) := by decide +kernel
theorem dX4_advance_81 : decode cX4_advance 81 = .ok (.getfield 28, 3) := by decide +kernel
theorem dX4_advance_84 : decode cX4_advance 84 = .ok (.iaload, 1) := by decide +kernel
theorem dX4_advance_85 : decode cX4_advance 85 = .ok (.bipush 57, 2) := by decide +kernel
theorem dX4_advance_87 : decode cX4_advance 87 = .ok (.if_icmp .gt 45, 3) := by decide +kernel
theorem dX4_advance_90 : decode cX4_advance 90 = .ok (.aload_n 0, 1) := by decide +kernel
theorem dX4_advance_91 : decode cX4_advance 91 = .ok (.aload_n 0, 1) := by decide +kernel
theorem dX4_advance_92 : decode cX4_advance 92 = .ok (.getfield 22, 3) := by decide +kernel
theorem dX4_advance_95 : decode cX4_advance 95 = .ok (.bipush 10, 2) := by decide +kernel
theorem dX4_advance_97 : decode cX4_advance 97 = .ok (.imul, 1) := by decide +kernel
theorem dX4_advance_98 : decode cX4_advance 98 = .ok (.aload_n 0, 1) := by decide +kernel
theorem dX4_advance_99 : decode cX4_advance 99 = .ok (.getfield 9, 3) := by decide +kernel
theorem dX4_advance_102 : decode cX4_advance 102 = .ok (.aload_n 0, 1) := by decide +kernel
theorem dX4_advance_103 : decode cX4_advance 103 = .ok (.getfield 28, 3) := by decide +kernel
theorem dX4_advance_106 : decode cX4_advance 106 = .ok (.iaload, 1) := by decide +kernel
theorem dX4_advance_107 : decode cX4_advance 107 = .ok (.iadd, 1) := by decide +kernel
theorem dX4_advance_108 : decode cX4_advance 108 = .ok (.bipush 48, 2) := by decide +kernel
theorem dX4_advance_110 : decode cX4_advance 110 = .ok (.isub, 1) := by decide +kernel
theorem dX4_advance_111 : decode cX4_advance 111 = .ok (.bipush 100, 2) := by decide +kernel
theorem dX4_advance_113 : decode cX4_advance 113 = .ok (.invokestatic 34, 3) := by decide +kernel
theorem dX4_advance_116 : decode cX4_advance 116 = .ok (.putfield 22, 3) := by decide +kernel
theorem dX4_advance_119 : decode cX4_advance 119 = .ok (.aload_n 0, 1) := by decide +kernel
theorem dX4_advance_120 : decode cX4_advance 120 = .ok (.dup, 1) := by decide +kernel
theorem dX4_advance_121 : decode cX4_advance 121 = .ok (.getfield 28, 3) := by decide +kernel
theorem dX4_advance_124 : decode cX4_advance 124 = .ok (.iconst 1, 1) := by decide +kernel
theorem dX4_advance_125 : decode cX4_advance 125 = .ok (.iadd, 1) := by decide +kernel
theorem dX4_advance_126 : decode cX4_advance 126 = .ok (.putfield 28, 3) := by decide +kernel
theorem dX4_advance_129 : decode cX4_advance 129 = .ok (.goto (-78), 3) := by decide +kernel
theorem dX4_advance_132 : decode cX4_advance 132 = .ok (.aload_n 0, 1) := by decide +kernel
theorem dX4_advance_133 : decode cX4_advance 133 = .ok (.getfield 28, 3) := by decide +kernel
theorem dX4_advance_136 : decode cX4_advance 136 = .ok (.aload_n 0, 1) := by decide +kernel
theorem dX4_advance_137 : decode cX4_advance 137 = .ok (.getfield 25, 3) := by decide +kernel
theorem dX4_advance_140 : decode cX4_advance 140 = .ok (.if_icmp .le 63, 3) := by decide +kernel
theorem dX4_advance_143 : decode cX4_advance 143 = .ok (.aload_n 0, 1) := by decide +kernel
theorem dX4_advance_144 : decode cX4_advance 144 = .ok (.getfield 9, 3) := by decide +kernel
theorem dX4_advance_147 : decode cX4_advance 147 = .ok (.aload_n 0, 1) := by decide +kernel
theorem dX4_advance_148 : decode cX4_advance 148 = .ok (.getfield 25, 3) := by decide +kernel
theorem dX4_advance_151 : decode cX4_advance 151 = .ok (.iaload, 1) := by decide +kernel
theorem dX4_advance_152 : decode cX4_advance 152 = .ok (.bipush 48, 2) := by decide +kernel
theorem dX4_advance_154 : decode cX4_advance 154 = .ok (.if_icmp .ne 20, 3) := by decide +kernel
theorem dX4_advance_157 : decode cX4_advance 157 = .ok (.aload_n 0, 1) := by decide +kernel
theorem dX4_advance_158 : decode cX4_advance 158 = .ok (.getfield 28, 3) := by decide +kernel
theorem dX4_advance_161 : decode cX4_advance 161 = .ok (.aload_n 0, 1) := by decide +kernel
theorem dX4_advance_162 : decode cX4_advance 162 = .ok (.getfield 25, 3) := by decide +kernel
theorem dX4_advance_165 : decode cX4_advance 165 = .ok (.isub, 1) := by decide +kernel
theorem dX4_advance_166 : decode cX4_advance 166 = .ok (.iconst 1, 1) := by decide +kernel
theorem dX4_advance_167 : decode cX4_advance 167 = .ok (.if_icmp .le 7, 3) := by decide +kernel
theorem dX4_advance_170 : decode cX4_advance 170 = .ok (.iconst 1, 1) := by decide +kernel
theorem dX4_advance_171 : decode cX4_advance 171 = .ok (.goto 4, 3) := by decide +kernel
theorem dX4_advance_174 : decode cX4_advance 174 = .ok (.iconst 0, 1) := by decide +kernel
theorem dX4_advance_175 : decode cX4_advance 175 = .ok (.istore_n 1, 1) := by decide +kernel
theorem dX4_advance_176 : decode cX4_advance 176 = .ok (.aload_n 0, 1) := by decide +kernel
theorem dX4_advance_177 : decode cX4_advance 177 = .ok (.iload_n 1, 1) := by decide +kernel
theorem dX4_advance_178 : decode cX4_advance 178 = .ok (.ifCond .ne 12, 3) := by decide +kernel
theorem dX4_advance_181 : decode cX4_advance 181 = .ok (.aload_n 0, 1) := by decide +kernel
theorem dX4_advance_182 : decode cX4_advance 182 = .ok (.getfield 22, 3) := by decide +kernel
theorem dX4_advance_185 : decode cX4_advance 185 = .ok (.bipush 100, 2) := by decide +kernel
theorem dX4_advance_187 : decode cX4_advance 187 = .ok (.if_icmp .lt 8, 3) := by decide +kernel
theorem dX4_advance_190 : decode cX4_advance 190 = .ok (.bipush (-3), 2) := by decide +kernel
theorem dX4_advance_192 : decode cX4_advance 192 = .ok (.goto 5, 3) := by decide +kernel
theorem dX4_advance_195 : decode cX4_advance 195 = .ok (.bipush (-2), 2) := by decide +kernel
theorem dX4_advance_197 : decode cX4_advance 197 = .ok (.putfield 19, 3) := by decide +kernel
theorem dX4_advance_200 : decode cX4_advance 200 = .ok (.goto 45, 3) := by decide +kernel
theorem dX4_advance_203 : decode cX4_advance 203 = .ok (.aload_n 0, 1) := by decide +kernel
theorem dX4_advance_204 : decode cX4_advance 204 = .ok (.getfield 28, 3) := by decide +kernel
theorem dX4_advance_207 : decode cX4_advance 207 = .ok (.aload_n 0, 1) := by decide +kernel
theorem dX4_advance_208 : decode cX4_advance 208 = .ok (.getfield 15, 3) := by decide +kernel
theorem dX4_advance_211 : decode cX4_advance 211 = .ok (.if_icmp .lt 11, 3) := by decide +kernel
theorem dX4_advance_214 : decode cX4_advance 214 = .ok (.aload_n 0, 1) := by decide +kernel
theorem dX4_advance_215 : decode cX4_advance 215 = .ok (.iconst (-1), 1) := by decide +kernel
theorem dX4_advance_216 : decode cX4_advance 216 = .ok (.putfield 19, 3) := by decide +kernel
theorem dX4_advance_219 : decode cX4_advance 219 = .ok (.goto 26, 3) := by decide +kernel
theorem dX4_advance_222 : decode cX4_advance 222 = .ok (.aload_n 0, 1) := by decide +kernel
theorem dX4_advance_223 : decode cX4_advance 223 = .ok (.aload_n 0, 1) := by decide +kernel
theorem dX4_advance_224 : decode cX4_advance 224 = .ok (.getfield 9, 3) := by decide +kernel
theorem dX4_advance_227 : decode cX4_advance 227 = .ok (.aload_n 0, 1) := by decide +kernel
theorem dX4_advance_228 : decode cX4_advance 228 = .ok (.getfield 28, 3) := by decide +kernel
theorem dX4_advance_231 : decode cX4_advance 231 = .ok (.iaload, 1) := by decide +kernel
theorem dX4_advance_232 : decode cX4_advance 232 = .ok (.putfield 19, 3) := by decide +kernel
theorem dX4_advance_235 : decode cX4_advance 235 = .ok (.aload_n 0, 1) := by decide +kernel
theorem dX4_advance_236 : decode cX4_advance 236 = .ok (.dup, 1) := by decide +kernel
theorem dX4_advance_237 : decode cX4_advance 237 = .ok (.getfield 28, 3) := by decide +kernel
theorem dX4_advance_240 : decode cX4_advance 240 = .ok (.iconst 1, 1) := by decide +kernel
theorem dX4_advance_241 : decode cX4_advance 241 = .ok (.iadd, 1) := by decide +kernel
theorem dX4_advance_242 : decode cX4_advance 242 = .ok (.putfield 28, 3) := by decide +kernel
theorem dX4_advance_245 : decode cX4_advance 245 = .ok (.return_, 1) := by decide +kernel
theorem dX4_isNumberWithin_0 : decode cX4_isNumberWithin 0 = .ok (.aload_n 0, 1) := by decide +kernel
theorem dX4_isNumberWithin_1 : decode cX4_isNumberWithin 1 = .ok (.getfield 19, 3) := by decide +kernel
theorem dX4_isNumberWithin_4 : decode cX4_isNumberWithin 4 = .ok (.bipush (-2), 2) := by decide +kernel
theorem dX4_isNumberWithin_6 : decode cX4_isNumberWithin 6 = .ok (.if_icmp .ne 23, 3) := by decide +kernel
theorem dX4_isNumberWithin_9 : decode cX4_isNumberWithin 9 = .ok (.aload_n 0, 1) := by decide +kernel
theorem dX4_isNumberWithin_10 : decode cX4_isNumberWithin 10 = .ok (.getfield 22, 3) := by decide +kernel
theorem dX4_isNumberWithin_13 : decode cX4_isNumberWithin 13 = .ok (.iload_n 1, 1) := by decide +kernel
theorem dX4_isNumberWithin_14 : decode cX4_isNumberWithin 14 = .ok (.if_icmp .lt 15, 3) := by decide +kernel
theorem dX4_isNumberWithin_17 : decode cX4_isNumberWithin 17 = .ok (.aload_n 0, 1) := by decide +kernel
theorem dX4_isNumberWithin_18 : decode cX4_isNumberWithin 18 = .ok (.getfield 22, 3) := by decide +kernel
theorem dX4_isNumberWithin_21 : decode cX4_isNumberWithin 21 = .ok (.iload_n 2, 1) := by decide +kernel
theorem dX4_isNumberWithin_22 : decode cX4_isNumberWithin 22 = .ok (.if_icmp .gt 7, 3) := by decide +kernel
theorem dX4_isNumberWithin_25 : decode cX4_isNumberWithin 25 = .ok (.iconst 1, 1) := by decide +kernel
theorem dX4_isNumberWithin_26 : decode cX4_isNumberWithin 26 = .ok (.goto 4, 3) := by decide +kernel
theorem dX4_isNumberWithin_29 : decode cX4_isNumberWithin 29 = .ok (.iconst 0, 1) := by decide +kernel
theorem dX4_isNumberWithin_30 : decode cX4_isNumberWithin 30 = .ok (.ireturn, 1) := by decide +kernel
theorem dX5_init_0 : decode cX5_init 0 = .ok (.aload_n 0, 1) := by decide +kernel
theorem dX5_init_1 : decode cX5_init 1 = .ok (.invokespecial 1, 3) := by decide +kernel
theorem dX5_init_4 : decode cX5_init 4 = .ok (.aload_n 0, 1) := by decide +kernel
theorem dX5_init_5 : decode cX5_init 5 = .ok (.new 7, 3) := by decide +kernel
theorem dX5_init_8 : decode cX5_init 8 = .ok (.dup, 1) := by decide +kernel
theorem dX5_init_9 : decode cX5_init 9 = .ok (.invokespecial 9, 3) := by decide +kernel
theorem dX5_init_12 : decode cX5_init 12 = .ok (.putfield 10, 3) := by decide +kernel
theorem dX5_init_15 : decode cX5_init 15 = .ok (.aload_n 0, 1) := by decide +kernel
theorem dX5_init_16 : decode cX5_init 16 = .ok (.new 16, 3) := by decide +kernel
theorem dX5_init_19 : decode cX5_init 19 = .ok (.dup, 1) := by decide +kernel
theorem dX5_init_20 : decode cX5_init 20 = .ok (.invokespecial 18, 3) := by decide +kernel
theorem dX5_init_23 : decode cX5_init 23 = .ok (.putfield 19, 3) := by decide +kernel
theorem dX5_init_26 : decode cX5_init 26 = .ok (.aload_n 0, 1) := by decide +kernel
theorem dX5_init_27 : decode cX5_init 27 = .ok (.new 16, 3) := by decide +kernel
theorem dX5_init_30 : decode cX5_init 30 = .ok (.dup, 1) := by decide +kernel
theorem dX5_init_31 : decode cX5_init 31 = .ok (.invokespecial 18, 3) := by decide +kernel
theorem dX5_init_34 : decode cX5_init 34 = .ok (.putfield 23, 3) := by decide +kernel
theorem dX5_init_37 : decode cX5_init 37 = .ok (.aload_n 0, 1) := by decide +kernel
theorem dX5_init_38 : decode cX5_init 38 = .ok (.new 16, 3) := by decide +kernel
theorem dX5_init_41 : decode cX5_init 41 = .ok (.dup, 1) := by decide +kernel
theorem dX5_init_42 : decode cX5_init 42 = .ok (.invokespecial 18, 3) := by decide +kernel
theorem dX5_init_45 : decode cX5_init 45 = .ok (.putfield 26, 3) := by decide +kernel
theorem dX5_init_48 : decode cX5_init 48 = .ok (.aload_n 0, 1) := by decide +kernel
theorem dX5_init_49 : decode cX5_init 49 = .ok (.new 29, 3) := by decide +kernel
theorem dX5_init_52 : decode cX5_init 52 = .ok (.dup, 1) := by decide +kernel
theorem dX5_init_53 : decode cX5_init 53 = .ok (.aload_n 0, 1) := by decide +kernel
theorem dX5_init_54 : decode cX5_init 54 = .ok (.getfield 10, 3) := by decide +kernel
theorem dX5_init_57 : decode cX5_init 57 = .ok (.aload_n 0, 1) := by decide +kernel
theorem dX5_init_58 : decode cX5_init 58 = .ok (.getfield 23, 3) := by decide +kernel
theorem dX5_init_61 : decode cX5_init 61 = .ok (.invokespecial 31, 3) := by decide +kernel
theorem dX5_init_64 : decode cX5_init 64 = .ok (.putfield 34, 3) := by decide +kernel
theorem dX5_init_67 : decode cX5_init 67 = .ok (.aload_n 0, 1) := by decide +kernel
theorem dX5_init_68 : decode cX5_init 68 = .ok (.new 38, 3) := by decide +kernel
theorem dX5_init_71 : decode cX5_init 71 = .ok (.dup, 1) := by decide +kernel
theorem dX5_init_72 : decode cX5_init 72 = .ok (.aload_n 0, 1) := by decide +kernel
theorem dX5_init_73 : decode cX5_init 73 = .ok (.getfield 19, 3) := by decide +kernel
theorem dX5_init_76 : decode cX5_init 76 = .ok (.invokespecial 40, 3) := by decide +kernel
theorem dX5_init_79 : decode cX5_init 79 = .ok (.putfield 43, 3) := by decide +kernel
theorem dX5_init_82 : decode cX5_init 82 = .ok (.aload_n 0, 1) := by decide +kernel
theorem dX5_init_83 : decode cX5_init 83 = .ok (.new 38, 3) := by decide +kernel
theorem dX5_init_86 : decode cX5_init 86 = .ok (.dup, 1) := by decide +kernel
theorem dX5_init_87 : decode cX5_init 87 = .ok (.aload_n 0, 1) := by decide +kernel
theorem dX5_init_88 : decode cX5_init 88 = .ok (.getfield 19, 3) := by decide +kernel
theorem dX5_init_91 : decode cX5_init 91 = .ok (.invokespecial 40, 3) := by decide +kernel
theorem dX5_init_94 : decode cX5_init 94 = .ok (.putfield 47, 3) := by decide +kernel
theorem dX5_init_97 : decode cX5_init 97 = .ok (.aload_n 0, 1) := by decide +kernel
theorem dX5_init_98 : decode cX5_init 98 = .ok (.new 50, 3) := by decide +kernel
theorem dX5_init_101 : decode cX5_init 101 = .ok (.dup, 1) := by decide +kernel
theorem dX5_init_102 : decode cX5_init 102 = .ok (.aload_n 0, 1) := by decide +kernel
theorem dX5_init_103 : decode cX5_init 103 = .ok (.getfield 19, 3) := by decide +kernel
theorem dX5_init_106 : decode cX5_init 106 = .ok (.invokespecial 52, 3) := by decide +kernel
theorem dX5_init_109 : decode cX5_init 109 = .ok (.putfield 53, 3) := by decide +kernel
theorem dX5_init_112 : decode cX5_init 112 = .ok (.aload_n 0, 1) := by decide +kernel
theorem dX5_init_113 : decode cX5_init 113 = .ok (.iconst 2, 1) := by decide +kernel
theorem dX5_init_114 : decode cX5_init 114 = .ok (.anewarray 38, 3) := by decide +kernel
theorem dX5_init_117 : decode cX5_init 117 = .ok (.putfield 57, 3) := by decide +kernel
theorem dX5_init_120 : decode cX5_init 120 = .ok (.aload_n 0, 1) := by decide +kernel
theorem dX5_init_121 : decode cX5_init 121 = .ok (.iconst 2, 1) := by decide +kernel
theorem dX5_init_122 : decode cX5_init 122 = .ok (.newarray .boolean, 2) := by decide +kernel
theorem dX5_init_124 : decode cX5_init 124 = .ok (.putfield 61, 3) := by decide +kernel
theorem dX5_init_127 : decode cX5_init 127 = .ok (.aload_n 0, 1) := by decide +kernel
theorem dX5_init_128 : decode cX5_init 128 = .ok (.bipush 6, 2) := by decide +kernel
theorem dX5_init_130 : decode cX5_init 130 = .ok (.newarray .int, 2) := by decide +kernel
theorem dX5_init_132 : decode cX5_init 132 = .ok (.putfield 65, 3) := by decide +kernel
theorem dX5_init_135 : decode cX5_init 135 = .ok (.aload_n 0, 1) := by decide +kernel
theorem dX5_init_136 : decode cX5_init 136 = .ok (.bipush 6, 2) := by decide +kernel
theorem dX5_init_138 : decode cX5_init 138 = .ok (.newarray .int, 2) := by decide +kernel
theorem dX5_init_140 : decode cX5_init 140 = .ok (.putfield 69, 3) := by decide +kernel
theorem dX5_init_143 : decode cX5_init 143 = .ok (.aload_n 0, 1) := by decide +kernel
theorem dX5_init_144 : decode cX5_init 144 = .ok (.bipush 6, 2) := by decide +kernel
theorem dX5_init_146 : decode cX5_init 146 = .ok (.newarray .int, 2) := by decide +kernel
theorem dX5_init_148 : decode cX5_init 148 = .ok (.putfield 72, 3) := by decide +kernel
theorem dX5_init_151 : decode cX5_init 151 = .ok (.aload_n 0, 1) := by decide +kernel
theorem dX5_init_152 : decode cX5_init 152 = .ok (.iconst 0, 1) := by decide +kernel
theorem dX5_init_153 : decode cX5_init 153 = .ok (.putfield 75, 3) := by decide +kernel
theorem dX5_init_156 : decode cX5_init 156 = .ok (.iconst 0, 1) := by decide +kernel
theorem dX5_init_157 : decode cX5_init 157 = .ok (.istore_n 1, 1) := by decide +kernel
theorem dX5_init_158 : decode cX5_init 158 = .ok (.iload_n 1, 1) := by decide +kernel
theorem dX5_init_159 : decode cX5_init 159 = .ok (.iconst 2, 1) := by decide +kernel
theorem dX5_init_160 : decode cX5_init 160 = .ok (.if_icmp .ge 26, 3) := by decide +kernel
theorem dX5_init_163 : decode cX5_init 163 = .ok (.aload_n 0, 1) := by decide +kernel
theorem dX5_init_164 : decode cX5_init 164 = .ok (.getfield 57, 3) := by decide +kernel
theorem dX5_init_167 : decode cX5_init 167 = .ok (.iload_n 1, 1) := by decide +kernel
theorem dX5_init_168 : decode cX5_init 168 = .ok (.new 38, 3) := by decide +kernel
theorem dX5_init_171 : decode cX5_init 171 = .ok (.dup, 1) := by decide +kernel
theorem dX5_init_172 : decode cX5_init 172 = .ok (.aload_n 0, 1) := by decide +kernel
theorem dX5_init_173 : decode cX5_init 173 = .ok (.getfield 19, 3) := by decide +kernel
theorem dX5_init_176 : decode cX5_init 176 = .ok (.invokespecial 40, 3) := by decide +kernel
theorem dX5_init_179 : decode cX5_init 179 = .ok (.aastore, 1) := by decide +kernel
theorem dX5_init_180 : decode cX5_init 180 = .ok (.iinc 1 1, 3) := by decide +kernel
theorem dX5_init_183 : decode cX5_init 183 = .ok (.goto (-25), 3) := by decide +kernel
theorem dX5_init_186 : decode cX5_init 186 = .ok (.return_, 1) := by decide +kernel
theorem dX5_type_0 : decode cX5_type 0 = .ok (.iload_n 1, 1) := by decide +kernel
theorem dX5_type_1 : decode cX5_type 1 = .ok (.ifCond .lt 10, 3) := by decide +kernel
theorem dX5_type_4 : decode cX5_type 4 = .ok (.iload_n 1, 1) := by decide +kernel
theorem dX5_type_5 : decode cX5_type 5 = .ok (.sipush 255, 3) := by decide +kernel
theorem dX5_type_8 : decode cX5_type 8 = .ok (.if_icmp .le 5, 3) := by decide +kernel
theorem dX5_type_11 : decode cX5_type 11 = .ok (.iconst (-1), 1) := by decide +kernel
theorem dX5_type_12 : decode cX5_type 12 = .ok (.ireturn, 1) := by decide +kernel
theorem dX5_type_13 : decode cX5_type 13 = .ok (.aload_n 0, 1) := by decide +kernel
theorem dX5_type_14 : decode cX5_type 14 = .ok (.getfield 10, 3) := by decide +kernel
theorem dX5_type_17 : decode cX5_type 17 = .ok (.iload_n 1, 1) := by decide +kernel
theorem dX5_type_18 : decode cX5_type 18 = .ok (.invokevirtual 79, 3) := by decide +kernel
theorem dX5_type_21 : decode cX5_type 21 = .ok (.ifCond .eq 13, 3) := by decide +kernel
theorem dX5_type_24 : decode cX5_type 24 = .ok (.aload_n 0, 1) := by decide +kernel
theorem dX5_type_25 : decode cX5_type 25 = .ok (.getfield 10, 3) := by decide +kernel
theorem dX5_type_28 : decode cX5_type 28 = .ok (.getfield 83, 3) := by decide +kernel
theorem dX5_type_31 : decode cX5_type 31 = .ok (.goto 5, 3) := by decide +kernel
theorem dX5_type_34 : decode cX5_type 34 = .ok (.bipush (-3), 2) := by decide +kernel
theorem dX5_type_36 : decode cX5_type 36 = .ok (.ireturn, 1) := by decide +kernel
theorem dX5_clear_0 : decode cX5_clear 0 = .ok (.aload_n 0, 1) := by decide +kernel
theorem dX5_clear_1 : decode cX5_clear 1 = .ok (.getfield 10, 3) := by decide +kernel
theorem dX5_clear_4 : decode cX5_clear 4 = .ok (.getfield 83, 3) := by decide +kernel
theorem dX5_clear_7 : decode cX5_clear 7 = .ok (.istore_n 1, 1) := by decide +kernel
theorem dX5_clear_8 : decode cX5_clear 8 = .ok (.aload_n 0, 1) := by decide +kernel
theorem dX5_clear_9 : decode cX5_clear 9 = .ok (.getfield 10, 3) := by decide +kernel
theorem dX5_clear_12 : decode cX5_clear 12 = .ok (.iconst 0, 1) := by decide +kernel
theorem dX5_clear_13 : decode cX5_clear 13 = .ok (.putfield 83, 3) := by decide +kernel
theorem dX5_clear_16 : decode cX5_clear 16 = .ok (.iload_n 1, 1) := by decide +kernel
theorem dX5_clear_17 : decode cX5_clear 17 = .ok (.ireturn, 1) := by decide +kernel
theorem dX5_tree_0 : decode cX5_tree 0 = .ok (.aload_n 0, 1) := by decide +kernel
theorem dX5_tree_1 : decode cX5_tree 1 = .ok (.getfield 34, 3) := by decide +kernel
theorem dX5_tree_4 : decode cX5_tree 4 = .ok (.invokevirtual 86, 3) := by decide +kernel
theorem dX5_tree_7 : decode cX5_tree 7 = .ok (.ifCond .ne 14, 3) := by decide +kernel
theorem dX5_tree_10 : decode cX5_tree 10 = .ok (.bipush (-10), 2) := by decide +kernel
theorem dX5_tree_12 : decode cX5_tree 12 = .ok (.aload_n 0, 1) := by decide +kernel
theorem dX5_tree_13 : decode cX5_tree 13 = .ok (.getfield 10, 3) := by decide +kernel
theorem dX5_tree_16 : decode cX5_tree 16 = .ok (.getfield 90, 3) := by decide +kernel
theorem dX5_tree_19 : decode cX5_tree 19 = .ok (.isub, 1) := by decide +kernel
theorem dX5_tree_20 : decode cX5_tree 20 = .ok (.ireturn, 1) := by decide +kernel
theorem dX5_tree_21 : decode cX5_tree 21 = .ok (.aload_n 0, 1) := by decide +kernel
theorem dX5_tree_22 : decode cX5_tree 22 = .ok (.getfield 19, 3) := by decide +kernel
theorem dX5_tree_25 : decode cX5_tree 25 = .ok (.aload_n 0, 1) := by decide +kernel
theorem dX5_tree_26 : decode cX5_tree 26 = .ok (.getfield 23, 3) := by decide +kernel
theorem dX5_tree_29 : decode cX5_tree 29 = .ok (.invokevirtual 93, 3) := by decide +kernel
theorem dX5_tree_32 : decode cX5_tree 32 = .ok (.aload_n 0, 1) := by decide +kernel
theorem dX5_tree_33 : decode cX5_tree 33 = .ok (.getfield 10, 3) := by decide +kernel
theorem dX5_tree_36 : decode cX5_tree 36 = .ok (.iconst 0, 1) := by decide +kernel
theorem dX5_tree_37 : decode cX5_tree 37 = .ok (.putfield 83, 3) := by decide +kernel
theorem dX5_tree_40 : decode cX5_tree 40 = .ok (.aload_n 0, 1) := by decide +kernel
theorem dX5_tree_41 : decode cX5_tree 41 = .ok (.getfield 43, 3) := by decide +kernel
theorem dX5_tree_44 : decode cX5_tree 44 = .ok (.aload_n 0, 1) := by decide +kernel
theorem dX5_tree_45 : decode cX5_tree 45 = .ok (.getfield 19, 3) := by decide +kernel
theorem dX5_tree_48 : decode cX5_tree 48 = .ok (.invokevirtual 96, 3) := by decide +kernel
theorem dX5_tree_51 : decode cX5_tree 51 = .ok (.aload_n 0, 1) := by decide +kernel
theorem dX5_tree_52 : decode cX5_tree 52 = .ok (.getfield 53, 3) := by decide +kernel
theorem dX5_tree_55 : decode cX5_tree 55 = .ok (.iconst 0, 1) := by decide +kernel
theorem dX5_tree_56 : decode cX5_tree 56 = .ok (.putfield 99, 3) := by decide +kernel
theorem dX5_tree_59 : decode cX5_tree 59 = .ok (.aload_n 0, 1) := by decide +kernel
theorem dX5_tree_60 : decode cX5_tree 60 = .ok (.iconst 0, 1) := by decide +kernel
theorem dX5_tree_61 : decode cX5_tree 61 = .ok (.putfield 75, 3) := by decide +kernel
theorem dX5_tree_64 : decode cX5_tree 64 = .ok (.iconst 0, 1) := by decide +kernel
theorem dX5_tree_65 : decode cX5_tree 65 = .ok (.istore_n 1, 1) := by decide +kernel
theorem dX5_tree_66 : decode cX5_tree 66 = .ok (.iload_n 1, 1) := by decide +kernel
theorem dX5_tree_67 : decode cX5_tree 67 = .ok (.iconst 2, 1) := by decide +kernel
theorem dX5_tree_68 : decode cX5_tree 68 = .ok (.if_icmp .ge 16, 3) := by decide +kernel
theorem dX5_tree_71 : decode cX5_tree 71 = .ok (.aload_n 0, 1) := by decide +kernel
theorem dX5_tree_72 : decode cX5_tree 72 = .ok (.getfield 61, 3) := by decide +kernel
theorem dX5_tree_75 : decode cX5_tree 75 = .ok (.iload_n 1, 1) := by decide +kernel
theorem dX5_tree_76 : decode cX5_tree 76 = .ok (.iconst 0, 1) := by decide +kernel
theorem dX5_tree_77 : decode cX5_tree 77 = .ok (.bastore, 1) := by decide +kernel
theorem dX5_tree_78 : decode cX5_tree 78 = .ok (.iinc 1 1, 3) := by decide +kernel
theorem dX5_tree_81 : decode cX5_tree 81 = .ok (.goto (-15), 3) := by decide +kernel
theorem dX5_tree_84 : decode cX5_tree 84 = .ok (.aload_n 0, 1) := by decide +kernel
theorem dX5_tree_85 : decode cX5_tree 85 = .ok (.getfield 34, 3) := by decide +kernel
theorem dX5_tree_88 : decode cX5_tree 88 = .ok (.getfield 102, 3) := by decide +kernel
theorem dX5_tree_91 : decode cX5_tree 91 = .ok (.ireturn, 1) := by decide +kernel
theorem dX5_ticks_0 : decode cX5_ticks 0 = .ok (.iload_n 1, 1) := by decide +kernel
theorem dX5_ticks_1 : decode cX5_ticks 1 = .ok (.iconst 1, 1) := by decide +kernel
theorem dX5_ticks_2 : decode cX5_ticks 2 = .ok (.if_icmp .lt 9, 3) := by decide +kernel
theorem dX5_ticks_5 : decode cX5_ticks 5 = .ok (.iload_n 1, 1) := by decide +kernel
theorem dX5_ticks_6 : decode cX5_ticks 6 = .ok (.bipush 12, 2) := by decide +kernel
theorem dX5_ticks_8 : decode cX5_ticks 8 = .ok (.if_icmp .le 5, 3) := by decide +kernel
theorem dX5_ticks_11 : decode cX5_ticks 11 = .ok (.iconst (-1), 1) := by decide +kernel
theorem dX5_ticks_12 : decode cX5_ticks 12 = .ok (.ireturn, 1) := by decide +kernel
theorem dX5_ticks_13 : decode cX5_ticks 13 = .ok (.aload_n 0, 1) := by decide +kernel
theorem dX5_ticks_14 : decode cX5_ticks 14 = .ok (.getfield 43, 3) := by decide +kernel
theorem dX5_ticks_17 : decode cX5_ticks 17 = .ok (.getfield 105, 3) := by decide +kernel
theorem dX5_ticks_20 : decode cX5_ticks 20 = .ok (.iconst 0, 1) := by decide +kernel
theorem dX5_ticks_21 : decode cX5_ticks 21 = .ok (.iaload, 1) := by decide +kernel
theorem dX5_ticks_22 : decode cX5_ticks 22 = .ok (.iconst 3, 1) := by decide +kernel
theorem dX5_ticks_23 : decode cX5_ticks 23 = .ok (.if_icmp .ne 6, 3) := by decide +kernel
theorem dX5_ticks_26 : decode cX5_ticks 26 = .ok (.bipush (-2), 2) := by decide +kernel
theorem dX5_ticks_28 : decode cX5_ticks 28 = .ok (.ireturn, 1) := by decide +kernel
theorem dX5_ticks_29 : decode cX5_ticks 29 = .ok (.aload_n 0, 1) := by decide +kernel
theorem dX5_ticks_30 : decode cX5_ticks 30 = .ok (.getfield 43, 3) := by decide +kernel
theorem dX5_ticks_33 : decode cX5_ticks 33 = .ok (.getfield 108, 3) := by decide +kernel
theorem dX5_ticks_36 : decode cX5_ticks 36 = .ok (.iload_n 1, 1) := by decide +kernel
theorem dX5_ticks_37 : decode cX5_ticks 37 = .ok (.iadd, 1) := by decide +kernel
theorem dX5_ticks_38 : decode cX5_ticks 38 = .ok (.sipush 999, 3) := by decide +kernel
theorem dX5_ticks_41 : decode cX5_ticks 41 = .ok (.if_icmp .le 6, 3) := by decide +kernel
theorem dX5_ticks_44 : decode cX5_ticks 44 = .ok (.bipush (-3), 2) := by decide +kernel
theorem dX5_ticks_46 : decode cX5_ticks 46 = .ok (.ireturn, 1) := by decide +kernel
theorem dX5_ticks_47 : decode cX5_ticks 47 = .ok (.iconst 0, 1) := by decide +kernel
theorem dX5_ticks_48 : decode cX5_ticks 48 = .ok (.istore_n 2, 1) := by decide +kernel
theorem dX5_ticks_49 : decode cX5_ticks 49 = .ok (.iload_n 2, 1) := by decide +kernel
theorem dX5_ticks_50 : decode cX5_ticks 50 = .ok (.iload_n 1, 1) := by decide +kernel
theorem dX5_ticks_51 : decode cX5_ticks 51 = .ok (.if_icmp .ge 40, 3) := by decide +kernel
theorem dX5_ticks_54 : decode cX5_ticks 54 = .ok (.aload_n 0, 1) := by decide +kernel
theorem dX5_ticks_55 : decode cX5_ticks 55 = .ok (.getfield 43, 3) := by decide +kernel
theorem dX5_ticks_58 : decode cX5_ticks 58 = .ok (.getfield 105, 3) := by decide +kernel
theorem dX5_ticks_61 : decode cX5_ticks 61 = .ok (.iconst 0, 1) := by decide +kernel
theorem dX5_ticks_62 : decode cX5_ticks 62 = .ok (.iaload, 1) := by decide +kernel
theorem dX5_ticks_63 : decode cX5_ticks 63 = .ok (.iconst 3, 1) := by decide +kernel
theorem dX5_ticks_64 : decode cX5_ticks 64 = .ok (.if_icmp .eq 27, 3) := by decide +kernel
theorem dX5_ticks_67 : decode cX5_ticks 67 = .ok (.aload_n 0, 1) := by decide +kernel
theorem dX5_ticks_68 : decode cX5_ticks 68 = .ok (.getfield 53, 3) := by decide +kernel
theorem dX5_ticks_71 : decode cX5_ticks 71 = .ok (.aload_n 0, 1) := by decide +kernel
theorem dX5_ticks_72 : decode cX5_ticks 72 = .ok (.getfield 43, 3) := by decide +kernel
theorem dX5_ticks_75 : decode cX5_ticks 75 = .ok (.invokevirtual 111, 3) := by decide +kernel
theorem dX5_ticks_78 : decode cX5_ticks 78 = .ok (.aload_n 0, 1) := by decide +kernel
theorem dX5_ticks_79 : decode cX5_ticks 79 = .ok (.getfield 43, 3) := by decide +kernel
theorem dX5_ticks_82 : decode cX5_ticks 82 = .ok (.invokevirtual 115, 3) := by decide +kernel
theorem dX5_ticks_85 : decode cX5_ticks 85 = .ok (.iinc 2 1, 3) := by decide +kernel
theorem dX5_ticks_88 : decode cX5_ticks 88 = .ok (.goto (-39), 3) := by decide +kernel
theorem dX5_ticks_91 : decode cX5_ticks 91 = .ok (.aload_n 0, 1) := by decide +kernel
theorem dX5_ticks_92 : decode cX5_ticks 92 = .ok (.getfield 43, 3) := by decide +kernel
theorem dX5_ticks_95 : decode cX5_ticks 95 = .ok (.getfield 108, 3) := by decide +kernel
theorem dX5_ticks_98 : decode cX5_ticks 98 = .ok (.ireturn, 1) := by decide +kernel
theorem dX5_asks_0 : decode cX5_asks 0 = .ok (.aload_n 0, 1) := by decide +kernel
theorem dX5_asks_1 : decode cX5_asks 1 = .ok (.iload_n 1, 1) := by decide +kernel
theorem dX5_asks_2 : decode cX5_asks 2 = .ok (.invokevirtual 118, 3) := by decide +kernel
theorem dX5_asks_5 : decode cX5_asks 5 = .ok (.ifCond .ne 5, 3) := by decide +kernel
theorem dX5_asks_8 : decode cX5_asks 8 = .ok (.iconst (-1), 1) := by decide +kernel
theorem dX5_asks_9 : decode cX5_asks 9 = .ok (.ireturn, 1) := by decide +kernel
theorem dX5_asks_10 : decode cX5_asks 10 = .ok (.aload_n 0, 1) := by decide +kernel
theorem dX5_asks_11 : decode cX5_asks 11 = .ok (.getfield 43, 3) := by decide +kernel
theorem dX5_asks_14 : decode cX5_asks 14 = .ok (.getfield 105, 3) := by decide +kernel
theorem dX5_asks_17 : decode cX5_asks 17 = .ok (.iload_n 1, 1) := by decide +kernel
theorem dX5_asks_18 : decode cX5_asks 18 = .ok (.iaload, 1) := by decide +kernel
theorem dX5_asks_19 : decode cX5_asks 19 = .ok (.iconst 1, 1) := by decide +kernel
theorem dX5_asks_20 : decode cX5_asks 20 = .ok (.if_icmp .ne 16, 3) := by decide +kernel
theorem dX5_asks_23 : decode cX5_asks 23 = .ok (.aload_n 0, 1) := by decide +kernel
theorem dX5_asks_24 : decode cX5_asks 24 = .ok (.getfield 43, 3) := by decide +kernel
theorem dX5_asks_27 : decode cX5_asks 27 = .ok (.getfield 121, 3) := by decide +kernel
theorem dX5_asks_30 : decode cX5_asks 30 = .ok (.iload_n 1, 1) := by decide +kernel
theorem dX5_asks_31 : decode cX5_asks 31 = .ok (.iaload, 1) := by decide +kernel
theorem dX5_asks_32 : decode cX5_asks 32 = .ok (.iconst 1, 1) := by decide +kernel
theorem dX5_asks_33 : decode cX5_asks 33 = .ok (.if_icmp .ne 6, 3) := by decide +kernel
theorem dX5_asks_36 : decode cX5_asks 36 = .ok (.bipush (-2), 2) := by decide +kernel
theorem dX5_asks_38 : decode cX5_asks 38 = .ok (.ireturn, 1) := by decide +kernel
theorem dX5_asks_39 : decode cX5_asks 39 = .ok (.aload_n 0, 1) := by decide +kernel
theorem dX5_asks_40 : decode cX5_asks 40 = .ok (.getfield 53, 3) := by decide +kernel
theorem dX5_asks_43 : decode cX5_asks 43 = .ok (.aload_n 0, 1) := by decide +kernel
theorem dX5_asks_44 : decode cX5_asks 44 = .ok (.getfield 43, 3) := by decide +kernel
theorem dX5_asks_47 : decode cX5_asks 47 = .ok (.invokevirtual 111, 3) := by decide +kernel
theorem dX5_asks_50 : decode cX5_asks 50 = .ok (.aload_n 0, 1) := by decide +kernel
theorem dX5_asks_51 : decode cX5_asks 51 = .ok (.getfield 43, 3) := by decide +kernel
theorem dX5_asks_54 : decode cX5_asks 54 = .ok (.getfield 121, 3) := by decide +kernel
theorem dX5_asks_57 : decode cX5_asks 57 = .ok (.iload_n 1, 1) := by decide +kernel
theorem dX5_asks_58 : decode cX5_asks 58 = .ok (.iconst 1, 1) := by decide +kernel
theorem dX5_asks_59 : decode cX5_asks 59 = .ok (.iastore, 1) := by decide +kernel
theorem dX5_asks_60 : decode cX5_asks 60 = .ok (.aload_n 0, 1) := by decide +kernel
theorem dX5_asks_61 : decode cX5_asks 61 = .ok (.getfield 43, 3) := by decide +kernel
theorem dX5_asks_64 : decode cX5_asks 64 = .ok (.getfield 124, 3) := by decide +kernel
theorem dX5_asks_67 : decode cX5_asks 67 = .ok (.iload_n 1, 1) := by decide +kernel
theorem dX5_asks_68 : decode cX5_asks 68 = .ok (.iaload, 1) := by decide +kernel
theorem dX5_asks_69 : decode cX5_asks 69 = .ok (.ireturn, 1) := by decide +kernel
theorem dX5_undo_0 : decode cX5_undo 0 = .ok (.aload_n 0, 1) := by decide +kernel
theorem dX5_undo_1 : decode cX5_undo 1 = .ok (.getfield 53, 3) := by decide +kernel
theorem dX5_undo_4 : decode cX5_undo 4 = .ok (.aload_n 0, 1) := by decide +kernel
theorem dX5_undo_5 : decode cX5_undo 5 = .ok (.getfield 43, 3) := by decide +kernel
theorem dX5_undo_8 : decode cX5_undo 8 = .ok (.invokevirtual 127, 3) := by decide +kernel
theorem dX5_undo_11 : decode cX5_undo 11 = .ok (.ifCond .eq 13, 3) := by decide +kernel
theorem dX5_undo_14 : decode cX5_undo 14 = .ok (.aload_n 0, 1) := by decide +kernel
theorem dX5_undo_15 : decode cX5_undo 15 = .ok (.getfield 53, 3) := by decide +kernel
theorem dX5_undo_18 : decode cX5_undo 18 = .ok (.getfield 99, 3) := by decide +kernel
theorem dX5_undo_21 : decode cX5_undo 21 = .ok (.goto 5, 3) := by decide +kernel
theorem dX5_undo_24 : decode cX5_undo 24 = .ok (.bipush (-2), 2) := by decide +kernel
theorem dX5_undo_26 : decode cX5_undo 26 = .ok (.ireturn, 1) := by decide +kernel
theorem dX5_task_0 : decode cX5_task 0 = .ok (.aload_n 0, 1) := by decide +kernel
theorem dX5_task_1 : decode cX5_task 1 = .ok (.iload_n 1, 1) := by decide +kernel
theorem dX5_task_2 : decode cX5_task 2 = .ok (.invokevirtual 118, 3) := by decide +kernel
theorem dX5_task_5 : decode cX5_task 5 = .ok (.ifCond .ne 5, 3) := by decide +kernel
theorem dX5_task_8 : decode cX5_task 8 = .ok (.iconst (-1), 1) := by decide +kernel
theorem dX5_task_9 : decode cX5_task 9 = .ok (.ireturn, 1) := by decide +kernel
theorem dX5_task_10 : decode cX5_task 10 = .ok (.iload_n 2, 1) := by decide +kernel
theorem dX5_task_11 : decode cX5_task 11 = .ok (.tableswitch 143 0 7 #[45, 55, 65, 75, 85, 114, 124, 134], 45) := by decide +kernel
theorem dX5_task_56 : decode cX5_task 56 = .ok (.aload_n 0, 1) := by decide +kernel
theorem dX5_task_57 : decode cX5_task 57 = .ok (.getfield 19, 3) := by decide +kernel
theorem dX5_task_60 : decode cX5_task 60 = .ok (.getfield 131, 3) := by decide +kernel
theorem dX5_task_63 : decode cX5_task 63 = .ok (.iload_n 1, 1) := by decide +kernel
theorem dX5_task_64 : decode cX5_task 64 = .ok (.iaload, 1) := by decide +kernel
theorem dX5_task_65 : decode cX5_task 65 = .ok (.ireturn, 1) := by decide +kernel
theorem dX5_task_66 : decode cX5_task 66 = .ok (.aload_n 0, 1) := by decide +kernel
theorem dX5_task_67 : decode cX5_task 67 = .ok (.getfield 43, 3) := by decide +kernel
theorem dX5_task_70 : decode cX5_task 70 = .ok (.getfield 105, 3) := by decide +kernel
theorem dX5_task_73 : decode cX5_task 73 = .ok (.iload_n 1, 1) := by decide +kernel
theorem dX5_task_74 : decode cX5_task 74 = .ok (.iaload, 1) := by decide +kernel
theorem dX5_task_75 : decode cX5_task 75 = .ok (.ireturn, 1) := by decide +kernel
theorem dX5_task_76 : decode cX5_task 76 = .ok (.aload_n 0, 1) := by decide +kernel
theorem dX5_task_77 : decode cX5_task 77 = .ok (.getfield 43, 3) := by decide +kernel
theorem dX5_task_80 : decode cX5_task 80 = .ok (.getfield 134, 3) := by decide +kernel
theorem dX5_task_83 : decode cX5_task 83 = .ok (.iload_n 1, 1) := by decide +kernel
theorem dX5_task_84 : decode cX5_task 84 = .ok (.iaload, 1) := by decide +kernel
theorem dX5_task_85 : decode cX5_task 85 = .ok (.ireturn, 1) := by decide +kernel
theorem dX5_task_86 : decode cX5_task 86 = .ok (.aload_n 0, 1) := by decide +kernel
theorem dX5_task_87 : decode cX5_task 87 = .ok (.getfield 43, 3) := by decide +kernel
theorem dX5_task_90 : decode cX5_task 90 = .ok (.getfield 124, 3) := by decide +kernel
theorem dX5_task_93 : decode cX5_task 93 = .ok (.iload_n 1, 1) := by decide +kernel
theorem dX5_task_94 : decode cX5_task 94 = .ok (.iaload, 1) := by decide +kernel
theorem dX5_task_95 : decode cX5_task 95 = .ok (.ireturn, 1) := by decide +kernel
theorem dX5_task_96 : decode cX5_task 96 = .ok (.aload_n 0, 1) := by decide +kernel
theorem dX5_task_97 : decode cX5_task 97 = .ok (.getfield 43, 3) := by decide +kernel
theorem dX5_task_100 : decode cX5_task 100 = .ok (.getfield 137, 3) := by decide +kernel
theorem dX5_task_103 : decode cX5_task 103 = .ok (.iload_n 1, 1) := by decide +kernel
theorem dX5_task_104 : decode cX5_task 104 = .ok (.iaload, 1) := by decide +kernel
theorem dX5_task_105 : decode cX5_task 105 = .ok (.ldc 140, 2) := by decide +kernel
theorem dX5_task_107 : decode cX5_task 107 = .ok (.if_icmp .ne 8, 3) := by decide +kernel
theorem dX5_task_110 : decode cX5_task 110 = .ok (.bipush (-9), 2) := by decide +kernel
theorem dX5_task_112 : decode cX5_task 112 = .ok (.goto 12, 3) := by decide +kernel
theorem dX5_task_115 : decode cX5_task 115 = .ok (.aload_n 0, 1) := by decide +kernel
theorem dX5_task_116 : decode cX5_task 116 = .ok (.getfield 43, 3) := by decide +kernel
theorem dX5_task_119 : decode cX5_task 119 = .ok (.getfield 137, 3) := by decide +kernel
theorem dX5_task_122 : decode cX5_task 122 = .ok (.iload_n 1, 1) := by decide +kernel
theorem dX5_task_123 : decode cX5_task 123 = .ok (.iaload, 1) := by decide +kernel
theorem dX5_task_124 : decode cX5_task 124 = .ok (.ireturn, 1) := by decide +kernel
theorem dX5_task_125 : decode cX5_task 125 = .ok (.aload_n 0, 1) := by decide +kernel
theorem dX5_task_126 : decode cX5_task 126 = .ok (.getfield 43, 3) := by decide +kernel
theorem dX5_task_129 : decode cX5_task 129 = .ok (.getfield 121, 3) := by decide +kernel
theorem dX5_task_132 : decode cX5_task 132 = .ok (.iload_n 1, 1) := by decide +kernel
theorem dX5_task_133 : decode cX5_task 133 = .ok (.iaload, 1) := by decide +kernel
theorem dX5_task_134 : decode cX5_task 134 = .ok (.ireturn, 1) := by decide +kernel
theorem dX5_task_135 : decode cX5_task 135 = .ok (.aload_n 0, 1) := by decide +kernel
theorem dX5_task_136 : decode cX5_task 136 = .ok (.getfield 43, 3) := by decide +kernel
theorem dX5_task_139 : decode cX5_task 139 = .ok (.getfield 141, 3) := by decide +kernel
theorem dX5_task_142 : decode cX5_task 142 = .ok (.iload_n 1, 1) := by decide +kernel
theorem dX5_task_143 : decode cX5_task 143 = .ok (.iaload, 1) := by decide +kernel
theorem dX5_task_144 : decode cX5_task 144 = .ok (.ireturn, 1) := by decide +kernel
theorem dX5_task_145 : decode cX5_task 145 = .ok (.aload_n 0, 1) := by decide +kernel
theorem dX5_task_146 : decode cX5_task 146 = .ok (.getfield 43, 3) := by decide +kernel
theorem dX5_task_149 : decode cX5_task 149 = .ok (.iload_n 1, 1) := by decide +kernel
theorem dX5_task_150 : decode cX5_task 150 = .ok (.invokevirtual 144, 3) := by decide +kernel
theorem dX5_task_153 : decode cX5_task 153 = .ok (.ireturn, 1) := by decide +kernel
theorem dX5_task_154 : decode cX5_task 154 = .ok (.iconst (-1), 1) := by decide +kernel
theorem dX5_task_155 : decode cX5_task 155 = .ok (.ireturn, 1) := by decide +kernel
theorem dX5_failure_0 : decode cX5_failure 0 = .ok (.aload_n 0, 1) := by decide +kernel
theorem dX5_failure_1 : decode cX5_failure 1 = .ok (.iload_n 1, 1) := by decide +kernel
theorem dX5_failure_2 : decode cX5_failure 2 = .ok (.invokevirtual 118, 3) := by decide +kernel
theorem dX5_failure_5 : decode cX5_failure 5 = .ok (.ifCond .eq 7, 3) := by decide +kernel
theorem dX5_failure_8 : decode cX5_failure 8 = .ok (.iload_n 2, 1) := by decide +kernel
theorem dX5_failure_9 : decode cX5_failure 9 = .ok (.ifCond .ge 5, 3) := by decide +kernel
theorem dX5_failure_12 : decode cX5_failure 12 = .ok (.iconst (-1), 1) := by decide +kernel
theorem dX5_failure_13 : decode cX5_failure 13 = .ok (.ireturn, 1) := by decide +kernel
theorem dX5_failure_14 : decode cX5_failure 14 = .ok (.iload_n 2, 1) := by decide +kernel
theorem dX5_failure_15 : decode cX5_failure 15 = .ok (.aload_n 0, 1) := by decide +kernel
theorem dX5_failure_16 : decode cX5_failure 16 = .ok (.getfield 43, 3) := by decide +kernel
theorem dX5_failure_19 : decode cX5_failure 19 = .ok (.getfield 141, 3) := by decide +kernel
theorem dX5_failure_22 : decode cX5_failure 22 = .ok (.iload_n 1, 1) := by decide +kernel
theorem dX5_failure_23 : decode cX5_failure 23 = .ok (.iaload, 1) := by decide +kernel
theorem dX5_failure_24 : decode cX5_failure 24 = .ok (.if_icmp .ge 20, 3) := by decide +kernel
theorem dX5_failure_27 : decode cX5_failure 27 = .ok (.aload_n 0, 1) := by decide +kernel
theorem dX5_failure_28 : decode cX5_failure 28 = .ok (.getfield 43, 3) := by decide +kernel
theorem dX5_failure_31 : decode cX5_failure 31 = .ok (.getfield 148, 3) := by decide +kernel
theorem dX5_failure_34 : decode cX5_failure 34 = .ok (.iload_n 1, 1) := by decide +kernel
theorem dX5_failure_35 : decode cX5_failure 35 = .ok (.bipush 8, 2) := by decide +kernel
theorem dX5_failure_37 : decode cX5_failure 37 = .ok (.imul, 1) := by decide +kernel
theorem dX5_failure_38 : decode cX5_failure 38 = .ok (.iload_n 2, 1) := by decide +kernel
theorem dX5_failure_39 : decode cX5_failure 39 = .ok (.iadd, 1) := by decide +kernel
theorem dX5_failure_40 : decode cX5_failure 40 = .ok (.iaload, 1) := by decide +kernel
theorem dX5_failure_41 : decode cX5_failure 41 = .ok (.goto 5, 3) := by decide +kernel
theorem dX5_failure_44 : decode cX5_failure 44 = .ok (.bipush (-9), 2) := by decide +kernel
theorem dX5_failure_46 : decode cX5_failure 46 = .ok (.ireturn, 1) := by decide +kernel
theorem dX5_trace_0 : decode cX5_trace 0 = .ok (.iload_n 1, 1) := by decide +kernel
theorem dX5_trace_1 : decode cX5_trace 1 = .ok (.ifCond .lt 12, 3) := by decide +kernel
theorem dX5_trace_4 : decode cX5_trace 4 = .ok (.iload_n 2, 1) := by decide +kernel
theorem dX5_trace_5 : decode cX5_trace 5 = .ok (.ifCond .lt 8, 3) := by decide +kernel
theorem dX5_trace_8 : decode cX5_trace 8 = .ok (.iload_n 2, 1) := by decide +kernel
theorem dX5_trace_9 : decode cX5_trace 9 = .ok (.iconst 2, 1) := by decide +kernel
theorem dX5_trace_10 : decode cX5_trace 10 = .ok (.if_icmp .le 5, 3) := by decide +kernel
theorem dX5_trace_13 : decode cX5_trace 13 = .ok (.iconst (-1), 1) := by decide +kernel
theorem dX5_trace_14 : decode cX5_trace 14 = .ok (.ireturn, 1) := by decide +kernel
theorem dX5_trace_15 : decode cX5_trace 15 = .ok (.iload_n 1, 1) := by decide +kernel
theorem dX5_trace_16 : decode cX5_trace 16 = .ok (.aload_n 0, 1) := by decide +kernel
theorem dX5_trace_17 : decode cX5_trace 17 = .ok (.getfield 43, 3) := by decide +kernel
theorem dX5_trace_20 : decode cX5_trace 20 = .ok (.getfield 151, 3) := by decide +kernel
theorem dX5_trace_23 : decode cX5_trace 23 = .ok (.if_icmp .lt 6, 3) := by decide +kernel
theorem dX5_trace_26 : decode cX5_trace 26 = .ok (.bipush (-9), 2) := by decide +kernel
theorem dX5_trace_28 : decode cX5_trace 28 = .ok (.ireturn, 1) := by decide +kernel
theorem dX5_trace_29 : decode cX5_trace 29 = .ok (.iload_n 2, 1) := by decide +kernel
theorem dX5_trace_30 : decode cX5_trace 30 = .ok (.ifCond .ne 13, 3) := by decide +kernel
theorem dX5_trace_33 : decode cX5_trace 33 = .ok (.aload_n 0, 1) := by decide +kernel
theorem dX5_trace_34 : decode cX5_trace 34 = .ok (.getfield 43, 3) := by decide +kernel
theorem dX5_trace_37 : decode cX5_trace 37 = .ok (.getfield 154, 3) := by decide +kernel
theorem dX5_trace_40 : decode cX5_trace 40 = .ok (.iload_n 1, 1) := by decide +kernel
theorem dX5_trace_41 : decode cX5_trace 41 = .ok (.iaload, 1) := by decide +kernel
theorem dX5_trace_42 : decode cX5_trace 42 = .ok (.ireturn, 1) := by decide +kernel
theorem dX5_trace_43 : decode cX5_trace 43 = .ok (.iload_n 2, 1) := by decide +kernel
theorem dX5_trace_44 : decode cX5_trace 44 = .ok (.iconst 1, 1) := by decide +kernel
theorem dX5_trace_45 : decode cX5_trace 45 = .ok (.if_icmp .ne 15, 3) := by decide +kernel
theorem dX5_trace_48 : decode cX5_trace 48 = .ok (.aload_n 0, 1) := by decide +kernel
theorem dX5_trace_49 : decode cX5_trace 49 = .ok (.getfield 43, 3) := by decide +kernel
theorem dX5_trace_52 : decode cX5_trace 52 = .ok (.getfield 157, 3) := by decide +kernel
theorem dX5_trace_55 : decode cX5_trace 55 = .ok (.iload_n 1, 1) := by decide +kernel
theorem dX5_trace_56 : decode cX5_trace 56 = .ok (.iaload, 1) := by decide +kernel
theorem dX5_trace_57 : decode cX5_trace 57 = .ok (.goto 12, 3) := by decide +kernel
theorem dX5_trace_60 : decode cX5_trace 60 = .ok (.aload_n 0, 1) := by decide +kernel
theorem dX5_trace_61 : decode cX5_trace 61 = .ok (.getfield 43, 3) := by decide +kernel
theorem dX5_trace_64 : decode cX5_trace 64 = .ok (.getfield 160, 3) := by decide +kernel
theorem dX5_trace_67 : decode cX5_trace 67 = .ok (.iload_n 1, 1) := by decide +kernel
theorem dX5_trace_68 : decode cX5_trace 68 = .ok (.iaload, 1) := by decide +kernel
theorem dX5_trace_69 : decode cX5_trace 69 = .ok (.ireturn, 1) := by decide +kernel
theorem dX5_ends_0 : decode cX5_ends 0 = .ok (.aload_n 0, 1) := by decide +kernel
theorem dX5_ends_1 : decode cX5_ends 1 = .ok (.iload_n 1, 1) := by decide +kernel
theorem dX5_ends_2 : decode cX5_ends 2 = .ok (.invokevirtual 118, 3) := by decide +kernel
theorem dX5_ends_5 : decode cX5_ends 5 = .ok (.ifCond .eq 12, 3) := by decide +kernel
theorem dX5_ends_8 : decode cX5_ends 8 = .ok (.iload_n 2, 1) := by decide +kernel
theorem dX5_ends_9 : decode cX5_ends 9 = .ok (.ifCond .lt 8, 3) := by decide +kernel
theorem dX5_ends_12 : decode cX5_ends 12 = .ok (.iload_n 2, 1) := by decide +kernel
theorem dX5_ends_13 : decode cX5_ends 13 = .ok (.iconst 1, 1) := by decide +kernel
theorem dX5_ends_14 : decode cX5_ends 14 = .ok (.if_icmp .le 5, 3) := by decide +kernel
theorem dX5_ends_17 : decode cX5_ends 17 = .ok (.iconst (-1), 1) := by decide +kernel
theorem dX5_ends_18 : decode cX5_ends 18 = .ok (.ireturn, 1) := by decide +kernel
theorem dX5_ends_19 : decode cX5_ends 19 = .ok (.aload_n 0, 1) := by decide +kernel
theorem dX5_ends_20 : decode cX5_ends 20 = .ok (.getfield 47, 3) := by decide +kernel
theorem dX5_ends_23 : decode cX5_ends 23 = .ok (.aload_n 0, 1) := by decide +kernel
theorem dX5_ends_24 : decode cX5_ends 24 = .ok (.getfield 43, 3) := by decide +kernel
theorem dX5_ends_27 : decode cX5_ends 27 = .ok (.invokevirtual 163, 3) := by decide +kernel
theorem dX5_ends_30 : decode cX5_ends 30 = .ok (.aload_n 0, 1) := by decide +kernel
theorem dX5_ends_31 : decode cX5_ends 31 = .ok (.getfield 47, 3) := by decide +kernel
theorem dX5_ends_34 : decode cX5_ends 34 = .ok (.iload_n 1, 1) := by decide +kernel
theorem dX5_ends_35 : decode cX5_ends 35 = .ok (.sipush 200, 3) := by decide +kernel
theorem dX5_ends_38 : decode cX5_ends 38 = .ok (.invokevirtual 165, 3) := by decide +kernel
theorem dX5_ends_41 : decode cX5_ends 41 = .ok (.ifCond .ne 6, 3) := by decide +kernel
theorem dX5_ends_44 : decode cX5_ends 44 = .ok (.bipush (-9), 2) := by decide +kernel
theorem dX5_ends_46 : decode cX5_ends 46 = .ok (.ireturn, 1) := by decide +kernel
theorem dX5_ends_47 : decode cX5_ends 47 = .ok (.iload_n 2, 1) := by decide +kernel
theorem dX5_ends_48 : decode cX5_ends 48 = .ok (.ifCond .ne 15, 3) := by decide +kernel
theorem dX5_ends_51 : decode cX5_ends 51 = .ok (.aload_n 0, 1) := by decide +kernel
theorem dX5_ends_52 : decode cX5_ends 52 = .ok (.getfield 47, 3) := by decide +kernel
theorem dX5_ends_55 : decode cX5_ends 55 = .ok (.getfield 169, 3) := by decide +kernel
theorem dX5_ends_58 : decode cX5_ends 58 = .ok (.iload_n 1, 1) := by decide +kernel
theorem dX5_ends_59 : decode cX5_ends 59 = .ok (.iaload, 1) := by decide +kernel
theorem dX5_ends_60 : decode cX5_ends 60 = .ok (.goto 12, 3) := by decide +kernel
theorem dX5_ends_63 : decode cX5_ends 63 = .ok (.aload_n 0, 1) := by decide +kernel
theorem dX5_ends_64 : decode cX5_ends 64 = .ok (.getfield 47, 3) := by decide +kernel
theorem dX5_ends_67 : decode cX5_ends 67 = .ok (.getfield 134, 3) := by decide +kernel
theorem dX5_ends_70 : decode cX5_ends 70 = .ok (.iload_n 1, 1) := by decide +kernel
theorem dX5_ends_71 : decode cX5_ends 71 = .ok (.iaload, 1) := by decide +kernel
theorem dX5_ends_72 : decode cX5_ends 72 = .ok (.ireturn, 1) := by decide +kernel
theorem dX5_wellBy_0 : decode cX5_wellBy 0 = .ok (.iconst 1, 1) := by decide +kernel
theorem dX5_wellBy_1 : decode cX5_wellBy 1 = .ok (.istore_n 1, 1) := by decide +kernel
theorem dX5_wellBy_2 : decode cX5_wellBy 2 = .ok (.iload_n 1, 1) := by decide +kernel
theorem dX5_wellBy_3 : decode cX5_wellBy 3 = .ok (.bipush 60, 2) := by decide +kernel
theorem dX5_wellBy_5 : decode cX5_wellBy 5 = .ok (.if_icmp .gt 43, 3) := by decide +kernel
theorem dX5_wellBy_8 : decode cX5_wellBy 8 = .ok (.aload_n 0, 1) := by decide +kernel
theorem dX5_wellBy_9 : decode cX5_wellBy 9 = .ok (.iconst 0, 1) := by decide +kernel
theorem dX5_wellBy_10 : decode cX5_wellBy 10 = .ok (.iload_n 1, 1) := by decide +kernel
theorem dX5_wellBy_11 : decode cX5_wellBy 11 = .ok (.invokevirtual 172, 3) := by decide +kernel
theorem dX5_wellBy_14 : decode cX5_wellBy 14 = .ok (.aload_n 0, 1) := by decide +kernel
theorem dX5_wellBy_15 : decode cX5_wellBy 15 = .ok (.getfield 47, 3) := by decide +kernel
theorem dX5_wellBy_18 : decode cX5_wellBy 18 = .ok (.iconst 0, 1) := by decide +kernel
theorem dX5_wellBy_19 : decode cX5_wellBy 19 = .ok (.sipush 200, 3) := by decide +kernel
theorem dX5_wellBy_22 : decode cX5_wellBy 22 = .ok (.invokevirtual 165, 3) := by decide +kernel
theorem dX5_wellBy_25 : decode cX5_wellBy 25 = .ok (.ifCond .eq 17, 3) := by decide +kernel
theorem dX5_wellBy_28 : decode cX5_wellBy 28 = .ok (.aload_n 0, 1) := by decide +kernel
theorem dX5_wellBy_29 : decode cX5_wellBy 29 = .ok (.getfield 47, 3) := by decide +kernel
theorem dX5_wellBy_32 : decode cX5_wellBy 32 = .ok (.getfield 134, 3) := by decide +kernel
theorem dX5_wellBy_35 : decode cX5_wellBy 35 = .ok (.iconst 0, 1) := by decide +kernel
theorem dX5_wellBy_36 : decode cX5_wellBy 36 = .ok (.iaload, 1) := by decide +kernel
theorem dX5_wellBy_37 : decode cX5_wellBy 37 = .ok (.ifCond .ne 5, 3) := by decide +kernel
theorem dX5_wellBy_40 : decode cX5_wellBy 40 = .ok (.iload_n 1, 1) := by decide +kernel
theorem dX5_wellBy_41 : decode cX5_wellBy 41 = .ok (.ireturn, 1) := by decide +kernel
theorem dX5_wellBy_42 : decode cX5_wellBy 42 = .ok (.iinc 1 1, 3) := by decide +kernel
theorem dX5_wellBy_45 : decode cX5_wellBy 45 = .ok (.goto (-43), 3) := by decide +kernel
theorem dX5_wellBy_48 : decode cX5_wellBy 48 = .ok (.bipush (-9), 2) := by decide +kernel
theorem dX5_wellBy_50 : decode cX5_wellBy 50 = .ok (.ireturn, 1) := by decide +kernel
theorem dX5_spares_0 : decode cX5_spares 0 = .ok (.aload_n 0, 1) := by decide +kernel
theorem dX5_spares_1 : decode cX5_spares 1 = .ok (.iload_n 1, 1) := by decide +kernel
theorem dX5_spares_2 : decode cX5_spares 2 = .ok (.invokevirtual 118, 3) := by decide +kernel
theorem dX5_spares_5 : decode cX5_spares 5 = .ok (.ifCond .eq 16, 3) := by decide +kernel
theorem dX5_spares_8 : decode cX5_spares 8 = .ok (.aload_n 0, 1) := by decide +kernel
theorem dX5_spares_9 : decode cX5_spares 9 = .ok (.getfield 43, 3) := by decide +kernel
theorem dX5_spares_12 : decode cX5_spares 12 = .ok (.getfield 105, 3) := by decide +kernel
theorem dX5_spares_15 : decode cX5_spares 15 = .ok (.iload_n 1, 1) := by decide +kernel
theorem dX5_spares_16 : decode cX5_spares 16 = .ok (.iaload, 1) := by decide +kernel
theorem dX5_spares_17 : decode cX5_spares 17 = .ok (.iconst 1, 1) := by decide +kernel
theorem dX5_spares_18 : decode cX5_spares 18 = .ok (.if_icmp .eq 6, 3) := by decide +kernel
theorem dX5_spares_21 : decode cX5_spares 21 = .ok (.ldc 176, 2) := by decide +kernel
theorem dX5_spares_23 : decode cX5_spares 23 = .ok (.ireturn, 1) := by decide +kernel
theorem dX5_spares_24 : decode cX5_spares 24 = .ok (.aload_n 0, 1) := by decide +kernel
theorem dX5_spares_25 : decode cX5_spares 25 = .ok (.getfield 47, 3) := by decide +kernel
theorem dX5_spares_28 : decode cX5_spares 28 = .ok (.aload_n 0, 1) := by decide +kernel
theorem dX5_spares_29 : decode cX5_spares 29 = .ok (.getfield 43, 3) := by decide +kernel
theorem dX5_spares_32 : decode cX5_spares 32 = .ok (.invokevirtual 163, 3) := by decide +kernel
theorem dX5_spares_35 : decode cX5_spares 35 = .ok (.aload_n 0, 1) := by decide +kernel
theorem dX5_spares_36 : decode cX5_spares 36 = .ok (.getfield 47, 3) := by decide +kernel
theorem dX5_spares_39 : decode cX5_spares 39 = .ok (.iconst 0, 1) := by decide +kernel
theorem dX5_spares_40 : decode cX5_spares 40 = .ok (.sipush 200, 3) := by decide +kernel
theorem dX5_spares_43 : decode cX5_spares 43 = .ok (.invokevirtual 165, 3) := by decide +kernel
theorem dX5_spares_46 : decode cX5_spares 46 = .ok (.ifCond .ne 6, 3) := by decide +kernel
theorem dX5_spares_49 : decode cX5_spares 49 = .ok (.ldc 176, 2) := by decide +kernel
theorem dX5_spares_51 : decode cX5_spares 51 = .ok (.ireturn, 1) := by decide +kernel
theorem dX5_spares_52 : decode cX5_spares 52 = .ok (.aload_n 0, 1) := by decide +kernel
theorem dX5_spares_53 : decode cX5_spares 53 = .ok (.getfield 47, 3) := by decide +kernel
theorem dX5_spares_56 : decode cX5_spares 56 = .ok (.getfield 169, 3) := by decide +kernel
theorem dX5_spares_59 : decode cX5_spares 59 = .ok (.iconst 0, 1) := by decide +kernel
theorem dX5_spares_60 : decode cX5_spares 60 = .ok (.iaload, 1) := by decide +kernel
theorem dX5_spares_61 : decode cX5_spares 61 = .ok (.istore_n 2, 1) := by decide +kernel
theorem dX5_spares_62 : decode cX5_spares 62 = .ok (.aload_n 0, 1) := by decide +kernel
theorem dX5_spares_63 : decode cX5_spares 63 = .ok (.getfield 47, 3) := by decide +kernel
theorem dX5_spares_66 : decode cX5_spares 66 = .ok (.aload_n 0, 1) := by decide +kernel
theorem dX5_spares_67 : decode cX5_spares 67 = .ok (.getfield 43, 3) := by decide +kernel
theorem dX5_spares_70 : decode cX5_spares 70 = .ok (.invokevirtual 163, 3) := by decide +kernel
theorem dX5_spares_73 : decode cX5_spares 73 = .ok (.aload_n 0, 1) := by decide +kernel
theorem dX5_spares_74 : decode cX5_spares 74 = .ok (.getfield 47, 3) := by decide +kernel
theorem dX5_spares_77 : decode cX5_spares 77 = .ok (.getfield 121, 3) := by decide +kernel
theorem dX5_spares_80 : decode cX5_spares 80 = .ok (.iload_n 1, 1) := by decide +kernel
theorem dX5_spares_81 : decode cX5_spares 81 = .ok (.iconst 1, 1) := by decide +kernel
theorem dX5_spares_82 : decode cX5_spares 82 = .ok (.iastore, 1) := by decide +kernel
theorem dX5_spares_83 : decode cX5_spares 83 = .ok (.aload_n 0, 1) := by decide +kernel
theorem dX5_spares_84 : decode cX5_spares 84 = .ok (.getfield 47, 3) := by decide +kernel
theorem dX5_spares_87 : decode cX5_spares 87 = .ok (.iconst 0, 1) := by decide +kernel
theorem dX5_spares_88 : decode cX5_spares 88 = .ok (.sipush 200, 3) := by decide +kernel
theorem dX5_spares_91 : decode cX5_spares 91 = .ok (.invokevirtual 165, 3) := by decide +kernel
theorem dX5_spares_94 : decode cX5_spares 94 = .ok (.ifCond .ne 6, 3) := by decide +kernel
theorem dX5_spares_97 : decode cX5_spares 97 = .ok (.ldc 176, 2) := by decide +kernel
theorem dX5_spares_99 : decode cX5_spares 99 = .ok (.ireturn, 1) := by decide +kernel
theorem dX5_spares_100 : decode cX5_spares 100 = .ok (.iload_n 2, 1) := by decide +kernel
theorem dX5_spares_101 : decode cX5_spares 101 = .ok (.aload_n 0, 1) := by decide +kernel
theorem dX5_spares_102 : decode cX5_spares 102 = .ok (.getfield 47, 3) := by decide +kernel
theorem dX5_spares_105 : decode cX5_spares 105 = .ok (.getfield 169, 3) := by decide +kernel
theorem dX5_spares_108 : decode cX5_spares 108 = .ok (.iconst 0, 1) := by decide +kernel
theorem dX5_spares_109 : decode cX5_spares 109 = .ok (.iaload, 1) := by decide +kernel
theorem dX5_spares_110 : decode cX5_spares 110 = .ok (.isub, 1) := by decide +kernel
theorem dX5_spares_111 : decode cX5_spares 111 = .ok (.ireturn, 1) := by decide +kernel
theorem dX5_sees_0 : decode cX5_sees 0 = .ok (.aload_n 0, 1) := by decide +kernel
theorem dX5_sees_1 : decode cX5_sees 1 = .ok (.iload_n 1, 1) := by decide +kernel
theorem dX5_sees_2 : decode cX5_sees 2 = .ok (.invokevirtual 118, 3) := by decide +kernel
theorem dX5_sees_5 : decode cX5_sees 5 = .ok (.ifCond .eq 23, 3) := by decide +kernel
theorem dX5_sees_8 : decode cX5_sees 8 = .ok (.iload_n 2, 1) := by decide +kernel
theorem dX5_sees_9 : decode cX5_sees 9 = .ok (.iconst 1, 1) := by decide +kernel
theorem dX5_sees_10 : decode cX5_sees 10 = .ok (.if_icmp .lt 18, 3) := by decide +kernel
theorem dX5_sees_13 : decode cX5_sees 13 = .ok (.iload_n 2, 1) := by decide +kernel
theorem dX5_sees_14 : decode cX5_sees 14 = .ok (.bipush 60, 2) := by decide +kernel
theorem dX5_sees_16 : decode cX5_sees 16 = .ok (.if_icmp .gt 12, 3) := by decide +kernel
theorem dX5_sees_19 : decode cX5_sees 19 = .ok (.iload_n 3, 1) := by decide +kernel
theorem dX5_sees_20 : decode cX5_sees 20 = .ok (.ifCond .lt 8, 3) := by decide +kernel
theorem dX5_sees_23 : decode cX5_sees 23 = .ok (.iload_n 3, 1) := by decide +kernel
theorem dX5_sees_24 : decode cX5_sees 24 = .ok (.iconst 1, 1) := by decide +kernel
theorem dX5_sees_25 : decode cX5_sees 25 = .ok (.if_icmp .le 5, 3) := by decide +kernel
theorem dX5_sees_28 : decode cX5_sees 28 = .ok (.iconst (-1), 1) := by decide +kernel
theorem dX5_sees_29 : decode cX5_sees 29 = .ok (.ireturn, 1) := by decide +kernel
theorem dX5_sees_30 : decode cX5_sees 30 = .ok (.aload_n 0, 1) := by decide +kernel
theorem dX5_sees_31 : decode cX5_sees 31 = .ok (.getfield 75, 3) := by decide +kernel
theorem dX5_sees_34 : decode cX5_sees 34 = .ok (.bipush 6, 2) := by decide +kernel
theorem dX5_sees_36 : decode cX5_sees 36 = .ok (.if_icmp .lt 6, 3) := by decide +kernel
theorem dX5_sees_39 : decode cX5_sees 39 = .ok (.bipush (-3), 2) := by decide +kernel
theorem dX5_sees_41 : decode cX5_sees 41 = .ok (.ireturn, 1) := by decide +kernel
theorem dX5_sees_42 : decode cX5_sees 42 = .ok (.aload_n 0, 1) := by decide +kernel
theorem dX5_sees_43 : decode cX5_sees 43 = .ok (.getfield 65, 3) := by decide +kernel
theorem dX5_sees_46 : decode cX5_sees 46 = .ok (.aload_n 0, 1) := by decide +kernel
theorem dX5_sees_47 : decode cX5_sees 47 = .ok (.getfield 75, 3) := by decide +kernel
theorem dX5_sees_50 : decode cX5_sees 50 = .ok (.iload_n 1, 1) := by decide +kernel
theorem dX5_sees_51 : decode cX5_sees 51 = .ok (.iastore, 1) := by decide +kernel
theorem dX5_sees_52 : decode cX5_sees 52 = .ok (.aload_n 0, 1) := by decide +kernel
theorem dX5_sees_53 : decode cX5_sees 53 = .ok (.getfield 69, 3) := by decide +kernel
theorem dX5_sees_56 : decode cX5_sees 56 = .ok (.aload_n 0, 1) := by decide +kernel
theorem dX5_sees_57 : decode cX5_sees 57 = .ok (.getfield 75, 3) := by decide +kernel
theorem dX5_sees_60 : decode cX5_sees 60 = .ok (.iload_n 2, 1) := by decide +kernel
theorem dX5_sees_61 : decode cX5_sees 61 = .ok (.iastore, 1) := by decide +kernel
theorem dX5_sees_62 : decode cX5_sees 62 = .ok (.aload_n 0, 1) := by decide +kernel
theorem dX5_sees_63 : decode cX5_sees 63 = .ok (.getfield 72, 3) := by decide +kernel
theorem dX5_sees_66 : decode cX5_sees 66 = .ok (.aload_n 0, 1) := by decide +kernel
theorem dX5_sees_67 : decode cX5_sees 67 = .ok (.getfield 75, 3) := by decide +kernel
theorem dX5_sees_70 : decode cX5_sees 70 = .ok (.iload_n 3, 1) := by decide +kernel
theorem dX5_sees_71 : decode cX5_sees 71 = .ok (.iastore, 1) := by decide +kernel
theorem dX5_sees_72 : decode cX5_sees 72 = .ok (.aload_n 0, 1) := by decide +kernel
theorem dX5_sees_73 : decode cX5_sees 73 = .ok (.dup, 1) := by decide +kernel
theorem dX5_sees_74 : decode cX5_sees 74 = .ok (.getfield 75, 3) := by decide +kernel
theorem dX5_sees_77 : decode cX5_sees 77 = .ok (.iconst 1, 1) := by decide +kernel
theorem dX5_sees_78 : decode cX5_sees 78 = .ok (.iadd, 1) := by decide +kernel
theorem dX5_sees_79 : decode cX5_sees 79 = .ok (.putfield 75, 3) := by decide +kernel
theorem dX5_sees_82 : decode cX5_sees 82 = .ok (.aload_n 0, 1) := by decide +kernel
theorem dX5_sees_83 : decode cX5_sees 83 = .ok (.getfield 75, 3) := by decide +kernel
theorem dX5_sees_86 : decode cX5_sees 86 = .ok (.ireturn, 1) := by decide +kernel
theorem dX5_forget_0 : decode cX5_forget 0 = .ok (.aload_n 0, 1) := by decide +kernel
theorem dX5_forget_1 : decode cX5_forget 1 = .ok (.getfield 75, 3) := by decide +kernel
theorem dX5_forget_4 : decode cX5_forget 4 = .ok (.istore_n 1, 1) := by decide +kernel
theorem dX5_forget_5 : decode cX5_forget 5 = .ok (.aload_n 0, 1) := by decide +kernel
theorem dX5_forget_6 : decode cX5_forget 6 = .ok (.iconst 0, 1) := by decide +kernel
theorem dX5_forget_7 : decode cX5_forget 7 = .ok (.putfield 75, 3) := by decide +kernel
theorem dX5_forget_10 : decode cX5_forget 10 = .ok (.iload_n 1, 1) := by decide +kernel
theorem dX5_forget_11 : decode cX5_forget 11 = .ok (.ireturn, 1) := by decide +kernel
theorem dX5_fits_0 : decode cX5_fits 0 = .ok (.aload_n 0, 1) := by decide +kernel
theorem dX5_fits_1 : decode cX5_fits 1 = .ok (.iload_n 1, 1) := by decide +kernel
theorem dX5_fits_2 : decode cX5_fits 2 = .ok (.invokevirtual 118, 3) := by decide +kernel
theorem dX5_fits_5 : decode cX5_fits 5 = .ok (.ifCond .ne 5, 3) := by decide +kernel
theorem dX5_fits_8 : decode cX5_fits 8 = .ok (.iconst (-1), 1) := by decide +kernel
theorem dX5_fits_9 : decode cX5_fits 9 = .ok (.ireturn, 1) := by decide +kernel
theorem dX5_fits_10 : decode cX5_fits 10 = .ok (.aload_n 0, 1) := by decide +kernel
theorem dX5_fits_11 : decode cX5_fits 11 = .ok (.invokevirtual 177, 3) := by decide +kernel
theorem dX5_fits_14 : decode cX5_fits 14 = .ok (.istore_n 2, 1) := by decide +kernel
theorem dX5_fits_15 : decode cX5_fits 15 = .ok (.iconst 0, 1) := by decide +kernel
theorem dX5_fits_16 : decode cX5_fits 16 = .ok (.istore_n 3, 1) := by decide +kernel
theorem dX5_fits_17 : decode cX5_fits 17 = .ok (.iconst 1, 1) := by decide +kernel
theorem dX5_fits_18 : decode cX5_fits 18 = .ok (.istore 4, 2) := by decide +kernel
theorem dX5_fits_20 : decode cX5_fits 20 = .ok (.iload 4, 2) := by decide +kernel
theorem dX5_fits_22 : decode cX5_fits 22 = .ok (.bipush 30, 2) := by decide +kernel
theorem dX5_fits_24 : decode cX5_fits 24 = .ok (.if_icmp .gt 40, 3) := by decide +kernel
theorem dX5_fits_27 : decode cX5_fits 27 = .ok (.aload_n 0, 1) := by decide +kernel
theorem dX5_fits_28 : decode cX5_fits 28 = .ok (.iload_n 1, 1) := by decide +kernel
theorem dX5_fits_29 : decode cX5_fits 29 = .ok (.iload 4, 2) := by decide +kernel
theorem dX5_fits_31 : decode cX5_fits 31 = .ok (.invokevirtual 172, 3) := by decide +kernel
theorem dX5_fits_34 : decode cX5_fits 34 = .ok (.aload_n 0, 1) := by decide +kernel
theorem dX5_fits_35 : decode cX5_fits 35 = .ok (.getfield 47, 3) := by decide +kernel
theorem dX5_fits_38 : decode cX5_fits 38 = .ok (.iconst 0, 1) := by decide +kernel
theorem dX5_fits_39 : decode cX5_fits 39 = .ok (.iload_n 2, 1) := by decide +kernel
theorem dX5_fits_40 : decode cX5_fits 40 = .ok (.invokevirtual 165, 3) := by decide +kernel
theorem dX5_fits_43 : decode cX5_fits 43 = .ok (.pop, 1) := by decide +kernel
theorem dX5_fits_44 : decode cX5_fits 44 = .ok (.aload_n 0, 1) := by decide +kernel
theorem dX5_fits_45 : decode cX5_fits 45 = .ok (.invokevirtual 181, 3) := by decide +kernel
theorem dX5_fits_48 : decode cX5_fits 48 = .ok (.ifCond .eq 10, 3) := by decide +kernel
theorem dX5_fits_51 : decode cX5_fits 51 = .ok (.iload_n 3, 1) := by decide +kernel
theorem dX5_fits_52 : decode cX5_fits 52 = .ok (.iconst 1, 1) := by decide +kernel
theorem dX5_fits_53 : decode cX5_fits 53 = .ok (.iload 4, 2) := by decide +kernel
theorem dX5_fits_55 : decode cX5_fits 55 = .ok (.ishl, 1) := by decide +kernel
theorem dX5_fits_56 : decode cX5_fits 56 = .ok (.ior, 1) := by decide +kernel
theorem dX5_fits_57 : decode cX5_fits 57 = .ok (.istore_n 3, 1) := by decide +kernel
theorem dX5_fits_58 : decode cX5_fits 58 = .ok (.iinc 4 1, 3) := by decide +kernel
theorem dX5_fits_61 : decode cX5_fits 61 = .ok (.goto (-41), 3) := by decide +kernel
theorem dX5_fits_64 : decode cX5_fits 64 = .ok (.iload_n 3, 1) := by decide +kernel
theorem dX5_fits_65 : decode cX5_fits 65 = .ok (.ireturn, 1) := by decide +kernel
theorem dX5_keep_0 : decode cX5_keep 0 = .ok (.iload_n 1, 1) := by decide +kernel
theorem dX5_keep_1 : decode cX5_keep 1 = .ok (.ifCond .lt 8, 3) := by decide +kernel
theorem dX5_keep_4 : decode cX5_keep 4 = .ok (.iload_n 1, 1) := by decide +kernel
theorem dX5_keep_5 : decode cX5_keep 5 = .ok (.iconst 2, 1) := by decide +kernel
theorem dX5_keep_6 : decode cX5_keep 6 = .ok (.if_icmp .lt 5, 3) := by decide +kernel
theorem dX5_keep_9 : decode cX5_keep 9 = .ok (.iconst (-1), 1) := by decide +kernel
theorem dX5_keep_10 : decode cX5_keep 10 = .ok (.ireturn, 1) := by decide +kernel
theorem dX5_keep_11 : decode cX5_keep 11 = .ok (.aload_n 0, 1) := by decide +kernel
theorem dX5_keep_12 : decode cX5_keep 12 = .ok (.getfield 57, 3) := by decide +kernel
theorem dX5_keep_15 : decode cX5_keep 15 = .ok (.iload_n 1, 1) := by decide +kernel
theorem dX5_keep_16 : decode cX5_keep 16 = .ok (.aaload, 1) := by decide +kernel
theorem dX5_keep_17 : decode cX5_keep 17 = .ok (.aload_n 0, 1) := by decide +kernel
theorem dX5_keep_18 : decode cX5_keep 18 = .ok (.getfield 43, 3) := by decide +kernel
theorem dX5_keep_21 : decode cX5_keep 21 = .ok (.invokevirtual 163, 3) := by decide +kernel
theorem dX5_keep_24 : decode cX5_keep 24 = .ok (.aload_n 0, 1) := by decide +kernel
theorem dX5_keep_25 : decode cX5_keep 25 = .ok (.getfield 61, 3) := by decide +kernel
theorem dX5_keep_28 : decode cX5_keep 28 = .ok (.iload_n 1, 1) := by decide +kernel
theorem dX5_keep_29 : decode cX5_keep 29 = .ok (.iconst 1, 1) := by decide +kernel
theorem dX5_keep_30 : decode cX5_keep 30 = .ok (.bastore, 1) := by decide +kernel
theorem dX5_keep_31 : decode cX5_keep 31 = .ok (.aload_n 0, 1) := by decide +kernel
theorem dX5_keep_32 : decode cX5_keep 32 = .ok (.getfield 43, 3) := by decide +kernel
theorem dX5_keep_35 : decode cX5_keep 35 = .ok (.getfield 108, 3) := by decide +kernel
theorem dX5_keep_38 : decode cX5_keep 38 = .ok (.ireturn, 1) := by decide +kernel
theorem dX5_back_0 : decode cX5_back 0 = .ok (.iload_n 1, 1) := by decide +kernel
theorem dX5_back_1 : decode cX5_back 1 = .ok (.ifCond .lt 8, 3) := by decide +kernel
theorem dX5_back_4 : decode cX5_back 4 = .ok (.iload_n 1, 1) := by decide +kernel
theorem dX5_back_5 : decode cX5_back 5 = .ok (.iconst 2, 1) := by decide +kernel
theorem dX5_back_6 : decode cX5_back 6 = .ok (.if_icmp .lt 5, 3) := by decide +kernel
theorem dX5_back_9 : decode cX5_back 9 = .ok (.iconst (-1), 1) := by decide +kernel
theorem dX5_back_10 : decode cX5_back 10 = .ok (.ireturn, 1) := by decide +kernel
theorem dX5_back_11 : decode cX5_back 11 = .ok (.aload_n 0, 1) := by decide +kernel
theorem dX5_back_12 : decode cX5_back 12 = .ok (.getfield 61, 3) := by decide +kernel
theorem dX5_back_15 : decode cX5_back 15 = .ok (.iload_n 1, 1) := by decide +kernel
theorem dX5_back_16 : decode cX5_back 16 = .ok (.baload, 1) := by decide +kernel
theorem dX5_back_17 : decode cX5_back 17 = .ok (.ifCond .ne 6, 3) := by decide +kernel
theorem dX5_back_20 : decode cX5_back 20 = .ok (.bipush (-2), 2) := by decide +kernel
theorem dX5_back_22 : decode cX5_back 22 = .ok (.ireturn, 1) := by decide +kernel
theorem dX5_back_23 : decode cX5_back 23 = .ok (.aload_n 0, 1) := by decide +kernel
theorem dX5_back_24 : decode cX5_back 24 = .ok (.getfield 43, 3) := by decide +kernel
theorem dX5_back_27 : decode cX5_back 27 = .ok (.aload_n 0, 1) := by decide +kernel
theorem dX5_back_28 : decode cX5_back 28 = .ok (.getfield 57, 3) := by decide +kernel
theorem dX5_back_31 : decode cX5_back 31 = .ok (.iload_n 1, 1) := by decide +kernel
theorem dX5_back_32 : decode cX5_back 32 = .ok (.aaload, 1) := by decide +kernel
theorem dX5_back_33 : decode cX5_back 33 = .ok (.invokevirtual 163, 3) := by decide +kernel
theorem dX5_back_36 : decode cX5_back 36 = .ok (.aload_n 0, 1) := by decide +kernel
theorem dX5_back_37 : decode cX5_back 37 = .ok (.getfield 53, 3) := by decide +kernel
theorem dX5_back_40 : decode cX5_back 40 = .ok (.iconst 0, 1) := by decide +kernel
theorem dX5_back_41 : decode cX5_back 41 = .ok (.putfield 99, 3) := by decide +kernel
theorem dX5_back_44 : decode cX5_back 44 = .ok (.aload_n 0, 1) := by decide +kernel
theorem dX5_back_45 : decode cX5_back 45 = .ok (.getfield 43, 3) := by decide +kernel
theorem dX5_back_48 : decode cX5_back 48 = .ok (.getfield 108, 3) := by decide +kernel
theorem dX5_back_51 : decode cX5_back 51 = .ok (.ireturn, 1) := by decide +kernel
theorem dX5_count_0 : decode cX5_count 0 = .ok (.iload_n 1, 1) := by decide +kernel
theorem dX5_count_1 : decode cX5_count 1 = .ok (.tableswitch 123 0 8 #[51, 59, 67, 76, 85, 94, 102, 107, 115], 51) := by decide +kernel
theorem dX5_count_52 : decode cX5_count 52 = .ok (.aload_n 0, 1) := by decide +kernel
theorem dX5_count_53 : decode cX5_count 53 = .ok (.getfield 19, 3) := by decide +kernel
theorem dX5_count_56 : decode cX5_count 56 = .ok (.getfield 184, 3) := by decide +kernel
theorem dX5_count_59 : decode cX5_count 59 = .ok (.ireturn, 1) := by decide +kernel
theorem dX5_count_60 : decode cX5_count 60 = .ok (.aload_n 0, 1) := by decide +kernel
theorem dX5_count_61 : decode cX5_count 61 = .ok (.getfield 43, 3) := by decide +kernel
theorem dX5_count_64 : decode cX5_count 64 = .ok (.getfield 108, 3) := by decide +kernel
theorem dX5_count_67 : decode cX5_count 67 = .ok (.ireturn, 1) := by decide +kernel
theorem dX5_count_68 : decode cX5_count 68 = .ok (.aload_n 0, 1) := by decide +kernel
theorem dX5_count_69 : decode cX5_count 69 = .ok (.getfield 43, 3) := by decide +kernel
theorem dX5_count_72 : decode cX5_count 72 = .ok (.iconst 1, 1) := by decide +kernel
theorem dX5_count_73 : decode cX5_count 73 = .ok (.invokevirtual 187, 3) := by decide +kernel
theorem dX5_count_76 : decode cX5_count 76 = .ok (.ireturn, 1) := by decide +kernel
theorem dX5_count_77 : decode cX5_count 77 = .ok (.aload_n 0, 1) := by decide +kernel
theorem dX5_count_78 : decode cX5_count 78 = .ok (.getfield 43, 3) := by decide +kernel
theorem dX5_count_81 : decode cX5_count 81 = .ok (.iconst 2, 1) := by decide +kernel
theorem dX5_count_82 : decode cX5_count 82 = .ok (.invokevirtual 187, 3) := by decide +kernel
theorem dX5_count_85 : decode cX5_count 85 = .ok (.ireturn, 1) := by decide +kernel
theorem dX5_count_86 : decode cX5_count 86 = .ok (.aload_n 0, 1) := by decide +kernel
theorem dX5_count_87 : decode cX5_count 87 = .ok (.getfield 43, 3) := by decide +kernel
theorem dX5_count_90 : decode cX5_count 90 = .ok (.iconst 3, 1) := by decide +kernel
theorem dX5_count_91 : decode cX5_count 91 = .ok (.invokevirtual 187, 3) := by decide +kernel
theorem dX5_count_94 : decode cX5_count 94 = .ok (.ireturn, 1) := by decide +kernel
theorem dX5_count_95 : decode cX5_count 95 = .ok (.aload_n 0, 1) := by decide +kernel
theorem dX5_count_96 : decode cX5_count 96 = .ok (.getfield 43, 3) := by decide +kernel
theorem dX5_count_99 : decode cX5_count 99 = .ok (.getfield 151, 3) := by decide +kernel
theorem dX5_count_102 : decode cX5_count 102 = .ok (.ireturn, 1) := by decide +kernel
theorem dX5_count_103 : decode cX5_count 103 = .ok (.aload_n 0, 1) := by decide +kernel
theorem dX5_count_104 : decode cX5_count 104 = .ok (.getfield 75, 3) := by decide +kernel
theorem dX5_count_107 : decode cX5_count 107 = .ok (.ireturn, 1) := by decide +kernel
theorem dX5_count_108 : decode cX5_count 108 = .ok (.aload_n 0, 1) := by decide +kernel
theorem dX5_count_109 : decode cX5_count 109 = .ok (.getfield 10, 3) := by decide +kernel
theorem dX5_count_112 : decode cX5_count 112 = .ok (.getfield 83, 3) := by decide +kernel
theorem dX5_count_115 : decode cX5_count 115 = .ok (.ireturn, 1) := by decide +kernel
theorem dX5_count_116 : decode cX5_count 116 = .ok (.aload_n 0, 1) := by decide +kernel
theorem dX5_count_117 : decode cX5_count 117 = .ok (.getfield 53, 3) := by decide +kernel
theorem dX5_count_120 : decode cX5_count 120 = .ok (.getfield 99, 3) := by decide +kernel
theorem dX5_count_123 : decode cX5_count 123 = .ok (.ireturn, 1) := by decide +kernel
theorem dX5_count_124 : decode cX5_count 124 = .ok (.iconst (-1), 1) := by decide +kernel
theorem dX5_count_125 : decode cX5_count 125 = .ok (.ireturn, 1) := by decide +kernel
theorem dX5_isTask_0 : decode cX5_isTask 0 = .ok (.iload_n 1, 1) := by decide +kernel
theorem dX5_isTask_1 : decode cX5_isTask 1 = .ok (.ifCond .lt 18, 3) := by decide +kernel
theorem dX5_isTask_4 : decode cX5_isTask 4 = .ok (.iload_n 1, 1) := by decide +kernel
theorem dX5_isTask_5 : decode cX5_isTask 5 = .ok (.aload_n 0, 1) := by decide +kernel
theorem dX5_isTask_6 : decode cX5_isTask 6 = .ok (.getfield 19, 3) := by decide +kernel
theorem dX5_isTask_9 : decode cX5_isTask 9 = .ok (.getfield 184, 3) := by decide +kernel
theorem dX5_isTask_12 : decode cX5_isTask 12 = .ok (.if_icmp .ge 7, 3) := by decide +kernel
theorem dX5_isTask_15 : decode cX5_isTask 15 = .ok (.iconst 1, 1) := by decide +kernel
theorem dX5_isTask_16 : decode cX5_isTask 16 = .ok (.goto 4, 3) := by decide +kernel
theorem dX5_isTask_19 : decode cX5_isTask 19 = .ok (.iconst 0, 1) := by decide +kernel
theorem dX5_isTask_20 : decode cX5_isTask 20 = .ok (.ireturn, 1) := by decide +kernel
theorem dX5_suppose_0 : decode cX5_suppose 0 = .ok (.aload_n 0, 1) := by decide +kernel
theorem dX5_suppose_1 : decode cX5_suppose 1 = .ok (.getfield 26, 3) := by decide +kernel
theorem dX5_suppose_4 : decode cX5_suppose 4 = .ok (.aload_n 0, 1) := by decide +kernel
theorem dX5_suppose_5 : decode cX5_suppose 5 = .ok (.getfield 19, 3) := by decide +kernel
theorem dX5_suppose_8 : decode cX5_suppose 8 = .ok (.invokevirtual 93, 3) := by decide +kernel
theorem dX5_suppose_11 : decode cX5_suppose 11 = .ok (.aload_n 0, 1) := by decide +kernel
theorem dX5_suppose_12 : decode cX5_suppose 12 = .ok (.getfield 26, 3) := by decide +kernel
theorem dX5_suppose_15 : decode cX5_suppose 15 = .ok (.getfield 190, 3) := by decide +kernel
theorem dX5_suppose_18 : decode cX5_suppose 18 = .ok (.iload_n 1, 1) := by decide +kernel
theorem dX5_suppose_19 : decode cX5_suppose 19 = .ok (.iload_n 2, 1) := by decide +kernel
theorem dX5_suppose_20 : decode cX5_suppose 20 = .ok (.iastore, 1) := by decide +kernel
theorem dX5_suppose_21 : decode cX5_suppose 21 = .ok (.aload_n 0, 1) := by decide +kernel
theorem dX5_suppose_22 : decode cX5_suppose 22 = .ok (.getfield 47, 3) := by decide +kernel
theorem dX5_suppose_25 : decode cX5_suppose 25 = .ok (.aload_n 0, 1) := by decide +kernel
theorem dX5_suppose_26 : decode cX5_suppose 26 = .ok (.getfield 26, 3) := by decide +kernel
theorem dX5_suppose_29 : decode cX5_suppose 29 = .ok (.invokevirtual 96, 3) := by decide +kernel
theorem dX5_suppose_32 : decode cX5_suppose 32 = .ok (.return_, 1) := by decide +kernel
theorem dX5_longestSeen_0 : decode cX5_longestSeen 0 = .ok (.iconst 0, 1) := by decide +kernel
theorem dX5_longestSeen_1 : decode cX5_longestSeen 1 = .ok (.istore_n 1, 1) := by decide +kernel
theorem dX5_longestSeen_2 : decode cX5_longestSeen 2 = .ok (.iconst 0, 1) := by decide +kernel
theorem dX5_longestSeen_3 : decode cX5_longestSeen 3 = .ok (.istore_n 2, 1) := by decide +kernel
theorem dX5_longestSeen_4 : decode cX5_longestSeen 4 = .ok (.iload_n 2, 1) := by decide +kernel
theorem dX5_longestSeen_5 : decode cX5_longestSeen 5 = .ok (.aload_n 0, 1) := by decide +kernel
theorem dX5_longestSeen_6 : decode cX5_longestSeen 6 = .ok (.getfield 75, 3) := by decide +kernel
theorem dX5_longestSeen_9 : decode cX5_longestSeen 9 = .ok (.if_icmp .ge 20, 3) := by decide +kernel
theorem dX5_longestSeen_12 : decode cX5_longestSeen 12 = .ok (.iload_n 1, 1) := by decide +kernel
theorem dX5_longestSeen_13 : decode cX5_longestSeen 13 = .ok (.aload_n 0, 1) := by decide +kernel
theorem dX5_longestSeen_14 : decode cX5_longestSeen 14 = .ok (.getfield 69, 3) := by decide +kernel
theorem dX5_longestSeen_17 : decode cX5_longestSeen 17 = .ok (.iload_n 2, 1) := by decide +kernel
theorem dX5_longestSeen_18 : decode cX5_longestSeen 18 = .ok (.iaload, 1) := by decide +kernel
theorem dX5_longestSeen_19 : decode cX5_longestSeen 19 = .ok (.invokestatic 193, 3) := by decide +kernel
theorem dX5_longestSeen_22 : decode cX5_longestSeen 22 = .ok (.istore_n 1, 1) := by decide +kernel
theorem dX5_longestSeen_23 : decode cX5_longestSeen 23 = .ok (.iinc 2 1, 3) := by decide +kernel
theorem dX5_longestSeen_26 : decode cX5_longestSeen 26 = .ok (.goto (-22), 3) := by decide +kernel
theorem dX5_longestSeen_29 : decode cX5_longestSeen 29 = .ok (.iload_n 1, 1) := by decide +kernel
theorem dX5_longestSeen_30 : decode cX5_longestSeen 30 = .ok (.ireturn, 1) := by decide +kernel
theorem dX5_agreesWithSeen_0 : decode cX5_agreesWithSeen 0 = .ok (.iconst 0, 1) := by decide +kernel
theorem dX5_agreesWithSeen_1 : decode cX5_agreesWithSeen 1 = .ok (.istore_n 1, 1) := by decide +kernel
theorem dX5_agreesWithSeen_2 : decode cX5_agreesWithSeen 2 = .ok (.iload_n 1, 1) := by decide +kernel
theorem dX5_agreesWithSeen_3 : decode cX5_agreesWithSeen 3 = .ok (.aload_n 0, 1) := by decide +kernel
theorem dX5_agreesWithSeen_4 : decode cX5_agreesWithSeen 4 = .ok (.getfield 75, 3) := by decide +kernel
theorem dX5_agreesWithSeen_7 : decode cX5_agreesWithSeen 7 = .ok (.if_icmp .ge 49, 3) := by decide +kernel
theorem dX5_agreesWithSeen_10 : decode cX5_agreesWithSeen 10 = .ok (.aload_n 0, 1) := by decide +kernel
theorem dX5_agreesWithSeen_11 : decode cX5_agreesWithSeen 11 = .ok (.getfield 47, 3) := by decide +kernel
theorem dX5_agreesWithSeen_14 : decode cX5_agreesWithSeen 14 = .ok (.aload_n 0, 1) := by decide +kernel
theorem dX5_agreesWithSeen_15 : decode cX5_agreesWithSeen 15 = .ok (.getfield 65, 3) := by decide +kernel
theorem dX5_agreesWithSeen_18 : decode cX5_agreesWithSeen 18 = .ok (.iload_n 1, 1) := by decide +kernel
theorem dX5_agreesWithSeen_19 : decode cX5_agreesWithSeen 19 = .ok (.iaload, 1) := by decide +kernel
theorem dX5_agreesWithSeen_20 : decode cX5_agreesWithSeen 20 = .ok (.aload_n 0, 1) := by decide +kernel
theorem dX5_agreesWithSeen_21 : decode cX5_agreesWithSeen 21 = .ok (.getfield 69, 3) := by decide +kernel
theorem dX5_agreesWithSeen_24 : decode cX5_agreesWithSeen 24 = .ok (.iload_n 1, 1) := by decide +kernel
theorem dX5_agreesWithSeen_25 : decode cX5_agreesWithSeen 25 = .ok (.iaload, 1) := by decide +kernel
theorem dX5_agreesWithSeen_26 : decode cX5_agreesWithSeen 26 = .ok (.invokevirtual 199, 3) := by decide +kernel
theorem dX5_agreesWithSeen_29 : decode cX5_agreesWithSeen 29 = .ok (.ifCond .eq 7, 3) := by decide +kernel
theorem dX5_agreesWithSeen_32 : decode cX5_agreesWithSeen 32 = .ok (.iconst 1, 1) := by decide +kernel
theorem dX5_agreesWithSeen_33 : decode cX5_agreesWithSeen 33 = .ok (.goto 4, 3) := by decide +kernel
theorem dX5_agreesWithSeen_36 : decode cX5_agreesWithSeen 36 = .ok (.iconst 0, 1) := by decide +kernel
theorem dX5_agreesWithSeen_37 : decode cX5_agreesWithSeen 37 = .ok (.istore_n 2, 1) := by decide +kernel
theorem dX5_agreesWithSeen_38 : decode cX5_agreesWithSeen 38 = .ok (.iload_n 2, 1) := by decide +kernel
theorem dX5_agreesWithSeen_39 : decode cX5_agreesWithSeen 39 = .ok (.aload_n 0, 1) := by decide +kernel
theorem dX5_agreesWithSeen_40 : decode cX5_agreesWithSeen 40 = .ok (.getfield 72, 3) := by decide +kernel
theorem dX5_agreesWithSeen_43 : decode cX5_agreesWithSeen 43 = .ok (.iload_n 1, 1) := by decide +kernel
theorem dX5_agreesWithSeen_44 : decode cX5_agreesWithSeen 44 = .ok (.iaload, 1) := by decide +kernel
theorem dX5_agreesWithSeen_45 : decode cX5_agreesWithSeen 45 = .ok (.if_icmp .eq 5, 3) := by decide +kernel
theorem dX5_agreesWithSeen_48 : decode cX5_agreesWithSeen 48 = .ok (.iconst 0, 1) := by decide +kernel
theorem dX5_agreesWithSeen_49 : decode cX5_agreesWithSeen 49 = .ok (.ireturn, 1) := by decide +kernel
theorem dX5_agreesWithSeen_50 : decode cX5_agreesWithSeen 50 = .ok (.iinc 1 1, 3) := by decide +kernel
theorem dX5_agreesWithSeen_53 : decode cX5_agreesWithSeen 53 = .ok (.goto (-51), 3) := by decide +kernel
theorem dX5_agreesWithSeen_56 : decode cX5_agreesWithSeen 56 = .ok (.iconst 1, 1) := by decide +kernel
theorem dX5_agreesWithSeen_57 : decode cX5_agreesWithSeen 57 = .ok (.ireturn, 1) := by decide +kernel
theorem dL_law_0 : decode cL_law 0 = .ok (.new 7, 3) := by decide +kernel
theorem dL_law_3 : decode cL_law 3 = .ok (.dup, 1) := by decide +kernel
theorem dL_law_4 : decode cL_law 4 = .ok (.invokespecial 9, 3) := by decide +kernel
theorem dL_law_7 : decode cL_law 7 = .ok (.astore_n 1, 1) := by decide +kernel
theorem dL_law_8 : decode cL_law 8 = .ok (.new 10, 3) := by decide +kernel
theorem dL_law_11 : decode cL_law 11 = .ok (.dup, 1) := by decide +kernel
theorem dL_law_12 : decode cL_law 12 = .ok (.invokespecial 12, 3) := by decide +kernel
theorem dL_law_15 : decode cL_law 15 = .ok (.astore_n 2, 1) := by decide +kernel
theorem dL_law_16 : decode cL_law 16 = .ok (.iconst 0, 1) := by decide +kernel
theorem dL_law_17 : decode cL_law 17 = .ok (.istore_n 3, 1) := by decide +kernel
theorem dL_law_18 : decode cL_law 18 = .ok (.iload_n 3, 1) := by decide +kernel
theorem dL_law_19 : decode cL_law 19 = .ok (.aload_n 0, 1) := by decide +kernel
theorem dL_law_20 : decode cL_law 20 = .ok (.arraylength, 1) := by decide +kernel
theorem dL_law_21 : decode cL_law 21 = .ok (.iconst 4, 1) := by decide +kernel
theorem dL_law_22 : decode cL_law 22 = .ok (.isub, 1) := by decide +kernel
theorem dL_law_23 : decode cL_law 23 = .ok (.if_icmp .gt 527, 3) := by decide +kernel
theorem dL_law_26 : decode cL_law 26 = .ok (.aload_n 0, 1) := by decide +kernel
theorem dL_law_27 : decode cL_law 27 = .ok (.iload_n 3, 1) := by decide +kernel
theorem dL_law_28 : decode cL_law 28 = .ok (.iaload, 1) := by decide +kernel
theorem dL_law_29 : decode cL_law 29 = .ok (.bipush 31, 2) := by decide +kernel
theorem dL_law_31 : decode cL_law 31 = .ok (.iand, 1) := by decide +kernel
theorem dL_law_32 : decode cL_law 32 = .ok (.tableswitch 512 0 17 #[88, 111, 124, 137, 160, 183, 196, 229, 262, 295, 328, 341, 364, 407, 420, 443, 466, 489], 88) := by decide +kernel
theorem dL_law_120 : decode cL_law 120 = .ok (.aload_n 1, 1) := by decide +kernel
theorem dL_law_121 : decode cL_law 121 = .ok (.aload_n 0, 1) := by decide +kernel
theorem dL_law_122 : decode cL_law 122 = .ok (.iload_n 3, 1) := by decide +kernel
theorem dL_law_123 : decode cL_law 123 = .ok (.iconst 1, 1) := by decide +kernel
theorem dL_law_124 : decode cL_law 124 = .ok (.iadd, 1) := by decide +kernel
theorem dL_law_125 : decode cL_law 125 = .ok (.iaload, 1) := by decide +kernel
theorem dL_law_126 : decode cL_law 126 = .ok (.invokevirtual 13, 3) := by decide +kernel
theorem dL_law_129 : decode cL_law 129 = .ok (.aload_n 2, 1) := by decide +kernel
theorem dL_law_130 : decode cL_law 130 = .ok (.aload_n 0, 1) := by decide +kernel
theorem dL_law_131 : decode cL_law 131 = .ok (.iload_n 3, 1) := by decide +kernel
theorem dL_law_132 : decode cL_law 132 = .ok (.iconst 1, 1) := by decide +kernel
theorem dL_law_133 : decode cL_law 133 = .ok (.iadd, 1) := by decide +kernel
theorem dL_law_134 : decode cL_law 134 = .ok (.iaload, 1) := by decide +kernel
theorem dL_law_135 : decode cL_law 135 = .ok (.invokevirtual 17, 3) := by decide +kernel
theorem dL_law_138 : decode cL_law 138 = .ok (.if_icmp .eq 406, 3) := by decide +kernel
theorem dL_law_141 : decode cL_law 141 = .ok (.iconst 0, 1) := by decide +kernel
theorem dL_law_142 : decode cL_law 142 = .ok (.ireturn, 1) := by decide +kernel
theorem dL_law_143 : decode cL_law 143 = .ok (.aload_n 1, 1) := by decide +kernel
theorem dL_law_144 : decode cL_law 144 = .ok (.invokevirtual 18, 3) := by decide +kernel
theorem dL_law_147 : decode cL_law 147 = .ok (.aload_n 2, 1) := by decide +kernel
theorem dL_law_148 : decode cL_law 148 = .ok (.invokevirtual 22, 3) := by decide +kernel
theorem dL_law_151 : decode cL_law 151 = .ok (.if_icmp .eq 393, 3) := by decide +kernel
theorem dL_law_154 : decode cL_law 154 = .ok (.iconst 0, 1) := by decide +kernel
theorem dL_law_155 : decode cL_law 155 = .ok (.ireturn, 1) := by decide +kernel
theorem dL_law_156 : decode cL_law 156 = .ok (.aload_n 1, 1) := by decide +kernel
theorem dL_law_157 : decode cL_law 157 = .ok (.invokevirtual 23, 3) := by decide +kernel
theorem dL_law_160 : decode cL_law 160 = .ok (.aload_n 2, 1) := by decide +kernel
theorem dL_law_161 : decode cL_law 161 = .ok (.invokevirtual 26, 3) := by decide +kernel
theorem dL_law_164 : decode cL_law 164 = .ok (.if_icmp .eq 380, 3) := by decide +kernel
theorem dL_law_167 : decode cL_law 167 = .ok (.iconst 0, 1) := by decide +kernel
theorem dL_law_168 : decode cL_law 168 = .ok (.ireturn, 1) := by decide +kernel
theorem dL_law_169 : decode cL_law 169 = .ok (.aload_n 1, 1) := by decide +kernel
theorem dL_law_170 : decode cL_law 170 = .ok (.aload_n 0, 1) := by decide +kernel
theorem dL_law_171 : decode cL_law 171 = .ok (.iload_n 3, 1) := by decide +kernel
theorem dL_law_172 : decode cL_law 172 = .ok (.iconst 1, 1) := by decide +kernel
theorem dL_law_173 : decode cL_law 173 = .ok (.iadd, 1) := by decide +kernel
theorem dL_law_174 : decode cL_law 174 = .ok (.iaload, 1) := by decide +kernel
theorem dL_law_175 : decode cL_law 175 = .ok (.invokevirtual 27, 3) := by decide +kernel
theorem dL_law_178 : decode cL_law 178 = .ok (.aload_n 2, 1) := by decide +kernel
theorem dL_law_179 : decode cL_law 179 = .ok (.aload_n 0, 1) := by decide +kernel
theorem dL_law_180 : decode cL_law 180 = .ok (.iload_n 3, 1) := by decide +kernel
theorem dL_law_181 : decode cL_law 181 = .ok (.iconst 1, 1) := by decide +kernel
theorem dL_law_182 : decode cL_law 182 = .ok (.iadd, 1) := by decide +kernel
theorem dL_law_183 : decode cL_law 183 = .ok (.iaload, 1) := by decide +kernel
theorem dL_law_184 : decode cL_law 184 = .ok (.invokevirtual 30, 3) := by decide +kernel
theorem dL_law_187 : decode cL_law 187 = .ok (.if_icmp .eq 357, 3) := by decide +kernel
theorem dL_law_190 : decode cL_law 190 = .ok (.iconst 0, 1) := by decide +kernel
theorem dL_law_191 : decode cL_law 191 = .ok (.ireturn, 1) := by decide +kernel
theorem dL_law_192 : decode cL_law 192 = .ok (.aload_n 1, 1) := by decide +kernel
theorem dL_law_193 : decode cL_law 193 = .ok (.aload_n 0, 1) := by decide +kernel
theorem dL_law_194 : decode cL_law 194 = .ok (.iload_n 3, 1) := by decide +kernel
theorem dL_law_195 : decode cL_law 195 = .ok (.iconst 1, 1) := by decide +kernel
theorem dL_law_196 : decode cL_law 196 = .ok (.iadd, 1) := by decide +kernel
theorem dL_law_197 : decode cL_law 197 = .ok (.iaload, 1) := by decide +kernel
theorem dL_law_198 : decode cL_law 198 = .ok (.invokevirtual 31, 3) := by decide +kernel
theorem dL_law_201 : decode cL_law 201 = .ok (.aload_n 2, 1) := by decide +kernel
theorem dL_law_202 : decode cL_law 202 = .ok (.aload_n 0, 1) := by decide +kernel
theorem dL_law_203 : decode cL_law 203 = .ok (.iload_n 3, 1) := by decide +kernel
theorem dL_law_204 : decode cL_law 204 = .ok (.iconst 1, 1) := by decide +kernel
theorem dL_law_205 : decode cL_law 205 = .ok (.iadd, 1) := by decide +kernel
theorem dL_law_206 : decode cL_law 206 = .ok (.iaload, 1) := by decide +kernel
theorem dL_law_207 : decode cL_law 207 = .ok (.invokevirtual 34, 3) := by decide +kernel
theorem dL_law_210 : decode cL_law 210 = .ok (.if_icmp .eq 334, 3) := by decide +kernel
theorem dL_law_213 : decode cL_law 213 = .ok (.iconst 0, 1) := by decide +kernel
theorem dL_law_214 : decode cL_law 214 = .ok (.ireturn, 1) := by decide +kernel
theorem dL_law_215 : decode cL_law 215 = .ok (.aload_n 1, 1) := by decide +kernel
theorem dL_law_216 : decode cL_law 216 = .ok (.invokevirtual 35, 3) := by decide +kernel
theorem dL_law_219 : decode cL_law 219 = .ok (.aload_n 2, 1) := by decide +kernel
theorem dL_law_220 : decode cL_law 220 = .ok (.invokevirtual 38, 3) := by decide +kernel
theorem dL_law_223 : decode cL_law 223 = .ok (.if_icmp .eq 321, 3) := by decide +kernel
theorem dL_law_226 : decode cL_law 226 = .ok (.iconst 0, 1) := by decide +kernel
theorem dL_law_227 : decode cL_law 227 = .ok (.ireturn, 1) := by decide +kernel
theorem dL_law_228 : decode cL_law 228 = .ok (.aload_n 1, 1) := by decide +kernel
theorem dL_law_229 : decode cL_law 229 = .ok (.aload_n 0, 1) := by decide +kernel
theorem dL_law_230 : decode cL_law 230 = .ok (.iload_n 3, 1) := by decide +kernel
theorem dL_law_231 : decode cL_law 231 = .ok (.iconst 1, 1) := by decide +kernel
theorem dL_law_232 : decode cL_law 232 = .ok (.iadd, 1) := by decide +kernel
theorem dL_law_233 : decode cL_law 233 = .ok (.iaload, 1) := by decide +kernel
theorem dL_law_234 : decode cL_law 234 = .ok (.aload_n 0, 1) := by decide +kernel
theorem dL_law_235 : decode cL_law 235 = .ok (.iload_n 3, 1) := by decide +kernel
theorem dL_law_236 : decode cL_law 236 = .ok (.iconst 2, 1) := by decide +kernel
theorem dL_law_237 : decode cL_law 237 = .ok (.iadd, 1) := by decide +kernel
theorem dL_law_238 : decode cL_law 238 = .ok (.iaload, 1) := by decide +kernel
theorem dL_law_239 : decode cL_law 239 = .ok (.invokevirtual 39, 3) := by decide +kernel
theorem dL_law_242 : decode cL_law 242 = .ok (.aload_n 2, 1) := by decide +kernel
theorem dL_law_243 : decode cL_law 243 = .ok (.aload_n 0, 1) := by decide +kernel
theorem dL_law_244 : decode cL_law 244 = .ok (.iload_n 3, 1) := by decide +kernel
theorem dL_law_245 : decode cL_law 245 = .ok (.iconst 1, 1) := by decide +kernel
theorem dL_law_246 : decode cL_law 246 = .ok (.iadd, 1) := by decide +kernel
theorem dL_law_247 : decode cL_law 247 = .ok (.iaload, 1) := by decide +kernel
theorem dL_law_248 : decode cL_law 248 = .ok (.aload_n 0, 1) := by decide +kernel
theorem dL_law_249 : decode cL_law 249 = .ok (.iload_n 3, 1) := by decide +kernel
theorem dL_law_250 : decode cL_law 250 = .ok (.iconst 2, 1) := by decide +kernel
theorem dL_law_251 : decode cL_law 251 = .ok (.iadd, 1) := by decide +kernel
theorem dL_law_252 : decode cL_law 252 = .ok (.iaload, 1) := by decide +kernel
theorem dL_law_253 : decode cL_law 253 = .ok (.invokevirtual 43, 3) := by decide +kernel
theorem dL_law_256 : decode cL_law 256 = .ok (.if_icmp .eq 288, 3) := by decide +kernel
theorem dL_law_259 : decode cL_law 259 = .ok (.iconst 0, 1) := by decide +kernel
theorem dL_law_260 : decode cL_law 260 = .ok (.ireturn, 1) := by decide +kernel
theorem dL_law_261 : decode cL_law 261 = .ok (.aload_n 1, 1) := by decide +kernel
theorem dL_law_262 : decode cL_law 262 = .ok (.aload_n 0, 1) := by decide +kernel
theorem dL_law_263 : decode cL_law 263 = .ok (.iload_n 3, 1) := by decide +kernel
theorem dL_law_264 : decode cL_law 264 = .ok (.iconst 1, 1) := by decide +kernel
theorem dL_law_265 : decode cL_law 265 = .ok (.iadd, 1) := by decide +kernel
theorem dL_law_266 : decode cL_law 266 = .ok (.iaload, 1) := by decide +kernel
theorem dL_law_267 : decode cL_law 267 = .ok (.aload_n 0, 1) := by decide +kernel
theorem dL_law_268 : decode cL_law 268 = .ok (.iload_n 3, 1) := by decide +kernel
theorem dL_law_269 : decode cL_law 269 = .ok (.iconst 2, 1) := by decide +kernel
theorem dL_law_270 : decode cL_law 270 = .ok (.iadd, 1) := by decide +kernel
theorem dL_law_271 : decode cL_law 271 = .ok (.iaload, 1) := by decide +kernel
theorem dL_law_272 : decode cL_law 272 = .ok (.invokevirtual 44, 3) := by decide +kernel
theorem dL_law_275 : decode cL_law 275 = .ok (.aload_n 2, 1) := by decide +kernel
theorem dL_law_276 : decode cL_law 276 = .ok (.aload_n 0, 1) := by decide +kernel
theorem dL_law_277 : decode cL_law 277 = .ok (.iload_n 3, 1) := by decide +kernel
theorem dL_law_278 : decode cL_law 278 = .ok (.iconst 1, 1) := by decide +kernel
theorem dL_law_279 : decode cL_law 279 = .ok (.iadd, 1) := by decide +kernel
theorem dL_law_280 : decode cL_law 280 = .ok (.iaload, 1) := by decide +kernel
theorem dL_law_281 : decode cL_law 281 = .ok (.aload_n 0, 1) := by decide +kernel
theorem dL_law_282 : decode cL_law 282 = .ok (.iload_n 3, 1) := by decide +kernel
theorem dL_law_283 : decode cL_law 283 = .ok (.iconst 2, 1) := by decide +kernel
theorem dL_law_284 : decode cL_law 284 = .ok (.iadd, 1) := by decide +kernel
theorem dL_law_285 : decode cL_law 285 = .ok (.iaload, 1) := by decide +kernel
theorem dL_law_286 : decode cL_law 286 = .ok (.invokevirtual 47, 3) := by decide +kernel
theorem dL_law_289 : decode cL_law 289 = .ok (.if_icmp .eq 255, 3) := by decide +kernel
theorem dL_law_292 : decode cL_law 292 = .ok (.iconst 0, 1) := by decide +kernel
theorem dL_law_293 : decode cL_law 293 = .ok (.ireturn, 1) := by decide +kernel
theorem dL_law_294 : decode cL_law 294 = .ok (.aload_n 1, 1) := by decide +kernel
theorem dL_law_295 : decode cL_law 295 = .ok (.aload_n 0, 1) := by decide +kernel
theorem dL_law_296 : decode cL_law 296 = .ok (.iload_n 3, 1) := by decide +kernel
theorem dL_law_297 : decode cL_law 297 = .ok (.iconst 1, 1) := by decide +kernel
theorem dL_law_298 : decode cL_law 298 = .ok (.iadd, 1) := by decide +kernel
theorem dL_law_299 : decode cL_law 299 = .ok (.iaload, 1) := by decide +kernel
theorem dL_law_300 : decode cL_law 300 = .ok (.aload_n 0, 1) := by decide +kernel
theorem dL_law_301 : decode cL_law 301 = .ok (.iload_n 3, 1) := by decide +kernel
theorem dL_law_302 : decode cL_law 302 = .ok (.iconst 2, 1) := by decide +kernel
theorem dL_law_303 : decode cL_law 303 = .ok (.iadd, 1) := by decide +kernel
theorem dL_law_304 : decode cL_law 304 = .ok (.iaload, 1) := by decide +kernel
theorem dL_law_305 : decode cL_law 305 = .ok (.invokevirtual 48, 3) := by decide +kernel
theorem dL_law_308 : decode cL_law 308 = .ok (.aload_n 2, 1) := by decide +kernel
theorem dL_law_309 : decode cL_law 309 = .ok (.aload_n 0, 1) := by decide +kernel
theorem dL_law_310 : decode cL_law 310 = .ok (.iload_n 3, 1) := by decide +kernel
theorem dL_law_311 : decode cL_law 311 = .ok (.iconst 1, 1) := by decide +kernel
theorem dL_law_312 : decode cL_law 312 = .ok (.iadd, 1) := by decide +kernel
theorem dL_law_313 : decode cL_law 313 = .ok (.iaload, 1) := by decide +kernel
theorem dL_law_314 : decode cL_law 314 = .ok (.aload_n 0, 1) := by decide +kernel
theorem dL_law_315 : decode cL_law 315 = .ok (.iload_n 3, 1) := by decide +kernel
theorem dL_law_316 : decode cL_law 316 = .ok (.iconst 2, 1) := by decide +kernel
theorem dL_law_317 : decode cL_law 317 = .ok (.iadd, 1) := by decide +kernel
theorem dL_law_318 : decode cL_law 318 = .ok (.iaload, 1) := by decide +kernel
theorem dL_law_319 : decode cL_law 319 = .ok (.invokevirtual 51, 3) := by decide +kernel
theorem dL_law_322 : decode cL_law 322 = .ok (.if_icmp .eq 222, 3) := by decide +kernel
theorem dL_law_325 : decode cL_law 325 = .ok (.iconst 0, 1) := by decide +kernel
theorem dL_law_326 : decode cL_law 326 = .ok (.ireturn, 1) := by decide +kernel
theorem dL_law_327 : decode cL_law 327 = .ok (.aload_n 1, 1) := by decide +kernel
theorem dL_law_328 : decode cL_law 328 = .ok (.aload_n 0, 1) := by decide +kernel
theorem dL_law_329 : decode cL_law 329 = .ok (.iload_n 3, 1) := by decide +kernel
theorem dL_law_330 : decode cL_law 330 = .ok (.iconst 1, 1) := by decide +kernel
theorem dL_law_331 : decode cL_law 331 = .ok (.iadd, 1) := by decide +kernel
theorem dL_law_332 : decode cL_law 332 = .ok (.iaload, 1) := by decide +kernel
theorem dL_law_333 : decode cL_law 333 = .ok (.aload_n 0, 1) := by decide +kernel
theorem dL_law_334 : decode cL_law 334 = .ok (.iload_n 3, 1) := by decide +kernel
theorem dL_law_335 : decode cL_law 335 = .ok (.iconst 2, 1) := by decide +kernel
theorem dL_law_336 : decode cL_law 336 = .ok (.iadd, 1) := by decide +kernel
theorem dL_law_337 : decode cL_law 337 = .ok (.iaload, 1) := by decide +kernel
theorem dL_law_338 : decode cL_law 338 = .ok (.invokevirtual 52, 3) := by decide +kernel
theorem dL_law_341 : decode cL_law 341 = .ok (.aload_n 2, 1) := by decide +kernel
theorem dL_law_342 : decode cL_law 342 = .ok (.aload_n 0, 1) := by decide +kernel
theorem dL_law_343 : decode cL_law 343 = .ok (.iload_n 3, 1) := by decide +kernel
theorem dL_law_344 : decode cL_law 344 = .ok (.iconst 1, 1) := by decide +kernel
theorem dL_law_345 : decode cL_law 345 = .ok (.iadd, 1) := by decide +kernel
theorem dL_law_346 : decode cL_law 346 = .ok (.iaload, 1) := by decide +kernel
theorem dL_law_347 : decode cL_law 347 = .ok (.aload_n 0, 1) := by decide +kernel
theorem dL_law_348 : decode cL_law 348 = .ok (.iload_n 3, 1) := by decide +kernel
theorem dL_law_349 : decode cL_law 349 = .ok (.iconst 2, 1) := by decide +kernel
theorem dL_law_350 : decode cL_law 350 = .ok (.iadd, 1) := by decide +kernel
theorem dL_law_351 : decode cL_law 351 = .ok (.iaload, 1) := by decide +kernel
theorem dL_law_352 : decode cL_law 352 = .ok (.invokevirtual 55, 3) := by decide +kernel
theorem dL_law_355 : decode cL_law 355 = .ok (.if_icmp .eq 189, 3) := by decide +kernel
theorem dL_law_358 : decode cL_law 358 = .ok (.iconst 0, 1) := by decide +kernel
theorem dL_law_359 : decode cL_law 359 = .ok (.ireturn, 1) := by decide +kernel
theorem dL_law_360 : decode cL_law 360 = .ok (.aload_n 1, 1) := by decide +kernel
theorem dL_law_361 : decode cL_law 361 = .ok (.invokevirtual 56, 3) := by decide +kernel
theorem dL_law_364 : decode cL_law 364 = .ok (.aload_n 2, 1) := by decide +kernel
theorem dL_law_365 : decode cL_law 365 = .ok (.invokevirtual 59, 3) := by decide +kernel
theorem dL_law_368 : decode cL_law 368 = .ok (.if_icmp .eq 176, 3) := by decide +kernel
theorem dL_law_371 : decode cL_law 371 = .ok (.iconst 0, 1) := by decide +kernel
theorem dL_law_372 : decode cL_law 372 = .ok (.ireturn, 1) := by decide +kernel
theorem dL_law_373 : decode cL_law 373 = .ok (.aload_n 1, 1) := by decide +kernel
theorem dL_law_374 : decode cL_law 374 = .ok (.aload_n 0, 1) := by decide +kernel
theorem dL_law_375 : decode cL_law 375 = .ok (.iload_n 3, 1) := by decide +kernel
theorem dL_law_376 : decode cL_law 376 = .ok (.iconst 1, 1) := by decide +kernel
theorem dL_law_377 : decode cL_law 377 = .ok (.iadd, 1) := by decide +kernel
theorem dL_law_378 : decode cL_law 378 = .ok (.iaload, 1) := by decide +kernel
theorem dL_law_379 : decode cL_law 379 = .ok (.invokevirtual 60, 3) := by decide +kernel
theorem dL_law_382 : decode cL_law 382 = .ok (.aload_n 2, 1) := by decide +kernel
theorem dL_law_383 : decode cL_law 383 = .ok (.aload_n 0, 1) := by decide +kernel
theorem dL_law_384 : decode cL_law 384 = .ok (.iload_n 3, 1) := by decide +kernel
theorem dL_law_385 : decode cL_law 385 = .ok (.iconst 1, 1) := by decide +kernel
theorem dL_law_386 : decode cL_law 386 = .ok (.iadd, 1) := by decide +kernel
theorem dL_law_387 : decode cL_law 387 = .ok (.iaload, 1) := by decide +kernel
theorem dL_law_388 : decode cL_law 388 = .ok (.invokevirtual 63, 3) := by decide +kernel
theorem dL_law_391 : decode cL_law 391 = .ok (.if_icmp .eq 153, 3) := by decide +kernel
theorem dL_law_394 : decode cL_law 394 = .ok (.iconst 0, 1) := by decide +kernel
theorem dL_law_395 : decode cL_law 395 = .ok (.ireturn, 1) := by decide +kernel
theorem dL_law_396 : decode cL_law 396 = .ok (.aload_n 1, 1) := by decide +kernel
theorem dL_law_397 : decode cL_law 397 = .ok (.aload_n 0, 1) := by decide +kernel
theorem dL_law_398 : decode cL_law 398 = .ok (.iload_n 3, 1) := by decide +kernel
theorem dL_law_399 : decode cL_law 399 = .ok (.iconst 1, 1) := by decide +kernel
theorem dL_law_400 : decode cL_law 400 = .ok (.iadd, 1) := by decide +kernel
theorem dL_law_401 : decode cL_law 401 = .ok (.iaload, 1) := by decide +kernel
theorem dL_law_402 : decode cL_law 402 = .ok (.aload_n 0, 1) := by decide +kernel
theorem dL_law_403 : decode cL_law 403 = .ok (.iload_n 3, 1) := by decide +kernel
theorem dL_law_404 : decode cL_law 404 = .ok (.iconst 2, 1) := by decide +kernel
theorem dL_law_405 : decode cL_law 405 = .ok (.iadd, 1) := by decide +kernel
theorem dL_law_406 : decode cL_law 406 = .ok (.iaload, 1) := by decide +kernel
theorem dL_law_407 : decode cL_law 407 = .ok (.aload_n 0, 1) := by decide +kernel
theorem dL_law_408 : decode cL_law 408 = .ok (.iload_n 3, 1) := by decide +kernel
theorem dL_law_409 : decode cL_law 409 = .ok (.iconst 3, 1) := by decide +kernel
theorem dL_law_410 : decode cL_law 410 = .ok (.iadd, 1) := by decide +kernel
theorem dL_law_411 : decode cL_law 411 = .ok (.iaload, 1) := by decide +kernel
theorem dL_law_412 : decode cL_law 412 = .ok (.invokevirtual 64, 3) := by decide +kernel
theorem dL_law_415 : decode cL_law 415 = .ok (.aload_n 2, 1) := by decide +kernel
theorem dL_law_416 : decode cL_law 416 = .ok (.aload_n 0, 1) := by decide +kernel
theorem dL_law_417 : decode cL_law 417 = .ok (.iload_n 3, 1) := by decide +kernel
theorem dL_law_418 : decode cL_law 418 = .ok (.iconst 1, 1) := by decide +kernel
theorem dL_law_419 : decode cL_law 419 = .ok (.iadd, 1) := by decide +kernel
theorem dL_law_420 : decode cL_law 420 = .ok (.iaload, 1) := by decide +kernel
theorem dL_law_421 : decode cL_law 421 = .ok (.aload_n 0, 1) := by decide +kernel
theorem dL_law_422 : decode cL_law 422 = .ok (.iload_n 3, 1) := by decide +kernel
theorem dL_law_423 : decode cL_law 423 = .ok (.iconst 2, 1) := by decide +kernel
theorem dL_law_424 : decode cL_law 424 = .ok (.iadd, 1) := by decide +kernel
theorem dL_law_425 : decode cL_law 425 = .ok (.iaload, 1) := by decide +kernel
theorem dL_law_426 : decode cL_law 426 = .ok (.aload_n 0, 1) := by decide +kernel
theorem dL_law_427 : decode cL_law 427 = .ok (.iload_n 3, 1) := by decide +kernel
theorem dL_law_428 : decode cL_law 428 = .ok (.iconst 3, 1) := by decide +kernel
theorem dL_law_429 : decode cL_law 429 = .ok (.iadd, 1) := by decide +kernel
theorem dL_law_430 : decode cL_law 430 = .ok (.iaload, 1) := by decide +kernel
theorem dL_law_431 : decode cL_law 431 = .ok (.invokevirtual 68, 3) := by decide +kernel
theorem dL_law_434 : decode cL_law 434 = .ok (.if_icmp .eq 110, 3) := by decide +kernel
theorem dL_law_437 : decode cL_law 437 = .ok (.iconst 0, 1) := by decide +kernel
theorem dL_law_438 : decode cL_law 438 = .ok (.ireturn, 1) := by decide +kernel
theorem dL_law_439 : decode cL_law 439 = .ok (.aload_n 1, 1) := by decide +kernel
theorem dL_law_440 : decode cL_law 440 = .ok (.invokevirtual 69, 3) := by decide +kernel
theorem dL_law_443 : decode cL_law 443 = .ok (.aload_n 2, 1) := by decide +kernel
theorem dL_law_444 : decode cL_law 444 = .ok (.invokevirtual 72, 3) := by decide +kernel
theorem dL_law_447 : decode cL_law 447 = .ok (.if_icmp .eq 97, 3) := by decide +kernel
theorem dL_law_450 : decode cL_law 450 = .ok (.iconst 0, 1) := by decide +kernel
theorem dL_law_451 : decode cL_law 451 = .ok (.ireturn, 1) := by decide +kernel
theorem dL_law_452 : decode cL_law 452 = .ok (.aload_n 1, 1) := by decide +kernel
theorem dL_law_453 : decode cL_law 453 = .ok (.aload_n 0, 1) := by decide +kernel
theorem dL_law_454 : decode cL_law 454 = .ok (.iload_n 3, 1) := by decide +kernel
theorem dL_law_455 : decode cL_law 455 = .ok (.iconst 1, 1) := by decide +kernel
theorem dL_law_456 : decode cL_law 456 = .ok (.iadd, 1) := by decide +kernel
theorem dL_law_457 : decode cL_law 457 = .ok (.iaload, 1) := by decide +kernel
theorem dL_law_458 : decode cL_law 458 = .ok (.invokevirtual 73, 3) := by decide +kernel
theorem dL_law_461 : decode cL_law 461 = .ok (.aload_n 2, 1) := by decide +kernel
theorem dL_law_462 : decode cL_law 462 = .ok (.aload_n 0, 1) := by decide +kernel
theorem dL_law_463 : decode cL_law 463 = .ok (.iload_n 3, 1) := by decide +kernel
theorem dL_law_464 : decode cL_law 464 = .ok (.iconst 1, 1) := by decide +kernel
theorem dL_law_465 : decode cL_law 465 = .ok (.iadd, 1) := by decide +kernel
theorem dL_law_466 : decode cL_law 466 = .ok (.iaload, 1) := by decide +kernel
theorem dL_law_467 : decode cL_law 467 = .ok (.invokevirtual 76, 3) := by decide +kernel
theorem dL_law_470 : decode cL_law 470 = .ok (.if_icmp .eq 74, 3) := by decide +kernel
theorem dL_law_473 : decode cL_law 473 = .ok (.iconst 0, 1) := by decide +kernel
theorem dL_law_474 : decode cL_law 474 = .ok (.ireturn, 1) := by decide +kernel
theorem dL_law_475 : decode cL_law 475 = .ok (.aload_n 1, 1) := by decide +kernel
theorem dL_law_476 : decode cL_law 476 = .ok (.aload_n 0, 1) := by decide +kernel
theorem dL_law_477 : decode cL_law 477 = .ok (.iload_n 3, 1) := by decide +kernel
theorem dL_law_478 : decode cL_law 478 = .ok (.iconst 1, 1) := by decide +kernel
theorem dL_law_479 : decode cL_law 479 = .ok (.iadd, 1) := by decide +kernel
theorem dL_law_480 : decode cL_law 480 = .ok (.iaload, 1) := by decide +kernel
theorem dL_law_481 : decode cL_law 481 = .ok (.invokevirtual 77, 3) := by decide +kernel
theorem dL_law_484 : decode cL_law 484 = .ok (.aload_n 2, 1) := by decide +kernel
theorem dL_law_485 : decode cL_law 485 = .ok (.aload_n 0, 1) := by decide +kernel
theorem dL_law_486 : decode cL_law 486 = .ok (.iload_n 3, 1) := by decide +kernel
theorem dL_law_487 : decode cL_law 487 = .ok (.iconst 1, 1) := by decide +kernel
theorem dL_law_488 : decode cL_law 488 = .ok (.iadd, 1) := by decide +kernel
theorem dL_law_489 : decode cL_law 489 = .ok (.iaload, 1) := by decide +kernel
theorem dL_law_490 : decode cL_law 490 = .ok (.invokevirtual 80, 3) := by decide +kernel
theorem dL_law_493 : decode cL_law 493 = .ok (.if_icmp .eq 51, 3) := by decide +kernel
theorem dL_law_496 : decode cL_law 496 = .ok (.iconst 0, 1) := by decide +kernel
theorem dL_law_497 : decode cL_law 497 = .ok (.ireturn, 1) := by decide +kernel
theorem dL_law_498 : decode cL_law 498 = .ok (.aload_n 1, 1) := by decide +kernel
theorem dL_law_499 : decode cL_law 499 = .ok (.aload_n 0, 1) := by decide +kernel
theorem dL_law_500 : decode cL_law 500 = .ok (.iload_n 3, 1) := by decide +kernel
theorem dL_law_501 : decode cL_law 501 = .ok (.iconst 1, 1) := by decide +kernel
theorem dL_law_502 : decode cL_law 502 = .ok (.iadd, 1) := by decide +kernel
theorem dL_law_503 : decode cL_law 503 = .ok (.iaload, 1) := by decide +kernel
theorem dL_law_504 : decode cL_law 504 = .ok (.invokevirtual 81, 3) := by decide +kernel
theorem dL_law_507 : decode cL_law 507 = .ok (.aload_n 2, 1) := by decide +kernel
theorem dL_law_508 : decode cL_law 508 = .ok (.aload_n 0, 1) := by decide +kernel
theorem dL_law_509 : decode cL_law 509 = .ok (.iload_n 3, 1) := by decide +kernel
theorem dL_law_510 : decode cL_law 510 = .ok (.iconst 1, 1) := by decide +kernel
theorem dL_law_511 : decode cL_law 511 = .ok (.iadd, 1) := by decide +kernel
theorem dL_law_512 : decode cL_law 512 = .ok (.iaload, 1) := by decide +kernel
theorem dL_law_513 : decode cL_law 513 = .ok (.invokevirtual 84, 3) := by decide +kernel
theorem dL_law_516 : decode cL_law 516 = .ok (.if_icmp .eq 28, 3) := by decide +kernel
theorem dL_law_519 : decode cL_law 519 = .ok (.iconst 0, 1) := by decide +kernel
theorem dL_law_520 : decode cL_law 520 = .ok (.ireturn, 1) := by decide +kernel
theorem dL_law_521 : decode cL_law 521 = .ok (.aload_n 1, 1) := by decide +kernel
theorem dL_law_522 : decode cL_law 522 = .ok (.aload_n 0, 1) := by decide +kernel
theorem dL_law_523 : decode cL_law 523 = .ok (.iload_n 3, 1) := by decide +kernel
theorem dL_law_524 : decode cL_law 524 = .ok (.iconst 1, 1) := by decide +kernel
theorem dL_law_525 : decode cL_law 525 = .ok (.iadd, 1) := by decide +kernel
theorem dL_law_526 : decode cL_law 526 = .ok (.iaload, 1) := by decide +kernel
theorem dL_law_527 : decode cL_law 527 = .ok (.invokevirtual 85, 3) := by decide +kernel
theorem dL_law_530 : decode cL_law 530 = .ok (.aload_n 2, 1) := by decide +kernel
theorem dL_law_531 : decode cL_law 531 = .ok (.aload_n 0, 1) := by decide +kernel
theorem dL_law_532 : decode cL_law 532 = .ok (.iload_n 3, 1) := by decide +kernel
theorem dL_law_533 : decode cL_law 533 = .ok (.iconst 1, 1) := by decide +kernel
theorem dL_law_534 : decode cL_law 534 = .ok (.iadd, 1) := by decide +kernel
theorem dL_law_535 : decode cL_law 535 = .ok (.iaload, 1) := by decide +kernel
theorem dL_law_536 : decode cL_law 536 = .ok (.invokevirtual 88, 3) := by decide +kernel
theorem dL_law_539 : decode cL_law 539 = .ok (.if_icmp .eq 5, 3) := by decide +kernel
theorem dL_law_542 : decode cL_law 542 = .ok (.iconst 0, 1) := by decide +kernel
theorem dL_law_543 : decode cL_law 543 = .ok (.ireturn, 1) := by decide +kernel
theorem dL_law_544 : decode cL_law 544 = .ok (.iinc 3 4, 3) := by decide +kernel
theorem dL_law_547 : decode cL_law 547 = .ok (.goto (-529), 3) := by decide +kernel
theorem dL_law_550 : decode cL_law 550 = .ok (.iconst 1, 1) := by decide +kernel
theorem dL_law_551 : decode cL_law 551 = .ok (.ireturn, 1) := by decide +kernel
end
section
/-! The machine of this claim, over the kit's rows: a heap by numbers (n: its size; sh: what each cell is, kind and length; I: its ints; R: its references), one row an instruction -/
abbrev mv_Sh : Type := Nat → Nat × Nat
abbrev mv_I : Type := Nat → Nat → Int32
abbrev mv_R : Type := Nat → Nat → Option Nat
abbrev mv_Q : Type := Option Value → Nat → mv_Sh → mv_I → mv_R → Prop
abbrev mv_M : Type := MethodName × ByteArray × Nat × Option FieldType
def mv_up {α : Type} (I : Nat → Nat → α) (a k : Nat) (v : α) : Nat → Nat → α := fun x j => if x = a ∧ j = k then v else I x j
def mv_rp {α : Type} (I : Nat → α) (a : Nat) (f : α) : Nat → α := fun x => if x = a then f else I x
def mv_W : List Cond := lw_tbl.filter goodWord
def mv_ws (M : mv_M) : List Cond := Cond.code M.1 M.2.1 M.2.2.1 M.2.2.2 :: mv_W
theorem mv_inW {w : Cond} (h : w ∈ lw_tbl) (hg : goodWord w = true) : w ∈ mv_W := List.mem_filter.mpr ⟨h, hg⟩
theorem mv_ofW {w : Cond} (h : w ∈ mv_W) : w ∈ lw_tbl ∧ goodWord w = true := List.mem_filter.mp h
def mv_N (ci : Nat) : Nat := match ci with
  | 0 => 3 | 1 => 9 | 2 => 3 | 3 => 17 | 4 => 6 | 5 => 14 | _ => 34
def mv_Cn (ci : Nat) : String := match ci with
  | 0 => RX0 | 1 => RX1 | 2 => RX2 | 3 => RX3 | 4 => RX4 | 5 => RX5 | _ => RX6
def mv_T (ci : Nat) : u_T := match ci with
  | 0 => TX0 | 1 => TX1 | 2 => TX2 | 3 => TX3 | 4 => TX4 | 5 => TX5 | _ => TX6
def mv_ty (ci : Nat) : Nat → FieldType := match ci with
  | 0 => tyX0 | 1 => tyX1 | 2 => tyX2 | 3 => tyX3 | 4 => tyX4 | 5 => tyX5 | _ => tyX6
theorem mv_c7 {P : Nat → Prop} {ci : Nat} (h : ci < 7) (h0 : P 0) (h1 : P 1) (h2 : P 2) (h3 : P 3) (h4 : P 4) (h5 : P 5) (h6 : P 6) : P ci := by
  match ci, h with
  | 0, _ => exact h0
  | 1, _ => exact h1
  | 2, _ => exact h2
  | 3, _ => exact h3
  | 4, _ => exact h4
  | 5, _ => exact h5
  | 6, _ => exact h6
theorem mv_cl {ci : Nat} (h : ci < 7) : vwCl[ci]? = some (mv_Cn ci, mv_T ci, mv_N ci) := mv_c7 (P := fun ci => vwCl[ci]? = some (mv_Cn ci, mv_T ci, mv_N ci)) h rfl rfl rfl rfl rfl rfl rfl
theorem mv_lay {C : String} {T : u_T} {N : Nat} (h : ∀ w ∈ u_ws C T N, w ∈ lw_tbl) : ∀ w ∈ u_ws C T N, w ∈ mv_W := by
  intro w hw
  refine mv_inW (h w hw) ?_
  obtain ⟨k, -, rfl⟩ := List.mem_map.mp hw
  unfold u_lay
  split <;> rfl
theorem mv_lays {ci : Nat} (h : ci < 7) : ∀ w ∈ u_ws (mv_Cn ci) (mv_T ci) (mv_N ci), w ∈ mv_W := mv_c7 (P := fun ci => ∀ w ∈ u_ws (mv_Cn ci) (mv_T ci) (mv_N ci), w ∈ mv_W) h (mv_lay inX0) (mv_lay inX1) (mv_lay inX2) (mv_lay inX3) (mv_lay inX4) (mv_lay inX5) (mv_lay inX6)
theorem mv_nm {ci : Nat} (h : ci < 7) : ∀ a, a < mv_N ci → ∀ b, b < mv_N ci → a ≠ b → (mv_T ci a).2.1 ≠ (mv_T ci b).2.1 := mv_c7 (P := fun ci => ∀ a, a < mv_N ci → ∀ b, b < mv_N ci → a ≠ b → (mv_T ci a).2.1 ≠ (mv_T ci b).2.1) h nmX0 nmX1 nmX2 nmX3 nmX4 nmX5 nmX6
theorem mv_tyok {ci : Nat} (h : ci < 7) : ∀ k, k < mv_N ci → parseFieldDescriptor (mv_T ci k).2.2.1 = some (mv_ty ci k) := mv_c7 (P := fun ci => ∀ k, k < mv_N ci → parseFieldDescriptor (mv_T ci k).2.2.1 = some (mv_ty ci k)) h tyX0_ok tyX1_ok tyX2_ok tyX3_ok tyX4_ok tyX5_ok tyX6_ok
/-- a field's value: an int, or a reference -/
def mv_fv (ty : FieldType) (x : Int32) (r : Option Nat) : Value := match ty with
  | .int => .int x
  | _ => va_rf r
/-- a cell: kinds 0 to 6 objects, 7 int[], 8 boolean[], 9 Run[] -/
def mv_at (D : va_G) (s : State) (H : Heap) (a : Nat) (q : Nat × Nat) (I : Nat → Int32) (R : Nat → Option Nat) : Prop :=
  (q.1 < 7 → t_OB a (D.1 q.1) (mv_N q.1) (D.2 q.1) H (fun k => mv_fv (mv_ty q.1 k) (I k) (R k))) ∧
  (q.1 = 7 → ∃ cA : ClassId, H[a]? = some (vp_cell cA (q.2, .inl I)) ∧ ArrOfT s cA .int) ∧
  (q.1 = 8 → ∃ cA : ClassId, H[a]? = some (vp_cell cA (q.2, .inl I)) ∧ ArrOfT s cA .boolean) ∧
  (q.1 = 9 → ∃ cA : ClassId, H[a]? = some (vp_cell cA (q.2, .inr (.inr (.inr (.inr R))))) ∧ ArrOfT s cA (.object RX3) ∧ va_RA s cA (.object RX3))
theorem mv_at.kept {D : va_G} {s : State} {H H1 : Heap} {a : Nat} {q : Nat × Nat} {I : Nat → Int32} {R : Nat → Option Nat} (h : mv_at D s H a q I R) (e : H1[a]? = H[a]?) : mv_at D s H1 a q I R := by
  obtain ⟨h1, h2, h3, h4⟩ := h
  exact ⟨fun k => (h1 k).kept e, fun k => by rw [e]; exact h2 k, fun k => by rw [e]; exact h3 k, fun k => by rw [e]; exact h4 k⟩
theorem mv_at.moved {D : va_G} {u U : State} {H : Heap} {a : Nat} {q : Nat × Nat} {I : Nat → Int32} {R : Nat → Option Nat} (hvm : u.vm.Alike U.vm) (h : mv_at D u H a q I R) : mv_at D U H a q I R := by
  obtain ⟨h1, h2, h3, h4⟩ := h
  refine ⟨h1, fun k => ?_, fun k => ?_, fun k => ?_⟩
  · obtain ⟨cA, a1, a2⟩ := h2 k
    exact ⟨cA, a1, arrOfT_moved hvm a2⟩
  · obtain ⟨cA, a1, a2⟩ := h3 k
    exact ⟨cA, a1, arrOfT_moved hvm a2⟩
  · obtain ⟨cA, a1, a2, a3⟩ := h4 k
    exact ⟨cA, a1, arrOfT_moved hvm a2, a3.moved hvm⟩
def mv_H (D : va_G) (b0 n : Nat) (sh : mv_Sh) (I : mv_I) (R : mv_R) (s : State) (H : Heap) : Prop :=
  H.size = n ∧ (∀ a : Nat, (sh a).1 < 10 → b0 ≤ a ∧ a < n) ∧ ∀ a : Nat, mv_at D s H a (sh a) (I a) (R a)
theorem mv_H.moved {D : va_G} {b0 n : Nat} {sh : mv_Sh} {I : mv_I} {R : mv_R} {u U : State} {H : Heap} (hvm : u.vm.Alike U.vm) (h : mv_H D b0 n sh I R u H) : mv_H D b0 n sh I R U H := ⟨h.1, h.2.1, fun a => (h.2.2 a).moved hvm⟩
/-- one cell is written -/
theorem mv_H.set {D : va_G} {b0 n : Nat} {sh : mv_Sh} {I I' : mv_I} {R R' : mv_R} {s : State} {H H1 : Heap} (h : mv_H D b0 n sh I R s H) {a : Nat} (z : H1.size = H.size) (oq : ∀ q : Nat, q ≠ a → H1[q]? = H[q]?) (hI : ∀ x, x ≠ a → I' x = I x) (hR : ∀ x, x ≠ a → R' x = R x) (ha : mv_at D s H1 a (sh a) (I' a) (R' a)) : mv_H D b0 n sh I' R' s H1 := by
  refine ⟨z.trans h.1, h.2.1, fun x => ?_⟩
  by_cases hx : x = a
  · subst hx; exact ha
  · rw [hI x hx, hR x hx]
    exact (h.2.2 x).kept (oq x hx)
/-- the locals: a null stands for what isn't known -/
def mv_L (ls : Array Slot) (nL : Nat) (loc : List Value) : Prop := ls.size = nL ∧ lv_wf ls ∧ ∀ (j : Nat) (v : Value), loc[j]? = some v → v.category = 1 ∧ (v ≠ .null → ls[j]? = some (.val v))
theorem mv_L.at {ls : Array Slot} {nL : Nat} {loc : List Value} (h : mv_L ls nL loc) {j : Nat} {v : Value} (hj : loc[j]? = some v) (hv : v ≠ .null) : ls[j]? = some (.val v) := (h.2.2 j v hj).2 hv
theorem mv_L.store {ls : Array Slot} {nL : Nat} {loc : List Value} (h : mv_L ls nL loc) {i : Nat} {v : Value} (hi : i < nL) (hv : v.category = 1) (hn : v ≠ .null) {ls' : Array Slot} (hs : storeLocals ls i v = some ls') : mv_L ls' nL (loc.set i v) := by
  have base : lv_has ls nL [] := ⟨h.1, h.2.1, fun q hq => by cases hq⟩
  obtain ⟨l0, e0, p0⟩ := lv_store1 base hi hv
  cases hs.symm.trans e0
  refine ⟨p0.1, p0.2.1, fun j w hj => ?_⟩
  by_cases hji : j = i
  · subst hji
    rw [List.getElem?_set] at hj
    simp only [if_true] at hj
    split at hj
    · cases hj
      exact ⟨hv, fun _ => p0.2.2 (j, v) List.mem_cons_self⟩
    · cases hj
  · rw [List.getElem?_set_ne (Ne.symm hji)] at hj
    obtain ⟨c1, c2⟩ := h.2.2 j w hj
    refine ⟨c1, fun hw => ?_⟩
    have one : lv_has ls nL [(j, w)] := ⟨h.1, h.2.1, fun q hq => by rw [List.mem_singleton.mp hq]; exact c2 hw⟩
    obtain ⟨l1, e1, p1⟩ := lv_store1 one hi hv
    cases hs.symm.trans e1
    refine p1.2.2 (j, w) (List.mem_cons_of_mem _ ?_)
    simp [hji, c1]
def mv_K (D : va_G) (U : State) : Prop := va_K D vwCl [] U ∧ va_AO RX3 U ∧ va_Nw (.methodLinkNest RX5 9 yX4_init RX5) U
def mv_Cx (D : va_G) (b0 : Nat) (M : mv_M) (p : Program) (s : State) (m : MethodId) (args : Array Value) (meth : Method) (c : Code) : Prop :=
  p.tables.exec = Jvm.exec ∧ c.code = M.2.1 ∧ c.maxLocals = M.2.2.1 ∧ s.vm.findClass M.1.cls = some m.cls ∧ (∀ w ∈ mv_ws M, w.before args s = true) ∧ mv_K D s ∧ meth.locks = false ∧ meth.sig.returnType = M.2.2.2 ∧ meth.name = M.1.name ∧ b0 ≤ s.heap.size
def mv_Qc (D : va_G) (b0 : Nat) (Q : mv_Q) : Array Value → State → Outcome → State → Prop := fun _ st oc t => (∃ (v : Option Value) (n : Nat) (sh : mv_Sh) (I : mv_I) (R : mv_R), oc = .returned v ∧ Q v n sh I R ∧ mv_H D b0 n sh I R t t.heap) ∧ va_F (fun q => b0 ≤ q) st t
def mv_E (l : Launch) (D : va_G) (b0 : Nat) (M : mv_M) (rm : Room) (Q : mv_Q) (pc : Nat) (loc stk : List Value) (ac sl n : Nat) (sh : mv_Sh) (I : mv_I) (R : mv_R) : Prop :=
  ∀ (p : Program) (e : Env) (s : State) (m : MethodId) (args : Array Value) (below : List Frame) (meth : Method) (c : Code) (H : Heap) (locs : List Loc) (ls : Array Slot),
    mv_Cx D b0 M p s m args meth c → mv_L ls M.2.2.1 loc → mv_H D b0 n sh I R s H → va_S (fun q => b0 ≤ q) s.heap H locs →
    W p l e rm s m args below meth c H locs ac sl (MQ below (mv_Qc D b0 Q) args s rm.cells rm.slots (fun q => b0 ≤ q)) (F0 m pc ls stk)
/-- a method's contract -/
def mv_C (l : Launch) (D : va_G) (b0 : Nat) (M : mv_M) (rm : Room) (av : List Value) (n : Nat) (sh : mv_Sh) (I : mv_I) (R : mv_R) (Q : mv_Q) : Prop :=
  Met l M.1 (mv_ws M) rm (va_Pc av (fun U => mv_H D b0 n sh I R U U.heap ∧ mv_K D U ∧ b0 ≤ U.heap.size)) (mv_Qc D b0 Q) rm.cells rm.slots (fun q => b0 ≤ q)
theorem mv_args : ∀ (vs : List Value) (i : Nat), (∀ v ∈ vs, v.category = 1) → ∀ (j : Nat) (v : Value), vs[j]? = some v → (i + j, v) ∈ lv_args i vs
  | [], _, _, j, v, h => by simp at h
  | w :: vs, i, hc, j, v, h => by
    have hw := hc w List.mem_cons_self
    have e : lv_args i (w :: vs) = (i, w) :: lv_args (i + 1) vs := by simp [lv_args, hw]
    rw [e]
    cases j with
    | zero =>
      simp at h
      subst h
      exact List.mem_cons_self
    | succ j =>
      simp at h
      have := mv_args vs (i + 1) (fun v hv => hc v (List.mem_cons_of_mem _ hv)) j v h
      rw [show i + (j + 1) = i + 1 + j by omega]
      exact List.mem_cons_of_mem _ this
theorem mv_sl : ∀ (vs : List Value), (∀ v ∈ vs, v.category = 1) → (lg_sl vs).length = vs.length
  | [], _ => rfl
  | w :: vs, hc => by
    have hw := hc w List.mem_cons_self
    have ih := mv_sl vs (fun v hv => hc v (List.mem_cons_of_mem _ hv))
    unfold lg_sl at ih ⊢
    simp [hw, ih]
section MV
variable {l : Launch} {D : va_G} {b0 : Nat} {M : mv_M} {rm : Room} {Q : mv_Q} {pc : Nat} {loc stk : List Value} {ac sl n : Nat} {sh : mv_Sh} {I : mv_I} {R : mv_R}
theorem mv_C.of {av : List Value} (k : Nat) (hy : plainName M.1.cls = true) (hc : ∀ v ∈ av, v.category = 1) (hk : M.2.2.1 = av.length + k)
    (E : mv_E l D b0 M rm Q 0 (av ++ List.replicate k .null) [] 0 0 n sh I R) : mv_C l D b0 M rm av n sh I R Q := by
  refine Met.ofW (cc := M.2.1) (maxL := M.2.2.1) (ret := M.2.2.2) hy rfl ?_
  intro p e s m args below meth c s₁ B hml hv
  obtain ⟨rfl, hH, hK, hb0⟩ := hv
  have hts := atoms_spec (ws := mv_ws M) B.pre
  have hsz := mv_sl av hc
  have hl := lv_entry av (n := M.2.2.1) (by rw [hsz, hk]; omega)
  rw [lg_entry_eq]
  refine E p e s m _ below meth c s.heap [] _ ⟨B.exec, B.bytes, hml, findClass_of_methodNamed B.named, hts, hK, B.notSynchronized, B.returns, (name_of_methodNamed B.named B.method).1, hb0⟩ ⟨hl.1, hl.2.1, fun j v hj => ?_⟩ hH va_S.rf
  by_cases hjl : j < av.length
  · rw [List.getElem?_append_left hjl] at hj
    refine ⟨hc v (List.mem_of_getElem? hj), fun _ => ?_⟩
    have := mv_args av 0 hc j v hj
    rw [Nat.zero_add] at this
    exact hl.2.2 (j, v) this
  · rw [List.getElem?_append_right (by omega)] at hj
    have := List.mem_of_getElem? hj
    rw [List.mem_replicate] at this
    rw [this.2]
    exact ⟨rfl, fun h => absurd rfl h⟩
theorem mv_C.weaken {av : List Value} {Q2 : mv_Q} (h : mv_C l D b0 M rm av n sh I R Q) (hq : ∀ v n' sh' I' R', Q v n' sh' I' R' → Q2 v n' sh' I' R') : mv_C l D b0 M rm av n sh I R Q2 := by
  intro p e ha hc hk s m args below hf happ hP hK
  obtain ⟨k, o, h1, h2, h3, ⟨⟨v, n', sh', I', R', q1, q2, q3⟩, q4⟩, h5⟩ := h p e ha hc hk s m args below hf happ hP hK
  exact ⟨k, o, h1, h2, h3, ⟨⟨v, n', sh', I', R', q1, hq _ _ _ _ _ q2, q3⟩, q4⟩, h5⟩
theorem mv_E.weaken {Q2 : mv_Q} (h : mv_E l D b0 M rm Q pc loc stk ac sl n sh I R) (hq : ∀ v n' sh' I' R', Q v n' sh' I' R' → Q2 v n' sh' I' R') : mv_E l D b0 M rm Q2 pc loc stk ac sl n sh I R := by
  intro p e s m args below meth c H locs ls C L hH hS T hT X
  obtain ⟨t, a1, o, b1, b2, ⟨⟨v, n', sh', I', R', q1, q2, q3⟩, q4⟩, b4⟩ := h p e s m args below meth c H locs ls C L hH hS T hT X
  exact ⟨t, a1, o, b1, b2, ⟨⟨v, n', sh', I', R', q1, hq _ _ _ _ _ q2, q3⟩, q4⟩, b4⟩
theorem mv_step {pc' : Nat} {stk' : List Value}
    (h : ∀ {p : Program} {e : Env} {s : State} {m : MethodId} {args : Array Value} {below : List Frame} {meth : Method} {c : Code} {H : Heap} {locs : List Loc} {ls : Array Slot} {QQ : State → Prop}, p.tables.exec = Jvm.exec → c.code = M.2.1 →
      W p l e rm s m args below meth c H locs ac sl QQ (F0 m pc' ls stk') → W p l e rm s m args below meth c H locs ac sl QQ (F0 m pc ls stk))
    (kk : mv_E l D b0 M rm Q pc' loc stk' ac sl n sh I R) : mv_E l D b0 M rm Q pc loc stk ac sl n sh I R := by
  intro p e s m args below meth c H locs ls C L hH hS
  exact h C.1 C.2.1 (kk p e s m args below meth c H locs ls C L hH hS)
theorem mv_iconst {k : Int} {v : Int32} (hd : decode M.2.1 pc = .ok (.iconst k, 1)) (hv : Int32.ofInt k = v) (kk : mv_E l D b0 M rm Q (pc + 1) loc (.int v :: stk) ac sl n sh I R) : mv_E l D b0 M rm Q pc loc stk ac sl n sh I R := mv_step (fun hx hb k => lv_iconst hx hb hd hv k) kk
theorem mv_bipush {k : Int} {v : Int32} (hd : decode M.2.1 pc = .ok (.bipush k, 2)) (hv : (Int8.ofInt k).toInt32 = v) (kk : mv_E l D b0 M rm Q (pc + 2) loc (.int v :: stk) ac sl n sh I R) : mv_E l D b0 M rm Q pc loc stk ac sl n sh I R := mv_step (fun hx hb k => lv_bipush hx hb hd hv k) kk
theorem mv_sipush {k : Int} {v : Int32} (hd : decode M.2.1 pc = .ok (.sipush k, 3)) (hv : (Int16.ofInt k).toInt32 = v) (kk : mv_E l D b0 M rm Q (pc + 3) loc (.int v :: stk) ac sl n sh I R) : mv_E l D b0 M rm Q pc loc stk ac sl n sh I R := mv_step (fun hx hb k => lv_sipush hx hb hd hv k) kk
theorem mv_iadd {x y : Int32} (hd : decode M.2.1 pc = .ok (.iadd, 1)) (kk : mv_E l D b0 M rm Q (pc + 1) loc (.int (x + y) :: stk) ac sl n sh I R) : mv_E l D b0 M rm Q pc loc (.int y :: .int x :: stk) ac sl n sh I R := mv_step (fun hx hb k => lv_iadd hx hb hd k) kk
theorem mv_isub {x y : Int32} (hd : decode M.2.1 pc = .ok (.isub, 1)) (kk : mv_E l D b0 M rm Q (pc + 1) loc (.int (x - y) :: stk) ac sl n sh I R) : mv_E l D b0 M rm Q pc loc (.int y :: .int x :: stk) ac sl n sh I R := mv_step (fun hx hb k => lv_isub hx hb hd k) kk
theorem mv_imul {x y : Int32} (hd : decode M.2.1 pc = .ok (.imul, 1)) (kk : mv_E l D b0 M rm Q (pc + 1) loc (.int (x * y) :: stk) ac sl n sh I R) : mv_E l D b0 M rm Q pc loc (.int y :: .int x :: stk) ac sl n sh I R := mv_step (fun hx hb k => lv_imul hx hb hd k) kk
theorem mv_irem {x y : Int32} (hd : decode M.2.1 pc = .ok (.irem, 1)) (hne : ¬ y = 0) (kk : mv_E l D b0 M rm Q (pc + 1) loc (.int (x - x / y * y) :: stk) ac sl n sh I R) : mv_E l D b0 M rm Q pc loc (.int y :: .int x :: stk) ac sl n sh I R := mv_step (fun hx hb k => lv_irem hx hb hd hne k) kk
theorem mv_ishl {x y : Int32} (hd : decode M.2.1 pc = .ok (.ishl, 1)) (kk : mv_E l D b0 M rm Q (pc + 1) loc (.int (x <<< (y &&& 31)) :: stk) ac sl n sh I R) : mv_E l D b0 M rm Q pc loc (.int y :: .int x :: stk) ac sl n sh I R := mv_step (fun hx hb k => lv_ishl hx hb hd k) kk
theorem mv_ishr {x y : Int32} (hd : decode M.2.1 pc = .ok (.ishr, 1)) (kk : mv_E l D b0 M rm Q (pc + 1) loc (.int (x >>> (y &&& 31)) :: stk) ac sl n sh I R) : mv_E l D b0 M rm Q pc loc (.int y :: .int x :: stk) ac sl n sh I R := mv_step (fun hx hb k => lv_ishr hx hb hd k) kk
theorem mv_iand {x y : Int32} (hd : decode M.2.1 pc = .ok (.iand, 1)) (kk : mv_E l D b0 M rm Q (pc + 1) loc (.int (x &&& y) :: stk) ac sl n sh I R) : mv_E l D b0 M rm Q pc loc (.int y :: .int x :: stk) ac sl n sh I R := mv_step (fun hx hb k => lv_iand hx hb hd k) kk
theorem mv_ior {x y : Int32} (hd : decode M.2.1 pc = .ok (.ior, 1)) (kk : mv_E l D b0 M rm Q (pc + 1) loc (.int (x ||| y) :: stk) ac sl n sh I R) : mv_E l D b0 M rm Q pc loc (.int y :: .int x :: stk) ac sl n sh I R := mv_step (fun hx hb k => lv_ior hx hb hd k) kk
theorem mv_dup {v : Value} (hd : decode M.2.1 pc = .ok (.dup, 1)) (hv : v.category = 1) (kk : mv_E l D b0 M rm Q (pc + 1) loc (v :: v :: stk) ac sl n sh I R) : mv_E l D b0 M rm Q pc loc (v :: stk) ac sl n sh I R := mv_step (fun hx hb k => lv_dup hx hb hd hv k) kk
theorem mv_dup2 {v w : Value} (hd : decode M.2.1 pc = .ok (.dup2, 1)) (hv : v.category = 1) (hw : w.category = 1) (kk : mv_E l D b0 M rm Q (pc + 1) loc (v :: w :: v :: w :: stk) ac sl n sh I R) : mv_E l D b0 M rm Q pc loc (v :: w :: stk) ac sl n sh I R := mv_step (fun hx hb k => lv_dup2_11 hx hb hd hv hw k) kk
theorem mv_pop {v : Value} (hd : decode M.2.1 pc = .ok (.pop, 1)) (hv : v.category = 1) (kk : mv_E l D b0 M rm Q (pc + 1) loc stk ac sl n sh I R) : mv_E l D b0 M rm Q pc loc (v :: stk) ac sl n sh I R := mv_step (fun hx hb k => lv_pop hx hb hd hv k) kk
theorem mv_goto {off : Int} {tgt : Nat} (hd : decode M.2.1 pc = .ok (.goto off, 3)) (ht : (pc : Int) + off = (tgt : Int)) (kk : mv_E l D b0 M rm Q tgt loc stk ac sl n sh I R) : mv_E l D b0 M rm Q pc loc stk ac sl n sh I R := mv_step (fun hx hb k => lv_goto hx hb hd ht k) kk
theorem mv_iload_n {k : Fin 4} {x : Int32} (hd : decode M.2.1 pc = .ok (.iload_n k, 1)) (hl : loc[(k : Nat)]? = some (.int x)) (kk : mv_E l D b0 M rm Q (pc + 1) loc (.int x :: stk) ac sl n sh I R) : mv_E l D b0 M rm Q pc loc stk ac sl n sh I R := by
  intro p e s m args below meth c H locs ls C L hH hS
  exact lv_iload_n C.1 C.2.1 hd rfl (L.at hl (fun h => by cases h)) (kk p e s m args below meth c H locs ls C L hH hS)
theorem mv_iload {k : Nat} {x : Int32} (hd : decode M.2.1 pc = .ok (.iload k, 2)) (hl : loc[k]? = some (.int x)) (kk : mv_E l D b0 M rm Q (pc + 2) loc (.int x :: stk) ac sl n sh I R) : mv_E l D b0 M rm Q pc loc stk ac sl n sh I R := by
  intro p e s m args below meth c H locs ls C L hH hS
  exact lv_iload C.1 C.2.1 hd (L.at hl (fun h => by cases h)) (kk p e s m args below meth c H locs ls C L hH hS)
theorem mv_aload_n {k : Fin 4} {x : Nat} (hd : decode M.2.1 pc = .ok (.aload_n k, 1)) (hl : loc[(k : Nat)]? = some (.ref x)) (kk : mv_E l D b0 M rm Q (pc + 1) loc (.ref x :: stk) ac sl n sh I R) : mv_E l D b0 M rm Q pc loc stk ac sl n sh I R := by
  intro p e s m args below meth c H locs ls C L hH hS
  exact lv_aload_n C.1 C.2.1 hd rfl (L.at hl (fun h => by cases h)) (kk p e s m args below meth c H locs ls C L hH hS)
theorem mv_L.use {ls : Array Slot} {nL i : Nat} {v : Value} {loc : List Value} (L : mv_L ls nL loc) (hi : i < nL) (hc : v.category = 1) (hn : v ≠ .null) {lv' : List (Nat × Value)} (hl : (i, v) :: ([] : List (Nat × Value)).filter (fun q => !(q.1 == i) && !(q.1 + 1 == i && q.2.category == 2)) = lv') {P : Array Slot → Prop} (kk : ∀ ls', mv_L ls' nL (loc.set i v) → P ls') : ∀ ls', storeLocals ls i v = some ls' → P ls' := fun ls' h => kk ls' (L.store hi hc hn h)
theorem mv_stI {k : Nat} {x : Int32} {pc' : Nat} (hk : k < M.2.2.1)
    (h : ∀ {p : Program} {e : Env} {s : State} {m : MethodId} {args : Array Value} {below : List Frame} {meth : Method} {c : Code} {H : Heap} {locs : List Loc} {ls ls' : Array Slot} {QQ : State → Prop}, p.tables.exec = Jvm.exec → c.code = M.2.1 → storeLocals ls k (.int x) = some ls' → W p l e rm s m args below meth c H locs ac sl QQ (F0 m pc' ls' stk) → W p l e rm s m args below meth c H locs ac sl QQ (F0 m pc ls (.int x :: stk)))
    (kk : mv_E l D b0 M rm Q pc' (loc.set k (.int x)) stk ac sl n sh I R) : mv_E l D b0 M rm Q pc loc (.int x :: stk) ac sl n sh I R := by
  intro p e s m args below meth c H locs ls C L hH hS
  obtain ⟨ls', e', -⟩ := lv_store1 (v := .int x) (show lv_has ls M.2.2.1 [] from ⟨L.1, L.2.1, fun q hq => by cases hq⟩) hk rfl
  exact h C.1 C.2.1 e' (kk p e s m args below meth c H locs ls' C (L.store hk rfl (fun h => by cases h) e') hH hS)
theorem mv_istore_n {k : Fin 4} {x : Int32} (hd : decode M.2.1 pc = .ok (.istore_n k, 1)) (hk : (k : Nat) < M.2.2.1) (kk : mv_E l D b0 M rm Q (pc + 1) (loc.set k (.int x)) stk ac sl n sh I R) : mv_E l D b0 M rm Q pc loc (.int x :: stk) ac sl n sh I R := by
  refine mv_stI (k := k) hk ?_ kk
  intro p e s m args below meth c H locs ls ls' QQ hexec hb e' kw T hT X
  obtain ⟨t, a, b⟩ := kw T hT X
  refine ⟨t, ?_, b⟩
  jvm_step X.here [X.here.top, ↓top_set X.here.top, hexec, hb, hd, e']
  exact a
theorem mv_istore {k : Nat} {x : Int32} (hd : decode M.2.1 pc = .ok (.istore k, 2)) (hk : k < M.2.2.1) (kk : mv_E l D b0 M rm Q (pc + 2) (loc.set k (.int x)) stk ac sl n sh I R) : mv_E l D b0 M rm Q pc loc (.int x :: stk) ac sl n sh I R := by
  refine mv_stI (k := k) hk ?_ kk
  intro p e s m args below meth c H locs ls ls' QQ hexec hb e' kw T hT X
  obtain ⟨t, a, b⟩ := kw T hT X
  refine ⟨t, ?_, b⟩
  jvm_step X.here [X.here.top, ↓top_set X.here.top, hexec, hb, hd, e']
  exact a
theorem mv_iinc {k : Nat} {d : Int} {x v : Int32} (hd : decode M.2.1 pc = .ok (.iinc k d, 3)) (hk : k < M.2.2.1) (hl : loc[k]? = some (.int x)) (hv : x + Int32.ofInt d = v) (kk : mv_E l D b0 M rm Q (pc + 3) (loc.set k (.int v)) stk ac sl n sh I R) : mv_E l D b0 M rm Q pc loc stk ac sl n sh I R := by
  intro p e s m args below meth c H locs ls C L hH hS
  have hg := L.at hl (fun h => by cases h)
  obtain ⟨ls', e', -⟩ := lv_store1 (v := .int (x + Int32.ofInt d)) (show lv_has ls M.2.2.1 [] from ⟨L.1, L.2.1, fun q hq => by cases hq⟩) hk rfl
  have hexec := C.1
  have hb := C.2.1
  have kw := kk p e s m args below meth c H locs ls' C (by rw [← hv]; exact L.store hk rfl (fun h => by cases h) e') hH hS
  intro T hT X
  obtain ⟨t, a, b⟩ := kw T hT X
  refine ⟨t, ?_, b⟩
  jvm_step X.here [X.here.top, ↓top_set X.here.top, hexec, hb, hd, hg, e']
  exact a
end MV
end
section
section MB
variable {l : Launch} {D : va_G} {b0 : Nat} {M : mv_M} {rm : Room} {Q : mv_Q} {pc : Nat} {loc stk : List Value} {ac sl n : Nat} {sh : mv_Sh} {I : mv_I} {R : mv_R}
theorem mv_icmp_eq {x y : Int32} {off : Int} {tgt : Nat} (hd : decode M.2.1 pc = .ok (.if_icmp .eq off, 3)) (ht : (pc : Int) + off = (tgt : Int)) (kt : x = y → mv_E l D b0 M rm Q tgt loc stk ac sl n sh I R) (kf : ¬ x = y → mv_E l D b0 M rm Q (pc + 3) loc stk ac sl n sh I R) : mv_E l D b0 M rm Q pc loc (.int y :: .int x :: stk) ac sl n sh I R := by
  intro p e s m args below meth c H locs ls C L hH hS
  exact lv_icmp_eq C.1 C.2.1 hd ht (fun h => kt h p e s m args below meth c H locs ls C L hH hS) (fun h => kf h p e s m args below meth c H locs ls C L hH hS)
theorem mv_icmp_ne {x y : Int32} {off : Int} {tgt : Nat} (hd : decode M.2.1 pc = .ok (.if_icmp .ne off, 3)) (ht : (pc : Int) + off = (tgt : Int)) (kt : ¬ x = y → mv_E l D b0 M rm Q tgt loc stk ac sl n sh I R) (kf : x = y → mv_E l D b0 M rm Q (pc + 3) loc stk ac sl n sh I R) : mv_E l D b0 M rm Q pc loc (.int y :: .int x :: stk) ac sl n sh I R := by
  intro p e s m args below meth c H locs ls C L hH hS
  exact lv_icmp_ne C.1 C.2.1 hd ht (fun h => kt h p e s m args below meth c H locs ls C L hH hS) (fun h => kf h p e s m args below meth c H locs ls C L hH hS)
theorem mv_icmp_lt {x y : Int32} {off : Int} {tgt : Nat} (hd : decode M.2.1 pc = .ok (.if_icmp .lt off, 3)) (ht : (pc : Int) + off = (tgt : Int)) (kt : x < y → mv_E l D b0 M rm Q tgt loc stk ac sl n sh I R) (kf : ¬ x < y → mv_E l D b0 M rm Q (pc + 3) loc stk ac sl n sh I R) : mv_E l D b0 M rm Q pc loc (.int y :: .int x :: stk) ac sl n sh I R := by
  intro p e s m args below meth c H locs ls C L hH hS
  exact lv_icmp_lt C.1 C.2.1 hd ht (fun h => kt h p e s m args below meth c H locs ls C L hH hS) (fun h => kf h p e s m args below meth c H locs ls C L hH hS)
theorem mv_icmp_ge {x y : Int32} {off : Int} {tgt : Nat} (hd : decode M.2.1 pc = .ok (.if_icmp .ge off, 3)) (ht : (pc : Int) + off = (tgt : Int)) (kt : y ≤ x → mv_E l D b0 M rm Q tgt loc stk ac sl n sh I R) (kf : ¬ y ≤ x → mv_E l D b0 M rm Q (pc + 3) loc stk ac sl n sh I R) : mv_E l D b0 M rm Q pc loc (.int y :: .int x :: stk) ac sl n sh I R := by
  intro p e s m args below meth c H locs ls C L hH hS
  exact lv_icmp_ge C.1 C.2.1 hd ht (fun h => kt h p e s m args below meth c H locs ls C L hH hS) (fun h => kf h p e s m args below meth c H locs ls C L hH hS)
theorem mv_icmp_gt {x y : Int32} {off : Int} {tgt : Nat} (hd : decode M.2.1 pc = .ok (.if_icmp .gt off, 3)) (ht : (pc : Int) + off = (tgt : Int)) (kt : y < x → mv_E l D b0 M rm Q tgt loc stk ac sl n sh I R) (kf : ¬ y < x → mv_E l D b0 M rm Q (pc + 3) loc stk ac sl n sh I R) : mv_E l D b0 M rm Q pc loc (.int y :: .int x :: stk) ac sl n sh I R := by
  intro p e s m args below meth c H locs ls C L hH hS
  exact lv_icmp_gt C.1 C.2.1 hd ht (fun h => kt h p e s m args below meth c H locs ls C L hH hS) (fun h => kf h p e s m args below meth c H locs ls C L hH hS)
theorem mv_icmp_le {x y : Int32} {off : Int} {tgt : Nat} (hd : decode M.2.1 pc = .ok (.if_icmp .le off, 3)) (ht : (pc : Int) + off = (tgt : Int)) (kt : x ≤ y → mv_E l D b0 M rm Q tgt loc stk ac sl n sh I R) (kf : ¬ x ≤ y → mv_E l D b0 M rm Q (pc + 3) loc stk ac sl n sh I R) : mv_E l D b0 M rm Q pc loc (.int y :: .int x :: stk) ac sl n sh I R := by
  intro p e s m args below meth c H locs ls C L hH hS
  exact lv_icmp_le C.1 C.2.1 hd ht (fun h => kt h p e s m args below meth c H locs ls C L hH hS) (fun h => kf h p e s m args below meth c H locs ls C L hH hS)
theorem mv_if_eq {x : Int32} {off : Int} {tgt : Nat} (hd : decode M.2.1 pc = .ok (.ifCond .eq off, 3)) (ht : (pc : Int) + off = (tgt : Int)) (kt : x = 0 → mv_E l D b0 M rm Q tgt loc stk ac sl n sh I R) (kf : ¬ x = 0 → mv_E l D b0 M rm Q (pc + 3) loc stk ac sl n sh I R) : mv_E l D b0 M rm Q pc loc (.int x :: stk) ac sl n sh I R := by
  intro p e s m args below meth c H locs ls C L hH hS
  exact lv_if_eq C.1 C.2.1 hd ht (fun h => kt h p e s m args below meth c H locs ls C L hH hS) (fun h => kf h p e s m args below meth c H locs ls C L hH hS)
theorem mv_if_ne {x : Int32} {off : Int} {tgt : Nat} (hd : decode M.2.1 pc = .ok (.ifCond .ne off, 3)) (ht : (pc : Int) + off = (tgt : Int)) (kt : ¬ x = 0 → mv_E l D b0 M rm Q tgt loc stk ac sl n sh I R) (kf : x = 0 → mv_E l D b0 M rm Q (pc + 3) loc stk ac sl n sh I R) : mv_E l D b0 M rm Q pc loc (.int x :: stk) ac sl n sh I R := by
  intro p e s m args below meth c H locs ls C L hH hS
  exact lv_if_ne C.1 C.2.1 hd ht (fun h => kt h p e s m args below meth c H locs ls C L hH hS) (fun h => kf h p e s m args below meth c H locs ls C L hH hS)
theorem mv_if_lt {x : Int32} {off : Int} {tgt : Nat} (hd : decode M.2.1 pc = .ok (.ifCond .lt off, 3)) (ht : (pc : Int) + off = (tgt : Int)) (kt : x < 0 → mv_E l D b0 M rm Q tgt loc stk ac sl n sh I R) (kf : ¬ x < 0 → mv_E l D b0 M rm Q (pc + 3) loc stk ac sl n sh I R) : mv_E l D b0 M rm Q pc loc (.int x :: stk) ac sl n sh I R := by
  intro p e s m args below meth c H locs ls C L hH hS
  exact lv_if_lt C.1 C.2.1 hd ht (fun h => kt h p e s m args below meth c H locs ls C L hH hS) (fun h => kf h p e s m args below meth c H locs ls C L hH hS)
theorem mv_if_ge {x : Int32} {off : Int} {tgt : Nat} (hd : decode M.2.1 pc = .ok (.ifCond .ge off, 3)) (ht : (pc : Int) + off = (tgt : Int)) (kt : 0 ≤ x → mv_E l D b0 M rm Q tgt loc stk ac sl n sh I R) (kf : ¬ 0 ≤ x → mv_E l D b0 M rm Q (pc + 3) loc stk ac sl n sh I R) : mv_E l D b0 M rm Q pc loc (.int x :: stk) ac sl n sh I R := by
  intro p e s m args below meth c H locs ls C L hH hS
  exact lv_if_ge C.1 C.2.1 hd ht (fun h => kt h p e s m args below meth c H locs ls C L hH hS) (fun h => kf h p e s m args below meth c H locs ls C L hH hS)
theorem mv_if_gt {x : Int32} {off : Int} {tgt : Nat} (hd : decode M.2.1 pc = .ok (.ifCond .gt off, 3)) (ht : (pc : Int) + off = (tgt : Int)) (kt : 0 < x → mv_E l D b0 M rm Q tgt loc stk ac sl n sh I R) (kf : ¬ 0 < x → mv_E l D b0 M rm Q (pc + 3) loc stk ac sl n sh I R) : mv_E l D b0 M rm Q pc loc (.int x :: stk) ac sl n sh I R := by
  intro p e s m args below meth c H locs ls C L hH hS
  exact lv_if_gt C.1 C.2.1 hd ht (fun h => kt h p e s m args below meth c H locs ls C L hH hS) (fun h => kf h p e s m args below meth c H locs ls C L hH hS)
theorem mv_if_le {x : Int32} {off : Int} {tgt : Nat} (hd : decode M.2.1 pc = .ok (.ifCond .le off, 3)) (ht : (pc : Int) + off = (tgt : Int)) (kt : x ≤ 0 → mv_E l D b0 M rm Q tgt loc stk ac sl n sh I R) (kf : ¬ x ≤ 0 → mv_E l D b0 M rm Q (pc + 3) loc stk ac sl n sh I R) : mv_E l D b0 M rm Q pc loc (.int x :: stk) ac sl n sh I R := by
  intro p e s m args below meth c H locs ls C L hH hS
  exact lv_if_le C.1 C.2.1 hd ht (fun h => kt h p e s m args below meth c H locs ls C L hH hS) (fun h => kf h p e s m args below meth c H locs ls C L hH hS)
theorem mv_tswIn {dflt lo hi : Int} {offs : Array Int} {len : Nat} {x : Int32} {off : Int} {tgt : Nat} (hd : decode M.2.1 pc = .ok (.tableswitch dflt lo hi offs, len)) (h1 : ¬ x.toInt < lo) (h2 : ¬ hi < x.toInt) (ho : offs[(x.toInt - lo).toNat]? = some off) (ht : (pc : Int) + off = (tgt : Int)) (kk : mv_E l D b0 M rm Q tgt loc stk ac sl n sh I R) : mv_E l D b0 M rm Q pc loc (.int x :: stk) ac sl n sh I R := mv_step (fun hx hb k => lv_tableIn hx hb hd h1 h2 ho ht k) kk
theorem mv_tswOut {dflt lo hi : Int} {offs : Array Int} {len : Nat} {x : Int32} {tgt : Nat} (hd : decode M.2.1 pc = .ok (.tableswitch dflt lo hi offs, len)) (h : x.toInt < lo ∨ hi < x.toInt) (ht : (pc : Int) + dflt = (tgt : Int)) (kk : mv_E l D b0 M rm Q tgt loc stk ac sl n sh I R) : mv_E l D b0 M rm Q pc loc (.int x :: stk) ac sl n sh I R := mv_step (fun hx hb k => lv_tableOut hx hb hd h ht k) kk
theorem mv_lsw {dflt : Int} {ps : Array (Int × Int)} {len : Nat} {x : Int32} {off : Int} {tgt : Nat} (hd : decode M.2.1 pc = .ok (.lookupswitch dflt ps, len)) (hp : (ps.toList.zip (ps.toList.drop 1)).all (fun (a, next) => a.1 < next.1) = true) (ho : Op.lookupswitch.offset ps.toList dflt x.toInt = off) (ht : (pc : Int) + off = (tgt : Int)) (kk : mv_E l D b0 M rm Q tgt loc stk ac sl n sh I R) : mv_E l D b0 M rm Q pc loc (.int x :: stk) ac sl n sh I R := mv_step (fun hx hb k => lv_lookup hx hb hd hp ho ht k) kk
theorem mv_Cx.w {p : Program} {s : State} {m : MethodId} {args : Array Value} {meth : Method} {c : Code} (C : mv_Cx D b0 M p s m args meth c) : ∀ w ∈ mv_W, w.before args s = true := fun w h => C.2.2.2.2.1 w (List.mem_cons_of_mem _ h)
theorem mv_ldc {idx : Nat} {v : Int32} (hd : decode M.2.1 pc = .ok (.ldc idx, 2)) (hw : Cond.constant M.1.cls idx v ∈ mv_W) (kk : mv_E l D b0 M rm Q (pc + 2) loc (.int v :: stk) ac sl n sh I R) : mv_E l D b0 M rm Q pc loc stk ac sl n sh I R := by
  intro p e s m args below meth c H locs ls C L hH hS
  exact lv_ldc C.1 C.2.1 C.2.2.2.1 (C.w _ hw) hd (kk p e s m args below meth c H locs ls C L hH hS)
/-- a link to a field: its class and its place there -/
def mv_FL (own : String) (idx ci k : Nat) : Prop := ci < 7 ∧ k < mv_N ci ∧ Cond.fieldLink own idx (mv_T ci k).1 (mv_T ci k).2.1 (mv_T ci k).2.2.1 ∈ mv_W
theorem mv_get {ci k a idx : Nat} {v : Value} (hd : decode M.2.1 pc = .ok (.getfield idx, 3)) (hF : mv_FL M.1.cls idx ci k) (ha : (sh a).1 = ci) (hv : mv_fv (mv_ty ci k) (I a k) (R a k) = v) (kk : mv_E l D b0 M rm Q (pc + 3) loc (v :: stk) ac sl n sh I R) : mv_E l D b0 M rm Q pc loc (.ref a :: stk) ac sl n sh I R := by
  intro p e s m args below meth c H locs ls C L hH hS
  obtain ⟨h7, hk, hw⟩ := hF
  subst ha
  obtain ⟨cell, q1, q2, q3, q4⟩ := (hH.2.2 a).1 h7
  obtain ⟨hSl, hfc, kC, hkC, hkind⟩ := C.2.2.2.2.2.1.1.1 _ _ (mv_cl h7)
  obtain ⟨cf, kf, fi, f, hi, hsl⟩ := hSl k hk
  refine W.getf C.1 C.2.1 C.2.2.2.1 (C.w _ hw) hi (u_facts hfc hkC (u_lays C.w (mv_lays h7) hk) hi).1 q1 (by rw [q3]; exact fun h => by cases h) (v := v) ?_ rfl rfl hd (kk p e s m args below meth c H locs ls C L hH hS)
  rw [hsl, q4 k hk]
  exact congrArg some hv
theorem mv_getI {ci k a idx : Nat} (hd : decode M.2.1 pc = .ok (.getfield idx, 3)) (hF : mv_FL M.1.cls idx ci k) (hi : mv_ty ci k = .int) (ha : (sh a).1 = ci) (kk : mv_E l D b0 M rm Q (pc + 3) loc (.int (I a k) :: stk) ac sl n sh I R) : mv_E l D b0 M rm Q pc loc (.ref a :: stk) ac sl n sh I R := mv_get hd hF ha (by rw [hi]; rfl) kk
theorem mv_getR {ci k a q idx : Nat} (hd : decode M.2.1 pc = .ok (.getfield idx, 3)) (hF : mv_FL M.1.cls idx ci k) (hi : ∀ x r, mv_fv (mv_ty ci k) x r = va_rf r) (ha : (sh a).1 = ci) (hq : R a k = some q) (kk : mv_E l D b0 M rm Q (pc + 3) loc (.ref q :: stk) ac sl n sh I R) : mv_E l D b0 M rm Q pc loc (.ref a :: stk) ac sl n sh I R := mv_get hd hF ha (by rw [hi, hq]; rfl) kk
theorem mv_apart {p : Program} {s : State} {m : MethodId} {args : Array Value} {meth : Method} {c : Code} (C : mv_Cx D b0 M p s m args meth c) {ci : Nat} (h7 : ci < 7) : ∀ x y, x < mv_N ci → y < mv_N ci → x ≠ y → (D.2 ci) x ≠ (D.2 ci) y := va_apart (own := M.1.cls) C.w (mv_lays h7) (mv_ty ci) (mv_tyok h7) (mv_nm h7) C.2.2.2.2.2.1.1 (mv_cl h7)
theorem mv_atO {s : State} {H : Heap} {a ci x : Nat} {I : Nat → Int32} {R : Nat → Option Nat} (h7 : ci < 7) (h : t_OB a (D.1 ci) (mv_N ci) (D.2 ci) H (fun k => mv_fv (mv_ty ci k) (I k) (R k))) : mv_at D s H a (ci, x) I R := ⟨fun _ => h, fun h => absurd h (by show ¬ ci = 7; omega), fun h => absurd h (by show ¬ ci = 8; omega), fun h => absurd h (by show ¬ ci = 9; omega)⟩
theorem mv_put {ci k a idx : Nat} {v : Value} {I' : mv_I} {R' : mv_R} (hd : decode M.2.1 pc = .ok (.putfield idx, 3)) (hF : mv_FL M.1.cls idx ci k) (ha : (sh a).1 = ci) (hfin : (mv_T ci k).2.2.2 = false ∨ ((mv_T ci k).2.2.2 = true ∧ M.1.name = "<init>" ∧ (mv_T ci k).1 = M.1.cls)) (hn : narrow (mv_ty ci k) v = v) (hfit : fits (mv_ty ci k) v = true)
    (hI : ∀ x, x ≠ a → I' x = I x) (hR : ∀ x, x ≠ a → R' x = R x) (hV : ∀ j, j < mv_N ci → updV (fun k => mv_fv (mv_ty ci k) (I a k) (R a k)) k v j = mv_fv (mv_ty ci j) (I' a j) (R' a j))
    (kk : mv_E l D b0 M rm Q (pc + 3) loc stk ac sl n sh I' R') : mv_E l D b0 M rm Q pc loc (v :: .ref a :: stk) ac sl n sh I R := by
  intro p e s m args below meth c H locs ls C L hH hS
  obtain ⟨h7, hk, hw⟩ := hF
  subst ha
  have hap := mv_apart C h7
  obtain ⟨cell, q1, q2, q3, q4⟩ := (hH.2.2 a).1 h7
  obtain ⟨hSl, hfc, kC, hkC, hkind⟩ := C.2.2.2.2.2.1.1.1 _ _ (mv_cl h7)
  obtain ⟨cf, kf, fi, f, hi, hsl⟩ := hSl k hk
  have hlay := C.w _ (mv_lays h7 _ (u_in_lay hk))
  have hst := (u_facts hfc hkC (u_lays C.w (mv_lays h7) hk) hi).1
  have hA : b0 ≤ a := (hH.2.1 a (by omega)).1
  have fin : ∀ H' : Heap, H'[a]? = some (cell.setSlot f.slot v) → H'.size = H.size → (∀ q, q ≠ a → H'[q]? = H[q]?) → W p l e rm s m args below meth c H' (locs ++ [⟨a, f.slot⟩]) ac sl (MQ below (mv_Qc D b0 Q) args s rm.cells rm.slots (fun q => b0 ≤ q)) (F0 m (pc + 3) ls stk) := by
    intro H' e1 e2 e3
    rw [hsl] at e1 ⊢
    refine kk p e s m args below meth c H' _ ls C L (hH.set (a := a) e2 e3 hI hR ?_) (hS.put e2 e3 hA)
    exact mv_atO (x := (sh a).2) h7 (t_OB.to ⟨_, e1, q2, q3, t_set q4 hap hk v⟩ hV)
  unfold u_lay at hlay
  rcases hfin with hf | ⟨hf, hin, hdecl⟩
  · rw [if_neg (by rw [hf]; decide)] at hlay
    have h6 := u_store hfc hkC hkind hlay hi (mv_tyok h7 k hk) hn hfit
    exact W.putK C.1 C.2.1 (f := f) ⟨C.2.2.2.1, C.w _ hw, ⟨_, _, _, hi⟩, hst⟩ (by rw [q2]; exact h6) q1 q3 (by rw [hsl]; exact k2_hasslot (q4 k hk)) rfl rfl hd fin
  · rw [if_pos hf] at hlay
    have hcf : m.cls = cf := by
      obtain ⟨_, _, c', _, _, _, -, -, hf', -, -, -, hown2, -⟩ := Cond.laysFinal_spec hlay
      have e1 : c' = cf := by have := hi.symm.trans hf'; simp at this; exact this.1.symm
      rw [hdecl] at hown2
      rw [← e1]; exact Option.some.inj (C.2.2.2.1.symm.trans hown2)
    have h6 := u_fits hfc hkC hkind (Or.inr hlay) hi (mv_tyok h7 k hk) hn hfit
    exact W.putFinK C.1 C.2.1 C.2.2.2.1 (C.w _ hw) hi hst hcf (C.2.2.2.2.2.2.2.2.1.trans hin) (by rw [q2]; exact h6) q1 q3 (by rw [hsl]; exact k2_hasslot (q4 k hk)) rfl rfl hd fin
theorem mv_putI {ci k a idx : Nat} {x : Int32} (hd : decode M.2.1 pc = .ok (.putfield idx, 3)) (hF : mv_FL M.1.cls idx ci k) (hi : mv_ty ci k = .int) (hfin : (mv_T ci k).2.2.2 = false) (ha : (sh a).1 = ci) (kk : mv_E l D b0 M rm Q (pc + 3) loc stk ac sl n sh (mv_up I a k x) R) : mv_E l D b0 M rm Q pc loc (.int x :: .ref a :: stk) ac sl n sh I R := by
  refine mv_put hd hF ha (Or.inl hfin) (by rw [hi]; rfl) (by rw [hi]; rfl) (I' := mv_up I a k x) (R' := R) (fun y hy => ?_) (fun _ _ => rfl) (fun j hj => ?_) kk
  · funext j; simp [mv_up, hy]
  · by_cases hjk : j = k
    · subst hjk; simp [updV, mv_up, hi, mv_fv]
    · simp [updV, mv_up, hjk]
theorem mv_putR {ci k a q idx : Nat} (hd : decode M.2.1 pc = .ok (.putfield idx, 3)) (hF : mv_FL M.1.cls idx ci k) (hi : ∀ x r, mv_fv (mv_ty ci k) x r = va_rf r) (hfin : (mv_T ci k).2.2.2 = false ∨ ((mv_T ci k).2.2.2 = true ∧ M.1.name = "<init>" ∧ (mv_T ci k).1 = M.1.cls)) (hn : narrow (mv_ty ci k) (.ref q) = .ref q) (hfit : fits (mv_ty ci k) (.ref q) = true) (ha : (sh a).1 = ci) (kk : mv_E l D b0 M rm Q (pc + 3) loc stk ac sl n sh I (mv_up R a k (some q))) : mv_E l D b0 M rm Q pc loc (.ref q :: .ref a :: stk) ac sl n sh I R := by
  refine mv_put hd hF ha hfin hn hfit (I' := I) (R' := mv_up R a k (some q)) (fun _ _ => rfl) (fun y hy => ?_) (fun j hj => ?_) kk
  · funext j; simp [mv_up, hy]
  · by_cases hjk : j = k
    · subst hjk; simp [updV, mv_up, hi, va_rf]
    · simp [updV, mv_up, hjk]
theorem mv_at7 {s : State} {H : Heap} {a len : Nat} {I : Nat → Int32} {R : Nat → Option Nat} {cA : ClassId} (h : H[a]? = some (vp_cell cA (len, .inl I))) (h2 : ArrOfT s cA .int) : mv_at D s H a (7, len) I R := ⟨fun h => absurd h (by simp), fun _ => ⟨cA, h, h2⟩, fun h => absurd h (by simp), fun h => absurd h (by simp)⟩
theorem mv_at8 {s : State} {H : Heap} {a len : Nat} {I : Nat → Int32} {R : Nat → Option Nat} {cA : ClassId} (h : H[a]? = some (vp_cell cA (len, .inl I))) (h2 : ArrOfT s cA .boolean) : mv_at D s H a (8, len) I R := ⟨fun h => absurd h (by simp), fun h => absurd h (by simp), fun _ => ⟨cA, h, h2⟩, fun h => absurd h (by simp)⟩
theorem mv_at9 {s : State} {H : Heap} {a len : Nat} {I : Nat → Int32} {R : Nat → Option Nat} {cA : ClassId} (h : H[a]? = some (vp_cell cA (len, .inr (.inr (.inr (.inr R)))))) (h2 : ArrOfT s cA (.object RX3)) (h3 : va_RA s cA (.object RX3)) : mv_at D s H a (9, len) I R := ⟨fun h => absurd h (by simp), fun h => absurd h (by simp), fun h => absurd h (by simp), fun _ => ⟨cA, h, h2, h3⟩⟩
theorem mv_ss {cA : ClassId} {len k : Nat} {f : Nat → Int32} {x : Int32} (hk : k < 2 ^ 31) : (vp_cell cA (len, .inl f)).setSlot (nI k).toNatClampNeg (.int x) = vp_cell cA (len, .inl (fun j => if j = k then x else f j)) := by
  rw [nI_clamp hk, vp_cell_i, vp_cell_i, arrV_store]
  congr 1
  funext j
  by_cases h : j = k
  · simp [updV, h]
  · simp [updV, h]
theorem mv_upA {I : mv_I} {a k : Nat} {x : Int32} : mv_up I a k x a = fun j => if j = k then x else I a j := by
  funext j; simp [mv_up]
theorem mv_upN {α : Type} {I : Nat → Nat → α} {a k : Nat} {x : α} (y : Nat) (hy : y ≠ a) : mv_up I a k x y = I y := by
  funext j; simp [mv_up, hy]
theorem mv_iald {a k len : Nat} {i : Int32} (hd : decode M.2.1 pc = .ok (.iaload, 1)) (ha : sh a = (7, len)) (hi : i = nI k) (hk : k < len) (kk : mv_E l D b0 M rm Q (pc + 1) loc (.int (I a k) :: stk) ac sl n sh I R) (hl : len < 2 ^ 31 := by decide) : mv_E l D b0 M rm Q pc loc (.int i :: .ref a :: stk) ac sl n sh I R := by
  intro p e s m args below meth c H locs ls C L hH hS
  subst hi
  obtain ⟨cA, c1, c2⟩ := (hH.2.2 a).2.1 (by rw [ha])
  rw [ha] at c1
  exact W.iald (v := .int (I a k)) C.1 C.2.1 c1 (c2 len (fun j => .int (I a j))) (fun q => by cases q) (by show ¬ (_ < 0 ∨ (arrV _ _ _).slots.size ≤ _); rw [arrV_size]; exact nI_in hk hl) (by show (arrV _ _ _).slots[_]? = _; rw [nI_clamp (Nat.lt_trans hk hl), arrV_read _ _ hk]) rfl rfl hd (kk p e s m args below meth c H locs ls C L hH hS)
theorem mv_zald {a k len : Nat} {i : Int32} (hd : decode M.2.1 pc = .ok (.baload, 1)) (ha : sh a = (8, len)) (hi : i = nI k) (hk : k < len) (kk : mv_E l D b0 M rm Q (pc + 1) loc (.int (I a k) :: stk) ac sl n sh I R) (hl : len < 2 ^ 31 := by decide) : mv_E l D b0 M rm Q pc loc (.int i :: .ref a :: stk) ac sl n sh I R := by
  intro p e s m args below meth c H locs ls C L hH hS
  subst hi
  obtain ⟨cA, c1, c2⟩ := (hH.2.2 a).2.2.1 (by rw [ha])
  rw [ha] at c1
  exact W.zald (v := .int (I a k)) C.1 C.2.1 c1 (c2 len (fun j => .int (I a j))) (fun q => by cases q) (by show ¬ (_ < 0 ∨ (arrV _ _ _).slots.size ≤ _); rw [arrV_size]; exact nI_in hk hl) (by show (arrV _ _ _).slots[_]? = _; rw [nI_clamp (Nat.lt_trans hk hl), arrV_read _ _ hk]) rfl rfl hd (kk p e s m args below meth c H locs ls C L hH hS)
theorem mv_iast {a k len : Nat} {i x : Int32} (hd : decode M.2.1 pc = .ok (.iastore, 1)) (ha : sh a = (7, len)) (hi : i = nI k) (hk : k < len) (kk : mv_E l D b0 M rm Q (pc + 1) loc stk ac sl n sh (mv_up I a k x) R) (hl : len < 2 ^ 31 := by decide) : mv_E l D b0 M rm Q pc loc (.int x :: .int i :: .ref a :: stk) ac sl n sh I R := by
  intro p e s m args below meth c H locs ls C L hH hS
  subst hi
  obtain ⟨cA, c1, c2⟩ := (hH.2.2 a).2.1 (by rw [ha])
  rw [ha] at c1
  have hA : b0 ≤ a := (hH.2.1 a (by rw [ha]; simp)).1
  refine W.iast C.1 C.2.1 c1 (c2 len (fun j => .int (I a j))) (fun q => by cases q) (by show ¬ (_ < 0 ∨ (arrV _ _ _).slots.size ≤ _); rw [arrV_size]; exact nI_in hk hl) rfl rfl hd fun H1 e1 z oq => ?_
  refine kk p e s m args below meth c H1 _ ls C L (hH.set (a := a) z oq (fun y hy => mv_upN y hy) (fun _ _ => rfl) ?_) (hS.put z oq hA)
  rw [ha, mv_upA]
  exact mv_at7 (e1.trans (congrArg some (mv_ss (Nat.lt_trans hk hl)))) c2
theorem mv_zast {a k len : Nat} {i x : Int32} (hd : decode M.2.1 pc = .ok (.bastore, 1)) (ha : sh a = (8, len)) (hi : i = nI k) (hx : narrow .boolean (.int x) = .int x) (hk : k < len) (kk : mv_E l D b0 M rm Q (pc + 1) loc stk ac sl n sh (mv_up I a k x) R) (hl : len < 2 ^ 31 := by decide) : mv_E l D b0 M rm Q pc loc (.int x :: .int i :: .ref a :: stk) ac sl n sh I R := by
  intro p e s m args below meth c H locs ls C L hH hS
  subst hi
  obtain ⟨cA, c1, c2⟩ := (hH.2.2 a).2.2.1 (by rw [ha])
  rw [ha] at c1
  have hA : b0 ≤ a := (hH.2.1 a (by rw [ha]; simp)).1
  refine W.zast C.1 C.2.1 c1 (c2 len (fun j => .int (I a j))) (fun q => by cases q) (by show ¬ (_ < 0 ∨ (arrV _ _ _).slots.size ≤ _); rw [arrV_size]; exact nI_in hk hl) rfl rfl hd fun H1 e1 z oq => ?_
  rw [hx] at e1
  refine kk p e s m args below meth c H1 _ ls C L (hH.set (a := a) z oq (fun y hy => mv_upN y hy) (fun _ _ => rfl) ?_) (hS.put z oq hA)
  rw [ha, mv_upA]
  exact mv_at8 (e1.trans (congrArg some (mv_ss (Nat.lt_trans hk hl)))) c2
theorem mv_aald {a k q len : Nat} {i : Int32} (hd : decode M.2.1 pc = .ok (.aaload, 1)) (ha : sh a = (9, len)) (hi : i = nI k) (hk : k < len) (hq : R a k = some q) (kk : mv_E l D b0 M rm Q (pc + 1) loc (.ref q :: stk) ac sl n sh I R) (hl : len < 2 ^ 31 := by decide) : mv_E l D b0 M rm Q pc loc (.int i :: .ref a :: stk) ac sl n sh I R := by
  intro p e s m args below meth c H locs ls C L hH hS
  subst hi
  obtain ⟨cA, c1, c2, c3⟩ := (hH.2.2 a).2.2.2 (by rw [ha])
  rw [ha] at c1
  exact W.aald (v := .ref q) (ty := .object RX3) C.1 C.2.1 c1 (c2 len (fun j => va_rf (R a j))) rfl (fun q => by cases q) (by show ¬ (_ < 0 ∨ (arrV _ _ _).slots.size ≤ _); rw [arrV_size]; exact nI_in hk hl) (by show (arrV _ _ _).slots[_]? = _; rw [nI_clamp (Nat.lt_trans hk hl), arrV_read _ _ hk, hq]; rfl) rfl rfl hd (kk p e s m args below meth c H locs ls C L hH hS)
theorem mv_aast {a k v len : Nat} {i : Int32} (hd : decode M.2.1 pc = .ok (.aastore, 1)) (ha : sh a = (9, len)) (hv : (sh v).1 = 3) (hi : i = nI k) (hk : k < len) (kk : mv_E l D b0 M rm Q (pc + 1) loc stk ac sl n sh I (mv_up R a k (some v))) (hl : len < 2 ^ 31 := by decide) : mv_E l D b0 M rm Q pc loc (.ref v :: .int i :: .ref a :: stk) ac sl n sh I R := by
  intro p e s m args below meth c H locs ls C L hH hS
  subst hi
  obtain ⟨cA, c1, c2, c3⟩ := (hH.2.2 a).2.2.2 (by rw [ha])
  rw [ha] at c1
  have hA : b0 ≤ a := (hH.2.1 a (by rw [ha]; simp)).1
  obtain ⟨cellV, g1, g2, g3, -⟩ := (hH.2.2 v).1 (by rw [hv]; decide)
  rw [hv] at g2
  have hcls := (C.2.2.2.2.2.1.1.1 3 _ (mv_cl (by decide))).2
  obtain ⟨kA, comp, k1, k2, k3, -⟩ := id c3
  have hcomp : comp = D.1 3 := Option.some.inj (k3.symm.trans hcls.1)
  subst hcomp
  obtain ⟨kC, hkC, -⟩ := id hcls.2
  refine W.aast C.1 C.2.1 c1 (fun q h => by cases h) (fun h => by cases h) k1 k2 rfl hkC ⟨nI_pos (Nat.lt_trans hk hl), by show _ < (arrV _ _ _).slots.size; rw [arrV_size, nI_clamp (Nat.lt_trans hk hl)]; exact hk⟩ g1 (fun q h => by rw [g3] at h; cases h) (by rw [g2]; exact hkC) (by rw [g2]; exact va_assign hcls) rfl rfl hd fun H1 e1 z oq => ?_
  refine kk p e s m args below meth c H1 _ ls C L (hH.set (a := a) z oq (fun _ _ => rfl) (fun y hy => mv_upN y hy) ?_) (hS.put z oq hA)
  rw [ha]
  refine mv_at9 (e1.trans (congrArg some ?_)) c2 c3
  rw [nI_clamp (Nat.lt_trans hk hl), vp_cell_q, vp_cell_q, arrV_store]
  congr 1
  funext j
  by_cases h : j = k
  · simp [updV, mv_up, h, va_rf]
  · simp [updV, mv_up, h]
theorem mv_H.push {s : State} {H H1 : Heap} (h : mv_H D b0 n sh I R s H) (hb : b0 ≤ n) {q : Nat × Nat} {f : Nat → Int32} {g : Nat → Option Nat} (z : H1.size = n + 1) (oq : ∀ x, x < n → H1[x]? = H[x]?) (ha : mv_at D s H1 n q f g) : mv_H D b0 (n + 1) (mv_rp sh n q) (mv_rp I n f) (mv_rp R n g) s H1 := by
  refine ⟨z, fun a ha => ?_, fun a => ?_⟩
  · by_cases hx : a = n
    · omega
    · simp only [mv_rp, hx, if_false] at ha
      have := h.2.1 a ha
      omega
  · by_cases hx : a = n
    · subst hx; simp only [mv_rp, if_true]; exact ha
    · simp only [mv_rp, hx, if_false]
      by_cases hs : (sh a).1 < 10
      · exact (h.2.2 a).kept (oq a (h.2.1 a hs).2)
      · exact ⟨fun h => by omega, fun h => by omega, fun h => by omega, fun h => by omega⟩
theorem mv_dv {ci : Nat} (h : ci < 7) : ∀ k, k < mv_N ci → defaultValue (mv_ty ci k) = mv_fv (mv_ty ci k) 0 none := mv_c7 (P := fun ci => ∀ k, k < mv_N ci → defaultValue (mv_ty ci k) = mv_fv (mv_ty ci k) 0 none) h (by decide +kernel) (by decide +kernel) (by decide +kernel) (by decide +kernel) (by decide +kernel) (by decide +kernel) (by decide +kernel)
theorem mv_new {ci idx : Nat} (hd : decode M.2.1 pc = .ok (.new idx, 3)) (h7 : ci < 7) (w1 : Cond.classLink M.1.cls idx (mv_Cn ci) ∈ mv_W) (w2 : Cond.instantiable (mv_Cn ci) (mv_N ci) ∈ mv_W) (w3 : Cond.initialized (mv_Cn ci) ∈ mv_W) (hac : ac + 1 ≤ rm.cells) (hsl : sl + mv_N ci ≤ rm.slots)
    (kk : mv_E l D b0 M rm Q (pc + 3) loc (.ref n :: stk) (ac + 1) (sl + mv_N ci) (n + 1) (mv_rp sh n (ci, mv_N ci)) (mv_rp I n (fun _ => 0)) (mv_rp R n (fun _ => none))) : mv_E l D b0 M rm Q pc loc stk ac sl n sh I R := by
  intro p e s m args below meth c H locs ls C L hH hS
  have hKn := C.2.2.2.2.2.1.1.1 _ _ (mv_cl h7)
  refine W.newcK C.1 C.2.1 C.2.2.2.1 (C.w _ w1) (C.w _ w2) (C.w _ w3) rfl hd hac hsl hKn.2.1 hH.1 fun H1 kC hkC e1 z1 o1 => ?_
  have hb : b0 ≤ n := by rw [← hH.1]; exact Nat.le_trans C.2.2.2.2.2.2.2.2.2 hS.1
  refine kk p e s m args below meth c H1 locs ls C L (hH.push hb z1 o1 (mv_atO (x := mv_N ci) h7 ?_)) ⟨Nat.le_trans hS.1 (by rw [hH.1, z1]; omega), fun x h1 h2 => (o1 x (by rw [← hH.1]; exact Nat.lt_of_lt_of_le h1 hS.1)).trans (hS.2.1 x h1 h2), hS.2.2⟩
  exact (u_born (mv_ty ci) C.w (mv_lays h7) hKn hkC e1 (mv_tyok h7)).to (mv_dv h7)
theorem mv_newI {k : Int32} {len : Nat} (hd : decode M.2.1 pc = .ok (.newarray .int, 2)) (w : Cond.arrayClass .int ∈ mv_W) (hk : k = nI len) (hlen : len < 100000) (hac : ac + 1 ≤ rm.cells) (hsl : sl + len ≤ rm.slots)
    (kk : mv_E l D b0 M rm Q (pc + 2) loc (.ref n :: stk) (ac + 1) (sl + len) (n + 1) (mv_rp sh n (7, len)) (mv_rp I n (fun _ => 0)) (mv_rp R n (fun _ => none))) : mv_E l D b0 M rm Q pc loc (.int k :: stk) ac sl n sh I R := by
  intro p e s m args below meth c H locs ls C L hH hS
  subst hk
  have hl2 : len < 2 ^ 31 := Nat.lt_trans hlen (by decide)
  refine va_newaK (atype := .int) C.1 C.2.1 (C.w _ w) rfl hd rfl (nI_pos hl2) (nI_clamp hl2) (Nat.le_trans (Nat.mul_le_mul_right _ (Nat.le_of_lt hlen)) (by decide)) hac hsl hH.1 fun H1 cA e1 z1 o1 hAr _ => ?_
  have hb : b0 ≤ n := by rw [← hH.1]; exact Nat.le_trans C.2.2.2.2.2.2.2.2.2 hS.1
  exact kk p e s m args below meth c H1 locs ls C L (hH.push hb z1 o1 (mv_at7 e1 hAr)) ⟨Nat.le_trans hS.1 (by rw [hH.1, z1]; omega), fun x h1 h2 => (o1 x (by rw [← hH.1]; exact Nat.lt_of_lt_of_le h1 hS.1)).trans (hS.2.1 x h1 h2), hS.2.2⟩
theorem mv_newZ {k : Int32} {len : Nat} (hd : decode M.2.1 pc = .ok (.newarray .boolean, 2)) (w : Cond.arrayClass .boolean ∈ mv_W) (hk : k = nI len) (hlen : len < 100000) (hac : ac + 1 ≤ rm.cells) (hsl : sl + len ≤ rm.slots)
    (kk : mv_E l D b0 M rm Q (pc + 2) loc (.ref n :: stk) (ac + 1) (sl + len) (n + 1) (mv_rp sh n (8, len)) (mv_rp I n (fun _ => 0)) (mv_rp R n (fun _ => none))) : mv_E l D b0 M rm Q pc loc (.int k :: stk) ac sl n sh I R := by
  intro p e s m args below meth c H locs ls C L hH hS
  subst hk
  have hl2 : len < 2 ^ 31 := Nat.lt_trans hlen (by decide)
  refine va_newaK (atype := .boolean) C.1 C.2.1 (C.w _ w) rfl hd rfl (nI_pos hl2) (nI_clamp hl2) (Nat.le_trans (Nat.mul_le_mul_right _ (Nat.le_of_lt hlen)) (by decide)) hac hsl hH.1 fun H1 cA e1 z1 o1 hAr _ => ?_
  have hb : b0 ≤ n := by rw [← hH.1]; exact Nat.le_trans C.2.2.2.2.2.2.2.2.2 hS.1
  exact kk p e s m args below meth c H1 locs ls C L (hH.push hb z1 o1 (mv_at8 e1 hAr)) ⟨Nat.le_trans hS.1 (by rw [hH.1, z1]; omega), fun x h1 h2 => (o1 x (by rw [← hH.1]; exact Nat.lt_of_lt_of_le h1 hS.1)).trans (hS.2.1 x h1 h2), hS.2.2⟩
theorem mv_newQ {k : Int32} {len idx : Nat} (hd : decode M.2.1 pc = .ok (.anewarray idx, 3)) (w1 : Cond.classLink M.1.cls idx RX3 ∈ mv_W) (hk : k = nI len) (hlen : len < 100000) (hac : ac + 1 ≤ rm.cells) (hsl : sl + len ≤ rm.slots)
    (kk : mv_E l D b0 M rm Q (pc + 3) loc (.ref n :: stk) (ac + 1) (sl + len) (n + 1) (mv_rp sh n (9, len)) (mv_rp I n (fun _ => 0)) (mv_rp R n (fun _ => none))) : mv_E l D b0 M rm Q pc loc (.int k :: stk) ac sl n sh I R := by
  intro p e s m args below meth c H locs ls C L hH hS
  subst hk
  have hl2 : len < 2 ^ 31 := Nat.lt_trans hlen (by decide)
  have hcl := nI_clamp hl2
  refine W.anew C.1 C.2.1 C.2.2.2.1 (C.w _ w1) (va_AO.use C.2.2.2.2.2.1.2.1) rfl hd rfl (nI_pos hl2) (by rw [hcl]; exact Nat.le_trans (Nat.mul_le_mul_right _ (Nat.le_of_lt hlen)) (by decide)) hac (by rw [hcl]; exact hsl) fun cA kA comp f1 f2 f3 f4 => ?_
  rw [hcl]
  have hz := hH.1
  generalize hH1 : H.push ({ cls := cA, slots := Array.replicate len .null, vm := .none } : Cell) = H1
  have z1 : H1.size = n + 1 := by rw [← hH1, Array.size_push, hz]
  have e1 : H1[n]? = some (arrV cA len (fun _ => .null)) := by rw [← hH1, ← hz, Array.getElem?_push_size, ← arrV_new]
  have o1 : ∀ q : Nat, q < n → H1[q]? = H[q]? := fun q hq => by rw [← hH1, Array.getElem?_push, if_neg (Nat.ne_of_lt (by rw [hz]; exact hq))]
  have hAr : ArrOfT s cA (.object RX3) := fun N z => ⟨(fun k h => by cases h), kA, f2, comp, f3⟩
  have hb : b0 ≤ n := by rw [← hH.1]; exact Nat.le_trans C.2.2.2.2.2.2.2.2.2 hS.1
  rw [hz]
  exact kk p e s m args below meth c H1 locs ls C L (hH.push hb z1 o1 (mv_at9 e1 hAr ⟨kA, comp, f2, f3, f4, f1⟩)) ⟨Nat.le_trans hS.1 (by rw [hH.1, z1]; omega), fun x h1 h2 => (o1 x (by rw [← hH.1]; exact Nat.lt_of_lt_of_le h1 hS.1)).trans (hS.2.1 x h1 h2), hS.2.2⟩
theorem mv_iret {x : Int32} (hd : decode M.2.1 pc = .ok (.ireturn, 1)) (hr : M.2.2.2 = some .int) (h1 : ac ≤ rm.cells) (h2 : sl ≤ rm.slots) (hq : Q (some (.int x)) n sh I R) : mv_E l D b0 M rm Q pc loc [.int x] ac sl n sh I R := by
  intro p e s m args below meth c H locs ls C L hH hS
  refine W.widen (k := rm.cells) (n := rm.slots) h1 h2 ?_
  exact W.iret C.1 C.2.1 (C.2.2.2.2.2.2.2.1.trans hr) (fun t ht hW => ⟨⟨_, n, sh, I, R, rfl, hq, by rw [ht]; exact hH.moved hW.alike⟩, hS.F ht⟩) hS.2.2 hd C.2.2.2.2.2.2.1
theorem mv_zret {x : Int32} (hd : decode M.2.1 pc = .ok (.ireturn, 1)) (hr : M.2.2.2 = some .boolean) (hx : narrow .boolean (.int x) = .int x) (h1 : ac ≤ rm.cells) (h2 : sl ≤ rm.slots) (hq : Q (some (.int x)) n sh I R) : mv_E l D b0 M rm Q pc loc [.int x] ac sl n sh I R := by
  intro p e s m args below meth c H locs ls C L hH hS
  refine W.widen (k := rm.cells) (n := rm.slots) h1 h2 ?_
  exact W.zret C.1 C.2.1 (C.2.2.2.2.2.2.2.1.trans hr) hx (fun t ht hW => ⟨⟨_, n, sh, I, R, rfl, hq, by rw [ht]; exact hH.moved hW.alike⟩, hS.F ht⟩) hS.2.2 hd C.2.2.2.2.2.2.1
theorem mv_vret (hd : decode M.2.1 pc = .ok (.return_, 1)) (hr : M.2.2.2 = none) (h1 : ac ≤ rm.cells) (h2 : sl ≤ rm.slots) (hq : Q none n sh I R) : mv_E l D b0 M rm Q pc loc [] ac sl n sh I R := by
  intro p e s m args below meth c H locs ls C L hH hS
  refine W.widen (k := rm.cells) (n := rm.slots) h1 h2 ?_
  exact W.vret C.1 C.2.1 (C.2.2.2.2.2.2.2.1.trans hr) (fun t ht hW => ⟨⟨_, n, sh, I, R, rfl, hq, by rw [ht]; exact hH.moved hW.alike⟩, hS.F ht⟩) hS.2.2 hd C.2.2.2.2.2.2.1
end MB
end
section
/-! calls of the machine -/
def mv_Lk (own : String) (idx : Nat) (M2 : mv_M) (k : Nat) : Prop := Cond.methodLink own idx M2.1 ∈ mv_W ∧ Cond.code M2.1 M2.2.1 M2.2.2.1 M2.2.2.2 ∈ mv_W ∧ Cond.initialized M2.1.cls ∈ mv_W ∧ (M2.1.cls ≠ "java/lang/invoke/MethodHandle" ∧ M2.1.cls ≠ "java/lang/invoke/VarHandle" ∧ (parseMethodDescriptor M2.1.desc).map (fun d => d.parameters.length) = some k)
def mv_LkV (own : String) (idx : Nat) (M2 : mv_M) (k ci : Nat) : Prop := mv_Lk own idx M2 k ∧ Cond.instanceMethod M2.1 ∈ mv_W ∧ Cond.selects M2.1.cls M2.1 M2.1 ∈ mv_W ∧ ci < 7 ∧ mv_Cn ci = M2.1.cls
def mv_LkS (own : String) (idx : Nat) (M2 : mv_M) (k : Nat) : Prop := mv_Lk own idx M2 k ∧ Cond.static M2.1 ∈ mv_W ∧ M2.1.cls = own
def mv_LkI (own : String) (idx : Nat) (M2 : mv_M) (k : Nat) : Prop := mv_Lk own idx M2 k ∧ Cond.instanceMethod M2.1 ∈ mv_W ∧ M2.1.name = "<init>" ∧ M2.2.2.2 = none
theorem mv_goodT {Ts : List Cond} (hTs : ∀ w ∈ mv_W, w ∈ Ts) {M2 : mv_M} (hc : Cond.code M2.1 M2.2.1 M2.2.2.1 M2.2.2.2 ∈ mv_W) : GoodIn Ts (mv_ws M2) := by
  intro w hw
  have h : w ∈ mv_W := by
    rcases List.mem_cons.mp hw with h | h
    · rw [h]; exact hc
    · exact h
  exact ⟨hTs w h, good_of_word (mv_ofW h).2⟩
theorem mv_K.calling {D : va_G} {U : State} (g : JFrame) (mk : MethodId) (a : Array Value) (h : mv_K D U) : mv_K D (U.calling g mk a) := ⟨va_K.moved (u := U) (U := U.calling g mk a) (Vm.Alike.refl U.vm) h.1, va_AO.moved (u := U) (U := U.calling g mk a) (Vm.Alike.refl U.vm) h.2.1, va_Nw.same (u := U) (U := U.calling g mk a) rfl rfl h.2.2⟩
theorem mv_K.warm {D : va_G} {s U : State} (hW : s.WarmedH U.vm) (h : mv_K D s) : mv_K D U := ⟨va_K.moved hW.alike h.1, va_AO.moved hW.alike h.2.1, va_Nw.warmM hW h.2.2⟩
theorem mv_blind {D : va_G} {b0 n : Nat} {sh : mv_Sh} {I : mv_I} {R : mv_R} {av : List Value} : FrameBlind (va_Pc av (fun U => mv_H D b0 n sh I R U U.heap ∧ mv_K D U ∧ b0 ≤ U.heap.size)) := by
  intro a U g mk h
  obtain ⟨h1, h2, h3, h4⟩ := h
  exact ⟨h1, mv_H.moved (u := U) (U := U.calling g mk a) (Vm.Alike.refl U.vm) h2, h3.calling g mk a, h4⟩
section MC
variable {p : Program} {l : Launch} {e : Env} {R : Room} {s : State} {m : MethodId} {args : Array Value} {below : List Frame} {meth : Method} {c : Code} {H : Heap} {locs : List Loc} {cells slots : Nat} {Q : State → Prop}
variable {pc : Nat} {ls : Array Slot} {rest st0 : List Value} {mc ms : Nat} {free : Addr → Prop} {Qa : State → Outcome → State → Prop}
theorem mv_callx (hr : va_Run p l e R s m args below meth c H locs cells slots mc ms (F0 m pc ls st0) rest Qa free)
    (kk : ∀ (v : Option Value) (st t : State) (locs1 : List Loc), st.heap = H → Qa st (.returned v) t → s.vm.Alike t.vm → (∀ q ∈ locs1, q ∈ locs ∨ free q.base) → W p l e R s m args below meth c t.heap locs1 (cells + mc) (slots + ms) Q (F0 m (pc + 3) ls (v.toList ++ rest))) : W p l e R s m args below meth c H locs cells slots Q (F0 m pc ls st0) := by
  intro T hT X
  obtain ⟨v, st₀, t, T', L, h0, X', hL, e1, e2, hq, st⟩ := hr T hT X
  obtain ⟨t2, a1, b1⟩ := kk v st₀ t (locs ++ L) h0 hq (by rw [← e2]; exact X'.warmed.alike) (fun q hq => by
    rcases List.mem_append.mp hq with h | h
    · exact Or.inl h
    · exact Or.inr (hL q h)) T' e1 X'
  exact ⟨t2, st t2 a1, b1⟩
end MC
section MD
variable {l : Launch} {D : va_G} {b0 : Nat} {M : mv_M} {rm : Room} {Q : mv_Q} {pc : Nat} {loc stk : List Value} {ac sl n : Nat} {sh : mv_Sh} {I : mv_I} {R : mv_R}
variable {M2 : mv_M} {rm2 : Room} {As st0 : List Value} {Q2 : mv_Q} {idx k : Nat}
/-- what is left behind a call: the caller's world is the callee's -/
theorem mv_after {p : Program} {e : Env} {s : State} {m : MethodId} {args : Array Value} {below : List Frame} {meth : Method} {c : Code} {H : Heap} {locs : List Loc} {ls : Array Slot} {st0 rest : List Value} {av : Array Value}
    (C : mv_Cx D b0 M p s m args meth c) (L : mv_L ls M.2.2.1 loc) (hS : va_S (fun q => b0 ≤ q) s.heap H locs)
    (hr : va_Run p l e rm s m args below meth c H locs ac sl rm2.cells rm2.slots (F0 m pc ls st0) rest (mv_Qc D b0 Q2 av) (fun q => b0 ≤ q))
    (kk : ∀ v n' sh' I' R', Q2 v n' sh' I' R' → mv_E l D b0 M rm Q (pc + 3) loc (v.toList ++ rest) (ac + rm2.cells) (sl + rm2.slots) n' sh' I' R') :
    W p l e rm s m args below meth c H locs ac sl (MQ below (mv_Qc D b0 Q) args s rm.cells rm.slots (fun q => b0 ≤ q)) (F0 m pc ls st0) := by
  refine mv_callx hr fun v st t locs1 h0 hq hvm hl => ?_
  obtain ⟨⟨v', n', sh', I', R', hv, h2, h3⟩, hF⟩ := hq
  cases hv
  refine kk v n' sh' I' R' h2 p e s m args below meth c t.heap locs1 ls C L (h3.moved hvm.symm) ⟨Nat.le_trans hS.1 (by rw [← h0]; exact hF.1), fun q a1 a2 => ?_, fun q hq => (hl q hq).elim (hS.2.2 q) id⟩
  rw [hF.2 q (by rw [h0]; exact Nat.lt_of_lt_of_le a1 hS.1) a2, h0]
  exact hS.2.1 q a1 a2
theorem mv_sum : ∀ (rest : List Value), (∀ v ∈ rest, v.category = 1) → (rest.map fun v => v.category).sum = rest.length
  | [], _ => rfl
  | v :: rest, h => by
    have := mv_sum rest (fun v hv => h v (List.mem_cons_of_mem _ hv))
    simp [this, h v List.mem_cons_self]
    omega
theorem mv_callV {a ci : Nat} (hd : decode M.2.1 pc = .ok (.invokevirtual idx, 3)) (hL : mv_LkV M.1.cls idx M2 k ci) (ha : (sh a).1 = ci) (hC : mv_C l D b0 M2 rm2 (.ref a :: As) n sh I R Q2) (hk : As.length = k) (hst : st0 = As.reverse ++ .ref a :: stk) (hcat : (stk.map fun v => v.category).sum ≤ 8)
    (hR : rm2.frames + 1 ≤ rm.frames ∧ 8 + (M2.2.2.1 + 11) + rm2.locals ≤ rm.locals) (hf : ac + rm2.cells ≤ rm.cells ∧ sl + rm2.slots ≤ rm.slots)
    (kk : ∀ v n' sh' I' R', Q2 v n' sh' I' R' → mv_E l D b0 M rm Q (pc + 3) loc (v.toList ++ stk) (ac + rm2.cells) (sl + rm2.slots) n' sh' I' R') : mv_E l D b0 M rm Q pc loc st0 ac sl n sh I R := by
  intro p e s m args below meth c H locs ls C L hH hS
  obtain ⟨⟨w1, w2, w3, hds⟩, w4, w5, h7, hcn⟩ := hL
  subst hst
  subst ha
  have hsub : ∀ w ∈ mv_W, w ∈ mv_ws M := fun w h => List.mem_cons_of_mem _ h
  have hG : GoodIn (mv_ws M) (wsV M.1.cls idx M2.1.cls M2.1 (mv_ws M2)) := by
    intro w hw
    rcases List.mem_append.mp hw with h | h
    · have hin : w ∈ mv_W := by
        simp only [List.mem_cons, List.not_mem_nil, or_false] at h
        rcases h with rfl | rfl | rfl | rfl
        · exact w1
        · exact w4
        · exact w5
        · exact w3
      exact ⟨hsub w hin, good_of_word (mv_ofW hin).2⟩
    · exact mv_goodT hsub w2 w h
  refine mv_after (Q2 := Q2) C L hS (va_runV (As := As) (rest := stk) (y := M2.1) (bytes := M2.2.1) (maxL := M2.2.2.1) (ret := M2.2.2.2) ⟨C.1, C.2.1, C.2.2.1, C.2.2.2.1, C.2.2.2.2.1⟩ hC (cwV (C := M2.1.cls) k C.2.2.2.2.1 hG rfl rfl rfl ⟨rfl, hds⟩ hR) ⟨mv_blind, ?_, fun U hU hW => ⟨rfl, ?_, C.2.2.2.2.2.1.warm hW, ?_⟩⟩ rfl hk L.1 rfl (lv_room hcat) hd hf) kk
  · obtain ⟨cell, g1, g2, g3, -⟩ := (hH.2.2 a).1 h7
    exact ⟨cell, g1, by rw [g3]; rfl, by rw [g2, ← hcn]; exact (C.2.2.2.2.2.1.1.1 _ _ (mv_cl h7)).2.1⟩
  · rw [hU]; exact hH.moved hW.alike
  · rw [hU]; exact Nat.le_trans C.2.2.2.2.2.2.2.2.2 hS.1
theorem mv_callS (hd : decode M.2.1 pc = .ok (.invokestatic idx, 3)) (hL : mv_LkS M.1.cls idx M2 k) (hC : mv_C l D b0 M2 rm2 As n sh I R Q2) (hk : As.length = k) (hst : st0 = As.reverse ++ stk) (hcat : (stk.map fun v => v.category).sum ≤ 8)
    (hR : rm2.frames + 1 ≤ rm.frames ∧ 8 + (M2.2.2.1 + 11) + rm2.locals ≤ rm.locals) (hf : ac + rm2.cells ≤ rm.cells ∧ sl + rm2.slots ≤ rm.slots)
    (kk : ∀ v n' sh' I' R', Q2 v n' sh' I' R' → mv_E l D b0 M rm Q (pc + 3) loc (v.toList ++ stk) (ac + rm2.cells) (sl + rm2.slots) n' sh' I' R') : mv_E l D b0 M rm Q pc loc st0 ac sl n sh I R := by
  intro p e s m args below meth c H locs ls C L hH hS
  obtain ⟨⟨w1, w2, w3, hds⟩, w4, hcn⟩ := hL
  subst hst
  have hsub : ∀ w ∈ mv_W, w ∈ mv_ws M := fun w h => List.mem_cons_of_mem _ h
  have hG : GoodIn (mv_ws M) (wsS M.1.cls idx M2.1 (mv_ws M2)) := by
    intro w hw
    rcases List.mem_append.mp hw with h | h
    · have hin : w ∈ mv_W := by
        simp only [List.mem_cons, List.not_mem_nil, or_false] at h
        rcases h with rfl | rfl | rfl
        · exact w1
        · exact w4
        · rw [← hcn]; exact w3
      exact ⟨hsub w hin, good_of_word (mv_ofW hin).2⟩
    · exact mv_goodT hsub w2 w h
  refine mv_after (Q2 := Q2) C L hS (va_runS (As := As) (rest := stk) (y := M2.1) (bytes := M2.2.1) (maxL := M2.2.2.1) (ret := M2.2.2.2) ⟨C.1, C.2.1, C.2.2.1, C.2.2.2.1, C.2.2.2.2.1⟩ hC (cwS k C.2.2.2.2.1 hG rfl rfl rfl ⟨hcn, hds⟩ hR) ⟨mv_blind, fun U hU hW => ⟨rfl, ?_, C.2.2.2.2.2.1.warm hW, ?_⟩⟩ rfl hk L.1 rfl (lv_room hcat) hd hf) kk
  · rw [hU]; exact hH.moved hW.alike
  · rw [hU]; exact Nat.le_trans C.2.2.2.2.2.2.2.2.2 hS.1
theorem mv_callI {a : Nat} (hd : decode M.2.1 pc = .ok (.invokespecial idx, 3)) (hL : mv_LkI M.1.cls idx M2 k) (hC : mv_C l D b0 M2 rm2 (.ref a :: As) n sh I R Q2) (hk : As.length = k) (hst : st0 = As.reverse ++ .ref a :: stk) (hcat : (stk.map fun v => v.category).sum ≤ 8)
    (hR : rm2.frames + 1 ≤ rm.frames ∧ 8 + (M2.2.2.1 + 11) + rm2.locals ≤ rm.locals) (hf : ac + rm2.cells ≤ rm.cells ∧ sl + rm2.slots ≤ rm.slots)
    (kk : ∀ v n' sh' I' R', Q2 v n' sh' I' R' → mv_E l D b0 M rm Q (pc + 3) loc (v.toList ++ stk) (ac + rm2.cells) (sl + rm2.slots) n' sh' I' R') : mv_E l D b0 M rm Q pc loc st0 ac sl n sh I R := by
  intro p e s m args below meth c H locs ls C L hH hS
  obtain ⟨⟨w1, w2, w3, hds⟩, w4, hy1, hnone⟩ := hL
  subst hst
  have hsub : ∀ w ∈ mv_W, w ∈ mv_ws M := fun w h => List.mem_cons_of_mem _ h
  have hw : mv_ws M2 = Cond.code M2.1 M2.2.1 M2.2.2.1 none :: mv_W := by unfold mv_ws; rw [hnone]
  refine mv_after (Q2 := Q2) C L hS (va_runI (As := As) (rest := stk) (y := M2.1) (bytes := M2.2.1) (maxL := M2.2.2.1) ⟨C.1, C.2.1, C.2.2.1, C.2.2.2.1, C.2.2.2.2.1⟩ hC (cwI k C.2.2.2.2.1 (mv_goodT hsub w2) hw rfl rfl (C.w _ w3) (C.w _ w1) (C.w _ w4) hy1 hds hR) ⟨mv_blind, fun U hU hW => ⟨rfl, ?_, C.2.2.2.2.2.1.warm hW, ?_⟩⟩ rfl hk L.1 rfl (lv_room hcat) hd hf) kk
  · rw [hU]; exact hH.moved hW.alike
  · rw [hU]; exact Nat.le_trans C.2.2.2.2.2.2.2.2.2 hS.1
/-- the private constructor of Tokens, called by ScopeTasks -/
theorem mv_callN {a : Nat} (hd : decode M.2.1 pc = .ok (.invokespecial 9, 3)) (hM : M.1.cls = RX5) (hM2 : M2.1 = yX4_init) (w2 : Cond.code M2.1 M2.2.1 M2.2.2.1 M2.2.2.2 ∈ mv_W) (w3 : Cond.initialized RX4 ∈ mv_W) (w4 : Cond.instanceMethod yX4_init ∈ mv_W) (hnone : M2.2.2.2 = none) (hC : mv_C l D b0 M2 rm2 [.ref a] n sh I R Q2) (hst : st0 = .ref a :: stk) (hcat : (stk.map fun v => v.category).sum ≤ 8)
    (hR : rm2.frames + 1 ≤ rm.frames ∧ 8 + (M2.2.2.1 + 11) + rm2.locals ≤ rm.locals) (hf : ac + rm2.cells ≤ rm.cells ∧ sl + rm2.slots ≤ rm.slots)
    (kk : ∀ v n' sh' I' R', Q2 v n' sh' I' R' → mv_E l D b0 M rm Q (pc + 3) loc (v.toList ++ stk) (ac + rm2.cells) (sl + rm2.slots) n' sh' I' R') : mv_E l D b0 M rm Q pc loc st0 ac sl n sh I R := by
  intro p e s m args below meth c H locs ls C L hH hS
  subst hst
  have hsub : ∀ w ∈ mv_W, w ∈ mv_ws M := fun w h => List.mem_cons_of_mem _ h
  have hw : mv_ws M2 = Cond.code M2.1 M2.2.1 M2.2.2.1 none :: mv_W := by unfold mv_ws; rw [hnone]
  have hN := C.2.2.2.2.2.1.2.2
  refine mv_after (Q2 := Q2) C L hS (va_runIN (As := []) (rest := stk) (y := M2.1) (host := RX5) (bytes := M2.2.1) (maxL := M2.2.2.1) ⟨C.1, C.2.1, C.2.2.1, C.2.2.2.1, C.2.2.2.2.1⟩ hC ⟨va_cnB 0 C.2.2.2.2.1 (mv_goodT hsub w2) hw rfl rfl (by rw [hM, hM2]; exact hN) (by rw [hM2]; exact C.w _ w3) (by rw [hM2]; decide +kernel) hR, by rw [hM2]; rfl, by rw [hM2]; exact C.w _ w4⟩ ⟨mv_blind, fun U hU hW => ⟨rfl, ?_, C.2.2.2.2.2.1.warm hW, ?_⟩⟩ rfl rfl L.1 rfl (lv_room hcat) hd hf) kk
  · rw [hU]; exact hH.moved hW.alike
  · rw [hU]; exact Nat.le_trans C.2.2.2.2.2.2.2.2.2 hS.1
theorem mv_objInit {a : Nat} (hd : decode M.2.1 pc = .ok (.invokespecial idx, 3)) (w1 : Cond.methodLink M.1.cls idx Lib.objectInit ∈ mv_W) (w2 : Cond.instanceMethod Lib.objectInit ∈ mv_W) (w3 : Cond.code Lib.objectInit ⟨#[0xb1]⟩ 1 none ∈ mv_W) (hcat : (stk.map fun v => v.category).sum ≤ 8) (hR : 1 ≤ rm.frames ∧ 20 ≤ rm.locals)
    (kk : mv_E l D b0 M rm Q (pc + 3) loc stk ac sl n sh I R) : mv_E l D b0 M rm Q pc loc (.ref a :: stk) ac sl n sh I R := by
  intro p e s m args below meth c H locs ls C L hH hS
  refine W.objInit C.1 C.2.1 C.2.2.2.1 (C.w _ w1) (C.w _ w2) (C.w _ w3) rfl (by rw [C.2.2.1]; exact L.1) rfl hd hR.1 ?_ (kk p e s m args below meth c H locs ls C L hH hS)
  have := lv_room (m := m) (pc := pc) (ls := ls) (rest := .ref a :: stk) hcat
  omega
theorem mv_mmin {x y : Int32} (hd : decode M.2.1 pc = .ok (.invokestatic idx, 3)) (w1 : Cond.methodLink M.1.cls idx Lib.Math.min.name ∈ mv_W) (w2 : Cond.static Lib.Math.min.name ∈ mv_W) (w3 : Cond.initialized "java/lang/Math" ∈ mv_W) (w4 : Cond.code Lib.Math.min.name Lib.Math.min.code 2 (some .int) ∈ mv_W) (hcat : (stk.map fun v => v.category).sum ≤ 8) (hR : 1 ≤ rm.frames ∧ 21 ≤ rm.locals) (h1 : ac ≤ rm.cells) (h2 : sl ≤ rm.slots)
    (kk : mv_E l D b0 M rm Q (pc + 3) loc (.int (if y < x then y else x) :: stk) ac sl n sh I R) : mv_E l D b0 M rm Q pc loc (.int y :: .int x :: stk) ac sl n sh I R := by
  intro p e s m args below meth c H locs ls C L hH hS
  exact va_mmin C.1 C.2.1 (by rw [C.2.2.1]; exact L.1.symm) C.2.2.2.1 (C.w _ w1) (C.w _ w2) (C.w _ w3) (C.w _ w4) hR.1 (by omega) h1 h2 hd (kk p e s m args below meth c H locs ls C L hH hS)
theorem mv_mmax {x y : Int32} (hd : decode M.2.1 pc = .ok (.invokestatic idx, 3)) (w1 : Cond.methodLink M.1.cls idx Lib.Math.max.name ∈ mv_W) (w2 : Cond.static Lib.Math.max.name ∈ mv_W) (w3 : Cond.initialized "java/lang/Math" ∈ mv_W) (w4 : Cond.code Lib.Math.max.name Lib.Math.max.code 2 (some .int) ∈ mv_W) (hcat : (stk.map fun v => v.category).sum ≤ 8) (hR : 1 ≤ rm.frames ∧ 21 ≤ rm.locals) (h1 : ac ≤ rm.cells) (h2 : sl ≤ rm.slots)
    (kk : mv_E l D b0 M rm Q (pc + 3) loc (.int (if x < y then y else x) :: stk) ac sl n sh I R) : mv_E l D b0 M rm Q pc loc (.int y :: .int x :: stk) ac sl n sh I R := by
  intro p e s m args below meth c H locs ls C L hH hS
  exact va_mmax C.1 C.2.1 (by rw [C.2.2.1]; exact L.1.symm) C.2.2.2.1 (C.w _ w1) (C.w _ w2) (C.w _ w3) (C.w _ w4) hR.1 (by omega) h1 h2 hd (kk p e s m args below meth c H locs ls C L hH hS)
/-- System.arraycopy of the first cnt ints of one array to those of another -/
theorem mv_copy {a0 a1 l0 l1 cnt : Nat} {k : Int32} (hd : decode M.2.1 pc = .ok (.invokestatic idx, 3)) (w1 : Cond.methodLink M.1.cls idx arraycopyName ∈ mv_W) (w2 : Cond.native arraycopyName ∈ mv_W) (w3 : Cond.static arraycopyName ∈ mv_W) (w4 : Cond.initialized "java/lang/System" ∈ mv_W) (h0 : sh a0 = (7, l0)) (h1 : sh a1 = (7, l1)) (hk : k = nI cnt) (hk0 : cnt ≤ l0) (hk1 : cnt ≤ l1) (hcat : (stk.map fun v => v.category).sum ≤ 8) (hR : 1 ≤ rm.frames ∧ 8 + (nativeFrameWords "java/lang/System" "arraycopy" 5 + 11) ≤ rm.locals)
    (kk : mv_E l D b0 M rm Q (pc + 3) loc stk ac sl n sh (mv_rp I a1 (fun j => if j < cnt then I a0 j else I a1 j)) R) (hl : l0 < 2 ^ 31 := by decide) : mv_E l D b0 M rm Q pc loc (.int k :: .int 0 :: .ref a1 :: .int 0 :: .ref a0 :: stk) ac sl n sh I R := by
  intro p e s m args below meth c H locs ls C L hH hS
  subst hk
  have hcl : (nI cnt).toNatClampNeg = cnt := nI_clamp (Nat.lt_of_le_of_lt hk0 hl)
  have hz : (0 : Int32).toNatClampNeg = 0 := by decide
  have hti : (nI cnt).toInt = (cnt : Int) := nI_toInt (Nat.lt_of_le_of_lt hk0 hl)
  obtain ⟨c0, c01, c02⟩ := (hH.2.2 a0).2.1 (by rw [h0])
  rw [h0] at c01
  obtain ⟨c1, c11, c12⟩ := (hH.2.2 a1).2.1 (by rw [h1])
  rw [h1] at c11
  have hA : b0 ≤ a1 := (hH.2.1 a1 (by rw [h1]; simp)).1
  have hc0 : H[a0]? = some (vp_cell c0 (l0, .inl (I a0))) := c01
  have hc1 : H[a1]? = some (vp_cell c1 (l1, .inl (I a1))) := c11
  intro T hT X
  obtain ⟨-, k0, hk0', cm0, hkk0⟩ := c02 l0 (fun j => .int (I a0 j))
  obtain ⟨-, k1, hk1', cm1, hkk1⟩ := c12 l1 (fun j => .int (I a1 j))
  obtain ⟨vm', X', step⟩ := X.arraycopy C.1 C.2.2.2.1 (C.w _ w1) (C.w _ w2) (C.w _ w3) (C.w _ w4) (src := a0) (dst := a1) (cs := vp_cell c0 (l0, .inl (I a0))) (cd := vp_cell c1 (l1, .inl (I a1))) (srcPos := 0) (destPos := 0) (n := nI cnt) (by rw [hT]; exact hc0) (by rw [hT]; exact hc1)
    (fun _ h => by cases h) (fun _ h => by cases h) (fun h => by cases h) (fun h => by cases h) hk0' hk1' hkk0 hkk1 (by simp [refKind]) (by decide) (by decide) (nI_pos (Nat.lt_of_le_of_lt hk0 hl))
    (by rw [hti]; show ¬ _ > ((arrV c0 l0 (fun j => .int (I a0 j))).slots.size : Int); rw [arrV_size]; simp; omega)
    (by rw [hti]; show ¬ _ > ((arrV c1 l1 (fun j => .int (I a1 j))).slots.size : Int); rw [arrV_size]; simp; omega)
    (fun vm₁ _ i hi => by
      rw [hcl] at hi
      have e : (vp_cell c0 (l0, .inl (I a0))).slots.getD ((0 : Int32).toNatClampNeg + i) .null = .int (I a0 ((0 : Int32).toNatClampNeg + i)) := by
        show (arrV c0 l0 (fun j => .int (I a0 j))).slots.getD _ _ = _
        rw [Array.getD_eq_getD_getElem?, arrV_read _ _ (by rw [hz]; omega)]
        rfl
      refine ⟨?_, ?_⟩
      · rw [e]; rfl
      · rw [e]
        exact trivial)
    (g := F0 m pc ls (.int (nI cnt) :: .int 0 :: .ref a1 :: .int 0 :: .ref a0 :: stk)) rfl (by rw [C.2.2.1]; exact L.1) (rest := stk) rfl (by rw [C.2.1]; exact hd) hR.1 (by show 2 * 0 + _ + _ ≤ _; omega)
  have e1 : copied (vp_cell c0 (l0, .inl (I a0))) (vp_cell c1 (l1, .inl (I a1))) 0 0 (nI cnt) = vp_cell c1 (l1, .inl (va_cpy (I a0) (I a1) (0 : Int32).toNatClampNeg (0 : Int32).toNatClampNeg (nI cnt).toNatClampNeg)) := va_copied (fun z => .int z) c0 c1 (I a0) (I a1) (by rw [hcl, hz]; omega)
  rw [e1] at X' step
  have e2 : va_cpy (I a0) (I a1) (0 : Int32).toNatClampNeg (0 : Int32).toNatClampNeg (nI cnt).toNatClampNeg = fun j => if j < cnt then I a0 j else I a1 j := by
    funext j
    simp [va_cpy, hcl, hz]
  rw [e2] at X' step
  have hlt : a1 < H.size := (Array.getElem?_eq_some_iff.mp hc1).1
  have hheap : ((T.setVm vm').setCell a1 (vp_cell c1 (l1, .inl (fun j => if j < cnt then I a0 j else I a1 j)))).heap = H.setIfInBounds a1 (vp_cell c1 (l1, .inl (fun j => if j < cnt then I a0 j else I a1 j))) := by rw [← hT]; rfl
  have oq : ∀ q : Nat, q ≠ a1 → (H.setIfInBounds a1 (vp_cell c1 (l1, .inl (fun j => if j < cnt then I a0 j else I a1 j))))[q]? = H[q]? := fun q hq => by simp [Array.getElem?_setIfInBounds, Ne.symm hq]
  obtain ⟨t, b1, b2⟩ := kk p e s m args below meth c _ _ ls C L (hH.set (a := a1) (H1 := H.setIfInBounds a1 (vp_cell c1 (l1, .inl (fun j => if j < cnt then I a0 j else I a1 j)))) (by simp) oq (fun x hx => by simp [mv_rp, hx]) (fun _ _ => rfl) (by rw [h1]; simp only [mv_rp, if_true]; exact mv_at7 (by simp [Array.getElem?_setIfInBounds, hlt]) c12)) ⟨by simp; exact hS.1, fun q g1 g2 => by
      rw [oq q (fun e => g2 (by rw [e]; exact hA))]
      exact hS.2.1 q g1 g2, fun q hq => by
      rcases List.mem_append.mp hq with h | h
      · exact hS.2.2 q h
      · obtain ⟨z, -, hz⟩ := List.mem_map.mp h
        rw [← hz]
        exact hA⟩ _ hheap X'
  exact ⟨t, step t b1, b2⟩
end MD
end
section
abbrev m0_init : mv_M := (yX0_init, cX0_init, 3, none)
abbrev m0_remember : mv_M := (yX0_remember, cX0_remember, 2, none)
abbrev m0_restore : mv_M := (yX0_restore, cX0_restore, 2, some .boolean)
abbrev m1_init : mv_M := (yX1_init, cX1_init, 1, none)
abbrev m1_tellAnew : mv_M := (yX1_tellAnew, cX1_tellAnew, 1, none)
abbrev m1_addTask : mv_M := (yX1_addTask, cX1_addTask, 3, some .int)
abbrev m1_addOperation : mv_M := (yX1_addOperation, cX1_addOperation, 5, some .boolean)
abbrev m1_copyFrom : mv_M := (yX1_copyFrom, cX1_copyFrom, 2, none)
abbrev m2_init : mv_M := (yX2_init, cX2_init, 3, none)
abbrev m2_readAll : mv_M := (yX2_readAll, cX2_readAll, 2, some .boolean)
abbrev m2_readItem : mv_M := (yX2_readItem, cX2_readItem, 1, some .boolean)
abbrev m2_readRoot : mv_M := (yX2_readRoot, cX2_readRoot, 1, some .boolean)
abbrev m2_readTask : mv_M := (yX2_readTask, cX2_readTask, 2, some .boolean)
abbrev m2_readSetting : mv_M := (yX2_readSetting, cX2_readSetting, 5, some .boolean)
abbrev m2_readGathers : mv_M := (yX2_readGathers, cX2_readGathers, 1, some .boolean)
abbrev m2_readOperations : mv_M := (yX2_readOperations, cX2_readOperations, 3, some .boolean)
abbrev m2_readOperation : mv_M := (yX2_readOperation, cX2_readOperation, 4, some .boolean)
abbrev m2_readEnd : mv_M := (yX2_readEnd, cX2_readEnd, 1, some .boolean)
abbrev m2_isTaskTold : mv_M := (yX2_isTaskTold, cX2_isTaskTold, 1, some .boolean)
abbrev m3_init : mv_M := (yX3_init, cX3_init, 2, none)
abbrev m3_restart : mv_M := (yX3_restart, cX3_restart, 3, none)
abbrev m3_copyFrom : mv_M := (yX3_copyFrom, cX3_copyFrom, 2, none)
abbrev m3_passUntilEnded : mv_M := (yX3_passUntilEnded, cX3_passUntilEnded, 4, some .boolean)
abbrev m3_hadEndedBy : mv_M := (yX3_hadEndedBy, cX3_hadEndedBy, 3, some .boolean)
abbrev m3_countThatAre : mv_M := (yX3_countThatAre, cX3_countThatAre, 4, some .int)
abbrev m3_activeChildren : mv_M := (yX3_activeChildren, cX3_activeChildren, 4, some .int)
abbrev m3_passTick : mv_M := (yX3_passTick, cX3_passTick, 2, none)
abbrev m3_goOn : mv_M := (yX3_goOn, cX3_goOn, 3, none)
abbrev m3_operate : mv_M := (yX3_operate, cX3_operate, 4, none)
abbrev m3_work : mv_M := (yX3_work, cX3_work, 3, none)
abbrev m3_beginChild : mv_M := (yX3_beginChild, cX3_beginChild, 3, none)
abbrev m3_start : mv_M := (yX3_start, cX3_start, 3, none)
abbrev m3_askChildren : mv_M := (yX3_askChildren, cX3_askChildren, 3, none)
abbrev m3_close : mv_M := (yX3_close, cX3_close, 3, none)
abbrev m3_cleansUp : mv_M := (yX3_cleansUp, cX3_cleansUp, 2, some .boolean)
abbrev m3_end : mv_M := (yX3_end, cX3_end, 3, none)
abbrev m3_giveList : mv_M := (yX3_giveList, cX3_giveList, 4, none)
abbrev m3_takeFailure : mv_M := (yX3_takeFailure, cX3_takeFailure, 2, none)
abbrev m3_addCode : mv_M := (yX3_addCode, cX3_addCode, 3, none)
abbrev m3_note : mv_M := (yX3_note, cX3_note, 3, none)
abbrev m4_init : mv_M := (yX4_init, cX4_init, 1, none)
abbrev m4_append : mv_M := (yX4_append, cX4_append, 2, some .boolean)
abbrev m4_goToFirst : mv_M := (yX4_goToFirst, cX4_goToFirst, 1, none)
abbrev m4_advance : mv_M := (yX4_advance, cX4_advance, 2, none)
abbrev m4_isNumberWithin : mv_M := (yX4_isNumberWithin, cX4_isNumberWithin, 3, some .boolean)
abbrev m5_init : mv_M := (yX5_init, cX5_init, 2, none)
abbrev m5_type : mv_M := (yX5_type, cX5_type, 2, some .int)
abbrev m5_clear : mv_M := (yX5_clear, cX5_clear, 2, some .int)
abbrev m5_tree : mv_M := (yX5_tree, cX5_tree, 2, some .int)
abbrev m5_ticks : mv_M := (yX5_ticks, cX5_ticks, 3, some .int)
abbrev m5_asks : mv_M := (yX5_asks, cX5_asks, 2, some .int)
abbrev m5_undo : mv_M := (yX5_undo, cX5_undo, 1, some .int)
abbrev m5_task : mv_M := (yX5_task, cX5_task, 3, some .int)
abbrev m5_failure : mv_M := (yX5_failure, cX5_failure, 3, some .int)
abbrev m5_trace : mv_M := (yX5_trace, cX5_trace, 3, some .int)
abbrev m5_ends : mv_M := (yX5_ends, cX5_ends, 3, some .int)
abbrev m5_wellBy : mv_M := (yX5_wellBy, cX5_wellBy, 2, some .int)
abbrev m5_spares : mv_M := (yX5_spares, cX5_spares, 3, some .int)
abbrev m5_sees : mv_M := (yX5_sees, cX5_sees, 4, some .int)
abbrev m5_forget : mv_M := (yX5_forget, cX5_forget, 2, some .int)
abbrev m5_fits : mv_M := (yX5_fits, cX5_fits, 5, some .int)
abbrev m5_keep : mv_M := (yX5_keep, cX5_keep, 2, some .int)
abbrev m5_back : mv_M := (yX5_back, cX5_back, 2, some .int)
abbrev m5_count : mv_M := (yX5_count, cX5_count, 2, some .int)
abbrev m5_isTask : mv_M := (yX5_isTask, cX5_isTask, 2, some .boolean)
abbrev m5_suppose : mv_M := (yX5_suppose, cX5_suppose, 3, none)
abbrev m5_longestSeen : mv_M := (yX5_longestSeen, cX5_longestSeen, 3, some .int)
abbrev m5_agreesWithSeen : mv_M := (yX5_agreesWithSeen, cX5_agreesWithSeen, 3, some .boolean)
abbrev m6_init : mv_M := (yX6_init, cX6_init, 1, none)
abbrev m6_in : mv_M := (yX6_in, cX6_in, 3, some .boolean)
abbrev m6_type : mv_M := (yX6_type, cX6_type, 2, some .int)
abbrev m6_clear : mv_M := (yX6_clear, cX6_clear, 2, some .int)
abbrev m6_isFigure : mv_M := (yX6_isFigure, cX6_isFigure, 1, some .boolean)
abbrev m6_blanks : mv_M := (yX6_blanks, cX6_blanks, 1, none)
abbrev m6_isToken : mv_M := (yX6_isToken, cX6_isToken, 1, some .boolean)
abbrev m6_next : mv_M := (yX6_next, cX6_next, 1, none)
abbrev m6_fails : mv_M := (yX6_fails, cX6_fails, 1, some .boolean)
abbrev m6_number : mv_M := (yX6_number, cX6_number, 3, some .boolean)
abbrev m6_ends : mv_M := (yX6_ends, cX6_ends, 1, some .boolean)
abbrev m6_begins : mv_M := (yX6_begins, cX6_begins, 2, none)
abbrev m6_readsProgram : mv_M := (yX6_readsProgram, cX6_readsProgram, 5, some .boolean)
abbrev m6_readsTask : mv_M := (yX6_readsTask, cX6_readsTask, 1, some .boolean)
abbrev m6_readsOf : mv_M := (yX6_readsOf, cX6_readsOf, 3, some .boolean)
abbrev m6_readsItem : mv_M := (yX6_readsItem, cX6_readsItem, 2, some .boolean)
abbrev m6_tellsAll : mv_M := (yX6_tellsAll, cX6_tellsAll, 3, none)
abbrev m6_tree : mv_M := (yX6_tree, cX6_tree, 2, some .int)
abbrev m6_copies : mv_M := (yX6_copies, cX6_copies, 3, none)
abbrev m6_starts : mv_M := (yX6_starts, cX6_starts, 3, none)
abbrev m6_at : mv_M := (yX6_at, cX6_at, 3, some .int)
abbrev m6_isHow : mv_M := (yX6_isHow, cX6_isHow, 3, some .boolean)
abbrev m6_traces : mv_M := (yX6_traces, cX6_traces, 4, none)
abbrev m6_codes : mv_M := (yX6_codes, cX6_codes, 3, none)
abbrev m6_asksChildren : mv_M := (yX6_asksChildren, cX6_asksChildren, 4, none)
abbrev m6_closes : mv_M := (yX6_closes, cX6_closes, 5, none)
abbrev m6_begin : mv_M := (yX6_begin, cX6_begin, 5, none)
abbrev m6_beginsChild : mv_M := (yX6_beginsChild, cX6_beginsChild, 4, none)
abbrev m6_isBusy : mv_M := (yX6_isBusy, cX6_isBusy, 5, some .boolean)
abbrev m6_works : mv_M := (yX6_works, cX6_works, 5, none)
abbrev m6_moves : mv_M := (yX6_moves, cX6_moves, 3, none)
abbrev m6_gives : mv_M := (yX6_gives, cX6_gives, 5, none)
abbrev m6_cleansUp : mv_M := (yX6_cleansUp, cX6_cleansUp, 4, none)
abbrev m6_tick : mv_M := (yX6_tick, cX6_tick, 3, none)
abbrev m6_isTask : mv_M := (yX6_isTask, cX6_isTask, 2, some .boolean)
abbrev m6_remember : mv_M := (yX6_remember, cX6_remember, 2, none)
abbrev m6_ticks : mv_M := (yX6_ticks, cX6_ticks, 3, some .int)
abbrev m6_asks : mv_M := (yX6_asks, cX6_asks, 2, some .int)
abbrev m6_undo : mv_M := (yX6_undo, cX6_undo, 2, some .int)
abbrev m6_busySet : mv_M := (yX6_busySet, cX6_busySet, 4, some .int)
abbrev m6_task : mv_M := (yX6_task, cX6_task, 3, some .int)
abbrev m6_failure : mv_M := (yX6_failure, cX6_failure, 3, some .int)
abbrev m6_trace : mv_M := (yX6_trace, cX6_trace, 3, some .int)
abbrev m6_goesOn : mv_M := (yX6_goesOn, cX6_goesOn, 3, none)
abbrev m6_ends_ : mv_M := (yX6_ends_, cX6_ends_, 3, some .int)
abbrev m6_wellBy : mv_M := (yX6_wellBy, cX6_wellBy, 4, some .int)
abbrev m6_spares : mv_M := (yX6_spares, cX6_spares, 3, some .int)
abbrev m6_sees : mv_M := (yX6_sees, cX6_sees, 4, some .int)
abbrev m6_forget : mv_M := (yX6_forget, cX6_forget, 2, some .int)
abbrev m6_fits : mv_M := (yX6_fits, cX6_fits, 8, some .int)
abbrev m6_keep : mv_M := (yX6_keep, cX6_keep, 3, some .int)
abbrev m6_back : mv_M := (yX6_back, cX6_back, 3, some .int)
abbrev m6_howMany : mv_M := (yX6_howMany, cX6_howMany, 4, some .int)
abbrev m6_count : mv_M := (yX6_count, cX6_count, 2, some .int)
set_option maxRecDepth 20000 in
theorem wc0_init : Cond.code m0_init.1 m0_init.2.1 m0_init.2.2.1 m0_init.2.2.2 ∈ mv_W := (mv_inW (List.mem_of_getElem? (i := 265) (by decide +kernel)) (by decide +kernel))
set_option maxRecDepth 20000 in
theorem wc0_remember : Cond.code m0_remember.1 m0_remember.2.1 m0_remember.2.2.1 m0_remember.2.2.2 ∈ mv_W := (mv_inW (List.mem_of_getElem? (i := 416) (by decide +kernel)) (by decide +kernel))
set_option maxRecDepth 20000 in
theorem wc0_restore : Cond.code m0_restore.1 m0_restore.2.1 m0_restore.2.2.1 m0_restore.2.2.2 ∈ mv_W := (mv_inW (List.mem_of_getElem? (i := 494) (by decide +kernel)) (by decide +kernel))
set_option maxRecDepth 20000 in
theorem wc1_init : Cond.code m1_init.1 m1_init.2.1 m1_init.2.2.1 m1_init.2.2.2 ∈ mv_W := (mv_inW (List.mem_of_getElem? (i := 106) (by decide +kernel)) (by decide +kernel))
set_option maxRecDepth 20000 in
theorem wc1_tellAnew : Cond.code m1_tellAnew.1 m1_tellAnew.2.1 m1_tellAnew.2.2.1 m1_tellAnew.2.2.2 ∈ mv_W := (mv_inW (List.mem_of_getElem? (i := 111) (by decide +kernel)) (by decide +kernel))
set_option maxRecDepth 20000 in
theorem wc1_addTask : Cond.code m1_addTask.1 m1_addTask.2.1 m1_addTask.2.2.1 m1_addTask.2.2.2 ∈ mv_W := (mv_inW (List.mem_of_getElem? (i := 115) (by decide +kernel)) (by decide +kernel))
set_option maxRecDepth 20000 in
theorem wc1_addOperation : Cond.code m1_addOperation.1 m1_addOperation.2.1 m1_addOperation.2.2.1 m1_addOperation.2.2.2 ∈ mv_W := (mv_inW (List.mem_of_getElem? (i := 379) (by decide +kernel)) (by decide +kernel))
set_option maxRecDepth 20000 in
theorem wc1_copyFrom : Cond.code m1_copyFrom.1 m1_copyFrom.2.1 m1_copyFrom.2.2.1 m1_copyFrom.2.2.2 ∈ mv_W := (mv_inW (List.mem_of_getElem? (i := 404) (by decide +kernel)) (by decide +kernel))
set_option maxRecDepth 20000 in
theorem wc2_init : Cond.code m2_init.1 m2_init.2.1 m2_init.2.2.1 m2_init.2.2.2 ∈ mv_W := (mv_inW (List.mem_of_getElem? (i := 165) (by decide +kernel)) (by decide +kernel))
set_option maxRecDepth 20000 in
theorem wc2_readAll : Cond.code m2_readAll.1 m2_readAll.2.1 m2_readAll.2.2.1 m2_readAll.2.2.2 ∈ mv_W := (mv_inW (List.mem_of_getElem? (i := 344) (by decide +kernel)) (by decide +kernel))
set_option maxRecDepth 20000 in
theorem wc2_readItem : Cond.code m2_readItem.1 m2_readItem.2.1 m2_readItem.2.2.1 m2_readItem.2.2.2 ∈ mv_W := (mv_inW (List.mem_of_getElem? (i := 358) (by decide +kernel)) (by decide +kernel))
set_option maxRecDepth 20000 in
theorem wc2_readRoot : Cond.code m2_readRoot.1 m2_readRoot.2.1 m2_readRoot.2.2.1 m2_readRoot.2.2.2 ∈ mv_W := (mv_inW (List.mem_of_getElem? (i := 362) (by decide +kernel)) (by decide +kernel))
set_option maxRecDepth 20000 in
theorem wc2_readTask : Cond.code m2_readTask.1 m2_readTask.2.1 m2_readTask.2.2.1 m2_readTask.2.2.2 ∈ mv_W := (mv_inW (List.mem_of_getElem? (i := 387) (by decide +kernel)) (by decide +kernel))
set_option maxRecDepth 20000 in
theorem wc2_readSetting : Cond.code m2_readSetting.1 m2_readSetting.2.1 m2_readSetting.2.2.1 m2_readSetting.2.2.2 ∈ mv_W := (mv_inW (List.mem_of_getElem? (i := 396) (by decide +kernel)) (by decide +kernel))
set_option maxRecDepth 20000 in
theorem wc2_readGathers : Cond.code m2_readGathers.1 m2_readGathers.2.1 m2_readGathers.2.2.1 m2_readGathers.2.2.2 ∈ mv_W := (mv_inW (List.mem_of_getElem? (i := 400) (by decide +kernel)) (by decide +kernel))
set_option maxRecDepth 20000 in
theorem wc2_readOperations : Cond.code m2_readOperations.1 m2_readOperations.2.1 m2_readOperations.2.2.1 m2_readOperations.2.2.2 ∈ mv_W := (mv_inW (List.mem_of_getElem? (i := 367) (by decide +kernel)) (by decide +kernel))
set_option maxRecDepth 20000 in
theorem wc2_readOperation : Cond.code m2_readOperation.1 m2_readOperation.2.1 m2_readOperation.2.2.1 m2_readOperation.2.2.2 ∈ mv_W := (mv_inW (List.mem_of_getElem? (i := 371) (by decide +kernel)) (by decide +kernel))
set_option maxRecDepth 20000 in
theorem wc2_readEnd : Cond.code m2_readEnd.1 m2_readEnd.2.1 m2_readEnd.2.2.1 m2_readEnd.2.2.2 ∈ mv_W := (mv_inW (List.mem_of_getElem? (i := 383) (by decide +kernel)) (by decide +kernel))
set_option maxRecDepth 20000 in
theorem wc2_isTaskTold : Cond.code m2_isTaskTold.1 m2_isTaskTold.2.1 m2_isTaskTold.2.2.1 m2_isTaskTold.2.2.2 ∈ mv_W := (mv_inW (List.mem_of_getElem? (i := 391) (by decide +kernel)) (by decide +kernel))
set_option maxRecDepth 20000 in
theorem wc3_init : Cond.code m3_init.1 m3_init.2.1 m3_init.2.2.1 m3_init.2.2.2 ∈ mv_W := (mv_inW (List.mem_of_getElem? (i := 182) (by decide +kernel)) (by decide +kernel))
set_option maxRecDepth 20000 in
theorem wc3_restart : Cond.code m3_restart.1 m3_restart.2.1 m3_restart.2.2.1 m3_restart.2.2.2 ∈ mv_W := (mv_inW (List.mem_of_getElem? (i := 187) (by decide +kernel)) (by decide +kernel))
set_option maxRecDepth 20000 in
theorem wc3_copyFrom : Cond.code m3_copyFrom.1 m3_copyFrom.2.1 m3_copyFrom.2.2.1 m3_copyFrom.2.2.2 ∈ mv_W := (mv_inW (List.mem_of_getElem? (i := 420) (by decide +kernel)) (by decide +kernel))
set_option maxRecDepth 20000 in
theorem wc3_passUntilEnded : Cond.code m3_passUntilEnded.1 m3_passUntilEnded.2.1 m3_passUntilEnded.2.2.1 m3_passUntilEnded.2.2.2 ∈ mv_W := (mv_inW (List.mem_of_getElem? (i := 517) (by decide +kernel)) (by decide +kernel))
set_option maxRecDepth 20000 in
theorem wc3_hadEndedBy : Cond.code m3_hadEndedBy.1 m3_hadEndedBy.2.1 m3_hadEndedBy.2.2.1 m3_hadEndedBy.2.2.2 ∈ mv_W := (mv_inW (List.mem_of_getElem? (i := 558) (by decide +kernel)) (by decide +kernel))
set_option maxRecDepth 20000 in
theorem wc3_countThatAre : Cond.code m3_countThatAre.1 m3_countThatAre.2.1 m3_countThatAre.2.2.1 m3_countThatAre.2.2.2 ∈ mv_W := (mv_inW (List.mem_of_getElem? (i := 574) (by decide +kernel)) (by decide +kernel))
set_option maxRecDepth 20000 in
theorem wc3_activeChildren : Cond.code m3_activeChildren.1 m3_activeChildren.2.1 m3_activeChildren.2.2.1 m3_activeChildren.2.2.2 ∈ mv_W := (mv_inW (List.mem_of_getElem? (i := 462) (by decide +kernel)) (by decide +kernel))
set_option maxRecDepth 20000 in
theorem wc3_passTick : Cond.code m3_passTick.1 m3_passTick.2.1 m3_passTick.2.2.1 m3_passTick.2.2.2 ∈ mv_W := (mv_inW (List.mem_of_getElem? (i := 426) (by decide +kernel)) (by decide +kernel))
set_option maxRecDepth 20000 in
theorem wc3_goOn : Cond.code m3_goOn.1 m3_goOn.2.1 m3_goOn.2.2.1 m3_goOn.2.2.2 ∈ mv_W := (mv_inW (List.mem_of_getElem? (i := 446) (by decide +kernel)) (by decide +kernel))
set_option maxRecDepth 20000 in
theorem wc3_operate : Cond.code m3_operate.1 m3_operate.2.1 m3_operate.2.2.1 m3_operate.2.2.2 ∈ mv_W := (mv_inW (List.mem_of_getElem? (i := 450) (by decide +kernel)) (by decide +kernel))
set_option maxRecDepth 20000 in
theorem wc3_work : Cond.code m3_work.1 m3_work.2.1 m3_work.2.2.1 m3_work.2.2.2 ∈ mv_W := (mv_inW (List.mem_of_getElem? (i := 454) (by decide +kernel)) (by decide +kernel))
set_option maxRecDepth 20000 in
theorem wc3_beginChild : Cond.code m3_beginChild.1 m3_beginChild.2.1 m3_beginChild.2.2.1 m3_beginChild.2.2.2 ∈ mv_W := (mv_inW (List.mem_of_getElem? (i := 458) (by decide +kernel)) (by decide +kernel))
set_option maxRecDepth 20000 in
theorem wc3_start : Cond.code m3_start.1 m3_start.2.1 m3_start.2.2.1 m3_start.2.2.2 ∈ mv_W := (mv_inW (List.mem_of_getElem? (i := 192) (by decide +kernel)) (by decide +kernel))
set_option maxRecDepth 20000 in
theorem wc3_askChildren : Cond.code m3_askChildren.1 m3_askChildren.2.1 m3_askChildren.2.2.1 m3_askChildren.2.2.2 ∈ mv_W := (mv_inW (List.mem_of_getElem? (i := 442) (by decide +kernel)) (by decide +kernel))
set_option maxRecDepth 20000 in
theorem wc3_close : Cond.code m3_close.1 m3_close.2.1 m3_close.2.2.1 m3_close.2.2.2 ∈ mv_W := (mv_inW (List.mem_of_getElem? (i := 434) (by decide +kernel)) (by decide +kernel))
set_option maxRecDepth 20000 in
theorem wc3_cleansUp : Cond.code m3_cleansUp.1 m3_cleansUp.2.1 m3_cleansUp.2.2.1 m3_cleansUp.2.2.2 ∈ mv_W := (mv_inW (List.mem_of_getElem? (i := 466) (by decide +kernel)) (by decide +kernel))
set_option maxRecDepth 20000 in
theorem wc3_end : Cond.code m3_end.1 m3_end.2.1 m3_end.2.2.1 m3_end.2.2.2 ∈ mv_W := (mv_inW (List.mem_of_getElem? (i := 470) (by decide +kernel)) (by decide +kernel))
set_option maxRecDepth 20000 in
theorem wc3_giveList : Cond.code m3_giveList.1 m3_giveList.2.1 m3_giveList.2.2.1 m3_giveList.2.2.2 ∈ mv_W := (mv_inW (List.mem_of_getElem? (i := 474) (by decide +kernel)) (by decide +kernel))
set_option maxRecDepth 20000 in
theorem wc3_takeFailure : Cond.code m3_takeFailure.1 m3_takeFailure.2.1 m3_takeFailure.2.2.1 m3_takeFailure.2.2.2 ∈ mv_W := (mv_inW (List.mem_of_getElem? (i := 478) (by decide +kernel)) (by decide +kernel))
set_option maxRecDepth 20000 in
theorem wc3_addCode : Cond.code m3_addCode.1 m3_addCode.2.1 m3_addCode.2.2.1 m3_addCode.2.2.2 ∈ mv_W := (mv_inW (List.mem_of_getElem? (i := 430) (by decide +kernel)) (by decide +kernel))
set_option maxRecDepth 20000 in
theorem wc3_note : Cond.code m3_note.1 m3_note.2.1 m3_note.2.2.1 m3_note.2.2.2 ∈ mv_W := (mv_inW (List.mem_of_getElem? (i := 438) (by decide +kernel)) (by decide +kernel))
set_option maxRecDepth 20000 in
theorem wc4_init : Cond.code m4_init.1 m4_init.2.1 m4_init.2.2.1 m4_init.2.2.2 ∈ mv_W := (mv_inW (List.mem_of_getElem? (i := 76) (by decide +kernel)) (by decide +kernel))
set_option maxRecDepth 20000 in
theorem wc4_append : Cond.code m4_append.1 m4_append.2.1 m4_append.2.2.1 m4_append.2.2.2 ∈ mv_W := (mv_inW (List.mem_of_getElem? (i := 332) (by decide +kernel)) (by decide +kernel))
set_option maxRecDepth 20000 in
theorem wc4_goToFirst : Cond.code m4_goToFirst.1 m4_goToFirst.2.1 m4_goToFirst.2.2.1 m4_goToFirst.2.2.2 ∈ mv_W := (mv_inW (List.mem_of_getElem? (i := 349) (by decide +kernel)) (by decide +kernel))
set_option maxRecDepth 20000 in
theorem wc4_advance : Cond.code m4_advance.1 m4_advance.2.1 m4_advance.2.2.1 m4_advance.2.2.2 ∈ mv_W := (mv_inW (List.mem_of_getElem? (i := 353) (by decide +kernel)) (by decide +kernel))
set_option maxRecDepth 20000 in
theorem wc4_isNumberWithin : Cond.code m4_isNumberWithin.1 m4_isNumberWithin.2.1 m4_isNumberWithin.2.2.1 m4_isNumberWithin.2.2.2 ∈ mv_W := (mv_inW (List.mem_of_getElem? (i := 375) (by decide +kernel)) (by decide +kernel))
set_option maxRecDepth 20000 in
theorem wc5_init : Cond.code m5_init.1 m5_init.2.1 m5_init.2.2.1 m5_init.2.2.2 ∈ mv_W := (mv_inW (List.mem_of_getElem? (i := 68) (by decide +kernel)) (by decide +kernel))
set_option maxRecDepth 20000 in
theorem wc5_type : Cond.code m5_type.1 m5_type.2.1 m5_type.2.2.1 m5_type.2.2.2 ∈ mv_W := (mv_inW (List.mem_of_getElem? (i := 328) (by decide +kernel)) (by decide +kernel))
set_option maxRecDepth 20000 in
theorem wc5_clear : Cond.code m5_clear.1 m5_clear.2.1 m5_clear.2.2.1 m5_clear.2.2.2 ∈ mv_W := (mv_inW (List.mem_of_getElem? (i := 336) (by decide +kernel)) (by decide +kernel))
set_option maxRecDepth 20000 in
theorem wc5_tree : Cond.code m5_tree.1 m5_tree.2.1 m5_tree.2.2.1 m5_tree.2.2.2 ∈ mv_W := (mv_inW (List.mem_of_getElem? (i := 340) (by decide +kernel)) (by decide +kernel))
set_option maxRecDepth 20000 in
theorem wc5_ticks : Cond.code m5_ticks.1 m5_ticks.2.1 m5_ticks.2.2.1 m5_ticks.2.2.2 ∈ mv_W := (mv_inW (List.mem_of_getElem? (i := 412) (by decide +kernel)) (by decide +kernel))
set_option maxRecDepth 20000 in
theorem wc5_asks : Cond.code m5_asks.1 m5_asks.2.1 m5_asks.2.2.1 m5_asks.2.2.2 ∈ mv_W := (mv_inW (List.mem_of_getElem? (i := 482) (by decide +kernel)) (by decide +kernel))
set_option maxRecDepth 20000 in
theorem wc5_undo : Cond.code m5_undo.1 m5_undo.2.1 m5_undo.2.2.1 m5_undo.2.2.2 ∈ mv_W := (mv_inW (List.mem_of_getElem? (i := 490) (by decide +kernel)) (by decide +kernel))
set_option maxRecDepth 20000 in
theorem wc5_task : Cond.code m5_task.1 m5_task.2.1 m5_task.2.2.1 m5_task.2.2.2 ∈ mv_W := (mv_inW (List.mem_of_getElem? (i := 498) (by decide +kernel)) (by decide +kernel))
set_option maxRecDepth 20000 in
theorem wc5_failure : Cond.code m5_failure.1 m5_failure.2.1 m5_failure.2.2.1 m5_failure.2.2.2 ∈ mv_W := (mv_inW (List.mem_of_getElem? (i := 504) (by decide +kernel)) (by decide +kernel))
set_option maxRecDepth 20000 in
theorem wc5_trace : Cond.code m5_trace.1 m5_trace.2.1 m5_trace.2.2.1 m5_trace.2.2.2 ∈ mv_W := (mv_inW (List.mem_of_getElem? (i := 508) (by decide +kernel)) (by decide +kernel))
set_option maxRecDepth 20000 in
theorem wc5_ends : Cond.code m5_ends.1 m5_ends.2.1 m5_ends.2.2.1 m5_ends.2.2.2 ∈ mv_W := (mv_inW (List.mem_of_getElem? (i := 512) (by decide +kernel)) (by decide +kernel))
set_option maxRecDepth 20000 in
theorem wc5_wellBy : Cond.code m5_wellBy.1 m5_wellBy.2.1 m5_wellBy.2.2.1 m5_wellBy.2.2.2 ∈ mv_W := (mv_inW (List.mem_of_getElem? (i := 522) (by decide +kernel)) (by decide +kernel))
set_option maxRecDepth 20000 in
theorem wc5_spares : Cond.code m5_spares.1 m5_spares.2.1 m5_spares.2.2.1 m5_spares.2.2.2 ∈ mv_W := (mv_inW (List.mem_of_getElem? (i := 530) (by decide +kernel)) (by decide +kernel))
set_option maxRecDepth 20000 in
theorem wc5_sees : Cond.code m5_sees.1 m5_sees.2.1 m5_sees.2.2.1 m5_sees.2.2.2 ∈ mv_W := (mv_inW (List.mem_of_getElem? (i := 535) (by decide +kernel)) (by decide +kernel))
set_option maxRecDepth 20000 in
theorem wc5_forget : Cond.code m5_forget.1 m5_forget.2.1 m5_forget.2.2.1 m5_forget.2.2.2 ∈ mv_W := (mv_inW (List.mem_of_getElem? (i := 539) (by decide +kernel)) (by decide +kernel))
set_option maxRecDepth 20000 in
theorem wc5_fits : Cond.code m5_fits.1 m5_fits.2.1 m5_fits.2.2.1 m5_fits.2.2.2 ∈ mv_W := (mv_inW (List.mem_of_getElem? (i := 543) (by decide +kernel)) (by decide +kernel))
set_option maxRecDepth 20000 in
theorem wc5_keep : Cond.code m5_keep.1 m5_keep.2.1 m5_keep.2.2.1 m5_keep.2.2.2 ∈ mv_W := (mv_inW (List.mem_of_getElem? (i := 562) (by decide +kernel)) (by decide +kernel))
set_option maxRecDepth 20000 in
theorem wc5_back : Cond.code m5_back.1 m5_back.2.1 m5_back.2.2.1 m5_back.2.2.2 ∈ mv_W := (mv_inW (List.mem_of_getElem? (i := 566) (by decide +kernel)) (by decide +kernel))
set_option maxRecDepth 20000 in
theorem wc5_count : Cond.code m5_count.1 m5_count.2.1 m5_count.2.2.1 m5_count.2.2.2 ∈ mv_W := (mv_inW (List.mem_of_getElem? (i := 570) (by decide +kernel)) (by decide +kernel))
set_option maxRecDepth 20000 in
theorem wc5_isTask : Cond.code m5_isTask.1 m5_isTask.2.1 m5_isTask.2.2.1 m5_isTask.2.2.2 ∈ mv_W := (mv_inW (List.mem_of_getElem? (i := 486) (by decide +kernel)) (by decide +kernel))
set_option maxRecDepth 20000 in
theorem wc5_suppose : Cond.code m5_suppose.1 m5_suppose.2.1 m5_suppose.2.2.1 m5_suppose.2.2.2 ∈ mv_W := (mv_inW (List.mem_of_getElem? (i := 526) (by decide +kernel)) (by decide +kernel))
set_option maxRecDepth 20000 in
theorem wc5_longestSeen : Cond.code m5_longestSeen.1 m5_longestSeen.2.1 m5_longestSeen.2.2.1 m5_longestSeen.2.2.2 ∈ mv_W := (mv_inW (List.mem_of_getElem? (i := 547) (by decide +kernel)) (by decide +kernel))
set_option maxRecDepth 20000 in
theorem wc5_agreesWithSeen : Cond.code m5_agreesWithSeen.1 m5_agreesWithSeen.2.1 m5_agreesWithSeen.2.2.1 m5_agreesWithSeen.2.2.2 ∈ mv_W := (mv_inW (List.mem_of_getElem? (i := 554) (by decide +kernel)) (by decide +kernel))
set_option maxRecDepth 20000 in
theorem wc6_init : Cond.code m6_init.1 m6_init.2.1 m6_init.2.2.1 m6_init.2.2.2 ∈ mv_W := (mv_inW (List.mem_of_getElem? (i := 579) (by decide +kernel)) (by decide +kernel))
set_option maxRecDepth 20000 in
theorem wc6_in : Cond.code m6_in.1 m6_in.2.1 m6_in.2.2.1 m6_in.2.2.2 ∈ mv_W := (mv_inW (List.mem_of_getElem? (i := 702) (by decide +kernel)) (by decide +kernel))
set_option maxRecDepth 20000 in
theorem wc6_type : Cond.code m6_type.1 m6_type.2.1 m6_type.2.2.1 m6_type.2.2.2 ∈ mv_W := (mv_inW (List.mem_of_getElem? (i := 699) (by decide +kernel)) (by decide +kernel))
set_option maxRecDepth 20000 in
theorem wc6_clear : Cond.code m6_clear.1 m6_clear.2.1 m6_clear.2.2.1 m6_clear.2.2.2 ∈ mv_W := (mv_inW (List.mem_of_getElem? (i := 706) (by decide +kernel)) (by decide +kernel))
set_option maxRecDepth 20000 in
theorem wc6_isFigure : Cond.code m6_isFigure.1 m6_isFigure.2.1 m6_isFigure.2.2.1 m6_isFigure.2.2.2 ∈ mv_W := (mv_inW (List.mem_of_getElem? (i := 726) (by decide +kernel)) (by decide +kernel))
set_option maxRecDepth 20000 in
theorem wc6_blanks : Cond.code m6_blanks.1 m6_blanks.2.1 m6_blanks.2.2.1 m6_blanks.2.2.2 ∈ mv_W := (mv_inW (List.mem_of_getElem? (i := 714) (by decide +kernel)) (by decide +kernel))
set_option maxRecDepth 20000 in
theorem wc6_isToken : Cond.code m6_isToken.1 m6_isToken.2.1 m6_isToken.2.2.1 m6_isToken.2.2.2 ∈ mv_W := (mv_inW (List.mem_of_getElem? (i := 729) (by decide +kernel)) (by decide +kernel))
set_option maxRecDepth 20000 in
theorem wc6_next : Cond.code m6_next.1 m6_next.2.1 m6_next.2.2.1 m6_next.2.2.2 ∈ mv_W := (mv_inW (List.mem_of_getElem? (i := 722) (by decide +kernel)) (by decide +kernel))
set_option maxRecDepth 20000 in
theorem wc6_fails : Cond.code m6_fails.1 m6_fails.2.1 m6_fails.2.2.1 m6_fails.2.2.2 ∈ mv_W := (mv_inW (List.mem_of_getElem? (i := 733) (by decide +kernel)) (by decide +kernel))
set_option maxRecDepth 20000 in
theorem wc6_number : Cond.code m6_number.1 m6_number.2.1 m6_number.2.2.1 m6_number.2.2.2 ∈ mv_W := (mv_inW (List.mem_of_getElem? (i := 741) (by decide +kernel)) (by decide +kernel))
set_option maxRecDepth 20000 in
theorem wc6_ends : Cond.code m6_ends.1 m6_ends.2.1 m6_ends.2.2.1 m6_ends.2.2.2 ∈ mv_W := (mv_inW (List.mem_of_getElem? (i := 753) (by decide +kernel)) (by decide +kernel))
set_option maxRecDepth 20000 in
theorem wc6_begins : Cond.code m6_begins.1 m6_begins.2.1 m6_begins.2.2.1 m6_begins.2.2.2 ∈ mv_W := (mv_inW (List.mem_of_getElem? (i := 584) (by decide +kernel)) (by decide +kernel))
set_option maxRecDepth 20000 in
theorem wc6_readsProgram : Cond.code m6_readsProgram.1 m6_readsProgram.2.1 m6_readsProgram.2.2.1 m6_readsProgram.2.2.2 ∈ mv_W := (mv_inW (List.mem_of_getElem? (i := 737) (by decide +kernel)) (by decide +kernel))
set_option maxRecDepth 20000 in
theorem wc6_readsTask : Cond.code m6_readsTask.1 m6_readsTask.2.1 m6_readsTask.2.2.1 m6_readsTask.2.2.2 ∈ mv_W := (mv_inW (List.mem_of_getElem? (i := 745) (by decide +kernel)) (by decide +kernel))
set_option maxRecDepth 20000 in
theorem wc6_readsOf : Cond.code m6_readsOf.1 m6_readsOf.2.1 m6_readsOf.2.2.1 m6_readsOf.2.2.2 ∈ mv_W := (mv_inW (List.mem_of_getElem? (i := 749) (by decide +kernel)) (by decide +kernel))
set_option maxRecDepth 20000 in
theorem wc6_readsItem : Cond.code m6_readsItem.1 m6_readsItem.2.1 m6_readsItem.2.2.1 m6_readsItem.2.2.2 ∈ mv_W := (mv_inW (List.mem_of_getElem? (i := 718) (by decide +kernel)) (by decide +kernel))
set_option maxRecDepth 20000 in
theorem wc6_tellsAll : Cond.code m6_tellsAll.1 m6_tellsAll.2.1 m6_tellsAll.2.2.1 m6_tellsAll.2.2.2 ∈ mv_W := (mv_inW (List.mem_of_getElem? (i := 588) (by decide +kernel)) (by decide +kernel))
set_option maxRecDepth 20000 in
theorem wc6_tree : Cond.code m6_tree.1 m6_tree.2.1 m6_tree.2.2.1 m6_tree.2.2.2 ∈ mv_W := (mv_inW (List.mem_of_getElem? (i := 710) (by decide +kernel)) (by decide +kernel))
set_option maxRecDepth 20000 in
theorem wc6_copies : Cond.code m6_copies.1 m6_copies.2.1 m6_copies.2.2.1 m6_copies.2.2.2 ∈ mv_W := (mv_inW (List.mem_of_getElem? (i := 848) (by decide +kernel)) (by decide +kernel))
set_option maxRecDepth 20000 in
theorem wc6_starts : Cond.code m6_starts.1 m6_starts.2.1 m6_starts.2.2.1 m6_starts.2.2.2 ∈ mv_W := (mv_inW (List.mem_of_getElem? (i := 592) (by decide +kernel)) (by decide +kernel))
set_option maxRecDepth 20000 in
theorem wc6_at : Cond.code m6_at.1 m6_at.2.1 m6_at.2.2.1 m6_at.2.2.2 ∈ mv_W := (mv_inW (List.mem_of_getElem? (i := 771) (by decide +kernel)) (by decide +kernel))
set_option maxRecDepth 20000 in
theorem wc6_isHow : Cond.code m6_isHow.1 m6_isHow.2.1 m6_isHow.2.2.1 m6_isHow.2.2.2 ∈ mv_W := (mv_inW (List.mem_of_getElem? (i := 760) (by decide +kernel)) (by decide +kernel))
set_option maxRecDepth 20000 in
theorem wc6_traces : Cond.code m6_traces.1 m6_traces.2.1 m6_traces.2.2.1 m6_traces.2.2.2 ∈ mv_W := (mv_inW (List.mem_of_getElem? (i := 785) (by decide +kernel)) (by decide +kernel))
set_option maxRecDepth 20000 in
theorem wc6_codes : Cond.code m6_codes.1 m6_codes.2.1 m6_codes.2.2.1 m6_codes.2.2.2 ∈ mv_W := (mv_inW (List.mem_of_getElem? (i := 774) (by decide +kernel)) (by decide +kernel))
set_option maxRecDepth 20000 in
theorem wc6_asksChildren : Cond.code m6_asksChildren.1 m6_asksChildren.2.1 m6_asksChildren.2.2.1 m6_asksChildren.2.2.2 ∈ mv_W := (mv_inW (List.mem_of_getElem? (i := 782) (by decide +kernel)) (by decide +kernel))
set_option maxRecDepth 20000 in
theorem wc6_closes : Cond.code m6_closes.1 m6_closes.2.1 m6_closes.2.2.1 m6_closes.2.2.2 ∈ mv_W := (mv_inW (List.mem_of_getElem? (i := 778) (by decide +kernel)) (by decide +kernel))
set_option maxRecDepth 20000 in
theorem wc6_begin : Cond.code m6_begin.1 m6_begin.2.1 m6_begin.2.2.1 m6_begin.2.2.2 ∈ mv_W := (mv_inW (List.mem_of_getElem? (i := 801) (by decide +kernel)) (by decide +kernel))
set_option maxRecDepth 20000 in
theorem wc6_beginsChild : Cond.code m6_beginsChild.1 m6_beginsChild.2.1 m6_beginsChild.2.2.1 m6_beginsChild.2.2.2 ∈ mv_W := (mv_inW (List.mem_of_getElem? (i := 797) (by decide +kernel)) (by decide +kernel))
set_option maxRecDepth 20000 in
theorem wc6_isBusy : Cond.code m6_isBusy.1 m6_isBusy.2.1 m6_isBusy.2.2.1 m6_isBusy.2.2.2 ∈ mv_W := (mv_inW (List.mem_of_getElem? (i := 805) (by decide +kernel)) (by decide +kernel))
set_option maxRecDepth 20000 in
theorem wc6_works : Cond.code m6_works.1 m6_works.2.1 m6_works.2.2.1 m6_works.2.2.2 ∈ mv_W := (mv_inW (List.mem_of_getElem? (i := 793) (by decide +kernel)) (by decide +kernel))
set_option maxRecDepth 20000 in
theorem wc6_moves : Cond.code m6_moves.1 m6_moves.2.1 m6_moves.2.2.1 m6_moves.2.2.2 ∈ mv_W := (mv_inW (List.mem_of_getElem? (i := 789) (by decide +kernel)) (by decide +kernel))
set_option maxRecDepth 20000 in
theorem wc6_gives : Cond.code m6_gives.1 m6_gives.2.1 m6_gives.2.2.1 m6_gives.2.2.2 ∈ mv_W := (mv_inW (List.mem_of_getElem? (i := 813) (by decide +kernel)) (by decide +kernel))
set_option maxRecDepth 20000 in
theorem wc6_cleansUp : Cond.code m6_cleansUp.1 m6_cleansUp.2.1 m6_cleansUp.2.2.1 m6_cleansUp.2.2.2 ∈ mv_W := (mv_inW (List.mem_of_getElem? (i := 809) (by decide +kernel)) (by decide +kernel))
set_option maxRecDepth 20000 in
theorem wc6_tick : Cond.code m6_tick.1 m6_tick.2.1 m6_tick.2.2.1 m6_tick.2.2.2 ∈ mv_W := (mv_inW (List.mem_of_getElem? (i := 768) (by decide +kernel)) (by decide +kernel))
set_option maxRecDepth 20000 in
theorem wc6_isTask : Cond.code m6_isTask.1 m6_isTask.2.1 m6_isTask.2.2.1 m6_isTask.2.2.2 ∈ mv_W := (mv_inW (List.mem_of_getElem? (i := 821) (by decide +kernel)) (by decide +kernel))
set_option maxRecDepth 20000 in
theorem wc6_remember : Cond.code m6_remember.1 m6_remember.2.1 m6_remember.2.2.1 m6_remember.2.2.2 ∈ mv_W := (mv_inW (List.mem_of_getElem? (i := 764) (by decide +kernel)) (by decide +kernel))
set_option maxRecDepth 20000 in
theorem wc6_ticks : Cond.code m6_ticks.1 m6_ticks.2.1 m6_ticks.2.2.1 m6_ticks.2.2.2 ∈ mv_W := (mv_inW (List.mem_of_getElem? (i := 757) (by decide +kernel)) (by decide +kernel))
set_option maxRecDepth 20000 in
theorem wc6_asks : Cond.code m6_asks.1 m6_asks.2.1 m6_asks.2.2.1 m6_asks.2.2.2 ∈ mv_W := (mv_inW (List.mem_of_getElem? (i := 817) (by decide +kernel)) (by decide +kernel))
set_option maxRecDepth 20000 in
theorem wc6_undo : Cond.code m6_undo.1 m6_undo.2.1 m6_undo.2.2.1 m6_undo.2.2.2 ∈ mv_W := (mv_inW (List.mem_of_getElem? (i := 825) (by decide +kernel)) (by decide +kernel))
set_option maxRecDepth 20000 in
theorem wc6_busySet : Cond.code m6_busySet.1 m6_busySet.2.1 m6_busySet.2.2.1 m6_busySet.2.2.2 ∈ mv_W := (mv_inW (List.mem_of_getElem? (i := 833) (by decide +kernel)) (by decide +kernel))
set_option maxRecDepth 20000 in
theorem wc6_task : Cond.code m6_task.1 m6_task.2.1 m6_task.2.2.1 m6_task.2.2.2 ∈ mv_W := (mv_inW (List.mem_of_getElem? (i := 829) (by decide +kernel)) (by decide +kernel))
set_option maxRecDepth 20000 in
theorem wc6_failure : Cond.code m6_failure.1 m6_failure.2.1 m6_failure.2.2.1 m6_failure.2.2.2 ∈ mv_W := (mv_inW (List.mem_of_getElem? (i := 837) (by decide +kernel)) (by decide +kernel))
set_option maxRecDepth 20000 in
theorem wc6_trace : Cond.code m6_trace.1 m6_trace.2.1 m6_trace.2.2.1 m6_trace.2.2.2 ∈ mv_W := (mv_inW (List.mem_of_getElem? (i := 841) (by decide +kernel)) (by decide +kernel))
set_option maxRecDepth 20000 in
theorem wc6_goesOn : Cond.code m6_goesOn.1 m6_goesOn.2.1 m6_goesOn.2.2.1 m6_goesOn.2.2.2 ∈ mv_W := (mv_inW (List.mem_of_getElem? (i := 852) (by decide +kernel)) (by decide +kernel))
set_option maxRecDepth 20000 in
theorem wc6_ends_ : Cond.code m6_ends_.1 m6_ends_.2.1 m6_ends_.2.2.1 m6_ends_.2.2.2 ∈ mv_W := (mv_inW (List.mem_of_getElem? (i := 845) (by decide +kernel)) (by decide +kernel))
set_option maxRecDepth 20000 in
theorem wc6_wellBy : Cond.code m6_wellBy.1 m6_wellBy.2.1 m6_wellBy.2.2.1 m6_wellBy.2.2.2 ∈ mv_W := (mv_inW (List.mem_of_getElem? (i := 856) (by decide +kernel)) (by decide +kernel))
set_option maxRecDepth 20000 in
theorem wc6_spares : Cond.code m6_spares.1 m6_spares.2.1 m6_spares.2.2.1 m6_spares.2.2.2 ∈ mv_W := (mv_inW (List.mem_of_getElem? (i := 860) (by decide +kernel)) (by decide +kernel))
set_option maxRecDepth 20000 in
theorem wc6_sees : Cond.code m6_sees.1 m6_sees.2.1 m6_sees.2.2.1 m6_sees.2.2.2 ∈ mv_W := (mv_inW (List.mem_of_getElem? (i := 865) (by decide +kernel)) (by decide +kernel))
set_option maxRecDepth 20000 in
theorem wc6_forget : Cond.code m6_forget.1 m6_forget.2.1 m6_forget.2.2.1 m6_forget.2.2.2 ∈ mv_W := (mv_inW (List.mem_of_getElem? (i := 869) (by decide +kernel)) (by decide +kernel))
set_option maxRecDepth 20000 in
theorem wc6_fits : Cond.code m6_fits.1 m6_fits.2.1 m6_fits.2.2.1 m6_fits.2.2.2 ∈ mv_W := (mv_inW (List.mem_of_getElem? (i := 873) (by decide +kernel)) (by decide +kernel))
set_option maxRecDepth 20000 in
theorem wc6_keep : Cond.code m6_keep.1 m6_keep.2.1 m6_keep.2.2.1 m6_keep.2.2.2 ∈ mv_W := (mv_inW (List.mem_of_getElem? (i := 877) (by decide +kernel)) (by decide +kernel))
set_option maxRecDepth 20000 in
theorem wc6_back : Cond.code m6_back.1 m6_back.2.1 m6_back.2.2.1 m6_back.2.2.2 ∈ mv_W := (mv_inW (List.mem_of_getElem? (i := 881) (by decide +kernel)) (by decide +kernel))
set_option maxRecDepth 20000 in
theorem wc6_howMany : Cond.code m6_howMany.1 m6_howMany.2.1 m6_howMany.2.2.1 m6_howMany.2.2.2 ∈ mv_W := (mv_inW (List.mem_of_getElem? (i := 889) (by decide +kernel)) (by decide +kernel))
set_option maxRecDepth 20000 in
theorem wc6_count : Cond.code m6_count.1 m6_count.2.1 m6_count.2.2.1 m6_count.2.2.2 ∈ mv_W := (mv_inW (List.mem_of_getElem? (i := 885) (by decide +kernel)) (by decide +kernel))
set_option maxRecDepth 20000 in
theorem wi0 : Cond.initialized RX0 ∈ mv_W := (mv_inW (List.mem_of_getElem? (i := 61) (by decide +kernel)) (by decide +kernel))
set_option maxRecDepth 20000 in
theorem wi1 : Cond.initialized RX1 ∈ mv_W := (mv_inW (List.mem_of_getElem? (i := 57) (by decide +kernel)) (by decide +kernel))
set_option maxRecDepth 20000 in
theorem wi2 : Cond.initialized RX2 ∈ mv_W := (mv_inW (List.mem_of_getElem? (i := 58) (by decide +kernel)) (by decide +kernel))
set_option maxRecDepth 20000 in
theorem wi3 : Cond.initialized RX3 ∈ mv_W := (mv_inW (List.mem_of_getElem? (i := 59) (by decide +kernel)) (by decide +kernel))
set_option maxRecDepth 20000 in
theorem wi4 : Cond.initialized RX4 ∈ mv_W := (mv_inW (List.mem_of_getElem? (i := 56) (by decide +kernel)) (by decide +kernel))
set_option maxRecDepth 20000 in
theorem wi5 : Cond.initialized RX5 ∈ mv_W := (mv_inW (List.mem_of_getElem? (i := 55) (by decide +kernel)) (by decide +kernel))
set_option maxRecDepth 20000 in
theorem wi6 : Cond.initialized RX6 ∈ mv_W := (mv_inW (List.mem_of_getElem? (i := 62) (by decide +kernel)) (by decide +kernel))
set_option maxRecDepth 20000 in
theorem fl4_9 : mv_FL RX4 9 4 0 := ⟨by decide, by decide, (mv_inW (List.mem_of_getElem? (i := 78) (by decide +kernel)) (by decide +kernel))⟩
set_option maxRecDepth 20000 in
theorem fl4_15 : mv_FL RX4 15 4 1 := ⟨by decide, by decide, (mv_inW (List.mem_of_getElem? (i := 79) (by decide +kernel)) (by decide +kernel))⟩
set_option maxRecDepth 20000 in
theorem fl5_83 : mv_FL RX5 83 4 1 := ⟨by decide, by decide, (mv_inW (List.mem_of_getElem? (i := 80) (by decide +kernel)) (by decide +kernel))⟩
set_option maxRecDepth 20000 in
theorem fl4_19 : mv_FL RX4 19 4 2 := ⟨by decide, by decide, (mv_inW (List.mem_of_getElem? (i := 81) (by decide +kernel)) (by decide +kernel))⟩
set_option maxRecDepth 20000 in
theorem fl2_33 : mv_FL RX2 33 4 2 := ⟨by decide, by decide, (mv_inW (List.mem_of_getElem? (i := 82) (by decide +kernel)) (by decide +kernel))⟩
set_option maxRecDepth 20000 in
theorem fl4_22 : mv_FL RX4 22 4 3 := ⟨by decide, by decide, (mv_inW (List.mem_of_getElem? (i := 83) (by decide +kernel)) (by decide +kernel))⟩
set_option maxRecDepth 20000 in
theorem fl2_76 : mv_FL RX2 76 4 3 := ⟨by decide, by decide, (mv_inW (List.mem_of_getElem? (i := 84) (by decide +kernel)) (by decide +kernel))⟩
set_option maxRecDepth 20000 in
theorem fl4_25 : mv_FL RX4 25 4 4 := ⟨by decide, by decide, (mv_inW (List.mem_of_getElem? (i := 85) (by decide +kernel)) (by decide +kernel))⟩
set_option maxRecDepth 20000 in
theorem fl5_90 : mv_FL RX5 90 4 4 := ⟨by decide, by decide, (mv_inW (List.mem_of_getElem? (i := 86) (by decide +kernel)) (by decide +kernel))⟩
set_option maxRecDepth 20000 in
theorem fl4_28 : mv_FL RX4 28 4 5 := ⟨by decide, by decide, (mv_inW (List.mem_of_getElem? (i := 87) (by decide +kernel)) (by decide +kernel))⟩
set_option maxRecDepth 20000 in
theorem fl1_9 : mv_FL RX1 9 1 0 := ⟨by decide, by decide, (mv_inW (List.mem_of_getElem? (i := 116) (by decide +kernel)) (by decide +kernel))⟩
set_option maxRecDepth 20000 in
theorem fl2_70 : mv_FL RX2 70 1 0 := ⟨by decide, by decide, (mv_inW (List.mem_of_getElem? (i := 117) (by decide +kernel)) (by decide +kernel))⟩
set_option maxRecDepth 20000 in
theorem fl3_83 : mv_FL RX3 83 1 0 := ⟨by decide, by decide, (mv_inW (List.mem_of_getElem? (i := 118) (by decide +kernel)) (by decide +kernel))⟩
set_option maxRecDepth 20000 in
theorem fl5_184 : mv_FL RX5 184 1 0 := ⟨by decide, by decide, (mv_inW (List.mem_of_getElem? (i := 119) (by decide +kernel)) (by decide +kernel))⟩
set_option maxRecDepth 20000 in
theorem fl1_15 : mv_FL RX1 15 1 1 := ⟨by decide, by decide, (mv_inW (List.mem_of_getElem? (i := 120) (by decide +kernel)) (by decide +kernel))⟩
set_option maxRecDepth 20000 in
theorem fl3_88 : mv_FL RX3 88 1 1 := ⟨by decide, by decide, (mv_inW (List.mem_of_getElem? (i := 121) (by decide +kernel)) (by decide +kernel))⟩
set_option maxRecDepth 20000 in
theorem fl5_131 : mv_FL RX5 131 1 1 := ⟨by decide, by decide, (mv_inW (List.mem_of_getElem? (i := 122) (by decide +kernel)) (by decide +kernel))⟩
set_option maxRecDepth 20000 in
theorem fl1_19 : mv_FL RX1 19 1 2 := ⟨by decide, by decide, (mv_inW (List.mem_of_getElem? (i := 123) (by decide +kernel)) (by decide +kernel))⟩
set_option maxRecDepth 20000 in
theorem fl3_115 : mv_FL RX3 115 1 2 := ⟨by decide, by decide, (mv_inW (List.mem_of_getElem? (i := 124) (by decide +kernel)) (by decide +kernel))⟩
set_option maxRecDepth 20000 in
theorem fl1_22 : mv_FL RX1 22 1 3 := ⟨by decide, by decide, (mv_inW (List.mem_of_getElem? (i := 125) (by decide +kernel)) (by decide +kernel))⟩
set_option maxRecDepth 20000 in
theorem fl3_118 : mv_FL RX3 118 1 3 := ⟨by decide, by decide, (mv_inW (List.mem_of_getElem? (i := 126) (by decide +kernel)) (by decide +kernel))⟩
set_option maxRecDepth 20000 in
theorem fl1_25 : mv_FL RX1 25 1 4 := ⟨by decide, by decide, (mv_inW (List.mem_of_getElem? (i := 127) (by decide +kernel)) (by decide +kernel))⟩
set_option maxRecDepth 20000 in
theorem fl3_121 : mv_FL RX3 121 1 4 := ⟨by decide, by decide, (mv_inW (List.mem_of_getElem? (i := 128) (by decide +kernel)) (by decide +kernel))⟩
set_option maxRecDepth 20000 in
theorem fl1_28 : mv_FL RX1 28 1 5 := ⟨by decide, by decide, (mv_inW (List.mem_of_getElem? (i := 129) (by decide +kernel)) (by decide +kernel))⟩
set_option maxRecDepth 20000 in
theorem fl2_46 : mv_FL RX2 46 1 5 := ⟨by decide, by decide, (mv_inW (List.mem_of_getElem? (i := 130) (by decide +kernel)) (by decide +kernel))⟩
set_option maxRecDepth 20000 in
theorem fl3_140 : mv_FL RX3 140 1 5 := ⟨by decide, by decide, (mv_inW (List.mem_of_getElem? (i := 131) (by decide +kernel)) (by decide +kernel))⟩
set_option maxRecDepth 20000 in
theorem fl5_190 : mv_FL RX5 190 1 5 := ⟨by decide, by decide, (mv_inW (List.mem_of_getElem? (i := 132) (by decide +kernel)) (by decide +kernel))⟩
set_option maxRecDepth 20000 in
theorem fl1_31 : mv_FL RX1 31 1 6 := ⟨by decide, by decide, (mv_inW (List.mem_of_getElem? (i := 133) (by decide +kernel)) (by decide +kernel))⟩
set_option maxRecDepth 20000 in
theorem fl2_54 : mv_FL RX2 54 1 6 := ⟨by decide, by decide, (mv_inW (List.mem_of_getElem? (i := 134) (by decide +kernel)) (by decide +kernel))⟩
set_option maxRecDepth 20000 in
theorem fl3_112 : mv_FL RX3 112 1 6 := ⟨by decide, by decide, (mv_inW (List.mem_of_getElem? (i := 135) (by decide +kernel)) (by decide +kernel))⟩
set_option maxRecDepth 20000 in
theorem fl1_34 : mv_FL RX1 34 1 7 := ⟨by decide, by decide, (mv_inW (List.mem_of_getElem? (i := 136) (by decide +kernel)) (by decide +kernel))⟩
set_option maxRecDepth 20000 in
theorem fl2_57 : mv_FL RX2 57 1 7 := ⟨by decide, by decide, (mv_inW (List.mem_of_getElem? (i := 137) (by decide +kernel)) (by decide +kernel))⟩
set_option maxRecDepth 20000 in
theorem fl3_149 : mv_FL RX3 149 1 7 := ⟨by decide, by decide, (mv_inW (List.mem_of_getElem? (i := 138) (by decide +kernel)) (by decide +kernel))⟩
set_option maxRecDepth 20000 in
theorem fl1_37 : mv_FL RX1 37 1 8 := ⟨by decide, by decide, (mv_inW (List.mem_of_getElem? (i := 139) (by decide +kernel)) (by decide +kernel))⟩
set_option maxRecDepth 20000 in
theorem fl2_90 : mv_FL RX2 90 1 8 := ⟨by decide, by decide, (mv_inW (List.mem_of_getElem? (i := 140) (by decide +kernel)) (by decide +kernel))⟩
set_option maxRecDepth 20000 in
theorem fl3_158 : mv_FL RX3 158 1 8 := ⟨by decide, by decide, (mv_inW (List.mem_of_getElem? (i := 141) (by decide +kernel)) (by decide +kernel))⟩
set_option maxRecDepth 20000 in
theorem fl2_15 : mv_FL RX2 15 2 0 := ⟨by decide, by decide, (mv_inW (List.mem_of_getElem? (i := 167) (by decide +kernel)) (by decide +kernel))⟩
set_option maxRecDepth 20000 in
theorem fl2_19 : mv_FL RX2 19 2 1 := ⟨by decide, by decide, (mv_inW (List.mem_of_getElem? (i := 168) (by decide +kernel)) (by decide +kernel))⟩
set_option maxRecDepth 20000 in
theorem fl2_9 : mv_FL RX2 9 2 2 := ⟨by decide, by decide, (mv_inW (List.mem_of_getElem? (i := 169) (by decide +kernel)) (by decide +kernel))⟩
set_option maxRecDepth 20000 in
theorem fl5_102 : mv_FL RX5 102 2 2 := ⟨by decide, by decide, (mv_inW (List.mem_of_getElem? (i := 170) (by decide +kernel)) (by decide +kernel))⟩
set_option maxRecDepth 20000 in
theorem fl3_65 : mv_FL RX3 65 3 0 := ⟨by decide, by decide, (mv_inW (List.mem_of_getElem? (i := 196) (by decide +kernel)) (by decide +kernel))⟩
set_option maxRecDepth 20000 in
theorem fl3_9 : mv_FL RX3 9 3 1 := ⟨by decide, by decide, (mv_inW (List.mem_of_getElem? (i := 197) (by decide +kernel)) (by decide +kernel))⟩
set_option maxRecDepth 20000 in
theorem fl5_108 : mv_FL RX5 108 3 1 := ⟨by decide, by decide, (mv_inW (List.mem_of_getElem? (i := 198) (by decide +kernel)) (by decide +kernel))⟩
set_option maxRecDepth 20000 in
theorem fl3_15 : mv_FL RX3 15 3 2 := ⟨by decide, by decide, (mv_inW (List.mem_of_getElem? (i := 199) (by decide +kernel)) (by decide +kernel))⟩
set_option maxRecDepth 20000 in
theorem fl5_105 : mv_FL RX5 105 3 2 := ⟨by decide, by decide, (mv_inW (List.mem_of_getElem? (i := 200) (by decide +kernel)) (by decide +kernel))⟩
set_option maxRecDepth 20000 in
theorem fl3_19 : mv_FL RX3 19 3 3 := ⟨by decide, by decide, (mv_inW (List.mem_of_getElem? (i := 201) (by decide +kernel)) (by decide +kernel))⟩
set_option maxRecDepth 20000 in
theorem fl5_134 : mv_FL RX5 134 3 3 := ⟨by decide, by decide, (mv_inW (List.mem_of_getElem? (i := 202) (by decide +kernel)) (by decide +kernel))⟩
set_option maxRecDepth 20000 in
theorem fl3_22 : mv_FL RX3 22 3 4 := ⟨by decide, by decide, (mv_inW (List.mem_of_getElem? (i := 203) (by decide +kernel)) (by decide +kernel))⟩
set_option maxRecDepth 20000 in
theorem fl3_25 : mv_FL RX3 25 3 5 := ⟨by decide, by decide, (mv_inW (List.mem_of_getElem? (i := 204) (by decide +kernel)) (by decide +kernel))⟩
set_option maxRecDepth 20000 in
theorem fl5_169 : mv_FL RX5 169 3 5 := ⟨by decide, by decide, (mv_inW (List.mem_of_getElem? (i := 205) (by decide +kernel)) (by decide +kernel))⟩
set_option maxRecDepth 20000 in
theorem fl3_28 : mv_FL RX3 28 3 6 := ⟨by decide, by decide, (mv_inW (List.mem_of_getElem? (i := 206) (by decide +kernel)) (by decide +kernel))⟩
set_option maxRecDepth 20000 in
theorem fl5_137 : mv_FL RX5 137 3 6 := ⟨by decide, by decide, (mv_inW (List.mem_of_getElem? (i := 207) (by decide +kernel)) (by decide +kernel))⟩
set_option maxRecDepth 20000 in
theorem fl3_31 : mv_FL RX3 31 3 7 := ⟨by decide, by decide, (mv_inW (List.mem_of_getElem? (i := 208) (by decide +kernel)) (by decide +kernel))⟩
set_option maxRecDepth 20000 in
theorem fl5_124 : mv_FL RX5 124 3 7 := ⟨by decide, by decide, (mv_inW (List.mem_of_getElem? (i := 209) (by decide +kernel)) (by decide +kernel))⟩
set_option maxRecDepth 20000 in
theorem fl3_34 : mv_FL RX3 34 3 8 := ⟨by decide, by decide, (mv_inW (List.mem_of_getElem? (i := 210) (by decide +kernel)) (by decide +kernel))⟩
set_option maxRecDepth 20000 in
theorem fl3_37 : mv_FL RX3 37 3 9 := ⟨by decide, by decide, (mv_inW (List.mem_of_getElem? (i := 211) (by decide +kernel)) (by decide +kernel))⟩
set_option maxRecDepth 20000 in
theorem fl3_40 : mv_FL RX3 40 3 10 := ⟨by decide, by decide, (mv_inW (List.mem_of_getElem? (i := 212) (by decide +kernel)) (by decide +kernel))⟩
set_option maxRecDepth 20000 in
theorem fl5_121 : mv_FL RX5 121 3 10 := ⟨by decide, by decide, (mv_inW (List.mem_of_getElem? (i := 213) (by decide +kernel)) (by decide +kernel))⟩
set_option maxRecDepth 20000 in
theorem fl3_43 : mv_FL RX3 43 3 11 := ⟨by decide, by decide, (mv_inW (List.mem_of_getElem? (i := 214) (by decide +kernel)) (by decide +kernel))⟩
set_option maxRecDepth 20000 in
theorem fl5_141 : mv_FL RX5 141 3 11 := ⟨by decide, by decide, (mv_inW (List.mem_of_getElem? (i := 215) (by decide +kernel)) (by decide +kernel))⟩
set_option maxRecDepth 20000 in
theorem fl3_46 : mv_FL RX3 46 3 12 := ⟨by decide, by decide, (mv_inW (List.mem_of_getElem? (i := 216) (by decide +kernel)) (by decide +kernel))⟩
set_option maxRecDepth 20000 in
theorem fl5_148 : mv_FL RX5 148 3 12 := ⟨by decide, by decide, (mv_inW (List.mem_of_getElem? (i := 217) (by decide +kernel)) (by decide +kernel))⟩
set_option maxRecDepth 20000 in
theorem fl3_49 : mv_FL RX3 49 3 13 := ⟨by decide, by decide, (mv_inW (List.mem_of_getElem? (i := 218) (by decide +kernel)) (by decide +kernel))⟩
set_option maxRecDepth 20000 in
theorem fl5_151 : mv_FL RX5 151 3 13 := ⟨by decide, by decide, (mv_inW (List.mem_of_getElem? (i := 219) (by decide +kernel)) (by decide +kernel))⟩
set_option maxRecDepth 20000 in
theorem fl3_52 : mv_FL RX3 52 3 14 := ⟨by decide, by decide, (mv_inW (List.mem_of_getElem? (i := 220) (by decide +kernel)) (by decide +kernel))⟩
set_option maxRecDepth 20000 in
theorem fl5_154 : mv_FL RX5 154 3 14 := ⟨by decide, by decide, (mv_inW (List.mem_of_getElem? (i := 221) (by decide +kernel)) (by decide +kernel))⟩
set_option maxRecDepth 20000 in
theorem fl3_55 : mv_FL RX3 55 3 15 := ⟨by decide, by decide, (mv_inW (List.mem_of_getElem? (i := 222) (by decide +kernel)) (by decide +kernel))⟩
set_option maxRecDepth 20000 in
theorem fl5_157 : mv_FL RX5 157 3 15 := ⟨by decide, by decide, (mv_inW (List.mem_of_getElem? (i := 223) (by decide +kernel)) (by decide +kernel))⟩
set_option maxRecDepth 20000 in
theorem fl3_58 : mv_FL RX3 58 3 16 := ⟨by decide, by decide, (mv_inW (List.mem_of_getElem? (i := 224) (by decide +kernel)) (by decide +kernel))⟩
set_option maxRecDepth 20000 in
theorem fl5_160 : mv_FL RX5 160 3 16 := ⟨by decide, by decide, (mv_inW (List.mem_of_getElem? (i := 225) (by decide +kernel)) (by decide +kernel))⟩
set_option maxRecDepth 20000 in
theorem fl0_11 : mv_FL RX0 11 0 0 := ⟨by decide, by decide, (mv_inW (List.mem_of_getElem? (i := 270) (by decide +kernel)) (by decide +kernel))⟩
set_option maxRecDepth 20000 in
theorem fl0_17 : mv_FL RX0 17 0 1 := ⟨by decide, by decide, (mv_inW (List.mem_of_getElem? (i := 271) (by decide +kernel)) (by decide +kernel))⟩
set_option maxRecDepth 20000 in
theorem fl5_99 : mv_FL RX5 99 0 1 := ⟨by decide, by decide, (mv_inW (List.mem_of_getElem? (i := 272) (by decide +kernel)) (by decide +kernel))⟩
set_option maxRecDepth 20000 in
theorem fl0_21 : mv_FL RX0 21 0 2 := ⟨by decide, by decide, (mv_inW (List.mem_of_getElem? (i := 273) (by decide +kernel)) (by decide +kernel))⟩
set_option maxRecDepth 20000 in
theorem fl5_10 : mv_FL RX5 10 5 0 := ⟨by decide, by decide, (mv_inW (List.mem_of_getElem? (i := 281) (by decide +kernel)) (by decide +kernel))⟩
set_option maxRecDepth 20000 in
theorem fl5_19 : mv_FL RX5 19 5 1 := ⟨by decide, by decide, (mv_inW (List.mem_of_getElem? (i := 282) (by decide +kernel)) (by decide +kernel))⟩
set_option maxRecDepth 20000 in
theorem fl5_23 : mv_FL RX5 23 5 2 := ⟨by decide, by decide, (mv_inW (List.mem_of_getElem? (i := 283) (by decide +kernel)) (by decide +kernel))⟩
set_option maxRecDepth 20000 in
theorem fl5_26 : mv_FL RX5 26 5 3 := ⟨by decide, by decide, (mv_inW (List.mem_of_getElem? (i := 284) (by decide +kernel)) (by decide +kernel))⟩
set_option maxRecDepth 20000 in
theorem fl5_34 : mv_FL RX5 34 5 4 := ⟨by decide, by decide, (mv_inW (List.mem_of_getElem? (i := 285) (by decide +kernel)) (by decide +kernel))⟩
set_option maxRecDepth 20000 in
theorem fl5_43 : mv_FL RX5 43 5 5 := ⟨by decide, by decide, (mv_inW (List.mem_of_getElem? (i := 286) (by decide +kernel)) (by decide +kernel))⟩
set_option maxRecDepth 20000 in
theorem fl5_47 : mv_FL RX5 47 5 6 := ⟨by decide, by decide, (mv_inW (List.mem_of_getElem? (i := 287) (by decide +kernel)) (by decide +kernel))⟩
set_option maxRecDepth 20000 in
theorem fl5_53 : mv_FL RX5 53 5 7 := ⟨by decide, by decide, (mv_inW (List.mem_of_getElem? (i := 288) (by decide +kernel)) (by decide +kernel))⟩
set_option maxRecDepth 20000 in
theorem fl5_57 : mv_FL RX5 57 5 8 := ⟨by decide, by decide, (mv_inW (List.mem_of_getElem? (i := 289) (by decide +kernel)) (by decide +kernel))⟩
set_option maxRecDepth 20000 in
theorem fl5_61 : mv_FL RX5 61 5 9 := ⟨by decide, by decide, (mv_inW (List.mem_of_getElem? (i := 290) (by decide +kernel)) (by decide +kernel))⟩
set_option maxRecDepth 20000 in
theorem fl5_65 : mv_FL RX5 65 5 10 := ⟨by decide, by decide, (mv_inW (List.mem_of_getElem? (i := 291) (by decide +kernel)) (by decide +kernel))⟩
set_option maxRecDepth 20000 in
theorem fl5_69 : mv_FL RX5 69 5 11 := ⟨by decide, by decide, (mv_inW (List.mem_of_getElem? (i := 292) (by decide +kernel)) (by decide +kernel))⟩
set_option maxRecDepth 20000 in
theorem fl5_72 : mv_FL RX5 72 5 12 := ⟨by decide, by decide, (mv_inW (List.mem_of_getElem? (i := 293) (by decide +kernel)) (by decide +kernel))⟩
set_option maxRecDepth 20000 in
theorem fl5_75 : mv_FL RX5 75 5 13 := ⟨by decide, by decide, (mv_inW (List.mem_of_getElem? (i := 294) (by decide +kernel)) (by decide +kernel))⟩
set_option maxRecDepth 20000 in
theorem fl6_84 : mv_FL RX6 84 6 0 := ⟨by decide, by decide, (mv_inW (List.mem_of_getElem? (i := 593) (by decide +kernel)) (by decide +kernel))⟩
set_option maxRecDepth 20000 in
theorem fl6_7 : mv_FL RX6 7 6 1 := ⟨by decide, by decide, (mv_inW (List.mem_of_getElem? (i := 594) (by decide +kernel)) (by decide +kernel))⟩
set_option maxRecDepth 20000 in
theorem fl6_88 : mv_FL RX6 88 6 2 := ⟨by decide, by decide, (mv_inW (List.mem_of_getElem? (i := 595) (by decide +kernel)) (by decide +kernel))⟩
set_option maxRecDepth 20000 in
theorem fl6_94 : mv_FL RX6 94 6 3 := ⟨by decide, by decide, (mv_inW (List.mem_of_getElem? (i := 596) (by decide +kernel)) (by decide +kernel))⟩
set_option maxRecDepth 20000 in
theorem fl6_97 : mv_FL RX6 97 6 4 := ⟨by decide, by decide, (mv_inW (List.mem_of_getElem? (i := 597) (by decide +kernel)) (by decide +kernel))⟩
set_option maxRecDepth 20000 in
theorem fl6_104 : mv_FL RX6 104 6 5 := ⟨by decide, by decide, (mv_inW (List.mem_of_getElem? (i := 598) (by decide +kernel)) (by decide +kernel))⟩
set_option maxRecDepth 20000 in
theorem fl6_111 : mv_FL RX6 111 6 6 := ⟨by decide, by decide, (mv_inW (List.mem_of_getElem? (i := 599) (by decide +kernel)) (by decide +kernel))⟩
set_option maxRecDepth 20000 in
theorem fl6_120 : mv_FL RX6 120 6 7 := ⟨by decide, by decide, (mv_inW (List.mem_of_getElem? (i := 600) (by decide +kernel)) (by decide +kernel))⟩
set_option maxRecDepth 20000 in
theorem fl6_123 : mv_FL RX6 123 6 8 := ⟨by decide, by decide, (mv_inW (List.mem_of_getElem? (i := 601) (by decide +kernel)) (by decide +kernel))⟩
set_option maxRecDepth 20000 in
theorem fl6_13 : mv_FL RX6 13 6 9 := ⟨by decide, by decide, (mv_inW (List.mem_of_getElem? (i := 602) (by decide +kernel)) (by decide +kernel))⟩
set_option maxRecDepth 20000 in
theorem fl6_16 : mv_FL RX6 16 6 10 := ⟨by decide, by decide, (mv_inW (List.mem_of_getElem? (i := 603) (by decide +kernel)) (by decide +kernel))⟩
set_option maxRecDepth 20000 in
theorem fl6_19 : mv_FL RX6 19 6 11 := ⟨by decide, by decide, (mv_inW (List.mem_of_getElem? (i := 604) (by decide +kernel)) (by decide +kernel))⟩
set_option maxRecDepth 20000 in
theorem fl6_22 : mv_FL RX6 22 6 12 := ⟨by decide, by decide, (mv_inW (List.mem_of_getElem? (i := 605) (by decide +kernel)) (by decide +kernel))⟩
set_option maxRecDepth 20000 in
theorem fl6_25 : mv_FL RX6 25 6 13 := ⟨by decide, by decide, (mv_inW (List.mem_of_getElem? (i := 606) (by decide +kernel)) (by decide +kernel))⟩
set_option maxRecDepth 20000 in
theorem fl6_28 : mv_FL RX6 28 6 14 := ⟨by decide, by decide, (mv_inW (List.mem_of_getElem? (i := 607) (by decide +kernel)) (by decide +kernel))⟩
set_option maxRecDepth 20000 in
theorem fl6_142 : mv_FL RX6 142 6 15 := ⟨by decide, by decide, (mv_inW (List.mem_of_getElem? (i := 608) (by decide +kernel)) (by decide +kernel))⟩
set_option maxRecDepth 20000 in
theorem fl6_145 : mv_FL RX6 145 6 16 := ⟨by decide, by decide, (mv_inW (List.mem_of_getElem? (i := 609) (by decide +kernel)) (by decide +kernel))⟩
set_option maxRecDepth 20000 in
theorem fl6_31 : mv_FL RX6 31 6 17 := ⟨by decide, by decide, (mv_inW (List.mem_of_getElem? (i := 610) (by decide +kernel)) (by decide +kernel))⟩
set_option maxRecDepth 20000 in
theorem fl6_34 : mv_FL RX6 34 6 18 := ⟨by decide, by decide, (mv_inW (List.mem_of_getElem? (i := 611) (by decide +kernel)) (by decide +kernel))⟩
set_option maxRecDepth 20000 in
theorem fl6_37 : mv_FL RX6 37 6 19 := ⟨by decide, by decide, (mv_inW (List.mem_of_getElem? (i := 612) (by decide +kernel)) (by decide +kernel))⟩
set_option maxRecDepth 20000 in
theorem fl6_40 : mv_FL RX6 40 6 20 := ⟨by decide, by decide, (mv_inW (List.mem_of_getElem? (i := 613) (by decide +kernel)) (by decide +kernel))⟩
set_option maxRecDepth 20000 in
theorem fl6_43 : mv_FL RX6 43 6 21 := ⟨by decide, by decide, (mv_inW (List.mem_of_getElem? (i := 614) (by decide +kernel)) (by decide +kernel))⟩
set_option maxRecDepth 20000 in
theorem fl6_46 : mv_FL RX6 46 6 22 := ⟨by decide, by decide, (mv_inW (List.mem_of_getElem? (i := 615) (by decide +kernel)) (by decide +kernel))⟩
set_option maxRecDepth 20000 in
theorem fl6_49 : mv_FL RX6 49 6 23 := ⟨by decide, by decide, (mv_inW (List.mem_of_getElem? (i := 616) (by decide +kernel)) (by decide +kernel))⟩
set_option maxRecDepth 20000 in
theorem fl6_52 : mv_FL RX6 52 6 24 := ⟨by decide, by decide, (mv_inW (List.mem_of_getElem? (i := 617) (by decide +kernel)) (by decide +kernel))⟩
set_option maxRecDepth 20000 in
theorem fl6_152 : mv_FL RX6 152 6 25 := ⟨by decide, by decide, (mv_inW (List.mem_of_getElem? (i := 618) (by decide +kernel)) (by decide +kernel))⟩
set_option maxRecDepth 20000 in
theorem fl6_205 : mv_FL RX6 205 6 26 := ⟨by decide, by decide, (mv_inW (List.mem_of_getElem? (i := 619) (by decide +kernel)) (by decide +kernel))⟩
set_option maxRecDepth 20000 in
theorem fl6_55 : mv_FL RX6 55 6 27 := ⟨by decide, by decide, (mv_inW (List.mem_of_getElem? (i := 620) (by decide +kernel)) (by decide +kernel))⟩
set_option maxRecDepth 20000 in
theorem fl6_155 : mv_FL RX6 155 6 28 := ⟨by decide, by decide, (mv_inW (List.mem_of_getElem? (i := 621) (by decide +kernel)) (by decide +kernel))⟩
set_option maxRecDepth 20000 in
theorem fl6_58 : mv_FL RX6 58 6 29 := ⟨by decide, by decide, (mv_inW (List.mem_of_getElem? (i := 622) (by decide +kernel)) (by decide +kernel))⟩
set_option maxRecDepth 20000 in
theorem fl6_61 : mv_FL RX6 61 6 30 := ⟨by decide, by decide, (mv_inW (List.mem_of_getElem? (i := 623) (by decide +kernel)) (by decide +kernel))⟩
set_option maxRecDepth 20000 in
theorem fl6_64 : mv_FL RX6 64 6 31 := ⟨by decide, by decide, (mv_inW (List.mem_of_getElem? (i := 624) (by decide +kernel)) (by decide +kernel))⟩
set_option maxRecDepth 20000 in
theorem fl6_67 : mv_FL RX6 67 6 32 := ⟨by decide, by decide, (mv_inW (List.mem_of_getElem? (i := 625) (by decide +kernel)) (by decide +kernel))⟩
set_option maxRecDepth 20000 in
theorem fl6_71 : mv_FL RX6 71 6 33 := ⟨by decide, by decide, (mv_inW (List.mem_of_getElem? (i := 626) (by decide +kernel)) (by decide +kernel))⟩
set_option maxRecDepth 20000 in
theorem lko5_1 : Cond.methodLink RX5 1 Lib.objectInit ∈ mv_W := (mv_inW (List.mem_of_getElem? (i := 69) (by decide +kernel)) (by decide +kernel))
set_option maxRecDepth 20000 in
theorem lko4_3 : Cond.methodLink RX4 3 Lib.objectInit ∈ mv_W := (mv_inW (List.mem_of_getElem? (i := 77) (by decide +kernel)) (by decide +kernel))
set_option maxRecDepth 20000 in
theorem lk5_18 : mv_LkI RX5 18 m1_init 0 := ⟨⟨(mv_inW (List.mem_of_getElem? (i := 104) (by decide +kernel)) (by decide +kernel)), wc1_init, wi1, by decide +kernel⟩, (mv_inW (List.mem_of_getElem? (i := 105) (by decide +kernel)) (by decide +kernel)), rfl, rfl⟩
set_option maxRecDepth 20000 in
theorem lko1_3 : Cond.methodLink RX1 3 Lib.objectInit ∈ mv_W := (mv_inW (List.mem_of_getElem? (i := 107) (by decide +kernel)) (by decide +kernel))
set_option maxRecDepth 20000 in
theorem lk1_40 : mv_LkV RX1 40 m1_tellAnew 0 1 := ⟨⟨(mv_inW (List.mem_of_getElem? (i := 108) (by decide +kernel)) (by decide +kernel)), wc1_tellAnew, wi1, by decide +kernel⟩, (mv_inW (List.mem_of_getElem? (i := 109) (by decide +kernel)) (by decide +kernel)), (mv_inW (List.mem_of_getElem? (i := 110) (by decide +kernel)) (by decide +kernel)), by decide, rfl⟩
set_option maxRecDepth 20000 in
theorem lk1_43 : mv_LkV RX1 43 m1_addTask 1 1 := ⟨⟨(mv_inW (List.mem_of_getElem? (i := 112) (by decide +kernel)) (by decide +kernel)), wc1_addTask, wi1, by decide +kernel⟩, (mv_inW (List.mem_of_getElem? (i := 113) (by decide +kernel)) (by decide +kernel)), (mv_inW (List.mem_of_getElem? (i := 114) (by decide +kernel)) (by decide +kernel)), by decide, rfl⟩
set_option maxRecDepth 20000 in
theorem lk5_31 : mv_LkI RX5 31 m2_init 2 := ⟨⟨(mv_inW (List.mem_of_getElem? (i := 163) (by decide +kernel)) (by decide +kernel)), wc2_init, wi2, by decide +kernel⟩, (mv_inW (List.mem_of_getElem? (i := 164) (by decide +kernel)) (by decide +kernel)), rfl, rfl⟩
set_option maxRecDepth 20000 in
theorem lko2_3 : Cond.methodLink RX2 3 Lib.objectInit ∈ mv_W := (mv_inW (List.mem_of_getElem? (i := 166) (by decide +kernel)) (by decide +kernel))
set_option maxRecDepth 20000 in
theorem lk5_40 : mv_LkI RX5 40 m3_init 1 := ⟨⟨(mv_inW (List.mem_of_getElem? (i := 180) (by decide +kernel)) (by decide +kernel)), wc3_init, wi3, by decide +kernel⟩, (mv_inW (List.mem_of_getElem? (i := 181) (by decide +kernel)) (by decide +kernel)), rfl, rfl⟩
set_option maxRecDepth 20000 in
theorem lko3_3 : Cond.methodLink RX3 3 Lib.objectInit ∈ mv_W := (mv_inW (List.mem_of_getElem? (i := 183) (by decide +kernel)) (by decide +kernel))
set_option maxRecDepth 20000 in
theorem lk3_61 : mv_LkV RX3 61 m3_restart 1 3 := ⟨⟨(mv_inW (List.mem_of_getElem? (i := 184) (by decide +kernel)) (by decide +kernel)), wc3_restart, wi3, by decide +kernel⟩, (mv_inW (List.mem_of_getElem? (i := 185) (by decide +kernel)) (by decide +kernel)), (mv_inW (List.mem_of_getElem? (i := 186) (by decide +kernel)) (by decide +kernel)), by decide, rfl⟩
set_option maxRecDepth 20000 in
theorem lk3_70 : mv_LkV RX3 70 m3_start 2 3 := ⟨⟨(mv_inW (List.mem_of_getElem? (i := 189) (by decide +kernel)) (by decide +kernel)), wc3_start, wi3, by decide +kernel⟩, (mv_inW (List.mem_of_getElem? (i := 191) (by decide +kernel)) (by decide +kernel)), (mv_inW (List.mem_of_getElem? (i := 0) (by decide +kernel)) (by decide +kernel)), by decide, rfl⟩
set_option maxRecDepth 20000 in
theorem lkm3_143 : Cond.methodLink RX3 143 Lib.Math.min.name ∈ mv_W := (mv_inW (List.mem_of_getElem? (i := 193) (by decide +kernel)) (by decide +kernel))
set_option maxRecDepth 20000 in
theorem lk5_52 : mv_LkI RX5 52 m0_init 1 := ⟨⟨(mv_inW (List.mem_of_getElem? (i := 263) (by decide +kernel)) (by decide +kernel)), wc0_init, wi0, by decide +kernel⟩, (mv_inW (List.mem_of_getElem? (i := 264) (by decide +kernel)) (by decide +kernel)), rfl, rfl⟩
set_option maxRecDepth 20000 in
theorem lko0_3 : Cond.methodLink RX0 3 Lib.objectInit ∈ mv_W := (mv_inW (List.mem_of_getElem? (i := 266) (by decide +kernel)) (by decide +kernel))
set_option maxRecDepth 20000 in
theorem lk0_24 : mv_LkI RX0 24 m3_init 1 := ⟨⟨(mv_inW (List.mem_of_getElem? (i := 269) (by decide +kernel)) (by decide +kernel)), wc3_init, wi3, by decide +kernel⟩, (mv_inW (List.mem_of_getElem? (i := 181) (by decide +kernel)) (by decide +kernel)), rfl, rfl⟩
set_option maxRecDepth 20000 in
theorem lk5_79 : mv_LkV RX5 79 m4_append 1 4 := ⟨⟨(mv_inW (List.mem_of_getElem? (i := 329) (by decide +kernel)) (by decide +kernel)), wc4_append, wi4, by decide +kernel⟩, (mv_inW (List.mem_of_getElem? (i := 330) (by decide +kernel)) (by decide +kernel)), (mv_inW (List.mem_of_getElem? (i := 331) (by decide +kernel)) (by decide +kernel)), by decide, rfl⟩
set_option maxRecDepth 20000 in
theorem lk5_86 : mv_LkV RX5 86 m2_readAll 0 2 := ⟨⟨(mv_inW (List.mem_of_getElem? (i := 341) (by decide +kernel)) (by decide +kernel)), wc2_readAll, wi2, by decide +kernel⟩, (mv_inW (List.mem_of_getElem? (i := 342) (by decide +kernel)) (by decide +kernel)), (mv_inW (List.mem_of_getElem? (i := 343) (by decide +kernel)) (by decide +kernel)), by decide, rfl⟩
set_option maxRecDepth 20000 in
theorem lk2_23 : mv_LkV RX2 23 m1_tellAnew 0 1 := ⟨⟨(mv_inW (List.mem_of_getElem? (i := 345) (by decide +kernel)) (by decide +kernel)), wc1_tellAnew, wi1, by decide +kernel⟩, (mv_inW (List.mem_of_getElem? (i := 109) (by decide +kernel)) (by decide +kernel)), (mv_inW (List.mem_of_getElem? (i := 110) (by decide +kernel)) (by decide +kernel)), by decide, rfl⟩
set_option maxRecDepth 20000 in
theorem lk2_28 : mv_LkV RX2 28 m4_goToFirst 0 4 := ⟨⟨(mv_inW (List.mem_of_getElem? (i := 346) (by decide +kernel)) (by decide +kernel)), wc4_goToFirst, wi4, by decide +kernel⟩, (mv_inW (List.mem_of_getElem? (i := 347) (by decide +kernel)) (by decide +kernel)), (mv_inW (List.mem_of_getElem? (i := 348) (by decide +kernel)) (by decide +kernel)), by decide, rfl⟩
set_option maxRecDepth 20000 in
theorem lk4_31 : mv_LkV RX4 31 m4_advance 0 4 := ⟨⟨(mv_inW (List.mem_of_getElem? (i := 350) (by decide +kernel)) (by decide +kernel)), wc4_advance, wi4, by decide +kernel⟩, (mv_inW (List.mem_of_getElem? (i := 351) (by decide +kernel)) (by decide +kernel)), (mv_inW (List.mem_of_getElem? (i := 352) (by decide +kernel)) (by decide +kernel)), by decide, rfl⟩
set_option maxRecDepth 20000 in
theorem lkm4_34 : Cond.methodLink RX4 34 Lib.Math.min.name ∈ mv_W := (mv_inW (List.mem_of_getElem? (i := 354) (by decide +kernel)) (by decide +kernel))
set_option maxRecDepth 20000 in
theorem lk2_36 : mv_LkV RX2 36 m2_readItem 0 2 := ⟨⟨(mv_inW (List.mem_of_getElem? (i := 355) (by decide +kernel)) (by decide +kernel)), wc2_readItem, wi2, by decide +kernel⟩, (mv_inW (List.mem_of_getElem? (i := 357) (by decide +kernel)) (by decide +kernel)), (mv_inW (List.mem_of_getElem? (i := 1) (by decide +kernel)) (by decide +kernel)), by decide, rfl⟩
set_option maxRecDepth 20000 in
theorem lk2_40 : mv_LkV RX2 40 m2_readRoot 0 2 := ⟨⟨(mv_inW (List.mem_of_getElem? (i := 359) (by decide +kernel)) (by decide +kernel)), wc2_readRoot, wi2, by decide +kernel⟩, (mv_inW (List.mem_of_getElem? (i := 361) (by decide +kernel)) (by decide +kernel)), (mv_inW (List.mem_of_getElem? (i := 2) (by decide +kernel)) (by decide +kernel)), by decide, rfl⟩
set_option maxRecDepth 20000 in
theorem lk2_63 : mv_LkV RX2 63 m4_advance 0 4 := ⟨⟨(mv_inW (List.mem_of_getElem? (i := 363) (by decide +kernel)) (by decide +kernel)), wc4_advance, wi4, by decide +kernel⟩, (mv_inW (List.mem_of_getElem? (i := 351) (by decide +kernel)) (by decide +kernel)), (mv_inW (List.mem_of_getElem? (i := 352) (by decide +kernel)) (by decide +kernel)), by decide, rfl⟩
set_option maxRecDepth 20000 in
theorem lk2_66 : mv_LkV RX2 66 m2_readOperations 1 2 := ⟨⟨(mv_inW (List.mem_of_getElem? (i := 364) (by decide +kernel)) (by decide +kernel)), wc2_readOperations, wi2, by decide +kernel⟩, (mv_inW (List.mem_of_getElem? (i := 366) (by decide +kernel)) (by decide +kernel)), (mv_inW (List.mem_of_getElem? (i := 3) (by decide +kernel)) (by decide +kernel)), by decide, rfl⟩
set_option maxRecDepth 20000 in
theorem lk2_93 : mv_LkV RX2 93 m2_readOperation 1 2 := ⟨⟨(mv_inW (List.mem_of_getElem? (i := 368) (by decide +kernel)) (by decide +kernel)), wc2_readOperation, wi2, by decide +kernel⟩, (mv_inW (List.mem_of_getElem? (i := 370) (by decide +kernel)) (by decide +kernel)), (mv_inW (List.mem_of_getElem? (i := 4) (by decide +kernel)) (by decide +kernel)), by decide, rfl⟩
set_option maxRecDepth 20000 in
theorem lk2_83 : mv_LkV RX2 83 m4_isNumberWithin 2 4 := ⟨⟨(mv_inW (List.mem_of_getElem? (i := 372) (by decide +kernel)) (by decide +kernel)), wc4_isNumberWithin, wi4, by decide +kernel⟩, (mv_inW (List.mem_of_getElem? (i := 373) (by decide +kernel)) (by decide +kernel)), (mv_inW (List.mem_of_getElem? (i := 374) (by decide +kernel)) (by decide +kernel)), by decide, rfl⟩
set_option maxRecDepth 20000 in
theorem lk2_96 : mv_LkV RX2 96 m1_addOperation 3 1 := ⟨⟨(mv_inW (List.mem_of_getElem? (i := 376) (by decide +kernel)) (by decide +kernel)), wc1_addOperation, wi1, by decide +kernel⟩, (mv_inW (List.mem_of_getElem? (i := 377) (by decide +kernel)) (by decide +kernel)), (mv_inW (List.mem_of_getElem? (i := 378) (by decide +kernel)) (by decide +kernel)), by decide, rfl⟩
set_option maxRecDepth 20000 in
theorem lk2_87 : mv_LkV RX2 87 m2_readEnd 0 2 := ⟨⟨(mv_inW (List.mem_of_getElem? (i := 380) (by decide +kernel)) (by decide +kernel)), wc2_readEnd, wi2, by decide +kernel⟩, (mv_inW (List.mem_of_getElem? (i := 382) (by decide +kernel)) (by decide +kernel)), (mv_inW (List.mem_of_getElem? (i := 5) (by decide +kernel)) (by decide +kernel)), by decide, rfl⟩
set_option maxRecDepth 20000 in
theorem lk2_43 : mv_LkV RX2 43 m2_readTask 0 2 := ⟨⟨(mv_inW (List.mem_of_getElem? (i := 384) (by decide +kernel)) (by decide +kernel)), wc2_readTask, wi2, by decide +kernel⟩, (mv_inW (List.mem_of_getElem? (i := 386) (by decide +kernel)) (by decide +kernel)), (mv_inW (List.mem_of_getElem? (i := 6) (by decide +kernel)) (by decide +kernel)), by decide, rfl⟩
set_option maxRecDepth 20000 in
theorem lk2_73 : mv_LkV RX2 73 m2_isTaskTold 0 2 := ⟨⟨(mv_inW (List.mem_of_getElem? (i := 388) (by decide +kernel)) (by decide +kernel)), wc2_isTaskTold, wi2, by decide +kernel⟩, (mv_inW (List.mem_of_getElem? (i := 390) (by decide +kernel)) (by decide +kernel)), (mv_inW (List.mem_of_getElem? (i := 7) (by decide +kernel)) (by decide +kernel)), by decide, rfl⟩
set_option maxRecDepth 20000 in
theorem lk2_79 : mv_LkV RX2 79 m1_addTask 1 1 := ⟨⟨(mv_inW (List.mem_of_getElem? (i := 392) (by decide +kernel)) (by decide +kernel)), wc1_addTask, wi1, by decide +kernel⟩, (mv_inW (List.mem_of_getElem? (i := 113) (by decide +kernel)) (by decide +kernel)), (mv_inW (List.mem_of_getElem? (i := 114) (by decide +kernel)) (by decide +kernel)), by decide, rfl⟩
set_option maxRecDepth 20000 in
theorem lk2_50 : mv_LkV RX2 50 m2_readSetting 3 2 := ⟨⟨(mv_inW (List.mem_of_getElem? (i := 393) (by decide +kernel)) (by decide +kernel)), wc2_readSetting, wi2, by decide +kernel⟩, (mv_inW (List.mem_of_getElem? (i := 395) (by decide +kernel)) (by decide +kernel)), (mv_inW (List.mem_of_getElem? (i := 8) (by decide +kernel)) (by decide +kernel)), by decide, rfl⟩
set_option maxRecDepth 20000 in
theorem lk2_60 : mv_LkV RX2 60 m2_readGathers 0 2 := ⟨⟨(mv_inW (List.mem_of_getElem? (i := 397) (by decide +kernel)) (by decide +kernel)), wc2_readGathers, wi2, by decide +kernel⟩, (mv_inW (List.mem_of_getElem? (i := 399) (by decide +kernel)) (by decide +kernel)), (mv_inW (List.mem_of_getElem? (i := 9) (by decide +kernel)) (by decide +kernel)), by decide, rfl⟩
set_option maxRecDepth 20000 in
theorem lk5_93 : mv_LkV RX5 93 m1_copyFrom 1 1 := ⟨⟨(mv_inW (List.mem_of_getElem? (i := 401) (by decide +kernel)) (by decide +kernel)), wc1_copyFrom, wi1, by decide +kernel⟩, (mv_inW (List.mem_of_getElem? (i := 402) (by decide +kernel)) (by decide +kernel)), (mv_inW (List.mem_of_getElem? (i := 403) (by decide +kernel)) (by decide +kernel)), by decide, rfl⟩
set_option maxRecDepth 20000 in
theorem lkc1_47 : Cond.methodLink RX1 47 arraycopyName ∈ mv_W := (mv_inW (List.mem_of_getElem? (i := 405) (by decide +kernel)) (by decide +kernel))
set_option maxRecDepth 20000 in
theorem lk5_96 : mv_LkV RX5 96 m3_restart 1 3 := ⟨⟨(mv_inW (List.mem_of_getElem? (i := 408) (by decide +kernel)) (by decide +kernel)), wc3_restart, wi3, by decide +kernel⟩, (mv_inW (List.mem_of_getElem? (i := 185) (by decide +kernel)) (by decide +kernel)), (mv_inW (List.mem_of_getElem? (i := 186) (by decide +kernel)) (by decide +kernel)), by decide, rfl⟩
set_option maxRecDepth 20000 in
theorem lk5_111 : mv_LkV RX5 111 m0_remember 1 0 := ⟨⟨(mv_inW (List.mem_of_getElem? (i := 413) (by decide +kernel)) (by decide +kernel)), wc0_remember, wi0, by decide +kernel⟩, (mv_inW (List.mem_of_getElem? (i := 414) (by decide +kernel)) (by decide +kernel)), (mv_inW (List.mem_of_getElem? (i := 415) (by decide +kernel)) (by decide +kernel)), by decide, rfl⟩
set_option maxRecDepth 20000 in
theorem lk0_27 : mv_LkV RX0 27 m3_copyFrom 1 3 := ⟨⟨(mv_inW (List.mem_of_getElem? (i := 417) (by decide +kernel)) (by decide +kernel)), wc3_copyFrom, wi3, by decide +kernel⟩, (mv_inW (List.mem_of_getElem? (i := 418) (by decide +kernel)) (by decide +kernel)), (mv_inW (List.mem_of_getElem? (i := 419) (by decide +kernel)) (by decide +kernel)), by decide, rfl⟩
set_option maxRecDepth 20000 in
theorem lkc3_74 : Cond.methodLink RX3 74 arraycopyName ∈ mv_W := (mv_inW (List.mem_of_getElem? (i := 421) (by decide +kernel)) (by decide +kernel))
set_option maxRecDepth 20000 in
theorem lkm0_31 : Cond.methodLink RX0 31 Lib.Math.min.name ∈ mv_W := (mv_inW (List.mem_of_getElem? (i := 422) (by decide +kernel)) (by decide +kernel))
set_option maxRecDepth 20000 in
theorem lk5_115 : mv_LkV RX5 115 m3_passTick 0 3 := ⟨⟨(mv_inW (List.mem_of_getElem? (i := 423) (by decide +kernel)) (by decide +kernel)), wc3_passTick, wi3, by decide +kernel⟩, (mv_inW (List.mem_of_getElem? (i := 424) (by decide +kernel)) (by decide +kernel)), (mv_inW (List.mem_of_getElem? (i := 425) (by decide +kernel)) (by decide +kernel)), by decide, rfl⟩
set_option maxRecDepth 20000 in
theorem lk3_91 : mv_LkV RX3 91 m3_addCode 2 3 := ⟨⟨(mv_inW (List.mem_of_getElem? (i := 427) (by decide +kernel)) (by decide +kernel)), wc3_addCode, wi3, by decide +kernel⟩, (mv_inW (List.mem_of_getElem? (i := 429) (by decide +kernel)) (by decide +kernel)), (mv_inW (List.mem_of_getElem? (i := 10) (by decide +kernel)) (by decide +kernel)), by decide, rfl⟩
set_option maxRecDepth 20000 in
theorem lk3_94 : mv_LkV RX3 94 m3_close 2 3 := ⟨⟨(mv_inW (List.mem_of_getElem? (i := 431) (by decide +kernel)) (by decide +kernel)), wc3_close, wi3, by decide +kernel⟩, (mv_inW (List.mem_of_getElem? (i := 433) (by decide +kernel)) (by decide +kernel)), (mv_inW (List.mem_of_getElem? (i := 11) (by decide +kernel)) (by decide +kernel)), by decide, rfl⟩
set_option maxRecDepth 20000 in
theorem lk3_137 : mv_LkV RX3 137 m3_note 2 3 := ⟨⟨(mv_inW (List.mem_of_getElem? (i := 435) (by decide +kernel)) (by decide +kernel)), wc3_note, wi3, by decide +kernel⟩, (mv_inW (List.mem_of_getElem? (i := 437) (by decide +kernel)) (by decide +kernel)), (mv_inW (List.mem_of_getElem? (i := 12) (by decide +kernel)) (by decide +kernel)), by decide, rfl⟩
set_option maxRecDepth 20000 in
theorem lk3_134 : mv_LkV RX3 134 m3_askChildren 1 3 := ⟨⟨(mv_inW (List.mem_of_getElem? (i := 439) (by decide +kernel)) (by decide +kernel)), wc3_askChildren, wi3, by decide +kernel⟩, (mv_inW (List.mem_of_getElem? (i := 441) (by decide +kernel)) (by decide +kernel)), (mv_inW (List.mem_of_getElem? (i := 13) (by decide +kernel)) (by decide +kernel)), by decide, rfl⟩
set_option maxRecDepth 20000 in
theorem lk3_97 : mv_LkV RX3 97 m3_goOn 1 3 := ⟨⟨(mv_inW (List.mem_of_getElem? (i := 443) (by decide +kernel)) (by decide +kernel)), wc3_goOn, wi3, by decide +kernel⟩, (mv_inW (List.mem_of_getElem? (i := 445) (by decide +kernel)) (by decide +kernel)), (mv_inW (List.mem_of_getElem? (i := 14) (by decide +kernel)) (by decide +kernel)), by decide, rfl⟩
set_option maxRecDepth 20000 in
theorem lk3_124 : mv_LkV RX3 124 m3_operate 3 3 := ⟨⟨(mv_inW (List.mem_of_getElem? (i := 447) (by decide +kernel)) (by decide +kernel)), wc3_operate, wi3, by decide +kernel⟩, (mv_inW (List.mem_of_getElem? (i := 449) (by decide +kernel)) (by decide +kernel)), (mv_inW (List.mem_of_getElem? (i := 15) (by decide +kernel)) (by decide +kernel)), by decide, rfl⟩
set_option maxRecDepth 20000 in
theorem lk3_128 : mv_LkV RX3 128 m3_work 2 3 := ⟨⟨(mv_inW (List.mem_of_getElem? (i := 451) (by decide +kernel)) (by decide +kernel)), wc3_work, wi3, by decide +kernel⟩, (mv_inW (List.mem_of_getElem? (i := 453) (by decide +kernel)) (by decide +kernel)), (mv_inW (List.mem_of_getElem? (i := 16) (by decide +kernel)) (by decide +kernel)), by decide, rfl⟩
set_option maxRecDepth 20000 in
theorem lk3_131 : mv_LkV RX3 131 m3_beginChild 1 3 := ⟨⟨(mv_inW (List.mem_of_getElem? (i := 455) (by decide +kernel)) (by decide +kernel)), wc3_beginChild, wi3, by decide +kernel⟩, (mv_inW (List.mem_of_getElem? (i := 457) (by decide +kernel)) (by decide +kernel)), (mv_inW (List.mem_of_getElem? (i := 17) (by decide +kernel)) (by decide +kernel)), by decide, rfl⟩
set_option maxRecDepth 20000 in
theorem lk3_101 : mv_LkV RX3 101 m3_activeChildren 1 3 := ⟨⟨(mv_inW (List.mem_of_getElem? (i := 459) (by decide +kernel)) (by decide +kernel)), wc3_activeChildren, wi3, by decide +kernel⟩, (mv_inW (List.mem_of_getElem? (i := 460) (by decide +kernel)) (by decide +kernel)), (mv_inW (List.mem_of_getElem? (i := 461) (by decide +kernel)) (by decide +kernel)), by decide, rfl⟩
set_option maxRecDepth 20000 in
theorem lk3_105 : mv_LkV RX3 105 m3_cleansUp 1 3 := ⟨⟨(mv_inW (List.mem_of_getElem? (i := 463) (by decide +kernel)) (by decide +kernel)), wc3_cleansUp, wi3, by decide +kernel⟩, (mv_inW (List.mem_of_getElem? (i := 465) (by decide +kernel)) (by decide +kernel)), (mv_inW (List.mem_of_getElem? (i := 18) (by decide +kernel)) (by decide +kernel)), by decide, rfl⟩
set_option maxRecDepth 20000 in
theorem lk3_109 : mv_LkV RX3 109 m3_end 1 3 := ⟨⟨(mv_inW (List.mem_of_getElem? (i := 467) (by decide +kernel)) (by decide +kernel)), wc3_end, wi3, by decide +kernel⟩, (mv_inW (List.mem_of_getElem? (i := 469) (by decide +kernel)) (by decide +kernel)), (mv_inW (List.mem_of_getElem? (i := 19) (by decide +kernel)) (by decide +kernel)), by decide, rfl⟩
set_option maxRecDepth 20000 in
theorem lk3_152 : mv_LkV RX3 152 m3_giveList 2 3 := ⟨⟨(mv_inW (List.mem_of_getElem? (i := 471) (by decide +kernel)) (by decide +kernel)), wc3_giveList, wi3, by decide +kernel⟩, (mv_inW (List.mem_of_getElem? (i := 473) (by decide +kernel)) (by decide +kernel)), (mv_inW (List.mem_of_getElem? (i := 20) (by decide +kernel)) (by decide +kernel)), by decide, rfl⟩
set_option maxRecDepth 20000 in
theorem lk3_155 : mv_LkV RX3 155 m3_takeFailure 1 3 := ⟨⟨(mv_inW (List.mem_of_getElem? (i := 475) (by decide +kernel)) (by decide +kernel)), wc3_takeFailure, wi3, by decide +kernel⟩, (mv_inW (List.mem_of_getElem? (i := 477) (by decide +kernel)) (by decide +kernel)), (mv_inW (List.mem_of_getElem? (i := 21) (by decide +kernel)) (by decide +kernel)), by decide, rfl⟩
set_option maxRecDepth 20000 in
theorem lk5_118 : mv_LkV RX5 118 m5_isTask 1 5 := ⟨⟨(mv_inW (List.mem_of_getElem? (i := 483) (by decide +kernel)) (by decide +kernel)), wc5_isTask, wi5, by decide +kernel⟩, (mv_inW (List.mem_of_getElem? (i := 485) (by decide +kernel)) (by decide +kernel)), (mv_inW (List.mem_of_getElem? (i := 22) (by decide +kernel)) (by decide +kernel)), by decide, rfl⟩
set_option maxRecDepth 20000 in
theorem lk5_127 : mv_LkV RX5 127 m0_restore 1 0 := ⟨⟨(mv_inW (List.mem_of_getElem? (i := 491) (by decide +kernel)) (by decide +kernel)), wc0_restore, wi0, by decide +kernel⟩, (mv_inW (List.mem_of_getElem? (i := 492) (by decide +kernel)) (by decide +kernel)), (mv_inW (List.mem_of_getElem? (i := 493) (by decide +kernel)) (by decide +kernel)), by decide, rfl⟩
set_option maxRecDepth 20000 in
theorem lk5_144 : mv_LkV RX5 144 m3_activeChildren 1 3 := ⟨⟨(mv_inW (List.mem_of_getElem? (i := 500) (by decide +kernel)) (by decide +kernel)), wc3_activeChildren, wi3, by decide +kernel⟩, (mv_inW (List.mem_of_getElem? (i := 460) (by decide +kernel)) (by decide +kernel)), (mv_inW (List.mem_of_getElem? (i := 461) (by decide +kernel)) (by decide +kernel)), by decide, rfl⟩
set_option maxRecDepth 20000 in
theorem lk5_163 : mv_LkV RX5 163 m3_copyFrom 1 3 := ⟨⟨(mv_inW (List.mem_of_getElem? (i := 513) (by decide +kernel)) (by decide +kernel)), wc3_copyFrom, wi3, by decide +kernel⟩, (mv_inW (List.mem_of_getElem? (i := 418) (by decide +kernel)) (by decide +kernel)), (mv_inW (List.mem_of_getElem? (i := 419) (by decide +kernel)) (by decide +kernel)), by decide, rfl⟩
set_option maxRecDepth 20000 in
theorem lk5_165 : mv_LkV RX5 165 m3_passUntilEnded 2 3 := ⟨⟨(mv_inW (List.mem_of_getElem? (i := 514) (by decide +kernel)) (by decide +kernel)), wc3_passUntilEnded, wi3, by decide +kernel⟩, (mv_inW (List.mem_of_getElem? (i := 515) (by decide +kernel)) (by decide +kernel)), (mv_inW (List.mem_of_getElem? (i := 516) (by decide +kernel)) (by decide +kernel)), by decide, rfl⟩
set_option maxRecDepth 20000 in
theorem lk3_80 : mv_LkV RX3 80 m3_passTick 0 3 := ⟨⟨(mv_inW (List.mem_of_getElem? (i := 518) (by decide +kernel)) (by decide +kernel)), wc3_passTick, wi3, by decide +kernel⟩, (mv_inW (List.mem_of_getElem? (i := 424) (by decide +kernel)) (by decide +kernel)), (mv_inW (List.mem_of_getElem? (i := 425) (by decide +kernel)) (by decide +kernel)), by decide, rfl⟩
set_option maxRecDepth 20000 in
theorem lk5_172 : mv_LkV RX5 172 m5_suppose 2 5 := ⟨⟨(mv_inW (List.mem_of_getElem? (i := 523) (by decide +kernel)) (by decide +kernel)), wc5_suppose, wi5, by decide +kernel⟩, (mv_inW (List.mem_of_getElem? (i := 525) (by decide +kernel)) (by decide +kernel)), (mv_inW (List.mem_of_getElem? (i := 23) (by decide +kernel)) (by decide +kernel)), by decide, rfl⟩
set_option maxRecDepth 20000 in
theorem lk5_177 : mv_LkV RX5 177 m5_longestSeen 0 5 := ⟨⟨(mv_inW (List.mem_of_getElem? (i := 544) (by decide +kernel)) (by decide +kernel)), wc5_longestSeen, wi5, by decide +kernel⟩, (mv_inW (List.mem_of_getElem? (i := 546) (by decide +kernel)) (by decide +kernel)), (mv_inW (List.mem_of_getElem? (i := 24) (by decide +kernel)) (by decide +kernel)), by decide, rfl⟩
set_option maxRecDepth 20000 in
theorem lkm5_193 : Cond.methodLink RX5 193 Lib.Math.max.name ∈ mv_W := (mv_inW (List.mem_of_getElem? (i := 548) (by decide +kernel)) (by decide +kernel))
set_option maxRecDepth 20000 in
theorem lk5_181 : mv_LkV RX5 181 m5_agreesWithSeen 0 5 := ⟨⟨(mv_inW (List.mem_of_getElem? (i := 551) (by decide +kernel)) (by decide +kernel)), wc5_agreesWithSeen, wi5, by decide +kernel⟩, (mv_inW (List.mem_of_getElem? (i := 553) (by decide +kernel)) (by decide +kernel)), (mv_inW (List.mem_of_getElem? (i := 25) (by decide +kernel)) (by decide +kernel)), by decide, rfl⟩
set_option maxRecDepth 20000 in
theorem lk5_199 : mv_LkV RX5 199 m3_hadEndedBy 2 3 := ⟨⟨(mv_inW (List.mem_of_getElem? (i := 555) (by decide +kernel)) (by decide +kernel)), wc3_hadEndedBy, wi3, by decide +kernel⟩, (mv_inW (List.mem_of_getElem? (i := 556) (by decide +kernel)) (by decide +kernel)), (mv_inW (List.mem_of_getElem? (i := 557) (by decide +kernel)) (by decide +kernel)), by decide, rfl⟩
set_option maxRecDepth 20000 in
theorem lk5_187 : mv_LkV RX5 187 m3_countThatAre 1 3 := ⟨⟨(mv_inW (List.mem_of_getElem? (i := 571) (by decide +kernel)) (by decide +kernel)), wc3_countThatAre, wi3, by decide +kernel⟩, (mv_inW (List.mem_of_getElem? (i := 572) (by decide +kernel)) (by decide +kernel)), (mv_inW (List.mem_of_getElem? (i := 573) (by decide +kernel)) (by decide +kernel)), by decide, rfl⟩
set_option maxRecDepth 20000 in
theorem lko6_1 : Cond.methodLink RX6 1 Lib.objectInit ∈ mv_W := (mv_inW (List.mem_of_getElem? (i := 580) (by decide +kernel)) (by decide +kernel))
set_option maxRecDepth 20000 in
theorem lk6_74 : mv_LkV RX6 74 m6_begins 0 6 := ⟨⟨(mv_inW (List.mem_of_getElem? (i := 581) (by decide +kernel)) (by decide +kernel)), wc6_begins, wi6, by decide +kernel⟩, (mv_inW (List.mem_of_getElem? (i := 583) (by decide +kernel)) (by decide +kernel)), (mv_inW (List.mem_of_getElem? (i := 26) (by decide +kernel)) (by decide +kernel)), by decide, rfl⟩
set_option maxRecDepth 20000 in
theorem lk6_77 : mv_LkV RX6 77 m6_tellsAll 0 6 := ⟨⟨(mv_inW (List.mem_of_getElem? (i := 585) (by decide +kernel)) (by decide +kernel)), wc6_tellsAll, wi6, by decide +kernel⟩, (mv_inW (List.mem_of_getElem? (i := 587) (by decide +kernel)) (by decide +kernel)), (mv_inW (List.mem_of_getElem? (i := 27) (by decide +kernel)) (by decide +kernel)), by decide, rfl⟩
set_option maxRecDepth 20000 in
theorem lk6_148 : mv_LkV RX6 148 m6_starts 1 6 := ⟨⟨(mv_inW (List.mem_of_getElem? (i := 589) (by decide +kernel)) (by decide +kernel)), wc6_starts, wi6, by decide +kernel⟩, (mv_inW (List.mem_of_getElem? (i := 591) (by decide +kernel)) (by decide +kernel)), (mv_inW (List.mem_of_getElem? (i := 28) (by decide +kernel)) (by decide +kernel)), by decide, rfl⟩
set_option maxRecDepth 20000 in
theorem lk6_80 : mv_LkS RX6 80 m6_in 3 := ⟨⟨(mv_inW (List.mem_of_getElem? (i := 700) (by decide +kernel)) (by decide +kernel)), wc6_in, wi6, by decide +kernel⟩, (mv_inW (List.mem_of_getElem? (i := 701) (by decide +kernel)) (by decide +kernel)), rfl⟩
set_option maxRecDepth 20000 in
theorem lk6_91 : mv_LkV RX6 91 m6_blanks 0 6 := ⟨⟨(mv_inW (List.mem_of_getElem? (i := 711) (by decide +kernel)) (by decide +kernel)), wc6_blanks, wi6, by decide +kernel⟩, (mv_inW (List.mem_of_getElem? (i := 713) (by decide +kernel)) (by decide +kernel)), (mv_inW (List.mem_of_getElem? (i := 29) (by decide +kernel)) (by decide +kernel)), by decide, rfl⟩
set_option maxRecDepth 20000 in
theorem lk6_158 : mv_LkV RX6 158 m6_readsItem 0 6 := ⟨⟨(mv_inW (List.mem_of_getElem? (i := 715) (by decide +kernel)) (by decide +kernel)), wc6_readsItem, wi6, by decide +kernel⟩, (mv_inW (List.mem_of_getElem? (i := 717) (by decide +kernel)) (by decide +kernel)), (mv_inW (List.mem_of_getElem? (i := 30) (by decide +kernel)) (by decide +kernel)), by decide, rfl⟩
set_option maxRecDepth 20000 in
theorem lk6_114 : mv_LkV RX6 114 m6_next 0 6 := ⟨⟨(mv_inW (List.mem_of_getElem? (i := 719) (by decide +kernel)) (by decide +kernel)), wc6_next, wi6, by decide +kernel⟩, (mv_inW (List.mem_of_getElem? (i := 721) (by decide +kernel)) (by decide +kernel)), (mv_inW (List.mem_of_getElem? (i := 31) (by decide +kernel)) (by decide +kernel)), by decide, rfl⟩
set_option maxRecDepth 20000 in
theorem lk6_100 : mv_LkV RX6 100 m6_isFigure 0 6 := ⟨⟨(mv_inW (List.mem_of_getElem? (i := 723) (by decide +kernel)) (by decide +kernel)), wc6_isFigure, wi6, by decide +kernel⟩, (mv_inW (List.mem_of_getElem? (i := 725) (by decide +kernel)) (by decide +kernel)), (mv_inW (List.mem_of_getElem? (i := 32) (by decide +kernel)) (by decide +kernel)), by decide, rfl⟩
set_option maxRecDepth 20000 in
theorem lk6_107 : mv_LkS RX6 107 m6_isToken 1 := ⟨⟨(mv_inW (List.mem_of_getElem? (i := 727) (by decide +kernel)) (by decide +kernel)), wc6_isToken, wi6, by decide +kernel⟩, (mv_inW (List.mem_of_getElem? (i := 728) (by decide +kernel)) (by decide +kernel)), rfl⟩
set_option maxRecDepth 20000 in
theorem lk6_117 : mv_LkV RX6 117 m6_fails 0 6 := ⟨⟨(mv_inW (List.mem_of_getElem? (i := 730) (by decide +kernel)) (by decide +kernel)), wc6_fails, wi6, by decide +kernel⟩, (mv_inW (List.mem_of_getElem? (i := 732) (by decide +kernel)) (by decide +kernel)), (mv_inW (List.mem_of_getElem? (i := 33) (by decide +kernel)) (by decide +kernel)), by decide, rfl⟩
set_option maxRecDepth 20000 in
theorem lk6_130 : mv_LkV RX6 130 m6_readsProgram 1 6 := ⟨⟨(mv_inW (List.mem_of_getElem? (i := 734) (by decide +kernel)) (by decide +kernel)), wc6_readsProgram, wi6, by decide +kernel⟩, (mv_inW (List.mem_of_getElem? (i := 736) (by decide +kernel)) (by decide +kernel)), (mv_inW (List.mem_of_getElem? (i := 34) (by decide +kernel)) (by decide +kernel)), by decide, rfl⟩
set_option maxRecDepth 20000 in
theorem lk6_126 : mv_LkV RX6 126 m6_number 2 6 := ⟨⟨(mv_inW (List.mem_of_getElem? (i := 738) (by decide +kernel)) (by decide +kernel)), wc6_number, wi6, by decide +kernel⟩, (mv_inW (List.mem_of_getElem? (i := 740) (by decide +kernel)) (by decide +kernel)), (mv_inW (List.mem_of_getElem? (i := 35) (by decide +kernel)) (by decide +kernel)), by decide, rfl⟩
set_option maxRecDepth 20000 in
theorem lk6_136 : mv_LkV RX6 136 m6_readsTask 0 6 := ⟨⟨(mv_inW (List.mem_of_getElem? (i := 742) (by decide +kernel)) (by decide +kernel)), wc6_readsTask, wi6, by decide +kernel⟩, (mv_inW (List.mem_of_getElem? (i := 744) (by decide +kernel)) (by decide +kernel)), (mv_inW (List.mem_of_getElem? (i := 36) (by decide +kernel)) (by decide +kernel)), by decide, rfl⟩
set_option maxRecDepth 20000 in
theorem lk6_139 : mv_LkV RX6 139 m6_readsOf 1 6 := ⟨⟨(mv_inW (List.mem_of_getElem? (i := 746) (by decide +kernel)) (by decide +kernel)), wc6_readsOf, wi6, by decide +kernel⟩, (mv_inW (List.mem_of_getElem? (i := 748) (by decide +kernel)) (by decide +kernel)), (mv_inW (List.mem_of_getElem? (i := 37) (by decide +kernel)) (by decide +kernel)), by decide, rfl⟩
set_option maxRecDepth 20000 in
theorem lk6_133 : mv_LkV RX6 133 m6_ends 0 6 := ⟨⟨(mv_inW (List.mem_of_getElem? (i := 750) (by decide +kernel)) (by decide +kernel)), wc6_ends, wi6, by decide +kernel⟩, (mv_inW (List.mem_of_getElem? (i := 752) (by decide +kernel)) (by decide +kernel)), (mv_inW (List.mem_of_getElem? (i := 38) (by decide +kernel)) (by decide +kernel)), by decide, rfl⟩
set_option maxRecDepth 20000 in
theorem lk6_165 : mv_LkS RX6 165 m6_isHow 3 := ⟨⟨(mv_inW (List.mem_of_getElem? (i := 758) (by decide +kernel)) (by decide +kernel)), wc6_isHow, wi6, by decide +kernel⟩, (mv_inW (List.mem_of_getElem? (i := 759) (by decide +kernel)) (by decide +kernel)), rfl⟩
set_option maxRecDepth 20000 in
theorem lk6_208 : mv_LkV RX6 208 m6_remember 0 6 := ⟨⟨(mv_inW (List.mem_of_getElem? (i := 761) (by decide +kernel)) (by decide +kernel)), wc6_remember, wi6, by decide +kernel⟩, (mv_inW (List.mem_of_getElem? (i := 763) (by decide +kernel)) (by decide +kernel)), (mv_inW (List.mem_of_getElem? (i := 39) (by decide +kernel)) (by decide +kernel)), by decide, rfl⟩
set_option maxRecDepth 20000 in
theorem lk6_211 : mv_LkV RX6 211 m6_tick 1 6 := ⟨⟨(mv_inW (List.mem_of_getElem? (i := 765) (by decide +kernel)) (by decide +kernel)), wc6_tick, wi6, by decide +kernel⟩, (mv_inW (List.mem_of_getElem? (i := 767) (by decide +kernel)) (by decide +kernel)), (mv_inW (List.mem_of_getElem? (i := 40) (by decide +kernel)) (by decide +kernel)), by decide, rfl⟩
set_option maxRecDepth 20000 in
theorem lk6_161 : mv_LkS RX6 161 m6_at 3 := ⟨⟨(mv_inW (List.mem_of_getElem? (i := 769) (by decide +kernel)) (by decide +kernel)), wc6_at, wi6, by decide +kernel⟩, (mv_inW (List.mem_of_getElem? (i := 770) (by decide +kernel)) (by decide +kernel)), rfl⟩
set_option maxRecDepth 20000 in
theorem lk6_187 : mv_LkS RX6 187 m6_codes 3 := ⟨⟨(mv_inW (List.mem_of_getElem? (i := 772) (by decide +kernel)) (by decide +kernel)), wc6_codes, wi6, by decide +kernel⟩, (mv_inW (List.mem_of_getElem? (i := 773) (by decide +kernel)) (by decide +kernel)), rfl⟩
set_option maxRecDepth 20000 in
theorem lk6_190 : mv_LkV RX6 190 m6_closes 3 6 := ⟨⟨(mv_inW (List.mem_of_getElem? (i := 775) (by decide +kernel)) (by decide +kernel)), wc6_closes, wi6, by decide +kernel⟩, (mv_inW (List.mem_of_getElem? (i := 777) (by decide +kernel)) (by decide +kernel)), (mv_inW (List.mem_of_getElem? (i := 41) (by decide +kernel)) (by decide +kernel)), by decide, rfl⟩
set_option maxRecDepth 20000 in
theorem lk6_169 : mv_LkV RX6 169 m6_asksChildren 2 6 := ⟨⟨(mv_inW (List.mem_of_getElem? (i := 779) (by decide +kernel)) (by decide +kernel)), wc6_asksChildren, wi6, by decide +kernel⟩, (mv_inW (List.mem_of_getElem? (i := 781) (by decide +kernel)) (by decide +kernel)), (mv_inW (List.mem_of_getElem? (i := 42) (by decide +kernel)) (by decide +kernel)), by decide, rfl⟩
set_option maxRecDepth 20000 in
theorem lk6_173 : mv_LkS RX6 173 m6_traces 3 := ⟨⟨(mv_inW (List.mem_of_getElem? (i := 783) (by decide +kernel)) (by decide +kernel)), wc6_traces, wi6, by decide +kernel⟩, (mv_inW (List.mem_of_getElem? (i := 784) (by decide +kernel)) (by decide +kernel)), rfl⟩
set_option maxRecDepth 20000 in
theorem lk6_199 : mv_LkV RX6 199 m6_moves 2 6 := ⟨⟨(mv_inW (List.mem_of_getElem? (i := 786) (by decide +kernel)) (by decide +kernel)), wc6_moves, wi6, by decide +kernel⟩, (mv_inW (List.mem_of_getElem? (i := 788) (by decide +kernel)) (by decide +kernel)), (mv_inW (List.mem_of_getElem? (i := 43) (by decide +kernel)) (by decide +kernel)), by decide, rfl⟩
set_option maxRecDepth 20000 in
theorem lk6_193 : mv_LkV RX6 193 m6_works 2 6 := ⟨⟨(mv_inW (List.mem_of_getElem? (i := 790) (by decide +kernel)) (by decide +kernel)), wc6_works, wi6, by decide +kernel⟩, (mv_inW (List.mem_of_getElem? (i := 792) (by decide +kernel)) (by decide +kernel)), (mv_inW (List.mem_of_getElem? (i := 44) (by decide +kernel)) (by decide +kernel)), by decide, rfl⟩
set_option maxRecDepth 20000 in
theorem lk6_180 : mv_LkV RX6 180 m6_beginsChild 2 6 := ⟨⟨(mv_inW (List.mem_of_getElem? (i := 794) (by decide +kernel)) (by decide +kernel)), wc6_beginsChild, wi6, by decide +kernel⟩, (mv_inW (List.mem_of_getElem? (i := 796) (by decide +kernel)) (by decide +kernel)), (mv_inW (List.mem_of_getElem? (i := 45) (by decide +kernel)) (by decide +kernel)), by decide, rfl⟩
set_option maxRecDepth 20000 in
theorem lk6_177 : mv_LkV RX6 177 m6_begin 2 6 := ⟨⟨(mv_inW (List.mem_of_getElem? (i := 798) (by decide +kernel)) (by decide +kernel)), wc6_begin, wi6, by decide +kernel⟩, (mv_inW (List.mem_of_getElem? (i := 800) (by decide +kernel)) (by decide +kernel)), (mv_inW (List.mem_of_getElem? (i := 46) (by decide +kernel)) (by decide +kernel)), by decide, rfl⟩
set_option maxRecDepth 20000 in
theorem lk6_183 : mv_LkV RX6 183 m6_isBusy 2 6 := ⟨⟨(mv_inW (List.mem_of_getElem? (i := 802) (by decide +kernel)) (by decide +kernel)), wc6_isBusy, wi6, by decide +kernel⟩, (mv_inW (List.mem_of_getElem? (i := 804) (by decide +kernel)) (by decide +kernel)), (mv_inW (List.mem_of_getElem? (i := 47) (by decide +kernel)) (by decide +kernel)), by decide, rfl⟩
set_option maxRecDepth 20000 in
theorem lk6_202 : mv_LkV RX6 202 m6_cleansUp 2 6 := ⟨⟨(mv_inW (List.mem_of_getElem? (i := 806) (by decide +kernel)) (by decide +kernel)), wc6_cleansUp, wi6, by decide +kernel⟩, (mv_inW (List.mem_of_getElem? (i := 808) (by decide +kernel)) (by decide +kernel)), (mv_inW (List.mem_of_getElem? (i := 48) (by decide +kernel)) (by decide +kernel)), by decide, rfl⟩
set_option maxRecDepth 20000 in
theorem lk6_196 : mv_LkV RX6 196 m6_gives 2 6 := ⟨⟨(mv_inW (List.mem_of_getElem? (i := 810) (by decide +kernel)) (by decide +kernel)), wc6_gives, wi6, by decide +kernel⟩, (mv_inW (List.mem_of_getElem? (i := 812) (by decide +kernel)) (by decide +kernel)), (mv_inW (List.mem_of_getElem? (i := 49) (by decide +kernel)) (by decide +kernel)), by decide, rfl⟩
set_option maxRecDepth 20000 in
theorem lk6_214 : mv_LkV RX6 214 m6_isTask 1 6 := ⟨⟨(mv_inW (List.mem_of_getElem? (i := 818) (by decide +kernel)) (by decide +kernel)), wc6_isTask, wi6, by decide +kernel⟩, (mv_inW (List.mem_of_getElem? (i := 820) (by decide +kernel)) (by decide +kernel)), (mv_inW (List.mem_of_getElem? (i := 50) (by decide +kernel)) (by decide +kernel)), by decide, rfl⟩
set_option maxRecDepth 20000 in
theorem lk6_217 : mv_LkV RX6 217 m6_busySet 1 6 := ⟨⟨(mv_inW (List.mem_of_getElem? (i := 830) (by decide +kernel)) (by decide +kernel)), wc6_busySet, wi6, by decide +kernel⟩, (mv_inW (List.mem_of_getElem? (i := 832) (by decide +kernel)) (by decide +kernel)), (mv_inW (List.mem_of_getElem? (i := 51) (by decide +kernel)) (by decide +kernel)), by decide, rfl⟩
set_option maxRecDepth 20000 in
theorem lk6_221 : mv_LkS RX6 221 m6_copies 2 := ⟨⟨(mv_inW (List.mem_of_getElem? (i := 846) (by decide +kernel)) (by decide +kernel)), wc6_copies, wi6, by decide +kernel⟩, (mv_inW (List.mem_of_getElem? (i := 847) (by decide +kernel)) (by decide +kernel)), rfl⟩
set_option maxRecDepth 20000 in
theorem lk6_225 : mv_LkV RX6 225 m6_goesOn 1 6 := ⟨⟨(mv_inW (List.mem_of_getElem? (i := 849) (by decide +kernel)) (by decide +kernel)), wc6_goesOn, wi6, by decide +kernel⟩, (mv_inW (List.mem_of_getElem? (i := 851) (by decide +kernel)) (by decide +kernel)), (mv_inW (List.mem_of_getElem? (i := 52) (by decide +kernel)) (by decide +kernel)), by decide, rfl⟩
set_option maxRecDepth 20000 in
theorem lk6_230 : mv_LkV RX6 230 m6_howMany 1 6 := ⟨⟨(mv_inW (List.mem_of_getElem? (i := 886) (by decide +kernel)) (by decide +kernel)), wc6_howMany, wi6, by decide +kernel⟩, (mv_inW (List.mem_of_getElem? (i := 888) (by decide +kernel)) (by decide +kernel)), (mv_inW (List.mem_of_getElem? (i := 53) (by decide +kernel)) (by decide +kernel)), by decide, rfl⟩
set_option maxRecDepth 20000 in
theorem wn5 : Cond.instantiable RX5 14 ∈ mv_W := (mv_inW (List.mem_of_getElem? (i := 65) (by decide +kernel)) (by decide +kernel))
set_option maxRecDepth 20000 in
theorem cl5_7 : Cond.classLink RX5 7 RX4 ∈ mv_W := (mv_inW (List.mem_of_getElem? (i := 72) (by decide +kernel)) (by decide +kernel))
set_option maxRecDepth 20000 in
theorem wn4 : Cond.instantiable RX4 6 ∈ mv_W := (mv_inW (List.mem_of_getElem? (i := 73) (by decide +kernel)) (by decide +kernel))
set_option maxRecDepth 20000 in
theorem cl5_16 : Cond.classLink RX5 16 RX1 ∈ mv_W := (mv_inW (List.mem_of_getElem? (i := 102) (by decide +kernel)) (by decide +kernel))
set_option maxRecDepth 20000 in
theorem wn1 : Cond.instantiable RX1 9 ∈ mv_W := (mv_inW (List.mem_of_getElem? (i := 103) (by decide +kernel)) (by decide +kernel))
set_option maxRecDepth 20000 in
theorem cl5_29 : Cond.classLink RX5 29 RX2 ∈ mv_W := (mv_inW (List.mem_of_getElem? (i := 161) (by decide +kernel)) (by decide +kernel))
set_option maxRecDepth 20000 in
theorem wn2 : Cond.instantiable RX2 3 ∈ mv_W := (mv_inW (List.mem_of_getElem? (i := 162) (by decide +kernel)) (by decide +kernel))
set_option maxRecDepth 20000 in
theorem cl5_38 : Cond.classLink RX5 38 RX3 ∈ mv_W := (mv_inW (List.mem_of_getElem? (i := 178) (by decide +kernel)) (by decide +kernel))
set_option maxRecDepth 20000 in
theorem wn3 : Cond.instantiable RX3 17 ∈ mv_W := (mv_inW (List.mem_of_getElem? (i := 179) (by decide +kernel)) (by decide +kernel))
set_option maxRecDepth 20000 in
theorem kc3_69 : Cond.constant RX3 69 (1000000) ∈ mv_W := (mv_inW (List.mem_of_getElem? (i := 188) (by decide +kernel)) (by decide +kernel))
set_option maxRecDepth 20000 in
theorem cl5_50 : Cond.classLink RX5 50 RX0 ∈ mv_W := (mv_inW (List.mem_of_getElem? (i := 261) (by decide +kernel)) (by decide +kernel))
set_option maxRecDepth 20000 in
theorem wn0 : Cond.instantiable RX0 3 ∈ mv_W := (mv_inW (List.mem_of_getElem? (i := 262) (by decide +kernel)) (by decide +kernel))
set_option maxRecDepth 20000 in
theorem cl0_9 : Cond.classLink RX0 9 RX3 ∈ mv_W := (mv_inW (List.mem_of_getElem? (i := 267) (by decide +kernel)) (by decide +kernel))
set_option maxRecDepth 20000 in
theorem kc5_140 : Cond.constant RX5 140 (1000000) ∈ mv_W := (mv_inW (List.mem_of_getElem? (i := 499) (by decide +kernel)) (by decide +kernel))
set_option maxRecDepth 20000 in
theorem kc5_176 : Cond.constant RX5 176 (-1000000) ∈ mv_W := (mv_inW (List.mem_of_getElem? (i := 531) (by decide +kernel)) (by decide +kernel))
set_option maxRecDepth 20000 in
theorem wn6 : Cond.instantiable RX6 34 ∈ mv_W := (mv_inW (List.mem_of_getElem? (i := 576) (by decide +kernel)) (by decide +kernel))
set_option maxRecDepth 20000 in
theorem kc6_229 : Cond.constant RX6 229 (-1000000) ∈ mv_W := (mv_inW (List.mem_of_getElem? (i := 861) (by decide +kernel)) (by decide +kernel))
set_option maxRecDepth 20000 in
theorem wa_int : Cond.arrayClass .int ∈ mv_W := (mv_inW (List.mem_of_getElem? (i := 101) (by decide +kernel)) (by decide +kernel))
set_option maxRecDepth 20000 in
theorem wa_boolean : Cond.arrayClass .boolean ∈ mv_W := (mv_inW (List.mem_of_getElem? (i := 324) (by decide +kernel)) (by decide +kernel))
set_option maxRecDepth 20000 in
theorem wo_i : Cond.instanceMethod Lib.objectInit ∈ mv_W := (mv_inW (List.mem_of_getElem? (i := 70) (by decide +kernel)) (by decide +kernel))
set_option maxRecDepth 20000 in
theorem wo_c : Cond.code Lib.objectInit ⟨#[0xb1]⟩ 1 none ∈ mv_W := (mv_inW (List.mem_of_getElem? (i := 71) (by decide +kernel)) (by decide +kernel))
set_option maxRecDepth 20000 in
theorem wm_smin : Cond.static Lib.Math.min.name ∈ mv_W := (mv_inW (List.mem_of_getElem? (i := 194) (by decide +kernel)) (by decide +kernel))
set_option maxRecDepth 20000 in
theorem wm_cmin : Cond.code Lib.Math.min.name Lib.Math.min.code 2 (some .int) ∈ mv_W := (mv_inW (List.mem_of_getElem? (i := 195) (by decide +kernel)) (by decide +kernel))
set_option maxRecDepth 20000 in
theorem wm_smax : Cond.static Lib.Math.max.name ∈ mv_W := (mv_inW (List.mem_of_getElem? (i := 549) (by decide +kernel)) (by decide +kernel))
set_option maxRecDepth 20000 in
theorem wm_cmax : Cond.code Lib.Math.max.name Lib.Math.max.code 2 (some .int) ∈ mv_W := (mv_inW (List.mem_of_getElem? (i := 550) (by decide +kernel)) (by decide +kernel))
set_option maxRecDepth 20000 in
theorem wm_i : Cond.initialized "java/lang/Math" ∈ mv_W := (mv_inW (List.mem_of_getElem? (i := 60) (by decide +kernel)) (by decide +kernel))
set_option maxRecDepth 20000 in
theorem ws_n : Cond.native arraycopyName ∈ mv_W := (mv_inW (List.mem_of_getElem? (i := 407) (by decide +kernel)) (by decide +kernel))
set_option maxRecDepth 20000 in
theorem ws_s : Cond.static arraycopyName ∈ mv_W := (mv_inW (List.mem_of_getElem? (i := 406) (by decide +kernel)) (by decide +kernel))
set_option maxRecDepth 20000 in
theorem ws_i : Cond.initialized "java/lang/System" ∈ mv_W := (mv_inW (List.mem_of_getElem? (i := 63) (by decide +kernel)) (by decide +kernel))
set_option maxRecDepth 20000 in
theorem wt_i : Cond.instanceMethod yX4_init ∈ mv_W := (mv_inW (List.mem_of_getElem? (i := 75) (by decide +kernel)) (by decide +kernel))
end
section
def mv_rm (d : Nat) : Room := { frames := d, cells := 0, slots := 0, locals := 40 * d }
/-- nothing new is made, no reference is written: a void answer; an int -/
def mv_Pv (n : Nat) (sh : mv_Sh) (R : mv_R) (P : mv_I → Prop) : mv_Q := fun v n' sh' I' R' => v = none ∧ n' = n ∧ sh' = sh ∧ R' = R ∧ P I'
def mv_Pi (n : Nat) (sh : mv_Sh) (R : mv_R) (P : Int32 → mv_I → Prop) : mv_Q := fun v n' sh' I' R' => ∃ x : Int32, v = some (.int x) ∧ n' = n ∧ sh' = sh ∧ R' = R ∧ P x I'
theorem mv_Pv.mk {n : Nat} {sh : mv_Sh} {R : mv_R} {P : mv_I → Prop} {I : mv_I} (h : P I) : mv_Pv n sh R P none n sh I R := ⟨rfl, rfl, rfl, rfl, h⟩
theorem mv_Pi.mk {n : Nat} {sh : mv_Sh} {R : mv_R} {P : Int32 → mv_I → Prop} {I : mv_I} {x : Int32} (h : P x I) : mv_Pi n sh R P (some (.int x)) n sh I R := ⟨x, rfl, rfl, rfl, rfl, h⟩
theorem mv_room {d d2 mL : Nat} (h : d2 < d) (hm : mL ≤ 21) : (mv_rm d2).frames + 1 ≤ (mv_rm d).frames ∧ 8 + (mL + 11) + (mv_rm d2).locals ≤ (mv_rm d).locals := by
  constructor
  · show d2 + 1 ≤ d; omega
  · show 8 + (mL + 11) + 40 * d2 ≤ 40 * d; omega
section MR
variable {l : Launch} {D : va_G} {b0 : Nat} {M : mv_M} {d d2 : Nat} {Q : mv_Q} {pc : Nat} {loc stk st0 : List Value} {n : Nat} {sh : mv_Sh} {I : mv_I} {R : mv_R}
variable {M2 : mv_M} {As : List Value} {idx k : Nat}
theorem mv_cVv {a ci : Nat} {P : mv_I → Prop} (hd : decode M.2.1 pc = .ok (.invokevirtual idx, 3)) (hL : mv_LkV M.1.cls idx M2 k ci) (ha : (sh a).1 = ci) (hC : mv_C l D b0 M2 (mv_rm d2) (.ref a :: As) n sh I R (mv_Pv n sh R P)) (hk : As.length = k) (hst : st0 = As.reverse ++ .ref a :: stk) (hcat : (stk.map fun v => v.category).sum ≤ 8) (hm : M2.2.2.1 ≤ 21) (hdd : d2 < d)
    (kk : ∀ I', P I' → mv_E l D b0 M (mv_rm d) Q (pc + 3) loc stk 0 0 n sh I' R) : mv_E l D b0 M (mv_rm d) Q pc loc st0 0 0 n sh I R := by
  refine mv_callV hd hL ha hC hk hst hcat (mv_room hdd hm) ⟨Nat.le_refl _, Nat.le_refl _⟩ ?_
  intro v n' sh' I' R' h'
  obtain ⟨h1, h2, h3, h4, h5⟩ := h'
  subst h1 h2 h3 h4
  exact kk _ h5
theorem mv_cVi {a ci : Nat} {P : Int32 → mv_I → Prop} (hd : decode M.2.1 pc = .ok (.invokevirtual idx, 3)) (hL : mv_LkV M.1.cls idx M2 k ci) (ha : (sh a).1 = ci) (hC : mv_C l D b0 M2 (mv_rm d2) (.ref a :: As) n sh I R (mv_Pi n sh R P)) (hk : As.length = k) (hst : st0 = As.reverse ++ .ref a :: stk) (hcat : (stk.map fun v => v.category).sum ≤ 8) (hm : M2.2.2.1 ≤ 21) (hdd : d2 < d)
    (kk : ∀ x I', P x I' → mv_E l D b0 M (mv_rm d) Q (pc + 3) loc (.int x :: stk) 0 0 n sh I' R) : mv_E l D b0 M (mv_rm d) Q pc loc st0 0 0 n sh I R := by
  refine mv_callV hd hL ha hC hk hst hcat (mv_room hdd hm) ⟨Nat.le_refl _, Nat.le_refl _⟩ ?_
  intro v n' sh' I' R' h'
  obtain ⟨x, h1, h2, h3, h4, h5⟩ := h'
  subst h1 h2 h3 h4
  exact kk _ _ h5
theorem mv_cSv {P : mv_I → Prop} (hd : decode M.2.1 pc = .ok (.invokestatic idx, 3)) (hL : mv_LkS M.1.cls idx M2 k) (hC : mv_C l D b0 M2 (mv_rm d2) As n sh I R (mv_Pv n sh R P)) (hk : As.length = k) (hst : st0 = As.reverse ++ stk) (hcat : (stk.map fun v => v.category).sum ≤ 8) (hm : M2.2.2.1 ≤ 21) (hdd : d2 < d)
    (kk : ∀ I', P I' → mv_E l D b0 M (mv_rm d) Q (pc + 3) loc stk 0 0 n sh I' R) : mv_E l D b0 M (mv_rm d) Q pc loc st0 0 0 n sh I R := by
  refine mv_callS hd hL hC hk hst hcat (mv_room hdd hm) ⟨Nat.le_refl _, Nat.le_refl _⟩ ?_
  intro v n' sh' I' R' h'
  obtain ⟨h1, h2, h3, h4, h5⟩ := h'
  subst h1 h2 h3 h4
  exact kk _ h5
theorem mv_cSi {P : Int32 → mv_I → Prop} (hd : decode M.2.1 pc = .ok (.invokestatic idx, 3)) (hL : mv_LkS M.1.cls idx M2 k) (hC : mv_C l D b0 M2 (mv_rm d2) As n sh I R (mv_Pi n sh R P)) (hk : As.length = k) (hst : st0 = As.reverse ++ stk) (hcat : (stk.map fun v => v.category).sum ≤ 8) (hm : M2.2.2.1 ≤ 21) (hdd : d2 < d)
    (kk : ∀ x I', P x I' → mv_E l D b0 M (mv_rm d) Q (pc + 3) loc (.int x :: stk) 0 0 n sh I' R) : mv_E l D b0 M (mv_rm d) Q pc loc st0 0 0 n sh I R := by
  refine mv_callS hd hL hC hk hst hcat (mv_room hdd hm) ⟨Nat.le_refl _, Nat.le_refl _⟩ ?_
  intro v n' sh' I' R' h'
  obtain ⟨x, h1, h2, h3, h4, h5⟩ := h'
  subst h1 h2 h3 h4
  exact kk _ _ h5
end MR
section MS
variable {l : Launch} {D : va_G} {b0 : Nat} {M : mv_M} {rm : Room} {Q : mv_Q} {pc : Nat} {loc stk : List Value} {ac sl n : Nat} {sh : mv_Sh} {I : mv_I} {R : mv_R}
theorem mv_top {x y : Int32} (h : x = y) (kk : mv_E l D b0 M rm Q pc loc (.int y :: stk) ac sl n sh I R) : mv_E l D b0 M rm Q pc loc (.int x :: stk) ac sl n sh I R := h ▸ kk
theorem mv_getIx {ci k a idx : Nat} {x : Int32} (hd : decode M.2.1 pc = .ok (.getfield idx, 3)) (hF : mv_FL M.1.cls idx ci k) (hi : mv_ty ci k = .int) (ha : (sh a).1 = ci) (hx : I a k = x) (kk : mv_E l D b0 M rm Q (pc + 3) loc (.int x :: stk) ac sl n sh I R) : mv_E l D b0 M rm Q pc loc (.ref a :: stk) ac sl n sh I R := mv_getI hd hF hi ha (by rw [hx]; exact kk)
theorem mv_ialdx {a k len : Nat} {i x : Int32} (hd : decode M.2.1 pc = .ok (.iaload, 1)) (ha : sh a = (7, len)) (hi : i = nI k) (hk : k < len) (hx : I a k = x) (kk : mv_E l D b0 M rm Q (pc + 1) loc (.int x :: stk) ac sl n sh I R) (hl : len < 2 ^ 31 := by decide) : mv_E l D b0 M rm Q pc loc (.int i :: .ref a :: stk) ac sl n sh I R := mv_iald hd ha hi hk (by rw [hx]; exact kk) hl
theorem mv_zaldx {a k len : Nat} {i x : Int32} (hd : decode M.2.1 pc = .ok (.baload, 1)) (ha : sh a = (8, len)) (hi : i = nI k) (hk : k < len) (hx : I a k = x) (kk : mv_E l D b0 M rm Q (pc + 1) loc (.int x :: stk) ac sl n sh I R) (hl : len < 2 ^ 31 := by decide) : mv_E l D b0 M rm Q pc loc (.int i :: .ref a :: stk) ac sl n sh I R := mv_zald hd ha hi hk (by rw [hx]; exact kk) hl
end MS
def ly_Run (sh : mv_Sh) (R : mv_R) (p : Nat) : Prop := sh p = (3, 17) ∧ (R p 2 = some (p + 1) ∧ sh (p + 1) = (7, 8)) ∧ (R p 3 = some (p + 2) ∧ sh (p + 2) = (7, 8)) ∧ (R p 4 = some (p + 3) ∧ sh (p + 3) = (7, 8)) ∧ (R p 5 = some (p + 4) ∧ sh (p + 4) = (7, 8)) ∧ (R p 6 = some (p + 5) ∧ sh (p + 5) = (7, 8)) ∧ (R p 7 = some (p + 6) ∧ sh (p + 6) = (7, 8)) ∧ (R p 8 = some (p + 7) ∧ sh (p + 7) = (7, 8)) ∧ (R p 9 = some (p + 8) ∧ sh (p + 8) = (7, 8)) ∧ (R p 10 = some (p + 9) ∧ sh (p + 9) = (7, 8)) ∧ (R p 11 = some (p + 10) ∧ sh (p + 10) = (7, 8)) ∧ (R p 12 = some (p + 11) ∧ sh (p + 11) = (7, 64)) ∧ (R p 14 = some (p + 12) ∧ sh (p + 12) = (7, 60)) ∧ (R p 15 = some (p + 13) ∧ sh (p + 13) = (7, 60)) ∧ (R p 16 = some (p + 14) ∧ sh (p + 14) = (7, 60))
theorem ly_Run.o {sh : mv_Sh} {R : mv_R} {p : Nat} (h : ly_Run sh R p) : sh p = (3, 17) := h.1
theorem ly_Run.f2 {sh : mv_Sh} {R : mv_R} {p : Nat} (h : ly_Run sh R p) : R p 2 = some (p + 1) := h.2.1.1
theorem ly_Run.g2 {sh : mv_Sh} {R : mv_R} {p : Nat} (h : ly_Run sh R p) : sh (p + 1) = (7, 8) := h.2.1.2
theorem ly_Run.f3 {sh : mv_Sh} {R : mv_R} {p : Nat} (h : ly_Run sh R p) : R p 3 = some (p + 2) := h.2.2.1.1
theorem ly_Run.g3 {sh : mv_Sh} {R : mv_R} {p : Nat} (h : ly_Run sh R p) : sh (p + 2) = (7, 8) := h.2.2.1.2
theorem ly_Run.f4 {sh : mv_Sh} {R : mv_R} {p : Nat} (h : ly_Run sh R p) : R p 4 = some (p + 3) := h.2.2.2.1.1
theorem ly_Run.g4 {sh : mv_Sh} {R : mv_R} {p : Nat} (h : ly_Run sh R p) : sh (p + 3) = (7, 8) := h.2.2.2.1.2
theorem ly_Run.f5 {sh : mv_Sh} {R : mv_R} {p : Nat} (h : ly_Run sh R p) : R p 5 = some (p + 4) := h.2.2.2.2.1.1
theorem ly_Run.g5 {sh : mv_Sh} {R : mv_R} {p : Nat} (h : ly_Run sh R p) : sh (p + 4) = (7, 8) := h.2.2.2.2.1.2
theorem ly_Run.f6 {sh : mv_Sh} {R : mv_R} {p : Nat} (h : ly_Run sh R p) : R p 6 = some (p + 5) := h.2.2.2.2.2.1.1
theorem ly_Run.g6 {sh : mv_Sh} {R : mv_R} {p : Nat} (h : ly_Run sh R p) : sh (p + 5) = (7, 8) := h.2.2.2.2.2.1.2
theorem ly_Run.f7 {sh : mv_Sh} {R : mv_R} {p : Nat} (h : ly_Run sh R p) : R p 7 = some (p + 6) := h.2.2.2.2.2.2.1.1
theorem ly_Run.g7 {sh : mv_Sh} {R : mv_R} {p : Nat} (h : ly_Run sh R p) : sh (p + 6) = (7, 8) := h.2.2.2.2.2.2.1.2
theorem ly_Run.f8 {sh : mv_Sh} {R : mv_R} {p : Nat} (h : ly_Run sh R p) : R p 8 = some (p + 7) := h.2.2.2.2.2.2.2.1.1
theorem ly_Run.g8 {sh : mv_Sh} {R : mv_R} {p : Nat} (h : ly_Run sh R p) : sh (p + 7) = (7, 8) := h.2.2.2.2.2.2.2.1.2
theorem ly_Run.f9 {sh : mv_Sh} {R : mv_R} {p : Nat} (h : ly_Run sh R p) : R p 9 = some (p + 8) := h.2.2.2.2.2.2.2.2.1.1
theorem ly_Run.g9 {sh : mv_Sh} {R : mv_R} {p : Nat} (h : ly_Run sh R p) : sh (p + 8) = (7, 8) := h.2.2.2.2.2.2.2.2.1.2
theorem ly_Run.f10 {sh : mv_Sh} {R : mv_R} {p : Nat} (h : ly_Run sh R p) : R p 10 = some (p + 9) := h.2.2.2.2.2.2.2.2.2.1.1
theorem ly_Run.g10 {sh : mv_Sh} {R : mv_R} {p : Nat} (h : ly_Run sh R p) : sh (p + 9) = (7, 8) := h.2.2.2.2.2.2.2.2.2.1.2
theorem ly_Run.f11 {sh : mv_Sh} {R : mv_R} {p : Nat} (h : ly_Run sh R p) : R p 11 = some (p + 10) := h.2.2.2.2.2.2.2.2.2.2.1.1
theorem ly_Run.g11 {sh : mv_Sh} {R : mv_R} {p : Nat} (h : ly_Run sh R p) : sh (p + 10) = (7, 8) := h.2.2.2.2.2.2.2.2.2.2.1.2
theorem ly_Run.f12 {sh : mv_Sh} {R : mv_R} {p : Nat} (h : ly_Run sh R p) : R p 12 = some (p + 11) := h.2.2.2.2.2.2.2.2.2.2.2.1.1
theorem ly_Run.g12 {sh : mv_Sh} {R : mv_R} {p : Nat} (h : ly_Run sh R p) : sh (p + 11) = (7, 64) := h.2.2.2.2.2.2.2.2.2.2.2.1.2
theorem ly_Run.f14 {sh : mv_Sh} {R : mv_R} {p : Nat} (h : ly_Run sh R p) : R p 14 = some (p + 12) := h.2.2.2.2.2.2.2.2.2.2.2.2.1.1
theorem ly_Run.g14 {sh : mv_Sh} {R : mv_R} {p : Nat} (h : ly_Run sh R p) : sh (p + 12) = (7, 60) := h.2.2.2.2.2.2.2.2.2.2.2.2.1.2
theorem ly_Run.f15 {sh : mv_Sh} {R : mv_R} {p : Nat} (h : ly_Run sh R p) : R p 15 = some (p + 13) := h.2.2.2.2.2.2.2.2.2.2.2.2.2.1.1
theorem ly_Run.g15 {sh : mv_Sh} {R : mv_R} {p : Nat} (h : ly_Run sh R p) : sh (p + 13) = (7, 60) := h.2.2.2.2.2.2.2.2.2.2.2.2.2.1.2
theorem ly_Run.f16 {sh : mv_Sh} {R : mv_R} {p : Nat} (h : ly_Run sh R p) : R p 16 = some (p + 14) := h.2.2.2.2.2.2.2.2.2.2.2.2.2.2.1
theorem ly_Run.g16 {sh : mv_Sh} {R : mv_R} {p : Nat} (h : ly_Run sh R p) : sh (p + 14) = (7, 60) := h.2.2.2.2.2.2.2.2.2.2.2.2.2.2.2
def ly_Plan (sh : mv_Sh) (R : mv_R) (p : Nat) : Prop := sh p = (1, 9) ∧ (R p 1 = some (p + 1) ∧ sh (p + 1) = (7, 8)) ∧ (R p 2 = some (p + 2) ∧ sh (p + 2) = (7, 8)) ∧ (R p 3 = some (p + 3) ∧ sh (p + 3) = (7, 48)) ∧ (R p 4 = some (p + 4) ∧ sh (p + 4) = (7, 48)) ∧ (R p 5 = some (p + 5) ∧ sh (p + 5) = (7, 8)) ∧ (R p 6 = some (p + 6) ∧ sh (p + 6) = (7, 8)) ∧ (R p 7 = some (p + 7) ∧ sh (p + 7) = (7, 8)) ∧ (R p 8 = some (p + 8) ∧ sh (p + 8) = (7, 8))
theorem ly_Plan.o {sh : mv_Sh} {R : mv_R} {p : Nat} (h : ly_Plan sh R p) : sh p = (1, 9) := h.1
theorem ly_Plan.f1 {sh : mv_Sh} {R : mv_R} {p : Nat} (h : ly_Plan sh R p) : R p 1 = some (p + 1) := h.2.1.1
theorem ly_Plan.g1 {sh : mv_Sh} {R : mv_R} {p : Nat} (h : ly_Plan sh R p) : sh (p + 1) = (7, 8) := h.2.1.2
theorem ly_Plan.f2 {sh : mv_Sh} {R : mv_R} {p : Nat} (h : ly_Plan sh R p) : R p 2 = some (p + 2) := h.2.2.1.1
theorem ly_Plan.g2 {sh : mv_Sh} {R : mv_R} {p : Nat} (h : ly_Plan sh R p) : sh (p + 2) = (7, 8) := h.2.2.1.2
theorem ly_Plan.f3 {sh : mv_Sh} {R : mv_R} {p : Nat} (h : ly_Plan sh R p) : R p 3 = some (p + 3) := h.2.2.2.1.1
theorem ly_Plan.g3 {sh : mv_Sh} {R : mv_R} {p : Nat} (h : ly_Plan sh R p) : sh (p + 3) = (7, 48) := h.2.2.2.1.2
theorem ly_Plan.f4 {sh : mv_Sh} {R : mv_R} {p : Nat} (h : ly_Plan sh R p) : R p 4 = some (p + 4) := h.2.2.2.2.1.1
theorem ly_Plan.g4 {sh : mv_Sh} {R : mv_R} {p : Nat} (h : ly_Plan sh R p) : sh (p + 4) = (7, 48) := h.2.2.2.2.1.2
theorem ly_Plan.f5 {sh : mv_Sh} {R : mv_R} {p : Nat} (h : ly_Plan sh R p) : R p 5 = some (p + 5) := h.2.2.2.2.2.1.1
theorem ly_Plan.g5 {sh : mv_Sh} {R : mv_R} {p : Nat} (h : ly_Plan sh R p) : sh (p + 5) = (7, 8) := h.2.2.2.2.2.1.2
theorem ly_Plan.f6 {sh : mv_Sh} {R : mv_R} {p : Nat} (h : ly_Plan sh R p) : R p 6 = some (p + 6) := h.2.2.2.2.2.2.1.1
theorem ly_Plan.g6 {sh : mv_Sh} {R : mv_R} {p : Nat} (h : ly_Plan sh R p) : sh (p + 6) = (7, 8) := h.2.2.2.2.2.2.1.2
theorem ly_Plan.f7 {sh : mv_Sh} {R : mv_R} {p : Nat} (h : ly_Plan sh R p) : R p 7 = some (p + 7) := h.2.2.2.2.2.2.2.1.1
theorem ly_Plan.g7 {sh : mv_Sh} {R : mv_R} {p : Nat} (h : ly_Plan sh R p) : sh (p + 7) = (7, 8) := h.2.2.2.2.2.2.2.1.2
theorem ly_Plan.f8 {sh : mv_Sh} {R : mv_R} {p : Nat} (h : ly_Plan sh R p) : R p 8 = some (p + 8) := h.2.2.2.2.2.2.2.2.1
theorem ly_Plan.g8 {sh : mv_Sh} {R : mv_R} {p : Nat} (h : ly_Plan sh R p) : sh (p + 8) = (7, 8) := h.2.2.2.2.2.2.2.2.2
def ly_Tok (sh : mv_Sh) (R : mv_R) (p : Nat) : Prop := sh p = (4, 6) ∧ (R p 0 = some (p + 1) ∧ sh (p + 1) = (7, 120))
theorem ly_Tok.o {sh : mv_Sh} {R : mv_R} {p : Nat} (h : ly_Tok sh R p) : sh p = (4, 6) := h.1
theorem ly_Tok.f0 {sh : mv_Sh} {R : mv_R} {p : Nat} (h : ly_Tok sh R p) : R p 0 = some (p + 1) := h.2.1
theorem ly_Tok.g0 {sh : mv_Sh} {R : mv_R} {p : Nat} (h : ly_Tok sh R p) : sh (p + 1) = (7, 120) := h.2.2
def ly_Mod (sh : mv_Sh) (R : mv_R) (p : Nat) : Prop := sh p = (6, 34) ∧ (R p 1 = some (p + 1) ∧ sh (p + 1) = (7, 120)) ∧ (R p 9 = some (p + 2) ∧ sh (p + 2) = (7, 8)) ∧ (R p 10 = some (p + 3) ∧ sh (p + 3) = (7, 8)) ∧ (R p 11 = some (p + 4) ∧ sh (p + 4) = (7, 96)) ∧ (R p 12 = some (p + 5) ∧ sh (p + 5) = (7, 8)) ∧ (R p 13 = some (p + 6) ∧ sh (p + 6) = (7, 8)) ∧ (R p 14 = some (p + 7) ∧ sh (p + 7) = (7, 8)) ∧ (R p 17 = some (p + 8) ∧ sh (p + 8) = (7, 8)) ∧ (R p 18 = some (p + 9) ∧ sh (p + 9) = (7, 8)) ∧ (R p 19 = some (p + 10) ∧ sh (p + 10) = (7, 96)) ∧ (R p 20 = some (p + 11) ∧ sh (p + 11) = (7, 8)) ∧ (R p 21 = some (p + 12) ∧ sh (p + 12) = (7, 8)) ∧ (R p 22 = some (p + 13) ∧ sh (p + 13) = (7, 8)) ∧ (R p 23 = some (p + 14) ∧ sh (p + 14) = (7, 326)) ∧ (R p 24 = some (p + 15) ∧ sh (p + 15) = (7, 326)) ∧ (R p 27 = some (p + 16) ∧ sh (p + 16) = (7, 3912)) ∧ (R p 29 = some (p + 17) ∧ sh (p + 17) = (7, 6)) ∧ (R p 30 = some (p + 18) ∧ sh (p + 18) = (7, 6)) ∧ (R p 31 = some (p + 19) ∧ sh (p + 19) = (7, 6)) ∧ (R p 32 = some (p + 20) ∧ sh (p + 20) = (8, 2)) ∧ (R p 33 = some (p + 21) ∧ sh (p + 21) = (7, 652))
theorem ly_Mod.o {sh : mv_Sh} {R : mv_R} {p : Nat} (h : ly_Mod sh R p) : sh p = (6, 34) := h.1
theorem ly_Mod.f1 {sh : mv_Sh} {R : mv_R} {p : Nat} (h : ly_Mod sh R p) : R p 1 = some (p + 1) := h.2.1.1
theorem ly_Mod.g1 {sh : mv_Sh} {R : mv_R} {p : Nat} (h : ly_Mod sh R p) : sh (p + 1) = (7, 120) := h.2.1.2
theorem ly_Mod.f9 {sh : mv_Sh} {R : mv_R} {p : Nat} (h : ly_Mod sh R p) : R p 9 = some (p + 2) := h.2.2.1.1
theorem ly_Mod.g9 {sh : mv_Sh} {R : mv_R} {p : Nat} (h : ly_Mod sh R p) : sh (p + 2) = (7, 8) := h.2.2.1.2
theorem ly_Mod.f10 {sh : mv_Sh} {R : mv_R} {p : Nat} (h : ly_Mod sh R p) : R p 10 = some (p + 3) := h.2.2.2.1.1
theorem ly_Mod.g10 {sh : mv_Sh} {R : mv_R} {p : Nat} (h : ly_Mod sh R p) : sh (p + 3) = (7, 8) := h.2.2.2.1.2
theorem ly_Mod.f11 {sh : mv_Sh} {R : mv_R} {p : Nat} (h : ly_Mod sh R p) : R p 11 = some (p + 4) := h.2.2.2.2.1.1
theorem ly_Mod.g11 {sh : mv_Sh} {R : mv_R} {p : Nat} (h : ly_Mod sh R p) : sh (p + 4) = (7, 96) := h.2.2.2.2.1.2
theorem ly_Mod.f12 {sh : mv_Sh} {R : mv_R} {p : Nat} (h : ly_Mod sh R p) : R p 12 = some (p + 5) := h.2.2.2.2.2.1.1
theorem ly_Mod.g12 {sh : mv_Sh} {R : mv_R} {p : Nat} (h : ly_Mod sh R p) : sh (p + 5) = (7, 8) := h.2.2.2.2.2.1.2
theorem ly_Mod.f13 {sh : mv_Sh} {R : mv_R} {p : Nat} (h : ly_Mod sh R p) : R p 13 = some (p + 6) := h.2.2.2.2.2.2.1.1
theorem ly_Mod.g13 {sh : mv_Sh} {R : mv_R} {p : Nat} (h : ly_Mod sh R p) : sh (p + 6) = (7, 8) := h.2.2.2.2.2.2.1.2
theorem ly_Mod.f14 {sh : mv_Sh} {R : mv_R} {p : Nat} (h : ly_Mod sh R p) : R p 14 = some (p + 7) := h.2.2.2.2.2.2.2.1.1
theorem ly_Mod.g14 {sh : mv_Sh} {R : mv_R} {p : Nat} (h : ly_Mod sh R p) : sh (p + 7) = (7, 8) := h.2.2.2.2.2.2.2.1.2
theorem ly_Mod.f17 {sh : mv_Sh} {R : mv_R} {p : Nat} (h : ly_Mod sh R p) : R p 17 = some (p + 8) := h.2.2.2.2.2.2.2.2.1.1
theorem ly_Mod.g17 {sh : mv_Sh} {R : mv_R} {p : Nat} (h : ly_Mod sh R p) : sh (p + 8) = (7, 8) := h.2.2.2.2.2.2.2.2.1.2
theorem ly_Mod.f18 {sh : mv_Sh} {R : mv_R} {p : Nat} (h : ly_Mod sh R p) : R p 18 = some (p + 9) := h.2.2.2.2.2.2.2.2.2.1.1
theorem ly_Mod.g18 {sh : mv_Sh} {R : mv_R} {p : Nat} (h : ly_Mod sh R p) : sh (p + 9) = (7, 8) := h.2.2.2.2.2.2.2.2.2.1.2
theorem ly_Mod.f19 {sh : mv_Sh} {R : mv_R} {p : Nat} (h : ly_Mod sh R p) : R p 19 = some (p + 10) := h.2.2.2.2.2.2.2.2.2.2.1.1
theorem ly_Mod.g19 {sh : mv_Sh} {R : mv_R} {p : Nat} (h : ly_Mod sh R p) : sh (p + 10) = (7, 96) := h.2.2.2.2.2.2.2.2.2.2.1.2
theorem ly_Mod.f20 {sh : mv_Sh} {R : mv_R} {p : Nat} (h : ly_Mod sh R p) : R p 20 = some (p + 11) := h.2.2.2.2.2.2.2.2.2.2.2.1.1
theorem ly_Mod.g20 {sh : mv_Sh} {R : mv_R} {p : Nat} (h : ly_Mod sh R p) : sh (p + 11) = (7, 8) := h.2.2.2.2.2.2.2.2.2.2.2.1.2
theorem ly_Mod.f21 {sh : mv_Sh} {R : mv_R} {p : Nat} (h : ly_Mod sh R p) : R p 21 = some (p + 12) := h.2.2.2.2.2.2.2.2.2.2.2.2.1.1
theorem ly_Mod.g21 {sh : mv_Sh} {R : mv_R} {p : Nat} (h : ly_Mod sh R p) : sh (p + 12) = (7, 8) := h.2.2.2.2.2.2.2.2.2.2.2.2.1.2
theorem ly_Mod.f22 {sh : mv_Sh} {R : mv_R} {p : Nat} (h : ly_Mod sh R p) : R p 22 = some (p + 13) := h.2.2.2.2.2.2.2.2.2.2.2.2.2.1.1
theorem ly_Mod.g22 {sh : mv_Sh} {R : mv_R} {p : Nat} (h : ly_Mod sh R p) : sh (p + 13) = (7, 8) := h.2.2.2.2.2.2.2.2.2.2.2.2.2.1.2
theorem ly_Mod.f23 {sh : mv_Sh} {R : mv_R} {p : Nat} (h : ly_Mod sh R p) : R p 23 = some (p + 14) := h.2.2.2.2.2.2.2.2.2.2.2.2.2.2.1.1
theorem ly_Mod.g23 {sh : mv_Sh} {R : mv_R} {p : Nat} (h : ly_Mod sh R p) : sh (p + 14) = (7, 326) := h.2.2.2.2.2.2.2.2.2.2.2.2.2.2.1.2
theorem ly_Mod.f24 {sh : mv_Sh} {R : mv_R} {p : Nat} (h : ly_Mod sh R p) : R p 24 = some (p + 15) := h.2.2.2.2.2.2.2.2.2.2.2.2.2.2.2.1.1
theorem ly_Mod.g24 {sh : mv_Sh} {R : mv_R} {p : Nat} (h : ly_Mod sh R p) : sh (p + 15) = (7, 326) := h.2.2.2.2.2.2.2.2.2.2.2.2.2.2.2.1.2
theorem ly_Mod.f27 {sh : mv_Sh} {R : mv_R} {p : Nat} (h : ly_Mod sh R p) : R p 27 = some (p + 16) := h.2.2.2.2.2.2.2.2.2.2.2.2.2.2.2.2.1.1
theorem ly_Mod.g27 {sh : mv_Sh} {R : mv_R} {p : Nat} (h : ly_Mod sh R p) : sh (p + 16) = (7, 3912) := h.2.2.2.2.2.2.2.2.2.2.2.2.2.2.2.2.1.2
theorem ly_Mod.f29 {sh : mv_Sh} {R : mv_R} {p : Nat} (h : ly_Mod sh R p) : R p 29 = some (p + 17) := h.2.2.2.2.2.2.2.2.2.2.2.2.2.2.2.2.2.1.1
theorem ly_Mod.g29 {sh : mv_Sh} {R : mv_R} {p : Nat} (h : ly_Mod sh R p) : sh (p + 17) = (7, 6) := h.2.2.2.2.2.2.2.2.2.2.2.2.2.2.2.2.2.1.2
theorem ly_Mod.f30 {sh : mv_Sh} {R : mv_R} {p : Nat} (h : ly_Mod sh R p) : R p 30 = some (p + 18) := h.2.2.2.2.2.2.2.2.2.2.2.2.2.2.2.2.2.2.1.1
theorem ly_Mod.g30 {sh : mv_Sh} {R : mv_R} {p : Nat} (h : ly_Mod sh R p) : sh (p + 18) = (7, 6) := h.2.2.2.2.2.2.2.2.2.2.2.2.2.2.2.2.2.2.1.2
theorem ly_Mod.f31 {sh : mv_Sh} {R : mv_R} {p : Nat} (h : ly_Mod sh R p) : R p 31 = some (p + 19) := h.2.2.2.2.2.2.2.2.2.2.2.2.2.2.2.2.2.2.2.1.1
theorem ly_Mod.g31 {sh : mv_Sh} {R : mv_R} {p : Nat} (h : ly_Mod sh R p) : sh (p + 19) = (7, 6) := h.2.2.2.2.2.2.2.2.2.2.2.2.2.2.2.2.2.2.2.1.2
theorem ly_Mod.f32 {sh : mv_Sh} {R : mv_R} {p : Nat} (h : ly_Mod sh R p) : R p 32 = some (p + 20) := h.2.2.2.2.2.2.2.2.2.2.2.2.2.2.2.2.2.2.2.2.1.1
theorem ly_Mod.g32 {sh : mv_Sh} {R : mv_R} {p : Nat} (h : ly_Mod sh R p) : sh (p + 20) = (8, 2) := h.2.2.2.2.2.2.2.2.2.2.2.2.2.2.2.2.2.2.2.2.1.2
theorem ly_Mod.f33 {sh : mv_Sh} {R : mv_R} {p : Nat} (h : ly_Mod sh R p) : R p 33 = some (p + 21) := h.2.2.2.2.2.2.2.2.2.2.2.2.2.2.2.2.2.2.2.2.2.1
theorem ly_Mod.g33 {sh : mv_Sh} {R : mv_R} {p : Nat} (h : ly_Mod sh R p) : sh (p + 21) = (7, 652) := h.2.2.2.2.2.2.2.2.2.2.2.2.2.2.2.2.2.2.2.2.2.2
end
section
/-! The tasks as numbers: x t k of task t (k as the reference lays a row: 0 how, 1 out, 2 behind, 3 worked, 4 due, 5 asked, 6 cleaned, 7 begun, 8 end, 9 many, 10 on codes); x 8 0 the tick, x 8 1 how long the trace is, x (9 + j) its lines -/
abbrev xs_X : Type := Nat → Nat → Int32
theorem mv_upe {α : Type} {I : Nat → Nat → α} {a k : Nat} {v : α} : mv_up I a k v a k = v := by simp [mv_up]
def xs_tr (x : xs_X) (t : Nat) (w : Int32) : xs_X :=
  if x 8 1 < 60 then mv_up (mv_up (mv_up (mv_up x (9 + (x 8 1).toNatClampNeg) 0 (x 8 0)) (9 + (x 8 1).toNatClampNeg) 1 (nI t)) (9 + (x 8 1).toNatClampNeg) 2 w) 8 1 (x 8 1 + 1) else x
def xs_cd (x : xs_X) (t : Nat) (c : Int32) : xs_X :=
  if x t 9 < 8 then mv_up (mv_up x t (10 + (x t 9).toNatClampNeg) c) t 9 (x t 9 + 1) else x
def xs_ask (n : Nat) (π x : xs_X) (t : Nat) : xs_X := fun u k => if k = 5 ∧ 1 ≤ u ∧ u < n ∧ π u 0 = nI t ∧ x u 0 = 1 then 1 else x u k
def xs_cl (n : Nat) (π x : xs_X) (t : Nat) (o : Int32) : xs_X :=
  xs_tr (if ¬ o = 0 ∨ 0 < x t 9 then xs_ask n π (mv_up (mv_up x t 0 2) t 1 (if o = 0 ∧ 0 < x t 9 then 1 else o)) t else mv_up (mv_up x t 0 2) t 1 (if o = 0 ∧ 0 < x t 9 then 1 else o)) t 1
def xs_due (π x : xs_X) (t u : Nat) : Int32 := if (if π t 2 = 99 then 9999 else x 8 0 + π t 2) < x u 4 then (if π t 2 = 99 then 9999 else x 8 0 + π t 2) else x u 4
def xs_bg (π x : xs_X) (t u : Nat) : xs_X := xs_tr (mv_up (mv_up (mv_up x t 0 1) t 4 (xs_due π x t u)) t 7 (x 8 0)) t 0
/-- the lowest child that is unbegun -/
def xs_fc (n : Nat) (π x : xs_X) (t : Nat) : Option Nat := (List.range n).find? fun u => decide (1 ≤ u ∧ π u 0 = nI t ∧ x u 0 = 0)
theorem xs_fc_some {n : Nat} {π x : xs_X} {t c : Nat} (hc : c < n) (h : 1 ≤ c ∧ π c 0 = nI t ∧ x c 0 = 0) (hl : ∀ u, u < c → ¬ (1 ≤ u ∧ π u 0 = nI t ∧ x u 0 = 0)) : xs_fc n π x t = some c := by
  unfold xs_fc
  rw [List.find?_range_eq_some]
  refine ⟨by simpa using h, by simpa using hc, fun j hj => ?_⟩
  have := hl j hj
  rw [Bool.not_eq_true', decide_eq_false_iff_not]
  exact this
theorem xs_fc_none {n : Nat} {π x : xs_X} {t : Nat} (hl : ∀ u, u < n → ¬ (1 ≤ u ∧ π u 0 = nI t ∧ x u 0 = 0)) : xs_fc n π x t = none := by
  unfold xs_fc
  rw [List.find?_eq_none]
  intro u hu
  have := hl u (List.mem_range.mp hu)
  rw [decide_eq_true_iff]
  exact this
/-- the set of busy children below c -/
def xs_bs (π x : xs_X) (t : Nat) : Nat → Int32
  | 0 => 0
  | c + 1 => if 1 ≤ c ∧ π c 0 = nI t ∧ (x c 0 = 1 ∨ x c 0 = 2) then xs_bs π x t c ||| (1 <<< (nI c &&& 31)) else xs_bs π x t c
def xs_bc (n : Nat) (π x : xs_X) (t : Nat) : xs_X := match xs_fc n π x t with
  | some c => xs_bg π x c t
  | none => x
def xs_busy (n : Nat) (π x : xs_X) (t : Nat) : Bool := (List.range n).any fun u => decide (1 ≤ u ∧ π u 0 = nI t ∧ (x u 0 = 1 ∨ x u 0 = 2))
theorem xs_busy_iff {n : Nat} {π x : xs_X} {t : Nat} : xs_busy n π x t = true ↔ ∃ u, u < n ∧ 1 ≤ u ∧ π u 0 = nI t ∧ (x u 0 = 1 ∨ x u 0 = 2) := by
  simp [xs_busy, List.any_eq_true]
def xs_beh (x : xs_X) (t : Nat) : xs_X := mv_up x t 2 (x t 2 + 1)
def xs_wk (n : Nat) (π x : xs_X) (t : Nat) : xs_X :=
  if π t (6 + 2 * (x t 2).toNatClampNeg) = 119 then
    (if x t 3 + 1 = π t (7 + 2 * (x t 2).toNatClampNeg) then xs_beh (mv_up x t 3 0) t else mv_up x t 3 (x t 3 + 1))
  else if π t (6 + 2 * (x t 2).toNatClampNeg) = 98 then xs_bc n π (xs_beh x t) t
  else if π t (6 + 2 * (x t 2).toNatClampNeg) = 106 then (if xs_busy n π x t = true then x else xs_beh x t)
  else if π t (6 + 2 * (x t 2).toNatClampNeg) = 120 then xs_ask n π (xs_beh x t) t
  else xs_cl n π (xs_cd x t (π t (7 + 2 * (x t 2).toNatClampNeg))) t 1
def xs_mo (n : Nat) (π x : xs_X) (t : Nat) : xs_X :=
  if x t 5 = 1 ∧ π t 3 ≤ x t 2 then xs_cl n π x t 2 else if x t 2 = π t 1 then xs_cl n π x t 0 else xs_wk n π x t
/-- k codes of t's list come to u's -/
def xs_gl (x : xs_X) (t u : Nat) : Nat → xs_X
  | 0 => x
  | k + 1 => xs_cd (xs_gl x t u k) u (x t (10 + k))
def xs_tf (n : Nat) (π x : xs_X) (u : Nat) : xs_X :=
  if x u 0 = 1 ∧ π u 5 = 0 then xs_cl n π x u 1 else if x u 0 = 2 ∧ x u 1 = 0 then xs_ask n π (mv_up x u 1 1) u else x
def xs_en (n : Nat) (π x : xs_X) (t : Nat) : xs_X :=
  if 0 < t ∧ (x t 1 = 1 ∨ x t 1 = 3) then xs_tf n π (xs_gl (xs_tr (mv_up (mv_up x t 0 3) t 8 (x 8 0)) t 2) t (π t 0).toNatClampNeg (x t 9).toNatClampNeg) (π t 0).toNatClampNeg
  else xs_tr (mv_up (mv_up x t 0 3) t 8 (x 8 0)) t 2
def xs_cc (π x : xs_X) (t : Nat) : xs_X := if x t 6 < π t 4 then mv_up x t 6 (x t 6 + 1) else x
def xs_cu (n : Nat) (π x : xs_X) (t : Nat) : xs_X := if (xs_cc π x t) t 6 = π t 4 then xs_en n π (xs_cc π x t) t else xs_cc π x t
def xs_p1 (n : Nat) (π x : xs_X) (t : Nat) : xs_X := if x t 0 = 1 ∧ x t 4 < x 8 0 then xs_cl n π (xs_cd x t 10) t 3 else x
def xs_p2 (n : Nat) (π x : xs_X) (t : Nat) : xs_X := if x t 0 = 1 ∧ (t = 0 ∨ x t 7 < x 8 0) then xs_mo n π x t else x
def xs_p3 (n : Nat) (π x : xs_X) (t : Nat) : xs_X := if x t 0 = 2 ∧ ¬ xs_busy n π x t = true then xs_cu n π x t else x
def xs_u (f : xs_X → Nat → xs_X) (x : xs_X) : Nat → xs_X
  | 0 => x
  | k + 1 => f (xs_u f x k) k
def xs_d (f : xs_X → Nat → xs_X) : Nat → xs_X → xs_X
  | 0, x => x
  | k + 1, x => xs_d f k (f x k)
def xs_tk (n : Nat) (π x : xs_X) : xs_X := xs_d (xs_p3 n π) n (xs_u (xs_p2 n π) (xs_u (xs_p1 n π) (mv_up x 8 0 (x 8 0 + 1)) n) n)
/-! what always holds of them -/
def xs_T (π r : Nat → Int32) : Prop :=
  (∃ h, h ≤ 3 ∧ r 0 = nI h ∧ (h = 0 ↔ r 4 = 0) ∧ (h = 3 ↔ r 8 ≠ -9)) ∧
  (∃ c, c ≤ 8 ∧ r 9 = nI c) ∧
  (∃ b s, b ≤ s ∧ s ≤ 6 ∧ π 1 = nI s ∧ r 2 = nI b ∧ (r 3 = 0 ∨ (b < s ∧ π (6 + 2 * b) = 119 ∧ ∃ w k, w < k ∧ k ≤ 9 ∧ r 3 = nI w ∧ π (7 + 2 * b) = nI k))) ∧
  (r 5 = 0 ∨ r 5 = 1) ∧
  (∃ c k, c ≤ k ∧ k ≤ 5 ∧ r 6 = nI c ∧ π 4 = nI k) ∧
  (r 4 = 9999 ∨ ∃ d, d < 9999 ∧ r 4 = nI d) ∧
  (r 8 = -9 ∨ ∃ e, e < 9999 ∧ r 8 = nI e) ∧
  (∃ b, b < 9999 ∧ r 7 = nI b)
def xs_W (n : Nat) (π x : xs_X) : Prop := (∃ τ, τ ≤ 2000 ∧ x 8 0 = nI τ) ∧ (∃ e, e ≤ 60 ∧ x 8 1 = nI e) ∧ x 0 7 = 0 ∧ ∀ t, t < n → xs_T (π t) (x t)
/-- a plan as it may be: π t: 0 parent, 1 size, 2 deadline, 3 shield, 4 clean-up, 5 gathers, 6 + 2 j an operation, 7 + 2 j its number -/
def pl_W (n : Nat) (π : xs_X) : Prop := 1 ≤ n ∧ n ≤ 8 ∧ π 0 0 = -9 ∧ ∀ t, t < n → (0 < t → ∃ u, u < t ∧ π t 0 = nI u) ∧ (∃ s, s ≤ 6 ∧ π t 1 = nI s ∧ ∀ j, j < s → ((π t (6 + 2 * j) = 119 ∨ π t (6 + 2 * j) = 102) ∧ ∃ k, 1 ≤ k ∧ k ≤ 9 ∧ π t (7 + 2 * j) = nI k) ∨ π t (6 + 2 * j) = 98 ∨ π t (6 + 2 * j) = 106 ∨ π t (6 + 2 * j) = 120) ∧
  (π t 2 = 99 ∨ ∃ d, 1 ≤ d ∧ d ≤ 60 ∧ π t 2 = nI d) ∧ (∃ k, k ≤ 6 ∧ π t 3 = nI k) ∧ (∃ k, k ≤ 5 ∧ π t 4 = nI k) ∧ (π t 5 = 0 ∨ π t 5 = 1)
def pl_C (I : mv_I) (q n : Nat) (π : xs_X) : Prop := I q 0 = nI n ∧ ∀ t, t < n → I (q + 1) t = π t 0 ∧ I (q + 2) t = π t 1 ∧ I (q + 5) t = π t 2 ∧ I (q + 6) t = π t 3 ∧ I (q + 7) t = π t 4 ∧ I (q + 8) t = π t 5 ∧ ∀ j, j < (π t 1).toNatClampNeg → I (q + 3) (6 * t + j) = π t (6 + 2 * j) ∧ I (q + 4) (6 * t + j) = π t (7 + 2 * j)
/-! the class's own Run holds them -/
def xs_off (k : Nat) : Nat := match k with
  | 0 => 1 | 1 => 2 | 2 => 6 | 3 => 7 | 5 => 9 | 6 => 8 | 7 => 3 | 9 => 10 | _ => 0
theorem xs_off_10 {k : Nat} (h : 10 ≤ k) : xs_off k = 0 := by
  unfold xs_off
  split <;> first | omega | rfl
theorem xs_off_inj {k j : Nat} (h : xs_off k ≠ 0) (e : xs_off j = xs_off k) : j = k := by
  have hk : k < 10 := Nat.not_le.mp fun q => h (xs_off_10 q)
  have hj : j < 10 := Nat.not_le.mp fun q => h (e.symm.trans (xs_off_10 q))
  exact (by decide : ∀ k, k < 10 → ∀ j, j < 10 → xs_off k ≠ 0 → xs_off j = xs_off k → j = k) k hk j hj h e
theorem xs_off_ne {k : Nat} : xs_off k ≠ 4 ∧ xs_off k ≠ 5 ∧ xs_off k ≤ 10 := by
  unfold xs_off
  split <;> decide
def xs_endr (c m : Int32) : Prop := m = -9 ∨ c = m
def xs_duer (c m : Int32) : Prop := (c = 1000000 ∧ (m = 9999 ∨ m = 0)) ∨ (c = m ∧ 0 < m ∧ m < 9999)
def rc_R (I : mv_I) (p n : Nat) (x : xs_X) : Prop :=
  (I p 1 = x 8 0 ∧ I p 13 = x 8 1) ∧
  (∀ t, t < n → (∀ k, xs_off k ≠ 0 → I (p + xs_off k) t = x t k) ∧ xs_endr (I (p + 4) t) (x t 8) ∧ xs_duer (I (p + 5) t) (x t 4) ∧ ∀ j, j < (x t 9).toNatClampNeg → j < 8 → I (p + 11) (8 * t + j) = x t (10 + j)) ∧
  ∀ j, j < (x 8 1).toNatClampNeg → j < 60 → I (p + 12) j = x (9 + j) 0 ∧ I (p + 13) j = x (9 + j) 1 ∧ I (p + 14) j = x (9 + j) 2
def rc_Fr (p : Nat) (I I' : mv_I) : Prop := ∀ b, (b < p ∨ p + 15 ≤ b) → I' b = I b
theorem rc_Fr.rf {p : Nat} {I : mv_I} : rc_Fr p I I := fun _ _ => rfl
theorem rc_Fr.tr {p : Nat} {I I1 I2 : mv_I} (h : rc_Fr p I I1) (h2 : rc_Fr p I1 I2) : rc_Fr p I I2 := fun b hb => (h2 b hb).trans (h b hb)
theorem rc_Fr.up {p a k : Nat} {I I1 : mv_I} {v : Int32} (h : rc_Fr p I I1) (ha : p ≤ a ∧ a < p + 15) : rc_Fr p I (mv_up I1 a k v) := fun b hb => by
  rw [mv_upN b (by omega)]
  exact h b hb
section RC
variable {I : mv_I} {p n t : Nat} {x : xs_X} {v : Int32}
theorem rc_set (k : Nat) (h : rc_R I p n x) (hk : xs_off k ≠ 0) (h9 : k ≠ 9) (ht : t < n) (hn : n ≤ 8) : rc_R (mv_up I (p + xs_off k) t v) p n (mv_up x t k v) := by
  obtain ⟨⟨h1, h2⟩, h3, h4⟩ := h
  have ho := @xs_off_ne k
  have e1 : mv_up x t k v 8 1 = x 8 1 := by rw [mv_upN 8 (by omega)]
  refine ⟨⟨?_, ?_⟩, fun u hu => ⟨fun j hj => ?_, ?_, ?_, fun j hj hj8 => ?_⟩, fun j hj hj6 => ?_⟩
  · rw [mv_upN p (by omega), mv_upN 8 (by omega)]; exact h1
  · rw [mv_upN p (by omega), e1]; exact h2
  · by_cases hjk : j = k
    · subst hjk
      by_cases hut : u = t
      · subst hut; rw [mv_upe, mv_upe]
      · simp only [mv_up, hut, and_false, false_and, if_false]; exact (h3 u hu).1 j hj
    · have : p + xs_off j ≠ p + xs_off k := fun e => hjk (xs_off_inj hk (by omega))
      rw [mv_upN _ this]
      simp only [mv_up, hjk, and_false, if_false]
      exact (h3 u hu).1 j hj
  · rw [mv_upN _ (by omega)]
    have : ¬ (8 : Nat) = k := fun e => by subst e; exact hk rfl
    simp only [mv_up, this, and_false, if_false]
    exact (h3 u hu).2.1
  · rw [mv_upN _ (by omega)]
    have : ¬ (4 : Nat) = k := fun e => by subst e; exact hk rfl
    simp only [mv_up, this, and_false, if_false]
    exact (h3 u hu).2.2.1
  · rw [mv_upN _ (by omega)]
    have h10 : ¬ 10 + j = k := fun e => hk (xs_off_10 (by omega))
    simp only [mv_up, h10, Ne.symm h9, and_false, if_false] at hj ⊢
    exact (h3 u hu).2.2.2 j hj hj8
  · rw [e1] at hj
    rw [mv_upN (p + 12) (by omega), mv_upN (p + 13) (by omega), mv_upN (p + 14) (by omega), mv_upN (9 + j) (by omega)]
    exact h4 j hj hj6
theorem rc_due {c : Int32} (h : rc_R I p n x) (hd : xs_duer c v) (ht : t < n) (hn : n ≤ 8) : rc_R (mv_up I (p + 5) t c) p n (mv_up x t 4 v) := by
  obtain ⟨⟨h1, h2⟩, h3, h4⟩ := h
  have e1 : mv_up x t 4 v 8 1 = x 8 1 := by rw [mv_upN 8 (by omega)]
  refine ⟨⟨?_, ?_⟩, fun u hu => ⟨fun j hj => ?_, ?_, ?_, fun j hj hj8 => ?_⟩, fun j hj hj6 => ?_⟩
  · rw [mv_upN p (by omega), mv_upN 8 (by omega)]; exact h1
  · rw [mv_upN p (by omega), e1]; exact h2
  · have := @xs_off_ne j
    have h4j : ¬ j = 4 := fun e => by subst e; exact hj rfl
    rw [mv_upN _ (by omega)]
    simp only [mv_up, h4j, and_false, if_false]
    exact (h3 u hu).1 j hj
  · rw [mv_upN _ (by omega)]
    simp only [mv_up, Nat.reduceEqDiff, and_false, if_false]
    exact (h3 u hu).2.1
  · by_cases hut : u = t
    · subst hut; rw [mv_upe, mv_upe]; exact hd
    · simp only [mv_up, hut, and_false, false_and, if_false]; exact (h3 u hu).2.2.1
  · rw [mv_upN _ (by omega)]
    simp only [mv_up, Nat.reduceEqDiff, show ¬ 10 + j = 4 by omega, and_false, if_false] at hj ⊢
    exact (h3 u hu).2.2.2 j hj hj8
  · rw [e1] at hj
    rw [mv_upN (p + 12) (by omega), mv_upN (p + 13) (by omega), mv_upN (p + 14) (by omega), mv_upN (9 + j) (by omega)]
    exact h4 j hj hj6
theorem rc_end {c : Int32} (h : rc_R I p n x) (hd : xs_endr c v) (ht : t < n) (hn : n ≤ 8) : rc_R (mv_up I (p + 4) t c) p n (mv_up x t 8 v) := by
  obtain ⟨⟨h1, h2⟩, h3, h4⟩ := h
  have e1 : mv_up x t 8 v 8 1 = x 8 1 := by rw [mv_upN 8 (by omega)]
  refine ⟨⟨?_, ?_⟩, fun u hu => ⟨fun j hj => ?_, ?_, ?_, fun j hj hj8 => ?_⟩, fun j hj hj6 => ?_⟩
  · rw [mv_upN p (by omega), mv_upN 8 (by omega)]; exact h1
  · rw [mv_upN p (by omega), e1]; exact h2
  · have := @xs_off_ne j
    have h4j : ¬ j = 8 := fun e => by subst e; exact hj rfl
    rw [mv_upN _ (by omega)]
    simp only [mv_up, h4j, and_false, if_false]
    exact (h3 u hu).1 j hj
  · by_cases hut : u = t
    · subst hut; rw [mv_upe, mv_upe]; exact hd
    · simp only [mv_up, hut, and_false, false_and, if_false]; exact (h3 u hu).2.1
  · rw [mv_upN _ (by omega)]
    simp only [mv_up, Nat.reduceEqDiff, and_false, if_false]
    exact (h3 u hu).2.2.1
  · rw [mv_upN _ (by omega)]
    simp only [mv_up, Nat.reduceEqDiff, show ¬ 10 + j = 8 by omega, and_false, if_false] at hj ⊢
    exact (h3 u hu).2.2.2 j hj hj8
  · rw [e1] at hj
    rw [mv_upN (p + 12) (by omega), mv_upN (p + 13) (by omega), mv_upN (p + 14) (by omega), mv_upN (9 + j) (by omega)]
    exact h4 j hj hj6
theorem rc_tick (h : rc_R I p n x) (hn : n ≤ 8) : rc_R (mv_up I p 1 v) p n (mv_up x 8 0 v) := by
  obtain ⟨⟨h1, h2⟩, h3, h4⟩ := h
  have e1 : mv_up x 8 0 v 8 1 = x 8 1 := by simp [mv_up]
  have e2 : ∀ u, u ≠ 8 → mv_up x 8 0 v u = x u := fun u hu => mv_upN u hu
  refine ⟨⟨?_, ?_⟩, fun u hu => ?_, fun j hj hj6 => ?_⟩
  · rw [mv_upe, mv_upe]
  · rw [e1, ← h2]; simp [mv_up]
  · rw [e2 u (by omega)]
    have e3 : ∀ o, 1 ≤ o → mv_up I p 1 v (p + o) = I (p + o) := fun o ho => mv_upN _ (by omega)
    refine ⟨fun k hk => ?_, ?_, ?_, ?_⟩
    · rw [e3 _ (by omega)]; exact (h3 u hu).1 k hk
    · rw [e3 4 (by omega)]; exact (h3 u hu).2.1
    · rw [e3 5 (by omega)]; exact (h3 u hu).2.2.1
    · rw [e3 11 (by omega)]; exact (h3 u hu).2.2.2
  · rw [e1] at hj
    rw [mv_upN (p + 12) (by omega), mv_upN (p + 13) (by omega), mv_upN (p + 14) (by omega), mv_upN (9 + j) (by omega)]
    exact h4 j hj hj6
/-- a code is added: the cell of the list, then how many there are -/
theorem rc_cd {c : Nat} (h : rc_R I p n x) (hc : x t 9 = nI c) (hc8 : c < 8) (ht : t < n) (hn : n ≤ 8) : rc_R (mv_up (mv_up I (p + 11) (8 * t + c) v) (p + 10) t (nI c + 1)) p n (xs_cd x t v) := by
  have e0 : xs_cd x t v = mv_up (mv_up x t (10 + c) v) t 9 (nI c + 1) := by
    unfold xs_cd
    rw [hc, if_pos (show nI c < (8 : Int32) from nI_lt hc8 (by decide)), nI_clamp (by omega)]
  rw [e0]
  obtain ⟨⟨h1, h2⟩, h3, h4⟩ := h
  have e2 : ∀ u, u ≠ t → mv_up (mv_up x t (10 + c) v) t 9 (nI c + 1) u = x u := fun u hu => by rw [mv_upN u hu, mv_upN u hu]
  have e3 : ∀ a, a ≠ p + 10 → a ≠ p + 11 → mv_up (mv_up I (p + 11) (8 * t + c) v) (p + 10) t (nI c + 1) a = I a := fun a h1 h2 => by rw [mv_upN a h1, mv_upN a h2]
  refine ⟨⟨?_, ?_⟩, fun u hu => ?_, fun j hj hj6 => ?_⟩
  · rw [e3 p (by omega) (by omega), e2 8 (by omega)]; exact h1
  · rw [e3 p (by omega) (by omega), e2 8 (by omega)]; exact h2
  · by_cases hut : u = t
    · subst hut
      refine ⟨fun k hk => ?_, ?_, ?_, fun j hj hj8 => ?_⟩
      · have := @xs_off_ne k
        by_cases h9 : k = 9
        · subst h9
          show mv_up _ (p + 10) u _ (p + 10) u = _
          rw [mv_upe, mv_upe]
        · have hk10 : xs_off k ≠ 10 := fun e => h9 (xs_off_inj (k := 9) (by decide) e)
          have hk2 : ¬ k = 10 + c := fun e => hk (xs_off_10 (by omega))
          rw [e3 _ (by omega) (by omega)]
          simp only [mv_up, h9, hk2, and_false, if_false]
          exact (h3 u hu).1 k hk
      · rw [e3 _ (by omega) (by omega)]
        simp only [mv_up, Nat.reduceEqDiff, show ¬ 8 = 10 + c by omega, and_false, if_false]
        exact (h3 u hu).2.1
      · rw [e3 _ (by omega) (by omega)]
        simp only [mv_up, Nat.reduceEqDiff, show ¬ 4 = 10 + c by omega, and_false, if_false]
        exact (h3 u hu).2.2.1
      · rw [mv_upe, nI_1, nI_clamp (by omega)] at hj
        rw [mv_upN _ (by omega)]
        by_cases hjc : j = c
        · subst hjc
          rw [mv_upe]
          simp [mv_up]
          omega
        · have a1 : ¬ 8 * u + j = 8 * u + c := by omega
          have a2 : ¬ 10 + j = 10 + c := by omega
          have a3 : ¬ 10 + j = 9 := by omega
          simp only [mv_up, a1, a2, a3, and_false, if_false]
          exact (h3 u hu).2.2.2 j (by rw [hc, nI_clamp (by omega)]; omega) hj8
    · rw [e2 u hut]
      refine ⟨fun k hk => ?_, ?_, ?_, fun j hj hj8 => ?_⟩
      · have := @xs_off_ne k
        have : mv_up (mv_up I (p + 11) (8 * t + c) v) (p + 10) t (nI c + 1) (p + xs_off k) u = I (p + xs_off k) u := by
          have a1 : ¬ xs_off k = 11 := by omega
          simp [mv_up, hut, a1]
        rw [this]
        exact (h3 u hu).1 k hk
      · rw [e3 _ (by omega) (by omega)]; exact (h3 u hu).2.1
      · rw [e3 _ (by omega) (by omega)]; exact (h3 u hu).2.2.1
      · rw [mv_upN _ (by omega)]
        have : ¬ 8 * u + j = 8 * t + c := by omega
        simp only [mv_up, this, and_false, if_false]
        exact (h3 u hu).2.2.2 j hj hj8
  · rw [e2 8 (by omega)] at hj
    rw [e3 _ (by omega) (by omega), e3 _ (by omega) (by omega), e3 _ (by omega) (by omega), e2 (9 + j) (by omega)]
    exact h4 j hj hj6
/-- a line of the trace -/
theorem rc_tr {e : Nat} {w : Int32} (h : rc_R I p n x) (he : x 8 1 = nI e) (he6 : e < 60) (hn : n ≤ 8) : rc_R (mv_up (mv_up (mv_up (mv_up I (p + 12) e (x 8 0)) (p + 13) e (nI t)) (p + 14) e w) p 13 (nI e + 1)) p n (xs_tr x t w) := by
  have e0 : xs_tr x t w = mv_up (mv_up (mv_up (mv_up x (9 + e) 0 (x 8 0)) (9 + e) 1 (nI t)) (9 + e) 2 w) 8 1 (nI e + 1) := by
    unfold xs_tr
    rw [he, if_pos (show nI e < (60 : Int32) from nI_lt he6 (by decide)), nI_clamp (by omega)]
  rw [e0]
  obtain ⟨⟨h1, h2⟩, h3, h4⟩ := h
  have e2 : ∀ u, u ≠ 8 → u ≠ 9 + e → mv_up (mv_up (mv_up (mv_up x (9 + e) 0 (x 8 0)) (9 + e) 1 (nI t)) (9 + e) 2 w) 8 1 (nI e + 1) u = x u := fun u h1 h2 => by rw [mv_upN u h1, mv_upN u h2, mv_upN u h2, mv_upN u h2]
  have e3 : ∀ a, a ≠ p → a ≠ p + 12 → a ≠ p + 13 → a ≠ p + 14 → mv_up (mv_up (mv_up (mv_up I (p + 12) e (x 8 0)) (p + 13) e (nI t)) (p + 14) e w) p 13 (nI e + 1) a = I a := fun a h1 h2 h3 h4 => by rw [mv_upN a h1, mv_upN a h4, mv_upN a h3, mv_upN a h2]
  have h89 : ¬ 8 = 9 + e := by omega
  refine ⟨⟨?_, ?_⟩, fun u hu => ?_, fun j hj hj6 => ?_⟩
  · simp [mv_up, h89, h1]
  · rw [mv_upe, mv_upe]
  · rw [e2 u (by omega) (by omega)]
    refine ⟨fun k hk => ?_, ?_, ?_, ?_⟩
    · have := @xs_off_ne k
      rw [e3 _ (by omega) (by omega) (by omega) (by omega)]; exact (h3 u hu).1 k hk
    · rw [e3 _ (by omega) (by omega) (by omega) (by omega)]; exact (h3 u hu).2.1
    · rw [e3 _ (by omega) (by omega) (by omega) (by omega)]; exact (h3 u hu).2.2.1
    · rw [e3 _ (by omega) (by omega) (by omega) (by omega)]; exact (h3 u hu).2.2.2
  · rw [mv_upe, nI_1, nI_clamp (by omega)] at hj
    by_cases hje : j = e
    · subst hje
      have h98 : ¬ 9 + j = 8 := by omega
      refine ⟨?_, ?_, ?_⟩ <;> simp [mv_up, h98]
    · have := h4 j (by rw [he, nI_clamp (by omega)]; omega) hj6
      rw [e2 (9 + j) (by omega) (by omega)]
      refine ⟨?_, ?_, ?_⟩
      · rw [← this.1]; simp [mv_up, hje]
      · rw [← this.2.1]; simp [mv_up, hje]
      · rw [← this.2.2]; simp [mv_up, hje]
end RC
end
section
theorem nI_mul (a b : Nat) : nI a * nI b = nI (a * b) := (Int32.ofNat_mul a b).symm
theorem mv_ix (a b c : Nat) : nI a * nI b + nI c = nI (b * a + c) := by rw [nI_mul, nI_add, Nat.mul_comm]
def rc_P (sh : mv_Sh) (R : mv_R) (I : mv_I) (p q nt : Nat) (π : xs_X) : Prop := ly_Run sh R p ∧ ly_Plan sh R q ∧ R p 0 = some q ∧ (q + 9 ≤ p ∨ p + 15 ≤ q) ∧ pl_C I q nt π ∧ pl_W nt π
theorem pl_C.eq {I I' : mv_I} {q n : Nat} {π : xs_X} (h : pl_C I q n π) (e : ∀ b, q ≤ b → b < q + 9 → I' b = I b) : pl_C I' q n π := by
  refine ⟨by rw [e q (by omega) (by omega)]; exact h.1, fun t ht => ?_⟩
  rw [e (q + 1) (by omega) (by omega), e (q + 2) (by omega) (by omega), e (q + 3) (by omega) (by omega), e (q + 4) (by omega) (by omega), e (q + 5) (by omega) (by omega), e (q + 6) (by omega) (by omega), e (q + 7) (by omega) (by omega), e (q + 8) (by omega) (by omega)]
  exact h.2 t ht
theorem rc_P.fr {sh : mv_Sh} {R : mv_R} {I I' : mv_I} {p q nt : Nat} {π : xs_X} (h : rc_P sh R I p q nt π) (f : rc_Fr p I I') : rc_P sh R I' p q nt π := by
  obtain ⟨h1, h2, h3, h4, h5, h6⟩ := h
  exact ⟨h1, h2, h3, h4, h5.eq (fun b b1 b2 => f b (by omega)), h6⟩
theorem pl_W.par {n : Nat} {π : xs_X} (h : pl_W n π) {c t : Nat} (hc : c < n) (h0 : 0 < c) (e : π c 0 = nI t) (ht : t < 2 ^ 31) : t < c := by
  obtain ⟨u, hu, hu2⟩ := (h.2.2.2 c hc).1 h0
  have := h.2.1
  have := (nI_eq ht (by omega)).mp (e.symm.trans hu2)
  omega
set_option maxHeartbeats 4000000 in
set_option maxRecDepth 100000 in
theorem e3_note {l : Launch} {D : va_G} {b0 n : Nat} {sh : mv_Sh} {I : mv_I} {R : mv_R} {Q : mv_Q} {p nt t e : Nat} {x : xs_X} {w : Int32} (hp : ly_Run sh R p) (h : rc_R I p nt x) (hn : nt ≤ 8) (he : x 8 1 = nI e) (he6 : e ≤ 60) (hQ : ∀ I', (rc_R I' p nt (xs_tr x t w) ∧ rc_Fr p I I') → Q none n sh I' R) : mv_E l D b0 m3_note (mv_rm 0) Q 0 [.ref p, .int (nI t), .int w] [] 0 0 n sh I R := by
  have h13 : I p 13 = nI e := h.1.2.trans he
  have h1 : I p 1 = x 8 0 := h.1.1
  refine mv_aload_n (pc := 0) dX3_note_0 rfl ?_
  refine mv_getIx (pc := 1) (x := nI e) dX3_note_1 fl3_49 rfl (congrArg Prod.fst hp.o) h13 ?_
  refine mv_bipush (pc := 4) (v := 60) dX3_note_4 (by decide) ?_
  refine mv_icmp_ge (pc := 6) (tgt := 52) dX3_note_6 (by decide) (fun hc => ?_) (fun hc => ?_)
  · have hee : ¬ e < 60 := fun q => nI_ge q (by decide) hc
    refine mv_vret (pc := 52) dX3_note_52 rfl (by decide) (by decide) (hQ I ⟨?_, rc_Fr.rf⟩)
    have : xs_tr x t w = x := by
      unfold xs_tr
      rw [he, if_neg (show ¬ nI e < (60 : Int32) from nI_nlt (b := 60) (by omega) (by omega))]
    rw [this]; exact h
  · have hee : e < 60 := by
      rcases Nat.lt_or_ge e 60 with q | q
      · exact q
      · exact absurd (nI_le q (by omega)) hc
    refine mv_aload_n (pc := 9) dX3_note_9 rfl ?_
    refine mv_getR (pc := 10) (q := p + 12) dX3_note_10 fl3_52 (fun _ _ => rfl) (congrArg Prod.fst hp.o) hp.f14 ?_
    refine mv_aload_n (pc := 13) dX3_note_13 rfl ?_
    refine mv_getIx (pc := 14) (x := nI e) dX3_note_14 fl3_49 rfl (congrArg Prod.fst hp.o) h13 ?_
    refine mv_aload_n (pc := 17) dX3_note_17 rfl ?_
    refine mv_getIx (pc := 18) (x := x 8 0) dX3_note_18 fl3_9 rfl (congrArg Prod.fst hp.o) h1 ?_
    refine mv_iast (pc := 21) (k := e) dX3_note_21 hp.g14 rfl (by omega) ?_
    refine mv_aload_n (pc := 22) dX3_note_22 rfl ?_
    refine mv_getR (pc := 23) (q := p + 13) dX3_note_23 fl3_55 (fun _ _ => rfl) (congrArg Prod.fst hp.o) hp.f15 ?_
    refine mv_aload_n (pc := 26) dX3_note_26 rfl ?_
    refine mv_getIx (pc := 27) (x := nI e) dX3_note_27 fl3_49 rfl (congrArg Prod.fst hp.o) (by simp [mv_up, h13]) ?_
    refine mv_iload_n (pc := 30) dX3_note_30 rfl ?_
    refine mv_iast (pc := 31) (k := e) dX3_note_31 hp.g15 rfl (by omega) ?_
    refine mv_aload_n (pc := 32) dX3_note_32 rfl ?_
    refine mv_getR (pc := 33) (q := p + 14) dX3_note_33 fl3_58 (fun _ _ => rfl) (congrArg Prod.fst hp.o) hp.f16 ?_
    refine mv_aload_n (pc := 36) dX3_note_36 rfl ?_
    refine mv_getIx (pc := 37) (x := nI e) dX3_note_37 fl3_49 rfl (congrArg Prod.fst hp.o) (by simp [mv_up, h13]) ?_
    refine mv_iload_n (pc := 40) dX3_note_40 rfl ?_
    refine mv_iast (pc := 41) (k := e) dX3_note_41 hp.g16 rfl (by omega) ?_
    refine mv_aload_n (pc := 42) dX3_note_42 rfl ?_
    refine mv_dup (pc := 43) dX3_note_43 rfl ?_
    refine mv_getIx (pc := 44) (x := nI e) dX3_note_44 fl3_49 rfl (congrArg Prod.fst hp.o) (by simp [mv_up, h13]) ?_
    refine mv_iconst (pc := 47) (v := 1) dX3_note_47 (by decide) ?_
    refine mv_iadd (pc := 48) dX3_note_48 ?_
    refine mv_putI (pc := 49) dX3_note_49 fl3_49 rfl rfl (congrArg Prod.fst hp.o) ?_
    exact mv_vret (pc := 52) dX3_note_52 rfl (by decide) (by decide) (hQ _ ⟨rc_tr h he hee hn, (((rc_Fr.rf.up (by omega)).up (by omega)).up (by omega)).up (by omega)⟩)
theorem c3_note {l : Launch} {D : va_G} {b0 n : Nat} {sh : mv_Sh} {I : mv_I} {R : mv_R} {p nt t e : Nat} {x : xs_X} {w : Int32} (hp : ly_Run sh R p) (h : rc_R I p nt x) (hn : nt ≤ 8) (he : x 8 1 = nI e) (he6 : e ≤ 60) : mv_C l D b0 m3_note (mv_rm 0) [.ref p, .int (nI t), .int w] n sh I R (mv_Pv n sh R (fun I' => rc_R I' p nt (xs_tr x t w) ∧ rc_Fr p I I')) := mv_C.of 0 (by decide) (by simp [Value.category]) rfl (e3_note hp h hn he he6 (fun _ h => mv_Pv.mk h))
set_option maxHeartbeats 4000000 in
set_option maxRecDepth 100000 in
theorem e3_addCode {l : Launch} {D : va_G} {b0 n : Nat} {sh : mv_Sh} {I : mv_I} {R : mv_R} {Q : mv_Q} {p nt t c : Nat} {x : xs_X} {w : Int32} (hp : ly_Run sh R p) (h : rc_R I p nt x) (hn : nt ≤ 8) (ht : t < nt) (hc : x t 9 = nI c) (hc8 : c ≤ 8) (hQ : ∀ I', (rc_R I' p nt (xs_cd x t w) ∧ rc_Fr p I I') → Q none n sh I' R) : mv_E l D b0 m3_addCode (mv_rm 0) Q 0 [.ref p, .int (nI t), .int w] [] 0 0 n sh I R := by
  have h10 : I (p + 10) t = nI c := ((h.2.1 t ht).1 9 (by decide)).trans hc
  refine mv_aload_n (pc := 0) dX3_addCode_0 rfl ?_
  refine mv_getR (pc := 1) (q := p + 10) dX3_addCode_1 fl3_43 (fun _ _ => rfl) (congrArg Prod.fst hp.o) hp.f11 ?_
  refine mv_iload_n (pc := 4) dX3_addCode_4 rfl ?_
  refine mv_ialdx (pc := 5) (x := nI c) (k := t) dX3_addCode_5 hp.g11 rfl (by omega) h10 ?_
  refine mv_bipush (pc := 6) (v := 8) dX3_addCode_6 (by decide) ?_
  refine mv_icmp_ge (pc := 8) (tgt := 38) dX3_addCode_8 (by decide) (fun hb => ?_) (fun hb => ?_)
  · have hee : ¬ c < 8 := fun q => nI_ge q (by decide) hb
    refine mv_vret (pc := 38) dX3_addCode_38 rfl (by decide) (by decide) (hQ I ⟨?_, rc_Fr.rf⟩)
    have : xs_cd x t w = x := by
      unfold xs_cd
      rw [hc, if_neg (show ¬ nI c < (8 : Int32) from nI_nlt (b := 8) (by omega) (by omega))]
    rw [this]; exact h
  · have hee : c < 8 := by
      rcases Nat.lt_or_ge c 8 with q | q
      · exact q
      · exact absurd (nI_le q (by omega)) hb
    refine mv_aload_n (pc := 11) dX3_addCode_11 rfl ?_
    refine mv_getR (pc := 12) (q := p + 11) dX3_addCode_12 fl3_46 (fun _ _ => rfl) (congrArg Prod.fst hp.o) hp.f12 ?_
    refine mv_iload_n (pc := 15) dX3_addCode_15 rfl ?_
    refine mv_bipush (pc := 16) (v := 8) dX3_addCode_16 (by decide) ?_
    refine mv_imul (pc := 18) dX3_addCode_18 ?_
    refine mv_aload_n (pc := 19) dX3_addCode_19 rfl ?_
    refine mv_getR (pc := 20) (q := p + 10) dX3_addCode_20 fl3_43 (fun _ _ => rfl) (congrArg Prod.fst hp.o) hp.f11 ?_
    refine mv_iload_n (pc := 23) dX3_addCode_23 rfl ?_
    refine mv_ialdx (pc := 24) (x := nI c) (k := t) dX3_addCode_24 hp.g11 rfl (by omega) h10 ?_
    refine mv_iadd (pc := 25) dX3_addCode_25 ?_
    refine mv_iload_n (pc := 26) dX3_addCode_26 rfl ?_
    refine mv_iast (pc := 27) (k := 8 * t + c) dX3_addCode_27 hp.g12 (mv_ix t 8 c) (by omega) ?_
    refine mv_aload_n (pc := 28) dX3_addCode_28 rfl ?_
    refine mv_getR (pc := 29) (q := p + 10) dX3_addCode_29 fl3_43 (fun _ _ => rfl) (congrArg Prod.fst hp.o) hp.f11 ?_
    refine mv_iload_n (pc := 32) dX3_addCode_32 rfl ?_
    refine mv_dup2 (pc := 33) dX3_addCode_33 rfl rfl ?_
    refine mv_ialdx (pc := 34) (x := nI c) (k := t) dX3_addCode_34 hp.g11 rfl (by omega) (by simp [mv_up, h10]) ?_
    refine mv_iconst (pc := 35) (v := 1) dX3_addCode_35 (by decide) ?_
    refine mv_iadd (pc := 36) dX3_addCode_36 ?_
    refine mv_iast (pc := 37) (k := t) dX3_addCode_37 hp.g11 rfl (by omega) ?_
    exact mv_vret (pc := 38) dX3_addCode_38 rfl (by decide) (by decide) (hQ _ ⟨rc_cd h hc hee ht hn, (rc_Fr.rf.up (by omega)).up (by omega)⟩)
theorem c3_addCode {l : Launch} {D : va_G} {b0 n : Nat} {sh : mv_Sh} {I : mv_I} {R : mv_R} {p nt t c : Nat} {x : xs_X} {w : Int32} (hp : ly_Run sh R p) (h : rc_R I p nt x) (hn : nt ≤ 8) (ht : t < nt) (hc : x t 9 = nI c) (hc8 : c ≤ 8) : mv_C l D b0 m3_addCode (mv_rm 0) [.ref p, .int (nI t), .int w] n sh I R (mv_Pv n sh R (fun I' => rc_R I' p nt (xs_cd x t w) ∧ rc_Fr p I I')) := mv_C.of 0 (by decide) (by simp [Value.category]) rfl (e3_addCode hp h hn ht hc hc8 (fun _ h => mv_Pv.mk h))
theorem xs_ask_lo {nt t c : Nat} {π x : xs_X} (hw : pl_W nt π) (hc : c ≤ t + 1) (hn : c ≤ nt) (ht : t < 2 ^ 31) : xs_ask c π x t = x := by
  funext u k
  unfold xs_ask
  rw [if_neg]
  rintro ⟨-, h1, h2, h3, -⟩
  have := hw.par (by omega) h1 h3 ht
  omega
theorem xs_ask_yes {t c : Nat} {π x : xs_X} (h1 : 1 ≤ c) (h2 : π c 0 = nI t) (h3 : x c 0 = 1) : xs_ask (c + 1) π x t = mv_up (xs_ask c π x t) c 5 1 := by
  funext u k
  unfold xs_ask mv_up
  by_cases hu : u = c
  · subst hu
    by_cases hk : k = 5
    · subst hk; simp [h1, h2, h3]
    · simp [hk]
  · have : (u < c + 1) = (u < c) := by simp; omega
    simp [hu, this]
theorem xs_ask_no {t c : Nat} {π x : xs_X} (h : ¬ (π c 0 = nI t ∧ x c 0 = 1)) : xs_ask (c + 1) π x t = xs_ask c π x t := by
  funext u k
  unfold xs_ask
  by_cases hu : u = c
  · subst hu
    have : ¬ (k = 5 ∧ 1 ≤ u ∧ u < u + 1 ∧ π u 0 = nI t ∧ x u 0 = 1) := fun q => h q.2.2.2
    have h2 : ¬ (k = 5 ∧ 1 ≤ u ∧ u < u ∧ π u 0 = nI t ∧ x u 0 = 1) := fun q => h q.2.2.2
    rw [if_neg this, if_neg h2]
  · have : (u < c + 1) = (u < c) := by simp; omega
    simp only [this]
set_option maxHeartbeats 4000000 in
set_option maxRecDepth 100000 in
theorem e3_askChildren {l : Launch} {D : va_G} {b0 n : Nat} {sh : mv_Sh} {I : mv_I} {R : mv_R} {Q : mv_Q} {p q nt t : Nat} {π x : xs_X} (K : rc_P sh R I p q nt π) (h : rc_R I p nt x) (ht : t < nt) (hQ : ∀ I', (rc_R I' p nt (xs_ask nt π x t) ∧ rc_Fr p I I') → Q none n sh I' R) : mv_E l D b0 m3_askChildren (mv_rm 0) Q 0 [.ref p, .int (nI t), .null] [] 0 0 n sh I R := by
  obtain ⟨hp, hq, hpl, hdj, hpc, hpw⟩ := id K
  have hn := hpw.2.1
  have loop : ∀ (f c : Nat) (J : mv_I), nt < c + f → t < c → c ≤ nt → rc_R J p nt (xs_ask c π x t) → rc_Fr p I J → mv_E l D b0 m3_askChildren (mv_rm 0) Q 4 [.ref p, .int (nI t), .int (nI c)] [] 0 0 n sh J R := by
    intro f
    induction f with
    | zero => intro c J h1 h2 h3; omega
    | succ f ih =>
      intro c J h1 h2 h3 hr hf
      have hpc' := (K.fr hf).2.2.2.2.1
      refine mv_iload_n (pc := 4) dX3_askChildren_4 rfl ?_
      refine mv_aload_n (pc := 5) dX3_askChildren_5 rfl ?_
      refine mv_getR (pc := 6) (q := q) dX3_askChildren_6 fl3_65 (fun _ _ => rfl) (congrArg Prod.fst hp.o) hpl ?_
      refine mv_getIx (pc := 9) (x := nI nt) dX3_askChildren_9 fl3_83 rfl (congrArg Prod.fst hq.o) hpc'.1 ?_
      refine mv_icmp_ge (pc := 12) (tgt := 51) dX3_askChildren_12 (by decide) (fun hb => ?_) (fun hb => ?_)
      · have : c = nt := by
          have := (nI_leI (a := nt) (b := c) (by omega) (by omega)).mp hb
          omega
        subst this
        exact mv_vret (pc := 51) dX3_askChildren_51 rfl (by decide) (by decide) (hQ _ ⟨hr, hf⟩)
      · have hcn : c < nt := by
          rcases Nat.lt_or_ge c nt with q | q
          · exact q
          · exact absurd (nI_le q (by omega)) hb
        have hnext : ∀ J2 : mv_I, rc_R J2 p nt (xs_ask (c + 1) π x t) → rc_Fr p I J2 → mv_E l D b0 m3_askChildren (mv_rm 0) Q 45 [.ref p, .int (nI t), .int (nI c)] [] 0 0 n sh J2 R := by
          intro J2 hr2 hf2
          refine mv_iinc (pc := 45) (v := nI (c + 1)) dX3_askChildren_45 (by decide) rfl (nI_1 c) ?_
          refine mv_goto (pc := 48) (tgt := 4) dX3_askChildren_48 (by decide) ?_
          exact ih (c + 1) J2 (by omega) (by omega) (by omega) hr2 hf2
        have ha : (xs_ask c π x t) c 0 = x c 0 := by simp [xs_ask]
        refine mv_aload_n (pc := 15) dX3_askChildren_15 rfl ?_
        refine mv_getR (pc := 16) (q := q) dX3_askChildren_16 fl3_65 (fun _ _ => rfl) (congrArg Prod.fst hp.o) hpl ?_
        refine mv_getR (pc := 19) (q := q + 1) dX3_askChildren_19 fl3_88 (fun _ _ => rfl) (congrArg Prod.fst hq.o) hq.f1 ?_
        refine mv_iload_n (pc := 22) dX3_askChildren_22 rfl ?_
        refine mv_ialdx (pc := 23) (x := π c 0) (k := c) dX3_askChildren_23 hq.g1 rfl (by omega) (hpc'.2 c hcn).1 ?_
        refine mv_iload_n (pc := 24) dX3_askChildren_24 rfl ?_
        refine mv_icmp_ne (pc := 25) (tgt := 45) dX3_askChildren_25 (by decide) (fun hb2 => ?_) (fun hb2 => ?_)
        · exact hnext J (by rw [xs_ask_no (fun q => hb2 q.1)]; exact hr) hf
        · refine mv_aload_n (pc := 28) dX3_askChildren_28 rfl ?_
          refine mv_getR (pc := 29) (q := p + 1) dX3_askChildren_29 fl3_15 (fun _ _ => rfl) (congrArg Prod.fst hp.o) hp.f2 ?_
          refine mv_iload_n (pc := 32) dX3_askChildren_32 rfl ?_
          refine mv_ialdx (pc := 33) (x := x c 0) (k := c) dX3_askChildren_33 hp.g2 rfl (by omega) (((hr.2.1 c hcn).1 0 (by decide)).trans ha) ?_
          refine mv_iconst (pc := 34) (v := 1) dX3_askChildren_34 (by decide) ?_
          refine mv_icmp_ne (pc := 35) (tgt := 45) dX3_askChildren_35 (by decide) (fun hb3 => ?_) (fun hb3 => ?_)
          · exact hnext J (by rw [xs_ask_no (fun q => hb3 q.2)]; exact hr) hf
          · refine mv_aload_n (pc := 38) dX3_askChildren_38 rfl ?_
            refine mv_getR (pc := 39) (q := p + 9) dX3_askChildren_39 fl3_40 (fun _ _ => rfl) (congrArg Prod.fst hp.o) hp.f10 ?_
            refine mv_iload_n (pc := 42) dX3_askChildren_42 rfl ?_
            refine mv_iconst (pc := 43) (v := 1) dX3_askChildren_43 (by decide) ?_
            refine mv_iast (pc := 44) (k := c) dX3_askChildren_44 hp.g10 rfl (by omega) ?_
            exact hnext _ (by rw [xs_ask_yes (by omega) hb2 hb3]; exact rc_set 5 hr (by decide) (by decide) hcn hn) (hf.up (by omega))
  refine mv_iload_n (pc := 0) dX3_askChildren_0 rfl ?_
  refine mv_iconst (pc := 1) (v := 1) dX3_askChildren_1 (by decide) ?_
  refine mv_iadd (pc := 2) dX3_askChildren_2 ?_
  refine mv_top (y := nI (t + 1)) (nI_1 t) ?_
  refine mv_istore_n (pc := 3) dX3_askChildren_3 (by decide) ?_
  exact loop (nt + 1) (t + 1) I (by omega) (by omega) (by omega) (by rw [xs_ask_lo hpw (by omega) (by omega) (by omega)]; exact h) rc_Fr.rf
theorem c3_askChildren {l : Launch} {D : va_G} {b0 n : Nat} {sh : mv_Sh} {I : mv_I} {R : mv_R} {p q nt t : Nat} {π x : xs_X} (K : rc_P sh R I p q nt π) (h : rc_R I p nt x) (ht : t < nt) : mv_C l D b0 m3_askChildren (mv_rm 0) [.ref p, .int (nI t)] n sh I R (mv_Pv n sh R (fun I' => rc_R I' p nt (xs_ask nt π x t) ∧ rc_Fr p I I')) := mv_C.of 1 (by decide) (by simp [Value.category]) rfl (e3_askChildren K h ht (fun _ h => mv_Pv.mk h))
end
section
theorem xs_bs_lo {nt t : Nat} {π x : xs_X} (hw : pl_W nt π) (ht : t < 2 ^ 31) : ∀ c, c ≤ t + 1 → c ≤ nt → xs_bs π x t c = 0
  | 0, _, _ => rfl
  | c + 1, h1, h2 => by
    have ih := xs_bs_lo hw ht c (by omega) (by omega) (x := x)
    unfold xs_bs
    rw [if_neg, ih]
    rintro ⟨a1, a2, -⟩
    have := hw.par (by omega) a1 a2 ht
    omega
theorem xs_or0 {a b : Int32} (h : a ||| b = 0) : a = 0 ∧ b = 0 := by
  have h1 : a.toBitVec ||| b.toBitVec = 0#32 := by
    have := congrArg Int32.toBitVec h
    rwa [Int32.toBitVec_or] at this
  have h2 := BitVec.or_eq_zero_iff.mp h1
  exact ⟨Int32.toBitVec_inj.mp h2.1, Int32.toBitVec_inj.mp h2.2⟩
theorem xs_sh8 : ∀ c, c < 8 → ¬ ((1 : Int32) <<< (nI c &&& 31) = 0) := by decide +kernel
theorem xs_bs_0 {t : Nat} {π x : xs_X} : ∀ c, c ≤ 8 → (xs_bs π x t c = 0 ↔ ¬ ∃ u, u < c ∧ 1 ≤ u ∧ π u 0 = nI t ∧ (x u 0 = 1 ∨ x u 0 = 2))
  | 0, _ => ⟨fun _ ⟨u, h, _⟩ => by omega, fun _ => rfl⟩
  | c + 1, hc => by
    have ih := xs_bs_0 (t := t) (π := π) (x := x) c (by omega)
    unfold xs_bs
    by_cases h : 1 ≤ c ∧ π c 0 = nI t ∧ (x c 0 = 1 ∨ x c 0 = 2)
    · rw [if_pos h]
      constructor
      · intro q
        exact absurd (xs_or0 q).2 (xs_sh8 c (by omega))
      · intro q
        exact absurd ⟨c, by omega, h⟩ q
    · rw [if_neg h, ih]
      constructor
      · rintro q ⟨u, h1, h2⟩
        by_cases hu : u = c
        · subst hu; exact h h2
        · exact q ⟨u, by omega, h2⟩
      · rintro q ⟨u, h1, h2⟩
        exact q ⟨u, by omega, h2⟩
theorem xs_bs_busy {nt t : Nat} {π x : xs_X} (hn : nt ≤ 8) : xs_bs π x t nt = 0 ↔ ¬ xs_busy nt π x t = true := by
  rw [xs_bs_0 nt hn, xs_busy_iff]
set_option maxHeartbeats 4000000 in
set_option maxRecDepth 100000 in
theorem e3_activeChildren {l : Launch} {D : va_G} {b0 n : Nat} {sh : mv_Sh} {I : mv_I} {R : mv_R} {Q : mv_Q} {p q nt t : Nat} {π x : xs_X} (K : rc_P sh R I p q nt π) (h : rc_R I p nt x) (ht : t < nt) (hQ : ∀ r I', (r = xs_bs π x t nt ∧ I' = I) → Q (some (.int r)) n sh I' R) : mv_E l D b0 m3_activeChildren (mv_rm 0) Q 0 [.ref p, .int (nI t), .null, .null] [] 0 0 n sh I R := by
  obtain ⟨hp, hq, hpl, hdj, hpc, hpw⟩ := id K
  have hn := hpw.2.1
  have loop : ∀ (f c : Nat), nt < c + f → t < c → c ≤ nt → mv_E l D b0 m3_activeChildren (mv_rm 0) Q 6 [.ref p, .int (nI t), .int (xs_bs π x t c), .int (nI c)] [] 0 0 n sh I R := by
    intro f
    induction f with
    | zero => intro c h1 h2 h3; omega
    | succ f ih =>
      intro c h1 h2 h3
      refine mv_iload_n (pc := 6) dX3_activeChildren_6 rfl ?_
      refine mv_aload_n (pc := 7) dX3_activeChildren_7 rfl ?_
      refine mv_getR (pc := 8) (q := q) dX3_activeChildren_8 fl3_65 (fun _ _ => rfl) (congrArg Prod.fst hp.o) hpl ?_
      refine mv_getIx (pc := 11) (x := nI nt) dX3_activeChildren_11 fl3_83 rfl (congrArg Prod.fst hq.o) hpc.1 ?_
      refine mv_icmp_ge (pc := 14) (tgt := 62) dX3_activeChildren_14 (by decide) (fun hb => ?_) (fun hb => ?_)
      · have : c = nt := by
          have := (nI_leI (a := nt) (b := c) (by omega) (by omega)).mp hb
          omega
        subst this
        refine mv_iload_n (pc := 62) dX3_activeChildren_62 rfl ?_
        exact mv_iret (pc := 63) dX3_activeChildren_63 rfl (by decide) (by decide) (hQ _ _ ⟨rfl, rfl⟩)
      · have hcn : c < nt := by
          rcases Nat.lt_or_ge c nt with q | q
          · exact q
          · exact absurd (nI_le q (by omega)) hb
        have hnext : ∀ v, v = xs_bs π x t (c + 1) → mv_E l D b0 m3_activeChildren (mv_rm 0) Q 56 [.ref p, .int (nI t), .int v, .int (nI c)] [] 0 0 n sh I R := by
          intro v hv
          subst hv
          refine mv_iinc (pc := 56) (v := nI (c + 1)) dX3_activeChildren_56 (by decide) rfl (nI_1 c) ?_
          refine mv_goto (pc := 59) (tgt := 6) dX3_activeChildren_59 (by decide) ?_
          exact ih (c + 1) (by omega) (by omega) (by omega)
        have no : ¬ (π c 0 = nI t ∧ (x c 0 = 1 ∨ x c 0 = 2)) → xs_bs π x t c = xs_bs π x t (c + 1) := by
          intro q
          rw [xs_bs, if_neg (fun z => q z.2)]
        have hhow : I (p + 1) c = x c 0 := (h.2.1 c hcn).1 0 (by decide)
        have yes : π c 0 = nI t → (x c 0 = 1 ∨ x c 0 = 2) → mv_E l D b0 m3_activeChildren (mv_rm 0) Q 50 [.ref p, .int (nI t), .int (xs_bs π x t c), .int (nI c)] [] 0 0 n sh I R := by
          intro q1 q2
          refine mv_iload_n (pc := 50) dX3_activeChildren_50 rfl ?_
          refine mv_iconst (pc := 51) (v := 1) dX3_activeChildren_51 (by decide) ?_
          refine mv_iload_n (pc := 52) dX3_activeChildren_52 rfl ?_
          refine mv_ishl (pc := 53) dX3_activeChildren_53 ?_
          refine mv_ior (pc := 54) dX3_activeChildren_54 ?_
          refine mv_istore_n (pc := 55) dX3_activeChildren_55 (by decide) ?_
          exact hnext _ (by rw [xs_bs, if_pos ⟨by omega, q1, q2⟩])
        refine mv_aload_n (pc := 17) dX3_activeChildren_17 rfl ?_
        refine mv_getR (pc := 18) (q := q) dX3_activeChildren_18 fl3_65 (fun _ _ => rfl) (congrArg Prod.fst hp.o) hpl ?_
        refine mv_getR (pc := 21) (q := q + 1) dX3_activeChildren_21 fl3_88 (fun _ _ => rfl) (congrArg Prod.fst hq.o) hq.f1 ?_
        refine mv_iload_n (pc := 24) dX3_activeChildren_24 rfl ?_
        refine mv_ialdx (pc := 25) (x := π c 0) (k := c) dX3_activeChildren_25 hq.g1 rfl (by omega) (hpc.2 c hcn).1 ?_
        refine mv_iload_n (pc := 26) dX3_activeChildren_26 rfl ?_
        refine mv_icmp_ne (pc := 27) (tgt := 56) dX3_activeChildren_27 (by decide) (fun hb2 => ?_) (fun hb2 => ?_)
        · exact hnext _ (no (fun q => hb2 q.1))
        · refine mv_aload_n (pc := 30) dX3_activeChildren_30 rfl ?_
          refine mv_getR (pc := 31) (q := p + 1) dX3_activeChildren_31 fl3_15 (fun _ _ => rfl) (congrArg Prod.fst hp.o) hp.f2 ?_
          refine mv_iload_n (pc := 34) dX3_activeChildren_34 rfl ?_
          refine mv_ialdx (pc := 35) (x := x c 0) (k := c) dX3_activeChildren_35 hp.g2 rfl (by omega) hhow ?_
          refine mv_iconst (pc := 36) (v := 1) dX3_activeChildren_36 (by decide) ?_
          refine mv_icmp_eq (pc := 37) (tgt := 50) dX3_activeChildren_37 (by decide) (fun hb3 => ?_) (fun hb3 => ?_)
          · exact yes hb2 (Or.inl hb3)
          · refine mv_aload_n (pc := 40) dX3_activeChildren_40 rfl ?_
            refine mv_getR (pc := 41) (q := p + 1) dX3_activeChildren_41 fl3_15 (fun _ _ => rfl) (congrArg Prod.fst hp.o) hp.f2 ?_
            refine mv_iload_n (pc := 44) dX3_activeChildren_44 rfl ?_
            refine mv_ialdx (pc := 45) (x := x c 0) (k := c) dX3_activeChildren_45 hp.g2 rfl (by omega) hhow ?_
            refine mv_iconst (pc := 46) (v := 2) dX3_activeChildren_46 (by decide) ?_
            refine mv_icmp_ne (pc := 47) (tgt := 56) dX3_activeChildren_47 (by decide) (fun hb4 => ?_) (fun hb4 => ?_)
            · exact hnext _ (no (fun q => q.2.elim hb3 hb4))
            · exact yes hb2 (Or.inr hb4)
  refine mv_iconst (pc := 0) (v := 0) dX3_activeChildren_0 (by decide) ?_
  refine mv_istore_n (pc := 1) dX3_activeChildren_1 (by decide) ?_
  refine mv_iload_n (pc := 2) dX3_activeChildren_2 rfl ?_
  refine mv_iconst (pc := 3) (v := 1) dX3_activeChildren_3 (by decide) ?_
  refine mv_iadd (pc := 4) dX3_activeChildren_4 ?_
  refine mv_top (y := nI (t + 1)) (nI_1 t) ?_
  refine mv_istore_n (pc := 5) dX3_activeChildren_5 (by decide) ?_
  have := loop (nt + 1) (t + 1) (by omega) (by omega) (by omega)
  rw [xs_bs_lo hpw (by omega) (t + 1) (by omega) (by omega)] at this
  exact this
theorem c3_activeChildren {l : Launch} {D : va_G} {b0 n : Nat} {sh : mv_Sh} {I : mv_I} {R : mv_R} {p q nt t : Nat} {π x : xs_X} (K : rc_P sh R I p q nt π) (h : rc_R I p nt x) (ht : t < nt) : mv_C l D b0 m3_activeChildren (mv_rm 0) [.ref p, .int (nI t)] n sh I R (mv_Pi n sh R (fun r I' => r = xs_bs π x t nt ∧ I' = I)) := mv_C.of 2 (by decide) (by simp [Value.category]) rfl (e3_activeChildren K h ht (fun _ _ h => mv_Pi.mk h))
theorem xs_tr_lo {x : xs_X} {t u : Nat} {w : Int32} (hu : u < 8) : xs_tr x t w u = x u := by
  unfold xs_tr
  split
  · rw [mv_upN u (by omega), mv_upN u (by omega), mv_upN u (by omega), mv_upN u (by omega)]
  · rfl
theorem xs_ask_hi {n u a : Nat} {π x : xs_X} (h : n ≤ a) : xs_ask n π x u a = x a := by
  funext k
  unfold xs_ask
  rw [if_neg]
  rintro ⟨-, -, q, -⟩
  omega
theorem xs_tr_hi {x y : xs_X} {t : Nat} {w : Int32} (h : ∀ a, 8 ≤ a → y a = x a) : ∀ a, 8 ≤ a → xs_tr y t w a = xs_tr x t w a := by
  intro a ha
  unfold xs_tr
  rw [h 8 (by omega)]
  split
  · funext k
    simp only [mv_up, h a ha]
  · exact h a ha
theorem xs_ask_tr {n u t : Nat} {π x : xs_X} {w : Int32} (hn : n ≤ 8) : xs_ask n π (xs_tr x t w) u = xs_tr (xs_ask n π x u) t w := by
  funext a
  by_cases ha : a < 8
  · rw [xs_tr_lo ha]
    funext k
    simp only [xs_ask, xs_tr_lo ha]
  · rw [xs_ask_hi (by omega)]
    exact (xs_tr_hi (fun b hb => xs_ask_hi (by omega)) a (by omega)).symm
set_option maxHeartbeats 4000000 in
set_option maxRecDepth 100000 in
theorem e3_close {l : Launch} {D : va_G} {b0 n : Nat} {sh : mv_Sh} {I : mv_I} {R : mv_R} {Q : mv_Q} {p q nt t e : Nat} {π x : xs_X} {o : Int32} (K : rc_P sh R I p q nt π) (h : rc_R I p nt x) (ht : t < nt) (he : x 8 1 = nI e) (he6 : e ≤ 60) (hQ : ∀ I', (rc_R I' p nt (xs_cl nt π x t o) ∧ rc_Fr p I I') → Q none n sh I' R) : mv_E l D b0 m3_close (mv_rm 1) Q 0 [.ref p, .int (nI t), .int o] [] 0 0 n sh I R := by
  obtain ⟨hp, hq, hpl, hdj, hpc, hpw⟩ := id K
  have hn := hpw.2.1
  have h1 : rc_R (mv_up I (p + 1) t 2) p nt (mv_up x t 0 2) := rc_set 0 h (by decide) (by decide) ht hn
  have f1 : rc_Fr p I (mv_up I (p + 1) t 2) := rc_Fr.rf.up (by omega)
  have hm : I (p + 10) t = x t 9 := (h.2.1 t ht).1 9 (by decide)
  have join : ∀ v, v = (if o = 0 ∧ 0 < x t 9 then 1 else o) → mv_E l D b0 m3_close (mv_rm 1) Q 30 [.ref p, .int (nI t), .int o] [.int v, .int (nI t), .ref (p + 2)] 0 0 n sh (mv_up I (p + 1) t 2) R := by
    intro v hv
    have h2 : rc_R (mv_up (mv_up I (p + 1) t 2) (p + 2) t v) p nt (mv_up (mv_up x t 0 2) t 1 v) := rc_set 1 h1 (by decide) (by decide) ht hn
    have f2 := f1.up (a := p + 2) (k := t) (v := v) (by omega)
    refine mv_iast (pc := 30) (k := t) dX3_close_30 hp.g3 rfl (by omega) ?_
    refine mv_aload_n (pc := 31) dX3_close_31 rfl ?_
    refine mv_iload_n (pc := 32) dX3_close_32 rfl ?_
    refine mv_iconst (pc := 33) (v := 1) dX3_close_33 (by decide) ?_
    refine mv_cVv (pc := 34) dX3_close_34 lk3_137 (congrArg Prod.fst hp.o) (c3_note hp h2 hn (by rw [mv_upN 8 (by omega), mv_upN 8 (by omega)]; exact he) he6) rfl rfl (Nat.le_of_ble_eq_true rfl) (by decide) (by decide) (fun J ⟨hr, hf⟩ => ?_)
    have hfJ := f2.tr hf
    have hv2 : J (p + 2) t = v := by
      rw [show J (p + 2) t = xs_tr (mv_up (mv_up x t 0 2) t 1 v) t 1 t 1 from (hr.2.1 t ht).1 1 (by decide), xs_tr_lo (by omega), mv_upe]
    refine mv_aload_n (pc := 37) dX3_close_37 rfl ?_
    refine mv_getR (pc := 38) (q := p + 2) dX3_close_38 fl3_19 (fun _ _ => rfl) (congrArg Prod.fst hp.o) hp.f3 ?_
    refine mv_iload_n (pc := 41) dX3_close_41 rfl ?_
    refine mv_ialdx (pc := 42) (x := v) (k := t) dX3_close_42 hp.g3 rfl (by omega) hv2 ?_
    refine mv_if_eq (pc := 43) (tgt := 51) dX3_close_43 (by decide) (fun hb => ?_) (fun hb => ?_)
    · refine mv_vret (pc := 51) dX3_close_51 rfl (by decide) (by decide) (hQ _ ⟨?_, hfJ⟩)
      have : xs_cl nt π x t o = xs_tr (mv_up (mv_up x t 0 2) t 1 v) t 1 := by
        unfold xs_cl
        rw [← hv, if_neg]
        intro q
        rw [hb] at hv
        by_cases ho : o = 0
        · rcases q with q | q
          · exact q ho
          · rw [if_pos ⟨ho, q⟩] at hv
            exact absurd hv (by decide)
        · rw [if_neg (fun z => ho z.1)] at hv
          exact ho hv.symm
      rw [this]; exact hr
    · refine mv_aload_n (pc := 46) dX3_close_46 rfl ?_
      refine mv_iload_n (pc := 47) dX3_close_47 rfl ?_
      refine mv_cVv (pc := 48) dX3_close_48 lk3_134 (congrArg Prod.fst hp.o) (c3_askChildren (K.fr hfJ) hr ht) rfl rfl (Nat.le_of_ble_eq_true rfl) (by decide) (by decide) (fun J2 ⟨hr2, hf2⟩ => ?_)
      refine mv_vret (pc := 51) dX3_close_51 rfl (by decide) (by decide) (hQ _ ⟨?_, hfJ.tr hf2⟩)
      have : xs_cl nt π x t o = xs_ask nt π (xs_tr (mv_up (mv_up x t 0 2) t 1 v) t 1) t := by
        rw [xs_ask_tr hn]
        unfold xs_cl
        rw [← hv, if_pos]
        by_cases ho : o = 0
        · right
          apply Classical.byContradiction
          intro q
          rw [if_neg (fun z => q z.2), ho] at hv
          exact hb hv
        · exact Or.inl ho
      rw [this]; exact hr2
  refine mv_aload_n (pc := 0) dX3_close_0 rfl ?_
  refine mv_getR (pc := 1) (q := p + 1) dX3_close_1 fl3_15 (fun _ _ => rfl) (congrArg Prod.fst hp.o) hp.f2 ?_
  refine mv_iload_n (pc := 4) dX3_close_4 rfl ?_
  refine mv_iconst (pc := 5) (v := 2) dX3_close_5 (by decide) ?_
  refine mv_iast (pc := 6) (k := t) dX3_close_6 hp.g2 rfl (by omega) ?_
  refine mv_aload_n (pc := 7) dX3_close_7 rfl ?_
  refine mv_getR (pc := 8) (q := p + 2) dX3_close_8 fl3_19 (fun _ _ => rfl) (congrArg Prod.fst hp.o) hp.f3 ?_
  refine mv_iload_n (pc := 11) dX3_close_11 rfl ?_
  refine mv_iload_n (pc := 12) dX3_close_12 rfl ?_
  refine mv_if_ne (pc := 13) (tgt := 29) dX3_close_13 (by decide) (fun hb => ?_) (fun hb => ?_)
  · refine mv_iload_n (pc := 29) dX3_close_29 rfl ?_
    exact join o (by rw [if_neg (fun z => hb z.1)])
  · refine mv_aload_n (pc := 16) dX3_close_16 rfl ?_
    refine mv_getR (pc := 17) (q := p + 10) dX3_close_17 fl3_43 (fun _ _ => rfl) (congrArg Prod.fst hp.o) hp.f11 ?_
    refine mv_iload_n (pc := 20) dX3_close_20 rfl ?_
    refine mv_ialdx (pc := 21) (x := x t 9) (k := t) dX3_close_21 hp.g11 rfl (by omega) (by rw [mv_upN _ (by omega)]; exact hm) ?_
    refine mv_if_le (pc := 22) (tgt := 29) dX3_close_22 (by decide) (fun hb2 => ?_) (fun hb2 => ?_)
    · refine mv_iload_n (pc := 29) dX3_close_29 rfl ?_
      exact join o (by rw [if_neg (fun z => absurd z.2 (Int32.not_lt.mpr hb2))])
    · refine mv_iconst (pc := 25) (v := 1) dX3_close_25 (by decide) ?_
      refine mv_goto (pc := 26) (tgt := 30) dX3_close_26 (by decide) ?_
      exact join 1 (by rw [if_pos ⟨hb, Int32.not_le.mp hb2⟩])
theorem c3_close {l : Launch} {D : va_G} {b0 n : Nat} {sh : mv_Sh} {I : mv_I} {R : mv_R} {p q nt t e : Nat} {π x : xs_X} {o : Int32} (K : rc_P sh R I p q nt π) (h : rc_R I p nt x) (ht : t < nt) (he : x 8 1 = nI e) (he6 : e ≤ 60) : mv_C l D b0 m3_close (mv_rm 1) [.ref p, .int (nI t), .int o] n sh I R (mv_Pv n sh R (fun I' => rc_R I' p nt (xs_cl nt π x t o) ∧ rc_Fr p I I')) := mv_C.of 0 (by decide) (by simp [Value.category]) rfl (e3_close K h ht he he6 (fun _ h => mv_Pv.mk h))
end
section
theorem mv_comm {α : Type} {x : Nat → Nat → α} {a k b j : Nat} {v w : α} (h : ¬ (a = b ∧ k = j)) : mv_up (mv_up x a k v) b j w = mv_up (mv_up x b j w) a k v := by
  funext c i
  simp only [mv_up]
  by_cases h1 : c = b ∧ i = j
  · rw [if_pos h1]
    have h2 : ¬ (c = a ∧ i = k) := fun q => h ⟨q.1.symm.trans h1.1, q.2.symm.trans h1.2⟩
    rw [if_neg h2, if_pos h1]
  · rw [if_neg h1, if_neg h1]
theorem mv_upup {α : Type} {x : Nat → Nat → α} {a k : Nat} {v w : α} : mv_up (mv_up x a k v) a k w = mv_up x a k w := by
  funext c i
  simp only [mv_up]
  split <;> rfl
def xs_dd (π x : xs_X) (t : Nat) : Int32 := if π t 2 = 99 then 9999 else x 8 0 + π t 2
theorem xs_dun {c m : Int32} (h : xs_duer c m) (h0 : m ≠ 0) : (c = 1000000 ∧ m = 9999) ∨ ∃ k : Nat, 0 < k ∧ k < 9999 ∧ c = nI k ∧ m = nI k := by
  rcases h with ⟨h1, h2 | h2⟩ | ⟨h1, h2, h3⟩
  · exact Or.inl ⟨h1, h2⟩
  · exact absurd h2 h0
  · obtain ⟨j, hj, e⟩ := nI_of (x := m) (fun q => absurd (Int32.lt_trans h2 q) Int32.lt_irrefl)
    subst e
    refine Or.inr ⟨j, ?_, ?_, h1, rfl⟩
    · exact (nI_ltI (a := 0) (by decide) hj).mp h2
    · exact (nI_ltI (b := 9999) hj (by decide)).mp h3
set_option maxHeartbeats 4000000 in
set_option maxRecDepth 100000 in
theorem e3_start {l : Launch} {D : va_G} {b0 n : Nat} {sh : mv_Sh} {I : mv_I} {R : mv_R} {Q : mv_Q} {p q nt t τ : Nat} {π x : xs_X} {L m : Int32} (K : rc_P sh R I p q nt π) (h : rc_R I p nt x) (ht : t < nt) (hτ : x 8 0 = nI τ) (hτ2 : τ ≤ 2000) (hL : xs_duer L m) (hm : m ≠ 0) (hQ : ∀ I', (rc_R I' p nt (mv_up (mv_up (mv_up x t 0 1) t 7 (x 8 0)) t 4 (if xs_dd π x t < m then xs_dd π x t else m)) ∧ rc_Fr p I I') → Q none n sh I' R) : mv_E l D b0 m3_start (mv_rm 1) Q 0 [.ref p, .int (nI t), .int L] [] 0 0 n sh I R := by
  obtain ⟨hp, hq, hpl, hdj, hpc, hpw⟩ := id K
  have hn := hpw.2.1
  have h1 : rc_R (mv_up I (p + 1) t 1) p nt (mv_up x t 0 1) := rc_set 0 h (by decide) (by decide) ht hn
  have h2 : rc_R (mv_up (mv_up I (p + 1) t 1) (p + 3) t (x 8 0)) p nt (mv_up (mv_up x t 0 1) t 7 (x 8 0)) := rc_set 7 h1 (by decide) (by decide) ht hn
  have f3 : rc_Fr p I (mv_up (mv_up (mv_up I (p + 1) t 1) (p + 3) t (x 8 0)) (p + 5) t L) := ((rc_Fr.rf.up (by omega)).up (by omega)).up (by omega)
  have hpc3 := (K.fr f3).2.2.2.2.1
  refine mv_aload_n (pc := 0) dX3_start_0 rfl ?_
  refine mv_getR (pc := 1) (q := p + 1) dX3_start_1 fl3_15 (fun _ _ => rfl) (congrArg Prod.fst hp.o) hp.f2 ?_
  refine mv_iload_n (pc := 4) dX3_start_4 rfl ?_
  refine mv_iconst (pc := 5) (v := 1) dX3_start_5 (by decide) ?_
  refine mv_iast (pc := 6) (k := t) dX3_start_6 hp.g2 rfl (by omega) ?_
  refine mv_aload_n (pc := 7) dX3_start_7 rfl ?_
  refine mv_getR (pc := 8) (q := p + 3) dX3_start_8 fl3_22 (fun _ _ => rfl) (congrArg Prod.fst hp.o) hp.f4 ?_
  refine mv_iload_n (pc := 11) dX3_start_11 rfl ?_
  refine mv_aload_n (pc := 12) dX3_start_12 rfl ?_
  refine mv_getIx (pc := 13) (x := x 8 0) dX3_start_13 fl3_9 rfl (congrArg Prod.fst hp.o) (by rw [mv_upN p (by omega)]; exact h.1.1) ?_
  refine mv_iast (pc := 16) (k := t) dX3_start_16 hp.g4 rfl (by omega) ?_
  refine mv_aload_n (pc := 17) dX3_start_17 rfl ?_
  refine mv_getR (pc := 18) (q := p + 5) dX3_start_18 fl3_28 (fun _ _ => rfl) (congrArg Prod.fst hp.o) hp.f6 ?_
  refine mv_iload_n (pc := 21) dX3_start_21 rfl ?_
  refine mv_iload_n (pc := 22) dX3_start_22 rfl ?_
  refine mv_iast (pc := 23) (k := t) dX3_start_23 hp.g6 rfl (by omega) ?_
  refine mv_aload_n (pc := 24) dX3_start_24 rfl ?_
  refine mv_getR (pc := 25) (q := q) dX3_start_25 fl3_65 (fun _ _ => rfl) (congrArg Prod.fst hp.o) hpl ?_
  refine mv_getR (pc := 28) (q := q + 5) dX3_start_28 fl3_140 (fun _ _ => rfl) (congrArg Prod.fst hq.o) hq.f5 ?_
  refine mv_iload_n (pc := 31) dX3_start_31 rfl ?_
  refine mv_ialdx (pc := 32) (x := π t 2) (k := t) dX3_start_32 hq.g5 rfl (by omega) (hpc3.2 t ht).2.2.1 ?_
  refine mv_bipush (pc := 33) (v := 99) dX3_start_33 (by decide) ?_
  refine mv_icmp_eq (pc := 35) (tgt := 62) dX3_start_35 (by decide) (fun hb => ?_) (fun hb => ?_)
  · refine mv_vret (pc := 62) dX3_start_62 rfl (by decide) (by decide) (hQ _ ⟨?_, f3⟩)
    have e : (if xs_dd π x t < m then xs_dd π x t else m) = m := by
      unfold xs_dd
      rw [if_pos hb, if_neg]
      rcases xs_dun hL hm with ⟨-, q⟩ | ⟨k, -, k2, -, q⟩
      · rw [q]; decide
      · rw [q]; exact nI_nlt (a := 9999) (by omega) (by decide)
    rw [e]
    exact rc_due h2 hL ht hn
  · refine mv_aload_n (pc := 38) dX3_start_38 rfl ?_
    refine mv_getR (pc := 39) (q := p + 5) dX3_start_39 fl3_28 (fun _ _ => rfl) (congrArg Prod.fst hp.o) hp.f6 ?_
    refine mv_iload_n (pc := 42) dX3_start_42 rfl ?_
    refine mv_iload_n (pc := 43) dX3_start_43 rfl ?_
    refine mv_aload_n (pc := 44) dX3_start_44 rfl ?_
    refine mv_getIx (pc := 45) (x := x 8 0) dX3_start_45 fl3_9 rfl (congrArg Prod.fst hp.o) (by rw [mv_upN p (by omega), mv_upN p (by omega), mv_upN p (by omega)]; exact h.1.1) ?_
    refine mv_aload_n (pc := 48) dX3_start_48 rfl ?_
    refine mv_getR (pc := 49) (q := q) dX3_start_49 fl3_65 (fun _ _ => rfl) (congrArg Prod.fst hp.o) hpl ?_
    refine mv_getR (pc := 52) (q := q + 5) dX3_start_52 fl3_140 (fun _ _ => rfl) (congrArg Prod.fst hq.o) hq.f5 ?_
    refine mv_iload_n (pc := 55) dX3_start_55 rfl ?_
    refine mv_ialdx (pc := 56) (x := π t 2) (k := t) dX3_start_56 hq.g5 rfl (by omega) (hpc3.2 t ht).2.2.1 ?_
    refine mv_iadd (pc := 57) dX3_start_57 ?_
    refine mv_mmin (pc := 58) dX3_start_58 lkm3_143 wm_smin wm_i wm_cmin (Nat.le_of_ble_eq_true rfl) ⟨by decide, by decide⟩ (by decide) (by decide) ?_
    refine mv_iast (pc := 61) (k := t) dX3_start_61 hp.g6 rfl (by omega) ?_
    refine mv_vret (pc := 62) dX3_start_62 rfl (by decide) (by decide) (hQ _ ⟨?_, f3.up (by omega)⟩)
    rw [mv_upup]
    refine rc_due h2 ?_ ht hn
    have e : xs_dd π x t = x 8 0 + π t 2 := by unfold xs_dd; rw [if_neg hb]
    rw [← e]
    obtain ⟨d, d1, d2, d3⟩ := ((hpw.2.2.2 t ht).2.2.1).resolve_left hb
    have e2 : xs_dd π x t = nI (τ + d) := by rw [e, hτ, d3, nI_add]
    rw [e2]
    have hgood : xs_duer (nI (τ + d)) (nI (τ + d)) := Or.inr ⟨rfl, nI_lt (a := 0) (by omega) (by omega), nI_lt (b := 9999) (by omega) (by decide)⟩
    rcases xs_dun hL hm with ⟨q1, q2⟩ | ⟨k, k1, k2, q1, q2⟩
    · rw [q1, q2, if_pos (show nI (τ + d) < (1000000 : Int32) from nI_lt (b := 1000000) (by omega) (by decide)), if_pos (show nI (τ + d) < (9999 : Int32) from nI_lt (b := 9999) (by omega) (by decide))]
      exact hgood
    · rw [q1, q2]
      split
      · exact hgood
      · exact Or.inr ⟨rfl, nI_lt (a := 0) (by omega) (by omega), nI_lt (b := 9999) (by omega) (by decide)⟩
theorem c3_start {l : Launch} {D : va_G} {b0 n : Nat} {sh : mv_Sh} {I : mv_I} {R : mv_R} {p q nt t τ : Nat} {π x : xs_X} {L m : Int32} (K : rc_P sh R I p q nt π) (h : rc_R I p nt x) (ht : t < nt) (hτ : x 8 0 = nI τ) (hτ2 : τ ≤ 2000) (hL : xs_duer L m) (hm : m ≠ 0) : mv_C l D b0 m3_start (mv_rm 1) [.ref p, .int (nI t), .int L] n sh I R (mv_Pv n sh R (fun I' => rc_R I' p nt (mv_up (mv_up (mv_up x t 0 1) t 7 (x 8 0)) t 4 (if xs_dd π x t < m then xs_dd π x t else m)) ∧ rc_Fr p I I')) := mv_C.of 0 (by decide) (by simp [Value.category]) rfl (e3_start K h ht hτ hτ2 hL hm (fun _ h => mv_Pv.mk h))
set_option maxHeartbeats 4000000 in
set_option maxRecDepth 100000 in
theorem e3_beginChild {l : Launch} {D : va_G} {b0 n : Nat} {sh : mv_Sh} {I : mv_I} {R : mv_R} {Q : mv_Q} {p q nt t τ e : Nat} {π x : xs_X} (K : rc_P sh R I p q nt π) (h : rc_R I p nt x) (ht : t < nt) (hτ : x 8 0 = nI τ) (hτ2 : τ ≤ 2000) (he : x 8 1 = nI e) (he6 : e ≤ 60) (hd : x t 4 ≠ 0) (hQ : ∀ I', (rc_R I' p nt (xs_bc nt π x t) ∧ rc_Fr p I I') → Q none n sh I' R) : mv_E l D b0 m3_beginChild (mv_rm 2) Q 0 [.ref p, .int (nI t), .null] [] 0 0 n sh I R := by
  obtain ⟨hp, hq, hpl, hdj, hpc, hpw⟩ := id K
  have hn := hpw.2.1
  have loop : ∀ (f c : Nat), nt < c + f → t < c → c ≤ nt → (∀ u, u < c → ¬ (1 ≤ u ∧ π u 0 = nI t ∧ x u 0 = 0)) → mv_E l D b0 m3_beginChild (mv_rm 2) Q 4 [.ref p, .int (nI t), .int (nI c)] [] 0 0 n sh I R := by
    intro f
    induction f with
    | zero => intro c h1 h2 h3; omega
    | succ f ih =>
      intro c h1 h2 h3 hl
      refine mv_iload_n (pc := 4) dX3_beginChild_4 rfl ?_
      refine mv_aload_n (pc := 5) dX3_beginChild_5 rfl ?_
      refine mv_getR (pc := 6) (q := q) dX3_beginChild_6 fl3_65 (fun _ _ => rfl) (congrArg Prod.fst hp.o) hpl ?_
      refine mv_getIx (pc := 9) (x := nI nt) dX3_beginChild_9 fl3_83 rfl (congrArg Prod.fst hq.o) hpc.1 ?_
      refine mv_icmp_ge (pc := 12) (tgt := 61) dX3_beginChild_12 (by decide) (fun hb => ?_) (fun hb => ?_)
      · have : c = nt := by
          have := (nI_leI (a := nt) (b := c) (by omega) (by omega)).mp hb
          omega
        subst this
        refine mv_vret (pc := 61) dX3_beginChild_61 rfl (by decide) (by decide) (hQ _ ⟨?_, rc_Fr.rf⟩)
        unfold xs_bc
        rw [xs_fc_none hl]
        exact h
      · have hcn : c < nt := by
          rcases Nat.lt_or_ge c nt with q | q
          · exact q
          · exact absurd (nI_le q (by omega)) hb
        have hnext : ¬ (π c 0 = nI t ∧ x c 0 = 0) → mv_E l D b0 m3_beginChild (mv_rm 2) Q 55 [.ref p, .int (nI t), .int (nI c)] [] 0 0 n sh I R := by
          intro q
          refine mv_iinc (pc := 55) (v := nI (c + 1)) dX3_beginChild_55 (by decide) rfl (nI_1 c) ?_
          refine mv_goto (pc := 58) (tgt := 4) dX3_beginChild_58 (by decide) ?_
          refine ih (c + 1) (by omega) (by omega) (by omega) (fun u hu => ?_)
          by_cases huc : u = c
          · subst huc; exact fun z => q z.2
          · exact hl u (by omega)
        refine mv_aload_n (pc := 15) dX3_beginChild_15 rfl ?_
        refine mv_getR (pc := 16) (q := q) dX3_beginChild_16 fl3_65 (fun _ _ => rfl) (congrArg Prod.fst hp.o) hpl ?_
        refine mv_getR (pc := 19) (q := q + 1) dX3_beginChild_19 fl3_88 (fun _ _ => rfl) (congrArg Prod.fst hq.o) hq.f1 ?_
        refine mv_iload_n (pc := 22) dX3_beginChild_22 rfl ?_
        refine mv_ialdx (pc := 23) (x := π c 0) (k := c) dX3_beginChild_23 hq.g1 rfl (by omega) (hpc.2 c hcn).1 ?_
        refine mv_iload_n (pc := 24) dX3_beginChild_24 rfl ?_
        refine mv_icmp_ne (pc := 25) (tgt := 55) dX3_beginChild_25 (by decide) (fun hb2 => ?_) (fun hb2 => ?_)
        · exact hnext (fun q => hb2 q.1)
        · refine mv_aload_n (pc := 28) dX3_beginChild_28 rfl ?_
          refine mv_getR (pc := 29) (q := p + 1) dX3_beginChild_29 fl3_15 (fun _ _ => rfl) (congrArg Prod.fst hp.o) hp.f2 ?_
          refine mv_iload_n (pc := 32) dX3_beginChild_32 rfl ?_
          refine mv_ialdx (pc := 33) (x := x c 0) (k := c) dX3_beginChild_33 hp.g2 rfl (by omega) ((h.2.1 c hcn).1 0 (by decide)) ?_
          refine mv_if_ne (pc := 34) (tgt := 55) dX3_beginChild_34 (by decide) (fun hb3 => ?_) (fun hb3 => ?_)
          · exact hnext (fun q => hb3 q.2)
          · refine mv_aload_n (pc := 37) dX3_beginChild_37 rfl ?_
            refine mv_iload_n (pc := 38) dX3_beginChild_38 rfl ?_
            refine mv_aload_n (pc := 39) dX3_beginChild_39 rfl ?_
            refine mv_getR (pc := 40) (q := p + 5) dX3_beginChild_40 fl3_28 (fun _ _ => rfl) (congrArg Prod.fst hp.o) hp.f6 ?_
            refine mv_iload_n (pc := 43) dX3_beginChild_43 rfl ?_
            refine mv_iald (pc := 44) (k := t) dX3_beginChild_44 hp.g6 rfl (by omega) ?_
            refine mv_cVv (pc := 45) dX3_beginChild_45 lk3_70 (congrArg Prod.fst hp.o) (c3_start K h hcn hτ hτ2 (h.2.1 t ht).2.2.1 hd) rfl rfl (Nat.le_of_ble_eq_true rfl) (by decide) (by decide) (fun J ⟨hr, hf⟩ => ?_)
            refine mv_aload_n (pc := 48) dX3_beginChild_48 rfl ?_
            refine mv_iload_n (pc := 49) dX3_beginChild_49 rfl ?_
            refine mv_iconst (pc := 50) (v := 0) dX3_beginChild_50 (by decide) ?_
            refine mv_cVv (pc := 51) dX3_beginChild_51 lk3_137 (congrArg Prod.fst hp.o) (c3_note hp hr hn (by rw [mv_upN 8 (by omega), mv_upN 8 (by omega), mv_upN 8 (by omega)]; exact he) he6) rfl rfl (Nat.le_of_ble_eq_true rfl) (by decide) (by decide) (fun J2 ⟨hr2, hf2⟩ => ?_)
            refine mv_vret (pc := 54) dX3_beginChild_54 rfl (by decide) (by decide) (hQ _ ⟨?_, hf.tr hf2⟩)
            unfold xs_bc
            rw [xs_fc_some hcn ⟨by omega, hb2, hb3⟩ hl]
            show rc_R J2 p nt (xs_tr (mv_up (mv_up (mv_up x c 0 1) c 4 (xs_due π x c t)) c 7 (x 8 0)) c 0)
            rw [mv_comm (a := c) (k := 4) (b := c) (j := 7) (by omega)]
            exact hr2
  refine mv_iload_n (pc := 0) dX3_beginChild_0 rfl ?_
  refine mv_iconst (pc := 1) (v := 1) dX3_beginChild_1 (by decide) ?_
  refine mv_iadd (pc := 2) dX3_beginChild_2 ?_
  refine mv_top (y := nI (t + 1)) (nI_1 t) ?_
  refine mv_istore_n (pc := 3) dX3_beginChild_3 (by decide) ?_
  refine loop (nt + 1) (t + 1) (by omega) (by omega) (by omega) (fun u hu q => ?_)
  have := hpw.par (by omega) q.1 q.2.1 (by omega)
  omega
theorem c3_beginChild {l : Launch} {D : va_G} {b0 n : Nat} {sh : mv_Sh} {I : mv_I} {R : mv_R} {p q nt t τ e : Nat} {π x : xs_X} (K : rc_P sh R I p q nt π) (h : rc_R I p nt x) (ht : t < nt) (hτ : x 8 0 = nI τ) (hτ2 : τ ≤ 2000) (he : x 8 1 = nI e) (he6 : e ≤ 60) (hd : x t 4 ≠ 0) : mv_C l D b0 m3_beginChild (mv_rm 2) [.ref p, .int (nI t)] n sh I R (mv_Pv n sh R (fun I' => rc_R I' p nt (xs_bc nt π x t) ∧ rc_Fr p I I')) := mv_C.of 1 (by decide) (by simp [Value.category]) rfl (e3_beginChild K h ht hτ hτ2 he he6 hd (fun _ h => mv_Pv.mk h))
set_option maxHeartbeats 4000000 in
set_option maxRecDepth 100000 in
theorem e3_work {l : Launch} {D : va_G} {b0 n : Nat} {sh : mv_Sh} {I : mv_I} {R : mv_R} {Q : mv_Q} {p nt t w k : Nat} {x : xs_X} (hp : ly_Run sh R p) (h : rc_R I p nt x) (hn : nt ≤ 8) (ht : t < nt) (hw : x t 3 = nI w) (hk : w < k) (hk9 : k ≤ 9) (hQ : ∀ I', (rc_R I' p nt (if x t 3 + 1 = nI k then xs_beh (mv_up x t 3 0) t else mv_up x t 3 (x t 3 + 1)) ∧ rc_Fr p I I') → Q none n sh I' R) : mv_E l D b0 m3_work (mv_rm 0) Q 0 [.ref p, .int (nI t), .int (nI k)] [] 0 0 n sh I R := by
  have h7 : I (p + 7) t = nI w := ((h.2.1 t ht).1 3 (by decide)).trans hw
  have h1 : rc_R (mv_up I (p + 7) t (nI w + 1)) p nt (mv_up x t 3 (nI w + 1)) := rc_set 3 h (by decide) (by decide) ht hn
  refine mv_aload_n (pc := 0) dX3_work_0 rfl ?_
  refine mv_getR (pc := 1) (q := p + 7) dX3_work_1 fl3_34 (fun _ _ => rfl) (congrArg Prod.fst hp.o) hp.f8 ?_
  refine mv_iload_n (pc := 4) dX3_work_4 rfl ?_
  refine mv_dup2 (pc := 5) dX3_work_5 rfl rfl ?_
  refine mv_ialdx (pc := 6) (x := nI w) (k := t) dX3_work_6 hp.g8 rfl (by omega) h7 ?_
  refine mv_iconst (pc := 7) (v := 1) dX3_work_7 (by decide) ?_
  refine mv_iadd (pc := 8) dX3_work_8 ?_
  refine mv_iast (pc := 9) (k := t) dX3_work_9 hp.g8 rfl (by omega) ?_
  refine mv_aload_n (pc := 10) dX3_work_10 rfl ?_
  refine mv_getR (pc := 11) (q := p + 7) dX3_work_11 fl3_34 (fun _ _ => rfl) (congrArg Prod.fst hp.o) hp.f8 ?_
  refine mv_iload_n (pc := 14) dX3_work_14 rfl ?_
  refine mv_ialdx (pc := 15) (x := nI (w + 1)) (k := t) dX3_work_15 hp.g8 rfl (by omega) (by rw [mv_upe, nI_1]) ?_
  refine mv_iload_n (pc := 16) dX3_work_16 rfl ?_
  refine mv_icmp_lt (pc := 17) (tgt := 37) dX3_work_17 (by decide) (fun hb => ?_) (fun hb => ?_)
  · refine mv_vret (pc := 37) dX3_work_37 rfl (by decide) (by decide) (hQ _ ⟨?_, rc_Fr.rf.up (by omega)⟩)
    have := (nI_ltI (a := w + 1) (b := k) (by omega) (by omega)).mp hb
    rw [hw, if_neg (by rw [nI_1, nI_eq (by omega) (by omega)]; omega)]
    exact h1
  · have hkk : w + 1 = k := by
      have : ¬ w + 1 < k := fun q => hb ((nI_ltI (a := w + 1) (b := k) (by omega) (by omega)).mpr q)
      omega
    refine mv_aload_n (pc := 20) dX3_work_20 rfl ?_
    refine mv_getR (pc := 21) (q := p + 7) dX3_work_21 fl3_34 (fun _ _ => rfl) (congrArg Prod.fst hp.o) hp.f8 ?_
    refine mv_iload_n (pc := 24) dX3_work_24 rfl ?_
    refine mv_iconst (pc := 25) (v := 0) dX3_work_25 (by decide) ?_
    refine mv_iast (pc := 26) (k := t) dX3_work_26 hp.g8 rfl (by omega) ?_
    refine mv_aload_n (pc := 27) dX3_work_27 rfl ?_
    refine mv_getR (pc := 28) (q := p + 6) dX3_work_28 fl3_31 (fun _ _ => rfl) (congrArg Prod.fst hp.o) hp.f7 ?_
    refine mv_iload_n (pc := 31) dX3_work_31 rfl ?_
    refine mv_dup2 (pc := 32) dX3_work_32 rfl rfl ?_
    refine mv_ialdx (pc := 33) (x := x t 2) (k := t) dX3_work_33 hp.g7 rfl (by omega) (by rw [mv_upN _ (by omega), mv_upN _ (by omega)]; exact (h.2.1 t ht).1 2 (by decide)) ?_
    refine mv_iconst (pc := 34) (v := 1) dX3_work_34 (by decide) ?_
    refine mv_iadd (pc := 35) dX3_work_35 ?_
    refine mv_iast (pc := 36) (k := t) dX3_work_36 hp.g7 rfl (by omega) ?_
    refine mv_vret (pc := 37) dX3_work_37 rfl (by decide) (by decide) (hQ _ ⟨?_, ((rc_Fr.rf.up (by omega)).up (by omega)).up (by omega)⟩)
    rw [mv_upup, hw, if_pos (by rw [nI_1, hkk])]
    have h2 : rc_R (mv_up I (p + 7) t 0) p nt (mv_up x t 3 0) := rc_set 3 h (by decide) (by decide) ht hn
    have h3 : rc_R (mv_up (mv_up I (p + 7) t 0) (p + 6) t (x t 2 + 1)) p nt (mv_up (mv_up x t 3 0) t 2 (x t 2 + 1)) := rc_set 2 h2 (by decide) (by decide) ht hn
    unfold xs_beh
    rw [show mv_up x t 3 0 t 2 = x t 2 by simp [mv_up]]
    exact h3
theorem c3_work {l : Launch} {D : va_G} {b0 n : Nat} {sh : mv_Sh} {I : mv_I} {R : mv_R} {p nt t w k : Nat} {x : xs_X} (hp : ly_Run sh R p) (h : rc_R I p nt x) (hn : nt ≤ 8) (ht : t < nt) (hw : x t 3 = nI w) (hk : w < k) (hk9 : k ≤ 9) : mv_C l D b0 m3_work (mv_rm 0) [.ref p, .int (nI t), .int (nI k)] n sh I R (mv_Pv n sh R (fun I' => rc_R I' p nt (if x t 3 + 1 = nI k then xs_beh (mv_up x t 3 0) t else mv_up x t 3 (x t 3 + 1)) ∧ rc_Fr p I I')) := mv_C.of 0 (by decide) (by simp [Value.category]) rfl (e3_work hp h hn ht hw hk hk9 (fun _ h => mv_Pv.mk h))
end
section
theorem xs_cd_ne {x : xs_X} {u v : Nat} {c : Int32} (h : v ≠ u) : xs_cd x u c v = x v := by
  unfold xs_cd
  split
  · rw [mv_upN v h, mv_upN v h]
  · rfl
theorem xs_cd_col {x : xs_X} {u k : Nat} {c : Int32} (h : k < 9) : xs_cd x u c u k = x u k := by
  unfold xs_cd
  split
  · have h1 : ¬ k = 9 := by omega
    have h2 : ¬ k = 10 + (x u 9).toNatClampNeg := by omega
    simp [mv_up, h1, h2]
  · rfl
theorem xs_cd_many {x : xs_X} {u c : Nat} {w : Int32} (hc : x u 9 = nI c) (hc8 : c ≤ 8) : ∃ c2, c2 ≤ 8 ∧ xs_cd x u w u 9 = nI c2 := by
  unfold xs_cd
  split
  · rename_i hlt
    rw [hc] at hlt
    have := (nI_ltI (b := 8) (by omega) (by decide)).mp hlt
    exact ⟨c + 1, by omega, by rw [mv_upe, hc, nI_1]⟩
  · exact ⟨c, hc8, hc⟩
theorem xs_tr_up {x : xs_X} {t u k : Nat} {v w : Int32} (ht : t < 8) : xs_tr (mv_up x t k v) u w = mv_up (xs_tr x u w) t k v := by
  funext a
  by_cases ha : a < 8
  · rw [xs_tr_lo ha]
    funext j
    simp only [mv_up, xs_tr_lo ha]
  · rw [mv_upN a (by omega)]
    exact xs_tr_hi (fun b hb => mv_upN b (by omega)) a (by omega)
theorem xs_ask_beh {n t u : Nat} {π x : xs_X} : xs_ask n π (xs_beh x t) u = xs_beh (xs_ask n π x u) t := by
  unfold xs_beh
  have e : xs_ask n π x u t 2 = x t 2 := by simp [xs_ask]
  rw [e]
  funext a k
  simp only [xs_ask, mv_up]
  by_cases h5 : k = 5
  · subst h5; simp
  · simp [h5]
theorem xs_bc_beh {nt t : Nat} {π x : xs_X} (hw : pl_W nt π) (ht : t < nt) : xs_bc nt π (xs_beh x t) t = xs_beh (xs_bc nt π x t) t := by
  have hn := hw.2.1
  have e : xs_fc nt π (xs_beh x t) t = xs_fc nt π x t := by
    unfold xs_fc
    congr 1
    funext u
    simp [xs_beh, mv_up]
  unfold xs_bc
  rw [e]
  cases hf : xs_fc nt π x t with
  | none => rfl
  | some c =>
    have hc := List.find?_range_eq_some.mp hf
    have hc1 := of_decide_eq_true hc.1
    have hcn : c < nt := List.mem_range.mp hc.2.1
    have hct := hw.par hcn hc1.1 hc1.2.1 (by omega)
    show xs_bg π (xs_beh x t) c t = xs_beh (xs_bg π x c t) t
    have e2 : xs_bg π x c t t 2 = x t 2 := by
      unfold xs_bg
      rw [xs_tr_lo (by omega), mv_upN t (by omega), mv_upN t (by omega), mv_upN t (by omega)]
    unfold xs_beh
    rw [e2]
    unfold xs_bg
    have e3 : xs_due π (mv_up x t 2 (x t 2 + 1)) c t = xs_due π x c t := by
      unfold xs_due
      rw [mv_upN 8 (by omega)]
      simp [mv_up]
    rw [e3, mv_upN 8 (by omega), mv_comm (a := t) (k := 2) (b := c) (j := 0) (by omega), mv_comm (a := t) (k := 2) (b := c) (j := 4) (by omega), mv_comm (a := t) (k := 2) (b := c) (j := 7) (by omega), xs_tr_up (by omega)]
set_option maxHeartbeats 4000000 in
set_option maxRecDepth 100000 in
theorem e3_operate {l : Launch} {D : va_G} {b0 n : Nat} {sh : mv_Sh} {I : mv_I} {R : mv_R} {Q : mv_Q} {p q nt t b s : Nat} {π x : xs_X} {op num : Int32} (K : rc_P sh R I p q nt π) (h : rc_R I p nt x) (hW : xs_W nt π x) (ht : t < nt) (h1 : x t 0 = 1) (hb : x t 2 = nI b) (hs : π t 1 = nI s) (hbs : b < s) (hs6 : s ≤ 6) (hop : op = π t (6 + 2 * b)) (hnm : num = π t (7 + 2 * b)) (hQ : ∀ I', (rc_R I' p nt (xs_wk nt π x t) ∧ rc_Fr p I I') → Q none n sh I' R) : mv_E l D b0 m3_operate (mv_rm 3) Q 0 [.ref p, .int (nI t), .int op, .int num] [] 0 0 n sh I R := by
  obtain ⟨hp, hq, hpl, hdj, hpc, hpw⟩ := id K
  have hn := hpw.2.1
  obtain ⟨⟨τ, hτ2, hτ⟩, ⟨e, he6, he⟩, -, hT⟩ := id hW
  obtain ⟨⟨hh, hh3, hh0, hh4, hh8⟩, ⟨c, hc8, hc⟩, ⟨b', s', hbs', hs6', hs', hb', hwk⟩, -, -, -, -, -⟩ := hT t ht
  have hcl : (x t 2).toNatClampNeg = b := by rw [hb]; exact nI_clamp (by omega)
  have ebb : b' = b := (nI_eq (by omega) (by omega)).mp (hb'.symm.trans hb)
  subst ebb
  have hh1 : hh = 1 := (nI_eq (by omega) (by decide)).mp (hh0.symm.trans h1)
  have hd4 : x t 4 ≠ 0 := fun q => by
    have := hh4.mpr q
    omega
  have hbeh : I (p + 6) t = x t 2 := (h.2.1 t ht).1 2 (by decide)
  obtain ⟨s2, hs26, hs2, hops⟩ := (hpw.2.2.2 t ht).2.1
  have es : s2 = s := (nI_eq (by omega) (by omega)).mp (hs2.symm.trans hs)
  subst es
  have hop5 := hops b' hbs
  rcases hop5 with ⟨hop5 | hop5, k, k1, k9, hk⟩ | hop5 | hop5 | hop5
  · -- w
    rw [hop5] at hop
    subst hop
    rw [hk] at hnm
    subst hnm
    have hw : ∃ w, w < k ∧ x t 3 = nI w := by
      rcases hwk with q | ⟨-, -, w, k', q1, q2, q3, q4⟩
      · exact ⟨0, by omega, q⟩
      · have : k' = k := (nI_eq (by omega) (by omega)).mp (q4.symm.trans hk)
        exact ⟨w, by omega, q3⟩
    obtain ⟨w, hwk, hw⟩ := hw
    refine mv_iload_n (pc := 0) dX3_operate_0 rfl ?_
    refine mv_lsw (pc := 1) (off := 43) (tgt := 44) dX3_operate_1 (by decide) (by decide) (by decide) ?_
    refine mv_aload_n (pc := 44) dX3_operate_44 rfl ?_
    refine mv_iload_n (pc := 45) dX3_operate_45 rfl ?_
    refine mv_iload_n (pc := 46) dX3_operate_46 rfl ?_
    refine mv_cVv (pc := 47) dX3_operate_47 lk3_128 (congrArg Prod.fst hp.o) (c3_work hp h hn ht hw hwk k9) rfl rfl (Nat.le_of_ble_eq_true rfl) (by decide) (by decide) (fun J ⟨hr, hf⟩ => ?_)
    refine mv_goto (pc := 50) (tgt := 122) dX3_operate_50 (by decide) ?_
    refine mv_vret (pc := 122) dX3_operate_122 rfl (by decide) (by decide) (hQ _ ⟨?_, hf⟩)
    unfold xs_wk
    rw [hcl, if_pos hop5, hk]
    exact hr
  · -- f
    rw [hop5] at hop
    subst hop
    refine mv_iload_n (pc := 0) dX3_operate_0 rfl ?_
    refine mv_lsw (pc := 1) (off := 109) (tgt := 110) dX3_operate_1 (by decide) (by decide) (by decide) ?_
    refine mv_aload_n (pc := 110) dX3_operate_110 rfl ?_
    refine mv_iload_n (pc := 111) dX3_operate_111 rfl ?_
    refine mv_iload_n (pc := 112) dX3_operate_112 rfl ?_
    refine mv_cVv (pc := 113) dX3_operate_113 lk3_91 (congrArg Prod.fst hp.o) (c3_addCode hp h hn ht hc hc8) rfl rfl (Nat.le_of_ble_eq_true rfl) (by decide) (by decide) (fun J ⟨hr, hf⟩ => ?_)
    refine mv_aload_n (pc := 116) dX3_operate_116 rfl ?_
    refine mv_iload_n (pc := 117) dX3_operate_117 rfl ?_
    refine mv_iconst (pc := 118) (v := 1) dX3_operate_118 (by decide) ?_
    refine mv_cVv (pc := 119) dX3_operate_119 lk3_94 (congrArg Prod.fst hp.o) (c3_close (K.fr hf) hr ht (by rw [xs_cd_ne (by omega)]; exact he) he6) rfl rfl (Nat.le_of_ble_eq_true rfl) (by decide) (by decide) (fun J2 ⟨hr2, hf2⟩ => ?_)
    refine mv_vret (pc := 122) dX3_operate_122 rfl (by decide) (by decide) (hQ _ ⟨?_, hf.tr hf2⟩)
    unfold xs_wk
    rw [hcl, if_neg (by rw [hop5]; decide), if_neg (by rw [hop5]; decide), if_neg (by rw [hop5]; decide), if_neg (by rw [hop5]; decide), ← hnm]
    exact hr2
  · -- b
    rw [hop5] at hop
    subst hop
    refine mv_iload_n (pc := 0) dX3_operate_0 rfl ?_
    refine mv_lsw (pc := 1) (off := 52) (tgt := 53) dX3_operate_1 (by decide) (by decide) (by decide) ?_
    refine mv_aload_n (pc := 53) dX3_operate_53 rfl ?_
    refine mv_iload_n (pc := 54) dX3_operate_54 rfl ?_
    refine mv_cVv (pc := 55) dX3_operate_55 lk3_131 (congrArg Prod.fst hp.o) (c3_beginChild K h ht hτ hτ2 he he6 hd4) rfl rfl (Nat.le_of_ble_eq_true rfl) (by decide) (by decide) (fun J ⟨hr, hf⟩ => ?_)
    refine mv_aload_n (pc := 58) dX3_operate_58 rfl ?_
    refine mv_getR (pc := 59) (q := p + 6) dX3_operate_59 fl3_31 (fun _ _ => rfl) (congrArg Prod.fst hp.o) hp.f7 ?_
    refine mv_iload_n (pc := 62) dX3_operate_62 rfl ?_
    refine mv_dup2 (pc := 63) dX3_operate_63 rfl rfl ?_
    refine mv_ialdx (pc := 64) (x := xs_bc nt π x t t 2) (k := t) dX3_operate_64 hp.g7 rfl (by omega) ((hr.2.1 t ht).1 2 (by decide)) ?_
    refine mv_iconst (pc := 65) (v := 1) dX3_operate_65 (by decide) ?_
    refine mv_iadd (pc := 66) dX3_operate_66 ?_
    refine mv_iast (pc := 67) (k := t) dX3_operate_67 hp.g7 rfl (by omega) ?_
    refine mv_goto (pc := 68) (tgt := 122) dX3_operate_68 (by decide) ?_
    refine mv_vret (pc := 122) dX3_operate_122 rfl (by decide) (by decide) (hQ _ ⟨?_, hf.up (by omega)⟩)
    unfold xs_wk
    rw [hcl, if_neg (by rw [hop5]; decide), if_pos hop5, xs_bc_beh hpw ht]
    exact rc_set 2 hr (by decide) (by decide) ht hn
  · -- j
    rw [hop5] at hop
    subst hop
    have ew : xs_wk nt π x t = if xs_busy nt π x t = true then x else xs_beh x t := by
      unfold xs_wk
      rw [hcl, if_neg (by rw [hop5]; decide), if_neg (by rw [hop5]; decide), if_pos hop5]
    rw [ew] at hQ
    refine mv_iload_n (pc := 0) dX3_operate_0 rfl ?_
    refine mv_lsw (pc := 1) (off := 70) (tgt := 71) dX3_operate_1 (by decide) (by decide) (by decide) ?_
    refine mv_aload_n (pc := 71) dX3_operate_71 rfl ?_
    refine mv_iload_n (pc := 72) dX3_operate_72 rfl ?_
    refine mv_cVi (pc := 73) dX3_operate_73 lk3_101 (congrArg Prod.fst hp.o) (c3_activeChildren K h ht) rfl rfl (Nat.le_of_ble_eq_true rfl) (by decide) (by decide) (fun r J ⟨hr, hJ⟩ => ?_)
    subst hJ
    subst hr
    refine mv_if_ne (pc := 76) (tgt := 122) dX3_operate_76 (by decide) (fun hb0 => ?_) (fun hb0 => ?_)
    · refine mv_vret (pc := 122) dX3_operate_122 rfl (by decide) (by decide) (hQ _ ⟨?_, rc_Fr.rf⟩)
      rw [if_pos (Classical.byContradiction fun q => hb0 ((xs_bs_busy hn).mpr q))]
      exact h
    · refine mv_aload_n (pc := 79) dX3_operate_79 rfl ?_
      refine mv_getR (pc := 80) (q := p + 6) dX3_operate_80 fl3_31 (fun _ _ => rfl) (congrArg Prod.fst hp.o) hp.f7 ?_
      refine mv_iload_n (pc := 83) dX3_operate_83 rfl ?_
      refine mv_dup2 (pc := 84) dX3_operate_84 rfl rfl ?_
      refine mv_ialdx (pc := 85) (x := x t 2) (k := t) dX3_operate_85 hp.g7 rfl (by omega) hbeh ?_
      refine mv_iconst (pc := 86) (v := 1) dX3_operate_86 (by decide) ?_
      refine mv_iadd (pc := 87) dX3_operate_87 ?_
      refine mv_iast (pc := 88) (k := t) dX3_operate_88 hp.g7 rfl (by omega) ?_
      refine mv_goto (pc := 89) (tgt := 122) dX3_operate_89 (by decide) ?_
      refine mv_vret (pc := 122) dX3_operate_122 rfl (by decide) (by decide) (hQ _ ⟨?_, rc_Fr.rf.up (by omega)⟩)
      rw [if_neg ((xs_bs_busy hn).mp hb0)]
      exact rc_set 2 h (by decide) (by decide) ht hn
  · -- x
    rw [hop5] at hop
    subst hop
    refine mv_iload_n (pc := 0) dX3_operate_0 rfl ?_
    refine mv_lsw (pc := 1) (off := 91) (tgt := 92) dX3_operate_1 (by decide) (by decide) (by decide) ?_
    refine mv_aload_n (pc := 92) dX3_operate_92 rfl ?_
    refine mv_iload_n (pc := 93) dX3_operate_93 rfl ?_
    refine mv_cVv (pc := 94) dX3_operate_94 lk3_134 (congrArg Prod.fst hp.o) (c3_askChildren K h ht) rfl rfl (Nat.le_of_ble_eq_true rfl) (by decide) (by decide) (fun J ⟨hr, hf⟩ => ?_)
    refine mv_aload_n (pc := 97) dX3_operate_97 rfl ?_
    refine mv_getR (pc := 98) (q := p + 6) dX3_operate_98 fl3_31 (fun _ _ => rfl) (congrArg Prod.fst hp.o) hp.f7 ?_
    refine mv_iload_n (pc := 101) dX3_operate_101 rfl ?_
    refine mv_dup2 (pc := 102) dX3_operate_102 rfl rfl ?_
    refine mv_ialdx (pc := 103) (x := xs_ask nt π x t t 2) (k := t) dX3_operate_103 hp.g7 rfl (by omega) ((hr.2.1 t ht).1 2 (by decide)) ?_
    refine mv_iconst (pc := 104) (v := 1) dX3_operate_104 (by decide) ?_
    refine mv_iadd (pc := 105) dX3_operate_105 ?_
    refine mv_iast (pc := 106) (k := t) dX3_operate_106 hp.g7 rfl (by omega) ?_
    refine mv_goto (pc := 107) (tgt := 122) dX3_operate_107 (by decide) ?_
    refine mv_vret (pc := 122) dX3_operate_122 rfl (by decide) (by decide) (hQ _ ⟨?_, hf.up (by omega)⟩)
    unfold xs_wk
    rw [hcl, if_neg (by rw [hop5]; decide), if_neg (by rw [hop5]; decide), if_neg (by rw [hop5]; decide), if_pos hop5, xs_ask_beh]
    exact rc_set 2 hr (by decide) (by decide) ht hn
theorem c3_operate {l : Launch} {D : va_G} {b0 n : Nat} {sh : mv_Sh} {I : mv_I} {R : mv_R} {p q nt t b s : Nat} {π x : xs_X} {op num : Int32} (K : rc_P sh R I p q nt π) (h : rc_R I p nt x) (hW : xs_W nt π x) (ht : t < nt) (h1 : x t 0 = 1) (hb : x t 2 = nI b) (hs : π t 1 = nI s) (hbs : b < s) (hs6 : s ≤ 6) (hop : op = π t (6 + 2 * b)) (hnm : num = π t (7 + 2 * b)) : mv_C l D b0 m3_operate (mv_rm 3) [.ref p, .int (nI t), .int op, .int num] n sh I R (mv_Pv n sh R (fun I' => rc_R I' p nt (xs_wk nt π x t) ∧ rc_Fr p I I')) := mv_C.of 0 (by decide) (by simp [Value.category]) rfl (e3_operate K h hW ht h1 hb hs hbs hs6 hop hnm (fun _ h => mv_Pv.mk h))
set_option maxHeartbeats 4000000 in
set_option maxRecDepth 100000 in
theorem e3_goOn {l : Launch} {D : va_G} {b0 n : Nat} {sh : mv_Sh} {I : mv_I} {R : mv_R} {Q : mv_Q} {p q nt t : Nat} {π x : xs_X} (K : rc_P sh R I p q nt π) (h : rc_R I p nt x) (hW : xs_W nt π x) (ht : t < nt) (h1 : x t 0 = 1) (hQ : ∀ I', (rc_R I' p nt (xs_mo nt π x t) ∧ rc_Fr p I I') → Q none n sh I' R) : mv_E l D b0 m3_goOn (mv_rm 4) Q 0 [.ref p, .int (nI t), .null] [] 0 0 n sh I R := by
  obtain ⟨hp, hq, hpl, hdj, hpc, hpw⟩ := id K
  have hn := hpw.2.1
  obtain ⟨⟨τ, hτ2, hτ⟩, ⟨e, he6, he⟩, -, hT⟩ := id hW
  obtain ⟨-, -, ⟨b, s, hbs, hs6, hs, hb, -⟩, -⟩ := hT t ht
  have hbeh : I (p + 6) t = x t 2 := (h.2.1 t ht).1 2 (by decide)
  have hask : I (p + 9) t = x t 5 := (h.2.1 t ht).1 5 (by decide)
  have hcl : (π t 1).toNatClampNeg = s := by rw [hs]; exact nI_clamp (by omega)
  have rest : ¬ (x t 5 = 1 ∧ π t 3 ≤ x t 2) → mv_E l D b0 m3_goOn (mv_rm 4) Q 37 [.ref p, .int (nI t), .null] [] 0 0 n sh I R := by
    intro hno
    have well : b = s → mv_E l D b0 m3_goOn (mv_rm 4) Q 66 [.ref p, .int (nI t), .null] [] 0 0 n sh I R := by
      intro hbs2
      refine mv_aload_n (pc := 66) dX3_goOn_66 rfl ?_
      refine mv_iload_n (pc := 67) dX3_goOn_67 rfl ?_
      refine mv_iconst (pc := 68) (v := 0) dX3_goOn_68 (by decide) ?_
      refine mv_cVv (pc := 69) dX3_goOn_69 lk3_94 (congrArg Prod.fst hp.o) (c3_close K h ht he he6) rfl rfl (Nat.le_of_ble_eq_true rfl) (by decide) (by decide) (fun J ⟨hr, hf⟩ => ?_)
      refine mv_goto (pc := 72) (tgt := 110) dX3_goOn_72 (by decide) ?_
      refine mv_vret (pc := 110) dX3_goOn_110 rfl (by decide) (by decide) (hQ _ ⟨?_, hf⟩)
      unfold xs_mo
      rw [if_neg hno, if_pos (by rw [hb, hs, hbs2])]
      exact hr
    refine mv_aload_n (pc := 37) dX3_goOn_37 rfl ?_
    refine mv_getR (pc := 38) (q := p + 6) dX3_goOn_38 fl3_31 (fun _ _ => rfl) (congrArg Prod.fst hp.o) hp.f7 ?_
    refine mv_iload_n (pc := 41) dX3_goOn_41 rfl ?_
    refine mv_ialdx (pc := 42) (x := nI b) (k := t) dX3_goOn_42 hp.g7 rfl (by omega) (hbeh.trans hb) ?_
    refine mv_aload_n (pc := 43) dX3_goOn_43 rfl ?_
    refine mv_getR (pc := 44) (q := q) dX3_goOn_44 fl3_65 (fun _ _ => rfl) (congrArg Prod.fst hp.o) hpl ?_
    refine mv_getR (pc := 47) (q := q + 2) dX3_goOn_47 fl3_115 (fun _ _ => rfl) (congrArg Prod.fst hq.o) hq.f2 ?_
    refine mv_iload_n (pc := 50) dX3_goOn_50 rfl ?_
    refine mv_ialdx (pc := 51) (x := nI s) (k := t) dX3_goOn_51 hq.g2 rfl (by omega) ((hpc.2 t ht).2.1.trans hs) ?_
    refine mv_icmp_ge (pc := 52) (tgt := 66) dX3_goOn_52 (by decide) (fun hc => ?_) (fun hc => ?_)
    · exact well (by have := (nI_leI (by omega) (by omega)).mp hc; omega)
    · have hlt : b < s := by
        rcases Nat.lt_or_ge b s with q | q
        · exact q
        · exact absurd (nI_le q (by omega)) hc
      refine mv_aload_n (pc := 55) dX3_goOn_55 rfl ?_
      refine mv_getR (pc := 56) (q := p + 6) dX3_goOn_56 fl3_31 (fun _ _ => rfl) (congrArg Prod.fst hp.o) hp.f7 ?_
      refine mv_iload_n (pc := 59) dX3_goOn_59 rfl ?_
      refine mv_ialdx (pc := 60) (x := nI b) (k := t) dX3_goOn_60 hp.g7 rfl (by omega) (hbeh.trans hb) ?_
      refine mv_bipush (pc := 61) (v := 6) dX3_goOn_61 (by decide) ?_
      refine mv_icmp_lt (pc := 63) (tgt := 75) dX3_goOn_63 (by decide) (fun hc2 => ?_) (fun hc2 => ?_)
      · refine mv_iload_n (pc := 75) dX3_goOn_75 rfl ?_
        refine mv_bipush (pc := 76) (v := 6) dX3_goOn_76 (by decide) ?_
        refine mv_imul (pc := 78) dX3_goOn_78 ?_
        refine mv_aload_n (pc := 79) dX3_goOn_79 rfl ?_
        refine mv_getR (pc := 80) (q := p + 6) dX3_goOn_80 fl3_31 (fun _ _ => rfl) (congrArg Prod.fst hp.o) hp.f7 ?_
        refine mv_iload_n (pc := 83) dX3_goOn_83 rfl ?_
        refine mv_ialdx (pc := 84) (x := nI b) (k := t) dX3_goOn_84 hp.g7 rfl (by omega) (hbeh.trans hb) ?_
        refine mv_iadd (pc := 85) dX3_goOn_85 ?_
        refine mv_top (y := nI (6 * t + b)) (mv_ix t 6 b) ?_
        refine mv_istore_n (pc := 86) dX3_goOn_86 (by decide) ?_
        refine mv_aload_n (pc := 87) dX3_goOn_87 rfl ?_
        refine mv_iload_n (pc := 88) dX3_goOn_88 rfl ?_
        refine mv_aload_n (pc := 89) dX3_goOn_89 rfl ?_
        refine mv_getR (pc := 90) (q := q) dX3_goOn_90 fl3_65 (fun _ _ => rfl) (congrArg Prod.fst hp.o) hpl ?_
        refine mv_getR (pc := 93) (q := q + 3) dX3_goOn_93 fl3_118 (fun _ _ => rfl) (congrArg Prod.fst hq.o) hq.f3 ?_
        refine mv_iload_n (pc := 96) dX3_goOn_96 rfl ?_
        refine mv_ialdx (pc := 97) (x := π t (6 + 2 * b)) (k := 6 * t + b) dX3_goOn_97 hq.g3 rfl (by omega) ((hpc.2 t ht).2.2.2.2.2.2 b (by omega)).1 ?_
        refine mv_aload_n (pc := 98) dX3_goOn_98 rfl ?_
        refine mv_getR (pc := 99) (q := q) dX3_goOn_99 fl3_65 (fun _ _ => rfl) (congrArg Prod.fst hp.o) hpl ?_
        refine mv_getR (pc := 102) (q := q + 4) dX3_goOn_102 fl3_121 (fun _ _ => rfl) (congrArg Prod.fst hq.o) hq.f4 ?_
        refine mv_iload_n (pc := 105) dX3_goOn_105 rfl ?_
        refine mv_ialdx (pc := 106) (x := π t (7 + 2 * b)) (k := 6 * t + b) dX3_goOn_106 hq.g4 rfl (by omega) ((hpc.2 t ht).2.2.2.2.2.2 b (by omega)).2 ?_
        refine mv_cVv (pc := 107) dX3_goOn_107 lk3_124 (congrArg Prod.fst hp.o) (c3_operate K h hW ht h1 hb hs hlt hs6 rfl rfl) rfl rfl (Nat.le_of_ble_eq_true rfl) (by decide) (by decide) (fun J ⟨hr, hf⟩ => ?_)
        refine mv_vret (pc := 110) dX3_goOn_110 rfl (by decide) (by decide) (hQ _ ⟨?_, hf⟩)
        unfold xs_mo
        rw [if_neg hno, if_neg (by rw [hb, hs, nI_eq (by omega) (by omega)]; omega)]
        exact hr
      · exact absurd (nI_lt (b := 6) (by omega) (by decide)) hc2
  refine mv_aload_n (pc := 0) dX3_goOn_0 rfl ?_
  refine mv_getR (pc := 1) (q := p + 9) dX3_goOn_1 fl3_40 (fun _ _ => rfl) (congrArg Prod.fst hp.o) hp.f10 ?_
  refine mv_iload_n (pc := 4) dX3_goOn_4 rfl ?_
  refine mv_ialdx (pc := 5) (x := x t 5) (k := t) dX3_goOn_5 hp.g10 rfl (by omega) hask ?_
  refine mv_iconst (pc := 6) (v := 1) dX3_goOn_6 (by decide) ?_
  refine mv_icmp_ne (pc := 7) (tgt := 37) dX3_goOn_7 (by decide) (fun hc => ?_) (fun hc => ?_)
  · exact rest (fun q => hc q.1)
  · refine mv_aload_n (pc := 10) dX3_goOn_10 rfl ?_
    refine mv_getR (pc := 11) (q := p + 6) dX3_goOn_11 fl3_31 (fun _ _ => rfl) (congrArg Prod.fst hp.o) hp.f7 ?_
    refine mv_iload_n (pc := 14) dX3_goOn_14 rfl ?_
    refine mv_ialdx (pc := 15) (x := x t 2) (k := t) dX3_goOn_15 hp.g7 rfl (by omega) hbeh ?_
    refine mv_aload_n (pc := 16) dX3_goOn_16 rfl ?_
    refine mv_getR (pc := 17) (q := q) dX3_goOn_17 fl3_65 (fun _ _ => rfl) (congrArg Prod.fst hp.o) hpl ?_
    refine mv_getR (pc := 20) (q := q + 6) dX3_goOn_20 fl3_112 (fun _ _ => rfl) (congrArg Prod.fst hq.o) hq.f6 ?_
    refine mv_iload_n (pc := 23) dX3_goOn_23 rfl ?_
    refine mv_ialdx (pc := 24) (x := π t 3) (k := t) dX3_goOn_24 hq.g6 rfl (by omega) (hpc.2 t ht).2.2.2.1 ?_
    refine mv_icmp_lt (pc := 25) (tgt := 37) dX3_goOn_25 (by decide) (fun hc2 => ?_) (fun hc2 => ?_)
    · exact rest (fun q => absurd q.2 (Int32.not_le.mpr hc2))
    · refine mv_aload_n (pc := 28) dX3_goOn_28 rfl ?_
      refine mv_iload_n (pc := 29) dX3_goOn_29 rfl ?_
      refine mv_iconst (pc := 30) (v := 2) dX3_goOn_30 (by decide) ?_
      refine mv_cVv (pc := 31) dX3_goOn_31 lk3_94 (congrArg Prod.fst hp.o) (c3_close K h ht he he6) rfl rfl (Nat.le_of_ble_eq_true rfl) (by decide) (by decide) (fun J ⟨hr, hf⟩ => ?_)
      refine mv_goto (pc := 34) (tgt := 110) dX3_goOn_34 (by decide) ?_
      refine mv_vret (pc := 110) dX3_goOn_110 rfl (by decide) (by decide) (hQ _ ⟨?_, hf⟩)
      unfold xs_mo
      rw [if_pos ⟨hc, Int32.not_lt.mp hc2⟩]
      exact hr
theorem c3_goOn {l : Launch} {D : va_G} {b0 n : Nat} {sh : mv_Sh} {I : mv_I} {R : mv_R} {p q nt t : Nat} {π x : xs_X} (K : rc_P sh R I p q nt π) (h : rc_R I p nt x) (hW : xs_W nt π x) (ht : t < nt) (h1 : x t 0 = 1) : mv_C l D b0 m3_goOn (mv_rm 4) [.ref p, .int (nI t)] n sh I R (mv_Pv n sh R (fun I' => rc_R I' p nt (xs_mo nt π x t) ∧ rc_Fr p I I')) := mv_C.of 1 (by decide) (by simp [Value.category]) rfl (e3_goOn K h hW ht h1 (fun _ h => mv_Pv.mk h))
end
section
/-! what always holds of the tasks goes on to hold -/
theorem xs_W.one {n : Nat} {π x y : xs_X} (h : xs_W n π x) (t : Nat) (e8 : y 8 = x 8) (eo : ∀ u, u < n → u ≠ t → y u = x u) (hT : t < n → xs_T (π t) (y t)) (h7 : y 0 7 = 0) : xs_W n π y := by
  obtain ⟨h1, h2, h3, h4⟩ := h
  refine ⟨by rw [e8]; exact h1, by rw [e8]; exact h2, h7, fun u hu => ?_⟩
  by_cases hut : u = t
  · subst hut; exact hT hu
  · rw [eo u hu hut]; exact h4 u hu
/-- a row with some fields new: what is asked of each -/
theorem xs_T.of {π r r' : Nat → Int32} (h : xs_T π r)
    (a0 : (r' 0 = r 0 ∧ r' 4 = r 4 ∧ r' 8 = r 8) ∨ ((∃ h, h ≤ 3 ∧ r' 0 = nI h ∧ (h = 0 ↔ r' 4 = 0) ∧ (h = 3 ↔ r' 8 ≠ -9)) ∧ (r' 4 = 9999 ∨ ∃ d, d < 9999 ∧ r' 4 = nI d) ∧ (r' 8 = -9 ∨ ∃ e, e < 9999 ∧ r' 8 = nI e)))
    (a9 : r' 9 = r 9 ∨ ∃ c, c ≤ 8 ∧ r' 9 = nI c)
    (a2 : (r' 2 = r 2 ∧ r' 3 = r 3) ∨ (∃ b s, b ≤ s ∧ s ≤ 6 ∧ π 1 = nI s ∧ r' 2 = nI b ∧ (r' 3 = 0 ∨ (b < s ∧ π (6 + 2 * b) = 119 ∧ ∃ w k, w < k ∧ k ≤ 9 ∧ r' 3 = nI w ∧ π (7 + 2 * b) = nI k))))
    (a5 : r' 5 = r 5 ∨ r' 5 = 1)
    (a6 : r' 6 = r 6 ∨ ∃ c k, c ≤ k ∧ k ≤ 5 ∧ r' 6 = nI c ∧ π 4 = nI k)
    (a7 : r' 7 = r 7 ∨ ∃ b, b < 9999 ∧ r' 7 = nI b) : xs_T π r' := by
  obtain ⟨H0, H9, H2, H5, H6, H4, H8, H7⟩ := h
  refine ⟨?_, ?_, ?_, ?_, ?_, ?_, ?_, ?_⟩
  · rcases a0 with ⟨q0, q4, q8⟩ | q
    · rw [q0, q4, q8]; exact H0
    · exact q.1
  · rcases a9 with q | q
    · rw [q]; exact H9
    · exact q
  · rcases a2 with ⟨q1, q2⟩ | q
    · rw [q1, q2]; exact H2
    · exact q
  · rcases a5 with q | q
    · rw [q]; exact H5
    · exact Or.inr q
  · rcases a6 with q | q
    · rw [q]; exact H6
    · exact q
  · rcases a0 with ⟨q0, q4, q8⟩ | q
    · rw [q4]; exact H4
    · exact q.2.1
  · rcases a0 with ⟨q0, q4, q8⟩ | q
    · rw [q8]; exact H8
    · exact q.2.2
  · rcases a7 with q | q
    · rw [q]; exact H7
    · exact q
theorem xs_W.tr {n t : Nat} {π x : xs_X} {w : Int32} (h : xs_W n π x) (hn : n ≤ 8) : xs_W n π (xs_tr x t w) := by
  obtain ⟨⟨τ, h1, h1'⟩, ⟨e, h2, h2'⟩, h3, h4⟩ := h
  refine ⟨⟨τ, h1, ?_⟩, ?_, by rw [xs_tr_lo (by omega)]; exact h3, fun u hu => by rw [xs_tr_lo (by omega)]; exact h4 u hu⟩
  · unfold xs_tr
    split
    · have : ¬ 8 = 9 + (x 8 1).toNatClampNeg := by omega
      simp only [mv_up, this, false_and, if_false]
      simp [h1']
    · exact h1'
  · unfold xs_tr
    split
    · rename_i hlt
      rw [h2'] at hlt
      have := (nI_ltI (b := 60) (by omega) (by decide)).mp hlt
      exact ⟨e + 1, by omega, by rw [mv_upe, h2', nI_1]⟩
    · exact ⟨e, h2, h2'⟩
theorem xs_tr_80 {x : xs_X} {t : Nat} {w : Int32} : xs_tr x t w 8 0 = x 8 0 := by
  unfold xs_tr
  split
  · have : ¬ 8 = 9 + (x 8 1).toNatClampNeg := by omega
    simp [mv_up, this]
  · rfl
theorem xs_W.ask {n t : Nat} {π x : xs_X} (h : xs_W n π x) (hn : n ≤ 8) : xs_W n π (xs_ask n π x t) := by
  obtain ⟨h1, h2, h3, h4⟩ := h
  have e8 : xs_ask n π x t 8 = x 8 := xs_ask_hi hn
  have e : ∀ u k, k ≠ 5 → xs_ask n π x t u k = x u k := fun u k hk => by simp [xs_ask, hk]
  refine ⟨by rw [e8]; exact h1, by rw [e8]; exact h2, by rw [e 0 7 (by decide)]; exact h3, fun u hu => ?_⟩
  refine (h4 u hu).of (Or.inl ⟨e u 0 (by decide), e u 4 (by decide), e u 8 (by decide)⟩) (Or.inl (e u 9 (by decide))) (Or.inl ⟨e u 2 (by decide), e u 3 (by decide)⟩) ?_ (Or.inl (e u 6 (by decide))) (Or.inl (e u 7 (by decide)))
  unfold xs_ask
  split
  · exact Or.inr rfl
  · exact Or.inl rfl
theorem xs_W.cd {n t : Nat} {π x : xs_X} {c : Int32} (h : xs_W n π x) (ht : t < n) (hn : n ≤ 8) : xs_W n π (xs_cd x t c) := by
  refine h.one t (xs_cd_ne (by omega)) (fun u _ hu => xs_cd_ne hu) (fun _ => ?_) ?_
  · obtain ⟨c0, hc8, hc⟩ := (h.2.2.2 t ht).2.1
    exact (h.2.2.2 t ht).of (Or.inl ⟨xs_cd_col (by omega), xs_cd_col (by omega), xs_cd_col (by omega)⟩) (Or.inr (xs_cd_many hc hc8)) (Or.inl ⟨xs_cd_col (by omega), xs_cd_col (by omega)⟩) (Or.inl (xs_cd_col (by omega))) (Or.inl (xs_cd_col (by omega))) (Or.inl (xs_cd_col (by omega)))
  · by_cases h0 : (0 : Nat) = t
    · subst h0; rw [xs_cd_col (by omega)]; exact h.2.2.1
    · rw [xs_cd_ne h0]; exact h.2.2.1
theorem xs_T.run {π r : Nat → Int32} (h : xs_T π r) {a : Nat} (ha : r 0 = nI a) (a3 : a ≤ 3) : (a = 0 ↔ r 4 = 0) ∧ (a = 3 ↔ r 8 ≠ -9) := by
  obtain ⟨⟨b, b3, b0, b4, b8⟩, -⟩ := h
  have : b = a := (nI_eq (by omega) (by omega)).mp (b0.symm.trans ha)
  subst this
  exact ⟨b4, b8⟩
/-- it closes: from running or closing -/
theorem xs_W.cl0 {n t : Nat} {π x : xs_X} {v : Int32} (h : xs_W n π x) (ht : t < n) (hn : n ≤ 8) (h1 : x t 0 = 1 ∨ x t 0 = 2) : xs_W n π (mv_up (mv_up x t 0 2) t 1 v) := by
  have e : ∀ k, k ≠ 0 → k ≠ 1 → mv_up (mv_up x t 0 2) t 1 v t k = x t k := fun k a b => by simp [mv_up, a, b]
  refine h.one t (by rw [mv_upN 8 (by omega), mv_upN 8 (by omega)]) (fun u _ hu => by rw [mv_upN u hu, mv_upN u hu]) (fun _ => ?_) ?_
  · have h48 : x t 4 ≠ 0 ∧ x t 8 = -9 := by
      rcases h1 with q | q
      · have := (h.2.2.2 t ht).run (a := 1) q (by decide)
        exact ⟨fun z => absurd (this.1.mpr z) (by decide), Classical.byContradiction fun z => absurd (this.2.mpr z) (by decide)⟩
      · have := (h.2.2.2 t ht).run (a := 2) q (by decide)
        exact ⟨fun z => absurd (this.1.mpr z) (by decide), Classical.byContradiction fun z => absurd (this.2.mpr z) (by decide)⟩
    refine (h.2.2.2 t ht).of (Or.inr ⟨⟨2, by decide, by simp [mv_up]; rfl, ?_, ?_⟩, ?_, ?_⟩) (Or.inl (e 9 (by decide) (by decide))) (Or.inl ⟨e 2 (by decide) (by decide), e 3 (by decide) (by decide)⟩) (Or.inl (e 5 (by decide) (by decide))) (Or.inl (e 6 (by decide) (by decide))) (Or.inl (e 7 (by decide) (by decide)))
    · rw [e 4 (by decide) (by decide)]
      exact ⟨fun q => absurd q (by decide), fun q => absurd q h48.1⟩
    · rw [e 8 (by decide) (by decide)]
      exact ⟨fun q => absurd q (by decide), fun q => absurd h48.2 q⟩
    · rw [e 4 (by decide) (by decide)]; exact (h.2.2.2 t ht).2.2.2.2.2.1
    · rw [e 8 (by decide) (by decide)]; exact (h.2.2.2 t ht).2.2.2.2.2.2.1
  · by_cases h0 : (0 : Nat) = t
    · subst h0; rw [e 7 (by decide) (by decide)]; exact h.2.2.1
    · rw [mv_upN 0 h0, mv_upN 0 h0]; exact h.2.2.1
theorem xs_W.cl {n t : Nat} {π x : xs_X} {o : Int32} (h : xs_W n π x) (ht : t < n) (hn : n ≤ 8) (h1 : x t 0 = 1 ∨ x t 0 = 2) : xs_W n π (xs_cl n π x t o) := by
  unfold xs_cl
  refine xs_W.tr ?_ hn
  split
  · exact (h.cl0 ht hn h1).ask hn
  · exact h.cl0 ht hn h1
theorem xs_cl_80 {n t : Nat} {π x : xs_X} {o : Int32} (ht : t < 8) (hn : n ≤ 8) : xs_cl n π x t o 8 0 = x 8 0 := by
  unfold xs_cl
  rw [xs_tr_80]
  split
  · rw [xs_ask_hi hn, mv_upN 8 (by omega), mv_upN 8 (by omega)]
  · rw [mv_upN 8 (by omega), mv_upN 8 (by omega)]
theorem xs_W.bg {n t u : Nat} {π x : xs_X} (h : xs_W n π x) (hp : pl_W n π) (ht : t < n) (hu : u < n) (h0 : x t 0 = 0) (h4 : x u 4 ≠ 0) (ht0 : 1 ≤ t) : xs_W n π (xs_bg π x t u) := by
  have hn := hp.2.1
  unfold xs_bg
  refine xs_W.tr ?_ hn
  have e : ∀ k, k ≠ 0 → k ≠ 4 → k ≠ 7 → mv_up (mv_up (mv_up x t 0 1) t 4 (xs_due π x t u)) t 7 (x 8 0) t k = x t k := fun k a b c => by simp [mv_up, a, b, c]
  have e4 : mv_up (mv_up (mv_up x t 0 1) t 4 (xs_due π x t u)) t 7 (x 8 0) t 4 = xs_due π x t u := by simp [mv_up]
  obtain ⟨⟨τ, hτ2, hτ⟩, -, h07, hT⟩ := id h
  have hdd : (if π t 2 = 99 then (9999 : Int32) else x 8 0 + π t 2) = 9999 ∨ ∃ d, 0 < d ∧ d < 9999 ∧ (if π t 2 = 99 then (9999 : Int32) else x 8 0 + π t 2) = nI d := by
    rcases (hp.2.2.2 t ht).2.2.1 with q | ⟨d, d1, d2, d3⟩
    · exact Or.inl (by rw [if_pos q])
    · by_cases q : π t 2 = 99
      · exact Or.inl (by rw [if_pos q])
      · exact Or.inr ⟨τ + d, by omega, by omega, by rw [if_neg q, hτ, d3, nI_add]⟩
  have hdue : (xs_due π x t u = 9999 ∨ ∃ d, d < 9999 ∧ xs_due π x t u = nI d) ∧ xs_due π x t u ≠ 0 := by
    have key : ∀ z : Int32, (z = 9999 ∨ ∃ d, 0 < d ∧ d < 9999 ∧ z = nI d) → (z = 9999 ∨ ∃ d, d < 9999 ∧ z = nI d) ∧ z ≠ 0 := by
      rintro z (q | ⟨d, d1, d2, d3⟩)
      · exact ⟨Or.inl q, by rw [q]; decide⟩
      · exact ⟨Or.inr ⟨d, d2, d3⟩, by rw [d3]; exact nI_ne0 d1 (by omega)⟩
    apply key
    unfold xs_due
    generalize (if π t 2 = 99 then (9999 : Int32) else x 8 0 + π t 2) = z at hdd ⊢
    split
    · exact hdd
    · rcases (hT u hu).2.2.2.2.2.1 with q | ⟨d, d1, d2⟩
      · exact Or.inl q
      · refine Or.inr ⟨d, ?_, d1, d2⟩
        rcases Nat.eq_zero_or_pos d with z | z
        · subst z; exact absurd d2 h4
        · exact z
  have h48 := ((hT t ht).run (a := 0) h0 (by decide)).2
  have h8 : x t 8 = -9 := Classical.byContradiction fun z => absurd (h48.mpr z) (by decide)
  refine h.one t (by rw [mv_upN 8 (by omega), mv_upN 8 (by omega), mv_upN 8 (by omega)]) (fun v _ hv => by rw [mv_upN v hv, mv_upN v hv, mv_upN v hv]) (fun _ => ?_) ?_
  · refine (hT t ht).of (Or.inr ⟨⟨1, by decide, by simp [mv_up]; rfl, ?_, ?_⟩, ?_, ?_⟩) (Or.inl (e 9 (by decide) (by decide) (by decide))) (Or.inl ⟨e 2 (by decide) (by decide) (by decide), e 3 (by decide) (by decide) (by decide)⟩) (Or.inl (e 5 (by decide) (by decide) (by decide))) (Or.inl (e 6 (by decide) (by decide) (by decide))) (Or.inr ⟨τ, by omega, by rw [mv_upe]; exact hτ⟩)
    · rw [e4]
      exact ⟨fun q => absurd q (by decide), fun q => absurd q hdue.2⟩
    · rw [e 8 (by decide) (by decide) (by decide)]
      exact ⟨fun q => absurd q (by decide), fun q => absurd h8 q⟩
    · rw [e4]; exact hdue.1
    · rw [e 8 (by decide) (by decide) (by decide)]; exact Or.inl h8
  · rw [mv_upN 0 (by omega), mv_upN 0 (by omega), mv_upN 0 (by omega)]; exact h07
theorem xs_bg_80 {t u : Nat} {π x : xs_X} (ht : t < 8) : xs_bg π x t u 8 0 = x 8 0 := by
  unfold xs_bg
  rw [xs_tr_80, mv_upN 8 (by omega), mv_upN 8 (by omega), mv_upN 8 (by omega)]
theorem xs_W.bc {n t : Nat} {π x : xs_X} (h : xs_W n π x) (hp : pl_W n π) (ht : t < n) (h4 : x t 4 ≠ 0) : xs_W n π (xs_bc n π x t) ∧ xs_bc n π x t 8 0 = x 8 0 := by
  have hn := hp.2.1
  unfold xs_bc
  cases hf : xs_fc n π x t with
  | none => exact ⟨h, rfl⟩
  | some c =>
    have hc := List.find?_range_eq_some.mp hf
    have hc1 := of_decide_eq_true hc.1
    have hcn : c < n := List.mem_range.mp hc.2.1
    exact ⟨h.bg hp hcn ht hc1.2.2 h4 hc1.1, xs_bg_80 (by omega)⟩
/-- one more operation is behind it, nothing is half worked -/
theorem xs_W.beh {n t b s : Nat} {π x : xs_X} (h : xs_W n π x) (ht : t < n) (hn : n ≤ 8) (hb : x t 2 = nI b) (hs : π t 1 = nI s) (hbs : b < s) (hs6 : s ≤ 6) (h3 : x t 3 = 0) : xs_W n π (xs_beh x t) := by
  unfold xs_beh
  have e : ∀ k, k ≠ 2 → mv_up x t 2 (x t 2 + 1) t k = x t k := fun k a => by simp [mv_up, a]
  refine h.one t (by rw [mv_upN 8 (by omega)]) (fun u _ hu => by rw [mv_upN u hu]) (fun _ => ?_) ?_
  · exact (h.2.2.2 t ht).of (Or.inl ⟨e 0 (by decide), e 4 (by decide), e 8 (by decide)⟩) (Or.inl (e 9 (by decide))) (Or.inr ⟨b + 1, s, by omega, hs6, hs, by rw [mv_upe, hb, nI_1], Or.inl (by rw [e 3 (by decide)]; exact h3)⟩) (Or.inl (e 5 (by decide))) (Or.inl (e 6 (by decide))) (Or.inl (e 7 (by decide)))
  · by_cases h0 : (0 : Nat) = t
    · subst h0; rw [e 7 (by decide)]; exact h.2.2.1
    · rw [mv_upN 0 h0]; exact h.2.2.1
theorem xs_W.wkd {n t : Nat} {π x : xs_X} {v : Int32} (h : xs_W n π x) (ht : t < n) (hn : n ≤ 8) (hv : ∃ b s, b ≤ s ∧ s ≤ 6 ∧ π t 1 = nI s ∧ x t 2 = nI b ∧ (v = 0 ∨ (b < s ∧ π t (6 + 2 * b) = 119 ∧ ∃ w k, w < k ∧ k ≤ 9 ∧ v = nI w ∧ π t (7 + 2 * b) = nI k))) : xs_W n π (mv_up x t 3 v) := by
  have e : ∀ k, k ≠ 3 → mv_up x t 3 v t k = x t k := fun k a => by simp [mv_up, a]
  refine h.one t (by rw [mv_upN 8 (by omega)]) (fun u _ hu => by rw [mv_upN u hu]) (fun _ => ?_) ?_
  · refine (h.2.2.2 t ht).of (Or.inl ⟨e 0 (by decide), e 4 (by decide), e 8 (by decide)⟩) (Or.inl (e 9 (by decide))) (Or.inr ?_) (Or.inl (e 5 (by decide))) (Or.inl (e 6 (by decide))) (Or.inl (e 7 (by decide)))
    rw [e 2 (by decide), mv_upe]; exact hv
  · by_cases h0 : (0 : Nat) = t
    · subst h0; rw [e 7 (by decide)]; exact h.2.2.1
    · rw [mv_upN 0 h0]; exact h.2.2.1
theorem xs_W.wk {n t b s : Nat} {π x : xs_X} (h : xs_W n π x) (hp : pl_W n π) (ht : t < n) (h1 : x t 0 = 1) (hb : x t 2 = nI b) (hs : π t 1 = nI s) (hbs : b < s) (hs6 : s ≤ 6) : xs_W n π (xs_wk n π x t) ∧ xs_wk n π x t 8 0 = x 8 0 := by
  have hn := hp.2.1
  have hcl : (x t 2).toNatClampNeg = b := by rw [hb]; exact nI_clamp (by omega)
  have hrun := (h.2.2.2 t ht).run (a := 1) h1 (by decide)
  have h4 : x t 4 ≠ 0 := fun z => absurd (hrun.1.mpr z) (by decide)
  obtain ⟨b', s', hbs', hs6', hs', hb', hw⟩ := (h.2.2.2 t ht).2.2.1
  have ebb : b' = b := (nI_eq (by omega) (by omega)).mp (hb'.symm.trans hb)
  subst ebb
  have h3 : ¬ π t (6 + 2 * b') = 119 → x t 3 = 0 := fun q => hw.resolve_right fun z => q z.2.1
  unfold xs_wk
  rw [hcl]
  split
  · rename_i h119
    obtain ⟨s2, hs26, hs2, hops⟩ := (hp.2.2.2 t ht).2.1
    have es : s2 = s := (nI_eq (by omega) (by omega)).mp (hs2.symm.trans hs)
    subst es
    have hk : ∃ k, 1 ≤ k ∧ k ≤ 9 ∧ π t (7 + 2 * b') = nI k := by
      rcases hops b' hbs with ⟨-, q⟩ | q | q | q
      · exact q
      · rw [q] at h119; exact absurd h119 (by decide)
      · rw [q] at h119; exact absurd h119 (by decide)
      · rw [q] at h119; exact absurd h119 (by decide)
    obtain ⟨k, k1, k9, hk⟩ := hk
    have hwl : ∃ w, w < k ∧ x t 3 = nI w := by
      rcases hw with q | ⟨-, -, w, k', q1, q2, q3, q4⟩
      · exact ⟨0, by omega, q⟩
      · have : k' = k := (nI_eq (by omega) (by omega)).mp (q4.symm.trans hk)
        exact ⟨w, by omega, q3⟩
    obtain ⟨w, hwk, hw3⟩ := hwl
    split
    · have h0 := h.wkd (v := 0) ht hn ⟨b', s2, by omega, hs6, hs, hb, Or.inl rfl⟩
      exact ⟨h0.beh ht hn (by simp [mv_up]; exact hb) hs hbs hs6 (by simp [mv_up]), by simp only [xs_beh]; rw [mv_upN 8 (by omega), mv_upN 8 (by omega)]⟩
    · rename_i hne
      have : w + 1 ≠ k := fun q => hne (by rw [hw3, hk, nI_1, q])
      exact ⟨h.wkd ht hn ⟨b', s2, by omega, hs6, hs, hb, Or.inr ⟨hbs, h119, w + 1, k, by omega, k9, by rw [hw3, nI_1], hk⟩⟩, by rw [mv_upN 8 (by omega)]⟩
  · rename_i h119
    have hbe := h.beh ht hn hb hs hbs hs6 (h3 h119)
    have e80 : xs_beh x t 8 0 = x 8 0 := by unfold xs_beh; rw [mv_upN 8 (by omega)]
    split
    · have := hbe.bc hp ht (by unfold xs_beh; simp [mv_up]; exact h4)
      exact ⟨this.1, this.2.trans e80⟩
    · split
      · split
        · exact ⟨h, rfl⟩
        · exact ⟨hbe, e80⟩
      · split
        · exact ⟨hbe.ask hn, by rw [xs_ask_hi hn]; exact e80⟩
        · exact ⟨(h.cd ht hn).cl ht hn (Or.inl (by rw [xs_cd_col (by omega)]; exact h1)), by rw [xs_cl_80 (by omega) hn, xs_cd_ne (by omega)]⟩
theorem xs_W.mo {n t : Nat} {π x : xs_X} (h : xs_W n π x) (hp : pl_W n π) (ht : t < n) (h1 : x t 0 = 1) : xs_W n π (xs_mo n π x t) ∧ xs_mo n π x t 8 0 = x 8 0 := by
  have hn := hp.2.1
  obtain ⟨b, s, hbs, hs6, hs, hb, -⟩ := (h.2.2.2 t ht).2.2.1
  unfold xs_mo
  split
  · exact ⟨h.cl ht hn (Or.inl h1), xs_cl_80 (by omega) hn⟩
  · split
    · exact ⟨h.cl ht hn (Or.inl h1), xs_cl_80 (by omega) hn⟩
    · rename_i hne
      refine h.wk hp ht h1 hb hs ?_ hs6
      have : b ≠ s := fun q => hne (by rw [hb, hs, q])
      omega
theorem xs_gl_ne {x : xs_X} {t u v : Nat} (h : v ≠ u) : ∀ k, xs_gl x t u k v = x v
  | 0 => rfl
  | k + 1 => by
    show xs_cd _ u _ v = x v
    rw [xs_cd_ne h, xs_gl_ne h k]
theorem xs_W.gl {n t u : Nat} {π x : xs_X} (h : xs_W n π x) (hu : u < n) (hn : n ≤ 8) : ∀ k, xs_W n π (xs_gl x t u k)
  | 0 => h
  | k + 1 => (xs_W.gl h hu hn k).cd hu hn
theorem xs_gl_col {x : xs_X} {t u j : Nat} (h : j < 9) : ∀ k, xs_gl x t u k u j = x u j
  | 0 => rfl
  | k + 1 => by
    show xs_cd _ u _ u j = x u j
    rw [xs_cd_col h, xs_gl_col h k]
theorem xs_W.tf {n u : Nat} {π x : xs_X} (h : xs_W n π x) (hu : u < n) (hn : n ≤ 8) : xs_W n π (xs_tf n π x u) ∧ xs_tf n π x u 8 0 = x 8 0 := by
  unfold xs_tf
  split
  · rename_i q
    exact ⟨h.cl hu hn (Or.inl q.1), xs_cl_80 (by omega) hn⟩
  · split
    · have e : ∀ k, k ≠ 1 → mv_up x u 1 1 u k = x u k := fun k a => by simp [mv_up, a]
      refine ⟨xs_W.ask (h.one u (by rw [mv_upN 8 (by omega)]) (fun v _ hv => by rw [mv_upN v hv]) (fun _ => ?_) ?_) hn, by rw [xs_ask_hi hn, mv_upN 8 (by omega)]⟩
      · exact (h.2.2.2 u hu).of (Or.inl ⟨e 0 (by decide), e 4 (by decide), e 8 (by decide)⟩) (Or.inl (e 9 (by decide))) (Or.inl ⟨e 2 (by decide), e 3 (by decide)⟩) (Or.inl (e 5 (by decide))) (Or.inl (e 6 (by decide))) (Or.inl (e 7 (by decide)))
      · by_cases h0 : (0 : Nat) = u
        · subst h0; rw [e 7 (by decide)]; exact h.2.2.1
        · rw [mv_upN 0 h0]; exact h.2.2.1
    · exact ⟨h, rfl⟩
theorem xs_W.en0 {n t : Nat} {π x : xs_X} (h : xs_W n π x) (ht : t < n) (hn : n ≤ 8) (h2 : x t 0 = 2) : xs_W n π (xs_tr (mv_up (mv_up x t 0 3) t 8 (x 8 0)) t 2) := by
  refine xs_W.tr ?_ hn
  have e : ∀ k, k ≠ 0 → k ≠ 8 → mv_up (mv_up x t 0 3) t 8 (x 8 0) t k = x t k := fun k a b => by simp [mv_up, a, b]
  obtain ⟨⟨τ, hτ2, hτ⟩, -, h07, hT⟩ := id h
  have h4 : x t 4 ≠ 0 := fun z => absurd (((hT t ht).run (a := 2) h2 (by decide)).1.mpr z) (by decide)
  refine h.one t (by rw [mv_upN 8 (by omega), mv_upN 8 (by omega)]) (fun u _ hu => by rw [mv_upN u hu, mv_upN u hu]) (fun _ => ?_) ?_
  · refine (hT t ht).of (Or.inr ⟨⟨3, by decide, by simp [mv_up]; rfl, ?_, ?_⟩, ?_, ?_⟩) (Or.inl (e 9 (by decide) (by decide))) (Or.inl ⟨e 2 (by decide) (by decide), e 3 (by decide) (by decide)⟩) (Or.inl (e 5 (by decide) (by decide))) (Or.inl (e 6 (by decide) (by decide))) (Or.inl (e 7 (by decide) (by decide)))
    · rw [e 4 (by decide) (by decide)]
      exact ⟨fun q => absurd q (by decide), fun q => absurd q h4⟩
    · rw [mv_upe, hτ]
      refine ⟨fun _ q => ?_, fun _ => rfl⟩
      have h1 := nI_toInt (n := τ) (by omega)
      rw [q] at h1
      have h2 : (-9 : Int32).toInt = -9 := by decide
      omega
    · rw [e 4 (by decide) (by decide)]; exact (hT t ht).2.2.2.2.2.1
    · rw [mv_upe]; exact Or.inr ⟨τ, by omega, hτ⟩
  · by_cases h0 : (0 : Nat) = t
    · subst h0; rw [e 7 (by decide) (by decide)]; exact h07
    · rw [mv_upN 0 h0, mv_upN 0 h0]; exact h07
theorem xs_W.en {n t : Nat} {π x : xs_X} (h : xs_W n π x) (hp : pl_W n π) (ht : t < n) (h2 : x t 0 = 2) : xs_W n π (xs_en n π x t) ∧ xs_en n π x t 8 0 = x 8 0 := by
  have hn := hp.2.1
  have e80 : xs_tr (mv_up (mv_up x t 0 3) t 8 (x 8 0)) t 2 8 0 = x 8 0 := by rw [xs_tr_80, mv_upN 8 (by omega), mv_upN 8 (by omega)]
  unfold xs_en
  split
  · rename_i q
    obtain ⟨u, hut, hu⟩ := (hp.2.2.2 t ht).1 q.1
    have hcl : (π t 0).toNatClampNeg = u := by rw [hu]; exact nI_clamp (by omega)
    rw [hcl]
    have := ((h.en0 ht hn h2).gl (t := t) (u := u) (by omega) hn (x t 9).toNatClampNeg).tf (by omega : u < n) hn
    exact ⟨this.1, this.2.trans (by rw [xs_gl_ne (by omega)]; exact e80)⟩
  · exact ⟨h.en0 ht hn h2, e80⟩
theorem xs_W.cc {n t : Nat} {π x : xs_X} (h : xs_W n π x) (ht : t < n) (hn : n ≤ 8) : xs_W n π (xs_cc π x t) ∧ xs_cc π x t 8 = x 8 ∧ ∀ k, k ≠ 6 → xs_cc π x t t k = x t k := by
  unfold xs_cc
  split
  · rename_i hlt
    have e : ∀ k, k ≠ 6 → mv_up x t 6 (x t 6 + 1) t k = x t k := fun k a => by simp [mv_up, a]
    refine ⟨h.one t (by rw [mv_upN 8 (by omega)]) (fun u _ hu => by rw [mv_upN u hu]) (fun _ => ?_) ?_, by rw [mv_upN 8 (by omega)], e⟩
    · obtain ⟨c, k, hck, hk5, hc, hk⟩ := (h.2.2.2 t ht).2.2.2.2.1
      rw [hc, hk] at hlt
      have := (nI_ltI (by omega) (by omega)).mp hlt
      exact (h.2.2.2 t ht).of (Or.inl ⟨e 0 (by decide), e 4 (by decide), e 8 (by decide)⟩) (Or.inl (e 9 (by decide))) (Or.inl ⟨e 2 (by decide), e 3 (by decide)⟩) (Or.inl (e 5 (by decide))) (Or.inr ⟨c + 1, k, by omega, hk5, by rw [mv_upe, hc, nI_1], hk⟩) (Or.inl (e 7 (by decide)))
    · by_cases h0 : (0 : Nat) = t
      · subst h0; rw [e 7 (by decide)]; exact h.2.2.1
      · rw [mv_upN 0 h0]; exact h.2.2.1
  · exact ⟨h, rfl, fun _ _ => rfl⟩
theorem xs_W.cu {n t : Nat} {π x : xs_X} (h : xs_W n π x) (hp : pl_W n π) (ht : t < n) (h2 : x t 0 = 2) : xs_W n π (xs_cu n π x t) ∧ xs_cu n π x t 8 0 = x 8 0 := by
  have hn := hp.2.1
  obtain ⟨q1, q2, q3⟩ := h.cc ht hn
  unfold xs_cu
  split
  · have := q1.en hp ht (by rw [q3 0 (by decide)]; exact h2)
    exact ⟨this.1, this.2.trans (by rw [q2])⟩
  · exact ⟨q1, by rw [q2]⟩
theorem xs_W.p1 {n t : Nat} {π x : xs_X} (h : xs_W n π x) (hp : pl_W n π) (ht : t < n) : xs_W n π (xs_p1 n π x t) ∧ xs_p1 n π x t 8 0 = x 8 0 := by
  have hn := hp.2.1
  unfold xs_p1
  split
  · rename_i q
    exact ⟨(h.cd ht hn).cl ht hn (Or.inl (by rw [xs_cd_col (by omega)]; exact q.1)), by rw [xs_cl_80 (by omega) hn, xs_cd_ne (by omega)]⟩
  · exact ⟨h, rfl⟩
theorem xs_W.p2 {n t : Nat} {π x : xs_X} (h : xs_W n π x) (hp : pl_W n π) (ht : t < n) : xs_W n π (xs_p2 n π x t) ∧ xs_p2 n π x t 8 0 = x 8 0 := by
  unfold xs_p2
  split
  · rename_i q
    exact h.mo hp ht q.1
  · exact ⟨h, rfl⟩
theorem xs_W.p3 {n t : Nat} {π x : xs_X} (h : xs_W n π x) (hp : pl_W n π) (ht : t < n) : xs_W n π (xs_p3 n π x t) ∧ xs_p3 n π x t 8 0 = x 8 0 := by
  unfold xs_p3
  split
  · rename_i q
    exact h.cu hp ht q.1
  · exact ⟨h, rfl⟩
theorem xs_W.u {n : Nat} {π x : xs_X} {f : xs_X → Nat → xs_X} (hf : ∀ y t, xs_W n π y → t < n → xs_W n π (f y t) ∧ f y t 8 0 = y 8 0) (h : xs_W n π x) : ∀ k, k ≤ n → xs_W n π (xs_u f x k) ∧ xs_u f x k 8 0 = x 8 0
  | 0, _ => ⟨h, rfl⟩
  | k + 1, hk => by
    have ih := xs_W.u hf h k (by omega)
    have := hf (xs_u f x k) k ih.1 (by omega)
    exact ⟨this.1, this.2.trans ih.2⟩
theorem xs_W.d {n : Nat} {π : xs_X} {f : xs_X → Nat → xs_X} (hf : ∀ y t, xs_W n π y → t < n → xs_W n π (f y t) ∧ f y t 8 0 = y 8 0) : ∀ k x, xs_W n π x → k ≤ n → xs_W n π (xs_d f k x) ∧ xs_d f k x 8 0 = x 8 0
  | 0, x, h, _ => ⟨h, rfl⟩
  | k + 1, x, h, hk => by
    have := hf x k h (by omega)
    have ih := xs_W.d hf k (f x k) this.1 (by omega)
    exact ⟨ih.1, ih.2.trans this.2⟩
theorem xs_W.tick {n τ : Nat} {π x : xs_X} (h : xs_W n π x) (hn : n ≤ 8) (hτ : x 8 0 = nI τ) (hτ2 : τ < 2000) : xs_W n π (mv_up x 8 0 (x 8 0 + 1)) := by
  obtain ⟨-, h2, h3, h4⟩ := h
  refine ⟨⟨τ + 1, by omega, by rw [mv_upe, hτ, nI_1]⟩, by simpa [mv_up] using h2, by simpa [mv_up] using h3, fun u hu => by rw [mv_upN u (by omega)]; exact h4 u hu⟩
theorem xs_W.tk {n τ : Nat} {π x : xs_X} (h : xs_W n π x) (hp : pl_W n π) (hτ : x 8 0 = nI τ) (hτ2 : τ < 2000) : xs_W n π (xs_tk n π x) ∧ xs_tk n π x 8 0 = nI (τ + 1) := by
  have h0 := h.tick hp.2.1 hτ hτ2
  have h1 := xs_W.u (fun y t hy ht => hy.p1 hp ht) h0 n (Nat.le_refl n)
  have h2 := xs_W.u (fun y t hy ht => hy.p2 hp ht) h1.1 n (Nat.le_refl n)
  have h3 := xs_W.d (fun y t hy ht => hy.p3 hp ht) n _ h2.1 (Nat.le_refl n)
  exact ⟨h3.1, (h3.2.trans (h2.2.trans h1.2)).trans (by rw [mv_upe, hτ, nI_1])⟩
end
section
set_option maxHeartbeats 4000000 in
set_option maxRecDepth 100000 in
theorem e3_cleansUp {l : Launch} {D : va_G} {b0 n : Nat} {sh : mv_Sh} {I : mv_I} {R : mv_R} {Q : mv_Q} {p q nt t : Nat} {π x : xs_X} (K : rc_P sh R I p q nt π) (h : rc_R I p nt x) (hW : xs_W nt π x) (ht : t < nt) (hQ : ∀ r I', (r = (if xs_cc π x t t 6 = π t 4 then 1 else 0) ∧ rc_R I' p nt (xs_cc π x t) ∧ rc_Fr p I I') → Q (some (.int r)) n sh I' R) : mv_E l D b0 m3_cleansUp (mv_rm 0) Q 0 [.ref p, .int (nI t)] [] 0 0 n sh I R := by
  obtain ⟨hp, hq, hpl, hdj, hpc, hpw⟩ := id K
  have hn := hpw.2.1
  obtain ⟨c, k, hck, hk5, hc, hk⟩ := (hW.2.2.2 t ht).2.2.2.2.1
  have h8 : I (p + 8) t = x t 6 := (h.2.1 t ht).1 6 (by decide)
  have fin : ∀ (J : mv_I), rc_R J p nt (xs_cc π x t) → rc_Fr p I J → (∃ c', c' ≤ k ∧ xs_cc π x t t 6 = nI c') → mv_E l D b0 m3_cleansUp (mv_rm 0) Q 28 [.ref p, .int (nI t)] [] 0 0 n sh J R := by
    intro J hr hf ⟨c', hc'k, hc'⟩
    have hpc' := (K.fr hf).2.2.2.2.1
    refine mv_aload_n (pc := 28) dX3_cleansUp_28 rfl ?_
    refine mv_getR (pc := 29) (q := p + 8) dX3_cleansUp_29 fl3_37 (fun _ _ => rfl) (congrArg Prod.fst hp.o) hp.f9 ?_
    refine mv_iload_n (pc := 32) dX3_cleansUp_32 rfl ?_
    refine mv_ialdx (pc := 33) (x := nI c') (k := t) dX3_cleansUp_33 hp.g9 rfl (by omega) (((hr.2.1 t ht).1 6 (by decide)).trans hc') ?_
    refine mv_aload_n (pc := 34) dX3_cleansUp_34 rfl ?_
    refine mv_getR (pc := 35) (q := q) dX3_cleansUp_35 fl3_65 (fun _ _ => rfl) (congrArg Prod.fst hp.o) hpl ?_
    refine mv_getR (pc := 38) (q := q + 7) dX3_cleansUp_38 fl3_149 (fun _ _ => rfl) (congrArg Prod.fst hq.o) hq.f7 ?_
    refine mv_iload_n (pc := 41) dX3_cleansUp_41 rfl ?_
    refine mv_ialdx (pc := 42) (x := nI k) (k := t) dX3_cleansUp_42 hq.g7 rfl (by omega) ((hpc'.2 t ht).2.2.2.2.1.trans hk) ?_
    refine mv_icmp_lt (pc := 43) (tgt := 50) dX3_cleansUp_43 (by decide) (fun hb => ?_) (fun hb => ?_)
    · have := (nI_ltI (by omega) (by omega)).mp hb
      refine mv_iconst (pc := 50) (v := 0) dX3_cleansUp_50 (by decide) ?_
      exact mv_zret (pc := 51) dX3_cleansUp_51 rfl (by rfl) (by decide) (by decide) (hQ _ _ ⟨by rw [hc', hk, if_neg (by rw [nI_eq (by omega) (by omega)]; omega)], hr, hf⟩)
    · have : ¬ c' < k := fun q => hb (nI_lt q (by omega))
      have e : c' = k := by omega
      refine mv_iconst (pc := 46) (v := 1) dX3_cleansUp_46 (by decide) ?_
      refine mv_goto (pc := 47) (tgt := 51) dX3_cleansUp_47 (by decide) ?_
      exact mv_zret (pc := 51) dX3_cleansUp_51 rfl (by rfl) (by decide) (by decide) (hQ _ _ ⟨by rw [hc', hk, e, if_pos rfl], hr, hf⟩)
  refine mv_aload_n (pc := 0) dX3_cleansUp_0 rfl ?_
  refine mv_getR (pc := 1) (q := p + 8) dX3_cleansUp_1 fl3_37 (fun _ _ => rfl) (congrArg Prod.fst hp.o) hp.f9 ?_
  refine mv_iload_n (pc := 4) dX3_cleansUp_4 rfl ?_
  refine mv_ialdx (pc := 5) (x := nI c) (k := t) dX3_cleansUp_5 hp.g9 rfl (by omega) (h8.trans hc) ?_
  refine mv_aload_n (pc := 6) dX3_cleansUp_6 rfl ?_
  refine mv_getR (pc := 7) (q := q) dX3_cleansUp_7 fl3_65 (fun _ _ => rfl) (congrArg Prod.fst hp.o) hpl ?_
  refine mv_getR (pc := 10) (q := q + 7) dX3_cleansUp_10 fl3_149 (fun _ _ => rfl) (congrArg Prod.fst hq.o) hq.f7 ?_
  refine mv_iload_n (pc := 13) dX3_cleansUp_13 rfl ?_
  refine mv_ialdx (pc := 14) (x := nI k) (k := t) dX3_cleansUp_14 hq.g7 rfl (by omega) ((hpc.2 t ht).2.2.2.2.1.trans hk) ?_
  refine mv_icmp_ge (pc := 15) (tgt := 28) dX3_cleansUp_15 (by decide) (fun hb => ?_) (fun hb => ?_)
  · have : ¬ c < k := fun q => nI_ge q (by omega) hb
    have e : xs_cc π x t = x := by
      unfold xs_cc
      rw [hc, hk, if_neg (nI_nlt (by omega) (by omega))]
    exact fin I (by rw [e]; exact h) rc_Fr.rf ⟨c, hck, by rw [e]; exact hc⟩
  · have hlt : c < k := by
      rcases Nat.lt_or_ge c k with q | q
      · exact q
      · exact absurd (nI_le q (by omega)) hb
    have e : xs_cc π x t = mv_up x t 6 (nI c + 1) := by
      unfold xs_cc
      rw [hc, hk, if_pos (nI_lt hlt (by omega))]
    refine mv_aload_n (pc := 18) dX3_cleansUp_18 rfl ?_
    refine mv_getR (pc := 19) (q := p + 8) dX3_cleansUp_19 fl3_37 (fun _ _ => rfl) (congrArg Prod.fst hp.o) hp.f9 ?_
    refine mv_iload_n (pc := 22) dX3_cleansUp_22 rfl ?_
    refine mv_dup2 (pc := 23) dX3_cleansUp_23 rfl rfl ?_
    refine mv_ialdx (pc := 24) (x := nI c) (k := t) dX3_cleansUp_24 hp.g9 rfl (by omega) (h8.trans hc) ?_
    refine mv_iconst (pc := 25) (v := 1) dX3_cleansUp_25 (by decide) ?_
    refine mv_iadd (pc := 26) dX3_cleansUp_26 ?_
    refine mv_iast (pc := 27) (k := t) dX3_cleansUp_27 hp.g9 rfl (by omega) ?_
    refine fin _ ?_ (rc_Fr.rf.up (by omega)) ⟨c + 1, by omega, by rw [e, mv_upe, nI_1]⟩
    rw [e]
    exact rc_set 6 h (by decide) (by decide) ht hn
theorem c3_cleansUp {l : Launch} {D : va_G} {b0 n : Nat} {sh : mv_Sh} {I : mv_I} {R : mv_R} {p q nt t : Nat} {π x : xs_X} (K : rc_P sh R I p q nt π) (h : rc_R I p nt x) (hW : xs_W nt π x) (ht : t < nt) : mv_C l D b0 m3_cleansUp (mv_rm 0) [.ref p, .int (nI t)] n sh I R (mv_Pi n sh R (fun r I' => r = (if xs_cc π x t t 6 = π t 4 then 1 else 0) ∧ rc_R I' p nt (xs_cc π x t) ∧ rc_Fr p I I')) := mv_C.of 0 (by decide) (by simp [Value.category]) rfl (e3_cleansUp K h hW ht (fun _ _ h => mv_Pi.mk h))
set_option maxHeartbeats 4000000 in
set_option maxRecDepth 100000 in
theorem e3_giveList {l : Launch} {D : va_G} {b0 n : Nat} {sh : mv_Sh} {I : mv_I} {R : mv_R} {Q : mv_Q} {p nt t u c cu : Nat} {x : xs_X} (hp : ly_Run sh R p) (h : rc_R I p nt x) (hn : nt ≤ 8) (ht : t < nt) (hu : u < nt) (htu : t ≠ u) (hc : x t 9 = nI c) (hc8 : c ≤ 8) (hcu : x u 9 = nI cu) (hcu8 : cu ≤ 8) (hQ : ∀ I', (rc_R I' p nt (xs_gl x t u c) ∧ rc_Fr p I I') → Q none n sh I' R) : mv_E l D b0 m3_giveList (mv_rm 1) Q 0 [.ref p, .int (nI t), .int (nI u), .null] [] 0 0 n sh I R := by
  have many : ∀ k, ∃ c2, c2 ≤ 8 ∧ xs_gl x t u k u 9 = nI c2 := by
    intro k
    induction k with
    | zero => exact ⟨cu, hcu8, hcu⟩
    | succ k ih =>
      obtain ⟨c2, q1, q2⟩ := ih
      exact xs_cd_many q2 q1
  have loop : ∀ (f k : Nat) (J : mv_I), c < k + f → k ≤ c → rc_R J p nt (xs_gl x t u k) → rc_Fr p I J → mv_E l D b0 m3_giveList (mv_rm 1) Q 2 [.ref p, .int (nI t), .int (nI u), .int (nI k)] [] 0 0 n sh J R := by
    intro f
    induction f with
    | zero => intro k J h1 h2; omega
    | succ f ih =>
      intro k J h1 h2 hr hf
      have hJ : J (p + 10) t = nI c := by
        rw [show J (p + 10) t = xs_gl x t u k t 9 from (hr.2.1 t ht).1 9 (by decide), xs_gl_ne htu]; exact hc
      refine mv_iload_n (pc := 2) dX3_giveList_2 rfl ?_
      refine mv_aload_n (pc := 3) dX3_giveList_3 rfl ?_
      refine mv_getR (pc := 4) (q := p + 10) dX3_giveList_4 fl3_43 (fun _ _ => rfl) (congrArg Prod.fst hp.o) hp.f11 ?_
      refine mv_iload_n (pc := 7) dX3_giveList_7 rfl ?_
      refine mv_ialdx (pc := 8) (x := nI c) (k := t) dX3_giveList_8 hp.g11 rfl (by omega) hJ ?_
      refine mv_icmp_ge (pc := 9) (tgt := 40) dX3_giveList_9 (by decide) (fun hb => ?_) (fun hb => ?_)
      · have : k = c := by
          have := (nI_leI (by omega) (by omega)).mp hb
          omega
        subst this
        exact mv_vret (pc := 40) dX3_giveList_40 rfl (by decide) (by decide) (hQ _ ⟨hr, hf⟩)
      · have hkc : k < c := by
          rcases Nat.lt_or_ge k c with q | q
          · exact q
          · exact absurd (nI_le q (by omega)) hb
        refine mv_iload_n (pc := 12) dX3_giveList_12 rfl ?_
        refine mv_bipush (pc := 13) (v := 8) dX3_giveList_13 (by decide) ?_
        refine mv_icmp_ge (pc := 15) (tgt := 40) dX3_giveList_15 (by decide) (fun hb2 => ?_) (fun hb2 => ?_)
        · exact absurd hb2 (nI_ge (b := 8) (by omega) (by decide))
        · refine mv_aload_n (pc := 18) dX3_giveList_18 rfl ?_
          refine mv_iload_n (pc := 19) dX3_giveList_19 rfl ?_
          refine mv_aload_n (pc := 20) dX3_giveList_20 rfl ?_
          refine mv_getR (pc := 21) (q := p + 11) dX3_giveList_21 fl3_46 (fun _ _ => rfl) (congrArg Prod.fst hp.o) hp.f12 ?_
          refine mv_iload_n (pc := 24) dX3_giveList_24 rfl ?_
          refine mv_bipush (pc := 25) (v := 8) dX3_giveList_25 (by decide) ?_
          refine mv_imul (pc := 27) dX3_giveList_27 ?_
          refine mv_iload_n (pc := 28) dX3_giveList_28 rfl ?_
          refine mv_iadd (pc := 29) dX3_giveList_29 ?_
          refine mv_ialdx (pc := 30) (x := x t (10 + k)) (k := 8 * t + k) dX3_giveList_30 hp.g12 (mv_ix t 8 k) (by omega) (by rw [(hr.2.1 t ht).2.2.2 k (by rw [xs_gl_ne htu, hc, nI_clamp (by omega)]; exact hkc) (by omega), xs_gl_ne htu]) ?_
          refine mv_cVv (pc := 31) dX3_giveList_31 lk3_91 (congrArg Prod.fst hp.o) (c3_addCode hp hr hn hu (many k).choose_spec.2 (many k).choose_spec.1) rfl rfl (Nat.le_of_ble_eq_true rfl) (by decide) (by decide) (fun J2 ⟨hr2, hf2⟩ => ?_)
          refine mv_iinc (pc := 34) (v := nI (k + 1)) dX3_giveList_34 (by decide) rfl (nI_1 k) ?_
          refine mv_goto (pc := 37) (tgt := 2) dX3_giveList_37 (by decide) ?_
          exact ih (k + 1) J2 (by omega) (by omega) hr2 (hf.tr hf2)
  refine mv_iconst (pc := 0) (v := 0) dX3_giveList_0 (by decide) ?_
  refine mv_istore_n (pc := 1) dX3_giveList_1 (by decide) ?_
  exact loop (c + 1) 0 I (by omega) (by omega) h rc_Fr.rf
theorem c3_giveList {l : Launch} {D : va_G} {b0 n : Nat} {sh : mv_Sh} {I : mv_I} {R : mv_R} {p nt t u c cu : Nat} {x : xs_X} (hp : ly_Run sh R p) (h : rc_R I p nt x) (hn : nt ≤ 8) (ht : t < nt) (hu : u < nt) (htu : t ≠ u) (hc : x t 9 = nI c) (hc8 : c ≤ 8) (hcu : x u 9 = nI cu) (hcu8 : cu ≤ 8) : mv_C l D b0 m3_giveList (mv_rm 1) [.ref p, .int (nI t), .int (nI u)] n sh I R (mv_Pv n sh R (fun I' => rc_R I' p nt (xs_gl x t u c) ∧ rc_Fr p I I')) := mv_C.of 1 (by decide) (by simp [Value.category]) rfl (e3_giveList hp h hn ht hu htu hc hc8 hcu hcu8 (fun _ h => mv_Pv.mk h))
set_option maxHeartbeats 4000000 in
set_option maxRecDepth 100000 in
theorem e3_takeFailure {l : Launch} {D : va_G} {b0 n : Nat} {sh : mv_Sh} {I : mv_I} {R : mv_R} {Q : mv_Q} {p q nt t e : Nat} {π x : xs_X} (K : rc_P sh R I p q nt π) (h : rc_R I p nt x) (ht : t < nt) (he : x 8 1 = nI e) (he6 : e ≤ 60) (hQ : ∀ I', (rc_R I' p nt (xs_tf nt π x t) ∧ rc_Fr p I I') → Q none n sh I' R) : mv_E l D b0 m3_takeFailure (mv_rm 2) Q 0 [.ref p, .int (nI t)] [] 0 0 n sh I R := by
  obtain ⟨hp, hq, hpl, hdj, hpc, hpw⟩ := id K
  have hn := hpw.2.1
  have hhow : I (p + 1) t = x t 0 := (h.2.1 t ht).1 0 (by decide)
  have rest : ¬ (x t 0 = 1 ∧ π t 5 = 0) → mv_E l D b0 m3_takeFailure (mv_rm 2) Q 31 [.ref p, .int (nI t)] [] 0 0 n sh I R := by
    intro hno
    have stay : ¬ (x t 0 = 2 ∧ x t 1 = 0) → mv_E l D b0 m3_takeFailure (mv_rm 2) Q 62 [.ref p, .int (nI t)] [] 0 0 n sh I R := by
      intro hno2
      refine mv_vret (pc := 62) dX3_takeFailure_62 rfl (by decide) (by decide) (hQ _ ⟨?_, rc_Fr.rf⟩)
      unfold xs_tf
      rw [if_neg hno, if_neg hno2]
      exact h
    refine mv_aload_n (pc := 31) dX3_takeFailure_31 rfl ?_
    refine mv_getR (pc := 32) (q := p + 1) dX3_takeFailure_32 fl3_15 (fun _ _ => rfl) (congrArg Prod.fst hp.o) hp.f2 ?_
    refine mv_iload_n (pc := 35) dX3_takeFailure_35 rfl ?_
    refine mv_ialdx (pc := 36) (x := x t 0) (k := t) dX3_takeFailure_36 hp.g2 rfl (by omega) hhow ?_
    refine mv_iconst (pc := 37) (v := 2) dX3_takeFailure_37 (by decide) ?_
    refine mv_icmp_ne (pc := 38) (tgt := 62) dX3_takeFailure_38 (by decide) (fun hb => ?_) (fun hb => ?_)
    · exact stay (fun q => hb q.1)
    · refine mv_aload_n (pc := 41) dX3_takeFailure_41 rfl ?_
      refine mv_getR (pc := 42) (q := p + 2) dX3_takeFailure_42 fl3_19 (fun _ _ => rfl) (congrArg Prod.fst hp.o) hp.f3 ?_
      refine mv_iload_n (pc := 45) dX3_takeFailure_45 rfl ?_
      refine mv_ialdx (pc := 46) (x := x t 1) (k := t) dX3_takeFailure_46 hp.g3 rfl (by omega) ((h.2.1 t ht).1 1 (by decide)) ?_
      refine mv_if_ne (pc := 47) (tgt := 62) dX3_takeFailure_47 (by decide) (fun hb2 => ?_) (fun hb2 => ?_)
      · exact stay (fun q => hb2 q.2)
      · have h1 : rc_R (mv_up I (p + 2) t 1) p nt (mv_up x t 1 1) := rc_set 1 h (by decide) (by decide) ht hn
        refine mv_aload_n (pc := 50) dX3_takeFailure_50 rfl ?_
        refine mv_getR (pc := 51) (q := p + 2) dX3_takeFailure_51 fl3_19 (fun _ _ => rfl) (congrArg Prod.fst hp.o) hp.f3 ?_
        refine mv_iload_n (pc := 54) dX3_takeFailure_54 rfl ?_
        refine mv_iconst (pc := 55) (v := 1) dX3_takeFailure_55 (by decide) ?_
        refine mv_iast (pc := 56) (k := t) dX3_takeFailure_56 hp.g3 rfl (by omega) ?_
        refine mv_aload_n (pc := 57) dX3_takeFailure_57 rfl ?_
        refine mv_iload_n (pc := 58) dX3_takeFailure_58 rfl ?_
        refine mv_cVv (pc := 59) dX3_takeFailure_59 lk3_134 (congrArg Prod.fst hp.o) (c3_askChildren (K.fr (rc_Fr.rf.up (by omega))) h1 ht) rfl rfl (Nat.le_of_ble_eq_true rfl) (by decide) (by decide) (fun J ⟨hr, hf⟩ => ?_)
        refine mv_vret (pc := 62) dX3_takeFailure_62 rfl (by decide) (by decide) (hQ _ ⟨?_, (rc_Fr.rf.up (by omega)).tr hf⟩)
        unfold xs_tf
        rw [if_neg hno, if_pos ⟨hb, hb2⟩]
        exact hr
  refine mv_aload_n (pc := 0) dX3_takeFailure_0 rfl ?_
  refine mv_getR (pc := 1) (q := p + 1) dX3_takeFailure_1 fl3_15 (fun _ _ => rfl) (congrArg Prod.fst hp.o) hp.f2 ?_
  refine mv_iload_n (pc := 4) dX3_takeFailure_4 rfl ?_
  refine mv_ialdx (pc := 5) (x := x t 0) (k := t) dX3_takeFailure_5 hp.g2 rfl (by omega) hhow ?_
  refine mv_iconst (pc := 6) (v := 1) dX3_takeFailure_6 (by decide) ?_
  refine mv_icmp_ne (pc := 7) (tgt := 31) dX3_takeFailure_7 (by decide) (fun hb => ?_) (fun hb => ?_)
  · exact rest (fun q => hb q.1)
  · refine mv_aload_n (pc := 10) dX3_takeFailure_10 rfl ?_
    refine mv_getR (pc := 11) (q := q) dX3_takeFailure_11 fl3_65 (fun _ _ => rfl) (congrArg Prod.fst hp.o) hpl ?_
    refine mv_getR (pc := 14) (q := q + 8) dX3_takeFailure_14 fl3_158 (fun _ _ => rfl) (congrArg Prod.fst hq.o) hq.f8 ?_
    refine mv_iload_n (pc := 17) dX3_takeFailure_17 rfl ?_
    refine mv_ialdx (pc := 18) (x := π t 5) (k := t) dX3_takeFailure_18 hq.g8 rfl (by omega) (hpc.2 t ht).2.2.2.2.2.1 ?_
    refine mv_if_ne (pc := 19) (tgt := 31) dX3_takeFailure_19 (by decide) (fun hb2 => ?_) (fun hb2 => ?_)
    · exact rest (fun q => hb2 q.2)
    · refine mv_aload_n (pc := 22) dX3_takeFailure_22 rfl ?_
      refine mv_iload_n (pc := 23) dX3_takeFailure_23 rfl ?_
      refine mv_iconst (pc := 24) (v := 1) dX3_takeFailure_24 (by decide) ?_
      refine mv_cVv (pc := 25) dX3_takeFailure_25 lk3_94 (congrArg Prod.fst hp.o) (c3_close K h ht he he6) rfl rfl (Nat.le_of_ble_eq_true rfl) (by decide) (by decide) (fun J ⟨hr, hf⟩ => ?_)
      refine mv_goto (pc := 28) (tgt := 62) dX3_takeFailure_28 (by decide) ?_
      refine mv_vret (pc := 62) dX3_takeFailure_62 rfl (by decide) (by decide) (hQ _ ⟨?_, hf⟩)
      unfold xs_tf
      rw [if_pos ⟨hb, hb2⟩]
      exact hr
theorem c3_takeFailure {l : Launch} {D : va_G} {b0 n : Nat} {sh : mv_Sh} {I : mv_I} {R : mv_R} {p q nt t e : Nat} {π x : xs_X} (K : rc_P sh R I p q nt π) (h : rc_R I p nt x) (ht : t < nt) (he : x 8 1 = nI e) (he6 : e ≤ 60) : mv_C l D b0 m3_takeFailure (mv_rm 2) [.ref p, .int (nI t)] n sh I R (mv_Pv n sh R (fun I' => rc_R I' p nt (xs_tf nt π x t) ∧ rc_Fr p I I')) := mv_C.of 0 (by decide) (by simp [Value.category]) rfl (e3_takeFailure K h ht he he6 (fun _ h => mv_Pv.mk h))
set_option maxHeartbeats 4000000 in
set_option maxRecDepth 100000 in
theorem e3_end {l : Launch} {D : va_G} {b0 n : Nat} {sh : mv_Sh} {I : mv_I} {R : mv_R} {Q : mv_Q} {p q nt t : Nat} {π x : xs_X} (K : rc_P sh R I p q nt π) (h : rc_R I p nt x) (hW : xs_W nt π x) (ht : t < nt) (h2 : x t 0 = 2) (hQ : ∀ I', (rc_R I' p nt (xs_en nt π x t) ∧ rc_Fr p I I') → Q none n sh I' R) : mv_E l D b0 m3_end (mv_rm 3) Q 0 [.ref p, .int (nI t), .null] [] 0 0 n sh I R := by
  obtain ⟨hp, hq, hpl, hdj, hpc, hpw⟩ := id K
  have hn := hpw.2.1
  obtain ⟨⟨τ, hτ2, hτ⟩, ⟨e, he6, he⟩, -, hT⟩ := id hW
  have g1 : rc_R (mv_up I (p + 1) t 3) p nt (mv_up x t 0 3) := rc_set 0 h (by decide) (by decide) ht hn
  have g2 : rc_R (mv_up (mv_up I (p + 1) t 3) (p + 4) t (x 8 0)) p nt (mv_up (mv_up x t 0 3) t 8 (x 8 0)) := rc_end g1 (Or.inr rfl) ht hn
  have f2 : rc_Fr p I (mv_up (mv_up I (p + 1) t 3) (p + 4) t (x 8 0)) := (rc_Fr.rf.up (by omega)).up (by omega)
  refine mv_aload_n (pc := 0) dX3_end_0 rfl ?_
  refine mv_getR (pc := 1) (q := p + 1) dX3_end_1 fl3_15 (fun _ _ => rfl) (congrArg Prod.fst hp.o) hp.f2 ?_
  refine mv_iload_n (pc := 4) dX3_end_4 rfl ?_
  refine mv_iconst (pc := 5) (v := 3) dX3_end_5 (by decide) ?_
  refine mv_iast (pc := 6) (k := t) dX3_end_6 hp.g2 rfl (by omega) ?_
  refine mv_aload_n (pc := 7) dX3_end_7 rfl ?_
  refine mv_getR (pc := 8) (q := p + 4) dX3_end_8 fl3_25 (fun _ _ => rfl) (congrArg Prod.fst hp.o) hp.f5 ?_
  refine mv_iload_n (pc := 11) dX3_end_11 rfl ?_
  refine mv_aload_n (pc := 12) dX3_end_12 rfl ?_
  refine mv_getIx (pc := 13) (x := x 8 0) dX3_end_13 fl3_9 rfl (congrArg Prod.fst hp.o) (by rw [mv_upN p (by omega)]; exact h.1.1) ?_
  refine mv_iast (pc := 16) (k := t) dX3_end_16 hp.g5 rfl (by omega) ?_
  refine mv_aload_n (pc := 17) dX3_end_17 rfl ?_
  refine mv_iload_n (pc := 18) dX3_end_18 rfl ?_
  refine mv_iconst (pc := 19) (v := 2) dX3_end_19 (by decide) ?_
  refine mv_cVv (pc := 20) dX3_end_20 lk3_137 (congrArg Prod.fst hp.o) (c3_note hp g2 hn (by rw [mv_upN 8 (by omega), mv_upN 8 (by omega)]; exact he) he6) rfl rfl (Nat.le_of_ble_eq_true rfl) (by decide) (by decide) (fun J ⟨hr, hf⟩ => ?_)
  have fJ := f2.tr hf
  have hpc' := (K.fr fJ).2.2.2.2.1
  have hW1 := hW.en0 ht hn h2
  have hout : J (p + 2) t = x t 1 := by
    rw [show J (p + 2) t = xs_tr (mv_up (mv_up x t 0 3) t 8 (x 8 0)) t 2 t 1 from (hr.2.1 t ht).1 1 (by decide), xs_tr_lo (by omega)]
    simp [mv_up]
  refine mv_aload_n (pc := 23) dX3_end_23 rfl ?_
  refine mv_getR (pc := 24) (q := q) dX3_end_24 fl3_65 (fun _ _ => rfl) (congrArg Prod.fst hp.o) hpl ?_
  refine mv_getR (pc := 27) (q := q + 1) dX3_end_27 fl3_88 (fun _ _ => rfl) (congrArg Prod.fst hq.o) hq.f1 ?_
  refine mv_iload_n (pc := 30) dX3_end_30 rfl ?_
  refine mv_ialdx (pc := 31) (x := π t 0) (k := t) dX3_end_31 hq.g1 rfl (by omega) (hpc'.2 t ht).1 ?_
  refine mv_istore_n (pc := 32) dX3_end_32 (by decide) ?_
  refine mv_iload_n (pc := 33) dX3_end_33 rfl ?_
  refine mv_if_lt (pc := 34) (tgt := 68) dX3_end_34 (by decide) (fun hb => ?_) (fun hb => ?_)
  · refine mv_vret (pc := 68) dX3_end_68 rfl (by decide) (by decide) (hQ _ ⟨?_, fJ⟩)
    unfold xs_en
    rw [if_neg]
    · exact hr
    · rintro ⟨q, -⟩
      obtain ⟨u, hut, hu⟩ := (hpw.2.2.2 t ht).1 q
      rw [hu] at hb
      exact nI_pos (by omega) hb
  · have ht0 : 0 < t := by
      rcases Nat.eq_zero_or_pos t with q | q
      · subst q; rw [hpw.2.2.1] at hb; exact absurd (by decide) hb
      · exact q
    obtain ⟨u, hut, hu⟩ := (hpw.2.2.2 t ht).1 ht0
    have hcl : (π t 0).toNatClampNeg = u := by rw [hu]; exact nI_clamp (by omega)
    have x1t : ∀ k, k ≠ 0 → k ≠ 8 → xs_tr (mv_up (mv_up x t 0 3) t 8 (x 8 0)) t 2 t k = x t k := fun k a b => by
      rw [xs_tr_lo (by omega)]; simp [mv_up, a, b]
    have no : ¬ (x t 1 = 1 ∨ x t 1 = 3) → mv_E l D b0 m3_end (mv_rm 3) Q 68 [.ref p, .int (nI t), .int (π t 0)] [] 0 0 n sh J R := by
      intro hno
      refine mv_vret (pc := 68) dX3_end_68 rfl (by decide) (by decide) (hQ _ ⟨?_, fJ⟩)
      unfold xs_en
      rw [if_neg (fun q => hno q.2)]
      exact hr
    have yes : (x t 1 = 1 ∨ x t 1 = 3) → mv_E l D b0 m3_end (mv_rm 3) Q 57 [.ref p, .int (nI t), .int (π t 0)] [] 0 0 n sh J R := by
      intro hy
      obtain ⟨c, hc8, hc⟩ := (hT t ht).2.1
      obtain ⟨cu, hcu8, hcu⟩ := (hW1.2.2.2 u (by omega)).2.1
      have hWg := hW1.gl (t := t) (u := u) (by omega) hn c
      obtain ⟨e3, he36, he3⟩ := hWg.2.1
      rw [hu]
      refine mv_aload_n (pc := 57) dX3_end_57 rfl ?_
      refine mv_iload_n (pc := 58) dX3_end_58 rfl ?_
      refine mv_iload_n (pc := 59) dX3_end_59 rfl ?_
      refine mv_cVv (pc := 60) dX3_end_60 lk3_152 (congrArg Prod.fst hp.o) (c3_giveList hp hr hn ht (by omega) (by omega) ((x1t 9 (by decide) (by decide)).trans hc) hc8 hcu hcu8) rfl rfl (Nat.le_of_ble_eq_true rfl) (by decide) (by decide) (fun J2 ⟨hr2, hf2⟩ => ?_)
      refine mv_aload_n (pc := 63) dX3_end_63 rfl ?_
      refine mv_iload_n (pc := 64) dX3_end_64 rfl ?_
      refine mv_cVv (pc := 65) dX3_end_65 lk3_155 (congrArg Prod.fst hp.o) (c3_takeFailure (K.fr (fJ.tr hf2)) hr2 (by omega) he3 he36) rfl rfl (Nat.le_of_ble_eq_true rfl) (by decide) (by decide) (fun J3 ⟨hr3, hf3⟩ => ?_)
      refine mv_vret (pc := 68) dX3_end_68 rfl (by decide) (by decide) (hQ _ ⟨?_, (fJ.tr hf2).tr hf3⟩)
      unfold xs_en
      rw [if_pos ⟨ht0, hy⟩, hcl, hc, nI_clamp (by omega)]
      exact hr3
    refine mv_aload_n (pc := 37) dX3_end_37 rfl ?_
    refine mv_getR (pc := 38) (q := p + 2) dX3_end_38 fl3_19 (fun _ _ => rfl) (congrArg Prod.fst hp.o) hp.f3 ?_
    refine mv_iload_n (pc := 41) dX3_end_41 rfl ?_
    refine mv_ialdx (pc := 42) (x := x t 1) (k := t) dX3_end_42 hp.g3 rfl (by omega) hout ?_
    refine mv_iconst (pc := 43) (v := 1) dX3_end_43 (by decide) ?_
    refine mv_icmp_eq (pc := 44) (tgt := 57) dX3_end_44 (by decide) (fun hb2 => ?_) (fun hb2 => ?_)
    · exact yes (Or.inl hb2)
    · refine mv_aload_n (pc := 47) dX3_end_47 rfl ?_
      refine mv_getR (pc := 48) (q := p + 2) dX3_end_48 fl3_19 (fun _ _ => rfl) (congrArg Prod.fst hp.o) hp.f3 ?_
      refine mv_iload_n (pc := 51) dX3_end_51 rfl ?_
      refine mv_ialdx (pc := 52) (x := x t 1) (k := t) dX3_end_52 hp.g3 rfl (by omega) hout ?_
      refine mv_iconst (pc := 53) (v := 3) dX3_end_53 (by decide) ?_
      refine mv_icmp_ne (pc := 54) (tgt := 68) dX3_end_54 (by decide) (fun hb3 => ?_) (fun hb3 => ?_)
      · exact no (fun q => q.elim hb2 hb3)
      · exact yes (Or.inr hb3)
theorem c3_end {l : Launch} {D : va_G} {b0 n : Nat} {sh : mv_Sh} {I : mv_I} {R : mv_R} {p q nt t : Nat} {π x : xs_X} (K : rc_P sh R I p q nt π) (h : rc_R I p nt x) (hW : xs_W nt π x) (ht : t < nt) (h2 : x t 0 = 2) : mv_C l D b0 m3_end (mv_rm 3) [.ref p, .int (nI t)] n sh I R (mv_Pv n sh R (fun I' => rc_R I' p nt (xs_en nt π x t) ∧ rc_Fr p I I')) := mv_C.of 1 (by decide) (by simp [Value.category]) rfl (e3_end K h hW ht h2 (fun _ h => mv_Pv.mk h))
end
section
set_option maxHeartbeats 4000000 in
set_option maxRecDepth 100000 in
theorem e3_passTick {l : Launch} {D : va_G} {b0 n : Nat} {sh : mv_Sh} {I : mv_I} {R : mv_R} {Q : mv_Q} {p q nt τ : Nat} {π x : xs_X} (K : rc_P sh R I p q nt π) (h : rc_R I p nt x) (hW : xs_W nt π x) (hτ : x 8 0 = nI τ) (hτ2 : τ < 2000) (hQ : ∀ I', (rc_R I' p nt (xs_tk nt π x) ∧ rc_Fr p I I') → Q none n sh I' R) : mv_E l D b0 m3_passTick (mv_rm 5) Q 0 [.ref p, .null] [] 0 0 n sh I R := by
  obtain ⟨hp, hq, hpl, hdj, hpc, hpw⟩ := id K
  have hn := hpw.2.1
  have l3 : ∀ (k : Nat) (J : mv_I) (y : xs_X) (v : Int32), k ≤ nt → v = nI k - 1 → rc_R J p nt y → xs_W nt π y → rc_Fr p I J → xs_d (xs_p3 nt π) k y = xs_tk nt π x → mv_E l D b0 m3_passTick (mv_rm 5) Q 122 [.ref p, .int v] [] 0 0 n sh J R := by
    intro k
    induction k with
    | zero =>
      intro J y v hk hv hr hWy hf hy
      refine mv_iload_n (pc := 122) dX3_passTick_122 rfl ?_
      refine mv_if_lt (pc := 123) (tgt := 163) dX3_passTick_123 (by decide) (fun hb => ?_) (fun hb => ?_)
      · exact mv_vret (pc := 163) dX3_passTick_163 rfl (by decide) (by decide) (hQ _ ⟨by rw [← hy]; exact hr, hf⟩)
      · rw [hv] at hb; exact absurd (by decide) hb
    | succ k ih =>
      intro J y v hk hv hr hWy hf hy
      rw [nI_pred] at hv
      subst hv
      have hkn : k < nt := by omega
      have nxt : ∀ J2, rc_R J2 p nt (xs_p3 nt π y k) → rc_Fr p I J2 → mv_E l D b0 m3_passTick (mv_rm 5) Q 157 [.ref p, .int (nI k)] [] 0 0 n sh J2 R := by
        intro J2 hr2 hf2
        refine mv_iinc (pc := 157) (v := nI k - 1) dX3_passTick_157 (by decide) rfl (by rw [Int32.sub_eq_add_neg]; rfl) ?_
        refine mv_goto (pc := 160) (tgt := 122) dX3_passTick_160 (by decide) ?_
        exact ih J2 _ _ (by omega) rfl hr2 (hWy.p3 hpw hkn).1 hf2 hy
      refine mv_iload_n (pc := 122) dX3_passTick_122 rfl ?_
      refine mv_if_lt (pc := 123) (tgt := 163) dX3_passTick_123 (by decide) (fun hb => ?_) (fun hb => ?_)
      · exact absurd hb (nI_pos (by omega))
      · refine mv_aload_n (pc := 126) dX3_passTick_126 rfl ?_
        refine mv_getR (pc := 127) (q := p + 1) dX3_passTick_127 fl3_15 (fun _ _ => rfl) (congrArg Prod.fst hp.o) hp.f2 ?_
        refine mv_iload_n (pc := 130) dX3_passTick_130 rfl ?_
        refine mv_ialdx (pc := 131) (x := y k 0) (k := k) dX3_passTick_131 hp.g2 rfl (by omega) ((hr.2.1 k hkn).1 0 (by decide)) ?_
        refine mv_iconst (pc := 132) (v := 2) dX3_passTick_132 (by decide) ?_
        refine mv_icmp_ne (pc := 133) (tgt := 157) dX3_passTick_133 (by decide) (fun hb2 => ?_) (fun hb2 => ?_)
        · exact nxt J (by unfold xs_p3; rw [if_neg (fun q => hb2 q.1)]; exact hr) hf
        · refine mv_aload_n (pc := 136) dX3_passTick_136 rfl ?_
          refine mv_iload_n (pc := 137) dX3_passTick_137 rfl ?_
          refine mv_cVi (pc := 138) dX3_passTick_138 lk3_101 (congrArg Prod.fst hp.o) (c3_activeChildren (K.fr hf) hr hkn) rfl rfl (Nat.le_of_ble_eq_true rfl) (by decide) (by decide) (fun r J' ⟨e1, e2⟩ => ?_)
          subst e1 e2
          refine mv_if_ne (pc := 141) (tgt := 157) dX3_passTick_141 (by decide) (fun hb3 => ?_) (fun hb3 => ?_)
          · exact nxt _ (by unfold xs_p3; rw [if_neg (fun q => hb3 ((xs_bs_busy hn).mpr q.2))]; exact hr) hf
          · refine mv_aload_n (pc := 144) dX3_passTick_144 rfl ?_
            refine mv_iload_n (pc := 145) dX3_passTick_145 rfl ?_
            refine mv_cVi (pc := 146) dX3_passTick_146 lk3_105 (congrArg Prod.fst hp.o) (c3_cleansUp (K.fr hf) hr hWy hkn) rfl rfl (Nat.le_of_ble_eq_true rfl) (by decide) (by decide) (fun r J2 ⟨e1, hr2, hf2⟩ => ?_)
            have e3 : xs_p3 nt π y k = xs_cu nt π y k := by
              unfold xs_p3
              rw [if_pos ⟨hb2, (xs_bs_busy hn).mp hb3⟩]
            obtain ⟨w1, w2, w3⟩ := hWy.cc hkn hn
            refine mv_if_eq (pc := 149) (tgt := 157) dX3_passTick_149 (by decide) (fun hb4 => ?_) (fun hb4 => ?_)
            · refine nxt _ ?_ (hf.tr hf2)
              rw [e3]
              unfold xs_cu
              rw [if_neg]
              · exact hr2
              · intro q; rw [if_pos q, hb4] at e1; exact absurd e1 (by decide)
            · refine mv_aload_n (pc := 152) dX3_passTick_152 rfl ?_
              refine mv_iload_n (pc := 153) dX3_passTick_153 rfl ?_
              refine mv_cVv (pc := 154) dX3_passTick_154 lk3_109 (congrArg Prod.fst hp.o) (c3_end (K.fr (hf.tr hf2)) hr2 w1 hkn (by rw [w3 0 (by decide)]; exact hb2)) rfl rfl (Nat.le_of_ble_eq_true rfl) (by decide) (by decide) (fun J3 ⟨hr3, hf3⟩ => ?_)
              refine nxt _ ?_ ((hf.tr hf2).tr hf3)
              rw [e3]
              unfold xs_cu
              rw [if_pos]
              · exact hr3
              · exact Classical.byContradiction fun q => hb4 (by rw [e1, if_neg q])
  have l2 : ∀ (f k : Nat) (J : mv_I) (y0 : xs_X), nt < k + f → k ≤ nt → xs_W nt π y0 → y0 8 0 = nI (τ + 1) → rc_R J p nt (xs_u (xs_p2 nt π) y0 k) → rc_Fr p I J → xs_d (xs_p3 nt π) nt (xs_u (xs_p2 nt π) y0 nt) = xs_tk nt π x → mv_E l D b0 m3_passTick (mv_rm 5) Q 67 [.ref p, .int (nI k)] [] 0 0 n sh J R := by
    intro f
    induction f with
    | zero => intro k J y0 h1 h2; omega
    | succ f ih =>
      intro k J y0 h1 h2 hW0 h80 hr hf hy
      have hWk : xs_W nt π (xs_u (xs_p2 nt π) y0 k) ∧ xs_u (xs_p2 nt π) y0 k 8 0 = y0 8 0 := xs_W.u (f := xs_p2 nt π) (fun y t hy ht => hy.p2 hpw ht) hW0 k h2
      have hpc' := (K.fr hf).2.2.2.2.1
      refine mv_iload_n (pc := 67) dX3_passTick_67 rfl ?_
      refine mv_aload_n (pc := 68) dX3_passTick_68 rfl ?_
      refine mv_getR (pc := 69) (q := q) dX3_passTick_69 fl3_65 (fun _ _ => rfl) (congrArg Prod.fst hp.o) hpl ?_
      refine mv_getIx (pc := 72) (x := nI nt) dX3_passTick_72 fl3_83 rfl (congrArg Prod.fst hq.o) hpc'.1 ?_
      refine mv_icmp_ge (pc := 75) (tgt := 112) dX3_passTick_75 (by decide) (fun hb => ?_) (fun hb => ?_)
      · have : k = nt := by
          have := (nI_leI (a := nt) (b := k) (by omega) (by omega)).mp hb
          omega
        subst this
        refine mv_aload_n (pc := 112) dX3_passTick_112 rfl ?_
        refine mv_getR (pc := 113) (q := q) dX3_passTick_113 fl3_65 (fun _ _ => rfl) (congrArg Prod.fst hp.o) hpl ?_
        refine mv_getIx (pc := 116) (x := nI k) dX3_passTick_116 fl3_83 rfl (congrArg Prod.fst hq.o) hpc'.1 ?_
        refine mv_iconst (pc := 119) (v := 1) dX3_passTick_119 (by decide) ?_
        refine mv_isub (pc := 120) dX3_passTick_120 ?_
        refine mv_istore_n (pc := 121) dX3_passTick_121 (by decide) ?_
        exact l3 k J _ _ (by omega) rfl hr hWk.1 hf hy
      · have hkn : k < nt := by
          rcases Nat.lt_or_ge k nt with q | q
          · exact q
          · exact absurd (nI_le q (by omega)) hb
        have nxt : ∀ J2, rc_R J2 p nt (xs_u (xs_p2 nt π) y0 (k + 1)) → rc_Fr p I J2 → mv_E l D b0 m3_passTick (mv_rm 5) Q 106 [.ref p, .int (nI k)] [] 0 0 n sh J2 R := by
          intro J2 hr2 hf2
          refine mv_iinc (pc := 106) (v := nI (k + 1)) dX3_passTick_106 (by decide) rfl (nI_1 k) ?_
          refine mv_goto (pc := 109) (tgt := 67) dX3_passTick_109 (by decide) ?_
          exact ih (k + 1) J2 y0 (by omega) (by omega) hW0 h80 hr2 hf2 hy
        have eu : xs_u (xs_p2 nt π) y0 (k + 1) = xs_p2 nt π (xs_u (xs_p2 nt π) y0 k) k := rfl
        generalize hyk : xs_u (xs_p2 nt π) y0 k = y at hr hWk eu
        rw [eu] at nxt
        refine mv_aload_n (pc := 78) dX3_passTick_78 rfl ?_
        refine mv_getR (pc := 79) (q := p + 1) dX3_passTick_79 fl3_15 (fun _ _ => rfl) (congrArg Prod.fst hp.o) hp.f2 ?_
        refine mv_iload_n (pc := 82) dX3_passTick_82 rfl ?_
        refine mv_ialdx (pc := 83) (x := y k 0) (k := k) dX3_passTick_83 hp.g2 rfl (by omega) ((hr.2.1 k hkn).1 0 (by decide)) ?_
        refine mv_iconst (pc := 84) (v := 1) dX3_passTick_84 (by decide) ?_
        refine mv_icmp_ne (pc := 85) (tgt := 106) dX3_passTick_85 (by decide) (fun hb2 => ?_) (fun hb2 => ?_)
        · exact nxt J (by unfold xs_p2; rw [if_neg (fun q => hb2 q.1)]; exact hr) hf
        · refine mv_aload_n (pc := 88) dX3_passTick_88 rfl ?_
          refine mv_getR (pc := 89) (q := p + 3) dX3_passTick_89 fl3_22 (fun _ _ => rfl) (congrArg Prod.fst hp.o) hp.f4 ?_
          refine mv_iload_n (pc := 92) dX3_passTick_92 rfl ?_
          refine mv_ialdx (pc := 93) (x := y k 7) (k := k) dX3_passTick_93 hp.g4 rfl (by omega) ((hr.2.1 k hkn).1 7 (by decide)) ?_
          refine mv_aload_n (pc := 94) dX3_passTick_94 rfl ?_
          refine mv_getIx (pc := 95) (x := nI (τ + 1)) dX3_passTick_95 fl3_9 rfl (congrArg Prod.fst hp.o) (hr.1.1.trans (hWk.2.trans h80)) ?_
          refine mv_icmp_ge (pc := 98) (tgt := 106) dX3_passTick_98 (by decide) (fun hb3 => ?_) (fun hb3 => ?_)
          · refine nxt J ?_ hf
            unfold xs_p2
            rw [if_neg]
            · exact hr
            · rintro ⟨-, q | q⟩
              · subst q
                rw [hWk.1.2.2.1] at hb3
                exact absurd hb3 (nI_nle (by omega) (by omega))
              · rw [hWk.2.trans h80] at q
                exact absurd hb3 (Int32.not_le.mpr q)
          · refine mv_aload_n (pc := 101) dX3_passTick_101 rfl ?_
            refine mv_iload_n (pc := 102) dX3_passTick_102 rfl ?_
            refine mv_cVv (pc := 103) dX3_passTick_103 lk3_97 (congrArg Prod.fst hp.o) (c3_goOn (K.fr hf) hr hWk.1 hkn hb2) rfl rfl (Nat.le_of_ble_eq_true rfl) (by decide) (by decide) (fun J2 ⟨hr2, hf2⟩ => ?_)
            refine nxt J2 ?_ (hf.tr hf2)
            unfold xs_p2
            rw [if_pos ⟨hb2, Or.inr (by rw [hWk.2.trans h80]; exact Int32.not_le.mp hb3)⟩]
            exact hr2
  have hW0 := hW.tick hn hτ hτ2
  have h80 : mv_up x 8 0 (x 8 0 + 1) 8 0 = nI (τ + 1) := by rw [mv_upe, hτ, nI_1]
  have l1 : ∀ (f k : Nat) (J : mv_I), nt < k + f → k ≤ nt → rc_R J p nt (xs_u (xs_p1 nt π) (mv_up x 8 0 (x 8 0 + 1)) k) → rc_Fr p I J → mv_E l D b0 m3_passTick (mv_rm 5) Q 12 [.ref p, .int (nI k)] [] 0 0 n sh J R := by
    intro f
    induction f with
    | zero => intro k J h1 h2; omega
    | succ f ih =>
      intro k J h1 h2 hr hf
      have hWk : xs_W nt π (xs_u (xs_p1 nt π) (mv_up x 8 0 (x 8 0 + 1)) k) ∧ xs_u (xs_p1 nt π) (mv_up x 8 0 (x 8 0 + 1)) k 8 0 = mv_up x 8 0 (x 8 0 + 1) 8 0 := xs_W.u (f := xs_p1 nt π) (fun y t hy ht => hy.p1 hpw ht) hW0 k h2
      have hpc' := (K.fr hf).2.2.2.2.1
      refine mv_iload_n (pc := 12) dX3_passTick_12 rfl ?_
      refine mv_aload_n (pc := 13) dX3_passTick_13 rfl ?_
      refine mv_getR (pc := 14) (q := q) dX3_passTick_14 fl3_65 (fun _ _ => rfl) (congrArg Prod.fst hp.o) hpl ?_
      refine mv_getIx (pc := 17) (x := nI nt) dX3_passTick_17 fl3_83 rfl (congrArg Prod.fst hq.o) hpc'.1 ?_
      refine mv_icmp_ge (pc := 20) (tgt := 65) dX3_passTick_20 (by decide) (fun hb => ?_) (fun hb => ?_)
      · have : k = nt := by
          have := (nI_leI (a := nt) (b := k) (by omega) (by omega)).mp hb
          omega
        subst this
        refine mv_iconst (pc := 65) (v := 0) dX3_passTick_65 (by decide) ?_
        refine mv_istore_n (pc := 66) dX3_passTick_66 (by decide) ?_
        exact l2 (k + 1) 0 J _ (by omega) (by omega) hWk.1 (hWk.2.trans h80) hr hf rfl
      · have hkn : k < nt := by
          rcases Nat.lt_or_ge k nt with q | q
          · exact q
          · exact absurd (nI_le q (by omega)) hb
        have nxt : ∀ J2, rc_R J2 p nt (xs_u (xs_p1 nt π) (mv_up x 8 0 (x 8 0 + 1)) (k + 1)) → rc_Fr p I J2 → mv_E l D b0 m3_passTick (mv_rm 5) Q 59 [.ref p, .int (nI k)] [] 0 0 n sh J2 R := by
          intro J2 hr2 hf2
          refine mv_iinc (pc := 59) (v := nI (k + 1)) dX3_passTick_59 (by decide) rfl (nI_1 k) ?_
          refine mv_goto (pc := 62) (tgt := 12) dX3_passTick_62 (by decide) ?_
          exact ih (k + 1) J2 (by omega) (by omega) hr2 hf2
        have eu : xs_u (xs_p1 nt π) (mv_up x 8 0 (x 8 0 + 1)) (k + 1) = xs_p1 nt π (xs_u (xs_p1 nt π) (mv_up x 8 0 (x 8 0 + 1)) k) k := rfl
        generalize hyk : xs_u (xs_p1 nt π) (mv_up x 8 0 (x 8 0 + 1)) k = y at hr hWk eu
        rw [eu] at nxt
        refine mv_aload_n (pc := 23) dX3_passTick_23 rfl ?_
        refine mv_getR (pc := 24) (q := p + 1) dX3_passTick_24 fl3_15 (fun _ _ => rfl) (congrArg Prod.fst hp.o) hp.f2 ?_
        refine mv_iload_n (pc := 27) dX3_passTick_27 rfl ?_
        refine mv_ialdx (pc := 28) (x := y k 0) (k := k) dX3_passTick_28 hp.g2 rfl (by omega) ((hr.2.1 k hkn).1 0 (by decide)) ?_
        refine mv_iconst (pc := 29) (v := 1) dX3_passTick_29 (by decide) ?_
        refine mv_icmp_ne (pc := 30) (tgt := 59) dX3_passTick_30 (by decide) (fun hb2 => ?_) (fun hb2 => ?_)
        · exact nxt J (by unfold xs_p1; rw [if_neg (fun q => hb2 q.1)]; exact hr) hf
        · have hdu := (hr.2.1 k hkn).2.2.1
          have h4 : y k 4 ≠ 0 := fun z => absurd (((hWk.1.2.2.2 k hkn).run (a := 1) hb2 (by decide)).1.mpr z) (by decide)
          have e80 : y 8 0 = nI (τ + 1) := hWk.2.trans h80
          have hcmp : nI (τ + 1) ≤ J (p + 5) k ↔ ¬ y k 4 < y 8 0 := by
            rw [e80]
            rcases xs_dun hdu h4 with ⟨q1, q2⟩ | ⟨z, z1, z2, q1, q2⟩
            · rw [q1, q2]
              exact ⟨fun _ => nI_nlt (a := 9999) (by omega) (by decide), fun _ => nI_le (b := 1000000) (by omega) (by decide)⟩
            · rw [q1, q2]
              exact Int32.not_lt.symm
          refine mv_aload_n (pc := 33) dX3_passTick_33 rfl ?_
          refine mv_getIx (pc := 34) (x := nI (τ + 1)) dX3_passTick_34 fl3_9 rfl (congrArg Prod.fst hp.o) (hr.1.1.trans e80) ?_
          refine mv_aload_n (pc := 37) dX3_passTick_37 rfl ?_
          refine mv_getR (pc := 38) (q := p + 5) dX3_passTick_38 fl3_28 (fun _ _ => rfl) (congrArg Prod.fst hp.o) hp.f6 ?_
          refine mv_iload_n (pc := 41) dX3_passTick_41 rfl ?_
          refine mv_iald (pc := 42) (k := k) dX3_passTick_42 hp.g6 rfl (by omega) ?_
          refine mv_icmp_le (pc := 43) (tgt := 59) dX3_passTick_43 (by decide) (fun hb3 => ?_) (fun hb3 => ?_)
          · exact nxt J (by unfold xs_p1; rw [if_neg (fun q => hcmp.mp hb3 q.2)]; exact hr) hf
          · obtain ⟨c, hc8, hc⟩ := (hWk.1.2.2.2 k hkn).2.1
            obtain ⟨e, he6, he⟩ := hWk.1.2.1
            refine mv_aload_n (pc := 46) dX3_passTick_46 rfl ?_
            refine mv_iload_n (pc := 47) dX3_passTick_47 rfl ?_
            refine mv_bipush (pc := 48) (v := 10) dX3_passTick_48 (by decide) ?_
            refine mv_cVv (pc := 50) dX3_passTick_50 lk3_91 (congrArg Prod.fst hp.o) (c3_addCode hp hr hn hkn hc hc8) rfl rfl (Nat.le_of_ble_eq_true rfl) (by decide) (by decide) (fun J2 ⟨hr2, hf2⟩ => ?_)
            refine mv_aload_n (pc := 53) dX3_passTick_53 rfl ?_
            refine mv_iload_n (pc := 54) dX3_passTick_54 rfl ?_
            refine mv_iconst (pc := 55) (v := 3) dX3_passTick_55 (by decide) ?_
            refine mv_cVv (pc := 56) dX3_passTick_56 lk3_94 (congrArg Prod.fst hp.o) (c3_close (K.fr (hf.tr hf2)) hr2 hkn (by rw [xs_cd_ne (by omega)]; exact he) he6) rfl rfl (Nat.le_of_ble_eq_true rfl) (by decide) (by decide) (fun J3 ⟨hr3, hf3⟩ => ?_)
            refine nxt J3 ?_ ((hf.tr hf2).tr hf3)
            unfold xs_p1
            rw [if_pos ⟨hb2, Classical.byContradiction fun q => hb3 (hcmp.mpr q)⟩]
            exact hr3
  refine mv_aload_n (pc := 0) dX3_passTick_0 rfl ?_
  refine mv_dup (pc := 1) dX3_passTick_1 rfl ?_
  refine mv_getIx (pc := 2) (x := x 8 0) dX3_passTick_2 fl3_9 rfl (congrArg Prod.fst hp.o) h.1.1 ?_
  refine mv_iconst (pc := 5) (v := 1) dX3_passTick_5 (by decide) ?_
  refine mv_iadd (pc := 6) dX3_passTick_6 ?_
  refine mv_putI (pc := 7) dX3_passTick_7 fl3_9 rfl rfl (congrArg Prod.fst hp.o) ?_
  refine mv_iconst (pc := 10) (v := 0) dX3_passTick_10 (by decide) ?_
  refine mv_istore_n (pc := 11) dX3_passTick_11 (by decide) ?_
  exact l1 (nt + 1) 0 _ (by omega) (by omega) (rc_tick h hn) (rc_Fr.rf.up (by omega))
theorem c3_passTick {l : Launch} {D : va_G} {b0 n : Nat} {sh : mv_Sh} {I : mv_I} {R : mv_R} {p q nt τ : Nat} {π x : xs_X} (K : rc_P sh R I p q nt π) (h : rc_R I p nt x) (hW : xs_W nt π x) (hτ : x 8 0 = nI τ) (hτ2 : τ < 2000) : mv_C l D b0 m3_passTick (mv_rm 5) [.ref p] n sh I R (mv_Pv n sh R (fun I' => rc_R I' p nt (xs_tk nt π x) ∧ rc_Fr p I I')) := mv_C.of 1 (by decide) (by simp [Value.category]) rfl (e3_passTick K h hW hτ hτ2 (fun _ h => mv_Pv.mk h))
/-- so many ticks at most, till one of two is ended -/
def xs_go (n : Nat) (π : xs_X) (t : Nat) : Nat → xs_X → xs_X
  | 0, x => x
  | f + 1, x => if x t 0 = 3 ∨ x 0 0 = 3 then x else xs_go n π t f (xs_tk n π x)
theorem xs_W.go {n t : Nat} {π : xs_X} (hp : pl_W n π) : ∀ (f τ : Nat) (x : xs_X), xs_W n π x → x 8 0 = nI τ → τ + f ≤ 2000 → xs_W n π (xs_go n π t f x)
  | 0, _, x, h, _, _ => h
  | f + 1, τ, x, h, hτ, h2 => by
    unfold xs_go
    split
    · exact h
    · have := h.tk hp hτ (by omega)
      exact xs_W.go hp f (τ + 1) _ this.1 this.2 (by omega)
set_option maxHeartbeats 4000000 in
set_option maxRecDepth 100000 in
theorem e3_passUntilEnded {l : Launch} {D : va_G} {b0 n : Nat} {sh : mv_Sh} {I : mv_I} {R : mv_R} {Q : mv_Q} {p q nt τ t m : Nat} {π x : xs_X} (K : rc_P sh R I p q nt π) (h : rc_R I p nt x) (hW : xs_W nt π x) (ht : t < nt) (hτ : x 8 0 = nI τ) (hτ2 : τ + m ≤ 2000) (hQ : ∀ r I', (r = (if xs_go nt π t m x t 0 = 3 then 1 else 0) ∧ rc_R I' p nt (xs_go nt π t m x) ∧ rc_Fr p I I') → Q (some (.int r)) n sh I' R) : mv_E l D b0 m3_passUntilEnded (mv_rm 6) Q 0 [.ref p, .int (nI t), .int (nI m), .null] [] 0 0 n sh I R := by
  obtain ⟨hp, hq, hpl, hdj, hpc, hpw⟩ := id K
  have hn := hpw.2.1
  have hn1 := hpw.1
  have fin : ∀ (i : Nat) (J : mv_I), rc_R J p nt (xs_go nt π t m x) → rc_Fr p I J → mv_E l D b0 m3_passUntilEnded (mv_rm 6) Q 37 [.ref p, .int (nI t), .int (nI m), .int (nI i)] [] 0 0 n sh J R := by
    intro i J hr hf
    refine mv_aload_n (pc := 37) dX3_passUntilEnded_37 rfl ?_
    refine mv_getR (pc := 38) (q := p + 1) dX3_passUntilEnded_38 fl3_15 (fun _ _ => rfl) (congrArg Prod.fst hp.o) hp.f2 ?_
    refine mv_iload_n (pc := 41) dX3_passUntilEnded_41 rfl ?_
    refine mv_ialdx (pc := 42) (x := xs_go nt π t m x t 0) (k := t) dX3_passUntilEnded_42 hp.g2 rfl (by omega) ((hr.2.1 t ht).1 0 (by decide)) ?_
    refine mv_iconst (pc := 43) (v := 3) dX3_passUntilEnded_43 (by decide) ?_
    refine mv_icmp_ne (pc := 44) (tgt := 51) dX3_passUntilEnded_44 (by decide) (fun hb => ?_) (fun hb => ?_)
    · refine mv_iconst (pc := 51) (v := 0) dX3_passUntilEnded_51 (by decide) ?_
      exact mv_zret (pc := 52) dX3_passUntilEnded_52 rfl (by rfl) (by decide) (by decide) (hQ _ _ ⟨by rw [if_neg hb], hr, hf⟩)
    · refine mv_iconst (pc := 47) (v := 1) dX3_passUntilEnded_47 (by decide) ?_
      refine mv_goto (pc := 48) (tgt := 52) dX3_passUntilEnded_48 (by decide) ?_
      exact mv_zret (pc := 52) dX3_passUntilEnded_52 rfl (by rfl) (by decide) (by decide) (hQ _ _ ⟨by rw [if_pos hb], hr, hf⟩)
  have loop : ∀ (f i τ : Nat) (J : mv_I) (y : xs_X), i + f = m → rc_R J p nt y → xs_W nt π y → y 8 0 = nI τ → τ + f ≤ 2000 → rc_Fr p I J → xs_go nt π t f y = xs_go nt π t m x → mv_E l D b0 m3_passUntilEnded (mv_rm 6) Q 2 [.ref p, .int (nI t), .int (nI m), .int (nI i)] [] 0 0 n sh J R := by
    intro f
    induction f with
    | zero =>
      intro i τ J y hi hr hWy hτy hτm hf hy
      refine mv_iload_n (pc := 2) dX3_passUntilEnded_2 rfl ?_
      refine mv_iload_n (pc := 3) dX3_passUntilEnded_3 rfl ?_
      refine mv_icmp_ge (pc := 4) (tgt := 37) dX3_passUntilEnded_4 (by decide) (fun hb => ?_) (fun hb => ?_)
      · exact fin i J (by rw [← hy]; exact hr) hf
      · exact absurd (nI_le (by omega) (by omega)) hb
    | succ f ih =>
      intro i τ J y hi hr hWy hτy hτm hf hy
      have stop : (y t 0 = 3 ∨ y 0 0 = 3) → rc_R J p nt (xs_go nt π t m x) := by
        intro q
        rw [← hy]
        unfold xs_go
        rw [if_pos q]
        exact hr
      refine mv_iload_n (pc := 2) dX3_passUntilEnded_2 rfl ?_
      refine mv_iload_n (pc := 3) dX3_passUntilEnded_3 rfl ?_
      refine mv_icmp_ge (pc := 4) (tgt := 37) dX3_passUntilEnded_4 (by decide) (fun hb => ?_) (fun hb => ?_)
      · exact absurd hb (nI_ge (by omega) (by omega))
      · refine mv_aload_n (pc := 7) dX3_passUntilEnded_7 rfl ?_
        refine mv_getR (pc := 8) (q := p + 1) dX3_passUntilEnded_8 fl3_15 (fun _ _ => rfl) (congrArg Prod.fst hp.o) hp.f2 ?_
        refine mv_iload_n (pc := 11) dX3_passUntilEnded_11 rfl ?_
        refine mv_ialdx (pc := 12) (x := y t 0) (k := t) dX3_passUntilEnded_12 hp.g2 rfl (by omega) ((hr.2.1 t ht).1 0 (by decide)) ?_
        refine mv_iconst (pc := 13) (v := 3) dX3_passUntilEnded_13 (by decide) ?_
        refine mv_icmp_eq (pc := 14) (tgt := 37) dX3_passUntilEnded_14 (by decide) (fun hb2 => ?_) (fun hb2 => ?_)
        · exact fin i J (stop (Or.inl hb2)) hf
        · refine mv_aload_n (pc := 17) dX3_passUntilEnded_17 rfl ?_
          refine mv_getR (pc := 18) (q := p + 1) dX3_passUntilEnded_18 fl3_15 (fun _ _ => rfl) (congrArg Prod.fst hp.o) hp.f2 ?_
          refine mv_iconst (pc := 21) (v := 0) dX3_passUntilEnded_21 (by decide) ?_
          refine mv_ialdx (pc := 22) (x := y 0 0) (k := 0) dX3_passUntilEnded_22 hp.g2 (by decide) (by omega) ((hr.2.1 0 (by omega)).1 0 (by decide)) ?_
          refine mv_iconst (pc := 23) (v := 3) dX3_passUntilEnded_23 (by decide) ?_
          refine mv_icmp_eq (pc := 24) (tgt := 37) dX3_passUntilEnded_24 (by decide) (fun hb3 => ?_) (fun hb3 => ?_)
          · exact fin i J (stop (Or.inr hb3)) hf
          · refine mv_aload_n (pc := 27) dX3_passUntilEnded_27 rfl ?_
            refine mv_cVv (pc := 28) dX3_passUntilEnded_28 lk3_80 (congrArg Prod.fst hp.o) (c3_passTick (K.fr hf) hr hWy hτy (by omega)) rfl rfl (Nat.le_of_ble_eq_true rfl) (by decide) (by decide) (fun J2 ⟨hr2, hf2⟩ => ?_)
            refine mv_iinc (pc := 31) (v := nI (i + 1)) dX3_passUntilEnded_31 (by decide) rfl (nI_1 i) ?_
            refine mv_goto (pc := 34) (tgt := 2) dX3_passUntilEnded_34 (by decide) ?_
            have hWt := hWy.tk hpw hτy (by omega)
            refine ih (i + 1) (τ + 1) J2 _ (by omega) hr2 hWt.1 hWt.2 (by omega) (hf.tr hf2) ?_
            rw [← hy, xs_go, if_neg (fun q => q.elim hb2 hb3)]
  refine mv_iconst (pc := 0) (v := 0) dX3_passUntilEnded_0 (by decide) ?_
  refine mv_istore_n (pc := 1) dX3_passUntilEnded_1 (by decide) ?_
  exact loop m 0 τ I x (by omega) h hW hτ (by omega) rc_Fr.rf rfl
theorem c3_passUntilEnded {l : Launch} {D : va_G} {b0 n : Nat} {sh : mv_Sh} {I : mv_I} {R : mv_R} {p q nt τ t m : Nat} {π x : xs_X} (K : rc_P sh R I p q nt π) (h : rc_R I p nt x) (hW : xs_W nt π x) (ht : t < nt) (hτ : x 8 0 = nI τ) (hτ2 : τ + m ≤ 2000) : mv_C l D b0 m3_passUntilEnded (mv_rm 6) [.ref p, .int (nI t), .int (nI m)] n sh I R (mv_Pi n sh R (fun r I' => r = (if xs_go nt π t m x t 0 = 3 then 1 else 0) ∧ rc_R I' p nt (xs_go nt π t m x) ∧ rc_Fr p I I')) := mv_C.of 1 (by decide) (by simp [Value.category]) rfl (e3_passUntilEnded K h hW ht hτ hτ2 (fun _ _ h => mv_Pi.mk h))
set_option maxHeartbeats 4000000 in
set_option maxRecDepth 100000 in
theorem e3_hadEndedBy {l : Launch} {D : va_G} {b0 n : Nat} {sh : mv_Sh} {I : mv_I} {R : mv_R} {Q : mv_Q} {p nt t : Nat} {x : xs_X} {w : Int32} (hp : ly_Run sh R p) (h : rc_R I p nt x) (hn : nt ≤ 8) (ht : t < nt) (h8 : x t 0 = 3 → x t 8 ≠ -9) (hQ : ∀ r I', (r = (if x t 0 = 3 ∧ x t 8 ≤ w then 1 else 0) ∧ I' = I) → Q (some (.int r)) n sh I' R) : mv_E l D b0 m3_hadEndedBy (mv_rm 0) Q 0 [.ref p, .int (nI t), .int w] [] 0 0 n sh I R := by
  refine mv_aload_n (pc := 0) dX3_hadEndedBy_0 rfl ?_
  refine mv_getR (pc := 1) (q := p + 1) dX3_hadEndedBy_1 fl3_15 (fun _ _ => rfl) (congrArg Prod.fst hp.o) hp.f2 ?_
  refine mv_iload_n (pc := 4) dX3_hadEndedBy_4 rfl ?_
  refine mv_ialdx (pc := 5) (x := x t 0) (k := t) dX3_hadEndedBy_5 hp.g2 rfl (by omega) ((h.2.1 t ht).1 0 (by decide)) ?_
  refine mv_iconst (pc := 6) (v := 3) dX3_hadEndedBy_6 (by decide) ?_
  refine mv_icmp_ne (pc := 7) (tgt := 24) dX3_hadEndedBy_7 (by decide) (fun hb => ?_) (fun hb => ?_)
  · refine mv_iconst (pc := 24) (v := 0) dX3_hadEndedBy_24 (by decide) ?_
    exact mv_zret (pc := 25) dX3_hadEndedBy_25 rfl (by rfl) (by decide) (by decide) (hQ _ _ ⟨by rw [if_neg (fun q => hb q.1)], rfl⟩)
  · have e : I (p + 4) t = x t 8 := (h.2.1 t ht).2.1.resolve_left (h8 hb)
    refine mv_aload_n (pc := 10) dX3_hadEndedBy_10 rfl ?_
    refine mv_getR (pc := 11) (q := p + 4) dX3_hadEndedBy_11 fl3_25 (fun _ _ => rfl) (congrArg Prod.fst hp.o) hp.f5 ?_
    refine mv_iload_n (pc := 14) dX3_hadEndedBy_14 rfl ?_
    refine mv_ialdx (pc := 15) (x := x t 8) (k := t) dX3_hadEndedBy_15 hp.g5 rfl (by omega) e ?_
    refine mv_iload_n (pc := 16) dX3_hadEndedBy_16 rfl ?_
    refine mv_icmp_gt (pc := 17) (tgt := 24) dX3_hadEndedBy_17 (by decide) (fun hb2 => ?_) (fun hb2 => ?_)
    · refine mv_iconst (pc := 24) (v := 0) dX3_hadEndedBy_24 (by decide) ?_
      exact mv_zret (pc := 25) dX3_hadEndedBy_25 rfl (by rfl) (by decide) (by decide) (hQ _ _ ⟨by rw [if_neg (fun q => absurd q.2 (Int32.not_le.mpr hb2))], rfl⟩)
    · refine mv_iconst (pc := 20) (v := 1) dX3_hadEndedBy_20 (by decide) ?_
      refine mv_goto (pc := 21) (tgt := 25) dX3_hadEndedBy_21 (by decide) ?_
      exact mv_zret (pc := 25) dX3_hadEndedBy_25 rfl (by rfl) (by decide) (by decide) (hQ _ _ ⟨by rw [if_pos ⟨hb, Int32.not_lt.mp hb2⟩], rfl⟩)
theorem c3_hadEndedBy {l : Launch} {D : va_G} {b0 n : Nat} {sh : mv_Sh} {I : mv_I} {R : mv_R} {p nt t : Nat} {x : xs_X} {w : Int32} (hp : ly_Run sh R p) (h : rc_R I p nt x) (hn : nt ≤ 8) (ht : t < nt) (h8 : x t 0 = 3 → x t 8 ≠ -9) : mv_C l D b0 m3_hadEndedBy (mv_rm 0) [.ref p, .int (nI t), .int w] n sh I R (mv_Pi n sh R (fun r I' => r = (if x t 0 = 3 ∧ x t 8 ≤ w then 1 else 0) ∧ I' = I)) := mv_C.of 0 (by decide) (by simp [Value.category]) rfl (e3_hadEndedBy hp h hn ht h8 (fun _ _ h => mv_Pi.mk h))
/-- how many of the first c tasks are so -/
def xs_ct (x : xs_X) (w : Int32) : Nat → Nat
  | 0 => 0
  | c + 1 => if x c 0 = w then xs_ct x w c + 1 else xs_ct x w c
set_option maxHeartbeats 4000000 in
set_option maxRecDepth 100000 in
theorem e3_countThatAre {l : Launch} {D : va_G} {b0 n : Nat} {sh : mv_Sh} {I : mv_I} {R : mv_R} {Q : mv_Q} {p q nt : Nat} {π x : xs_X} {w : Int32} (K : rc_P sh R I p q nt π) (h : rc_R I p nt x) (hQ : ∀ r I', (r = nI (xs_ct x w nt) ∧ I' = I) → Q (some (.int r)) n sh I' R) : mv_E l D b0 m3_countThatAre (mv_rm 0) Q 0 [.ref p, .int w, .null, .null] [] 0 0 n sh I R := by
  obtain ⟨hp, hq, hpl, hdj, hpc, hpw⟩ := id K
  have hn := hpw.2.1
  have loop : ∀ (f c : Nat), nt < c + f → c ≤ nt → mv_E l D b0 m3_countThatAre (mv_rm 0) Q 4 [.ref p, .int w, .int (nI (xs_ct x w c)), .int (nI c)] [] 0 0 n sh I R := by
    intro f
    induction f with
    | zero => intro c h1 h2; omega
    | succ f ih =>
      intro c h1 h2
      refine mv_iload_n (pc := 4) dX3_countThatAre_4 rfl ?_
      refine mv_aload_n (pc := 5) dX3_countThatAre_5 rfl ?_
      refine mv_getR (pc := 6) (q := q) dX3_countThatAre_6 fl3_65 (fun _ _ => rfl) (congrArg Prod.fst hp.o) hpl ?_
      refine mv_getIx (pc := 9) (x := nI nt) dX3_countThatAre_9 fl3_83 rfl (congrArg Prod.fst hq.o) hpc.1 ?_
      refine mv_icmp_ge (pc := 12) (tgt := 34) dX3_countThatAre_12 (by decide) (fun hb => ?_) (fun hb => ?_)
      · have : c = nt := by
          have := (nI_leI (a := nt) (b := c) (by omega) (by omega)).mp hb
          omega
        subst this
        refine mv_iload_n (pc := 34) dX3_countThatAre_34 rfl ?_
        exact mv_iret (pc := 35) dX3_countThatAre_35 rfl (by decide) (by decide) (hQ _ _ ⟨rfl, rfl⟩)
      · have hcn : c < nt := by
          rcases Nat.lt_or_ge c nt with q | q
          · exact q
          · exact absurd (nI_le q (by omega)) hb
        have nxt : ∀ v, v = nI (xs_ct x w (c + 1)) → mv_E l D b0 m3_countThatAre (mv_rm 0) Q 28 [.ref p, .int w, .int v, .int (nI c)] [] 0 0 n sh I R := by
          intro v hv
          subst hv
          refine mv_iinc (pc := 28) (v := nI (c + 1)) dX3_countThatAre_28 (by decide) rfl (nI_1 c) ?_
          refine mv_goto (pc := 31) (tgt := 4) dX3_countThatAre_31 (by decide) ?_
          exact ih (c + 1) (by omega) (by omega)
        refine mv_aload_n (pc := 15) dX3_countThatAre_15 rfl ?_
        refine mv_getR (pc := 16) (q := p + 1) dX3_countThatAre_16 fl3_15 (fun _ _ => rfl) (congrArg Prod.fst hp.o) hp.f2 ?_
        refine mv_iload_n (pc := 19) dX3_countThatAre_19 rfl ?_
        refine mv_ialdx (pc := 20) (x := x c 0) (k := c) dX3_countThatAre_20 hp.g2 rfl (by omega) ((h.2.1 c hcn).1 0 (by decide)) ?_
        refine mv_iload_n (pc := 21) dX3_countThatAre_21 rfl ?_
        refine mv_icmp_ne (pc := 22) (tgt := 28) dX3_countThatAre_22 (by decide) (fun hb2 => ?_) (fun hb2 => ?_)
        · exact nxt _ (by rw [xs_ct, if_neg hb2])
        · refine mv_iinc (pc := 25) (v := nI (xs_ct x w c + 1)) dX3_countThatAre_25 (by decide) rfl (nI_1 _) ?_
          exact nxt _ (by rw [xs_ct, if_pos hb2])
  refine mv_iconst (pc := 0) (v := 0) dX3_countThatAre_0 (by decide) ?_
  refine mv_istore_n (pc := 1) dX3_countThatAre_1 (by decide) ?_
  refine mv_iconst (pc := 2) (v := 0) dX3_countThatAre_2 (by decide) ?_
  refine mv_istore_n (pc := 3) dX3_countThatAre_3 (by decide) ?_
  exact loop (nt + 1) 0 (by omega) (by omega)
theorem c3_countThatAre {l : Launch} {D : va_G} {b0 n : Nat} {sh : mv_Sh} {I : mv_I} {R : mv_R} {p q nt : Nat} {π x : xs_X} {w : Int32} (K : rc_P sh R I p q nt π) (h : rc_R I p nt x) : mv_C l D b0 m3_countThatAre (mv_rm 0) [.ref p, .int w] n sh I R (mv_Pi n sh R (fun r I' => r = nI (xs_ct x w nt) ∧ I' = I)) := mv_C.of 2 (by decide) (by simp [Value.category]) rfl (e3_countThatAre K h (fun _ _ h => mv_Pi.mk h))
end
section
/-! the reference's row holds the tasks -/
theorem mv_jx (a b c : Nat) : nI a * nI b + nI c = nI (a * b + c) := by rw [nI_mul, nI_add]
def rm_R (I : mv_I) (a : Nat) (x : xs_X) : Prop := (∀ t, t < 8 → ∀ k, k < 18 → I a (18 * t + k) = x t k) ∧ (I a 144 = x 8 0 ∧ I a 145 = x 8 1) ∧ ∀ j, j < 60 → ∀ c, c < 3 → I a (146 + 3 * j + c) = x (9 + j) c
def rm_Fr (a : Nat) (I I' : mv_I) : Prop := ∀ b, b ≠ a → I' b = I b
theorem rm_Fr.rf {a : Nat} {I : mv_I} : rm_Fr a I I := fun _ _ => rfl
theorem rm_Fr.tr {a : Nat} {I I1 I2 : mv_I} (h : rm_Fr a I I1) (h2 : rm_Fr a I1 I2) : rm_Fr a I I2 := fun b hb => (h2 b hb).trans (h b hb)
theorem rm_Fr.up {a k : Nat} {I I1 : mv_I} {v : Int32} (h : rm_Fr a I I1) : rm_Fr a I (mv_up I1 a k v) := fun b hb => by
  rw [mv_upN b hb]
  exact h b hb
theorem rm_set {I : mv_I} {a t : Nat} {x : xs_X} {v : Int32} (k : Nat) (h : rm_R I a x) (ht : t < 8) (hk : k < 18) : rm_R (mv_up I a (18 * t + k) v) a (mv_up x t k v) := by
  obtain ⟨h1, ⟨h2, h3⟩, h4⟩ := h
  refine ⟨fun u hu j hj => ?_, ⟨?_, ?_⟩, fun j hj c hc => ?_⟩
  · by_cases q : u = t ∧ j = k
    · obtain ⟨rfl, rfl⟩ := q
      rw [mv_upe, mv_upe]
    · have : ¬ 18 * u + j = 18 * t + k := by omega
      simp only [mv_up, this, q, and_false, if_false]
      exact h1 u hu j hj
  · have : ¬ 144 = 18 * t + k := by omega
    have q : ¬ 8 = t := by omega
    simp only [mv_up, this, q, and_false, false_and, if_false]
    exact h2
  · have : ¬ 145 = 18 * t + k := by omega
    have q : ¬ 8 = t := by omega
    simp only [mv_up, this, q, and_false, false_and, if_false]
    exact h3
  · have : ¬ 146 + 3 * j + c = 18 * t + k := by omega
    have q : ¬ 9 + j = t := by omega
    simp only [mv_up, this, q, and_false, false_and, if_false]
    exact h4 j hj c hc
theorem rm_tick {I : mv_I} {a : Nat} {x : xs_X} {v : Int32} (h : rm_R I a x) : rm_R (mv_up I a 144 v) a (mv_up x 8 0 v) := by
  obtain ⟨h1, ⟨h2, h3⟩, h4⟩ := h
  refine ⟨fun u hu j hj => ?_, ⟨?_, ?_⟩, fun j hj c hc => ?_⟩
  · have : ¬ 18 * u + j = 144 := by omega
    have q : ¬ u = 8 := by omega
    simp only [mv_up, this, q, and_false, false_and, if_false]
    exact h1 u hu j hj
  · rw [mv_upe, mv_upe]
  · rw [show mv_up x 8 0 v 8 1 = x 8 1 by simp [mv_up], ← h3]; simp [mv_up]
  · have : ¬ 146 + 3 * j + c = 144 := by omega
    have q : ¬ 9 + j = 8 := by omega
    simp only [mv_up, this, q, and_false, false_and, if_false]
    exact h4 j hj c hc
theorem rm_tr {I : mv_I} {a t e : Nat} {x : xs_X} {w : Int32} (h : rm_R I a x) (he : x 8 1 = nI e) (he6 : e < 60) : rm_R (mv_up (mv_up (mv_up (mv_up I a (146 + 3 * e) (x 8 0)) a (146 + 3 * e + 1) (nI t)) a (146 + 3 * e + 2) w) a 145 (nI e + 1)) a (xs_tr x t w) := by
  have e0 : xs_tr x t w = mv_up (mv_up (mv_up (mv_up x (9 + e) 0 (x 8 0)) (9 + e) 1 (nI t)) (9 + e) 2 w) 8 1 (nI e + 1) := by
    unfold xs_tr
    rw [he, if_pos (show nI e < (60 : Int32) from nI_lt he6 (by decide)), nI_clamp (by omega)]
  rw [e0]
  obtain ⟨h1, ⟨h2, h3⟩, h4⟩ := h
  refine ⟨fun u hu j hj => ?_, ⟨?_, ?_⟩, fun j hj c hc => ?_⟩
  · have q0 : ¬ 18 * u + j = 146 + 3 * e := by omega
    have q1 : ¬ 18 * u + j = 146 + 3 * e + 1 := by omega
    have q2 : ¬ 18 * u + j = 146 + 3 * e + 2 := by omega
    have q3 : ¬ 18 * u + j = 145 := by omega
    have q4 : ¬ u = 9 + e := by omega
    have q5 : ¬ u = 8 := by omega
    simp only [mv_up, q0, q1, q2, q3, q4, q5, and_false, false_and, if_false]
    exact h1 u hu j hj
  · have q0 : ¬ 144 = 146 + 3 * e := by omega
    have q1 : ¬ 144 = 146 + 3 * e + 1 := by omega
    have q2 : ¬ 144 = 146 + 3 * e + 2 := by omega
    have q4 : ¬ 8 = 9 + e := by omega
    simp only [mv_up, q0, q1, q2, q4, and_false, false_and, if_false]
    simpa using h2
  · rw [mv_upe, mv_upe]
  · have q3 : ¬ 146 + 3 * j + c = 145 := by omega
    have q5 : ¬ 9 + j = 8 := by omega
    by_cases hje : j = e
    · subst hje
      have hc3 : c = 0 ∨ c = 1 ∨ c = 2 := by omega
      rcases hc3 with rfl | rfl | rfl
      · have : ¬ 146 + 3 * j = 145 := by omega
        simp [mv_up, q5, this]
      · have : ¬ 146 + 3 * j + 1 = 145 := by omega
        simp [mv_up, q5, this]
      · have : ¬ 146 + 3 * j + 2 = 145 := by omega
        simp [mv_up, q5, this]
    · have q0 : ¬ 146 + 3 * j + c = 146 + 3 * e := by omega
      have q1 : ¬ 146 + 3 * j + c = 146 + 3 * e + 1 := by omega
      have q2 : ¬ 146 + 3 * j + c = 146 + 3 * e + 2 := by omega
      have q4 : ¬ 9 + j = 9 + e := by omega
      simp only [mv_up, q0, q1, q2, q3, q4, q5, and_false, false_and, if_false]
      exact h4 j hj c hc
def pl_M (I : mv_I) (m n : Nat) (π : xs_X) : Prop := I m 15 = nI n ∧ ∀ t, t < n → I (m + 8) t = π t 0 ∧ I (m + 9) t = π t 1 ∧ I (m + 11) t = π t 2 ∧ I (m + 12) t = π t 3 ∧ I (m + 13) t = π t 4 ∧ (I m 16 >>> (nI t &&& 31)) &&& 1 = π t 5 ∧ ∀ j, j < (π t 1).toNatClampNeg → I (m + 10) (12 * t + 2 * j) = π t (6 + 2 * j) ∧ I (m + 10) (12 * t + 2 * j + 1) = π t (7 + 2 * j)
theorem pl_M.eq {I I' : mv_I} {m n : Nat} {π : xs_X} (h : pl_M I m n π) (e0 : I' m = I m) (e : ∀ b, m + 8 ≤ b → b < m + 14 → I' b = I b) : pl_M I' m n π := by
  refine ⟨by rw [e0]; exact h.1, fun t ht => ?_⟩
  rw [e0, e (m + 8) (by omega) (by omega), e (m + 9) (by omega) (by omega), e (m + 10) (by omega) (by omega), e (m + 11) (by omega) (by omega), e (m + 12) (by omega) (by omega), e (m + 13) (by omega) (by omega)]
  exact h.2 t ht
def rm_P (sh : mv_Sh) (R : mv_R) (I : mv_I) (m a nt : Nat) (π : xs_X) : Prop := ly_Mod sh R m ∧ sh a = (7, 326) ∧ (a = m + 14 ∨ a = m + 15) ∧ pl_M I m nt π ∧ pl_W nt π
theorem rm_P.fr {sh : mv_Sh} {R : mv_R} {I I' : mv_I} {m a nt : Nat} {π : xs_X} (h : rm_P sh R I m a nt π) (f : rm_Fr a I I') : rm_P sh R I' m a nt π := by
  obtain ⟨h1, h2, h3, h4, h5⟩ := h
  exact ⟨h1, h2, h3, h4.eq (f m (by omega)) (fun b b1 b2 => f b (by omega)), h5⟩
end
section
set_option maxHeartbeats 4000000 in
set_option maxRecDepth 100000 in
theorem e6_at {l : Launch} {D : va_G} {b0 n : Nat} {sh : mv_Sh} {I : mv_I} {R : mv_R} {Q : mv_Q} {a t k : Nat} {x : xs_X} (ha : sh a = (7, 326)) (h : rm_R I a x) (ht : t < 8) (hk : k < 18) (hQ : ∀ r I', (r = x t k ∧ I' = I) → Q (some (.int r)) n sh I' R) : mv_E l D b0 m6_at (mv_rm 0) Q 0 [.ref a, .int (nI t), .int (nI k)] [] 0 0 n sh I R := by
  refine mv_aload_n (pc := 0) dX6_at_0 rfl ?_
  refine mv_bipush (pc := 1) (v := 18) dX6_at_1 (by decide) ?_
  refine mv_iload_n (pc := 3) dX6_at_3 rfl ?_
  refine mv_imul (pc := 4) dX6_at_4 ?_
  refine mv_iload_n (pc := 5) dX6_at_5 rfl ?_
  refine mv_iadd (pc := 6) dX6_at_6 ?_
  refine mv_ialdx (pc := 7) (x := x t k) (k := 18 * t + k) dX6_at_7 ha (mv_jx 18 t k) (by omega) (h.1 t ht k hk) ?_
  exact mv_iret (pc := 8) dX6_at_8 rfl (by decide) (by decide) (hQ _ _ ⟨rfl, rfl⟩)
theorem c6_at {l : Launch} {D : va_G} {b0 n : Nat} {sh : mv_Sh} {I : mv_I} {R : mv_R} {a t k : Nat} {x : xs_X} (ha : sh a = (7, 326)) (h : rm_R I a x) (ht : t < 8) (hk : k < 18) : mv_C l D b0 m6_at (mv_rm 0) [.ref a, .int (nI t), .int (nI k)] n sh I R (mv_Pi n sh R (fun r I' => r = x t k ∧ I' = I)) := mv_C.of 0 (by decide) (by simp [Value.category]) rfl (e6_at ha h ht hk (fun _ _ h => mv_Pi.mk h))
set_option maxHeartbeats 4000000 in
set_option maxRecDepth 100000 in
theorem e6_isHow {l : Launch} {D : va_G} {b0 n : Nat} {sh : mv_Sh} {I : mv_I} {R : mv_R} {Q : mv_Q} {a t : Nat} {x : xs_X} {w : Int32} (ha : sh a = (7, 326)) (h : rm_R I a x) (ht : t < 8) (hQ : ∀ r I', (r = (if x t 0 = w then 1 else 0) ∧ I' = I) → Q (some (.int r)) n sh I' R) : mv_E l D b0 m6_isHow (mv_rm 0) Q 0 [.ref a, .int (nI t), .int w] [] 0 0 n sh I R := by
  refine mv_aload_n (pc := 0) dX6_isHow_0 rfl ?_
  refine mv_bipush (pc := 1) (v := 18) dX6_isHow_1 (by decide) ?_
  refine mv_iload_n (pc := 3) dX6_isHow_3 rfl ?_
  refine mv_imul (pc := 4) dX6_isHow_4 ?_
  refine mv_iconst (pc := 5) (v := 0) dX6_isHow_5 (by decide) ?_
  refine mv_iadd (pc := 6) dX6_isHow_6 ?_
  refine mv_ialdx (pc := 7) (x := x t 0) (k := 18 * t + 0) dX6_isHow_7 ha (mv_jx 18 t 0) (by omega) (h.1 t ht 0 (by decide)) ?_
  refine mv_iload_n (pc := 8) dX6_isHow_8 rfl ?_
  refine mv_icmp_ne (pc := 9) (tgt := 16) dX6_isHow_9 (by decide) (fun hb => ?_) (fun hb => ?_)
  · refine mv_iconst (pc := 16) (v := 0) dX6_isHow_16 (by decide) ?_
    exact mv_zret (pc := 17) dX6_isHow_17 rfl (by rfl) (by decide) (by decide) (hQ _ _ ⟨by rw [if_neg hb], rfl⟩)
  · refine mv_iconst (pc := 12) (v := 1) dX6_isHow_12 (by decide) ?_
    refine mv_goto (pc := 13) (tgt := 17) dX6_isHow_13 (by decide) ?_
    exact mv_zret (pc := 17) dX6_isHow_17 rfl (by rfl) (by decide) (by decide) (hQ _ _ ⟨by rw [if_pos hb], rfl⟩)
theorem c6_isHow {l : Launch} {D : va_G} {b0 n : Nat} {sh : mv_Sh} {I : mv_I} {R : mv_R} {a t : Nat} {x : xs_X} {w : Int32} (ha : sh a = (7, 326)) (h : rm_R I a x) (ht : t < 8) : mv_C l D b0 m6_isHow (mv_rm 0) [.ref a, .int (nI t), .int w] n sh I R (mv_Pi n sh R (fun r I' => r = (if x t 0 = w then 1 else 0) ∧ I' = I)) := mv_C.of 0 (by decide) (by simp [Value.category]) rfl (e6_isHow ha h ht (fun _ _ h => mv_Pi.mk h))
set_option maxHeartbeats 4000000 in
set_option maxRecDepth 100000 in
theorem e6_traces {l : Launch} {D : va_G} {b0 n : Nat} {sh : mv_Sh} {I : mv_I} {R : mv_R} {Q : mv_Q} {a t e : Nat} {x : xs_X} {w : Int32} (ha : sh a = (7, 326)) (h : rm_R I a x) (he : x 8 1 = nI e) (he6 : e ≤ 60) (hQ : ∀ I', (rm_R I' a (xs_tr x t w) ∧ rm_Fr a I I') → Q none n sh I' R) : mv_E l D b0 m6_traces (mv_rm 0) Q 0 [.ref a, .int (nI t), .int w, .null] [] 0 0 n sh I R := by
  have h145 : I a 145 = nI e := h.2.1.2.trans he
  have h144 : I a 144 = x 8 0 := h.2.1.1
  refine mv_aload_n (pc := 0) dX6_traces_0 rfl ?_
  refine mv_sipush (pc := 1) (v := 145) dX6_traces_1 (by decide) ?_
  refine mv_ialdx (pc := 4) (x := nI e) (k := 145) dX6_traces_4 ha (by decide) (by omega) h145 ?_
  refine mv_bipush (pc := 5) (v := 60) dX6_traces_5 (by decide) ?_
  refine mv_icmp_ge (pc := 7) (tgt := 51) dX6_traces_7 (by decide) (fun hb => ?_) (fun hb => ?_)
  · have hee : ¬ e < 60 := fun q => nI_ge q (by decide) hb
    refine mv_vret (pc := 51) dX6_traces_51 rfl (by decide) (by decide) (hQ I ⟨?_, rm_Fr.rf⟩)
    have : xs_tr x t w = x := by
      unfold xs_tr
      rw [he, if_neg (show ¬ nI e < (60 : Int32) from nI_nlt (b := 60) (by omega) (by omega))]
    rw [this]; exact h
  · have hee : e < 60 := by
      rcases Nat.lt_or_ge e 60 with q | q
      · exact q
      · exact absurd (nI_le q (by omega)) hb
    refine mv_sipush (pc := 10) (v := 146) dX6_traces_10 (by decide) ?_
    refine mv_iconst (pc := 13) (v := 3) dX6_traces_13 (by decide) ?_
    refine mv_aload_n (pc := 14) dX6_traces_14 rfl ?_
    refine mv_sipush (pc := 15) (v := 145) dX6_traces_15 (by decide) ?_
    refine mv_ialdx (pc := 18) (x := nI e) (k := 145) dX6_traces_18 ha (by decide) (by omega) h145 ?_
    refine mv_imul (pc := 19) dX6_traces_19 ?_
    refine mv_iadd (pc := 20) dX6_traces_20 ?_
    refine mv_top (y := nI (146 + 3 * e)) (show nI 146 + nI 3 * nI e = nI (146 + 3 * e) by rw [nI_mul, nI_add]) ?_
    refine mv_istore_n (pc := 21) dX6_traces_21 (by decide) ?_
    refine mv_aload_n (pc := 22) dX6_traces_22 rfl ?_
    refine mv_iload_n (pc := 23) dX6_traces_23 rfl ?_
    refine mv_aload_n (pc := 24) dX6_traces_24 rfl ?_
    refine mv_sipush (pc := 25) (v := 144) dX6_traces_25 (by decide) ?_
    refine mv_ialdx (pc := 28) (x := x 8 0) (k := 144) dX6_traces_28 ha (by decide) (by omega) h144 ?_
    refine mv_iast (pc := 29) (k := 146 + 3 * e) dX6_traces_29 ha rfl (by omega) ?_
    refine mv_aload_n (pc := 30) dX6_traces_30 rfl ?_
    refine mv_iload_n (pc := 31) dX6_traces_31 rfl ?_
    refine mv_iconst (pc := 32) (v := 1) dX6_traces_32 (by decide) ?_
    refine mv_iadd (pc := 33) dX6_traces_33 ?_
    refine mv_iload_n (pc := 34) dX6_traces_34 rfl ?_
    refine mv_iast (pc := 35) (k := 146 + 3 * e + 1) dX6_traces_35 ha (nI_add _ 1) (by omega) ?_
    refine mv_aload_n (pc := 36) dX6_traces_36 rfl ?_
    refine mv_iload_n (pc := 37) dX6_traces_37 rfl ?_
    refine mv_iconst (pc := 38) (v := 2) dX6_traces_38 (by decide) ?_
    refine mv_iadd (pc := 39) dX6_traces_39 ?_
    refine mv_iload_n (pc := 40) dX6_traces_40 rfl ?_
    refine mv_iast (pc := 41) (k := 146 + 3 * e + 2) dX6_traces_41 ha (nI_add _ 2) (by omega) ?_
    refine mv_aload_n (pc := 42) dX6_traces_42 rfl ?_
    refine mv_sipush (pc := 43) (v := 145) dX6_traces_43 (by decide) ?_
    refine mv_dup2 (pc := 46) dX6_traces_46 rfl rfl ?_
    refine mv_ialdx (pc := 47) (x := nI e) (k := 145) dX6_traces_47 ha (by decide) (by omega) (by have q0 : ¬ 145 = 146 + 3 * e := (by omega); have q1 : ¬ 145 = 146 + 3 * e + 1 := (by omega); have q2 : ¬ 145 = 146 + 3 * e + 2 := (by omega); simp only [mv_up, q0, q1, q2, and_false, if_false]; exact h145) ?_
    refine mv_iconst (pc := 48) (v := 1) dX6_traces_48 (by decide) ?_
    refine mv_iadd (pc := 49) dX6_traces_49 ?_
    refine mv_iast (pc := 50) (k := 145) dX6_traces_50 ha (by decide) (by omega) ?_
    exact mv_vret (pc := 51) dX6_traces_51 rfl (by decide) (by decide) (hQ _ ⟨rm_tr h he hee, rm_Fr.rf.up.up.up.up⟩)
theorem c6_traces {l : Launch} {D : va_G} {b0 n : Nat} {sh : mv_Sh} {I : mv_I} {R : mv_R} {a t e : Nat} {x : xs_X} {w : Int32} (ha : sh a = (7, 326)) (h : rm_R I a x) (he : x 8 1 = nI e) (he6 : e ≤ 60) : mv_C l D b0 m6_traces (mv_rm 0) [.ref a, .int (nI t), .int w] n sh I R (mv_Pv n sh R (fun I' => rm_R I' a (xs_tr x t w) ∧ rm_Fr a I I')) := mv_C.of 1 (by decide) (by simp [Value.category]) rfl (e6_traces ha h he he6 (fun _ h => mv_Pv.mk h))
set_option maxHeartbeats 4000000 in
set_option maxRecDepth 100000 in
theorem e6_codes {l : Launch} {D : va_G} {b0 n : Nat} {sh : mv_Sh} {I : mv_I} {R : mv_R} {Q : mv_Q} {a t c : Nat} {x : xs_X} {w : Int32} (ha : sh a = (7, 326)) (h : rm_R I a x) (ht : t < 8) (hc : x t 9 = nI c) (hc8 : c ≤ 8) (hQ : ∀ I', (rm_R I' a (xs_cd x t w) ∧ rm_Fr a I I') → Q none n sh I' R) : mv_E l D b0 m6_codes (mv_rm 1) Q 0 [.ref a, .int (nI t), .int w] [] 0 0 n sh I R := by
  refine mv_aload_n (pc := 0) dX6_codes_0 rfl ?_
  refine mv_iload_n (pc := 1) dX6_codes_1 rfl ?_
  refine mv_bipush (pc := 2) (v := 9) dX6_codes_2 (by decide) ?_
  refine mv_cSi (pc := 4) dX6_codes_4 lk6_161 (c6_at ha h ht (k := 9) (by decide)) rfl rfl (Nat.le_of_ble_eq_true rfl) (by decide) (by decide) (fun r J ⟨e1, e2⟩ => ?_)
  subst e1 e2
  refine mv_top (y := nI c) hc ?_
  refine mv_bipush (pc := 7) (v := 8) dX6_codes_7 (by decide) ?_
  refine mv_icmp_ge (pc := 9) (tgt := 43) dX6_codes_9 (by decide) (fun hb => ?_) (fun hb => ?_)
  · have hee : ¬ c < 8 := fun q => nI_ge q (by decide) hb
    refine mv_vret (pc := 43) dX6_codes_43 rfl (by decide) (by decide) (hQ _ ⟨?_, rm_Fr.rf⟩)
    have : xs_cd x t w = x := by
      unfold xs_cd
      rw [hc, if_neg (show ¬ nI c < (8 : Int32) from nI_nlt (b := 8) (by omega) (by omega))]
    rw [this]; exact h
  · have hee : c < 8 := by
      rcases Nat.lt_or_ge c 8 with q | q
      · exact q
      · exact absurd (nI_le q (by omega)) hb
    have e0 : xs_cd x t w = mv_up (mv_up x t (10 + c) w) t 9 (nI c + 1) := by
      unfold xs_cd
      rw [hc, if_pos (show nI c < (8 : Int32) from nI_lt hee (by decide)), nI_clamp (by omega)]
    refine mv_aload_n (pc := 12) dX6_codes_12 rfl ?_
    refine mv_bipush (pc := 13) (v := 18) dX6_codes_13 (by decide) ?_
    refine mv_iload_n (pc := 15) dX6_codes_15 rfl ?_
    refine mv_imul (pc := 16) dX6_codes_16 ?_
    refine mv_bipush (pc := 17) (v := 10) dX6_codes_17 (by decide) ?_
    refine mv_iadd (pc := 19) dX6_codes_19 ?_
    refine mv_aload_n (pc := 20) dX6_codes_20 rfl ?_
    refine mv_iload_n (pc := 21) dX6_codes_21 rfl ?_
    refine mv_bipush (pc := 22) (v := 9) dX6_codes_22 (by decide) ?_
    refine mv_cSi (pc := 24) dX6_codes_24 lk6_161 (c6_at ha h ht (k := 9) (by decide)) rfl rfl (Nat.le_of_ble_eq_true rfl) (by decide) (by decide) (fun r J ⟨e1, e2⟩ => ?_)
    subst e1 e2
    refine mv_top (y := nI c) hc ?_
    refine mv_iadd (pc := 27) dX6_codes_27 ?_
    refine mv_iload_n (pc := 28) dX6_codes_28 rfl ?_
    refine mv_iast (pc := 29) (k := 18 * t + (10 + c)) dX6_codes_29 ha (show nI 18 * nI t + nI 10 + nI c = nI (18 * t + (10 + c)) by rw [nI_mul, nI_add, nI_add, Nat.add_assoc]) (by omega) ?_
    refine mv_aload_n (pc := 30) dX6_codes_30 rfl ?_
    refine mv_bipush (pc := 31) (v := 18) dX6_codes_31 (by decide) ?_
    refine mv_iload_n (pc := 33) dX6_codes_33 rfl ?_
    refine mv_imul (pc := 34) dX6_codes_34 ?_
    refine mv_bipush (pc := 35) (v := 9) dX6_codes_35 (by decide) ?_
    refine mv_iadd (pc := 37) dX6_codes_37 ?_
    refine mv_dup2 (pc := 38) dX6_codes_38 rfl rfl ?_
    refine mv_ialdx (pc := 39) (x := nI c) (k := 18 * t + 9) dX6_codes_39 ha (mv_jx 18 t 9) (by omega) (by have q : ¬ 18 * t + 9 = 18 * t + (10 + c) := (by omega); simp only [mv_up, q, and_false, if_false]; rw [h.1 t ht 9 (by decide)]; exact hc) ?_
    refine mv_iconst (pc := 40) (v := 1) dX6_codes_40 (by decide) ?_
    refine mv_iadd (pc := 41) dX6_codes_41 ?_
    refine mv_iast (pc := 42) (k := 18 * t + 9) dX6_codes_42 ha (mv_jx 18 t 9) (by omega) ?_
    refine mv_vret (pc := 43) dX6_codes_43 rfl (by decide) (by decide) (hQ _ ⟨?_, rm_Fr.rf.up.up⟩)
    rw [e0]
    exact rm_set 9 (rm_set (10 + c) h ht (by omega)) ht (by decide)
theorem c6_codes {l : Launch} {D : va_G} {b0 n : Nat} {sh : mv_Sh} {I : mv_I} {R : mv_R} {a t c : Nat} {x : xs_X} {w : Int32} (ha : sh a = (7, 326)) (h : rm_R I a x) (ht : t < 8) (hc : x t 9 = nI c) (hc8 : c ≤ 8) : mv_C l D b0 m6_codes (mv_rm 1) [.ref a, .int (nI t), .int w] n sh I R (mv_Pv n sh R (fun I' => rm_R I' a (xs_cd x t w) ∧ rm_Fr a I I')) := mv_C.of 0 (by decide) (by simp [Value.category]) rfl (e6_codes ha h ht hc hc8 (fun _ h => mv_Pv.mk h))
set_option maxHeartbeats 4000000 in
set_option maxRecDepth 100000 in
theorem e6_asksChildren {l : Launch} {D : va_G} {b0 n : Nat} {sh : mv_Sh} {I : mv_I} {R : mv_R} {Q : mv_Q} {m a nt t : Nat} {π x : xs_X} (K : rm_P sh R I m a nt π) (h : rm_R I a x) (ht : t < nt) (hQ : ∀ I', (rm_R I' a (xs_ask nt π x t) ∧ rm_Fr a I I') → Q none n sh I' R) : mv_E l D b0 m6_asksChildren (mv_rm 1) Q 0 [.ref m, .ref a, .int (nI t), .null] [] 0 0 n sh I R := by
  obtain ⟨hm, ha, haa, hpc, hpw⟩ := id K
  have hn := hpw.2.1
  have loop : ∀ (f c : Nat) (J : mv_I), nt < c + f → 1 ≤ c → c ≤ nt → rm_R J a (xs_ask c π x t) → rm_Fr a I J → mv_E l D b0 m6_asksChildren (mv_rm 1) Q 2 [.ref m, .ref a, .int (nI t), .int (nI c)] [] 0 0 n sh J R := by
    intro f
    induction f with
    | zero => intro c J h1 h2 h3; omega
    | succ f ih =>
      intro c J h1 h2 h3 hr hf
      have hpc' := (K.fr hf).2.2.2.1
      refine mv_iload_n (pc := 2) dX6_asksChildren_2 rfl ?_
      refine mv_aload_n (pc := 3) dX6_asksChildren_3 rfl ?_
      refine mv_getIx (pc := 4) (x := nI nt) dX6_asksChildren_4 fl6_142 rfl (congrArg Prod.fst hm.o) hpc'.1 ?_
      refine mv_icmp_ge (pc := 7) (tgt := 44) dX6_asksChildren_7 (by decide) (fun hb => ?_) (fun hb => ?_)
      · have : c = nt := by
          have := (nI_leI (a := nt) (b := c) (by omega) (by omega)).mp hb
          omega
        subst this
        exact mv_vret (pc := 44) dX6_asksChildren_44 rfl (by decide) (by decide) (hQ _ ⟨hr, hf⟩)
      · have hcn : c < nt := by
          rcases Nat.lt_or_ge c nt with q | q
          · exact q
          · exact absurd (nI_le q (by omega)) hb
        have hnext : ∀ J2 : mv_I, rm_R J2 a (xs_ask (c + 1) π x t) → rm_Fr a I J2 → mv_E l D b0 m6_asksChildren (mv_rm 1) Q 38 [.ref m, .ref a, .int (nI t), .int (nI c)] [] 0 0 n sh J2 R := by
          intro J2 hr2 hf2
          refine mv_iinc (pc := 38) (v := nI (c + 1)) dX6_asksChildren_38 (by decide) rfl (nI_1 c) ?_
          refine mv_goto (pc := 41) (tgt := 2) dX6_asksChildren_41 (by decide) ?_
          exact ih (c + 1) J2 (by omega) (by omega) (by omega) hr2 hf2
        have hac : (xs_ask c π x t) c 0 = x c 0 := by simp [xs_ask]
        refine mv_aload_n (pc := 10) dX6_asksChildren_10 rfl ?_
        refine mv_getR (pc := 11) (q := m + 8) dX6_asksChildren_11 fl6_31 (fun _ _ => rfl) (congrArg Prod.fst hm.o) hm.f17 ?_
        refine mv_iload_n (pc := 14) dX6_asksChildren_14 rfl ?_
        refine mv_ialdx (pc := 15) (x := π c 0) (k := c) dX6_asksChildren_15 hm.g17 rfl (by omega) (hpc'.2 c hcn).1 ?_
        refine mv_iload_n (pc := 16) dX6_asksChildren_16 rfl ?_
        refine mv_icmp_ne (pc := 17) (tgt := 38) dX6_asksChildren_17 (by decide) (fun hb2 => ?_) (fun hb2 => ?_)
        · exact hnext J (by rw [xs_ask_no (fun q => hb2 q.1)]; exact hr) hf
        · refine mv_aload_n (pc := 20) dX6_asksChildren_20 rfl ?_
          refine mv_iload_n (pc := 21) dX6_asksChildren_21 rfl ?_
          refine mv_iconst (pc := 22) (v := 1) dX6_asksChildren_22 (by decide) ?_
          refine mv_cSi (pc := 23) dX6_asksChildren_23 lk6_165 (c6_isHow ha hr (by omega)) rfl rfl (Nat.le_of_ble_eq_true rfl) (by decide) (by decide) (fun r J' ⟨e1, e2⟩ => ?_)
          subst e1 e2
          rw [hac]
          refine mv_if_eq (pc := 26) (tgt := 38) dX6_asksChildren_26 (by decide) (fun hb3 => ?_) (fun hb3 => ?_)
          · have : ¬ x c 0 = 1 := fun q => by rw [if_pos q] at hb3; exact absurd hb3 (by decide)
            exact hnext _ (by rw [xs_ask_no (fun q => this q.2)]; exact hr) hf
          · have : x c 0 = 1 := Classical.byContradiction fun q => hb3 (by rw [if_neg q])
            refine mv_aload_n (pc := 29) dX6_asksChildren_29 rfl ?_
            refine mv_bipush (pc := 30) (v := 18) dX6_asksChildren_30 (by decide) ?_
            refine mv_iload_n (pc := 32) dX6_asksChildren_32 rfl ?_
            refine mv_imul (pc := 33) dX6_asksChildren_33 ?_
            refine mv_iconst (pc := 34) (v := 5) dX6_asksChildren_34 (by decide) ?_
            refine mv_iadd (pc := 35) dX6_asksChildren_35 ?_
            refine mv_iconst (pc := 36) (v := 1) dX6_asksChildren_36 (by decide) ?_
            refine mv_iast (pc := 37) (k := 18 * c + 5) dX6_asksChildren_37 ha (mv_jx 18 c 5) (by omega) ?_
            exact hnext _ (by rw [xs_ask_yes (by omega) hb2 this]; exact rm_set 5 hr (by omega) (by decide)) hf.up
  refine mv_iconst (pc := 0) (v := 1) dX6_asksChildren_0 (by decide) ?_
  refine mv_istore_n (pc := 1) dX6_asksChildren_1 (by decide) ?_
  exact loop (nt + 1) 1 I (by have := hpw.1; omega) (by omega) hpw.1 (by rw [xs_ask_lo hpw (by omega) hpw.1 (by omega)]; exact h) rm_Fr.rf
theorem c6_asksChildren {l : Launch} {D : va_G} {b0 n : Nat} {sh : mv_Sh} {I : mv_I} {R : mv_R} {m a nt t : Nat} {π x : xs_X} (K : rm_P sh R I m a nt π) (h : rm_R I a x) (ht : t < nt) : mv_C l D b0 m6_asksChildren (mv_rm 1) [.ref m, .ref a, .int (nI t)] n sh I R (mv_Pv n sh R (fun I' => rm_R I' a (xs_ask nt π x t) ∧ rm_Fr a I I')) := mv_C.of 1 (by decide) (by simp [Value.category]) rfl (e6_asksChildren K h ht (fun _ h => mv_Pv.mk h))
end
section
set_option maxHeartbeats 4000000 in
set_option maxRecDepth 100000 in
theorem e6_closes {l : Launch} {D : va_G} {b0 n : Nat} {sh : mv_Sh} {I : mv_I} {R : mv_R} {Q : mv_Q} {m a nt t e : Nat} {π x : xs_X} {o : Int32} (K : rm_P sh R I m a nt π) (h : rm_R I a x) (ht : t < nt) (he : x 8 1 = nI e) (he6 : e ≤ 60) (hQ : ∀ I', (rm_R I' a (xs_cl nt π x t o) ∧ rm_Fr a I I') → Q none n sh I' R) : mv_E l D b0 m6_closes (mv_rm 2) Q 0 [.ref m, .ref a, .int (nI t), .int o, .null] [] 0 0 n sh I R := by
  obtain ⟨hm, ha, haa, hpc, hpw⟩ := id K
  have hn := hpw.2.1
  have ht8 : t < 8 := by omega
  have fin : ∀ (f : Int32) (J : mv_I) (y : xs_X), rm_R J a y → rm_Fr a I J → y 8 1 = nI e → xs_tr y t 1 = xs_cl nt π x t o → mv_E l D b0 m6_closes (mv_rm 2) Q 63 [.ref m, .ref a, .int (nI t), .int o, .int f] [] 0 0 n sh J R := by
    intro f J y hr hf hy e2
    refine mv_aload_n (pc := 63) dX6_closes_63 rfl ?_
    refine mv_iload_n (pc := 64) dX6_closes_64 rfl ?_
    refine mv_iconst (pc := 65) (v := 1) dX6_closes_65 (by decide) ?_
    refine mv_cSv (pc := 66) dX6_closes_66 lk6_173 (c6_traces ha hr hy he6) rfl rfl (Nat.le_of_ble_eq_true rfl) (by decide) (by decide) (fun J2 ⟨hr2, hf2⟩ => ?_)
    exact mv_vret (pc := 69) dX6_closes_69 rfl (by decide) (by decide) (hQ _ ⟨by rw [← e2]; exact hr2, hf.tr hf2⟩)
  have main : ∀ (f : Int32), f = (if 0 < x t 9 then 1 else 0) → mv_E l D b0 m6_closes (mv_rm 2) Q 15 [.ref m, .ref a, .int (nI t), .int o, .null] [.int f] 0 0 n sh I R := by
    intro f hf
    have ef : ¬ f = 0 ↔ 0 < x t 9 := by
      rw [hf]
      split
      · rename_i q
        exact ⟨fun _ => q, fun _ => by decide⟩
      · rename_i q
        exact ⟨fun z => absurd rfl z, fun z => absurd z q⟩
    have h1 : rm_R (mv_up I a (18 * t + 0) 2) a (mv_up x t 0 2) := rm_set 0 h ht8 (by decide)
    have join : ∀ v, v = (if o = 0 ∧ 0 < x t 9 then 1 else o) → mv_E l D b0 m6_closes (mv_rm 2) Q 47 [.ref m, .ref a, .int (nI t), .int o, .int f] [.int v, .int (nI (18 * t + 1)), .ref a] 0 0 n sh (mv_up I a (18 * t + 0) 2) R := by
      intro v hv
      have h2 : rm_R (mv_up (mv_up I a (18 * t + 0) 2) a (18 * t + 1) v) a (mv_up (mv_up x t 0 2) t 1 v) := rm_set 1 h1 ht8 (by decide)
      have f2 : rm_Fr a I (mv_up (mv_up I a (18 * t + 0) 2) a (18 * t + 1) v) := rm_Fr.rf.up.up
      have e8 : ∀ z, mv_up (mv_up x t 0 2) t 1 z 8 1 = nI e := fun z => by rw [mv_upN 8 (by omega), mv_upN 8 (by omega)]; exact he
      have yes : (¬ o = 0 ∨ 0 < x t 9) → mv_E l D b0 m6_closes (mv_rm 2) Q 57 [.ref m, .ref a, .int (nI t), .int o, .int f] [] 0 0 n sh (mv_up (mv_up I a (18 * t + 0) 2) a (18 * t + 1) v) R := by
        intro q
        refine mv_aload_n (pc := 57) dX6_closes_57 rfl ?_
        refine mv_aload_n (pc := 58) dX6_closes_58 rfl ?_
        refine mv_iload_n (pc := 59) dX6_closes_59 rfl ?_
        refine mv_cVv (pc := 60) dX6_closes_60 lk6_169 (congrArg Prod.fst hm.o) (c6_asksChildren (K.fr f2) h2 ht) rfl rfl (Nat.le_of_ble_eq_true rfl) (by decide) (by decide) (fun J ⟨hr, hf⟩ => ?_)
        refine fin f J _ hr (f2.tr hf) (by rw [xs_ask_hi hn]; exact e8 v) ?_
        unfold xs_cl
        rw [if_pos q, ← hv]
      refine mv_iast (pc := 47) (k := (18 * t + 1)) dX6_closes_47 ha rfl (by omega) ?_
      refine mv_iload_n (pc := 48) dX6_closes_48 rfl ?_
      refine mv_if_ne (pc := 49) (tgt := 57) dX6_closes_49 (by decide) (fun hb => ?_) (fun hb => ?_)
      · exact yes (Or.inl hb)
      · refine mv_iload (pc := 52) dX6_closes_52 rfl ?_
        refine mv_if_eq (pc := 54) (tgt := 63) dX6_closes_54 (by decide) (fun hb2 => ?_) (fun hb2 => ?_)
        · refine fin f _ _ h2 f2 (e8 v) ?_
          unfold xs_cl
          rw [if_neg (fun q => q.elim (fun z => z hb) (fun z => ef.mpr z hb2)), ← hv]
        · exact yes (Or.inr (ef.mp hb2))
    refine mv_istore (pc := 15) dX6_closes_15 (by decide) ?_
    refine mv_aload_n (pc := 17) dX6_closes_17 rfl ?_
    refine mv_bipush (pc := 18) (v := 18) dX6_closes_18 (by decide) ?_
    refine mv_iload_n (pc := 20) dX6_closes_20 rfl ?_
    refine mv_imul (pc := 21) dX6_closes_21 ?_
    refine mv_iconst (pc := 22) (v := 0) dX6_closes_22 (by decide) ?_
    refine mv_iadd (pc := 23) dX6_closes_23 ?_
    refine mv_iconst (pc := 24) (v := 2) dX6_closes_24 (by decide) ?_
    refine mv_iast (pc := 25) (k := 18 * t + 0) dX6_closes_25 ha (mv_jx 18 t 0) (by omega) ?_
    refine mv_aload_n (pc := 26) dX6_closes_26 rfl ?_
    refine mv_bipush (pc := 27) (v := 18) dX6_closes_27 (by decide) ?_
    refine mv_iload_n (pc := 29) dX6_closes_29 rfl ?_
    refine mv_imul (pc := 30) dX6_closes_30 ?_
    refine mv_iconst (pc := 31) (v := 1) dX6_closes_31 (by decide) ?_
    refine mv_iadd (pc := 32) dX6_closes_32 ?_
    refine mv_top (y := nI (18 * t + 1)) (mv_jx 18 t 1) ?_
    refine mv_iload_n (pc := 33) dX6_closes_33 rfl ?_
    refine mv_if_ne (pc := 34) (tgt := 46) dX6_closes_34 (by decide) (fun hb => ?_) (fun hb => ?_)
    · refine mv_iload_n (pc := 46) dX6_closes_46 rfl ?_
      exact join o (by rw [if_neg (fun z => hb z.1)])
    · refine mv_iload (pc := 37) dX6_closes_37 rfl ?_
      refine mv_if_eq (pc := 39) (tgt := 46) dX6_closes_39 (by decide) (fun hb2 => ?_) (fun hb2 => ?_)
      · refine mv_iload_n (pc := 46) dX6_closes_46 rfl ?_
        exact join o (by rw [if_neg (fun z => ef.mpr z.2 hb2)])
      · refine mv_iconst (pc := 42) (v := 1) dX6_closes_42 (by decide) ?_
        refine mv_goto (pc := 43) (tgt := 47) dX6_closes_43 (by decide) ?_
        exact join 1 (by rw [if_pos ⟨hb, ef.mp hb2⟩])
  refine mv_aload_n (pc := 0) dX6_closes_0 rfl ?_
  refine mv_iload_n (pc := 1) dX6_closes_1 rfl ?_
  refine mv_bipush (pc := 2) (v := 9) dX6_closes_2 (by decide) ?_
  refine mv_cSi (pc := 4) dX6_closes_4 lk6_161 (c6_at ha h ht8 (k := 9) (by decide)) rfl rfl (Nat.le_of_ble_eq_true rfl) (by decide) (by decide) (fun r J ⟨e1, e2⟩ => ?_)
  subst e1 e2
  refine mv_if_le (pc := 7) (tgt := 14) dX6_closes_7 (by decide) (fun hb => ?_) (fun hb => ?_)
  · refine mv_iconst (pc := 14) (v := 0) dX6_closes_14 (by decide) ?_
    exact main 0 (by rw [if_neg (Int32.not_lt.mpr hb)])
  · refine mv_iconst (pc := 10) (v := 1) dX6_closes_10 (by decide) ?_
    refine mv_goto (pc := 11) (tgt := 15) dX6_closes_11 (by decide) ?_
    exact main 1 (by rw [if_pos (Int32.not_le.mp hb)])
theorem c6_closes {l : Launch} {D : va_G} {b0 n : Nat} {sh : mv_Sh} {I : mv_I} {R : mv_R} {m a nt t e : Nat} {π x : xs_X} {o : Int32} (K : rm_P sh R I m a nt π) (h : rm_R I a x) (ht : t < nt) (he : x 8 1 = nI e) (he6 : e ≤ 60) : mv_C l D b0 m6_closes (mv_rm 2) [.ref m, .ref a, .int (nI t), .int o] n sh I R (mv_Pv n sh R (fun I' => rm_R I' a (xs_cl nt π x t o) ∧ rm_Fr a I I')) := mv_C.of 1 (by decide) (by simp [Value.category]) rfl (e6_closes K h ht he he6 (fun _ h => mv_Pv.mk h))
set_option maxHeartbeats 4000000 in
set_option maxRecDepth 100000 in
theorem e6_begin {l : Launch} {D : va_G} {b0 n : Nat} {sh : mv_Sh} {I : mv_I} {R : mv_R} {Q : mv_Q} {m a nt t u e : Nat} {π x : xs_X} (K : rm_P sh R I m a nt π) (h : rm_R I a x) (ht : t < nt) (hu : u < nt) (hpu : π t 0 = nI u) (htu : t ≠ u) (he : x 8 1 = nI e) (he6 : e ≤ 60) (hQ : ∀ I', (rm_R I' a (xs_bg π x t u) ∧ rm_Fr a I I') → Q none n sh I' R) : mv_E l D b0 m6_begin (mv_rm 1) Q 0 [.ref m, .ref a, .int (nI t), .null, .null] [] 0 0 n sh I R := by
  obtain ⟨hm, ha, haa, hpc, hpw⟩ := id K
  have hn := hpw.2.1
  have ht8 : t < 8 := by omega
  have main : ∀ d, d = (if π t 2 = 99 then 9999 else x 8 0 + π t 2) → mv_E l D b0 m6_begin (mv_rm 1) Q 29 [.ref m, .ref a, .int (nI t), .null, .null] [.int d] 0 0 n sh I R := by
    intro d hd
    have h1 : rm_R (mv_up I a (18 * t + 0) 1) a (mv_up x t 0 1) := rm_set 0 h ht8 (by decide)
    have join : ∀ v, v = xs_due π x t u → mv_E l D b0 m6_begin (mv_rm 1) Q 71 [.ref m, .ref a, .int (nI t), .int d, .int (x u 4)] [.int v, .int (nI (18 * t + 4)), .ref a] 0 0 n sh (mv_up I a (18 * t + 0) 1) R := by
      intro v hv
      have h2 : rm_R (mv_up (mv_up I a (18 * t + 0) 1) a (18 * t + 4) v) a (mv_up (mv_up x t 0 1) t 4 v) := rm_set 4 h1 ht8 (by decide)
      have h3 : rm_R (mv_up (mv_up (mv_up I a (18 * t + 0) 1) a (18 * t + 4) v) a (18 * t + 7) (x 8 0)) a (mv_up (mv_up (mv_up x t 0 1) t 4 v) t 7 (x 8 0)) := rm_set 7 h2 ht8 (by decide)
      refine mv_iast (pc := 71) (k := (18 * t + 4)) dX6_begin_71 ha rfl (by omega) ?_
      refine mv_aload_n (pc := 72) dX6_begin_72 rfl ?_
      refine mv_bipush (pc := 73) (v := 18) dX6_begin_73 (by decide) ?_
      refine mv_iload_n (pc := 75) dX6_begin_75 rfl ?_
      refine mv_imul (pc := 76) dX6_begin_76 ?_
      refine mv_bipush (pc := 77) (v := 7) dX6_begin_77 (by decide) ?_
      refine mv_iadd (pc := 79) dX6_begin_79 ?_
      refine mv_aload_n (pc := 80) dX6_begin_80 rfl ?_
      refine mv_sipush (pc := 81) (v := 144) dX6_begin_81 (by decide) ?_
      refine mv_ialdx (pc := 84) (x := x 8 0) (k := 144) dX6_begin_84 ha (by decide) (by omega) (by rw [h2.2.1.1, mv_upN 8 (by omega), mv_upN 8 (by omega)]) ?_
      refine mv_iast (pc := 85) (k := 18 * t + 7) dX6_begin_85 ha (mv_jx 18 t 7) (by omega) ?_
      refine mv_aload_n (pc := 86) dX6_begin_86 rfl ?_
      refine mv_iload_n (pc := 87) dX6_begin_87 rfl ?_
      refine mv_iconst (pc := 88) (v := 0) dX6_begin_88 (by decide) ?_
      refine mv_cSv (pc := 89) dX6_begin_89 lk6_173 (c6_traces ha h3 (by rw [mv_upN 8 (by omega), mv_upN 8 (by omega), mv_upN 8 (by omega)]; exact he) he6) rfl rfl (Nat.le_of_ble_eq_true rfl) (by decide) (by decide) (fun J ⟨hr, hf⟩ => ?_)
      refine mv_vret (pc := 92) dX6_begin_92 rfl (by decide) (by decide) (hQ _ ⟨?_, rm_Fr.rf.up.up.up.tr hf⟩)
      unfold xs_bg
      rw [← hv]
      exact hr
    refine mv_istore_n (pc := 29) dX6_begin_29 (by decide) ?_
    refine mv_aload_n (pc := 30) dX6_begin_30 rfl ?_
    refine mv_aload_n (pc := 31) dX6_begin_31 rfl ?_
    refine mv_getR (pc := 32) (q := m + 8) dX6_begin_32 fl6_31 (fun _ _ => rfl) (congrArg Prod.fst hm.o) hm.f17 ?_
    refine mv_iload_n (pc := 35) dX6_begin_35 rfl ?_
    refine mv_ialdx (pc := 36) (x := nI u) (k := t) dX6_begin_36 hm.g17 rfl (by omega) ((hpc.2 t ht).1.trans hpu) ?_
    refine mv_iconst (pc := 37) (v := 4) dX6_begin_37 (by decide) ?_
    refine mv_cSi (pc := 38) dX6_begin_38 lk6_161 (c6_at ha h (t := u) (by omega) (k := 4) (by decide)) rfl rfl (Nat.le_of_ble_eq_true rfl) (by decide) (by decide) (fun r J ⟨e1, e2⟩ => ?_)
    subst e1 e2
    refine mv_istore (pc := 41) dX6_begin_41 (by decide) ?_
    refine mv_aload_n (pc := 43) dX6_begin_43 rfl ?_
    refine mv_bipush (pc := 44) (v := 18) dX6_begin_44 (by decide) ?_
    refine mv_iload_n (pc := 46) dX6_begin_46 rfl ?_
    refine mv_imul (pc := 47) dX6_begin_47 ?_
    refine mv_iconst (pc := 48) (v := 0) dX6_begin_48 (by decide) ?_
    refine mv_iadd (pc := 49) dX6_begin_49 ?_
    refine mv_iconst (pc := 50) (v := 1) dX6_begin_50 (by decide) ?_
    refine mv_iast (pc := 51) (k := 18 * t + 0) dX6_begin_51 ha (mv_jx 18 t 0) (by omega) ?_
    refine mv_aload_n (pc := 52) dX6_begin_52 rfl ?_
    refine mv_bipush (pc := 53) (v := 18) dX6_begin_53 (by decide) ?_
    refine mv_iload_n (pc := 55) dX6_begin_55 rfl ?_
    refine mv_imul (pc := 56) dX6_begin_56 ?_
    refine mv_iconst (pc := 57) (v := 4) dX6_begin_57 (by decide) ?_
    refine mv_iadd (pc := 58) dX6_begin_58 ?_
    refine mv_top (y := nI (18 * t + 4)) (mv_jx 18 t 4) ?_
    refine mv_iload_n (pc := 59) dX6_begin_59 rfl ?_
    refine mv_iload (pc := 60) dX6_begin_60 rfl ?_
    have ed : xs_due π x t u = if d < x u 4 then d else x u 4 := by unfold xs_due; rw [← hd]
    refine mv_icmp_ge (pc := 62) (tgt := 69) dX6_begin_62 (by decide) (fun hb => ?_) (fun hb => ?_)
    · refine mv_iload (pc := 69) dX6_begin_69 rfl ?_
      exact join _ (by rw [ed, if_neg (Int32.not_lt.mpr hb)])
    · refine mv_iload_n (pc := 65) dX6_begin_65 rfl ?_
      refine mv_goto (pc := 66) (tgt := 71) dX6_begin_66 (by decide) ?_
      exact join _ (by rw [ed, if_pos (Int32.not_le.mp hb)])
  refine mv_aload_n (pc := 0) dX6_begin_0 rfl ?_
  refine mv_getR (pc := 1) (q := m + 11) dX6_begin_1 fl6_40 (fun _ _ => rfl) (congrArg Prod.fst hm.o) hm.f20 ?_
  refine mv_iload_n (pc := 4) dX6_begin_4 rfl ?_
  refine mv_ialdx (pc := 5) (x := π t 2) (k := t) dX6_begin_5 hm.g20 rfl (by omega) (hpc.2 t ht).2.2.1 ?_
  refine mv_bipush (pc := 6) (v := 99) dX6_begin_6 (by decide) ?_
  refine mv_icmp_ne (pc := 8) (tgt := 17) dX6_begin_8 (by decide) (fun hb => ?_) (fun hb => ?_)
  · refine mv_aload_n (pc := 17) dX6_begin_17 rfl ?_
    refine mv_sipush (pc := 18) (v := 144) dX6_begin_18 (by decide) ?_
    refine mv_ialdx (pc := 21) (x := x 8 0) (k := 144) dX6_begin_21 ha (by decide) (by omega) h.2.1.1 ?_
    refine mv_aload_n (pc := 22) dX6_begin_22 rfl ?_
    refine mv_getR (pc := 23) (q := m + 11) dX6_begin_23 fl6_40 (fun _ _ => rfl) (congrArg Prod.fst hm.o) hm.f20 ?_
    refine mv_iload_n (pc := 26) dX6_begin_26 rfl ?_
    refine mv_ialdx (pc := 27) (x := π t 2) (k := t) dX6_begin_27 hm.g20 rfl (by omega) (hpc.2 t ht).2.2.1 ?_
    refine mv_iadd (pc := 28) dX6_begin_28 ?_
    exact main _ (by rw [if_neg hb])
  · refine mv_sipush (pc := 11) (v := 9999) dX6_begin_11 (by decide) ?_
    refine mv_goto (pc := 14) (tgt := 29) dX6_begin_14 (by decide) ?_
    exact main _ (by rw [if_pos hb])
theorem c6_begin {l : Launch} {D : va_G} {b0 n : Nat} {sh : mv_Sh} {I : mv_I} {R : mv_R} {m a nt t u e : Nat} {π x : xs_X} (K : rm_P sh R I m a nt π) (h : rm_R I a x) (ht : t < nt) (hu : u < nt) (hpu : π t 0 = nI u) (htu : t ≠ u) (he : x 8 1 = nI e) (he6 : e ≤ 60) : mv_C l D b0 m6_begin (mv_rm 1) [.ref m, .ref a, .int (nI t)] n sh I R (mv_Pv n sh R (fun I' => rm_R I' a (xs_bg π x t u) ∧ rm_Fr a I I')) := mv_C.of 2 (by decide) (by simp [Value.category]) rfl (e6_begin K h ht hu hpu htu he he6 (fun _ h => mv_Pv.mk h))
set_option maxHeartbeats 4000000 in
set_option maxRecDepth 100000 in
theorem e6_beginsChild {l : Launch} {D : va_G} {b0 n : Nat} {sh : mv_Sh} {I : mv_I} {R : mv_R} {Q : mv_Q} {m a nt t e : Nat} {π x : xs_X} (K : rm_P sh R I m a nt π) (h : rm_R I a x) (ht : t < nt) (he : x 8 1 = nI e) (he6 : e ≤ 60) (hQ : ∀ I', (rm_R I' a (xs_bc nt π x t) ∧ rm_Fr a I I') → Q none n sh I' R) : mv_E l D b0 m6_beginsChild (mv_rm 2) Q 0 [.ref m, .ref a, .int (nI t), .null] [] 0 0 n sh I R := by
  obtain ⟨hm, ha, haa, hpc, hpw⟩ := id K
  have hn := hpw.2.1
  have loop : ∀ (f c : Nat), nt < c + f → 1 ≤ c → c ≤ nt → (∀ u, u < c → ¬ (1 ≤ u ∧ π u 0 = nI t ∧ x u 0 = 0)) → mv_E l D b0 m6_beginsChild (mv_rm 2) Q 2 [.ref m, .ref a, .int (nI t), .int (nI c)] [] 0 0 n sh I R := by
    intro f
    induction f with
    | zero => intro c h1 h2 h3; omega
    | succ f ih =>
      intro c h1 h2 h3 hl
      refine mv_iload_n (pc := 2) dX6_beginsChild_2 rfl ?_
      refine mv_aload_n (pc := 3) dX6_beginsChild_3 rfl ?_
      refine mv_getIx (pc := 4) (x := nI nt) dX6_beginsChild_4 fl6_142 rfl (congrArg Prod.fst hm.o) hpc.1 ?_
      refine mv_icmp_ge (pc := 7) (tgt := 42) dX6_beginsChild_7 (by decide) (fun hb => ?_) (fun hb => ?_)
      · have : c = nt := by
          have := (nI_leI (a := nt) (b := c) (by omega) (by omega)).mp hb
          omega
        subst this
        refine mv_vret (pc := 42) dX6_beginsChild_42 rfl (by decide) (by decide) (hQ _ ⟨?_, rm_Fr.rf⟩)
        unfold xs_bc
        rw [xs_fc_none hl]
        exact h
      · have hcn : c < nt := by
          rcases Nat.lt_or_ge c nt with q | q
          · exact q
          · exact absurd (nI_le q (by omega)) hb
        have hnext : ¬ (π c 0 = nI t ∧ x c 0 = 0) → mv_E l D b0 m6_beginsChild (mv_rm 2) Q 36 [.ref m, .ref a, .int (nI t), .int (nI c)] [] 0 0 n sh I R := by
          intro q
          refine mv_iinc (pc := 36) (v := nI (c + 1)) dX6_beginsChild_36 (by decide) rfl (nI_1 c) ?_
          refine mv_goto (pc := 39) (tgt := 2) dX6_beginsChild_39 (by decide) ?_
          refine ih (c + 1) (by omega) (by omega) (by omega) (fun u hu => ?_)
          by_cases huc : u = c
          · subst huc; exact fun z => q z.2
          · exact hl u (by omega)
        refine mv_aload_n (pc := 10) dX6_beginsChild_10 rfl ?_
        refine mv_getR (pc := 11) (q := m + 8) dX6_beginsChild_11 fl6_31 (fun _ _ => rfl) (congrArg Prod.fst hm.o) hm.f17 ?_
        refine mv_iload_n (pc := 14) dX6_beginsChild_14 rfl ?_
        refine mv_ialdx (pc := 15) (x := π c 0) (k := c) dX6_beginsChild_15 hm.g17 rfl (by omega) (hpc.2 c hcn).1 ?_
        refine mv_iload_n (pc := 16) dX6_beginsChild_16 rfl ?_
        refine mv_icmp_ne (pc := 17) (tgt := 36) dX6_beginsChild_17 (by decide) (fun hb2 => ?_) (fun hb2 => ?_)
        · exact hnext (fun q => hb2 q.1)
        · refine mv_aload_n (pc := 20) dX6_beginsChild_20 rfl ?_
          refine mv_iload_n (pc := 21) dX6_beginsChild_21 rfl ?_
          refine mv_iconst (pc := 22) (v := 0) dX6_beginsChild_22 (by decide) ?_
          refine mv_cSi (pc := 23) dX6_beginsChild_23 lk6_165 (c6_isHow ha h (by omega)) rfl rfl (Nat.le_of_ble_eq_true rfl) (by decide) (by decide) (fun r J' ⟨e1, e2⟩ => ?_)
          subst e1 e2
          refine mv_if_eq (pc := 26) (tgt := 36) dX6_beginsChild_26 (by decide) (fun hb3 => ?_) (fun hb3 => ?_)
          · have : ¬ x c 0 = 0 := fun q => by rw [if_pos q] at hb3; exact absurd hb3 (by decide)
            exact hnext (fun q => this q.2)
          · have hx0 : x c 0 = 0 := Classical.byContradiction fun q => hb3 (by rw [if_neg q])
            have hct := hpw.par hcn (by omega) hb2 (by omega)
            refine mv_aload_n (pc := 29) dX6_beginsChild_29 rfl ?_
            refine mv_aload_n (pc := 30) dX6_beginsChild_30 rfl ?_
            refine mv_iload_n (pc := 31) dX6_beginsChild_31 rfl ?_
            refine mv_cVv (pc := 32) dX6_beginsChild_32 lk6_177 (congrArg Prod.fst hm.o) (c6_begin K h hcn ht hb2 (by omega) he he6) rfl rfl (Nat.le_of_ble_eq_true rfl) (by decide) (by decide) (fun J ⟨hr, hf⟩ => ?_)
            refine mv_vret (pc := 35) dX6_beginsChild_35 rfl (by decide) (by decide) (hQ _ ⟨?_, hf⟩)
            unfold xs_bc
            rw [xs_fc_some hcn ⟨by omega, hb2, hx0⟩ hl]
            exact hr
  refine mv_iconst (pc := 0) (v := 1) dX6_beginsChild_0 (by decide) ?_
  refine mv_istore_n (pc := 1) dX6_beginsChild_1 (by decide) ?_
  refine loop (nt + 1) 1 (by omega) (by omega) hpw.1 (fun u hu q => by omega)
theorem c6_beginsChild {l : Launch} {D : va_G} {b0 n : Nat} {sh : mv_Sh} {I : mv_I} {R : mv_R} {m a nt t e : Nat} {π x : xs_X} (K : rm_P sh R I m a nt π) (h : rm_R I a x) (ht : t < nt) (he : x 8 1 = nI e) (he6 : e ≤ 60) : mv_C l D b0 m6_beginsChild (mv_rm 2) [.ref m, .ref a, .int (nI t)] n sh I R (mv_Pv n sh R (fun I' => rm_R I' a (xs_bc nt π x t) ∧ rm_Fr a I I')) := mv_C.of 1 (by decide) (by simp [Value.category]) rfl (e6_beginsChild K h ht he he6 (fun _ h => mv_Pv.mk h))
set_option maxHeartbeats 4000000 in
set_option maxRecDepth 100000 in
theorem e6_isBusy {l : Launch} {D : va_G} {b0 n : Nat} {sh : mv_Sh} {I : mv_I} {R : mv_R} {Q : mv_Q} {m a nt t : Nat} {π x : xs_X} (K : rm_P sh R I m a nt π) (h : rm_R I a x) (ht : t < nt) (hQ : ∀ r I', (r = (if xs_busy nt π x t = true then 1 else 0) ∧ I' = I) → Q (some (.int r)) n sh I' R) : mv_E l D b0 m6_isBusy (mv_rm 1) Q 0 [.ref m, .ref a, .int (nI t), .null, .null] [] 0 0 n sh I R := by
  obtain ⟨hm, ha, haa, hpc, hpw⟩ := id K
  have hn := hpw.2.1
  have loop : ∀ (f c : Nat) (b : Int32), nt < c + f → 1 ≤ c → c ≤ nt → b = (if xs_busy c π x t = true then 1 else 0) → mv_E l D b0 m6_isBusy (mv_rm 1) Q 5 [.ref m, .ref a, .int (nI t), .int b, .int (nI c)] [] 0 0 n sh I R := by
    intro f
    induction f with
    | zero => intro c b h1 h2 h3; omega
    | succ f ih =>
      intro c b h1 h2 h3 hbv
      have eb : ¬ b = 0 ↔ xs_busy c π x t = true := by
        rw [hbv]
        split
        · rename_i q
          exact ⟨fun _ => q, fun _ => by decide⟩
        · rename_i q
          exact ⟨fun z => absurd rfl z, fun z => absurd z q⟩
      have es : xs_busy (c + 1) π x t = true ↔ xs_busy c π x t = true ∨ (1 ≤ c ∧ π c 0 = nI t ∧ (x c 0 = 1 ∨ x c 0 = 2)) := by
        rw [xs_busy_iff, xs_busy_iff]
        constructor
        · rintro ⟨u, u1, u2⟩
          by_cases hu : u = c
          · subst hu; exact Or.inr u2
          · exact Or.inl ⟨u, by omega, u2⟩
        · rintro (⟨u, u1, u2⟩ | q)
          · exact ⟨u, by omega, u2⟩
          · exact ⟨c, by omega, q⟩
      refine mv_iload (pc := 5) dX6_isBusy_5 rfl ?_
      refine mv_aload_n (pc := 7) dX6_isBusy_7 rfl ?_
      refine mv_getIx (pc := 8) (x := nI nt) dX6_isBusy_8 fl6_142 rfl (congrArg Prod.fst hm.o) hpc.1 ?_
      refine mv_icmp_ge (pc := 11) (tgt := 61) dX6_isBusy_11 (by decide) (fun hb => ?_) (fun hb => ?_)
      · have : c = nt := by
          have := (nI_leI (a := nt) (b := c) (by omega) (by omega)).mp hb
          omega
        subst this
        refine mv_iload_n (pc := 61) dX6_isBusy_61 rfl ?_
        refine mv_zret (pc := 62) dX6_isBusy_62 rfl ?_ (by decide) (by decide) (hQ _ _ ⟨hbv, rfl⟩)
        rw [hbv]
        split <;> rfl
      · have hcn : c < nt := by
          rcases Nat.lt_or_ge c nt with q | q
          · exact q
          · exact absurd (nI_le q (by omega)) hb
        have nxt : ∀ v, v = (if xs_busy (c + 1) π x t = true then 1 else 0) → mv_E l D b0 m6_isBusy (mv_rm 1) Q 54 [.ref m, .ref a, .int (nI t), .int b, .int (nI c)] [.int v] 0 0 n sh I R := by
          intro v hv
          refine mv_istore_n (pc := 54) dX6_isBusy_54 (by decide) ?_
          refine mv_iinc (pc := 55) (v := nI (c + 1)) dX6_isBusy_55 (by decide) rfl (nI_1 c) ?_
          refine mv_goto (pc := 58) (tgt := 5) dX6_isBusy_58 (by decide) ?_
          exact ih (c + 1) v (by omega) (by omega) (by omega) hv
        have yes : xs_busy (c + 1) π x t = true → mv_E l D b0 m6_isBusy (mv_rm 1) Q 49 [.ref m, .ref a, .int (nI t), .int b, .int (nI c)] [] 0 0 n sh I R := by
          intro q
          refine mv_iconst (pc := 49) (v := 1) dX6_isBusy_49 (by decide) ?_
          refine mv_goto (pc := 50) (tgt := 54) dX6_isBusy_50 (by decide) ?_
          exact nxt 1 (by rw [if_pos q])
        have no : ¬ xs_busy (c + 1) π x t = true → mv_E l D b0 m6_isBusy (mv_rm 1) Q 53 [.ref m, .ref a, .int (nI t), .int b, .int (nI c)] [] 0 0 n sh I R := by
          intro q
          refine mv_iconst (pc := 53) (v := 0) dX6_isBusy_53 (by decide) ?_
          exact nxt 0 (by rw [if_neg q])
        refine mv_iload_n (pc := 14) dX6_isBusy_14 rfl ?_
        refine mv_if_ne (pc := 15) (tgt := 49) dX6_isBusy_15 (by decide) (fun hb2 => ?_) (fun hb2 => ?_)
        · exact yes (es.mpr (Or.inl (eb.mp hb2)))
        · have nb : ¬ xs_busy c π x t = true := fun q => eb.mpr q hb2
          refine mv_aload_n (pc := 18) dX6_isBusy_18 rfl ?_
          refine mv_getR (pc := 19) (q := m + 8) dX6_isBusy_19 fl6_31 (fun _ _ => rfl) (congrArg Prod.fst hm.o) hm.f17 ?_
          refine mv_iload (pc := 22) dX6_isBusy_22 rfl ?_
          refine mv_ialdx (pc := 24) (x := π c 0) (k := c) dX6_isBusy_24 hm.g17 rfl (by omega) (hpc.2 c hcn).1 ?_
          refine mv_iload_n (pc := 25) dX6_isBusy_25 rfl ?_
          refine mv_icmp_ne (pc := 26) (tgt := 53) dX6_isBusy_26 (by decide) (fun hb3 => ?_) (fun hb3 => ?_)
          · exact no (fun q => (es.mp q).elim nb (fun z => hb3 z.2.1))
          · refine mv_aload_n (pc := 29) dX6_isBusy_29 rfl ?_
            refine mv_iload (pc := 30) dX6_isBusy_30 rfl ?_
            refine mv_iconst (pc := 32) (v := 1) dX6_isBusy_32 (by decide) ?_
            refine mv_cSi (pc := 33) dX6_isBusy_33 lk6_165 (c6_isHow ha h (by omega)) rfl rfl (Nat.le_of_ble_eq_true rfl) (by decide) (by decide) (fun r J' ⟨e1, e2⟩ => ?_)
            subst e1 e2
            refine mv_if_ne (pc := 36) (tgt := 49) dX6_isBusy_36 (by decide) (fun hb4 => ?_) (fun hb4 => ?_)
            · have : x c 0 = 1 := Classical.byContradiction fun q => hb4 (by rw [if_neg q])
              exact yes (es.mpr (Or.inr ⟨h2, hb3, Or.inl this⟩))
            · have n1 : ¬ x c 0 = 1 := fun q => by rw [if_pos q] at hb4; exact absurd hb4 (by decide)
              refine mv_aload_n (pc := 39) dX6_isBusy_39 rfl ?_
              refine mv_iload (pc := 40) dX6_isBusy_40 rfl ?_
              refine mv_iconst (pc := 42) (v := 2) dX6_isBusy_42 (by decide) ?_
              refine mv_cSi (pc := 43) dX6_isBusy_43 lk6_165 (c6_isHow ha h (by omega)) rfl rfl (Nat.le_of_ble_eq_true rfl) (by decide) (by decide) (fun r J' ⟨e1, e2⟩ => ?_)
              subst e1 e2
              refine mv_if_eq (pc := 46) (tgt := 53) dX6_isBusy_46 (by decide) (fun hb5 => ?_) (fun hb5 => ?_)
              · have n2 : ¬ x c 0 = 2 := fun q => by rw [if_pos q] at hb5; exact absurd hb5 (by decide)
                exact no (fun q => (es.mp q).elim nb (fun z => z.2.2.elim n1 n2))
              · have : x c 0 = 2 := Classical.byContradiction fun q => hb5 (by rw [if_neg q])
                exact yes (es.mpr (Or.inr ⟨h2, hb3, Or.inr this⟩))
  refine mv_iconst (pc := 0) (v := 0) dX6_isBusy_0 (by decide) ?_
  refine mv_istore_n (pc := 1) dX6_isBusy_1 (by decide) ?_
  refine mv_iconst (pc := 2) (v := 1) dX6_isBusy_2 (by decide) ?_
  refine mv_istore (pc := 3) dX6_isBusy_3 (by decide) ?_
  refine loop (nt + 1) 1 0 (by omega) (by omega) hpw.1 ?_
  rw [if_neg]
  rw [xs_busy_iff]
  rintro ⟨u, u1, u2, -⟩
  omega
theorem c6_isBusy {l : Launch} {D : va_G} {b0 n : Nat} {sh : mv_Sh} {I : mv_I} {R : mv_R} {m a nt t : Nat} {π x : xs_X} (K : rm_P sh R I m a nt π) (h : rm_R I a x) (ht : t < nt) : mv_C l D b0 m6_isBusy (mv_rm 1) [.ref m, .ref a, .int (nI t)] n sh I R (mv_Pi n sh R (fun r I' => r = (if xs_busy nt π x t = true then 1 else 0) ∧ I' = I)) := mv_C.of 2 (by decide) (by simp [Value.category]) rfl (e6_isBusy K h ht (fun _ _ h => mv_Pi.mk h))
end
section
set_option maxHeartbeats 4000000 in
set_option maxRecDepth 100000 in
theorem e6_works {l : Launch} {D : va_G} {b0 n : Nat} {sh : mv_Sh} {I : mv_I} {R : mv_R} {Q : mv_Q} {m a nt t b s : Nat} {π x : xs_X} (K : rm_P sh R I m a nt π) (h : rm_R I a x) (hW : xs_W nt π x) (ht : t < nt) (hb : x t 2 = nI b) (hs : π t 1 = nI s) (hbs : b < s) (hs6 : s ≤ 6) (hQ : ∀ I', (rm_R I' a (xs_wk nt π x t) ∧ rm_Fr a I I') → Q none n sh I' R) : mv_E l D b0 m6_works (mv_rm 3) Q 0 [.ref m, .ref a, .int (nI t), .null, .null] [] 0 0 n sh I R := by
  obtain ⟨hm, ha, haa, hpc, hpw⟩ := id K
  have hn := hpw.2.1
  have ht8 : t < 8 := by omega
  obtain ⟨-, ⟨e, he6, he⟩, -, hT⟩ := id hW
  obtain ⟨c, hc8, hc⟩ := (hT t ht).2.1
  have hcl : (x t 2).toNatClampNeg = b := by rw [hb]; exact nI_clamp (by omega)
  have hcs : (π t 1).toNatClampNeg = s := by rw [hs]; exact nI_clamp (by omega)
  have h2 : I a (18 * t + 2) = x t 2 := h.1 t ht8 2 (by decide)
  have hact := (hpc.2 t ht).2.2.2.2.2.2 b (by omega)
  obtain ⟨s2, hs26, hs2, hops⟩ := (hpw.2.2.2 t ht).2.1
  have es : s2 = s := (nI_eq (by omega) (by omega)).mp (hs2.symm.trans hs)
  subst es
  have hop5 := hops b hbs
  have hbe : rm_R (mv_up I a (18 * t + 2) (x t 2 + 1)) a (xs_beh x t) := rm_set 2 h ht8 (by decide)
  have hbf : rm_Fr a I (mv_up I a (18 * t + 2) (x t 2 + 1)) := rm_Fr.rf.up
  have he8 : xs_beh x t 8 1 = nI e := by unfold xs_beh; rw [mv_upN 8 (by omega)]; exact he
  refine mv_bipush (pc := 0) (v := 18) dX6_works_0 (by decide) ?_
  refine mv_iload_n (pc := 2) dX6_works_2 rfl ?_
  refine mv_imul (pc := 3) dX6_works_3 ?_
  refine mv_top (y := nI (18 * t)) (nI_mul 18 t) ?_
  refine mv_istore_n (pc := 4) dX6_works_4 (by decide) ?_
  refine mv_bipush (pc := 5) (v := 12) dX6_works_5 (by decide) ?_
  refine mv_iload_n (pc := 7) dX6_works_7 rfl ?_
  refine mv_imul (pc := 8) dX6_works_8 ?_
  refine mv_iconst (pc := 9) (v := 2) dX6_works_9 (by decide) ?_
  refine mv_aload_n (pc := 10) dX6_works_10 rfl ?_
  refine mv_iload_n (pc := 11) dX6_works_11 rfl ?_
  refine mv_iconst (pc := 12) (v := 2) dX6_works_12 (by decide) ?_
  refine mv_iadd (pc := 13) dX6_works_13 ?_
  refine mv_ialdx (pc := 14) (x := nI b) (k := 18 * t + 2) dX6_works_14 ha (nI_add _ 2) (by omega) (h2.trans hb) ?_
  refine mv_imul (pc := 15) dX6_works_15 ?_
  refine mv_iadd (pc := 16) dX6_works_16 ?_
  refine mv_top (y := nI (12 * t + 2 * b)) (show nI 12 * nI t + nI 2 * nI b = nI (12 * t + 2 * b) by rw [nI_mul, nI_mul, nI_add]) ?_
  refine mv_istore (pc := 17) dX6_works_17 (by decide) ?_
  refine mv_aload_n (pc := 19) dX6_works_19 rfl ?_
  refine mv_getR (pc := 20) (q := m + 10) dX6_works_20 fl6_37 (fun _ _ => rfl) (congrArg Prod.fst hm.o) hm.f19 ?_
  refine mv_iload (pc := 23) dX6_works_23 rfl ?_
  refine mv_ialdx (pc := 25) (x := π t (6 + 2 * b)) (k := 12 * t + 2 * b) dX6_works_25 hm.g19 rfl (by omega) hact.1 ?_
  rcases hop5 with ⟨hop5 | hop5, -⟩ | hop5 | hop5 | hop5
  · rw [hop5]
    refine mv_lsw (pc := 26) (off := 42) (tgt := 68) dX6_works_26 (by decide) (by decide) (by decide) ?_
    refine mv_aload_n (pc := 68) dX6_works_68 rfl ?_
    refine mv_iload_n (pc := 69) dX6_works_69 rfl ?_
    refine mv_iconst (pc := 70) (v := 3) dX6_works_70 (by decide) ?_
    refine mv_iadd (pc := 71) dX6_works_71 ?_
    refine mv_dup2 (pc := 72) dX6_works_72 rfl rfl ?_
    refine mv_ialdx (pc := 73) (x := x t 3) (k := 18 * t + 3) dX6_works_73 ha (nI_add _ 3) (by omega) (h.1 t ht8 3 (by decide)) ?_
    refine mv_iconst (pc := 74) (v := 1) dX6_works_74 (by decide) ?_
    refine mv_iadd (pc := 75) dX6_works_75 ?_
    refine mv_iast (pc := 76) (k := 18 * t + 3) dX6_works_76 ha (nI_add _ 3) (by omega) ?_
    refine mv_aload_n (pc := 77) dX6_works_77 rfl ?_
    refine mv_iload_n (pc := 78) dX6_works_78 rfl ?_
    refine mv_iconst (pc := 79) (v := 3) dX6_works_79 (by decide) ?_
    refine mv_iadd (pc := 80) dX6_works_80 ?_
    refine mv_ialdx (pc := 81) (x := x t 3 + 1) (k := 18 * t + 3) dX6_works_81 ha (nI_add _ 3) (by omega) mv_upe ?_
    refine mv_aload_n (pc := 82) dX6_works_82 rfl ?_
    refine mv_getR (pc := 83) (q := m + 10) dX6_works_83 fl6_37 (fun _ _ => rfl) (congrArg Prod.fst hm.o) hm.f19 ?_
    refine mv_iload (pc := 86) dX6_works_86 rfl ?_
    refine mv_iconst (pc := 88) (v := 1) dX6_works_88 (by decide) ?_
    refine mv_iadd (pc := 89) dX6_works_89 ?_
    refine mv_ialdx (pc := 90) (x := π t (7 + 2 * b)) (k := 12 * t + 2 * b + 1) dX6_works_90 hm.g19 (nI_add _ 1) (by omega) (by rw [mv_upN _ (by omega)]; exact hact.2) ?_
    refine mv_icmp_ne (pc := 91) (tgt := 194) dX6_works_91 (by decide) (fun hne => ?_) (fun hne => ?_)
    · refine mv_vret (pc := 194) dX6_works_194 rfl (by decide) (by decide) (hQ _ ⟨?_, rm_Fr.rf.up⟩)
      unfold xs_wk
      rw [hcl, if_pos hop5, if_neg hne]
      exact rm_set 3 h ht8 (by decide)
    · refine mv_aload_n (pc := 94) dX6_works_94 rfl ?_
      refine mv_iload_n (pc := 95) dX6_works_95 rfl ?_
      refine mv_iconst (pc := 96) (v := 3) dX6_works_96 (by decide) ?_
      refine mv_iadd (pc := 97) dX6_works_97 ?_
      refine mv_iconst (pc := 98) (v := 0) dX6_works_98 (by decide) ?_
      refine mv_iast (pc := 99) (k := 18 * t + 3) dX6_works_99 ha (nI_add _ 3) (by omega) ?_
      refine mv_aload_n (pc := 100) dX6_works_100 rfl ?_
      refine mv_iload_n (pc := 101) dX6_works_101 rfl ?_
      refine mv_iconst (pc := 102) (v := 2) dX6_works_102 (by decide) ?_
      refine mv_iadd (pc := 103) dX6_works_103 ?_
      refine mv_dup2 (pc := 104) dX6_works_104 rfl rfl ?_
      refine mv_ialdx (pc := 105) (x := x t 2) (k := 18 * t + 2) dX6_works_105 ha (nI_add _ 2) (by omega) (by rw [mv_upup]; have q : ¬ 18 * t + 2 = 18 * t + 3 := (by omega); simp only [mv_up, q, and_false, if_false]; exact h2) ?_
      refine mv_iconst (pc := 106) (v := 1) dX6_works_106 (by decide) ?_
      refine mv_iadd (pc := 107) dX6_works_107 ?_
      refine mv_iast (pc := 108) (k := 18 * t + 2) dX6_works_108 ha (nI_add _ 2) (by omega) ?_
      refine mv_goto (pc := 109) (tgt := 194) dX6_works_109 (by decide) ?_
      refine mv_vret (pc := 194) dX6_works_194 rfl (by decide) (by decide) (hQ _ ⟨?_, rm_Fr.rf.up.up.up⟩)
      unfold xs_wk
      rw [hcl, if_pos hop5, if_pos hne, mv_upup]
      unfold xs_beh
      rw [show mv_up x t 3 0 t 2 = x t 2 by simp [mv_up]]
      exact rm_set 2 (rm_set 3 h ht8 (by decide)) ht8 (by decide)
  · rw [hop5]
    refine mv_lsw (pc := 26) (off := 147) (tgt := 173) dX6_works_26 (by decide) (by decide) (by decide) ?_
    refine mv_aload_n (pc := 173) dX6_works_173 rfl ?_
    refine mv_iload_n (pc := 174) dX6_works_174 rfl ?_
    refine mv_aload_n (pc := 175) dX6_works_175 rfl ?_
    refine mv_getR (pc := 176) (q := m + 10) dX6_works_176 fl6_37 (fun _ _ => rfl) (congrArg Prod.fst hm.o) hm.f19 ?_
    refine mv_iload (pc := 179) dX6_works_179 rfl ?_
    refine mv_iconst (pc := 181) (v := 1) dX6_works_181 (by decide) ?_
    refine mv_iadd (pc := 182) dX6_works_182 ?_
    refine mv_ialdx (pc := 183) (x := π t (7 + 2 * b)) (k := 12 * t + 2 * b + 1) dX6_works_183 hm.g19 (nI_add _ 1) (by omega) hact.2 ?_
    refine mv_cSv (pc := 184) dX6_works_184 lk6_187 (c6_codes ha h ht8 hc hc8) rfl rfl (Nat.le_of_ble_eq_true rfl) (by decide) (by decide) (fun J ⟨hr, hf⟩ => ?_)
    refine mv_aload_n (pc := 187) dX6_works_187 rfl ?_
    refine mv_aload_n (pc := 188) dX6_works_188 rfl ?_
    refine mv_iload_n (pc := 189) dX6_works_189 rfl ?_
    refine mv_iconst (pc := 190) (v := 1) dX6_works_190 (by decide) ?_
    refine mv_cVv (pc := 191) dX6_works_191 lk6_190 (congrArg Prod.fst hm.o) (c6_closes (K.fr hf) hr ht (by rw [xs_cd_ne (by omega)]; exact he) he6) rfl rfl (Nat.le_of_ble_eq_true rfl) (by decide) (by decide) (fun J2 ⟨hr2, hf2⟩ => ?_)
    refine mv_vret (pc := 194) dX6_works_194 rfl (by decide) (by decide) (hQ _ ⟨?_, hf.tr hf2⟩)
    unfold xs_wk
    rw [hcl, if_neg (by rw [hop5]; decide), if_neg (by rw [hop5]; decide), if_neg (by rw [hop5]; decide), if_neg (by rw [hop5]; decide)]
    exact hr2
  · rw [hop5]
    refine mv_lsw (pc := 26) (off := 86) (tgt := 112) dX6_works_26 (by decide) (by decide) (by decide) ?_
    refine mv_aload_n (pc := 112) dX6_works_112 rfl ?_
    refine mv_iload_n (pc := 113) dX6_works_113 rfl ?_
    refine mv_iconst (pc := 114) (v := 2) dX6_works_114 (by decide) ?_
    refine mv_iadd (pc := 115) dX6_works_115 ?_
    refine mv_dup2 (pc := 116) dX6_works_116 rfl rfl ?_
    refine mv_ialdx (pc := 117) (x := x t 2) (k := 18 * t + 2) dX6_works_117 ha (nI_add _ 2) (by omega) h2 ?_
    refine mv_iconst (pc := 118) (v := 1) dX6_works_118 (by decide) ?_
    refine mv_iadd (pc := 119) dX6_works_119 ?_
    refine mv_iast (pc := 120) (k := 18 * t + 2) dX6_works_120 ha (nI_add _ 2) (by omega) ?_
    refine mv_aload_n (pc := 121) dX6_works_121 rfl ?_
    refine mv_aload_n (pc := 122) dX6_works_122 rfl ?_
    refine mv_iload_n (pc := 123) dX6_works_123 rfl ?_
    refine mv_cVv (pc := 124) dX6_works_124 lk6_180 (congrArg Prod.fst hm.o) (c6_beginsChild (K.fr hbf) hbe ht he8 he6) rfl rfl (Nat.le_of_ble_eq_true rfl) (by decide) (by decide) (fun J ⟨hr, hf⟩ => ?_)
    refine mv_goto (pc := 127) (tgt := 194) dX6_works_127 (by decide) ?_
    refine mv_vret (pc := 194) dX6_works_194 rfl (by decide) (by decide) (hQ _ ⟨?_, hbf.tr hf⟩)
    unfold xs_wk
    rw [hcl, if_neg (by rw [hop5]; decide), if_pos hop5]
    exact hr
  · rw [hop5]
    have ew : xs_wk nt π x t = if xs_busy nt π x t = true then x else xs_beh x t := by
      unfold xs_wk
      rw [hcl, if_neg (by rw [hop5]; decide), if_neg (by rw [hop5]; decide), if_pos hop5]
    rw [ew] at hQ
    refine mv_lsw (pc := 26) (off := 104) (tgt := 130) dX6_works_26 (by decide) (by decide) (by decide) ?_
    refine mv_aload_n (pc := 130) dX6_works_130 rfl ?_
    refine mv_iload_n (pc := 131) dX6_works_131 rfl ?_
    refine mv_iconst (pc := 132) (v := 2) dX6_works_132 (by decide) ?_
    refine mv_iadd (pc := 133) dX6_works_133 ?_
    refine mv_dup2 (pc := 134) dX6_works_134 rfl rfl ?_
    refine mv_ialdx (pc := 135) (x := x t 2) (k := 18 * t + 2) dX6_works_135 ha (nI_add _ 2) (by omega) h2 ?_
    refine mv_aload_n (pc := 136) dX6_works_136 rfl ?_
    refine mv_aload_n (pc := 137) dX6_works_137 rfl ?_
    refine mv_iload_n (pc := 138) dX6_works_138 rfl ?_
    refine mv_cVi (pc := 139) dX6_works_139 lk6_183 (congrArg Prod.fst hm.o) (c6_isBusy K h ht) rfl rfl (Nat.le_of_ble_eq_true rfl) (by decide) (by decide) (fun r J ⟨e1, e2⟩ => ?_)
    subst e1 e2
    refine mv_if_eq (pc := 142) (tgt := 149) dX6_works_142 (by decide) (fun hb0 => ?_) (fun hb0 => ?_)
    · have nb : ¬ xs_busy nt π x t = true := fun q => by rw [if_pos q] at hb0; exact absurd hb0 (by decide)
      refine mv_iconst (pc := 149) (v := 1) dX6_works_149 (by decide) ?_
      refine mv_iadd (pc := 150) dX6_works_150 ?_
      refine mv_iast (pc := 151) (k := 18 * t + 2) dX6_works_151 ha (nI_add _ 2) (by omega) ?_
      refine mv_goto (pc := 152) (tgt := 194) dX6_works_152 (by decide) ?_
      refine mv_vret (pc := 194) dX6_works_194 rfl (by decide) (by decide) (hQ _ ⟨?_, rm_Fr.rf.up⟩)
      rw [if_neg nb]
      exact hbe
    · have yb : xs_busy nt π x t = true := Classical.byContradiction fun q => hb0 (by rw [if_neg q])
      refine mv_iconst (pc := 145) (v := 0) dX6_works_145 (by decide) ?_
      refine mv_goto (pc := 146) (tgt := 150) dX6_works_146 (by decide) ?_
      refine mv_iadd (pc := 150) dX6_works_150 ?_
      refine mv_iast (pc := 151) (k := 18 * t + 2) dX6_works_151 ha (nI_add _ 2) (by omega) ?_
      refine mv_goto (pc := 152) (tgt := 194) dX6_works_152 (by decide) ?_
      refine mv_vret (pc := 194) dX6_works_194 rfl (by decide) (by decide) (hQ _ ⟨?_, rm_Fr.rf.up⟩)
      rw [if_pos yb]
      have : x = mv_up x t 2 (x t 2 + 0) := by
        funext u k
        simp only [mv_up]
        split
        · rename_i q
          rw [q.1, q.2, Int32.add_zero]
        · rfl
      rw [show (rm_R (mv_up _ a (18 * t + 2) (x t 2 + 0)) a x) = (rm_R (mv_up _ a (18 * t + 2) (x t 2 + 0)) a (mv_up x t 2 (x t 2 + 0))) from congrArg _ this]
      exact rm_set 2 h ht8 (by decide)
  · rw [hop5]
    refine mv_lsw (pc := 26) (off := 129) (tgt := 155) dX6_works_26 (by decide) (by decide) (by decide) ?_
    refine mv_aload_n (pc := 155) dX6_works_155 rfl ?_
    refine mv_iload_n (pc := 156) dX6_works_156 rfl ?_
    refine mv_iconst (pc := 157) (v := 2) dX6_works_157 (by decide) ?_
    refine mv_iadd (pc := 158) dX6_works_158 ?_
    refine mv_dup2 (pc := 159) dX6_works_159 rfl rfl ?_
    refine mv_ialdx (pc := 160) (x := x t 2) (k := 18 * t + 2) dX6_works_160 ha (nI_add _ 2) (by omega) h2 ?_
    refine mv_iconst (pc := 161) (v := 1) dX6_works_161 (by decide) ?_
    refine mv_iadd (pc := 162) dX6_works_162 ?_
    refine mv_iast (pc := 163) (k := 18 * t + 2) dX6_works_163 ha (nI_add _ 2) (by omega) ?_
    refine mv_aload_n (pc := 164) dX6_works_164 rfl ?_
    refine mv_aload_n (pc := 165) dX6_works_165 rfl ?_
    refine mv_iload_n (pc := 166) dX6_works_166 rfl ?_
    refine mv_cVv (pc := 167) dX6_works_167 lk6_169 (congrArg Prod.fst hm.o) (c6_asksChildren (K.fr hbf) hbe ht) rfl rfl (Nat.le_of_ble_eq_true rfl) (by decide) (by decide) (fun J ⟨hr, hf⟩ => ?_)
    refine mv_goto (pc := 170) (tgt := 194) dX6_works_170 (by decide) ?_
    refine mv_vret (pc := 194) dX6_works_194 rfl (by decide) (by decide) (hQ _ ⟨?_, hbf.tr hf⟩)
    unfold xs_wk
    rw [hcl, if_neg (by rw [hop5]; decide), if_neg (by rw [hop5]; decide), if_neg (by rw [hop5]; decide), if_pos hop5]
    exact hr
theorem c6_works {l : Launch} {D : va_G} {b0 n : Nat} {sh : mv_Sh} {I : mv_I} {R : mv_R} {m a nt t b s : Nat} {π x : xs_X} (K : rm_P sh R I m a nt π) (h : rm_R I a x) (hW : xs_W nt π x) (ht : t < nt) (hb : x t 2 = nI b) (hs : π t 1 = nI s) (hbs : b < s) (hs6 : s ≤ 6) : mv_C l D b0 m6_works (mv_rm 3) [.ref m, .ref a, .int (nI t)] n sh I R (mv_Pv n sh R (fun I' => rm_R I' a (xs_wk nt π x t) ∧ rm_Fr a I I')) := mv_C.of 2 (by decide) (by simp [Value.category]) rfl (e6_works K h hW ht hb hs hbs hs6 (fun _ h => mv_Pv.mk h))
set_option maxHeartbeats 4000000 in
set_option maxRecDepth 100000 in
theorem e6_moves {l : Launch} {D : va_G} {b0 n : Nat} {sh : mv_Sh} {I : mv_I} {R : mv_R} {Q : mv_Q} {m a nt t : Nat} {π x : xs_X} (K : rm_P sh R I m a nt π) (h : rm_R I a x) (hW : xs_W nt π x) (ht : t < nt) (hQ : ∀ I', (rm_R I' a (xs_mo nt π x t) ∧ rm_Fr a I I') → Q none n sh I' R) : mv_E l D b0 m6_moves (mv_rm 4) Q 0 [.ref m, .ref a, .int (nI t)] [] 0 0 n sh I R := by
  obtain ⟨hm, ha, haa, hpc, hpw⟩ := id K
  have hn := hpw.2.1
  have ht8 : t < 8 := by omega
  obtain ⟨-, ⟨e, he6, he⟩, -, hT⟩ := id hW
  obtain ⟨-, -, ⟨b, s, hbs, hs6, hs, hb, -⟩, -⟩ := hT t ht
  have rest : ¬ (x t 5 = 1 ∧ π t 3 ≤ x t 2) → mv_E l D b0 m6_moves (mv_rm 4) Q 35 [.ref m, .ref a, .int (nI t)] [] 0 0 n sh I R := by
    intro hno
    refine mv_aload_n (pc := 35) dX6_moves_35 rfl ?_
    refine mv_iload_n (pc := 36) dX6_moves_36 rfl ?_
    refine mv_iconst (pc := 37) (v := 2) dX6_moves_37 (by decide) ?_
    refine mv_cSi (pc := 38) dX6_moves_38 lk6_161 (c6_at ha h ht8 (k := 2) (by decide)) rfl rfl (Nat.le_of_ble_eq_true rfl) (by decide) (by decide) (fun r J ⟨e1, e2⟩ => ?_)
    subst e1 e2
    refine mv_aload_n (pc := 41) dX6_moves_41 rfl ?_
    refine mv_getR (pc := 42) (q := m + 9) dX6_moves_42 fl6_34 (fun _ _ => rfl) (congrArg Prod.fst hm.o) hm.f18 ?_
    refine mv_iload_n (pc := 45) dX6_moves_45 rfl ?_
    refine mv_ialdx (pc := 46) (x := π t 1) (k := t) dX6_moves_46 hm.g18 rfl (by omega) (hpc.2 t ht).2.1 ?_
    refine mv_icmp_ne (pc := 47) (tgt := 60) dX6_moves_47 (by decide) (fun hb2 => ?_) (fun hb2 => ?_)
    · have hlt : b < s := by
        have : b ≠ s := fun q => hb2 (by rw [hb, hs, q])
        omega
      refine mv_aload_n (pc := 60) dX6_moves_60 rfl ?_
      refine mv_aload_n (pc := 61) dX6_moves_61 rfl ?_
      refine mv_iload_n (pc := 62) dX6_moves_62 rfl ?_
      refine mv_cVv (pc := 63) dX6_moves_63 lk6_193 (congrArg Prod.fst hm.o) (c6_works K h hW ht hb hs hlt hs6) rfl rfl (Nat.le_of_ble_eq_true rfl) (by decide) (by decide) (fun J2 ⟨hr, hf⟩ => ?_)
      refine mv_vret (pc := 66) dX6_moves_66 rfl (by decide) (by decide) (hQ _ ⟨?_, hf⟩)
      unfold xs_mo
      rw [if_neg hno, if_neg hb2]
      exact hr
    · refine mv_aload_n (pc := 50) dX6_moves_50 rfl ?_
      refine mv_aload_n (pc := 51) dX6_moves_51 rfl ?_
      refine mv_iload_n (pc := 52) dX6_moves_52 rfl ?_
      refine mv_iconst (pc := 53) (v := 0) dX6_moves_53 (by decide) ?_
      refine mv_cVv (pc := 54) dX6_moves_54 lk6_190 (congrArg Prod.fst hm.o) (c6_closes K h ht he he6) rfl rfl (Nat.le_of_ble_eq_true rfl) (by decide) (by decide) (fun J2 ⟨hr, hf⟩ => ?_)
      refine mv_goto (pc := 57) (tgt := 66) dX6_moves_57 (by decide) ?_
      refine mv_vret (pc := 66) dX6_moves_66 rfl (by decide) (by decide) (hQ _ ⟨?_, hf⟩)
      unfold xs_mo
      rw [if_neg hno, if_pos hb2]
      exact hr
  refine mv_aload_n (pc := 0) dX6_moves_0 rfl ?_
  refine mv_iload_n (pc := 1) dX6_moves_1 rfl ?_
  refine mv_iconst (pc := 2) (v := 5) dX6_moves_2 (by decide) ?_
  refine mv_cSi (pc := 3) dX6_moves_3 lk6_161 (c6_at ha h ht8 (k := 5) (by decide)) rfl rfl (Nat.le_of_ble_eq_true rfl) (by decide) (by decide) (fun r J ⟨e1, e2⟩ => ?_)
  subst e1 e2
  refine mv_iconst (pc := 6) (v := 1) dX6_moves_6 (by decide) ?_
  refine mv_icmp_ne (pc := 7) (tgt := 35) dX6_moves_7 (by decide) (fun hc => ?_) (fun hc => ?_)
  · exact rest (fun q => hc q.1)
  · refine mv_aload_n (pc := 10) dX6_moves_10 rfl ?_
    refine mv_iload_n (pc := 11) dX6_moves_11 rfl ?_
    refine mv_iconst (pc := 12) (v := 2) dX6_moves_12 (by decide) ?_
    refine mv_cSi (pc := 13) dX6_moves_13 lk6_161 (c6_at ha h ht8 (k := 2) (by decide)) rfl rfl (Nat.le_of_ble_eq_true rfl) (by decide) (by decide) (fun r J' ⟨e1, e2⟩ => ?_)
    subst e1 e2
    refine mv_aload_n (pc := 16) dX6_moves_16 rfl ?_
    refine mv_getR (pc := 17) (q := m + 12) dX6_moves_17 fl6_43 (fun _ _ => rfl) (congrArg Prod.fst hm.o) hm.f21 ?_
    refine mv_iload_n (pc := 20) dX6_moves_20 rfl ?_
    refine mv_ialdx (pc := 21) (x := π t 3) (k := t) dX6_moves_21 hm.g21 rfl (by omega) (hpc.2 t ht).2.2.2.1 ?_
    refine mv_icmp_lt (pc := 22) (tgt := 35) dX6_moves_22 (by decide) (fun hc2 => ?_) (fun hc2 => ?_)
    · exact rest (fun q => absurd q.2 (Int32.not_le.mpr hc2))
    · refine mv_aload_n (pc := 25) dX6_moves_25 rfl ?_
      refine mv_aload_n (pc := 26) dX6_moves_26 rfl ?_
      refine mv_iload_n (pc := 27) dX6_moves_27 rfl ?_
      refine mv_iconst (pc := 28) (v := 2) dX6_moves_28 (by decide) ?_
      refine mv_cVv (pc := 29) dX6_moves_29 lk6_190 (congrArg Prod.fst hm.o) (c6_closes K h ht he he6) rfl rfl (Nat.le_of_ble_eq_true rfl) (by decide) (by decide) (fun J2 ⟨hr, hf⟩ => ?_)
      refine mv_goto (pc := 32) (tgt := 66) dX6_moves_32 (by decide) ?_
      refine mv_vret (pc := 66) dX6_moves_66 rfl (by decide) (by decide) (hQ _ ⟨?_, hf⟩)
      unfold xs_mo
      rw [if_pos ⟨hc, Int32.not_lt.mp hc2⟩]
      exact hr
theorem c6_moves {l : Launch} {D : va_G} {b0 n : Nat} {sh : mv_Sh} {I : mv_I} {R : mv_R} {m a nt t : Nat} {π x : xs_X} (K : rm_P sh R I m a nt π) (h : rm_R I a x) (hW : xs_W nt π x) (ht : t < nt) : mv_C l D b0 m6_moves (mv_rm 4) [.ref m, .ref a, .int (nI t)] n sh I R (mv_Pv n sh R (fun I' => rm_R I' a (xs_mo nt π x t) ∧ rm_Fr a I I')) := mv_C.of 0 (by decide) (by simp [Value.category]) rfl (e6_moves K h hW ht (fun _ h => mv_Pv.mk h))
set_option maxHeartbeats 4000000 in
set_option maxRecDepth 100000 in
theorem e6_gives {l : Launch} {D : va_G} {b0 n : Nat} {sh : mv_Sh} {I : mv_I} {R : mv_R} {Q : mv_Q} {m a nt t u c : Nat} {π x : xs_X} (K : rm_P sh R I m a nt π) (h : rm_R I a x) (hW : xs_W nt π x) (ht : t < nt) (hu : u < t) (hpu : π t 0 = nI u) (hc : x t 9 = nI c) (hc8 : c ≤ 8) (hQ : ∀ I', (rm_R I' a (xs_tf nt π (xs_gl x t u c) u) ∧ rm_Fr a I I') → Q none n sh I' R) : mv_E l D b0 m6_gives (mv_rm 3) Q 0 [.ref m, .ref a, .int (nI t), .null, .null] [] 0 0 n sh I R := by
  obtain ⟨hm, ha, haa, hpc, hpw⟩ := id K
  have hn := hpw.2.1
  have ht8 : t < 8 := by omega
  have fin : ∀ (v : Int32) (J : mv_I), rm_R J a (xs_gl x t u c) → rm_Fr a I J → mv_E l D b0 m6_gives (mv_rm 3) Q 43 [.ref m, .ref a, .int (nI t), .int (nI u), .int v] [] 0 0 n sh J R := by
    intro v J hr hf
    have hWg := hW.gl (t := t) (u := u) (by omega) hn c
    generalize hyy : xs_gl x t u c = y at hr hWg hQ
    obtain ⟨e, he6, he⟩ := hWg.2.1
    have hpc' := (K.fr hf).2.2.2.1
    have rest : ¬ (y u 0 = 1 ∧ π u 5 = 0) → mv_E l D b0 m6_gives (mv_rm 3) Q 73 [.ref m, .ref a, .int (nI t), .int (nI u), .int v] [] 0 0 n sh J R := by
      intro hno
      have stay : ¬ (y u 0 = 2 ∧ y u 1 = 0) → mv_E l D b0 m6_gives (mv_rm 3) Q 106 [.ref m, .ref a, .int (nI t), .int (nI u), .int v] [] 0 0 n sh J R := by
        intro hno2
        refine mv_vret (pc := 106) dX6_gives_106 rfl (by decide) (by decide) (hQ _ ⟨?_, hf⟩)
        unfold xs_tf
        rw [if_neg hno, if_neg hno2]
        exact hr
      refine mv_aload_n (pc := 73) dX6_gives_73 rfl ?_
      refine mv_iload_n (pc := 74) dX6_gives_74 rfl ?_
      refine mv_iconst (pc := 75) (v := 2) dX6_gives_75 (by decide) ?_
      refine mv_cSi (pc := 76) dX6_gives_76 lk6_165 (c6_isHow ha hr (t := u) (by omega)) rfl rfl (Nat.le_of_ble_eq_true rfl) (by decide) (by decide) (fun r J' ⟨e1, e2⟩ => ?_)
      subst e1 e2
      refine mv_if_eq (pc := 79) (tgt := 106) dX6_gives_79 (by decide) (fun hb => ?_) (fun hb => ?_)
      · have : ¬ y u 0 = 2 := fun q => by rw [if_pos q] at hb; exact absurd hb (by decide)
        exact stay (fun q => this q.1)
      · have y2 : y u 0 = 2 := Classical.byContradiction fun q => hb (by rw [if_neg q])
        refine mv_aload_n (pc := 82) dX6_gives_82 rfl ?_
        refine mv_iload_n (pc := 83) dX6_gives_83 rfl ?_
        refine mv_iconst (pc := 84) (v := 1) dX6_gives_84 (by decide) ?_
        refine mv_cSi (pc := 85) dX6_gives_85 lk6_161 (c6_at ha hr (t := u) (by omega) (k := 1) (by decide)) rfl rfl (Nat.le_of_ble_eq_true rfl) (by decide) (by decide) (fun r J' ⟨e1, e2⟩ => ?_)
        subst e1 e2
        refine mv_if_ne (pc := 88) (tgt := 106) dX6_gives_88 (by decide) (fun hb2 => ?_) (fun hb2 => ?_)
        · exact stay (fun q => hb2 q.2)
        · refine mv_aload_n (pc := 91) dX6_gives_91 rfl ?_
          refine mv_bipush (pc := 92) (v := 18) dX6_gives_92 (by decide) ?_
          refine mv_iload_n (pc := 94) dX6_gives_94 rfl ?_
          refine mv_imul (pc := 95) dX6_gives_95 ?_
          refine mv_iconst (pc := 96) (v := 1) dX6_gives_96 (by decide) ?_
          refine mv_iadd (pc := 97) dX6_gives_97 ?_
          refine mv_iconst (pc := 98) (v := 1) dX6_gives_98 (by decide) ?_
          refine mv_iast (pc := 99) (k := 18 * u + 1) dX6_gives_99 ha (mv_jx 18 u 1) (by omega) ?_
          refine mv_aload_n (pc := 100) dX6_gives_100 rfl ?_
          refine mv_aload_n (pc := 101) dX6_gives_101 rfl ?_
          refine mv_iload_n (pc := 102) dX6_gives_102 rfl ?_
          refine mv_cVv (pc := 103) dX6_gives_103 lk6_169 (congrArg Prod.fst hm.o) (c6_asksChildren (K.fr hf.up) (rm_set 1 hr (t := u) (v := 1) (by omega) (by decide)) (by omega)) rfl rfl (Nat.le_of_ble_eq_true rfl) (by decide) (by decide) (fun J2 ⟨hr2, hf2⟩ => ?_)
          refine mv_vret (pc := 106) dX6_gives_106 rfl (by decide) (by decide) (hQ _ ⟨?_, hf.up.tr hf2⟩)
          unfold xs_tf
          rw [if_neg hno, if_pos ⟨y2, hb2⟩]
          exact hr2
    refine mv_aload_n (pc := 43) dX6_gives_43 rfl ?_
    refine mv_iload_n (pc := 44) dX6_gives_44 rfl ?_
    refine mv_iconst (pc := 45) (v := 1) dX6_gives_45 (by decide) ?_
    refine mv_cSi (pc := 46) dX6_gives_46 lk6_165 (c6_isHow ha hr (t := u) (by omega)) rfl rfl (Nat.le_of_ble_eq_true rfl) (by decide) (by decide) (fun r J' ⟨e1, e2⟩ => ?_)
    subst e1 e2
    refine mv_if_eq (pc := 49) (tgt := 73) dX6_gives_49 (by decide) (fun hb => ?_) (fun hb => ?_)
    · have : ¬ y u 0 = 1 := fun q => by rw [if_pos q] at hb; exact absurd hb (by decide)
      exact rest (fun q => this q.1)
    · have y1 : y u 0 = 1 := Classical.byContradiction fun q => hb (by rw [if_neg q])
      refine mv_aload_n (pc := 52) dX6_gives_52 rfl ?_
      refine mv_getI (pc := 53) dX6_gives_53 fl6_145 rfl (congrArg Prod.fst hm.o) ?_
      refine mv_iload_n (pc := 56) dX6_gives_56 rfl ?_
      refine mv_ishr (pc := 57) dX6_gives_57 ?_
      refine mv_iconst (pc := 58) (v := 1) dX6_gives_58 (by decide) ?_
      refine mv_iand (pc := 59) dX6_gives_59 ?_
      refine mv_top (y := π u 5) (hpc'.2 u (by omega)).2.2.2.2.2.1 ?_
      refine mv_if_ne (pc := 60) (tgt := 73) dX6_gives_60 (by decide) (fun hb2 => ?_) (fun hb2 => ?_)
      · exact rest (fun q => hb2 q.2)
      · refine mv_aload_n (pc := 63) dX6_gives_63 rfl ?_
        refine mv_aload_n (pc := 64) dX6_gives_64 rfl ?_
        refine mv_iload_n (pc := 65) dX6_gives_65 rfl ?_
        refine mv_iconst (pc := 66) (v := 1) dX6_gives_66 (by decide) ?_
        refine mv_cVv (pc := 67) dX6_gives_67 lk6_190 (congrArg Prod.fst hm.o) (c6_closes (K.fr hf) hr (t := u) (by omega) he he6) rfl rfl (Nat.le_of_ble_eq_true rfl) (by decide) (by decide) (fun J2 ⟨hr2, hf2⟩ => ?_)
        refine mv_goto (pc := 70) (tgt := 106) dX6_gives_70 (by decide) ?_
        refine mv_vret (pc := 106) dX6_gives_106 rfl (by decide) (by decide) (hQ _ ⟨?_, hf.tr hf2⟩)
        unfold xs_tf
        rw [if_pos ⟨y1, hb2⟩]
        exact hr2
  have htu : t ≠ u := by omega
  have loop : ∀ (f k : Nat) (J : mv_I), c < k + f → k ≤ c → rm_R J a (xs_gl x t u k) → rm_Fr a I J → mv_E l D b0 m6_gives (mv_rm 3) Q 10 [.ref m, .ref a, .int (nI t), .int (nI u), .int (nI k)] [] 0 0 n sh J R := by
    intro f
    induction f with
    | zero => intro k J h1 h2; omega
    | succ f ih =>
      intro k J h1 h2 hr hf
      have e9 : xs_gl x t u k t 9 = nI c := by rw [xs_gl_ne htu]; exact hc
      refine mv_iload (pc := 10) dX6_gives_10 rfl ?_
      refine mv_aload_n (pc := 12) dX6_gives_12 rfl ?_
      refine mv_iload_n (pc := 13) dX6_gives_13 rfl ?_
      refine mv_bipush (pc := 14) (v := 9) dX6_gives_14 (by decide) ?_
      refine mv_cSi (pc := 16) dX6_gives_16 lk6_161 (c6_at ha hr ht8 (k := 9) (by decide)) rfl rfl (Nat.le_of_ble_eq_true rfl) (by decide) (by decide) (fun r J' ⟨e1, e2⟩ => ?_)
      subst e1 e2
      refine mv_top (y := nI c) e9 ?_
      refine mv_icmp_ge (pc := 19) (tgt := 43) dX6_gives_19 (by decide) (fun hb => ?_) (fun hb => ?_)
      · have : k = c := by
          have := (nI_leI (by omega) (by omega)).mp hb
          omega
        subst this
        exact fin _ _ hr hf
      · have hkc : k < c := by
          rcases Nat.lt_or_ge k c with q | q
          · exact q
          · exact absurd (nI_le q (by omega)) hb
        obtain ⟨cu, hcu8, hcu⟩ := ((hW.gl (t := t) (u := u) (by omega) hn k).2.2.2 u (by omega)).2.1
        refine mv_aload_n (pc := 22) dX6_gives_22 rfl ?_
        refine mv_iload_n (pc := 23) dX6_gives_23 rfl ?_
        refine mv_aload_n (pc := 24) dX6_gives_24 rfl ?_
        refine mv_iload_n (pc := 25) dX6_gives_25 rfl ?_
        refine mv_bipush (pc := 26) (v := 10) dX6_gives_26 (by decide) ?_
        refine mv_iload (pc := 28) dX6_gives_28 rfl ?_
        refine mv_iadd (pc := 30) dX6_gives_30 ?_
        refine mv_top (y := nI (10 + k)) (nI_add 10 k) ?_
        refine mv_cSi (pc := 31) dX6_gives_31 lk6_161 (c6_at ha hr ht8 (k := 10 + k) (by omega)) rfl rfl (Nat.le_of_ble_eq_true rfl) (by decide) (by decide) (fun r J' ⟨e1, e2⟩ => ?_)
        subst e1 e2
        refine mv_top (y := x t (10 + k)) (by rw [xs_gl_ne htu]) ?_
        refine mv_cSv (pc := 34) dX6_gives_34 lk6_187 (c6_codes ha hr (t := u) (by omega) hcu hcu8) rfl rfl (Nat.le_of_ble_eq_true rfl) (by decide) (by decide) (fun J2 ⟨hr2, hf2⟩ => ?_)
        refine mv_iinc (pc := 37) (v := nI (k + 1)) dX6_gives_37 (by decide) rfl (nI_1 k) ?_
        refine mv_goto (pc := 40) (tgt := 10) dX6_gives_40 (by decide) ?_
        exact ih (k + 1) J2 (by omega) (by omega) hr2 (hf.tr hf2)
  refine mv_aload_n (pc := 0) dX6_gives_0 rfl ?_
  refine mv_getR (pc := 1) (q := m + 8) dX6_gives_1 fl6_31 (fun _ _ => rfl) (congrArg Prod.fst hm.o) hm.f17 ?_
  refine mv_iload_n (pc := 4) dX6_gives_4 rfl ?_
  refine mv_ialdx (pc := 5) (x := nI u) (k := t) dX6_gives_5 hm.g17 rfl (by omega) ((hpc.2 t ht).1.trans hpu) ?_
  refine mv_istore_n (pc := 6) dX6_gives_6 (by decide) ?_
  refine mv_iconst (pc := 7) (v := 0) dX6_gives_7 (by decide) ?_
  refine mv_istore (pc := 8) dX6_gives_8 (by decide) ?_
  exact loop (c + 1) 0 I (by omega) (by omega) h rm_Fr.rf
theorem c6_gives {l : Launch} {D : va_G} {b0 n : Nat} {sh : mv_Sh} {I : mv_I} {R : mv_R} {m a nt t u c : Nat} {π x : xs_X} (K : rm_P sh R I m a nt π) (h : rm_R I a x) (hW : xs_W nt π x) (ht : t < nt) (hu : u < t) (hpu : π t 0 = nI u) (hc : x t 9 = nI c) (hc8 : c ≤ 8) : mv_C l D b0 m6_gives (mv_rm 3) [.ref m, .ref a, .int (nI t)] n sh I R (mv_Pv n sh R (fun I' => rm_R I' a (xs_tf nt π (xs_gl x t u c) u) ∧ rm_Fr a I I')) := mv_C.of 2 (by decide) (by simp [Value.category]) rfl (e6_gives K h hW ht hu hpu hc hc8 (fun _ h => mv_Pv.mk h))
end
section
set_option maxHeartbeats 4000000 in
set_option maxRecDepth 100000 in
theorem e6_cleansUp {l : Launch} {D : va_G} {b0 n : Nat} {sh : mv_Sh} {I : mv_I} {R : mv_R} {Q : mv_Q} {m a nt t : Nat} {π x : xs_X} (K : rm_P sh R I m a nt π) (h : rm_R I a x) (hW : xs_W nt π x) (ht : t < nt) (h2 : x t 0 = 2) (hQ : ∀ I', (rm_R I' a (xs_cu nt π x t) ∧ rm_Fr a I I') → Q none n sh I' R) : mv_E l D b0 m6_cleansUp (mv_rm 4) Q 0 [.ref m, .ref a, .int (nI t), .null] [] 0 0 n sh I R := by
  obtain ⟨hm, ha, haa, hpc, hpw⟩ := id K
  have hn := hpw.2.1
  have ht8 : t < 8 := by omega
  have mid : ∀ (J : mv_I), rm_R J a (xs_cc π x t) → rm_Fr a I J → mv_E l D b0 m6_cleansUp (mv_rm 4) Q 29 [.ref m, .ref a, .int (nI t), .null] [] 0 0 n sh J R := by
    intro J hr hf
    obtain ⟨w1, w2, w3⟩ := hW.cc ht hn
    have hy2 : xs_cc π x t t 0 = 2 := by rw [w3 0 (by decide)]; exact h2
    have ecu : xs_cu nt π x t = if xs_cc π x t t 6 = π t 4 then xs_en nt π (xs_cc π x t) t else xs_cc π x t := rfl
    generalize hyy : xs_cc π x t = y at hr w1 hy2 ecu
    rw [ecu] at hQ
    have hpc' := (K.fr hf).2.2.2.1
    obtain ⟨⟨τ, hτ2, hτ⟩, ⟨e, he6, he⟩, -, hT⟩ := id w1
    refine mv_aload_n (pc := 29) dX6_cleansUp_29 rfl ?_
    refine mv_iload_n (pc := 30) dX6_cleansUp_30 rfl ?_
    refine mv_bipush (pc := 31) (v := 6) dX6_cleansUp_31 (by decide) ?_
    refine mv_cSi (pc := 33) dX6_cleansUp_33 lk6_161 (c6_at ha hr ht8 (k := 6) (by decide)) rfl rfl (Nat.le_of_ble_eq_true rfl) (by decide) (by decide) (fun r J' ⟨e1, e2⟩ => ?_)
    subst e1 e2
    refine mv_aload_n (pc := 36) dX6_cleansUp_36 rfl ?_
    refine mv_getR (pc := 37) (q := m + 13) dX6_cleansUp_37 fl6_46 (fun _ _ => rfl) (congrArg Prod.fst hm.o) hm.f22 ?_
    refine mv_iload_n (pc := 40) dX6_cleansUp_40 rfl ?_
    refine mv_ialdx (pc := 41) (x := π t 4) (k := t) dX6_cleansUp_41 hm.g22 rfl (by omega) (hpc'.2 t ht).2.2.2.2.1 ?_
    refine mv_icmp_ne (pc := 42) (tgt := 101) dX6_cleansUp_42 (by decide) (fun hb => ?_) (fun hb => ?_)
    · refine mv_vret (pc := 101) dX6_cleansUp_101 rfl (by decide) (by decide) (hQ _ ⟨?_, hf⟩)
      rw [if_neg hb]
      exact hr
    · rw [if_pos hb] at hQ
      refine mv_aload_n (pc := 45) dX6_cleansUp_45 rfl ?_
      refine mv_bipush (pc := 46) (v := 18) dX6_cleansUp_46 (by decide) ?_
      refine mv_iload_n (pc := 48) dX6_cleansUp_48 rfl ?_
      refine mv_imul (pc := 49) dX6_cleansUp_49 ?_
      refine mv_iconst (pc := 50) (v := 0) dX6_cleansUp_50 (by decide) ?_
      refine mv_iadd (pc := 51) dX6_cleansUp_51 ?_
      refine mv_iconst (pc := 52) (v := 3) dX6_cleansUp_52 (by decide) ?_
      refine mv_iast (pc := 53) (k := 18 * t + 0) dX6_cleansUp_53 ha (mv_jx 18 t 0) (by omega) ?_
      refine mv_aload_n (pc := 54) dX6_cleansUp_54 rfl ?_
      refine mv_bipush (pc := 55) (v := 18) dX6_cleansUp_55 (by decide) ?_
      refine mv_iload_n (pc := 57) dX6_cleansUp_57 rfl ?_
      refine mv_imul (pc := 58) dX6_cleansUp_58 ?_
      refine mv_bipush (pc := 59) (v := 8) dX6_cleansUp_59 (by decide) ?_
      refine mv_iadd (pc := 61) dX6_cleansUp_61 ?_
      refine mv_aload_n (pc := 62) dX6_cleansUp_62 rfl ?_
      refine mv_sipush (pc := 63) (v := 144) dX6_cleansUp_63 (by decide) ?_
      refine mv_ialdx (pc := 66) (x := y 8 0) (k := 144) dX6_cleansUp_66 ha (by decide) (by omega) (by rw [(rm_set 0 hr ht8 (by decide)).2.1.1, mv_upN 8 (by omega)]) ?_
      refine mv_iast (pc := 67) (k := 18 * t + 8) dX6_cleansUp_67 ha (mv_jx 18 t 8) (by omega) ?_
      refine mv_aload_n (pc := 68) dX6_cleansUp_68 rfl ?_
      refine mv_iload_n (pc := 69) dX6_cleansUp_69 rfl ?_
      refine mv_iconst (pc := 70) (v := 2) dX6_cleansUp_70 (by decide) ?_
      refine mv_cSv (pc := 71) dX6_cleansUp_71 lk6_173 (c6_traces ha (rm_set 8 (rm_set 0 hr ht8 (by decide)) ht8 (by decide)) (by rw [mv_upN 8 (by omega), mv_upN 8 (by omega)]; exact he) he6) rfl rfl (Nat.le_of_ble_eq_true rfl) (by decide) (by decide) (fun J2 ⟨hr2, hf2⟩ => ?_)
      have fJ := (hf.up.up).tr hf2
      have x1t : ∀ k, k ≠ 0 → k ≠ 8 → xs_tr (mv_up (mv_up y t 0 3) t 8 (y 8 0)) t 2 t k = y t k := fun k a b => by
        rw [xs_tr_lo (by omega)]; simp [mv_up, a, b]
      have hWe := w1.en0 ht hn hy2
      refine mv_aload_n (pc := 74) dX6_cleansUp_74 rfl ?_
      refine mv_iload_n (pc := 75) dX6_cleansUp_75 rfl ?_
      refine mv_iconst (pc := 76) (v := 1) dX6_cleansUp_76 (by decide) ?_
      refine mv_cSi (pc := 77) dX6_cleansUp_77 lk6_161 (c6_at ha hr2 ht8 (k := 1) (by decide)) rfl rfl (Nat.le_of_ble_eq_true rfl) (by decide) (by decide) (fun r J' ⟨e1, e2⟩ => ?_)
      subst e1 e2
      refine mv_top (y := y t 1) (x1t 1 (by decide) (by decide)) ?_
      have no : ¬ (0 < t ∧ (y t 1 = 1 ∨ y t 1 = 3)) → mv_E l D b0 m6_cleansUp (mv_rm 4) Q 101 [.ref m, .ref a, .int (nI t), .int (y t 1)] [] 0 0 n sh J' R := by
        intro q
        refine mv_vret (pc := 101) dX6_cleansUp_101 rfl (by decide) (by decide) (hQ _ ⟨?_, fJ⟩)
        unfold xs_en
        rw [if_neg q]
        exact hr2
      have yes : (0 < t ∧ (y t 1 = 1 ∨ y t 1 = 3)) → mv_E l D b0 m6_cleansUp (mv_rm 4) Q 95 [.ref m, .ref a, .int (nI t), .int (y t 1)] [] 0 0 n sh J' R := by
        intro q
        obtain ⟨u, hut, hu⟩ := (hpw.2.2.2 t ht).1 q.1
        have hcl : (π t 0).toNatClampNeg = u := by rw [hu]; exact nI_clamp (by omega)
        obtain ⟨c, hc8, hc⟩ := (hT t ht).2.1
        refine mv_aload_n (pc := 95) dX6_cleansUp_95 rfl ?_
        refine mv_aload_n (pc := 96) dX6_cleansUp_96 rfl ?_
        refine mv_iload_n (pc := 97) dX6_cleansUp_97 rfl ?_
        refine mv_cVv (pc := 98) dX6_cleansUp_98 lk6_196 (congrArg Prod.fst hm.o) (c6_gives (K.fr fJ) hr2 hWe ht hut hu ((x1t 9 (by decide) (by decide)).trans hc) hc8) rfl rfl (Nat.le_of_ble_eq_true rfl) (by decide) (by decide) (fun J3 ⟨hr3, hf3⟩ => ?_)
        refine mv_vret (pc := 101) dX6_cleansUp_101 rfl (by decide) (by decide) (hQ _ ⟨?_, fJ.tr hf3⟩)
        unfold xs_en
        rw [if_pos q, hcl, hc, nI_clamp (by omega)]
        exact hr3
      refine mv_istore_n (pc := 80) dX6_cleansUp_80 (by decide) ?_
      refine mv_iload_n (pc := 81) dX6_cleansUp_81 rfl ?_
      refine mv_if_le (pc := 82) (tgt := 101) dX6_cleansUp_82 (by decide) (fun hb2 => ?_) (fun hb2 => ?_)
      · refine no (fun q => ?_)
        exact absurd hb2 (nI_nle q.1 (by omega))
      · have ht0 : 0 < t := by
          rcases Nat.eq_zero_or_pos t with q | q
          · subst q; exact absurd (by decide) hb2
          · exact q
        refine mv_iload_n (pc := 85) dX6_cleansUp_85 rfl ?_
        refine mv_iconst (pc := 86) (v := 1) dX6_cleansUp_86 (by decide) ?_
        refine mv_icmp_eq (pc := 87) (tgt := 95) dX6_cleansUp_87 (by decide) (fun hb3 => ?_) (fun hb3 => ?_)
        · exact yes ⟨ht0, Or.inl hb3⟩
        · refine mv_iload_n (pc := 90) dX6_cleansUp_90 rfl ?_
          refine mv_iconst (pc := 91) (v := 3) dX6_cleansUp_91 (by decide) ?_
          refine mv_icmp_ne (pc := 92) (tgt := 101) dX6_cleansUp_92 (by decide) (fun hb4 => ?_) (fun hb4 => ?_)
          · exact no (fun q => q.2.elim hb3 hb4)
          · exact yes ⟨ht0, Or.inr hb4⟩
  refine mv_aload_n (pc := 0) dX6_cleansUp_0 rfl ?_
  refine mv_iload_n (pc := 1) dX6_cleansUp_1 rfl ?_
  refine mv_bipush (pc := 2) (v := 6) dX6_cleansUp_2 (by decide) ?_
  refine mv_cSi (pc := 4) dX6_cleansUp_4 lk6_161 (c6_at ha h ht8 (k := 6) (by decide)) rfl rfl (Nat.le_of_ble_eq_true rfl) (by decide) (by decide) (fun r J ⟨e1, e2⟩ => ?_)
  subst e1 e2
  refine mv_aload_n (pc := 7) dX6_cleansUp_7 rfl ?_
  refine mv_getR (pc := 8) (q := m + 13) dX6_cleansUp_8 fl6_46 (fun _ _ => rfl) (congrArg Prod.fst hm.o) hm.f22 ?_
  refine mv_iload_n (pc := 11) dX6_cleansUp_11 rfl ?_
  refine mv_ialdx (pc := 12) (x := π t 4) (k := t) dX6_cleansUp_12 hm.g22 rfl (by omega) (hpc.2 t ht).2.2.2.2.1 ?_
  refine mv_icmp_ge (pc := 13) (tgt := 29) dX6_cleansUp_13 (by decide) (fun hb => ?_) (fun hb => ?_)
  · exact mid _ (by unfold xs_cc; rw [if_neg (Int32.not_lt.mpr hb)]; exact h) rm_Fr.rf
  · refine mv_aload_n (pc := 16) dX6_cleansUp_16 rfl ?_
    refine mv_bipush (pc := 17) (v := 18) dX6_cleansUp_17 (by decide) ?_
    refine mv_iload_n (pc := 19) dX6_cleansUp_19 rfl ?_
    refine mv_imul (pc := 20) dX6_cleansUp_20 ?_
    refine mv_bipush (pc := 21) (v := 6) dX6_cleansUp_21 (by decide) ?_
    refine mv_iadd (pc := 23) dX6_cleansUp_23 ?_
    refine mv_dup2 (pc := 24) dX6_cleansUp_24 rfl rfl ?_
    refine mv_ialdx (pc := 25) (x := x t 6) (k := 18 * t + 6) dX6_cleansUp_25 ha (mv_jx 18 t 6) (by omega) (h.1 t ht8 6 (by decide)) ?_
    refine mv_iconst (pc := 26) (v := 1) dX6_cleansUp_26 (by decide) ?_
    refine mv_iadd (pc := 27) dX6_cleansUp_27 ?_
    refine mv_iast (pc := 28) (k := 18 * t + 6) dX6_cleansUp_28 ha (mv_jx 18 t 6) (by omega) ?_
    exact mid _ (by unfold xs_cc; rw [if_pos (Int32.not_le.mp hb)]; exact rm_set 6 h ht8 (by decide)) rm_Fr.rf.up
theorem c6_cleansUp {l : Launch} {D : va_G} {b0 n : Nat} {sh : mv_Sh} {I : mv_I} {R : mv_R} {m a nt t : Nat} {π x : xs_X} (K : rm_P sh R I m a nt π) (h : rm_R I a x) (hW : xs_W nt π x) (ht : t < nt) (h2 : x t 0 = 2) : mv_C l D b0 m6_cleansUp (mv_rm 4) [.ref m, .ref a, .int (nI t)] n sh I R (mv_Pv n sh R (fun I' => rm_R I' a (xs_cu nt π x t) ∧ rm_Fr a I I')) := mv_C.of 1 (by decide) (by simp [Value.category]) rfl (e6_cleansUp K h hW ht h2 (fun _ h => mv_Pv.mk h))
set_option maxHeartbeats 4000000 in
set_option maxRecDepth 100000 in
theorem e6_tick {l : Launch} {D : va_G} {b0 n : Nat} {sh : mv_Sh} {I : mv_I} {R : mv_R} {Q : mv_Q} {m a nt τ : Nat} {π x : xs_X} (K : rm_P sh R I m a nt π) (h : rm_R I a x) (hW : xs_W nt π x) (hτ : x 8 0 = nI τ) (hτ2 : τ < 2000) (hQ : ∀ I', (rm_R I' a (xs_tk nt π x) ∧ rm_Fr a I I') → Q none n sh I' R) : mv_E l D b0 m6_tick (mv_rm 5) Q 0 [.ref m, .ref a, .null] [] 0 0 n sh I R := by
  obtain ⟨hm, ha, haa, hpc, hpw⟩ := id K
  have hn := hpw.2.1
  have l3 : ∀ (k : Nat) (J : mv_I) (y : xs_X) (v : Int32), k ≤ nt → v = nI k - 1 → rm_R J a y → xs_W nt π y → rm_Fr a I J → xs_d (xs_p3 nt π) k y = xs_tk nt π x → mv_E l D b0 m6_tick (mv_rm 5) Q 119 [.ref m, .ref a, .int v] [] 0 0 n sh J R := by
    intro k
    induction k with
    | zero =>
      intro J y v hk hv hr hWy hf hy
      refine mv_iload_n (pc := 119) dX6_tick_119 rfl ?_
      refine mv_if_lt (pc := 120) (tgt := 153) dX6_tick_120 (by decide) (fun hb => ?_) (fun hb => ?_)
      · exact mv_vret (pc := 153) dX6_tick_153 rfl (by decide) (by decide) (hQ _ ⟨by rw [← hy]; exact hr, hf⟩)
      · rw [hv] at hb; exact absurd (by decide) hb
    | succ k ih =>
      intro J y v hk hv hr hWy hf hy
      rw [nI_pred] at hv
      subst hv
      have hkn : k < nt := by omega
      have nxt : ∀ J2, rm_R J2 a (xs_p3 nt π y k) → rm_Fr a I J2 → mv_E l D b0 m6_tick (mv_rm 5) Q 147 [.ref m, .ref a, .int (nI k)] [] 0 0 n sh J2 R := by
        intro J2 hr2 hf2
        refine mv_iinc (pc := 147) (v := nI k - 1) dX6_tick_147 (by decide) rfl (by rw [Int32.sub_eq_add_neg]; rfl) ?_
        refine mv_goto (pc := 150) (tgt := 119) dX6_tick_150 (by decide) ?_
        exact ih J2 _ _ (by omega) rfl hr2 (hWy.p3 hpw hkn).1 hf2 hy
      refine mv_iload_n (pc := 119) dX6_tick_119 rfl ?_
      refine mv_if_lt (pc := 120) (tgt := 153) dX6_tick_120 (by decide) (fun hb => ?_) (fun hb => ?_)
      · exact absurd hb (nI_pos (by omega))
      · refine mv_aload_n (pc := 123) dX6_tick_123 rfl ?_
        refine mv_iload_n (pc := 124) dX6_tick_124 rfl ?_
        refine mv_iconst (pc := 125) (v := 2) dX6_tick_125 (by decide) ?_
        refine mv_cSi (pc := 126) dX6_tick_126 lk6_165 (c6_isHow ha hr (t := k) (by omega)) rfl rfl (Nat.le_of_ble_eq_true rfl) (by decide) (by decide) (fun r J' ⟨e1, e2⟩ => ?_)
        subst e1 e2
        refine mv_if_eq (pc := 129) (tgt := 147) dX6_tick_129 (by decide) (fun hb2 => ?_) (fun hb2 => ?_)
        · have : ¬ y k 0 = 2 := fun q => by rw [if_pos q] at hb2; exact absurd hb2 (by decide)
          exact nxt _ (by unfold xs_p3; rw [if_neg (fun q => this q.1)]; exact hr) hf
        · have y2 : y k 0 = 2 := Classical.byContradiction fun q => hb2 (by rw [if_neg q])
          refine mv_aload_n (pc := 132) dX6_tick_132 rfl ?_
          refine mv_aload_n (pc := 133) dX6_tick_133 rfl ?_
          refine mv_iload_n (pc := 134) dX6_tick_134 rfl ?_
          refine mv_cVi (pc := 135) dX6_tick_135 lk6_183 (congrArg Prod.fst hm.o) (c6_isBusy (K.fr hf) hr hkn) rfl rfl (Nat.le_of_ble_eq_true rfl) (by decide) (by decide) (fun r J' ⟨e1, e2⟩ => ?_)
          subst e1 e2
          refine mv_if_ne (pc := 138) (tgt := 147) dX6_tick_138 (by decide) (fun hb3 => ?_) (fun hb3 => ?_)
          · have yb : xs_busy nt π y k = true := Classical.byContradiction fun q => hb3 (by rw [if_neg q])
            exact nxt _ (by unfold xs_p3; rw [if_neg (fun q => q.2 yb)]; exact hr) hf
          · have nb : ¬ xs_busy nt π y k = true := fun q => by rw [if_pos q] at hb3; exact absurd hb3 (by decide)
            refine mv_aload_n (pc := 141) dX6_tick_141 rfl ?_
            refine mv_aload_n (pc := 142) dX6_tick_142 rfl ?_
            refine mv_iload_n (pc := 143) dX6_tick_143 rfl ?_
            refine mv_cVv (pc := 144) dX6_tick_144 lk6_202 (congrArg Prod.fst hm.o) (c6_cleansUp (K.fr hf) hr hWy hkn y2) rfl rfl (Nat.le_of_ble_eq_true rfl) (by decide) (by decide) (fun J2 ⟨hr2, hf2⟩ => ?_)
            exact nxt _ (by unfold xs_p3; rw [if_pos ⟨y2, nb⟩]; exact hr2) (hf.tr hf2)
  have l2 : ∀ (f k : Nat) (J : mv_I) (y0 : xs_X), nt < k + f → k ≤ nt → xs_W nt π y0 → y0 8 0 = nI (τ + 1) → rm_R J a (xs_u (xs_p2 nt π) y0 k) → rm_Fr a I J → xs_d (xs_p3 nt π) nt (xs_u (xs_p2 nt π) y0 nt) = xs_tk nt π x → mv_E l D b0 m6_tick (mv_rm 5) Q 64 [.ref m, .ref a, .int (nI k)] [] 0 0 n sh J R := by
    intro f
    induction f with
    | zero => intro k J y0 h1 h2; omega
    | succ f ih =>
      intro k J y0 h1 h2 hW0 h80 hr hf hy
      have hWk : xs_W nt π (xs_u (xs_p2 nt π) y0 k) ∧ xs_u (xs_p2 nt π) y0 k 8 0 = y0 8 0 := xs_W.u (f := xs_p2 nt π) (fun y t hy ht => hy.p2 hpw ht) hW0 k h2
      have hpc' := (K.fr hf).2.2.2.1
      refine mv_iload_n (pc := 64) dX6_tick_64 rfl ?_
      refine mv_aload_n (pc := 65) dX6_tick_65 rfl ?_
      refine mv_getIx (pc := 66) (x := nI nt) dX6_tick_66 fl6_142 rfl (congrArg Prod.fst hm.o) hpc'.1 ?_
      refine mv_icmp_ge (pc := 69) (tgt := 112) dX6_tick_69 (by decide) (fun hb => ?_) (fun hb => ?_)
      · have : k = nt := by
          have := (nI_leI (a := nt) (b := k) (by omega) (by omega)).mp hb
          omega
        subst this
        refine mv_aload_n (pc := 112) dX6_tick_112 rfl ?_
        refine mv_getIx (pc := 113) (x := nI k) dX6_tick_113 fl6_142 rfl (congrArg Prod.fst hm.o) hpc'.1 ?_
        refine mv_iconst (pc := 116) (v := 1) dX6_tick_116 (by decide) ?_
        refine mv_isub (pc := 117) dX6_tick_117 ?_
        refine mv_istore_n (pc := 118) dX6_tick_118 (by decide) ?_
        exact l3 k J _ _ (by omega) rfl hr hWk.1 hf hy
      · have hkn : k < nt := by
          rcases Nat.lt_or_ge k nt with q | q
          · exact q
          · exact absurd (nI_le q (by omega)) hb
        have nxt : ∀ J2, rm_R J2 a (xs_u (xs_p2 nt π) y0 (k + 1)) → rm_Fr a I J2 → mv_E l D b0 m6_tick (mv_rm 5) Q 106 [.ref m, .ref a, .int (nI k)] [] 0 0 n sh J2 R := by
          intro J2 hr2 hf2
          refine mv_iinc (pc := 106) (v := nI (k + 1)) dX6_tick_106 (by decide) rfl (nI_1 k) ?_
          refine mv_goto (pc := 109) (tgt := 64) dX6_tick_109 (by decide) ?_
          exact ih (k + 1) J2 y0 (by omega) (by omega) hW0 h80 hr2 hf2 hy
        have eu : xs_u (xs_p2 nt π) y0 (k + 1) = xs_p2 nt π (xs_u (xs_p2 nt π) y0 k) k := rfl
        generalize hyk : xs_u (xs_p2 nt π) y0 k = y at hr hWk eu
        rw [eu] at nxt
        have e80 : y 8 0 = nI (τ + 1) := hWk.2.trans h80
        have go : y k 0 = 1 → (k = 0 ∨ y k 7 < y 8 0) → mv_E l D b0 m6_tick (mv_rm 5) Q 100 [.ref m, .ref a, .int (nI k)] [] 0 0 n sh J R := by
          intro q1 q2
          refine mv_aload_n (pc := 100) dX6_tick_100 rfl ?_
          refine mv_aload_n (pc := 101) dX6_tick_101 rfl ?_
          refine mv_iload_n (pc := 102) dX6_tick_102 rfl ?_
          refine mv_cVv (pc := 103) dX6_tick_103 lk6_199 (congrArg Prod.fst hm.o) (c6_moves (K.fr hf) hr hWk.1 hkn) rfl rfl (Nat.le_of_ble_eq_true rfl) (by decide) (by decide) (fun J2 ⟨hr2, hf2⟩ => ?_)
          exact nxt J2 (by unfold xs_p2; rw [if_pos ⟨q1, q2⟩]; exact hr2) (hf.tr hf2)
        refine mv_aload_n (pc := 72) dX6_tick_72 rfl ?_
        refine mv_iload_n (pc := 73) dX6_tick_73 rfl ?_
        refine mv_iconst (pc := 74) (v := 1) dX6_tick_74 (by decide) ?_
        refine mv_cSi (pc := 75) dX6_tick_75 lk6_165 (c6_isHow ha hr (t := k) (by omega)) rfl rfl (Nat.le_of_ble_eq_true rfl) (by decide) (by decide) (fun r J' ⟨e1, e2⟩ => ?_)
        subst e1 e2
        refine mv_if_eq (pc := 78) (tgt := 106) dX6_tick_78 (by decide) (fun hb2 => ?_) (fun hb2 => ?_)
        · have : ¬ y k 0 = 1 := fun q => by rw [if_pos q] at hb2; exact absurd hb2 (by decide)
          exact nxt _ (by unfold xs_p2; rw [if_neg (fun q => this q.1)]; exact hr) hf
        · have y1 : y k 0 = 1 := Classical.byContradiction fun q => hb2 (by rw [if_neg q])
          refine mv_iload_n (pc := 81) dX6_tick_81 rfl ?_
          refine mv_if_eq (pc := 82) (tgt := 100) dX6_tick_82 (by decide) (fun hb3 => ?_) (fun hb3 => ?_)
          · exact go y1 (Or.inl ((nI_eq (b := 0) (by omega) (by decide)).mp hb3))
          · refine mv_aload_n (pc := 85) dX6_tick_85 rfl ?_
            refine mv_iload_n (pc := 86) dX6_tick_86 rfl ?_
            refine mv_bipush (pc := 87) (v := 7) dX6_tick_87 (by decide) ?_
            refine mv_cSi (pc := 89) dX6_tick_89 lk6_161 (c6_at ha hr (t := k) (by omega) (k := 7) (by decide)) rfl rfl (Nat.le_of_ble_eq_true rfl) (by decide) (by decide) (fun r J' ⟨e1, e2⟩ => ?_)
            subst e1 e2
            refine mv_aload_n (pc := 92) dX6_tick_92 rfl ?_
            refine mv_sipush (pc := 93) (v := 144) dX6_tick_93 (by decide) ?_
            refine mv_ialdx (pc := 96) (x := y 8 0) (k := 144) dX6_tick_96 ha (by decide) (by omega) hr.2.1.1 ?_
            refine mv_icmp_ge (pc := 97) (tgt := 106) dX6_tick_97 (by decide) (fun hb4 => ?_) (fun hb4 => ?_)
            · refine nxt _ ?_ hf
              unfold xs_p2
              rw [if_neg]
              · exact hr
              · rintro ⟨-, q | q⟩
                · subst q; exact hb3 (by decide)
                · exact absurd hb4 (Int32.not_le.mpr q)
            · exact go y1 (Or.inr (Int32.not_le.mp hb4))
  have hW0 := hW.tick hn hτ hτ2
  have h80 : mv_up x 8 0 (x 8 0 + 1) 8 0 = nI (τ + 1) := by rw [mv_upe, hτ, nI_1]
  have l1 : ∀ (f k : Nat) (J : mv_I), nt < k + f → k ≤ nt → rm_R J a (xs_u (xs_p1 nt π) (mv_up x 8 0 (x 8 0 + 1)) k) → rm_Fr a I J → mv_E l D b0 m6_tick (mv_rm 5) Q 11 [.ref m, .ref a, .int (nI k)] [] 0 0 n sh J R := by
    intro f
    induction f with
    | zero => intro k J h1 h2; omega
    | succ f ih =>
      intro k J h1 h2 hr hf
      have hWk : xs_W nt π (xs_u (xs_p1 nt π) (mv_up x 8 0 (x 8 0 + 1)) k) ∧ xs_u (xs_p1 nt π) (mv_up x 8 0 (x 8 0 + 1)) k 8 0 = mv_up x 8 0 (x 8 0 + 1) 8 0 := xs_W.u (f := xs_p1 nt π) (fun y t hy ht => hy.p1 hpw ht) hW0 k h2
      have hpc' := (K.fr hf).2.2.2.1
      refine mv_iload_n (pc := 11) dX6_tick_11 rfl ?_
      refine mv_aload_n (pc := 12) dX6_tick_12 rfl ?_
      refine mv_getIx (pc := 13) (x := nI nt) dX6_tick_13 fl6_142 rfl (congrArg Prod.fst hm.o) hpc'.1 ?_
      refine mv_icmp_ge (pc := 16) (tgt := 62) dX6_tick_16 (by decide) (fun hb => ?_) (fun hb => ?_)
      · have : k = nt := by
          have := (nI_leI (a := nt) (b := k) (by omega) (by omega)).mp hb
          omega
        subst this
        refine mv_iconst (pc := 62) (v := 0) dX6_tick_62 (by decide) ?_
        refine mv_istore_n (pc := 63) dX6_tick_63 (by decide) ?_
        exact l2 (k + 1) 0 J _ (by omega) (by omega) hWk.1 (hWk.2.trans h80) hr hf rfl
      · have hkn : k < nt := by
          rcases Nat.lt_or_ge k nt with q | q
          · exact q
          · exact absurd (nI_le q (by omega)) hb
        have nxt : ∀ J2, rm_R J2 a (xs_u (xs_p1 nt π) (mv_up x 8 0 (x 8 0 + 1)) (k + 1)) → rm_Fr a I J2 → mv_E l D b0 m6_tick (mv_rm 5) Q 56 [.ref m, .ref a, .int (nI k)] [] 0 0 n sh J2 R := by
          intro J2 hr2 hf2
          refine mv_iinc (pc := 56) (v := nI (k + 1)) dX6_tick_56 (by decide) rfl (nI_1 k) ?_
          refine mv_goto (pc := 59) (tgt := 11) dX6_tick_59 (by decide) ?_
          exact ih (k + 1) J2 (by omega) (by omega) hr2 hf2
        have eu : xs_u (xs_p1 nt π) (mv_up x 8 0 (x 8 0 + 1)) (k + 1) = xs_p1 nt π (xs_u (xs_p1 nt π) (mv_up x 8 0 (x 8 0 + 1)) k) k := rfl
        generalize hyk : xs_u (xs_p1 nt π) (mv_up x 8 0 (x 8 0 + 1)) k = y at hr hWk eu
        rw [eu] at nxt
        refine mv_aload_n (pc := 19) dX6_tick_19 rfl ?_
        refine mv_iload_n (pc := 20) dX6_tick_20 rfl ?_
        refine mv_iconst (pc := 21) (v := 1) dX6_tick_21 (by decide) ?_
        refine mv_cSi (pc := 22) dX6_tick_22 lk6_165 (c6_isHow ha hr (t := k) (by omega)) rfl rfl (Nat.le_of_ble_eq_true rfl) (by decide) (by decide) (fun r J' ⟨e1, e2⟩ => ?_)
        subst e1 e2
        refine mv_if_eq (pc := 25) (tgt := 56) dX6_tick_25 (by decide) (fun hb2 => ?_) (fun hb2 => ?_)
        · have : ¬ y k 0 = 1 := fun q => by rw [if_pos q] at hb2; exact absurd hb2 (by decide)
          exact nxt _ (by unfold xs_p1; rw [if_neg (fun q => this q.1)]; exact hr) hf
        · have y1 : y k 0 = 1 := Classical.byContradiction fun q => hb2 (by rw [if_neg q])
          refine mv_aload_n (pc := 28) dX6_tick_28 rfl ?_
          refine mv_sipush (pc := 29) (v := 144) dX6_tick_29 (by decide) ?_
          refine mv_ialdx (pc := 32) (x := y 8 0) (k := 144) dX6_tick_32 ha (by decide) (by omega) hr.2.1.1 ?_
          refine mv_aload_n (pc := 33) dX6_tick_33 rfl ?_
          refine mv_iload_n (pc := 34) dX6_tick_34 rfl ?_
          refine mv_iconst (pc := 35) (v := 4) dX6_tick_35 (by decide) ?_
          refine mv_cSi (pc := 36) dX6_tick_36 lk6_161 (c6_at ha hr (t := k) (by omega) (k := 4) (by decide)) rfl rfl (Nat.le_of_ble_eq_true rfl) (by decide) (by decide) (fun r J' ⟨e1, e2⟩ => ?_)
          subst e1 e2
          refine mv_icmp_le (pc := 39) (tgt := 56) dX6_tick_39 (by decide) (fun hb3 => ?_) (fun hb3 => ?_)
          · exact nxt _ (by unfold xs_p1; rw [if_neg (fun q => absurd q.2 (Int32.not_lt.mpr hb3))]; exact hr) hf
          · obtain ⟨c, hc8, hc⟩ := (hWk.1.2.2.2 k hkn).2.1
            obtain ⟨e, he6, he⟩ := hWk.1.2.1
            refine mv_aload_n (pc := 42) dX6_tick_42 rfl ?_
            refine mv_iload_n (pc := 43) dX6_tick_43 rfl ?_
            refine mv_bipush (pc := 44) (v := 10) dX6_tick_44 (by decide) ?_
            refine mv_cSv (pc := 46) dX6_tick_46 lk6_187 (c6_codes ha hr (t := k) (by omega) hc hc8) rfl rfl (Nat.le_of_ble_eq_true rfl) (by decide) (by decide) (fun J2 ⟨hr2, hf2⟩ => ?_)
            refine mv_aload_n (pc := 49) dX6_tick_49 rfl ?_
            refine mv_aload_n (pc := 50) dX6_tick_50 rfl ?_
            refine mv_iload_n (pc := 51) dX6_tick_51 rfl ?_
            refine mv_iconst (pc := 52) (v := 3) dX6_tick_52 (by decide) ?_
            refine mv_cVv (pc := 53) dX6_tick_53 lk6_190 (congrArg Prod.fst hm.o) (c6_closes (K.fr (hf.tr hf2)) hr2 hkn (by rw [xs_cd_ne (by omega)]; exact he) he6) rfl rfl (Nat.le_of_ble_eq_true rfl) (by decide) (by decide) (fun J3 ⟨hr3, hf3⟩ => ?_)
            refine nxt J3 ?_ ((hf.tr hf2).tr hf3)
            unfold xs_p1
            rw [if_pos ⟨y1, Int32.not_le.mp hb3⟩]
            exact hr3
  refine mv_aload_n (pc := 0) dX6_tick_0 rfl ?_
  refine mv_sipush (pc := 1) (v := 144) dX6_tick_1 (by decide) ?_
  refine mv_dup2 (pc := 4) dX6_tick_4 rfl rfl ?_
  refine mv_ialdx (pc := 5) (x := x 8 0) (k := 144) dX6_tick_5 ha (by decide) (by omega) h.2.1.1 ?_
  refine mv_iconst (pc := 6) (v := 1) dX6_tick_6 (by decide) ?_
  refine mv_iadd (pc := 7) dX6_tick_7 ?_
  refine mv_iast (pc := 8) (k := 144) dX6_tick_8 ha (by decide) (by omega) ?_
  refine mv_iconst (pc := 9) (v := 0) dX6_tick_9 (by decide) ?_
  refine mv_istore_n (pc := 10) dX6_tick_10 (by decide) ?_
  exact l1 (nt + 1) 0 _ (by omega) (by omega) (rm_tick h) rm_Fr.rf.up
theorem c6_tick {l : Launch} {D : va_G} {b0 n : Nat} {sh : mv_Sh} {I : mv_I} {R : mv_R} {m a nt τ : Nat} {π x : xs_X} (K : rm_P sh R I m a nt π) (h : rm_R I a x) (hW : xs_W nt π x) (hτ : x 8 0 = nI τ) (hτ2 : τ < 2000) : mv_C l D b0 m6_tick (mv_rm 5) [.ref m, .ref a] n sh I R (mv_Pv n sh R (fun I' => rm_R I' a (xs_tk nt π x) ∧ rm_Fr a I I')) := mv_C.of 1 (by decide) (by simp [Value.category]) rfl (e6_tick K h hW hτ hτ2 (fun _ h => mv_Pv.mk h))
set_option maxHeartbeats 4000000 in
set_option maxRecDepth 100000 in
theorem e6_goesOn {l : Launch} {D : va_G} {b0 n : Nat} {sh : mv_Sh} {I : mv_I} {R : mv_R} {Q : mv_Q} {m nt τ k : Nat} {π x : xs_X} (K : rm_P sh R I m (m + 15) nt π) (h : rm_R I (m + 15) x) (hW : xs_W nt π x) (hτ : x 8 0 = nI τ) (hτ2 : τ + k ≤ 2000) (hQ : ∀ I', (rm_R I' (m + 15) (xs_go nt π 0 k x) ∧ rm_Fr (m + 15) I I') → Q none n sh I' R) : mv_E l D b0 m6_goesOn (mv_rm 6) Q 0 [.ref m, .int (nI k), .null] [] 0 0 n sh I R := by
  obtain ⟨hm, ha, haa, hpc, hpw⟩ := id K
  have hn := hpw.2.1
  have fin : ∀ (i : Nat) (J : mv_I), rm_R J (m + 15) (xs_go nt π 0 k x) → rm_Fr (m + 15) I J → mv_E l D b0 m6_goesOn (mv_rm 6) Q 33 [.ref m, .int (nI k), .int (nI i)] [] 0 0 n sh J R := by
    intro i J hr hf
    exact mv_vret (pc := 33) dX6_goesOn_33 rfl (by decide) (by decide) (hQ _ ⟨hr, hf⟩)
  have loop : ∀ (f i τ : Nat) (J : mv_I) (y : xs_X), i + f = k → rm_R J (m + 15) y → xs_W nt π y → y 8 0 = nI τ → τ + f ≤ 2000 → rm_Fr (m + 15) I J → xs_go nt π 0 f y = xs_go nt π 0 k x → mv_E l D b0 m6_goesOn (mv_rm 6) Q 2 [.ref m, .int (nI k), .int (nI i)] [] 0 0 n sh J R := by
    intro f
    induction f with
    | zero =>
      intro i τ J y hi hr hWy hτy hτm hf hy
      refine mv_iload_n (pc := 2) dX6_goesOn_2 rfl ?_
      refine mv_iload_n (pc := 3) dX6_goesOn_3 rfl ?_
      refine mv_icmp_ge (pc := 4) (tgt := 33) dX6_goesOn_4 (by decide) (fun hb => ?_) (fun hb => ?_)
      · exact fin i J (by rw [← hy]; exact hr) hf
      · exact absurd (nI_le (by omega) (by omega)) hb
    | succ f ih =>
      intro i τ J y hi hr hWy hτy hτm hf hy
      refine mv_iload_n (pc := 2) dX6_goesOn_2 rfl ?_
      refine mv_iload_n (pc := 3) dX6_goesOn_3 rfl ?_
      refine mv_icmp_ge (pc := 4) (tgt := 33) dX6_goesOn_4 (by decide) (fun hb => ?_) (fun hb => ?_)
      · exact absurd hb (nI_ge (by omega) (by omega))
      · refine mv_aload_n (pc := 7) dX6_goesOn_7 rfl ?_
        refine mv_getR (pc := 8) (q := m + 15) dX6_goesOn_8 fl6_52 (fun _ _ => rfl) (congrArg Prod.fst hm.o) hm.f24 ?_
        refine mv_iconst (pc := 11) (v := 0) dX6_goesOn_11 (by decide) ?_
        refine mv_iconst (pc := 12) (v := 3) dX6_goesOn_12 (by decide) ?_
        refine mv_cSi (pc := 13) dX6_goesOn_13 lk6_165 (c6_isHow ha hr (t := 0) (by omega)) rfl rfl (Nat.le_of_ble_eq_true rfl) (by decide) (by decide) (fun r J' ⟨e1, e2⟩ => ?_)
        subst e1 e2
        refine mv_if_ne (pc := 16) (tgt := 33) dX6_goesOn_16 (by decide) (fun hb2 => ?_) (fun hb2 => ?_)
        · have y3 : y 0 0 = 3 := Classical.byContradiction fun q => hb2 (by rw [if_neg q])
          refine fin i _ ?_ hf
          rw [← hy, xs_go, if_pos (Or.inl y3)]
          exact hr
        · have n3 : ¬ y 0 0 = 3 := fun q => by rw [if_pos q] at hb2; exact absurd hb2 (by decide)
          refine mv_aload_n (pc := 19) dX6_goesOn_19 rfl ?_
          refine mv_aload_n (pc := 20) dX6_goesOn_20 rfl ?_
          refine mv_getR (pc := 21) (q := m + 15) dX6_goesOn_21 fl6_52 (fun _ _ => rfl) (congrArg Prod.fst hm.o) hm.f24 ?_
          refine mv_cVv (pc := 24) dX6_goesOn_24 lk6_211 (congrArg Prod.fst hm.o) (c6_tick (K.fr hf) hr hWy hτy (by omega)) rfl rfl (Nat.le_of_ble_eq_true rfl) (by decide) (by decide) (fun J2 ⟨hr2, hf2⟩ => ?_)
          refine mv_iinc (pc := 27) (v := nI (i + 1)) dX6_goesOn_27 (by decide) rfl (nI_1 i) ?_
          refine mv_goto (pc := 30) (tgt := 2) dX6_goesOn_30 (by decide) ?_
          have hWt := hWy.tk hpw hτy (by omega)
          refine ih (i + 1) (τ + 1) J2 _ (by omega) hr2 hWt.1 hWt.2 (by omega) (hf.tr hf2) ?_
          rw [← hy, xs_go, if_neg (fun q => q.elim n3 n3)]
  refine mv_iconst (pc := 0) (v := 0) dX6_goesOn_0 (by decide) ?_
  refine mv_istore_n (pc := 1) dX6_goesOn_1 (by decide) ?_
  exact loop k 0 τ I x (by omega) h hW hτ (by omega) rm_Fr.rf rfl
theorem c6_goesOn {l : Launch} {D : va_G} {b0 n : Nat} {sh : mv_Sh} {I : mv_I} {R : mv_R} {m nt τ k : Nat} {π x : xs_X} (K : rm_P sh R I m (m + 15) nt π) (h : rm_R I (m + 15) x) (hW : xs_W nt π x) (hτ : x 8 0 = nI τ) (hτ2 : τ + k ≤ 2000) : mv_C l D b0 m6_goesOn (mv_rm 6) [.ref m, .int (nI k)] n sh I R (mv_Pv n sh R (fun I' => rm_R I' (m + 15) (xs_go nt π 0 k x) ∧ rm_Fr (m + 15) I I')) := mv_C.of 1 (by decide) (by simp [Value.category]) rfl (e6_goesOn K h hW hτ hτ2 (fun _ h => mv_Pv.mk h))
set_option maxHeartbeats 4000000 in
set_option maxRecDepth 100000 in
theorem e6_copies {l : Launch} {D : va_G} {b0 n : Nat} {sh : mv_Sh} {I : mv_I} {R : mv_R} {Q : mv_Q} {a b : Nat} (ha : sh a = (7, 326)) (hb : sh b = (7, 326)) (hab : a ≠ b) (hQ : ∀ I', ((∀ k, k < 326 → I' b k = I a k) ∧ rm_Fr b I I') → Q none n sh I' R) : mv_E l D b0 m6_copies (mv_rm 0) Q 0 [.ref a, .ref b, .null] [] 0 0 n sh I R := by
  have loop : ∀ (f k : Nat) (J : mv_I), k + f = 326 → (∀ j, j < k → J b j = I a j) → rm_Fr b I J → mv_E l D b0 m6_copies (mv_rm 0) Q 2 [.ref a, .ref b, .int (nI k)] [] 0 0 n sh J R := by
    intro f
    induction f with
    | zero =>
      intro k J hk hj hf
      refine mv_iload_n (pc := 2) dX6_copies_2 rfl ?_
      refine mv_sipush (pc := 3) (v := 326) dX6_copies_3 (by decide) ?_
      refine mv_icmp_ge (pc := 6) (tgt := 21) dX6_copies_6 (by decide) (fun hc => ?_) (fun hc => ?_)
      · exact mv_vret (pc := 21) dX6_copies_21 rfl (by decide) (by decide) (hQ _ ⟨fun j hj2 => hj j (by omega), hf⟩)
      · exact absurd (nI_le (a := 326) (by omega) (by omega)) hc
    | succ f ih =>
      intro k J hk hj hf
      refine mv_iload_n (pc := 2) dX6_copies_2 rfl ?_
      refine mv_sipush (pc := 3) (v := 326) dX6_copies_3 (by decide) ?_
      refine mv_icmp_ge (pc := 6) (tgt := 21) dX6_copies_6 (by decide) (fun hc => ?_) (fun hc => ?_)
      · exact absurd hc (nI_ge (b := 326) (by omega) (by decide))
      · refine mv_aload_n (pc := 9) dX6_copies_9 rfl ?_
        refine mv_iload_n (pc := 10) dX6_copies_10 rfl ?_
        refine mv_aload_n (pc := 11) dX6_copies_11 rfl ?_
        refine mv_iload_n (pc := 12) dX6_copies_12 rfl ?_
        refine mv_ialdx (pc := 13) (x := I a k) (k := k) dX6_copies_13 ha rfl (by omega) (by rw [hf a hab]) ?_
        refine mv_iast (pc := 14) (k := k) dX6_copies_14 hb rfl (by omega) ?_
        refine mv_iinc (pc := 15) (v := nI (k + 1)) dX6_copies_15 (by decide) rfl (nI_1 k) ?_
        refine mv_goto (pc := 18) (tgt := 2) dX6_copies_18 (by decide) ?_
        refine ih (k + 1) _ (by omega) (fun j hj2 => ?_) hf.up
        by_cases q : j = k
        · subst q; rw [mv_upe]
        · simp only [mv_up, q, and_false, if_false]
          exact hj j (by omega)
  refine mv_iconst (pc := 0) (v := 0) dX6_copies_0 (by decide) ?_
  refine mv_istore_n (pc := 1) dX6_copies_1 (by decide) ?_
  exact loop 326 0 I (by omega) (fun j hj => by omega) rm_Fr.rf
theorem c6_copies {l : Launch} {D : va_G} {b0 n : Nat} {sh : mv_Sh} {I : mv_I} {R : mv_R} {a b : Nat} (ha : sh a = (7, 326)) (hb : sh b = (7, 326)) (hab : a ≠ b) : mv_C l D b0 m6_copies (mv_rm 0) [.ref a, .ref b] n sh I R (mv_Pv n sh R (fun I' => (∀ k, k < 326 → I' b k = I a k) ∧ rm_Fr b I I')) := mv_C.of 1 (by decide) (by simp [Value.category]) rfl (e6_copies ha hb hab (fun _ h => mv_Pv.mk h))
def xs_st (d : Int32) : xs_X := fun t k => if t < 8 then (if k = 1 ∨ k = 8 then -9 else if t = 0 ∧ k = 0 then 1 else if t = 0 ∧ k = 4 then (if d = 99 then 9999 else d) else 0) else 0
set_option maxHeartbeats 4000000 in
set_option maxRecDepth 100000 in
theorem e6_starts {l : Launch} {D : va_G} {b0 n : Nat} {sh : mv_Sh} {I : mv_I} {R : mv_R} {Q : mv_Q} {m a : Nat} (hm : ly_Mod sh R m) (ha : sh a = (7, 326)) (haa : a ≠ m + 11) (hQ : ∀ I', (rm_R I' a (xs_st (I (m + 11) 0)) ∧ rm_Fr a I I') → Q none n sh I' R) : mv_E l D b0 m6_starts (mv_rm 0) Q 0 [.ref m, .ref a, .null] [] 0 0 n sh I R := by
  have last : ∀ (v : Int32) (w : Int32) (J : mv_I), v = (if I (m + 11) 0 = 99 then 9999 else I (m + 11) 0) → (∀ j, j < 326 → J a j = if (∃ t, t < 8 ∧ (j = 18 * t + 1 ∨ j = 18 * t + 8)) then -9 else 0) → rm_Fr a I J → mv_E l D b0 m6_starts (mv_rm 0) Q 83 [.ref m, .ref a, .int w] [.int v, .int 4, .ref a] 0 0 n sh (mv_up J a 0 1) R := by
    intro v w J hv hj hf
    refine mv_iast (pc := 83) (k := 4) dX6_starts_83 ha (by decide) (by omega) ?_
    refine mv_vret (pc := 84) dX6_starts_84 rfl (by decide) (by decide) (hQ _ ⟨⟨fun t ht k hk => ?_, ⟨?_, ?_⟩, fun j hj6 c hc => ?_⟩, hf.up.up⟩)
    · by_cases h4 : 18 * t + k = 4
      · have : t = 0 ∧ k = 4 := by omega
        obtain ⟨rfl, rfl⟩ := this
        simp [mv_up, xs_st, hv]
      · by_cases h0 : 18 * t + k = 0
        · have : t = 0 ∧ k = 0 := by omega
          obtain ⟨rfl, rfl⟩ := this
          simp [mv_up, xs_st]
        · simp only [mv_up, h4, h0, and_false, if_false]
          rw [hj _ (by omega)]
          unfold xs_st
          rw [if_pos ht]
          by_cases q : k = 1 ∨ k = 8
          · rw [if_pos q, if_pos ⟨t, ht, by omega⟩]
          · rw [if_neg q, if_neg (by omega), if_neg (by omega), if_neg]
            rintro ⟨u, u1, u2⟩
            omega
    · simp only [mv_up, and_false, if_false, Nat.reduceEqDiff]
      rw [hj _ (by omega), if_neg (by rintro ⟨u, u1, u2⟩; omega)]
      rfl
    · simp only [mv_up, and_false, if_false, Nat.reduceEqDiff]
      rw [hj _ (by omega), if_neg (by rintro ⟨u, u1, u2⟩; omega)]
      rfl
    · have q4 : ¬ 146 + 3 * j + c = 4 := by omega
      have q0 : ¬ 146 + 3 * j + c = 0 := by omega
      simp only [mv_up, q4, q0, and_false, if_false]
      rw [hj _ (by omega), if_neg (by rintro ⟨u, u1, u2⟩; omega)]
      unfold xs_st
      rw [if_neg (by omega)]
  have l2 : ∀ (f t : Nat) (J : mv_I), t + f = 8 → (∀ j, j < 326 → J a j = if (∃ u, u < t ∧ (j = 18 * u + 1 ∨ j = 18 * u + 8)) then -9 else 0) → rm_Fr a I J → mv_E l D b0 m6_starts (mv_rm 0) Q 21 [.ref m, .ref a, .int (nI t)] [] 0 0 n sh J R := by
    intro f
    induction f with
    | zero =>
      intro t J ht hj hf
      have : t = 8 := by omega
      subst this
      have hd : J (m + 11) = I (m + 11) := hf _ (by omega)
      refine mv_iload_n (pc := 21) dX6_starts_21 rfl ?_
      refine mv_bipush (pc := 22) (v := 8) dX6_starts_22 (by decide) ?_
      refine mv_icmp_ge (pc := 24) (tgt := 54) dX6_starts_24 (by decide) (fun hc => ?_) (fun hc => ?_)
      · refine mv_aload_n (pc := 54) dX6_starts_54 rfl ?_
        refine mv_iconst (pc := 55) (v := 0) dX6_starts_55 (by decide) ?_
        refine mv_iconst (pc := 56) (v := 1) dX6_starts_56 (by decide) ?_
        refine mv_iast (pc := 57) (k := 0) dX6_starts_57 ha (by decide) (by omega) ?_
        refine mv_aload_n (pc := 58) dX6_starts_58 rfl ?_
        refine mv_iconst (pc := 59) (v := 4) dX6_starts_59 (by decide) ?_
        refine mv_aload_n (pc := 60) dX6_starts_60 rfl ?_
        refine mv_getR (pc := 61) (q := m + 11) dX6_starts_61 fl6_40 (fun _ _ => rfl) (congrArg Prod.fst hm.o) hm.f20 ?_
        refine mv_iconst (pc := 64) (v := 0) dX6_starts_64 (by decide) ?_
        refine mv_ialdx (pc := 65) (x := I (m + 11) 0) (k := 0) dX6_starts_65 hm.g20 (by decide) (by omega) (by rw [mv_upN _ (by omega), hd]) ?_
        refine mv_bipush (pc := 66) (v := 99) dX6_starts_66 (by decide) ?_
        refine mv_icmp_ne (pc := 68) (tgt := 77) dX6_starts_68 (by decide) (fun hb => ?_) (fun hb => ?_)
        · refine mv_aload_n (pc := 77) dX6_starts_77 rfl ?_
          refine mv_getR (pc := 78) (q := m + 11) dX6_starts_78 fl6_40 (fun _ _ => rfl) (congrArg Prod.fst hm.o) hm.f20 ?_
          refine mv_iconst (pc := 81) (v := 0) dX6_starts_81 (by decide) ?_
          refine mv_ialdx (pc := 82) (x := I (m + 11) 0) (k := 0) dX6_starts_82 hm.g20 (by decide) (by omega) (by rw [mv_upN _ (by omega), hd]) ?_
          exact last _ _ J (by rw [if_neg hb]) hj hf
        · refine mv_sipush (pc := 71) (v := 9999) dX6_starts_71 (by decide) ?_
          refine mv_goto (pc := 74) (tgt := 83) dX6_starts_74 (by decide) ?_
          exact last _ _ J (by rw [if_pos hb]) hj hf
      · exact absurd (by decide) hc
    | succ f ih =>
      intro t J ht hj hf
      refine mv_iload_n (pc := 21) dX6_starts_21 rfl ?_
      refine mv_bipush (pc := 22) (v := 8) dX6_starts_22 (by decide) ?_
      refine mv_icmp_ge (pc := 24) (tgt := 54) dX6_starts_24 (by decide) (fun hc => ?_) (fun hc => ?_)
      · exact absurd hc (nI_ge (b := 8) (by omega) (by decide))
      · refine mv_aload_n (pc := 27) dX6_starts_27 rfl ?_
        refine mv_bipush (pc := 28) (v := 18) dX6_starts_28 (by decide) ?_
        refine mv_iload_n (pc := 30) dX6_starts_30 rfl ?_
        refine mv_imul (pc := 31) dX6_starts_31 ?_
        refine mv_iconst (pc := 32) (v := 1) dX6_starts_32 (by decide) ?_
        refine mv_iadd (pc := 33) dX6_starts_33 ?_
        refine mv_bipush (pc := 34) (v := -9) dX6_starts_34 (by decide) ?_
        refine mv_iast (pc := 36) (k := 18 * t + 1) dX6_starts_36 ha (mv_jx 18 t 1) (by omega) ?_
        refine mv_aload_n (pc := 37) dX6_starts_37 rfl ?_
        refine mv_bipush (pc := 38) (v := 18) dX6_starts_38 (by decide) ?_
        refine mv_iload_n (pc := 40) dX6_starts_40 rfl ?_
        refine mv_imul (pc := 41) dX6_starts_41 ?_
        refine mv_bipush (pc := 42) (v := 8) dX6_starts_42 (by decide) ?_
        refine mv_iadd (pc := 44) dX6_starts_44 ?_
        refine mv_bipush (pc := 45) (v := -9) dX6_starts_45 (by decide) ?_
        refine mv_iast (pc := 47) (k := 18 * t + 8) dX6_starts_47 ha (mv_jx 18 t 8) (by omega) ?_
        refine mv_iinc (pc := 48) (v := nI (t + 1)) dX6_starts_48 (by decide) rfl (nI_1 t) ?_
        refine mv_goto (pc := 51) (tgt := 21) dX6_starts_51 (by decide) ?_
        refine ih (t + 1) _ (by omega) (fun j hj3 => ?_) hf.up.up
        by_cases q8 : j = 18 * t + 8
        · subst q8; rw [mv_upe, if_pos ⟨t, by omega, by omega⟩]
        · by_cases q1 : j = 18 * t + 1
          · subst q1
            have : ¬ 18 * t + 1 = 18 * t + 8 := by omega
            simp only [mv_up, this, and_false, if_false, and_self, if_true]
            rw [if_pos ⟨t, by omega, by omega⟩]
          · simp only [mv_up, q8, q1, and_false, if_false]
            rw [hj j hj3]
            have : (∃ u, u < t ∧ (j = 18 * u + 1 ∨ j = 18 * u + 8)) ↔ (∃ u, u < t + 1 ∧ (j = 18 * u + 1 ∨ j = 18 * u + 8)) := by
              constructor
              · rintro ⟨u, u1, u2⟩; exact ⟨u, by omega, u2⟩
              · rintro ⟨u, u1, u2⟩
                refine ⟨u, ?_, u2⟩
                have : u ≠ t := fun e => by subst e; omega
                omega
            simp only [this]
  have l1 : ∀ (f k : Nat) (J : mv_I), k + f = 326 → (∀ j, j < k → J a j = 0) → rm_Fr a I J → mv_E l D b0 m6_starts (mv_rm 0) Q 2 [.ref m, .ref a, .int (nI k)] [] 0 0 n sh J R := by
    intro f
    induction f with
    | zero =>
      intro k J hk hj hf
      refine mv_iload_n (pc := 2) dX6_starts_2 rfl ?_
      refine mv_sipush (pc := 3) (v := 326) dX6_starts_3 (by decide) ?_
      refine mv_icmp_ge (pc := 6) (tgt := 19) dX6_starts_6 (by decide) (fun hc => ?_) (fun hc => ?_)
      · refine mv_iconst (pc := 19) (v := 0) dX6_starts_19 (by decide) ?_
        refine mv_istore_n (pc := 20) dX6_starts_20 (by decide) ?_
        refine l2 8 0 J (by omega) (fun j hj3 => ?_) hf
        rw [hj j (by omega), if_neg]
        rintro ⟨u, u1, -⟩
        omega
      · exact absurd (nI_le (a := 326) (by omega) (by omega)) hc
    | succ f ih =>
      intro k J hk hj hf
      refine mv_iload_n (pc := 2) dX6_starts_2 rfl ?_
      refine mv_sipush (pc := 3) (v := 326) dX6_starts_3 (by decide) ?_
      refine mv_icmp_ge (pc := 6) (tgt := 19) dX6_starts_6 (by decide) (fun hc => ?_) (fun hc => ?_)
      · exact absurd hc (nI_ge (b := 326) (by omega) (by decide))
      · refine mv_aload_n (pc := 9) dX6_starts_9 rfl ?_
        refine mv_iload_n (pc := 10) dX6_starts_10 rfl ?_
        refine mv_iconst (pc := 11) (v := 0) dX6_starts_11 (by decide) ?_
        refine mv_iast (pc := 12) (k := k) dX6_starts_12 ha rfl (by omega) ?_
        refine mv_iinc (pc := 13) (v := nI (k + 1)) dX6_starts_13 (by decide) rfl (nI_1 k) ?_
        refine mv_goto (pc := 16) (tgt := 2) dX6_starts_16 (by decide) ?_
        refine ih (k + 1) _ (by omega) (fun j hj2 => ?_) hf.up
        by_cases q : j = k
        · subst q; rw [mv_upe]
        · simp only [mv_up, q, and_false, if_false]
          exact hj j (by omega)
  refine mv_iconst (pc := 0) (v := 0) dX6_starts_0 (by decide) ?_
  refine mv_istore_n (pc := 1) dX6_starts_1 (by decide) ?_
  exact l1 326 0 I (by omega) (fun j hj => by omega) rm_Fr.rf
theorem c6_starts {l : Launch} {D : va_G} {b0 n : Nat} {sh : mv_Sh} {I : mv_I} {R : mv_R} {m a : Nat} (hm : ly_Mod sh R m) (ha : sh a = (7, 326)) (haa : a ≠ m + 11) : mv_C l D b0 m6_starts (mv_rm 0) [.ref m, .ref a] n sh I R (mv_Pv n sh R (fun I' => rm_R I' a (xs_st (I (m + 11) 0)) ∧ rm_Fr a I I')) := mv_C.of 1 (by decide) (by simp [Value.category]) rfl (e6_starts hm ha haa (fun _ h => mv_Pv.mk h))
end
