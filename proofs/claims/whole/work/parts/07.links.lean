abbrev m0_init : mv_M := (yX0_init, cX0_init, 3, none)
abbrev m0_remember : mv_M := (yX0_remember, cX0_remember, 2, none)
abbrev m0_restore : mv_M := (yX0_restore, cX0_restore, 2, some .boolean)
abbrev m1_init : mv_M := (yX1_init, cX1_init, 1, none)
abbrev m1_tellAnew : mv_M := (yX1_tellAnew, cX1_tellAnew, 1, none)
abbrev m1_addTask : mv_M := (yX1_addTask, cX1_addTask, 3, some .int)
abbrev m1_addOperation : mv_M := (yX1_addOperation, cX1_addOperation, 5, some .boolean)
abbrev m1_copyFrom : mv_M := (yX1_copyFrom, cX1_copyFrom, 2, none)
abbrev m2_init : mv_M := (yX2_init, cX2_init, 3, none)
abbrev m2_readAll : mv_M := (yX2_readAll, cX2_readAll, 2, some .boolean)
abbrev m2_readItem : mv_M := (yX2_readItem, cX2_readItem, 1, some .boolean)
abbrev m2_readRoot : mv_M := (yX2_readRoot, cX2_readRoot, 1, some .boolean)
abbrev m2_readTask : mv_M := (yX2_readTask, cX2_readTask, 2, some .boolean)
abbrev m2_readSetting : mv_M := (yX2_readSetting, cX2_readSetting, 5, some .boolean)
abbrev m2_readGathers : mv_M := (yX2_readGathers, cX2_readGathers, 1, some .boolean)
abbrev m2_readOperations : mv_M := (yX2_readOperations, cX2_readOperations, 3, some .boolean)
abbrev m2_readOperation : mv_M := (yX2_readOperation, cX2_readOperation, 4, some .boolean)
abbrev m2_readEnd : mv_M := (yX2_readEnd, cX2_readEnd, 1, some .boolean)
abbrev m2_isTaskTold : mv_M := (yX2_isTaskTold, cX2_isTaskTold, 1, some .boolean)
abbrev m3_init : mv_M := (yX3_init, cX3_init, 2, none)
abbrev m3_restart : mv_M := (yX3_restart, cX3_restart, 3, none)
abbrev m3_copyFrom : mv_M := (yX3_copyFrom, cX3_copyFrom, 2, none)
abbrev m3_passUntilEnded : mv_M := (yX3_passUntilEnded, cX3_passUntilEnded, 4, some .boolean)
abbrev m3_hadEndedBy : mv_M := (yX3_hadEndedBy, cX3_hadEndedBy, 3, some .boolean)
abbrev m3_countThatAre : mv_M := (yX3_countThatAre, cX3_countThatAre, 4, some .int)
abbrev m3_activeChildren : mv_M := (yX3_activeChildren, cX3_activeChildren, 4, some .int)
abbrev m3_passTick : mv_M := (yX3_passTick, cX3_passTick, 2, none)
abbrev m3_goOn : mv_M := (yX3_goOn, cX3_goOn, 3, none)
abbrev m3_operate : mv_M := (yX3_operate, cX3_operate, 4, none)
abbrev m3_work : mv_M := (yX3_work, cX3_work, 3, none)
abbrev m3_beginChild : mv_M := (yX3_beginChild, cX3_beginChild, 3, none)
abbrev m3_start : mv_M := (yX3_start, cX3_start, 3, none)
abbrev m3_askChildren : mv_M := (yX3_askChildren, cX3_askChildren, 3, none)
abbrev m3_close : mv_M := (yX3_close, cX3_close, 3, none)
abbrev m3_cleansUp : mv_M := (yX3_cleansUp, cX3_cleansUp, 2, some .boolean)
abbrev m3_end : mv_M := (yX3_end, cX3_end, 3, none)
abbrev m3_giveList : mv_M := (yX3_giveList, cX3_giveList, 4, none)
abbrev m3_takeFailure : mv_M := (yX3_takeFailure, cX3_takeFailure, 2, none)
abbrev m3_addCode : mv_M := (yX3_addCode, cX3_addCode, 3, none)
abbrev m3_note : mv_M := (yX3_note, cX3_note, 3, none)
abbrev m4_init : mv_M := (yX4_init, cX4_init, 1, none)
abbrev m4_append : mv_M := (yX4_append, cX4_append, 2, some .boolean)
abbrev m4_goToFirst : mv_M := (yX4_goToFirst, cX4_goToFirst, 1, none)
abbrev m4_advance : mv_M := (yX4_advance, cX4_advance, 2, none)
abbrev m4_isNumberWithin : mv_M := (yX4_isNumberWithin, cX4_isNumberWithin, 3, some .boolean)
abbrev m5_init : mv_M := (yX5_init, cX5_init, 2, none)
abbrev m5_type : mv_M := (yX5_type, cX5_type, 2, some .int)
abbrev m5_clear : mv_M := (yX5_clear, cX5_clear, 2, some .int)
abbrev m5_tree : mv_M := (yX5_tree, cX5_tree, 2, some .int)
abbrev m5_ticks : mv_M := (yX5_ticks, cX5_ticks, 3, some .int)
abbrev m5_asks : mv_M := (yX5_asks, cX5_asks, 2, some .int)
abbrev m5_undo : mv_M := (yX5_undo, cX5_undo, 1, some .int)
abbrev m5_task : mv_M := (yX5_task, cX5_task, 3, some .int)
abbrev m5_failure : mv_M := (yX5_failure, cX5_failure, 3, some .int)
abbrev m5_trace : mv_M := (yX5_trace, cX5_trace, 3, some .int)
abbrev m5_ends : mv_M := (yX5_ends, cX5_ends, 3, some .int)
abbrev m5_wellBy : mv_M := (yX5_wellBy, cX5_wellBy, 2, some .int)
abbrev m5_spares : mv_M := (yX5_spares, cX5_spares, 3, some .int)
abbrev m5_sees : mv_M := (yX5_sees, cX5_sees, 4, some .int)
abbrev m5_forget : mv_M := (yX5_forget, cX5_forget, 2, some .int)
abbrev m5_fits : mv_M := (yX5_fits, cX5_fits, 5, some .int)
abbrev m5_keep : mv_M := (yX5_keep, cX5_keep, 2, some .int)
abbrev m5_back : mv_M := (yX5_back, cX5_back, 2, some .int)
abbrev m5_count : mv_M := (yX5_count, cX5_count, 2, some .int)
abbrev m5_isTask : mv_M := (yX5_isTask, cX5_isTask, 2, some .boolean)
abbrev m5_suppose : mv_M := (yX5_suppose, cX5_suppose, 3, none)
abbrev m5_longestSeen : mv_M := (yX5_longestSeen, cX5_longestSeen, 3, some .int)
abbrev m5_agreesWithSeen : mv_M := (yX5_agreesWithSeen, cX5_agreesWithSeen, 3, some .boolean)
abbrev m6_init : mv_M := (yX6_init, cX6_init, 1, none)
abbrev m6_in : mv_M := (yX6_in, cX6_in, 3, some .boolean)
abbrev m6_type : mv_M := (yX6_type, cX6_type, 2, some .int)
abbrev m6_clear : mv_M := (yX6_clear, cX6_clear, 2, some .int)
abbrev m6_isFigure : mv_M := (yX6_isFigure, cX6_isFigure, 1, some .boolean)
abbrev m6_blanks : mv_M := (yX6_blanks, cX6_blanks, 1, none)
abbrev m6_isToken : mv_M := (yX6_isToken, cX6_isToken, 1, some .boolean)
abbrev m6_next : mv_M := (yX6_next, cX6_next, 1, none)
abbrev m6_fails : mv_M := (yX6_fails, cX6_fails, 1, some .boolean)
abbrev m6_number : mv_M := (yX6_number, cX6_number, 3, some .boolean)
abbrev m6_ends : mv_M := (yX6_ends, cX6_ends, 1, some .boolean)
abbrev m6_begins : mv_M := (yX6_begins, cX6_begins, 2, none)
abbrev m6_readsProgram : mv_M := (yX6_readsProgram, cX6_readsProgram, 5, some .boolean)
abbrev m6_readsTask : mv_M := (yX6_readsTask, cX6_readsTask, 1, some .boolean)
abbrev m6_readsOf : mv_M := (yX6_readsOf, cX6_readsOf, 3, some .boolean)
abbrev m6_readsItem : mv_M := (yX6_readsItem, cX6_readsItem, 2, some .boolean)
abbrev m6_tellsAll : mv_M := (yX6_tellsAll, cX6_tellsAll, 3, none)
abbrev m6_tree : mv_M := (yX6_tree, cX6_tree, 2, some .int)
abbrev m6_copies : mv_M := (yX6_copies, cX6_copies, 3, none)
abbrev m6_starts : mv_M := (yX6_starts, cX6_starts, 3, none)
abbrev m6_at : mv_M := (yX6_at, cX6_at, 3, some .int)
abbrev m6_isHow : mv_M := (yX6_isHow, cX6_isHow, 3, some .boolean)
abbrev m6_traces : mv_M := (yX6_traces, cX6_traces, 4, none)
abbrev m6_codes : mv_M := (yX6_codes, cX6_codes, 3, none)
abbrev m6_asksChildren : mv_M := (yX6_asksChildren, cX6_asksChildren, 4, none)
abbrev m6_closes : mv_M := (yX6_closes, cX6_closes, 5, none)
abbrev m6_begin : mv_M := (yX6_begin, cX6_begin, 5, none)
abbrev m6_beginsChild : mv_M := (yX6_beginsChild, cX6_beginsChild, 4, none)
abbrev m6_isBusy : mv_M := (yX6_isBusy, cX6_isBusy, 5, some .boolean)
abbrev m6_works : mv_M := (yX6_works, cX6_works, 5, none)
abbrev m6_moves : mv_M := (yX6_moves, cX6_moves, 3, none)
abbrev m6_gives : mv_M := (yX6_gives, cX6_gives, 5, none)
abbrev m6_cleansUp : mv_M := (yX6_cleansUp, cX6_cleansUp, 4, none)
abbrev m6_tick : mv_M := (yX6_tick, cX6_tick, 3, none)
abbrev m6_isTask : mv_M := (yX6_isTask, cX6_isTask, 2, some .boolean)
abbrev m6_remember : mv_M := (yX6_remember, cX6_remember, 2, none)
abbrev m6_ticks : mv_M := (yX6_ticks, cX6_ticks, 3, some .int)
abbrev m6_asks : mv_M := (yX6_asks, cX6_asks, 2, some .int)
abbrev m6_undo : mv_M := (yX6_undo, cX6_undo, 2, some .int)
abbrev m6_busySet : mv_M := (yX6_busySet, cX6_busySet, 4, some .int)
abbrev m6_task : mv_M := (yX6_task, cX6_task, 3, some .int)
abbrev m6_failure : mv_M := (yX6_failure, cX6_failure, 3, some .int)
abbrev m6_trace : mv_M := (yX6_trace, cX6_trace, 3, some .int)
abbrev m6_goesOn : mv_M := (yX6_goesOn, cX6_goesOn, 3, none)
abbrev m6_ends_ : mv_M := (yX6_ends_, cX6_ends_, 3, some .int)
abbrev m6_wellBy : mv_M := (yX6_wellBy, cX6_wellBy, 4, some .int)
abbrev m6_spares : mv_M := (yX6_spares, cX6_spares, 3, some .int)
abbrev m6_sees : mv_M := (yX6_sees, cX6_sees, 4, some .int)
abbrev m6_forget : mv_M := (yX6_forget, cX6_forget, 2, some .int)
abbrev m6_fits : mv_M := (yX6_fits, cX6_fits, 8, some .int)
abbrev m6_keep : mv_M := (yX6_keep, cX6_keep, 3, some .int)
abbrev m6_back : mv_M := (yX6_back, cX6_back, 3, some .int)
abbrev m6_howMany : mv_M := (yX6_howMany, cX6_howMany, 4, some .int)
abbrev m6_count : mv_M := (yX6_count, cX6_count, 2, some .int)
set_option maxRecDepth 20000 in
theorem wc0_init : Cond.code m0_init.1 m0_init.2.1 m0_init.2.2.1 m0_init.2.2.2 ∈ mv_W := (mv_inW (List.mem_of_getElem? (i := 265) (by decide +kernel)) (by decide +kernel))
set_option maxRecDepth 20000 in
theorem wc0_remember : Cond.code m0_remember.1 m0_remember.2.1 m0_remember.2.2.1 m0_remember.2.2.2 ∈ mv_W := (mv_inW (List.mem_of_getElem? (i := 416) (by decide +kernel)) (by decide +kernel))
set_option maxRecDepth 20000 in
theorem wc0_restore : Cond.code m0_restore.1 m0_restore.2.1 m0_restore.2.2.1 m0_restore.2.2.2 ∈ mv_W := (mv_inW (List.mem_of_getElem? (i := 494) (by decide +kernel)) (by decide +kernel))
set_option maxRecDepth 20000 in
theorem wc1_init : Cond.code m1_init.1 m1_init.2.1 m1_init.2.2.1 m1_init.2.2.2 ∈ mv_W := (mv_inW (List.mem_of_getElem? (i := 106) (by decide +kernel)) (by decide +kernel))
set_option maxRecDepth 20000 in
theorem wc1_tellAnew : Cond.code m1_tellAnew.1 m1_tellAnew.2.1 m1_tellAnew.2.2.1 m1_tellAnew.2.2.2 ∈ mv_W := (mv_inW (List.mem_of_getElem? (i := 111) (by decide +kernel)) (by decide +kernel))
set_option maxRecDepth 20000 in
theorem wc1_addTask : Cond.code m1_addTask.1 m1_addTask.2.1 m1_addTask.2.2.1 m1_addTask.2.2.2 ∈ mv_W := (mv_inW (List.mem_of_getElem? (i := 115) (by decide +kernel)) (by decide +kernel))
set_option maxRecDepth 20000 in
theorem wc1_addOperation : Cond.code m1_addOperation.1 m1_addOperation.2.1 m1_addOperation.2.2.1 m1_addOperation.2.2.2 ∈ mv_W := (mv_inW (List.mem_of_getElem? (i := 379) (by decide +kernel)) (by decide +kernel))
set_option maxRecDepth 20000 in
theorem wc1_copyFrom : Cond.code m1_copyFrom.1 m1_copyFrom.2.1 m1_copyFrom.2.2.1 m1_copyFrom.2.2.2 ∈ mv_W := (mv_inW (List.mem_of_getElem? (i := 404) (by decide +kernel)) (by decide +kernel))
set_option maxRecDepth 20000 in
theorem wc2_init : Cond.code m2_init.1 m2_init.2.1 m2_init.2.2.1 m2_init.2.2.2 ∈ mv_W := (mv_inW (List.mem_of_getElem? (i := 165) (by decide +kernel)) (by decide +kernel))
set_option maxRecDepth 20000 in
theorem wc2_readAll : Cond.code m2_readAll.1 m2_readAll.2.1 m2_readAll.2.2.1 m2_readAll.2.2.2 ∈ mv_W := (mv_inW (List.mem_of_getElem? (i := 344) (by decide +kernel)) (by decide +kernel))
set_option maxRecDepth 20000 in
theorem wc2_readItem : Cond.code m2_readItem.1 m2_readItem.2.1 m2_readItem.2.2.1 m2_readItem.2.2.2 ∈ mv_W := (mv_inW (List.mem_of_getElem? (i := 358) (by decide +kernel)) (by decide +kernel))
set_option maxRecDepth 20000 in
theorem wc2_readRoot : Cond.code m2_readRoot.1 m2_readRoot.2.1 m2_readRoot.2.2.1 m2_readRoot.2.2.2 ∈ mv_W := (mv_inW (List.mem_of_getElem? (i := 362) (by decide +kernel)) (by decide +kernel))
set_option maxRecDepth 20000 in
theorem wc2_readTask : Cond.code m2_readTask.1 m2_readTask.2.1 m2_readTask.2.2.1 m2_readTask.2.2.2 ∈ mv_W := (mv_inW (List.mem_of_getElem? (i := 387) (by decide +kernel)) (by decide +kernel))
set_option maxRecDepth 20000 in
theorem wc2_readSetting : Cond.code m2_readSetting.1 m2_readSetting.2.1 m2_readSetting.2.2.1 m2_readSetting.2.2.2 ∈ mv_W := (mv_inW (List.mem_of_getElem? (i := 396) (by decide +kernel)) (by decide +kernel))
set_option maxRecDepth 20000 in
theorem wc2_readGathers : Cond.code m2_readGathers.1 m2_readGathers.2.1 m2_readGathers.2.2.1 m2_readGathers.2.2.2 ∈ mv_W := (mv_inW (List.mem_of_getElem? (i := 400) (by decide +kernel)) (by decide +kernel))
set_option maxRecDepth 20000 in
theorem wc2_readOperations : Cond.code m2_readOperations.1 m2_readOperations.2.1 m2_readOperations.2.2.1 m2_readOperations.2.2.2 ∈ mv_W := (mv_inW (List.mem_of_getElem? (i := 367) (by decide +kernel)) (by decide +kernel))
set_option maxRecDepth 20000 in
theorem wc2_readOperation : Cond.code m2_readOperation.1 m2_readOperation.2.1 m2_readOperation.2.2.1 m2_readOperation.2.2.2 ∈ mv_W := (mv_inW (List.mem_of_getElem? (i := 371) (by decide +kernel)) (by decide +kernel))
set_option maxRecDepth 20000 in
theorem wc2_readEnd : Cond.code m2_readEnd.1 m2_readEnd.2.1 m2_readEnd.2.2.1 m2_readEnd.2.2.2 ∈ mv_W := (mv_inW (List.mem_of_getElem? (i := 383) (by decide +kernel)) (by decide +kernel))
set_option maxRecDepth 20000 in
theorem wc2_isTaskTold : Cond.code m2_isTaskTold.1 m2_isTaskTold.2.1 m2_isTaskTold.2.2.1 m2_isTaskTold.2.2.2 ∈ mv_W := (mv_inW (List.mem_of_getElem? (i := 391) (by decide +kernel)) (by decide +kernel))
set_option maxRecDepth 20000 in
theorem wc3_init : Cond.code m3_init.1 m3_init.2.1 m3_init.2.2.1 m3_init.2.2.2 ∈ mv_W := (mv_inW (List.mem_of_getElem? (i := 182) (by decide +kernel)) (by decide +kernel))
set_option maxRecDepth 20000 in
theorem wc3_restart : Cond.code m3_restart.1 m3_restart.2.1 m3_restart.2.2.1 m3_restart.2.2.2 ∈ mv_W := (mv_inW (List.mem_of_getElem? (i := 187) (by decide +kernel)) (by decide +kernel))
set_option maxRecDepth 20000 in
theorem wc3_copyFrom : Cond.code m3_copyFrom.1 m3_copyFrom.2.1 m3_copyFrom.2.2.1 m3_copyFrom.2.2.2 ∈ mv_W := (mv_inW (List.mem_of_getElem? (i := 420) (by decide +kernel)) (by decide +kernel))
set_option maxRecDepth 20000 in
theorem wc3_passUntilEnded : Cond.code m3_passUntilEnded.1 m3_passUntilEnded.2.1 m3_passUntilEnded.2.2.1 m3_passUntilEnded.2.2.2 ∈ mv_W := (mv_inW (List.mem_of_getElem? (i := 517) (by decide +kernel)) (by decide +kernel))
set_option maxRecDepth 20000 in
theorem wc3_hadEndedBy : Cond.code m3_hadEndedBy.1 m3_hadEndedBy.2.1 m3_hadEndedBy.2.2.1 m3_hadEndedBy.2.2.2 ∈ mv_W := (mv_inW (List.mem_of_getElem? (i := 558) (by decide +kernel)) (by decide +kernel))
set_option maxRecDepth 20000 in
theorem wc3_countThatAre : Cond.code m3_countThatAre.1 m3_countThatAre.2.1 m3_countThatAre.2.2.1 m3_countThatAre.2.2.2 ∈ mv_W := (mv_inW (List.mem_of_getElem? (i := 574) (by decide +kernel)) (by decide +kernel))
set_option maxRecDepth 20000 in
theorem wc3_activeChildren : Cond.code m3_activeChildren.1 m3_activeChildren.2.1 m3_activeChildren.2.2.1 m3_activeChildren.2.2.2 ∈ mv_W := (mv_inW (List.mem_of_getElem? (i := 462) (by decide +kernel)) (by decide +kernel))
set_option maxRecDepth 20000 in
theorem wc3_passTick : Cond.code m3_passTick.1 m3_passTick.2.1 m3_passTick.2.2.1 m3_passTick.2.2.2 ∈ mv_W := (mv_inW (List.mem_of_getElem? (i := 426) (by decide +kernel)) (by decide +kernel))
set_option maxRecDepth 20000 in
theorem wc3_goOn : Cond.code m3_goOn.1 m3_goOn.2.1 m3_goOn.2.2.1 m3_goOn.2.2.2 ∈ mv_W := (mv_inW (List.mem_of_getElem? (i := 446) (by decide +kernel)) (by decide +kernel))
set_option maxRecDepth 20000 in
theorem wc3_operate : Cond.code m3_operate.1 m3_operate.2.1 m3_operate.2.2.1 m3_operate.2.2.2 ∈ mv_W := (mv_inW (List.mem_of_getElem? (i := 450) (by decide +kernel)) (by decide +kernel))
set_option maxRecDepth 20000 in
theorem wc3_work : Cond.code m3_work.1 m3_work.2.1 m3_work.2.2.1 m3_work.2.2.2 ∈ mv_W := (mv_inW (List.mem_of_getElem? (i := 454) (by decide +kernel)) (by decide +kernel))
set_option maxRecDepth 20000 in
theorem wc3_beginChild : Cond.code m3_beginChild.1 m3_beginChild.2.1 m3_beginChild.2.2.1 m3_beginChild.2.2.2 ∈ mv_W := (mv_inW (List.mem_of_getElem? (i := 458) (by decide +kernel)) (by decide +kernel))
set_option maxRecDepth 20000 in
theorem wc3_start : Cond.code m3_start.1 m3_start.2.1 m3_start.2.2.1 m3_start.2.2.2 ∈ mv_W := (mv_inW (List.mem_of_getElem? (i := 192) (by decide +kernel)) (by decide +kernel))
set_option maxRecDepth 20000 in
theorem wc3_askChildren : Cond.code m3_askChildren.1 m3_askChildren.2.1 m3_askChildren.2.2.1 m3_askChildren.2.2.2 ∈ mv_W := (mv_inW (List.mem_of_getElem? (i := 442) (by decide +kernel)) (by decide +kernel))
set_option maxRecDepth 20000 in
theorem wc3_close : Cond.code m3_close.1 m3_close.2.1 m3_close.2.2.1 m3_close.2.2.2 ∈ mv_W := (mv_inW (List.mem_of_getElem? (i := 434) (by decide +kernel)) (by decide +kernel))
set_option maxRecDepth 20000 in
theorem wc3_cleansUp : Cond.code m3_cleansUp.1 m3_cleansUp.2.1 m3_cleansUp.2.2.1 m3_cleansUp.2.2.2 ∈ mv_W := (mv_inW (List.mem_of_getElem? (i := 466) (by decide +kernel)) (by decide +kernel))
set_option maxRecDepth 20000 in
theorem wc3_end : Cond.code m3_end.1 m3_end.2.1 m3_end.2.2.1 m3_end.2.2.2 ∈ mv_W := (mv_inW (List.mem_of_getElem? (i := 470) (by decide +kernel)) (by decide +kernel))
set_option maxRecDepth 20000 in
theorem wc3_giveList : Cond.code m3_giveList.1 m3_giveList.2.1 m3_giveList.2.2.1 m3_giveList.2.2.2 ∈ mv_W := (mv_inW (List.mem_of_getElem? (i := 474) (by decide +kernel)) (by decide +kernel))
set_option maxRecDepth 20000 in
theorem wc3_takeFailure : Cond.code m3_takeFailure.1 m3_takeFailure.2.1 m3_takeFailure.2.2.1 m3_takeFailure.2.2.2 ∈ mv_W := (mv_inW (List.mem_of_getElem? (i := 478) (by decide +kernel)) (by decide +kernel))
set_option maxRecDepth 20000 in
theorem wc3_addCode : Cond.code m3_addCode.1 m3_addCode.2.1 m3_addCode.2.2.1 m3_addCode.2.2.2 ∈ mv_W := (mv_inW (List.mem_of_getElem? (i := 430) (by decide +kernel)) (by decide +kernel))
set_option maxRecDepth 20000 in
theorem wc3_note : Cond.code m3_note.1 m3_note.2.1 m3_note.2.2.1 m3_note.2.2.2 ∈ mv_W := (mv_inW (List.mem_of_getElem? (i := 438) (by decide +kernel)) (by decide +kernel))
set_option maxRecDepth 20000 in
theorem wc4_init : Cond.code m4_init.1 m4_init.2.1 m4_init.2.2.1 m4_init.2.2.2 ∈ mv_W := (mv_inW (List.mem_of_getElem? (i := 76) (by decide +kernel)) (by decide +kernel))
set_option maxRecDepth 20000 in
theorem wc4_append : Cond.code m4_append.1 m4_append.2.1 m4_append.2.2.1 m4_append.2.2.2 ∈ mv_W := (mv_inW (List.mem_of_getElem? (i := 332) (by decide +kernel)) (by decide +kernel))
set_option maxRecDepth 20000 in
theorem wc4_goToFirst : Cond.code m4_goToFirst.1 m4_goToFirst.2.1 m4_goToFirst.2.2.1 m4_goToFirst.2.2.2 ∈ mv_W := (mv_inW (List.mem_of_getElem? (i := 349) (by decide +kernel)) (by decide +kernel))
set_option maxRecDepth 20000 in
theorem wc4_advance : Cond.code m4_advance.1 m4_advance.2.1 m4_advance.2.2.1 m4_advance.2.2.2 ∈ mv_W := (mv_inW (List.mem_of_getElem? (i := 353) (by decide +kernel)) (by decide +kernel))
set_option maxRecDepth 20000 in
theorem wc4_isNumberWithin : Cond.code m4_isNumberWithin.1 m4_isNumberWithin.2.1 m4_isNumberWithin.2.2.1 m4_isNumberWithin.2.2.2 ∈ mv_W := (mv_inW (List.mem_of_getElem? (i := 375) (by decide +kernel)) (by decide +kernel))
set_option maxRecDepth 20000 in
theorem wc5_init : Cond.code m5_init.1 m5_init.2.1 m5_init.2.2.1 m5_init.2.2.2 ∈ mv_W := (mv_inW (List.mem_of_getElem? (i := 68) (by decide +kernel)) (by decide +kernel))
set_option maxRecDepth 20000 in
theorem wc5_type : Cond.code m5_type.1 m5_type.2.1 m5_type.2.2.1 m5_type.2.2.2 ∈ mv_W := (mv_inW (List.mem_of_getElem? (i := 328) (by decide +kernel)) (by decide +kernel))
set_option maxRecDepth 20000 in
theorem wc5_clear : Cond.code m5_clear.1 m5_clear.2.1 m5_clear.2.2.1 m5_clear.2.2.2 ∈ mv_W := (mv_inW (List.mem_of_getElem? (i := 336) (by decide +kernel)) (by decide +kernel))
set_option maxRecDepth 20000 in
theorem wc5_tree : Cond.code m5_tree.1 m5_tree.2.1 m5_tree.2.2.1 m5_tree.2.2.2 ∈ mv_W := (mv_inW (List.mem_of_getElem? (i := 340) (by decide +kernel)) (by decide +kernel))
set_option maxRecDepth 20000 in
theorem wc5_ticks : Cond.code m5_ticks.1 m5_ticks.2.1 m5_ticks.2.2.1 m5_ticks.2.2.2 ∈ mv_W := (mv_inW (List.mem_of_getElem? (i := 412) (by decide +kernel)) (by decide +kernel))
set_option maxRecDepth 20000 in
theorem wc5_asks : Cond.code m5_asks.1 m5_asks.2.1 m5_asks.2.2.1 m5_asks.2.2.2 ∈ mv_W := (mv_inW (List.mem_of_getElem? (i := 482) (by decide +kernel)) (by decide +kernel))
set_option maxRecDepth 20000 in
theorem wc5_undo : Cond.code m5_undo.1 m5_undo.2.1 m5_undo.2.2.1 m5_undo.2.2.2 ∈ mv_W := (mv_inW (List.mem_of_getElem? (i := 490) (by decide +kernel)) (by decide +kernel))
set_option maxRecDepth 20000 in
theorem wc5_task : Cond.code m5_task.1 m5_task.2.1 m5_task.2.2.1 m5_task.2.2.2 ∈ mv_W := (mv_inW (List.mem_of_getElem? (i := 498) (by decide +kernel)) (by decide +kernel))
set_option maxRecDepth 20000 in
theorem wc5_failure : Cond.code m5_failure.1 m5_failure.2.1 m5_failure.2.2.1 m5_failure.2.2.2 ∈ mv_W := (mv_inW (List.mem_of_getElem? (i := 504) (by decide +kernel)) (by decide +kernel))
set_option maxRecDepth 20000 in
theorem wc5_trace : Cond.code m5_trace.1 m5_trace.2.1 m5_trace.2.2.1 m5_trace.2.2.2 ∈ mv_W := (mv_inW (List.mem_of_getElem? (i := 508) (by decide +kernel)) (by decide +kernel))
set_option maxRecDepth 20000 in
theorem wc5_ends : Cond.code m5_ends.1 m5_ends.2.1 m5_ends.2.2.1 m5_ends.2.2.2 ∈ mv_W := (mv_inW (List.mem_of_getElem? (i := 512) (by decide +kernel)) (by decide +kernel))
set_option maxRecDepth 20000 in
theorem wc5_wellBy : Cond.code m5_wellBy.1 m5_wellBy.2.1 m5_wellBy.2.2.1 m5_wellBy.2.2.2 ∈ mv_W := (mv_inW (List.mem_of_getElem? (i := 522) (by decide +kernel)) (by decide +kernel))
set_option maxRecDepth 20000 in
theorem wc5_spares : Cond.code m5_spares.1 m5_spares.2.1 m5_spares.2.2.1 m5_spares.2.2.2 ∈ mv_W := (mv_inW (List.mem_of_getElem? (i := 530) (by decide +kernel)) (by decide +kernel))
set_option maxRecDepth 20000 in
theorem wc5_sees : Cond.code m5_sees.1 m5_sees.2.1 m5_sees.2.2.1 m5_sees.2.2.2 ∈ mv_W := (mv_inW (List.mem_of_getElem? (i := 535) (by decide +kernel)) (by decide +kernel))
set_option maxRecDepth 20000 in
theorem wc5_forget : Cond.code m5_forget.1 m5_forget.2.1 m5_forget.2.2.1 m5_forget.2.2.2 ∈ mv_W := (mv_inW (List.mem_of_getElem? (i := 539) (by decide +kernel)) (by decide +kernel))
set_option maxRecDepth 20000 in
theorem wc5_fits : Cond.code m5_fits.1 m5_fits.2.1 m5_fits.2.2.1 m5_fits.2.2.2 ∈ mv_W := (mv_inW (List.mem_of_getElem? (i := 543) (by decide +kernel)) (by decide +kernel))
set_option maxRecDepth 20000 in
theorem wc5_keep : Cond.code m5_keep.1 m5_keep.2.1 m5_keep.2.2.1 m5_keep.2.2.2 ∈ mv_W := (mv_inW (List.mem_of_getElem? (i := 562) (by decide +kernel)) (by decide +kernel))
set_option maxRecDepth 20000 in
theorem wc5_back : Cond.code m5_back.1 m5_back.2.1 m5_back.2.2.1 m5_back.2.2.2 ∈ mv_W := (mv_inW (List.mem_of_getElem? (i := 566) (by decide +kernel)) (by decide +kernel))
set_option maxRecDepth 20000 in
theorem wc5_count : Cond.code m5_count.1 m5_count.2.1 m5_count.2.2.1 m5_count.2.2.2 ∈ mv_W := (mv_inW (List.mem_of_getElem? (i := 570) (by decide +kernel)) (by decide +kernel))
set_option maxRecDepth 20000 in
theorem wc5_isTask : Cond.code m5_isTask.1 m5_isTask.2.1 m5_isTask.2.2.1 m5_isTask.2.2.2 ∈ mv_W := (mv_inW (List.mem_of_getElem? (i := 486) (by decide +kernel)) (by decide +kernel))
set_option maxRecDepth 20000 in
theorem wc5_suppose : Cond.code m5_suppose.1 m5_suppose.2.1 m5_suppose.2.2.1 m5_suppose.2.2.2 ∈ mv_W := (mv_inW (List.mem_of_getElem? (i := 526) (by decide +kernel)) (by decide +kernel))
set_option maxRecDepth 20000 in
theorem wc5_longestSeen : Cond.code m5_longestSeen.1 m5_longestSeen.2.1 m5_longestSeen.2.2.1 m5_longestSeen.2.2.2 ∈ mv_W := (mv_inW (List.mem_of_getElem? (i := 547) (by decide +kernel)) (by decide +kernel))
set_option maxRecDepth 20000 in
theorem wc5_agreesWithSeen : Cond.code m5_agreesWithSeen.1 m5_agreesWithSeen.2.1 m5_agreesWithSeen.2.2.1 m5_agreesWithSeen.2.2.2 ∈ mv_W := (mv_inW (List.mem_of_getElem? (i := 554) (by decide +kernel)) (by decide +kernel))
set_option maxRecDepth 20000 in
theorem wc6_init : Cond.code m6_init.1 m6_init.2.1 m6_init.2.2.1 m6_init.2.2.2 ∈ mv_W := (mv_inW (List.mem_of_getElem? (i := 579) (by decide +kernel)) (by decide +kernel))
set_option maxRecDepth 20000 in
theorem wc6_in : Cond.code m6_in.1 m6_in.2.1 m6_in.2.2.1 m6_in.2.2.2 ∈ mv_W := (mv_inW (List.mem_of_getElem? (i := 702) (by decide +kernel)) (by decide +kernel))
set_option maxRecDepth 20000 in
theorem wc6_type : Cond.code m6_type.1 m6_type.2.1 m6_type.2.2.1 m6_type.2.2.2 ∈ mv_W := (mv_inW (List.mem_of_getElem? (i := 699) (by decide +kernel)) (by decide +kernel))
set_option maxRecDepth 20000 in
theorem wc6_clear : Cond.code m6_clear.1 m6_clear.2.1 m6_clear.2.2.1 m6_clear.2.2.2 ∈ mv_W := (mv_inW (List.mem_of_getElem? (i := 706) (by decide +kernel)) (by decide +kernel))
set_option maxRecDepth 20000 in
theorem wc6_isFigure : Cond.code m6_isFigure.1 m6_isFigure.2.1 m6_isFigure.2.2.1 m6_isFigure.2.2.2 ∈ mv_W := (mv_inW (List.mem_of_getElem? (i := 726) (by decide +kernel)) (by decide +kernel))
set_option maxRecDepth 20000 in
theorem wc6_blanks : Cond.code m6_blanks.1 m6_blanks.2.1 m6_blanks.2.2.1 m6_blanks.2.2.2 ∈ mv_W := (mv_inW (List.mem_of_getElem? (i := 714) (by decide +kernel)) (by decide +kernel))
set_option maxRecDepth 20000 in
theorem wc6_isToken : Cond.code m6_isToken.1 m6_isToken.2.1 m6_isToken.2.2.1 m6_isToken.2.2.2 ∈ mv_W := (mv_inW (List.mem_of_getElem? (i := 729) (by decide +kernel)) (by decide +kernel))
set_option maxRecDepth 20000 in
theorem wc6_next : Cond.code m6_next.1 m6_next.2.1 m6_next.2.2.1 m6_next.2.2.2 ∈ mv_W := (mv_inW (List.mem_of_getElem? (i := 722) (by decide +kernel)) (by decide +kernel))
set_option maxRecDepth 20000 in
theorem wc6_fails : Cond.code m6_fails.1 m6_fails.2.1 m6_fails.2.2.1 m6_fails.2.2.2 ∈ mv_W := (mv_inW (List.mem_of_getElem? (i := 733) (by decide +kernel)) (by decide +kernel))
set_option maxRecDepth 20000 in
theorem wc6_number : Cond.code m6_number.1 m6_number.2.1 m6_number.2.2.1 m6_number.2.2.2 ∈ mv_W := (mv_inW (List.mem_of_getElem? (i := 741) (by decide +kernel)) (by decide +kernel))
set_option maxRecDepth 20000 in
theorem wc6_ends : Cond.code m6_ends.1 m6_ends.2.1 m6_ends.2.2.1 m6_ends.2.2.2 ∈ mv_W := (mv_inW (List.mem_of_getElem? (i := 753) (by decide +kernel)) (by decide +kernel))
set_option maxRecDepth 20000 in
theorem wc6_begins : Cond.code m6_begins.1 m6_begins.2.1 m6_begins.2.2.1 m6_begins.2.2.2 ∈ mv_W := (mv_inW (List.mem_of_getElem? (i := 584) (by decide +kernel)) (by decide +kernel))
set_option maxRecDepth 20000 in
theorem wc6_readsProgram : Cond.code m6_readsProgram.1 m6_readsProgram.2.1 m6_readsProgram.2.2.1 m6_readsProgram.2.2.2 ∈ mv_W := (mv_inW (List.mem_of_getElem? (i := 737) (by decide +kernel)) (by decide +kernel))
set_option maxRecDepth 20000 in
theorem wc6_readsTask : Cond.code m6_readsTask.1 m6_readsTask.2.1 m6_readsTask.2.2.1 m6_readsTask.2.2.2 ∈ mv_W := (mv_inW (List.mem_of_getElem? (i := 745) (by decide +kernel)) (by decide +kernel))
set_option maxRecDepth 20000 in
theorem wc6_readsOf : Cond.code m6_readsOf.1 m6_readsOf.2.1 m6_readsOf.2.2.1 m6_readsOf.2.2.2 ∈ mv_W := (mv_inW (List.mem_of_getElem? (i := 749) (by decide +kernel)) (by decide +kernel))
set_option maxRecDepth 20000 in
theorem wc6_readsItem : Cond.code m6_readsItem.1 m6_readsItem.2.1 m6_readsItem.2.2.1 m6_readsItem.2.2.2 ∈ mv_W := (mv_inW (List.mem_of_getElem? (i := 718) (by decide +kernel)) (by decide +kernel))
set_option maxRecDepth 20000 in
theorem wc6_tellsAll : Cond.code m6_tellsAll.1 m6_tellsAll.2.1 m6_tellsAll.2.2.1 m6_tellsAll.2.2.2 ∈ mv_W := (mv_inW (List.mem_of_getElem? (i := 588) (by decide +kernel)) (by decide +kernel))
set_option maxRecDepth 20000 in
theorem wc6_tree : Cond.code m6_tree.1 m6_tree.2.1 m6_tree.2.2.1 m6_tree.2.2.2 ∈ mv_W := (mv_inW (List.mem_of_getElem? (i := 710) (by decide +kernel)) (by decide +kernel))
set_option maxRecDepth 20000 in
theorem wc6_copies : Cond.code m6_copies.1 m6_copies.2.1 m6_copies.2.2.1 m6_copies.2.2.2 ∈ mv_W := (mv_inW (List.mem_of_getElem? (i := 848) (by decide +kernel)) (by decide +kernel))
set_option maxRecDepth 20000 in
theorem wc6_starts : Cond.code m6_starts.1 m6_starts.2.1 m6_starts.2.2.1 m6_starts.2.2.2 ∈ mv_W := (mv_inW (List.mem_of_getElem? (i := 592) (by decide +kernel)) (by decide +kernel))
set_option maxRecDepth 20000 in
theorem wc6_at : Cond.code m6_at.1 m6_at.2.1 m6_at.2.2.1 m6_at.2.2.2 ∈ mv_W := (mv_inW (List.mem_of_getElem? (i := 771) (by decide +kernel)) (by decide +kernel))
set_option maxRecDepth 20000 in
theorem wc6_isHow : Cond.code m6_isHow.1 m6_isHow.2.1 m6_isHow.2.2.1 m6_isHow.2.2.2 ∈ mv_W := (mv_inW (List.mem_of_getElem? (i := 760) (by decide +kernel)) (by decide +kernel))
set_option maxRecDepth 20000 in
theorem wc6_traces : Cond.code m6_traces.1 m6_traces.2.1 m6_traces.2.2.1 m6_traces.2.2.2 ∈ mv_W := (mv_inW (List.mem_of_getElem? (i := 785) (by decide +kernel)) (by decide +kernel))
set_option maxRecDepth 20000 in
theorem wc6_codes : Cond.code m6_codes.1 m6_codes.2.1 m6_codes.2.2.1 m6_codes.2.2.2 ∈ mv_W := (mv_inW (List.mem_of_getElem? (i := 774) (by decide +kernel)) (by decide +kernel))
set_option maxRecDepth 20000 in
theorem wc6_asksChildren : Cond.code m6_asksChildren.1 m6_asksChildren.2.1 m6_asksChildren.2.2.1 m6_asksChildren.2.2.2 ∈ mv_W := (mv_inW (List.mem_of_getElem? (i := 782) (by decide +kernel)) (by decide +kernel))
set_option maxRecDepth 20000 in
theorem wc6_closes : Cond.code m6_closes.1 m6_closes.2.1 m6_closes.2.2.1 m6_closes.2.2.2 ∈ mv_W := (mv_inW (List.mem_of_getElem? (i := 778) (by decide +kernel)) (by decide +kernel))
set_option maxRecDepth 20000 in
theorem wc6_begin : Cond.code m6_begin.1 m6_begin.2.1 m6_begin.2.2.1 m6_begin.2.2.2 ∈ mv_W := (mv_inW (List.mem_of_getElem? (i := 801) (by decide +kernel)) (by decide +kernel))
set_option maxRecDepth 20000 in
theorem wc6_beginsChild : Cond.code m6_beginsChild.1 m6_beginsChild.2.1 m6_beginsChild.2.2.1 m6_beginsChild.2.2.2 ∈ mv_W := (mv_inW (List.mem_of_getElem? (i := 797) (by decide +kernel)) (by decide +kernel))
set_option maxRecDepth 20000 in
theorem wc6_isBusy : Cond.code m6_isBusy.1 m6_isBusy.2.1 m6_isBusy.2.2.1 m6_isBusy.2.2.2 ∈ mv_W := (mv_inW (List.mem_of_getElem? (i := 805) (by decide +kernel)) (by decide +kernel))
set_option maxRecDepth 20000 in
theorem wc6_works : Cond.code m6_works.1 m6_works.2.1 m6_works.2.2.1 m6_works.2.2.2 ∈ mv_W := (mv_inW (List.mem_of_getElem? (i := 793) (by decide +kernel)) (by decide +kernel))
set_option maxRecDepth 20000 in
theorem wc6_moves : Cond.code m6_moves.1 m6_moves.2.1 m6_moves.2.2.1 m6_moves.2.2.2 ∈ mv_W := (mv_inW (List.mem_of_getElem? (i := 789) (by decide +kernel)) (by decide +kernel))
set_option maxRecDepth 20000 in
theorem wc6_gives : Cond.code m6_gives.1 m6_gives.2.1 m6_gives.2.2.1 m6_gives.2.2.2 ∈ mv_W := (mv_inW (List.mem_of_getElem? (i := 813) (by decide +kernel)) (by decide +kernel))
set_option maxRecDepth 20000 in
theorem wc6_cleansUp : Cond.code m6_cleansUp.1 m6_cleansUp.2.1 m6_cleansUp.2.2.1 m6_cleansUp.2.2.2 ∈ mv_W := (mv_inW (List.mem_of_getElem? (i := 809) (by decide +kernel)) (by decide +kernel))
set_option maxRecDepth 20000 in
theorem wc6_tick : Cond.code m6_tick.1 m6_tick.2.1 m6_tick.2.2.1 m6_tick.2.2.2 ∈ mv_W := (mv_inW (List.mem_of_getElem? (i := 768) (by decide +kernel)) (by decide +kernel))
set_option maxRecDepth 20000 in
theorem wc6_isTask : Cond.code m6_isTask.1 m6_isTask.2.1 m6_isTask.2.2.1 m6_isTask.2.2.2 ∈ mv_W := (mv_inW (List.mem_of_getElem? (i := 821) (by decide +kernel)) (by decide +kernel))
set_option maxRecDepth 20000 in
theorem wc6_remember : Cond.code m6_remember.1 m6_remember.2.1 m6_remember.2.2.1 m6_remember.2.2.2 ∈ mv_W := (mv_inW (List.mem_of_getElem? (i := 764) (by decide +kernel)) (by decide +kernel))
set_option maxRecDepth 20000 in
theorem wc6_ticks : Cond.code m6_ticks.1 m6_ticks.2.1 m6_ticks.2.2.1 m6_ticks.2.2.2 ∈ mv_W := (mv_inW (List.mem_of_getElem? (i := 757) (by decide +kernel)) (by decide +kernel))
set_option maxRecDepth 20000 in
theorem wc6_asks : Cond.code m6_asks.1 m6_asks.2.1 m6_asks.2.2.1 m6_asks.2.2.2 ∈ mv_W := (mv_inW (List.mem_of_getElem? (i := 817) (by decide +kernel)) (by decide +kernel))
set_option maxRecDepth 20000 in
theorem wc6_undo : Cond.code m6_undo.1 m6_undo.2.1 m6_undo.2.2.1 m6_undo.2.2.2 ∈ mv_W := (mv_inW (List.mem_of_getElem? (i := 825) (by decide +kernel)) (by decide +kernel))
set_option maxRecDepth 20000 in
theorem wc6_busySet : Cond.code m6_busySet.1 m6_busySet.2.1 m6_busySet.2.2.1 m6_busySet.2.2.2 ∈ mv_W := (mv_inW (List.mem_of_getElem? (i := 833) (by decide +kernel)) (by decide +kernel))
set_option maxRecDepth 20000 in
theorem wc6_task : Cond.code m6_task.1 m6_task.2.1 m6_task.2.2.1 m6_task.2.2.2 ∈ mv_W := (mv_inW (List.mem_of_getElem? (i := 829) (by decide +kernel)) (by decide +kernel))
set_option maxRecDepth 20000 in
theorem wc6_failure : Cond.code m6_failure.1 m6_failure.2.1 m6_failure.2.2.1 m6_failure.2.2.2 ∈ mv_W := (mv_inW (List.mem_of_getElem? (i := 837) (by decide +kernel)) (by decide +kernel))
set_option maxRecDepth 20000 in
theorem wc6_trace : Cond.code m6_trace.1 m6_trace.2.1 m6_trace.2.2.1 m6_trace.2.2.2 ∈ mv_W := (mv_inW (List.mem_of_getElem? (i := 841) (by decide +kernel)) (by decide +kernel))
set_option maxRecDepth 20000 in
theorem wc6_goesOn : Cond.code m6_goesOn.1 m6_goesOn.2.1 m6_goesOn.2.2.1 m6_goesOn.2.2.2 ∈ mv_W := (mv_inW (List.mem_of_getElem? (i := 852) (by decide +kernel)) (by decide +kernel))
set_option maxRecDepth 20000 in
theorem wc6_ends_ : Cond.code m6_ends_.1 m6_ends_.2.1 m6_ends_.2.2.1 m6_ends_.2.2.2 ∈ mv_W := (mv_inW (List.mem_of_getElem? (i := 845) (by decide +kernel)) (by decide +kernel))
set_option maxRecDepth 20000 in
theorem wc6_wellBy : Cond.code m6_wellBy.1 m6_wellBy.2.1 m6_wellBy.2.2.1 m6_wellBy.2.2.2 ∈ mv_W := (mv_inW (List.mem_of_getElem? (i := 856) (by decide +kernel)) (by decide +kernel))
set_option maxRecDepth 20000 in
theorem wc6_spares : Cond.code m6_spares.1 m6_spares.2.1 m6_spares.2.2.1 m6_spares.2.2.2 ∈ mv_W := (mv_inW (List.mem_of_getElem? (i := 860) (by decide +kernel)) (by decide +kernel))
set_option maxRecDepth 20000 in
theorem wc6_sees : Cond.code m6_sees.1 m6_sees.2.1 m6_sees.2.2.1 m6_sees.2.2.2 ∈ mv_W := (mv_inW (List.mem_of_getElem? (i := 865) (by decide +kernel)) (by decide +kernel))
set_option maxRecDepth 20000 in
theorem wc6_forget : Cond.code m6_forget.1 m6_forget.2.1 m6_forget.2.2.1 m6_forget.2.2.2 ∈ mv_W := (mv_inW (List.mem_of_getElem? (i := 869) (by decide +kernel)) (by decide +kernel))
set_option maxRecDepth 20000 in
theorem wc6_fits : Cond.code m6_fits.1 m6_fits.2.1 m6_fits.2.2.1 m6_fits.2.2.2 ∈ mv_W := (mv_inW (List.mem_of_getElem? (i := 873) (by decide +kernel)) (by decide +kernel))
set_option maxRecDepth 20000 in
theorem wc6_keep : Cond.code m6_keep.1 m6_keep.2.1 m6_keep.2.2.1 m6_keep.2.2.2 ∈ mv_W := (mv_inW (List.mem_of_getElem? (i := 877) (by decide +kernel)) (by decide +kernel))
set_option maxRecDepth 20000 in
theorem wc6_back : Cond.code m6_back.1 m6_back.2.1 m6_back.2.2.1 m6_back.2.2.2 ∈ mv_W := (mv_inW (List.mem_of_getElem? (i := 881) (by decide +kernel)) (by decide +kernel))
set_option maxRecDepth 20000 in
theorem wc6_howMany : Cond.code m6_howMany.1 m6_howMany.2.1 m6_howMany.2.2.1 m6_howMany.2.2.2 ∈ mv_W := (mv_inW (List.mem_of_getElem? (i := 889) (by decide +kernel)) (by decide +kernel))
set_option maxRecDepth 20000 in
theorem wc6_count : Cond.code m6_count.1 m6_count.2.1 m6_count.2.2.1 m6_count.2.2.2 ∈ mv_W := (mv_inW (List.mem_of_getElem? (i := 885) (by decide +kernel)) (by decide +kernel))
set_option maxRecDepth 20000 in
theorem wi0 : Cond.initialized RX0 ∈ mv_W := (mv_inW (List.mem_of_getElem? (i := 61) (by decide +kernel)) (by decide +kernel))
set_option maxRecDepth 20000 in
theorem wi1 : Cond.initialized RX1 ∈ mv_W := (mv_inW (List.mem_of_getElem? (i := 57) (by decide +kernel)) (by decide +kernel))
set_option maxRecDepth 20000 in
theorem wi2 : Cond.initialized RX2 ∈ mv_W := (mv_inW (List.mem_of_getElem? (i := 58) (by decide +kernel)) (by decide +kernel))
set_option maxRecDepth 20000 in
theorem wi3 : Cond.initialized RX3 ∈ mv_W := (mv_inW (List.mem_of_getElem? (i := 59) (by decide +kernel)) (by decide +kernel))
set_option maxRecDepth 20000 in
theorem wi4 : Cond.initialized RX4 ∈ mv_W := (mv_inW (List.mem_of_getElem? (i := 56) (by decide +kernel)) (by decide +kernel))
set_option maxRecDepth 20000 in
theorem wi5 : Cond.initialized RX5 ∈ mv_W := (mv_inW (List.mem_of_getElem? (i := 55) (by decide +kernel)) (by decide +kernel))
set_option maxRecDepth 20000 in
theorem wi6 : Cond.initialized RX6 ∈ mv_W := (mv_inW (List.mem_of_getElem? (i := 62) (by decide +kernel)) (by decide +kernel))
set_option maxRecDepth 20000 in
theorem fl4_9 : mv_FL RX4 9 4 0 := ⟨by decide, by decide, (mv_inW (List.mem_of_getElem? (i := 78) (by decide +kernel)) (by decide +kernel))⟩
set_option maxRecDepth 20000 in
theorem fl4_15 : mv_FL RX4 15 4 1 := ⟨by decide, by decide, (mv_inW (List.mem_of_getElem? (i := 79) (by decide +kernel)) (by decide +kernel))⟩
set_option maxRecDepth 20000 in
theorem fl5_83 : mv_FL RX5 83 4 1 := ⟨by decide, by decide, (mv_inW (List.mem_of_getElem? (i := 80) (by decide +kernel)) (by decide +kernel))⟩
set_option maxRecDepth 20000 in
theorem fl4_19 : mv_FL RX4 19 4 2 := ⟨by decide, by decide, (mv_inW (List.mem_of_getElem? (i := 81) (by decide +kernel)) (by decide +kernel))⟩
set_option maxRecDepth 20000 in
theorem fl2_33 : mv_FL RX2 33 4 2 := ⟨by decide, by decide, (mv_inW (List.mem_of_getElem? (i := 82) (by decide +kernel)) (by decide +kernel))⟩
set_option maxRecDepth 20000 in
theorem fl4_22 : mv_FL RX4 22 4 3 := ⟨by decide, by decide, (mv_inW (List.mem_of_getElem? (i := 83) (by decide +kernel)) (by decide +kernel))⟩
set_option maxRecDepth 20000 in
theorem fl2_76 : mv_FL RX2 76 4 3 := ⟨by decide, by decide, (mv_inW (List.mem_of_getElem? (i := 84) (by decide +kernel)) (by decide +kernel))⟩
set_option maxRecDepth 20000 in
theorem fl4_25 : mv_FL RX4 25 4 4 := ⟨by decide, by decide, (mv_inW (List.mem_of_getElem? (i := 85) (by decide +kernel)) (by decide +kernel))⟩
set_option maxRecDepth 20000 in
theorem fl5_90 : mv_FL RX5 90 4 4 := ⟨by decide, by decide, (mv_inW (List.mem_of_getElem? (i := 86) (by decide +kernel)) (by decide +kernel))⟩
set_option maxRecDepth 20000 in
theorem fl4_28 : mv_FL RX4 28 4 5 := ⟨by decide, by decide, (mv_inW (List.mem_of_getElem? (i := 87) (by decide +kernel)) (by decide +kernel))⟩
set_option maxRecDepth 20000 in
theorem fl1_9 : mv_FL RX1 9 1 0 := ⟨by decide, by decide, (mv_inW (List.mem_of_getElem? (i := 116) (by decide +kernel)) (by decide +kernel))⟩
set_option maxRecDepth 20000 in
theorem fl2_70 : mv_FL RX2 70 1 0 := ⟨by decide, by decide, (mv_inW (List.mem_of_getElem? (i := 117) (by decide +kernel)) (by decide +kernel))⟩
set_option maxRecDepth 20000 in
theorem fl3_83 : mv_FL RX3 83 1 0 := ⟨by decide, by decide, (mv_inW (List.mem_of_getElem? (i := 118) (by decide +kernel)) (by decide +kernel))⟩
set_option maxRecDepth 20000 in
theorem fl5_184 : mv_FL RX5 184 1 0 := ⟨by decide, by decide, (mv_inW (List.mem_of_getElem? (i := 119) (by decide +kernel)) (by decide +kernel))⟩
set_option maxRecDepth 20000 in
theorem fl1_15 : mv_FL RX1 15 1 1 := ⟨by decide, by decide, (mv_inW (List.mem_of_getElem? (i := 120) (by decide +kernel)) (by decide +kernel))⟩
set_option maxRecDepth 20000 in
theorem fl3_88 : mv_FL RX3 88 1 1 := ⟨by decide, by decide, (mv_inW (List.mem_of_getElem? (i := 121) (by decide +kernel)) (by decide +kernel))⟩
set_option maxRecDepth 20000 in
theorem fl5_131 : mv_FL RX5 131 1 1 := ⟨by decide, by decide, (mv_inW (List.mem_of_getElem? (i := 122) (by decide +kernel)) (by decide +kernel))⟩
set_option maxRecDepth 20000 in
theorem fl1_19 : mv_FL RX1 19 1 2 := ⟨by decide, by decide, (mv_inW (List.mem_of_getElem? (i := 123) (by decide +kernel)) (by decide +kernel))⟩
set_option maxRecDepth 20000 in
theorem fl3_115 : mv_FL RX3 115 1 2 := ⟨by decide, by decide, (mv_inW (List.mem_of_getElem? (i := 124) (by decide +kernel)) (by decide +kernel))⟩
set_option maxRecDepth 20000 in
theorem fl1_22 : mv_FL RX1 22 1 3 := ⟨by decide, by decide, (mv_inW (List.mem_of_getElem? (i := 125) (by decide +kernel)) (by decide +kernel))⟩
set_option maxRecDepth 20000 in
theorem fl3_118 : mv_FL RX3 118 1 3 := ⟨by decide, by decide, (mv_inW (List.mem_of_getElem? (i := 126) (by decide +kernel)) (by decide +kernel))⟩
set_option maxRecDepth 20000 in
theorem fl1_25 : mv_FL RX1 25 1 4 := ⟨by decide, by decide, (mv_inW (List.mem_of_getElem? (i := 127) (by decide +kernel)) (by decide +kernel))⟩
set_option maxRecDepth 20000 in
theorem fl3_121 : mv_FL RX3 121 1 4 := ⟨by decide, by decide, (mv_inW (List.mem_of_getElem? (i := 128) (by decide +kernel)) (by decide +kernel))⟩
set_option maxRecDepth 20000 in
theorem fl1_28 : mv_FL RX1 28 1 5 := ⟨by decide, by decide, (mv_inW (List.mem_of_getElem? (i := 129) (by decide +kernel)) (by decide +kernel))⟩
set_option maxRecDepth 20000 in
theorem fl2_46 : mv_FL RX2 46 1 5 := ⟨by decide, by decide, (mv_inW (List.mem_of_getElem? (i := 130) (by decide +kernel)) (by decide +kernel))⟩
set_option maxRecDepth 20000 in
theorem fl3_140 : mv_FL RX3 140 1 5 := ⟨by decide, by decide, (mv_inW (List.mem_of_getElem? (i := 131) (by decide +kernel)) (by decide +kernel))⟩
set_option maxRecDepth 20000 in
theorem fl5_190 : mv_FL RX5 190 1 5 := ⟨by decide, by decide, (mv_inW (List.mem_of_getElem? (i := 132) (by decide +kernel)) (by decide +kernel))⟩
set_option maxRecDepth 20000 in
theorem fl1_31 : mv_FL RX1 31 1 6 := ⟨by decide, by decide, (mv_inW (List.mem_of_getElem? (i := 133) (by decide +kernel)) (by decide +kernel))⟩
set_option maxRecDepth 20000 in
theorem fl2_54 : mv_FL RX2 54 1 6 := ⟨by decide, by decide, (mv_inW (List.mem_of_getElem? (i := 134) (by decide +kernel)) (by decide +kernel))⟩
set_option maxRecDepth 20000 in
theorem fl3_112 : mv_FL RX3 112 1 6 := ⟨by decide, by decide, (mv_inW (List.mem_of_getElem? (i := 135) (by decide +kernel)) (by decide +kernel))⟩
set_option maxRecDepth 20000 in
theorem fl1_34 : mv_FL RX1 34 1 7 := ⟨by decide, by decide, (mv_inW (List.mem_of_getElem? (i := 136) (by decide +kernel)) (by decide +kernel))⟩
set_option maxRecDepth 20000 in
theorem fl2_57 : mv_FL RX2 57 1 7 := ⟨by decide, by decide, (mv_inW (List.mem_of_getElem? (i := 137) (by decide +kernel)) (by decide +kernel))⟩
set_option maxRecDepth 20000 in
theorem fl3_149 : mv_FL RX3 149 1 7 := ⟨by decide, by decide, (mv_inW (List.mem_of_getElem? (i := 138) (by decide +kernel)) (by decide +kernel))⟩
set_option maxRecDepth 20000 in
theorem fl1_37 : mv_FL RX1 37 1 8 := ⟨by decide, by decide, (mv_inW (List.mem_of_getElem? (i := 139) (by decide +kernel)) (by decide +kernel))⟩
set_option maxRecDepth 20000 in
theorem fl2_90 : mv_FL RX2 90 1 8 := ⟨by decide, by decide, (mv_inW (List.mem_of_getElem? (i := 140) (by decide +kernel)) (by decide +kernel))⟩
set_option maxRecDepth 20000 in
theorem fl3_158 : mv_FL RX3 158 1 8 := ⟨by decide, by decide, (mv_inW (List.mem_of_getElem? (i := 141) (by decide +kernel)) (by decide +kernel))⟩
set_option maxRecDepth 20000 in
theorem fl2_15 : mv_FL RX2 15 2 0 := ⟨by decide, by decide, (mv_inW (List.mem_of_getElem? (i := 167) (by decide +kernel)) (by decide +kernel))⟩
set_option maxRecDepth 20000 in
theorem fl2_19 : mv_FL RX2 19 2 1 := ⟨by decide, by decide, (mv_inW (List.mem_of_getElem? (i := 168) (by decide +kernel)) (by decide +kernel))⟩
set_option maxRecDepth 20000 in
theorem fl2_9 : mv_FL RX2 9 2 2 := ⟨by decide, by decide, (mv_inW (List.mem_of_getElem? (i := 169) (by decide +kernel)) (by decide +kernel))⟩
set_option maxRecDepth 20000 in
theorem fl5_102 : mv_FL RX5 102 2 2 := ⟨by decide, by decide, (mv_inW (List.mem_of_getElem? (i := 170) (by decide +kernel)) (by decide +kernel))⟩
set_option maxRecDepth 20000 in
theorem fl3_65 : mv_FL RX3 65 3 0 := ⟨by decide, by decide, (mv_inW (List.mem_of_getElem? (i := 196) (by decide +kernel)) (by decide +kernel))⟩
set_option maxRecDepth 20000 in
theorem fl3_9 : mv_FL RX3 9 3 1 := ⟨by decide, by decide, (mv_inW (List.mem_of_getElem? (i := 197) (by decide +kernel)) (by decide +kernel))⟩
set_option maxRecDepth 20000 in
theorem fl5_108 : mv_FL RX5 108 3 1 := ⟨by decide, by decide, (mv_inW (List.mem_of_getElem? (i := 198) (by decide +kernel)) (by decide +kernel))⟩
set_option maxRecDepth 20000 in
theorem fl3_15 : mv_FL RX3 15 3 2 := ⟨by decide, by decide, (mv_inW (List.mem_of_getElem? (i := 199) (by decide +kernel)) (by decide +kernel))⟩
set_option maxRecDepth 20000 in
theorem fl5_105 : mv_FL RX5 105 3 2 := ⟨by decide, by decide, (mv_inW (List.mem_of_getElem? (i := 200) (by decide +kernel)) (by decide +kernel))⟩
set_option maxRecDepth 20000 in
theorem fl3_19 : mv_FL RX3 19 3 3 := ⟨by decide, by decide, (mv_inW (List.mem_of_getElem? (i := 201) (by decide +kernel)) (by decide +kernel))⟩
set_option maxRecDepth 20000 in
theorem fl5_134 : mv_FL RX5 134 3 3 := ⟨by decide, by decide, (mv_inW (List.mem_of_getElem? (i := 202) (by decide +kernel)) (by decide +kernel))⟩
set_option maxRecDepth 20000 in
theorem fl3_22 : mv_FL RX3 22 3 4 := ⟨by decide, by decide, (mv_inW (List.mem_of_getElem? (i := 203) (by decide +kernel)) (by decide +kernel))⟩
set_option maxRecDepth 20000 in
theorem fl3_25 : mv_FL RX3 25 3 5 := ⟨by decide, by decide, (mv_inW (List.mem_of_getElem? (i := 204) (by decide +kernel)) (by decide +kernel))⟩
set_option maxRecDepth 20000 in
theorem fl5_169 : mv_FL RX5 169 3 5 := ⟨by decide, by decide, (mv_inW (List.mem_of_getElem? (i := 205) (by decide +kernel)) (by decide +kernel))⟩
set_option maxRecDepth 20000 in
theorem fl3_28 : mv_FL RX3 28 3 6 := ⟨by decide, by decide, (mv_inW (List.mem_of_getElem? (i := 206) (by decide +kernel)) (by decide +kernel))⟩
set_option maxRecDepth 20000 in
theorem fl5_137 : mv_FL RX5 137 3 6 := ⟨by decide, by decide, (mv_inW (List.mem_of_getElem? (i := 207) (by decide +kernel)) (by decide +kernel))⟩
set_option maxRecDepth 20000 in
theorem fl3_31 : mv_FL RX3 31 3 7 := ⟨by decide, by decide, (mv_inW (List.mem_of_getElem? (i := 208) (by decide +kernel)) (by decide +kernel))⟩
set_option maxRecDepth 20000 in
theorem fl5_124 : mv_FL RX5 124 3 7 := ⟨by decide, by decide, (mv_inW (List.mem_of_getElem? (i := 209) (by decide +kernel)) (by decide +kernel))⟩
set_option maxRecDepth 20000 in
theorem fl3_34 : mv_FL RX3 34 3 8 := ⟨by decide, by decide, (mv_inW (List.mem_of_getElem? (i := 210) (by decide +kernel)) (by decide +kernel))⟩
set_option maxRecDepth 20000 in
theorem fl3_37 : mv_FL RX3 37 3 9 := ⟨by decide, by decide, (mv_inW (List.mem_of_getElem? (i := 211) (by decide +kernel)) (by decide +kernel))⟩
set_option maxRecDepth 20000 in
theorem fl3_40 : mv_FL RX3 40 3 10 := ⟨by decide, by decide, (mv_inW (List.mem_of_getElem? (i := 212) (by decide +kernel)) (by decide +kernel))⟩
set_option maxRecDepth 20000 in
theorem fl5_121 : mv_FL RX5 121 3 10 := ⟨by decide, by decide, (mv_inW (List.mem_of_getElem? (i := 213) (by decide +kernel)) (by decide +kernel))⟩
set_option maxRecDepth 20000 in
theorem fl3_43 : mv_FL RX3 43 3 11 := ⟨by decide, by decide, (mv_inW (List.mem_of_getElem? (i := 214) (by decide +kernel)) (by decide +kernel))⟩
set_option maxRecDepth 20000 in
theorem fl5_141 : mv_FL RX5 141 3 11 := ⟨by decide, by decide, (mv_inW (List.mem_of_getElem? (i := 215) (by decide +kernel)) (by decide +kernel))⟩
set_option maxRecDepth 20000 in
theorem fl3_46 : mv_FL RX3 46 3 12 := ⟨by decide, by decide, (mv_inW (List.mem_of_getElem? (i := 216) (by decide +kernel)) (by decide +kernel))⟩
set_option maxRecDepth 20000 in
theorem fl5_148 : mv_FL RX5 148 3 12 := ⟨by decide, by decide, (mv_inW (List.mem_of_getElem? (i := 217) (by decide +kernel)) (by decide +kernel))⟩
set_option maxRecDepth 20000 in
theorem fl3_49 : mv_FL RX3 49 3 13 := ⟨by decide, by decide, (mv_inW (List.mem_of_getElem? (i := 218) (by decide +kernel)) (by decide +kernel))⟩
set_option maxRecDepth 20000 in
theorem fl5_151 : mv_FL RX5 151 3 13 := ⟨by decide, by decide, (mv_inW (List.mem_of_getElem? (i := 219) (by decide +kernel)) (by decide +kernel))⟩
set_option maxRecDepth 20000 in
theorem fl3_52 : mv_FL RX3 52 3 14 := ⟨by decide, by decide, (mv_inW (List.mem_of_getElem? (i := 220) (by decide +kernel)) (by decide +kernel))⟩
set_option maxRecDepth 20000 in
theorem fl5_154 : mv_FL RX5 154 3 14 := ⟨by decide, by decide, (mv_inW (List.mem_of_getElem? (i := 221) (by decide +kernel)) (by decide +kernel))⟩
set_option maxRecDepth 20000 in
theorem fl3_55 : mv_FL RX3 55 3 15 := ⟨by decide, by decide, (mv_inW (List.mem_of_getElem? (i := 222) (by decide +kernel)) (by decide +kernel))⟩
set_option maxRecDepth 20000 in
theorem fl5_157 : mv_FL RX5 157 3 15 := ⟨by decide, by decide, (mv_inW (List.mem_of_getElem? (i := 223) (by decide +kernel)) (by decide +kernel))⟩
set_option maxRecDepth 20000 in
theorem fl3_58 : mv_FL RX3 58 3 16 := ⟨by decide, by decide, (mv_inW (List.mem_of_getElem? (i := 224) (by decide +kernel)) (by decide +kernel))⟩
set_option maxRecDepth 20000 in
theorem fl5_160 : mv_FL RX5 160 3 16 := ⟨by decide, by decide, (mv_inW (List.mem_of_getElem? (i := 225) (by decide +kernel)) (by decide +kernel))⟩
set_option maxRecDepth 20000 in
theorem fl0_11 : mv_FL RX0 11 0 0 := ⟨by decide, by decide, (mv_inW (List.mem_of_getElem? (i := 270) (by decide +kernel)) (by decide +kernel))⟩
set_option maxRecDepth 20000 in
theorem fl0_17 : mv_FL RX0 17 0 1 := ⟨by decide, by decide, (mv_inW (List.mem_of_getElem? (i := 271) (by decide +kernel)) (by decide +kernel))⟩
set_option maxRecDepth 20000 in
theorem fl5_99 : mv_FL RX5 99 0 1 := ⟨by decide, by decide, (mv_inW (List.mem_of_getElem? (i := 272) (by decide +kernel)) (by decide +kernel))⟩
set_option maxRecDepth 20000 in
theorem fl0_21 : mv_FL RX0 21 0 2 := ⟨by decide, by decide, (mv_inW (List.mem_of_getElem? (i := 273) (by decide +kernel)) (by decide +kernel))⟩
set_option maxRecDepth 20000 in
theorem fl5_10 : mv_FL RX5 10 5 0 := ⟨by decide, by decide, (mv_inW (List.mem_of_getElem? (i := 281) (by decide +kernel)) (by decide +kernel))⟩
set_option maxRecDepth 20000 in
theorem fl5_19 : mv_FL RX5 19 5 1 := ⟨by decide, by decide, (mv_inW (List.mem_of_getElem? (i := 282) (by decide +kernel)) (by decide +kernel))⟩
set_option maxRecDepth 20000 in
theorem fl5_23 : mv_FL RX5 23 5 2 := ⟨by decide, by decide, (mv_inW (List.mem_of_getElem? (i := 283) (by decide +kernel)) (by decide +kernel))⟩
set_option maxRecDepth 20000 in
theorem fl5_26 : mv_FL RX5 26 5 3 := ⟨by decide, by decide, (mv_inW (List.mem_of_getElem? (i := 284) (by decide +kernel)) (by decide +kernel))⟩
set_option maxRecDepth 20000 in
theorem fl5_34 : mv_FL RX5 34 5 4 := ⟨by decide, by decide, (mv_inW (List.mem_of_getElem? (i := 285) (by decide +kernel)) (by decide +kernel))⟩
set_option maxRecDepth 20000 in
theorem fl5_43 : mv_FL RX5 43 5 5 := ⟨by decide, by decide, (mv_inW (List.mem_of_getElem? (i := 286) (by decide +kernel)) (by decide +kernel))⟩
set_option maxRecDepth 20000 in
theorem fl5_47 : mv_FL RX5 47 5 6 := ⟨by decide, by decide, (mv_inW (List.mem_of_getElem? (i := 287) (by decide +kernel)) (by decide +kernel))⟩
set_option maxRecDepth 20000 in
theorem fl5_53 : mv_FL RX5 53 5 7 := ⟨by decide, by decide, (mv_inW (List.mem_of_getElem? (i := 288) (by decide +kernel)) (by decide +kernel))⟩
set_option maxRecDepth 20000 in
theorem fl5_57 : mv_FL RX5 57 5 8 := ⟨by decide, by decide, (mv_inW (List.mem_of_getElem? (i := 289) (by decide +kernel)) (by decide +kernel))⟩
set_option maxRecDepth 20000 in
theorem fl5_61 : mv_FL RX5 61 5 9 := ⟨by decide, by decide, (mv_inW (List.mem_of_getElem? (i := 290) (by decide +kernel)) (by decide +kernel))⟩
set_option maxRecDepth 20000 in
theorem fl5_65 : mv_FL RX5 65 5 10 := ⟨by decide, by decide, (mv_inW (List.mem_of_getElem? (i := 291) (by decide +kernel)) (by decide +kernel))⟩
set_option maxRecDepth 20000 in
theorem fl5_69 : mv_FL RX5 69 5 11 := ⟨by decide, by decide, (mv_inW (List.mem_of_getElem? (i := 292) (by decide +kernel)) (by decide +kernel))⟩
set_option maxRecDepth 20000 in
theorem fl5_72 : mv_FL RX5 72 5 12 := ⟨by decide, by decide, (mv_inW (List.mem_of_getElem? (i := 293) (by decide +kernel)) (by decide +kernel))⟩
set_option maxRecDepth 20000 in
theorem fl5_75 : mv_FL RX5 75 5 13 := ⟨by decide, by decide, (mv_inW (List.mem_of_getElem? (i := 294) (by decide +kernel)) (by decide +kernel))⟩
set_option maxRecDepth 20000 in
theorem fl6_84 : mv_FL RX6 84 6 0 := ⟨by decide, by decide, (mv_inW (List.mem_of_getElem? (i := 593) (by decide +kernel)) (by decide +kernel))⟩
set_option maxRecDepth 20000 in
theorem fl6_7 : mv_FL RX6 7 6 1 := ⟨by decide, by decide, (mv_inW (List.mem_of_getElem? (i := 594) (by decide +kernel)) (by decide +kernel))⟩
set_option maxRecDepth 20000 in
theorem fl6_88 : mv_FL RX6 88 6 2 := ⟨by decide, by decide, (mv_inW (List.mem_of_getElem? (i := 595) (by decide +kernel)) (by decide +kernel))⟩
set_option maxRecDepth 20000 in
theorem fl6_94 : mv_FL RX6 94 6 3 := ⟨by decide, by decide, (mv_inW (List.mem_of_getElem? (i := 596) (by decide +kernel)) (by decide +kernel))⟩
set_option maxRecDepth 20000 in
theorem fl6_97 : mv_FL RX6 97 6 4 := ⟨by decide, by decide, (mv_inW (List.mem_of_getElem? (i := 597) (by decide +kernel)) (by decide +kernel))⟩
set_option maxRecDepth 20000 in
theorem fl6_104 : mv_FL RX6 104 6 5 := ⟨by decide, by decide, (mv_inW (List.mem_of_getElem? (i := 598) (by decide +kernel)) (by decide +kernel))⟩
set_option maxRecDepth 20000 in
theorem fl6_111 : mv_FL RX6 111 6 6 := ⟨by decide, by decide, (mv_inW (List.mem_of_getElem? (i := 599) (by decide +kernel)) (by decide +kernel))⟩
set_option maxRecDepth 20000 in
theorem fl6_120 : mv_FL RX6 120 6 7 := ⟨by decide, by decide, (mv_inW (List.mem_of_getElem? (i := 600) (by decide +kernel)) (by decide +kernel))⟩
set_option maxRecDepth 20000 in
theorem fl6_123 : mv_FL RX6 123 6 8 := ⟨by decide, by decide, (mv_inW (List.mem_of_getElem? (i := 601) (by decide +kernel)) (by decide +kernel))⟩
set_option maxRecDepth 20000 in
theorem fl6_13 : mv_FL RX6 13 6 9 := ⟨by decide, by decide, (mv_inW (List.mem_of_getElem? (i := 602) (by decide +kernel)) (by decide +kernel))⟩
set_option maxRecDepth 20000 in
theorem fl6_16 : mv_FL RX6 16 6 10 := ⟨by decide, by decide, (mv_inW (List.mem_of_getElem? (i := 603) (by decide +kernel)) (by decide +kernel))⟩
set_option maxRecDepth 20000 in
theorem fl6_19 : mv_FL RX6 19 6 11 := ⟨by decide, by decide, (mv_inW (List.mem_of_getElem? (i := 604) (by decide +kernel)) (by decide +kernel))⟩
set_option maxRecDepth 20000 in
theorem fl6_22 : mv_FL RX6 22 6 12 := ⟨by decide, by decide, (mv_inW (List.mem_of_getElem? (i := 605) (by decide +kernel)) (by decide +kernel))⟩
set_option maxRecDepth 20000 in
theorem fl6_25 : mv_FL RX6 25 6 13 := ⟨by decide, by decide, (mv_inW (List.mem_of_getElem? (i := 606) (by decide +kernel)) (by decide +kernel))⟩
set_option maxRecDepth 20000 in
theorem fl6_28 : mv_FL RX6 28 6 14 := ⟨by decide, by decide, (mv_inW (List.mem_of_getElem? (i := 607) (by decide +kernel)) (by decide +kernel))⟩
set_option maxRecDepth 20000 in
theorem fl6_142 : mv_FL RX6 142 6 15 := ⟨by decide, by decide, (mv_inW (List.mem_of_getElem? (i := 608) (by decide +kernel)) (by decide +kernel))⟩
set_option maxRecDepth 20000 in
theorem fl6_145 : mv_FL RX6 145 6 16 := ⟨by decide, by decide, (mv_inW (List.mem_of_getElem? (i := 609) (by decide +kernel)) (by decide +kernel))⟩
set_option maxRecDepth 20000 in
theorem fl6_31 : mv_FL RX6 31 6 17 := ⟨by decide, by decide, (mv_inW (List.mem_of_getElem? (i := 610) (by decide +kernel)) (by decide +kernel))⟩
set_option maxRecDepth 20000 in
theorem fl6_34 : mv_FL RX6 34 6 18 := ⟨by decide, by decide, (mv_inW (List.mem_of_getElem? (i := 611) (by decide +kernel)) (by decide +kernel))⟩
set_option maxRecDepth 20000 in
theorem fl6_37 : mv_FL RX6 37 6 19 := ⟨by decide, by decide, (mv_inW (List.mem_of_getElem? (i := 612) (by decide +kernel)) (by decide +kernel))⟩
set_option maxRecDepth 20000 in
theorem fl6_40 : mv_FL RX6 40 6 20 := ⟨by decide, by decide, (mv_inW (List.mem_of_getElem? (i := 613) (by decide +kernel)) (by decide +kernel))⟩
set_option maxRecDepth 20000 in
theorem fl6_43 : mv_FL RX6 43 6 21 := ⟨by decide, by decide, (mv_inW (List.mem_of_getElem? (i := 614) (by decide +kernel)) (by decide +kernel))⟩
set_option maxRecDepth 20000 in
theorem fl6_46 : mv_FL RX6 46 6 22 := ⟨by decide, by decide, (mv_inW (List.mem_of_getElem? (i := 615) (by decide +kernel)) (by decide +kernel))⟩
set_option maxRecDepth 20000 in
theorem fl6_49 : mv_FL RX6 49 6 23 := ⟨by decide, by decide, (mv_inW (List.mem_of_getElem? (i := 616) (by decide +kernel)) (by decide +kernel))⟩
set_option maxRecDepth 20000 in
theorem fl6_52 : mv_FL RX6 52 6 24 := ⟨by decide, by decide, (mv_inW (List.mem_of_getElem? (i := 617) (by decide +kernel)) (by decide +kernel))⟩
set_option maxRecDepth 20000 in
theorem fl6_152 : mv_FL RX6 152 6 25 := ⟨by decide, by decide, (mv_inW (List.mem_of_getElem? (i := 618) (by decide +kernel)) (by decide +kernel))⟩
set_option maxRecDepth 20000 in
theorem fl6_205 : mv_FL RX6 205 6 26 := ⟨by decide, by decide, (mv_inW (List.mem_of_getElem? (i := 619) (by decide +kernel)) (by decide +kernel))⟩
set_option maxRecDepth 20000 in
theorem fl6_55 : mv_FL RX6 55 6 27 := ⟨by decide, by decide, (mv_inW (List.mem_of_getElem? (i := 620) (by decide +kernel)) (by decide +kernel))⟩
set_option maxRecDepth 20000 in
theorem fl6_155 : mv_FL RX6 155 6 28 := ⟨by decide, by decide, (mv_inW (List.mem_of_getElem? (i := 621) (by decide +kernel)) (by decide +kernel))⟩
set_option maxRecDepth 20000 in
theorem fl6_58 : mv_FL RX6 58 6 29 := ⟨by decide, by decide, (mv_inW (List.mem_of_getElem? (i := 622) (by decide +kernel)) (by decide +kernel))⟩
set_option maxRecDepth 20000 in
theorem fl6_61 : mv_FL RX6 61 6 30 := ⟨by decide, by decide, (mv_inW (List.mem_of_getElem? (i := 623) (by decide +kernel)) (by decide +kernel))⟩
set_option maxRecDepth 20000 in
theorem fl6_64 : mv_FL RX6 64 6 31 := ⟨by decide, by decide, (mv_inW (List.mem_of_getElem? (i := 624) (by decide +kernel)) (by decide +kernel))⟩
set_option maxRecDepth 20000 in
theorem fl6_67 : mv_FL RX6 67 6 32 := ⟨by decide, by decide, (mv_inW (List.mem_of_getElem? (i := 625) (by decide +kernel)) (by decide +kernel))⟩
set_option maxRecDepth 20000 in
theorem fl6_71 : mv_FL RX6 71 6 33 := ⟨by decide, by decide, (mv_inW (List.mem_of_getElem? (i := 626) (by decide +kernel)) (by decide +kernel))⟩
set_option maxRecDepth 20000 in
theorem lko5_1 : Cond.methodLink RX5 1 Lib.objectInit ∈ mv_W := (mv_inW (List.mem_of_getElem? (i := 69) (by decide +kernel)) (by decide +kernel))
set_option maxRecDepth 20000 in
theorem lko4_3 : Cond.methodLink RX4 3 Lib.objectInit ∈ mv_W := (mv_inW (List.mem_of_getElem? (i := 77) (by decide +kernel)) (by decide +kernel))
set_option maxRecDepth 20000 in
theorem lk5_18 : mv_LkI RX5 18 m1_init 0 := ⟨⟨(mv_inW (List.mem_of_getElem? (i := 104) (by decide +kernel)) (by decide +kernel)), wc1_init, wi1, by decide +kernel⟩, (mv_inW (List.mem_of_getElem? (i := 105) (by decide +kernel)) (by decide +kernel)), rfl, rfl⟩
set_option maxRecDepth 20000 in
theorem lko1_3 : Cond.methodLink RX1 3 Lib.objectInit ∈ mv_W := (mv_inW (List.mem_of_getElem? (i := 107) (by decide +kernel)) (by decide +kernel))
set_option maxRecDepth 20000 in
theorem lk1_40 : mv_LkV RX1 40 m1_tellAnew 0 1 := ⟨⟨(mv_inW (List.mem_of_getElem? (i := 108) (by decide +kernel)) (by decide +kernel)), wc1_tellAnew, wi1, by decide +kernel⟩, (mv_inW (List.mem_of_getElem? (i := 109) (by decide +kernel)) (by decide +kernel)), (mv_inW (List.mem_of_getElem? (i := 110) (by decide +kernel)) (by decide +kernel)), by decide, rfl⟩
set_option maxRecDepth 20000 in
theorem lk1_43 : mv_LkV RX1 43 m1_addTask 1 1 := ⟨⟨(mv_inW (List.mem_of_getElem? (i := 112) (by decide +kernel)) (by decide +kernel)), wc1_addTask, wi1, by decide +kernel⟩, (mv_inW (List.mem_of_getElem? (i := 113) (by decide +kernel)) (by decide +kernel)), (mv_inW (List.mem_of_getElem? (i := 114) (by decide +kernel)) (by decide +kernel)), by decide, rfl⟩
set_option maxRecDepth 20000 in
theorem lk5_31 : mv_LkI RX5 31 m2_init 2 := ⟨⟨(mv_inW (List.mem_of_getElem? (i := 163) (by decide +kernel)) (by decide +kernel)), wc2_init, wi2, by decide +kernel⟩, (mv_inW (List.mem_of_getElem? (i := 164) (by decide +kernel)) (by decide +kernel)), rfl, rfl⟩
set_option maxRecDepth 20000 in
theorem lko2_3 : Cond.methodLink RX2 3 Lib.objectInit ∈ mv_W := (mv_inW (List.mem_of_getElem? (i := 166) (by decide +kernel)) (by decide +kernel))
set_option maxRecDepth 20000 in
theorem lk5_40 : mv_LkI RX5 40 m3_init 1 := ⟨⟨(mv_inW (List.mem_of_getElem? (i := 180) (by decide +kernel)) (by decide +kernel)), wc3_init, wi3, by decide +kernel⟩, (mv_inW (List.mem_of_getElem? (i := 181) (by decide +kernel)) (by decide +kernel)), rfl, rfl⟩
set_option maxRecDepth 20000 in
theorem lko3_3 : Cond.methodLink RX3 3 Lib.objectInit ∈ mv_W := (mv_inW (List.mem_of_getElem? (i := 183) (by decide +kernel)) (by decide +kernel))
set_option maxRecDepth 20000 in
theorem lk3_61 : mv_LkV RX3 61 m3_restart 1 3 := ⟨⟨(mv_inW (List.mem_of_getElem? (i := 184) (by decide +kernel)) (by decide +kernel)), wc3_restart, wi3, by decide +kernel⟩, (mv_inW (List.mem_of_getElem? (i := 185) (by decide +kernel)) (by decide +kernel)), (mv_inW (List.mem_of_getElem? (i := 186) (by decide +kernel)) (by decide +kernel)), by decide, rfl⟩
set_option maxRecDepth 20000 in
theorem lk3_70 : mv_LkV RX3 70 m3_start 2 3 := ⟨⟨(mv_inW (List.mem_of_getElem? (i := 189) (by decide +kernel)) (by decide +kernel)), wc3_start, wi3, by decide +kernel⟩, (mv_inW (List.mem_of_getElem? (i := 191) (by decide +kernel)) (by decide +kernel)), (mv_inW (List.mem_of_getElem? (i := 0) (by decide +kernel)) (by decide +kernel)), by decide, rfl⟩
set_option maxRecDepth 20000 in
theorem lkm3_143 : Cond.methodLink RX3 143 Lib.Math.min.name ∈ mv_W := (mv_inW (List.mem_of_getElem? (i := 193) (by decide +kernel)) (by decide +kernel))
set_option maxRecDepth 20000 in
theorem lk5_52 : mv_LkI RX5 52 m0_init 1 := ⟨⟨(mv_inW (List.mem_of_getElem? (i := 263) (by decide +kernel)) (by decide +kernel)), wc0_init, wi0, by decide +kernel⟩, (mv_inW (List.mem_of_getElem? (i := 264) (by decide +kernel)) (by decide +kernel)), rfl, rfl⟩
set_option maxRecDepth 20000 in
theorem lko0_3 : Cond.methodLink RX0 3 Lib.objectInit ∈ mv_W := (mv_inW (List.mem_of_getElem? (i := 266) (by decide +kernel)) (by decide +kernel))
set_option maxRecDepth 20000 in
theorem lk0_24 : mv_LkI RX0 24 m3_init 1 := ⟨⟨(mv_inW (List.mem_of_getElem? (i := 269) (by decide +kernel)) (by decide +kernel)), wc3_init, wi3, by decide +kernel⟩, (mv_inW (List.mem_of_getElem? (i := 181) (by decide +kernel)) (by decide +kernel)), rfl, rfl⟩
set_option maxRecDepth 20000 in
theorem lk5_79 : mv_LkV RX5 79 m4_append 1 4 := ⟨⟨(mv_inW (List.mem_of_getElem? (i := 329) (by decide +kernel)) (by decide +kernel)), wc4_append, wi4, by decide +kernel⟩, (mv_inW (List.mem_of_getElem? (i := 330) (by decide +kernel)) (by decide +kernel)), (mv_inW (List.mem_of_getElem? (i := 331) (by decide +kernel)) (by decide +kernel)), by decide, rfl⟩
set_option maxRecDepth 20000 in
theorem lk5_86 : mv_LkV RX5 86 m2_readAll 0 2 := ⟨⟨(mv_inW (List.mem_of_getElem? (i := 341) (by decide +kernel)) (by decide +kernel)), wc2_readAll, wi2, by decide +kernel⟩, (mv_inW (List.mem_of_getElem? (i := 342) (by decide +kernel)) (by decide +kernel)), (mv_inW (List.mem_of_getElem? (i := 343) (by decide +kernel)) (by decide +kernel)), by decide, rfl⟩
set_option maxRecDepth 20000 in
theorem lk2_23 : mv_LkV RX2 23 m1_tellAnew 0 1 := ⟨⟨(mv_inW (List.mem_of_getElem? (i := 345) (by decide +kernel)) (by decide +kernel)), wc1_tellAnew, wi1, by decide +kernel⟩, (mv_inW (List.mem_of_getElem? (i := 109) (by decide +kernel)) (by decide +kernel)), (mv_inW (List.mem_of_getElem? (i := 110) (by decide +kernel)) (by decide +kernel)), by decide, rfl⟩
set_option maxRecDepth 20000 in
theorem lk2_28 : mv_LkV RX2 28 m4_goToFirst 0 4 := ⟨⟨(mv_inW (List.mem_of_getElem? (i := 346) (by decide +kernel)) (by decide +kernel)), wc4_goToFirst, wi4, by decide +kernel⟩, (mv_inW (List.mem_of_getElem? (i := 347) (by decide +kernel)) (by decide +kernel)), (mv_inW (List.mem_of_getElem? (i := 348) (by decide +kernel)) (by decide +kernel)), by decide, rfl⟩
set_option maxRecDepth 20000 in
theorem lk4_31 : mv_LkV RX4 31 m4_advance 0 4 := ⟨⟨(mv_inW (List.mem_of_getElem? (i := 350) (by decide +kernel)) (by decide +kernel)), wc4_advance, wi4, by decide +kernel⟩, (mv_inW (List.mem_of_getElem? (i := 351) (by decide +kernel)) (by decide +kernel)), (mv_inW (List.mem_of_getElem? (i := 352) (by decide +kernel)) (by decide +kernel)), by decide, rfl⟩
set_option maxRecDepth 20000 in
theorem lkm4_34 : Cond.methodLink RX4 34 Lib.Math.min.name ∈ mv_W := (mv_inW (List.mem_of_getElem? (i := 354) (by decide +kernel)) (by decide +kernel))
set_option maxRecDepth 20000 in
theorem lk2_36 : mv_LkV RX2 36 m2_readItem 0 2 := ⟨⟨(mv_inW (List.mem_of_getElem? (i := 355) (by decide +kernel)) (by decide +kernel)), wc2_readItem, wi2, by decide +kernel⟩, (mv_inW (List.mem_of_getElem? (i := 357) (by decide +kernel)) (by decide +kernel)), (mv_inW (List.mem_of_getElem? (i := 1) (by decide +kernel)) (by decide +kernel)), by decide, rfl⟩
set_option maxRecDepth 20000 in
theorem lk2_40 : mv_LkV RX2 40 m2_readRoot 0 2 := ⟨⟨(mv_inW (List.mem_of_getElem? (i := 359) (by decide +kernel)) (by decide +kernel)), wc2_readRoot, wi2, by decide +kernel⟩, (mv_inW (List.mem_of_getElem? (i := 361) (by decide +kernel)) (by decide +kernel)), (mv_inW (List.mem_of_getElem? (i := 2) (by decide +kernel)) (by decide +kernel)), by decide, rfl⟩
set_option maxRecDepth 20000 in
theorem lk2_63 : mv_LkV RX2 63 m4_advance 0 4 := ⟨⟨(mv_inW (List.mem_of_getElem? (i := 363) (by decide +kernel)) (by decide +kernel)), wc4_advance, wi4, by decide +kernel⟩, (mv_inW (List.mem_of_getElem? (i := 351) (by decide +kernel)) (by decide +kernel)), (mv_inW (List.mem_of_getElem? (i := 352) (by decide +kernel)) (by decide +kernel)), by decide, rfl⟩
set_option maxRecDepth 20000 in
theorem lk2_66 : mv_LkV RX2 66 m2_readOperations 1 2 := ⟨⟨(mv_inW (List.mem_of_getElem? (i := 364) (by decide +kernel)) (by decide +kernel)), wc2_readOperations, wi2, by decide +kernel⟩, (mv_inW (List.mem_of_getElem? (i := 366) (by decide +kernel)) (by decide +kernel)), (mv_inW (List.mem_of_getElem? (i := 3) (by decide +kernel)) (by decide +kernel)), by decide, rfl⟩
set_option maxRecDepth 20000 in
theorem lk2_93 : mv_LkV RX2 93 m2_readOperation 1 2 := ⟨⟨(mv_inW (List.mem_of_getElem? (i := 368) (by decide +kernel)) (by decide +kernel)), wc2_readOperation, wi2, by decide +kernel⟩, (mv_inW (List.mem_of_getElem? (i := 370) (by decide +kernel)) (by decide +kernel)), (mv_inW (List.mem_of_getElem? (i := 4) (by decide +kernel)) (by decide +kernel)), by decide, rfl⟩
set_option maxRecDepth 20000 in
theorem lk2_83 : mv_LkV RX2 83 m4_isNumberWithin 2 4 := ⟨⟨(mv_inW (List.mem_of_getElem? (i := 372) (by decide +kernel)) (by decide +kernel)), wc4_isNumberWithin, wi4, by decide +kernel⟩, (mv_inW (List.mem_of_getElem? (i := 373) (by decide +kernel)) (by decide +kernel)), (mv_inW (List.mem_of_getElem? (i := 374) (by decide +kernel)) (by decide +kernel)), by decide, rfl⟩
set_option maxRecDepth 20000 in
theorem lk2_96 : mv_LkV RX2 96 m1_addOperation 3 1 := ⟨⟨(mv_inW (List.mem_of_getElem? (i := 376) (by decide +kernel)) (by decide +kernel)), wc1_addOperation, wi1, by decide +kernel⟩, (mv_inW (List.mem_of_getElem? (i := 377) (by decide +kernel)) (by decide +kernel)), (mv_inW (List.mem_of_getElem? (i := 378) (by decide +kernel)) (by decide +kernel)), by decide, rfl⟩
set_option maxRecDepth 20000 in
theorem lk2_87 : mv_LkV RX2 87 m2_readEnd 0 2 := ⟨⟨(mv_inW (List.mem_of_getElem? (i := 380) (by decide +kernel)) (by decide +kernel)), wc2_readEnd, wi2, by decide +kernel⟩, (mv_inW (List.mem_of_getElem? (i := 382) (by decide +kernel)) (by decide +kernel)), (mv_inW (List.mem_of_getElem? (i := 5) (by decide +kernel)) (by decide +kernel)), by decide, rfl⟩
set_option maxRecDepth 20000 in
theorem lk2_43 : mv_LkV RX2 43 m2_readTask 0 2 := ⟨⟨(mv_inW (List.mem_of_getElem? (i := 384) (by decide +kernel)) (by decide +kernel)), wc2_readTask, wi2, by decide +kernel⟩, (mv_inW (List.mem_of_getElem? (i := 386) (by decide +kernel)) (by decide +kernel)), (mv_inW (List.mem_of_getElem? (i := 6) (by decide +kernel)) (by decide +kernel)), by decide, rfl⟩
set_option maxRecDepth 20000 in
theorem lk2_73 : mv_LkV RX2 73 m2_isTaskTold 0 2 := ⟨⟨(mv_inW (List.mem_of_getElem? (i := 388) (by decide +kernel)) (by decide +kernel)), wc2_isTaskTold, wi2, by decide +kernel⟩, (mv_inW (List.mem_of_getElem? (i := 390) (by decide +kernel)) (by decide +kernel)), (mv_inW (List.mem_of_getElem? (i := 7) (by decide +kernel)) (by decide +kernel)), by decide, rfl⟩
set_option maxRecDepth 20000 in
theorem lk2_79 : mv_LkV RX2 79 m1_addTask 1 1 := ⟨⟨(mv_inW (List.mem_of_getElem? (i := 392) (by decide +kernel)) (by decide +kernel)), wc1_addTask, wi1, by decide +kernel⟩, (mv_inW (List.mem_of_getElem? (i := 113) (by decide +kernel)) (by decide +kernel)), (mv_inW (List.mem_of_getElem? (i := 114) (by decide +kernel)) (by decide +kernel)), by decide, rfl⟩
set_option maxRecDepth 20000 in
theorem lk2_50 : mv_LkV RX2 50 m2_readSetting 3 2 := ⟨⟨(mv_inW (List.mem_of_getElem? (i := 393) (by decide +kernel)) (by decide +kernel)), wc2_readSetting, wi2, by decide +kernel⟩, (mv_inW (List.mem_of_getElem? (i := 395) (by decide +kernel)) (by decide +kernel)), (mv_inW (List.mem_of_getElem? (i := 8) (by decide +kernel)) (by decide +kernel)), by decide, rfl⟩
set_option maxRecDepth 20000 in
theorem lk2_60 : mv_LkV RX2 60 m2_readGathers 0 2 := ⟨⟨(mv_inW (List.mem_of_getElem? (i := 397) (by decide +kernel)) (by decide +kernel)), wc2_readGathers, wi2, by decide +kernel⟩, (mv_inW (List.mem_of_getElem? (i := 399) (by decide +kernel)) (by decide +kernel)), (mv_inW (List.mem_of_getElem? (i := 9) (by decide +kernel)) (by decide +kernel)), by decide, rfl⟩
set_option maxRecDepth 20000 in
theorem lk5_93 : mv_LkV RX5 93 m1_copyFrom 1 1 := ⟨⟨(mv_inW (List.mem_of_getElem? (i := 401) (by decide +kernel)) (by decide +kernel)), wc1_copyFrom, wi1, by decide +kernel⟩, (mv_inW (List.mem_of_getElem? (i := 402) (by decide +kernel)) (by decide +kernel)), (mv_inW (List.mem_of_getElem? (i := 403) (by decide +kernel)) (by decide +kernel)), by decide, rfl⟩
set_option maxRecDepth 20000 in
theorem lkc1_47 : Cond.methodLink RX1 47 arraycopyName ∈ mv_W := (mv_inW (List.mem_of_getElem? (i := 405) (by decide +kernel)) (by decide +kernel))
set_option maxRecDepth 20000 in
theorem lk5_96 : mv_LkV RX5 96 m3_restart 1 3 := ⟨⟨(mv_inW (List.mem_of_getElem? (i := 408) (by decide +kernel)) (by decide +kernel)), wc3_restart, wi3, by decide +kernel⟩, (mv_inW (List.mem_of_getElem? (i := 185) (by decide +kernel)) (by decide +kernel)), (mv_inW (List.mem_of_getElem? (i := 186) (by decide +kernel)) (by decide +kernel)), by decide, rfl⟩
set_option maxRecDepth 20000 in
theorem lk5_111 : mv_LkV RX5 111 m0_remember 1 0 := ⟨⟨(mv_inW (List.mem_of_getElem? (i := 413) (by decide +kernel)) (by decide +kernel)), wc0_remember, wi0, by decide +kernel⟩, (mv_inW (List.mem_of_getElem? (i := 414) (by decide +kernel)) (by decide +kernel)), (mv_inW (List.mem_of_getElem? (i := 415) (by decide +kernel)) (by decide +kernel)), by decide, rfl⟩
set_option maxRecDepth 20000 in
theorem lk0_27 : mv_LkV RX0 27 m3_copyFrom 1 3 := ⟨⟨(mv_inW (List.mem_of_getElem? (i := 417) (by decide +kernel)) (by decide +kernel)), wc3_copyFrom, wi3, by decide +kernel⟩, (mv_inW (List.mem_of_getElem? (i := 418) (by decide +kernel)) (by decide +kernel)), (mv_inW (List.mem_of_getElem? (i := 419) (by decide +kernel)) (by decide +kernel)), by decide, rfl⟩
set_option maxRecDepth 20000 in
theorem lkc3_74 : Cond.methodLink RX3 74 arraycopyName ∈ mv_W := (mv_inW (List.mem_of_getElem? (i := 421) (by decide +kernel)) (by decide +kernel))
set_option maxRecDepth 20000 in
theorem lkm0_31 : Cond.methodLink RX0 31 Lib.Math.min.name ∈ mv_W := (mv_inW (List.mem_of_getElem? (i := 422) (by decide +kernel)) (by decide +kernel))
set_option maxRecDepth 20000 in
theorem lk5_115 : mv_LkV RX5 115 m3_passTick 0 3 := ⟨⟨(mv_inW (List.mem_of_getElem? (i := 423) (by decide +kernel)) (by decide +kernel)), wc3_passTick, wi3, by decide +kernel⟩, (mv_inW (List.mem_of_getElem? (i := 424) (by decide +kernel)) (by decide +kernel)), (mv_inW (List.mem_of_getElem? (i := 425) (by decide +kernel)) (by decide +kernel)), by decide, rfl⟩
set_option maxRecDepth 20000 in
theorem lk3_91 : mv_LkV RX3 91 m3_addCode 2 3 := ⟨⟨(mv_inW (List.mem_of_getElem? (i := 427) (by decide +kernel)) (by decide +kernel)), wc3_addCode, wi3, by decide +kernel⟩, (mv_inW (List.mem_of_getElem? (i := 429) (by decide +kernel)) (by decide +kernel)), (mv_inW (List.mem_of_getElem? (i := 10) (by decide +kernel)) (by decide +kernel)), by decide, rfl⟩
set_option maxRecDepth 20000 in
theorem lk3_94 : mv_LkV RX3 94 m3_close 2 3 := ⟨⟨(mv_inW (List.mem_of_getElem? (i := 431) (by decide +kernel)) (by decide +kernel)), wc3_close, wi3, by decide +kernel⟩, (mv_inW (List.mem_of_getElem? (i := 433) (by decide +kernel)) (by decide +kernel)), (mv_inW (List.mem_of_getElem? (i := 11) (by decide +kernel)) (by decide +kernel)), by decide, rfl⟩
set_option maxRecDepth 20000 in
theorem lk3_137 : mv_LkV RX3 137 m3_note 2 3 := ⟨⟨(mv_inW (List.mem_of_getElem? (i := 435) (by decide +kernel)) (by decide +kernel)), wc3_note, wi3, by decide +kernel⟩, (mv_inW (List.mem_of_getElem? (i := 437) (by decide +kernel)) (by decide +kernel)), (mv_inW (List.mem_of_getElem? (i := 12) (by decide +kernel)) (by decide +kernel)), by decide, rfl⟩
set_option maxRecDepth 20000 in
theorem lk3_134 : mv_LkV RX3 134 m3_askChildren 1 3 := ⟨⟨(mv_inW (List.mem_of_getElem? (i := 439) (by decide +kernel)) (by decide +kernel)), wc3_askChildren, wi3, by decide +kernel⟩, (mv_inW (List.mem_of_getElem? (i := 441) (by decide +kernel)) (by decide +kernel)), (mv_inW (List.mem_of_getElem? (i := 13) (by decide +kernel)) (by decide +kernel)), by decide, rfl⟩
set_option maxRecDepth 20000 in
theorem lk3_97 : mv_LkV RX3 97 m3_goOn 1 3 := ⟨⟨(mv_inW (List.mem_of_getElem? (i := 443) (by decide +kernel)) (by decide +kernel)), wc3_goOn, wi3, by decide +kernel⟩, (mv_inW (List.mem_of_getElem? (i := 445) (by decide +kernel)) (by decide +kernel)), (mv_inW (List.mem_of_getElem? (i := 14) (by decide +kernel)) (by decide +kernel)), by decide, rfl⟩
set_option maxRecDepth 20000 in
theorem lk3_124 : mv_LkV RX3 124 m3_operate 3 3 := ⟨⟨(mv_inW (List.mem_of_getElem? (i := 447) (by decide +kernel)) (by decide +kernel)), wc3_operate, wi3, by decide +kernel⟩, (mv_inW (List.mem_of_getElem? (i := 449) (by decide +kernel)) (by decide +kernel)), (mv_inW (List.mem_of_getElem? (i := 15) (by decide +kernel)) (by decide +kernel)), by decide, rfl⟩
set_option maxRecDepth 20000 in
theorem lk3_128 : mv_LkV RX3 128 m3_work 2 3 := ⟨⟨(mv_inW (List.mem_of_getElem? (i := 451) (by decide +kernel)) (by decide +kernel)), wc3_work, wi3, by decide +kernel⟩, (mv_inW (List.mem_of_getElem? (i := 453) (by decide +kernel)) (by decide +kernel)), (mv_inW (List.mem_of_getElem? (i := 16) (by decide +kernel)) (by decide +kernel)), by decide, rfl⟩
set_option maxRecDepth 20000 in
theorem lk3_131 : mv_LkV RX3 131 m3_beginChild 1 3 := ⟨⟨(mv_inW (List.mem_of_getElem? (i := 455) (by decide +kernel)) (by decide +kernel)), wc3_beginChild, wi3, by decide +kernel⟩, (mv_inW (List.mem_of_getElem? (i := 457) (by decide +kernel)) (by decide +kernel)), (mv_inW (List.mem_of_getElem? (i := 17) (by decide +kernel)) (by decide +kernel)), by decide, rfl⟩
set_option maxRecDepth 20000 in
theorem lk3_101 : mv_LkV RX3 101 m3_activeChildren 1 3 := ⟨⟨(mv_inW (List.mem_of_getElem? (i := 459) (by decide +kernel)) (by decide +kernel)), wc3_activeChildren, wi3, by decide +kernel⟩, (mv_inW (List.mem_of_getElem? (i := 460) (by decide +kernel)) (by decide +kernel)), (mv_inW (List.mem_of_getElem? (i := 461) (by decide +kernel)) (by decide +kernel)), by decide, rfl⟩
set_option maxRecDepth 20000 in
theorem lk3_105 : mv_LkV RX3 105 m3_cleansUp 1 3 := ⟨⟨(mv_inW (List.mem_of_getElem? (i := 463) (by decide +kernel)) (by decide +kernel)), wc3_cleansUp, wi3, by decide +kernel⟩, (mv_inW (List.mem_of_getElem? (i := 465) (by decide +kernel)) (by decide +kernel)), (mv_inW (List.mem_of_getElem? (i := 18) (by decide +kernel)) (by decide +kernel)), by decide, rfl⟩
set_option maxRecDepth 20000 in
theorem lk3_109 : mv_LkV RX3 109 m3_end 1 3 := ⟨⟨(mv_inW (List.mem_of_getElem? (i := 467) (by decide +kernel)) (by decide +kernel)), wc3_end, wi3, by decide +kernel⟩, (mv_inW (List.mem_of_getElem? (i := 469) (by decide +kernel)) (by decide +kernel)), (mv_inW (List.mem_of_getElem? (i := 19) (by decide +kernel)) (by decide +kernel)), by decide, rfl⟩
set_option maxRecDepth 20000 in
theorem lk3_152 : mv_LkV RX3 152 m3_giveList 2 3 := ⟨⟨(mv_inW (List.mem_of_getElem? (i := 471) (by decide +kernel)) (by decide +kernel)), wc3_giveList, wi3, by decide +kernel⟩, (mv_inW (List.mem_of_getElem? (i := 473) (by decide +kernel)) (by decide +kernel)), (mv_inW (List.mem_of_getElem? (i := 20) (by decide +kernel)) (by decide +kernel)), by decide, rfl⟩
set_option maxRecDepth 20000 in
theorem lk3_155 : mv_LkV RX3 155 m3_takeFailure 1 3 := ⟨⟨(mv_inW (List.mem_of_getElem? (i := 475) (by decide +kernel)) (by decide +kernel)), wc3_takeFailure, wi3, by decide +kernel⟩, (mv_inW (List.mem_of_getElem? (i := 477) (by decide +kernel)) (by decide +kernel)), (mv_inW (List.mem_of_getElem? (i := 21) (by decide +kernel)) (by decide +kernel)), by decide, rfl⟩
set_option maxRecDepth 20000 in
theorem lk5_118 : mv_LkV RX5 118 m5_isTask 1 5 := ⟨⟨(mv_inW (List.mem_of_getElem? (i := 483) (by decide +kernel)) (by decide +kernel)), wc5_isTask, wi5, by decide +kernel⟩, (mv_inW (List.mem_of_getElem? (i := 485) (by decide +kernel)) (by decide +kernel)), (mv_inW (List.mem_of_getElem? (i := 22) (by decide +kernel)) (by decide +kernel)), by decide, rfl⟩
set_option maxRecDepth 20000 in
theorem lk5_127 : mv_LkV RX5 127 m0_restore 1 0 := ⟨⟨(mv_inW (List.mem_of_getElem? (i := 491) (by decide +kernel)) (by decide +kernel)), wc0_restore, wi0, by decide +kernel⟩, (mv_inW (List.mem_of_getElem? (i := 492) (by decide +kernel)) (by decide +kernel)), (mv_inW (List.mem_of_getElem? (i := 493) (by decide +kernel)) (by decide +kernel)), by decide, rfl⟩
set_option maxRecDepth 20000 in
theorem lk5_144 : mv_LkV RX5 144 m3_activeChildren 1 3 := ⟨⟨(mv_inW (List.mem_of_getElem? (i := 500) (by decide +kernel)) (by decide +kernel)), wc3_activeChildren, wi3, by decide +kernel⟩, (mv_inW (List.mem_of_getElem? (i := 460) (by decide +kernel)) (by decide +kernel)), (mv_inW (List.mem_of_getElem? (i := 461) (by decide +kernel)) (by decide +kernel)), by decide, rfl⟩
set_option maxRecDepth 20000 in
theorem lk5_163 : mv_LkV RX5 163 m3_copyFrom 1 3 := ⟨⟨(mv_inW (List.mem_of_getElem? (i := 513) (by decide +kernel)) (by decide +kernel)), wc3_copyFrom, wi3, by decide +kernel⟩, (mv_inW (List.mem_of_getElem? (i := 418) (by decide +kernel)) (by decide +kernel)), (mv_inW (List.mem_of_getElem? (i := 419) (by decide +kernel)) (by decide +kernel)), by decide, rfl⟩
set_option maxRecDepth 20000 in
theorem lk5_165 : mv_LkV RX5 165 m3_passUntilEnded 2 3 := ⟨⟨(mv_inW (List.mem_of_getElem? (i := 514) (by decide +kernel)) (by decide +kernel)), wc3_passUntilEnded, wi3, by decide +kernel⟩, (mv_inW (List.mem_of_getElem? (i := 515) (by decide +kernel)) (by decide +kernel)), (mv_inW (List.mem_of_getElem? (i := 516) (by decide +kernel)) (by decide +kernel)), by decide, rfl⟩
set_option maxRecDepth 20000 in
theorem lk3_80 : mv_LkV RX3 80 m3_passTick 0 3 := ⟨⟨(mv_inW (List.mem_of_getElem? (i := 518) (by decide +kernel)) (by decide +kernel)), wc3_passTick, wi3, by decide +kernel⟩, (mv_inW (List.mem_of_getElem? (i := 424) (by decide +kernel)) (by decide +kernel)), (mv_inW (List.mem_of_getElem? (i := 425) (by decide +kernel)) (by decide +kernel)), by decide, rfl⟩
set_option maxRecDepth 20000 in
theorem lk5_172 : mv_LkV RX5 172 m5_suppose 2 5 := ⟨⟨(mv_inW (List.mem_of_getElem? (i := 523) (by decide +kernel)) (by decide +kernel)), wc5_suppose, wi5, by decide +kernel⟩, (mv_inW (List.mem_of_getElem? (i := 525) (by decide +kernel)) (by decide +kernel)), (mv_inW (List.mem_of_getElem? (i := 23) (by decide +kernel)) (by decide +kernel)), by decide, rfl⟩
set_option maxRecDepth 20000 in
theorem lk5_177 : mv_LkV RX5 177 m5_longestSeen 0 5 := ⟨⟨(mv_inW (List.mem_of_getElem? (i := 544) (by decide +kernel)) (by decide +kernel)), wc5_longestSeen, wi5, by decide +kernel⟩, (mv_inW (List.mem_of_getElem? (i := 546) (by decide +kernel)) (by decide +kernel)), (mv_inW (List.mem_of_getElem? (i := 24) (by decide +kernel)) (by decide +kernel)), by decide, rfl⟩
set_option maxRecDepth 20000 in
theorem lkm5_193 : Cond.methodLink RX5 193 Lib.Math.max.name ∈ mv_W := (mv_inW (List.mem_of_getElem? (i := 548) (by decide +kernel)) (by decide +kernel))
set_option maxRecDepth 20000 in
theorem lk5_181 : mv_LkV RX5 181 m5_agreesWithSeen 0 5 := ⟨⟨(mv_inW (List.mem_of_getElem? (i := 551) (by decide +kernel)) (by decide +kernel)), wc5_agreesWithSeen, wi5, by decide +kernel⟩, (mv_inW (List.mem_of_getElem? (i := 553) (by decide +kernel)) (by decide +kernel)), (mv_inW (List.mem_of_getElem? (i := 25) (by decide +kernel)) (by decide +kernel)), by decide, rfl⟩
set_option maxRecDepth 20000 in
theorem lk5_199 : mv_LkV RX5 199 m3_hadEndedBy 2 3 := ⟨⟨(mv_inW (List.mem_of_getElem? (i := 555) (by decide +kernel)) (by decide +kernel)), wc3_hadEndedBy, wi3, by decide +kernel⟩, (mv_inW (List.mem_of_getElem? (i := 556) (by decide +kernel)) (by decide +kernel)), (mv_inW (List.mem_of_getElem? (i := 557) (by decide +kernel)) (by decide +kernel)), by decide, rfl⟩
set_option maxRecDepth 20000 in
theorem lk5_187 : mv_LkV RX5 187 m3_countThatAre 1 3 := ⟨⟨(mv_inW (List.mem_of_getElem? (i := 571) (by decide +kernel)) (by decide +kernel)), wc3_countThatAre, wi3, by decide +kernel⟩, (mv_inW (List.mem_of_getElem? (i := 572) (by decide +kernel)) (by decide +kernel)), (mv_inW (List.mem_of_getElem? (i := 573) (by decide +kernel)) (by decide +kernel)), by decide, rfl⟩
set_option maxRecDepth 20000 in
theorem lko6_1 : Cond.methodLink RX6 1 Lib.objectInit ∈ mv_W := (mv_inW (List.mem_of_getElem? (i := 580) (by decide +kernel)) (by decide +kernel))
set_option maxRecDepth 20000 in
theorem lk6_74 : mv_LkV RX6 74 m6_begins 0 6 := ⟨⟨(mv_inW (List.mem_of_getElem? (i := 581) (by decide +kernel)) (by decide +kernel)), wc6_begins, wi6, by decide +kernel⟩, (mv_inW (List.mem_of_getElem? (i := 583) (by decide +kernel)) (by decide +kernel)), (mv_inW (List.mem_of_getElem? (i := 26) (by decide +kernel)) (by decide +kernel)), by decide, rfl⟩
set_option maxRecDepth 20000 in
theorem lk6_77 : mv_LkV RX6 77 m6_tellsAll 0 6 := ⟨⟨(mv_inW (List.mem_of_getElem? (i := 585) (by decide +kernel)) (by decide +kernel)), wc6_tellsAll, wi6, by decide +kernel⟩, (mv_inW (List.mem_of_getElem? (i := 587) (by decide +kernel)) (by decide +kernel)), (mv_inW (List.mem_of_getElem? (i := 27) (by decide +kernel)) (by decide +kernel)), by decide, rfl⟩
set_option maxRecDepth 20000 in
theorem lk6_148 : mv_LkV RX6 148 m6_starts 1 6 := ⟨⟨(mv_inW (List.mem_of_getElem? (i := 589) (by decide +kernel)) (by decide +kernel)), wc6_starts, wi6, by decide +kernel⟩, (mv_inW (List.mem_of_getElem? (i := 591) (by decide +kernel)) (by decide +kernel)), (mv_inW (List.mem_of_getElem? (i := 28) (by decide +kernel)) (by decide +kernel)), by decide, rfl⟩
set_option maxRecDepth 20000 in
theorem lk6_80 : mv_LkS RX6 80 m6_in 3 := ⟨⟨(mv_inW (List.mem_of_getElem? (i := 700) (by decide +kernel)) (by decide +kernel)), wc6_in, wi6, by decide +kernel⟩, (mv_inW (List.mem_of_getElem? (i := 701) (by decide +kernel)) (by decide +kernel)), rfl⟩
set_option maxRecDepth 20000 in
theorem lk6_91 : mv_LkV RX6 91 m6_blanks 0 6 := ⟨⟨(mv_inW (List.mem_of_getElem? (i := 711) (by decide +kernel)) (by decide +kernel)), wc6_blanks, wi6, by decide +kernel⟩, (mv_inW (List.mem_of_getElem? (i := 713) (by decide +kernel)) (by decide +kernel)), (mv_inW (List.mem_of_getElem? (i := 29) (by decide +kernel)) (by decide +kernel)), by decide, rfl⟩
set_option maxRecDepth 20000 in
theorem lk6_158 : mv_LkV RX6 158 m6_readsItem 0 6 := ⟨⟨(mv_inW (List.mem_of_getElem? (i := 715) (by decide +kernel)) (by decide +kernel)), wc6_readsItem, wi6, by decide +kernel⟩, (mv_inW (List.mem_of_getElem? (i := 717) (by decide +kernel)) (by decide +kernel)), (mv_inW (List.mem_of_getElem? (i := 30) (by decide +kernel)) (by decide +kernel)), by decide, rfl⟩
set_option maxRecDepth 20000 in
theorem lk6_114 : mv_LkV RX6 114 m6_next 0 6 := ⟨⟨(mv_inW (List.mem_of_getElem? (i := 719) (by decide +kernel)) (by decide +kernel)), wc6_next, wi6, by decide +kernel⟩, (mv_inW (List.mem_of_getElem? (i := 721) (by decide +kernel)) (by decide +kernel)), (mv_inW (List.mem_of_getElem? (i := 31) (by decide +kernel)) (by decide +kernel)), by decide, rfl⟩
set_option maxRecDepth 20000 in
theorem lk6_100 : mv_LkV RX6 100 m6_isFigure 0 6 := ⟨⟨(mv_inW (List.mem_of_getElem? (i := 723) (by decide +kernel)) (by decide +kernel)), wc6_isFigure, wi6, by decide +kernel⟩, (mv_inW (List.mem_of_getElem? (i := 725) (by decide +kernel)) (by decide +kernel)), (mv_inW (List.mem_of_getElem? (i := 32) (by decide +kernel)) (by decide +kernel)), by decide, rfl⟩
set_option maxRecDepth 20000 in
theorem lk6_107 : mv_LkS RX6 107 m6_isToken 1 := ⟨⟨(mv_inW (List.mem_of_getElem? (i := 727) (by decide +kernel)) (by decide +kernel)), wc6_isToken, wi6, by decide +kernel⟩, (mv_inW (List.mem_of_getElem? (i := 728) (by decide +kernel)) (by decide +kernel)), rfl⟩
set_option maxRecDepth 20000 in
theorem lk6_117 : mv_LkV RX6 117 m6_fails 0 6 := ⟨⟨(mv_inW (List.mem_of_getElem? (i := 730) (by decide +kernel)) (by decide +kernel)), wc6_fails, wi6, by decide +kernel⟩, (mv_inW (List.mem_of_getElem? (i := 732) (by decide +kernel)) (by decide +kernel)), (mv_inW (List.mem_of_getElem? (i := 33) (by decide +kernel)) (by decide +kernel)), by decide, rfl⟩
set_option maxRecDepth 20000 in
theorem lk6_130 : mv_LkV RX6 130 m6_readsProgram 1 6 := ⟨⟨(mv_inW (List.mem_of_getElem? (i := 734) (by decide +kernel)) (by decide +kernel)), wc6_readsProgram, wi6, by decide +kernel⟩, (mv_inW (List.mem_of_getElem? (i := 736) (by decide +kernel)) (by decide +kernel)), (mv_inW (List.mem_of_getElem? (i := 34) (by decide +kernel)) (by decide +kernel)), by decide, rfl⟩
set_option maxRecDepth 20000 in
theorem lk6_126 : mv_LkV RX6 126 m6_number 2 6 := ⟨⟨(mv_inW (List.mem_of_getElem? (i := 738) (by decide +kernel)) (by decide +kernel)), wc6_number, wi6, by decide +kernel⟩, (mv_inW (List.mem_of_getElem? (i := 740) (by decide +kernel)) (by decide +kernel)), (mv_inW (List.mem_of_getElem? (i := 35) (by decide +kernel)) (by decide +kernel)), by decide, rfl⟩
set_option maxRecDepth 20000 in
theorem lk6_136 : mv_LkV RX6 136 m6_readsTask 0 6 := ⟨⟨(mv_inW (List.mem_of_getElem? (i := 742) (by decide +kernel)) (by decide +kernel)), wc6_readsTask, wi6, by decide +kernel⟩, (mv_inW (List.mem_of_getElem? (i := 744) (by decide +kernel)) (by decide +kernel)), (mv_inW (List.mem_of_getElem? (i := 36) (by decide +kernel)) (by decide +kernel)), by decide, rfl⟩
set_option maxRecDepth 20000 in
theorem lk6_139 : mv_LkV RX6 139 m6_readsOf 1 6 := ⟨⟨(mv_inW (List.mem_of_getElem? (i := 746) (by decide +kernel)) (by decide +kernel)), wc6_readsOf, wi6, by decide +kernel⟩, (mv_inW (List.mem_of_getElem? (i := 748) (by decide +kernel)) (by decide +kernel)), (mv_inW (List.mem_of_getElem? (i := 37) (by decide +kernel)) (by decide +kernel)), by decide, rfl⟩
set_option maxRecDepth 20000 in
theorem lk6_133 : mv_LkV RX6 133 m6_ends 0 6 := ⟨⟨(mv_inW (List.mem_of_getElem? (i := 750) (by decide +kernel)) (by decide +kernel)), wc6_ends, wi6, by decide +kernel⟩, (mv_inW (List.mem_of_getElem? (i := 752) (by decide +kernel)) (by decide +kernel)), (mv_inW (List.mem_of_getElem? (i := 38) (by decide +kernel)) (by decide +kernel)), by decide, rfl⟩
set_option maxRecDepth 20000 in
theorem lk6_165 : mv_LkS RX6 165 m6_isHow 3 := ⟨⟨(mv_inW (List.mem_of_getElem? (i := 758) (by decide +kernel)) (by decide +kernel)), wc6_isHow, wi6, by decide +kernel⟩, (mv_inW (List.mem_of_getElem? (i := 759) (by decide +kernel)) (by decide +kernel)), rfl⟩
set_option maxRecDepth 20000 in
theorem lk6_208 : mv_LkV RX6 208 m6_remember 0 6 := ⟨⟨(mv_inW (List.mem_of_getElem? (i := 761) (by decide +kernel)) (by decide +kernel)), wc6_remember, wi6, by decide +kernel⟩, (mv_inW (List.mem_of_getElem? (i := 763) (by decide +kernel)) (by decide +kernel)), (mv_inW (List.mem_of_getElem? (i := 39) (by decide +kernel)) (by decide +kernel)), by decide, rfl⟩
set_option maxRecDepth 20000 in
theorem lk6_211 : mv_LkV RX6 211 m6_tick 1 6 := ⟨⟨(mv_inW (List.mem_of_getElem? (i := 765) (by decide +kernel)) (by decide +kernel)), wc6_tick, wi6, by decide +kernel⟩, (mv_inW (List.mem_of_getElem? (i := 767) (by decide +kernel)) (by decide +kernel)), (mv_inW (List.mem_of_getElem? (i := 40) (by decide +kernel)) (by decide +kernel)), by decide, rfl⟩
set_option maxRecDepth 20000 in
theorem lk6_161 : mv_LkS RX6 161 m6_at 3 := ⟨⟨(mv_inW (List.mem_of_getElem? (i := 769) (by decide +kernel)) (by decide +kernel)), wc6_at, wi6, by decide +kernel⟩, (mv_inW (List.mem_of_getElem? (i := 770) (by decide +kernel)) (by decide +kernel)), rfl⟩
set_option maxRecDepth 20000 in
theorem lk6_187 : mv_LkS RX6 187 m6_codes 3 := ⟨⟨(mv_inW (List.mem_of_getElem? (i := 772) (by decide +kernel)) (by decide +kernel)), wc6_codes, wi6, by decide +kernel⟩, (mv_inW (List.mem_of_getElem? (i := 773) (by decide +kernel)) (by decide +kernel)), rfl⟩
set_option maxRecDepth 20000 in
theorem lk6_190 : mv_LkV RX6 190 m6_closes 3 6 := ⟨⟨(mv_inW (List.mem_of_getElem? (i := 775) (by decide +kernel)) (by decide +kernel)), wc6_closes, wi6, by decide +kernel⟩, (mv_inW (List.mem_of_getElem? (i := 777) (by decide +kernel)) (by decide +kernel)), (mv_inW (List.mem_of_getElem? (i := 41) (by decide +kernel)) (by decide +kernel)), by decide, rfl⟩
set_option maxRecDepth 20000 in
theorem lk6_169 : mv_LkV RX6 169 m6_asksChildren 2 6 := ⟨⟨(mv_inW (List.mem_of_getElem? (i := 779) (by decide +kernel)) (by decide +kernel)), wc6_asksChildren, wi6, by decide +kernel⟩, (mv_inW (List.mem_of_getElem? (i := 781) (by decide +kernel)) (by decide +kernel)), (mv_inW (List.mem_of_getElem? (i := 42) (by decide +kernel)) (by decide +kernel)), by decide, rfl⟩
set_option maxRecDepth 20000 in
theorem lk6_173 : mv_LkS RX6 173 m6_traces 3 := ⟨⟨(mv_inW (List.mem_of_getElem? (i := 783) (by decide +kernel)) (by decide +kernel)), wc6_traces, wi6, by decide +kernel⟩, (mv_inW (List.mem_of_getElem? (i := 784) (by decide +kernel)) (by decide +kernel)), rfl⟩
set_option maxRecDepth 20000 in
theorem lk6_199 : mv_LkV RX6 199 m6_moves 2 6 := ⟨⟨(mv_inW (List.mem_of_getElem? (i := 786) (by decide +kernel)) (by decide +kernel)), wc6_moves, wi6, by decide +kernel⟩, (mv_inW (List.mem_of_getElem? (i := 788) (by decide +kernel)) (by decide +kernel)), (mv_inW (List.mem_of_getElem? (i := 43) (by decide +kernel)) (by decide +kernel)), by decide, rfl⟩
set_option maxRecDepth 20000 in
theorem lk6_193 : mv_LkV RX6 193 m6_works 2 6 := ⟨⟨(mv_inW (List.mem_of_getElem? (i := 790) (by decide +kernel)) (by decide +kernel)), wc6_works, wi6, by decide +kernel⟩, (mv_inW (List.mem_of_getElem? (i := 792) (by decide +kernel)) (by decide +kernel)), (mv_inW (List.mem_of_getElem? (i := 44) (by decide +kernel)) (by decide +kernel)), by decide, rfl⟩
set_option maxRecDepth 20000 in
theorem lk6_180 : mv_LkV RX6 180 m6_beginsChild 2 6 := ⟨⟨(mv_inW (List.mem_of_getElem? (i := 794) (by decide +kernel)) (by decide +kernel)), wc6_beginsChild, wi6, by decide +kernel⟩, (mv_inW (List.mem_of_getElem? (i := 796) (by decide +kernel)) (by decide +kernel)), (mv_inW (List.mem_of_getElem? (i := 45) (by decide +kernel)) (by decide +kernel)), by decide, rfl⟩
set_option maxRecDepth 20000 in
theorem lk6_177 : mv_LkV RX6 177 m6_begin 2 6 := ⟨⟨(mv_inW (List.mem_of_getElem? (i := 798) (by decide +kernel)) (by decide +kernel)), wc6_begin, wi6, by decide +kernel⟩, (mv_inW (List.mem_of_getElem? (i := 800) (by decide +kernel)) (by decide +kernel)), (mv_inW (List.mem_of_getElem? (i := 46) (by decide +kernel)) (by decide +kernel)), by decide, rfl⟩
set_option maxRecDepth 20000 in
theorem lk6_183 : mv_LkV RX6 183 m6_isBusy 2 6 := ⟨⟨(mv_inW (List.mem_of_getElem? (i := 802) (by decide +kernel)) (by decide +kernel)), wc6_isBusy, wi6, by decide +kernel⟩, (mv_inW (List.mem_of_getElem? (i := 804) (by decide +kernel)) (by decide +kernel)), (mv_inW (List.mem_of_getElem? (i := 47) (by decide +kernel)) (by decide +kernel)), by decide, rfl⟩
set_option maxRecDepth 20000 in
theorem lk6_202 : mv_LkV RX6 202 m6_cleansUp 2 6 := ⟨⟨(mv_inW (List.mem_of_getElem? (i := 806) (by decide +kernel)) (by decide +kernel)), wc6_cleansUp, wi6, by decide +kernel⟩, (mv_inW (List.mem_of_getElem? (i := 808) (by decide +kernel)) (by decide +kernel)), (mv_inW (List.mem_of_getElem? (i := 48) (by decide +kernel)) (by decide +kernel)), by decide, rfl⟩
set_option maxRecDepth 20000 in
theorem lk6_196 : mv_LkV RX6 196 m6_gives 2 6 := ⟨⟨(mv_inW (List.mem_of_getElem? (i := 810) (by decide +kernel)) (by decide +kernel)), wc6_gives, wi6, by decide +kernel⟩, (mv_inW (List.mem_of_getElem? (i := 812) (by decide +kernel)) (by decide +kernel)), (mv_inW (List.mem_of_getElem? (i := 49) (by decide +kernel)) (by decide +kernel)), by decide, rfl⟩
set_option maxRecDepth 20000 in
theorem lk6_214 : mv_LkV RX6 214 m6_isTask 1 6 := ⟨⟨(mv_inW (List.mem_of_getElem? (i := 818) (by decide +kernel)) (by decide +kernel)), wc6_isTask, wi6, by decide +kernel⟩, (mv_inW (List.mem_of_getElem? (i := 820) (by decide +kernel)) (by decide +kernel)), (mv_inW (List.mem_of_getElem? (i := 50) (by decide +kernel)) (by decide +kernel)), by decide, rfl⟩
set_option maxRecDepth 20000 in
theorem lk6_217 : mv_LkV RX6 217 m6_busySet 1 6 := ⟨⟨(mv_inW (List.mem_of_getElem? (i := 830) (by decide +kernel)) (by decide +kernel)), wc6_busySet, wi6, by decide +kernel⟩, (mv_inW (List.mem_of_getElem? (i := 832) (by decide +kernel)) (by decide +kernel)), (mv_inW (List.mem_of_getElem? (i := 51) (by decide +kernel)) (by decide +kernel)), by decide, rfl⟩
set_option maxRecDepth 20000 in
theorem lk6_221 : mv_LkS RX6 221 m6_copies 2 := ⟨⟨(mv_inW (List.mem_of_getElem? (i := 846) (by decide +kernel)) (by decide +kernel)), wc6_copies, wi6, by decide +kernel⟩, (mv_inW (List.mem_of_getElem? (i := 847) (by decide +kernel)) (by decide +kernel)), rfl⟩
set_option maxRecDepth 20000 in
theorem lk6_225 : mv_LkV RX6 225 m6_goesOn 1 6 := ⟨⟨(mv_inW (List.mem_of_getElem? (i := 849) (by decide +kernel)) (by decide +kernel)), wc6_goesOn, wi6, by decide +kernel⟩, (mv_inW (List.mem_of_getElem? (i := 851) (by decide +kernel)) (by decide +kernel)), (mv_inW (List.mem_of_getElem? (i := 52) (by decide +kernel)) (by decide +kernel)), by decide, rfl⟩
set_option maxRecDepth 20000 in
theorem lk6_230 : mv_LkV RX6 230 m6_howMany 1 6 := ⟨⟨(mv_inW (List.mem_of_getElem? (i := 886) (by decide +kernel)) (by decide +kernel)), wc6_howMany, wi6, by decide +kernel⟩, (mv_inW (List.mem_of_getElem? (i := 888) (by decide +kernel)) (by decide +kernel)), (mv_inW (List.mem_of_getElem? (i := 53) (by decide +kernel)) (by decide +kernel)), by decide, rfl⟩
set_option maxRecDepth 20000 in
theorem wn5 : Cond.instantiable RX5 14 ∈ mv_W := (mv_inW (List.mem_of_getElem? (i := 65) (by decide +kernel)) (by decide +kernel))
set_option maxRecDepth 20000 in
theorem cl5_7 : Cond.classLink RX5 7 RX4 ∈ mv_W := (mv_inW (List.mem_of_getElem? (i := 72) (by decide +kernel)) (by decide +kernel))
set_option maxRecDepth 20000 in
theorem wn4 : Cond.instantiable RX4 6 ∈ mv_W := (mv_inW (List.mem_of_getElem? (i := 73) (by decide +kernel)) (by decide +kernel))
set_option maxRecDepth 20000 in
theorem cl5_16 : Cond.classLink RX5 16 RX1 ∈ mv_W := (mv_inW (List.mem_of_getElem? (i := 102) (by decide +kernel)) (by decide +kernel))
set_option maxRecDepth 20000 in
theorem wn1 : Cond.instantiable RX1 9 ∈ mv_W := (mv_inW (List.mem_of_getElem? (i := 103) (by decide +kernel)) (by decide +kernel))
set_option maxRecDepth 20000 in
theorem cl5_29 : Cond.classLink RX5 29 RX2 ∈ mv_W := (mv_inW (List.mem_of_getElem? (i := 161) (by decide +kernel)) (by decide +kernel))
set_option maxRecDepth 20000 in
theorem wn2 : Cond.instantiable RX2 3 ∈ mv_W := (mv_inW (List.mem_of_getElem? (i := 162) (by decide +kernel)) (by decide +kernel))
set_option maxRecDepth 20000 in
theorem cl5_38 : Cond.classLink RX5 38 RX3 ∈ mv_W := (mv_inW (List.mem_of_getElem? (i := 178) (by decide +kernel)) (by decide +kernel))
set_option maxRecDepth 20000 in
theorem wn3 : Cond.instantiable RX3 17 ∈ mv_W := (mv_inW (List.mem_of_getElem? (i := 179) (by decide +kernel)) (by decide +kernel))
set_option maxRecDepth 20000 in
theorem kc3_69 : Cond.constant RX3 69 (1000000) ∈ mv_W := (mv_inW (List.mem_of_getElem? (i := 188) (by decide +kernel)) (by decide +kernel))
set_option maxRecDepth 20000 in
theorem cl5_50 : Cond.classLink RX5 50 RX0 ∈ mv_W := (mv_inW (List.mem_of_getElem? (i := 261) (by decide +kernel)) (by decide +kernel))
set_option maxRecDepth 20000 in
theorem wn0 : Cond.instantiable RX0 3 ∈ mv_W := (mv_inW (List.mem_of_getElem? (i := 262) (by decide +kernel)) (by decide +kernel))
set_option maxRecDepth 20000 in
theorem cl0_9 : Cond.classLink RX0 9 RX3 ∈ mv_W := (mv_inW (List.mem_of_getElem? (i := 267) (by decide +kernel)) (by decide +kernel))
set_option maxRecDepth 20000 in
theorem kc5_140 : Cond.constant RX5 140 (1000000) ∈ mv_W := (mv_inW (List.mem_of_getElem? (i := 499) (by decide +kernel)) (by decide +kernel))
set_option maxRecDepth 20000 in
theorem kc5_176 : Cond.constant RX5 176 (-1000000) ∈ mv_W := (mv_inW (List.mem_of_getElem? (i := 531) (by decide +kernel)) (by decide +kernel))
set_option maxRecDepth 20000 in
theorem wn6 : Cond.instantiable RX6 34 ∈ mv_W := (mv_inW (List.mem_of_getElem? (i := 576) (by decide +kernel)) (by decide +kernel))
set_option maxRecDepth 20000 in
theorem kc6_229 : Cond.constant RX6 229 (-1000000) ∈ mv_W := (mv_inW (List.mem_of_getElem? (i := 861) (by decide +kernel)) (by decide +kernel))
set_option maxRecDepth 20000 in
theorem wa_int : Cond.arrayClass .int ∈ mv_W := (mv_inW (List.mem_of_getElem? (i := 101) (by decide +kernel)) (by decide +kernel))
set_option maxRecDepth 20000 in
theorem wa_boolean : Cond.arrayClass .boolean ∈ mv_W := (mv_inW (List.mem_of_getElem? (i := 324) (by decide +kernel)) (by decide +kernel))
set_option maxRecDepth 20000 in
theorem wo_i : Cond.instanceMethod Lib.objectInit ∈ mv_W := (mv_inW (List.mem_of_getElem? (i := 70) (by decide +kernel)) (by decide +kernel))
set_option maxRecDepth 20000 in
theorem wo_c : Cond.code Lib.objectInit ⟨#[0xb1]⟩ 1 none ∈ mv_W := (mv_inW (List.mem_of_getElem? (i := 71) (by decide +kernel)) (by decide +kernel))
set_option maxRecDepth 20000 in
theorem wm_smin : Cond.static Lib.Math.min.name ∈ mv_W := (mv_inW (List.mem_of_getElem? (i := 194) (by decide +kernel)) (by decide +kernel))
set_option maxRecDepth 20000 in
theorem wm_cmin : Cond.code Lib.Math.min.name Lib.Math.min.code 2 (some .int) ∈ mv_W := (mv_inW (List.mem_of_getElem? (i := 195) (by decide +kernel)) (by decide +kernel))
set_option maxRecDepth 20000 in
theorem wm_smax : Cond.static Lib.Math.max.name ∈ mv_W := (mv_inW (List.mem_of_getElem? (i := 549) (by decide +kernel)) (by decide +kernel))
set_option maxRecDepth 20000 in
theorem wm_cmax : Cond.code Lib.Math.max.name Lib.Math.max.code 2 (some .int) ∈ mv_W := (mv_inW (List.mem_of_getElem? (i := 550) (by decide +kernel)) (by decide +kernel))
set_option maxRecDepth 20000 in
theorem wm_i : Cond.initialized "java/lang/Math" ∈ mv_W := (mv_inW (List.mem_of_getElem? (i := 60) (by decide +kernel)) (by decide +kernel))
set_option maxRecDepth 20000 in
theorem ws_n : Cond.native arraycopyName ∈ mv_W := (mv_inW (List.mem_of_getElem? (i := 407) (by decide +kernel)) (by decide +kernel))
set_option maxRecDepth 20000 in
theorem ws_s : Cond.static arraycopyName ∈ mv_W := (mv_inW (List.mem_of_getElem? (i := 406) (by decide +kernel)) (by decide +kernel))
set_option maxRecDepth 20000 in
theorem ws_i : Cond.initialized "java/lang/System" ∈ mv_W := (mv_inW (List.mem_of_getElem? (i := 63) (by decide +kernel)) (by decide +kernel))
set_option maxRecDepth 20000 in
theorem wt_i : Cond.instanceMethod yX4_init ∈ mv_W := (mv_inW (List.mem_of_getElem? (i := 75) (by decide +kernel)) (by decide +kernel))
