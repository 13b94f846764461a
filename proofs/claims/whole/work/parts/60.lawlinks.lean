set_option maxRecDepth 20000 in
theorem clL_7 : Cond.classLink RL 7 RX5 ∈ mv_W := (mv_inW (List.mem_of_getElem? (i := 64) (by decide +kernel)) (by decide +kernel))
set_option maxRecDepth 20000 in
theorem lkL_9 : mv_LkI RL 9 m5_init 0 := ⟨⟨(mv_inW (List.mem_of_getElem? (i := 66) (by decide +kernel)) (by decide +kernel)), wc5_init, wi5, by decide +kernel⟩, (mv_inW (List.mem_of_getElem? (i := 67) (by decide +kernel)) (by decide +kernel)), rfl, rfl⟩
set_option maxRecDepth 20000 in
theorem lkL_13 : mv_LkV RL 13 m5_type 1 5 := ⟨⟨(mv_inW (List.mem_of_getElem? (i := 325) (by decide +kernel)) (by decide +kernel)), wc5_type, wi5, by decide +kernel⟩, (mv_inW (List.mem_of_getElem? (i := 326) (by decide +kernel)) (by decide +kernel)), (mv_inW (List.mem_of_getElem? (i := 327) (by decide +kernel)) (by decide +kernel)), by decide, rfl⟩
set_option maxRecDepth 20000 in
theorem lkL_18 : mv_LkV RL 18 m5_clear 0 5 := ⟨⟨(mv_inW (List.mem_of_getElem? (i := 333) (by decide +kernel)) (by decide +kernel)), wc5_clear, wi5, by decide +kernel⟩, (mv_inW (List.mem_of_getElem? (i := 334) (by decide +kernel)) (by decide +kernel)), (mv_inW (List.mem_of_getElem? (i := 335) (by decide +kernel)) (by decide +kernel)), by decide, rfl⟩
set_option maxRecDepth 20000 in
theorem lkL_23 : mv_LkV RL 23 m5_tree 0 5 := ⟨⟨(mv_inW (List.mem_of_getElem? (i := 337) (by decide +kernel)) (by decide +kernel)), wc5_tree, wi5, by decide +kernel⟩, (mv_inW (List.mem_of_getElem? (i := 338) (by decide +kernel)) (by decide +kernel)), (mv_inW (List.mem_of_getElem? (i := 339) (by decide +kernel)) (by decide +kernel)), by decide, rfl⟩
set_option maxRecDepth 20000 in
theorem lkL_27 : mv_LkV RL 27 m5_ticks 1 5 := ⟨⟨(mv_inW (List.mem_of_getElem? (i := 409) (by decide +kernel)) (by decide +kernel)), wc5_ticks, wi5, by decide +kernel⟩, (mv_inW (List.mem_of_getElem? (i := 410) (by decide +kernel)) (by decide +kernel)), (mv_inW (List.mem_of_getElem? (i := 411) (by decide +kernel)) (by decide +kernel)), by decide, rfl⟩
set_option maxRecDepth 20000 in
theorem lkL_31 : mv_LkV RL 31 m5_asks 1 5 := ⟨⟨(mv_inW (List.mem_of_getElem? (i := 479) (by decide +kernel)) (by decide +kernel)), wc5_asks, wi5, by decide +kernel⟩, (mv_inW (List.mem_of_getElem? (i := 480) (by decide +kernel)) (by decide +kernel)), (mv_inW (List.mem_of_getElem? (i := 481) (by decide +kernel)) (by decide +kernel)), by decide, rfl⟩
set_option maxRecDepth 20000 in
theorem lkL_35 : mv_LkV RL 35 m5_undo 0 5 := ⟨⟨(mv_inW (List.mem_of_getElem? (i := 487) (by decide +kernel)) (by decide +kernel)), wc5_undo, wi5, by decide +kernel⟩, (mv_inW (List.mem_of_getElem? (i := 488) (by decide +kernel)) (by decide +kernel)), (mv_inW (List.mem_of_getElem? (i := 489) (by decide +kernel)) (by decide +kernel)), by decide, rfl⟩
set_option maxRecDepth 20000 in
theorem lkL_39 : mv_LkV RL 39 m5_task 2 5 := ⟨⟨(mv_inW (List.mem_of_getElem? (i := 495) (by decide +kernel)) (by decide +kernel)), wc5_task, wi5, by decide +kernel⟩, (mv_inW (List.mem_of_getElem? (i := 496) (by decide +kernel)) (by decide +kernel)), (mv_inW (List.mem_of_getElem? (i := 497) (by decide +kernel)) (by decide +kernel)), by decide, rfl⟩
set_option maxRecDepth 20000 in
theorem lkL_44 : mv_LkV RL 44 m5_failure 2 5 := ⟨⟨(mv_inW (List.mem_of_getElem? (i := 501) (by decide +kernel)) (by decide +kernel)), wc5_failure, wi5, by decide +kernel⟩, (mv_inW (List.mem_of_getElem? (i := 502) (by decide +kernel)) (by decide +kernel)), (mv_inW (List.mem_of_getElem? (i := 503) (by decide +kernel)) (by decide +kernel)), by decide, rfl⟩
set_option maxRecDepth 20000 in
theorem lkL_48 : mv_LkV RL 48 m5_trace 2 5 := ⟨⟨(mv_inW (List.mem_of_getElem? (i := 505) (by decide +kernel)) (by decide +kernel)), wc5_trace, wi5, by decide +kernel⟩, (mv_inW (List.mem_of_getElem? (i := 506) (by decide +kernel)) (by decide +kernel)), (mv_inW (List.mem_of_getElem? (i := 507) (by decide +kernel)) (by decide +kernel)), by decide, rfl⟩
set_option maxRecDepth 20000 in
theorem lkL_52 : mv_LkV RL 52 m5_ends 2 5 := ⟨⟨(mv_inW (List.mem_of_getElem? (i := 509) (by decide +kernel)) (by decide +kernel)), wc5_ends, wi5, by decide +kernel⟩, (mv_inW (List.mem_of_getElem? (i := 510) (by decide +kernel)) (by decide +kernel)), (mv_inW (List.mem_of_getElem? (i := 511) (by decide +kernel)) (by decide +kernel)), by decide, rfl⟩
set_option maxRecDepth 20000 in
theorem lkL_56 : mv_LkV RL 56 m5_wellBy 0 5 := ⟨⟨(mv_inW (List.mem_of_getElem? (i := 519) (by decide +kernel)) (by decide +kernel)), wc5_wellBy, wi5, by decide +kernel⟩, (mv_inW (List.mem_of_getElem? (i := 520) (by decide +kernel)) (by decide +kernel)), (mv_inW (List.mem_of_getElem? (i := 521) (by decide +kernel)) (by decide +kernel)), by decide, rfl⟩
set_option maxRecDepth 20000 in
theorem lkL_60 : mv_LkV RL 60 m5_spares 1 5 := ⟨⟨(mv_inW (List.mem_of_getElem? (i := 527) (by decide +kernel)) (by decide +kernel)), wc5_spares, wi5, by decide +kernel⟩, (mv_inW (List.mem_of_getElem? (i := 528) (by decide +kernel)) (by decide +kernel)), (mv_inW (List.mem_of_getElem? (i := 529) (by decide +kernel)) (by decide +kernel)), by decide, rfl⟩
set_option maxRecDepth 20000 in
theorem lkL_64 : mv_LkV RL 64 m5_sees 3 5 := ⟨⟨(mv_inW (List.mem_of_getElem? (i := 532) (by decide +kernel)) (by decide +kernel)), wc5_sees, wi5, by decide +kernel⟩, (mv_inW (List.mem_of_getElem? (i := 533) (by decide +kernel)) (by decide +kernel)), (mv_inW (List.mem_of_getElem? (i := 534) (by decide +kernel)) (by decide +kernel)), by decide, rfl⟩
set_option maxRecDepth 20000 in
theorem lkL_69 : mv_LkV RL 69 m5_forget 0 5 := ⟨⟨(mv_inW (List.mem_of_getElem? (i := 536) (by decide +kernel)) (by decide +kernel)), wc5_forget, wi5, by decide +kernel⟩, (mv_inW (List.mem_of_getElem? (i := 537) (by decide +kernel)) (by decide +kernel)), (mv_inW (List.mem_of_getElem? (i := 538) (by decide +kernel)) (by decide +kernel)), by decide, rfl⟩
set_option maxRecDepth 20000 in
theorem lkL_73 : mv_LkV RL 73 m5_fits 1 5 := ⟨⟨(mv_inW (List.mem_of_getElem? (i := 540) (by decide +kernel)) (by decide +kernel)), wc5_fits, wi5, by decide +kernel⟩, (mv_inW (List.mem_of_getElem? (i := 541) (by decide +kernel)) (by decide +kernel)), (mv_inW (List.mem_of_getElem? (i := 542) (by decide +kernel)) (by decide +kernel)), by decide, rfl⟩
set_option maxRecDepth 20000 in
theorem lkL_77 : mv_LkV RL 77 m5_keep 1 5 := ⟨⟨(mv_inW (List.mem_of_getElem? (i := 559) (by decide +kernel)) (by decide +kernel)), wc5_keep, wi5, by decide +kernel⟩, (mv_inW (List.mem_of_getElem? (i := 560) (by decide +kernel)) (by decide +kernel)), (mv_inW (List.mem_of_getElem? (i := 561) (by decide +kernel)) (by decide +kernel)), by decide, rfl⟩
set_option maxRecDepth 20000 in
theorem lkL_81 : mv_LkV RL 81 m5_back 1 5 := ⟨⟨(mv_inW (List.mem_of_getElem? (i := 563) (by decide +kernel)) (by decide +kernel)), wc5_back, wi5, by decide +kernel⟩, (mv_inW (List.mem_of_getElem? (i := 564) (by decide +kernel)) (by decide +kernel)), (mv_inW (List.mem_of_getElem? (i := 565) (by decide +kernel)) (by decide +kernel)), by decide, rfl⟩
set_option maxRecDepth 20000 in
theorem lkL_85 : mv_LkV RL 85 m5_count 1 5 := ⟨⟨(mv_inW (List.mem_of_getElem? (i := 567) (by decide +kernel)) (by decide +kernel)), wc5_count, wi5, by decide +kernel⟩, (mv_inW (List.mem_of_getElem? (i := 568) (by decide +kernel)) (by decide +kernel)), (mv_inW (List.mem_of_getElem? (i := 569) (by decide +kernel)) (by decide +kernel)), by decide, rfl⟩
set_option maxRecDepth 20000 in
theorem clL_10 : Cond.classLink RL 10 RX6 ∈ mv_W := (mv_inW (List.mem_of_getElem? (i := 575) (by decide +kernel)) (by decide +kernel))
set_option maxRecDepth 20000 in
theorem lkL_12 : mv_LkI RL 12 m6_init 0 := ⟨⟨(mv_inW (List.mem_of_getElem? (i := 577) (by decide +kernel)) (by decide +kernel)), wc6_init, wi6, by decide +kernel⟩, (mv_inW (List.mem_of_getElem? (i := 578) (by decide +kernel)) (by decide +kernel)), rfl, rfl⟩
set_option maxRecDepth 20000 in
theorem lkL_17 : mv_LkV RL 17 m6_type 1 6 := ⟨⟨(mv_inW (List.mem_of_getElem? (i := 696) (by decide +kernel)) (by decide +kernel)), wc6_type, wi6, by decide +kernel⟩, (mv_inW (List.mem_of_getElem? (i := 697) (by decide +kernel)) (by decide +kernel)), (mv_inW (List.mem_of_getElem? (i := 698) (by decide +kernel)) (by decide +kernel)), by decide, rfl⟩
set_option maxRecDepth 20000 in
theorem lkL_22 : mv_LkV RL 22 m6_clear 0 6 := ⟨⟨(mv_inW (List.mem_of_getElem? (i := 703) (by decide +kernel)) (by decide +kernel)), wc6_clear, wi6, by decide +kernel⟩, (mv_inW (List.mem_of_getElem? (i := 704) (by decide +kernel)) (by decide +kernel)), (mv_inW (List.mem_of_getElem? (i := 705) (by decide +kernel)) (by decide +kernel)), by decide, rfl⟩
set_option maxRecDepth 20000 in
theorem lkL_26 : mv_LkV RL 26 m6_tree 0 6 := ⟨⟨(mv_inW (List.mem_of_getElem? (i := 707) (by decide +kernel)) (by decide +kernel)), wc6_tree, wi6, by decide +kernel⟩, (mv_inW (List.mem_of_getElem? (i := 708) (by decide +kernel)) (by decide +kernel)), (mv_inW (List.mem_of_getElem? (i := 709) (by decide +kernel)) (by decide +kernel)), by decide, rfl⟩
set_option maxRecDepth 20000 in
theorem lkL_30 : mv_LkV RL 30 m6_ticks 1 6 := ⟨⟨(mv_inW (List.mem_of_getElem? (i := 754) (by decide +kernel)) (by decide +kernel)), wc6_ticks, wi6, by decide +kernel⟩, (mv_inW (List.mem_of_getElem? (i := 755) (by decide +kernel)) (by decide +kernel)), (mv_inW (List.mem_of_getElem? (i := 756) (by decide +kernel)) (by decide +kernel)), by decide, rfl⟩
set_option maxRecDepth 20000 in
theorem lkL_34 : mv_LkV RL 34 m6_asks 1 6 := ⟨⟨(mv_inW (List.mem_of_getElem? (i := 814) (by decide +kernel)) (by decide +kernel)), wc6_asks, wi6, by decide +kernel⟩, (mv_inW (List.mem_of_getElem? (i := 815) (by decide +kernel)) (by decide +kernel)), (mv_inW (List.mem_of_getElem? (i := 816) (by decide +kernel)) (by decide +kernel)), by decide, rfl⟩
set_option maxRecDepth 20000 in
theorem lkL_38 : mv_LkV RL 38 m6_undo 0 6 := ⟨⟨(mv_inW (List.mem_of_getElem? (i := 822) (by decide +kernel)) (by decide +kernel)), wc6_undo, wi6, by decide +kernel⟩, (mv_inW (List.mem_of_getElem? (i := 823) (by decide +kernel)) (by decide +kernel)), (mv_inW (List.mem_of_getElem? (i := 824) (by decide +kernel)) (by decide +kernel)), by decide, rfl⟩
set_option maxRecDepth 20000 in
theorem lkL_43 : mv_LkV RL 43 m6_task 2 6 := ⟨⟨(mv_inW (List.mem_of_getElem? (i := 826) (by decide +kernel)) (by decide +kernel)), wc6_task, wi6, by decide +kernel⟩, (mv_inW (List.mem_of_getElem? (i := 827) (by decide +kernel)) (by decide +kernel)), (mv_inW (List.mem_of_getElem? (i := 828) (by decide +kernel)) (by decide +kernel)), by decide, rfl⟩
set_option maxRecDepth 20000 in
theorem lkL_47 : mv_LkV RL 47 m6_failure 2 6 := ⟨⟨(mv_inW (List.mem_of_getElem? (i := 834) (by decide +kernel)) (by decide +kernel)), wc6_failure, wi6, by decide +kernel⟩, (mv_inW (List.mem_of_getElem? (i := 835) (by decide +kernel)) (by decide +kernel)), (mv_inW (List.mem_of_getElem? (i := 836) (by decide +kernel)) (by decide +kernel)), by decide, rfl⟩
set_option maxRecDepth 20000 in
theorem lkL_51 : mv_LkV RL 51 m6_trace 2 6 := ⟨⟨(mv_inW (List.mem_of_getElem? (i := 838) (by decide +kernel)) (by decide +kernel)), wc6_trace, wi6, by decide +kernel⟩, (mv_inW (List.mem_of_getElem? (i := 839) (by decide +kernel)) (by decide +kernel)), (mv_inW (List.mem_of_getElem? (i := 840) (by decide +kernel)) (by decide +kernel)), by decide, rfl⟩
set_option maxRecDepth 20000 in
theorem lkL_55 : mv_LkV RL 55 m6_ends_ 2 6 := ⟨⟨(mv_inW (List.mem_of_getElem? (i := 842) (by decide +kernel)) (by decide +kernel)), wc6_ends_, wi6, by decide +kernel⟩, (mv_inW (List.mem_of_getElem? (i := 843) (by decide +kernel)) (by decide +kernel)), (mv_inW (List.mem_of_getElem? (i := 844) (by decide +kernel)) (by decide +kernel)), by decide, rfl⟩
set_option maxRecDepth 20000 in
theorem lkL_59 : mv_LkV RL 59 m6_wellBy 0 6 := ⟨⟨(mv_inW (List.mem_of_getElem? (i := 853) (by decide +kernel)) (by decide +kernel)), wc6_wellBy, wi6, by decide +kernel⟩, (mv_inW (List.mem_of_getElem? (i := 854) (by decide +kernel)) (by decide +kernel)), (mv_inW (List.mem_of_getElem? (i := 855) (by decide +kernel)) (by decide +kernel)), by decide, rfl⟩
set_option maxRecDepth 20000 in
theorem lkL_63 : mv_LkV RL 63 m6_spares 1 6 := ⟨⟨(mv_inW (List.mem_of_getElem? (i := 857) (by decide +kernel)) (by decide +kernel)), wc6_spares, wi6, by decide +kernel⟩, (mv_inW (List.mem_of_getElem? (i := 858) (by decide +kernel)) (by decide +kernel)), (mv_inW (List.mem_of_getElem? (i := 859) (by decide +kernel)) (by decide +kernel)), by decide, rfl⟩
set_option maxRecDepth 20000 in
theorem lkL_68 : mv_LkV RL 68 m6_sees 3 6 := ⟨⟨(mv_inW (List.mem_of_getElem? (i := 862) (by decide +kernel)) (by decide +kernel)), wc6_sees, wi6, by decide +kernel⟩, (mv_inW (List.mem_of_getElem? (i := 863) (by decide +kernel)) (by decide +kernel)), (mv_inW (List.mem_of_getElem? (i := 864) (by decide +kernel)) (by decide +kernel)), by decide, rfl⟩
set_option maxRecDepth 20000 in
theorem lkL_72 : mv_LkV RL 72 m6_forget 0 6 := ⟨⟨(mv_inW (List.mem_of_getElem? (i := 866) (by decide +kernel)) (by decide +kernel)), wc6_forget, wi6, by decide +kernel⟩, (mv_inW (List.mem_of_getElem? (i := 867) (by decide +kernel)) (by decide +kernel)), (mv_inW (List.mem_of_getElem? (i := 868) (by decide +kernel)) (by decide +kernel)), by decide, rfl⟩
set_option maxRecDepth 20000 in
theorem lkL_76 : mv_LkV RL 76 m6_fits 1 6 := ⟨⟨(mv_inW (List.mem_of_getElem? (i := 870) (by decide +kernel)) (by decide +kernel)), wc6_fits, wi6, by decide +kernel⟩, (mv_inW (List.mem_of_getElem? (i := 871) (by decide +kernel)) (by decide +kernel)), (mv_inW (List.mem_of_getElem? (i := 872) (by decide +kernel)) (by decide +kernel)), by decide, rfl⟩
set_option maxRecDepth 20000 in
theorem lkL_80 : mv_LkV RL 80 m6_keep 1 6 := ⟨⟨(mv_inW (List.mem_of_getElem? (i := 874) (by decide +kernel)) (by decide +kernel)), wc6_keep, wi6, by decide +kernel⟩, (mv_inW (List.mem_of_getElem? (i := 875) (by decide +kernel)) (by decide +kernel)), (mv_inW (List.mem_of_getElem? (i := 876) (by decide +kernel)) (by decide +kernel)), by decide, rfl⟩
set_option maxRecDepth 20000 in
theorem lkL_84 : mv_LkV RL 84 m6_back 1 6 := ⟨⟨(mv_inW (List.mem_of_getElem? (i := 878) (by decide +kernel)) (by decide +kernel)), wc6_back, wi6, by decide +kernel⟩, (mv_inW (List.mem_of_getElem? (i := 879) (by decide +kernel)) (by decide +kernel)), (mv_inW (List.mem_of_getElem? (i := 880) (by decide +kernel)) (by decide +kernel)), by decide, rfl⟩
set_option maxRecDepth 20000 in
theorem lkL_88 : mv_LkV RL 88 m6_count 1 6 := ⟨⟨(mv_inW (List.mem_of_getElem? (i := 882) (by decide +kernel)) (by decide +kernel)), wc6_count, wi6, by decide +kernel⟩, (mv_inW (List.mem_of_getElem? (i := 883) (by decide +kernel)) (by decide +kernel)), (mv_inW (List.mem_of_getElem? (i := 884) (by decide +kernel)) (by decide +kernel)), by decide, rfl⟩
set_option maxRecDepth 20000 in
theorem wL_ao : Cond.arrayOver (.object RX3) ∈ lw_tbl := List.mem_of_getElem? (i := 268) (by decide +kernel)
set_option maxRecDepth 20000 in
theorem wL_nl : Cond.methodLinkNest RX5 9 yX4_init RX5 ∈ lw_tbl := List.mem_of_getElem? (i := 74) (by decide +kernel)
