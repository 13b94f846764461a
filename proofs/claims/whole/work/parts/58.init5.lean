set_option maxHeartbeats 4000000 in
theorem c2_init {l : Launch} {D : va_G} {b0 : Nat} {sh : mv_Sh} {I : mv_I} {R : mv_R} {p a q : Nat} (ho : sh p = (2, 3)) : mv_C l D b0 m2_init (mv_rc 1 0 0) [.ref p, .ref a, .ref q] (p + 1) sh I R (mk_Q p 1 sh I R (fun sh' I' R' => ly_Rd sh' R' p a q)) := by
  refine mv_C.of 0 (by decide) (by simp [Value.category]) rfl ?_
  show mv_E l D b0 m2_init (mv_rc 1 0 0) _ 0 [.ref p, .ref a, .ref q] [] 0 0 (p + 1) sh I R
  refine mv_aload_n (pc := 0) dX2_init_0 rfl ?_
  refine mv_objInit (pc := 1) dX2_init_1 lko2_3 wo_i wo_c (Nat.le_of_ble_eq_true rfl) ⟨by decide, by decide⟩ ?_
  refine mv_aload_n (pc := 4) dX2_init_4 rfl ?_
  refine mv_iconst (pc := 5) (v := 0) dX2_init_5 (by decide) ?_
  refine mv_putIG (pc := 6) dX2_init_6 fl2_9 rfl rfl (congrArg Prod.fst ho) (fun I1 i1 i2 i3 => ?_)
  refine mv_aload_n (pc := 9) dX2_init_9 rfl ?_
  refine mv_aload_n (pc := 10) dX2_init_10 rfl ?_
  refine mv_putRG (pc := 11) dX2_init_11 fl2_15 (fun _ _ => rfl) (Or.inr ⟨rfl, rfl, rfl⟩) rfl rfl (congrArg Prod.fst ho) (fun R1 r1 r2 r3 => ?_)
  refine mv_aload_n (pc := 14) dX2_init_14 rfl ?_
  refine mv_aload_n (pc := 15) dX2_init_15 rfl ?_
  refine mv_putRG (pc := 16) dX2_init_16 fl2_19 (fun _ _ => rfl) (Or.inr ⟨rfl, rfl, rfl⟩) rfl rfl (congrArg Prod.fst ho) (fun R2 q1 q2 q3 => ?_)
  refine mv_vret (pc := 19) dX2_init_19 rfl (Nat.le_of_ble_eq_true rfl) (Nat.le_of_ble_eq_true rfl) ⟨rfl, rfl, fun b hb => ⟨rfl, i1 b (by omega), (q1 b (by omega)).trans (r1 b (by omega))⟩, ho, ?_, q3⟩
  rw [q2 0 (by decide)]; exact r3
theorem ly_ST.mk0 {sh : mv_Sh} {R : mv_R} {z : Nat} (h : sh z = (5, 14)) : sh z = (5, 14) := h
set_option maxHeartbeats 8000000 in
set_option maxRecDepth 100000 in
theorem c5_init {l : Launch} {D : va_G} {b0 : Nat} {sh : mv_Sh} {I : mv_I} {R : mv_R} {z : Nat} (ho : sh z = (5, 14)) : mv_C l D b0 m5_init (mv_rc 5 277 6081) [.ref z] (z + 1) sh I R (mk_Q z 278 sh I R (fun sh' I' R' => ly_ST sh' R' z ∧ gc_S I' z ab_0)) := by
  refine mv_C.of 1 (by decide) (by simp [Value.category]) rfl ?_
  show mv_E l D b0 m5_init (mv_rc 5 277 6081) _ 0 [.ref z, .null] [] 0 0 (z + 1) sh I R
  have hp0 : pl_W 1 sp_0 := sp_W.z.2.1
  refine mv_aload_n (pc := 0) dX5_init_0 rfl ?_
  refine mv_objInit (pc := 1) dX5_init_1 lko5_1 wo_i wo_c (Nat.le_of_ble_eq_true rfl) ⟨by decide, by decide⟩ ?_
  refine mv_aload_n (pc := 4) dX5_init_4 rfl ?_
  refine mv_newG (pc := 5) (ci := 4) dX5_init_5 (by decide) cl5_7 wn4 wi4 (Nat.le_of_ble_eq_true rfl) (Nat.le_of_ble_eq_true rfl) (fun sa0 Ia0 Ra0 na0 ta0 => ?_)
  have oa0 : sa0 z = (5, 14) := (na0 z (by omega)).1.trans ho
  refine mv_dup (pc := 8) dX5_init_8 rfl ?_
  refine mv_callN (pc := 9) dX5_init_9 rfl rfl wc4_init wi4 wt_i rfl (c4_init (p := z + 1) ta0) rfl (Nat.le_of_ble_eq_true rfl) ⟨by decide, by decide⟩ ⟨(Nat.le_of_ble_eq_true rfl), (Nat.le_of_ble_eq_true rfl)⟩ (fun v n' sb0 Ib0 Rb0 hq0 => ?_)
  obtain ⟨hv0, hn0, fb0, P0⟩ := hq0
  subst hv0 hn0
  have ob0 : sb0 z = (5, 14) := (fb0 z (by omega)).1.trans oa0
  refine mv_putRG (pc := 12) dX5_init_12 fl5_10 (fun _ _ => rfl) (Or.inr ⟨rfl, rfl, rfl⟩) rfl rfl (congrArg Prod.fst ob0) (fun Rc0 x0 y0 w0 => ?_)
  have F0 : ∀ b, b < z + 1 → b ≠ z → sb0 b = sh b ∧ Ib0 b = I b ∧ Rc0 b = R b := fun b hb hz => ⟨(fb0 b hb).1.trans (na0 b (by omega)).1, (fb0 b hb).2.1.trans (na0 b (by omega)).2.1, (x0 b hz).trans ((fb0 b hb).2.2.trans (na0 b (by omega)).2.2)⟩
  have e0 : ∀ j, j ≠ 0 → Rc0 z j = R z j := fun j hj => (y0 j hj).trans (congrFun ((fb0 z (by omega)).2.2.trans (na0 z (by omega)).2.2) j)
  have c0 : Ib0 z = I z := (fb0 z (by omega)).2.1.trans (na0 z (by omega)).2.1
  refine mv_aload_n (pc := 15) dX5_init_15 rfl ?_
  refine mv_newG (pc := 16) (ci := 1) dX5_init_16 (by decide) cl5_16 wn1 wi1 (Nat.le_of_ble_eq_true rfl) (Nat.le_of_ble_eq_true rfl) (fun sa1 Ia1 Ra1 na1 ta1 => ?_)
  have oa1 : sa1 z = (5, 14) := (na1 z (by omega)).1.trans ob0
  refine mv_dup (pc := 19) dX5_init_19 rfl ?_
  refine mv_callIG (pc := 20) (a := z + 3) dX5_init_20 lk5_18 (c1_init ta1) rfl rfl (Nat.le_of_ble_eq_true rfl) ⟨by decide, by decide⟩ ⟨(Nat.le_of_ble_eq_true rfl), (Nat.le_of_ble_eq_true rfl)⟩ (fun sb1 Ib1 Rb1 fb1 P1 => ?_)
  have ob1 : sb1 z = (5, 14) := (fb1 z (by omega)).1.trans oa1
  refine mv_putRG (pc := 23) dX5_init_23 fl5_19 (fun _ _ => rfl) (Or.inr ⟨rfl, rfl, rfl⟩) rfl rfl (congrArg Prod.fst ob1) (fun Rc1 x1 y1 w1 => ?_)
  have F1 : ∀ b, b < z + 3 → b ≠ z → sb1 b = sb0 b ∧ Ib1 b = Ib0 b ∧ Rc1 b = Rc0 b := fun b hb hz => ⟨(fb1 b hb).1.trans (na1 b (by omega)).1, (fb1 b hb).2.1.trans (na1 b (by omega)).2.1, (x1 b hz).trans ((fb1 b hb).2.2.trans (na1 b (by omega)).2.2)⟩
  have e1 : ∀ j, j ≠ 1 → Rc1 z j = Rc0 z j := fun j hj => (y1 j hj).trans (congrFun ((fb1 z (by omega)).2.2.trans (na1 z (by omega)).2.2) j)
  have c1 : Ib1 z = Ib0 z := (fb1 z (by omega)).2.1.trans (na1 z (by omega)).2.1
  have H1 : ∀ b, b < z + 12 → b ≠ z → sb1 b = sb1 b ∧ Ib1 b = Ib1 b ∧ Rc1 b = Rb1 b := fun b _ hz => ⟨rfl, rfl, x1 b hz⟩
  refine mv_aload_n (pc := 26) dX5_init_26 rfl ?_
  refine mv_newG (pc := 27) (ci := 1) dX5_init_27 (by decide) cl5_16 wn1 wi1 (Nat.le_of_ble_eq_true rfl) (Nat.le_of_ble_eq_true rfl) (fun sa2 Ia2 Ra2 na2 ta2 => ?_)
  have oa2 : sa2 z = (5, 14) := (na2 z (by omega)).1.trans ob1
  refine mv_dup (pc := 30) dX5_init_30 rfl ?_
  refine mv_callIG (pc := 31) (a := z + 12) dX5_init_31 lk5_18 (c1_init ta2) rfl rfl (Nat.le_of_ble_eq_true rfl) ⟨by decide, by decide⟩ ⟨(Nat.le_of_ble_eq_true rfl), (Nat.le_of_ble_eq_true rfl)⟩ (fun sb2 Ib2 Rb2 fb2 P2 => ?_)
  have ob2 : sb2 z = (5, 14) := (fb2 z (by omega)).1.trans oa2
  refine mv_putRG (pc := 34) dX5_init_34 fl5_23 (fun _ _ => rfl) (Or.inr ⟨rfl, rfl, rfl⟩) rfl rfl (congrArg Prod.fst ob2) (fun Rc2 x2 y2 w2 => ?_)
  have F2 : ∀ b, b < z + 12 → b ≠ z → sb2 b = sb1 b ∧ Ib2 b = Ib1 b ∧ Rc2 b = Rc1 b := fun b hb hz => ⟨(fb2 b hb).1.trans (na2 b (by omega)).1, (fb2 b hb).2.1.trans (na2 b (by omega)).2.1, (x2 b hz).trans ((fb2 b hb).2.2.trans (na2 b (by omega)).2.2)⟩
  have e2 : ∀ j, j ≠ 2 → Rc2 z j = Rc1 z j := fun j hj => (y2 j hj).trans (congrFun ((fb2 z (by omega)).2.2.trans (na2 z (by omega)).2.2) j)
  have c2 : Ib2 z = Ib1 z := (fb2 z (by omega)).2.1.trans (na2 z (by omega)).2.1
  have H2 : ∀ b, b < z + 12 → b ≠ z → sb2 b = sb1 b ∧ Ib2 b = Ib1 b ∧ Rc2 b = Rb1 b := fun b hb hz => ⟨(F2 b (by omega) hz).1.trans (H1 b hb hz).1, (F2 b (by omega) hz).2.1.trans (H1 b hb hz).2.1, (F2 b (by omega) hz).2.2.trans (H1 b hb hz).2.2⟩
  refine mv_aload_n (pc := 37) dX5_init_37 rfl ?_
  refine mv_newG (pc := 38) (ci := 1) dX5_init_38 (by decide) cl5_16 wn1 wi1 (Nat.le_of_ble_eq_true rfl) (Nat.le_of_ble_eq_true rfl) (fun sa3 Ia3 Ra3 na3 ta3 => ?_)
  have oa3 : sa3 z = (5, 14) := (na3 z (by omega)).1.trans ob2
  refine mv_dup (pc := 41) dX5_init_41 rfl ?_
  refine mv_callIG (pc := 42) (a := z + 21) dX5_init_42 lk5_18 (c1_init ta3) rfl rfl (Nat.le_of_ble_eq_true rfl) ⟨by decide, by decide⟩ ⟨(Nat.le_of_ble_eq_true rfl), (Nat.le_of_ble_eq_true rfl)⟩ (fun sb3 Ib3 Rb3 fb3 P3 => ?_)
  have ob3 : sb3 z = (5, 14) := (fb3 z (by omega)).1.trans oa3
  refine mv_putRG (pc := 45) dX5_init_45 fl5_26 (fun _ _ => rfl) (Or.inr ⟨rfl, rfl, rfl⟩) rfl rfl (congrArg Prod.fst ob3) (fun Rc3 x3 y3 w3 => ?_)
  have F3 : ∀ b, b < z + 21 → b ≠ z → sb3 b = sb2 b ∧ Ib3 b = Ib2 b ∧ Rc3 b = Rc2 b := fun b hb hz => ⟨(fb3 b hb).1.trans (na3 b (by omega)).1, (fb3 b hb).2.1.trans (na3 b (by omega)).2.1, (x3 b hz).trans ((fb3 b hb).2.2.trans (na3 b (by omega)).2.2)⟩
  have e3 : ∀ j, j ≠ 3 → Rc3 z j = Rc2 z j := fun j hj => (y3 j hj).trans (congrFun ((fb3 z (by omega)).2.2.trans (na3 z (by omega)).2.2) j)
  have c3 : Ib3 z = Ib2 z := (fb3 z (by omega)).2.1.trans (na3 z (by omega)).2.1
  have H3 : ∀ b, b < z + 12 → b ≠ z → sb3 b = sb1 b ∧ Ib3 b = Ib1 b ∧ Rc3 b = Rb1 b := fun b hb hz => ⟨(F3 b (by omega) hz).1.trans (H2 b hb hz).1, (F3 b (by omega) hz).2.1.trans (H2 b hb hz).2.1, (F3 b (by omega) hz).2.2.trans (H2 b hb hz).2.2⟩
  refine mv_aload_n (pc := 48) dX5_init_48 rfl ?_
  refine mv_newG (pc := 49) (ci := 2) dX5_init_49 (by decide) cl5_29 wn2 wi2 (Nat.le_of_ble_eq_true rfl) (Nat.le_of_ble_eq_true rfl) (fun sa4 Ia4 Ra4 na4 ta4 => ?_)
  have oa4 : sa4 z = (5, 14) := (na4 z (by omega)).1.trans ob3
  refine mv_dup (pc := 52) dX5_init_52 rfl ?_
  refine mv_aload_n (pc := 53) dX5_init_53 rfl ?_
  refine mv_getR (pc := 54) (q := z + 1) dX5_init_54 fl5_10 (fun _ _ => rfl) (congrArg Prod.fst oa4) ((congrFun (na4 z (by omega)).2.2 0).trans (by rw [e3 0 (by decide), e2 0 (by decide), e1 0 (by decide)]; exact w0)) ?_
  refine mv_aload_n (pc := 57) dX5_init_57 rfl ?_
  refine mv_getR (pc := 58) (q := z + 12) dX5_init_58 fl5_23 (fun _ _ => rfl) (congrArg Prod.fst oa4) ((congrFun (na4 z (by omega)).2.2 2).trans (by rw [e3 2 (by decide)]; exact w2)) ?_
  refine mv_callIG (pc := 61) (a := z + 30) dX5_init_61 lk5_31 (c2_init (p := z + 30) (a := z + 1) (q := z + 12) ta4) rfl rfl (Nat.le_of_ble_eq_true rfl) ⟨by decide, by decide⟩ ⟨(Nat.le_of_ble_eq_true rfl), (Nat.le_of_ble_eq_true rfl)⟩ (fun sb4 Ib4 Rb4 fb4 P4 => ?_)
  have ob4 : sb4 z = (5, 14) := (fb4 z (by omega)).1.trans oa4
  refine mv_putRG (pc := 64) dX5_init_64 fl5_34 (fun _ _ => rfl) (Or.inr ⟨rfl, rfl, rfl⟩) rfl rfl (congrArg Prod.fst ob4) (fun Rc4 x4 y4 w4 => ?_)
  have F4 : ∀ b, b < z + 30 → b ≠ z → sb4 b = sb3 b ∧ Ib4 b = Ib3 b ∧ Rc4 b = Rc3 b := fun b hb hz => ⟨(fb4 b hb).1.trans (na4 b (by omega)).1, (fb4 b hb).2.1.trans (na4 b (by omega)).2.1, (x4 b hz).trans ((fb4 b hb).2.2.trans (na4 b (by omega)).2.2)⟩
  have e4 : ∀ j, j ≠ 4 → Rc4 z j = Rc3 z j := fun j hj => (y4 j hj).trans (congrFun ((fb4 z (by omega)).2.2.trans (na4 z (by omega)).2.2) j)
  have c4 : Ib4 z = Ib3 z := (fb4 z (by omega)).2.1.trans (na4 z (by omega)).2.1
  have H4 : ∀ b, b < z + 12 → b ≠ z → sb4 b = sb1 b ∧ Ib4 b = Ib1 b ∧ Rc4 b = Rb1 b := fun b hb hz => ⟨(F4 b (by omega) hz).1.trans (H3 b hb hz).1, (F4 b (by omega) hz).2.1.trans (H3 b hb hz).2.1, (F4 b (by omega) hz).2.2.trans (H3 b hb hz).2.2⟩
  refine mv_aload_n (pc := 67) dX5_init_67 rfl ?_
  refine mv_newG (pc := 68) (ci := 3) dX5_init_68 (by decide) cl5_38 wn3 wi3 (Nat.le_of_ble_eq_true rfl) (Nat.le_of_ble_eq_true rfl) (fun sa5 Ia5 Ra5 na5 ta5 => ?_)
  have oa5 : sa5 z = (5, 14) := (na5 z (by omega)).1.trans ob4
  refine mv_dup (pc := 71) dX5_init_71 rfl ?_
  refine mv_aload_n (pc := 72) dX5_init_72 rfl ?_
  refine mv_getR (pc := 73) (q := z + 3) dX5_init_73 fl5_19 (fun _ _ => rfl) (congrArg Prod.fst oa5) ((congrFun (na5 z (by omega)).2.2 1).trans (by rw [e4 1 (by decide), e3 1 (by decide), e2 1 (by decide)]; exact w1)) ?_
  have hq5 : ly_Plan sa5 Ra5 (z + 3) := P1.1.fr (fun b b1 b2 => (na5 b (by omega)).1.trans (H4 b (by omega) (by omega)).1) ((na5 (z + 3) (by omega)).2.2.trans (H4 (z + 3) (by omega) (by omega)).2.2)
  have hc5 : pl_C Ia5 (z + 3) 1 sp_0 := P1.2.eq (fun b b1 b2 => (na5 b (by omega)).2.1.trans (H4 b (by omega) (by omega)).2.1)
  refine mv_callIG (pc := 76) (a := z + 31) dX5_init_76 lk5_40 (c3_init ta5 hq5 (by omega) hc5 hp0) rfl rfl (Nat.le_of_ble_eq_true rfl) ⟨by decide, by decide⟩ ⟨(Nat.le_of_ble_eq_true rfl), (Nat.le_of_ble_eq_true rfl)⟩ (fun sb5 Ib5 Rb5 fb5 P5 => ?_)
  have ob5 : sb5 z = (5, 14) := (fb5 z (by omega)).1.trans oa5
  refine mv_putRG (pc := 79) dX5_init_79 fl5_43 (fun _ _ => rfl) (Or.inr ⟨rfl, rfl, rfl⟩) rfl rfl (congrArg Prod.fst ob5) (fun Rc5 x5 y5 w5 => ?_)
  have F5 : ∀ b, b < z + 31 → b ≠ z → sb5 b = sb4 b ∧ Ib5 b = Ib4 b ∧ Rc5 b = Rc4 b := fun b hb hz => ⟨(fb5 b hb).1.trans (na5 b (by omega)).1, (fb5 b hb).2.1.trans (na5 b (by omega)).2.1, (x5 b hz).trans ((fb5 b hb).2.2.trans (na5 b (by omega)).2.2)⟩
  have e5 : ∀ j, j ≠ 5 → Rc5 z j = Rc4 z j := fun j hj => (y5 j hj).trans (congrFun ((fb5 z (by omega)).2.2.trans (na5 z (by omega)).2.2) j)
  have c5 : Ib5 z = Ib4 z := (fb5 z (by omega)).2.1.trans (na5 z (by omega)).2.1
  have H5 : ∀ b, b < z + 12 → b ≠ z → sb5 b = sb1 b ∧ Ib5 b = Ib1 b ∧ Rc5 b = Rb1 b := fun b hb hz => ⟨(F5 b (by omega) hz).1.trans (H4 b hb hz).1, (F5 b (by omega) hz).2.1.trans (H4 b hb hz).2.1, (F5 b (by omega) hz).2.2.trans (H4 b hb hz).2.2⟩
  refine mv_aload_n (pc := 82) dX5_init_82 rfl ?_
  refine mv_newG (pc := 83) (ci := 3) dX5_init_83 (by decide) cl5_38 wn3 wi3 (Nat.le_of_ble_eq_true rfl) (Nat.le_of_ble_eq_true rfl) (fun sa6 Ia6 Ra6 na6 ta6 => ?_)
  have oa6 : sa6 z = (5, 14) := (na6 z (by omega)).1.trans ob5
  refine mv_dup (pc := 86) dX5_init_86 rfl ?_
  refine mv_aload_n (pc := 87) dX5_init_87 rfl ?_
  refine mv_getR (pc := 88) (q := z + 3) dX5_init_88 fl5_19 (fun _ _ => rfl) (congrArg Prod.fst oa6) ((congrFun (na6 z (by omega)).2.2 1).trans (by rw [e5 1 (by decide), e4 1 (by decide), e3 1 (by decide), e2 1 (by decide)]; exact w1)) ?_
  have hq6 : ly_Plan sa6 Ra6 (z + 3) := P1.1.fr (fun b b1 b2 => (na6 b (by omega)).1.trans (H5 b (by omega) (by omega)).1) ((na6 (z + 3) (by omega)).2.2.trans (H5 (z + 3) (by omega) (by omega)).2.2)
  have hc6 : pl_C Ia6 (z + 3) 1 sp_0 := P1.2.eq (fun b b1 b2 => (na6 b (by omega)).2.1.trans (H5 b (by omega) (by omega)).2.1)
  refine mv_callIG (pc := 91) (a := z + 46) dX5_init_91 lk5_40 (c3_init ta6 hq6 (by omega) hc6 hp0) rfl rfl (Nat.le_of_ble_eq_true rfl) ⟨by decide, by decide⟩ ⟨(Nat.le_of_ble_eq_true rfl), (Nat.le_of_ble_eq_true rfl)⟩ (fun sb6 Ib6 Rb6 fb6 P6 => ?_)
  have ob6 : sb6 z = (5, 14) := (fb6 z (by omega)).1.trans oa6
  refine mv_putRG (pc := 94) dX5_init_94 fl5_47 (fun _ _ => rfl) (Or.inr ⟨rfl, rfl, rfl⟩) rfl rfl (congrArg Prod.fst ob6) (fun Rc6 x6 y6 w6 => ?_)
  have F6 : ∀ b, b < z + 46 → b ≠ z → sb6 b = sb5 b ∧ Ib6 b = Ib5 b ∧ Rc6 b = Rc5 b := fun b hb hz => ⟨(fb6 b hb).1.trans (na6 b (by omega)).1, (fb6 b hb).2.1.trans (na6 b (by omega)).2.1, (x6 b hz).trans ((fb6 b hb).2.2.trans (na6 b (by omega)).2.2)⟩
  have e6 : ∀ j, j ≠ 6 → Rc6 z j = Rc5 z j := fun j hj => (y6 j hj).trans (congrFun ((fb6 z (by omega)).2.2.trans (na6 z (by omega)).2.2) j)
  have c6 : Ib6 z = Ib5 z := (fb6 z (by omega)).2.1.trans (na6 z (by omega)).2.1
  have H6 : ∀ b, b < z + 12 → b ≠ z → sb6 b = sb1 b ∧ Ib6 b = Ib1 b ∧ Rc6 b = Rb1 b := fun b hb hz => ⟨(F6 b (by omega) hz).1.trans (H5 b hb hz).1, (F6 b (by omega) hz).2.1.trans (H5 b hb hz).2.1, (F6 b (by omega) hz).2.2.trans (H5 b hb hz).2.2⟩
  refine mv_aload_n (pc := 97) dX5_init_97 rfl ?_
  refine mv_newG (pc := 98) (ci := 0) dX5_init_98 (by decide) cl5_50 wn0 wi0 (Nat.le_of_ble_eq_true rfl) (Nat.le_of_ble_eq_true rfl) (fun sa7 Ia7 Ra7 na7 ta7 => ?_)
  have oa7 : sa7 z = (5, 14) := (na7 z (by omega)).1.trans ob6
  refine mv_dup (pc := 101) dX5_init_101 rfl ?_
  refine mv_aload_n (pc := 102) dX5_init_102 rfl ?_
  refine mv_getR (pc := 103) (q := z + 3) dX5_init_103 fl5_19 (fun _ _ => rfl) (congrArg Prod.fst oa7) ((congrFun (na7 z (by omega)).2.2 1).trans (by rw [e6 1 (by decide), e5 1 (by decide), e4 1 (by decide), e3 1 (by decide), e2 1 (by decide)]; exact w1)) ?_
  have hq7 : ly_Plan sa7 Ra7 (z + 3) := P1.1.fr (fun b b1 b2 => (na7 b (by omega)).1.trans (H6 b (by omega) (by omega)).1) ((na7 (z + 3) (by omega)).2.2.trans (H6 (z + 3) (by omega) (by omega)).2.2)
  have hc7 : pl_C Ia7 (z + 3) 1 sp_0 := P1.2.eq (fun b b1 b2 => (na7 b (by omega)).2.1.trans (H6 b (by omega) (by omega)).2.1)
  refine mv_callIG (pc := 106) (a := z + 61) dX5_init_106 lk5_52 (c0_init ta7 hq7 (by omega) hc7 hp0) rfl rfl (Nat.le_of_ble_eq_true rfl) ⟨by decide, by decide⟩ ⟨(Nat.le_of_ble_eq_true rfl), (Nat.le_of_ble_eq_true rfl)⟩ (fun sb7 Ib7 Rb7 fb7 P7 => ?_)
  have ob7 : sb7 z = (5, 14) := (fb7 z (by omega)).1.trans oa7
  refine mv_putRG (pc := 109) dX5_init_109 fl5_53 (fun _ _ => rfl) (Or.inr ⟨rfl, rfl, rfl⟩) rfl rfl (congrArg Prod.fst ob7) (fun Rc7 x7 y7 w7 => ?_)
  have F7 : ∀ b, b < z + 61 → b ≠ z → sb7 b = sb6 b ∧ Ib7 b = Ib6 b ∧ Rc7 b = Rc6 b := fun b hb hz => ⟨(fb7 b hb).1.trans (na7 b (by omega)).1, (fb7 b hb).2.1.trans (na7 b (by omega)).2.1, (x7 b hz).trans ((fb7 b hb).2.2.trans (na7 b (by omega)).2.2)⟩
  have e7 : ∀ j, j ≠ 7 → Rc7 z j = Rc6 z j := fun j hj => (y7 j hj).trans (congrFun ((fb7 z (by omega)).2.2.trans (na7 z (by omega)).2.2) j)
  have c7 : Ib7 z = Ib6 z := (fb7 z (by omega)).2.1.trans (na7 z (by omega)).2.1
  have H7 : ∀ b, b < z + 12 → b ≠ z → sb7 b = sb1 b ∧ Ib7 b = Ib1 b ∧ Rc7 b = Rb1 b := fun b hb hz => ⟨(F7 b (by omega) hz).1.trans (H6 b hb hz).1, (F7 b (by omega) hz).2.1.trans (H6 b hb hz).2.1, (F7 b (by omega) hz).2.2.trans (H6 b hb hz).2.2⟩
  refine mv_aload_n (pc := 112) dX5_init_112 rfl ?_
  refine mv_iconst (pc := 113) (v := 2) dX5_init_113 (by decide) ?_
  refine mv_newQG (pc := 114) (len := 2) dX5_init_114 cl5_38 rfl (by decide) (Nat.le_of_ble_eq_true rfl) (Nat.le_of_ble_eq_true rfl) (fun sb8 Ib8 Rb8 na8 ta8 => ?_)
  have ob8 : sb8 z = (5, 14) := (na8 z (by omega)).1.trans ob7
  refine mv_putRG (pc := 117) dX5_init_117 fl5_57 (fun _ _ => rfl) (Or.inr ⟨rfl, rfl, rfl⟩) rfl rfl (congrArg Prod.fst ob8) (fun Rc8 x8 y8 w8 => ?_)
  have F8 : ∀ b, b < z + 243 → b ≠ z → sb8 b = sb7 b ∧ Ib8 b = Ib7 b ∧ Rc8 b = Rc7 b := fun b hb hz => ⟨(na8 b (by omega)).1, (na8 b (by omega)).2.1, (x8 b hz).trans (na8 b (by omega)).2.2⟩
  have e8 : ∀ j, j ≠ 8 → Rc8 z j = Rc7 z j := fun j hj => (y8 j hj).trans (congrFun (na8 z (by omega)).2.2 j)
  have c8 : Ib8 z = Ib7 z := (na8 z (by omega)).2.1
  refine mv_aload_n (pc := 120) dX5_init_120 rfl ?_
  refine mv_iconst (pc := 121) (v := 2) dX5_init_121 (by decide) ?_
  refine mv_newZp (pc := 122) (p := z) (len := 2) dX5_init_122 dX5_init_124 fl5_61 (fun _ _ => rfl) (Or.inr ⟨rfl, rfl, rfl⟩) rfl rfl (congrArg Prod.fst ob8) (by omega) wa_boolean rfl (by decide) (Nat.le_of_ble_eq_true rfl) (Nat.le_of_ble_eq_true rfl) (fun sb9 Ib9 Rc9 s9 t9 i9 z9 r9 e9 w9 => ?_)
  have ob9 : sb9 z = (5, 14) := (s9 z (by omega)).trans ob8
  have F9 : ∀ b, b < z + 244 → b ≠ z → sb9 b = sb8 b ∧ Ib9 b = Ib8 b ∧ Rc9 b = Rc8 b := fun b hb hz => ⟨s9 b (by omega), i9 b (by omega), r9 b (by omega) hz⟩
  have c9 : Ib9 z = Ib8 z := i9 z (by omega)
  refine mv_aload_n (pc := 127) dX5_init_127 rfl ?_
  refine mv_bipush (pc := 128) (v := 6) dX5_init_128 (by decide) ?_
  refine mv_newIp (pc := 130) (p := z) (len := 6) dX5_init_130 dX5_init_132 fl5_65 (fun _ _ => rfl) (Or.inr ⟨rfl, rfl, rfl⟩) rfl rfl (congrArg Prod.fst ob9) (by omega) wa_int rfl (by decide) (Nat.le_of_ble_eq_true rfl) (Nat.le_of_ble_eq_true rfl) (fun sb10 Ib10 Rc10 s10 t10 i10 z10 r10 e10 w10 => ?_)
  have ob10 : sb10 z = (5, 14) := (s10 z (by omega)).trans ob9
  have F10 : ∀ b, b < z + 245 → b ≠ z → sb10 b = sb9 b ∧ Ib10 b = Ib9 b ∧ Rc10 b = Rc9 b := fun b hb hz => ⟨s10 b (by omega), i10 b (by omega), r10 b (by omega) hz⟩
  have c10 : Ib10 z = Ib9 z := i10 z (by omega)
  refine mv_aload_n (pc := 135) dX5_init_135 rfl ?_
  refine mv_bipush (pc := 136) (v := 6) dX5_init_136 (by decide) ?_
  refine mv_newIp (pc := 138) (p := z) (len := 6) dX5_init_138 dX5_init_140 fl5_69 (fun _ _ => rfl) (Or.inr ⟨rfl, rfl, rfl⟩) rfl rfl (congrArg Prod.fst ob10) (by omega) wa_int rfl (by decide) (Nat.le_of_ble_eq_true rfl) (Nat.le_of_ble_eq_true rfl) (fun sb11 Ib11 Rc11 s11 t11 i11 z11 r11 e11 w11 => ?_)
  have ob11 : sb11 z = (5, 14) := (s11 z (by omega)).trans ob10
  have F11 : ∀ b, b < z + 246 → b ≠ z → sb11 b = sb10 b ∧ Ib11 b = Ib10 b ∧ Rc11 b = Rc10 b := fun b hb hz => ⟨s11 b (by omega), i11 b (by omega), r11 b (by omega) hz⟩
  have c11 : Ib11 z = Ib10 z := i11 z (by omega)
  refine mv_aload_n (pc := 143) dX5_init_143 rfl ?_
  refine mv_bipush (pc := 144) (v := 6) dX5_init_144 (by decide) ?_
  refine mv_newIp (pc := 146) (p := z) (len := 6) dX5_init_146 dX5_init_148 fl5_72 (fun _ _ => rfl) (Or.inr ⟨rfl, rfl, rfl⟩) rfl rfl (congrArg Prod.fst ob11) (by omega) wa_int rfl (by decide) (Nat.le_of_ble_eq_true rfl) (Nat.le_of_ble_eq_true rfl) (fun sb12 Ib12 Rc12 s12 t12 i12 z12 r12 e12 w12 => ?_)
  have ob12 : sb12 z = (5, 14) := (s12 z (by omega)).trans ob11
  have F12 : ∀ b, b < z + 247 → b ≠ z → sb12 b = sb11 b ∧ Ib12 b = Ib11 b ∧ Rc12 b = Rc11 b := fun b hb hz => ⟨s12 b (by omega), i12 b (by omega), r12 b (by omega) hz⟩
  have c12 : Ib12 z = Ib11 z := i12 z (by omega)
  refine mv_aload_n (pc := 151) dX5_init_151 rfl ?_
  refine mv_iconst (pc := 152) (v := 0) dX5_init_152 (by decide) ?_
  refine mv_putIG (pc := 153) dX5_init_153 fl5_75 rfl rfl (congrArg Prod.fst ob12) (fun I13 i13 y13 v13 => ?_)
  have G12 : ∀ b, b < z + 248 → b ≠ z → sb12 b = sb12 b ∧ I13 b = Ib12 b ∧ Rc12 b = Rc12 b := fun b _ hz => ⟨rfl, i13 b hz, rfl⟩
  have G11 : ∀ b, b < z + 247 → b ≠ z → sb12 b = sb11 b ∧ I13 b = Ib11 b ∧ Rc12 b = Rc11 b := fun b hb hz => ⟨(G12 b (by omega) hz).1.trans (F12 b hb hz).1, (G12 b (by omega) hz).2.1.trans (F12 b hb hz).2.1, (G12 b (by omega) hz).2.2.trans (F12 b hb hz).2.2⟩
  have G10 : ∀ b, b < z + 246 → b ≠ z → sb12 b = sb10 b ∧ I13 b = Ib10 b ∧ Rc12 b = Rc10 b := fun b hb hz => ⟨(G11 b (by omega) hz).1.trans (F11 b hb hz).1, (G11 b (by omega) hz).2.1.trans (F11 b hb hz).2.1, (G11 b (by omega) hz).2.2.trans (F11 b hb hz).2.2⟩
  have G9 : ∀ b, b < z + 245 → b ≠ z → sb12 b = sb9 b ∧ I13 b = Ib9 b ∧ Rc12 b = Rc9 b := fun b hb hz => ⟨(G10 b (by omega) hz).1.trans (F10 b hb hz).1, (G10 b (by omega) hz).2.1.trans (F10 b hb hz).2.1, (G10 b (by omega) hz).2.2.trans (F10 b hb hz).2.2⟩
  have G8 : ∀ b, b < z + 244 → b ≠ z → sb12 b = sb8 b ∧ I13 b = Ib8 b ∧ Rc12 b = Rc8 b := fun b hb hz => ⟨(G9 b (by omega) hz).1.trans (F9 b hb hz).1, (G9 b (by omega) hz).2.1.trans (F9 b hb hz).2.1, (G9 b (by omega) hz).2.2.trans (F9 b hb hz).2.2⟩
  have G7 : ∀ b, b < z + 243 → b ≠ z → sb12 b = sb7 b ∧ I13 b = Ib7 b ∧ Rc12 b = Rc7 b := fun b hb hz => ⟨(G8 b (by omega) hz).1.trans (F8 b hb hz).1, (G8 b (by omega) hz).2.1.trans (F8 b hb hz).2.1, (G8 b (by omega) hz).2.2.trans (F8 b hb hz).2.2⟩
  have G6 : ∀ b, b < z + 61 → b ≠ z → sb12 b = sb6 b ∧ I13 b = Ib6 b ∧ Rc12 b = Rc6 b := fun b hb hz => ⟨(G7 b (by omega) hz).1.trans (F7 b hb hz).1, (G7 b (by omega) hz).2.1.trans (F7 b hb hz).2.1, (G7 b (by omega) hz).2.2.trans (F7 b hb hz).2.2⟩
  have G5 : ∀ b, b < z + 46 → b ≠ z → sb12 b = sb5 b ∧ I13 b = Ib5 b ∧ Rc12 b = Rc5 b := fun b hb hz => ⟨(G6 b (by omega) hz).1.trans (F6 b hb hz).1, (G6 b (by omega) hz).2.1.trans (F6 b hb hz).2.1, (G6 b (by omega) hz).2.2.trans (F6 b hb hz).2.2⟩
  have G4 : ∀ b, b < z + 31 → b ≠ z → sb12 b = sb4 b ∧ I13 b = Ib4 b ∧ Rc12 b = Rc4 b := fun b hb hz => ⟨(G5 b (by omega) hz).1.trans (F5 b hb hz).1, (G5 b (by omega) hz).2.1.trans (F5 b hb hz).2.1, (G5 b (by omega) hz).2.2.trans (F5 b hb hz).2.2⟩
  have G3 : ∀ b, b < z + 30 → b ≠ z → sb12 b = sb3 b ∧ I13 b = Ib3 b ∧ Rc12 b = Rc3 b := fun b hb hz => ⟨(G4 b (by omega) hz).1.trans (F4 b hb hz).1, (G4 b (by omega) hz).2.1.trans (F4 b hb hz).2.1, (G4 b (by omega) hz).2.2.trans (F4 b hb hz).2.2⟩
  have G2 : ∀ b, b < z + 21 → b ≠ z → sb12 b = sb2 b ∧ I13 b = Ib2 b ∧ Rc12 b = Rc2 b := fun b hb hz => ⟨(G3 b (by omega) hz).1.trans (F3 b hb hz).1, (G3 b (by omega) hz).2.1.trans (F3 b hb hz).2.1, (G3 b (by omega) hz).2.2.trans (F3 b hb hz).2.2⟩
  have G1 : ∀ b, b < z + 12 → b ≠ z → sb12 b = sb1 b ∧ I13 b = Ib1 b ∧ Rc12 b = Rc1 b := fun b hb hz => ⟨(G2 b (by omega) hz).1.trans (F2 b hb hz).1, (G2 b (by omega) hz).2.1.trans (F2 b hb hz).2.1, (G2 b (by omega) hz).2.2.trans (F2 b hb hz).2.2⟩
  have G0 : ∀ b, b < z + 3 → b ≠ z → sb12 b = sb0 b ∧ I13 b = Ib0 b ∧ Rc12 b = Rc0 b := fun b hb hz => ⟨(G1 b (by omega) hz).1.trans (F1 b hb hz).1, (G1 b (by omega) hz).2.1.trans (F1 b hb hz).2.1, (G1 b (by omega) hz).2.2.trans (F1 b hb hz).2.2⟩
  have rz0 : Rc12 z 0 = some (z + 1) := by
    rw [e12 0 (by decide), e11 0 (by decide), e10 0 (by decide), e9 0 (by decide), e8 0 (by decide), e7 0 (by decide), e6 0 (by decide), e5 0 (by decide), e4 0 (by decide), e3 0 (by decide), e2 0 (by decide), e1 0 (by decide)]
    exact w0
  have rz1 : Rc12 z 1 = some (z + 3) := by
    rw [e12 1 (by decide), e11 1 (by decide), e10 1 (by decide), e9 1 (by decide), e8 1 (by decide), e7 1 (by decide), e6 1 (by decide), e5 1 (by decide), e4 1 (by decide), e3 1 (by decide), e2 1 (by decide)]
    exact w1
  have rz2 : Rc12 z 2 = some (z + 12) := by
    rw [e12 2 (by decide), e11 2 (by decide), e10 2 (by decide), e9 2 (by decide), e8 2 (by decide), e7 2 (by decide), e6 2 (by decide), e5 2 (by decide), e4 2 (by decide), e3 2 (by decide)]
    exact w2
  have rz3 : Rc12 z 3 = some (z + 21) := by
    rw [e12 3 (by decide), e11 3 (by decide), e10 3 (by decide), e9 3 (by decide), e8 3 (by decide), e7 3 (by decide), e6 3 (by decide), e5 3 (by decide), e4 3 (by decide)]
    exact w3
  have rz4 : Rc12 z 4 = some (z + 30) := by
    rw [e12 4 (by decide), e11 4 (by decide), e10 4 (by decide), e9 4 (by decide), e8 4 (by decide), e7 4 (by decide), e6 4 (by decide), e5 4 (by decide)]
    exact w4
  have rz5 : Rc12 z 5 = some (z + 31) := by
    rw [e12 5 (by decide), e11 5 (by decide), e10 5 (by decide), e9 5 (by decide), e8 5 (by decide), e7 5 (by decide), e6 5 (by decide)]
    exact w5
  have rz6 : Rc12 z 6 = some (z + 46) := by
    rw [e12 6 (by decide), e11 6 (by decide), e10 6 (by decide), e9 6 (by decide), e8 6 (by decide), e7 6 (by decide)]
    exact w6
  have rz7 : Rc12 z 7 = some (z + 61) := by
    rw [e12 7 (by decide), e11 7 (by decide), e10 7 (by decide), e9 7 (by decide), e8 7 (by decide)]
    exact w7
  have rz8 : Rc12 z 8 = some (z + 243) := by
    rw [e12 8 (by decide), e11 8 (by decide), e10 8 (by decide), e9 8 (by decide)]
    exact w8
  have rz9 : Rc12 z 9 = some (z + 244) := by
    rw [e12 9 (by decide), e11 9 (by decide), e10 9 (by decide)]
    exact w9
  have rz10 : Rc12 z 10 = some (z + 245) := by
    rw [e12 10 (by decide), e11 10 (by decide)]
    exact w10
  have rz11 : Rc12 z 11 = some (z + 246) := by
    rw [e12 11 (by decide)]
    exact w11
  have rz12 : Rc12 z 12 = some (z + 247) := by
    exact w12
  have fr : ∀ b, b < z → sb12 b = sh b ∧ I13 b = I b ∧ Rc12 b = R b := fun b hb => ⟨(G0 b (by omega) (by omega)).1.trans (F0 b (by omega) (by omega)).1, (G0 b (by omega) (by omega)).2.1.trans (F0 b (by omega) (by omega)).2.1, (G0 b (by omega) (by omega)).2.2.trans (F0 b (by omega) (by omega)).2.2⟩
  have lt : ly_Tok sb12 Rc12 (z + 1) := P0.1.fr (fun b b1 b2 => (G0 b (by omega) (by omega)).1) ((G0 _ (by omega) (by omega)).2.2.trans (x0 _ (by omega)))
  have lo : ly_Plan sb12 Rc12 (z + 3) := P1.1.fr (fun b b1 b2 => (G1 b (by omega) (by omega)).1) ((G1 _ (by omega) (by omega)).2.2.trans (x1 _ (by omega)))
  have ld : ly_Plan sb12 Rc12 (z + 12) := P2.1.fr (fun b b1 b2 => (G2 b (by omega) (by omega)).1) ((G2 _ (by omega) (by omega)).2.2.trans (x2 _ (by omega)))
  have ls : ly_Plan sb12 Rc12 (z + 21) := P3.1.fr (fun b b1 b2 => (G3 b (by omega) (by omega)).1) ((G3 _ (by omega) (by omega)).2.2.trans (x3 _ (by omega)))
  have lr : ly_Rd sb12 Rc12 (z + 30) (z + 1) (z + 12) := by
    have e : Rc12 (z + 30) = Rb4 (z + 30) := (G4 _ (by omega) (by omega)).2.2.trans (x4 _ (by omega))
    exact ⟨(G4 _ (by omega) (by omega)).1.trans P4.1, by rw [e]; exact P4.2.1, by rw [e]; exact P4.2.2⟩
  have lno : ly_Run sb12 Rc12 (z + 31) := P5.1.fr (fun b b1 b2 => (G5 b (by omega) (by omega)).1) ((G5 _ (by omega) (by omega)).2.2.trans (x5 _ (by omega)))
  have ltr : ly_Run sb12 Rc12 (z + 46) := P6.1.fr (fun b b1 b2 => (G6 b (by omega) (by omega)).1) ((G6 _ (by omega) (by omega)).2.2.trans (x6 _ (by omega)))
  have lnp : Rc12 (z + 31) 0 = some (z + 3) := by
    rw [(G5 _ (by omega) (by omega)).2.2, x5 _ (by omega)]; exact P5.2.1
  have lh : ly_His sb12 Rc12 (z + 61) (z + 3) := P7.1.fr (fun b b1 b2 => ⟨(G7 b (by omega) (by omega)).1, (G7 b (by omega) (by omega)).2.2.trans (x7 b (by omega))⟩)
  have li : sb12 (z + 243) = (9, 2) := (G8 _ (by omega) (by omega)).1.trans ta8
  have lk : sb12 (z + 244) = (8, 2) := (G9 _ (by omega) (by omega)).1.trans t9
  have l0 : sb12 (z + 245) = (7, 6) := (G10 _ (by omega) (by omega)).1.trans t10
  have l1 : sb12 (z + 246) = (7, 6) := (G11 _ (by omega) (by omega)).1.trans t11
  have l2 : sb12 (z + 247) = (7, 6) := t12
  have k9 : ∀ j, I13 (z + 244) j = 0 := fun j => (congrFun (G9 _ (by omega) (by omega)).2.1 j).trans (z9 j)
  have kt : I13 (z + 1) 1 = nI 0 := (congrFun (G0 _ (by omega) (by omega)).2.1 1).trans P0.2
  have kc : pl_C I13 (z + 3) 1 sp_0 := P1.2.eq (fun b b1 b2 => (G1 b (by omega) (by omega)).2.1)
  have kr : rc_R I13 (z + 31) 1 (xs_st (sp_0 0 2)) := P5.2.2.eq (fun b b1 b2 => (G5 b (by omega) (by omega)).2.1)
  have kh1 : I13 (z + 61) 1 = nI 0 := (congrFun (G7 _ (by omega) (by omega)).2.1 1).trans P7.2.1
  have kh2 : I13 (z + 61) 2 = nI 0 := (congrFun (G7 _ (by omega) (by omega)).2.1 2).trans P7.2.2
  clear F0 e0 G0 F1 e1 G1 F2 e2 G2 F3 e3 G3 F4 e4 G4 F5 e5 G5 F6 e6 G6 F7 e7 G7 F8 e8 G8 F9 e9 G9 F10 e10 G10 F11 e11 G11 F12 e12 G12
  have loop : ∀ (f i : Nat) (sh' : mv_Sh) (I' : mv_I) (R' : mv_R), i + f = 2 → (∀ b, b < z + 248 → sh' b = sb12 b ∧ I' b = I13 b) → (∀ b, b < z + 248 → b ≠ z + 243 → R' b = Rc12 b) → (∀ j, j < i → R' (z + 243) j = some (z + 248 + 15 * j) ∧ ly_Run sh' R' (z + 248 + 15 * j) ∧ R' (z + 248 + 15 * j) 0 = some (z + 3)) → mv_E l D b0 m5_init (mv_rc 5 277 6081) (mk_Q z 278 sh I R (fun sh' I' R' => ly_ST sh' R' z ∧ gc_S I' z ab_0)) 158 [.ref z, .int (nI i)] [] (247 + 15 * i) (5399 + 341 * i) (z + 248 + 15 * i) sh' I' R' := by
    intro f
    induction f with
    | zero =>
      intro i sh' I' R' hi h1 h2 h3
      have : i = 2 := by omega
      subst this
      refine mv_iload_n (pc := 158) dX5_init_158 rfl ?_
      refine mv_iconst (pc := 159) (v := 2) dX5_init_159 (by decide) ?_
      refine mv_icmp_ge (pc := 160) (tgt := 186) dX5_init_160 (by decide) (fun hb => ?_) (fun hb => ?_)
      · have ez : R' z = Rc12 z := h2 z (by omega) (by omega)
        have er : ∀ b, z < b → b < z + 243 → R' b = Rc12 b := fun b b1 b2 => h2 b (by omega) (by omega)
        refine mv_vret (pc := 186) dX5_init_186 rfl (Nat.le_of_ble_eq_true rfl) (Nat.le_of_ble_eq_true rfl) ⟨rfl, rfl, fun b hb => ⟨(h1 b (by omega)).1.trans (fr b hb).1, (h1 b (by omega)).2.trans (fr b hb).2.1, (h2 b (by omega) (by omega)).trans (fr b hb).2.2⟩, ⟨(h1 z (by omega)).1.trans ob12, ?_, ⟨lt.fr (fun b b1 b2 => (h1 b (by omega)).1) (er _ (by omega) (by omega)), lo.fr (fun b b1 b2 => (h1 b (by omega)).1) (er _ (by omega) (by omega)), ld.fr (fun b b1 b2 => (h1 b (by omega)).1) (er _ (by omega) (by omega)), ls.fr (fun b b1 b2 => (h1 b (by omega)).1) (er _ (by omega) (by omega)), ?_⟩, ⟨lno.fr (fun b b1 b2 => (h1 b (by omega)).1) (er _ (by omega) (by omega)), by rw [er _ (by omega) (by omega)]; exact lnp⟩, ltr.fr (fun b b1 b2 => (h1 b (by omega)).1) (er _ (by omega) (by omega)), lh.fr (fun b b1 b2 => ⟨(h1 b (by omega)).1, er b (by omega) (by omega)⟩), ⟨(h1 _ (by omega)).1.trans li, h3⟩, (h1 _ (by omega)).1.trans lk, (h1 _ (by omega)).1.trans l0, (h1 _ (by omega)).1.trans l1, (h1 _ (by omega)).1.trans l2⟩, ?_⟩
        · rw [ez]
          exact ⟨rz0, rz1, rz2, rz3, rz4, rz5, rz6, rz7, rz8, rz9, rz10, rz11, rz12⟩
        · exact ⟨(h1 _ (by omega)).1.trans lr.1, by rw [er _ (by omega) (by omega)]; exact lr.2.1, by rw [er _ (by omega) (by omega)]; exact lr.2.2⟩
        · refine ⟨⟨by rw [(h1 _ (by omega)).2]; exact kt, fun j hj => by omega⟩, kc.eq (fun b b1 b2 => (h1 b (by omega)).2), kr.eq (fun b b1 b2 => (h1 b (by omega)).2), ⟨by rw [(h1 _ (by omega)).2]; exact kh1, 0, by decide, by rw [(h1 _ (by omega)).2]; exact kh2, fun i hi => by omega⟩, fun i hi => ?_, ⟨by rw [(h1 _ (by omega)).2]; exact v13, fun i hi => by omega⟩⟩
          show I' (z + 244) i = 0
          rw [(h1 _ (by omega)).2]; exact k9 i
      · exact absurd (by decide) hb
    | succ f ih =>
      intro i sh' I' R' hi h1 h2 h3
      refine mv_iload_n (pc := 158) dX5_init_158 rfl ?_
      refine mv_iconst (pc := 159) (v := 2) dX5_init_159 (by decide) ?_
      refine mv_icmp_ge (pc := 160) (tgt := 186) dX5_init_160 (by decide) (fun hb => ?_) (fun hb => ?_)
      · exact absurd hb (nI_ge (b := 2) (by omega) (by decide))
      · have ez : R' z = Rc12 z := h2 z (by omega) (by omega)
        have oz : sh' z = (5, 14) := (h1 z (by omega)).1.trans ob12
        refine mv_aload_n (pc := 163) dX5_init_163 rfl ?_
        refine mv_getR (pc := 164) (q := z + 243) dX5_init_164 fl5_57 (fun _ _ => rfl) (congrArg Prod.fst oz) (by rw [ez]; exact rz8) ?_
        refine mv_iload_n (pc := 167) dX5_init_167 rfl ?_
        refine mv_newG (pc := 168) (ci := 3) dX5_init_168 (by decide) cl5_38 wn3 wi3 (by show 247 + 15 * i + 1 ≤ 277; omega) (by show 5399 + 341 * i + 17 ≤ 6081; omega) (fun sh1 I1 R1 n1 t1 => ?_)
        refine mv_dup (pc := 171) dX5_init_171 rfl ?_
        refine mv_aload_n (pc := 172) dX5_init_172 rfl ?_
        refine mv_getR (pc := 173) (q := z + 3) dX5_init_173 fl5_19 (fun _ _ => rfl) (congrArg Prod.fst ((n1 z (by omega)).1.trans oz)) (by rw [(n1 z (by omega)).2.2, ez]; exact rz1) ?_
        have hq1 : ly_Plan sh1 R1 (z + 3) := lo.fr (fun b b1 b2 => (n1 b (by omega)).1.trans (h1 b (by omega)).1) ((n1 _ (by omega)).2.2.trans (h2 _ (by omega) (by omega)))
        have hp1 : pl_C I1 (z + 3) 1 sp_0 := kc.eq (fun b b1 b2 => (n1 b (by omega)).2.1.trans (h1 b (by omega)).2)
        refine mv_callIG (pc := 176) (a := z + 248 + 15 * i) dX5_init_176 lk5_40 (c3_init t1 hq1 (by omega) hp1 hp0) rfl rfl (Nat.le_of_ble_eq_true rfl) ⟨by decide, by decide⟩ ⟨by show 247 + 15 * i + 1 + 14 ≤ 277; omega, by show 5399 + 341 * i + 17 + 324 ≤ 6081; omega⟩ (fun sh2 I2 R2 f2 P2 => ?_)
        obtain ⟨p1, p2, p3⟩ := P2
        have g : ∀ b, b < z + 248 + 15 * i → sh2 b = sh' b ∧ I2 b = I' b ∧ R2 b = R' b := fun b hb => ⟨(f2 b hb).1.trans (n1 b (by omega)).1, (f2 b hb).2.1.trans (n1 b (by omega)).2.1, (f2 b hb).2.2.trans (n1 b (by omega)).2.2⟩
        refine mv_aast (pc := 179) (k := i) (v := z + 248 + 15 * i) dX5_init_179 ((g (z + 243) (by omega)).1.trans ((h1 _ (by omega)).1.trans li)) (congrArg Prod.fst p1.o) rfl (by omega) ?_
        refine mv_iinc (pc := 180) (v := nI (i + 1)) dX5_init_180 (by decide) rfl (nI_1 i) ?_
        refine mv_goto (pc := 183) (tgt := 158) dX5_init_183 (by decide) ?_
        have e1 : 247 + 15 * i + 1 + 14 = 247 + 15 * (i + 1) := by omega
        have e2 : 5399 + 341 * i + mv_N 3 + 324 = 5399 + 341 * (i + 1) := by
          show 5399 + 341 * i + 17 + 324 = 5399 + 341 * (i + 1)
          omega
        have e3 : z + 248 + 15 * i + 15 = z + 248 + 15 * (i + 1) := by omega
        rw [e1, e2, e3]
        have eR : ∀ b, b ≠ z + 243 → mv_up R2 (z + 243) i (some (z + 248 + 15 * i)) b = R2 b := fun b hb => mv_upN b hb
        refine ih (i + 1) sh2 I2 _ (by omega) (fun b hb => ⟨(g b (by omega)).1.trans (h1 b hb).1, (g b (by omega)).2.1.trans (h1 b hb).2⟩) (fun b hb hne => (eR b hne).trans ((g b (by omega)).2.2.trans (h2 b hb hne))) (fun j hj => ?_)
        by_cases hji : j = i
        · subst hji
          exact ⟨mv_upe, p1.fr (fun _ _ _ => rfl) (eR _ (by omega)), by rw [eR _ (by omega)]; exact p2⟩
        · obtain ⟨a, b, c⟩ := h3 j (by omega)
          refine ⟨?_, b.fr (fun x x1 x2 => (g x (by omega)).1) ((eR _ (by omega)).trans (g _ (by omega)).2.2), ?_⟩
          · simp only [mv_up, hji, and_false, if_false]
            rw [(g (z + 243) (by omega)).2.2]; exact a
          · rw [eR _ (by omega), (g _ (by omega)).2.2]; exact c
  refine mv_iconst (pc := 156) (v := 0) dX5_init_156 (by decide) ?_
  refine mv_istore_n (pc := 157) dX5_init_157 (by decide) ?_
  exact loop 2 0 sb12 I13 Rc12 (by omega) (fun b _ => ⟨rfl, rfl⟩) (fun b _ _ => rfl) (fun j hj => by omega)
