def ab_0 : ab_S := (fun _ => 0, 0, 1, sp_0, xs_st (sp_0 0 2), 0, fun _ => sp_0, fun _ => none, 0, fun _ => (0, 0, 0))
theorem ab_0W : ab_W ab_0 := by
  have hp : pl_W 1 sp_0 := sp_W.z.2.1
  have hs := xs_W.st hp
  exact ⟨⟨by decide, fun j hj => by omega⟩, hp, ⟨hs.1, 0, by decide, hs.2⟩, by decide, fun i hi => by omega, fun i y h => (by cases h), by decide, fun i hi => by omega⟩
set_option maxHeartbeats 4000000 in
set_option maxRecDepth 100000 in
theorem c6_init {l : Launch} {D : va_G} {b0 : Nat} {sh : mv_Sh} {I : mv_I} {R : mv_R} {p : Nat} (ho : sh p = (6, 34)) (hi : ∀ k, I p k = 0) : mv_C l D b0 m6_init (mv_rc 3 21 5628) [.ref p] (p + 1) sh I R (mk_Q p 22 sh I R (fun sh' I' R' => ly_Mod sh' R' p ∧ gm_S I' p (ab_0))) := by
  refine mv_C.of 0 (by decide) (by simp [Value.category]) rfl ?_
  show mv_E l D b0 m6_init (mv_rc 3 21 5628) _ 0 [.ref p] [] 0 0 (p + 1) sh I R
  refine mv_aload_n (pc := 0) dX6_init_0 rfl ?_
  refine mv_objInit (pc := 1) dX6_init_1 lko6_1 wo_i wo_c (Nat.le_of_ble_eq_true rfl) ⟨by decide, by decide⟩ ?_
  refine mv_aload_n (pc := 4) dX6_init_4 rfl ?_
  refine mv_bipush (pc := 5) (v := 120) dX6_init_5 (by decide) ?_
  refine mv_newIp (pc := 7) (p := p) (len := 120) dX6_init_7 dX6_init_9 fl6_7 (fun _ _ => rfl) (Or.inr ⟨rfl, rfl, rfl⟩) rfl rfl (congrArg Prod.fst ho) (by omega) wa_int rfl (by decide) (Nat.le_of_ble_eq_true rfl) (Nat.le_of_ble_eq_true rfl) (fun sh1 I1 R1 s1 t1 i1 z1 r1 q1 w1 => ?_)
  have o1 : sh1 p = (6, 34) := (s1 p (by omega)).trans ho
  refine mv_aload_n (pc := 12) dX6_init_12 rfl ?_
  refine mv_bipush (pc := 13) (v := 8) dX6_init_13 (by decide) ?_
  refine mv_newIp (pc := 15) (p := p) (len := 8) dX6_init_15 dX6_init_17 fl6_13 (fun _ _ => rfl) (Or.inr ⟨rfl, rfl, rfl⟩) rfl rfl (congrArg Prod.fst o1) (by omega) wa_int rfl (by decide) (Nat.le_of_ble_eq_true rfl) (Nat.le_of_ble_eq_true rfl) (fun sh2 I2 R2 s2 t2 i2 z2 r2 q2 w2 => ?_)
  have o2 : sh2 p = (6, 34) := (s2 p (by omega)).trans o1
  refine mv_aload_n (pc := 20) dX6_init_20 rfl ?_
  refine mv_bipush (pc := 21) (v := 8) dX6_init_21 (by decide) ?_
  refine mv_newIp (pc := 23) (p := p) (len := 8) dX6_init_23 dX6_init_25 fl6_16 (fun _ _ => rfl) (Or.inr ⟨rfl, rfl, rfl⟩) rfl rfl (congrArg Prod.fst o2) (by omega) wa_int rfl (by decide) (Nat.le_of_ble_eq_true rfl) (Nat.le_of_ble_eq_true rfl) (fun sh3 I3 R3 s3 t3 i3 z3 r3 q3 w3 => ?_)
  have o3 : sh3 p = (6, 34) := (s3 p (by omega)).trans o2
  refine mv_aload_n (pc := 28) dX6_init_28 rfl ?_
  refine mv_bipush (pc := 29) (v := 96) dX6_init_29 (by decide) ?_
  refine mv_newIp (pc := 31) (p := p) (len := 96) dX6_init_31 dX6_init_33 fl6_19 (fun _ _ => rfl) (Or.inr ⟨rfl, rfl, rfl⟩) rfl rfl (congrArg Prod.fst o3) (by omega) wa_int rfl (by decide) (Nat.le_of_ble_eq_true rfl) (Nat.le_of_ble_eq_true rfl) (fun sh4 I4 R4 s4 t4 i4 z4 r4 q4 w4 => ?_)
  have o4 : sh4 p = (6, 34) := (s4 p (by omega)).trans o3
  refine mv_aload_n (pc := 36) dX6_init_36 rfl ?_
  refine mv_bipush (pc := 37) (v := 8) dX6_init_37 (by decide) ?_
  refine mv_newIp (pc := 39) (p := p) (len := 8) dX6_init_39 dX6_init_41 fl6_22 (fun _ _ => rfl) (Or.inr ⟨rfl, rfl, rfl⟩) rfl rfl (congrArg Prod.fst o4) (by omega) wa_int rfl (by decide) (Nat.le_of_ble_eq_true rfl) (Nat.le_of_ble_eq_true rfl) (fun sh5 I5 R5 s5 t5 i5 z5 r5 q5 w5 => ?_)
  have o5 : sh5 p = (6, 34) := (s5 p (by omega)).trans o4
  refine mv_aload_n (pc := 44) dX6_init_44 rfl ?_
  refine mv_bipush (pc := 45) (v := 8) dX6_init_45 (by decide) ?_
  refine mv_newIp (pc := 47) (p := p) (len := 8) dX6_init_47 dX6_init_49 fl6_25 (fun _ _ => rfl) (Or.inr ⟨rfl, rfl, rfl⟩) rfl rfl (congrArg Prod.fst o5) (by omega) wa_int rfl (by decide) (Nat.le_of_ble_eq_true rfl) (Nat.le_of_ble_eq_true rfl) (fun sh6 I6 R6 s6 t6 i6 z6 r6 q6 w6 => ?_)
  have o6 : sh6 p = (6, 34) := (s6 p (by omega)).trans o5
  refine mv_aload_n (pc := 52) dX6_init_52 rfl ?_
  refine mv_bipush (pc := 53) (v := 8) dX6_init_53 (by decide) ?_
  refine mv_newIp (pc := 55) (p := p) (len := 8) dX6_init_55 dX6_init_57 fl6_28 (fun _ _ => rfl) (Or.inr ⟨rfl, rfl, rfl⟩) rfl rfl (congrArg Prod.fst o6) (by omega) wa_int rfl (by decide) (Nat.le_of_ble_eq_true rfl) (Nat.le_of_ble_eq_true rfl) (fun sh7 I7 R7 s7 t7 i7 z7 r7 q7 w7 => ?_)
  have o7 : sh7 p = (6, 34) := (s7 p (by omega)).trans o6
  refine mv_aload_n (pc := 60) dX6_init_60 rfl ?_
  refine mv_bipush (pc := 61) (v := 8) dX6_init_61 (by decide) ?_
  refine mv_newIp (pc := 63) (p := p) (len := 8) dX6_init_63 dX6_init_65 fl6_31 (fun _ _ => rfl) (Or.inr ⟨rfl, rfl, rfl⟩) rfl rfl (congrArg Prod.fst o7) (by omega) wa_int rfl (by decide) (Nat.le_of_ble_eq_true rfl) (Nat.le_of_ble_eq_true rfl) (fun sh8 I8 R8 s8 t8 i8 z8 r8 q8 w8 => ?_)
  have o8 : sh8 p = (6, 34) := (s8 p (by omega)).trans o7
  refine mv_aload_n (pc := 68) dX6_init_68 rfl ?_
  refine mv_bipush (pc := 69) (v := 8) dX6_init_69 (by decide) ?_
  refine mv_newIp (pc := 71) (p := p) (len := 8) dX6_init_71 dX6_init_73 fl6_34 (fun _ _ => rfl) (Or.inr ⟨rfl, rfl, rfl⟩) rfl rfl (congrArg Prod.fst o8) (by omega) wa_int rfl (by decide) (Nat.le_of_ble_eq_true rfl) (Nat.le_of_ble_eq_true rfl) (fun sh9 I9 R9 s9 t9 i9 z9 r9 q9 w9 => ?_)
  have o9 : sh9 p = (6, 34) := (s9 p (by omega)).trans o8
  refine mv_aload_n (pc := 76) dX6_init_76 rfl ?_
  refine mv_bipush (pc := 77) (v := 96) dX6_init_77 (by decide) ?_
  refine mv_newIp (pc := 79) (p := p) (len := 96) dX6_init_79 dX6_init_81 fl6_37 (fun _ _ => rfl) (Or.inr ⟨rfl, rfl, rfl⟩) rfl rfl (congrArg Prod.fst o9) (by omega) wa_int rfl (by decide) (Nat.le_of_ble_eq_true rfl) (Nat.le_of_ble_eq_true rfl) (fun sh10 I10 R10 s10 t10 i10 z10 r10 q10 w10 => ?_)
  have o10 : sh10 p = (6, 34) := (s10 p (by omega)).trans o9
  refine mv_aload_n (pc := 84) dX6_init_84 rfl ?_
  refine mv_bipush (pc := 85) (v := 8) dX6_init_85 (by decide) ?_
  refine mv_newIp (pc := 87) (p := p) (len := 8) dX6_init_87 dX6_init_89 fl6_40 (fun _ _ => rfl) (Or.inr ⟨rfl, rfl, rfl⟩) rfl rfl (congrArg Prod.fst o10) (by omega) wa_int rfl (by decide) (Nat.le_of_ble_eq_true rfl) (Nat.le_of_ble_eq_true rfl) (fun sh11 I11 R11 s11 t11 i11 z11 r11 q11 w11 => ?_)
  have o11 : sh11 p = (6, 34) := (s11 p (by omega)).trans o10
  refine mv_aload_n (pc := 92) dX6_init_92 rfl ?_
  refine mv_bipush (pc := 93) (v := 8) dX6_init_93 (by decide) ?_
  refine mv_newIp (pc := 95) (p := p) (len := 8) dX6_init_95 dX6_init_97 fl6_43 (fun _ _ => rfl) (Or.inr ⟨rfl, rfl, rfl⟩) rfl rfl (congrArg Prod.fst o11) (by omega) wa_int rfl (by decide) (Nat.le_of_ble_eq_true rfl) (Nat.le_of_ble_eq_true rfl) (fun sh12 I12 R12 s12 t12 i12 z12 r12 q12 w12 => ?_)
  have o12 : sh12 p = (6, 34) := (s12 p (by omega)).trans o11
  refine mv_aload_n (pc := 100) dX6_init_100 rfl ?_
  refine mv_bipush (pc := 101) (v := 8) dX6_init_101 (by decide) ?_
  refine mv_newIp (pc := 103) (p := p) (len := 8) dX6_init_103 dX6_init_105 fl6_46 (fun _ _ => rfl) (Or.inr ⟨rfl, rfl, rfl⟩) rfl rfl (congrArg Prod.fst o12) (by omega) wa_int rfl (by decide) (Nat.le_of_ble_eq_true rfl) (Nat.le_of_ble_eq_true rfl) (fun sh13 I13 R13 s13 t13 i13 z13 r13 q13 w13 => ?_)
  have o13 : sh13 p = (6, 34) := (s13 p (by omega)).trans o12
  refine mv_aload_n (pc := 108) dX6_init_108 rfl ?_
  refine mv_sipush (pc := 109) (v := 326) dX6_init_109 (by decide) ?_
  refine mv_newIp (pc := 112) (p := p) (len := 326) dX6_init_112 dX6_init_114 fl6_49 (fun _ _ => rfl) (Or.inr ⟨rfl, rfl, rfl⟩) rfl rfl (congrArg Prod.fst o13) (by omega) wa_int rfl (by decide) (Nat.le_of_ble_eq_true rfl) (Nat.le_of_ble_eq_true rfl) (fun sh14 I14 R14 s14 t14 i14 z14 r14 q14 w14 => ?_)
  have o14 : sh14 p = (6, 34) := (s14 p (by omega)).trans o13
  refine mv_aload_n (pc := 117) dX6_init_117 rfl ?_
  refine mv_sipush (pc := 118) (v := 326) dX6_init_118 (by decide) ?_
  refine mv_newIp (pc := 121) (p := p) (len := 326) dX6_init_121 dX6_init_123 fl6_52 (fun _ _ => rfl) (Or.inr ⟨rfl, rfl, rfl⟩) rfl rfl (congrArg Prod.fst o14) (by omega) wa_int rfl (by decide) (Nat.le_of_ble_eq_true rfl) (Nat.le_of_ble_eq_true rfl) (fun sh15 I15 R15 s15 t15 i15 z15 r15 q15 w15 => ?_)
  have o15 : sh15 p = (6, 34) := (s15 p (by omega)).trans o14
  refine mv_aload_n (pc := 126) dX6_init_126 rfl ?_
  refine mv_sipush (pc := 127) (v := 3912) dX6_init_127 (by decide) ?_
  refine mv_newIp (pc := 130) (p := p) (len := 3912) dX6_init_130 dX6_init_132 fl6_55 (fun _ _ => rfl) (Or.inr ⟨rfl, rfl, rfl⟩) rfl rfl (congrArg Prod.fst o15) (by omega) wa_int rfl (by decide) (Nat.le_of_ble_eq_true rfl) (Nat.le_of_ble_eq_true rfl) (fun sh16 I16 R16 s16 t16 i16 z16 r16 q16 w16 => ?_)
  have o16 : sh16 p = (6, 34) := (s16 p (by omega)).trans o15
  refine mv_aload_n (pc := 135) dX6_init_135 rfl ?_
  refine mv_bipush (pc := 136) (v := 6) dX6_init_136 (by decide) ?_
  refine mv_newIp (pc := 138) (p := p) (len := 6) dX6_init_138 dX6_init_140 fl6_58 (fun _ _ => rfl) (Or.inr ⟨rfl, rfl, rfl⟩) rfl rfl (congrArg Prod.fst o16) (by omega) wa_int rfl (by decide) (Nat.le_of_ble_eq_true rfl) (Nat.le_of_ble_eq_true rfl) (fun sh17 I17 R17 s17 t17 i17 z17 r17 q17 w17 => ?_)
  have o17 : sh17 p = (6, 34) := (s17 p (by omega)).trans o16
  refine mv_aload_n (pc := 143) dX6_init_143 rfl ?_
  refine mv_bipush (pc := 144) (v := 6) dX6_init_144 (by decide) ?_
  refine mv_newIp (pc := 146) (p := p) (len := 6) dX6_init_146 dX6_init_148 fl6_61 (fun _ _ => rfl) (Or.inr ⟨rfl, rfl, rfl⟩) rfl rfl (congrArg Prod.fst o17) (by omega) wa_int rfl (by decide) (Nat.le_of_ble_eq_true rfl) (Nat.le_of_ble_eq_true rfl) (fun sh18 I18 R18 s18 t18 i18 z18 r18 q18 w18 => ?_)
  have o18 : sh18 p = (6, 34) := (s18 p (by omega)).trans o17
  refine mv_aload_n (pc := 151) dX6_init_151 rfl ?_
  refine mv_bipush (pc := 152) (v := 6) dX6_init_152 (by decide) ?_
  refine mv_newIp (pc := 154) (p := p) (len := 6) dX6_init_154 dX6_init_156 fl6_64 (fun _ _ => rfl) (Or.inr ⟨rfl, rfl, rfl⟩) rfl rfl (congrArg Prod.fst o18) (by omega) wa_int rfl (by decide) (Nat.le_of_ble_eq_true rfl) (Nat.le_of_ble_eq_true rfl) (fun sh19 I19 R19 s19 t19 i19 z19 r19 q19 w19 => ?_)
  have o19 : sh19 p = (6, 34) := (s19 p (by omega)).trans o18
  refine mv_aload_n (pc := 159) dX6_init_159 rfl ?_
  refine mv_iconst (pc := 160) (v := 2) dX6_init_160 (by decide) ?_
  refine mv_newZp (pc := 161) (p := p) (len := 2) dX6_init_161 dX6_init_163 fl6_67 (fun _ _ => rfl) (Or.inr ⟨rfl, rfl, rfl⟩) rfl rfl (congrArg Prod.fst o19) (by omega) wa_boolean rfl (by decide) (Nat.le_of_ble_eq_true rfl) (Nat.le_of_ble_eq_true rfl) (fun sh20 I20 R20 s20 t20 i20 z20 r20 q20 w20 => ?_)
  have o20 : sh20 p = (6, 34) := (s20 p (by omega)).trans o19
  refine mv_aload_n (pc := 166) dX6_init_166 rfl ?_
  refine mv_sipush (pc := 167) (v := 652) dX6_init_167 (by decide) ?_
  refine mv_newIp (pc := 170) (p := p) (len := 652) dX6_init_170 dX6_init_172 fl6_71 (fun _ _ => rfl) (Or.inr ⟨rfl, rfl, rfl⟩) rfl rfl (congrArg Prod.fst o20) (by omega) wa_int rfl (by decide) (Nat.le_of_ble_eq_true rfl) (Nat.le_of_ble_eq_true rfl) (fun sh21 I21 R21 s21 t21 i21 z21 r21 q21 w21 => ?_)
  have o21 : sh21 p = (6, 34) := (s21 p (by omega)).trans o20
  refine mv_aload_n (pc := 175) dX6_init_175 rfl ?_
  have g1 : sh21 (p + 1) = (7, 120) := by
    rw [s21 (p + 1) (by omega), s20 (p + 1) (by omega), s19 (p + 1) (by omega), s18 (p + 1) (by omega), s17 (p + 1) (by omega), s16 (p + 1) (by omega), s15 (p + 1) (by omega), s14 (p + 1) (by omega), s13 (p + 1) (by omega), s12 (p + 1) (by omega), s11 (p + 1) (by omega), s10 (p + 1) (by omega), s9 (p + 1) (by omega), s8 (p + 1) (by omega), s7 (p + 1) (by omega), s6 (p + 1) (by omega), s5 (p + 1) (by omega), s4 (p + 1) (by omega), s3 (p + 1) (by omega), s2 (p + 1) (by omega)]
    exact t1
  have f1 : R21 p 1 = some (p + 1) := by
    rw [q21 1 (by decide), q20 1 (by decide), q19 1 (by decide), q18 1 (by decide), q17 1 (by decide), q16 1 (by decide), q15 1 (by decide), q14 1 (by decide), q13 1 (by decide), q12 1 (by decide), q11 1 (by decide), q10 1 (by decide), q9 1 (by decide), q8 1 (by decide), q7 1 (by decide), q6 1 (by decide), q5 1 (by decide), q4 1 (by decide), q3 1 (by decide), q2 1 (by decide)]
    exact w1
  have v1 : ∀ j, I21 (p + 1) j = 0 := fun j => by
    rw [i21 (p + 1) (by omega), i20 (p + 1) (by omega), i19 (p + 1) (by omega), i18 (p + 1) (by omega), i17 (p + 1) (by omega), i16 (p + 1) (by omega), i15 (p + 1) (by omega), i14 (p + 1) (by omega), i13 (p + 1) (by omega), i12 (p + 1) (by omega), i11 (p + 1) (by omega), i10 (p + 1) (by omega), i9 (p + 1) (by omega), i8 (p + 1) (by omega), i7 (p + 1) (by omega), i6 (p + 1) (by omega), i5 (p + 1) (by omega), i4 (p + 1) (by omega), i3 (p + 1) (by omega), i2 (p + 1) (by omega)]
    exact z1 j
  have g2 : sh21 (p + 2) = (7, 8) := by
    rw [s21 (p + 2) (by omega), s20 (p + 2) (by omega), s19 (p + 2) (by omega), s18 (p + 2) (by omega), s17 (p + 2) (by omega), s16 (p + 2) (by omega), s15 (p + 2) (by omega), s14 (p + 2) (by omega), s13 (p + 2) (by omega), s12 (p + 2) (by omega), s11 (p + 2) (by omega), s10 (p + 2) (by omega), s9 (p + 2) (by omega), s8 (p + 2) (by omega), s7 (p + 2) (by omega), s6 (p + 2) (by omega), s5 (p + 2) (by omega), s4 (p + 2) (by omega), s3 (p + 2) (by omega)]
    exact t2
  have f2 : R21 p 9 = some (p + 2) := by
    rw [q21 9 (by decide), q20 9 (by decide), q19 9 (by decide), q18 9 (by decide), q17 9 (by decide), q16 9 (by decide), q15 9 (by decide), q14 9 (by decide), q13 9 (by decide), q12 9 (by decide), q11 9 (by decide), q10 9 (by decide), q9 9 (by decide), q8 9 (by decide), q7 9 (by decide), q6 9 (by decide), q5 9 (by decide), q4 9 (by decide), q3 9 (by decide)]
    exact w2
  have v2 : ∀ j, I21 (p + 2) j = 0 := fun j => by
    rw [i21 (p + 2) (by omega), i20 (p + 2) (by omega), i19 (p + 2) (by omega), i18 (p + 2) (by omega), i17 (p + 2) (by omega), i16 (p + 2) (by omega), i15 (p + 2) (by omega), i14 (p + 2) (by omega), i13 (p + 2) (by omega), i12 (p + 2) (by omega), i11 (p + 2) (by omega), i10 (p + 2) (by omega), i9 (p + 2) (by omega), i8 (p + 2) (by omega), i7 (p + 2) (by omega), i6 (p + 2) (by omega), i5 (p + 2) (by omega), i4 (p + 2) (by omega), i3 (p + 2) (by omega)]
    exact z2 j
  have g3 : sh21 (p + 3) = (7, 8) := by
    rw [s21 (p + 3) (by omega), s20 (p + 3) (by omega), s19 (p + 3) (by omega), s18 (p + 3) (by omega), s17 (p + 3) (by omega), s16 (p + 3) (by omega), s15 (p + 3) (by omega), s14 (p + 3) (by omega), s13 (p + 3) (by omega), s12 (p + 3) (by omega), s11 (p + 3) (by omega), s10 (p + 3) (by omega), s9 (p + 3) (by omega), s8 (p + 3) (by omega), s7 (p + 3) (by omega), s6 (p + 3) (by omega), s5 (p + 3) (by omega), s4 (p + 3) (by omega)]
    exact t3
  have f3 : R21 p 10 = some (p + 3) := by
    rw [q21 10 (by decide), q20 10 (by decide), q19 10 (by decide), q18 10 (by decide), q17 10 (by decide), q16 10 (by decide), q15 10 (by decide), q14 10 (by decide), q13 10 (by decide), q12 10 (by decide), q11 10 (by decide), q10 10 (by decide), q9 10 (by decide), q8 10 (by decide), q7 10 (by decide), q6 10 (by decide), q5 10 (by decide), q4 10 (by decide)]
    exact w3
  have v3 : ∀ j, I21 (p + 3) j = 0 := fun j => by
    rw [i21 (p + 3) (by omega), i20 (p + 3) (by omega), i19 (p + 3) (by omega), i18 (p + 3) (by omega), i17 (p + 3) (by omega), i16 (p + 3) (by omega), i15 (p + 3) (by omega), i14 (p + 3) (by omega), i13 (p + 3) (by omega), i12 (p + 3) (by omega), i11 (p + 3) (by omega), i10 (p + 3) (by omega), i9 (p + 3) (by omega), i8 (p + 3) (by omega), i7 (p + 3) (by omega), i6 (p + 3) (by omega), i5 (p + 3) (by omega), i4 (p + 3) (by omega)]
    exact z3 j
  have g4 : sh21 (p + 4) = (7, 96) := by
    rw [s21 (p + 4) (by omega), s20 (p + 4) (by omega), s19 (p + 4) (by omega), s18 (p + 4) (by omega), s17 (p + 4) (by omega), s16 (p + 4) (by omega), s15 (p + 4) (by omega), s14 (p + 4) (by omega), s13 (p + 4) (by omega), s12 (p + 4) (by omega), s11 (p + 4) (by omega), s10 (p + 4) (by omega), s9 (p + 4) (by omega), s8 (p + 4) (by omega), s7 (p + 4) (by omega), s6 (p + 4) (by omega), s5 (p + 4) (by omega)]
    exact t4
  have f4 : R21 p 11 = some (p + 4) := by
    rw [q21 11 (by decide), q20 11 (by decide), q19 11 (by decide), q18 11 (by decide), q17 11 (by decide), q16 11 (by decide), q15 11 (by decide), q14 11 (by decide), q13 11 (by decide), q12 11 (by decide), q11 11 (by decide), q10 11 (by decide), q9 11 (by decide), q8 11 (by decide), q7 11 (by decide), q6 11 (by decide), q5 11 (by decide)]
    exact w4
  have v4 : ∀ j, I21 (p + 4) j = 0 := fun j => by
    rw [i21 (p + 4) (by omega), i20 (p + 4) (by omega), i19 (p + 4) (by omega), i18 (p + 4) (by omega), i17 (p + 4) (by omega), i16 (p + 4) (by omega), i15 (p + 4) (by omega), i14 (p + 4) (by omega), i13 (p + 4) (by omega), i12 (p + 4) (by omega), i11 (p + 4) (by omega), i10 (p + 4) (by omega), i9 (p + 4) (by omega), i8 (p + 4) (by omega), i7 (p + 4) (by omega), i6 (p + 4) (by omega), i5 (p + 4) (by omega)]
    exact z4 j
  have g5 : sh21 (p + 5) = (7, 8) := by
    rw [s21 (p + 5) (by omega), s20 (p + 5) (by omega), s19 (p + 5) (by omega), s18 (p + 5) (by omega), s17 (p + 5) (by omega), s16 (p + 5) (by omega), s15 (p + 5) (by omega), s14 (p + 5) (by omega), s13 (p + 5) (by omega), s12 (p + 5) (by omega), s11 (p + 5) (by omega), s10 (p + 5) (by omega), s9 (p + 5) (by omega), s8 (p + 5) (by omega), s7 (p + 5) (by omega), s6 (p + 5) (by omega)]
    exact t5
  have f5 : R21 p 12 = some (p + 5) := by
    rw [q21 12 (by decide), q20 12 (by decide), q19 12 (by decide), q18 12 (by decide), q17 12 (by decide), q16 12 (by decide), q15 12 (by decide), q14 12 (by decide), q13 12 (by decide), q12 12 (by decide), q11 12 (by decide), q10 12 (by decide), q9 12 (by decide), q8 12 (by decide), q7 12 (by decide), q6 12 (by decide)]
    exact w5
  have v5 : ∀ j, I21 (p + 5) j = 0 := fun j => by
    rw [i21 (p + 5) (by omega), i20 (p + 5) (by omega), i19 (p + 5) (by omega), i18 (p + 5) (by omega), i17 (p + 5) (by omega), i16 (p + 5) (by omega), i15 (p + 5) (by omega), i14 (p + 5) (by omega), i13 (p + 5) (by omega), i12 (p + 5) (by omega), i11 (p + 5) (by omega), i10 (p + 5) (by omega), i9 (p + 5) (by omega), i8 (p + 5) (by omega), i7 (p + 5) (by omega), i6 (p + 5) (by omega)]
    exact z5 j
  have g6 : sh21 (p + 6) = (7, 8) := by
    rw [s21 (p + 6) (by omega), s20 (p + 6) (by omega), s19 (p + 6) (by omega), s18 (p + 6) (by omega), s17 (p + 6) (by omega), s16 (p + 6) (by omega), s15 (p + 6) (by omega), s14 (p + 6) (by omega), s13 (p + 6) (by omega), s12 (p + 6) (by omega), s11 (p + 6) (by omega), s10 (p + 6) (by omega), s9 (p + 6) (by omega), s8 (p + 6) (by omega), s7 (p + 6) (by omega)]
    exact t6
  have f6 : R21 p 13 = some (p + 6) := by
    rw [q21 13 (by decide), q20 13 (by decide), q19 13 (by decide), q18 13 (by decide), q17 13 (by decide), q16 13 (by decide), q15 13 (by decide), q14 13 (by decide), q13 13 (by decide), q12 13 (by decide), q11 13 (by decide), q10 13 (by decide), q9 13 (by decide), q8 13 (by decide), q7 13 (by decide)]
    exact w6
  have v6 : ∀ j, I21 (p + 6) j = 0 := fun j => by
    rw [i21 (p + 6) (by omega), i20 (p + 6) (by omega), i19 (p + 6) (by omega), i18 (p + 6) (by omega), i17 (p + 6) (by omega), i16 (p + 6) (by omega), i15 (p + 6) (by omega), i14 (p + 6) (by omega), i13 (p + 6) (by omega), i12 (p + 6) (by omega), i11 (p + 6) (by omega), i10 (p + 6) (by omega), i9 (p + 6) (by omega), i8 (p + 6) (by omega), i7 (p + 6) (by omega)]
    exact z6 j
  have g7 : sh21 (p + 7) = (7, 8) := by
    rw [s21 (p + 7) (by omega), s20 (p + 7) (by omega), s19 (p + 7) (by omega), s18 (p + 7) (by omega), s17 (p + 7) (by omega), s16 (p + 7) (by omega), s15 (p + 7) (by omega), s14 (p + 7) (by omega), s13 (p + 7) (by omega), s12 (p + 7) (by omega), s11 (p + 7) (by omega), s10 (p + 7) (by omega), s9 (p + 7) (by omega), s8 (p + 7) (by omega)]
    exact t7
  have f7 : R21 p 14 = some (p + 7) := by
    rw [q21 14 (by decide), q20 14 (by decide), q19 14 (by decide), q18 14 (by decide), q17 14 (by decide), q16 14 (by decide), q15 14 (by decide), q14 14 (by decide), q13 14 (by decide), q12 14 (by decide), q11 14 (by decide), q10 14 (by decide), q9 14 (by decide), q8 14 (by decide)]
    exact w7
  have v7 : ∀ j, I21 (p + 7) j = 0 := fun j => by
    rw [i21 (p + 7) (by omega), i20 (p + 7) (by omega), i19 (p + 7) (by omega), i18 (p + 7) (by omega), i17 (p + 7) (by omega), i16 (p + 7) (by omega), i15 (p + 7) (by omega), i14 (p + 7) (by omega), i13 (p + 7) (by omega), i12 (p + 7) (by omega), i11 (p + 7) (by omega), i10 (p + 7) (by omega), i9 (p + 7) (by omega), i8 (p + 7) (by omega)]
    exact z7 j
  have g8 : sh21 (p + 8) = (7, 8) := by
    rw [s21 (p + 8) (by omega), s20 (p + 8) (by omega), s19 (p + 8) (by omega), s18 (p + 8) (by omega), s17 (p + 8) (by omega), s16 (p + 8) (by omega), s15 (p + 8) (by omega), s14 (p + 8) (by omega), s13 (p + 8) (by omega), s12 (p + 8) (by omega), s11 (p + 8) (by omega), s10 (p + 8) (by omega), s9 (p + 8) (by omega)]
    exact t8
  have f8 : R21 p 17 = some (p + 8) := by
    rw [q21 17 (by decide), q20 17 (by decide), q19 17 (by decide), q18 17 (by decide), q17 17 (by decide), q16 17 (by decide), q15 17 (by decide), q14 17 (by decide), q13 17 (by decide), q12 17 (by decide), q11 17 (by decide), q10 17 (by decide), q9 17 (by decide)]
    exact w8
  have v8 : ∀ j, I21 (p + 8) j = 0 := fun j => by
    rw [i21 (p + 8) (by omega), i20 (p + 8) (by omega), i19 (p + 8) (by omega), i18 (p + 8) (by omega), i17 (p + 8) (by omega), i16 (p + 8) (by omega), i15 (p + 8) (by omega), i14 (p + 8) (by omega), i13 (p + 8) (by omega), i12 (p + 8) (by omega), i11 (p + 8) (by omega), i10 (p + 8) (by omega), i9 (p + 8) (by omega)]
    exact z8 j
  have g9 : sh21 (p + 9) = (7, 8) := by
    rw [s21 (p + 9) (by omega), s20 (p + 9) (by omega), s19 (p + 9) (by omega), s18 (p + 9) (by omega), s17 (p + 9) (by omega), s16 (p + 9) (by omega), s15 (p + 9) (by omega), s14 (p + 9) (by omega), s13 (p + 9) (by omega), s12 (p + 9) (by omega), s11 (p + 9) (by omega), s10 (p + 9) (by omega)]
    exact t9
  have f9 : R21 p 18 = some (p + 9) := by
    rw [q21 18 (by decide), q20 18 (by decide), q19 18 (by decide), q18 18 (by decide), q17 18 (by decide), q16 18 (by decide), q15 18 (by decide), q14 18 (by decide), q13 18 (by decide), q12 18 (by decide), q11 18 (by decide), q10 18 (by decide)]
    exact w9
  have v9 : ∀ j, I21 (p + 9) j = 0 := fun j => by
    rw [i21 (p + 9) (by omega), i20 (p + 9) (by omega), i19 (p + 9) (by omega), i18 (p + 9) (by omega), i17 (p + 9) (by omega), i16 (p + 9) (by omega), i15 (p + 9) (by omega), i14 (p + 9) (by omega), i13 (p + 9) (by omega), i12 (p + 9) (by omega), i11 (p + 9) (by omega), i10 (p + 9) (by omega)]
    exact z9 j
  have g10 : sh21 (p + 10) = (7, 96) := by
    rw [s21 (p + 10) (by omega), s20 (p + 10) (by omega), s19 (p + 10) (by omega), s18 (p + 10) (by omega), s17 (p + 10) (by omega), s16 (p + 10) (by omega), s15 (p + 10) (by omega), s14 (p + 10) (by omega), s13 (p + 10) (by omega), s12 (p + 10) (by omega), s11 (p + 10) (by omega)]
    exact t10
  have f10 : R21 p 19 = some (p + 10) := by
    rw [q21 19 (by decide), q20 19 (by decide), q19 19 (by decide), q18 19 (by decide), q17 19 (by decide), q16 19 (by decide), q15 19 (by decide), q14 19 (by decide), q13 19 (by decide), q12 19 (by decide), q11 19 (by decide)]
    exact w10
  have v10 : ∀ j, I21 (p + 10) j = 0 := fun j => by
    rw [i21 (p + 10) (by omega), i20 (p + 10) (by omega), i19 (p + 10) (by omega), i18 (p + 10) (by omega), i17 (p + 10) (by omega), i16 (p + 10) (by omega), i15 (p + 10) (by omega), i14 (p + 10) (by omega), i13 (p + 10) (by omega), i12 (p + 10) (by omega), i11 (p + 10) (by omega)]
    exact z10 j
  have g11 : sh21 (p + 11) = (7, 8) := by
    rw [s21 (p + 11) (by omega), s20 (p + 11) (by omega), s19 (p + 11) (by omega), s18 (p + 11) (by omega), s17 (p + 11) (by omega), s16 (p + 11) (by omega), s15 (p + 11) (by omega), s14 (p + 11) (by omega), s13 (p + 11) (by omega), s12 (p + 11) (by omega)]
    exact t11
  have f11 : R21 p 20 = some (p + 11) := by
    rw [q21 20 (by decide), q20 20 (by decide), q19 20 (by decide), q18 20 (by decide), q17 20 (by decide), q16 20 (by decide), q15 20 (by decide), q14 20 (by decide), q13 20 (by decide), q12 20 (by decide)]
    exact w11
  have v11 : ∀ j, I21 (p + 11) j = 0 := fun j => by
    rw [i21 (p + 11) (by omega), i20 (p + 11) (by omega), i19 (p + 11) (by omega), i18 (p + 11) (by omega), i17 (p + 11) (by omega), i16 (p + 11) (by omega), i15 (p + 11) (by omega), i14 (p + 11) (by omega), i13 (p + 11) (by omega), i12 (p + 11) (by omega)]
    exact z11 j
  have g12 : sh21 (p + 12) = (7, 8) := by
    rw [s21 (p + 12) (by omega), s20 (p + 12) (by omega), s19 (p + 12) (by omega), s18 (p + 12) (by omega), s17 (p + 12) (by omega), s16 (p + 12) (by omega), s15 (p + 12) (by omega), s14 (p + 12) (by omega), s13 (p + 12) (by omega)]
    exact t12
  have f12 : R21 p 21 = some (p + 12) := by
    rw [q21 21 (by decide), q20 21 (by decide), q19 21 (by decide), q18 21 (by decide), q17 21 (by decide), q16 21 (by decide), q15 21 (by decide), q14 21 (by decide), q13 21 (by decide)]
    exact w12
  have v12 : ∀ j, I21 (p + 12) j = 0 := fun j => by
    rw [i21 (p + 12) (by omega), i20 (p + 12) (by omega), i19 (p + 12) (by omega), i18 (p + 12) (by omega), i17 (p + 12) (by omega), i16 (p + 12) (by omega), i15 (p + 12) (by omega), i14 (p + 12) (by omega), i13 (p + 12) (by omega)]
    exact z12 j
  have g13 : sh21 (p + 13) = (7, 8) := by
    rw [s21 (p + 13) (by omega), s20 (p + 13) (by omega), s19 (p + 13) (by omega), s18 (p + 13) (by omega), s17 (p + 13) (by omega), s16 (p + 13) (by omega), s15 (p + 13) (by omega), s14 (p + 13) (by omega)]
    exact t13
  have f13 : R21 p 22 = some (p + 13) := by
    rw [q21 22 (by decide), q20 22 (by decide), q19 22 (by decide), q18 22 (by decide), q17 22 (by decide), q16 22 (by decide), q15 22 (by decide), q14 22 (by decide)]
    exact w13
  have v13 : ∀ j, I21 (p + 13) j = 0 := fun j => by
    rw [i21 (p + 13) (by omega), i20 (p + 13) (by omega), i19 (p + 13) (by omega), i18 (p + 13) (by omega), i17 (p + 13) (by omega), i16 (p + 13) (by omega), i15 (p + 13) (by omega), i14 (p + 13) (by omega)]
    exact z13 j
  have g14 : sh21 (p + 14) = (7, 326) := by
    rw [s21 (p + 14) (by omega), s20 (p + 14) (by omega), s19 (p + 14) (by omega), s18 (p + 14) (by omega), s17 (p + 14) (by omega), s16 (p + 14) (by omega), s15 (p + 14) (by omega)]
    exact t14
  have f14 : R21 p 23 = some (p + 14) := by
    rw [q21 23 (by decide), q20 23 (by decide), q19 23 (by decide), q18 23 (by decide), q17 23 (by decide), q16 23 (by decide), q15 23 (by decide)]
    exact w14
  have v14 : ∀ j, I21 (p + 14) j = 0 := fun j => by
    rw [i21 (p + 14) (by omega), i20 (p + 14) (by omega), i19 (p + 14) (by omega), i18 (p + 14) (by omega), i17 (p + 14) (by omega), i16 (p + 14) (by omega), i15 (p + 14) (by omega)]
    exact z14 j
  have g15 : sh21 (p + 15) = (7, 326) := by
    rw [s21 (p + 15) (by omega), s20 (p + 15) (by omega), s19 (p + 15) (by omega), s18 (p + 15) (by omega), s17 (p + 15) (by omega), s16 (p + 15) (by omega)]
    exact t15
  have f15 : R21 p 24 = some (p + 15) := by
    rw [q21 24 (by decide), q20 24 (by decide), q19 24 (by decide), q18 24 (by decide), q17 24 (by decide), q16 24 (by decide)]
    exact w15
  have v15 : ∀ j, I21 (p + 15) j = 0 := fun j => by
    rw [i21 (p + 15) (by omega), i20 (p + 15) (by omega), i19 (p + 15) (by omega), i18 (p + 15) (by omega), i17 (p + 15) (by omega), i16 (p + 15) (by omega)]
    exact z15 j
  have g16 : sh21 (p + 16) = (7, 3912) := by
    rw [s21 (p + 16) (by omega), s20 (p + 16) (by omega), s19 (p + 16) (by omega), s18 (p + 16) (by omega), s17 (p + 16) (by omega)]
    exact t16
  have f16 : R21 p 27 = some (p + 16) := by
    rw [q21 27 (by decide), q20 27 (by decide), q19 27 (by decide), q18 27 (by decide), q17 27 (by decide)]
    exact w16
  have v16 : ∀ j, I21 (p + 16) j = 0 := fun j => by
    rw [i21 (p + 16) (by omega), i20 (p + 16) (by omega), i19 (p + 16) (by omega), i18 (p + 16) (by omega), i17 (p + 16) (by omega)]
    exact z16 j
  have g17 : sh21 (p + 17) = (7, 6) := by
    rw [s21 (p + 17) (by omega), s20 (p + 17) (by omega), s19 (p + 17) (by omega), s18 (p + 17) (by omega)]
    exact t17
  have f17 : R21 p 29 = some (p + 17) := by
    rw [q21 29 (by decide), q20 29 (by decide), q19 29 (by decide), q18 29 (by decide)]
    exact w17
  have v17 : ∀ j, I21 (p + 17) j = 0 := fun j => by
    rw [i21 (p + 17) (by omega), i20 (p + 17) (by omega), i19 (p + 17) (by omega), i18 (p + 17) (by omega)]
    exact z17 j
  have g18 : sh21 (p + 18) = (7, 6) := by
    rw [s21 (p + 18) (by omega), s20 (p + 18) (by omega), s19 (p + 18) (by omega)]
    exact t18
  have f18 : R21 p 30 = some (p + 18) := by
    rw [q21 30 (by decide), q20 30 (by decide), q19 30 (by decide)]
    exact w18
  have v18 : ∀ j, I21 (p + 18) j = 0 := fun j => by
    rw [i21 (p + 18) (by omega), i20 (p + 18) (by omega), i19 (p + 18) (by omega)]
    exact z18 j
  have g19 : sh21 (p + 19) = (7, 6) := by
    rw [s21 (p + 19) (by omega), s20 (p + 19) (by omega)]
    exact t19
  have f19 : R21 p 31 = some (p + 19) := by
    rw [q21 31 (by decide), q20 31 (by decide)]
    exact w19
  have v19 : ∀ j, I21 (p + 19) j = 0 := fun j => by
    rw [i21 (p + 19) (by omega), i20 (p + 19) (by omega)]
    exact z19 j
  have g20 : sh21 (p + 20) = (8, 2) := by
    rw [s21 (p + 20) (by omega)]
    exact t20
  have f20 : R21 p 32 = some (p + 20) := by
    rw [q21 32 (by decide)]
    exact w20
  have v20 : ∀ j, I21 (p + 20) j = 0 := fun j => by
    rw [i21 (p + 20) (by omega)]
    exact z20 j
  have g21 : sh21 (p + 21) = (7, 652) := by
    exact t21
  have f21 : R21 p 33 = some (p + 21) := by
    exact w21
  have v21 : ∀ j, I21 (p + 21) j = 0 := fun j => by
    exact z21 j
  have fr : ∀ b, b < p → sh21 b = sh b ∧ I21 b = I b ∧ R21 b = R b := fun b hb => by
    refine ⟨?_, ?_, ?_⟩
    · rw [s21 b (by omega), s20 b (by omega), s19 b (by omega), s18 b (by omega), s17 b (by omega), s16 b (by omega), s15 b (by omega), s14 b (by omega), s13 b (by omega), s12 b (by omega), s11 b (by omega), s10 b (by omega), s9 b (by omega), s8 b (by omega), s7 b (by omega), s6 b (by omega), s5 b (by omega), s4 b (by omega), s3 b (by omega), s2 b (by omega), s1 b (by omega)]
    · rw [i21 b (by omega), i20 b (by omega), i19 b (by omega), i18 b (by omega), i17 b (by omega), i16 b (by omega), i15 b (by omega), i14 b (by omega), i13 b (by omega), i12 b (by omega), i11 b (by omega), i10 b (by omega), i9 b (by omega), i8 b (by omega), i7 b (by omega), i6 b (by omega), i5 b (by omega), i4 b (by omega), i3 b (by omega), i2 b (by omega), i1 b (by omega)]
    · rw [r21 b (by omega) (by omega), r20 b (by omega) (by omega), r19 b (by omega) (by omega), r18 b (by omega) (by omega), r17 b (by omega) (by omega), r16 b (by omega) (by omega), r15 b (by omega) (by omega), r14 b (by omega) (by omega), r13 b (by omega) (by omega), r12 b (by omega) (by omega), r11 b (by omega) (by omega), r10 b (by omega) (by omega), r9 b (by omega) (by omega), r8 b (by omega) (by omega), r7 b (by omega) (by omega), r6 b (by omega) (by omega), r5 b (by omega) (by omega), r4 b (by omega) (by omega), r3 b (by omega) (by omega), r2 b (by omega) (by omega), r1 b (by omega) (by omega)]
  have hl : ly_Mod sh21 R21 p := ⟨o21, ⟨f1, g1⟩, ⟨f2, g2⟩, ⟨f3, g3⟩, ⟨f4, g4⟩, ⟨f5, g5⟩, ⟨f6, g6⟩, ⟨f7, g7⟩, ⟨f8, g8⟩, ⟨f9, g9⟩, ⟨f10, g10⟩, ⟨f11, g11⟩, ⟨f12, g12⟩, ⟨f13, g13⟩, ⟨f14, g14⟩, ⟨f15, g15⟩, ⟨f16, g16⟩, ⟨f17, g17⟩, ⟨f18, g18⟩, ⟨f19, g19⟩, ⟨f20, g20⟩, ⟨f21, g21⟩⟩
  have ep : I21 p = I p := by rw [i21 p (by omega), i20 p (by omega), i19 p (by omega), i18 p (by omega), i17 p (by omega), i16 p (by omega), i15 p (by omega), i14 p (by omega), i13 p (by omega), i12 p (by omega), i11 p (by omega), i10 p (by omega), i9 p (by omega), i8 p (by omega), i7 p (by omega), i6 p (by omega), i5 p (by omega), i4 p (by omega), i3 p (by omega), i2 p (by omega), i1 p (by omega)]
  refine mv_cVvA (pc := 176) dX6_init_176 lk6_74 (congrArg Prod.fst o21) (c6_begins hl) rfl rfl (Nat.le_of_ble_eq_true rfl) ⟨by decide, by decide⟩ ⟨Nat.le_of_ble_eq_true rfl, Nat.le_of_ble_eq_true rfl⟩ (fun J ⟨⟨a7, a8⟩, b3, b4, b5⟩ => ?_)
  refine mv_aload_n (pc := 179) dX6_init_179 rfl ?_
  have hS : md_S J p (fun _ => 0) 0 0 0 sp_0 := by
    refine ⟨by rw [b5 0 (by decide) (by decide), ep, hi]; rfl, fun j hj => by omega, by rw [b5 2 (by decide) (by decide), ep, hi]; rfl, a7, ⟨0, by decide, a8⟩, fun t ht => ?_⟩
    obtain ⟨a1, a2, a3, a4, a5⟩ := b3 t ht
    have : t = 0 ∨ t = 1 ∨ t = 2 ∨ t = 3 ∨ t = 4 ∨ t = 5 ∨ t = 6 ∨ t = 7 := by omega
    rw [a1, a2, a3, a4, a5, a8]
    refine ⟨rfl, rfl, rfl, rfl, rfl, ?_, fun j hj => absurd hj (by show ¬ j < (0 : Int32).toNatClampNeg; simp)⟩
    rcases this with rfl | rfl | rfl | rfl | rfl | rfl | rfl | rfl <;> decide
  refine mv_cVvA (pc := 180) dX6_init_180 lk6_77 (congrArg Prod.fst o21) (c6_tellsAll hl hS sp_W.z) rfl rfl (Nat.le_of_ble_eq_true rfl) ⟨by decide, by decide⟩ ⟨Nat.le_of_ble_eq_true rfl, Nat.le_of_ble_eq_true rfl⟩ (fun J2 ⟨q1, q2, ⟨q3, q4, q5, q6⟩, q7, q8⟩ => ?_)
  refine mv_vret (pc := 183) dX6_init_183 rfl (Nat.le_of_ble_eq_true rfl) (Nat.le_of_ble_eq_true rfl) ⟨rfl, rfl, fun b hb => ⟨(fr b hb).1, ?_, (fr b hb).2.2⟩, hl, ⟨?_, fun j hj => by omega⟩, q1, q2, ⟨q3, 0, by decide, ?_, fun i hi => by omega⟩, fun i hi => ?_, q4, fun i hi => by omega⟩
  · rw [q7 b (by omega) (by omega) (by omega), b4 b (by omega) (by omega) (by omega) (by omega) (by omega) (by omega)]; exact (fr b hb).2.1
  · rw [q8 0 (by decide) (by decide) (by decide) (by decide), b5 0 (by decide) (by decide), ep, hi]; rfl
  · rw [q8 26 (by decide) (by decide) (by decide) (by decide), b5 26 (by decide) (by decide), ep, hi]; rfl
  · have : i = 0 ∨ i = 1 := by omega
    rcases this with rfl | rfl
    · exact q5
    · exact q6
