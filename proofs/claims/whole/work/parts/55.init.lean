def mv_rc (d c s : Nat) : Room := { frames := d, cells := c, slots := s, locals := 40 * d }
def mk_Q (p w : Nat) (sh : mv_Sh) (I : mv_I) (R : mv_R) (P : mv_Sh → mv_I → mv_R → Prop) : mv_Q := fun v n' sh' I' R' => v = none ∧ n' = p + w ∧ (∀ b, b < p → sh' b = sh b ∧ I' b = I b ∧ R' b = R b) ∧ P sh' I' R'
section MK
variable {l : Launch} {D : va_G} {b0 : Nat} {M : mv_M} {rm : Room} {Q : mv_Q} {pc : Nat} {loc stk st0 : List Value} {ac sl n : Nat} {sh : mv_Sh} {I : mv_I} {R : mv_R}
variable {M2 : mv_M} {As : List Value} {idx k : Nat}
theorem mv_putRG {ci a q : Nat} (hd : decode M.2.1 pc = .ok (.putfield idx, 3)) (hF : mv_FL M.1.cls idx ci k) (hi : ∀ x r, mv_fv (mv_ty ci k) x r = va_rf r) (hfin : (mv_T ci k).2.2.2 = false ∨ ((mv_T ci k).2.2.2 = true ∧ M.1.name = "<init>" ∧ (mv_T ci k).1 = M.1.cls)) (hn : narrow (mv_ty ci k) (.ref q) = .ref q) (hfit : fits (mv_ty ci k) (.ref q) = true) (ha : (sh a).1 = ci)
    (kk : ∀ R' : mv_R, (∀ b, b ≠ a → R' b = R b) → (∀ j, j ≠ k → R' a j = R a j) → R' a k = some q → mv_E l D b0 M rm Q (pc + 3) loc stk ac sl n sh I R') : mv_E l D b0 M rm Q pc loc (.ref q :: .ref a :: stk) ac sl n sh I R :=
  mv_putR hd hF hi hfin hn hfit ha (kk _ (fun b hb => mv_upN b hb) (fun j hj => by simp [mv_up, hj]) (by simp [mv_up]))
theorem mv_putIG {ci a : Nat} {x : Int32} (hd : decode M.2.1 pc = .ok (.putfield idx, 3)) (hF : mv_FL M.1.cls idx ci k) (hi : mv_ty ci k = .int) (hfin : (mv_T ci k).2.2.2 = false) (ha : (sh a).1 = ci)
    (kk : ∀ I' : mv_I, (∀ b, b ≠ a → I' b = I b) → (∀ j, j ≠ k → I' a j = I a j) → I' a k = x → mv_E l D b0 M rm Q (pc + 3) loc stk ac sl n sh I' R) : mv_E l D b0 M rm Q pc loc (.int x :: .ref a :: stk) ac sl n sh I R :=
  mv_putI hd hF hi hfin ha (kk _ (fun b hb => mv_upN b hb) (fun j hj => by simp [mv_up, hj]) (by simp [mv_up]))
theorem mv_newIp {ci p len : Nat} {x : Int32} (hd : decode M.2.1 pc = .ok (.newarray .int, 2)) (hd2 : decode M.2.1 (pc + 2) = .ok (.putfield idx, 3)) (hF : mv_FL M.1.cls idx ci k) (hi : ∀ x r, mv_fv (mv_ty ci k) x r = va_rf r) (hfin : (mv_T ci k).2.2.2 = false ∨ ((mv_T ci k).2.2.2 = true ∧ M.1.name = "<init>" ∧ (mv_T ci k).1 = M.1.cls)) (hn : narrow (mv_ty ci k) (.ref n) = .ref n) (hfit : fits (mv_ty ci k) (.ref n) = true) (ha : (sh p).1 = ci) (hpn : p ≠ n) (w : Cond.arrayClass .int ∈ mv_W) (hk : x = nI len) (hlen : len < 100000) (hac : ac + 1 ≤ rm.cells) (hsl : sl + len ≤ rm.slots)
    (kk : ∀ (sh' : mv_Sh) (I' : mv_I) (R' : mv_R), (∀ b, b ≠ n → sh' b = sh b) → sh' n = (7, len) → (∀ b, b ≠ n → I' b = I b) → (∀ j, I' n j = 0) → (∀ b, b ≠ n → b ≠ p → R' b = R b) → (∀ j, j ≠ k → R' p j = R p j) → R' p k = some n → mv_E l D b0 M rm Q (pc + 5) loc stk (ac + 1) (sl + len) (n + 1) sh' I' R') : mv_E l D b0 M rm Q pc loc (.int x :: .ref p :: stk) ac sl n sh I R := by
  refine mv_newI hd w hk hlen hac hsl ?_
  refine mv_putR hd2 hF hi hfin hn hfit (by simp only [mv_rp, hpn, if_false]; exact ha) (kk _ _ _ (fun b hb => by simp [mv_rp, hb]) (by simp [mv_rp]) (fun b hb => by simp [mv_rp, hb]) (fun j => by simp [mv_rp]) (fun b b1 b2 => by rw [mv_upN b b2]; simp [mv_rp, b1]) (fun j hj => by simp [mv_up, mv_rp, hj, hpn]) (by simp [mv_up]))
theorem mv_newZp {ci p len : Nat} {x : Int32} (hd : decode M.2.1 pc = .ok (.newarray .boolean, 2)) (hd2 : decode M.2.1 (pc + 2) = .ok (.putfield idx, 3)) (hF : mv_FL M.1.cls idx ci k) (hi : ∀ x r, mv_fv (mv_ty ci k) x r = va_rf r) (hfin : (mv_T ci k).2.2.2 = false ∨ ((mv_T ci k).2.2.2 = true ∧ M.1.name = "<init>" ∧ (mv_T ci k).1 = M.1.cls)) (hn : narrow (mv_ty ci k) (.ref n) = .ref n) (hfit : fits (mv_ty ci k) (.ref n) = true) (ha : (sh p).1 = ci) (hpn : p ≠ n) (w : Cond.arrayClass .boolean ∈ mv_W) (hk : x = nI len) (hlen : len < 100000) (hac : ac + 1 ≤ rm.cells) (hsl : sl + len ≤ rm.slots)
    (kk : ∀ (sh' : mv_Sh) (I' : mv_I) (R' : mv_R), (∀ b, b ≠ n → sh' b = sh b) → sh' n = (8, len) → (∀ b, b ≠ n → I' b = I b) → (∀ j, I' n j = 0) → (∀ b, b ≠ n → b ≠ p → R' b = R b) → (∀ j, j ≠ k → R' p j = R p j) → R' p k = some n → mv_E l D b0 M rm Q (pc + 5) loc stk (ac + 1) (sl + len) (n + 1) sh' I' R') : mv_E l D b0 M rm Q pc loc (.int x :: .ref p :: stk) ac sl n sh I R := by
  refine mv_newZ hd w hk hlen hac hsl ?_
  refine mv_putR hd2 hF hi hfin hn hfit (by simp only [mv_rp, hpn, if_false]; exact ha) (kk _ _ _ (fun b hb => by simp [mv_rp, hb]) (by simp [mv_rp]) (fun b hb => by simp [mv_rp, hb]) (fun j => by simp [mv_rp]) (fun b b1 b2 => by rw [mv_upN b b2]; simp [mv_rp, b1]) (fun j hj => by simp [mv_up, mv_rp, hj, hpn]) (by simp [mv_up]))
theorem mv_newG {ci : Nat} (hd : decode M.2.1 pc = .ok (.new idx, 3)) (h7 : ci < 7) (w1 : Cond.classLink M.1.cls idx (mv_Cn ci) ∈ mv_W) (w2 : Cond.instantiable (mv_Cn ci) (mv_N ci) ∈ mv_W) (w3 : Cond.initialized (mv_Cn ci) ∈ mv_W) (hac : ac + 1 ≤ rm.cells) (hsl : sl + mv_N ci ≤ rm.slots)
    (kk : ∀ (sh' : mv_Sh) (I' : mv_I) (R' : mv_R), (∀ b, b ≠ n → sh' b = sh b ∧ I' b = I b ∧ R' b = R b) → sh' n = (ci, mv_N ci) → mv_E l D b0 M rm Q (pc + 3) loc (.ref n :: stk) (ac + 1) (sl + mv_N ci) (n + 1) sh' I' R') : mv_E l D b0 M rm Q pc loc stk ac sl n sh I R :=
  mv_new hd h7 w1 w2 w3 hac hsl (kk _ _ _ (fun b hb => by simp [mv_rp, hb]) (by simp [mv_rp]))
theorem mv_newQG {x : Int32} {len : Nat} (hd : decode M.2.1 pc = .ok (.anewarray idx, 3)) (w1 : Cond.classLink M.1.cls idx RX3 ∈ mv_W) (hk : x = nI len) (hlen : len < 100000) (hac : ac + 1 ≤ rm.cells) (hsl : sl + len ≤ rm.slots)
    (kk : ∀ (sh' : mv_Sh) (I' : mv_I) (R' : mv_R), (∀ b, b ≠ n → sh' b = sh b ∧ I' b = I b ∧ R' b = R b) → sh' n = (9, len) → mv_E l D b0 M rm Q (pc + 3) loc (.ref n :: stk) (ac + 1) (sl + len) (n + 1) sh' I' R') : mv_E l D b0 M rm Q pc loc (.int x :: stk) ac sl n sh I R :=
  mv_newQ hd w1 hk hlen hac hsl (kk _ _ _ (fun b hb => by simp [mv_rp, hb]) (by simp [mv_rp]))
theorem mv_callIG {a w d2 c2 s2 : Nat} {P : mv_Sh → mv_I → mv_R → Prop} (hd : decode M.2.1 pc = .ok (.invokespecial idx, 3)) (hL : mv_LkI M.1.cls idx M2 k) (hC : mv_C l D b0 M2 (mv_rc d2 c2 s2) (.ref a :: As) n sh I R (mk_Q a w sh I R P)) (hk : As.length = k) (hst : st0 = As.reverse ++ .ref a :: stk) (hcat : (stk.map fun v => v.category).sum ≤ 8)
    (hR : d2 + 1 ≤ rm.frames ∧ 8 + (M2.2.2.1 + 11) + 40 * d2 ≤ rm.locals) (hf : ac + c2 ≤ rm.cells ∧ sl + s2 ≤ rm.slots)
    (kk : ∀ (sh' : mv_Sh) (I' : mv_I) (R' : mv_R), (∀ b, b < a → sh' b = sh b ∧ I' b = I b ∧ R' b = R b) → P sh' I' R' → mv_E l D b0 M rm Q (pc + 3) loc stk (ac + c2) (sl + s2) (a + w) sh' I' R') : mv_E l D b0 M rm Q pc loc st0 ac sl n sh I R := by
  refine mv_callI hd hL hC hk hst hcat hR hf ?_
  intro v n' sh' I' R' h'
  obtain ⟨h1, h2, h3, h4⟩ := h'
  subst h1 h2
  exact kk _ _ _ h3 h4
theorem mv_cVvA {a ci d2 : Nat} {R2 : mv_R} {P : mv_I → Prop} (hd : decode M.2.1 pc = .ok (.invokevirtual idx, 3)) (hL : mv_LkV M.1.cls idx M2 k ci) (ha : (sh a).1 = ci) (hC : mv_C l D b0 M2 (mv_rm d2) (.ref a :: As) n sh I R (mv_Pv n sh R2 P)) (hk : As.length = k) (hst : st0 = As.reverse ++ .ref a :: stk) (hcat : (stk.map fun v => v.category).sum ≤ 8) (hR : d2 + 1 ≤ rm.frames ∧ 8 + (M2.2.2.1 + 11) + 40 * d2 ≤ rm.locals) (hf : ac ≤ rm.cells ∧ sl ≤ rm.slots)
    (kk : ∀ I', P I' → mv_E l D b0 M rm Q (pc + 3) loc stk ac sl n sh I' R2) : mv_E l D b0 M rm Q pc loc st0 ac sl n sh I R := by
  refine mv_callV hd hL ha hC hk hst hcat hR hf ?_
  intro v n' sh' I' R' h'
  obtain ⟨h1, h2, h3, h4, h5⟩ := h'
  subst h1 h2 h3 h4
  exact kk _ h5
end MK
set_option maxHeartbeats 4000000 in
set_option maxRecDepth 100000 in
theorem c4_init {l : Launch} {D : va_G} {b0 : Nat} {sh : mv_Sh} {I : mv_I} {R : mv_R} {p : Nat} (ho : sh p = (4, 6)) : mv_C l D b0 m4_init (mv_rc 1 1 120) [.ref p] (p + 1) sh I R (mk_Q p 2 sh I R (fun sh' I' R' => ly_Tok sh' R' p ∧ I' p 1 = nI 0)) := by
  refine mv_C.of 0 (by decide) (by simp [Value.category]) rfl ?_
  show mv_E l D b0 m4_init (mv_rc 1 1 120) _ 0 [.ref p] [] 0 0 (p + 1) sh I R
  refine mv_aload_n (pc := 0) dX4_init_0 rfl ?_
  refine mv_objInit (pc := 1) dX4_init_1 lko4_3 wo_i wo_c (Nat.le_of_ble_eq_true rfl) ⟨by decide, by decide⟩ ?_
  refine mv_aload_n (pc := 4) dX4_init_4 rfl ?_
  refine mv_bipush (pc := 5) (v := 120) dX4_init_5 (by decide) ?_
  refine mv_newIp (pc := 7) (p := p) (len := 120) dX4_init_7 dX4_init_9 fl4_9 (fun _ _ => rfl) (Or.inr ⟨rfl, rfl, rfl⟩) rfl rfl (congrArg Prod.fst ho) (by omega) wa_int rfl (by decide) (Nat.le_of_ble_eq_true rfl) (Nat.le_of_ble_eq_true rfl) (fun sh1 I1 R1 s1 t1 i1 z1 r1 q1 w1 => ?_)
  have o1 : sh1 p = (4, 6) := (s1 p (by omega)).trans ho
  refine mv_aload_n (pc := 12) dX4_init_12 rfl ?_
  refine mv_iconst (pc := 13) (v := 0) dX4_init_13 (by decide) ?_
  refine mv_putIG (pc := 14) dX4_init_14 fl4_15 rfl rfl (congrArg Prod.fst o1) (fun I2 i2 y2 z2 => ?_)
  refine mv_aload_n (pc := 17) dX4_init_17 rfl ?_
  refine mv_iconst (pc := 18) (v := -1) dX4_init_18 (by decide) ?_
  refine mv_putIG (pc := 19) dX4_init_19 fl4_19 rfl rfl (congrArg Prod.fst o1) (fun I3 i3 y3 z3 => ?_)
  refine mv_aload_n (pc := 22) dX4_init_22 rfl ?_
  refine mv_iconst (pc := 23) (v := 0) dX4_init_23 (by decide) ?_
  refine mv_putIG (pc := 24) dX4_init_24 fl4_22 rfl rfl (congrArg Prod.fst o1) (fun I4 i4 y4 z4 => ?_)
  refine mv_aload_n (pc := 27) dX4_init_27 rfl ?_
  refine mv_iconst (pc := 28) (v := 0) dX4_init_28 (by decide) ?_
  refine mv_putIG (pc := 29) dX4_init_29 fl4_25 rfl rfl (congrArg Prod.fst o1) (fun I5 i5 y5 z5 => ?_)
  refine mv_aload_n (pc := 32) dX4_init_32 rfl ?_
  refine mv_iconst (pc := 33) (v := 0) dX4_init_33 (by decide) ?_
  refine mv_putIG (pc := 34) dX4_init_34 fl4_28 rfl rfl (congrArg Prod.fst o1) (fun I6 i6 y6 z6 => ?_)
  have g1 : sh1 (p + 1) = (7, 120) := by
    exact t1
  have f1 : R1 p 0 = some (p + 1) := by
    exact w1
  have v1 : ∀ j, I6 (p + 1) j = 0 := fun j => by
    rw [i6 (p + 1) (by omega), i5 (p + 1) (by omega), i4 (p + 1) (by omega), i3 (p + 1) (by omega), i2 (p + 1) (by omega)]
    exact z1 j
  have x1 : I6 p 1 = 0 := by
    rw [y6 1 (by decide)]
    rw [y5 1 (by decide)]
    rw [y4 1 (by decide)]
    rw [y3 1 (by decide)]
    exact z2
  have x2 : I6 p 2 = -1 := by
    rw [y6 2 (by decide)]
    rw [y5 2 (by decide)]
    rw [y4 2 (by decide)]
    exact z3
  have x3 : I6 p 3 = 0 := by
    rw [y6 3 (by decide)]
    rw [y5 3 (by decide)]
    exact z4
  have x4 : I6 p 4 = 0 := by
    rw [y6 4 (by decide)]
    exact z5
  have x5 : I6 p 5 = 0 := by
    exact z6
  have fr : ∀ b, b < p → sh1 b = sh b ∧ I6 b = I b ∧ R1 b = R b := fun b hb => by
    refine ⟨?_, ?_, ?_⟩
    · rw [s1 b (by omega)]
    · rw [i6 b (by omega), i5 b (by omega), i4 b (by omega), i3 b (by omega), i2 b (by omega), i1 b (by omega)]
    · rw [r1 b (by omega) (by omega)]
  exact mv_vret (pc := 37) dX4_init_37 rfl (Nat.le_of_ble_eq_true rfl) (Nat.le_of_ble_eq_true rfl) ⟨rfl, rfl, fr, ⟨o1, f1, g1⟩, x1⟩
set_option maxHeartbeats 4000000 in
set_option maxRecDepth 100000 in
theorem c1_init {l : Launch} {D : va_G} {b0 : Nat} {sh : mv_Sh} {I : mv_I} {R : mv_R} {p : Nat} (ho : sh p = (1, 9)) : mv_C l D b0 m1_init (mv_rc 3 8 144) [.ref p] (p + 1) sh I R (mk_Q p 9 sh I R (fun sh' I' R' => ly_Plan sh' R' p ∧ pl_C I' p 1 sp_0)) := by
  refine mv_C.of 0 (by decide) (by simp [Value.category]) rfl ?_
  show mv_E l D b0 m1_init (mv_rc 3 8 144) _ 0 [.ref p] [] 0 0 (p + 1) sh I R
  refine mv_aload_n (pc := 0) dX1_init_0 rfl ?_
  refine mv_objInit (pc := 1) dX1_init_1 lko1_3 wo_i wo_c (Nat.le_of_ble_eq_true rfl) ⟨by decide, by decide⟩ ?_
  refine mv_aload_n (pc := 4) dX1_init_4 rfl ?_
  refine mv_iconst (pc := 5) (v := 0) dX1_init_5 (by decide) ?_
  refine mv_putIG (pc := 6) dX1_init_6 fl1_9 rfl rfl (congrArg Prod.fst ho) (fun I1 i1 y1 z1 => ?_)
  refine mv_aload_n (pc := 9) dX1_init_9 rfl ?_
  refine mv_bipush (pc := 10) (v := 8) dX1_init_10 (by decide) ?_
  refine mv_newIp (pc := 12) (p := p) (len := 8) dX1_init_12 dX1_init_14 fl1_15 (fun _ _ => rfl) (Or.inr ⟨rfl, rfl, rfl⟩) rfl rfl (congrArg Prod.fst ho) (by omega) wa_int rfl (by decide) (Nat.le_of_ble_eq_true rfl) (Nat.le_of_ble_eq_true rfl) (fun sh2 I2 R2 s2 t2 i2 z2 r2 q2 w2 => ?_)
  have o2 : sh2 p = (1, 9) := (s2 p (by omega)).trans ho
  refine mv_aload_n (pc := 17) dX1_init_17 rfl ?_
  refine mv_bipush (pc := 18) (v := 8) dX1_init_18 (by decide) ?_
  refine mv_newIp (pc := 20) (p := p) (len := 8) dX1_init_20 dX1_init_22 fl1_19 (fun _ _ => rfl) (Or.inr ⟨rfl, rfl, rfl⟩) rfl rfl (congrArg Prod.fst o2) (by omega) wa_int rfl (by decide) (Nat.le_of_ble_eq_true rfl) (Nat.le_of_ble_eq_true rfl) (fun sh3 I3 R3 s3 t3 i3 z3 r3 q3 w3 => ?_)
  have o3 : sh3 p = (1, 9) := (s3 p (by omega)).trans o2
  refine mv_aload_n (pc := 25) dX1_init_25 rfl ?_
  refine mv_bipush (pc := 26) (v := 48) dX1_init_26 (by decide) ?_
  refine mv_newIp (pc := 28) (p := p) (len := 48) dX1_init_28 dX1_init_30 fl1_22 (fun _ _ => rfl) (Or.inr ⟨rfl, rfl, rfl⟩) rfl rfl (congrArg Prod.fst o3) (by omega) wa_int rfl (by decide) (Nat.le_of_ble_eq_true rfl) (Nat.le_of_ble_eq_true rfl) (fun sh4 I4 R4 s4 t4 i4 z4 r4 q4 w4 => ?_)
  have o4 : sh4 p = (1, 9) := (s4 p (by omega)).trans o3
  refine mv_aload_n (pc := 33) dX1_init_33 rfl ?_
  refine mv_bipush (pc := 34) (v := 48) dX1_init_34 (by decide) ?_
  refine mv_newIp (pc := 36) (p := p) (len := 48) dX1_init_36 dX1_init_38 fl1_25 (fun _ _ => rfl) (Or.inr ⟨rfl, rfl, rfl⟩) rfl rfl (congrArg Prod.fst o4) (by omega) wa_int rfl (by decide) (Nat.le_of_ble_eq_true rfl) (Nat.le_of_ble_eq_true rfl) (fun sh5 I5 R5 s5 t5 i5 z5 r5 q5 w5 => ?_)
  have o5 : sh5 p = (1, 9) := (s5 p (by omega)).trans o4
  refine mv_aload_n (pc := 41) dX1_init_41 rfl ?_
  refine mv_bipush (pc := 42) (v := 8) dX1_init_42 (by decide) ?_
  refine mv_newIp (pc := 44) (p := p) (len := 8) dX1_init_44 dX1_init_46 fl1_28 (fun _ _ => rfl) (Or.inr ⟨rfl, rfl, rfl⟩) rfl rfl (congrArg Prod.fst o5) (by omega) wa_int rfl (by decide) (Nat.le_of_ble_eq_true rfl) (Nat.le_of_ble_eq_true rfl) (fun sh6 I6 R6 s6 t6 i6 z6 r6 q6 w6 => ?_)
  have o6 : sh6 p = (1, 9) := (s6 p (by omega)).trans o5
  refine mv_aload_n (pc := 49) dX1_init_49 rfl ?_
  refine mv_bipush (pc := 50) (v := 8) dX1_init_50 (by decide) ?_
  refine mv_newIp (pc := 52) (p := p) (len := 8) dX1_init_52 dX1_init_54 fl1_31 (fun _ _ => rfl) (Or.inr ⟨rfl, rfl, rfl⟩) rfl rfl (congrArg Prod.fst o6) (by omega) wa_int rfl (by decide) (Nat.le_of_ble_eq_true rfl) (Nat.le_of_ble_eq_true rfl) (fun sh7 I7 R7 s7 t7 i7 z7 r7 q7 w7 => ?_)
  have o7 : sh7 p = (1, 9) := (s7 p (by omega)).trans o6
  refine mv_aload_n (pc := 57) dX1_init_57 rfl ?_
  refine mv_bipush (pc := 58) (v := 8) dX1_init_58 (by decide) ?_
  refine mv_newIp (pc := 60) (p := p) (len := 8) dX1_init_60 dX1_init_62 fl1_34 (fun _ _ => rfl) (Or.inr ⟨rfl, rfl, rfl⟩) rfl rfl (congrArg Prod.fst o7) (by omega) wa_int rfl (by decide) (Nat.le_of_ble_eq_true rfl) (Nat.le_of_ble_eq_true rfl) (fun sh8 I8 R8 s8 t8 i8 z8 r8 q8 w8 => ?_)
  have o8 : sh8 p = (1, 9) := (s8 p (by omega)).trans o7
  refine mv_aload_n (pc := 65) dX1_init_65 rfl ?_
  refine mv_bipush (pc := 66) (v := 8) dX1_init_66 (by decide) ?_
  refine mv_newIp (pc := 68) (p := p) (len := 8) dX1_init_68 dX1_init_70 fl1_37 (fun _ _ => rfl) (Or.inr ⟨rfl, rfl, rfl⟩) rfl rfl (congrArg Prod.fst o8) (by omega) wa_int rfl (by decide) (Nat.le_of_ble_eq_true rfl) (Nat.le_of_ble_eq_true rfl) (fun sh9 I9 R9 s9 t9 i9 z9 r9 q9 w9 => ?_)
  have o9 : sh9 p = (1, 9) := (s9 p (by omega)).trans o8
  refine mv_aload_n (pc := 73) dX1_init_73 rfl ?_
  have g1 : sh9 (p + 1) = (7, 8) := by
    rw [s9 (p + 1) (by omega), s8 (p + 1) (by omega), s7 (p + 1) (by omega), s6 (p + 1) (by omega), s5 (p + 1) (by omega), s4 (p + 1) (by omega), s3 (p + 1) (by omega)]
    exact t2
  have f1 : R9 p 1 = some (p + 1) := by
    rw [q9 1 (by decide), q8 1 (by decide), q7 1 (by decide), q6 1 (by decide), q5 1 (by decide), q4 1 (by decide), q3 1 (by decide)]
    exact w2
  have v1 : ∀ j, I9 (p + 1) j = 0 := fun j => by
    rw [i9 (p + 1) (by omega), i8 (p + 1) (by omega), i7 (p + 1) (by omega), i6 (p + 1) (by omega), i5 (p + 1) (by omega), i4 (p + 1) (by omega), i3 (p + 1) (by omega)]
    exact z2 j
  have g2 : sh9 (p + 2) = (7, 8) := by
    rw [s9 (p + 2) (by omega), s8 (p + 2) (by omega), s7 (p + 2) (by omega), s6 (p + 2) (by omega), s5 (p + 2) (by omega), s4 (p + 2) (by omega)]
    exact t3
  have f2 : R9 p 2 = some (p + 2) := by
    rw [q9 2 (by decide), q8 2 (by decide), q7 2 (by decide), q6 2 (by decide), q5 2 (by decide), q4 2 (by decide)]
    exact w3
  have v2 : ∀ j, I9 (p + 2) j = 0 := fun j => by
    rw [i9 (p + 2) (by omega), i8 (p + 2) (by omega), i7 (p + 2) (by omega), i6 (p + 2) (by omega), i5 (p + 2) (by omega), i4 (p + 2) (by omega)]
    exact z3 j
  have g3 : sh9 (p + 3) = (7, 48) := by
    rw [s9 (p + 3) (by omega), s8 (p + 3) (by omega), s7 (p + 3) (by omega), s6 (p + 3) (by omega), s5 (p + 3) (by omega)]
    exact t4
  have f3 : R9 p 3 = some (p + 3) := by
    rw [q9 3 (by decide), q8 3 (by decide), q7 3 (by decide), q6 3 (by decide), q5 3 (by decide)]
    exact w4
  have v3 : ∀ j, I9 (p + 3) j = 0 := fun j => by
    rw [i9 (p + 3) (by omega), i8 (p + 3) (by omega), i7 (p + 3) (by omega), i6 (p + 3) (by omega), i5 (p + 3) (by omega)]
    exact z4 j
  have g4 : sh9 (p + 4) = (7, 48) := by
    rw [s9 (p + 4) (by omega), s8 (p + 4) (by omega), s7 (p + 4) (by omega), s6 (p + 4) (by omega)]
    exact t5
  have f4 : R9 p 4 = some (p + 4) := by
    rw [q9 4 (by decide), q8 4 (by decide), q7 4 (by decide), q6 4 (by decide)]
    exact w5
  have v4 : ∀ j, I9 (p + 4) j = 0 := fun j => by
    rw [i9 (p + 4) (by omega), i8 (p + 4) (by omega), i7 (p + 4) (by omega), i6 (p + 4) (by omega)]
    exact z5 j
  have g5 : sh9 (p + 5) = (7, 8) := by
    rw [s9 (p + 5) (by omega), s8 (p + 5) (by omega), s7 (p + 5) (by omega)]
    exact t6
  have f5 : R9 p 5 = some (p + 5) := by
    rw [q9 5 (by decide), q8 5 (by decide), q7 5 (by decide)]
    exact w6
  have v5 : ∀ j, I9 (p + 5) j = 0 := fun j => by
    rw [i9 (p + 5) (by omega), i8 (p + 5) (by omega), i7 (p + 5) (by omega)]
    exact z6 j
  have g6 : sh9 (p + 6) = (7, 8) := by
    rw [s9 (p + 6) (by omega), s8 (p + 6) (by omega)]
    exact t7
  have f6 : R9 p 6 = some (p + 6) := by
    rw [q9 6 (by decide), q8 6 (by decide)]
    exact w7
  have v6 : ∀ j, I9 (p + 6) j = 0 := fun j => by
    rw [i9 (p + 6) (by omega), i8 (p + 6) (by omega)]
    exact z7 j
  have g7 : sh9 (p + 7) = (7, 8) := by
    rw [s9 (p + 7) (by omega)]
    exact t8
  have f7 : R9 p 7 = some (p + 7) := by
    rw [q9 7 (by decide)]
    exact w8
  have v7 : ∀ j, I9 (p + 7) j = 0 := fun j => by
    rw [i9 (p + 7) (by omega)]
    exact z8 j
  have g8 : sh9 (p + 8) = (7, 8) := by
    exact t9
  have f8 : R9 p 8 = some (p + 8) := by
    exact w9
  have v8 : ∀ j, I9 (p + 8) j = 0 := fun j => by
    exact z9 j
  have x0 : I9 p 0 = 0 := by
    rw [i9 p (by omega)]
    rw [i8 p (by omega)]
    rw [i7 p (by omega)]
    rw [i6 p (by omega)]
    rw [i5 p (by omega)]
    rw [i4 p (by omega)]
    rw [i3 p (by omega)]
    rw [i2 p (by omega)]
    exact z1
  have fr : ∀ b, b < p → sh9 b = sh b ∧ I9 b = I b ∧ R9 b = R b := fun b hb => by
    refine ⟨?_, ?_, ?_⟩
    · rw [s9 b (by omega), s8 b (by omega), s7 b (by omega), s6 b (by omega), s5 b (by omega), s4 b (by omega), s3 b (by omega), s2 b (by omega)]
    · rw [i9 b (by omega), i8 b (by omega), i7 b (by omega), i6 b (by omega), i5 b (by omega), i4 b (by omega), i3 b (by omega), i2 b (by omega), i1 b (by omega)]
    · rw [r9 b (by omega) (by omega), r8 b (by omega) (by omega), r7 b (by omega) (by omega), r6 b (by omega) (by omega), r5 b (by omega) (by omega), r4 b (by omega) (by omega), r3 b (by omega) (by omega), r2 b (by omega) (by omega)]
  have hl : ly_Plan sh9 R9 p := ⟨o9, ⟨f1, g1⟩, ⟨f2, g2⟩, ⟨f3, g3⟩, ⟨f4, g4⟩, ⟨f5, g5⟩, ⟨f6, g6⟩, ⟨f7, g7⟩, ⟨f8, g8⟩⟩
  refine mv_cVvA (pc := 74) dX1_init_74 lk1_40 (congrArg Prod.fst o9) (c1_tellAnew hl) rfl rfl (Nat.le_of_ble_eq_true rfl) ⟨by decide, by decide⟩ ⟨Nat.le_of_ble_eq_true rfl, Nat.le_of_ble_eq_true rfl⟩ (fun J ⟨hp, hf⟩ => ?_)
  exact mv_vret (pc := 77) dX1_init_77 rfl (Nat.le_of_ble_eq_true rfl) (Nat.le_of_ble_eq_true rfl) ⟨rfl, rfl, fun b hb => ⟨(fr b hb).1, (hf b (by omega)).trans (fr b hb).2.1, (fr b hb).2.2⟩, hl, hp⟩
set_option maxHeartbeats 4000000 in
set_option maxRecDepth 100000 in
theorem c3_init {l : Launch} {D : va_G} {b0 : Nat} {sh : mv_Sh} {I : mv_I} {R : mv_R} {p q nt : Nat} {π : xs_X} (ho : sh p = (3, 17)) (hq : ly_Plan sh R q) (hpq : q + 9 ≤ p) (h : pl_C I q nt π) (hw : pl_W nt π) : mv_C l D b0 m3_init (mv_rc 3 14 324) [.ref p, .ref q] (p + 1) sh I R (mk_Q p 15 sh I R (fun sh' I' R' => ly_Run sh' R' p ∧ R' p 0 = some q ∧ rc_R I' p nt (xs_st (π 0 2)))) := by
  refine mv_C.of 0 (by decide) (by simp [Value.category]) rfl ?_
  show mv_E l D b0 m3_init (mv_rc 3 14 324) _ 0 [.ref p, .ref q] [] 0 0 (p + 1) sh I R
  refine mv_aload_n (pc := 0) dX3_init_0 rfl ?_
  refine mv_objInit (pc := 1) dX3_init_1 lko3_3 wo_i wo_c (Nat.le_of_ble_eq_true rfl) ⟨by decide, by decide⟩ ?_
  refine mv_aload_n (pc := 4) dX3_init_4 rfl ?_
  refine mv_iconst (pc := 5) (v := 0) dX3_init_5 (by decide) ?_
  refine mv_putIG (pc := 6) dX3_init_6 fl3_9 rfl rfl (congrArg Prod.fst ho) (fun I1 i1 y1 z1 => ?_)
  refine mv_aload_n (pc := 9) dX3_init_9 rfl ?_
  refine mv_bipush (pc := 10) (v := 8) dX3_init_10 (by decide) ?_
  refine mv_newIp (pc := 12) (p := p) (len := 8) dX3_init_12 dX3_init_14 fl3_15 (fun _ _ => rfl) (Or.inr ⟨rfl, rfl, rfl⟩) rfl rfl (congrArg Prod.fst ho) (by omega) wa_int rfl (by decide) (Nat.le_of_ble_eq_true rfl) (Nat.le_of_ble_eq_true rfl) (fun sh2 I2 R2 s2 t2 i2 z2 r2 q2 w2 => ?_)
  have o2 : sh2 p = (3, 17) := (s2 p (by omega)).trans ho
  refine mv_aload_n (pc := 17) dX3_init_17 rfl ?_
  refine mv_bipush (pc := 18) (v := 8) dX3_init_18 (by decide) ?_
  refine mv_newIp (pc := 20) (p := p) (len := 8) dX3_init_20 dX3_init_22 fl3_19 (fun _ _ => rfl) (Or.inr ⟨rfl, rfl, rfl⟩) rfl rfl (congrArg Prod.fst o2) (by omega) wa_int rfl (by decide) (Nat.le_of_ble_eq_true rfl) (Nat.le_of_ble_eq_true rfl) (fun sh3 I3 R3 s3 t3 i3 z3 r3 q3 w3 => ?_)
  have o3 : sh3 p = (3, 17) := (s3 p (by omega)).trans o2
  refine mv_aload_n (pc := 25) dX3_init_25 rfl ?_
  refine mv_bipush (pc := 26) (v := 8) dX3_init_26 (by decide) ?_
  refine mv_newIp (pc := 28) (p := p) (len := 8) dX3_init_28 dX3_init_30 fl3_22 (fun _ _ => rfl) (Or.inr ⟨rfl, rfl, rfl⟩) rfl rfl (congrArg Prod.fst o3) (by omega) wa_int rfl (by decide) (Nat.le_of_ble_eq_true rfl) (Nat.le_of_ble_eq_true rfl) (fun sh4 I4 R4 s4 t4 i4 z4 r4 q4 w4 => ?_)
  have o4 : sh4 p = (3, 17) := (s4 p (by omega)).trans o3
  refine mv_aload_n (pc := 33) dX3_init_33 rfl ?_
  refine mv_bipush (pc := 34) (v := 8) dX3_init_34 (by decide) ?_
  refine mv_newIp (pc := 36) (p := p) (len := 8) dX3_init_36 dX3_init_38 fl3_25 (fun _ _ => rfl) (Or.inr ⟨rfl, rfl, rfl⟩) rfl rfl (congrArg Prod.fst o4) (by omega) wa_int rfl (by decide) (Nat.le_of_ble_eq_true rfl) (Nat.le_of_ble_eq_true rfl) (fun sh5 I5 R5 s5 t5 i5 z5 r5 q5 w5 => ?_)
  have o5 : sh5 p = (3, 17) := (s5 p (by omega)).trans o4
  refine mv_aload_n (pc := 41) dX3_init_41 rfl ?_
  refine mv_bipush (pc := 42) (v := 8) dX3_init_42 (by decide) ?_
  refine mv_newIp (pc := 44) (p := p) (len := 8) dX3_init_44 dX3_init_46 fl3_28 (fun _ _ => rfl) (Or.inr ⟨rfl, rfl, rfl⟩) rfl rfl (congrArg Prod.fst o5) (by omega) wa_int rfl (by decide) (Nat.le_of_ble_eq_true rfl) (Nat.le_of_ble_eq_true rfl) (fun sh6 I6 R6 s6 t6 i6 z6 r6 q6 w6 => ?_)
  have o6 : sh6 p = (3, 17) := (s6 p (by omega)).trans o5
  refine mv_aload_n (pc := 49) dX3_init_49 rfl ?_
  refine mv_bipush (pc := 50) (v := 8) dX3_init_50 (by decide) ?_
  refine mv_newIp (pc := 52) (p := p) (len := 8) dX3_init_52 dX3_init_54 fl3_31 (fun _ _ => rfl) (Or.inr ⟨rfl, rfl, rfl⟩) rfl rfl (congrArg Prod.fst o6) (by omega) wa_int rfl (by decide) (Nat.le_of_ble_eq_true rfl) (Nat.le_of_ble_eq_true rfl) (fun sh7 I7 R7 s7 t7 i7 z7 r7 q7 w7 => ?_)
  have o7 : sh7 p = (3, 17) := (s7 p (by omega)).trans o6
  refine mv_aload_n (pc := 57) dX3_init_57 rfl ?_
  refine mv_bipush (pc := 58) (v := 8) dX3_init_58 (by decide) ?_
  refine mv_newIp (pc := 60) (p := p) (len := 8) dX3_init_60 dX3_init_62 fl3_34 (fun _ _ => rfl) (Or.inr ⟨rfl, rfl, rfl⟩) rfl rfl (congrArg Prod.fst o7) (by omega) wa_int rfl (by decide) (Nat.le_of_ble_eq_true rfl) (Nat.le_of_ble_eq_true rfl) (fun sh8 I8 R8 s8 t8 i8 z8 r8 q8 w8 => ?_)
  have o8 : sh8 p = (3, 17) := (s8 p (by omega)).trans o7
  refine mv_aload_n (pc := 65) dX3_init_65 rfl ?_
  refine mv_bipush (pc := 66) (v := 8) dX3_init_66 (by decide) ?_
  refine mv_newIp (pc := 68) (p := p) (len := 8) dX3_init_68 dX3_init_70 fl3_37 (fun _ _ => rfl) (Or.inr ⟨rfl, rfl, rfl⟩) rfl rfl (congrArg Prod.fst o8) (by omega) wa_int rfl (by decide) (Nat.le_of_ble_eq_true rfl) (Nat.le_of_ble_eq_true rfl) (fun sh9 I9 R9 s9 t9 i9 z9 r9 q9 w9 => ?_)
  have o9 : sh9 p = (3, 17) := (s9 p (by omega)).trans o8
  refine mv_aload_n (pc := 73) dX3_init_73 rfl ?_
  refine mv_bipush (pc := 74) (v := 8) dX3_init_74 (by decide) ?_
  refine mv_newIp (pc := 76) (p := p) (len := 8) dX3_init_76 dX3_init_78 fl3_40 (fun _ _ => rfl) (Or.inr ⟨rfl, rfl, rfl⟩) rfl rfl (congrArg Prod.fst o9) (by omega) wa_int rfl (by decide) (Nat.le_of_ble_eq_true rfl) (Nat.le_of_ble_eq_true rfl) (fun sh10 I10 R10 s10 t10 i10 z10 r10 q10 w10 => ?_)
  have o10 : sh10 p = (3, 17) := (s10 p (by omega)).trans o9
  refine mv_aload_n (pc := 81) dX3_init_81 rfl ?_
  refine mv_bipush (pc := 82) (v := 8) dX3_init_82 (by decide) ?_
  refine mv_newIp (pc := 84) (p := p) (len := 8) dX3_init_84 dX3_init_86 fl3_43 (fun _ _ => rfl) (Or.inr ⟨rfl, rfl, rfl⟩) rfl rfl (congrArg Prod.fst o10) (by omega) wa_int rfl (by decide) (Nat.le_of_ble_eq_true rfl) (Nat.le_of_ble_eq_true rfl) (fun sh11 I11 R11 s11 t11 i11 z11 r11 q11 w11 => ?_)
  have o11 : sh11 p = (3, 17) := (s11 p (by omega)).trans o10
  refine mv_aload_n (pc := 89) dX3_init_89 rfl ?_
  refine mv_bipush (pc := 90) (v := 64) dX3_init_90 (by decide) ?_
  refine mv_newIp (pc := 92) (p := p) (len := 64) dX3_init_92 dX3_init_94 fl3_46 (fun _ _ => rfl) (Or.inr ⟨rfl, rfl, rfl⟩) rfl rfl (congrArg Prod.fst o11) (by omega) wa_int rfl (by decide) (Nat.le_of_ble_eq_true rfl) (Nat.le_of_ble_eq_true rfl) (fun sh12 I12 R12 s12 t12 i12 z12 r12 q12 w12 => ?_)
  have o12 : sh12 p = (3, 17) := (s12 p (by omega)).trans o11
  refine mv_aload_n (pc := 97) dX3_init_97 rfl ?_
  refine mv_iconst (pc := 98) (v := 0) dX3_init_98 (by decide) ?_
  refine mv_putIG (pc := 99) dX3_init_99 fl3_49 rfl rfl (congrArg Prod.fst o12) (fun I13 i13 y13 z13 => ?_)
  refine mv_aload_n (pc := 102) dX3_init_102 rfl ?_
  refine mv_bipush (pc := 103) (v := 60) dX3_init_103 (by decide) ?_
  refine mv_newIp (pc := 105) (p := p) (len := 60) dX3_init_105 dX3_init_107 fl3_52 (fun _ _ => rfl) (Or.inr ⟨rfl, rfl, rfl⟩) rfl rfl (congrArg Prod.fst o12) (by omega) wa_int rfl (by decide) (Nat.le_of_ble_eq_true rfl) (Nat.le_of_ble_eq_true rfl) (fun sh14 I14 R14 s14 t14 i14 z14 r14 q14 w14 => ?_)
  have o14 : sh14 p = (3, 17) := (s14 p (by omega)).trans o12
  refine mv_aload_n (pc := 110) dX3_init_110 rfl ?_
  refine mv_bipush (pc := 111) (v := 60) dX3_init_111 (by decide) ?_
  refine mv_newIp (pc := 113) (p := p) (len := 60) dX3_init_113 dX3_init_115 fl3_55 (fun _ _ => rfl) (Or.inr ⟨rfl, rfl, rfl⟩) rfl rfl (congrArg Prod.fst o14) (by omega) wa_int rfl (by decide) (Nat.le_of_ble_eq_true rfl) (Nat.le_of_ble_eq_true rfl) (fun sh15 I15 R15 s15 t15 i15 z15 r15 q15 w15 => ?_)
  have o15 : sh15 p = (3, 17) := (s15 p (by omega)).trans o14
  refine mv_aload_n (pc := 118) dX3_init_118 rfl ?_
  refine mv_bipush (pc := 119) (v := 60) dX3_init_119 (by decide) ?_
  refine mv_newIp (pc := 121) (p := p) (len := 60) dX3_init_121 dX3_init_123 fl3_58 (fun _ _ => rfl) (Or.inr ⟨rfl, rfl, rfl⟩) rfl rfl (congrArg Prod.fst o15) (by omega) wa_int rfl (by decide) (Nat.le_of_ble_eq_true rfl) (Nat.le_of_ble_eq_true rfl) (fun sh16 I16 R16 s16 t16 i16 z16 r16 q16 w16 => ?_)
  have o16 : sh16 p = (3, 17) := (s16 p (by omega)).trans o15
  have g1 : sh16 (p + 1) = (7, 8) := by
    rw [s16 (p + 1) (by omega), s15 (p + 1) (by omega), s14 (p + 1) (by omega), s12 (p + 1) (by omega), s11 (p + 1) (by omega), s10 (p + 1) (by omega), s9 (p + 1) (by omega), s8 (p + 1) (by omega), s7 (p + 1) (by omega), s6 (p + 1) (by omega), s5 (p + 1) (by omega), s4 (p + 1) (by omega), s3 (p + 1) (by omega)]
    exact t2
  have f1 : R16 p 2 = some (p + 1) := by
    rw [q16 2 (by decide), q15 2 (by decide), q14 2 (by decide), q12 2 (by decide), q11 2 (by decide), q10 2 (by decide), q9 2 (by decide), q8 2 (by decide), q7 2 (by decide), q6 2 (by decide), q5 2 (by decide), q4 2 (by decide), q3 2 (by decide)]
    exact w2
  have v1 : ∀ j, I16 (p + 1) j = 0 := fun j => by
    rw [i16 (p + 1) (by omega), i15 (p + 1) (by omega), i14 (p + 1) (by omega), i13 (p + 1) (by omega), i12 (p + 1) (by omega), i11 (p + 1) (by omega), i10 (p + 1) (by omega), i9 (p + 1) (by omega), i8 (p + 1) (by omega), i7 (p + 1) (by omega), i6 (p + 1) (by omega), i5 (p + 1) (by omega), i4 (p + 1) (by omega), i3 (p + 1) (by omega)]
    exact z2 j
  have g2 : sh16 (p + 2) = (7, 8) := by
    rw [s16 (p + 2) (by omega), s15 (p + 2) (by omega), s14 (p + 2) (by omega), s12 (p + 2) (by omega), s11 (p + 2) (by omega), s10 (p + 2) (by omega), s9 (p + 2) (by omega), s8 (p + 2) (by omega), s7 (p + 2) (by omega), s6 (p + 2) (by omega), s5 (p + 2) (by omega), s4 (p + 2) (by omega)]
    exact t3
  have f2 : R16 p 3 = some (p + 2) := by
    rw [q16 3 (by decide), q15 3 (by decide), q14 3 (by decide), q12 3 (by decide), q11 3 (by decide), q10 3 (by decide), q9 3 (by decide), q8 3 (by decide), q7 3 (by decide), q6 3 (by decide), q5 3 (by decide), q4 3 (by decide)]
    exact w3
  have v2 : ∀ j, I16 (p + 2) j = 0 := fun j => by
    rw [i16 (p + 2) (by omega), i15 (p + 2) (by omega), i14 (p + 2) (by omega), i13 (p + 2) (by omega), i12 (p + 2) (by omega), i11 (p + 2) (by omega), i10 (p + 2) (by omega), i9 (p + 2) (by omega), i8 (p + 2) (by omega), i7 (p + 2) (by omega), i6 (p + 2) (by omega), i5 (p + 2) (by omega), i4 (p + 2) (by omega)]
    exact z3 j
  have g3 : sh16 (p + 3) = (7, 8) := by
    rw [s16 (p + 3) (by omega), s15 (p + 3) (by omega), s14 (p + 3) (by omega), s12 (p + 3) (by omega), s11 (p + 3) (by omega), s10 (p + 3) (by omega), s9 (p + 3) (by omega), s8 (p + 3) (by omega), s7 (p + 3) (by omega), s6 (p + 3) (by omega), s5 (p + 3) (by omega)]
    exact t4
  have f3 : R16 p 4 = some (p + 3) := by
    rw [q16 4 (by decide), q15 4 (by decide), q14 4 (by decide), q12 4 (by decide), q11 4 (by decide), q10 4 (by decide), q9 4 (by decide), q8 4 (by decide), q7 4 (by decide), q6 4 (by decide), q5 4 (by decide)]
    exact w4
  have v3 : ∀ j, I16 (p + 3) j = 0 := fun j => by
    rw [i16 (p + 3) (by omega), i15 (p + 3) (by omega), i14 (p + 3) (by omega), i13 (p + 3) (by omega), i12 (p + 3) (by omega), i11 (p + 3) (by omega), i10 (p + 3) (by omega), i9 (p + 3) (by omega), i8 (p + 3) (by omega), i7 (p + 3) (by omega), i6 (p + 3) (by omega), i5 (p + 3) (by omega)]
    exact z4 j
  have g4 : sh16 (p + 4) = (7, 8) := by
    rw [s16 (p + 4) (by omega), s15 (p + 4) (by omega), s14 (p + 4) (by omega), s12 (p + 4) (by omega), s11 (p + 4) (by omega), s10 (p + 4) (by omega), s9 (p + 4) (by omega), s8 (p + 4) (by omega), s7 (p + 4) (by omega), s6 (p + 4) (by omega)]
    exact t5
  have f4 : R16 p 5 = some (p + 4) := by
    rw [q16 5 (by decide), q15 5 (by decide), q14 5 (by decide), q12 5 (by decide), q11 5 (by decide), q10 5 (by decide), q9 5 (by decide), q8 5 (by decide), q7 5 (by decide), q6 5 (by decide)]
    exact w5
  have v4 : ∀ j, I16 (p + 4) j = 0 := fun j => by
    rw [i16 (p + 4) (by omega), i15 (p + 4) (by omega), i14 (p + 4) (by omega), i13 (p + 4) (by omega), i12 (p + 4) (by omega), i11 (p + 4) (by omega), i10 (p + 4) (by omega), i9 (p + 4) (by omega), i8 (p + 4) (by omega), i7 (p + 4) (by omega), i6 (p + 4) (by omega)]
    exact z5 j
  have g5 : sh16 (p + 5) = (7, 8) := by
    rw [s16 (p + 5) (by omega), s15 (p + 5) (by omega), s14 (p + 5) (by omega), s12 (p + 5) (by omega), s11 (p + 5) (by omega), s10 (p + 5) (by omega), s9 (p + 5) (by omega), s8 (p + 5) (by omega), s7 (p + 5) (by omega)]
    exact t6
  have f5 : R16 p 6 = some (p + 5) := by
    rw [q16 6 (by decide), q15 6 (by decide), q14 6 (by decide), q12 6 (by decide), q11 6 (by decide), q10 6 (by decide), q9 6 (by decide), q8 6 (by decide), q7 6 (by decide)]
    exact w6
  have v5 : ∀ j, I16 (p + 5) j = 0 := fun j => by
    rw [i16 (p + 5) (by omega), i15 (p + 5) (by omega), i14 (p + 5) (by omega), i13 (p + 5) (by omega), i12 (p + 5) (by omega), i11 (p + 5) (by omega), i10 (p + 5) (by omega), i9 (p + 5) (by omega), i8 (p + 5) (by omega), i7 (p + 5) (by omega)]
    exact z6 j
  have g6 : sh16 (p + 6) = (7, 8) := by
    rw [s16 (p + 6) (by omega), s15 (p + 6) (by omega), s14 (p + 6) (by omega), s12 (p + 6) (by omega), s11 (p + 6) (by omega), s10 (p + 6) (by omega), s9 (p + 6) (by omega), s8 (p + 6) (by omega)]
    exact t7
  have f6 : R16 p 7 = some (p + 6) := by
    rw [q16 7 (by decide), q15 7 (by decide), q14 7 (by decide), q12 7 (by decide), q11 7 (by decide), q10 7 (by decide), q9 7 (by decide), q8 7 (by decide)]
    exact w7
  have v6 : ∀ j, I16 (p + 6) j = 0 := fun j => by
    rw [i16 (p + 6) (by omega), i15 (p + 6) (by omega), i14 (p + 6) (by omega), i13 (p + 6) (by omega), i12 (p + 6) (by omega), i11 (p + 6) (by omega), i10 (p + 6) (by omega), i9 (p + 6) (by omega), i8 (p + 6) (by omega)]
    exact z7 j
  have g7 : sh16 (p + 7) = (7, 8) := by
    rw [s16 (p + 7) (by omega), s15 (p + 7) (by omega), s14 (p + 7) (by omega), s12 (p + 7) (by omega), s11 (p + 7) (by omega), s10 (p + 7) (by omega), s9 (p + 7) (by omega)]
    exact t8
  have f7 : R16 p 8 = some (p + 7) := by
    rw [q16 8 (by decide), q15 8 (by decide), q14 8 (by decide), q12 8 (by decide), q11 8 (by decide), q10 8 (by decide), q9 8 (by decide)]
    exact w8
  have v7 : ∀ j, I16 (p + 7) j = 0 := fun j => by
    rw [i16 (p + 7) (by omega), i15 (p + 7) (by omega), i14 (p + 7) (by omega), i13 (p + 7) (by omega), i12 (p + 7) (by omega), i11 (p + 7) (by omega), i10 (p + 7) (by omega), i9 (p + 7) (by omega)]
    exact z8 j
  have g8 : sh16 (p + 8) = (7, 8) := by
    rw [s16 (p + 8) (by omega), s15 (p + 8) (by omega), s14 (p + 8) (by omega), s12 (p + 8) (by omega), s11 (p + 8) (by omega), s10 (p + 8) (by omega)]
    exact t9
  have f8 : R16 p 9 = some (p + 8) := by
    rw [q16 9 (by decide), q15 9 (by decide), q14 9 (by decide), q12 9 (by decide), q11 9 (by decide), q10 9 (by decide)]
    exact w9
  have v8 : ∀ j, I16 (p + 8) j = 0 := fun j => by
    rw [i16 (p + 8) (by omega), i15 (p + 8) (by omega), i14 (p + 8) (by omega), i13 (p + 8) (by omega), i12 (p + 8) (by omega), i11 (p + 8) (by omega), i10 (p + 8) (by omega)]
    exact z9 j
  have g9 : sh16 (p + 9) = (7, 8) := by
    rw [s16 (p + 9) (by omega), s15 (p + 9) (by omega), s14 (p + 9) (by omega), s12 (p + 9) (by omega), s11 (p + 9) (by omega)]
    exact t10
  have f9 : R16 p 10 = some (p + 9) := by
    rw [q16 10 (by decide), q15 10 (by decide), q14 10 (by decide), q12 10 (by decide), q11 10 (by decide)]
    exact w10
  have v9 : ∀ j, I16 (p + 9) j = 0 := fun j => by
    rw [i16 (p + 9) (by omega), i15 (p + 9) (by omega), i14 (p + 9) (by omega), i13 (p + 9) (by omega), i12 (p + 9) (by omega), i11 (p + 9) (by omega)]
    exact z10 j
  have g10 : sh16 (p + 10) = (7, 8) := by
    rw [s16 (p + 10) (by omega), s15 (p + 10) (by omega), s14 (p + 10) (by omega), s12 (p + 10) (by omega)]
    exact t11
  have f10 : R16 p 11 = some (p + 10) := by
    rw [q16 11 (by decide), q15 11 (by decide), q14 11 (by decide), q12 11 (by decide)]
    exact w11
  have v10 : ∀ j, I16 (p + 10) j = 0 := fun j => by
    rw [i16 (p + 10) (by omega), i15 (p + 10) (by omega), i14 (p + 10) (by omega), i13 (p + 10) (by omega), i12 (p + 10) (by omega)]
    exact z11 j
  have g11 : sh16 (p + 11) = (7, 64) := by
    rw [s16 (p + 11) (by omega), s15 (p + 11) (by omega), s14 (p + 11) (by omega)]
    exact t12
  have f11 : R16 p 12 = some (p + 11) := by
    rw [q16 12 (by decide), q15 12 (by decide), q14 12 (by decide)]
    exact w12
  have v11 : ∀ j, I16 (p + 11) j = 0 := fun j => by
    rw [i16 (p + 11) (by omega), i15 (p + 11) (by omega), i14 (p + 11) (by omega), i13 (p + 11) (by omega)]
    exact z12 j
  have g12 : sh16 (p + 12) = (7, 60) := by
    rw [s16 (p + 12) (by omega), s15 (p + 12) (by omega)]
    exact t14
  have f12 : R16 p 14 = some (p + 12) := by
    rw [q16 14 (by decide), q15 14 (by decide)]
    exact w14
  have v12 : ∀ j, I16 (p + 12) j = 0 := fun j => by
    rw [i16 (p + 12) (by omega), i15 (p + 12) (by omega)]
    exact z14 j
  have g13 : sh16 (p + 13) = (7, 60) := by
    rw [s16 (p + 13) (by omega)]
    exact t15
  have f13 : R16 p 15 = some (p + 13) := by
    rw [q16 15 (by decide)]
    exact w15
  have v13 : ∀ j, I16 (p + 13) j = 0 := fun j => by
    rw [i16 (p + 13) (by omega)]
    exact z15 j
  have g14 : sh16 (p + 14) = (7, 60) := by
    exact t16
  have f14 : R16 p 16 = some (p + 14) := by
    exact w16
  have v14 : ∀ j, I16 (p + 14) j = 0 := fun j => by
    exact z16 j
  have x1 : I16 p 1 = 0 := by
    rw [i16 p (by omega)]
    rw [i15 p (by omega)]
    rw [i14 p (by omega)]
    rw [y13 1 (by decide)]
    rw [i12 p (by omega)]
    rw [i11 p (by omega)]
    rw [i10 p (by omega)]
    rw [i9 p (by omega)]
    rw [i8 p (by omega)]
    rw [i7 p (by omega)]
    rw [i6 p (by omega)]
    rw [i5 p (by omega)]
    rw [i4 p (by omega)]
    rw [i3 p (by omega)]
    rw [i2 p (by omega)]
    exact z1
  have x13 : I16 p 13 = 0 := by
    rw [i16 p (by omega)]
    rw [i15 p (by omega)]
    rw [i14 p (by omega)]
    exact z13
  have fr : ∀ b, b < p → sh16 b = sh b ∧ I16 b = I b ∧ R16 b = R b := fun b hb => by
    refine ⟨?_, ?_, ?_⟩
    · rw [s16 b (by omega), s15 b (by omega), s14 b (by omega), s12 b (by omega), s11 b (by omega), s10 b (by omega), s9 b (by omega), s8 b (by omega), s7 b (by omega), s6 b (by omega), s5 b (by omega), s4 b (by omega), s3 b (by omega), s2 b (by omega)]
    · rw [i16 b (by omega), i15 b (by omega), i14 b (by omega), i13 b (by omega), i12 b (by omega), i11 b (by omega), i10 b (by omega), i9 b (by omega), i8 b (by omega), i7 b (by omega), i6 b (by omega), i5 b (by omega), i4 b (by omega), i3 b (by omega), i2 b (by omega), i1 b (by omega)]
    · rw [r16 b (by omega) (by omega), r15 b (by omega) (by omega), r14 b (by omega) (by omega), r12 b (by omega) (by omega), r11 b (by omega) (by omega), r10 b (by omega) (by omega), r9 b (by omega) (by omega), r8 b (by omega) (by omega), r7 b (by omega) (by omega), r6 b (by omega) (by omega), r5 b (by omega) (by omega), r4 b (by omega) (by omega), r3 b (by omega) (by omega), r2 b (by omega) (by omega)]
  have hl : ly_Run sh16 R16 p := ⟨o16, ⟨f1, g1⟩, ⟨f2, g2⟩, ⟨f3, g3⟩, ⟨f4, g4⟩, ⟨f5, g5⟩, ⟨f6, g6⟩, ⟨f7, g7⟩, ⟨f8, g8⟩, ⟨f9, g9⟩, ⟨f10, g10⟩, ⟨f11, g11⟩, ⟨f12, g12⟩, ⟨f13, g13⟩, ⟨f14, g14⟩⟩
  have hq2 : ly_Plan sh16 R16 q := by
    have e : ∀ b, q ≤ b → b < q + 9 → sh16 b = sh b := fun b b1 b2 => (fr b (by omega)).1
    have er : R16 q = R q := (fr q (by omega)).2.2
    unfold ly_Plan at hq ⊢
    rw [er, e q (by omega) (by omega), e (q + 1) (by omega) (by omega), e (q + 2) (by omega) (by omega), e (q + 3) (by omega) (by omega), e (q + 4) (by omega) (by omega), e (q + 5) (by omega) (by omega), e (q + 6) (by omega) (by omega), e (q + 7) (by omega) (by omega), e (q + 8) (by omega) (by omega)]
    exact hq
  refine mv_aload_n (pc := 126) dX3_init_126 rfl ?_
  refine mv_aload_n (pc := 127) dX3_init_127 rfl ?_
  refine mv_cVvA (pc := 128) dX3_init_128 lk3_61 (congrArg Prod.fst o16) (c3_restart hl hq2 (by omega) (h.eq (fun b b1 b2 => (fr b (by omega)).2.1)) hw) rfl rfl (Nat.le_of_ble_eq_true rfl) ⟨by decide, by decide⟩ ⟨Nat.le_of_ble_eq_true rfl, Nat.le_of_ble_eq_true rfl⟩ (fun J ⟨hr, hf⟩ => ?_)
  exact mv_vret (pc := 131) dX3_init_131 rfl (Nat.le_of_ble_eq_true rfl) (Nat.le_of_ble_eq_true rfl) ⟨rfl, rfl, fun b hb => ⟨(fr b hb).1, (hf b (by omega)).trans (fr b hb).2.1, (mv_upN b (by omega)).trans (fr b hb).2.2⟩, hl.upR (fun k hk => by simp [mv_up, hk]), mv_upe, hr⟩
