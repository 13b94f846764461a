theorem ly_Plan.fr {sh sh2 : mv_Sh} {R R2 : mv_R} {p : Nat} (h : ly_Plan sh R p) (e : ∀ b, p ≤ b → b < p + 9 → sh2 b = sh b) (er : R2 p = R p) : ly_Plan sh2 R2 p := by
  unfold ly_Plan at h ⊢
  rw [er, e p (by omega) (by omega), e (p + 1) (by omega) (by omega), e (p + 2) (by omega) (by omega), e (p + 3) (by omega) (by omega), e (p + 4) (by omega) (by omega), e (p + 5) (by omega) (by omega), e (p + 6) (by omega) (by omega), e (p + 7) (by omega) (by omega), e (p + 8) (by omega) (by omega)]
  exact h
theorem ly_Tok.fr {sh sh2 : mv_Sh} {R R2 : mv_R} {p : Nat} (h : ly_Tok sh R p) (e : ∀ b, p ≤ b → b < p + 2 → sh2 b = sh b) (er : R2 p = R p) : ly_Tok sh2 R2 p := by
  unfold ly_Tok at h ⊢
  rw [er, e p (by omega) (by omega), e (p + 1) (by omega) (by omega)]
  exact h
theorem ly_Run.fr {sh sh2 : mv_Sh} {R R2 : mv_R} {p : Nat} (h : ly_Run sh R p) (e : ∀ b, p ≤ b → b < p + 15 → sh2 b = sh b) (er : R2 p = R p) : ly_Run sh2 R2 p := by
  unfold ly_Run at h ⊢
  rw [er, e p (by omega) (by omega), e (p + 1) (by omega) (by omega), e (p + 2) (by omega) (by omega), e (p + 3) (by omega) (by omega), e (p + 4) (by omega) (by omega), e (p + 5) (by omega) (by omega), e (p + 6) (by omega) (by omega), e (p + 7) (by omega) (by omega), e (p + 8) (by omega) (by omega), e (p + 9) (by omega) (by omega), e (p + 10) (by omega) (by omega), e (p + 11) (by omega) (by omega), e (p + 12) (by omega) (by omega), e (p + 13) (by omega) (by omega), e (p + 14) (by omega) (by omega)]
  exact h
theorem ly_His.fr {sh sh2 : mv_Sh} {R R2 : mv_R} {p q : Nat} (h : ly_His sh R p q) (e : ∀ b, p ≤ b → b < p + 182 → sh2 b = sh b ∧ R2 b = R b) : ly_His sh2 R2 p q := by
  obtain ⟨h1, h2, h3, h4⟩ := h
  refine ⟨by rw [(e p (by omega) (by omega)).1]; exact h1, by rw [(e p (by omega) (by omega)).2]; exact h2, by rw [(e (p + 1) (by omega) (by omega)).1]; exact h3, fun i hi => ?_⟩
  obtain ⟨a, b, c⟩ := h4 i hi
  exact ⟨by rw [(e (p + 1) (by omega) (by omega)).2]; exact a, b.fr (fun x x1 x2 => (e x (by omega) (by omega)).1) (e _ (by omega) (by omega)).2, by rw [(e (p + 2 + 15 * i) (by omega) (by omega)).2]; exact c⟩
set_option maxHeartbeats 4000000 in
set_option maxRecDepth 100000 in
theorem c0_init {l : Launch} {D : va_G} {b0 : Nat} {sh : mv_Sh} {I : mv_I} {R : mv_R} {p q nt : Nat} {π : xs_X} (ho : sh p = (0, 3)) (hq : ly_Plan sh R q) (hpq : q + 9 ≤ p) (h : pl_C I q nt π) (hw : pl_W nt π) : mv_C l D b0 m0_init (mv_rc 4 181 4104) [.ref p, .ref q] (p + 1) sh I R (mk_Q p 182 sh I R (fun sh' I' R' => ly_His sh' R' p q ∧ I' p 1 = nI 0 ∧ I' p 2 = nI 0)) := by
  refine mv_C.of 1 (by decide) (by simp [Value.category]) rfl ?_
  show mv_E l D b0 m0_init (mv_rc 4 181 4104) _ 0 [.ref p, .ref q, .null] [] 0 0 (p + 1) sh I R
  have loop : ∀ (f i : Nat) (sh' : mv_Sh) (I' : mv_I) (R' : mv_R), i + f = 12 → (∀ b, b < p → sh' b = sh b ∧ I' b = I b ∧ R' b = R b) → sh' p = (0, 3) → R' p 0 = some (p + 1) → sh' (p + 1) = (9, 12) → (I' p 1 = nI 0 ∧ I' p 2 = nI 0) → (∀ j, j < i → R' (p + 1) j = some (p + 2 + 15 * j) ∧ ly_Run sh' R' (p + 2 + 15 * j) ∧ R' (p + 2 + 15 * j) 0 = some q) → mv_E l D b0 m0_init (mv_rc 4 181 4104) (mk_Q p 182 sh I R (fun sh' I' R' => ly_His sh' R' p q ∧ I' p 1 = nI 0 ∧ I' p 2 = nI 0)) 25 [.ref p, .ref q, .int (nI i)] [] (1 + 15 * i) (12 + 341 * i) (p + 2 + 15 * i) sh' I' R' := by
    intro f
    induction f with
    | zero =>
      intro i sh' I' R' hi h1 h2 h3 h4 h5 h6
      have : i = 12 := by omega
      subst this
      refine mv_iload_n (pc := 25) dX0_init_25 rfl ?_
      refine mv_bipush (pc := 26) (v := 12) dX0_init_26 (by decide) ?_
      refine mv_icmp_ge (pc := 28) (tgt := 51) dX0_init_28 (by decide) (fun hb => ?_) (fun hb => ?_)
      · exact mv_vret (pc := 51) dX0_init_51 rfl (Nat.le_of_ble_eq_true rfl) (Nat.le_of_ble_eq_true rfl) ⟨rfl, rfl, h1, ⟨h2, h3, h4, h6⟩, h5⟩
      · exact absurd (by decide) hb
    | succ f ih =>
      intro i sh' I' R' hi h1 h2 h3 h4 h5 h6
      refine mv_iload_n (pc := 25) dX0_init_25 rfl ?_
      refine mv_bipush (pc := 26) (v := 12) dX0_init_26 (by decide) ?_
      refine mv_icmp_ge (pc := 28) (tgt := 51) dX0_init_28 (by decide) (fun hb => ?_) (fun hb => ?_)
      · exact absurd hb (nI_ge (b := 12) (by omega) (by decide))
      · refine mv_aload_n (pc := 31) dX0_init_31 rfl ?_
        refine mv_getR (pc := 32) (q := p + 1) dX0_init_32 fl0_11 (fun _ _ => rfl) (congrArg Prod.fst h2) h3 ?_
        refine mv_iload_n (pc := 35) dX0_init_35 rfl ?_
        refine mv_newG (pc := 36) (ci := 3) dX0_init_36 (by decide) cl0_9 wn3 wi3 (by show 1 + 15 * i + 1 ≤ 181; omega) (by show 12 + 341 * i + 17 ≤ 4104; omega) (fun sh1 I1 R1 n1 t1 => ?_)
        refine mv_dup (pc := 39) dX0_init_39 rfl ?_
        refine mv_aload_n (pc := 40) dX0_init_40 rfl ?_
        have hq1 : ly_Plan sh1 R1 q := hq.fr (fun b b1 b2 => (n1 b (by omega)).1.trans (h1 b (by omega)).1) ((n1 q (by omega)).2.2.trans (h1 q (by omega)).2.2)
        have hp1 : pl_C I1 q nt π := h.eq (fun b b1 b2 => (n1 b (by omega)).2.1.trans (h1 b (by omega)).2.1)
        refine mv_callIG (pc := 41) (a := p + 2 + 15 * i) dX0_init_41 lk0_24 (c3_init t1 hq1 (by omega) hp1 hw) rfl rfl (Nat.le_of_ble_eq_true rfl) ⟨by decide, by decide⟩ ⟨by show 1 + 15 * i + 1 + 14 ≤ 181; omega, by show 12 + 341 * i + 17 + 324 ≤ 4104; omega⟩ (fun sh2 I2 R2 f2 P2 => ?_)
        obtain ⟨p1, p2, p3⟩ := P2
        have g : ∀ b, b < p + 2 + 15 * i → sh2 b = sh' b ∧ I2 b = I' b ∧ R2 b = R' b := fun b hb => ⟨(f2 b hb).1.trans (n1 b (by omega)).1, (f2 b hb).2.1.trans (n1 b (by omega)).2.1, (f2 b hb).2.2.trans (n1 b (by omega)).2.2⟩
        refine mv_aast (pc := 44) (k := i) (v := p + 2 + 15 * i) dX0_init_44 ((g (p + 1) (by omega)).1.trans h4) (congrArg Prod.fst p1.o) rfl (by omega) ?_
        refine mv_iinc (pc := 45) (v := nI (i + 1)) dX0_init_45 (by decide) rfl (nI_1 i) ?_
        refine mv_goto (pc := 48) (tgt := 25) dX0_init_48 (by decide) ?_
        have e1 : 1 + 15 * i + 1 + 14 = 1 + 15 * (i + 1) := by omega
        have e2 : 12 + 341 * i + mv_N 3 + 324 = 12 + 341 * (i + 1) := by
          show 12 + 341 * i + 17 + 324 = 12 + 341 * (i + 1)
          omega
        have e3 : p + 2 + 15 * i + 15 = p + 2 + 15 * (i + 1) := by omega
        rw [e1, e2, e3]
        have eR : ∀ b, b ≠ p + 1 → mv_up R2 (p + 1) i (some (p + 2 + 15 * i)) b = R2 b := fun b hb => mv_upN b hb
        refine ih (i + 1) sh2 I2 _ (by omega) (fun b hb => ⟨(g b (by omega)).1.trans (h1 b hb).1, (g b (by omega)).2.1.trans (h1 b hb).2.1, (eR b (by omega)).trans ((g b (by omega)).2.2.trans (h1 b hb).2.2)⟩) ((g p (by omega)).1.trans h2) ?_ ((g (p + 1) (by omega)).1.trans h4) ?_ (fun j hj => ?_)
        · rw [eR p (by omega), (g p (by omega)).2.2]; exact h3
        · rw [(g p (by omega)).2.1]; exact h5
        · by_cases hji : j = i
          · subst hji
            exact ⟨mv_upe, p1.fr (fun _ _ _ => rfl) (eR _ (by omega)), by rw [eR _ (by omega)]; exact p2⟩
          · obtain ⟨a, b, c⟩ := h6 j (by omega)
            refine ⟨?_, b.fr (fun x x1 x2 => (g x (by omega)).1) ((eR _ (by omega)).trans (g _ (by omega)).2.2), ?_⟩
            · simp only [mv_up, hji, and_false, if_false]
              rw [(g (p + 1) (by omega)).2.2]; exact a
            · rw [eR _ (by omega), (g _ (by omega)).2.2]; exact c
  refine mv_aload_n (pc := 0) dX0_init_0 rfl ?_
  refine mv_objInit (pc := 1) dX0_init_1 lko0_3 wo_i wo_c (Nat.le_of_ble_eq_true rfl) ⟨by decide, by decide⟩ ?_
  refine mv_aload_n (pc := 4) dX0_init_4 rfl ?_
  refine mv_bipush (pc := 5) (v := 12) dX0_init_5 (by decide) ?_
  refine mv_newQG (pc := 7) (len := 12) dX0_init_7 cl0_9 rfl (by decide) (Nat.le_of_ble_eq_true rfl) (Nat.le_of_ble_eq_true rfl) (fun sh1 I1 R1 n1 t1 => ?_)
  have o1 : sh1 p = (0, 3) := (n1 p (by omega)).1.trans ho
  refine mv_putRG (pc := 10) dX0_init_10 fl0_11 (fun _ _ => rfl) (Or.inr ⟨rfl, rfl, rfl⟩) rfl rfl (congrArg Prod.fst o1) (fun R2 r1 r2 r3 => ?_)
  refine mv_aload_n (pc := 13) dX0_init_13 rfl ?_
  refine mv_iconst (pc := 14) (v := 0) dX0_init_14 (by decide) ?_
  refine mv_putIG (pc := 15) dX0_init_15 fl0_17 rfl rfl (congrArg Prod.fst o1) (fun I2 i1 i2 i3 => ?_)
  refine mv_aload_n (pc := 18) dX0_init_18 rfl ?_
  refine mv_iconst (pc := 19) (v := 0) dX0_init_19 (by decide) ?_
  refine mv_putIG (pc := 20) dX0_init_20 fl0_21 rfl rfl (congrArg Prod.fst o1) (fun I3 j1 j2 j3 => ?_)
  refine mv_iconst (pc := 23) (v := 0) dX0_init_23 (by decide) ?_
  refine mv_istore_n (pc := 24) dX0_init_24 (by decide) ?_
  refine loop 12 0 sh1 I3 R2 (by omega) (fun b hb => ⟨(n1 b (by omega)).1, ?_, (r1 b (by omega)).trans (n1 b (by omega)).2.2⟩) o1 r3 t1 ⟨?_, j3⟩ (fun j hj => by omega)
  · rw [j1 b (by omega), i1 b (by omega)]; exact (n1 b (by omega)).2.1
  · rw [j2 1 (by decide)]; exact i3
