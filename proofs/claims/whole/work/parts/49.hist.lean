theorem rc_R.eq {I I' : mv_I} {p n : Nat} {x : xs_X} (h : rc_R I p n x) (e : ∀ b, p ≤ b → b < p + 15 → I' b = I b) : rc_R I' p n x := by
  obtain ⟨⟨h1, h2⟩, h3, h4⟩ := h
  refine ⟨⟨by rw [e p (by omega) (by omega)]; exact h1, by rw [e p (by omega) (by omega)]; exact h2⟩, fun t ht => ⟨fun k hk => ?_, ?_, ?_, ?_⟩, ?_⟩
  · have := @xs_off_ne k
    rw [e _ (by omega) (by omega)]; exact (h3 t ht).1 k hk
  · rw [e _ (by omega) (by omega)]; exact (h3 t ht).2.1
  · rw [e _ (by omega) (by omega)]; exact (h3 t ht).2.2.1
  · rw [e _ (by omega) (by omega)]; exact (h3 t ht).2.2.2
  · rw [e (p + 12) (by omega) (by omega), e (p + 13) (by omega) (by omega), e (p + 14) (by omega) (by omega)]; exact h4
def rs_y : xs_X := fun t k => if t < 8 then (if k = 1 ∨ k = 8 then -9 else 0) else 0
theorem rs_st {d : Int32} (hd : d = 99 ∨ d < 9999) : mv_up (mv_up (mv_up rs_y 0 0 1) 0 7 (rs_y 8 0)) 0 4 (if (if d = 99 then 9999 else rs_y 8 0 + d) < 9999 then (if d = 99 then 9999 else rs_y 8 0 + d) else 9999) = xs_st d := by
  have e8 : rs_y 8 0 = 0 := rfl
  have e4 : (if (if d = 99 then (9999 : Int32) else rs_y 8 0 + d) < 9999 then (if d = 99 then 9999 else rs_y 8 0 + d) else 9999) = if d = 99 then 9999 else d := by
    rw [e8, Int32.zero_add]
    by_cases q : d = 99
    · rw [if_pos q]; rfl
    · rw [if_neg q, if_pos (hd.elim (fun a => absurd a q) id)]
  rw [e4, e8]
  funext t k
  unfold xs_st
  by_cases ht : t = 0
  · subst ht
    by_cases h4 : k = 4
    · subst h4; simp [mv_up]
    · by_cases h7 : k = 7
      · subst h7; simp [mv_up]
      · by_cases h0 : k = 0
        · subst h0; simp [mv_up]
        · simp [mv_up, h4, h7, h0, rs_y]
  · simp [mv_up, ht, rs_y]
def rs_L (J : mv_I) (p t : Nat) : Prop := ∀ u, u < t → J (p + 1) u = 0 ∧ J (p + 2) u = -9 ∧ J (p + 3) u = 0 ∧ J (p + 4) u = 0 ∧ J (p + 5) u = 1000000 ∧ J (p + 6) u = 0 ∧ J (p + 7) u = 0 ∧ J (p + 8) u = 0 ∧ J (p + 9) u = 0 ∧ J (p + 10) u = 0
set_option maxHeartbeats 4000000 in
set_option maxRecDepth 100000 in
theorem e3_restart {l : Launch} {D : va_G} {b0 n : Nat} {sh : mv_Sh} {I : mv_I} {R : mv_R} {Q : mv_Q} {p q nt : Nat} {π : xs_X} (hp : ly_Run sh R p) (hq : ly_Plan sh R q) (hpq : q + 9 ≤ p ∨ p + 15 ≤ q) (h : pl_C I q nt π) (hw : pl_W nt π) (hQ : ∀ I', (rc_R I' p nt (xs_st (π 0 2)) ∧ rc_Fr p I I') → Q none n sh I' (mv_up R p 0 (some q))) : mv_E l D b0 m3_restart (mv_rm 2) Q 0 [.ref p, .ref q, .null] [] 0 0 n sh I R := by
  have hn := hw.2.1
  have hn1 := hw.1
  have hp2 : ly_Run sh (mv_up R p 0 (some q)) p := hp.upR (fun k hk => by simp [mv_up, hk])
  have hq2 : ly_Plan sh (mv_up R p 0 (some q)) q := hq.upR (mv_upN q (by omega))
  have loop : ∀ (f t : Nat) (J : mv_I), t + f = 8 → (J p 1 = 0 ∧ J p 13 = 0) → rs_L J p t → rc_Fr p I J → mv_E l D b0 m3_restart (mv_rm 2) Q 17 [.ref p, .ref q, .int (nI t)] [] 0 0 n sh J (mv_up R p 0 (some q)) := by
    intro f
    induction f with
    | zero =>
      intro t J ht h1 h2 h3
      have : t = 8 := by omega
      subst this
      refine mv_iload_n (pc := 17) dX3_restart_17 rfl ?_
      refine mv_bipush (pc := 18) (v := 8) dX3_restart_18 (by decide) ?_
      refine mv_icmp_ge (pc := 20) (tgt := 101) dX3_restart_20 (by decide) (fun hb => ?_) (fun hb => ?_)
      · refine mv_aload_n (pc := 101) dX3_restart_101 rfl ?_
        refine mv_iconst (pc := 102) (v := 0) dX3_restart_102 (by decide) ?_
        refine mv_ldc (pc := 103) dX3_restart_103 kc3_69 ?_
        have hr : rc_R J p nt rs_y := by
          refine ⟨h1, fun u hu => ⟨fun k hk => ?_, Or.inl (by unfold rs_y; rw [if_pos (by omega)]; rfl), Or.inl ⟨(h2 u (by omega)).2.2.2.2.1, Or.inr (by unfold rs_y; rw [if_pos (by omega)]; rfl)⟩, fun j hj _ => ?_⟩, fun j hj _ => ?_⟩
          · obtain ⟨a1, a2, a3, a4, a5, a6, a7, a8, a9, a10⟩ := h2 u (by omega)
            have hk10 : k < 10 := Nat.not_le.mp fun q => hk (xs_off_10 q)
            have : k = 0 ∨ k = 1 ∨ k = 2 ∨ k = 3 ∨ k = 4 ∨ k = 5 ∨ k = 6 ∨ k = 7 ∨ k = 8 ∨ k = 9 := by omega
            unfold rs_y
            rw [if_pos (by omega)]
            rcases this with rfl | rfl | rfl | rfl | rfl | rfl | rfl | rfl | rfl | rfl
            · exact a1
            · exact a2
            · exact a6
            · exact a7
            · exact absurd rfl hk
            · exact a9
            · exact a8
            · exact a3
            · exact absurd rfl hk
            · exact a10
          · have : rs_y u 9 = 0 := by unfold rs_y; rw [if_pos (by omega)]; rfl
            rw [this] at hj
            exact absurd hj (by simp)
          · have : rs_y 8 1 = 0 := rfl
            rw [this] at hj
            exact absurd hj (by simp)
        refine mv_cVv (pc := 105) dX3_restart_105 lk3_70 (congrArg Prod.fst hp2.o) (c3_start (q := q) (π := π) (x := rs_y) (t := 0) (τ := 0) (m := 9999) ⟨hp2, hq2, by rw [mv_upe], hpq, h.eq (fun b b1 b2 => h3 b (by omega)), hw⟩ hr (by omega) rfl (by decide) (Or.inl ⟨rfl, Or.inl rfl⟩) (by decide)) rfl rfl (Nat.le_of_ble_eq_true rfl) (by decide) (by decide) (fun J2 ⟨hr2, hf2⟩ => ?_)
        have hd : π 0 2 = 99 ∨ π 0 2 < 9999 := by
          rcases (hw.T (t := 0) (by omega)).2.2.1 with b | ⟨d, d1, d2, d3⟩
          · exact Or.inl b
          · right; rw [d3]; exact nI_lt (b := 9999) (by omega) (by decide)
        have est := rs_st hd
        refine mv_vret (pc := 108) dX3_restart_108 rfl (by decide) (by decide) (hQ _ ⟨?_, h3.tr hf2⟩)
        rw [← est]
        exact hr2
      · exact absurd (by decide) hb
    | succ f ih =>
      intro t J ht h1 h2 h3
      refine mv_iload_n (pc := 17) dX3_restart_17 rfl ?_
      refine mv_bipush (pc := 18) (v := 8) dX3_restart_18 (by decide) ?_
      refine mv_icmp_ge (pc := 20) (tgt := 101) dX3_restart_20 (by decide) (fun hb => ?_) (fun hb => ?_)
      · exact absurd hb (nI_ge (b := 8) (by omega) (by decide))
      · refine mv_aload_n (pc := 23) dX3_restart_23 rfl ?_
        refine mv_getR (pc := 24) (q := p + 1) dX3_restart_24 fl3_15 (fun _ _ => rfl) (congrArg Prod.fst hp2.o) hp2.f2 ?_
        refine mv_iload_n (pc := 27) dX3_restart_27 rfl ?_
        refine mv_iconst (pc := 28) (v := 0) dX3_restart_28 (by decide) ?_
        refine mv_iast (pc := 29) (k := t) dX3_restart_29 hp2.g2 rfl (by omega) ?_
        refine mv_aload_n (pc := 30) dX3_restart_30 rfl ?_
        refine mv_getR (pc := 31) (q := p + 2) dX3_restart_31 fl3_19 (fun _ _ => rfl) (congrArg Prod.fst hp2.o) hp2.f3 ?_
        refine mv_iload_n (pc := 34) dX3_restart_34 rfl ?_
        refine mv_bipush (pc := 35) (v := -9) dX3_restart_35 (by decide) ?_
        refine mv_iast (pc := 37) (k := t) dX3_restart_37 hp2.g3 rfl (by omega) ?_
        refine mv_aload_n (pc := 38) dX3_restart_38 rfl ?_
        refine mv_getR (pc := 39) (q := p + 3) dX3_restart_39 fl3_22 (fun _ _ => rfl) (congrArg Prod.fst hp2.o) hp2.f4 ?_
        refine mv_iload_n (pc := 42) dX3_restart_42 rfl ?_
        refine mv_iconst (pc := 43) (v := 0) dX3_restart_43 (by decide) ?_
        refine mv_iast (pc := 44) (k := t) dX3_restart_44 hp2.g4 rfl (by omega) ?_
        refine mv_aload_n (pc := 45) dX3_restart_45 rfl ?_
        refine mv_getR (pc := 46) (q := p + 4) dX3_restart_46 fl3_25 (fun _ _ => rfl) (congrArg Prod.fst hp2.o) hp2.f5 ?_
        refine mv_iload_n (pc := 49) dX3_restart_49 rfl ?_
        refine mv_iconst (pc := 50) (v := 0) dX3_restart_50 (by decide) ?_
        refine mv_iast (pc := 51) (k := t) dX3_restart_51 hp2.g5 rfl (by omega) ?_
        refine mv_aload_n (pc := 52) dX3_restart_52 rfl ?_
        refine mv_getR (pc := 53) (q := p + 5) dX3_restart_53 fl3_28 (fun _ _ => rfl) (congrArg Prod.fst hp2.o) hp2.f6 ?_
        refine mv_iload_n (pc := 56) dX3_restart_56 rfl ?_
        refine mv_ldc (pc := 57) dX3_restart_57 kc3_69 ?_
        refine mv_iast (pc := 59) (k := t) dX3_restart_59 hp2.g6 rfl (by omega) ?_
        refine mv_aload_n (pc := 60) dX3_restart_60 rfl ?_
        refine mv_getR (pc := 61) (q := p + 6) dX3_restart_61 fl3_31 (fun _ _ => rfl) (congrArg Prod.fst hp2.o) hp2.f7 ?_
        refine mv_iload_n (pc := 64) dX3_restart_64 rfl ?_
        refine mv_iconst (pc := 65) (v := 0) dX3_restart_65 (by decide) ?_
        refine mv_iast (pc := 66) (k := t) dX3_restart_66 hp2.g7 rfl (by omega) ?_
        refine mv_aload_n (pc := 67) dX3_restart_67 rfl ?_
        refine mv_getR (pc := 68) (q := p + 7) dX3_restart_68 fl3_34 (fun _ _ => rfl) (congrArg Prod.fst hp2.o) hp2.f8 ?_
        refine mv_iload_n (pc := 71) dX3_restart_71 rfl ?_
        refine mv_iconst (pc := 72) (v := 0) dX3_restart_72 (by decide) ?_
        refine mv_iast (pc := 73) (k := t) dX3_restart_73 hp2.g8 rfl (by omega) ?_
        refine mv_aload_n (pc := 74) dX3_restart_74 rfl ?_
        refine mv_getR (pc := 75) (q := p + 8) dX3_restart_75 fl3_37 (fun _ _ => rfl) (congrArg Prod.fst hp2.o) hp2.f9 ?_
        refine mv_iload_n (pc := 78) dX3_restart_78 rfl ?_
        refine mv_iconst (pc := 79) (v := 0) dX3_restart_79 (by decide) ?_
        refine mv_iast (pc := 80) (k := t) dX3_restart_80 hp2.g9 rfl (by omega) ?_
        refine mv_aload_n (pc := 81) dX3_restart_81 rfl ?_
        refine mv_getR (pc := 82) (q := p + 9) dX3_restart_82 fl3_40 (fun _ _ => rfl) (congrArg Prod.fst hp2.o) hp2.f10 ?_
        refine mv_iload_n (pc := 85) dX3_restart_85 rfl ?_
        refine mv_iconst (pc := 86) (v := 0) dX3_restart_86 (by decide) ?_
        refine mv_iast (pc := 87) (k := t) dX3_restart_87 hp2.g10 rfl (by omega) ?_
        refine mv_aload_n (pc := 88) dX3_restart_88 rfl ?_
        refine mv_getR (pc := 89) (q := p + 10) dX3_restart_89 fl3_43 (fun _ _ => rfl) (congrArg Prod.fst hp2.o) hp2.f11 ?_
        refine mv_iload_n (pc := 92) dX3_restart_92 rfl ?_
        refine mv_iconst (pc := 93) (v := 0) dX3_restart_93 (by decide) ?_
        refine mv_iast (pc := 94) (k := t) dX3_restart_94 hp2.g11 rfl (by omega) ?_
        refine mv_iinc (pc := 95) (v := nI (t + 1)) dX3_restart_95 (by decide) rfl (nI_1 t) ?_
        refine mv_goto (pc := 98) (tgt := 17) dX3_restart_98 (by decide) ?_
        refine ih (t + 1) _ (by omega) ⟨?_, ?_⟩ (fun u hu => ?_) ?_
        · simpa [mv_up] using h1.1
        · simpa [mv_up] using h1.2
        · by_cases q : u = t
          · subst q
            refine ⟨?_, ?_, ?_, ?_, ?_, ?_, ?_, ?_, ?_, ?_⟩ <;> simp [mv_up]
          · obtain ⟨a1, a2, a3, a4, a5, a6, a7, a8, a9, a10⟩ := h2 u (by omega)
            refine ⟨?_, ?_, ?_, ?_, ?_, ?_, ?_, ?_, ?_, ?_⟩ <;> simp only [mv_up, q, and_false, if_false] <;> assumption
        · exact (((((((((h3.up (by omega)).up (by omega)).up (by omega)).up (by omega)).up (by omega)).up (by omega)).up (by omega)).up (by omega)).up (by omega)).up (by omega)
  refine mv_aload_n (pc := 0) dX3_restart_0 rfl ?_
  refine mv_aload_n (pc := 1) dX3_restart_1 rfl ?_
  refine mv_putR (pc := 2) dX3_restart_2 fl3_65 (fun _ _ => rfl) (Or.inl rfl) rfl rfl (congrArg Prod.fst hp.o) ?_
  refine mv_aload_n (pc := 5) dX3_restart_5 rfl ?_
  refine mv_iconst (pc := 6) (v := 0) dX3_restart_6 (by decide) ?_
  refine mv_putI (pc := 7) dX3_restart_7 fl3_9 rfl rfl (congrArg Prod.fst hp2.o) ?_
  refine mv_aload_n (pc := 10) dX3_restart_10 rfl ?_
  refine mv_iconst (pc := 11) (v := 0) dX3_restart_11 (by decide) ?_
  refine mv_putI (pc := 12) dX3_restart_12 fl3_49 rfl rfl (congrArg Prod.fst hp2.o) ?_
  refine mv_iconst (pc := 15) (v := 0) dX3_restart_15 (by decide) ?_
  refine mv_istore_n (pc := 16) dX3_restart_16 (by decide) ?_
  refine loop 8 0 _ (by omega) ⟨?_, ?_⟩ (fun u hu => by omega) ((rc_Fr.rf.up (by omega)).up (by omega))
  · simp [mv_up]
  · simp [mv_up]
theorem c3_restart {l : Launch} {D : va_G} {b0 n : Nat} {sh : mv_Sh} {I : mv_I} {R : mv_R} {p q nt : Nat} {π : xs_X} (hp : ly_Run sh R p) (hq : ly_Plan sh R q) (hpq : q + 9 ≤ p ∨ p + 15 ≤ q) (h : pl_C I q nt π) (hw : pl_W nt π) : mv_C l D b0 m3_restart (mv_rm 2) [.ref p, .ref q] n sh I R (mv_Pv n sh (mv_up R p 0 (some q)) (fun I' => rc_R I' p nt (xs_st (π 0 2)) ∧ rc_Fr p I I')) := mv_C.of 1 (by decide) (by simp [Value.category]) rfl (e3_restart hp hq hpq h hw (fun _ h => mv_Pv.mk h))
set_option maxHeartbeats 4000000 in
set_option maxRecDepth 100000 in
theorem e4_append {l : Launch} {D : va_G} {b0 n : Nat} {sh : mv_Sh} {I : mv_I} {R : mv_R} {Q : mv_Q} {z L : Nat} {v : Int32} (hz : ly_Tok sh R z) (hl : I z 1 = nI L) (hL : L ≤ 120) (hQ : ∀ r I', (r = (if L < 120 then 1 else 0) ∧ I' = (if L < 120 then mv_up (mv_up I (z + 1) L v) z 1 (nI (L + 1)) else I)) → Q (some (.int r)) n sh I' R) : mv_E l D b0 m4_append (mv_rm 0) Q 0 [.ref z, .int v] [] 0 0 n sh I R := by
  refine mv_aload_n (pc := 0) dX4_append_0 rfl ?_
  refine mv_getIx (pc := 1) (x := nI L) dX4_append_1 fl4_15 rfl (congrArg Prod.fst hz.o) hl ?_
  refine mv_bipush (pc := 4) (v := 120) dX4_append_4 (by decide) ?_
  refine mv_icmp_lt (pc := 6) (tgt := 11) dX4_append_6 (by decide) (fun hb => ?_) (fun hb => ?_)
  · have hlt : L < 120 := (nI_ltI (b := 120) (by omega) (by decide)).mp hb
    refine mv_aload_n (pc := 11) dX4_append_11 rfl ?_
    refine mv_getR (pc := 12) (q := z + 1) dX4_append_12 fl4_9 (fun _ _ => rfl) (congrArg Prod.fst hz.o) hz.f0 ?_
    refine mv_aload_n (pc := 15) dX4_append_15 rfl ?_
    refine mv_getIx (pc := 16) (x := nI L) dX4_append_16 fl4_15 rfl (congrArg Prod.fst hz.o) hl ?_
    refine mv_iload_n (pc := 19) dX4_append_19 rfl ?_
    refine mv_iast (pc := 20) (k := L) dX4_append_20 hz.g0 rfl (by omega) ?_
    refine mv_aload_n (pc := 21) dX4_append_21 rfl ?_
    refine mv_dup (pc := 22) dX4_append_22 rfl ?_
    refine mv_getIx (pc := 23) (x := nI L) dX4_append_23 fl4_15 rfl (congrArg Prod.fst hz.o) (by rw [mv_upN z (by omega)]; exact hl) ?_
    refine mv_iconst (pc := 26) (v := 1) dX4_append_26 (by decide) ?_
    refine mv_iadd (pc := 27) dX4_append_27 ?_
    refine mv_top (y := nI (L + 1)) (nI_1 L) ?_
    refine mv_putI (pc := 28) dX4_append_28 fl4_15 rfl rfl (congrArg Prod.fst hz.o) ?_
    refine mv_iconst (pc := 31) (v := 1) dX4_append_31 (by decide) ?_
    refine mv_zret (pc := 32) dX4_append_32 rfl (by rfl) (by decide) (by decide) (hQ _ _ ⟨?_, ?_⟩)
    · rw [if_pos hlt]
    · rw [if_pos hlt]
  · have hlt : ¬ L < 120 := fun q => hb (nI_lt q (by decide))
    refine mv_iconst (pc := 9) (v := 0) dX4_append_9 (by decide) ?_
    refine mv_zret (pc := 10) dX4_append_10 rfl (by rfl) (by decide) (by decide) (hQ _ _ ⟨?_, ?_⟩)
    · rw [if_neg hlt]
    · rw [if_neg hlt]
theorem c4_append {l : Launch} {D : va_G} {b0 n : Nat} {sh : mv_Sh} {I : mv_I} {R : mv_R} {z L : Nat} {v : Int32} (hz : ly_Tok sh R z) (hl : I z 1 = nI L) (hL : L ≤ 120) : mv_C l D b0 m4_append (mv_rm 0) [.ref z, .int v] n sh I R (mv_Pi n sh R (fun r I' => r = (if L < 120 then 1 else 0) ∧ I' = (if L < 120 then mv_up (mv_up I (z + 1) L v) z 1 (nI (L + 1)) else I))) := mv_C.of 0 (by decide) (by simp [Value.category]) rfl (e4_append hz hl hL (fun _ _ h => mv_Pi.mk h))
/-! what can be undone, in the class -/
def ly_His (sh : mv_Sh) (R : mv_R) (p pl : Nat) : Prop := sh p = (0, 3) ∧ R p 0 = some (p + 1) ∧ sh (p + 1) = (9, 12) ∧ ∀ i, i < 12 → R (p + 1) i = some (p + 2 + 15 * i) ∧ ly_Run sh R (p + 2 + 15 * i) ∧ R (p + 2 + 15 * i) 0 = some pl
theorem ly_His.o {sh : mv_Sh} {R : mv_R} {p pl : Nat} (h : ly_His sh R p pl) : sh p = (0, 3) := h.1
def gc_H (I : mv_I) (p nt uh : Nat) (us : Nat → xs_X) : Prop := I p 1 = nI uh ∧ ∃ nw, nw < 12 ∧ I p 2 = nI nw ∧ ∀ i, i < uh → rc_R I (p + 2 + 15 * ((nw + 12 - i) % 12)) nt (us i)
def gh_Fr (p : Nat) (I I' : mv_I) : Prop := ∀ b, (b < p ∨ p + 182 ≤ b) → I' b = I b
set_option maxHeartbeats 4000000 in
set_option maxRecDepth 100000 in
theorem e0_remember {l : Launch} {D : va_G} {b0 n : Nat} {sh : mv_Sh} {I : mv_I} {R : mv_R} {Q : mv_Q} {p q pl nt uh : Nat} {x : xs_X} {us : Nat → xs_X} (hh : ly_His sh R p pl) (hq : ly_Run sh R q) (hqp : R q 0 = some pl) (hpq : q + 15 ≤ p ∨ p + 182 ≤ q) (h : gc_H I p nt uh us) (hx : rc_R I q nt x) (hn : nt ≤ 8) (huh : uh ≤ 12) (hQ : ∀ I', (gc_H I' p nt (if uh < 12 then uh + 1 else 12) (ab_pu us x) ∧ gh_Fr p I I') → Q none n sh I' R) : mv_E l D b0 m0_remember (mv_rm 2) Q 0 [.ref p, .ref q] [] 0 0 n sh I R := by
  obtain ⟨h1, nw, nw1, nw2, nw3⟩ := id h
  have mid : ∀ (v : Int32), v = nI ((nw + 1) % 12) → mv_E l D b0 m0_remember (mv_rm 2) Q 22 [.ref p, .ref q] [.int v, .ref p] 0 0 n sh I R := by
    intro v hv
    subst hv
    have hm12 : (nw + 1) % 12 < 12 := by omega
    have hm := hm12
    generalize hmm : (nw + 1) % 12 = mm at hm ⊢
    obtain ⟨r1, r2, r3⟩ := hh.2.2.2 mm hm
    refine mv_putI (pc := 22) dX0_remember_22 fl0_21 rfl rfl (congrArg Prod.fst hh.o) ?_
    refine mv_aload_n (pc := 25) dX0_remember_25 rfl ?_
    refine mv_getR (pc := 26) (q := (p + 1)) dX0_remember_26 fl0_11 (fun _ _ => rfl) (congrArg Prod.fst hh.o) hh.2.1 ?_
    refine mv_aload_n (pc := 29) dX0_remember_29 rfl ?_
    refine mv_getIx (pc := 30) (x := nI mm) dX0_remember_30 fl0_21 rfl (congrArg Prod.fst hh.o) mv_upe ?_
    refine mv_aald (pc := 33) (k := mm) (q := (p + 2 + 15 * mm)) dX0_remember_33 hh.2.2.1 rfl (by omega) r1 ?_
    refine mv_aload_n (pc := 34) dX0_remember_34 rfl ?_
    refine mv_cVv (pc := 35) dX0_remember_35 lk0_27 (congrArg Prod.fst r2.o) (c3_copyFromS r2 hq (by omega) hqp r3) rfl rfl (Nat.le_of_ble_eq_true rfl) (by decide) (by decide) (fun J ⟨hc, hf⟩ => ?_)
    refine mv_aload_n (pc := 38) dX0_remember_38 rfl ?_
    refine mv_aload_n (pc := 39) dX0_remember_39 rfl ?_
    refine mv_getIx (pc := 40) (x := nI uh) dX0_remember_40 fl0_17 rfl (congrArg Prod.fst hh.o) (by rw [hf p (by omega), show mv_up I p 2 (nI mm) p 1 = I p 1 by simp [mv_up]]; exact h1) ?_
    refine mv_iconst (pc := 43) (v := 1) dX0_remember_43 (by decide) ?_
    refine mv_iadd (pc := 44) dX0_remember_44 ?_
    refine mv_bipush (pc := 45) (v := 12) dX0_remember_45 (by decide) ?_
    refine mv_mmin (pc := 47) dX0_remember_47 lkm0_31 wm_smin wm_i wm_cmin (Nat.le_of_ble_eq_true rfl) ⟨by decide, by decide⟩ (by decide) (by decide) ?_
    have emin : (if (12 : Int32) < nI uh + 1 then 12 else nI uh + 1) = nI (if uh < 12 then uh + 1 else 12) := by
      rw [nI_1]
      by_cases q : uh < 12
      · rw [if_pos q, if_neg (show ¬ (12 : Int32) < nI (uh + 1) from nI_nlt (a := 12) (b := uh + 1) (by omega) (by decide))]
      · rw [if_neg q, if_pos (show (12 : Int32) < nI (uh + 1) from nI_lt (a := 12) (b := uh + 1) (by omega) (by omega))]; rfl
    refine mv_top (y := nI (if uh < 12 then uh + 1 else 12)) emin ?_
    refine mv_putI (pc := 50) dX0_remember_50 fl0_17 rfl rfl (congrArg Prod.fst hh.o) ?_
    refine mv_vret (pc := 53) dX0_remember_53 rfl (by decide) (by decide) (hQ _ ⟨⟨mv_upe, mm, hm, ?_, fun i hi => ?_⟩, fun b hb => ?_⟩)
    · rw [show ∀ (Z : mv_I) (a : Int32), mv_up Z p 1 a p 2 = Z p 2 from fun Z a => by simp [mv_up], hf p (by omega), mv_upe]
    · by_cases q0 : i = 0
      · subst q0
        have e : (mm + 12 - 0) % 12 = mm := by omega
        rw [e]
        have hx2 : rc_R (mv_up I p 2 (nI mm)) q nt x := hx.eq (fun b b1 b2 => mv_upN b (by omega))
        exact (hx2.cp hn hc).eq (fun b b1 b2 => mv_upN b (by omega))
      · have hi12 : i < 12 ∧ i - 1 < uh := by
          by_cases q2 : uh < 12
          · rw [if_pos q2] at hi; omega
          · rw [if_neg q2] at hi; omega
        have e : (mm + 12 - i) % 12 = (nw + 12 - (i - 1)) % 12 := by omega
        have en : (nw + 12 - (i - 1)) % 12 ≠ mm := by omega
        rw [e]
        show rc_R _ _ _ (if i = 0 then x else us (i - 1))
        rw [if_neg q0]
        refine (nw3 (i - 1) hi12.2).eq (fun b b1 b2 => ?_)
        rw [mv_upN b (by omega), hf b (by omega), mv_upN b (by omega)]
    · rw [mv_upN b (by omega), hf b (by omega), mv_upN b (by omega)]
  refine mv_aload_n (pc := 0) dX0_remember_0 rfl ?_
  refine mv_aload_n (pc := 1) dX0_remember_1 rfl ?_
  refine mv_getIx (pc := 2) (x := nI nw) dX0_remember_2 fl0_21 rfl (congrArg Prod.fst hh.o) nw2 ?_
  refine mv_iconst (pc := 5) (v := 1) dX0_remember_5 (by decide) ?_
  refine mv_iadd (pc := 6) dX0_remember_6 ?_
  refine mv_top (nI_1 nw) ?_
  refine mv_bipush (pc := 7) (v := 12) dX0_remember_7 (by decide) ?_
  refine mv_icmp_ge (pc := 9) (tgt := 21) dX0_remember_9 (by decide) (fun hb => ?_) (fun hb => ?_)
  · have : nw = 11 := by
      have := (nI_leI (a := 12) (b := nw + 1) (by decide) (by omega)).mp hb
      omega
    refine mv_iconst (pc := 21) (v := 0) dX0_remember_21 (by decide) ?_
    refine mid 0 ?_
    rw [this]; rfl
  · refine mv_aload_n (pc := 12) dX0_remember_12 rfl ?_
    refine mv_getIx (pc := 13) (x := nI nw) dX0_remember_13 fl0_21 rfl (congrArg Prod.fst hh.o) nw2 ?_
    refine mv_iconst (pc := 16) (v := 1) dX0_remember_16 (by decide) ?_
    refine mv_iadd (pc := 17) dX0_remember_17 ?_
    refine mv_goto (pc := 18) (tgt := 22) dX0_remember_18 (by decide) ?_
    refine mid _ ?_
    have : nw + 1 < 12 := Nat.lt_of_not_le fun q => hb (nI_le q (by omega))
    rw [nI_1, Nat.mod_eq_of_lt this]
theorem c0_remember {l : Launch} {D : va_G} {b0 n : Nat} {sh : mv_Sh} {I : mv_I} {R : mv_R} {p q pl nt uh : Nat} {x : xs_X} {us : Nat → xs_X} (hh : ly_His sh R p pl) (hq : ly_Run sh R q) (hqp : R q 0 = some pl) (hpq : q + 15 ≤ p ∨ p + 182 ≤ q) (h : gc_H I p nt uh us) (hx : rc_R I q nt x) (hn : nt ≤ 8) (huh : uh ≤ 12) : mv_C l D b0 m0_remember (mv_rm 2) [.ref p, .ref q] n sh I R (mv_Pv n sh R (fun I' => gc_H I' p nt (if uh < 12 then uh + 1 else 12) (ab_pu us x) ∧ gh_Fr p I I')) := mv_C.of 0 (by decide) (by simp [Value.category]) rfl (e0_remember hh hq hqp hpq h hx hn huh (fun _ h => mv_Pv.mk h))
set_option maxHeartbeats 4000000 in
set_option maxRecDepth 100000 in
theorem e0_restore {l : Launch} {D : va_G} {b0 n : Nat} {sh : mv_Sh} {I : mv_I} {R : mv_R} {Q : mv_Q} {p q pl nt uh : Nat} {us : Nat → xs_X} (hh : ly_His sh R p pl) (hq : ly_Run sh R q) (hqp : R q 0 = some pl) (hpq : q + 15 ≤ p ∨ p + 182 ≤ q) (h : gc_H I p nt uh us) (hn : nt ≤ 8) (huh : uh ≤ 12) (hQ : ∀ r I', (r = (if uh = 0 then 0 else 1) ∧ (uh = 0 → I' = I) ∧ (uh ≠ 0 → gc_H I' p nt (uh - 1) (fun i => us (i + 1)) ∧ rc_R I' q nt (us 0) ∧ ∀ b, b ≠ p → (b < q ∨ q + 15 ≤ b) → I' b = I b)) → Q (some (.int r)) n sh I' R) : mv_E l D b0 m0_restore (mv_rm 2) Q 0 [.ref p, .ref q] [] 0 0 n sh I R := by
  obtain ⟨h1, nw, nw1, nw2, nw3⟩ := id h
  refine mv_aload_n (pc := 0) dX0_restore_0 rfl ?_
  refine mv_getIx (pc := 1) (x := nI uh) dX0_restore_1 fl0_17 rfl (congrArg Prod.fst hh.o) h1 ?_
  refine mv_if_ne (pc := 4) (tgt := 9) dX0_restore_4 (by decide) (fun hb => ?_) (fun hb => ?_)
  · have h0 : uh ≠ 0 := fun q => hb (by rw [q]; rfl)
    obtain ⟨r1, r2, r3⟩ := hh.2.2.2 nw nw1
    refine mv_aload_n (pc := 9) dX0_restore_9 rfl ?_
    refine mv_aload_n (pc := 10) dX0_restore_10 rfl ?_
    refine mv_getR (pc := 11) (q := (p + 1)) dX0_restore_11 fl0_11 (fun _ _ => rfl) (congrArg Prod.fst hh.o) hh.2.1 ?_
    refine mv_aload_n (pc := 14) dX0_restore_14 rfl ?_
    refine mv_getIx (pc := 15) (x := nI nw) dX0_restore_15 fl0_21 rfl (congrArg Prod.fst hh.o) nw2 ?_
    refine mv_aald (pc := 18) (k := nw) (q := (p + 2 + 15 * nw)) dX0_restore_18 hh.2.2.1 rfl (by omega) r1 ?_
    refine mv_cVv (pc := 19) dX0_restore_19 lk0_27 (congrArg Prod.fst hq.o) (c3_copyFromS hq r2 (by omega) r3 hqp) rfl rfl (Nat.le_of_ble_eq_true rfl) (by decide) (by decide) (fun J ⟨hc, hf⟩ => ?_)
    have ep : J p = I p := hf p (by omega)
    have fin : ∀ v : Int32, v = nI ((nw + 11) % 12) → mv_E l D b0 m0_restore (mv_rm 2) Q 41 [.ref p, .ref q] [.int v, .ref p] 0 0 n sh J R := by
      intro v hv
      subst hv
      refine mv_putI (pc := 41) dX0_restore_41 fl0_21 rfl rfl (congrArg Prod.fst hh.o) ?_
      refine mv_aload_n (pc := 44) dX0_restore_44 rfl ?_
      refine mv_dup (pc := 45) dX0_restore_45 rfl ?_
      refine mv_getIx (pc := 46) (x := nI uh) dX0_restore_46 fl0_17 rfl (congrArg Prod.fst hh.o) (by rw [show mv_up J p 2 (nI ((nw + 11) % 12)) p 1 = J p 1 by simp [mv_up], ep]; exact h1) ?_
      refine mv_iconst (pc := 49) (v := 1) dX0_restore_49 (by decide) ?_
      refine mv_isub (pc := 50) dX0_restore_50 ?_
      have e2 : nI uh - 1 = nI (uh - 1) := by
        obtain ⟨k, rfl⟩ : ∃ k, uh = k + 1 := ⟨uh - 1, by omega⟩
        exact nI_pred k
      refine mv_top (y := nI (uh - 1)) e2 ?_
      refine mv_putI (pc := 51) dX0_restore_51 fl0_17 rfl rfl (congrArg Prod.fst hh.o) ?_
      refine mv_iconst (pc := 54) (v := 1) dX0_restore_54 (by decide) ?_
      refine mv_zret (pc := 55) dX0_restore_55 rfl (by rfl) (by decide) (by decide) (hQ _ _ ⟨by rw [if_neg h0], fun q => absurd q h0, fun _ => ⟨⟨mv_upe, (nw + 11) % 12, by omega, ?_, fun i hi => ?_⟩, ?_, fun b b1 b2 => ?_⟩⟩)
      · rw [show ∀ (Z : mv_I) (a : Int32), mv_up Z p 1 a p 2 = Z p 2 from fun Z a => by simp [mv_up], mv_upe]
      · have e : ((nw + 11) % 12 + 12 - i) % 12 = (nw + 12 - (i + 1)) % 12 := by omega
        rw [e]
        refine (nw3 (i + 1) (by omega)).eq (fun b b1 b2 => ?_)
        rw [mv_upN b (by omega), mv_upN b (by omega), hf b (by omega)]
      · have := nw3 0 (by omega)
        have e : (nw + 12 - 0) % 12 = nw := by omega
        rw [e] at this
        exact (this.cp hn hc).eq (fun b b1 b2 => by rw [mv_upN b (by omega), mv_upN b (by omega)])
      · rw [mv_upN b b1, mv_upN b b1, hf b b2]
    refine mv_aload_n (pc := 22) dX0_restore_22 rfl ?_
    refine mv_aload_n (pc := 23) dX0_restore_23 rfl ?_
    refine mv_getIx (pc := 24) (x := nI nw) dX0_restore_24 fl0_21 rfl (congrArg Prod.fst hh.o) (by rw [ep]; exact nw2) ?_
    refine mv_if_le (pc := 27) (tgt := 39) dX0_restore_27 (by decide) (fun hb2 => ?_) (fun hb2 => ?_)
    · have : nw = 0 := by
        rcases Nat.eq_zero_or_pos nw with q | q
        · exact q
        · exact absurd hb2 (nI_nle q (by omega))
      refine mv_bipush (pc := 39) (v := 11) dX0_restore_39 (by decide) ?_
      refine fin _ ?_
      rw [this]; rfl
    · have : nw ≠ 0 := fun q => hb2 (by rw [q]; decide)
      refine mv_aload_n (pc := 30) dX0_restore_30 rfl ?_
      refine mv_getIx (pc := 31) (x := nI nw) dX0_restore_31 fl0_21 rfl (congrArg Prod.fst hh.o) (by rw [ep]; exact nw2) ?_
      refine mv_iconst (pc := 34) (v := 1) dX0_restore_34 (by decide) ?_
      refine mv_isub (pc := 35) dX0_restore_35 ?_
      refine mv_goto (pc := 36) (tgt := 41) dX0_restore_36 (by decide) ?_
      refine fin _ ?_
      obtain ⟨k, rfl⟩ : ∃ k, nw = k + 1 := ⟨nw - 1, by omega⟩
      rw [nI_pred, show (k + 1 + 11) % 12 = k by omega]
  · have h0 : uh = 0 := (nI_eq (b := 0) (by omega) (by decide)).mp hb
    refine mv_iconst (pc := 7) (v := 0) dX0_restore_7 (by decide) ?_
    exact mv_zret (pc := 8) dX0_restore_8 rfl (by rfl) (by decide) (by decide) (hQ _ _ ⟨by rw [if_pos h0], fun _ => rfl, fun q => absurd h0 q⟩)
theorem c0_restore {l : Launch} {D : va_G} {b0 n : Nat} {sh : mv_Sh} {I : mv_I} {R : mv_R} {p q pl nt uh : Nat} {us : Nat → xs_X} (hh : ly_His sh R p pl) (hq : ly_Run sh R q) (hqp : R q 0 = some pl) (hpq : q + 15 ≤ p ∨ p + 182 ≤ q) (h : gc_H I p nt uh us) (hn : nt ≤ 8) (huh : uh ≤ 12) : mv_C l D b0 m0_restore (mv_rm 2) [.ref p, .ref q] n sh I R (mv_Pi n sh R (fun r I' => r = (if uh = 0 then 0 else 1) ∧ (uh = 0 → I' = I) ∧ (uh ≠ 0 → gc_H I' p nt (uh - 1) (fun i => us (i + 1)) ∧ rc_R I' q nt (us 0) ∧ ∀ b, b ≠ p → (b < q ∨ q + 15 ≤ b) → I' b = I b))) := mv_C.of 0 (by decide) (by simp [Value.category]) rfl (e0_restore hh hq hqp hpq h hn huh (fun _ _ h => mv_Pi.mk h))

