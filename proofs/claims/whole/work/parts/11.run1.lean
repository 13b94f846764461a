theorem nI_mul (a b : Nat) : nI a * nI b = nI (a * b) := (Int32.ofNat_mul a b).symm
theorem mv_ix (a b c : Nat) : nI a * nI b + nI c = nI (b * a + c) := by rw [nI_mul, nI_add, Nat.mul_comm]
def rc_P (sh : mv_Sh) (R : mv_R) (I : mv_I) (p q nt : Nat) (π : xs_X) : Prop := ly_Run sh R p ∧ ly_Plan sh R q ∧ R p 0 = some q ∧ (q + 9 ≤ p ∨ p + 15 ≤ q) ∧ pl_C I q nt π ∧ pl_W nt π
theorem pl_C.eq {I I' : mv_I} {q n : Nat} {π : xs_X} (h : pl_C I q n π) (e : ∀ b, q ≤ b → b < q + 9 → I' b = I b) : pl_C I' q n π := by
  refine ⟨by rw [e q (by omega) (by omega)]; exact h.1, fun t ht => ?_⟩
  rw [e (q + 1) (by omega) (by omega), e (q + 2) (by omega) (by omega), e (q + 3) (by omega) (by omega), e (q + 4) (by omega) (by omega), e (q + 5) (by omega) (by omega), e (q + 6) (by omega) (by omega), e (q + 7) (by omega) (by omega), e (q + 8) (by omega) (by omega)]
  exact h.2 t ht
theorem rc_P.fr {sh : mv_Sh} {R : mv_R} {I I' : mv_I} {p q nt : Nat} {π : xs_X} (h : rc_P sh R I p q nt π) (f : rc_Fr p I I') : rc_P sh R I' p q nt π := by
  obtain ⟨h1, h2, h3, h4, h5, h6⟩ := h
  exact ⟨h1, h2, h3, h4, h5.eq (fun b b1 b2 => f b (by omega)), h6⟩
theorem pl_W.par {n : Nat} {π : xs_X} (h : pl_W n π) {c t : Nat} (hc : c < n) (h0 : 0 < c) (e : π c 0 = nI t) (ht : t < 2 ^ 31) : t < c := by
  obtain ⟨u, hu, hu2⟩ := (h.2.2.2 c hc).1 h0
  have := h.2.1
  have := (nI_eq ht (by omega)).mp (e.symm.trans hu2)
  omega
set_option maxHeartbeats 4000000 in
set_option maxRecDepth 100000 in
theorem e3_note {l : Launch} {D : va_G} {b0 n : Nat} {sh : mv_Sh} {I : mv_I} {R : mv_R} {Q : mv_Q} {p nt t e : Nat} {x : xs_X} {w : Int32} (hp : ly_Run sh R p) (h : rc_R I p nt x) (hn : nt ≤ 8) (he : x 8 1 = nI e) (he6 : e ≤ 60) (hQ : ∀ I', (rc_R I' p nt (xs_tr x t w) ∧ rc_Fr p I I') → Q none n sh I' R) : mv_E l D b0 m3_note (mv_rm 0) Q 0 [.ref p, .int (nI t), .int w] [] 0 0 n sh I R := by
  have h13 : I p 13 = nI e := h.1.2.trans he
  have h1 : I p 1 = x 8 0 := h.1.1
  refine mv_aload_n (pc := 0) dX3_note_0 rfl ?_
  refine mv_getIx (pc := 1) (x := nI e) dX3_note_1 fl3_49 rfl (congrArg Prod.fst hp.o) h13 ?_
  refine mv_bipush (pc := 4) (v := 60) dX3_note_4 (by decide) ?_
  refine mv_icmp_ge (pc := 6) (tgt := 52) dX3_note_6 (by decide) (fun hc => ?_) (fun hc => ?_)
  · have hee : ¬ e < 60 := fun q => nI_ge q (by decide) hc
    refine mv_vret (pc := 52) dX3_note_52 rfl (by decide) (by decide) (hQ I ⟨?_, rc_Fr.rf⟩)
    have : xs_tr x t w = x := by
      unfold xs_tr
      rw [he, if_neg (show ¬ nI e < (60 : Int32) from nI_nlt (b := 60) (by omega) (by omega))]
    rw [this]; exact h
  · have hee : e < 60 := by
      rcases Nat.lt_or_ge e 60 with q | q
      · exact q
      · exact absurd (nI_le q (by omega)) hc
    refine mv_aload_n (pc := 9) dX3_note_9 rfl ?_
    refine mv_getR (pc := 10) (q := p + 12) dX3_note_10 fl3_52 (fun _ _ => rfl) (congrArg Prod.fst hp.o) hp.f14 ?_
    refine mv_aload_n (pc := 13) dX3_note_13 rfl ?_
    refine mv_getIx (pc := 14) (x := nI e) dX3_note_14 fl3_49 rfl (congrArg Prod.fst hp.o) h13 ?_
    refine mv_aload_n (pc := 17) dX3_note_17 rfl ?_
    refine mv_getIx (pc := 18) (x := x 8 0) dX3_note_18 fl3_9 rfl (congrArg Prod.fst hp.o) h1 ?_
    refine mv_iast (pc := 21) (k := e) dX3_note_21 hp.g14 rfl (by omega) ?_
    refine mv_aload_n (pc := 22) dX3_note_22 rfl ?_
    refine mv_getR (pc := 23) (q := p + 13) dX3_note_23 fl3_55 (fun _ _ => rfl) (congrArg Prod.fst hp.o) hp.f15 ?_
    refine mv_aload_n (pc := 26) dX3_note_26 rfl ?_
    refine mv_getIx (pc := 27) (x := nI e) dX3_note_27 fl3_49 rfl (congrArg Prod.fst hp.o) (by simp [mv_up, h13]) ?_
    refine mv_iload_n (pc := 30) dX3_note_30 rfl ?_
    refine mv_iast (pc := 31) (k := e) dX3_note_31 hp.g15 rfl (by omega) ?_
    refine mv_aload_n (pc := 32) dX3_note_32 rfl ?_
    refine mv_getR (pc := 33) (q := p + 14) dX3_note_33 fl3_58 (fun _ _ => rfl) (congrArg Prod.fst hp.o) hp.f16 ?_
    refine mv_aload_n (pc := 36) dX3_note_36 rfl ?_
    refine mv_getIx (pc := 37) (x := nI e) dX3_note_37 fl3_49 rfl (congrArg Prod.fst hp.o) (by simp [mv_up, h13]) ?_
    refine mv_iload_n (pc := 40) dX3_note_40 rfl ?_
    refine mv_iast (pc := 41) (k := e) dX3_note_41 hp.g16 rfl (by omega) ?_
    refine mv_aload_n (pc := 42) dX3_note_42 rfl ?_
    refine mv_dup (pc := 43) dX3_note_43 rfl ?_
    refine mv_getIx (pc := 44) (x := nI e) dX3_note_44 fl3_49 rfl (congrArg Prod.fst hp.o) (by simp [mv_up, h13]) ?_
    refine mv_iconst (pc := 47) (v := 1) dX3_note_47 (by decide) ?_
    refine mv_iadd (pc := 48) dX3_note_48 ?_
    refine mv_putI (pc := 49) dX3_note_49 fl3_49 rfl rfl (congrArg Prod.fst hp.o) ?_
    exact mv_vret (pc := 52) dX3_note_52 rfl (by decide) (by decide) (hQ _ ⟨rc_tr h he hee hn, (((rc_Fr.rf.up (by omega)).up (by omega)).up (by omega)).up (by omega)⟩)
theorem c3_note {l : Launch} {D : va_G} {b0 n : Nat} {sh : mv_Sh} {I : mv_I} {R : mv_R} {p nt t e : Nat} {x : xs_X} {w : Int32} (hp : ly_Run sh R p) (h : rc_R I p nt x) (hn : nt ≤ 8) (he : x 8 1 = nI e) (he6 : e ≤ 60) : mv_C l D b0 m3_note (mv_rm 0) [.ref p, .int (nI t), .int w] n sh I R (mv_Pv n sh R (fun I' => rc_R I' p nt (xs_tr x t w) ∧ rc_Fr p I I')) := mv_C.of 0 (by decide) (by simp [Value.category]) rfl (e3_note hp h hn he he6 (fun _ h => mv_Pv.mk h))
set_option maxHeartbeats 4000000 in
set_option maxRecDepth 100000 in
theorem e3_addCode {l : Launch} {D : va_G} {b0 n : Nat} {sh : mv_Sh} {I : mv_I} {R : mv_R} {Q : mv_Q} {p nt t c : Nat} {x : xs_X} {w : Int32} (hp : ly_Run sh R p) (h : rc_R I p nt x) (hn : nt ≤ 8) (ht : t < nt) (hc : x t 9 = nI c) (hc8 : c ≤ 8) (hQ : ∀ I', (rc_R I' p nt (xs_cd x t w) ∧ rc_Fr p I I') → Q none n sh I' R) : mv_E l D b0 m3_addCode (mv_rm 0) Q 0 [.ref p, .int (nI t), .int w] [] 0 0 n sh I R := by
  have h10 : I (p + 10) t = nI c := ((h.2.1 t ht).1 9 (by decide)).trans hc
  refine mv_aload_n (pc := 0) dX3_addCode_0 rfl ?_
  refine mv_getR (pc := 1) (q := p + 10) dX3_addCode_1 fl3_43 (fun _ _ => rfl) (congrArg Prod.fst hp.o) hp.f11 ?_
  refine mv_iload_n (pc := 4) dX3_addCode_4 rfl ?_
  refine mv_ialdx (pc := 5) (x := nI c) (k := t) dX3_addCode_5 hp.g11 rfl (by omega) h10 ?_
  refine mv_bipush (pc := 6) (v := 8) dX3_addCode_6 (by decide) ?_
  refine mv_icmp_ge (pc := 8) (tgt := 38) dX3_addCode_8 (by decide) (fun hb => ?_) (fun hb => ?_)
  · have hee : ¬ c < 8 := fun q => nI_ge q (by decide) hb
    refine mv_vret (pc := 38) dX3_addCode_38 rfl (by decide) (by decide) (hQ I ⟨?_, rc_Fr.rf⟩)
    have : xs_cd x t w = x := by
      unfold xs_cd
      rw [hc, if_neg (show ¬ nI c < (8 : Int32) from nI_nlt (b := 8) (by omega) (by omega))]
    rw [this]; exact h
  · have hee : c < 8 := by
      rcases Nat.lt_or_ge c 8 with q | q
      · exact q
      · exact absurd (nI_le q (by omega)) hb
    refine mv_aload_n (pc := 11) dX3_addCode_11 rfl ?_
    refine mv_getR (pc := 12) (q := p + 11) dX3_addCode_12 fl3_46 (fun _ _ => rfl) (congrArg Prod.fst hp.o) hp.f12 ?_
    refine mv_iload_n (pc := 15) dX3_addCode_15 rfl ?_
    refine mv_bipush (pc := 16) (v := 8) dX3_addCode_16 (by decide) ?_
    refine mv_imul (pc := 18) dX3_addCode_18 ?_
    refine mv_aload_n (pc := 19) dX3_addCode_19 rfl ?_
    refine mv_getR (pc := 20) (q := p + 10) dX3_addCode_20 fl3_43 (fun _ _ => rfl) (congrArg Prod.fst hp.o) hp.f11 ?_
    refine mv_iload_n (pc := 23) dX3_addCode_23 rfl ?_
    refine mv_ialdx (pc := 24) (x := nI c) (k := t) dX3_addCode_24 hp.g11 rfl (by omega) h10 ?_
    refine mv_iadd (pc := 25) dX3_addCode_25 ?_
    refine mv_iload_n (pc := 26) dX3_addCode_26 rfl ?_
    refine mv_iast (pc := 27) (k := 8 * t + c) dX3_addCode_27 hp.g12 (mv_ix t 8 c) (by omega) ?_
    refine mv_aload_n (pc := 28) dX3_addCode_28 rfl ?_
    refine mv_getR (pc := 29) (q := p + 10) dX3_addCode_29 fl3_43 (fun _ _ => rfl) (congrArg Prod.fst hp.o) hp.f11 ?_
    refine mv_iload_n (pc := 32) dX3_addCode_32 rfl ?_
    refine mv_dup2 (pc := 33) dX3_addCode_33 rfl rfl ?_
    refine mv_ialdx (pc := 34) (x := nI c) (k := t) dX3_addCode_34 hp.g11 rfl (by omega) (by simp [mv_up, h10]) ?_
    refine mv_iconst (pc := 35) (v := 1) dX3_addCode_35 (by decide) ?_
    refine mv_iadd (pc := 36) dX3_addCode_36 ?_
    refine mv_iast (pc := 37) (k := t) dX3_addCode_37 hp.g11 rfl (by omega) ?_
    exact mv_vret (pc := 38) dX3_addCode_38 rfl (by decide) (by decide) (hQ _ ⟨rc_cd h hc hee ht hn, (rc_Fr.rf.up (by omega)).up (by omega)⟩)
theorem c3_addCode {l : Launch} {D : va_G} {b0 n : Nat} {sh : mv_Sh} {I : mv_I} {R : mv_R} {p nt t c : Nat} {x : xs_X} {w : Int32} (hp : ly_Run sh R p) (h : rc_R I p nt x) (hn : nt ≤ 8) (ht : t < nt) (hc : x t 9 = nI c) (hc8 : c ≤ 8) : mv_C l D b0 m3_addCode (mv_rm 0) [.ref p, .int (nI t), .int w] n sh I R (mv_Pv n sh R (fun I' => rc_R I' p nt (xs_cd x t w) ∧ rc_Fr p I I')) := mv_C.of 0 (by decide) (by simp [Value.category]) rfl (e3_addCode hp h hn ht hc hc8 (fun _ h => mv_Pv.mk h))
theorem xs_ask_lo {nt t c : Nat} {π x : xs_X} (hw : pl_W nt π) (hc : c ≤ t + 1) (hn : c ≤ nt) (ht : t < 2 ^ 31) : xs_ask c π x t = x := by
  funext u k
  unfold xs_ask
  rw [if_neg]
  rintro ⟨-, h1, h2, h3, -⟩
  have := hw.par (by omega) h1 h3 ht
  omega
theorem xs_ask_yes {t c : Nat} {π x : xs_X} (h1 : 1 ≤ c) (h2 : π c 0 = nI t) (h3 : x c 0 = 1) : xs_ask (c + 1) π x t = mv_up (xs_ask c π x t) c 5 1 := by
  funext u k
  unfold xs_ask mv_up
  by_cases hu : u = c
  · subst hu
    by_cases hk : k = 5
    · subst hk; simp [h1, h2, h3]
    · simp [hk]
  · have : (u < c + 1) = (u < c) := by simp; omega
    simp [hu, this]
theorem xs_ask_no {t c : Nat} {π x : xs_X} (h : ¬ (π c 0 = nI t ∧ x c 0 = 1)) : xs_ask (c + 1) π x t = xs_ask c π x t := by
  funext u k
  unfold xs_ask
  by_cases hu : u = c
  · subst hu
    have : ¬ (k = 5 ∧ 1 ≤ u ∧ u < u + 1 ∧ π u 0 = nI t ∧ x u 0 = 1) := fun q => h q.2.2.2
    have h2 : ¬ (k = 5 ∧ 1 ≤ u ∧ u < u ∧ π u 0 = nI t ∧ x u 0 = 1) := fun q => h q.2.2.2
    rw [if_neg this, if_neg h2]
  · have : (u < c + 1) = (u < c) := by simp; omega
    simp only [this]
set_option maxHeartbeats 4000000 in
set_option maxRecDepth 100000 in
theorem e3_askChildren {l : Launch} {D : va_G} {b0 n : Nat} {sh : mv_Sh} {I : mv_I} {R : mv_R} {Q : mv_Q} {p q nt t : Nat} {π x : xs_X} (K : rc_P sh R I p q nt π) (h : rc_R I p nt x) (ht : t < nt) (hQ : ∀ I', (rc_R I' p nt (xs_ask nt π x t) ∧ rc_Fr p I I') → Q none n sh I' R) : mv_E l D b0 m3_askChildren (mv_rm 0) Q 0 [.ref p, .int (nI t), .null] [] 0 0 n sh I R := by
  obtain ⟨hp, hq, hpl, hdj, hpc, hpw⟩ := id K
  have hn := hpw.2.1
  have loop : ∀ (f c : Nat) (J : mv_I), nt < c + f → t < c → c ≤ nt → rc_R J p nt (xs_ask c π x t) → rc_Fr p I J → mv_E l D b0 m3_askChildren (mv_rm 0) Q 4 [.ref p, .int (nI t), .int (nI c)] [] 0 0 n sh J R := by
    intro f
    induction f with
    | zero => intro c J h1 h2 h3; omega
    | succ f ih =>
      intro c J h1 h2 h3 hr hf
      have hpc' := (K.fr hf).2.2.2.2.1
      refine mv_iload_n (pc := 4) dX3_askChildren_4 rfl ?_
      refine mv_aload_n (pc := 5) dX3_askChildren_5 rfl ?_
      refine mv_getR (pc := 6) (q := q) dX3_askChildren_6 fl3_65 (fun _ _ => rfl) (congrArg Prod.fst hp.o) hpl ?_
      refine mv_getIx (pc := 9) (x := nI nt) dX3_askChildren_9 fl3_83 rfl (congrArg Prod.fst hq.o) hpc'.1 ?_
      refine mv_icmp_ge (pc := 12) (tgt := 51) dX3_askChildren_12 (by decide) (fun hb => ?_) (fun hb => ?_)
      · have : c = nt := by
          have := (nI_leI (a := nt) (b := c) (by omega) (by omega)).mp hb
          omega
        subst this
        exact mv_vret (pc := 51) dX3_askChildren_51 rfl (by decide) (by decide) (hQ _ ⟨hr, hf⟩)
      · have hcn : c < nt := by
          rcases Nat.lt_or_ge c nt with q | q
          · exact q
          · exact absurd (nI_le q (by omega)) hb
        have hnext : ∀ J2 : mv_I, rc_R J2 p nt (xs_ask (c + 1) π x t) → rc_Fr p I J2 → mv_E l D b0 m3_askChildren (mv_rm 0) Q 45 [.ref p, .int (nI t), .int (nI c)] [] 0 0 n sh J2 R := by
          intro J2 hr2 hf2
          refine mv_iinc (pc := 45) (v := nI (c + 1)) dX3_askChildren_45 (by decide) rfl (nI_1 c) ?_
          refine mv_goto (pc := 48) (tgt := 4) dX3_askChildren_48 (by decide) ?_
          exact ih (c + 1) J2 (by omega) (by omega) (by omega) hr2 hf2
        have ha : (xs_ask c π x t) c 0 = x c 0 := by simp [xs_ask]
        refine mv_aload_n (pc := 15) dX3_askChildren_15 rfl ?_
        refine mv_getR (pc := 16) (q := q) dX3_askChildren_16 fl3_65 (fun _ _ => rfl) (congrArg Prod.fst hp.o) hpl ?_
        refine mv_getR (pc := 19) (q := q + 1) dX3_askChildren_19 fl3_88 (fun _ _ => rfl) (congrArg Prod.fst hq.o) hq.f1 ?_
        refine mv_iload_n (pc := 22) dX3_askChildren_22 rfl ?_
        refine mv_ialdx (pc := 23) (x := π c 0) (k := c) dX3_askChildren_23 hq.g1 rfl (by omega) (hpc'.2 c hcn).1 ?_
        refine mv_iload_n (pc := 24) dX3_askChildren_24 rfl ?_
        refine mv_icmp_ne (pc := 25) (tgt := 45) dX3_askChildren_25 (by decide) (fun hb2 => ?_) (fun hb2 => ?_)
        · exact hnext J (by rw [xs_ask_no (fun q => hb2 q.1)]; exact hr) hf
        · refine mv_aload_n (pc := 28) dX3_askChildren_28 rfl ?_
          refine mv_getR (pc := 29) (q := p + 1) dX3_askChildren_29 fl3_15 (fun _ _ => rfl) (congrArg Prod.fst hp.o) hp.f2 ?_
          refine mv_iload_n (pc := 32) dX3_askChildren_32 rfl ?_
          refine mv_ialdx (pc := 33) (x := x c 0) (k := c) dX3_askChildren_33 hp.g2 rfl (by omega) (((hr.2.1 c hcn).1 0 (by decide)).trans ha) ?_
          refine mv_iconst (pc := 34) (v := 1) dX3_askChildren_34 (by decide) ?_
          refine mv_icmp_ne (pc := 35) (tgt := 45) dX3_askChildren_35 (by decide) (fun hb3 => ?_) (fun hb3 => ?_)
          · exact hnext J (by rw [xs_ask_no (fun q => hb3 q.2)]; exact hr) hf
          · refine mv_aload_n (pc := 38) dX3_askChildren_38 rfl ?_
            refine mv_getR (pc := 39) (q := p + 9) dX3_askChildren_39 fl3_40 (fun _ _ => rfl) (congrArg Prod.fst hp.o) hp.f10 ?_
            refine mv_iload_n (pc := 42) dX3_askChildren_42 rfl ?_
            refine mv_iconst (pc := 43) (v := 1) dX3_askChildren_43 (by decide) ?_
            refine mv_iast (pc := 44) (k := c) dX3_askChildren_44 hp.g10 rfl (by omega) ?_
            exact hnext _ (by rw [xs_ask_yes (by omega) hb2 hb3]; exact rc_set 5 hr (by decide) (by decide) hcn hn) (hf.up (by omega))
  refine mv_iload_n (pc := 0) dX3_askChildren_0 rfl ?_
  refine mv_iconst (pc := 1) (v := 1) dX3_askChildren_1 (by decide) ?_
  refine mv_iadd (pc := 2) dX3_askChildren_2 ?_
  refine mv_top (y := nI (t + 1)) (nI_1 t) ?_
  refine mv_istore_n (pc := 3) dX3_askChildren_3 (by decide) ?_
  exact loop (nt + 1) (t + 1) I (by omega) (by omega) (by omega) (by rw [xs_ask_lo hpw (by omega) (by omega) (by omega)]; exact h) rc_Fr.rf
theorem c3_askChildren {l : Launch} {D : va_G} {b0 n : Nat} {sh : mv_Sh} {I : mv_I} {R : mv_R} {p q nt t : Nat} {π x : xs_X} (K : rc_P sh R I p q nt π) (h : rc_R I p nt x) (ht : t < nt) : mv_C l D b0 m3_askChildren (mv_rm 0) [.ref p, .int (nI t)] n sh I R (mv_Pv n sh R (fun I' => rc_R I' p nt (xs_ask nt π x t) ∧ rc_Fr p I I')) := mv_C.of 1 (by decide) (by simp [Value.category]) rfl (e3_askChildren K h ht (fun _ h => mv_Pv.mk h))

