set_option maxHeartbeats 4000000 in
set_option maxRecDepth 100000 in
theorem e3_cleansUp {l : Launch} {D : va_G} {b0 n : Nat} {sh : mv_Sh} {I : mv_I} {R : mv_R} {Q : mv_Q} {p q nt t : Nat} {π x : xs_X} (K : rc_P sh R I p q nt π) (h : rc_R I p nt x) (hW : xs_W nt π x) (ht : t < nt) (hQ : ∀ r I', (r = (if xs_cc π x t t 6 = π t 4 then 1 else 0) ∧ rc_R I' p nt (xs_cc π x t) ∧ rc_Fr p I I') → Q (some (.int r)) n sh I' R) : mv_E l D b0 m3_cleansUp (mv_rm 0) Q 0 [.ref p, .int (nI t)] [] 0 0 n sh I R := by
  obtain ⟨hp, hq, hpl, hdj, hpc, hpw⟩ := id K
  have hn := hpw.2.1
  obtain ⟨c, k, hck, hk5, hc, hk⟩ := (hW.2.2.2 t ht).2.2.2.2.1
  have h8 : I (p + 8) t = x t 6 := (h.2.1 t ht).1 6 (by decide)
  have fin : ∀ (J : mv_I), rc_R J p nt (xs_cc π x t) → rc_Fr p I J → (∃ c', c' ≤ k ∧ xs_cc π x t t 6 = nI c') → mv_E l D b0 m3_cleansUp (mv_rm 0) Q 28 [.ref p, .int (nI t)] [] 0 0 n sh J R := by
    intro J hr hf ⟨c', hc'k, hc'⟩
    have hpc' := (K.fr hf).2.2.2.2.1
    refine mv_aload_n (pc := 28) dX3_cleansUp_28 rfl ?_
    refine mv_getR (pc := 29) (q := p + 8) dX3_cleansUp_29 fl3_37 (fun _ _ => rfl) (congrArg Prod.fst hp.o) hp.f9 ?_
    refine mv_iload_n (pc := 32) dX3_cleansUp_32 rfl ?_
    refine mv_ialdx (pc := 33) (x := nI c') (k := t) dX3_cleansUp_33 hp.g9 rfl (by omega) (((hr.2.1 t ht).1 6 (by decide)).trans hc') ?_
    refine mv_aload_n (pc := 34) dX3_cleansUp_34 rfl ?_
    refine mv_getR (pc := 35) (q := q) dX3_cleansUp_35 fl3_65 (fun _ _ => rfl) (congrArg Prod.fst hp.o) hpl ?_
    refine mv_getR (pc := 38) (q := q + 7) dX3_cleansUp_38 fl3_149 (fun _ _ => rfl) (congrArg Prod.fst hq.o) hq.f7 ?_
    refine mv_iload_n (pc := 41) dX3_cleansUp_41 rfl ?_
    refine mv_ialdx (pc := 42) (x := nI k) (k := t) dX3_cleansUp_42 hq.g7 rfl (by omega) ((hpc'.2 t ht).2.2.2.2.1.trans hk) ?_
    refine mv_icmp_lt (pc := 43) (tgt := 50) dX3_cleansUp_43 (by decide) (fun hb => ?_) (fun hb => ?_)
    · have := (nI_ltI (by omega) (by omega)).mp hb
      refine mv_iconst (pc := 50) (v := 0) dX3_cleansUp_50 (by decide) ?_
      exact mv_zret (pc := 51) dX3_cleansUp_51 rfl (by rfl) (by decide) (by decide) (hQ _ _ ⟨by rw [hc', hk, if_neg (by rw [nI_eq (by omega) (by omega)]; omega)], hr, hf⟩)
    · have : ¬ c' < k := fun q => hb (nI_lt q (by omega))
      have e : c' = k := by omega
      refine mv_iconst (pc := 46) (v := 1) dX3_cleansUp_46 (by decide) ?_
      refine mv_goto (pc := 47) (tgt := 51) dX3_cleansUp_47 (by decide) ?_
      exact mv_zret (pc := 51) dX3_cleansUp_51 rfl (by rfl) (by decide) (by decide) (hQ _ _ ⟨by rw [hc', hk, e, if_pos rfl], hr, hf⟩)
  refine mv_aload_n (pc := 0) dX3_cleansUp_0 rfl ?_
  refine mv_getR (pc := 1) (q := p + 8) dX3_cleansUp_1 fl3_37 (fun _ _ => rfl) (congrArg Prod.fst hp.o) hp.f9 ?_
  refine mv_iload_n (pc := 4) dX3_cleansUp_4 rfl ?_
  refine mv_ialdx (pc := 5) (x := nI c) (k := t) dX3_cleansUp_5 hp.g9 rfl (by omega) (h8.trans hc) ?_
  refine mv_aload_n (pc := 6) dX3_cleansUp_6 rfl ?_
  refine mv_getR (pc := 7) (q := q) dX3_cleansUp_7 fl3_65 (fun _ _ => rfl) (congrArg Prod.fst hp.o) hpl ?_
  refine mv_getR (pc := 10) (q := q + 7) dX3_cleansUp_10 fl3_149 (fun _ _ => rfl) (congrArg Prod.fst hq.o) hq.f7 ?_
  refine mv_iload_n (pc := 13) dX3_cleansUp_13 rfl ?_
  refine mv_ialdx (pc := 14) (x := nI k) (k := t) dX3_cleansUp_14 hq.g7 rfl (by omega) ((hpc.2 t ht).2.2.2.2.1.trans hk) ?_
  refine mv_icmp_ge (pc := 15) (tgt := 28) dX3_cleansUp_15 (by decide) (fun hb => ?_) (fun hb => ?_)
  · have : ¬ c < k := fun q => nI_ge q (by omega) hb
    have e : xs_cc π x t = x := by
      unfold xs_cc
      rw [hc, hk, if_neg (nI_nlt (by omega) (by omega))]
    exact fin I (by rw [e]; exact h) rc_Fr.rf ⟨c, hck, by rw [e]; exact hc⟩
  · have hlt : c < k := by
      rcases Nat.lt_or_ge c k with q | q
      · exact q
      · exact absurd (nI_le q (by omega)) hb
    have e : xs_cc π x t = mv_up x t 6 (nI c + 1) := by
      unfold xs_cc
      rw [hc, hk, if_pos (nI_lt hlt (by omega))]
    refine mv_aload_n (pc := 18) dX3_cleansUp_18 rfl ?_
    refine mv_getR (pc := 19) (q := p + 8) dX3_cleansUp_19 fl3_37 (fun _ _ => rfl) (congrArg Prod.fst hp.o) hp.f9 ?_
    refine mv_iload_n (pc := 22) dX3_cleansUp_22 rfl ?_
    refine mv_dup2 (pc := 23) dX3_cleansUp_23 rfl rfl ?_
    refine mv_ialdx (pc := 24) (x := nI c) (k := t) dX3_cleansUp_24 hp.g9 rfl (by omega) (h8.trans hc) ?_
    refine mv_iconst (pc := 25) (v := 1) dX3_cleansUp_25 (by decide) ?_
    refine mv_iadd (pc := 26) dX3_cleansUp_26 ?_
    refine mv_iast (pc := 27) (k := t) dX3_cleansUp_27 hp.g9 rfl (by omega) ?_
    refine fin _ ?_ (rc_Fr.rf.up (by omega)) ⟨c + 1, by omega, by rw [e, mv_upe, nI_1]⟩
    rw [e]
    exact rc_set 6 h (by decide) (by decide) ht hn
theorem c3_cleansUp {l : Launch} {D : va_G} {b0 n : Nat} {sh : mv_Sh} {I : mv_I} {R : mv_R} {p q nt t : Nat} {π x : xs_X} (K : rc_P sh R I p q nt π) (h : rc_R I p nt x) (hW : xs_W nt π x) (ht : t < nt) : mv_C l D b0 m3_cleansUp (mv_rm 0) [.ref p, .int (nI t)] n sh I R (mv_Pi n sh R (fun r I' => r = (if xs_cc π x t t 6 = π t 4 then 1 else 0) ∧ rc_R I' p nt (xs_cc π x t) ∧ rc_Fr p I I')) := mv_C.of 0 (by decide) (by simp [Value.category]) rfl (e3_cleansUp K h hW ht (fun _ _ h => mv_Pi.mk h))
set_option maxHeartbeats 4000000 in
set_option maxRecDepth 100000 in
theorem e3_giveList {l : Launch} {D : va_G} {b0 n : Nat} {sh : mv_Sh} {I : mv_I} {R : mv_R} {Q : mv_Q} {p nt t u c cu : Nat} {x : xs_X} (hp : ly_Run sh R p) (h : rc_R I p nt x) (hn : nt ≤ 8) (ht : t < nt) (hu : u < nt) (htu : t ≠ u) (hc : x t 9 = nI c) (hc8 : c ≤ 8) (hcu : x u 9 = nI cu) (hcu8 : cu ≤ 8) (hQ : ∀ I', (rc_R I' p nt (xs_gl x t u c) ∧ rc_Fr p I I') → Q none n sh I' R) : mv_E l D b0 m3_giveList (mv_rm 1) Q 0 [.ref p, .int (nI t), .int (nI u), .null] [] 0 0 n sh I R := by
  have many : ∀ k, ∃ c2, c2 ≤ 8 ∧ xs_gl x t u k u 9 = nI c2 := by
    intro k
    induction k with
    | zero => exact ⟨cu, hcu8, hcu⟩
    | succ k ih =>
      obtain ⟨c2, q1, q2⟩ := ih
      exact xs_cd_many q2 q1
  have loop : ∀ (f k : Nat) (J : mv_I), c < k + f → k ≤ c → rc_R J p nt (xs_gl x t u k) → rc_Fr p I J → mv_E l D b0 m3_giveList (mv_rm 1) Q 2 [.ref p, .int (nI t), .int (nI u), .int (nI k)] [] 0 0 n sh J R := by
    intro f
    induction f with
    | zero => intro k J h1 h2; omega
    | succ f ih =>
      intro k J h1 h2 hr hf
      have hJ : J (p + 10) t = nI c := by
        rw [show J (p + 10) t = xs_gl x t u k t 9 from (hr.2.1 t ht).1 9 (by decide), xs_gl_ne htu]; exact hc
      refine mv_iload_n (pc := 2) dX3_giveList_2 rfl ?_
      refine mv_aload_n (pc := 3) dX3_giveList_3 rfl ?_
      refine mv_getR (pc := 4) (q := p + 10) dX3_giveList_4 fl3_43 (fun _ _ => rfl) (congrArg Prod.fst hp.o) hp.f11 ?_
      refine mv_iload_n (pc := 7) dX3_giveList_7 rfl ?_
      refine mv_ialdx (pc := 8) (x := nI c) (k := t) dX3_giveList_8 hp.g11 rfl (by omega) hJ ?_
      refine mv_icmp_ge (pc := 9) (tgt := 40) dX3_giveList_9 (by decide) (fun hb => ?_) (fun hb => ?_)
      · have : k = c := by
          have := (nI_leI (by omega) (by omega)).mp hb
          omega
        subst this
        exact mv_vret (pc := 40) dX3_giveList_40 rfl (by decide) (by decide) (hQ _ ⟨hr, hf⟩)
      · have hkc : k < c := by
          rcases Nat.lt_or_ge k c with q | q
          · exact q
          · exact absurd (nI_le q (by omega)) hb
        refine mv_iload_n (pc := 12) dX3_giveList_12 rfl ?_
        refine mv_bipush (pc := 13) (v := 8) dX3_giveList_13 (by decide) ?_
        refine mv_icmp_ge (pc := 15) (tgt := 40) dX3_giveList_15 (by decide) (fun hb2 => ?_) (fun hb2 => ?_)
        · exact absurd hb2 (nI_ge (b := 8) (by omega) (by decide))
        · refine mv_aload_n (pc := 18) dX3_giveList_18 rfl ?_
          refine mv_iload_n (pc := 19) dX3_giveList_19 rfl ?_
          refine mv_aload_n (pc := 20) dX3_giveList_20 rfl ?_
          refine mv_getR (pc := 21) (q := p + 11) dX3_giveList_21 fl3_46 (fun _ _ => rfl) (congrArg Prod.fst hp.o) hp.f12 ?_
          refine mv_iload_n (pc := 24) dX3_giveList_24 rfl ?_
          refine mv_bipush (pc := 25) (v := 8) dX3_giveList_25 (by decide) ?_
          refine mv_imul (pc := 27) dX3_giveList_27 ?_
          refine mv_iload_n (pc := 28) dX3_giveList_28 rfl ?_
          refine mv_iadd (pc := 29) dX3_giveList_29 ?_
          refine mv_ialdx (pc := 30) (x := x t (10 + k)) (k := 8 * t + k) dX3_giveList_30 hp.g12 (mv_ix t 8 k) (by omega) (by rw [(hr.2.1 t ht).2.2.2 k (by rw [xs_gl_ne htu, hc, nI_clamp (by omega)]; exact hkc) (by omega), xs_gl_ne htu]) ?_
          refine mv_cVv (pc := 31) dX3_giveList_31 lk3_91 (congrArg Prod.fst hp.o) (c3_addCode hp hr hn hu (many k).choose_spec.2 (many k).choose_spec.1) rfl rfl (Nat.le_of_ble_eq_true rfl) (by decide) (by decide) (fun J2 ⟨hr2, hf2⟩ => ?_)
          refine mv_iinc (pc := 34) (v := nI (k + 1)) dX3_giveList_34 (by decide) rfl (nI_1 k) ?_
          refine mv_goto (pc := 37) (tgt := 2) dX3_giveList_37 (by decide) ?_
          exact ih (k + 1) J2 (by omega) (by omega) hr2 (hf.tr hf2)
  refine mv_iconst (pc := 0) (v := 0) dX3_giveList_0 (by decide) ?_
  refine mv_istore_n (pc := 1) dX3_giveList_1 (by decide) ?_
  exact loop (c + 1) 0 I (by omega) (by omega) h rc_Fr.rf
theorem c3_giveList {l : Launch} {D : va_G} {b0 n : Nat} {sh : mv_Sh} {I : mv_I} {R : mv_R} {p nt t u c cu : Nat} {x : xs_X} (hp : ly_Run sh R p) (h : rc_R I p nt x) (hn : nt ≤ 8) (ht : t < nt) (hu : u < nt) (htu : t ≠ u) (hc : x t 9 = nI c) (hc8 : c ≤ 8) (hcu : x u 9 = nI cu) (hcu8 : cu ≤ 8) : mv_C l D b0 m3_giveList (mv_rm 1) [.ref p, .int (nI t), .int (nI u)] n sh I R (mv_Pv n sh R (fun I' => rc_R I' p nt (xs_gl x t u c) ∧ rc_Fr p I I')) := mv_C.of 1 (by decide) (by simp [Value.category]) rfl (e3_giveList hp h hn ht hu htu hc hc8 hcu hcu8 (fun _ h => mv_Pv.mk h))
set_option maxHeartbeats 4000000 in
set_option maxRecDepth 100000 in
theorem e3_takeFailure {l : Launch} {D : va_G} {b0 n : Nat} {sh : mv_Sh} {I : mv_I} {R : mv_R} {Q : mv_Q} {p q nt t e : Nat} {π x : xs_X} (K : rc_P sh R I p q nt π) (h : rc_R I p nt x) (ht : t < nt) (he : x 8 1 = nI e) (he6 : e ≤ 60) (hQ : ∀ I', (rc_R I' p nt (xs_tf nt π x t) ∧ rc_Fr p I I') → Q none n sh I' R) : mv_E l D b0 m3_takeFailure (mv_rm 2) Q 0 [.ref p, .int (nI t)] [] 0 0 n sh I R := by
  obtain ⟨hp, hq, hpl, hdj, hpc, hpw⟩ := id K
  have hn := hpw.2.1
  have hhow : I (p + 1) t = x t 0 := (h.2.1 t ht).1 0 (by decide)
  have rest : ¬ (x t 0 = 1 ∧ π t 5 = 0) → mv_E l D b0 m3_takeFailure (mv_rm 2) Q 31 [.ref p, .int (nI t)] [] 0 0 n sh I R := by
    intro hno
    have stay : ¬ (x t 0 = 2 ∧ x t 1 = 0) → mv_E l D b0 m3_takeFailure (mv_rm 2) Q 62 [.ref p, .int (nI t)] [] 0 0 n sh I R := by
      intro hno2
      refine mv_vret (pc := 62) dX3_takeFailure_62 rfl (by decide) (by decide) (hQ _ ⟨?_, rc_Fr.rf⟩)
      unfold xs_tf
      rw [if_neg hno, if_neg hno2]
      exact h
    refine mv_aload_n (pc := 31) dX3_takeFailure_31 rfl ?_
    refine mv_getR (pc := 32) (q := p + 1) dX3_takeFailure_32 fl3_15 (fun _ _ => rfl) (congrArg Prod.fst hp.o) hp.f2 ?_
    refine mv_iload_n (pc := 35) dX3_takeFailure_35 rfl ?_
    refine mv_ialdx (pc := 36) (x := x t 0) (k := t) dX3_takeFailure_36 hp.g2 rfl (by omega) hhow ?_
    refine mv_iconst (pc := 37) (v := 2) dX3_takeFailure_37 (by decide) ?_
    refine mv_icmp_ne (pc := 38) (tgt := 62) dX3_takeFailure_38 (by decide) (fun hb => ?_) (fun hb => ?_)
    · exact stay (fun q => hb q.1)
    · refine mv_aload_n (pc := 41) dX3_takeFailure_41 rfl ?_
      refine mv_getR (pc := 42) (q := p + 2) dX3_takeFailure_42 fl3_19 (fun _ _ => rfl) (congrArg Prod.fst hp.o) hp.f3 ?_
      refine mv_iload_n (pc := 45) dX3_takeFailure_45 rfl ?_
      refine mv_ialdx (pc := 46) (x := x t 1) (k := t) dX3_takeFailure_46 hp.g3 rfl (by omega) ((h.2.1 t ht).1 1 (by decide)) ?_
      refine mv_if_ne (pc := 47) (tgt := 62) dX3_takeFailure_47 (by decide) (fun hb2 => ?_) (fun hb2 => ?_)
      · exact stay (fun q => hb2 q.2)
      · have h1 : rc_R (mv_up I (p + 2) t 1) p nt (mv_up x t 1 1) := rc_set 1 h (by decide) (by decide) ht hn
        refine mv_aload_n (pc := 50) dX3_takeFailure_50 rfl ?_
        refine mv_getR (pc := 51) (q := p + 2) dX3_takeFailure_51 fl3_19 (fun _ _ => rfl) (congrArg Prod.fst hp.o) hp.f3 ?_
        refine mv_iload_n (pc := 54) dX3_takeFailure_54 rfl ?_
        refine mv_iconst (pc := 55) (v := 1) dX3_takeFailure_55 (by decide) ?_
        refine mv_iast (pc := 56) (k := t) dX3_takeFailure_56 hp.g3 rfl (by omega) ?_
        refine mv_aload_n (pc := 57) dX3_takeFailure_57 rfl ?_
        refine mv_iload_n (pc := 58) dX3_takeFailure_58 rfl ?_
        refine mv_cVv (pc := 59) dX3_takeFailure_59 lk3_134 (congrArg Prod.fst hp.o) (c3_askChildren (K.fr (rc_Fr.rf.up (by omega))) h1 ht) rfl rfl (Nat.le_of_ble_eq_true rfl) (by decide) (by decide) (fun J ⟨hr, hf⟩ => ?_)
        refine mv_vret (pc := 62) dX3_takeFailure_62 rfl (by decide) (by decide) (hQ _ ⟨?_, (rc_Fr.rf.up (by omega)).tr hf⟩)
        unfold xs_tf
        rw [if_neg hno, if_pos ⟨hb, hb2⟩]
        exact hr
  refine mv_aload_n (pc := 0) dX3_takeFailure_0 rfl ?_
  refine mv_getR (pc := 1) (q := p + 1) dX3_takeFailure_1 fl3_15 (fun _ _ => rfl) (congrArg Prod.fst hp.o) hp.f2 ?_
  refine mv_iload_n (pc := 4) dX3_takeFailure_4 rfl ?_
  refine mv_ialdx (pc := 5) (x := x t 0) (k := t) dX3_takeFailure_5 hp.g2 rfl (by omega) hhow ?_
  refine mv_iconst (pc := 6) (v := 1) dX3_takeFailure_6 (by decide) ?_
  refine mv_icmp_ne (pc := 7) (tgt := 31) dX3_takeFailure_7 (by decide) (fun hb => ?_) (fun hb => ?_)
  · exact rest (fun q => hb q.1)
  · refine mv_aload_n (pc := 10) dX3_takeFailure_10 rfl ?_
    refine mv_getR (pc := 11) (q := q) dX3_takeFailure_11 fl3_65 (fun _ _ => rfl) (congrArg Prod.fst hp.o) hpl ?_
    refine mv_getR (pc := 14) (q := q + 8) dX3_takeFailure_14 fl3_158 (fun _ _ => rfl) (congrArg Prod.fst hq.o) hq.f8 ?_
    refine mv_iload_n (pc := 17) dX3_takeFailure_17 rfl ?_
    refine mv_ialdx (pc := 18) (x := π t 5) (k := t) dX3_takeFailure_18 hq.g8 rfl (by omega) (hpc.2 t ht).2.2.2.2.2.1 ?_
    refine mv_if_ne (pc := 19) (tgt := 31) dX3_takeFailure_19 (by decide) (fun hb2 => ?_) (fun hb2 => ?_)
    · exact rest (fun q => hb2 q.2)
    · refine mv_aload_n (pc := 22) dX3_takeFailure_22 rfl ?_
      refine mv_iload_n (pc := 23) dX3_takeFailure_23 rfl ?_
      refine mv_iconst (pc := 24) (v := 1) dX3_takeFailure_24 (by decide) ?_
      refine mv_cVv (pc := 25) dX3_takeFailure_25 lk3_94 (congrArg Prod.fst hp.o) (c3_close K h ht he he6) rfl rfl (Nat.le_of_ble_eq_true rfl) (by decide) (by decide) (fun J ⟨hr, hf⟩ => ?_)
      refine mv_goto (pc := 28) (tgt := 62) dX3_takeFailure_28 (by decide) ?_
      refine mv_vret (pc := 62) dX3_takeFailure_62 rfl (by decide) (by decide) (hQ _ ⟨?_, hf⟩)
      unfold xs_tf
      rw [if_pos ⟨hb, hb2⟩]
      exact hr
theorem c3_takeFailure {l : Launch} {D : va_G} {b0 n : Nat} {sh : mv_Sh} {I : mv_I} {R : mv_R} {p q nt t e : Nat} {π x : xs_X} (K : rc_P sh R I p q nt π) (h : rc_R I p nt x) (ht : t < nt) (he : x 8 1 = nI e) (he6 : e ≤ 60) : mv_C l D b0 m3_takeFailure (mv_rm 2) [.ref p, .int (nI t)] n sh I R (mv_Pv n sh R (fun I' => rc_R I' p nt (xs_tf nt π x t) ∧ rc_Fr p I I')) := mv_C.of 0 (by decide) (by simp [Value.category]) rfl (e3_takeFailure K h ht he he6 (fun _ h => mv_Pv.mk h))
set_option maxHeartbeats 4000000 in
set_option maxRecDepth 100000 in
theorem e3_end {l : Launch} {D : va_G} {b0 n : Nat} {sh : mv_Sh} {I : mv_I} {R : mv_R} {Q : mv_Q} {p q nt t : Nat} {π x : xs_X} (K : rc_P sh R I p q nt π) (h : rc_R I p nt x) (hW : xs_W nt π x) (ht : t < nt) (h2 : x t 0 = 2) (hQ : ∀ I', (rc_R I' p nt (xs_en nt π x t) ∧ rc_Fr p I I') → Q none n sh I' R) : mv_E l D b0 m3_end (mv_rm 3) Q 0 [.ref p, .int (nI t), .null] [] 0 0 n sh I R := by
  obtain ⟨hp, hq, hpl, hdj, hpc, hpw⟩ := id K
  have hn := hpw.2.1
  obtain ⟨⟨τ, hτ2, hτ⟩, ⟨e, he6, he⟩, -, hT⟩ := id hW
  have g1 : rc_R (mv_up I (p + 1) t 3) p nt (mv_up x t 0 3) := rc_set 0 h (by decide) (by decide) ht hn
  have g2 : rc_R (mv_up (mv_up I (p + 1) t 3) (p + 4) t (x 8 0)) p nt (mv_up (mv_up x t 0 3) t 8 (x 8 0)) := rc_end g1 (Or.inr rfl) ht hn
  have f2 : rc_Fr p I (mv_up (mv_up I (p + 1) t 3) (p + 4) t (x 8 0)) := (rc_Fr.rf.up (by omega)).up (by omega)
  refine mv_aload_n (pc := 0) dX3_end_0 rfl ?_
  refine mv_getR (pc := 1) (q := p + 1) dX3_end_1 fl3_15 (fun _ _ => rfl) (congrArg Prod.fst hp.o) hp.f2 ?_
  refine mv_iload_n (pc := 4) dX3_end_4 rfl ?_
  refine mv_iconst (pc := 5) (v := 3) dX3_end_5 (by decide) ?_
  refine mv_iast (pc := 6) (k := t) dX3_end_6 hp.g2 rfl (by omega) ?_
  refine mv_aload_n (pc := 7) dX3_end_7 rfl ?_
  refine mv_getR (pc := 8) (q := p + 4) dX3_end_8 fl3_25 (fun _ _ => rfl) (congrArg Prod.fst hp.o) hp.f5 ?_
  refine mv_iload_n (pc := 11) dX3_end_11 rfl ?_
  refine mv_aload_n (pc := 12) dX3_end_12 rfl ?_
  refine mv_getIx (pc := 13) (x := x 8 0) dX3_end_13 fl3_9 rfl (congrArg Prod.fst hp.o) (by rw [mv_upN p (by omega)]; exact h.1.1) ?_
  refine mv_iast (pc := 16) (k := t) dX3_end_16 hp.g5 rfl (by omega) ?_
  refine mv_aload_n (pc := 17) dX3_end_17 rfl ?_
  refine mv_iload_n (pc := 18) dX3_end_18 rfl ?_
  refine mv_iconst (pc := 19) (v := 2) dX3_end_19 (by decide) ?_
  refine mv_cVv (pc := 20) dX3_end_20 lk3_137 (congrArg Prod.fst hp.o) (c3_note hp g2 hn (by rw [mv_upN 8 (by omega), mv_upN 8 (by omega)]; exact he) he6) rfl rfl (Nat.le_of_ble_eq_true rfl) (by decide) (by decide) (fun J ⟨hr, hf⟩ => ?_)
  have fJ := f2.tr hf
  have hpc' := (K.fr fJ).2.2.2.2.1
  have hW1 := hW.en0 ht hn h2
  have hout : J (p + 2) t = x t 1 := by
    rw [show J (p + 2) t = xs_tr (mv_up (mv_up x t 0 3) t 8 (x 8 0)) t 2 t 1 from (hr.2.1 t ht).1 1 (by decide), xs_tr_lo (by omega)]
    simp [mv_up]
  refine mv_aload_n (pc := 23) dX3_end_23 rfl ?_
  refine mv_getR (pc := 24) (q := q) dX3_end_24 fl3_65 (fun _ _ => rfl) (congrArg Prod.fst hp.o) hpl ?_
  refine mv_getR (pc := 27) (q := q + 1) dX3_end_27 fl3_88 (fun _ _ => rfl) (congrArg Prod.fst hq.o) hq.f1 ?_
  refine mv_iload_n (pc := 30) dX3_end_30 rfl ?_
  refine mv_ialdx (pc := 31) (x := π t 0) (k := t) dX3_end_31 hq.g1 rfl (by omega) (hpc'.2 t ht).1 ?_
  refine mv_istore_n (pc := 32) dX3_end_32 (by decide) ?_
  refine mv_iload_n (pc := 33) dX3_end_33 rfl ?_
  refine mv_if_lt (pc := 34) (tgt := 68) dX3_end_34 (by decide) (fun hb => ?_) (fun hb => ?_)
  · refine mv_vret (pc := 68) dX3_end_68 rfl (by decide) (by decide) (hQ _ ⟨?_, fJ⟩)
    unfold xs_en
    rw [if_neg]
    · exact hr
    · rintro ⟨q, -⟩
      obtain ⟨u, hut, hu⟩ := (hpw.2.2.2 t ht).1 q
      rw [hu] at hb
      exact nI_pos (by omega) hb
  · have ht0 : 0 < t := by
      rcases Nat.eq_zero_or_pos t with q | q
      · subst q; rw [hpw.2.2.1] at hb; exact absurd (by decide) hb
      · exact q
    obtain ⟨u, hut, hu⟩ := (hpw.2.2.2 t ht).1 ht0
    have hcl : (π t 0).toNatClampNeg = u := by rw [hu]; exact nI_clamp (by omega)
    have x1t : ∀ k, k ≠ 0 → k ≠ 8 → xs_tr (mv_up (mv_up x t 0 3) t 8 (x 8 0)) t 2 t k = x t k := fun k a b => by
      rw [xs_tr_lo (by omega)]; simp [mv_up, a, b]
    have no : ¬ (x t 1 = 1 ∨ x t 1 = 3) → mv_E l D b0 m3_end (mv_rm 3) Q 68 [.ref p, .int (nI t), .int (π t 0)] [] 0 0 n sh J R := by
      intro hno
      refine mv_vret (pc := 68) dX3_end_68 rfl (by decide) (by decide) (hQ _ ⟨?_, fJ⟩)
      unfold xs_en
      rw [if_neg (fun q => hno q.2)]
      exact hr
    have yes : (x t 1 = 1 ∨ x t 1 = 3) → mv_E l D b0 m3_end (mv_rm 3) Q 57 [.ref p, .int (nI t), .int (π t 0)] [] 0 0 n sh J R := by
      intro hy
      obtain ⟨c, hc8, hc⟩ := (hT t ht).2.1
      obtain ⟨cu, hcu8, hcu⟩ := (hW1.2.2.2 u (by omega)).2.1
      have hWg := hW1.gl (t := t) (u := u) (by omega) hn c
      obtain ⟨e3, he36, he3⟩ := hWg.2.1
      rw [hu]
      refine mv_aload_n (pc := 57) dX3_end_57 rfl ?_
      refine mv_iload_n (pc := 58) dX3_end_58 rfl ?_
      refine mv_iload_n (pc := 59) dX3_end_59 rfl ?_
      refine mv_cVv (pc := 60) dX3_end_60 lk3_152 (congrArg Prod.fst hp.o) (c3_giveList hp hr hn ht (by omega) (by omega) ((x1t 9 (by decide) (by decide)).trans hc) hc8 hcu hcu8) rfl rfl (Nat.le_of_ble_eq_true rfl) (by decide) (by decide) (fun J2 ⟨hr2, hf2⟩ => ?_)
      refine mv_aload_n (pc := 63) dX3_end_63 rfl ?_
      refine mv_iload_n (pc := 64) dX3_end_64 rfl ?_
      refine mv_cVv (pc := 65) dX3_end_65 lk3_155 (congrArg Prod.fst hp.o) (c3_takeFailure (K.fr (fJ.tr hf2)) hr2 (by omega) he3 he36) rfl rfl (Nat.le_of_ble_eq_true rfl) (by decide) (by decide) (fun J3 ⟨hr3, hf3⟩ => ?_)
      refine mv_vret (pc := 68) dX3_end_68 rfl (by decide) (by decide) (hQ _ ⟨?_, (fJ.tr hf2).tr hf3⟩)
      unfold xs_en
      rw [if_pos ⟨ht0, hy⟩, hcl, hc, nI_clamp (by omega)]
      exact hr3
    refine mv_aload_n (pc := 37) dX3_end_37 rfl ?_
    refine mv_getR (pc := 38) (q := p + 2) dX3_end_38 fl3_19 (fun _ _ => rfl) (congrArg Prod.fst hp.o) hp.f3 ?_
    refine mv_iload_n (pc := 41) dX3_end_41 rfl ?_
    refine mv_ialdx (pc := 42) (x := x t 1) (k := t) dX3_end_42 hp.g3 rfl (by omega) hout ?_
    refine mv_iconst (pc := 43) (v := 1) dX3_end_43 (by decide) ?_
    refine mv_icmp_eq (pc := 44) (tgt := 57) dX3_end_44 (by decide) (fun hb2 => ?_) (fun hb2 => ?_)
    · exact yes (Or.inl hb2)
    · refine mv_aload_n (pc := 47) dX3_end_47 rfl ?_
      refine mv_getR (pc := 48) (q := p + 2) dX3_end_48 fl3_19 (fun _ _ => rfl) (congrArg Prod.fst hp.o) hp.f3 ?_
      refine mv_iload_n (pc := 51) dX3_end_51 rfl ?_
      refine mv_ialdx (pc := 52) (x := x t 1) (k := t) dX3_end_52 hp.g3 rfl (by omega) hout ?_
      refine mv_iconst (pc := 53) (v := 3) dX3_end_53 (by decide) ?_
      refine mv_icmp_ne (pc := 54) (tgt := 68) dX3_end_54 (by decide) (fun hb3 => ?_) (fun hb3 => ?_)
      · exact no (fun q => q.elim hb2 hb3)
      · exact yes (Or.inr hb3)
theorem c3_end {l : Launch} {D : va_G} {b0 n : Nat} {sh : mv_Sh} {I : mv_I} {R : mv_R} {p q nt t : Nat} {π x : xs_X} (K : rc_P sh R I p q nt π) (h : rc_R I p nt x) (hW : xs_W nt π x) (ht : t < nt) (h2 : x t 0 = 2) : mv_C l D b0 m3_end (mv_rm 3) [.ref p, .int (nI t)] n sh I R (mv_Pv n sh R (fun I' => rc_R I' p nt (xs_en nt π x t) ∧ rc_Fr p I I')) := mv_C.of 1 (by decide) (by simp [Value.category]) rfl (e3_end K h hW ht h2 (fun _ h => mv_Pv.mk h))

