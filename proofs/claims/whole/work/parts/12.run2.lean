theorem xs_bs_lo {nt t : Nat} {π x : xs_X} (hw : pl_W nt π) (ht : t < 2 ^ 31) : ∀ c, c ≤ t + 1 → c ≤ nt → xs_bs π x t c = 0
  | 0, _, _ => rfl
  | c + 1, h1, h2 => by
    have ih := xs_bs_lo hw ht c (by omega) (by omega) (x := x)
    unfold xs_bs
    rw [if_neg, ih]
    rintro ⟨a1, a2, -⟩
    have := hw.par (by omega) a1 a2 ht
    omega
theorem xs_or0 {a b : Int32} (h : a ||| b = 0) : a = 0 ∧ b = 0 := by
  have h1 : a.toBitVec ||| b.toBitVec = 0#32 := by
    have := congrArg Int32.toBitVec h
    rwa [Int32.toBitVec_or] at this
  have h2 := BitVec.or_eq_zero_iff.mp h1
  exact ⟨Int32.toBitVec_inj.mp h2.1, Int32.toBitVec_inj.mp h2.2⟩
theorem xs_sh8 : ∀ c, c < 8 → ¬ ((1 : Int32) <<< (nI c &&& 31) = 0) := by decide +kernel
theorem xs_bs_0 {t : Nat} {π x : xs_X} : ∀ c, c ≤ 8 → (xs_bs π x t c = 0 ↔ ¬ ∃ u, u < c ∧ 1 ≤ u ∧ π u 0 = nI t ∧ (x u 0 = 1 ∨ x u 0 = 2))
  | 0, _ => ⟨fun _ ⟨u, h, _⟩ => by omega, fun _ => rfl⟩
  | c + 1, hc => by
    have ih := xs_bs_0 (t := t) (π := π) (x := x) c (by omega)
    unfold xs_bs
    by_cases h : 1 ≤ c ∧ π c 0 = nI t ∧ (x c 0 = 1 ∨ x c 0 = 2)
    · rw [if_pos h]
      constructor
      · intro q
        exact absurd (xs_or0 q).2 (xs_sh8 c (by omega))
      · intro q
        exact absurd ⟨c, by omega, h⟩ q
    · rw [if_neg h, ih]
      constructor
      · rintro q ⟨u, h1, h2⟩
        by_cases hu : u = c
        · subst hu; exact h h2
        · exact q ⟨u, by omega, h2⟩
      · rintro q ⟨u, h1, h2⟩
        exact q ⟨u, by omega, h2⟩
theorem xs_bs_busy {nt t : Nat} {π x : xs_X} (hn : nt ≤ 8) : xs_bs π x t nt = 0 ↔ ¬ xs_busy nt π x t = true := by
  rw [xs_bs_0 nt hn, xs_busy_iff]
set_option maxHeartbeats 4000000 in
set_option maxRecDepth 100000 in
theorem e3_activeChildren {l : Launch} {D : va_G} {b0 n : Nat} {sh : mv_Sh} {I : mv_I} {R : mv_R} {Q : mv_Q} {p q nt t : Nat} {π x : xs_X} (K : rc_P sh R I p q nt π) (h : rc_R I p nt x) (ht : t < nt) (hQ : ∀ r I', (r = xs_bs π x t nt ∧ I' = I) → Q (some (.int r)) n sh I' R) : mv_E l D b0 m3_activeChildren (mv_rm 0) Q 0 [.ref p, .int (nI t), .null, .null] [] 0 0 n sh I R := by
  obtain ⟨hp, hq, hpl, hdj, hpc, hpw⟩ := id K
  have hn := hpw.2.1
  have loop : ∀ (f c : Nat), nt < c + f → t < c → c ≤ nt → mv_E l D b0 m3_activeChildren (mv_rm 0) Q 6 [.ref p, .int (nI t), .int (xs_bs π x t c), .int (nI c)] [] 0 0 n sh I R := by
    intro f
    induction f with
    | zero => intro c h1 h2 h3; omega
    | succ f ih =>
      intro c h1 h2 h3
      refine mv_iload_n (pc := 6) dX3_activeChildren_6 rfl ?_
      refine mv_aload_n (pc := 7) dX3_activeChildren_7 rfl ?_
      refine mv_getR (pc := 8) (q := q) dX3_activeChildren_8 fl3_65 (fun _ _ => rfl) (congrArg Prod.fst hp.o) hpl ?_
      refine mv_getIx (pc := 11) (x := nI nt) dX3_activeChildren_11 fl3_83 rfl (congrArg Prod.fst hq.o) hpc.1 ?_
      refine mv_icmp_ge (pc := 14) (tgt := 62) dX3_activeChildren_14 (by decide) (fun hb => ?_) (fun hb => ?_)
      · have : c = nt := by
          have := (nI_leI (a := nt) (b := c) (by omega) (by omega)).mp hb
          omega
        subst this
        refine mv_iload_n (pc := 62) dX3_activeChildren_62 rfl ?_
        exact mv_iret (pc := 63) dX3_activeChildren_63 rfl (by decide) (by decide) (hQ _ _ ⟨rfl, rfl⟩)
      · have hcn : c < nt := by
          rcases Nat.lt_or_ge c nt with q | q
          · exact q
          · exact absurd (nI_le q (by omega)) hb
        have hnext : ∀ v, v = xs_bs π x t (c + 1) → mv_E l D b0 m3_activeChildren (mv_rm 0) Q 56 [.ref p, .int (nI t), .int v, .int (nI c)] [] 0 0 n sh I R := by
          intro v hv
          subst hv
          refine mv_iinc (pc := 56) (v := nI (c + 1)) dX3_activeChildren_56 (by decide) rfl (nI_1 c) ?_
          refine mv_goto (pc := 59) (tgt := 6) dX3_activeChildren_59 (by decide) ?_
          exact ih (c + 1) (by omega) (by omega) (by omega)
        have no : ¬ (π c 0 = nI t ∧ (x c 0 = 1 ∨ x c 0 = 2)) → xs_bs π x t c = xs_bs π x t (c + 1) := by
          intro q
          rw [xs_bs, if_neg (fun z => q z.2)]
        have hhow : I (p + 1) c = x c 0 := (h.2.1 c hcn).1 0 (by decide)
        have yes : π c 0 = nI t → (x c 0 = 1 ∨ x c 0 = 2) → mv_E l D b0 m3_activeChildren (mv_rm 0) Q 50 [.ref p, .int (nI t), .int (xs_bs π x t c), .int (nI c)] [] 0 0 n sh I R := by
          intro q1 q2
          refine mv_iload_n (pc := 50) dX3_activeChildren_50 rfl ?_
          refine mv_iconst (pc := 51) (v := 1) dX3_activeChildren_51 (by decide) ?_
          refine mv_iload_n (pc := 52) dX3_activeChildren_52 rfl ?_
          refine mv_ishl (pc := 53) dX3_activeChildren_53 ?_
          refine mv_ior (pc := 54) dX3_activeChildren_54 ?_
          refine mv_istore_n (pc := 55) dX3_activeChildren_55 (by decide) ?_
          exact hnext _ (by rw [xs_bs, if_pos ⟨by omega, q1, q2⟩])
        refine mv_aload_n (pc := 17) dX3_activeChildren_17 rfl ?_
        refine mv_getR (pc := 18) (q := q) dX3_activeChildren_18 fl3_65 (fun _ _ => rfl) (congrArg Prod.fst hp.o) hpl ?_
        refine mv_getR (pc := 21) (q := q + 1) dX3_activeChildren_21 fl3_88 (fun _ _ => rfl) (congrArg Prod.fst hq.o) hq.f1 ?_
        refine mv_iload_n (pc := 24) dX3_activeChildren_24 rfl ?_
        refine mv_ialdx (pc := 25) (x := π c 0) (k := c) dX3_activeChildren_25 hq.g1 rfl (by omega) (hpc.2 c hcn).1 ?_
        refine mv_iload_n (pc := 26) dX3_activeChildren_26 rfl ?_
        refine mv_icmp_ne (pc := 27) (tgt := 56) dX3_activeChildren_27 (by decide) (fun hb2 => ?_) (fun hb2 => ?_)
        · exact hnext _ (no (fun q => hb2 q.1))
        · refine mv_aload_n (pc := 30) dX3_activeChildren_30 rfl ?_
          refine mv_getR (pc := 31) (q := p + 1) dX3_activeChildren_31 fl3_15 (fun _ _ => rfl) (congrArg Prod.fst hp.o) hp.f2 ?_
          refine mv_iload_n (pc := 34) dX3_activeChildren_34 rfl ?_
          refine mv_ialdx (pc := 35) (x := x c 0) (k := c) dX3_activeChildren_35 hp.g2 rfl (by omega) hhow ?_
          refine mv_iconst (pc := 36) (v := 1) dX3_activeChildren_36 (by decide) ?_
          refine mv_icmp_eq (pc := 37) (tgt := 50) dX3_activeChildren_37 (by decide) (fun hb3 => ?_) (fun hb3 => ?_)
          · exact yes hb2 (Or.inl hb3)
          · refine mv_aload_n (pc := 40) dX3_activeChildren_40 rfl ?_
            refine mv_getR (pc := 41) (q := p + 1) dX3_activeChildren_41 fl3_15 (fun _ _ => rfl) (congrArg Prod.fst hp.o) hp.f2 ?_
            refine mv_iload_n (pc := 44) dX3_activeChildren_44 rfl ?_
            refine mv_ialdx (pc := 45) (x := x c 0) (k := c) dX3_activeChildren_45 hp.g2 rfl (by omega) hhow ?_
            refine mv_iconst (pc := 46) (v := 2) dX3_activeChildren_46 (by decide) ?_
            refine mv_icmp_ne (pc := 47) (tgt := 56) dX3_activeChildren_47 (by decide) (fun hb4 => ?_) (fun hb4 => ?_)
            · exact hnext _ (no (fun q => q.2.elim hb3 hb4))
            · exact yes hb2 (Or.inr hb4)
  refine mv_iconst (pc := 0) (v := 0) dX3_activeChildren_0 (by decide) ?_
  refine mv_istore_n (pc := 1) dX3_activeChildren_1 (by decide) ?_
  refine mv_iload_n (pc := 2) dX3_activeChildren_2 rfl ?_
  refine mv_iconst (pc := 3) (v := 1) dX3_activeChildren_3 (by decide) ?_
  refine mv_iadd (pc := 4) dX3_activeChildren_4 ?_
  refine mv_top (y := nI (t + 1)) (nI_1 t) ?_
  refine mv_istore_n (pc := 5) dX3_activeChildren_5 (by decide) ?_
  have := loop (nt + 1) (t + 1) (by omega) (by omega) (by omega)
  rw [xs_bs_lo hpw (by omega) (t + 1) (by omega) (by omega)] at this
  exact this
theorem c3_activeChildren {l : Launch} {D : va_G} {b0 n : Nat} {sh : mv_Sh} {I : mv_I} {R : mv_R} {p q nt t : Nat} {π x : xs_X} (K : rc_P sh R I p q nt π) (h : rc_R I p nt x) (ht : t < nt) : mv_C l D b0 m3_activeChildren (mv_rm 0) [.ref p, .int (nI t)] n sh I R (mv_Pi n sh R (fun r I' => r = xs_bs π x t nt ∧ I' = I)) := mv_C.of 2 (by decide) (by simp [Value.category]) rfl (e3_activeChildren K h ht (fun _ _ h => mv_Pi.mk h))
theorem xs_tr_lo {x : xs_X} {t u : Nat} {w : Int32} (hu : u < 8) : xs_tr x t w u = x u := by
  unfold xs_tr
  split
  · rw [mv_upN u (by omega), mv_upN u (by omega), mv_upN u (by omega), mv_upN u (by omega)]
  · rfl
theorem xs_ask_hi {n u a : Nat} {π x : xs_X} (h : n ≤ a) : xs_ask n π x u a = x a := by
  funext k
  unfold xs_ask
  rw [if_neg]
  rintro ⟨-, -, q, -⟩
  omega
theorem xs_tr_hi {x y : xs_X} {t : Nat} {w : Int32} (h : ∀ a, 8 ≤ a → y a = x a) : ∀ a, 8 ≤ a → xs_tr y t w a = xs_tr x t w a := by
  intro a ha
  unfold xs_tr
  rw [h 8 (by omega)]
  split
  · funext k
    simp only [mv_up, h a ha]
  · exact h a ha
theorem xs_ask_tr {n u t : Nat} {π x : xs_X} {w : Int32} (hn : n ≤ 8) : xs_ask n π (xs_tr x t w) u = xs_tr (xs_ask n π x u) t w := by
  funext a
  by_cases ha : a < 8
  · rw [xs_tr_lo ha]
    funext k
    simp only [xs_ask, xs_tr_lo ha]
  · rw [xs_ask_hi (by omega)]
    exact (xs_tr_hi (fun b hb => xs_ask_hi (by omega)) a (by omega)).symm
set_option maxHeartbeats 4000000 in
set_option maxRecDepth 100000 in
theorem e3_close {l : Launch} {D : va_G} {b0 n : Nat} {sh : mv_Sh} {I : mv_I} {R : mv_R} {Q : mv_Q} {p q nt t e : Nat} {π x : xs_X} {o : Int32} (K : rc_P sh R I p q nt π) (h : rc_R I p nt x) (ht : t < nt) (he : x 8 1 = nI e) (he6 : e ≤ 60) (hQ : ∀ I', (rc_R I' p nt (xs_cl nt π x t o) ∧ rc_Fr p I I') → Q none n sh I' R) : mv_E l D b0 m3_close (mv_rm 1) Q 0 [.ref p, .int (nI t), .int o] [] 0 0 n sh I R := by
  obtain ⟨hp, hq, hpl, hdj, hpc, hpw⟩ := id K
  have hn := hpw.2.1
  have h1 : rc_R (mv_up I (p + 1) t 2) p nt (mv_up x t 0 2) := rc_set 0 h (by decide) (by decide) ht hn
  have f1 : rc_Fr p I (mv_up I (p + 1) t 2) := rc_Fr.rf.up (by omega)
  have hm : I (p + 10) t = x t 9 := (h.2.1 t ht).1 9 (by decide)
  have join : ∀ v, v = (if o = 0 ∧ 0 < x t 9 then 1 else o) → mv_E l D b0 m3_close (mv_rm 1) Q 30 [.ref p, .int (nI t), .int o] [.int v, .int (nI t), .ref (p + 2)] 0 0 n sh (mv_up I (p + 1) t 2) R := by
    intro v hv
    have h2 : rc_R (mv_up (mv_up I (p + 1) t 2) (p + 2) t v) p nt (mv_up (mv_up x t 0 2) t 1 v) := rc_set 1 h1 (by decide) (by decide) ht hn
    have f2 := f1.up (a := p + 2) (k := t) (v := v) (by omega)
    refine mv_iast (pc := 30) (k := t) dX3_close_30 hp.g3 rfl (by omega) ?_
    refine mv_aload_n (pc := 31) dX3_close_31 rfl ?_
    refine mv_iload_n (pc := 32) dX3_close_32 rfl ?_
    refine mv_iconst (pc := 33) (v := 1) dX3_close_33 (by decide) ?_
    refine mv_cVv (pc := 34) dX3_close_34 lk3_137 (congrArg Prod.fst hp.o) (c3_note hp h2 hn (by rw [mv_upN 8 (by omega), mv_upN 8 (by omega)]; exact he) he6) rfl rfl (Nat.le_of_ble_eq_true rfl) (by decide) (by decide) (fun J ⟨hr, hf⟩ => ?_)
    have hfJ := f2.tr hf
    have hv2 : J (p + 2) t = v := by
      rw [show J (p + 2) t = xs_tr (mv_up (mv_up x t 0 2) t 1 v) t 1 t 1 from (hr.2.1 t ht).1 1 (by decide), xs_tr_lo (by omega), mv_upe]
    refine mv_aload_n (pc := 37) dX3_close_37 rfl ?_
    refine mv_getR (pc := 38) (q := p + 2) dX3_close_38 fl3_19 (fun _ _ => rfl) (congrArg Prod.fst hp.o) hp.f3 ?_
    refine mv_iload_n (pc := 41) dX3_close_41 rfl ?_
    refine mv_ialdx (pc := 42) (x := v) (k := t) dX3_close_42 hp.g3 rfl (by omega) hv2 ?_
    refine mv_if_eq (pc := 43) (tgt := 51) dX3_close_43 (by decide) (fun hb => ?_) (fun hb => ?_)
    · refine mv_vret (pc := 51) dX3_close_51 rfl (by decide) (by decide) (hQ _ ⟨?_, hfJ⟩)
      have : xs_cl nt π x t o = xs_tr (mv_up (mv_up x t 0 2) t 1 v) t 1 := by
        unfold xs_cl
        rw [← hv, if_neg]
        intro q
        rw [hb] at hv
        by_cases ho : o = 0
        · rcases q with q | q
          · exact q ho
          · rw [if_pos ⟨ho, q⟩] at hv
            exact absurd hv (by decide)
        · rw [if_neg (fun z => ho z.1)] at hv
          exact ho hv.symm
      rw [this]; exact hr
    · refine mv_aload_n (pc := 46) dX3_close_46 rfl ?_
      refine mv_iload_n (pc := 47) dX3_close_47 rfl ?_
      refine mv_cVv (pc := 48) dX3_close_48 lk3_134 (congrArg Prod.fst hp.o) (c3_askChildren (K.fr hfJ) hr ht) rfl rfl (Nat.le_of_ble_eq_true rfl) (by decide) (by decide) (fun J2 ⟨hr2, hf2⟩ => ?_)
      refine mv_vret (pc := 51) dX3_close_51 rfl (by decide) (by decide) (hQ _ ⟨?_, hfJ.tr hf2⟩)
      have : xs_cl nt π x t o = xs_ask nt π (xs_tr (mv_up (mv_up x t 0 2) t 1 v) t 1) t := by
        rw [xs_ask_tr hn]
        unfold xs_cl
        rw [← hv, if_pos]
        by_cases ho : o = 0
        · right
          apply Classical.byContradiction
          intro q
          rw [if_neg (fun z => q z.2), ho] at hv
          exact hb hv
        · exact Or.inl ho
      rw [this]; exact hr2
  refine mv_aload_n (pc := 0) dX3_close_0 rfl ?_
  refine mv_getR (pc := 1) (q := p + 1) dX3_close_1 fl3_15 (fun _ _ => rfl) (congrArg Prod.fst hp.o) hp.f2 ?_
  refine mv_iload_n (pc := 4) dX3_close_4 rfl ?_
  refine mv_iconst (pc := 5) (v := 2) dX3_close_5 (by decide) ?_
  refine mv_iast (pc := 6) (k := t) dX3_close_6 hp.g2 rfl (by omega) ?_
  refine mv_aload_n (pc := 7) dX3_close_7 rfl ?_
  refine mv_getR (pc := 8) (q := p + 2) dX3_close_8 fl3_19 (fun _ _ => rfl) (congrArg Prod.fst hp.o) hp.f3 ?_
  refine mv_iload_n (pc := 11) dX3_close_11 rfl ?_
  refine mv_iload_n (pc := 12) dX3_close_12 rfl ?_
  refine mv_if_ne (pc := 13) (tgt := 29) dX3_close_13 (by decide) (fun hb => ?_) (fun hb => ?_)
  · refine mv_iload_n (pc := 29) dX3_close_29 rfl ?_
    exact join o (by rw [if_neg (fun z => hb z.1)])
  · refine mv_aload_n (pc := 16) dX3_close_16 rfl ?_
    refine mv_getR (pc := 17) (q := p + 10) dX3_close_17 fl3_43 (fun _ _ => rfl) (congrArg Prod.fst hp.o) hp.f11 ?_
    refine mv_iload_n (pc := 20) dX3_close_20 rfl ?_
    refine mv_ialdx (pc := 21) (x := x t 9) (k := t) dX3_close_21 hp.g11 rfl (by omega) (by rw [mv_upN _ (by omega)]; exact hm) ?_
    refine mv_if_le (pc := 22) (tgt := 29) dX3_close_22 (by decide) (fun hb2 => ?_) (fun hb2 => ?_)
    · refine mv_iload_n (pc := 29) dX3_close_29 rfl ?_
      exact join o (by rw [if_neg (fun z => absurd z.2 (Int32.not_lt.mpr hb2))])
    · refine mv_iconst (pc := 25) (v := 1) dX3_close_25 (by decide) ?_
      refine mv_goto (pc := 26) (tgt := 30) dX3_close_26 (by decide) ?_
      exact join 1 (by rw [if_pos ⟨hb, Int32.not_le.mp hb2⟩])
theorem c3_close {l : Launch} {D : va_G} {b0 n : Nat} {sh : mv_Sh} {I : mv_I} {R : mv_R} {p q nt t e : Nat} {π x : xs_X} {o : Int32} (K : rc_P sh R I p q nt π) (h : rc_R I p nt x) (ht : t < nt) (he : x 8 1 = nI e) (he6 : e ≤ 60) : mv_C l D b0 m3_close (mv_rm 1) [.ref p, .int (nI t), .int o] n sh I R (mv_Pv n sh R (fun I' => rc_R I' p nt (xs_cl nt π x t o) ∧ rc_Fr p I I')) := mv_C.of 0 (by decide) (by simp [Value.category]) rfl (e3_close K h ht he he6 (fun _ h => mv_Pv.mk h))

