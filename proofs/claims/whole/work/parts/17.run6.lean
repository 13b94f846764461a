set_option maxHeartbeats 4000000 in
set_option maxRecDepth 100000 in
theorem e3_passTick {l : Launch} {D : va_G} {b0 n : Nat} {sh : mv_Sh} {I : mv_I} {R : mv_R} {Q : mv_Q} {p q nt τ : Nat} {π x : xs_X} (K : rc_P sh R I p q nt π) (h : rc_R I p nt x) (hW : xs_W nt π x) (hτ : x 8 0 = nI τ) (hτ2 : τ < 2000) (hQ : ∀ I', (rc_R I' p nt (xs_tk nt π x) ∧ rc_Fr p I I') → Q none n sh I' R) : mv_E l D b0 m3_passTick (mv_rm 5) Q 0 [.ref p, .null] [] 0 0 n sh I R := by
  obtain ⟨hp, hq, hpl, hdj, hpc, hpw⟩ := id K
  have hn := hpw.2.1
  have l3 : ∀ (k : Nat) (J : mv_I) (y : xs_X) (v : Int32), k ≤ nt → v = nI k - 1 → rc_R J p nt y → xs_W nt π y → rc_Fr p I J → xs_d (xs_p3 nt π) k y = xs_tk nt π x → mv_E l D b0 m3_passTick (mv_rm 5) Q 122 [.ref p, .int v] [] 0 0 n sh J R := by
    intro k
    induction k with
    | zero =>
      intro J y v hk hv hr hWy hf hy
      refine mv_iload_n (pc := 122) dX3_passTick_122 rfl ?_
      refine mv_if_lt (pc := 123) (tgt := 163) dX3_passTick_123 (by decide) (fun hb => ?_) (fun hb => ?_)
      · exact mv_vret (pc := 163) dX3_passTick_163 rfl (by decide) (by decide) (hQ _ ⟨by rw [← hy]; exact hr, hf⟩)
      · rw [hv] at hb; exact absurd (by decide) hb
    | succ k ih =>
      intro J y v hk hv hr hWy hf hy
      rw [nI_pred] at hv
      subst hv
      have hkn : k < nt := by omega
      have nxt : ∀ J2, rc_R J2 p nt (xs_p3 nt π y k) → rc_Fr p I J2 → mv_E l D b0 m3_passTick (mv_rm 5) Q 157 [.ref p, .int (nI k)] [] 0 0 n sh J2 R := by
        intro J2 hr2 hf2
        refine mv_iinc (pc := 157) (v := nI k - 1) dX3_passTick_157 (by decide) rfl (by rw [Int32.sub_eq_add_neg]; rfl) ?_
        refine mv_goto (pc := 160) (tgt := 122) dX3_passTick_160 (by decide) ?_
        exact ih J2 _ _ (by omega) rfl hr2 (hWy.p3 hpw hkn).1 hf2 hy
      refine mv_iload_n (pc := 122) dX3_passTick_122 rfl ?_
      refine mv_if_lt (pc := 123) (tgt := 163) dX3_passTick_123 (by decide) (fun hb => ?_) (fun hb => ?_)
      · exact absurd hb (nI_pos (by omega))
      · refine mv_aload_n (pc := 126) dX3_passTick_126 rfl ?_
        refine mv_getR (pc := 127) (q := p + 1) dX3_passTick_127 fl3_15 (fun _ _ => rfl) (congrArg Prod.fst hp.o) hp.f2 ?_
        refine mv_iload_n (pc := 130) dX3_passTick_130 rfl ?_
        refine mv_ialdx (pc := 131) (x := y k 0) (k := k) dX3_passTick_131 hp.g2 rfl (by omega) ((hr.2.1 k hkn).1 0 (by decide)) ?_
        refine mv_iconst (pc := 132) (v := 2) dX3_passTick_132 (by decide) ?_
        refine mv_icmp_ne (pc := 133) (tgt := 157) dX3_passTick_133 (by decide) (fun hb2 => ?_) (fun hb2 => ?_)
        · exact nxt J (by unfold xs_p3; rw [if_neg (fun q => hb2 q.1)]; exact hr) hf
        · refine mv_aload_n (pc := 136) dX3_passTick_136 rfl ?_
          refine mv_iload_n (pc := 137) dX3_passTick_137 rfl ?_
          refine mv_cVi (pc := 138) dX3_passTick_138 lk3_101 (congrArg Prod.fst hp.o) (c3_activeChildren (K.fr hf) hr hkn) rfl rfl (Nat.le_of_ble_eq_true rfl) (by decide) (by decide) (fun r J' ⟨e1, e2⟩ => ?_)
          subst e1 e2
          refine mv_if_ne (pc := 141) (tgt := 157) dX3_passTick_141 (by decide) (fun hb3 => ?_) (fun hb3 => ?_)
          · exact nxt _ (by unfold xs_p3; rw [if_neg (fun q => hb3 ((xs_bs_busy hn).mpr q.2))]; exact hr) hf
          · refine mv_aload_n (pc := 144) dX3_passTick_144 rfl ?_
            refine mv_iload_n (pc := 145) dX3_passTick_145 rfl ?_
            refine mv_cVi (pc := 146) dX3_passTick_146 lk3_105 (congrArg Prod.fst hp.o) (c3_cleansUp (K.fr hf) hr hWy hkn) rfl rfl (Nat.le_of_ble_eq_true rfl) (by decide) (by decide) (fun r J2 ⟨e1, hr2, hf2⟩ => ?_)
            have e3 : xs_p3 nt π y k = xs_cu nt π y k := by
              unfold xs_p3
              rw [if_pos ⟨hb2, (xs_bs_busy hn).mp hb3⟩]
            obtain ⟨w1, w2, w3⟩ := hWy.cc hkn hn
            refine mv_if_eq (pc := 149) (tgt := 157) dX3_passTick_149 (by decide) (fun hb4 => ?_) (fun hb4 => ?_)
            · refine nxt _ ?_ (hf.tr hf2)
              rw [e3]
              unfold xs_cu
              rw [if_neg]
              · exact hr2
              · intro q; rw [if_pos q, hb4] at e1; exact absurd e1 (by decide)
            · refine mv_aload_n (pc := 152) dX3_passTick_152 rfl ?_
              refine mv_iload_n (pc := 153) dX3_passTick_153 rfl ?_
              refine mv_cVv (pc := 154) dX3_passTick_154 lk3_109 (congrArg Prod.fst hp.o) (c3_end (K.fr (hf.tr hf2)) hr2 w1 hkn (by rw [w3 0 (by decide)]; exact hb2)) rfl rfl (Nat.le_of_ble_eq_true rfl) (by decide) (by decide) (fun J3 ⟨hr3, hf3⟩ => ?_)
              refine nxt _ ?_ ((hf.tr hf2).tr hf3)
              rw [e3]
              unfold xs_cu
              rw [if_pos]
              · exact hr3
              · exact Classical.byContradiction fun q => hb4 (by rw [e1, if_neg q])
  have l2 : ∀ (f k : Nat) (J : mv_I) (y0 : xs_X), nt < k + f → k ≤ nt → xs_W nt π y0 → y0 8 0 = nI (τ + 1) → rc_R J p nt (xs_u (xs_p2 nt π) y0 k) → rc_Fr p I J → xs_d (xs_p3 nt π) nt (xs_u (xs_p2 nt π) y0 nt) = xs_tk nt π x → mv_E l D b0 m3_passTick (mv_rm 5) Q 67 [.ref p, .int (nI k)] [] 0 0 n sh J R := by
    intro f
    induction f with
    | zero => intro k J y0 h1 h2; omega
    | succ f ih =>
      intro k J y0 h1 h2 hW0 h80 hr hf hy
      have hWk : xs_W nt π (xs_u (xs_p2 nt π) y0 k) ∧ xs_u (xs_p2 nt π) y0 k 8 0 = y0 8 0 := xs_W.u (f := xs_p2 nt π) (fun y t hy ht => hy.p2 hpw ht) hW0 k h2
      have hpc' := (K.fr hf).2.2.2.2.1
      refine mv_iload_n (pc := 67) dX3_passTick_67 rfl ?_
      refine mv_aload_n (pc := 68) dX3_passTick_68 rfl ?_
      refine mv_getR (pc := 69) (q := q) dX3_passTick_69 fl3_65 (fun _ _ => rfl) (congrArg Prod.fst hp.o) hpl ?_
      refine mv_getIx (pc := 72) (x := nI nt) dX3_passTick_72 fl3_83 rfl (congrArg Prod.fst hq.o) hpc'.1 ?_
      refine mv_icmp_ge (pc := 75) (tgt := 112) dX3_passTick_75 (by decide) (fun hb => ?_) (fun hb => ?_)
      · have : k = nt := by
          have := (nI_leI (a := nt) (b := k) (by omega) (by omega)).mp hb
          omega
        subst this
        refine mv_aload_n (pc := 112) dX3_passTick_112 rfl ?_
        refine mv_getR (pc := 113) (q := q) dX3_passTick_113 fl3_65 (fun _ _ => rfl) (congrArg Prod.fst hp.o) hpl ?_
        refine mv_getIx (pc := 116) (x := nI k) dX3_passTick_116 fl3_83 rfl (congrArg Prod.fst hq.o) hpc'.1 ?_
        refine mv_iconst (pc := 119) (v := 1) dX3_passTick_119 (by decide) ?_
        refine mv_isub (pc := 120) dX3_passTick_120 ?_
        refine mv_istore_n (pc := 121) dX3_passTick_121 (by decide) ?_
        exact l3 k J _ _ (by omega) rfl hr hWk.1 hf hy
      · have hkn : k < nt := by
          rcases Nat.lt_or_ge k nt with q | q
          · exact q
          · exact absurd (nI_le q (by omega)) hb
        have nxt : ∀ J2, rc_R J2 p nt (xs_u (xs_p2 nt π) y0 (k + 1)) → rc_Fr p I J2 → mv_E l D b0 m3_passTick (mv_rm 5) Q 106 [.ref p, .int (nI k)] [] 0 0 n sh J2 R := by
          intro J2 hr2 hf2
          refine mv_iinc (pc := 106) (v := nI (k + 1)) dX3_passTick_106 (by decide) rfl (nI_1 k) ?_
          refine mv_goto (pc := 109) (tgt := 67) dX3_passTick_109 (by decide) ?_
          exact ih (k + 1) J2 y0 (by omega) (by omega) hW0 h80 hr2 hf2 hy
        have eu : xs_u (xs_p2 nt π) y0 (k + 1) = xs_p2 nt π (xs_u (xs_p2 nt π) y0 k) k := rfl
        generalize hyk : xs_u (xs_p2 nt π) y0 k = y at hr hWk eu
        rw [eu] at nxt
        refine mv_aload_n (pc := 78) dX3_passTick_78 rfl ?_
        refine mv_getR (pc := 79) (q := p + 1) dX3_passTick_79 fl3_15 (fun _ _ => rfl) (congrArg Prod.fst hp.o) hp.f2 ?_
        refine mv_iload_n (pc := 82) dX3_passTick_82 rfl ?_
        refine mv_ialdx (pc := 83) (x := y k 0) (k := k) dX3_passTick_83 hp.g2 rfl (by omega) ((hr.2.1 k hkn).1 0 (by decide)) ?_
        refine mv_iconst (pc := 84) (v := 1) dX3_passTick_84 (by decide) ?_
        refine mv_icmp_ne (pc := 85) (tgt := 106) dX3_passTick_85 (by decide) (fun hb2 => ?_) (fun hb2 => ?_)
        · exact nxt J (by unfold xs_p2; rw [if_neg (fun q => hb2 q.1)]; exact hr) hf
        · refine mv_aload_n (pc := 88) dX3_passTick_88 rfl ?_
          refine mv_getR (pc := 89) (q := p + 3) dX3_passTick_89 fl3_22 (fun _ _ => rfl) (congrArg Prod.fst hp.o) hp.f4 ?_
          refine mv_iload_n (pc := 92) dX3_passTick_92 rfl ?_
          refine mv_ialdx (pc := 93) (x := y k 7) (k := k) dX3_passTick_93 hp.g4 rfl (by omega) ((hr.2.1 k hkn).1 7 (by decide)) ?_
          refine mv_aload_n (pc := 94) dX3_passTick_94 rfl ?_
          refine mv_getIx (pc := 95) (x := nI (τ + 1)) dX3_passTick_95 fl3_9 rfl (congrArg Prod.fst hp.o) (hr.1.1.trans (hWk.2.trans h80)) ?_
          refine mv_icmp_ge (pc := 98) (tgt := 106) dX3_passTick_98 (by decide) (fun hb3 => ?_) (fun hb3 => ?_)
          · refine nxt J ?_ hf
            unfold xs_p2
            rw [if_neg]
            · exact hr
            · rintro ⟨-, q | q⟩
              · subst q
                rw [hWk.1.2.2.1] at hb3
                exact absurd hb3 (nI_nle (by omega) (by omega))
              · rw [hWk.2.trans h80] at q
                exact absurd hb3 (Int32.not_le.mpr q)
          · refine mv_aload_n (pc := 101) dX3_passTick_101 rfl ?_
            refine mv_iload_n (pc := 102) dX3_passTick_102 rfl ?_
            refine mv_cVv (pc := 103) dX3_passTick_103 lk3_97 (congrArg Prod.fst hp.o) (c3_goOn (K.fr hf) hr hWk.1 hkn hb2) rfl rfl (Nat.le_of_ble_eq_true rfl) (by decide) (by decide) (fun J2 ⟨hr2, hf2⟩ => ?_)
            refine nxt J2 ?_ (hf.tr hf2)
            unfold xs_p2
            rw [if_pos ⟨hb2, Or.inr (by rw [hWk.2.trans h80]; exact Int32.not_le.mp hb3)⟩]
            exact hr2
  have hW0 := hW.tick hn hτ hτ2
  have h80 : mv_up x 8 0 (x 8 0 + 1) 8 0 = nI (τ + 1) := by rw [mv_upe, hτ, nI_1]
  have l1 : ∀ (f k : Nat) (J : mv_I), nt < k + f → k ≤ nt → rc_R J p nt (xs_u (xs_p1 nt π) (mv_up x 8 0 (x 8 0 + 1)) k) → rc_Fr p I J → mv_E l D b0 m3_passTick (mv_rm 5) Q 12 [.ref p, .int (nI k)] [] 0 0 n sh J R := by
    intro f
    induction f with
    | zero => intro k J h1 h2; omega
    | succ f ih =>
      intro k J h1 h2 hr hf
      have hWk : xs_W nt π (xs_u (xs_p1 nt π) (mv_up x 8 0 (x 8 0 + 1)) k) ∧ xs_u (xs_p1 nt π) (mv_up x 8 0 (x 8 0 + 1)) k 8 0 = mv_up x 8 0 (x 8 0 + 1) 8 0 := xs_W.u (f := xs_p1 nt π) (fun y t hy ht => hy.p1 hpw ht) hW0 k h2
      have hpc' := (K.fr hf).2.2.2.2.1
      refine mv_iload_n (pc := 12) dX3_passTick_12 rfl ?_
      refine mv_aload_n (pc := 13) dX3_passTick_13 rfl ?_
      refine mv_getR (pc := 14) (q := q) dX3_passTick_14 fl3_65 (fun _ _ => rfl) (congrArg Prod.fst hp.o) hpl ?_
      refine mv_getIx (pc := 17) (x := nI nt) dX3_passTick_17 fl3_83 rfl (congrArg Prod.fst hq.o) hpc'.1 ?_
      refine mv_icmp_ge (pc := 20) (tgt := 65) dX3_passTick_20 (by decide) (fun hb => ?_) (fun hb => ?_)
      · have : k = nt := by
          have := (nI_leI (a := nt) (b := k) (by omega) (by omega)).mp hb
          omega
        subst this
        refine mv_iconst (pc := 65) (v := 0) dX3_passTick_65 (by decide) ?_
        refine mv_istore_n (pc := 66) dX3_passTick_66 (by decide) ?_
        exact l2 (k + 1) 0 J _ (by omega) (by omega) hWk.1 (hWk.2.trans h80) hr hf rfl
      · have hkn : k < nt := by
          rcases Nat.lt_or_ge k nt with q | q
          · exact q
          · exact absurd (nI_le q (by omega)) hb
        have nxt : ∀ J2, rc_R J2 p nt (xs_u (xs_p1 nt π) (mv_up x 8 0 (x 8 0 + 1)) (k + 1)) → rc_Fr p I J2 → mv_E l D b0 m3_passTick (mv_rm 5) Q 59 [.ref p, .int (nI k)] [] 0 0 n sh J2 R := by
          intro J2 hr2 hf2
          refine mv_iinc (pc := 59) (v := nI (k + 1)) dX3_passTick_59 (by decide) rfl (nI_1 k) ?_
          refine mv_goto (pc := 62) (tgt := 12) dX3_passTick_62 (by decide) ?_
          exact ih (k + 1) J2 (by omega) (by omega) hr2 hf2
        have eu : xs_u (xs_p1 nt π) (mv_up x 8 0 (x 8 0 + 1)) (k + 1) = xs_p1 nt π (xs_u (xs_p1 nt π) (mv_up x 8 0 (x 8 0 + 1)) k) k := rfl
        generalize hyk : xs_u (xs_p1 nt π) (mv_up x 8 0 (x 8 0 + 1)) k = y at hr hWk eu
        rw [eu] at nxt
        refine mv_aload_n (pc := 23) dX3_passTick_23 rfl ?_
        refine mv_getR (pc := 24) (q := p + 1) dX3_passTick_24 fl3_15 (fun _ _ => rfl) (congrArg Prod.fst hp.o) hp.f2 ?_
        refine mv_iload_n (pc := 27) dX3_passTick_27 rfl ?_
        refine mv_ialdx (pc := 28) (x := y k 0) (k := k) dX3_passTick_28 hp.g2 rfl (by omega) ((hr.2.1 k hkn).1 0 (by decide)) ?_
        refine mv_iconst (pc := 29) (v := 1) dX3_passTick_29 (by decide) ?_
        refine mv_icmp_ne (pc := 30) (tgt := 59) dX3_passTick_30 (by decide) (fun hb2 => ?_) (fun hb2 => ?_)
        · exact nxt J (by unfold xs_p1; rw [if_neg (fun q => hb2 q.1)]; exact hr) hf
        · have hdu := (hr.2.1 k hkn).2.2.1
          have h4 : y k 4 ≠ 0 := fun z => absurd (((hWk.1.2.2.2 k hkn).run (a := 1) hb2 (by decide)).1.mpr z) (by decide)
          have e80 : y 8 0 = nI (τ + 1) := hWk.2.trans h80
          have hcmp : nI (τ + 1) ≤ J (p + 5) k ↔ ¬ y k 4 < y 8 0 := by
            rw [e80]
            rcases xs_dun hdu h4 with ⟨q1, q2⟩ | ⟨z, z1, z2, q1, q2⟩
            · rw [q1, q2]
              exact ⟨fun _ => nI_nlt (a := 9999) (by omega) (by decide), fun _ => nI_le (b := 1000000) (by omega) (by decide)⟩
            · rw [q1, q2]
              exact Int32.not_lt.symm
          refine mv_aload_n (pc := 33) dX3_passTick_33 rfl ?_
          refine mv_getIx (pc := 34) (x := nI (τ + 1)) dX3_passTick_34 fl3_9 rfl (congrArg Prod.fst hp.o) (hr.1.1.trans e80) ?_
          refine mv_aload_n (pc := 37) dX3_passTick_37 rfl ?_
          refine mv_getR (pc := 38) (q := p + 5) dX3_passTick_38 fl3_28 (fun _ _ => rfl) (congrArg Prod.fst hp.o) hp.f6 ?_
          refine mv_iload_n (pc := 41) dX3_passTick_41 rfl ?_
          refine mv_iald (pc := 42) (k := k) dX3_passTick_42 hp.g6 rfl (by omega) ?_
          refine mv_icmp_le (pc := 43) (tgt := 59) dX3_passTick_43 (by decide) (fun hb3 => ?_) (fun hb3 => ?_)
          · exact nxt J (by unfold xs_p1; rw [if_neg (fun q => hcmp.mp hb3 q.2)]; exact hr) hf
          · obtain ⟨c, hc8, hc⟩ := (hWk.1.2.2.2 k hkn).2.1
            obtain ⟨e, he6, he⟩ := hWk.1.2.1
            refine mv_aload_n (pc := 46) dX3_passTick_46 rfl ?_
            refine mv_iload_n (pc := 47) dX3_passTick_47 rfl ?_
            refine mv_bipush (pc := 48) (v := 10) dX3_passTick_48 (by decide) ?_
            refine mv_cVv (pc := 50) dX3_passTick_50 lk3_91 (congrArg Prod.fst hp.o) (c3_addCode hp hr hn hkn hc hc8) rfl rfl (Nat.le_of_ble_eq_true rfl) (by decide) (by decide) (fun J2 ⟨hr2, hf2⟩ => ?_)
            refine mv_aload_n (pc := 53) dX3_passTick_53 rfl ?_
            refine mv_iload_n (pc := 54) dX3_passTick_54 rfl ?_
            refine mv_iconst (pc := 55) (v := 3) dX3_passTick_55 (by decide) ?_
            refine mv_cVv (pc := 56) dX3_passTick_56 lk3_94 (congrArg Prod.fst hp.o) (c3_close (K.fr (hf.tr hf2)) hr2 hkn (by rw [xs_cd_ne (by omega)]; exact he) he6) rfl rfl (Nat.le_of_ble_eq_true rfl) (by decide) (by decide) (fun J3 ⟨hr3, hf3⟩ => ?_)
            refine nxt J3 ?_ ((hf.tr hf2).tr hf3)
            unfold xs_p1
            rw [if_pos ⟨hb2, Classical.byContradiction fun q => hb3 (hcmp.mpr q)⟩]
            exact hr3
  refine mv_aload_n (pc := 0) dX3_passTick_0 rfl ?_
  refine mv_dup (pc := 1) dX3_passTick_1 rfl ?_
  refine mv_getIx (pc := 2) (x := x 8 0) dX3_passTick_2 fl3_9 rfl (congrArg Prod.fst hp.o) h.1.1 ?_
  refine mv_iconst (pc := 5) (v := 1) dX3_passTick_5 (by decide) ?_
  refine mv_iadd (pc := 6) dX3_passTick_6 ?_
  refine mv_putI (pc := 7) dX3_passTick_7 fl3_9 rfl rfl (congrArg Prod.fst hp.o) ?_
  refine mv_iconst (pc := 10) (v := 0) dX3_passTick_10 (by decide) ?_
  refine mv_istore_n (pc := 11) dX3_passTick_11 (by decide) ?_
  exact l1 (nt + 1) 0 _ (by omega) (by omega) (rc_tick h hn) (rc_Fr.rf.up (by omega))
theorem c3_passTick {l : Launch} {D : va_G} {b0 n : Nat} {sh : mv_Sh} {I : mv_I} {R : mv_R} {p q nt τ : Nat} {π x : xs_X} (K : rc_P sh R I p q nt π) (h : rc_R I p nt x) (hW : xs_W nt π x) (hτ : x 8 0 = nI τ) (hτ2 : τ < 2000) : mv_C l D b0 m3_passTick (mv_rm 5) [.ref p] n sh I R (mv_Pv n sh R (fun I' => rc_R I' p nt (xs_tk nt π x) ∧ rc_Fr p I I')) := mv_C.of 1 (by decide) (by simp [Value.category]) rfl (e3_passTick K h hW hτ hτ2 (fun _ h => mv_Pv.mk h))
/-- so many ticks at most, till one of two is ended -/
def xs_go (n : Nat) (π : xs_X) (t : Nat) : Nat → xs_X → xs_X
  | 0, x => x
  | f + 1, x => if x t 0 = 3 ∨ x 0 0 = 3 then x else xs_go n π t f (xs_tk n π x)
theorem xs_W.go {n t : Nat} {π : xs_X} (hp : pl_W n π) : ∀ (f τ : Nat) (x : xs_X), xs_W n π x → x 8 0 = nI τ → τ + f ≤ 2000 → xs_W n π (xs_go n π t f x)
  | 0, _, x, h, _, _ => h
  | f + 1, τ, x, h, hτ, h2 => by
    unfold xs_go
    split
    · exact h
    · have := h.tk hp hτ (by omega)
      exact xs_W.go hp f (τ + 1) _ this.1 this.2 (by omega)
set_option maxHeartbeats 4000000 in
set_option maxRecDepth 100000 in
theorem e3_passUntilEnded {l : Launch} {D : va_G} {b0 n : Nat} {sh : mv_Sh} {I : mv_I} {R : mv_R} {Q : mv_Q} {p q nt τ t m : Nat} {π x : xs_X} (K : rc_P sh R I p q nt π) (h : rc_R I p nt x) (hW : xs_W nt π x) (ht : t < nt) (hτ : x 8 0 = nI τ) (hτ2 : τ + m ≤ 2000) (hQ : ∀ r I', (r = (if xs_go nt π t m x t 0 = 3 then 1 else 0) ∧ rc_R I' p nt (xs_go nt π t m x) ∧ rc_Fr p I I') → Q (some (.int r)) n sh I' R) : mv_E l D b0 m3_passUntilEnded (mv_rm 6) Q 0 [.ref p, .int (nI t), .int (nI m), .null] [] 0 0 n sh I R := by
  obtain ⟨hp, hq, hpl, hdj, hpc, hpw⟩ := id K
  have hn := hpw.2.1
  have hn1 := hpw.1
  have fin : ∀ (i : Nat) (J : mv_I), rc_R J p nt (xs_go nt π t m x) → rc_Fr p I J → mv_E l D b0 m3_passUntilEnded (mv_rm 6) Q 37 [.ref p, .int (nI t), .int (nI m), .int (nI i)] [] 0 0 n sh J R := by
    intro i J hr hf
    refine mv_aload_n (pc := 37) dX3_passUntilEnded_37 rfl ?_
    refine mv_getR (pc := 38) (q := p + 1) dX3_passUntilEnded_38 fl3_15 (fun _ _ => rfl) (congrArg Prod.fst hp.o) hp.f2 ?_
    refine mv_iload_n (pc := 41) dX3_passUntilEnded_41 rfl ?_
    refine mv_ialdx (pc := 42) (x := xs_go nt π t m x t 0) (k := t) dX3_passUntilEnded_42 hp.g2 rfl (by omega) ((hr.2.1 t ht).1 0 (by decide)) ?_
    refine mv_iconst (pc := 43) (v := 3) dX3_passUntilEnded_43 (by decide) ?_
    refine mv_icmp_ne (pc := 44) (tgt := 51) dX3_passUntilEnded_44 (by decide) (fun hb => ?_) (fun hb => ?_)
    · refine mv_iconst (pc := 51) (v := 0) dX3_passUntilEnded_51 (by decide) ?_
      exact mv_zret (pc := 52) dX3_passUntilEnded_52 rfl (by rfl) (by decide) (by decide) (hQ _ _ ⟨by rw [if_neg hb], hr, hf⟩)
    · refine mv_iconst (pc := 47) (v := 1) dX3_passUntilEnded_47 (by decide) ?_
      refine mv_goto (pc := 48) (tgt := 52) dX3_passUntilEnded_48 (by decide) ?_
      exact mv_zret (pc := 52) dX3_passUntilEnded_52 rfl (by rfl) (by decide) (by decide) (hQ _ _ ⟨by rw [if_pos hb], hr, hf⟩)
  have loop : ∀ (f i τ : Nat) (J : mv_I) (y : xs_X), i + f = m → rc_R J p nt y → xs_W nt π y → y 8 0 = nI τ → τ + f ≤ 2000 → rc_Fr p I J → xs_go nt π t f y = xs_go nt π t m x → mv_E l D b0 m3_passUntilEnded (mv_rm 6) Q 2 [.ref p, .int (nI t), .int (nI m), .int (nI i)] [] 0 0 n sh J R := by
    intro f
    induction f with
    | zero =>
      intro i τ J y hi hr hWy hτy hτm hf hy
      refine mv_iload_n (pc := 2) dX3_passUntilEnded_2 rfl ?_
      refine mv_iload_n (pc := 3) dX3_passUntilEnded_3 rfl ?_
      refine mv_icmp_ge (pc := 4) (tgt := 37) dX3_passUntilEnded_4 (by decide) (fun hb => ?_) (fun hb => ?_)
      · exact fin i J (by rw [← hy]; exact hr) hf
      · exact absurd (nI_le (by omega) (by omega)) hb
    | succ f ih =>
      intro i τ J y hi hr hWy hτy hτm hf hy
      have stop : (y t 0 = 3 ∨ y 0 0 = 3) → rc_R J p nt (xs_go nt π t m x) := by
        intro q
        rw [← hy]
        unfold xs_go
        rw [if_pos q]
        exact hr
      refine mv_iload_n (pc := 2) dX3_passUntilEnded_2 rfl ?_
      refine mv_iload_n (pc := 3) dX3_passUntilEnded_3 rfl ?_
      refine mv_icmp_ge (pc := 4) (tgt := 37) dX3_passUntilEnded_4 (by decide) (fun hb => ?_) (fun hb => ?_)
      · exact absurd hb (nI_ge (by omega) (by omega))
      · refine mv_aload_n (pc := 7) dX3_passUntilEnded_7 rfl ?_
        refine mv_getR (pc := 8) (q := p + 1) dX3_passUntilEnded_8 fl3_15 (fun _ _ => rfl) (congrArg Prod.fst hp.o) hp.f2 ?_
        refine mv_iload_n (pc := 11) dX3_passUntilEnded_11 rfl ?_
        refine mv_ialdx (pc := 12) (x := y t 0) (k := t) dX3_passUntilEnded_12 hp.g2 rfl (by omega) ((hr.2.1 t ht).1 0 (by decide)) ?_
        refine mv_iconst (pc := 13) (v := 3) dX3_passUntilEnded_13 (by decide) ?_
        refine mv_icmp_eq (pc := 14) (tgt := 37) dX3_passUntilEnded_14 (by decide) (fun hb2 => ?_) (fun hb2 => ?_)
        · exact fin i J (stop (Or.inl hb2)) hf
        · refine mv_aload_n (pc := 17) dX3_passUntilEnded_17 rfl ?_
          refine mv_getR (pc := 18) (q := p + 1) dX3_passUntilEnded_18 fl3_15 (fun _ _ => rfl) (congrArg Prod.fst hp.o) hp.f2 ?_
          refine mv_iconst (pc := 21) (v := 0) dX3_passUntilEnded_21 (by decide) ?_
          refine mv_ialdx (pc := 22) (x := y 0 0) (k := 0) dX3_passUntilEnded_22 hp.g2 (by decide) (by omega) ((hr.2.1 0 (by omega)).1 0 (by decide)) ?_
          refine mv_iconst (pc := 23) (v := 3) dX3_passUntilEnded_23 (by decide) ?_
          refine mv_icmp_eq (pc := 24) (tgt := 37) dX3_passUntilEnded_24 (by decide) (fun hb3 => ?_) (fun hb3 => ?_)
          · exact fin i J (stop (Or.inr hb3)) hf
          · refine mv_aload_n (pc := 27) dX3_passUntilEnded_27 rfl ?_
            refine mv_cVv (pc := 28) dX3_passUntilEnded_28 lk3_80 (congrArg Prod.fst hp.o) (c3_passTick (K.fr hf) hr hWy hτy (by omega)) rfl rfl (Nat.le_of_ble_eq_true rfl) (by decide) (by decide) (fun J2 ⟨hr2, hf2⟩ => ?_)
            refine mv_iinc (pc := 31) (v := nI (i + 1)) dX3_passUntilEnded_31 (by decide) rfl (nI_1 i) ?_
            refine mv_goto (pc := 34) (tgt := 2) dX3_passUntilEnded_34 (by decide) ?_
            have hWt := hWy.tk hpw hτy (by omega)
            refine ih (i + 1) (τ + 1) J2 _ (by omega) hr2 hWt.1 hWt.2 (by omega) (hf.tr hf2) ?_
            rw [← hy, xs_go, if_neg (fun q => q.elim hb2 hb3)]
  refine mv_iconst (pc := 0) (v := 0) dX3_passUntilEnded_0 (by decide) ?_
  refine mv_istore_n (pc := 1) dX3_passUntilEnded_1 (by decide) ?_
  exact loop m 0 τ I x (by omega) h hW hτ (by omega) rc_Fr.rf rfl
theorem c3_passUntilEnded {l : Launch} {D : va_G} {b0 n : Nat} {sh : mv_Sh} {I : mv_I} {R : mv_R} {p q nt τ t m : Nat} {π x : xs_X} (K : rc_P sh R I p q nt π) (h : rc_R I p nt x) (hW : xs_W nt π x) (ht : t < nt) (hτ : x 8 0 = nI τ) (hτ2 : τ + m ≤ 2000) : mv_C l D b0 m3_passUntilEnded (mv_rm 6) [.ref p, .int (nI t), .int (nI m)] n sh I R (mv_Pi n sh R (fun r I' => r = (if xs_go nt π t m x t 0 = 3 then 1 else 0) ∧ rc_R I' p nt (xs_go nt π t m x) ∧ rc_Fr p I I')) := mv_C.of 1 (by decide) (by simp [Value.category]) rfl (e3_passUntilEnded K h hW ht hτ hτ2 (fun _ _ h => mv_Pi.mk h))
set_option maxHeartbeats 4000000 in
set_option maxRecDepth 100000 in
theorem e3_hadEndedBy {l : Launch} {D : va_G} {b0 n : Nat} {sh : mv_Sh} {I : mv_I} {R : mv_R} {Q : mv_Q} {p nt t : Nat} {x : xs_X} {w : Int32} (hp : ly_Run sh R p) (h : rc_R I p nt x) (hn : nt ≤ 8) (ht : t < nt) (h8 : x t 0 = 3 → x t 8 ≠ -9) (hQ : ∀ r I', (r = (if x t 0 = 3 ∧ x t 8 ≤ w then 1 else 0) ∧ I' = I) → Q (some (.int r)) n sh I' R) : mv_E l D b0 m3_hadEndedBy (mv_rm 0) Q 0 [.ref p, .int (nI t), .int w] [] 0 0 n sh I R := by
  refine mv_aload_n (pc := 0) dX3_hadEndedBy_0 rfl ?_
  refine mv_getR (pc := 1) (q := p + 1) dX3_hadEndedBy_1 fl3_15 (fun _ _ => rfl) (congrArg Prod.fst hp.o) hp.f2 ?_
  refine mv_iload_n (pc := 4) dX3_hadEndedBy_4 rfl ?_
  refine mv_ialdx (pc := 5) (x := x t 0) (k := t) dX3_hadEndedBy_5 hp.g2 rfl (by omega) ((h.2.1 t ht).1 0 (by decide)) ?_
  refine mv_iconst (pc := 6) (v := 3) dX3_hadEndedBy_6 (by decide) ?_
  refine mv_icmp_ne (pc := 7) (tgt := 24) dX3_hadEndedBy_7 (by decide) (fun hb => ?_) (fun hb => ?_)
  · refine mv_iconst (pc := 24) (v := 0) dX3_hadEndedBy_24 (by decide) ?_
    exact mv_zret (pc := 25) dX3_hadEndedBy_25 rfl (by rfl) (by decide) (by decide) (hQ _ _ ⟨by rw [if_neg (fun q => hb q.1)], rfl⟩)
  · have e : I (p + 4) t = x t 8 := (h.2.1 t ht).2.1.resolve_left (h8 hb)
    refine mv_aload_n (pc := 10) dX3_hadEndedBy_10 rfl ?_
    refine mv_getR (pc := 11) (q := p + 4) dX3_hadEndedBy_11 fl3_25 (fun _ _ => rfl) (congrArg Prod.fst hp.o) hp.f5 ?_
    refine mv_iload_n (pc := 14) dX3_hadEndedBy_14 rfl ?_
    refine mv_ialdx (pc := 15) (x := x t 8) (k := t) dX3_hadEndedBy_15 hp.g5 rfl (by omega) e ?_
    refine mv_iload_n (pc := 16) dX3_hadEndedBy_16 rfl ?_
    refine mv_icmp_gt (pc := 17) (tgt := 24) dX3_hadEndedBy_17 (by decide) (fun hb2 => ?_) (fun hb2 => ?_)
    · refine mv_iconst (pc := 24) (v := 0) dX3_hadEndedBy_24 (by decide) ?_
      exact mv_zret (pc := 25) dX3_hadEndedBy_25 rfl (by rfl) (by decide) (by decide) (hQ _ _ ⟨by rw [if_neg (fun q => absurd q.2 (Int32.not_le.mpr hb2))], rfl⟩)
    · refine mv_iconst (pc := 20) (v := 1) dX3_hadEndedBy_20 (by decide) ?_
      refine mv_goto (pc := 21) (tgt := 25) dX3_hadEndedBy_21 (by decide) ?_
      exact mv_zret (pc := 25) dX3_hadEndedBy_25 rfl (by rfl) (by decide) (by decide) (hQ _ _ ⟨by rw [if_pos ⟨hb, Int32.not_lt.mp hb2⟩], rfl⟩)
theorem c3_hadEndedBy {l : Launch} {D : va_G} {b0 n : Nat} {sh : mv_Sh} {I : mv_I} {R : mv_R} {p nt t : Nat} {x : xs_X} {w : Int32} (hp : ly_Run sh R p) (h : rc_R I p nt x) (hn : nt ≤ 8) (ht : t < nt) (h8 : x t 0 = 3 → x t 8 ≠ -9) : mv_C l D b0 m3_hadEndedBy (mv_rm 0) [.ref p, .int (nI t), .int w] n sh I R (mv_Pi n sh R (fun r I' => r = (if x t 0 = 3 ∧ x t 8 ≤ w then 1 else 0) ∧ I' = I)) := mv_C.of 0 (by decide) (by simp [Value.category]) rfl (e3_hadEndedBy hp h hn ht h8 (fun _ _ h => mv_Pi.mk h))
/-- how many of the first c tasks are so -/
def xs_ct (x : xs_X) (w : Int32) : Nat → Nat
  | 0 => 0
  | c + 1 => if x c 0 = w then xs_ct x w c + 1 else xs_ct x w c
set_option maxHeartbeats 4000000 in
set_option maxRecDepth 100000 in
theorem e3_countThatAre {l : Launch} {D : va_G} {b0 n : Nat} {sh : mv_Sh} {I : mv_I} {R : mv_R} {Q : mv_Q} {p q nt : Nat} {π x : xs_X} {w : Int32} (K : rc_P sh R I p q nt π) (h : rc_R I p nt x) (hQ : ∀ r I', (r = nI (xs_ct x w nt) ∧ I' = I) → Q (some (.int r)) n sh I' R) : mv_E l D b0 m3_countThatAre (mv_rm 0) Q 0 [.ref p, .int w, .null, .null] [] 0 0 n sh I R := by
  obtain ⟨hp, hq, hpl, hdj, hpc, hpw⟩ := id K
  have hn := hpw.2.1
  have loop : ∀ (f c : Nat), nt < c + f → c ≤ nt → mv_E l D b0 m3_countThatAre (mv_rm 0) Q 4 [.ref p, .int w, .int (nI (xs_ct x w c)), .int (nI c)] [] 0 0 n sh I R := by
    intro f
    induction f with
    | zero => intro c h1 h2; omega
    | succ f ih =>
      intro c h1 h2
      refine mv_iload_n (pc := 4) dX3_countThatAre_4 rfl ?_
      refine mv_aload_n (pc := 5) dX3_countThatAre_5 rfl ?_
      refine mv_getR (pc := 6) (q := q) dX3_countThatAre_6 fl3_65 (fun _ _ => rfl) (congrArg Prod.fst hp.o) hpl ?_
      refine mv_getIx (pc := 9) (x := nI nt) dX3_countThatAre_9 fl3_83 rfl (congrArg Prod.fst hq.o) hpc.1 ?_
      refine mv_icmp_ge (pc := 12) (tgt := 34) dX3_countThatAre_12 (by decide) (fun hb => ?_) (fun hb => ?_)
      · have : c = nt := by
          have := (nI_leI (a := nt) (b := c) (by omega) (by omega)).mp hb
          omega
        subst this
        refine mv_iload_n (pc := 34) dX3_countThatAre_34 rfl ?_
        exact mv_iret (pc := 35) dX3_countThatAre_35 rfl (by decide) (by decide) (hQ _ _ ⟨rfl, rfl⟩)
      · have hcn : c < nt := by
          rcases Nat.lt_or_ge c nt with q | q
          · exact q
          · exact absurd (nI_le q (by omega)) hb
        have nxt : ∀ v, v = nI (xs_ct x w (c + 1)) → mv_E l D b0 m3_countThatAre (mv_rm 0) Q 28 [.ref p, .int w, .int v, .int (nI c)] [] 0 0 n sh I R := by
          intro v hv
          subst hv
          refine mv_iinc (pc := 28) (v := nI (c + 1)) dX3_countThatAre_28 (by decide) rfl (nI_1 c) ?_
          refine mv_goto (pc := 31) (tgt := 4) dX3_countThatAre_31 (by decide) ?_
          exact ih (c + 1) (by omega) (by omega)
        refine mv_aload_n (pc := 15) dX3_countThatAre_15 rfl ?_
        refine mv_getR (pc := 16) (q := p + 1) dX3_countThatAre_16 fl3_15 (fun _ _ => rfl) (congrArg Prod.fst hp.o) hp.f2 ?_
        refine mv_iload_n (pc := 19) dX3_countThatAre_19 rfl ?_
        refine mv_ialdx (pc := 20) (x := x c 0) (k := c) dX3_countThatAre_20 hp.g2 rfl (by omega) ((h.2.1 c hcn).1 0 (by decide)) ?_
        refine mv_iload_n (pc := 21) dX3_countThatAre_21 rfl ?_
        refine mv_icmp_ne (pc := 22) (tgt := 28) dX3_countThatAre_22 (by decide) (fun hb2 => ?_) (fun hb2 => ?_)
        · exact nxt _ (by rw [xs_ct, if_neg hb2])
        · refine mv_iinc (pc := 25) (v := nI (xs_ct x w c + 1)) dX3_countThatAre_25 (by decide) rfl (nI_1 _) ?_
          exact nxt _ (by rw [xs_ct, if_pos hb2])
  refine mv_iconst (pc := 0) (v := 0) dX3_countThatAre_0 (by decide) ?_
  refine mv_istore_n (pc := 1) dX3_countThatAre_1 (by decide) ?_
  refine mv_iconst (pc := 2) (v := 0) dX3_countThatAre_2 (by decide) ?_
  refine mv_istore_n (pc := 3) dX3_countThatAre_3 (by decide) ?_
  exact loop (nt + 1) 0 (by omega) (by omega)
theorem c3_countThatAre {l : Launch} {D : va_G} {b0 n : Nat} {sh : mv_Sh} {I : mv_I} {R : mv_R} {p q nt : Nat} {π x : xs_X} {w : Int32} (K : rc_P sh R I p q nt π) (h : rc_R I p nt x) : mv_C l D b0 m3_countThatAre (mv_rm 0) [.ref p, .int w] n sh I R (mv_Pi n sh R (fun r I' => r = nI (xs_ct x w nt) ∧ I' = I)) := mv_C.of 2 (by decide) (by simp [Value.category]) rfl (e3_countThatAre K h (fun _ _ h => mv_Pi.mk h))

