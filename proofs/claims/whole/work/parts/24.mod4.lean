set_option maxHeartbeats 4000000 in
set_option maxRecDepth 100000 in
theorem e6_cleansUp {l : Launch} {D : va_G} {b0 n : Nat} {sh : mv_Sh} {I : mv_I} {R : mv_R} {Q : mv_Q} {m a nt t : Nat} {π x : xs_X} (K : rm_P sh R I m a nt π) (h : rm_R I a x) (hW : xs_W nt π x) (ht : t < nt) (h2 : x t 0 = 2) (hQ : ∀ I', (rm_R I' a (xs_cu nt π x t) ∧ rm_Fr a I I') → Q none n sh I' R) : mv_E l D b0 m6_cleansUp (mv_rm 4) Q 0 [.ref m, .ref a, .int (nI t), .null] [] 0 0 n sh I R := by
  obtain ⟨hm, ha, haa, hpc, hpw⟩ := id K
  have hn := hpw.2.1
  have ht8 : t < 8 := by omega
  have mid : ∀ (J : mv_I), rm_R J a (xs_cc π x t) → rm_Fr a I J → mv_E l D b0 m6_cleansUp (mv_rm 4) Q 29 [.ref m, .ref a, .int (nI t), .null] [] 0 0 n sh J R := by
    intro J hr hf
    obtain ⟨w1, w2, w3⟩ := hW.cc ht hn
    have hy2 : xs_cc π x t t 0 = 2 := by rw [w3 0 (by decide)]; exact h2
    have ecu : xs_cu nt π x t = if xs_cc π x t t 6 = π t 4 then xs_en nt π (xs_cc π x t) t else xs_cc π x t := rfl
    generalize hyy : xs_cc π x t = y at hr w1 hy2 ecu
    rw [ecu] at hQ
    have hpc' := (K.fr hf).2.2.2.1
    obtain ⟨⟨τ, hτ2, hτ⟩, ⟨e, he6, he⟩, -, hT⟩ := id w1
    refine mv_aload_n (pc := 29) dX6_cleansUp_29 rfl ?_
    refine mv_iload_n (pc := 30) dX6_cleansUp_30 rfl ?_
    refine mv_bipush (pc := 31) (v := 6) dX6_cleansUp_31 (by decide) ?_
    refine mv_cSi (pc := 33) dX6_cleansUp_33 lk6_161 (c6_at ha hr ht8 (k := 6) (by decide)) rfl rfl (Nat.le_of_ble_eq_true rfl) (by decide) (by decide) (fun r J' ⟨e1, e2⟩ => ?_)
    subst e1 e2
    refine mv_aload_n (pc := 36) dX6_cleansUp_36 rfl ?_
    refine mv_getR (pc := 37) (q := m + 13) dX6_cleansUp_37 fl6_46 (fun _ _ => rfl) (congrArg Prod.fst hm.o) hm.f22 ?_
    refine mv_iload_n (pc := 40) dX6_cleansUp_40 rfl ?_
    refine mv_ialdx (pc := 41) (x := π t 4) (k := t) dX6_cleansUp_41 hm.g22 rfl (by omega) (hpc'.2 t ht).2.2.2.2.1 ?_
    refine mv_icmp_ne (pc := 42) (tgt := 101) dX6_cleansUp_42 (by decide) (fun hb => ?_) (fun hb => ?_)
    · refine mv_vret (pc := 101) dX6_cleansUp_101 rfl (by decide) (by decide) (hQ _ ⟨?_, hf⟩)
      rw [if_neg hb]
      exact hr
    · rw [if_pos hb] at hQ
      refine mv_aload_n (pc := 45) dX6_cleansUp_45 rfl ?_
      refine mv_bipush (pc := 46) (v := 18) dX6_cleansUp_46 (by decide) ?_
      refine mv_iload_n (pc := 48) dX6_cleansUp_48 rfl ?_
      refine mv_imul (pc := 49) dX6_cleansUp_49 ?_
      refine mv_iconst (pc := 50) (v := 0) dX6_cleansUp_50 (by decide) ?_
      refine mv_iadd (pc := 51) dX6_cleansUp_51 ?_
      refine mv_iconst (pc := 52) (v := 3) dX6_cleansUp_52 (by decide) ?_
      refine mv_iast (pc := 53) (k := 18 * t + 0) dX6_cleansUp_53 ha (mv_jx 18 t 0) (by omega) ?_
      refine mv_aload_n (pc := 54) dX6_cleansUp_54 rfl ?_
      refine mv_bipush (pc := 55) (v := 18) dX6_cleansUp_55 (by decide) ?_
      refine mv_iload_n (pc := 57) dX6_cleansUp_57 rfl ?_
      refine mv_imul (pc := 58) dX6_cleansUp_58 ?_
      refine mv_bipush (pc := 59) (v := 8) dX6_cleansUp_59 (by decide) ?_
      refine mv_iadd (pc := 61) dX6_cleansUp_61 ?_
      refine mv_aload_n (pc := 62) dX6_cleansUp_62 rfl ?_
      refine mv_sipush (pc := 63) (v := 144) dX6_cleansUp_63 (by decide) ?_
      refine mv_ialdx (pc := 66) (x := y 8 0) (k := 144) dX6_cleansUp_66 ha (by decide) (by omega) (by rw [(rm_set 0 hr ht8 (by decide)).2.1.1, mv_upN 8 (by omega)]) ?_
      refine mv_iast (pc := 67) (k := 18 * t + 8) dX6_cleansUp_67 ha (mv_jx 18 t 8) (by omega) ?_
      refine mv_aload_n (pc := 68) dX6_cleansUp_68 rfl ?_
      refine mv_iload_n (pc := 69) dX6_cleansUp_69 rfl ?_
      refine mv_iconst (pc := 70) (v := 2) dX6_cleansUp_70 (by decide) ?_
      refine mv_cSv (pc := 71) dX6_cleansUp_71 lk6_173 (c6_traces ha (rm_set 8 (rm_set 0 hr ht8 (by decide)) ht8 (by decide)) (by rw [mv_upN 8 (by omega), mv_upN 8 (by omega)]; exact he) he6) rfl rfl (Nat.le_of_ble_eq_true rfl) (by decide) (by decide) (fun J2 ⟨hr2, hf2⟩ => ?_)
      have fJ := (hf.up.up).tr hf2
      have x1t : ∀ k, k ≠ 0 → k ≠ 8 → xs_tr (mv_up (mv_up y t 0 3) t 8 (y 8 0)) t 2 t k = y t k := fun k a b => by
        rw [xs_tr_lo (by omega)]; simp [mv_up, a, b]
      have hWe := w1.en0 ht hn hy2
      refine mv_aload_n (pc := 74) dX6_cleansUp_74 rfl ?_
      refine mv_iload_n (pc := 75) dX6_cleansUp_75 rfl ?_
      refine mv_iconst (pc := 76) (v := 1) dX6_cleansUp_76 (by decide) ?_
      refine mv_cSi (pc := 77) dX6_cleansUp_77 lk6_161 (c6_at ha hr2 ht8 (k := 1) (by decide)) rfl rfl (Nat.le_of_ble_eq_true rfl) (by decide) (by decide) (fun r J' ⟨e1, e2⟩ => ?_)
      subst e1 e2
      refine mv_top (y := y t 1) (x1t 1 (by decide) (by decide)) ?_
      have no : ¬ (0 < t ∧ (y t 1 = 1 ∨ y t 1 = 3)) → mv_E l D b0 m6_cleansUp (mv_rm 4) Q 101 [.ref m, .ref a, .int (nI t), .int (y t 1)] [] 0 0 n sh J' R := by
        intro q
        refine mv_vret (pc := 101) dX6_cleansUp_101 rfl (by decide) (by decide) (hQ _ ⟨?_, fJ⟩)
        unfold xs_en
        rw [if_neg q]
        exact hr2
      have yes : (0 < t ∧ (y t 1 = 1 ∨ y t 1 = 3)) → mv_E l D b0 m6_cleansUp (mv_rm 4) Q 95 [.ref m, .ref a, .int (nI t), .int (y t 1)] [] 0 0 n sh J' R := by
        intro q
        obtain ⟨u, hut, hu⟩ := (hpw.2.2.2 t ht).1 q.1
        have hcl : (π t 0).toNatClampNeg = u := by rw [hu]; exact nI_clamp (by omega)
        obtain ⟨c, hc8, hc⟩ := (hT t ht).2.1
        refine mv_aload_n (pc := 95) dX6_cleansUp_95 rfl ?_
        refine mv_aload_n (pc := 96) dX6_cleansUp_96 rfl ?_
        refine mv_iload_n (pc := 97) dX6_cleansUp_97 rfl ?_
        refine mv_cVv (pc := 98) dX6_cleansUp_98 lk6_196 (congrArg Prod.fst hm.o) (c6_gives (K.fr fJ) hr2 hWe ht hut hu ((x1t 9 (by decide) (by decide)).trans hc) hc8) rfl rfl (Nat.le_of_ble_eq_true rfl) (by decide) (by decide) (fun J3 ⟨hr3, hf3⟩ => ?_)
        refine mv_vret (pc := 101) dX6_cleansUp_101 rfl (by decide) (by decide) (hQ _ ⟨?_, fJ.tr hf3⟩)
        unfold xs_en
        rw [if_pos q, hcl, hc, nI_clamp (by omega)]
        exact hr3
      refine mv_istore_n (pc := 80) dX6_cleansUp_80 (by decide) ?_
      refine mv_iload_n (pc := 81) dX6_cleansUp_81 rfl ?_
      refine mv_if_le (pc := 82) (tgt := 101) dX6_cleansUp_82 (by decide) (fun hb2 => ?_) (fun hb2 => ?_)
      · refine no (fun q => ?_)
        exact absurd hb2 (nI_nle q.1 (by omega))
      · have ht0 : 0 < t := by
          rcases Nat.eq_zero_or_pos t with q | q
          · subst q; exact absurd (by decide) hb2
          · exact q
        refine mv_iload_n (pc := 85) dX6_cleansUp_85 rfl ?_
        refine mv_iconst (pc := 86) (v := 1) dX6_cleansUp_86 (by decide) ?_
        refine mv_icmp_eq (pc := 87) (tgt := 95) dX6_cleansUp_87 (by decide) (fun hb3 => ?_) (fun hb3 => ?_)
        · exact yes ⟨ht0, Or.inl hb3⟩
        · refine mv_iload_n (pc := 90) dX6_cleansUp_90 rfl ?_
          refine mv_iconst (pc := 91) (v := 3) dX6_cleansUp_91 (by decide) ?_
          refine mv_icmp_ne (pc := 92) (tgt := 101) dX6_cleansUp_92 (by decide) (fun hb4 => ?_) (fun hb4 => ?_)
          · exact no (fun q => q.2.elim hb3 hb4)
          · exact yes ⟨ht0, Or.inr hb4⟩
  refine mv_aload_n (pc := 0) dX6_cleansUp_0 rfl ?_
  refine mv_iload_n (pc := 1) dX6_cleansUp_1 rfl ?_
  refine mv_bipush (pc := 2) (v := 6) dX6_cleansUp_2 (by decide) ?_
  refine mv_cSi (pc := 4) dX6_cleansUp_4 lk6_161 (c6_at ha h ht8 (k := 6) (by decide)) rfl rfl (Nat.le_of_ble_eq_true rfl) (by decide) (by decide) (fun r J ⟨e1, e2⟩ => ?_)
  subst e1 e2
  refine mv_aload_n (pc := 7) dX6_cleansUp_7 rfl ?_
  refine mv_getR (pc := 8) (q := m + 13) dX6_cleansUp_8 fl6_46 (fun _ _ => rfl) (congrArg Prod.fst hm.o) hm.f22 ?_
  refine mv_iload_n (pc := 11) dX6_cleansUp_11 rfl ?_
  refine mv_ialdx (pc := 12) (x := π t 4) (k := t) dX6_cleansUp_12 hm.g22 rfl (by omega) (hpc.2 t ht).2.2.2.2.1 ?_
  refine mv_icmp_ge (pc := 13) (tgt := 29) dX6_cleansUp_13 (by decide) (fun hb => ?_) (fun hb => ?_)
  · exact mid _ (by unfold xs_cc; rw [if_neg (Int32.not_lt.mpr hb)]; exact h) rm_Fr.rf
  · refine mv_aload_n (pc := 16) dX6_cleansUp_16 rfl ?_
    refine mv_bipush (pc := 17) (v := 18) dX6_cleansUp_17 (by decide) ?_
    refine mv_iload_n (pc := 19) dX6_cleansUp_19 rfl ?_
    refine mv_imul (pc := 20) dX6_cleansUp_20 ?_
    refine mv_bipush (pc := 21) (v := 6) dX6_cleansUp_21 (by decide) ?_
    refine mv_iadd (pc := 23) dX6_cleansUp_23 ?_
    refine mv_dup2 (pc := 24) dX6_cleansUp_24 rfl rfl ?_
    refine mv_ialdx (pc := 25) (x := x t 6) (k := 18 * t + 6) dX6_cleansUp_25 ha (mv_jx 18 t 6) (by omega) (h.1 t ht8 6 (by decide)) ?_
    refine mv_iconst (pc := 26) (v := 1) dX6_cleansUp_26 (by decide) ?_
    refine mv_iadd (pc := 27) dX6_cleansUp_27 ?_
    refine mv_iast (pc := 28) (k := 18 * t + 6) dX6_cleansUp_28 ha (mv_jx 18 t 6) (by omega) ?_
    exact mid _ (by unfold xs_cc; rw [if_pos (Int32.not_le.mp hb)]; exact rm_set 6 h ht8 (by decide)) rm_Fr.rf.up
theorem c6_cleansUp {l : Launch} {D : va_G} {b0 n : Nat} {sh : mv_Sh} {I : mv_I} {R : mv_R} {m a nt t : Nat} {π x : xs_X} (K : rm_P sh R I m a nt π) (h : rm_R I a x) (hW : xs_W nt π x) (ht : t < nt) (h2 : x t 0 = 2) : mv_C l D b0 m6_cleansUp (mv_rm 4) [.ref m, .ref a, .int (nI t)] n sh I R (mv_Pv n sh R (fun I' => rm_R I' a (xs_cu nt π x t) ∧ rm_Fr a I I')) := mv_C.of 1 (by decide) (by simp [Value.category]) rfl (e6_cleansUp K h hW ht h2 (fun _ h => mv_Pv.mk h))
set_option maxHeartbeats 4000000 in
set_option maxRecDepth 100000 in
theorem e6_tick {l : Launch} {D : va_G} {b0 n : Nat} {sh : mv_Sh} {I : mv_I} {R : mv_R} {Q : mv_Q} {m a nt τ : Nat} {π x : xs_X} (K : rm_P sh R I m a nt π) (h : rm_R I a x) (hW : xs_W nt π x) (hτ : x 8 0 = nI τ) (hτ2 : τ < 2000) (hQ : ∀ I', (rm_R I' a (xs_tk nt π x) ∧ rm_Fr a I I') → Q none n sh I' R) : mv_E l D b0 m6_tick (mv_rm 5) Q 0 [.ref m, .ref a, .null] [] 0 0 n sh I R := by
  obtain ⟨hm, ha, haa, hpc, hpw⟩ := id K
  have hn := hpw.2.1
  have l3 : ∀ (k : Nat) (J : mv_I) (y : xs_X) (v : Int32), k ≤ nt → v = nI k - 1 → rm_R J a y → xs_W nt π y → rm_Fr a I J → xs_d (xs_p3 nt π) k y = xs_tk nt π x → mv_E l D b0 m6_tick (mv_rm 5) Q 119 [.ref m, .ref a, .int v] [] 0 0 n sh J R := by
    intro k
    induction k with
    | zero =>
      intro J y v hk hv hr hWy hf hy
      refine mv_iload_n (pc := 119) dX6_tick_119 rfl ?_
      refine mv_if_lt (pc := 120) (tgt := 153) dX6_tick_120 (by decide) (fun hb => ?_) (fun hb => ?_)
      · exact mv_vret (pc := 153) dX6_tick_153 rfl (by decide) (by decide) (hQ _ ⟨by rw [← hy]; exact hr, hf⟩)
      · rw [hv] at hb; exact absurd (by decide) hb
    | succ k ih =>
      intro J y v hk hv hr hWy hf hy
      rw [nI_pred] at hv
      subst hv
      have hkn : k < nt := by omega
      have nxt : ∀ J2, rm_R J2 a (xs_p3 nt π y k) → rm_Fr a I J2 → mv_E l D b0 m6_tick (mv_rm 5) Q 147 [.ref m, .ref a, .int (nI k)] [] 0 0 n sh J2 R := by
        intro J2 hr2 hf2
        refine mv_iinc (pc := 147) (v := nI k - 1) dX6_tick_147 (by decide) rfl (by rw [Int32.sub_eq_add_neg]; rfl) ?_
        refine mv_goto (pc := 150) (tgt := 119) dX6_tick_150 (by decide) ?_
        exact ih J2 _ _ (by omega) rfl hr2 (hWy.p3 hpw hkn).1 hf2 hy
      refine mv_iload_n (pc := 119) dX6_tick_119 rfl ?_
      refine mv_if_lt (pc := 120) (tgt := 153) dX6_tick_120 (by decide) (fun hb => ?_) (fun hb => ?_)
      · exact absurd hb (nI_pos (by omega))
      · refine mv_aload_n (pc := 123) dX6_tick_123 rfl ?_
        refine mv_iload_n (pc := 124) dX6_tick_124 rfl ?_
        refine mv_iconst (pc := 125) (v := 2) dX6_tick_125 (by decide) ?_
        refine mv_cSi (pc := 126) dX6_tick_126 lk6_165 (c6_isHow ha hr (t := k) (by omega)) rfl rfl (Nat.le_of_ble_eq_true rfl) (by decide) (by decide) (fun r J' ⟨e1, e2⟩ => ?_)
        subst e1 e2
        refine mv_if_eq (pc := 129) (tgt := 147) dX6_tick_129 (by decide) (fun hb2 => ?_) (fun hb2 => ?_)
        · have : ¬ y k 0 = 2 := fun q => by rw [if_pos q] at hb2; exact absurd hb2 (by decide)
          exact nxt _ (by unfold xs_p3; rw [if_neg (fun q => this q.1)]; exact hr) hf
        · have y2 : y k 0 = 2 := Classical.byContradiction fun q => hb2 (by rw [if_neg q])
          refine mv_aload_n (pc := 132) dX6_tick_132 rfl ?_
          refine mv_aload_n (pc := 133) dX6_tick_133 rfl ?_
          refine mv_iload_n (pc := 134) dX6_tick_134 rfl ?_
          refine mv_cVi (pc := 135) dX6_tick_135 lk6_183 (congrArg Prod.fst hm.o) (c6_isBusy (K.fr hf) hr hkn) rfl rfl (Nat.le_of_ble_eq_true rfl) (by decide) (by decide) (fun r J' ⟨e1, e2⟩ => ?_)
          subst e1 e2
          refine mv_if_ne (pc := 138) (tgt := 147) dX6_tick_138 (by decide) (fun hb3 => ?_) (fun hb3 => ?_)
          · have yb : xs_busy nt π y k = true := Classical.byContradiction fun q => hb3 (by rw [if_neg q])
            exact nxt _ (by unfold xs_p3; rw [if_neg (fun q => q.2 yb)]; exact hr) hf
          · have nb : ¬ xs_busy nt π y k = true := fun q => by rw [if_pos q] at hb3; exact absurd hb3 (by decide)
            refine mv_aload_n (pc := 141) dX6_tick_141 rfl ?_
            refine mv_aload_n (pc := 142) dX6_tick_142 rfl ?_
            refine mv_iload_n (pc := 143) dX6_tick_143 rfl ?_
            refine mv_cVv (pc := 144) dX6_tick_144 lk6_202 (congrArg Prod.fst hm.o) (c6_cleansUp (K.fr hf) hr hWy hkn y2) rfl rfl (Nat.le_of_ble_eq_true rfl) (by decide) (by decide) (fun J2 ⟨hr2, hf2⟩ => ?_)
            exact nxt _ (by unfold xs_p3; rw [if_pos ⟨y2, nb⟩]; exact hr2) (hf.tr hf2)
  have l2 : ∀ (f k : Nat) (J : mv_I) (y0 : xs_X), nt < k + f → k ≤ nt → xs_W nt π y0 → y0 8 0 = nI (τ + 1) → rm_R J a (xs_u (xs_p2 nt π) y0 k) → rm_Fr a I J → xs_d (xs_p3 nt π) nt (xs_u (xs_p2 nt π) y0 nt) = xs_tk nt π x → mv_E l D b0 m6_tick (mv_rm 5) Q 64 [.ref m, .ref a, .int (nI k)] [] 0 0 n sh J R := by
    intro f
    induction f with
    | zero => intro k J y0 h1 h2; omega
    | succ f ih =>
      intro k J y0 h1 h2 hW0 h80 hr hf hy
      have hWk : xs_W nt π (xs_u (xs_p2 nt π) y0 k) ∧ xs_u (xs_p2 nt π) y0 k 8 0 = y0 8 0 := xs_W.u (f := xs_p2 nt π) (fun y t hy ht => hy.p2 hpw ht) hW0 k h2
      have hpc' := (K.fr hf).2.2.2.1
      refine mv_iload_n (pc := 64) dX6_tick_64 rfl ?_
      refine mv_aload_n (pc := 65) dX6_tick_65 rfl ?_
      refine mv_getIx (pc := 66) (x := nI nt) dX6_tick_66 fl6_142 rfl (congrArg Prod.fst hm.o) hpc'.1 ?_
      refine mv_icmp_ge (pc := 69) (tgt := 112) dX6_tick_69 (by decide) (fun hb => ?_) (fun hb => ?_)
      · have : k = nt := by
          have := (nI_leI (a := nt) (b := k) (by omega) (by omega)).mp hb
          omega
        subst this
        refine mv_aload_n (pc := 112) dX6_tick_112 rfl ?_
        refine mv_getIx (pc := 113) (x := nI k) dX6_tick_113 fl6_142 rfl (congrArg Prod.fst hm.o) hpc'.1 ?_
        refine mv_iconst (pc := 116) (v := 1) dX6_tick_116 (by decide) ?_
        refine mv_isub (pc := 117) dX6_tick_117 ?_
        refine mv_istore_n (pc := 118) dX6_tick_118 (by decide) ?_
        exact l3 k J _ _ (by omega) rfl hr hWk.1 hf hy
      · have hkn : k < nt := by
          rcases Nat.lt_or_ge k nt with q | q
          · exact q
          · exact absurd (nI_le q (by omega)) hb
        have nxt : ∀ J2, rm_R J2 a (xs_u (xs_p2 nt π) y0 (k + 1)) → rm_Fr a I J2 → mv_E l D b0 m6_tick (mv_rm 5) Q 106 [.ref m, .ref a, .int (nI k)] [] 0 0 n sh J2 R := by
          intro J2 hr2 hf2
          refine mv_iinc (pc := 106) (v := nI (k + 1)) dX6_tick_106 (by decide) rfl (nI_1 k) ?_
          refine mv_goto (pc := 109) (tgt := 64) dX6_tick_109 (by decide) ?_
          exact ih (k + 1) J2 y0 (by omega) (by omega) hW0 h80 hr2 hf2 hy
        have eu : xs_u (xs_p2 nt π) y0 (k + 1) = xs_p2 nt π (xs_u (xs_p2 nt π) y0 k) k := rfl
        generalize hyk : xs_u (xs_p2 nt π) y0 k = y at hr hWk eu
        rw [eu] at nxt
        have e80 : y 8 0 = nI (τ + 1) := hWk.2.trans h80
        have go : y k 0 = 1 → (k = 0 ∨ y k 7 < y 8 0) → mv_E l D b0 m6_tick (mv_rm 5) Q 100 [.ref m, .ref a, .int (nI k)] [] 0 0 n sh J R := by
          intro q1 q2
          refine mv_aload_n (pc := 100) dX6_tick_100 rfl ?_
          refine mv_aload_n (pc := 101) dX6_tick_101 rfl ?_
          refine mv_iload_n (pc := 102) dX6_tick_102 rfl ?_
          refine mv_cVv (pc := 103) dX6_tick_103 lk6_199 (congrArg Prod.fst hm.o) (c6_moves (K.fr hf) hr hWk.1 hkn) rfl rfl (Nat.le_of_ble_eq_true rfl) (by decide) (by decide) (fun J2 ⟨hr2, hf2⟩ => ?_)
          exact nxt J2 (by unfold xs_p2; rw [if_pos ⟨q1, q2⟩]; exact hr2) (hf.tr hf2)
        refine mv_aload_n (pc := 72) dX6_tick_72 rfl ?_
        refine mv_iload_n (pc := 73) dX6_tick_73 rfl ?_
        refine mv_iconst (pc := 74) (v := 1) dX6_tick_74 (by decide) ?_
        refine mv_cSi (pc := 75) dX6_tick_75 lk6_165 (c6_isHow ha hr (t := k) (by omega)) rfl rfl (Nat.le_of_ble_eq_true rfl) (by decide) (by decide) (fun r J' ⟨e1, e2⟩ => ?_)
        subst e1 e2
        refine mv_if_eq (pc := 78) (tgt := 106) dX6_tick_78 (by decide) (fun hb2 => ?_) (fun hb2 => ?_)
        · have : ¬ y k 0 = 1 := fun q => by rw [if_pos q] at hb2; exact absurd hb2 (by decide)
          exact nxt _ (by unfold xs_p2; rw [if_neg (fun q => this q.1)]; exact hr) hf
        · have y1 : y k 0 = 1 := Classical.byContradiction fun q => hb2 (by rw [if_neg q])
          refine mv_iload_n (pc := 81) dX6_tick_81 rfl ?_
          refine mv_if_eq (pc := 82) (tgt := 100) dX6_tick_82 (by decide) (fun hb3 => ?_) (fun hb3 => ?_)
          · exact go y1 (Or.inl ((nI_eq (b := 0) (by omega) (by decide)).mp hb3))
          · refine mv_aload_n (pc := 85) dX6_tick_85 rfl ?_
            refine mv_iload_n (pc := 86) dX6_tick_86 rfl ?_
            refine mv_bipush (pc := 87) (v := 7) dX6_tick_87 (by decide) ?_
            refine mv_cSi (pc := 89) dX6_tick_89 lk6_161 (c6_at ha hr (t := k) (by omega) (k := 7) (by decide)) rfl rfl (Nat.le_of_ble_eq_true rfl) (by decide) (by decide) (fun r J' ⟨e1, e2⟩ => ?_)
            subst e1 e2
            refine mv_aload_n (pc := 92) dX6_tick_92 rfl ?_
            refine mv_sipush (pc := 93) (v := 144) dX6_tick_93 (by decide) ?_
            refine mv_ialdx (pc := 96) (x := y 8 0) (k := 144) dX6_tick_96 ha (by decide) (by omega) hr.2.1.1 ?_
            refine mv_icmp_ge (pc := 97) (tgt := 106) dX6_tick_97 (by decide) (fun hb4 => ?_) (fun hb4 => ?_)
            · refine nxt _ ?_ hf
              unfold xs_p2
              rw [if_neg]
              · exact hr
              · rintro ⟨-, q | q⟩
                · subst q; exact hb3 (by decide)
                · exact absurd hb4 (Int32.not_le.mpr q)
            · exact go y1 (Or.inr (Int32.not_le.mp hb4))
  have hW0 := hW.tick hn hτ hτ2
  have h80 : mv_up x 8 0 (x 8 0 + 1) 8 0 = nI (τ + 1) := by rw [mv_upe, hτ, nI_1]
  have l1 : ∀ (f k : Nat) (J : mv_I), nt < k + f → k ≤ nt → rm_R J a (xs_u (xs_p1 nt π) (mv_up x 8 0 (x 8 0 + 1)) k) → rm_Fr a I J → mv_E l D b0 m6_tick (mv_rm 5) Q 11 [.ref m, .ref a, .int (nI k)] [] 0 0 n sh J R := by
    intro f
    induction f with
    | zero => intro k J h1 h2; omega
    | succ f ih =>
      intro k J h1 h2 hr hf
      have hWk : xs_W nt π (xs_u (xs_p1 nt π) (mv_up x 8 0 (x 8 0 + 1)) k) ∧ xs_u (xs_p1 nt π) (mv_up x 8 0 (x 8 0 + 1)) k 8 0 = mv_up x 8 0 (x 8 0 + 1) 8 0 := xs_W.u (f := xs_p1 nt π) (fun y t hy ht => hy.p1 hpw ht) hW0 k h2
      have hpc' := (K.fr hf).2.2.2.1
      refine mv_iload_n (pc := 11) dX6_tick_11 rfl ?_
      refine mv_aload_n (pc := 12) dX6_tick_12 rfl ?_
      refine mv_getIx (pc := 13) (x := nI nt) dX6_tick_13 fl6_142 rfl (congrArg Prod.fst hm.o) hpc'.1 ?_
      refine mv_icmp_ge (pc := 16) (tgt := 62) dX6_tick_16 (by decide) (fun hb => ?_) (fun hb => ?_)
      · have : k = nt := by
          have := (nI_leI (a := nt) (b := k) (by omega) (by omega)).mp hb
          omega
        subst this
        refine mv_iconst (pc := 62) (v := 0) dX6_tick_62 (by decide) ?_
        refine mv_istore_n (pc := 63) dX6_tick_63 (by decide) ?_
        exact l2 (k + 1) 0 J _ (by omega) (by omega) hWk.1 (hWk.2.trans h80) hr hf rfl
      · have hkn : k < nt := by
          rcases Nat.lt_or_ge k nt with q | q
          · exact q
          · exact absurd (nI_le q (by omega)) hb
        have nxt : ∀ J2, rm_R J2 a (xs_u (xs_p1 nt π) (mv_up x 8 0 (x 8 0 + 1)) (k + 1)) → rm_Fr a I J2 → mv_E l D b0 m6_tick (mv_rm 5) Q 56 [.ref m, .ref a, .int (nI k)] [] 0 0 n sh J2 R := by
          intro J2 hr2 hf2
          refine mv_iinc (pc := 56) (v := nI (k + 1)) dX6_tick_56 (by decide) rfl (nI_1 k) ?_
          refine mv_goto (pc := 59) (tgt := 11) dX6_tick_59 (by decide) ?_
          exact ih (k + 1) J2 (by omega) (by omega) hr2 hf2
        have eu : xs_u (xs_p1 nt π) (mv_up x 8 0 (x 8 0 + 1)) (k + 1) = xs_p1 nt π (xs_u (xs_p1 nt π) (mv_up x 8 0 (x 8 0 + 1)) k) k := rfl
        generalize hyk : xs_u (xs_p1 nt π) (mv_up x 8 0 (x 8 0 + 1)) k = y at hr hWk eu
        rw [eu] at nxt
        refine mv_aload_n (pc := 19) dX6_tick_19 rfl ?_
        refine mv_iload_n (pc := 20) dX6_tick_20 rfl ?_
        refine mv_iconst (pc := 21) (v := 1) dX6_tick_21 (by decide) ?_
        refine mv_cSi (pc := 22) dX6_tick_22 lk6_165 (c6_isHow ha hr (t := k) (by omega)) rfl rfl (Nat.le_of_ble_eq_true rfl) (by decide) (by decide) (fun r J' ⟨e1, e2⟩ => ?_)
        subst e1 e2
        refine mv_if_eq (pc := 25) (tgt := 56) dX6_tick_25 (by decide) (fun hb2 => ?_) (fun hb2 => ?_)
        · have : ¬ y k 0 = 1 := fun q => by rw [if_pos q] at hb2; exact absurd hb2 (by decide)
          exact nxt _ (by unfold xs_p1; rw [if_neg (fun q => this q.1)]; exact hr) hf
        · have y1 : y k 0 = 1 := Classical.byContradiction fun q => hb2 (by rw [if_neg q])
          refine mv_aload_n (pc := 28) dX6_tick_28 rfl ?_
          refine mv_sipush (pc := 29) (v := 144) dX6_tick_29 (by decide) ?_
          refine mv_ialdx (pc := 32) (x := y 8 0) (k := 144) dX6_tick_32 ha (by decide) (by omega) hr.2.1.1 ?_
          refine mv_aload_n (pc := 33) dX6_tick_33 rfl ?_
          refine mv_iload_n (pc := 34) dX6_tick_34 rfl ?_
          refine mv_iconst (pc := 35) (v := 4) dX6_tick_35 (by decide) ?_
          refine mv_cSi (pc := 36) dX6_tick_36 lk6_161 (c6_at ha hr (t := k) (by omega) (k := 4) (by decide)) rfl rfl (Nat.le_of_ble_eq_true rfl) (by decide) (by decide) (fun r J' ⟨e1, e2⟩ => ?_)
          subst e1 e2
          refine mv_icmp_le (pc := 39) (tgt := 56) dX6_tick_39 (by decide) (fun hb3 => ?_) (fun hb3 => ?_)
          · exact nxt _ (by unfold xs_p1; rw [if_neg (fun q => absurd q.2 (Int32.not_lt.mpr hb3))]; exact hr) hf
          · obtain ⟨c, hc8, hc⟩ := (hWk.1.2.2.2 k hkn).2.1
            obtain ⟨e, he6, he⟩ := hWk.1.2.1
            refine mv_aload_n (pc := 42) dX6_tick_42 rfl ?_
            refine mv_iload_n (pc := 43) dX6_tick_43 rfl ?_
            refine mv_bipush (pc := 44) (v := 10) dX6_tick_44 (by decide) ?_
            refine mv_cSv (pc := 46) dX6_tick_46 lk6_187 (c6_codes ha hr (t := k) (by omega) hc hc8) rfl rfl (Nat.le_of_ble_eq_true rfl) (by decide) (by decide) (fun J2 ⟨hr2, hf2⟩ => ?_)
            refine mv_aload_n (pc := 49) dX6_tick_49 rfl ?_
            refine mv_aload_n (pc := 50) dX6_tick_50 rfl ?_
            refine mv_iload_n (pc := 51) dX6_tick_51 rfl ?_
            refine mv_iconst (pc := 52) (v := 3) dX6_tick_52 (by decide) ?_
            refine mv_cVv (pc := 53) dX6_tick_53 lk6_190 (congrArg Prod.fst hm.o) (c6_closes (K.fr (hf.tr hf2)) hr2 hkn (by rw [xs_cd_ne (by omega)]; exact he) he6) rfl rfl (Nat.le_of_ble_eq_true rfl) (by decide) (by decide) (fun J3 ⟨hr3, hf3⟩ => ?_)
            refine nxt J3 ?_ ((hf.tr hf2).tr hf3)
            unfold xs_p1
            rw [if_pos ⟨y1, Int32.not_le.mp hb3⟩]
            exact hr3
  refine mv_aload_n (pc := 0) dX6_tick_0 rfl ?_
  refine mv_sipush (pc := 1) (v := 144) dX6_tick_1 (by decide) ?_
  refine mv_dup2 (pc := 4) dX6_tick_4 rfl rfl ?_
  refine mv_ialdx (pc := 5) (x := x 8 0) (k := 144) dX6_tick_5 ha (by decide) (by omega) h.2.1.1 ?_
  refine mv_iconst (pc := 6) (v := 1) dX6_tick_6 (by decide) ?_
  refine mv_iadd (pc := 7) dX6_tick_7 ?_
  refine mv_iast (pc := 8) (k := 144) dX6_tick_8 ha (by decide) (by omega) ?_
  refine mv_iconst (pc := 9) (v := 0) dX6_tick_9 (by decide) ?_
  refine mv_istore_n (pc := 10) dX6_tick_10 (by decide) ?_
  exact l1 (nt + 1) 0 _ (by omega) (by omega) (rm_tick h) rm_Fr.rf.up
theorem c6_tick {l : Launch} {D : va_G} {b0 n : Nat} {sh : mv_Sh} {I : mv_I} {R : mv_R} {m a nt τ : Nat} {π x : xs_X} (K : rm_P sh R I m a nt π) (h : rm_R I a x) (hW : xs_W nt π x) (hτ : x 8 0 = nI τ) (hτ2 : τ < 2000) : mv_C l D b0 m6_tick (mv_rm 5) [.ref m, .ref a] n sh I R (mv_Pv n sh R (fun I' => rm_R I' a (xs_tk nt π x) ∧ rm_Fr a I I')) := mv_C.of 1 (by decide) (by simp [Value.category]) rfl (e6_tick K h hW hτ hτ2 (fun _ h => mv_Pv.mk h))
set_option maxHeartbeats 4000000 in
set_option maxRecDepth 100000 in
theorem e6_goesOn {l : Launch} {D : va_G} {b0 n : Nat} {sh : mv_Sh} {I : mv_I} {R : mv_R} {Q : mv_Q} {m nt τ k : Nat} {π x : xs_X} (K : rm_P sh R I m (m + 15) nt π) (h : rm_R I (m + 15) x) (hW : xs_W nt π x) (hτ : x 8 0 = nI τ) (hτ2 : τ + k ≤ 2000) (hQ : ∀ I', (rm_R I' (m + 15) (xs_go nt π 0 k x) ∧ rm_Fr (m + 15) I I') → Q none n sh I' R) : mv_E l D b0 m6_goesOn (mv_rm 6) Q 0 [.ref m, .int (nI k), .null] [] 0 0 n sh I R := by
  obtain ⟨hm, ha, haa, hpc, hpw⟩ := id K
  have hn := hpw.2.1
  have fin : ∀ (i : Nat) (J : mv_I), rm_R J (m + 15) (xs_go nt π 0 k x) → rm_Fr (m + 15) I J → mv_E l D b0 m6_goesOn (mv_rm 6) Q 33 [.ref m, .int (nI k), .int (nI i)] [] 0 0 n sh J R := by
    intro i J hr hf
    exact mv_vret (pc := 33) dX6_goesOn_33 rfl (by decide) (by decide) (hQ _ ⟨hr, hf⟩)
  have loop : ∀ (f i τ : Nat) (J : mv_I) (y : xs_X), i + f = k → rm_R J (m + 15) y → xs_W nt π y → y 8 0 = nI τ → τ + f ≤ 2000 → rm_Fr (m + 15) I J → xs_go nt π 0 f y = xs_go nt π 0 k x → mv_E l D b0 m6_goesOn (mv_rm 6) Q 2 [.ref m, .int (nI k), .int (nI i)] [] 0 0 n sh J R := by
    intro f
    induction f with
    | zero =>
      intro i τ J y hi hr hWy hτy hτm hf hy
      refine mv_iload_n (pc := 2) dX6_goesOn_2 rfl ?_
      refine mv_iload_n (pc := 3) dX6_goesOn_3 rfl ?_
      refine mv_icmp_ge (pc := 4) (tgt := 33) dX6_goesOn_4 (by decide) (fun hb => ?_) (fun hb => ?_)
      · exact fin i J (by rw [← hy]; exact hr) hf
      · exact absurd (nI_le (by omega) (by omega)) hb
    | succ f ih =>
      intro i τ J y hi hr hWy hτy hτm hf hy
      refine mv_iload_n (pc := 2) dX6_goesOn_2 rfl ?_
      refine mv_iload_n (pc := 3) dX6_goesOn_3 rfl ?_
      refine mv_icmp_ge (pc := 4) (tgt := 33) dX6_goesOn_4 (by decide) (fun hb => ?_) (fun hb => ?_)
      · exact absurd hb (nI_ge (by omega) (by omega))
      · refine mv_aload_n (pc := 7) dX6_goesOn_7 rfl ?_
        refine mv_getR (pc := 8) (q := m + 15) dX6_goesOn_8 fl6_52 (fun _ _ => rfl) (congrArg Prod.fst hm.o) hm.f24 ?_
        refine mv_iconst (pc := 11) (v := 0) dX6_goesOn_11 (by decide) ?_
        refine mv_iconst (pc := 12) (v := 3) dX6_goesOn_12 (by decide) ?_
        refine mv_cSi (pc := 13) dX6_goesOn_13 lk6_165 (c6_isHow ha hr (t := 0) (by omega)) rfl rfl (Nat.le_of_ble_eq_true rfl) (by decide) (by decide) (fun r J' ⟨e1, e2⟩ => ?_)
        subst e1 e2
        refine mv_if_ne (pc := 16) (tgt := 33) dX6_goesOn_16 (by decide) (fun hb2 => ?_) (fun hb2 => ?_)
        · have y3 : y 0 0 = 3 := Classical.byContradiction fun q => hb2 (by rw [if_neg q])
          refine fin i _ ?_ hf
          rw [← hy, xs_go, if_pos (Or.inl y3)]
          exact hr
        · have n3 : ¬ y 0 0 = 3 := fun q => by rw [if_pos q] at hb2; exact absurd hb2 (by decide)
          refine mv_aload_n (pc := 19) dX6_goesOn_19 rfl ?_
          refine mv_aload_n (pc := 20) dX6_goesOn_20 rfl ?_
          refine mv_getR (pc := 21) (q := m + 15) dX6_goesOn_21 fl6_52 (fun _ _ => rfl) (congrArg Prod.fst hm.o) hm.f24 ?_
          refine mv_cVv (pc := 24) dX6_goesOn_24 lk6_211 (congrArg Prod.fst hm.o) (c6_tick (K.fr hf) hr hWy hτy (by omega)) rfl rfl (Nat.le_of_ble_eq_true rfl) (by decide) (by decide) (fun J2 ⟨hr2, hf2⟩ => ?_)
          refine mv_iinc (pc := 27) (v := nI (i + 1)) dX6_goesOn_27 (by decide) rfl (nI_1 i) ?_
          refine mv_goto (pc := 30) (tgt := 2) dX6_goesOn_30 (by decide) ?_
          have hWt := hWy.tk hpw hτy (by omega)
          refine ih (i + 1) (τ + 1) J2 _ (by omega) hr2 hWt.1 hWt.2 (by omega) (hf.tr hf2) ?_
          rw [← hy, xs_go, if_neg (fun q => q.elim n3 n3)]
  refine mv_iconst (pc := 0) (v := 0) dX6_goesOn_0 (by decide) ?_
  refine mv_istore_n (pc := 1) dX6_goesOn_1 (by decide) ?_
  exact loop k 0 τ I x (by omega) h hW hτ (by omega) rm_Fr.rf rfl
theorem c6_goesOn {l : Launch} {D : va_G} {b0 n : Nat} {sh : mv_Sh} {I : mv_I} {R : mv_R} {m nt τ k : Nat} {π x : xs_X} (K : rm_P sh R I m (m + 15) nt π) (h : rm_R I (m + 15) x) (hW : xs_W nt π x) (hτ : x 8 0 = nI τ) (hτ2 : τ + k ≤ 2000) : mv_C l D b0 m6_goesOn (mv_rm 6) [.ref m, .int (nI k)] n sh I R (mv_Pv n sh R (fun I' => rm_R I' (m + 15) (xs_go nt π 0 k x) ∧ rm_Fr (m + 15) I I')) := mv_C.of 1 (by decide) (by simp [Value.category]) rfl (e6_goesOn K h hW hτ hτ2 (fun _ h => mv_Pv.mk h))
set_option maxHeartbeats 4000000 in
set_option maxRecDepth 100000 in
theorem e6_copies {l : Launch} {D : va_G} {b0 n : Nat} {sh : mv_Sh} {I : mv_I} {R : mv_R} {Q : mv_Q} {a b : Nat} (ha : sh a = (7, 326)) (hb : sh b = (7, 326)) (hab : a ≠ b) (hQ : ∀ I', ((∀ k, k < 326 → I' b k = I a k) ∧ rm_Fr b I I') → Q none n sh I' R) : mv_E l D b0 m6_copies (mv_rm 0) Q 0 [.ref a, .ref b, .null] [] 0 0 n sh I R := by
  have loop : ∀ (f k : Nat) (J : mv_I), k + f = 326 → (∀ j, j < k → J b j = I a j) → rm_Fr b I J → mv_E l D b0 m6_copies (mv_rm 0) Q 2 [.ref a, .ref b, .int (nI k)] [] 0 0 n sh J R := by
    intro f
    induction f with
    | zero =>
      intro k J hk hj hf
      refine mv_iload_n (pc := 2) dX6_copies_2 rfl ?_
      refine mv_sipush (pc := 3) (v := 326) dX6_copies_3 (by decide) ?_
      refine mv_icmp_ge (pc := 6) (tgt := 21) dX6_copies_6 (by decide) (fun hc => ?_) (fun hc => ?_)
      · exact mv_vret (pc := 21) dX6_copies_21 rfl (by decide) (by decide) (hQ _ ⟨fun j hj2 => hj j (by omega), hf⟩)
      · exact absurd (nI_le (a := 326) (by omega) (by omega)) hc
    | succ f ih =>
      intro k J hk hj hf
      refine mv_iload_n (pc := 2) dX6_copies_2 rfl ?_
      refine mv_sipush (pc := 3) (v := 326) dX6_copies_3 (by decide) ?_
      refine mv_icmp_ge (pc := 6) (tgt := 21) dX6_copies_6 (by decide) (fun hc => ?_) (fun hc => ?_)
      · exact absurd hc (nI_ge (b := 326) (by omega) (by decide))
      · refine mv_aload_n (pc := 9) dX6_copies_9 rfl ?_
        refine mv_iload_n (pc := 10) dX6_copies_10 rfl ?_
        refine mv_aload_n (pc := 11) dX6_copies_11 rfl ?_
        refine mv_iload_n (pc := 12) dX6_copies_12 rfl ?_
        refine mv_ialdx (pc := 13) (x := I a k) (k := k) dX6_copies_13 ha rfl (by omega) (by rw [hf a hab]) ?_
        refine mv_iast (pc := 14) (k := k) dX6_copies_14 hb rfl (by omega) ?_
        refine mv_iinc (pc := 15) (v := nI (k + 1)) dX6_copies_15 (by decide) rfl (nI_1 k) ?_
        refine mv_goto (pc := 18) (tgt := 2) dX6_copies_18 (by decide) ?_
        refine ih (k + 1) _ (by omega) (fun j hj2 => ?_) hf.up
        by_cases q : j = k
        · subst q; rw [mv_upe]
        · simp only [mv_up, q, and_false, if_false]
          exact hj j (by omega)
  refine mv_iconst (pc := 0) (v := 0) dX6_copies_0 (by decide) ?_
  refine mv_istore_n (pc := 1) dX6_copies_1 (by decide) ?_
  exact loop 326 0 I (by omega) (fun j hj => by omega) rm_Fr.rf
theorem c6_copies {l : Launch} {D : va_G} {b0 n : Nat} {sh : mv_Sh} {I : mv_I} {R : mv_R} {a b : Nat} (ha : sh a = (7, 326)) (hb : sh b = (7, 326)) (hab : a ≠ b) : mv_C l D b0 m6_copies (mv_rm 0) [.ref a, .ref b] n sh I R (mv_Pv n sh R (fun I' => (∀ k, k < 326 → I' b k = I a k) ∧ rm_Fr b I I')) := mv_C.of 1 (by decide) (by simp [Value.category]) rfl (e6_copies ha hb hab (fun _ h => mv_Pv.mk h))
def xs_st (d : Int32) : xs_X := fun t k => if t < 8 then (if k = 1 ∨ k = 8 then -9 else if t = 0 ∧ k = 0 then 1 else if t = 0 ∧ k = 4 then (if d = 99 then 9999 else d) else 0) else 0
set_option maxHeartbeats 4000000 in
set_option maxRecDepth 100000 in
theorem e6_starts {l : Launch} {D : va_G} {b0 n : Nat} {sh : mv_Sh} {I : mv_I} {R : mv_R} {Q : mv_Q} {m a : Nat} (hm : ly_Mod sh R m) (ha : sh a = (7, 326)) (haa : a ≠ m + 11) (hQ : ∀ I', (rm_R I' a (xs_st (I (m + 11) 0)) ∧ rm_Fr a I I') → Q none n sh I' R) : mv_E l D b0 m6_starts (mv_rm 0) Q 0 [.ref m, .ref a, .null] [] 0 0 n sh I R := by
  have last : ∀ (v : Int32) (w : Int32) (J : mv_I), v = (if I (m + 11) 0 = 99 then 9999 else I (m + 11) 0) → (∀ j, j < 326 → J a j = if (∃ t, t < 8 ∧ (j = 18 * t + 1 ∨ j = 18 * t + 8)) then -9 else 0) → rm_Fr a I J → mv_E l D b0 m6_starts (mv_rm 0) Q 83 [.ref m, .ref a, .int w] [.int v, .int 4, .ref a] 0 0 n sh (mv_up J a 0 1) R := by
    intro v w J hv hj hf
    refine mv_iast (pc := 83) (k := 4) dX6_starts_83 ha (by decide) (by omega) ?_
    refine mv_vret (pc := 84) dX6_starts_84 rfl (by decide) (by decide) (hQ _ ⟨⟨fun t ht k hk => ?_, ⟨?_, ?_⟩, fun j hj6 c hc => ?_⟩, hf.up.up⟩)
    · by_cases h4 : 18 * t + k = 4
      · have : t = 0 ∧ k = 4 := by omega
        obtain ⟨rfl, rfl⟩ := this
        simp [mv_up, xs_st, hv]
      · by_cases h0 : 18 * t + k = 0
        · have : t = 0 ∧ k = 0 := by omega
          obtain ⟨rfl, rfl⟩ := this
          simp [mv_up, xs_st]
        · simp only [mv_up, h4, h0, and_false, if_false]
          rw [hj _ (by omega)]
          unfold xs_st
          rw [if_pos ht]
          by_cases q : k = 1 ∨ k = 8
          · rw [if_pos q, if_pos ⟨t, ht, by omega⟩]
          · rw [if_neg q, if_neg (by omega), if_neg (by omega), if_neg]
            rintro ⟨u, u1, u2⟩
            omega
    · simp only [mv_up, and_false, if_false, Nat.reduceEqDiff]
      rw [hj _ (by omega), if_neg (by rintro ⟨u, u1, u2⟩; omega)]
      rfl
    · simp only [mv_up, and_false, if_false, Nat.reduceEqDiff]
      rw [hj _ (by omega), if_neg (by rintro ⟨u, u1, u2⟩; omega)]
      rfl
    · have q4 : ¬ 146 + 3 * j + c = 4 := by omega
      have q0 : ¬ 146 + 3 * j + c = 0 := by omega
      simp only [mv_up, q4, q0, and_false, if_false]
      rw [hj _ (by omega), if_neg (by rintro ⟨u, u1, u2⟩; omega)]
      unfold xs_st
      rw [if_neg (by omega)]
  have l2 : ∀ (f t : Nat) (J : mv_I), t + f = 8 → (∀ j, j < 326 → J a j = if (∃ u, u < t ∧ (j = 18 * u + 1 ∨ j = 18 * u + 8)) then -9 else 0) → rm_Fr a I J → mv_E l D b0 m6_starts (mv_rm 0) Q 21 [.ref m, .ref a, .int (nI t)] [] 0 0 n sh J R := by
    intro f
    induction f with
    | zero =>
      intro t J ht hj hf
      have : t = 8 := by omega
      subst this
      have hd : J (m + 11) = I (m + 11) := hf _ (by omega)
      refine mv_iload_n (pc := 21) dX6_starts_21 rfl ?_
      refine mv_bipush (pc := 22) (v := 8) dX6_starts_22 (by decide) ?_
      refine mv_icmp_ge (pc := 24) (tgt := 54) dX6_starts_24 (by decide) (fun hc => ?_) (fun hc => ?_)
      · refine mv_aload_n (pc := 54) dX6_starts_54 rfl ?_
        refine mv_iconst (pc := 55) (v := 0) dX6_starts_55 (by decide) ?_
        refine mv_iconst (pc := 56) (v := 1) dX6_starts_56 (by decide) ?_
        refine mv_iast (pc := 57) (k := 0) dX6_starts_57 ha (by decide) (by omega) ?_
        refine mv_aload_n (pc := 58) dX6_starts_58 rfl ?_
        refine mv_iconst (pc := 59) (v := 4) dX6_starts_59 (by decide) ?_
        refine mv_aload_n (pc := 60) dX6_starts_60 rfl ?_
        refine mv_getR (pc := 61) (q := m + 11) dX6_starts_61 fl6_40 (fun _ _ => rfl) (congrArg Prod.fst hm.o) hm.f20 ?_
        refine mv_iconst (pc := 64) (v := 0) dX6_starts_64 (by decide) ?_
        refine mv_ialdx (pc := 65) (x := I (m + 11) 0) (k := 0) dX6_starts_65 hm.g20 (by decide) (by omega) (by rw [mv_upN _ (by omega), hd]) ?_
        refine mv_bipush (pc := 66) (v := 99) dX6_starts_66 (by decide) ?_
        refine mv_icmp_ne (pc := 68) (tgt := 77) dX6_starts_68 (by decide) (fun hb => ?_) (fun hb => ?_)
        · refine mv_aload_n (pc := 77) dX6_starts_77 rfl ?_
          refine mv_getR (pc := 78) (q := m + 11) dX6_starts_78 fl6_40 (fun _ _ => rfl) (congrArg Prod.fst hm.o) hm.f20 ?_
          refine mv_iconst (pc := 81) (v := 0) dX6_starts_81 (by decide) ?_
          refine mv_ialdx (pc := 82) (x := I (m + 11) 0) (k := 0) dX6_starts_82 hm.g20 (by decide) (by omega) (by rw [mv_upN _ (by omega), hd]) ?_
          exact last _ _ J (by rw [if_neg hb]) hj hf
        · refine mv_sipush (pc := 71) (v := 9999) dX6_starts_71 (by decide) ?_
          refine mv_goto (pc := 74) (tgt := 83) dX6_starts_74 (by decide) ?_
          exact last _ _ J (by rw [if_pos hb]) hj hf
      · exact absurd (by decide) hc
    | succ f ih =>
      intro t J ht hj hf
      refine mv_iload_n (pc := 21) dX6_starts_21 rfl ?_
      refine mv_bipush (pc := 22) (v := 8) dX6_starts_22 (by decide) ?_
      refine mv_icmp_ge (pc := 24) (tgt := 54) dX6_starts_24 (by decide) (fun hc => ?_) (fun hc => ?_)
      · exact absurd hc (nI_ge (b := 8) (by omega) (by decide))
      · refine mv_aload_n (pc := 27) dX6_starts_27 rfl ?_
        refine mv_bipush (pc := 28) (v := 18) dX6_starts_28 (by decide) ?_
        refine mv_iload_n (pc := 30) dX6_starts_30 rfl ?_
        refine mv_imul (pc := 31) dX6_starts_31 ?_
        refine mv_iconst (pc := 32) (v := 1) dX6_starts_32 (by decide) ?_
        refine mv_iadd (pc := 33) dX6_starts_33 ?_
        refine mv_bipush (pc := 34) (v := -9) dX6_starts_34 (by decide) ?_
        refine mv_iast (pc := 36) (k := 18 * t + 1) dX6_starts_36 ha (mv_jx 18 t 1) (by omega) ?_
        refine mv_aload_n (pc := 37) dX6_starts_37 rfl ?_
        refine mv_bipush (pc := 38) (v := 18) dX6_starts_38 (by decide) ?_
        refine mv_iload_n (pc := 40) dX6_starts_40 rfl ?_
        refine mv_imul (pc := 41) dX6_starts_41 ?_
        refine mv_bipush (pc := 42) (v := 8) dX6_starts_42 (by decide) ?_
        refine mv_iadd (pc := 44) dX6_starts_44 ?_
        refine mv_bipush (pc := 45) (v := -9) dX6_starts_45 (by decide) ?_
        refine mv_iast (pc := 47) (k := 18 * t + 8) dX6_starts_47 ha (mv_jx 18 t 8) (by omega) ?_
        refine mv_iinc (pc := 48) (v := nI (t + 1)) dX6_starts_48 (by decide) rfl (nI_1 t) ?_
        refine mv_goto (pc := 51) (tgt := 21) dX6_starts_51 (by decide) ?_
        refine ih (t + 1) _ (by omega) (fun j hj3 => ?_) hf.up.up
        by_cases q8 : j = 18 * t + 8
        · subst q8; rw [mv_upe, if_pos ⟨t, by omega, by omega⟩]
        · by_cases q1 : j = 18 * t + 1
          · subst q1
            have : ¬ 18 * t + 1 = 18 * t + 8 := by omega
            simp only [mv_up, this, and_false, if_false, and_self, if_true]
            rw [if_pos ⟨t, by omega, by omega⟩]
          · simp only [mv_up, q8, q1, and_false, if_false]
            rw [hj j hj3]
            have : (∃ u, u < t ∧ (j = 18 * u + 1 ∨ j = 18 * u + 8)) ↔ (∃ u, u < t + 1 ∧ (j = 18 * u + 1 ∨ j = 18 * u + 8)) := by
              constructor
              · rintro ⟨u, u1, u2⟩; exact ⟨u, by omega, u2⟩
              · rintro ⟨u, u1, u2⟩
                refine ⟨u, ?_, u2⟩
                have : u ≠ t := fun e => by subst e; omega
                omega
            simp only [this]
  have l1 : ∀ (f k : Nat) (J : mv_I), k + f = 326 → (∀ j, j < k → J a j = 0) → rm_Fr a I J → mv_E l D b0 m6_starts (mv_rm 0) Q 2 [.ref m, .ref a, .int (nI k)] [] 0 0 n sh J R := by
    intro f
    induction f with
    | zero =>
      intro k J hk hj hf
      refine mv_iload_n (pc := 2) dX6_starts_2 rfl ?_
      refine mv_sipush (pc := 3) (v := 326) dX6_starts_3 (by decide) ?_
      refine mv_icmp_ge (pc := 6) (tgt := 19) dX6_starts_6 (by decide) (fun hc => ?_) (fun hc => ?_)
      · refine mv_iconst (pc := 19) (v := 0) dX6_starts_19 (by decide) ?_
        refine mv_istore_n (pc := 20) dX6_starts_20 (by decide) ?_
        refine l2 8 0 J (by omega) (fun j hj3 => ?_) hf
        rw [hj j (by omega), if_neg]
        rintro ⟨u, u1, -⟩
        omega
      · exact absurd (nI_le (a := 326) (by omega) (by omega)) hc
    | succ f ih =>
      intro k J hk hj hf
      refine mv_iload_n (pc := 2) dX6_starts_2 rfl ?_
      refine mv_sipush (pc := 3) (v := 326) dX6_starts_3 (by decide) ?_
      refine mv_icmp_ge (pc := 6) (tgt := 19) dX6_starts_6 (by decide) (fun hc => ?_) (fun hc => ?_)
      · exact absurd hc (nI_ge (b := 326) (by omega) (by decide))
      · refine mv_aload_n (pc := 9) dX6_starts_9 rfl ?_
        refine mv_iload_n (pc := 10) dX6_starts_10 rfl ?_
        refine mv_iconst (pc := 11) (v := 0) dX6_starts_11 (by decide) ?_
        refine mv_iast (pc := 12) (k := k) dX6_starts_12 ha rfl (by omega) ?_
        refine mv_iinc (pc := 13) (v := nI (k + 1)) dX6_starts_13 (by decide) rfl (nI_1 k) ?_
        refine mv_goto (pc := 16) (tgt := 2) dX6_starts_16 (by decide) ?_
        refine ih (k + 1) _ (by omega) (fun j hj2 => ?_) hf.up
        by_cases q : j = k
        · subst q; rw [mv_upe]
        · simp only [mv_up, q, and_false, if_false]
          exact hj j (by omega)
  refine mv_iconst (pc := 0) (v := 0) dX6_starts_0 (by decide) ?_
  refine mv_istore_n (pc := 1) dX6_starts_1 (by decide) ?_
  exact l1 326 0 I (by omega) (fun j hj => by omega) rm_Fr.rf
theorem c6_starts {l : Launch} {D : va_G} {b0 n : Nat} {sh : mv_Sh} {I : mv_I} {R : mv_R} {m a : Nat} (hm : ly_Mod sh R m) (ha : sh a = (7, 326)) (haa : a ≠ m + 11) : mv_C l D b0 m6_starts (mv_rm 0) [.ref m, .ref a] n sh I R (mv_Pv n sh R (fun I' => rm_R I' a (xs_st (I (m + 11) 0)) ∧ rm_Fr a I I')) := mv_C.of 1 (by decide) (by simp [Value.category]) rfl (e6_starts hm ha haa (fun _ h => mv_Pv.mk h))

