theorem xs_cd_ne {x : xs_X} {u v : Nat} {c : Int32} (h : v ≠ u) : xs_cd x u c v = x v := by
  unfold xs_cd
  split
  · rw [mv_upN v h, mv_upN v h]
  · rfl
theorem xs_cd_col {x : xs_X} {u k : Nat} {c : Int32} (h : k < 9) : xs_cd x u c u k = x u k := by
  unfold xs_cd
  split
  · have h1 : ¬ k = 9 := by omega
    have h2 : ¬ k = 10 + (x u 9).toNatClampNeg := by omega
    simp [mv_up, h1, h2]
  · rfl
theorem xs_cd_many {x : xs_X} {u c : Nat} {w : Int32} (hc : x u 9 = nI c) (hc8 : c ≤ 8) : ∃ c2, c2 ≤ 8 ∧ xs_cd x u w u 9 = nI c2 := by
  unfold xs_cd
  split
  · rename_i hlt
    rw [hc] at hlt
    have := (nI_ltI (b := 8) (by omega) (by decide)).mp hlt
    exact ⟨c + 1, by omega, by rw [mv_upe, hc, nI_1]⟩
  · exact ⟨c, hc8, hc⟩
theorem xs_tr_up {x : xs_X} {t u k : Nat} {v w : Int32} (ht : t < 8) : xs_tr (mv_up x t k v) u w = mv_up (xs_tr x u w) t k v := by
  funext a
  by_cases ha : a < 8
  · rw [xs_tr_lo ha]
    funext j
    simp only [mv_up, xs_tr_lo ha]
  · rw [mv_upN a (by omega)]
    exact xs_tr_hi (fun b hb => mv_upN b (by omega)) a (by omega)
theorem xs_ask_beh {n t u : Nat} {π x : xs_X} : xs_ask n π (xs_beh x t) u = xs_beh (xs_ask n π x u) t := by
  unfold xs_beh
  have e : xs_ask n π x u t 2 = x t 2 := by simp [xs_ask]
  rw [e]
  funext a k
  simp only [xs_ask, mv_up]
  by_cases h5 : k = 5
  · subst h5; simp
  · simp [h5]
theorem xs_bc_beh {nt t : Nat} {π x : xs_X} (hw : pl_W nt π) (ht : t < nt) : xs_bc nt π (xs_beh x t) t = xs_beh (xs_bc nt π x t) t := by
  have hn := hw.2.1
  have e : xs_fc nt π (xs_beh x t) t = xs_fc nt π x t := by
    unfold xs_fc
    congr 1
    funext u
    simp [xs_beh, mv_up]
  unfold xs_bc
  rw [e]
  cases hf : xs_fc nt π x t with
  | none => rfl
  | some c =>
    have hc := List.find?_range_eq_some.mp hf
    have hc1 := of_decide_eq_true hc.1
    have hcn : c < nt := List.mem_range.mp hc.2.1
    have hct := hw.par hcn hc1.1 hc1.2.1 (by omega)
    show xs_bg π (xs_beh x t) c t = xs_beh (xs_bg π x c t) t
    have e2 : xs_bg π x c t t 2 = x t 2 := by
      unfold xs_bg
      rw [xs_tr_lo (by omega), mv_upN t (by omega), mv_upN t (by omega), mv_upN t (by omega)]
    unfold xs_beh
    rw [e2]
    unfold xs_bg
    have e3 : xs_due π (mv_up x t 2 (x t 2 + 1)) c t = xs_due π x c t := by
      unfold xs_due
      rw [mv_upN 8 (by omega)]
      simp [mv_up]
    rw [e3, mv_upN 8 (by omega), mv_comm (a := t) (k := 2) (b := c) (j := 0) (by omega), mv_comm (a := t) (k := 2) (b := c) (j := 4) (by omega), mv_comm (a := t) (k := 2) (b := c) (j := 7) (by omega), xs_tr_up (by omega)]
set_option maxHeartbeats 4000000 in
set_option maxRecDepth 100000 in
theorem e3_operate {l : Launch} {D : va_G} {b0 n : Nat} {sh : mv_Sh} {I : mv_I} {R : mv_R} {Q : mv_Q} {p q nt t b s : Nat} {π x : xs_X} {op num : Int32} (K : rc_P sh R I p q nt π) (h : rc_R I p nt x) (hW : xs_W nt π x) (ht : t < nt) (h1 : x t 0 = 1) (hb : x t 2 = nI b) (hs : π t 1 = nI s) (hbs : b < s) (hs6 : s ≤ 6) (hop : op = π t (6 + 2 * b)) (hnm : num = π t (7 + 2 * b)) (hQ : ∀ I', (rc_R I' p nt (xs_wk nt π x t) ∧ rc_Fr p I I') → Q none n sh I' R) : mv_E l D b0 m3_operate (mv_rm 3) Q 0 [.ref p, .int (nI t), .int op, .int num] [] 0 0 n sh I R := by
  obtain ⟨hp, hq, hpl, hdj, hpc, hpw⟩ := id K
  have hn := hpw.2.1
  obtain ⟨⟨τ, hτ2, hτ⟩, ⟨e, he6, he⟩, -, hT⟩ := id hW
  obtain ⟨⟨hh, hh3, hh0, hh4, hh8⟩, ⟨c, hc8, hc⟩, ⟨b', s', hbs', hs6', hs', hb', hwk⟩, -, -, -, -, -⟩ := hT t ht
  have hcl : (x t 2).toNatClampNeg = b := by rw [hb]; exact nI_clamp (by omega)
  have ebb : b' = b := (nI_eq (by omega) (by omega)).mp (hb'.symm.trans hb)
  subst ebb
  have hh1 : hh = 1 := (nI_eq (by omega) (by decide)).mp (hh0.symm.trans h1)
  have hd4 : x t 4 ≠ 0 := fun q => by
    have := hh4.mpr q
    omega
  have hbeh : I (p + 6) t = x t 2 := (h.2.1 t ht).1 2 (by decide)
  obtain ⟨s2, hs26, hs2, hops⟩ := (hpw.2.2.2 t ht).2.1
  have es : s2 = s := (nI_eq (by omega) (by omega)).mp (hs2.symm.trans hs)
  subst es
  have hop5 := hops b' hbs
  rcases hop5 with ⟨hop5 | hop5, k, k1, k9, hk⟩ | hop5 | hop5 | hop5
  · -- w
    rw [hop5] at hop
    subst hop
    rw [hk] at hnm
    subst hnm
    have hw : ∃ w, w < k ∧ x t 3 = nI w := by
      rcases hwk with q | ⟨-, -, w, k', q1, q2, q3, q4⟩
      · exact ⟨0, by omega, q⟩
      · have : k' = k := (nI_eq (by omega) (by omega)).mp (q4.symm.trans hk)
        exact ⟨w, by omega, q3⟩
    obtain ⟨w, hwk, hw⟩ := hw
    refine mv_iload_n (pc := 0) dX3_operate_0 rfl ?_
    refine mv_lsw (pc := 1) (off := 43) (tgt := 44) dX3_operate_1 (by decide) (by decide) (by decide) ?_
    refine mv_aload_n (pc := 44) dX3_operate_44 rfl ?_
    refine mv_iload_n (pc := 45) dX3_operate_45 rfl ?_
    refine mv_iload_n (pc := 46) dX3_operate_46 rfl ?_
    refine mv_cVv (pc := 47) dX3_operate_47 lk3_128 (congrArg Prod.fst hp.o) (c3_work hp h hn ht hw hwk k9) rfl rfl (Nat.le_of_ble_eq_true rfl) (by decide) (by decide) (fun J ⟨hr, hf⟩ => ?_)
    refine mv_goto (pc := 50) (tgt := 122) dX3_operate_50 (by decide) ?_
    refine mv_vret (pc := 122) dX3_operate_122 rfl (by decide) (by decide) (hQ _ ⟨?_, hf⟩)
    unfold xs_wk
    rw [hcl, if_pos hop5, hk]
    exact hr
  · -- f
    rw [hop5] at hop
    subst hop
    refine mv_iload_n (pc := 0) dX3_operate_0 rfl ?_
    refine mv_lsw (pc := 1) (off := 109) (tgt := 110) dX3_operate_1 (by decide) (by decide) (by decide) ?_
    refine mv_aload_n (pc := 110) dX3_operate_110 rfl ?_
    refine mv_iload_n (pc := 111) dX3_operate_111 rfl ?_
    refine mv_iload_n (pc := 112) dX3_operate_112 rfl ?_
    refine mv_cVv (pc := 113) dX3_operate_113 lk3_91 (congrArg Prod.fst hp.o) (c3_addCode hp h hn ht hc hc8) rfl rfl (Nat.le_of_ble_eq_true rfl) (by decide) (by decide) (fun J ⟨hr, hf⟩ => ?_)
    refine mv_aload_n (pc := 116) dX3_operate_116 rfl ?_
    refine mv_iload_n (pc := 117) dX3_operate_117 rfl ?_
    refine mv_iconst (pc := 118) (v := 1) dX3_operate_118 (by decide) ?_
    refine mv_cVv (pc := 119) dX3_operate_119 lk3_94 (congrArg Prod.fst hp.o) (c3_close (K.fr hf) hr ht (by rw [xs_cd_ne (by omega)]; exact he) he6) rfl rfl (Nat.le_of_ble_eq_true rfl) (by decide) (by decide) (fun J2 ⟨hr2, hf2⟩ => ?_)
    refine mv_vret (pc := 122) dX3_operate_122 rfl (by decide) (by decide) (hQ _ ⟨?_, hf.tr hf2⟩)
    unfold xs_wk
    rw [hcl, if_neg (by rw [hop5]; decide), if_neg (by rw [hop5]; decide), if_neg (by rw [hop5]; decide), if_neg (by rw [hop5]; decide), ← hnm]
    exact hr2
  · -- b
    rw [hop5] at hop
    subst hop
    refine mv_iload_n (pc := 0) dX3_operate_0 rfl ?_
    refine mv_lsw (pc := 1) (off := 52) (tgt := 53) dX3_operate_1 (by decide) (by decide) (by decide) ?_
    refine mv_aload_n (pc := 53) dX3_operate_53 rfl ?_
    refine mv_iload_n (pc := 54) dX3_operate_54 rfl ?_
    refine mv_cVv (pc := 55) dX3_operate_55 lk3_131 (congrArg Prod.fst hp.o) (c3_beginChild K h ht hτ hτ2 he he6 hd4) rfl rfl (Nat.le_of_ble_eq_true rfl) (by decide) (by decide) (fun J ⟨hr, hf⟩ => ?_)
    refine mv_aload_n (pc := 58) dX3_operate_58 rfl ?_
    refine mv_getR (pc := 59) (q := p + 6) dX3_operate_59 fl3_31 (fun _ _ => rfl) (congrArg Prod.fst hp.o) hp.f7 ?_
    refine mv_iload_n (pc := 62) dX3_operate_62 rfl ?_
    refine mv_dup2 (pc := 63) dX3_operate_63 rfl rfl ?_
    refine mv_ialdx (pc := 64) (x := xs_bc nt π x t t 2) (k := t) dX3_operate_64 hp.g7 rfl (by omega) ((hr.2.1 t ht).1 2 (by decide)) ?_
    refine mv_iconst (pc := 65) (v := 1) dX3_operate_65 (by decide) ?_
    refine mv_iadd (pc := 66) dX3_operate_66 ?_
    refine mv_iast (pc := 67) (k := t) dX3_operate_67 hp.g7 rfl (by omega) ?_
    refine mv_goto (pc := 68) (tgt := 122) dX3_operate_68 (by decide) ?_
    refine mv_vret (pc := 122) dX3_operate_122 rfl (by decide) (by decide) (hQ _ ⟨?_, hf.up (by omega)⟩)
    unfold xs_wk
    rw [hcl, if_neg (by rw [hop5]; decide), if_pos hop5, xs_bc_beh hpw ht]
    exact rc_set 2 hr (by decide) (by decide) ht hn
  · -- j
    rw [hop5] at hop
    subst hop
    have ew : xs_wk nt π x t = if xs_busy nt π x t = true then x else xs_beh x t := by
      unfold xs_wk
      rw [hcl, if_neg (by rw [hop5]; decide), if_neg (by rw [hop5]; decide), if_pos hop5]
    rw [ew] at hQ
    refine mv_iload_n (pc := 0) dX3_operate_0 rfl ?_
    refine mv_lsw (pc := 1) (off := 70) (tgt := 71) dX3_operate_1 (by decide) (by decide) (by decide) ?_
    refine mv_aload_n (pc := 71) dX3_operate_71 rfl ?_
    refine mv_iload_n (pc := 72) dX3_operate_72 rfl ?_
    refine mv_cVi (pc := 73) dX3_operate_73 lk3_101 (congrArg Prod.fst hp.o) (c3_activeChildren K h ht) rfl rfl (Nat.le_of_ble_eq_true rfl) (by decide) (by decide) (fun r J ⟨hr, hJ⟩ => ?_)
    subst hJ
    subst hr
    refine mv_if_ne (pc := 76) (tgt := 122) dX3_operate_76 (by decide) (fun hb0 => ?_) (fun hb0 => ?_)
    · refine mv_vret (pc := 122) dX3_operate_122 rfl (by decide) (by decide) (hQ _ ⟨?_, rc_Fr.rf⟩)
      rw [if_pos (Classical.byContradiction fun q => hb0 ((xs_bs_busy hn).mpr q))]
      exact h
    · refine mv_aload_n (pc := 79) dX3_operate_79 rfl ?_
      refine mv_getR (pc := 80) (q := p + 6) dX3_operate_80 fl3_31 (fun _ _ => rfl) (congrArg Prod.fst hp.o) hp.f7 ?_
      refine mv_iload_n (pc := 83) dX3_operate_83 rfl ?_
      refine mv_dup2 (pc := 84) dX3_operate_84 rfl rfl ?_
      refine mv_ialdx (pc := 85) (x := x t 2) (k := t) dX3_operate_85 hp.g7 rfl (by omega) hbeh ?_
      refine mv_iconst (pc := 86) (v := 1) dX3_operate_86 (by decide) ?_
      refine mv_iadd (pc := 87) dX3_operate_87 ?_
      refine mv_iast (pc := 88) (k := t) dX3_operate_88 hp.g7 rfl (by omega) ?_
      refine mv_goto (pc := 89) (tgt := 122) dX3_operate_89 (by decide) ?_
      refine mv_vret (pc := 122) dX3_operate_122 rfl (by decide) (by decide) (hQ _ ⟨?_, rc_Fr.rf.up (by omega)⟩)
      rw [if_neg ((xs_bs_busy hn).mp hb0)]
      exact rc_set 2 h (by decide) (by decide) ht hn
  · -- x
    rw [hop5] at hop
    subst hop
    refine mv_iload_n (pc := 0) dX3_operate_0 rfl ?_
    refine mv_lsw (pc := 1) (off := 91) (tgt := 92) dX3_operate_1 (by decide) (by decide) (by decide) ?_
    refine mv_aload_n (pc := 92) dX3_operate_92 rfl ?_
    refine mv_iload_n (pc := 93) dX3_operate_93 rfl ?_
    refine mv_cVv (pc := 94) dX3_operate_94 lk3_134 (congrArg Prod.fst hp.o) (c3_askChildren K h ht) rfl rfl (Nat.le_of_ble_eq_true rfl) (by decide) (by decide) (fun J ⟨hr, hf⟩ => ?_)
    refine mv_aload_n (pc := 97) dX3_operate_97 rfl ?_
    refine mv_getR (pc := 98) (q := p + 6) dX3_operate_98 fl3_31 (fun _ _ => rfl) (congrArg Prod.fst hp.o) hp.f7 ?_
    refine mv_iload_n (pc := 101) dX3_operate_101 rfl ?_
    refine mv_dup2 (pc := 102) dX3_operate_102 rfl rfl ?_
    refine mv_ialdx (pc := 103) (x := xs_ask nt π x t t 2) (k := t) dX3_operate_103 hp.g7 rfl (by omega) ((hr.2.1 t ht).1 2 (by decide)) ?_
    refine mv_iconst (pc := 104) (v := 1) dX3_operate_104 (by decide) ?_
    refine mv_iadd (pc := 105) dX3_operate_105 ?_
    refine mv_iast (pc := 106) (k := t) dX3_operate_106 hp.g7 rfl (by omega) ?_
    refine mv_goto (pc := 107) (tgt := 122) dX3_operate_107 (by decide) ?_
    refine mv_vret (pc := 122) dX3_operate_122 rfl (by decide) (by decide) (hQ _ ⟨?_, hf.up (by omega)⟩)
    unfold xs_wk
    rw [hcl, if_neg (by rw [hop5]; decide), if_neg (by rw [hop5]; decide), if_neg (by rw [hop5]; decide), if_pos hop5, xs_ask_beh]
    exact rc_set 2 hr (by decide) (by decide) ht hn
theorem c3_operate {l : Launch} {D : va_G} {b0 n : Nat} {sh : mv_Sh} {I : mv_I} {R : mv_R} {p q nt t b s : Nat} {π x : xs_X} {op num : Int32} (K : rc_P sh R I p q nt π) (h : rc_R I p nt x) (hW : xs_W nt π x) (ht : t < nt) (h1 : x t 0 = 1) (hb : x t 2 = nI b) (hs : π t 1 = nI s) (hbs : b < s) (hs6 : s ≤ 6) (hop : op = π t (6 + 2 * b)) (hnm : num = π t (7 + 2 * b)) : mv_C l D b0 m3_operate (mv_rm 3) [.ref p, .int (nI t), .int op, .int num] n sh I R (mv_Pv n sh R (fun I' => rc_R I' p nt (xs_wk nt π x t) ∧ rc_Fr p I I')) := mv_C.of 0 (by decide) (by simp [Value.category]) rfl (e3_operate K h hW ht h1 hb hs hbs hs6 hop hnm (fun _ h => mv_Pv.mk h))
set_option maxHeartbeats 4000000 in
set_option maxRecDepth 100000 in
theorem e3_goOn {l : Launch} {D : va_G} {b0 n : Nat} {sh : mv_Sh} {I : mv_I} {R : mv_R} {Q : mv_Q} {p q nt t : Nat} {π x : xs_X} (K : rc_P sh R I p q nt π) (h : rc_R I p nt x) (hW : xs_W nt π x) (ht : t < nt) (h1 : x t 0 = 1) (hQ : ∀ I', (rc_R I' p nt (xs_mo nt π x t) ∧ rc_Fr p I I') → Q none n sh I' R) : mv_E l D b0 m3_goOn (mv_rm 4) Q 0 [.ref p, .int (nI t), .null] [] 0 0 n sh I R := by
  obtain ⟨hp, hq, hpl, hdj, hpc, hpw⟩ := id K
  have hn := hpw.2.1
  obtain ⟨⟨τ, hτ2, hτ⟩, ⟨e, he6, he⟩, -, hT⟩ := id hW
  obtain ⟨-, -, ⟨b, s, hbs, hs6, hs, hb, -⟩, -⟩ := hT t ht
  have hbeh : I (p + 6) t = x t 2 := (h.2.1 t ht).1 2 (by decide)
  have hask : I (p + 9) t = x t 5 := (h.2.1 t ht).1 5 (by decide)
  have hcl : (π t 1).toNatClampNeg = s := by rw [hs]; exact nI_clamp (by omega)
  have rest : ¬ (x t 5 = 1 ∧ π t 3 ≤ x t 2) → mv_E l D b0 m3_goOn (mv_rm 4) Q 37 [.ref p, .int (nI t), .null] [] 0 0 n sh I R := by
    intro hno
    have well : b = s → mv_E l D b0 m3_goOn (mv_rm 4) Q 66 [.ref p, .int (nI t), .null] [] 0 0 n sh I R := by
      intro hbs2
      refine mv_aload_n (pc := 66) dX3_goOn_66 rfl ?_
      refine mv_iload_n (pc := 67) dX3_goOn_67 rfl ?_
      refine mv_iconst (pc := 68) (v := 0) dX3_goOn_68 (by decide) ?_
      refine mv_cVv (pc := 69) dX3_goOn_69 lk3_94 (congrArg Prod.fst hp.o) (c3_close K h ht he he6) rfl rfl (Nat.le_of_ble_eq_true rfl) (by decide) (by decide) (fun J ⟨hr, hf⟩ => ?_)
      refine mv_goto (pc := 72) (tgt := 110) dX3_goOn_72 (by decide) ?_
      refine mv_vret (pc := 110) dX3_goOn_110 rfl (by decide) (by decide) (hQ _ ⟨?_, hf⟩)
      unfold xs_mo
      rw [if_neg hno, if_pos (by rw [hb, hs, hbs2])]
      exact hr
    refine mv_aload_n (pc := 37) dX3_goOn_37 rfl ?_
    refine mv_getR (pc := 38) (q := p + 6) dX3_goOn_38 fl3_31 (fun _ _ => rfl) (congrArg Prod.fst hp.o) hp.f7 ?_
    refine mv_iload_n (pc := 41) dX3_goOn_41 rfl ?_
    refine mv_ialdx (pc := 42) (x := nI b) (k := t) dX3_goOn_42 hp.g7 rfl (by omega) (hbeh.trans hb) ?_
    refine mv_aload_n (pc := 43) dX3_goOn_43 rfl ?_
    refine mv_getR (pc := 44) (q := q) dX3_goOn_44 fl3_65 (fun _ _ => rfl) (congrArg Prod.fst hp.o) hpl ?_
    refine mv_getR (pc := 47) (q := q + 2) dX3_goOn_47 fl3_115 (fun _ _ => rfl) (congrArg Prod.fst hq.o) hq.f2 ?_
    refine mv_iload_n (pc := 50) dX3_goOn_50 rfl ?_
    refine mv_ialdx (pc := 51) (x := nI s) (k := t) dX3_goOn_51 hq.g2 rfl (by omega) ((hpc.2 t ht).2.1.trans hs) ?_
    refine mv_icmp_ge (pc := 52) (tgt := 66) dX3_goOn_52 (by decide) (fun hc => ?_) (fun hc => ?_)
    · exact well (by have := (nI_leI (by omega) (by omega)).mp hc; omega)
    · have hlt : b < s := by
        rcases Nat.lt_or_ge b s with q | q
        · exact q
        · exact absurd (nI_le q (by omega)) hc
      refine mv_aload_n (pc := 55) dX3_goOn_55 rfl ?_
      refine mv_getR (pc := 56) (q := p + 6) dX3_goOn_56 fl3_31 (fun _ _ => rfl) (congrArg Prod.fst hp.o) hp.f7 ?_
      refine mv_iload_n (pc := 59) dX3_goOn_59 rfl ?_
      refine mv_ialdx (pc := 60) (x := nI b) (k := t) dX3_goOn_60 hp.g7 rfl (by omega) (hbeh.trans hb) ?_
      refine mv_bipush (pc := 61) (v := 6) dX3_goOn_61 (by decide) ?_
      refine mv_icmp_lt (pc := 63) (tgt := 75) dX3_goOn_63 (by decide) (fun hc2 => ?_) (fun hc2 => ?_)
      · refine mv_iload_n (pc := 75) dX3_goOn_75 rfl ?_
        refine mv_bipush (pc := 76) (v := 6) dX3_goOn_76 (by decide) ?_
        refine mv_imul (pc := 78) dX3_goOn_78 ?_
        refine mv_aload_n (pc := 79) dX3_goOn_79 rfl ?_
        refine mv_getR (pc := 80) (q := p + 6) dX3_goOn_80 fl3_31 (fun _ _ => rfl) (congrArg Prod.fst hp.o) hp.f7 ?_
        refine mv_iload_n (pc := 83) dX3_goOn_83 rfl ?_
        refine mv_ialdx (pc := 84) (x := nI b) (k := t) dX3_goOn_84 hp.g7 rfl (by omega) (hbeh.trans hb) ?_
        refine mv_iadd (pc := 85) dX3_goOn_85 ?_
        refine mv_top (y := nI (6 * t + b)) (mv_ix t 6 b) ?_
        refine mv_istore_n (pc := 86) dX3_goOn_86 (by decide) ?_
        refine mv_aload_n (pc := 87) dX3_goOn_87 rfl ?_
        refine mv_iload_n (pc := 88) dX3_goOn_88 rfl ?_
        refine mv_aload_n (pc := 89) dX3_goOn_89 rfl ?_
        refine mv_getR (pc := 90) (q := q) dX3_goOn_90 fl3_65 (fun _ _ => rfl) (congrArg Prod.fst hp.o) hpl ?_
        refine mv_getR (pc := 93) (q := q + 3) dX3_goOn_93 fl3_118 (fun _ _ => rfl) (congrArg Prod.fst hq.o) hq.f3 ?_
        refine mv_iload_n (pc := 96) dX3_goOn_96 rfl ?_
        refine mv_ialdx (pc := 97) (x := π t (6 + 2 * b)) (k := 6 * t + b) dX3_goOn_97 hq.g3 rfl (by omega) ((hpc.2 t ht).2.2.2.2.2.2 b (by omega)).1 ?_
        refine mv_aload_n (pc := 98) dX3_goOn_98 rfl ?_
        refine mv_getR (pc := 99) (q := q) dX3_goOn_99 fl3_65 (fun _ _ => rfl) (congrArg Prod.fst hp.o) hpl ?_
        refine mv_getR (pc := 102) (q := q + 4) dX3_goOn_102 fl3_121 (fun _ _ => rfl) (congrArg Prod.fst hq.o) hq.f4 ?_
        refine mv_iload_n (pc := 105) dX3_goOn_105 rfl ?_
        refine mv_ialdx (pc := 106) (x := π t (7 + 2 * b)) (k := 6 * t + b) dX3_goOn_106 hq.g4 rfl (by omega) ((hpc.2 t ht).2.2.2.2.2.2 b (by omega)).2 ?_
        refine mv_cVv (pc := 107) dX3_goOn_107 lk3_124 (congrArg Prod.fst hp.o) (c3_operate K h hW ht h1 hb hs hlt hs6 rfl rfl) rfl rfl (Nat.le_of_ble_eq_true rfl) (by decide) (by decide) (fun J ⟨hr, hf⟩ => ?_)
        refine mv_vret (pc := 110) dX3_goOn_110 rfl (by decide) (by decide) (hQ _ ⟨?_, hf⟩)
        unfold xs_mo
        rw [if_neg hno, if_neg (by rw [hb, hs, nI_eq (by omega) (by omega)]; omega)]
        exact hr
      · exact absurd (nI_lt (b := 6) (by omega) (by decide)) hc2
  refine mv_aload_n (pc := 0) dX3_goOn_0 rfl ?_
  refine mv_getR (pc := 1) (q := p + 9) dX3_goOn_1 fl3_40 (fun _ _ => rfl) (congrArg Prod.fst hp.o) hp.f10 ?_
  refine mv_iload_n (pc := 4) dX3_goOn_4 rfl ?_
  refine mv_ialdx (pc := 5) (x := x t 5) (k := t) dX3_goOn_5 hp.g10 rfl (by omega) hask ?_
  refine mv_iconst (pc := 6) (v := 1) dX3_goOn_6 (by decide) ?_
  refine mv_icmp_ne (pc := 7) (tgt := 37) dX3_goOn_7 (by decide) (fun hc => ?_) (fun hc => ?_)
  · exact rest (fun q => hc q.1)
  · refine mv_aload_n (pc := 10) dX3_goOn_10 rfl ?_
    refine mv_getR (pc := 11) (q := p + 6) dX3_goOn_11 fl3_31 (fun _ _ => rfl) (congrArg Prod.fst hp.o) hp.f7 ?_
    refine mv_iload_n (pc := 14) dX3_goOn_14 rfl ?_
    refine mv_ialdx (pc := 15) (x := x t 2) (k := t) dX3_goOn_15 hp.g7 rfl (by omega) hbeh ?_
    refine mv_aload_n (pc := 16) dX3_goOn_16 rfl ?_
    refine mv_getR (pc := 17) (q := q) dX3_goOn_17 fl3_65 (fun _ _ => rfl) (congrArg Prod.fst hp.o) hpl ?_
    refine mv_getR (pc := 20) (q := q + 6) dX3_goOn_20 fl3_112 (fun _ _ => rfl) (congrArg Prod.fst hq.o) hq.f6 ?_
    refine mv_iload_n (pc := 23) dX3_goOn_23 rfl ?_
    refine mv_ialdx (pc := 24) (x := π t 3) (k := t) dX3_goOn_24 hq.g6 rfl (by omega) (hpc.2 t ht).2.2.2.1 ?_
    refine mv_icmp_lt (pc := 25) (tgt := 37) dX3_goOn_25 (by decide) (fun hc2 => ?_) (fun hc2 => ?_)
    · exact rest (fun q => absurd q.2 (Int32.not_le.mpr hc2))
    · refine mv_aload_n (pc := 28) dX3_goOn_28 rfl ?_
      refine mv_iload_n (pc := 29) dX3_goOn_29 rfl ?_
      refine mv_iconst (pc := 30) (v := 2) dX3_goOn_30 (by decide) ?_
      refine mv_cVv (pc := 31) dX3_goOn_31 lk3_94 (congrArg Prod.fst hp.o) (c3_close K h ht he he6) rfl rfl (Nat.le_of_ble_eq_true rfl) (by decide) (by decide) (fun J ⟨hr, hf⟩ => ?_)
      refine mv_goto (pc := 34) (tgt := 110) dX3_goOn_34 (by decide) ?_
      refine mv_vret (pc := 110) dX3_goOn_110 rfl (by decide) (by decide) (hQ _ ⟨?_, hf⟩)
      unfold xs_mo
      rw [if_pos ⟨hc, Int32.not_lt.mp hc2⟩]
      exact hr
theorem c3_goOn {l : Launch} {D : va_G} {b0 n : Nat} {sh : mv_Sh} {I : mv_I} {R : mv_R} {p q nt t : Nat} {π x : xs_X} (K : rc_P sh R I p q nt π) (h : rc_R I p nt x) (hW : xs_W nt π x) (ht : t < nt) (h1 : x t 0 = 1) : mv_C l D b0 m3_goOn (mv_rm 4) [.ref p, .int (nI t)] n sh I R (mv_Pv n sh R (fun I' => rc_R I' p nt (xs_mo nt π x t) ∧ rc_Fr p I I')) := mv_C.of 1 (by decide) (by simp [Value.category]) rfl (e3_goOn K h hW ht h1 (fun _ h => mv_Pv.mk h))

