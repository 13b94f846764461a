set_option maxHeartbeats 4000000 in
set_option maxRecDepth 100000 in
theorem e6_closes {l : Launch} {D : va_G} {b0 n : Nat} {sh : mv_Sh} {I : mv_I} {R : mv_R} {Q : mv_Q} {m a nt t e : Nat} {π x : xs_X} {o : Int32} (K : rm_P sh R I m a nt π) (h : rm_R I a x) (ht : t < nt) (he : x 8 1 = nI e) (he6 : e ≤ 60) (hQ : ∀ I', (rm_R I' a (xs_cl nt π x t o) ∧ rm_Fr a I I') → Q none n sh I' R) : mv_E l D b0 m6_closes (mv_rm 2) Q 0 [.ref m, .ref a, .int (nI t), .int o, .null] [] 0 0 n sh I R := by
  obtain ⟨hm, ha, haa, hpc, hpw⟩ := id K
  have hn := hpw.2.1
  have ht8 : t < 8 := by omega
  have fin : ∀ (f : Int32) (J : mv_I) (y : xs_X), rm_R J a y → rm_Fr a I J → y 8 1 = nI e → xs_tr y t 1 = xs_cl nt π x t o → mv_E l D b0 m6_closes (mv_rm 2) Q 63 [.ref m, .ref a, .int (nI t), .int o, .int f] [] 0 0 n sh J R := by
    intro f J y hr hf hy e2
    refine mv_aload_n (pc := 63) dX6_closes_63 rfl ?_
    refine mv_iload_n (pc := 64) dX6_closes_64 rfl ?_
    refine mv_iconst (pc := 65) (v := 1) dX6_closes_65 (by decide) ?_
    refine mv_cSv (pc := 66) dX6_closes_66 lk6_173 (c6_traces ha hr hy he6) rfl rfl (Nat.le_of_ble_eq_true rfl) (by decide) (by decide) (fun J2 ⟨hr2, hf2⟩ => ?_)
    exact mv_vret (pc := 69) dX6_closes_69 rfl (by decide) (by decide) (hQ _ ⟨by rw [← e2]; exact hr2, hf.tr hf2⟩)
  have main : ∀ (f : Int32), f = (if 0 < x t 9 then 1 else 0) → mv_E l D b0 m6_closes (mv_rm 2) Q 15 [.ref m, .ref a, .int (nI t), .int o, .null] [.int f] 0 0 n sh I R := by
    intro f hf
    have ef : ¬ f = 0 ↔ 0 < x t 9 := by
      rw [hf]
      split
      · rename_i q
        exact ⟨fun _ => q, fun _ => by decide⟩
      · rename_i q
        exact ⟨fun z => absurd rfl z, fun z => absurd z q⟩
    have h1 : rm_R (mv_up I a (18 * t + 0) 2) a (mv_up x t 0 2) := rm_set 0 h ht8 (by decide)
    have join : ∀ v, v = (if o = 0 ∧ 0 < x t 9 then 1 else o) → mv_E l D b0 m6_closes (mv_rm 2) Q 47 [.ref m, .ref a, .int (nI t), .int o, .int f] [.int v, .int (nI (18 * t + 1)), .ref a] 0 0 n sh (mv_up I a (18 * t + 0) 2) R := by
      intro v hv
      have h2 : rm_R (mv_up (mv_up I a (18 * t + 0) 2) a (18 * t + 1) v) a (mv_up (mv_up x t 0 2) t 1 v) := rm_set 1 h1 ht8 (by decide)
      have f2 : rm_Fr a I (mv_up (mv_up I a (18 * t + 0) 2) a (18 * t + 1) v) := rm_Fr.rf.up.up
      have e8 : ∀ z, mv_up (mv_up x t 0 2) t 1 z 8 1 = nI e := fun z => by rw [mv_upN 8 (by omega), mv_upN 8 (by omega)]; exact he
      have yes : (¬ o = 0 ∨ 0 < x t 9) → mv_E l D b0 m6_closes (mv_rm 2) Q 57 [.ref m, .ref a, .int (nI t), .int o, .int f] [] 0 0 n sh (mv_up (mv_up I a (18 * t + 0) 2) a (18 * t + 1) v) R := by
        intro q
        refine mv_aload_n (pc := 57) dX6_closes_57 rfl ?_
        refine mv_aload_n (pc := 58) dX6_closes_58 rfl ?_
        refine mv_iload_n (pc := 59) dX6_closes_59 rfl ?_
        refine mv_cVv (pc := 60) dX6_closes_60 lk6_169 (congrArg Prod.fst hm.o) (c6_asksChildren (K.fr f2) h2 ht) rfl rfl (Nat.le_of_ble_eq_true rfl) (by decide) (by decide) (fun J ⟨hr, hf⟩ => ?_)
        refine fin f J _ hr (f2.tr hf) (by rw [xs_ask_hi hn]; exact e8 v) ?_
        unfold xs_cl
        rw [if_pos q, ← hv]
      refine mv_iast (pc := 47) (k := (18 * t + 1)) dX6_closes_47 ha rfl (by omega) ?_
      refine mv_iload_n (pc := 48) dX6_closes_48 rfl ?_
      refine mv_if_ne (pc := 49) (tgt := 57) dX6_closes_49 (by decide) (fun hb => ?_) (fun hb => ?_)
      · exact yes (Or.inl hb)
      · refine mv_iload (pc := 52) dX6_closes_52 rfl ?_
        refine mv_if_eq (pc := 54) (tgt := 63) dX6_closes_54 (by decide) (fun hb2 => ?_) (fun hb2 => ?_)
        · refine fin f _ _ h2 f2 (e8 v) ?_
          unfold xs_cl
          rw [if_neg (fun q => q.elim (fun z => z hb) (fun z => ef.mpr z hb2)), ← hv]
        · exact yes (Or.inr (ef.mp hb2))
    refine mv_istore (pc := 15) dX6_closes_15 (by decide) ?_
    refine mv_aload_n (pc := 17) dX6_closes_17 rfl ?_
    refine mv_bipush (pc := 18) (v := 18) dX6_closes_18 (by decide) ?_
    refine mv_iload_n (pc := 20) dX6_closes_20 rfl ?_
    refine mv_imul (pc := 21) dX6_closes_21 ?_
    refine mv_iconst (pc := 22) (v := 0) dX6_closes_22 (by decide) ?_
    refine mv_iadd (pc := 23) dX6_closes_23 ?_
    refine mv_iconst (pc := 24) (v := 2) dX6_closes_24 (by decide) ?_
    refine mv_iast (pc := 25) (k := 18 * t + 0) dX6_closes_25 ha (mv_jx 18 t 0) (by omega) ?_
    refine mv_aload_n (pc := 26) dX6_closes_26 rfl ?_
    refine mv_bipush (pc := 27) (v := 18) dX6_closes_27 (by decide) ?_
    refine mv_iload_n (pc := 29) dX6_closes_29 rfl ?_
    refine mv_imul (pc := 30) dX6_closes_30 ?_
    refine mv_iconst (pc := 31) (v := 1) dX6_closes_31 (by decide) ?_
    refine mv_iadd (pc := 32) dX6_closes_32 ?_
    refine mv_top (y := nI (18 * t + 1)) (mv_jx 18 t 1) ?_
    refine mv_iload_n (pc := 33) dX6_closes_33 rfl ?_
    refine mv_if_ne (pc := 34) (tgt := 46) dX6_closes_34 (by decide) (fun hb => ?_) (fun hb => ?_)
    · refine mv_iload_n (pc := 46) dX6_closes_46 rfl ?_
      exact join o (by rw [if_neg (fun z => hb z.1)])
    · refine mv_iload (pc := 37) dX6_closes_37 rfl ?_
      refine mv_if_eq (pc := 39) (tgt := 46) dX6_closes_39 (by decide) (fun hb2 => ?_) (fun hb2 => ?_)
      · refine mv_iload_n (pc := 46) dX6_closes_46 rfl ?_
        exact join o (by rw [if_neg (fun z => ef.mpr z.2 hb2)])
      · refine mv_iconst (pc := 42) (v := 1) dX6_closes_42 (by decide) ?_
        refine mv_goto (pc := 43) (tgt := 47) dX6_closes_43 (by decide) ?_
        exact join 1 (by rw [if_pos ⟨hb, ef.mp hb2⟩])
  refine mv_aload_n (pc := 0) dX6_closes_0 rfl ?_
  refine mv_iload_n (pc := 1) dX6_closes_1 rfl ?_
  refine mv_bipush (pc := 2) (v := 9) dX6_closes_2 (by decide) ?_
  refine mv_cSi (pc := 4) dX6_closes_4 lk6_161 (c6_at ha h ht8 (k := 9) (by decide)) rfl rfl (Nat.le_of_ble_eq_true rfl) (by decide) (by decide) (fun r J ⟨e1, e2⟩ => ?_)
  subst e1 e2
  refine mv_if_le (pc := 7) (tgt := 14) dX6_closes_7 (by decide) (fun hb => ?_) (fun hb => ?_)
  · refine mv_iconst (pc := 14) (v := 0) dX6_closes_14 (by decide) ?_
    exact main 0 (by rw [if_neg (Int32.not_lt.mpr hb)])
  · refine mv_iconst (pc := 10) (v := 1) dX6_closes_10 (by decide) ?_
    refine mv_goto (pc := 11) (tgt := 15) dX6_closes_11 (by decide) ?_
    exact main 1 (by rw [if_pos (Int32.not_le.mp hb)])
theorem c6_closes {l : Launch} {D : va_G} {b0 n : Nat} {sh : mv_Sh} {I : mv_I} {R : mv_R} {m a nt t e : Nat} {π x : xs_X} {o : Int32} (K : rm_P sh R I m a nt π) (h : rm_R I a x) (ht : t < nt) (he : x 8 1 = nI e) (he6 : e ≤ 60) : mv_C l D b0 m6_closes (mv_rm 2) [.ref m, .ref a, .int (nI t), .int o] n sh I R (mv_Pv n sh R (fun I' => rm_R I' a (xs_cl nt π x t o) ∧ rm_Fr a I I')) := mv_C.of 1 (by decide) (by simp [Value.category]) rfl (e6_closes K h ht he he6 (fun _ h => mv_Pv.mk h))
set_option maxHeartbeats 4000000 in
set_option maxRecDepth 100000 in
theorem e6_begin {l : Launch} {D : va_G} {b0 n : Nat} {sh : mv_Sh} {I : mv_I} {R : mv_R} {Q : mv_Q} {m a nt t u e : Nat} {π x : xs_X} (K : rm_P sh R I m a nt π) (h : rm_R I a x) (ht : t < nt) (hu : u < nt) (hpu : π t 0 = nI u) (htu : t ≠ u) (he : x 8 1 = nI e) (he6 : e ≤ 60) (hQ : ∀ I', (rm_R I' a (xs_bg π x t u) ∧ rm_Fr a I I') → Q none n sh I' R) : mv_E l D b0 m6_begin (mv_rm 1) Q 0 [.ref m, .ref a, .int (nI t), .null, .null] [] 0 0 n sh I R := by
  obtain ⟨hm, ha, haa, hpc, hpw⟩ := id K
  have hn := hpw.2.1
  have ht8 : t < 8 := by omega
  have main : ∀ d, d = (if π t 2 = 99 then 9999 else x 8 0 + π t 2) → mv_E l D b0 m6_begin (mv_rm 1) Q 29 [.ref m, .ref a, .int (nI t), .null, .null] [.int d] 0 0 n sh I R := by
    intro d hd
    have h1 : rm_R (mv_up I a (18 * t + 0) 1) a (mv_up x t 0 1) := rm_set 0 h ht8 (by decide)
    have join : ∀ v, v = xs_due π x t u → mv_E l D b0 m6_begin (mv_rm 1) Q 71 [.ref m, .ref a, .int (nI t), .int d, .int (x u 4)] [.int v, .int (nI (18 * t + 4)), .ref a] 0 0 n sh (mv_up I a (18 * t + 0) 1) R := by
      intro v hv
      have h2 : rm_R (mv_up (mv_up I a (18 * t + 0) 1) a (18 * t + 4) v) a (mv_up (mv_up x t 0 1) t 4 v) := rm_set 4 h1 ht8 (by decide)
      have h3 : rm_R (mv_up (mv_up (mv_up I a (18 * t + 0) 1) a (18 * t + 4) v) a (18 * t + 7) (x 8 0)) a (mv_up (mv_up (mv_up x t 0 1) t 4 v) t 7 (x 8 0)) := rm_set 7 h2 ht8 (by decide)
      refine mv_iast (pc := 71) (k := (18 * t + 4)) dX6_begin_71 ha rfl (by omega) ?_
      refine mv_aload_n (pc := 72) dX6_begin_72 rfl ?_
      refine mv_bipush (pc := 73) (v := 18) dX6_begin_73 (by decide) ?_
      refine mv_iload_n (pc := 75) dX6_begin_75 rfl ?_
      refine mv_imul (pc := 76) dX6_begin_76 ?_
      refine mv_bipush (pc := 77) (v := 7) dX6_begin_77 (by decide) ?_
      refine mv_iadd (pc := 79) dX6_begin_79 ?_
      refine mv_aload_n (pc := 80) dX6_begin_80 rfl ?_
      refine mv_sipush (pc := 81) (v := 144) dX6_begin_81 (by decide) ?_
      refine mv_ialdx (pc := 84) (x := x 8 0) (k := 144) dX6_begin_84 ha (by decide) (by omega) (by rw [h2.2.1.1, mv_upN 8 (by omega), mv_upN 8 (by omega)]) ?_
      refine mv_iast (pc := 85) (k := 18 * t + 7) dX6_begin_85 ha (mv_jx 18 t 7) (by omega) ?_
      refine mv_aload_n (pc := 86) dX6_begin_86 rfl ?_
      refine mv_iload_n (pc := 87) dX6_begin_87 rfl ?_
      refine mv_iconst (pc := 88) (v := 0) dX6_begin_88 (by decide) ?_
      refine mv_cSv (pc := 89) dX6_begin_89 lk6_173 (c6_traces ha h3 (by rw [mv_upN 8 (by omega), mv_upN 8 (by omega), mv_upN 8 (by omega)]; exact he) he6) rfl rfl (Nat.le_of_ble_eq_true rfl) (by decide) (by decide) (fun J ⟨hr, hf⟩ => ?_)
      refine mv_vret (pc := 92) dX6_begin_92 rfl (by decide) (by decide) (hQ _ ⟨?_, rm_Fr.rf.up.up.up.tr hf⟩)
      unfold xs_bg
      rw [← hv]
      exact hr
    refine mv_istore_n (pc := 29) dX6_begin_29 (by decide) ?_
    refine mv_aload_n (pc := 30) dX6_begin_30 rfl ?_
    refine mv_aload_n (pc := 31) dX6_begin_31 rfl ?_
    refine mv_getR (pc := 32) (q := m + 8) dX6_begin_32 fl6_31 (fun _ _ => rfl) (congrArg Prod.fst hm.o) hm.f17 ?_
    refine mv_iload_n (pc := 35) dX6_begin_35 rfl ?_
    refine mv_ialdx (pc := 36) (x := nI u) (k := t) dX6_begin_36 hm.g17 rfl (by omega) ((hpc.2 t ht).1.trans hpu) ?_
    refine mv_iconst (pc := 37) (v := 4) dX6_begin_37 (by decide) ?_
    refine mv_cSi (pc := 38) dX6_begin_38 lk6_161 (c6_at ha h (t := u) (by omega) (k := 4) (by decide)) rfl rfl (Nat.le_of_ble_eq_true rfl) (by decide) (by decide) (fun r J ⟨e1, e2⟩ => ?_)
    subst e1 e2
    refine mv_istore (pc := 41) dX6_begin_41 (by decide) ?_
    refine mv_aload_n (pc := 43) dX6_begin_43 rfl ?_
    refine mv_bipush (pc := 44) (v := 18) dX6_begin_44 (by decide) ?_
    refine mv_iload_n (pc := 46) dX6_begin_46 rfl ?_
    refine mv_imul (pc := 47) dX6_begin_47 ?_
    refine mv_iconst (pc := 48) (v := 0) dX6_begin_48 (by decide) ?_
    refine mv_iadd (pc := 49) dX6_begin_49 ?_
    refine mv_iconst (pc := 50) (v := 1) dX6_begin_50 (by decide) ?_
    refine mv_iast (pc := 51) (k := 18 * t + 0) dX6_begin_51 ha (mv_jx 18 t 0) (by omega) ?_
    refine mv_aload_n (pc := 52) dX6_begin_52 rfl ?_
    refine mv_bipush (pc := 53) (v := 18) dX6_begin_53 (by decide) ?_
    refine mv_iload_n (pc := 55) dX6_begin_55 rfl ?_
    refine mv_imul (pc := 56) dX6_begin_56 ?_
    refine mv_iconst (pc := 57) (v := 4) dX6_begin_57 (by decide) ?_
    refine mv_iadd (pc := 58) dX6_begin_58 ?_
    refine mv_top (y := nI (18 * t + 4)) (mv_jx 18 t 4) ?_
    refine mv_iload_n (pc := 59) dX6_begin_59 rfl ?_
    refine mv_iload (pc := 60) dX6_begin_60 rfl ?_
    have ed : xs_due π x t u = if d < x u 4 then d else x u 4 := by unfold xs_due; rw [← hd]
    refine mv_icmp_ge (pc := 62) (tgt := 69) dX6_begin_62 (by decide) (fun hb => ?_) (fun hb => ?_)
    · refine mv_iload (pc := 69) dX6_begin_69 rfl ?_
      exact join _ (by rw [ed, if_neg (Int32.not_lt.mpr hb)])
    · refine mv_iload_n (pc := 65) dX6_begin_65 rfl ?_
      refine mv_goto (pc := 66) (tgt := 71) dX6_begin_66 (by decide) ?_
      exact join _ (by rw [ed, if_pos (Int32.not_le.mp hb)])
  refine mv_aload_n (pc := 0) dX6_begin_0 rfl ?_
  refine mv_getR (pc := 1) (q := m + 11) dX6_begin_1 fl6_40 (fun _ _ => rfl) (congrArg Prod.fst hm.o) hm.f20 ?_
  refine mv_iload_n (pc := 4) dX6_begin_4 rfl ?_
  refine mv_ialdx (pc := 5) (x := π t 2) (k := t) dX6_begin_5 hm.g20 rfl (by omega) (hpc.2 t ht).2.2.1 ?_
  refine mv_bipush (pc := 6) (v := 99) dX6_begin_6 (by decide) ?_
  refine mv_icmp_ne (pc := 8) (tgt := 17) dX6_begin_8 (by decide) (fun hb => ?_) (fun hb => ?_)
  · refine mv_aload_n (pc := 17) dX6_begin_17 rfl ?_
    refine mv_sipush (pc := 18) (v := 144) dX6_begin_18 (by decide) ?_
    refine mv_ialdx (pc := 21) (x := x 8 0) (k := 144) dX6_begin_21 ha (by decide) (by omega) h.2.1.1 ?_
    refine mv_aload_n (pc := 22) dX6_begin_22 rfl ?_
    refine mv_getR (pc := 23) (q := m + 11) dX6_begin_23 fl6_40 (fun _ _ => rfl) (congrArg Prod.fst hm.o) hm.f20 ?_
    refine mv_iload_n (pc := 26) dX6_begin_26 rfl ?_
    refine mv_ialdx (pc := 27) (x := π t 2) (k := t) dX6_begin_27 hm.g20 rfl (by omega) (hpc.2 t ht).2.2.1 ?_
    refine mv_iadd (pc := 28) dX6_begin_28 ?_
    exact main _ (by rw [if_neg hb])
  · refine mv_sipush (pc := 11) (v := 9999) dX6_begin_11 (by decide) ?_
    refine mv_goto (pc := 14) (tgt := 29) dX6_begin_14 (by decide) ?_
    exact main _ (by rw [if_pos hb])
theorem c6_begin {l : Launch} {D : va_G} {b0 n : Nat} {sh : mv_Sh} {I : mv_I} {R : mv_R} {m a nt t u e : Nat} {π x : xs_X} (K : rm_P sh R I m a nt π) (h : rm_R I a x) (ht : t < nt) (hu : u < nt) (hpu : π t 0 = nI u) (htu : t ≠ u) (he : x 8 1 = nI e) (he6 : e ≤ 60) : mv_C l D b0 m6_begin (mv_rm 1) [.ref m, .ref a, .int (nI t)] n sh I R (mv_Pv n sh R (fun I' => rm_R I' a (xs_bg π x t u) ∧ rm_Fr a I I')) := mv_C.of 2 (by decide) (by simp [Value.category]) rfl (e6_begin K h ht hu hpu htu he he6 (fun _ h => mv_Pv.mk h))
set_option maxHeartbeats 4000000 in
set_option maxRecDepth 100000 in
theorem e6_beginsChild {l : Launch} {D : va_G} {b0 n : Nat} {sh : mv_Sh} {I : mv_I} {R : mv_R} {Q : mv_Q} {m a nt t e : Nat} {π x : xs_X} (K : rm_P sh R I m a nt π) (h : rm_R I a x) (ht : t < nt) (he : x 8 1 = nI e) (he6 : e ≤ 60) (hQ : ∀ I', (rm_R I' a (xs_bc nt π x t) ∧ rm_Fr a I I') → Q none n sh I' R) : mv_E l D b0 m6_beginsChild (mv_rm 2) Q 0 [.ref m, .ref a, .int (nI t), .null] [] 0 0 n sh I R := by
  obtain ⟨hm, ha, haa, hpc, hpw⟩ := id K
  have hn := hpw.2.1
  have loop : ∀ (f c : Nat), nt < c + f → 1 ≤ c → c ≤ nt → (∀ u, u < c → ¬ (1 ≤ u ∧ π u 0 = nI t ∧ x u 0 = 0)) → mv_E l D b0 m6_beginsChild (mv_rm 2) Q 2 [.ref m, .ref a, .int (nI t), .int (nI c)] [] 0 0 n sh I R := by
    intro f
    induction f with
    | zero => intro c h1 h2 h3; omega
    | succ f ih =>
      intro c h1 h2 h3 hl
      refine mv_iload_n (pc := 2) dX6_beginsChild_2 rfl ?_
      refine mv_aload_n (pc := 3) dX6_beginsChild_3 rfl ?_
      refine mv_getIx (pc := 4) (x := nI nt) dX6_beginsChild_4 fl6_142 rfl (congrArg Prod.fst hm.o) hpc.1 ?_
      refine mv_icmp_ge (pc := 7) (tgt := 42) dX6_beginsChild_7 (by decide) (fun hb => ?_) (fun hb => ?_)
      · have : c = nt := by
          have := (nI_leI (a := nt) (b := c) (by omega) (by omega)).mp hb
          omega
        subst this
        refine mv_vret (pc := 42) dX6_beginsChild_42 rfl (by decide) (by decide) (hQ _ ⟨?_, rm_Fr.rf⟩)
        unfold xs_bc
        rw [xs_fc_none hl]
        exact h
      · have hcn : c < nt := by
          rcases Nat.lt_or_ge c nt with q | q
          · exact q
          · exact absurd (nI_le q (by omega)) hb
        have hnext : ¬ (π c 0 = nI t ∧ x c 0 = 0) → mv_E l D b0 m6_beginsChild (mv_rm 2) Q 36 [.ref m, .ref a, .int (nI t), .int (nI c)] [] 0 0 n sh I R := by
          intro q
          refine mv_iinc (pc := 36) (v := nI (c + 1)) dX6_beginsChild_36 (by decide) rfl (nI_1 c) ?_
          refine mv_goto (pc := 39) (tgt := 2) dX6_beginsChild_39 (by decide) ?_
          refine ih (c + 1) (by omega) (by omega) (by omega) (fun u hu => ?_)
          by_cases huc : u = c
          · subst huc; exact fun z => q z.2
          · exact hl u (by omega)
        refine mv_aload_n (pc := 10) dX6_beginsChild_10 rfl ?_
        refine mv_getR (pc := 11) (q := m + 8) dX6_beginsChild_11 fl6_31 (fun _ _ => rfl) (congrArg Prod.fst hm.o) hm.f17 ?_
        refine mv_iload_n (pc := 14) dX6_beginsChild_14 rfl ?_
        refine mv_ialdx (pc := 15) (x := π c 0) (k := c) dX6_beginsChild_15 hm.g17 rfl (by omega) (hpc.2 c hcn).1 ?_
        refine mv_iload_n (pc := 16) dX6_beginsChild_16 rfl ?_
        refine mv_icmp_ne (pc := 17) (tgt := 36) dX6_beginsChild_17 (by decide) (fun hb2 => ?_) (fun hb2 => ?_)
        · exact hnext (fun q => hb2 q.1)
        · refine mv_aload_n (pc := 20) dX6_beginsChild_20 rfl ?_
          refine mv_iload_n (pc := 21) dX6_beginsChild_21 rfl ?_
          refine mv_iconst (pc := 22) (v := 0) dX6_beginsChild_22 (by decide) ?_
          refine mv_cSi (pc := 23) dX6_beginsChild_23 lk6_165 (c6_isHow ha h (by omega)) rfl rfl (Nat.le_of_ble_eq_true rfl) (by decide) (by decide) (fun r J' ⟨e1, e2⟩ => ?_)
          subst e1 e2
          refine mv_if_eq (pc := 26) (tgt := 36) dX6_beginsChild_26 (by decide) (fun hb3 => ?_) (fun hb3 => ?_)
          · have : ¬ x c 0 = 0 := fun q => by rw [if_pos q] at hb3; exact absurd hb3 (by decide)
            exact hnext (fun q => this q.2)
          · have hx0 : x c 0 = 0 := Classical.byContradiction fun q => hb3 (by rw [if_neg q])
            have hct := hpw.par hcn (by omega) hb2 (by omega)
            refine mv_aload_n (pc := 29) dX6_beginsChild_29 rfl ?_
            refine mv_aload_n (pc := 30) dX6_beginsChild_30 rfl ?_
            refine mv_iload_n (pc := 31) dX6_beginsChild_31 rfl ?_
            refine mv_cVv (pc := 32) dX6_beginsChild_32 lk6_177 (congrArg Prod.fst hm.o) (c6_begin K h hcn ht hb2 (by omega) he he6) rfl rfl (Nat.le_of_ble_eq_true rfl) (by decide) (by decide) (fun J ⟨hr, hf⟩ => ?_)
            refine mv_vret (pc := 35) dX6_beginsChild_35 rfl (by decide) (by decide) (hQ _ ⟨?_, hf⟩)
            unfold xs_bc
            rw [xs_fc_some hcn ⟨by omega, hb2, hx0⟩ hl]
            exact hr
  refine mv_iconst (pc := 0) (v := 1) dX6_beginsChild_0 (by decide) ?_
  refine mv_istore_n (pc := 1) dX6_beginsChild_1 (by decide) ?_
  refine loop (nt + 1) 1 (by omega) (by omega) hpw.1 (fun u hu q => by omega)
theorem c6_beginsChild {l : Launch} {D : va_G} {b0 n : Nat} {sh : mv_Sh} {I : mv_I} {R : mv_R} {m a nt t e : Nat} {π x : xs_X} (K : rm_P sh R I m a nt π) (h : rm_R I a x) (ht : t < nt) (he : x 8 1 = nI e) (he6 : e ≤ 60) : mv_C l D b0 m6_beginsChild (mv_rm 2) [.ref m, .ref a, .int (nI t)] n sh I R (mv_Pv n sh R (fun I' => rm_R I' a (xs_bc nt π x t) ∧ rm_Fr a I I')) := mv_C.of 1 (by decide) (by simp [Value.category]) rfl (e6_beginsChild K h ht he he6 (fun _ h => mv_Pv.mk h))
set_option maxHeartbeats 4000000 in
set_option maxRecDepth 100000 in
theorem e6_isBusy {l : Launch} {D : va_G} {b0 n : Nat} {sh : mv_Sh} {I : mv_I} {R : mv_R} {Q : mv_Q} {m a nt t : Nat} {π x : xs_X} (K : rm_P sh R I m a nt π) (h : rm_R I a x) (ht : t < nt) (hQ : ∀ r I', (r = (if xs_busy nt π x t = true then 1 else 0) ∧ I' = I) → Q (some (.int r)) n sh I' R) : mv_E l D b0 m6_isBusy (mv_rm 1) Q 0 [.ref m, .ref a, .int (nI t), .null, .null] [] 0 0 n sh I R := by
  obtain ⟨hm, ha, haa, hpc, hpw⟩ := id K
  have hn := hpw.2.1
  have loop : ∀ (f c : Nat) (b : Int32), nt < c + f → 1 ≤ c → c ≤ nt → b = (if xs_busy c π x t = true then 1 else 0) → mv_E l D b0 m6_isBusy (mv_rm 1) Q 5 [.ref m, .ref a, .int (nI t), .int b, .int (nI c)] [] 0 0 n sh I R := by
    intro f
    induction f with
    | zero => intro c b h1 h2 h3; omega
    | succ f ih =>
      intro c b h1 h2 h3 hbv
      have eb : ¬ b = 0 ↔ xs_busy c π x t = true := by
        rw [hbv]
        split
        · rename_i q
          exact ⟨fun _ => q, fun _ => by decide⟩
        · rename_i q
          exact ⟨fun z => absurd rfl z, fun z => absurd z q⟩
      have es : xs_busy (c + 1) π x t = true ↔ xs_busy c π x t = true ∨ (1 ≤ c ∧ π c 0 = nI t ∧ (x c 0 = 1 ∨ x c 0 = 2)) := by
        rw [xs_busy_iff, xs_busy_iff]
        constructor
        · rintro ⟨u, u1, u2⟩
          by_cases hu : u = c
          · subst hu; exact Or.inr u2
          · exact Or.inl ⟨u, by omega, u2⟩
        · rintro (⟨u, u1, u2⟩ | q)
          · exact ⟨u, by omega, u2⟩
          · exact ⟨c, by omega, q⟩
      refine mv_iload (pc := 5) dX6_isBusy_5 rfl ?_
      refine mv_aload_n (pc := 7) dX6_isBusy_7 rfl ?_
      refine mv_getIx (pc := 8) (x := nI nt) dX6_isBusy_8 fl6_142 rfl (congrArg Prod.fst hm.o) hpc.1 ?_
      refine mv_icmp_ge (pc := 11) (tgt := 61) dX6_isBusy_11 (by decide) (fun hb => ?_) (fun hb => ?_)
      · have : c = nt := by
          have := (nI_leI (a := nt) (b := c) (by omega) (by omega)).mp hb
          omega
        subst this
        refine mv_iload_n (pc := 61) dX6_isBusy_61 rfl ?_
        refine mv_zret (pc := 62) dX6_isBusy_62 rfl ?_ (by decide) (by decide) (hQ _ _ ⟨hbv, rfl⟩)
        rw [hbv]
        split <;> rfl
      · have hcn : c < nt := by
          rcases Nat.lt_or_ge c nt with q | q
          · exact q
          · exact absurd (nI_le q (by omega)) hb
        have nxt : ∀ v, v = (if xs_busy (c + 1) π x t = true then 1 else 0) → mv_E l D b0 m6_isBusy (mv_rm 1) Q 54 [.ref m, .ref a, .int (nI t), .int b, .int (nI c)] [.int v] 0 0 n sh I R := by
          intro v hv
          refine mv_istore_n (pc := 54) dX6_isBusy_54 (by decide) ?_
          refine mv_iinc (pc := 55) (v := nI (c + 1)) dX6_isBusy_55 (by decide) rfl (nI_1 c) ?_
          refine mv_goto (pc := 58) (tgt := 5) dX6_isBusy_58 (by decide) ?_
          exact ih (c + 1) v (by omega) (by omega) (by omega) hv
        have yes : xs_busy (c + 1) π x t = true → mv_E l D b0 m6_isBusy (mv_rm 1) Q 49 [.ref m, .ref a, .int (nI t), .int b, .int (nI c)] [] 0 0 n sh I R := by
          intro q
          refine mv_iconst (pc := 49) (v := 1) dX6_isBusy_49 (by decide) ?_
          refine mv_goto (pc := 50) (tgt := 54) dX6_isBusy_50 (by decide) ?_
          exact nxt 1 (by rw [if_pos q])
        have no : ¬ xs_busy (c + 1) π x t = true → mv_E l D b0 m6_isBusy (mv_rm 1) Q 53 [.ref m, .ref a, .int (nI t), .int b, .int (nI c)] [] 0 0 n sh I R := by
          intro q
          refine mv_iconst (pc := 53) (v := 0) dX6_isBusy_53 (by decide) ?_
          exact nxt 0 (by rw [if_neg q])
        refine mv_iload_n (pc := 14) dX6_isBusy_14 rfl ?_
        refine mv_if_ne (pc := 15) (tgt := 49) dX6_isBusy_15 (by decide) (fun hb2 => ?_) (fun hb2 => ?_)
        · exact yes (es.mpr (Or.inl (eb.mp hb2)))
        · have nb : ¬ xs_busy c π x t = true := fun q => eb.mpr q hb2
          refine mv_aload_n (pc := 18) dX6_isBusy_18 rfl ?_
          refine mv_getR (pc := 19) (q := m + 8) dX6_isBusy_19 fl6_31 (fun _ _ => rfl) (congrArg Prod.fst hm.o) hm.f17 ?_
          refine mv_iload (pc := 22) dX6_isBusy_22 rfl ?_
          refine mv_ialdx (pc := 24) (x := π c 0) (k := c) dX6_isBusy_24 hm.g17 rfl (by omega) (hpc.2 c hcn).1 ?_
          refine mv_iload_n (pc := 25) dX6_isBusy_25 rfl ?_
          refine mv_icmp_ne (pc := 26) (tgt := 53) dX6_isBusy_26 (by decide) (fun hb3 => ?_) (fun hb3 => ?_)
          · exact no (fun q => (es.mp q).elim nb (fun z => hb3 z.2.1))
          · refine mv_aload_n (pc := 29) dX6_isBusy_29 rfl ?_
            refine mv_iload (pc := 30) dX6_isBusy_30 rfl ?_
            refine mv_iconst (pc := 32) (v := 1) dX6_isBusy_32 (by decide) ?_
            refine mv_cSi (pc := 33) dX6_isBusy_33 lk6_165 (c6_isHow ha h (by omega)) rfl rfl (Nat.le_of_ble_eq_true rfl) (by decide) (by decide) (fun r J' ⟨e1, e2⟩ => ?_)
            subst e1 e2
            refine mv_if_ne (pc := 36) (tgt := 49) dX6_isBusy_36 (by decide) (fun hb4 => ?_) (fun hb4 => ?_)
            · have : x c 0 = 1 := Classical.byContradiction fun q => hb4 (by rw [if_neg q])
              exact yes (es.mpr (Or.inr ⟨h2, hb3, Or.inl this⟩))
            · have n1 : ¬ x c 0 = 1 := fun q => by rw [if_pos q] at hb4; exact absurd hb4 (by decide)
              refine mv_aload_n (pc := 39) dX6_isBusy_39 rfl ?_
              refine mv_iload (pc := 40) dX6_isBusy_40 rfl ?_
              refine mv_iconst (pc := 42) (v := 2) dX6_isBusy_42 (by decide) ?_
              refine mv_cSi (pc := 43) dX6_isBusy_43 lk6_165 (c6_isHow ha h (by omega)) rfl rfl (Nat.le_of_ble_eq_true rfl) (by decide) (by decide) (fun r J' ⟨e1, e2⟩ => ?_)
              subst e1 e2
              refine mv_if_eq (pc := 46) (tgt := 53) dX6_isBusy_46 (by decide) (fun hb5 => ?_) (fun hb5 => ?_)
              · have n2 : ¬ x c 0 = 2 := fun q => by rw [if_pos q] at hb5; exact absurd hb5 (by decide)
                exact no (fun q => (es.mp q).elim nb (fun z => z.2.2.elim n1 n2))
              · have : x c 0 = 2 := Classical.byContradiction fun q => hb5 (by rw [if_neg q])
                exact yes (es.mpr (Or.inr ⟨h2, hb3, Or.inr this⟩))
  refine mv_iconst (pc := 0) (v := 0) dX6_isBusy_0 (by decide) ?_
  refine mv_istore_n (pc := 1) dX6_isBusy_1 (by decide) ?_
  refine mv_iconst (pc := 2) (v := 1) dX6_isBusy_2 (by decide) ?_
  refine mv_istore (pc := 3) dX6_isBusy_3 (by decide) ?_
  refine loop (nt + 1) 1 0 (by omega) (by omega) hpw.1 ?_
  rw [if_neg]
  rw [xs_busy_iff]
  rintro ⟨u, u1, u2, -⟩
  omega
theorem c6_isBusy {l : Launch} {D : va_G} {b0 n : Nat} {sh : mv_Sh} {I : mv_I} {R : mv_R} {m a nt t : Nat} {π x : xs_X} (K : rm_P sh R I m a nt π) (h : rm_R I a x) (ht : t < nt) : mv_C l D b0 m6_isBusy (mv_rm 1) [.ref m, .ref a, .int (nI t)] n sh I R (mv_Pi n sh R (fun r I' => r = (if xs_busy nt π x t = true then 1 else 0) ∧ I' = I)) := mv_C.of 2 (by decide) (by simp [Value.category]) rfl (e6_isBusy K h ht (fun _ _ h => mv_Pi.mk h))

