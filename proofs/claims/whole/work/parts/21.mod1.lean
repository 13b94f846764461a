set_option maxHeartbeats 4000000 in
set_option maxRecDepth 100000 in
theorem e6_at {l : Launch} {D : va_G} {b0 n : Nat} {sh : mv_Sh} {I : mv_I} {R : mv_R} {Q : mv_Q} {a t k : Nat} {x : xs_X} (ha : sh a = (7, 326)) (h : rm_R I a x) (ht : t < 8) (hk : k < 18) (hQ : ∀ r I', (r = x t k ∧ I' = I) → Q (some (.int r)) n sh I' R) : mv_E l D b0 m6_at (mv_rm 0) Q 0 [.ref a, .int (nI t), .int (nI k)] [] 0 0 n sh I R := by
  refine mv_aload_n (pc := 0) dX6_at_0 rfl ?_
  refine mv_bipush (pc := 1) (v := 18) dX6_at_1 (by decide) ?_
  refine mv_iload_n (pc := 3) dX6_at_3 rfl ?_
  refine mv_imul (pc := 4) dX6_at_4 ?_
  refine mv_iload_n (pc := 5) dX6_at_5 rfl ?_
  refine mv_iadd (pc := 6) dX6_at_6 ?_
  refine mv_ialdx (pc := 7) (x := x t k) (k := 18 * t + k) dX6_at_7 ha (mv_jx 18 t k) (by omega) (h.1 t ht k hk) ?_
  exact mv_iret (pc := 8) dX6_at_8 rfl (by decide) (by decide) (hQ _ _ ⟨rfl, rfl⟩)
theorem c6_at {l : Launch} {D : va_G} {b0 n : Nat} {sh : mv_Sh} {I : mv_I} {R : mv_R} {a t k : Nat} {x : xs_X} (ha : sh a = (7, 326)) (h : rm_R I a x) (ht : t < 8) (hk : k < 18) : mv_C l D b0 m6_at (mv_rm 0) [.ref a, .int (nI t), .int (nI k)] n sh I R (mv_Pi n sh R (fun r I' => r = x t k ∧ I' = I)) := mv_C.of 0 (by decide) (by simp [Value.category]) rfl (e6_at ha h ht hk (fun _ _ h => mv_Pi.mk h))
set_option maxHeartbeats 4000000 in
set_option maxRecDepth 100000 in
theorem e6_isHow {l : Launch} {D : va_G} {b0 n : Nat} {sh : mv_Sh} {I : mv_I} {R : mv_R} {Q : mv_Q} {a t : Nat} {x : xs_X} {w : Int32} (ha : sh a = (7, 326)) (h : rm_R I a x) (ht : t < 8) (hQ : ∀ r I', (r = (if x t 0 = w then 1 else 0) ∧ I' = I) → Q (some (.int r)) n sh I' R) : mv_E l D b0 m6_isHow (mv_rm 0) Q 0 [.ref a, .int (nI t), .int w] [] 0 0 n sh I R := by
  refine mv_aload_n (pc := 0) dX6_isHow_0 rfl ?_
  refine mv_bipush (pc := 1) (v := 18) dX6_isHow_1 (by decide) ?_
  refine mv_iload_n (pc := 3) dX6_isHow_3 rfl ?_
  refine mv_imul (pc := 4) dX6_isHow_4 ?_
  refine mv_iconst (pc := 5) (v := 0) dX6_isHow_5 (by decide) ?_
  refine mv_iadd (pc := 6) dX6_isHow_6 ?_
  refine mv_ialdx (pc := 7) (x := x t 0) (k := 18 * t + 0) dX6_isHow_7 ha (mv_jx 18 t 0) (by omega) (h.1 t ht 0 (by decide)) ?_
  refine mv_iload_n (pc := 8) dX6_isHow_8 rfl ?_
  refine mv_icmp_ne (pc := 9) (tgt := 16) dX6_isHow_9 (by decide) (fun hb => ?_) (fun hb => ?_)
  · refine mv_iconst (pc := 16) (v := 0) dX6_isHow_16 (by decide) ?_
    exact mv_zret (pc := 17) dX6_isHow_17 rfl (by rfl) (by decide) (by decide) (hQ _ _ ⟨by rw [if_neg hb], rfl⟩)
  · refine mv_iconst (pc := 12) (v := 1) dX6_isHow_12 (by decide) ?_
    refine mv_goto (pc := 13) (tgt := 17) dX6_isHow_13 (by decide) ?_
    exact mv_zret (pc := 17) dX6_isHow_17 rfl (by rfl) (by decide) (by decide) (hQ _ _ ⟨by rw [if_pos hb], rfl⟩)
theorem c6_isHow {l : Launch} {D : va_G} {b0 n : Nat} {sh : mv_Sh} {I : mv_I} {R : mv_R} {a t : Nat} {x : xs_X} {w : Int32} (ha : sh a = (7, 326)) (h : rm_R I a x) (ht : t < 8) : mv_C l D b0 m6_isHow (mv_rm 0) [.ref a, .int (nI t), .int w] n sh I R (mv_Pi n sh R (fun r I' => r = (if x t 0 = w then 1 else 0) ∧ I' = I)) := mv_C.of 0 (by decide) (by simp [Value.category]) rfl (e6_isHow ha h ht (fun _ _ h => mv_Pi.mk h))
set_option maxHeartbeats 4000000 in
set_option maxRecDepth 100000 in
theorem e6_traces {l : Launch} {D : va_G} {b0 n : Nat} {sh : mv_Sh} {I : mv_I} {R : mv_R} {Q : mv_Q} {a t e : Nat} {x : xs_X} {w : Int32} (ha : sh a = (7, 326)) (h : rm_R I a x) (he : x 8 1 = nI e) (he6 : e ≤ 60) (hQ : ∀ I', (rm_R I' a (xs_tr x t w) ∧ rm_Fr a I I') → Q none n sh I' R) : mv_E l D b0 m6_traces (mv_rm 0) Q 0 [.ref a, .int (nI t), .int w, .null] [] 0 0 n sh I R := by
  have h145 : I a 145 = nI e := h.2.1.2.trans he
  have h144 : I a 144 = x 8 0 := h.2.1.1
  refine mv_aload_n (pc := 0) dX6_traces_0 rfl ?_
  refine mv_sipush (pc := 1) (v := 145) dX6_traces_1 (by decide) ?_
  refine mv_ialdx (pc := 4) (x := nI e) (k := 145) dX6_traces_4 ha (by decide) (by omega) h145 ?_
  refine mv_bipush (pc := 5) (v := 60) dX6_traces_5 (by decide) ?_
  refine mv_icmp_ge (pc := 7) (tgt := 51) dX6_traces_7 (by decide) (fun hb => ?_) (fun hb => ?_)
  · have hee : ¬ e < 60 := fun q => nI_ge q (by decide) hb
    refine mv_vret (pc := 51) dX6_traces_51 rfl (by decide) (by decide) (hQ I ⟨?_, rm_Fr.rf⟩)
    have : xs_tr x t w = x := by
      unfold xs_tr
      rw [he, if_neg (show ¬ nI e < (60 : Int32) from nI_nlt (b := 60) (by omega) (by omega))]
    rw [this]; exact h
  · have hee : e < 60 := by
      rcases Nat.lt_or_ge e 60 with q | q
      · exact q
      · exact absurd (nI_le q (by omega)) hb
    refine mv_sipush (pc := 10) (v := 146) dX6_traces_10 (by decide) ?_
    refine mv_iconst (pc := 13) (v := 3) dX6_traces_13 (by decide) ?_
    refine mv_aload_n (pc := 14) dX6_traces_14 rfl ?_
    refine mv_sipush (pc := 15) (v := 145) dX6_traces_15 (by decide) ?_
    refine mv_ialdx (pc := 18) (x := nI e) (k := 145) dX6_traces_18 ha (by decide) (by omega) h145 ?_
    refine mv_imul (pc := 19) dX6_traces_19 ?_
    refine mv_iadd (pc := 20) dX6_traces_20 ?_
    refine mv_top (y := nI (146 + 3 * e)) (show nI 146 + nI 3 * nI e = nI (146 + 3 * e) by rw [nI_mul, nI_add]) ?_
    refine mv_istore_n (pc := 21) dX6_traces_21 (by decide) ?_
    refine mv_aload_n (pc := 22) dX6_traces_22 rfl ?_
    refine mv_iload_n (pc := 23) dX6_traces_23 rfl ?_
    refine mv_aload_n (pc := 24) dX6_traces_24 rfl ?_
    refine mv_sipush (pc := 25) (v := 144) dX6_traces_25 (by decide) ?_
    refine mv_ialdx (pc := 28) (x := x 8 0) (k := 144) dX6_traces_28 ha (by decide) (by omega) h144 ?_
    refine mv_iast (pc := 29) (k := 146 + 3 * e) dX6_traces_29 ha rfl (by omega) ?_
    refine mv_aload_n (pc := 30) dX6_traces_30 rfl ?_
    refine mv_iload_n (pc := 31) dX6_traces_31 rfl ?_
    refine mv_iconst (pc := 32) (v := 1) dX6_traces_32 (by decide) ?_
    refine mv_iadd (pc := 33) dX6_traces_33 ?_
    refine mv_iload_n (pc := 34) dX6_traces_34 rfl ?_
    refine mv_iast (pc := 35) (k := 146 + 3 * e + 1) dX6_traces_35 ha (nI_add _ 1) (by omega) ?_
    refine mv_aload_n (pc := 36) dX6_traces_36 rfl ?_
    refine mv_iload_n (pc := 37) dX6_traces_37 rfl ?_
    refine mv_iconst (pc := 38) (v := 2) dX6_traces_38 (by decide) ?_
    refine mv_iadd (pc := 39) dX6_traces_39 ?_
    refine mv_iload_n (pc := 40) dX6_traces_40 rfl ?_
    refine mv_iast (pc := 41) (k := 146 + 3 * e + 2) dX6_traces_41 ha (nI_add _ 2) (by omega) ?_
    refine mv_aload_n (pc := 42) dX6_traces_42 rfl ?_
    refine mv_sipush (pc := 43) (v := 145) dX6_traces_43 (by decide) ?_
    refine mv_dup2 (pc := 46) dX6_traces_46 rfl rfl ?_
    refine mv_ialdx (pc := 47) (x := nI e) (k := 145) dX6_traces_47 ha (by decide) (by omega) (by have q0 : ¬ 145 = 146 + 3 * e := (by omega); have q1 : ¬ 145 = 146 + 3 * e + 1 := (by omega); have q2 : ¬ 145 = 146 + 3 * e + 2 := (by omega); simp only [mv_up, q0, q1, q2, and_false, if_false]; exact h145) ?_
    refine mv_iconst (pc := 48) (v := 1) dX6_traces_48 (by decide) ?_
    refine mv_iadd (pc := 49) dX6_traces_49 ?_
    refine mv_iast (pc := 50) (k := 145) dX6_traces_50 ha (by decide) (by omega) ?_
    exact mv_vret (pc := 51) dX6_traces_51 rfl (by decide) (by decide) (hQ _ ⟨rm_tr h he hee, rm_Fr.rf.up.up.up.up⟩)
theorem c6_traces {l : Launch} {D : va_G} {b0 n : Nat} {sh : mv_Sh} {I : mv_I} {R : mv_R} {a t e : Nat} {x : xs_X} {w : Int32} (ha : sh a = (7, 326)) (h : rm_R I a x) (he : x 8 1 = nI e) (he6 : e ≤ 60) : mv_C l D b0 m6_traces (mv_rm 0) [.ref a, .int (nI t), .int w] n sh I R (mv_Pv n sh R (fun I' => rm_R I' a (xs_tr x t w) ∧ rm_Fr a I I')) := mv_C.of 1 (by decide) (by simp [Value.category]) rfl (e6_traces ha h he he6 (fun _ h => mv_Pv.mk h))
set_option maxHeartbeats 4000000 in
set_option maxRecDepth 100000 in
theorem e6_codes {l : Launch} {D : va_G} {b0 n : Nat} {sh : mv_Sh} {I : mv_I} {R : mv_R} {Q : mv_Q} {a t c : Nat} {x : xs_X} {w : Int32} (ha : sh a = (7, 326)) (h : rm_R I a x) (ht : t < 8) (hc : x t 9 = nI c) (hc8 : c ≤ 8) (hQ : ∀ I', (rm_R I' a (xs_cd x t w) ∧ rm_Fr a I I') → Q none n sh I' R) : mv_E l D b0 m6_codes (mv_rm 1) Q 0 [.ref a, .int (nI t), .int w] [] 0 0 n sh I R := by
  refine mv_aload_n (pc := 0) dX6_codes_0 rfl ?_
  refine mv_iload_n (pc := 1) dX6_codes_1 rfl ?_
  refine mv_bipush (pc := 2) (v := 9) dX6_codes_2 (by decide) ?_
  refine mv_cSi (pc := 4) dX6_codes_4 lk6_161 (c6_at ha h ht (k := 9) (by decide)) rfl rfl (Nat.le_of_ble_eq_true rfl) (by decide) (by decide) (fun r J ⟨e1, e2⟩ => ?_)
  subst e1 e2
  refine mv_top (y := nI c) hc ?_
  refine mv_bipush (pc := 7) (v := 8) dX6_codes_7 (by decide) ?_
  refine mv_icmp_ge (pc := 9) (tgt := 43) dX6_codes_9 (by decide) (fun hb => ?_) (fun hb => ?_)
  · have hee : ¬ c < 8 := fun q => nI_ge q (by decide) hb
    refine mv_vret (pc := 43) dX6_codes_43 rfl (by decide) (by decide) (hQ _ ⟨?_, rm_Fr.rf⟩)
    have : xs_cd x t w = x := by
      unfold xs_cd
      rw [hc, if_neg (show ¬ nI c < (8 : Int32) from nI_nlt (b := 8) (by omega) (by omega))]
    rw [this]; exact h
  · have hee : c < 8 := by
      rcases Nat.lt_or_ge c 8 with q | q
      · exact q
      · exact absurd (nI_le q (by omega)) hb
    have e0 : xs_cd x t w = mv_up (mv_up x t (10 + c) w) t 9 (nI c + 1) := by
      unfold xs_cd
      rw [hc, if_pos (show nI c < (8 : Int32) from nI_lt hee (by decide)), nI_clamp (by omega)]
    refine mv_aload_n (pc := 12) dX6_codes_12 rfl ?_
    refine mv_bipush (pc := 13) (v := 18) dX6_codes_13 (by decide) ?_
    refine mv_iload_n (pc := 15) dX6_codes_15 rfl ?_
    refine mv_imul (pc := 16) dX6_codes_16 ?_
    refine mv_bipush (pc := 17) (v := 10) dX6_codes_17 (by decide) ?_
    refine mv_iadd (pc := 19) dX6_codes_19 ?_
    refine mv_aload_n (pc := 20) dX6_codes_20 rfl ?_
    refine mv_iload_n (pc := 21) dX6_codes_21 rfl ?_
    refine mv_bipush (pc := 22) (v := 9) dX6_codes_22 (by decide) ?_
    refine mv_cSi (pc := 24) dX6_codes_24 lk6_161 (c6_at ha h ht (k := 9) (by decide)) rfl rfl (Nat.le_of_ble_eq_true rfl) (by decide) (by decide) (fun r J ⟨e1, e2⟩ => ?_)
    subst e1 e2
    refine mv_top (y := nI c) hc ?_
    refine mv_iadd (pc := 27) dX6_codes_27 ?_
    refine mv_iload_n (pc := 28) dX6_codes_28 rfl ?_
    refine mv_iast (pc := 29) (k := 18 * t + (10 + c)) dX6_codes_29 ha (show nI 18 * nI t + nI 10 + nI c = nI (18 * t + (10 + c)) by rw [nI_mul, nI_add, nI_add, Nat.add_assoc]) (by omega) ?_
    refine mv_aload_n (pc := 30) dX6_codes_30 rfl ?_
    refine mv_bipush (pc := 31) (v := 18) dX6_codes_31 (by decide) ?_
    refine mv_iload_n (pc := 33) dX6_codes_33 rfl ?_
    refine mv_imul (pc := 34) dX6_codes_34 ?_
    refine mv_bipush (pc := 35) (v := 9) dX6_codes_35 (by decide) ?_
    refine mv_iadd (pc := 37) dX6_codes_37 ?_
    refine mv_dup2 (pc := 38) dX6_codes_38 rfl rfl ?_
    refine mv_ialdx (pc := 39) (x := nI c) (k := 18 * t + 9) dX6_codes_39 ha (mv_jx 18 t 9) (by omega) (by have q : ¬ 18 * t + 9 = 18 * t + (10 + c) := (by omega); simp only [mv_up, q, and_false, if_false]; rw [h.1 t ht 9 (by decide)]; exact hc) ?_
    refine mv_iconst (pc := 40) (v := 1) dX6_codes_40 (by decide) ?_
    refine mv_iadd (pc := 41) dX6_codes_41 ?_
    refine mv_iast (pc := 42) (k := 18 * t + 9) dX6_codes_42 ha (mv_jx 18 t 9) (by omega) ?_
    refine mv_vret (pc := 43) dX6_codes_43 rfl (by decide) (by decide) (hQ _ ⟨?_, rm_Fr.rf.up.up⟩)
    rw [e0]
    exact rm_set 9 (rm_set (10 + c) h ht (by omega)) ht (by decide)
theorem c6_codes {l : Launch} {D : va_G} {b0 n : Nat} {sh : mv_Sh} {I : mv_I} {R : mv_R} {a t c : Nat} {x : xs_X} {w : Int32} (ha : sh a = (7, 326)) (h : rm_R I a x) (ht : t < 8) (hc : x t 9 = nI c) (hc8 : c ≤ 8) : mv_C l D b0 m6_codes (mv_rm 1) [.ref a, .int (nI t), .int w] n sh I R (mv_Pv n sh R (fun I' => rm_R I' a (xs_cd x t w) ∧ rm_Fr a I I')) := mv_C.of 0 (by decide) (by simp [Value.category]) rfl (e6_codes ha h ht hc hc8 (fun _ h => mv_Pv.mk h))
set_option maxHeartbeats 4000000 in
set_option maxRecDepth 100000 in
theorem e6_asksChildren {l : Launch} {D : va_G} {b0 n : Nat} {sh : mv_Sh} {I : mv_I} {R : mv_R} {Q : mv_Q} {m a nt t : Nat} {π x : xs_X} (K : rm_P sh R I m a nt π) (h : rm_R I a x) (ht : t < nt) (hQ : ∀ I', (rm_R I' a (xs_ask nt π x t) ∧ rm_Fr a I I') → Q none n sh I' R) : mv_E l D b0 m6_asksChildren (mv_rm 1) Q 0 [.ref m, .ref a, .int (nI t), .null] [] 0 0 n sh I R := by
  obtain ⟨hm, ha, haa, hpc, hpw⟩ := id K
  have hn := hpw.2.1
  have loop : ∀ (f c : Nat) (J : mv_I), nt < c + f → 1 ≤ c → c ≤ nt → rm_R J a (xs_ask c π x t) → rm_Fr a I J → mv_E l D b0 m6_asksChildren (mv_rm 1) Q 2 [.ref m, .ref a, .int (nI t), .int (nI c)] [] 0 0 n sh J R := by
    intro f
    induction f with
    | zero => intro c J h1 h2 h3; omega
    | succ f ih =>
      intro c J h1 h2 h3 hr hf
      have hpc' := (K.fr hf).2.2.2.1
      refine mv_iload_n (pc := 2) dX6_asksChildren_2 rfl ?_
      refine mv_aload_n (pc := 3) dX6_asksChildren_3 rfl ?_
      refine mv_getIx (pc := 4) (x := nI nt) dX6_asksChildren_4 fl6_142 rfl (congrArg Prod.fst hm.o) hpc'.1 ?_
      refine mv_icmp_ge (pc := 7) (tgt := 44) dX6_asksChildren_7 (by decide) (fun hb => ?_) (fun hb => ?_)
      · have : c = nt := by
          have := (nI_leI (a := nt) (b := c) (by omega) (by omega)).mp hb
          omega
        subst this
        exact mv_vret (pc := 44) dX6_asksChildren_44 rfl (by decide) (by decide) (hQ _ ⟨hr, hf⟩)
      · have hcn : c < nt := by
          rcases Nat.lt_or_ge c nt with q | q
          · exact q
          · exact absurd (nI_le q (by omega)) hb
        have hnext : ∀ J2 : mv_I, rm_R J2 a (xs_ask (c + 1) π x t) → rm_Fr a I J2 → mv_E l D b0 m6_asksChildren (mv_rm 1) Q 38 [.ref m, .ref a, .int (nI t), .int (nI c)] [] 0 0 n sh J2 R := by
          intro J2 hr2 hf2
          refine mv_iinc (pc := 38) (v := nI (c + 1)) dX6_asksChildren_38 (by decide) rfl (nI_1 c) ?_
          refine mv_goto (pc := 41) (tgt := 2) dX6_asksChildren_41 (by decide) ?_
          exact ih (c + 1) J2 (by omega) (by omega) (by omega) hr2 hf2
        have hac : (xs_ask c π x t) c 0 = x c 0 := by simp [xs_ask]
        refine mv_aload_n (pc := 10) dX6_asksChildren_10 rfl ?_
        refine mv_getR (pc := 11) (q := m + 8) dX6_asksChildren_11 fl6_31 (fun _ _ => rfl) (congrArg Prod.fst hm.o) hm.f17 ?_
        refine mv_iload_n (pc := 14) dX6_asksChildren_14 rfl ?_
        refine mv_ialdx (pc := 15) (x := π c 0) (k := c) dX6_asksChildren_15 hm.g17 rfl (by omega) (hpc'.2 c hcn).1 ?_
        refine mv_iload_n (pc := 16) dX6_asksChildren_16 rfl ?_
        refine mv_icmp_ne (pc := 17) (tgt := 38) dX6_asksChildren_17 (by decide) (fun hb2 => ?_) (fun hb2 => ?_)
        · exact hnext J (by rw [xs_ask_no (fun q => hb2 q.1)]; exact hr) hf
        · refine mv_aload_n (pc := 20) dX6_asksChildren_20 rfl ?_
          refine mv_iload_n (pc := 21) dX6_asksChildren_21 rfl ?_
          refine mv_iconst (pc := 22) (v := 1) dX6_asksChildren_22 (by decide) ?_
          refine mv_cSi (pc := 23) dX6_asksChildren_23 lk6_165 (c6_isHow ha hr (by omega)) rfl rfl (Nat.le_of_ble_eq_true rfl) (by decide) (by decide) (fun r J' ⟨e1, e2⟩ => ?_)
          subst e1 e2
          rw [hac]
          refine mv_if_eq (pc := 26) (tgt := 38) dX6_asksChildren_26 (by decide) (fun hb3 => ?_) (fun hb3 => ?_)
          · have : ¬ x c 0 = 1 := fun q => by rw [if_pos q] at hb3; exact absurd hb3 (by decide)
            exact hnext _ (by rw [xs_ask_no (fun q => this q.2)]; exact hr) hf
          · have : x c 0 = 1 := Classical.byContradiction fun q => hb3 (by rw [if_neg q])
            refine mv_aload_n (pc := 29) dX6_asksChildren_29 rfl ?_
            refine mv_bipush (pc := 30) (v := 18) dX6_asksChildren_30 (by decide) ?_
            refine mv_iload_n (pc := 32) dX6_asksChildren_32 rfl ?_
            refine mv_imul (pc := 33) dX6_asksChildren_33 ?_
            refine mv_iconst (pc := 34) (v := 5) dX6_asksChildren_34 (by decide) ?_
            refine mv_iadd (pc := 35) dX6_asksChildren_35 ?_
            refine mv_iconst (pc := 36) (v := 1) dX6_asksChildren_36 (by decide) ?_
            refine mv_iast (pc := 37) (k := 18 * c + 5) dX6_asksChildren_37 ha (mv_jx 18 c 5) (by omega) ?_
            exact hnext _ (by rw [xs_ask_yes (by omega) hb2 this]; exact rm_set 5 hr (by omega) (by decide)) hf.up
  refine mv_iconst (pc := 0) (v := 1) dX6_asksChildren_0 (by decide) ?_
  refine mv_istore_n (pc := 1) dX6_asksChildren_1 (by decide) ?_
  exact loop (nt + 1) 1 I (by have := hpw.1; omega) (by omega) hpw.1 (by rw [xs_ask_lo hpw (by omega) hpw.1 (by omega)]; exact h) rm_Fr.rf
theorem c6_asksChildren {l : Launch} {D : va_G} {b0 n : Nat} {sh : mv_Sh} {I : mv_I} {R : mv_R} {m a nt t : Nat} {π x : xs_X} (K : rm_P sh R I m a nt π) (h : rm_R I a x) (ht : t < nt) : mv_C l D b0 m6_asksChildren (mv_rm 1) [.ref m, .ref a, .int (nI t)] n sh I R (mv_Pv n sh R (fun I' => rm_R I' a (xs_ask nt π x t) ∧ rm_Fr a I I')) := mv_C.of 1 (by decide) (by simp [Value.category]) rfl (e6_asksChildren K h ht (fun _ h => mv_Pv.mk h))

