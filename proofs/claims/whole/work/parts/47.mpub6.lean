set_option maxHeartbeats 4000000 in
set_option maxRecDepth 100000 in
theorem e6_howMany {l : Launch} {D : va_G} {b0 n : Nat} {sh : mv_Sh} {I : mv_I} {R : mv_R} {Q : mv_Q} {m nt : Nat} {x : xs_X} {v : Int32} (hm : ly_Mod sh R m) (h : I m 15 = nI nt) (hx : rm_R I (m + 14) x) (hn : nt ≤ 8) (hQ : ∀ r I', (r = nI (xs_ct x v nt) ∧ I' = I) → Q (some (.int r)) n sh I' R) : mv_E l D b0 m6_howMany (mv_rm 1) Q 0 [.ref m, .int v, .null, .null] [] 0 0 n sh I R := by
  have loop : ∀ (f c : Nat), c + f = nt → mv_E l D b0 m6_howMany (mv_rm 1) Q 4 [.ref m, .int v, .int (nI (xs_ct x v c)), .int (nI c)] [] 0 0 n sh I R := by
    intro f
    induction f with
    | zero =>
      intro c hc
      have : c = nt := by omega
      subst this
      refine mv_iload_n (pc := 4) dX6_howMany_4 rfl ?_
      refine mv_aload_n (pc := 5) dX6_howMany_5 rfl ?_
      refine mv_getIx (pc := 6) (x := nI c) dX6_howMany_6 fl6_142 rfl (congrArg Prod.fst hm.o) h ?_
      refine mv_icmp_ge (pc := 9) (tgt := 38) dX6_howMany_9 (by decide) (fun hb => ?_) (fun hb => ?_)
      · refine mv_iload_n (pc := 38) dX6_howMany_38 rfl ?_
        exact mv_iret (pc := 39) dX6_howMany_39 rfl (by decide) (by decide) (hQ _ _ ⟨rfl, rfl⟩)
      · exact absurd (Int32.le_refl _) hb
    | succ f ih =>
      intro c hc
      have e1 : xs_ct x v (c + 1) = if x c 0 = v then xs_ct x v c + 1 else xs_ct x v c := rfl
      have nxt : ∀ a : Int32, nI (xs_ct x v c) + a = nI (xs_ct x v (c + 1)) → mv_E l D b0 m6_howMany (mv_rm 1) Q 30 [.ref m, .int v, .int (nI (xs_ct x v c)), .int (nI c)] [.int a, .int (nI (xs_ct x v c))] 0 0 n sh I R := by
        intro a ha
        refine mv_iadd (pc := 30) dX6_howMany_30 ?_
        refine mv_top ha ?_
        refine mv_istore_n (pc := 31) dX6_howMany_31 (by decide) ?_
        refine mv_iinc (pc := 32) (v := nI (c + 1)) dX6_howMany_32 (by decide) rfl (nI_1 c) ?_
        refine mv_goto (pc := 35) (tgt := 4) dX6_howMany_35 (by decide) ?_
        exact ih (c + 1) (by omega)
      refine mv_iload_n (pc := 4) dX6_howMany_4 rfl ?_
      refine mv_aload_n (pc := 5) dX6_howMany_5 rfl ?_
      refine mv_getIx (pc := 6) (x := nI nt) dX6_howMany_6 fl6_142 rfl (congrArg Prod.fst hm.o) h ?_
      refine mv_icmp_ge (pc := 9) (tgt := 38) dX6_howMany_9 (by decide) (fun hb => ?_) (fun hb => ?_)
      · exact absurd hb (nI_ge (by omega) (by omega))
      · refine mv_iload_n (pc := 12) dX6_howMany_12 rfl ?_
        refine mv_aload_n (pc := 13) dX6_howMany_13 rfl ?_
        refine mv_getR (pc := 14) (q := m + 14) dX6_howMany_14 fl6_49 (fun _ _ => rfl) (congrArg Prod.fst hm.o) hm.f23 ?_
        refine mv_iload_n (pc := 17) dX6_howMany_17 rfl ?_
        refine mv_iload_n (pc := 18) dX6_howMany_18 rfl ?_
        refine mv_cSi (pc := 19) dX6_howMany_19 lk6_165 (c6_isHow hm.g23 hx (t := c) (by omega)) rfl rfl (Nat.le_of_ble_eq_true rfl) (by decide) (by decide) (fun r J ⟨e2, e3⟩ => ?_)
        subst e2 e3
        by_cases q : x c 0 = v
        · rw [if_pos q]
          refine mv_if_eq (pc := 22) (tgt := 29) dX6_howMany_22 (by decide) (fun hb => absurd hb (by decide)) (fun _ => ?_)
          refine mv_iconst (pc := 25) (v := 1) dX6_howMany_25 (by decide) ?_
          refine mv_goto (pc := 26) (tgt := 30) dX6_howMany_26 (by decide) ?_
          exact nxt _ (by rw [e1, if_pos q, nI_1])
        · rw [if_neg q]
          refine mv_if_eq (pc := 22) (tgt := 29) dX6_howMany_22 (by decide) (fun _ => ?_) (fun hb => absurd hb (by decide))
          refine mv_iconst (pc := 29) (v := 0) dX6_howMany_29 (by decide) ?_
          refine nxt _ ?_
          rw [e1, if_neg q]
          exact nI_add _ 0
  refine mv_iconst (pc := 0) (v := 0) dX6_howMany_0 (by decide) ?_
  refine mv_istore_n (pc := 1) dX6_howMany_1 (by decide) ?_
  refine mv_iconst (pc := 2) (v := 0) dX6_howMany_2 (by decide) ?_
  refine mv_istore_n (pc := 3) dX6_howMany_3 (by decide) ?_
  exact loop nt 0 (by omega)
theorem c6_howMany {l : Launch} {D : va_G} {b0 n : Nat} {sh : mv_Sh} {I : mv_I} {R : mv_R} {m nt : Nat} {x : xs_X} {v : Int32} (hm : ly_Mod sh R m) (h : I m 15 = nI nt) (hx : rm_R I (m + 14) x) (hn : nt ≤ 8) : mv_C l D b0 m6_howMany (mv_rm 1) [.ref m, .int v] n sh I R (mv_Pi n sh R (fun r I' => r = nI (xs_ct x v nt) ∧ I' = I)) := mv_C.of 2 (by decide) (by simp [Value.category]) rfl (e6_howMany hm h hx hn (fun _ _ h => mv_Pi.mk h))
theorem ab_count_out {k : Int32} {σ : ab_S} (h : k.toInt < 0 ∨ 8 < k.toInt) : ab_count k σ = -1 := by
  obtain ⟨w, L, nt, π, x, uh, us, kp, sn, se⟩ := σ
  have hk : ∀ c : Nat, c ≤ 8 → ¬ k = nI c := fun c hc q => by
    rw [q, nI_toInt (by omega)] at h
    omega
  have k0 : ¬ k = 0 := hk 0 (by decide)
  have k1 : ¬ k = 1 := hk 1 (by decide)
  have k2 : ¬ k = 2 := hk 2 (by decide)
  have k3 : ¬ k = 3 := hk 3 (by decide)
  have k4 : ¬ k = 4 := hk 4 (by decide)
  have k5 : ¬ k = 5 := hk 5 (by decide)
  have k6 : ¬ k = 6 := hk 6 (by decide)
  have k7 : ¬ k = 7 := hk 7 (by decide)
  have k8 : ¬ k = 8 := hk 8 (by decide)
  unfold ab_count
  simp only [k0, k1, k2, k3, k4, k5, k6, k7, k8, if_false]
set_option maxHeartbeats 4000000 in
set_option maxRecDepth 100000 in
theorem e6_count {l : Launch} {D : va_G} {b0 n : Nat} {sh : mv_Sh} {I : mv_I} {R : mv_R} {Q : mv_Q} {w : Nat → Int32} {L nt uh sn : Nat} {π x : xs_X} {us : Nat → xs_X} {kp : Nat → Option xs_X} {se : Nat → Nat × Nat × Nat} {m : Nat} {v : Int32} (hm : ly_Mod sh R m) (hS : gm_S I m (w, L, nt, π, x, uh, us, kp, sn, se)) (hW : ab_W (w, L, nt, π, x, uh, us, kp, sn, se)) (hQ : ∀ r I', (r = ab_count v (w, L, nt, π, x, uh, us, kp, sn, se) ∧ gm_S I' m (w, L, nt, π, x, uh, us, kp, sn, se) ∧ gm_F m I I') → Q (some (.int r)) n sh I' R) : mv_E l D b0 m6_count (mv_rm 7) Q 0 [.ref m, .int v] [] 0 0 n sh I R := by
  obtain ⟨-, hpw, -, -, -, -, -, -⟩ := id hW
  obtain ⟨⟨s0, -⟩, s1, s2, s3, -, s5⟩ := id hS
  have hn := hpw.2.1
  refine mv_iload_n (pc := 0) dX6_count_0 rfl ?_
  rcases ab_cs v 8 (by decide) with ⟨j, j8, rfl⟩ | ho
  · have hj : j = 0 ∨ j = 1 ∨ j = 2 ∨ j = 3 ∨ j = 4 ∨ j = 5 ∨ j = 6 ∨ j = 7 ∨ j = 8 := by omega
    rcases hj with rfl | rfl | rfl | rfl | rfl | rfl | rfl | rfl | rfl
    · refine mv_tswIn (pc := 1) (off := 51) (tgt := 52) dX6_count_1 (by decide) (by decide) (by decide) (by decide) ?_
      refine mv_aload_n (pc := 52) dX6_count_52 rfl ?_
      refine mv_getIx (pc := 53) (x := nI nt) dX6_count_53 fl6_142 rfl (congrArg Prod.fst hm.o) s1.1 ?_
      exact mv_iret (pc := 56) dX6_count_56 rfl (by decide) (by decide) (hQ _ _ ⟨rfl, hS, fun _ _ => rfl⟩)
    · refine mv_tswIn (pc := 1) (off := 56) (tgt := 57) dX6_count_1 (by decide) (by decide) (by decide) (by decide) ?_
      refine mv_aload_n (pc := 57) dX6_count_57 rfl ?_
      refine mv_getR (pc := 58) (q := m + 14) dX6_count_58 fl6_49 (fun _ _ => rfl) (congrArg Prod.fst hm.o) hm.f23 ?_
      refine mv_sipush (pc := 61) (v := 144) dX6_count_61 (by decide) ?_
      refine mv_ialdx (pc := 64) (x := x 8 0) (k := 144) dX6_count_64 hm.g23 (by decide) (by omega) s2.2.1.1 ?_
      exact mv_iret (pc := 65) dX6_count_65 rfl (by decide) (by decide) (hQ _ _ ⟨rfl, hS, fun _ _ => rfl⟩)
    · refine mv_tswIn (pc := 1) (off := 65) (tgt := 66) dX6_count_1 (by decide) (by decide) (by decide) (by decide) ?_
      refine mv_aload_n (pc := 66) dX6_count_66 rfl ?_
      refine mv_iconst (pc := 67) (v := 1) dX6_count_67 (by decide) ?_
      refine mv_cVi (pc := 68) dX6_count_68 lk6_230 (congrArg Prod.fst hm.o) (c6_howMany hm s1.1 s2 hn) rfl rfl (Nat.le_of_ble_eq_true rfl) (by decide) (by decide) (fun r J3 ⟨e1, e2⟩ => ?_)
      subst e1 e2
      exact mv_iret (pc := 71) dX6_count_71 rfl (by decide) (by decide) (hQ _ _ ⟨rfl, hS, fun _ _ => rfl⟩)
    · refine mv_tswIn (pc := 1) (off := 71) (tgt := 72) dX6_count_1 (by decide) (by decide) (by decide) (by decide) ?_
      refine mv_aload_n (pc := 72) dX6_count_72 rfl ?_
      refine mv_iconst (pc := 73) (v := 2) dX6_count_73 (by decide) ?_
      refine mv_cVi (pc := 74) dX6_count_74 lk6_230 (congrArg Prod.fst hm.o) (c6_howMany hm s1.1 s2 hn) rfl rfl (Nat.le_of_ble_eq_true rfl) (by decide) (by decide) (fun r J3 ⟨e1, e2⟩ => ?_)
      subst e1 e2
      exact mv_iret (pc := 77) dX6_count_77 rfl (by decide) (by decide) (hQ _ _ ⟨rfl, hS, fun _ _ => rfl⟩)
    · refine mv_tswIn (pc := 1) (off := 77) (tgt := 78) dX6_count_1 (by decide) (by decide) (by decide) (by decide) ?_
      refine mv_aload_n (pc := 78) dX6_count_78 rfl ?_
      refine mv_iconst (pc := 79) (v := 3) dX6_count_79 (by decide) ?_
      refine mv_cVi (pc := 80) dX6_count_80 lk6_230 (congrArg Prod.fst hm.o) (c6_howMany hm s1.1 s2 hn) rfl rfl (Nat.le_of_ble_eq_true rfl) (by decide) (by decide) (fun r J3 ⟨e1, e2⟩ => ?_)
      subst e1 e2
      exact mv_iret (pc := 83) dX6_count_83 rfl (by decide) (by decide) (hQ _ _ ⟨rfl, hS, fun _ _ => rfl⟩)
    · refine mv_tswIn (pc := 1) (off := 83) (tgt := 84) dX6_count_1 (by decide) (by decide) (by decide) (by decide) ?_
      refine mv_aload_n (pc := 84) dX6_count_84 rfl ?_
      refine mv_getR (pc := 85) (q := m + 14) dX6_count_85 fl6_49 (fun _ _ => rfl) (congrArg Prod.fst hm.o) hm.f23 ?_
      refine mv_sipush (pc := 88) (v := 145) dX6_count_88 (by decide) ?_
      refine mv_ialdx (pc := 91) (x := x 8 1) (k := 145) dX6_count_91 hm.g23 (by decide) (by omega) s2.2.1.2 ?_
      exact mv_iret (pc := 92) dX6_count_92 rfl (by decide) (by decide) (hQ _ _ ⟨rfl, hS, fun _ _ => rfl⟩)
    · refine mv_tswIn (pc := 1) (off := 92) (tgt := 93) dX6_count_1 (by decide) (by decide) (by decide) (by decide) ?_
      refine mv_aload_n (pc := 93) dX6_count_93 rfl ?_
      refine mv_getIx (pc := 94) (x := nI sn) dX6_count_94 fl6_155 rfl (congrArg Prod.fst hm.o) s5.1 ?_
      exact mv_iret (pc := 97) dX6_count_97 rfl (by decide) (by decide) (hQ _ _ ⟨rfl, hS, fun _ _ => rfl⟩)
    · refine mv_tswIn (pc := 1) (off := 97) (tgt := 98) dX6_count_1 (by decide) (by decide) (by decide) (by decide) ?_
      refine mv_aload_n (pc := 98) dX6_count_98 rfl ?_
      refine mv_getIx (pc := 99) (x := nI L) dX6_count_99 fl6_84 rfl (congrArg Prod.fst hm.o) s0 ?_
      exact mv_iret (pc := 102) dX6_count_102 rfl (by decide) (by decide) (hQ _ _ ⟨rfl, hS, fun _ _ => rfl⟩)
    · refine mv_tswIn (pc := 1) (off := 102) (tgt := 103) dX6_count_1 (by decide) (by decide) (by decide) (by decide) ?_
      refine mv_aload_n (pc := 103) dX6_count_103 rfl ?_
      refine mv_getIx (pc := 104) (x := nI uh) dX6_count_104 fl6_152 rfl (congrArg Prod.fst hm.o) s3.1 ?_
      exact mv_iret (pc := 107) dX6_count_107 rfl (by decide) (by decide) (hQ _ _ ⟨rfl, hS, fun _ _ => rfl⟩)
  · refine mv_tswOut (pc := 1) (tgt := 108) dX6_count_1 ho (by decide) ?_
    refine mv_iconst (pc := 108) (v := -1) dX6_count_108 (by decide) ?_
    refine mv_iret (pc := 109) dX6_count_109 rfl (by decide) (by decide) (hQ _ _ ⟨?_, hS, fun _ _ => rfl⟩)
    rw [ab_count_out ho]
theorem c6_count {l : Launch} {D : va_G} {b0 n : Nat} {sh : mv_Sh} {I : mv_I} {R : mv_R} {w : Nat → Int32} {L nt uh sn : Nat} {π x : xs_X} {us : Nat → xs_X} {kp : Nat → Option xs_X} {se : Nat → Nat × Nat × Nat} {m : Nat} {v : Int32} (hm : ly_Mod sh R m) (hS : gm_S I m (w, L, nt, π, x, uh, us, kp, sn, se)) (hW : ab_W (w, L, nt, π, x, uh, us, kp, sn, se)) : mv_C l D b0 m6_count (mv_rm 7) [.ref m, .int v] n sh I R (mv_Pi n sh R (fun r I' => r = ab_count v (w, L, nt, π, x, uh, us, kp, sn, se) ∧ gm_S I' m (w, L, nt, π, x, uh, us, kp, sn, se) ∧ gm_F m I I')) := mv_C.of 0 (by decide) (by simp [Value.category]) rfl (e6_count hm hS hW (fun _ _ h => mv_Pi.mk h))
set_option maxHeartbeats 4000000 in
set_option maxRecDepth 100000 in
theorem e6_keep {l : Launch} {D : va_G} {b0 n : Nat} {sh : mv_Sh} {I : mv_I} {R : mv_R} {Q : mv_Q} {w : Nat → Int32} {L nt uh sn : Nat} {π x : xs_X} {us : Nat → xs_X} {kp : Nat → Option xs_X} {se : Nat → Nat × Nat × Nat} {m : Nat} {v : Int32} (hm : ly_Mod sh R m) (hS : gm_S I m (w, L, nt, π, x, uh, us, kp, sn, se)) (hW : ab_W (w, L, nt, π, x, uh, us, kp, sn, se)) (hQ : ∀ r I', (r = (ab_keep v (w, L, nt, π, x, uh, us, kp, sn, se)).1 ∧ gm_S I' m (ab_keep v (w, L, nt, π, x, uh, us, kp, sn, se)).2 ∧ gm_F m I I') → Q (some (.int r)) n sh I' R) : mv_E l D b0 m6_keep (mv_rm 7) Q 0 [.ref m, .int v, .null] [] 0 0 n sh I R := by
  refine mv_iload_n (pc := 0) dX6_keep_0 rfl ?_
  refine mv_iconst (pc := 1) (v := 0) dX6_keep_1 (by decide) ?_
  refine mv_iconst (pc := 2) (v := 1) dX6_keep_2 (by decide) ?_
  refine mv_cSi (pc := 3) dX6_keep_3 lk6_80 (c6_in trivial) rfl rfl (Nat.le_of_ble_eq_true rfl) (by decide) (by decide) (fun r J ⟨e1, e2⟩ => ?_)
  subst e1 e2
  by_cases hv : 0 ≤ v ∧ v ≤ 1
  · rw [if_pos hv]
    obtain ⟨i, i1, rfl⟩ := ab_in (N := 1) hv (by decide)
    have e0 : ab_keep (nI i) (w, L, nt, π, x, uh, us, kp, sn, se) = (x 8 0, (w, L, nt, π, x, uh, us, fun j => if j = i then some x else kp j, sn, se)) := by
      refine (if_neg (fun q => q hv)).trans ?_
      rw [nI_clamp (n := i) (by omega)]
    rw [e0] at hQ
    have loop : ∀ (f k : Nat) (K : mv_I), k + f = 326 → (∀ j, j < k → K (m + 21) (326 * i + j) = J (m + 14) j) → (∀ j, (j < 326 * i ∨ 326 * i + 326 ≤ j) → K (m + 21) j = J (m + 21) j) → K (m + 20) = mv_up J (m + 20) i 1 (m + 20) → (∀ b, b ≠ m + 20 → b ≠ m + 21 → K b = J b) → mv_E l D b0 m6_keep (mv_rm 7) Q 20 [.ref m, .int (nI i), .int (nI k)] [] 0 0 n sh K R := by
      intro f
      induction f with
      | zero =>
        intro k K hk h1 h2 h3 h4
        have : k = 326 := by omega
        subst this
        refine mv_iload_n (pc := 20) dX6_keep_20 rfl ?_
        refine mv_sipush (pc := 21) (v := 326) dX6_keep_21 (by decide) ?_
        refine mv_icmp_ge (pc := 24) (tgt := 51) dX6_keep_24 (by decide) (fun hb => ?_) (fun hb => ?_)
        · refine mv_aload_n (pc := 51) dX6_keep_51 rfl ?_
          refine mv_getR (pc := 52) (q := m + 14) dX6_keep_52 fl6_49 (fun _ _ => rfl) (congrArg Prod.fst hm.o) hm.f23 ?_
          refine mv_sipush (pc := 55) (v := 144) dX6_keep_55 (by decide) ?_
          refine mv_ialdx (pc := 58) (x := x 8 0) (k := 144) dX6_keep_58 hm.g23 (by decide) (by omega) (by rw [h4 (m + 14) (by omega) (by omega)]; exact hS.2.2.1.2.1.1) ?_
          refine mv_iret (pc := 59) dX6_keep_59 rfl (by decide) (by decide) (hQ _ _ ⟨rfl, ?_, fun b hb => h4 b (by omega) (by omega)⟩)
          obtain ⟨⟨t0, t1⟩, t2, t3, t4, t5, t6⟩ := hS
          have em := h4 m (by omega) (by omega)
          refine ⟨⟨by rw [em]; exact t0, fun j hj => by rw [h4 (m + 1) (by omega) (by omega)]; exact t1 j hj⟩, t2.eq em (fun b b1 b2 => h4 b (by omega) (by omega)), t3.cp (fun k _ => by rw [h4 (m + 14) (by omega) (by omega)]), t4.eq (by rw [em]) (by rw [em]) (h4 _ (by omega) (by omega)), fun u hu => ?_, t6.eq (by rw [em]) (fun b b1 b2 => h4 b (by omega) (by omega))⟩
          by_cases q : u = i
          · subst q
            show gm_K1 _ _ _ (if u = u then some x else kp u)
            rw [if_pos rfl]
            exact ⟨by rw [h3, mv_upe], rm_O.of t3 (fun k hk => h1 k hk)⟩
          · show gm_K1 _ _ _ (if u = i then some x else kp u)
            rw [if_neg q]
            have e20 : K (m + 20) u = J (m + 20) u := by rw [h3]; simp [mv_up, q]
            have := t5 u hu
            cases hku : kp u with
            | none =>
              rw [hku] at this
              show K (m + 20) u = 0
              rw [e20]; exact this
            | some y =>
              rw [hku] at this
              exact ⟨by rw [e20]; exact this.1, this.2.eq (fun k hk => h2 _ (by omega))⟩
        · exact absurd (by decide) hb
      | succ f ih =>
        intro k K hk h1 h2 h3 h4
        refine mv_iload_n (pc := 20) dX6_keep_20 rfl ?_
        refine mv_sipush (pc := 21) (v := 326) dX6_keep_21 (by decide) ?_
        refine mv_icmp_ge (pc := 24) (tgt := 51) dX6_keep_24 (by decide) (fun hb => ?_) (fun hb => ?_)
        · exact absurd hb (nI_ge (b := 326) (by omega) (by decide))
        · refine mv_aload_n (pc := 27) dX6_keep_27 rfl ?_
          refine mv_getR (pc := 28) (q := m + 21) dX6_keep_28 fl6_71 (fun _ _ => rfl) (congrArg Prod.fst hm.o) hm.f33 ?_
          refine mv_sipush (pc := 31) (v := 326) dX6_keep_31 (by decide) ?_
          refine mv_iload_n (pc := 34) dX6_keep_34 rfl ?_
          refine mv_imul (pc := 35) dX6_keep_35 ?_
          refine mv_iload_n (pc := 36) dX6_keep_36 rfl ?_
          refine mv_iadd (pc := 37) dX6_keep_37 ?_
          refine mv_aload_n (pc := 38) dX6_keep_38 rfl ?_
          refine mv_getR (pc := 39) (q := m + 14) dX6_keep_39 fl6_49 (fun _ _ => rfl) (congrArg Prod.fst hm.o) hm.f23 ?_
          refine mv_iload_n (pc := 42) dX6_keep_42 rfl ?_
          refine mv_ialdx (pc := 43) (x := J (m + 14) k) (k := k) dX6_keep_43 hm.g23 rfl (by omega) (by rw [h4 (m + 14) (by omega) (by omega)]) ?_
          refine mv_iast (pc := 44) (k := 326 * i + k) dX6_keep_44 hm.g33 (mv_jx 326 i k) (by omega) ?_
          refine mv_iinc (pc := 45) (v := nI (k + 1)) dX6_keep_45 (by decide) rfl (nI_1 k) ?_
          refine mv_goto (pc := 48) (tgt := 20) dX6_keep_48 (by decide) ?_
          refine ih (k + 1) _ (by omega) (fun j hj => ?_) (fun j hj => ?_) (by rw [mv_upN (m + 20) (by omega)]; exact h3) (fun b b1 b2 => by rw [mv_upN b b2]; exact h4 b b1 b2)
          · by_cases q : j = k
            · subst q; rw [mv_upe]
            · have : ¬ 326 * i + j = 326 * i + k := by omega
              simp only [mv_up, this, and_false, if_false]; exact h1 j (by omega)
          · have : ¬ j = 326 * i + k := by omega
            simp only [mv_up, this, and_false, if_false]; exact h2 j hj
    refine mv_if_ne (pc := 6) (tgt := 11) dX6_keep_6 (by decide) (fun _ => ?_) (fun hb => absurd hb (by decide))
    refine mv_aload_n (pc := 11) dX6_keep_11 rfl ?_
    refine mv_getR (pc := 12) (q := m + 20) dX6_keep_12 fl6_67 (fun _ _ => rfl) (congrArg Prod.fst hm.o) hm.f32 ?_
    refine mv_iload_n (pc := 15) dX6_keep_15 rfl ?_
    refine mv_iconst (pc := 16) (v := 1) dX6_keep_16 (by decide) ?_
    refine mv_zast (pc := 17) (k := i) dX6_keep_17 hm.g32 rfl rfl (by omega) ?_
    refine mv_iconst (pc := 18) (v := 0) dX6_keep_18 (by decide) ?_
    refine mv_istore_n (pc := 19) dX6_keep_19 (by decide) ?_
    exact loop 326 0 _ (by omega) (fun j hj => by omega) (fun j _ => by rw [mv_upN (m + 21) (by omega)]) rfl (fun b b1 b2 => by rw [mv_upN b b1])
  · rw [if_neg hv]
    have e0 : ab_keep v (w, L, nt, π, x, uh, us, kp, sn, se) = (-1, (w, L, nt, π, x, uh, us, kp, sn, se)) := if_pos hv
    refine mv_if_ne (pc := 6) (tgt := 11) dX6_keep_6 (by decide) (fun hb => absurd hb (by decide)) (fun _ => ?_)
    refine mv_iconst (pc := 9) (v := -1) dX6_keep_9 (by decide) ?_
    refine mv_iret (pc := 10) dX6_keep_10 rfl (by decide) (by decide) (hQ _ _ ?_)
    rw [e0]
    exact ⟨rfl, hS, fun _ _ => rfl⟩
theorem c6_keep {l : Launch} {D : va_G} {b0 n : Nat} {sh : mv_Sh} {I : mv_I} {R : mv_R} {w : Nat → Int32} {L nt uh sn : Nat} {π x : xs_X} {us : Nat → xs_X} {kp : Nat → Option xs_X} {se : Nat → Nat × Nat × Nat} {m : Nat} {v : Int32} (hm : ly_Mod sh R m) (hS : gm_S I m (w, L, nt, π, x, uh, us, kp, sn, se)) (hW : ab_W (w, L, nt, π, x, uh, us, kp, sn, se)) : mv_C l D b0 m6_keep (mv_rm 7) [.ref m, .int v] n sh I R (mv_Pi n sh R (fun r I' => r = (ab_keep v (w, L, nt, π, x, uh, us, kp, sn, se)).1 ∧ gm_S I' m (ab_keep v (w, L, nt, π, x, uh, us, kp, sn, se)).2 ∧ gm_F m I I')) := mv_C.of 1 (by decide) (by simp [Value.category]) rfl (e6_keep hm hS hW (fun _ _ h => mv_Pi.mk h))
set_option maxHeartbeats 4000000 in
set_option maxRecDepth 100000 in
theorem e6_back {l : Launch} {D : va_G} {b0 n : Nat} {sh : mv_Sh} {I : mv_I} {R : mv_R} {Q : mv_Q} {w : Nat → Int32} {L nt uh sn : Nat} {π x : xs_X} {us : Nat → xs_X} {kp : Nat → Option xs_X} {se : Nat → Nat × Nat × Nat} {m : Nat} {v : Int32} (hm : ly_Mod sh R m) (hS : gm_S I m (w, L, nt, π, x, uh, us, kp, sn, se)) (hW : ab_W (w, L, nt, π, x, uh, us, kp, sn, se)) (hQ : ∀ r I', (r = (ab_back v (w, L, nt, π, x, uh, us, kp, sn, se)).1 ∧ gm_S I' m (ab_back v (w, L, nt, π, x, uh, us, kp, sn, se)).2 ∧ gm_F m I I') → Q (some (.int r)) n sh I' R) : mv_E l D b0 m6_back (mv_rm 7) Q 0 [.ref m, .int v, .null] [] 0 0 n sh I R := by
  refine mv_iload_n (pc := 0) dX6_back_0 rfl ?_
  refine mv_iconst (pc := 1) (v := 0) dX6_back_1 (by decide) ?_
  refine mv_iconst (pc := 2) (v := 1) dX6_back_2 (by decide) ?_
  refine mv_cSi (pc := 3) dX6_back_3 lk6_80 (c6_in trivial) rfl rfl (Nat.le_of_ble_eq_true rfl) (by decide) (by decide) (fun r J ⟨e1, e2⟩ => ?_)
  subst e1 e2
  by_cases hv : 0 ≤ v ∧ v ≤ 1
  · rw [if_pos hv]
    obtain ⟨i, i1, rfl⟩ := ab_in (N := 1) hv (by decide)
    have e0 : ab_back (nI i) (w, L, nt, π, x, uh, us, kp, sn, se) = match kp i with
      | none => (-2, (w, L, nt, π, x, uh, us, kp, sn, se))
      | some y => (y 8 0, (w, L, nt, π, y, 0, us, kp, sn, se)) := by
      refine (if_neg (fun q => q hv)).trans ?_
      rw [nI_clamp (n := i) (by omega)]
      cases kp i <;> rfl
    have hki := hS.2.2.2.2.1 i (by omega)
    refine mv_if_ne (pc := 6) (tgt := 11) dX6_back_6 (by decide) (fun _ => ?_) (fun hb => absurd hb (by decide))
    cases hk : kp i with
    | none =>
      rw [hk] at e0 hki
      rw [e0] at hQ
      have hki0 : J (m + 20) i = 0 := hki
      refine mv_aload_n (pc := 11) dX6_back_11 rfl ?_
      refine mv_getR (pc := 12) (q := m + 20) dX6_back_12 fl6_67 (fun _ _ => rfl) (congrArg Prod.fst hm.o) hm.f32 ?_
      refine mv_iload_n (pc := 15) dX6_back_15 rfl ?_
      refine mv_zaldx (pc := 16) (x := 0) (k := i) dX6_back_16 hm.g32 rfl (by omega) hki0 ?_
      refine mv_if_ne (pc := 17) (tgt := 23) dX6_back_17 (by decide) (fun hb => absurd hb (by decide)) (fun _ => ?_)
      refine mv_bipush (pc := 20) (v := -2) dX6_back_20 (by decide) ?_
      exact mv_iret (pc := 22) dX6_back_22 rfl (by decide) (by decide) (hQ _ _ ⟨rfl, hS, fun _ _ => rfl⟩)
    | some y =>
      rw [hk] at e0 hki
      rw [e0] at hQ
      obtain ⟨k1, k2⟩ := hki
      have loop : ∀ (f k : Nat) (K : mv_I), k + f = 326 → (∀ j, j < k → K (m + 14) j = J (m + 21) (326 * i + j)) → (∀ b, b ≠ m + 14 → K b = J b) → mv_E l D b0 m6_back (mv_rm 7) Q 25 [.ref m, .int (nI i), .int (nI k)] [] 0 0 n sh K R := by
        intro f
        induction f with
        | zero =>
          intro k K hk h1 h4
          have : k = 326 := by omega
          subst this
          refine mv_iload_n (pc := 25) dX6_back_25 rfl ?_
          refine mv_sipush (pc := 26) (v := 326) dX6_back_26 (by decide) ?_
          refine mv_icmp_ge (pc := 29) (tgt := 56) dX6_back_29 (by decide) (fun hb => ?_) (fun hb => ?_)
          · have hr : rm_R K (m + 14) y := k2.to (fun k hk => h1 k hk)
            refine mv_aload_n (pc := 56) dX6_back_56 rfl ?_
            refine mv_iconst (pc := 57) (v := 0) dX6_back_57 (by decide) ?_
            refine mv_putI (pc := 58) dX6_back_58 fl6_152 rfl rfl (congrArg Prod.fst hm.o) ?_
            refine mv_aload_n (pc := 61) dX6_back_61 rfl ?_
            refine mv_getR (pc := 62) (q := m + 14) dX6_back_62 fl6_49 (fun _ _ => rfl) (congrArg Prod.fst hm.o) hm.f23 ?_
            refine mv_sipush (pc := 65) (v := 144) dX6_back_65 (by decide) ?_
            refine mv_ialdx (pc := 68) (x := y 8 0) (k := 144) dX6_back_68 hm.g23 (by decide) (by omega) (by rw [mv_upN (m + 14) (by omega)]; exact hr.2.1.1) ?_
            have hS1 := hS.now (I' := K) h4 hr
            obtain ⟨-, -, -, ⟨-, ua, ua1, ua2, -⟩, -, -⟩ := id hS1
            refine mv_iret (pc := 69) dX6_back_69 rfl (by decide) (by decide) (hQ _ _ ⟨rfl, hS1.his (fun k k1 k2 => by simp [mv_up, k1]) (fun b b1 b2 => by rw [mv_upN b b1]) ⟨by rw [mv_upe]; rfl, ua, ua1, by rw [← ua2]; simp [mv_up], fun i hi => by omega⟩, fun b hb => by rw [mv_upN b (by omega)]; exact h4 b (by omega)⟩)
          · exact absurd (by decide) hb
        | succ f ih =>
          intro k K hk h1 h4
          refine mv_iload_n (pc := 25) dX6_back_25 rfl ?_
          refine mv_sipush (pc := 26) (v := 326) dX6_back_26 (by decide) ?_
          refine mv_icmp_ge (pc := 29) (tgt := 56) dX6_back_29 (by decide) (fun hb => ?_) (fun hb => ?_)
          · exact absurd hb (nI_ge (b := 326) (by omega) (by decide))
          · refine mv_aload_n (pc := 32) dX6_back_32 rfl ?_
            refine mv_getR (pc := 33) (q := m + 14) dX6_back_33 fl6_49 (fun _ _ => rfl) (congrArg Prod.fst hm.o) hm.f23 ?_
            refine mv_iload_n (pc := 36) dX6_back_36 rfl ?_
            refine mv_aload_n (pc := 37) dX6_back_37 rfl ?_
            refine mv_getR (pc := 38) (q := m + 21) dX6_back_38 fl6_71 (fun _ _ => rfl) (congrArg Prod.fst hm.o) hm.f33 ?_
            refine mv_sipush (pc := 41) (v := 326) dX6_back_41 (by decide) ?_
            refine mv_iload_n (pc := 44) dX6_back_44 rfl ?_
            refine mv_imul (pc := 45) dX6_back_45 ?_
            refine mv_iload_n (pc := 46) dX6_back_46 rfl ?_
            refine mv_iadd (pc := 47) dX6_back_47 ?_
            refine mv_ialdx (pc := 48) (x := J (m + 21) (326 * i + k)) (k := 326 * i + k) dX6_back_48 hm.g33 (mv_jx 326 i k) (by omega) (by rw [h4 (m + 21) (by omega)]) ?_
            refine mv_iast (pc := 49) (k := k) dX6_back_49 hm.g23 rfl (by omega) ?_
            refine mv_iinc (pc := 50) (v := nI (k + 1)) dX6_back_50 (by decide) rfl (nI_1 k) ?_
            refine mv_goto (pc := 53) (tgt := 25) dX6_back_53 (by decide) ?_
            refine ih (k + 1) _ (by omega) (fun j hj => ?_) (fun b b1 => by rw [mv_upN b b1]; exact h4 b b1)
            by_cases q : j = k
            · subst q; rw [mv_upe]
            · simp only [mv_up, q, and_false, if_false]; exact h1 j (by omega)
      refine mv_aload_n (pc := 11) dX6_back_11 rfl ?_
      refine mv_getR (pc := 12) (q := m + 20) dX6_back_12 fl6_67 (fun _ _ => rfl) (congrArg Prod.fst hm.o) hm.f32 ?_
      refine mv_iload_n (pc := 15) dX6_back_15 rfl ?_
      refine mv_zaldx (pc := 16) (x := 1) (k := i) dX6_back_16 hm.g32 rfl (by omega) k1 ?_
      refine mv_if_ne (pc := 17) (tgt := 23) dX6_back_17 (by decide) (fun _ => ?_) (fun hb => absurd hb (by decide))
      refine mv_iconst (pc := 23) (v := 0) dX6_back_23 (by decide) ?_
      refine mv_istore_n (pc := 24) dX6_back_24 (by decide) ?_
      exact loop 326 0 J (by omega) (fun j hj => by omega) (fun b _ => rfl)
  · rw [if_neg hv]
    have e0 : ab_back v (w, L, nt, π, x, uh, us, kp, sn, se) = (-1, (w, L, nt, π, x, uh, us, kp, sn, se)) := if_pos hv
    refine mv_if_ne (pc := 6) (tgt := 11) dX6_back_6 (by decide) (fun hb => absurd hb (by decide)) (fun _ => ?_)
    refine mv_iconst (pc := 9) (v := -1) dX6_back_9 (by decide) ?_
    refine mv_iret (pc := 10) dX6_back_10 rfl (by decide) (by decide) (hQ _ _ ?_)
    rw [e0]
    exact ⟨rfl, hS, fun _ _ => rfl⟩
theorem c6_back {l : Launch} {D : va_G} {b0 n : Nat} {sh : mv_Sh} {I : mv_I} {R : mv_R} {w : Nat → Int32} {L nt uh sn : Nat} {π x : xs_X} {us : Nat → xs_X} {kp : Nat → Option xs_X} {se : Nat → Nat × Nat × Nat} {m : Nat} {v : Int32} (hm : ly_Mod sh R m) (hS : gm_S I m (w, L, nt, π, x, uh, us, kp, sn, se)) (hW : ab_W (w, L, nt, π, x, uh, us, kp, sn, se)) : mv_C l D b0 m6_back (mv_rm 7) [.ref m, .int v] n sh I R (mv_Pi n sh R (fun r I' => r = (ab_back v (w, L, nt, π, x, uh, us, kp, sn, se)).1 ∧ gm_S I' m (ab_back v (w, L, nt, π, x, uh, us, kp, sn, se)).2 ∧ gm_F m I I')) := mv_C.of 1 (by decide) (by simp [Value.category]) rfl (e6_back hm hS hW (fun _ _ h => mv_Pi.mk h))

