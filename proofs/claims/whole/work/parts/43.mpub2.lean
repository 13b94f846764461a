theorem c6_treeS {l : Launch} {D : va_G} {b0 n : Nat} {sh : mv_Sh} {I : mv_I} {R : mv_R} {w : Nat → Int32} {L nt uh sn : Nat} {π x : xs_X} {us : Nat → xs_X} {kp : Nat → Option xs_X} {se : Nat → Nat × Nat × Nat} {m : Nat} (hm : ly_Mod sh R m) (hS : gm_S I m (w, L, nt, π, x, uh, us, kp, sn, se)) (hW : ab_W (w, L, nt, π, x, uh, us, kp, sn, se)) : mv_C l D b0 m6_tree (mv_rm 7) [.ref m] n sh I R (mv_Pi n sh R (fun r I' => r = (ab_tree (w, L, nt, π, x, uh, us, kp, sn, se)).1 ∧ gm_S I' m (ab_tree (w, L, nt, π, x, uh, us, kp, sn, se)).2 ∧ gm_F m I I')) := by
  refine mv_C.of 1 (by decide) (by simp [Value.category]) rfl (e6_tree hm hW.1 hS.1.1 hS.1.2 (fun r I' h => mv_Pi.mk ?_))
  obtain ⟨h1, h2⟩ := h
  have e0 : ab_tree (w, L, nt, π, x, uh, us, kp, sn, se) = match sp_all w L 121 0 0 0 sp_0 with
    | .inl s => (-10 - nI s, (w, L, nt, π, x, uh, us, kp, sn, se))
    | .inr (c, n2, π2) => (nI c, (w, 0, sp_n n2, π2, xs_st (π2 0 2), 0, us, fun _ => none, 0, se)) := rfl
  rw [e0]
  generalize sp_all w L 121 0 0 0 sp_0 = res at h1 h2
  cases res with
  | inl s => exact ⟨h1, hS.eq h2.2 (fun b b1 b2 _ => h2.1 b b1 b2), fun b hb => h2.1 b (by omega) (by omega)⟩
  | inr q =>
    obtain ⟨c, n2, π2⟩ := q
    obtain ⟨a1, a2, a3, a4, a5, a6, a7, a8⟩ := h1
    obtain ⟨f1, f2⟩ := h2
    obtain ⟨-, -, -, ⟨-, ua, ua1, ua2, -⟩, -, -⟩ := hS
    refine ⟨a1, ⟨⟨a2, fun j hj => by omega⟩, a3, a4, ⟨a5, ua, ua1, by rw [f2 26 (by omega) (by omega) (by omega)]; exact ua2, fun i hi => by omega⟩, fun i hi => ?_, a6, fun i hi => by omega⟩, fun b hb => f1 b (by omega) (by omega) (by omega)⟩
    have : i = 0 ∨ i = 1 := by omega
    rcases this with rfl | rfl
    · exact a7
    · exact a8
set_option maxHeartbeats 4000000 in
set_option maxRecDepth 100000 in
theorem e6_ticks {l : Launch} {D : va_G} {b0 n : Nat} {sh : mv_Sh} {I : mv_I} {R : mv_R} {Q : mv_Q} {w : Nat → Int32} {L nt uh sn : Nat} {π x : xs_X} {us : Nat → xs_X} {kp : Nat → Option xs_X} {se : Nat → Nat × Nat × Nat} {m : Nat} {v : Int32} (hm : ly_Mod sh R m) (hS : gm_S I m (w, L, nt, π, x, uh, us, kp, sn, se)) (hW : ab_W (w, L, nt, π, x, uh, us, kp, sn, se)) (hQ : ∀ r I', (r = (ab_ticks v (w, L, nt, π, x, uh, us, kp, sn, se)).1 ∧ gm_S I' m (ab_ticks v (w, L, nt, π, x, uh, us, kp, sn, se)).2 ∧ gm_F m I I') → Q (some (.int r)) n sh I' R) : mv_E l D b0 m6_ticks (mv_rm 7) Q 0 [.ref m, .int v, .null] [] 0 0 n sh I R := by
  obtain ⟨-, hpw, ⟨hX, τ, hτ9, hτ⟩, huh, -, -, -, -⟩ := id hW
  have ha := hm.g23
  refine mv_iload_n (pc := 0) dX6_ticks_0 rfl ?_
  refine mv_iconst (pc := 1) (v := 1) dX6_ticks_1 (by decide) ?_
  refine mv_bipush (pc := 2) (v := 12) dX6_ticks_2 (by decide) ?_
  refine mv_cSi (pc := 4) dX6_ticks_4 lk6_80 (c6_in trivial) rfl rfl (Nat.le_of_ble_eq_true rfl) (by decide) (by decide) (fun r J ⟨e1, e2⟩ => ?_)
  subst e1 e2
  by_cases hv : 1 ≤ v ∧ v ≤ 12
  · rw [if_pos hv]
    obtain ⟨k, j1, hk⟩ := nI_of (x := v) (fun q => absurd (Int32.lt_of_lt_of_le q (by decide : (0 : Int32) ≤ 1)) (Int32.not_lt.mpr hv.1))
    have hk12 : k ≤ 12 := by
      have := hv.2
      rw [hk] at this
      exact (nI_leI j1 (by decide)).mp this
    subst hk
    refine mv_if_ne (pc := 7) (tgt := 12) dX6_ticks_7 (by decide) (fun _ => ?_) (fun hb => absurd hb (by decide))
    refine mv_aload_n (pc := 12) dX6_ticks_12 rfl ?_
    refine mv_getR (pc := 13) (q := m + 14) dX6_ticks_13 fl6_49 (fun _ _ => rfl) (congrArg Prod.fst hm.o) hm.f23 ?_
    refine mv_iconst (pc := 16) (v := 0) dX6_ticks_16 (by decide) ?_
    refine mv_iconst (pc := 17) (v := 3) dX6_ticks_17 (by decide) ?_
    refine mv_cSi (pc := 18) dX6_ticks_18 lk6_165 (c6_isHow ha hS.2.2.1 (t := 0) (by omega)) rfl rfl (Nat.le_of_ble_eq_true rfl) (by decide) (by decide) (fun r J' ⟨e1, e2⟩ => ?_)
    subst e1 e2
    by_cases h3 : x 0 0 = 3
    · rw [if_pos h3]
      have e : ab_ticks (nI k) (w, L, nt, π, x, uh, us, kp, sn, se) = (-2, (w, L, nt, π, x, uh, us, kp, sn, se)) := (if_neg (fun q => q hv)).trans (if_pos h3)
      refine mv_if_eq (pc := 21) (tgt := 27) dX6_ticks_21 (by decide) (fun hb => absurd hb (by decide)) (fun _ => ?_)
      refine mv_bipush (pc := 24) (v := -2) dX6_ticks_24 (by decide) ?_
      refine mv_iret (pc := 26) dX6_ticks_26 rfl (by decide) (by decide) (hQ _ _ ?_)
      rw [e]
      exact ⟨rfl, hS, fun _ _ => rfl⟩
    · rw [if_neg h3]
      refine mv_if_eq (pc := 21) (tgt := 27) dX6_ticks_21 (by decide) (fun _ => ?_) (fun hb => absurd hb (by decide))
      refine mv_aload_n (pc := 27) dX6_ticks_27 rfl ?_
      refine mv_getR (pc := 28) (q := m + 14) dX6_ticks_28 fl6_49 (fun _ _ => rfl) (congrArg Prod.fst hm.o) hm.f23 ?_
      refine mv_sipush (pc := 31) (v := 144) dX6_ticks_31 (by decide) ?_
      refine mv_ialdx (pc := 34) (x := nI τ) (k := 144) dX6_ticks_34 hm.g23 (by decide) (by omega) (by rw [hS.2.2.1.2.1.1]; exact hτ) ?_
      refine mv_iload_n (pc := 35) dX6_ticks_35 rfl ?_
      refine mv_iadd (pc := 36) dX6_ticks_36 ?_
      refine mv_top (y := nI (τ + k)) (nI_add τ k) ?_
      refine mv_sipush (pc := 37) (v := 999) dX6_ticks_37 (by decide) ?_
      refine mv_icmp_le (pc := 40) (tgt := 46) dX6_ticks_40 (by decide) (fun hb => ?_) (fun hb => ?_)
      · have hle : τ + k ≤ 999 := (nI_leI (a := τ + k) (b := 999) (by omega) (by decide)).mp hb
        have e : ab_ticks (nI k) (w, L, nt, π, x, uh, us, kp, sn, se) = ((ab_ts nt π k (x, uh, us)).1 8 0, (w, L, nt, π, (ab_ts nt π k (x, uh, us)).1, (ab_ts nt π k (x, uh, us)).2.1, (ab_ts nt π k (x, uh, us)).2.2, kp, sn, se)) := by
          refine (if_neg (fun q => q hv)).trans ((if_neg h3).trans ((if_neg ?_).trans ?_))
          · rw [hτ, nI_add]; exact Int32.not_lt.mpr hb
          · rw [nI_clamp (by omega)]
        rw [e] at hQ
        have fin : ∀ (y : xs_X) (uh' : Nat) (us' : Nat → xs_X) (J2 : mv_I) (i : Nat), (y, uh', us') = ab_ts nt π k (x, uh, us) → gm_S J2 m (w, L, nt, π, y, uh', us', kp, sn, se) → gm_F m J' J2 → mv_E l D b0 m6_ticks (mv_rm 7) Q 83 [.ref m, .int (nI k), .int (nI i)] [] 0 0 n sh J2 R := by
          intro y uh' us' J2 i he hS2 hF
          refine mv_aload_n (pc := 83) dX6_ticks_83 rfl ?_
          refine mv_getR (pc := 84) (q := m + 14) dX6_ticks_84 fl6_49 (fun _ _ => rfl) (congrArg Prod.fst hm.o) hm.f23 ?_
          refine mv_sipush (pc := 87) (v := 144) dX6_ticks_87 (by decide) ?_
          refine mv_ialdx (pc := 90) (x := y 8 0) (k := 144) dX6_ticks_90 hm.g23 (by decide) (by omega) hS2.2.2.1.2.1.1 ?_
          refine mv_iret (pc := 91) dX6_ticks_91 rfl (by decide) (by decide) (hQ _ _ ?_)
          rw [← he]
          exact ⟨rfl, hS2, hF⟩
        have loop : ∀ (f i τ uh' : Nat) (y : xs_X) (us' : Nat → xs_X) (J2 : mv_I), i + f = k → xs_W nt π y → y 8 0 = nI τ → τ + f ≤ 999 → uh' ≤ 12 → gm_S J2 m (w, L, nt, π, y, uh', us', kp, sn, se) → gm_F m J' J2 → ab_ts nt π f (y, uh', us') = ab_ts nt π k (x, uh, us) → mv_E l D b0 m6_ticks (mv_rm 7) Q 48 [.ref m, .int (nI k), .int (nI i)] [] 0 0 n sh J2 R := by
          intro f
          induction f with
          | zero =>
            intro i τ uh' y us' J2 hi hWy hτy hτf hu hS2 hF he
            refine mv_iload_n (pc := 48) dX6_ticks_48 rfl ?_
            refine mv_iload_n (pc := 49) dX6_ticks_49 rfl ?_
            refine mv_icmp_ge (pc := 50) (tgt := 83) dX6_ticks_50 (by decide) (fun hb2 => ?_) (fun hb2 => ?_)
            · exact fin _ _ _ J2 i he hS2 hF
            · exact absurd (nI_le (by omega) (by omega)) hb2
          | succ f ih =>
            intro i τ uh' y us' J2 hi hWy hτy hτf hu hS2 hF he
            refine mv_iload_n (pc := 48) dX6_ticks_48 rfl ?_
            refine mv_iload_n (pc := 49) dX6_ticks_49 rfl ?_
            refine mv_icmp_ge (pc := 50) (tgt := 83) dX6_ticks_50 (by decide) (fun hb2 => ?_) (fun hb2 => ?_)
            · exact absurd hb2 (nI_ge (by omega) (by omega))
            · refine mv_aload_n (pc := 53) dX6_ticks_53 rfl ?_
              refine mv_getR (pc := 54) (q := m + 14) dX6_ticks_54 fl6_49 (fun _ _ => rfl) (congrArg Prod.fst hm.o) hm.f23 ?_
              refine mv_iconst (pc := 57) (v := 0) dX6_ticks_57 (by decide) ?_
              refine mv_iconst (pc := 58) (v := 3) dX6_ticks_58 (by decide) ?_
              refine mv_cSi (pc := 59) dX6_ticks_59 lk6_165 (c6_isHow ha hS2.2.2.1 (t := 0) (by omega)) rfl rfl (Nat.le_of_ble_eq_true rfl) (by decide) (by decide) (fun r J3 ⟨e1, e2⟩ => ?_)
              subst e1 e2
              by_cases h4 : y 0 0 = 3
              · rw [if_pos h4]
                refine mv_if_ne (pc := 62) (tgt := 83) dX6_ticks_62 (by decide) (fun _ => ?_) (fun hb => absurd hb (by decide))
                refine fin _ _ _ _ i ?_ hS2 hF
                rw [← he, ab_ts, if_pos h4]
              · rw [if_neg h4]
                refine mv_if_ne (pc := 62) (tgt := 83) dX6_ticks_62 (by decide) (fun hb => absurd hb (by decide)) (fun _ => ?_)
                refine mv_aload_n (pc := 65) dX6_ticks_65 rfl ?_
                refine mv_cVv (pc := 66) dX6_ticks_66 lk6_208 (congrArg Prod.fst hm.o) (c6_remember hm hS2 hu) rfl rfl (Nat.le_of_ble_eq_true rfl) (by decide) (by decide) (fun J4 ⟨hS4, hF4⟩ => ?_)
                refine mv_aload_n (pc := 69) dX6_ticks_69 rfl ?_
                refine mv_aload_n (pc := 70) dX6_ticks_70 rfl ?_
                refine mv_getR (pc := 71) (q := m + 14) dX6_ticks_71 fl6_49 (fun _ _ => rfl) (congrArg Prod.fst hm.o) hm.f23 ?_
                refine mv_cVv (pc := 74) dX6_ticks_74 lk6_211 (congrArg Prod.fst hm.o) (c6_tick (gm_S.K hm hS4 hpw) hS4.2.2.1 hWy hτy (by omega)) rfl rfl (Nat.le_of_ble_eq_true rfl) (by decide) (by decide) (fun J5 ⟨hr5, hf5⟩ => ?_)
                refine mv_iinc (pc := 77) (v := nI (i + 1)) dX6_ticks_77 (by decide) rfl (nI_1 i) ?_
                refine mv_goto (pc := 80) (tgt := 48) dX6_ticks_80 (by decide) ?_
                have hWt := hWy.tk hpw hτy (by omega)
                refine ih (i + 1) (τ + 1) _ _ _ J5 (by omega) hWt.1 hWt.2 (by omega) (by split <;> omega) (hS4.now hf5 hr5) ((hF.tr hF4).tr (gm_F.of hf5 (by omega))) ?_
                rw [← he, ab_ts, if_neg h4]
        refine mv_iconst (pc := 46) (v := 0) dX6_ticks_46 (by decide) ?_
        refine mv_istore_n (pc := 47) dX6_ticks_47 (by decide) ?_
        exact loop k 0 τ uh x us J' (by omega) hX hτ (by omega) huh hS (fun _ _ => rfl) rfl
      · have e : ab_ticks (nI k) (w, L, nt, π, x, uh, us, kp, sn, se) = (-3, (w, L, nt, π, x, uh, us, kp, sn, se)) := by
          refine (if_neg (fun q => q hv)).trans ((if_neg h3).trans (if_pos ?_))
          rw [hτ, nI_add]; exact Int32.not_le.mp hb
        refine mv_bipush (pc := 43) (v := -3) dX6_ticks_43 (by decide) ?_
        refine mv_iret (pc := 45) dX6_ticks_45 rfl (by decide) (by decide) (hQ _ _ ?_)
        rw [e]
        exact ⟨rfl, hS, fun _ _ => rfl⟩
  · rw [if_neg hv]
    have e : ab_ticks v (w, L, nt, π, x, uh, us, kp, sn, se) = (-1, (w, L, nt, π, x, uh, us, kp, sn, se)) := if_pos hv
    refine mv_if_ne (pc := 7) (tgt := 12) dX6_ticks_7 (by decide) (fun hb => absurd hb (by decide)) (fun _ => ?_)
    refine mv_iconst (pc := 10) (v := -1) dX6_ticks_10 (by decide) ?_
    refine mv_iret (pc := 11) dX6_ticks_11 rfl (by decide) (by decide) (hQ _ _ ?_)
    rw [e]
    exact ⟨rfl, hS, fun _ _ => rfl⟩
theorem c6_ticks {l : Launch} {D : va_G} {b0 n : Nat} {sh : mv_Sh} {I : mv_I} {R : mv_R} {w : Nat → Int32} {L nt uh sn : Nat} {π x : xs_X} {us : Nat → xs_X} {kp : Nat → Option xs_X} {se : Nat → Nat × Nat × Nat} {m : Nat} {v : Int32} (hm : ly_Mod sh R m) (hS : gm_S I m (w, L, nt, π, x, uh, us, kp, sn, se)) (hW : ab_W (w, L, nt, π, x, uh, us, kp, sn, se)) : mv_C l D b0 m6_ticks (mv_rm 7) [.ref m, .int v] n sh I R (mv_Pi n sh R (fun r I' => r = (ab_ticks v (w, L, nt, π, x, uh, us, kp, sn, se)).1 ∧ gm_S I' m (ab_ticks v (w, L, nt, π, x, uh, us, kp, sn, se)).2 ∧ gm_F m I I')) := mv_C.of 1 (by decide) (by simp [Value.category]) rfl (e6_ticks hm hS hW (fun _ _ h => mv_Pi.mk h))
set_option maxHeartbeats 4000000 in
set_option maxRecDepth 100000 in
theorem e6_asks {l : Launch} {D : va_G} {b0 n : Nat} {sh : mv_Sh} {I : mv_I} {R : mv_R} {Q : mv_Q} {w : Nat → Int32} {L nt uh sn : Nat} {π x : xs_X} {us : Nat → xs_X} {kp : Nat → Option xs_X} {se : Nat → Nat × Nat × Nat} {m : Nat} {v : Int32} (hm : ly_Mod sh R m) (hS : gm_S I m (w, L, nt, π, x, uh, us, kp, sn, se)) (hW : ab_W (w, L, nt, π, x, uh, us, kp, sn, se)) (hQ : ∀ r I', (r = (ab_asks v (w, L, nt, π, x, uh, us, kp, sn, se)).1 ∧ gm_S I' m (ab_asks v (w, L, nt, π, x, uh, us, kp, sn, se)).2 ∧ gm_F m I I') → Q (some (.int r)) n sh I' R) : mv_E l D b0 m6_asks (mv_rm 7) Q 0 [.ref m, .int v] [] 0 0 n sh I R := by
  obtain ⟨-, hpw, ⟨hX, τ, hτ9, hτ⟩, huh, -, -, -, -⟩ := id hW
  have hn := hpw.2.1
  have ha := hm.g23
  refine mv_aload_n (pc := 0) dX6_asks_0 rfl ?_
  refine mv_iload_n (pc := 1) dX6_asks_1 rfl ?_
  refine mv_cVi (pc := 2) dX6_asks_2 lk6_214 (congrArg Prod.fst hm.o) (c6_isTask hm hS.2.1.1 hpw.1 hn) rfl rfl (Nat.le_of_ble_eq_true rfl) (by decide) (by decide) (fun r J ⟨e1, e2⟩ => ?_)
  subst e1 e2
  by_cases hv : ab_is nt v
  · rw [if_pos hv]
    obtain ⟨t, ht, rfl⟩ := ab_is_n hv hn
    have ecl : (nI t).toNatClampNeg = t := nI_clamp (by omega)
    have e0 : ab_asks (nI t) (w, L, nt, π, x, uh, us, kp, sn, se) = (if ¬ x t 0 = 1 ∨ x t 5 = 1 then (-2, (w, L, nt, π, x, uh, us, kp, sn, se)) else (x t 2, (w, L, nt, π, mv_up x t 5 1, (if uh < 12 then uh + 1 else 12), ab_pu us x, kp, sn, se))) := by
      refine (if_neg (fun q => q hv)).trans ?_
      rw [ecl]
    have no : (¬ x t 0 = 1 ∨ x t 5 = 1) → mv_E l D b0 m6_asks (mv_rm 7) Q 35 [.ref m, .int (nI t)] [] 0 0 n sh J R := by
      intro q
      refine mv_bipush (pc := 35) (v := -2) dX6_asks_35 (by decide) ?_
      refine mv_iret (pc := 37) dX6_asks_37 rfl (by decide) (by decide) (hQ _ _ ?_)
      rw [e0, if_pos q]
      exact ⟨rfl, hS, fun _ _ => rfl⟩
    refine mv_if_ne (pc := 5) (tgt := 10) dX6_asks_5 (by decide) (fun _ => ?_) (fun hb => absurd hb (by decide))
    refine mv_aload_n (pc := 10) dX6_asks_10 rfl ?_
    refine mv_getR (pc := 11) (q := m + 14) dX6_asks_11 fl6_49 (fun _ _ => rfl) (congrArg Prod.fst hm.o) hm.f23 ?_
    refine mv_iload_n (pc := 14) dX6_asks_14 rfl ?_
    refine mv_iconst (pc := 15) (v := 1) dX6_asks_15 (by decide) ?_
    refine mv_cSi (pc := 16) dX6_asks_16 lk6_165 (c6_isHow ha hS.2.2.1 (t := t) (by omega)) rfl rfl (Nat.le_of_ble_eq_true rfl) (by decide) (by decide) (fun r J' ⟨e1, e2⟩ => ?_)
    subst e1 e2
    by_cases h1 : x t 0 = 1
    · rw [if_pos h1]
      refine mv_if_eq (pc := 19) (tgt := 35) dX6_asks_19 (by decide) (fun hb => absurd hb (by decide)) (fun _ => ?_)
      refine mv_aload_n (pc := 22) dX6_asks_22 rfl ?_
      refine mv_getR (pc := 23) (q := m + 14) dX6_asks_23 fl6_49 (fun _ _ => rfl) (congrArg Prod.fst hm.o) hm.f23 ?_
      refine mv_iload_n (pc := 26) dX6_asks_26 rfl ?_
      refine mv_iconst (pc := 27) (v := 5) dX6_asks_27 (by decide) ?_
      refine mv_cSi (pc := 28) dX6_asks_28 lk6_161 (c6_at ha hS.2.2.1 (t := t) (by omega) (k := 5) (by decide)) rfl rfl (Nat.le_of_ble_eq_true rfl) (by decide) (by decide) (fun r J2 ⟨e1, e2⟩ => ?_)
      subst e1 e2
      refine mv_iconst (pc := 31) (v := 1) dX6_asks_31 (by decide) ?_
      refine mv_icmp_ne (pc := 32) (tgt := 38) dX6_asks_32 (by decide) (fun hb => ?_) (fun hb => ?_)
      · refine mv_aload_n (pc := 38) dX6_asks_38 rfl ?_
        refine mv_cVv (pc := 39) dX6_asks_39 lk6_208 (congrArg Prod.fst hm.o) (c6_remember hm hS huh) rfl rfl (Nat.le_of_ble_eq_true rfl) (by decide) (by decide) (fun J3 ⟨hS3, hF3⟩ => ?_)
        refine mv_aload_n (pc := 42) dX6_asks_42 rfl ?_
        refine mv_getR (pc := 43) (q := m + 14) dX6_asks_43 fl6_49 (fun _ _ => rfl) (congrArg Prod.fst hm.o) hm.f23 ?_
        refine mv_bipush (pc := 46) (v := 18) dX6_asks_46 (by decide) ?_
        refine mv_iload_n (pc := 48) dX6_asks_48 rfl ?_
        refine mv_imul (pc := 49) dX6_asks_49 ?_
        refine mv_iconst (pc := 50) (v := 5) dX6_asks_50 (by decide) ?_
        refine mv_iadd (pc := 51) dX6_asks_51 ?_
        refine mv_iconst (pc := 52) (v := 1) dX6_asks_52 (by decide) ?_
        refine mv_iast (pc := 53) (k := 18 * t + 5) dX6_asks_53 hm.g23 (mv_jx 18 t 5) (by omega) ?_
        refine mv_aload_n (pc := 54) dX6_asks_54 rfl ?_
        refine mv_getR (pc := 55) (q := m + 14) dX6_asks_55 fl6_49 (fun _ _ => rfl) (congrArg Prod.fst hm.o) hm.f23 ?_
        refine mv_iload_n (pc := 58) dX6_asks_58 rfl ?_
        refine mv_iconst (pc := 59) (v := 2) dX6_asks_59 (by decide) ?_
        refine mv_cSi (pc := 60) dX6_asks_60 lk6_161 (c6_at ha (rm_set 5 hS3.2.2.1 (by omega) (by decide)) (t := t) (by omega) (k := 2) (by decide)) rfl rfl (Nat.le_of_ble_eq_true rfl) (by decide) (by decide) (fun r J4 ⟨e1, e2⟩ => ?_)
        subst e1 e2
        refine mv_iret (pc := 63) dX6_asks_63 rfl (by decide) (by decide) (hQ _ _ ?_)
        rw [e0, if_neg (fun q => q.elim (fun a => a h1) hb)]
        refine ⟨by simp [mv_up], hS3.now rm_Fr.rf.up (rm_set 5 hS3.2.2.1 (by omega) (by decide)), fun b b1 => ?_⟩
        rw [mv_upN b (by omega)]; exact hF3 b b1
      · exact no (Or.inr hb)
    · rw [if_neg h1]
      refine mv_if_eq (pc := 19) (tgt := 35) dX6_asks_19 (by decide) (fun _ => ?_) (fun hb => absurd hb (by decide))
      exact no (Or.inl h1)
  · rw [if_neg hv]
    have e : ab_asks v (w, L, nt, π, x, uh, us, kp, sn, se) = (-1, (w, L, nt, π, x, uh, us, kp, sn, se)) := if_pos hv
    refine mv_if_ne (pc := 5) (tgt := 10) dX6_asks_5 (by decide) (fun hb => absurd hb (by decide)) (fun _ => ?_)
    refine mv_iconst (pc := 8) (v := -1) dX6_asks_8 (by decide) ?_
    refine mv_iret (pc := 9) dX6_asks_9 rfl (by decide) (by decide) (hQ _ _ ?_)
    rw [e]
    exact ⟨rfl, hS, fun _ _ => rfl⟩
theorem c6_asks {l : Launch} {D : va_G} {b0 n : Nat} {sh : mv_Sh} {I : mv_I} {R : mv_R} {w : Nat → Int32} {L nt uh sn : Nat} {π x : xs_X} {us : Nat → xs_X} {kp : Nat → Option xs_X} {se : Nat → Nat × Nat × Nat} {m : Nat} {v : Int32} (hm : ly_Mod sh R m) (hS : gm_S I m (w, L, nt, π, x, uh, us, kp, sn, se)) (hW : ab_W (w, L, nt, π, x, uh, us, kp, sn, se)) : mv_C l D b0 m6_asks (mv_rm 7) [.ref m, .int v] n sh I R (mv_Pi n sh R (fun r I' => r = (ab_asks v (w, L, nt, π, x, uh, us, kp, sn, se)).1 ∧ gm_S I' m (ab_asks v (w, L, nt, π, x, uh, us, kp, sn, se)).2 ∧ gm_F m I I')) := mv_C.of 0 (by decide) (by simp [Value.category]) rfl (e6_asks hm hS hW (fun _ _ h => mv_Pi.mk h))
set_option maxHeartbeats 4000000 in
set_option maxRecDepth 100000 in
theorem e6_undo {l : Launch} {D : va_G} {b0 n : Nat} {sh : mv_Sh} {I : mv_I} {R : mv_R} {Q : mv_Q} {w : Nat → Int32} {L nt uh sn : Nat} {π x : xs_X} {us : Nat → xs_X} {kp : Nat → Option xs_X} {se : Nat → Nat × Nat × Nat} {m : Nat} (hm : ly_Mod sh R m) (hS : gm_S I m (w, L, nt, π, x, uh, us, kp, sn, se)) (hW : ab_W (w, L, nt, π, x, uh, us, kp, sn, se)) (hQ : ∀ r I', (r = (ab_undo (w, L, nt, π, x, uh, us, kp, sn, se)).1 ∧ gm_S I' m (ab_undo (w, L, nt, π, x, uh, us, kp, sn, se)).2 ∧ gm_F m I I') → Q (some (.int r)) n sh I' R) : mv_E l D b0 m6_undo (mv_rm 7) Q 0 [.ref m, .null] [] 0 0 n sh I R := by
  obtain ⟨-, -, -, huh, -, -, -, -⟩ := id hW
  obtain ⟨-, -, s3, ⟨s4, ua, ua1, ua2, ua3⟩, -, -⟩ := id hS
  refine mv_aload_n (pc := 0) dX6_undo_0 rfl ?_
  refine mv_getIx (pc := 1) (x := nI uh) dX6_undo_1 fl6_152 rfl (congrArg Prod.fst hm.o) s4 ?_
  refine mv_if_ne (pc := 4) (tgt := 10) dX6_undo_4 (by decide) (fun hb => ?_) (fun hb => ?_)
  · have h0 : uh ≠ 0 := fun q => hb (by rw [q]; rfl)
    have e0 : ab_undo (w, L, nt, π, x, uh, us, kp, sn, se) = (nI (uh - 1), (w, L, nt, π, us 0, uh - 1, fun i => us (i + 1), kp, sn, se)) := if_neg h0
    rw [e0] at hQ
    have loop : ∀ (f k : Nat) (J : mv_I), k + f = 326 → (∀ j, j < k → J (m + 14) j = I (m + 16) (326 * ((ua + 11) % 12) + j)) → J m = mv_up (mv_up I m 26 (nI ((ua + 11) % 12))) m 25 (nI (uh - 1)) m → (∀ b, b ≠ m → b ≠ m + 14 → J b = I b) → mv_E l D b0 m6_undo (mv_rm 7) Q 38 [.ref m, .int (nI k)] [] 0 0 n sh J R := by
      intro f
      induction f with
      | zero =>
        intro k J hk h1 h2 h3
        have : k = 326 := by omega
        subst this
        refine mv_iload_n (pc := 38) dX6_undo_38 rfl ?_
        refine mv_sipush (pc := 39) (v := 326) dX6_undo_39 (by decide) ?_
        refine mv_icmp_ge (pc := 42) (tgt := 72) dX6_undo_42 (by decide) (fun hc => ?_) (fun hc => ?_)
        · refine mv_aload_n (pc := 72) dX6_undo_72 rfl ?_
          refine mv_getIx (pc := 73) (x := nI (uh - 1)) dX6_undo_73 fl6_152 rfl (congrArg Prod.fst hm.o) (by rw [h2, mv_upe]) ?_
          refine mv_iret (pc := 76) dX6_undo_76 rfl (by decide) (by decide) (hQ _ _ ⟨rfl, ?_, fun b b1 => h3 b (by omega) (by omega)⟩)
          have hk : ∀ k, k ≠ 25 → k ≠ 26 → J m k = I m k := fun k k1 k2 => by rw [h2]; simp [mv_up, k1, k2]
          have hJ16 := h3 (m + 16) (by omega) (by omega)
          obtain ⟨⟨t0, t1⟩, t2, t3, t4, t5, t6⟩ := hS
          refine ⟨⟨by rw [hk 0 (by decide) (by decide)]; exact t0, fun j hj => by rw [h3 (m + 1) (by omega) (by omega)]; exact t1 j hj⟩, t2.eq2 (hk 15 (by decide) (by decide)) (hk 16 (by decide) (by decide)) (fun b b1 b2 => h3 b (by omega) (by omega)), ?_, ⟨by rw [h2, mv_upe], (ua + 11) % 12, by omega, by rw [h2]; simp [mv_up], fun i hi => ?_⟩, fun i hi => (t5 i hi).eq (h3 _ (by omega) (by omega)) (h3 _ (by omega) (by omega)), t6.eq (hk 28 (by decide) (by decide)) (fun b b1 b2 => h3 b (by omega) (by omega))⟩
          · exact (ua3 0 (by omega)).to (fun k hk => h1 k hk)
          · have e : ((ua + 11) % 12 + 11 - i) % 12 = (ua + 11 - (i + 1)) % 12 := by omega
            rw [e]
            exact (ua3 (i + 1) (by omega)).eq (fun k _ => by rw [hJ16])
        · exact absurd (by decide) hc
      | succ f ih =>
        intro k J hk h1 h2 h3
        refine mv_iload_n (pc := 38) dX6_undo_38 rfl ?_
        refine mv_sipush (pc := 39) (v := 326) dX6_undo_39 (by decide) ?_
        refine mv_icmp_ge (pc := 42) (tgt := 72) dX6_undo_42 (by decide) (fun hc => ?_) (fun hc => ?_)
        · exact absurd hc (nI_ge (b := 326) (by omega) (by decide))
        · refine mv_aload_n (pc := 45) dX6_undo_45 rfl ?_
          refine mv_getR (pc := 46) (q := m + 14) dX6_undo_46 fl6_49 (fun _ _ => rfl) (congrArg Prod.fst hm.o) hm.f23 ?_
          refine mv_iload_n (pc := 49) dX6_undo_49 rfl ?_
          refine mv_aload_n (pc := 50) dX6_undo_50 rfl ?_
          refine mv_getR (pc := 51) (q := m + 16) dX6_undo_51 fl6_55 (fun _ _ => rfl) (congrArg Prod.fst hm.o) hm.f27 ?_
          refine mv_sipush (pc := 54) (v := 326) dX6_undo_54 (by decide) ?_
          refine mv_aload_n (pc := 57) dX6_undo_57 rfl ?_
          refine mv_getIx (pc := 58) (x := nI ((ua + 11) % 12)) dX6_undo_58 fl6_205 rfl (congrArg Prod.fst hm.o) (by rw [h2]; simp [mv_up]) ?_
          refine mv_imul (pc := 61) dX6_undo_61 ?_
          refine mv_iload_n (pc := 62) dX6_undo_62 rfl ?_
          refine mv_iadd (pc := 63) dX6_undo_63 ?_
          refine mv_ialdx (pc := 64) (x := I (m + 16) (326 * ((ua + 11) % 12) + k)) (k := 326 * ((ua + 11) % 12) + k) dX6_undo_64 hm.g27 (mv_jx 326 ((ua + 11) % 12) k) (by omega) (by rw [h3 (m + 16) (by omega) (by omega)]) ?_
          refine mv_iast (pc := 65) (k := k) dX6_undo_65 hm.g23 rfl (by omega) ?_
          refine mv_iinc (pc := 66) (v := nI (k + 1)) dX6_undo_66 (by decide) rfl (nI_1 k) ?_
          refine mv_goto (pc := 69) (tgt := 38) dX6_undo_69 (by decide) ?_
          refine ih (k + 1) _ (by omega) (fun j hj => ?_) (by rw [mv_upN m (by omega)]; exact h2) (fun b b1 b2 => by rw [mv_upN b b2]; exact h3 b b1 b2)
          by_cases q : j = k
          · subst q; rw [mv_upe]
          · simp only [mv_up, q, and_false, if_false]; exact h1 j (by omega)
    refine mv_aload_n (pc := 10) dX6_undo_10 rfl ?_
    refine mv_aload_n (pc := 11) dX6_undo_11 rfl ?_
    refine mv_getIx (pc := 12) (x := nI ua) dX6_undo_12 fl6_205 rfl (congrArg Prod.fst hm.o) ua2 ?_
    refine mv_bipush (pc := 15) (v := 12) dX6_undo_15 (by decide) ?_
    refine mv_iadd (pc := 17) dX6_undo_17 ?_
    refine mv_iconst (pc := 18) (v := 1) dX6_undo_18 (by decide) ?_
    refine mv_isub (pc := 19) dX6_undo_19 ?_
    have e1 : nI ua + 12 - 1 = nI (ua + 11) := by
      rw [show (12 : Int32) = nI 12 from rfl, nI_add, show ua + 12 = (ua + 11) + 1 by omega, nI_pred]
    refine mv_top (y := nI (ua + 11)) e1 ?_
    refine mv_bipush (pc := 20) (v := 12) dX6_undo_20 (by decide) ?_
    refine mv_irem (pc := 22) dX6_undo_22 (by decide) ?_
    refine mv_top (y := nI ((ua + 11) % 12)) (ab_rem2 ua ua1) ?_
    refine mv_putI (pc := 23) dX6_undo_23 fl6_205 rfl rfl (congrArg Prod.fst hm.o) ?_
    refine mv_aload_n (pc := 26) dX6_undo_26 rfl ?_
    refine mv_dup (pc := 27) dX6_undo_27 rfl ?_
    refine mv_getIx (pc := 28) (x := nI uh) dX6_undo_28 fl6_152 rfl (congrArg Prod.fst hm.o) (by rw [show mv_up I m 26 (nI ((ua + 11) % 12)) m 25 = I m 25 by simp [mv_up]]; exact s4) ?_
    refine mv_iconst (pc := 31) (v := 1) dX6_undo_31 (by decide) ?_
    refine mv_isub (pc := 32) dX6_undo_32 ?_
    have e2 : nI uh - 1 = nI (uh - 1) := by
      obtain ⟨k, rfl⟩ : ∃ k, uh = k + 1 := ⟨uh - 1, by omega⟩
      exact nI_pred k
    refine mv_top (y := nI (uh - 1)) e2 ?_
    refine mv_putI (pc := 33) dX6_undo_33 fl6_152 rfl rfl (congrArg Prod.fst hm.o) ?_
    refine mv_iconst (pc := 36) (v := 0) dX6_undo_36 (by decide) ?_
    refine mv_istore_n (pc := 37) dX6_undo_37 (by decide) ?_
    exact loop 326 0 _ (by omega) (fun j hj => by omega) rfl (fun b b1 b2 => by rw [mv_upN b b1, mv_upN b b1])
  · have h0 : uh = 0 := (nI_eq (b := 0) (by omega) (by decide)).mp hb
    have e0 : ab_undo (w, L, nt, π, x, uh, us, kp, sn, se) = (-2, (w, L, nt, π, x, uh, us, kp, sn, se)) := if_pos h0
    refine mv_bipush (pc := 7) (v := -2) dX6_undo_7 (by decide) ?_
    refine mv_iret (pc := 9) dX6_undo_9 rfl (by decide) (by decide) (hQ _ _ ?_)
    rw [e0]
    exact ⟨rfl, hS, fun _ _ => rfl⟩
theorem c6_undo {l : Launch} {D : va_G} {b0 n : Nat} {sh : mv_Sh} {I : mv_I} {R : mv_R} {w : Nat → Int32} {L nt uh sn : Nat} {π x : xs_X} {us : Nat → xs_X} {kp : Nat → Option xs_X} {se : Nat → Nat × Nat × Nat} {m : Nat} (hm : ly_Mod sh R m) (hS : gm_S I m (w, L, nt, π, x, uh, us, kp, sn, se)) (hW : ab_W (w, L, nt, π, x, uh, us, kp, sn, se)) : mv_C l D b0 m6_undo (mv_rm 7) [.ref m] n sh I R (mv_Pi n sh R (fun r I' => r = (ab_undo (w, L, nt, π, x, uh, us, kp, sn, se)).1 ∧ gm_S I' m (ab_undo (w, L, nt, π, x, uh, us, kp, sn, se)).2 ∧ gm_F m I I')) := mv_C.of 1 (by decide) (by simp [Value.category]) rfl (e6_undo hm hS hW (fun _ _ h => mv_Pi.mk h))

