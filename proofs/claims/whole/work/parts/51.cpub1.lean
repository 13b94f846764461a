theorem gc_S.K {sh : mv_Sh} {R : mv_R} {I : mv_I} {z : Nat} {w : Nat → Int32} {L nt uh sn : Nat} {π x : xs_X} {us : Nat → xs_X} {kp : Nat → Option xs_X} {se : Nat → Nat × Nat × Nat} (hz : ly_ST sh R z) (h : gc_S I z (w, L, nt, π, x, uh, us, kp, sn, se)) (hp : pl_W nt π) : rc_P sh R I (z + 31) (z + 3) nt π := ⟨hz.no, hz.to, hz.nop, Or.inl (by omega), h.2.1, hp⟩
set_option maxHeartbeats 4000000 in
set_option maxRecDepth 100000 in
theorem e5_ticks {l : Launch} {D : va_G} {b0 n : Nat} {sh : mv_Sh} {I : mv_I} {R : mv_R} {Q : mv_Q} {w : Nat → Int32} {L nt uh sn : Nat} {π x : xs_X} {us : Nat → xs_X} {kp : Nat → Option xs_X} {se : Nat → Nat × Nat × Nat} {z : Nat} {v : Int32} (hz : ly_ST sh R z) (hS : gc_S I z (w, L, nt, π, x, uh, us, kp, sn, se)) (hW : ab_W (w, L, nt, π, x, uh, us, kp, sn, se)) (hQ : ∀ r I' R', (gc_P sh z I R (ab_ticks v (w, L, nt, π, x, uh, us, kp, sn, se)) r I' R') → Q (some (.int r)) n sh I' R') : mv_E l D b0 m5_ticks (mv_rm 7) Q 0 [.ref z, .int v, .null] [] 0 0 n sh I R := by
  obtain ⟨-, hpw, ⟨hX, τ, hτ9, hτ⟩, huh, -, -, -, -⟩ := id hW
  have hn := hpw.2.1
  have hn1 := hpw.1
  have no : ¬ (1 ≤ v ∧ v ≤ 12) → mv_E l D b0 m5_ticks (mv_rm 7) Q 11 [.ref z, .int v, .null] [] 0 0 n sh I R := by
    intro q
    have e : ab_ticks v (w, L, nt, π, x, uh, us, kp, sn, se) = (-1, (w, L, nt, π, x, uh, us, kp, sn, se)) := if_pos q
    refine mv_iconst (pc := 11) (v := -1) dX5_ticks_11 (by decide) ?_
    refine mv_iret (pc := 12) dX5_ticks_12 rfl (by decide) (by decide) (hQ _ _ _ ?_)
    rw [e]
    exact ⟨rfl, hS, fun _ _ => rfl, hz, fun _ _ => rfl⟩
  refine mv_iload_n (pc := 0) dX5_ticks_0 rfl ?_
  refine mv_iconst (pc := 1) (v := 1) dX5_ticks_1 (by decide) ?_
  refine mv_icmp_lt (pc := 2) (tgt := 11) dX5_ticks_2 (by decide) (fun hb => ?_) (fun hb => ?_)
  · exact no (fun q => absurd q.1 (Int32.not_le.mpr hb))
  · refine mv_iload_n (pc := 5) dX5_ticks_5 rfl ?_
    refine mv_bipush (pc := 6) (v := 12) dX5_ticks_6 (by decide) ?_
    refine mv_icmp_le (pc := 8) (tgt := 13) dX5_ticks_8 (by decide) (fun hb2 => ?_) (fun hb2 => ?_)
    · have hv : 1 ≤ v ∧ v ≤ 12 := ⟨Int32.not_lt.mp hb, hb2⟩
      obtain ⟨k, hk12, rfl⟩ := ab_in (N := 12) (v := v) ⟨Int32.le_trans (by decide) hv.1, hv.2⟩ (by decide)
      refine mv_aload_n (pc := 13) dX5_ticks_13 rfl ?_
      refine mv_getR (pc := 14) (q := (z + 31)) dX5_ticks_14 fl5_43 (fun _ _ => rfl) (congrArg Prod.fst hz.o) hz.f5 ?_
      refine mv_getR (pc := 17) (q := (z + 31) + 1) dX5_ticks_17 fl5_105 (fun _ _ => rfl) (congrArg Prod.fst hz.no.o) hz.no.f2 ?_
      refine mv_iconst (pc := 20) (v := 0) dX5_ticks_20 (by decide) ?_
      refine mv_ialdx (pc := 21) (x := x 0 0) (k := 0) dX5_ticks_21 hz.no.g2 (by decide) (by omega) ((hS.2.2.1.2.1 0 (by omega)).1 0 (by decide)) ?_
      refine mv_iconst (pc := 22) (v := 3) dX5_ticks_22 (by decide) ?_
      refine mv_icmp_ne (pc := 23) (tgt := 29) dX5_ticks_23 (by decide) (fun hb3 => ?_) (fun hb3 => ?_)
      · refine mv_aload_n (pc := 29) dX5_ticks_29 rfl ?_
        refine mv_getR (pc := 30) (q := (z + 31)) dX5_ticks_30 fl5_43 (fun _ _ => rfl) (congrArg Prod.fst hz.o) hz.f5 ?_
        refine mv_getIx (pc := 33) (x := nI τ) dX5_ticks_33 fl5_108 rfl (congrArg Prod.fst hz.no.o) (by rw [hS.2.2.1.1.1]; exact hτ) ?_
        refine mv_iload_n (pc := 36) dX5_ticks_36 rfl ?_
        refine mv_iadd (pc := 37) dX5_ticks_37 ?_
        refine mv_top (y := nI (τ + k)) (nI_add τ k) ?_
        refine mv_sipush (pc := 38) (v := 999) dX5_ticks_38 (by decide) ?_
        refine mv_icmp_le (pc := 41) (tgt := 47) dX5_ticks_41 (by decide) (fun hb4 => ?_) (fun hb4 => ?_)
        · have hle : τ + k ≤ 999 := (nI_leI (a := τ + k) (b := 999) (by omega) (by decide)).mp hb4
          have e : ab_ticks (nI k) (w, L, nt, π, x, uh, us, kp, sn, se) = ((ab_ts nt π k (x, uh, us)).1 8 0, (w, L, nt, π, (ab_ts nt π k (x, uh, us)).1, (ab_ts nt π k (x, uh, us)).2.1, (ab_ts nt π k (x, uh, us)).2.2, kp, sn, se)) := by
            refine (if_neg (fun q => q hv)).trans ((if_neg hb3).trans ((if_neg ?_).trans ?_))
            · rw [hτ, nI_add]; exact Int32.not_lt.mpr hb4
            · rw [nI_clamp (by omega)]
          rw [e] at hQ
          have fin : ∀ (y : xs_X) (uh' : Nat) (us' : Nat → xs_X) (J2 : mv_I) (i : Nat), (y, uh', us') = ab_ts nt π k (x, uh, us) → gc_S J2 z (w, L, nt, π, y, uh', us', kp, sn, se) → (∀ b, z + 278 ≤ b → J2 b = I b) → mv_E l D b0 m5_ticks (mv_rm 7) Q 91 [.ref z, .int (nI k), .int (nI i)] [] 0 0 n sh J2 R := by
            intro y uh' us' J2 i he hS2 hF
            refine mv_aload_n (pc := 91) dX5_ticks_91 rfl ?_
            refine mv_getR (pc := 92) (q := (z + 31)) dX5_ticks_92 fl5_43 (fun _ _ => rfl) (congrArg Prod.fst hz.o) hz.f5 ?_
            refine mv_getIx (pc := 95) (x := y 8 0) dX5_ticks_95 fl5_108 rfl (congrArg Prod.fst hz.no.o) hS2.2.2.1.1.1 ?_
            refine mv_iret (pc := 98) dX5_ticks_98 rfl (by decide) (by decide) (hQ _ _ _ ?_)
            rw [← he]
            exact ⟨rfl, hS2, hF, hz, fun _ _ => rfl⟩
          have loop : ∀ (f i τ uh' : Nat) (y : xs_X) (us' : Nat → xs_X) (J2 : mv_I), i + f = k → xs_W nt π y → y 8 0 = nI τ → τ + f ≤ 999 → uh' ≤ 12 → gc_S J2 z (w, L, nt, π, y, uh', us', kp, sn, se) → (∀ b, z + 278 ≤ b → J2 b = I b) → ab_ts nt π f (y, uh', us') = ab_ts nt π k (x, uh, us) → mv_E l D b0 m5_ticks (mv_rm 7) Q 49 [.ref z, .int (nI k), .int (nI i)] [] 0 0 n sh J2 R := by
            intro f
            induction f with
            | zero =>
              intro i τ uh' y us' J2 hi hWy hτy hτf hu hS2 hF he
              refine mv_iload_n (pc := 49) dX5_ticks_49 rfl ?_
              refine mv_iload_n (pc := 50) dX5_ticks_50 rfl ?_
              refine mv_icmp_ge (pc := 51) (tgt := 91) dX5_ticks_51 (by decide) (fun hb5 => ?_) (fun hb5 => ?_)
              · exact fin _ _ _ J2 i he hS2 hF
              · exact absurd (nI_le (by omega) (by omega)) hb5
            | succ f ih =>
              intro i τ uh' y us' J2 hi hWy hτy hτf hu hS2 hF he
              refine mv_iload_n (pc := 49) dX5_ticks_49 rfl ?_
              refine mv_iload_n (pc := 50) dX5_ticks_50 rfl ?_
              refine mv_icmp_ge (pc := 51) (tgt := 91) dX5_ticks_51 (by decide) (fun hb5 => ?_) (fun hb5 => ?_)
              · exact absurd hb5 (nI_ge (by omega) (by omega))
              · refine mv_aload_n (pc := 54) dX5_ticks_54 rfl ?_
                refine mv_getR (pc := 55) (q := (z + 31)) dX5_ticks_55 fl5_43 (fun _ _ => rfl) (congrArg Prod.fst hz.o) hz.f5 ?_
                refine mv_getR (pc := 58) (q := (z + 31) + 1) dX5_ticks_58 fl5_105 (fun _ _ => rfl) (congrArg Prod.fst hz.no.o) hz.no.f2 ?_
                refine mv_iconst (pc := 61) (v := 0) dX5_ticks_61 (by decide) ?_
                refine mv_ialdx (pc := 62) (x := y 0 0) (k := 0) dX5_ticks_62 hz.no.g2 (by decide) (by omega) ((hS2.2.2.1.2.1 0 (by omega)).1 0 (by decide)) ?_
                refine mv_iconst (pc := 63) (v := 3) dX5_ticks_63 (by decide) ?_
                refine mv_icmp_eq (pc := 64) (tgt := 91) dX5_ticks_64 (by decide) (fun h4 => ?_) (fun h4 => ?_)
                · refine fin _ _ _ _ i ?_ hS2 hF
                  rw [← he, ab_ts, if_pos h4]
                · refine mv_aload_n (pc := 67) dX5_ticks_67 rfl ?_
                  refine mv_getR (pc := 68) (q := (z + 61)) dX5_ticks_68 fl5_53 (fun _ _ => rfl) (congrArg Prod.fst hz.o) hz.f7 ?_
                  refine mv_aload_n (pc := 71) dX5_ticks_71 rfl ?_
                  refine mv_getR (pc := 72) (q := (z + 31)) dX5_ticks_72 fl5_43 (fun _ _ => rfl) (congrArg Prod.fst hz.o) hz.f5 ?_
                  refine mv_cVv (pc := 75) dX5_ticks_75 lk5_111 (congrArg Prod.fst hz.hi.o) (c0_remember hz.hi hz.no hz.nop (by omega) hS2.2.2.2.1 hS2.2.2.1 hn hu) rfl rfl (Nat.le_of_ble_eq_true rfl) (by decide) (by decide) (fun J4 ⟨hh4, hF4⟩ => ?_)
                  have hS4 := hS2.his hF4 hh4
                  refine mv_aload_n (pc := 78) dX5_ticks_78 rfl ?_
                  refine mv_getR (pc := 79) (q := (z + 31)) dX5_ticks_79 fl5_43 (fun _ _ => rfl) (congrArg Prod.fst hz.o) hz.f5 ?_
                  refine mv_cVv (pc := 82) dX5_ticks_82 lk5_115 (congrArg Prod.fst hz.no.o) (c3_passTick (gc_S.K hz hS4 hpw) hS4.2.2.1 hWy hτy (by omega)) rfl rfl (Nat.le_of_ble_eq_true rfl) (by decide) (by decide) (fun J5 ⟨hr5, hf5⟩ => ?_)
                  refine mv_iinc (pc := 85) (v := nI (i + 1)) dX5_ticks_85 (by decide) rfl (nI_1 i) ?_
                  refine mv_goto (pc := 88) (tgt := 49) dX5_ticks_88 (by decide) ?_
                  have hWt := hWy.tk hpw hτy (by omega)
                  refine ih (i + 1) (τ + 1) _ _ _ J5 (by omega) hWt.1 hWt.2 (by omega) (by split <;> omega) (hS4.now hf5 hr5) (fun b hb => ?_) ?_
                  · rw [hf5 b (by omega), hF4 b (by omega)]; exact hF b hb
                  · rw [← he, ab_ts, if_neg h4]
          refine mv_iconst (pc := 47) (v := 0) dX5_ticks_47 (by decide) ?_
          refine mv_istore_n (pc := 48) dX5_ticks_48 (by decide) ?_
          exact loop k 0 τ uh x us I (by omega) hX hτ (by omega) huh hS (fun _ _ => rfl) rfl
        · have e : ab_ticks (nI k) (w, L, nt, π, x, uh, us, kp, sn, se) = (-3, (w, L, nt, π, x, uh, us, kp, sn, se)) := by
            refine (if_neg (fun q => q hv)).trans ((if_neg hb3).trans (if_pos ?_))
            rw [hτ, nI_add]; exact Int32.not_le.mp hb4
          refine mv_bipush (pc := 44) (v := -3) dX5_ticks_44 (by decide) ?_
          refine mv_iret (pc := 46) dX5_ticks_46 rfl (by decide) (by decide) (hQ _ _ _ ?_)
          rw [e]
          exact ⟨rfl, hS, fun _ _ => rfl, hz, fun _ _ => rfl⟩
      · have e : ab_ticks (nI k) (w, L, nt, π, x, uh, us, kp, sn, se) = (-2, (w, L, nt, π, x, uh, us, kp, sn, se)) := (if_neg (fun q => q hv)).trans (if_pos hb3)
        refine mv_bipush (pc := 26) (v := -2) dX5_ticks_26 (by decide) ?_
        refine mv_iret (pc := 28) dX5_ticks_28 rfl (by decide) (by decide) (hQ _ _ _ ?_)
        rw [e]
        exact ⟨rfl, hS, fun _ _ => rfl, hz, fun _ _ => rfl⟩
    · exact no (fun q => hb2 q.2)
theorem c5_ticks {l : Launch} {D : va_G} {b0 n : Nat} {sh : mv_Sh} {I : mv_I} {R : mv_R} {w : Nat → Int32} {L nt uh sn : Nat} {π x : xs_X} {us : Nat → xs_X} {kp : Nat → Option xs_X} {se : Nat → Nat × Nat × Nat} {z : Nat} {v : Int32} (hz : ly_ST sh R z) (hS : gc_S I z (w, L, nt, π, x, uh, us, kp, sn, se)) (hW : ab_W (w, L, nt, π, x, uh, us, kp, sn, se)) : mv_C l D b0 m5_ticks (mv_rm 7) [.ref z, .int v] n sh I R (mv_PI n sh (fun r I' R' => gc_P sh z I R (ab_ticks v (w, L, nt, π, x, uh, us, kp, sn, se)) r I' R')) := mv_C.of 1 (by decide) (by simp [Value.category]) rfl (e5_ticks hz hS hW (fun _ _ _ h => mv_PI.mk h))
set_option maxHeartbeats 4000000 in
set_option maxRecDepth 100000 in
theorem e5_asks {l : Launch} {D : va_G} {b0 n : Nat} {sh : mv_Sh} {I : mv_I} {R : mv_R} {Q : mv_Q} {w : Nat → Int32} {L nt uh sn : Nat} {π x : xs_X} {us : Nat → xs_X} {kp : Nat → Option xs_X} {se : Nat → Nat × Nat × Nat} {z : Nat} {v : Int32} (hz : ly_ST sh R z) (hS : gc_S I z (w, L, nt, π, x, uh, us, kp, sn, se)) (hW : ab_W (w, L, nt, π, x, uh, us, kp, sn, se)) (hQ : ∀ r I' R', (gc_P sh z I R (ab_asks v (w, L, nt, π, x, uh, us, kp, sn, se)) r I' R') → Q (some (.int r)) n sh I' R') : mv_E l D b0 m5_asks (mv_rm 7) Q 0 [.ref z, .int v] [] 0 0 n sh I R := by
  obtain ⟨-, hpw, ⟨hX, τ, hτ9, hτ⟩, huh, -, -, -, -⟩ := id hW
  have hn := hpw.2.1
  have hx := hS.2.2.1
  refine mv_aload_n (pc := 0) dX5_asks_0 rfl ?_
  refine mv_iload_n (pc := 1) dX5_asks_1 rfl ?_
  refine mv_cVi (pc := 2) dX5_asks_2 lk5_118 (congrArg Prod.fst hz.o) (c5_isTask hz hS.2.1.1) rfl rfl (Nat.le_of_ble_eq_true rfl) (by decide) (by decide) (fun r J ⟨e1, e2⟩ => ?_)
  subst e1 e2
  by_cases hv : ab_is nt v
  · rw [if_pos hv]
    obtain ⟨t, ht, rfl⟩ := ab_is_n hv hn
    have e0 : ab_asks (nI t) (w, L, nt, π, x, uh, us, kp, sn, se) = (if ¬ x t 0 = 1 ∨ x t 5 = 1 then (-2, (w, L, nt, π, x, uh, us, kp, sn, se)) else (x t 2, (w, L, nt, π, mv_up x t 5 1, (if uh < 12 then uh + 1 else 12), ab_pu us x, kp, sn, se))) := by
      refine (if_neg (fun q => q hv)).trans ?_
      rw [nI_clamp (n := t) (by omega)]
    have no : (¬ x t 0 = 1 ∨ x t 5 = 1) → mv_E l D b0 m5_asks (mv_rm 7) Q 36 [.ref z, .int (nI t)] [] 0 0 n sh J R := by
      intro q
      refine mv_bipush (pc := 36) (v := -2) dX5_asks_36 (by decide) ?_
      refine mv_iret (pc := 38) dX5_asks_38 rfl (by decide) (by decide) (hQ _ _ _ ?_)
      rw [e0, if_pos q]
      exact ⟨rfl, hS, fun _ _ => rfl, hz, fun _ _ => rfl⟩
    refine mv_if_ne (pc := 5) (tgt := 10) dX5_asks_5 (by decide) (fun _ => ?_) (fun hb => absurd hb (by decide))
    refine mv_aload_n (pc := 10) dX5_asks_10 rfl ?_
    refine mv_getR (pc := 11) (q := (z + 31)) dX5_asks_11 fl5_43 (fun _ _ => rfl) (congrArg Prod.fst hz.o) hz.f5 ?_
    refine mv_getR (pc := 14) (q := (z + 31) + 1) dX5_asks_14 fl5_105 (fun _ _ => rfl) (congrArg Prod.fst hz.no.o) hz.no.f2 ?_
    refine mv_iload_n (pc := 17) dX5_asks_17 rfl ?_
    refine mv_ialdx (pc := 18) (x := x t 0) (k := t) dX5_asks_18 hz.no.g2 rfl (by omega) ((hx.2.1 t ht).1 0 (by decide)) ?_
    refine mv_iconst (pc := 19) (v := 1) dX5_asks_19 (by decide) ?_
    refine mv_icmp_ne (pc := 20) (tgt := 36) dX5_asks_20 (by decide) (fun hb => ?_) (fun hb => ?_)
    · exact no (Or.inl hb)
    · refine mv_aload_n (pc := 23) dX5_asks_23 rfl ?_
      refine mv_getR (pc := 24) (q := (z + 31)) dX5_asks_24 fl5_43 (fun _ _ => rfl) (congrArg Prod.fst hz.o) hz.f5 ?_
      refine mv_getR (pc := 27) (q := (z + 31) + 9) dX5_asks_27 fl5_121 (fun _ _ => rfl) (congrArg Prod.fst hz.no.o) hz.no.f10 ?_
      refine mv_iload_n (pc := 30) dX5_asks_30 rfl ?_
      refine mv_ialdx (pc := 31) (x := x t 5) (k := t) dX5_asks_31 hz.no.g10 rfl (by omega) ((hx.2.1 t ht).1 5 (by decide)) ?_
      refine mv_iconst (pc := 32) (v := 1) dX5_asks_32 (by decide) ?_
      refine mv_icmp_ne (pc := 33) (tgt := 39) dX5_asks_33 (by decide) (fun hb2 => ?_) (fun hb2 => ?_)
      · refine mv_aload_n (pc := 39) dX5_asks_39 rfl ?_
        refine mv_getR (pc := 40) (q := (z + 61)) dX5_asks_40 fl5_53 (fun _ _ => rfl) (congrArg Prod.fst hz.o) hz.f7 ?_
        refine mv_aload_n (pc := 43) dX5_asks_43 rfl ?_
        refine mv_getR (pc := 44) (q := (z + 31)) dX5_asks_44 fl5_43 (fun _ _ => rfl) (congrArg Prod.fst hz.o) hz.f5 ?_
        refine mv_cVv (pc := 47) dX5_asks_47 lk5_111 (congrArg Prod.fst hz.hi.o) (c0_remember hz.hi hz.no hz.nop (by omega) hS.2.2.2.1 hx hn huh) rfl rfl (Nat.le_of_ble_eq_true rfl) (by decide) (by decide) (fun J3 ⟨hh3, hF3⟩ => ?_)
        have hS3 := hS.his hF3 hh3
        have hr4 := rc_set (v := 1) 5 hS3.2.2.1 (by decide) (by decide) ht hn
        have ht8 : t < 8 := by omega
        refine mv_aload_n (pc := 50) dX5_asks_50 rfl ?_
        refine mv_getR (pc := 51) (q := (z + 31)) dX5_asks_51 fl5_43 (fun _ _ => rfl) (congrArg Prod.fst hz.o) hz.f5 ?_
        refine mv_getR (pc := 54) (q := (z + 31) + 9) dX5_asks_54 fl5_121 (fun _ _ => rfl) (congrArg Prod.fst hz.no.o) hz.no.f10 ?_
        refine mv_iload_n (pc := 57) dX5_asks_57 rfl ?_
        refine mv_iconst (pc := 58) (v := 1) dX5_asks_58 (by decide) ?_
        refine mv_iast (pc := 59) (k := t) dX5_asks_59 hz.no.g10 rfl (by omega) ?_
        refine mv_aload_n (pc := 60) dX5_asks_60 rfl ?_
        refine mv_getR (pc := 61) (q := (z + 31)) dX5_asks_61 fl5_43 (fun _ _ => rfl) (congrArg Prod.fst hz.o) hz.f5 ?_
        refine mv_getR (pc := 64) (q := (z + 31) + 6) dX5_asks_64 fl5_124 (fun _ _ => rfl) (congrArg Prod.fst hz.no.o) hz.no.f7 ?_
        refine mv_iload_n (pc := 67) dX5_asks_67 rfl ?_
        refine mv_ialdx (pc := 68) (x := x t 2) (k := t) dX5_asks_68 hz.no.g7 rfl (by omega) (((hr4.2.1 t ht).1 2 (by decide)).trans (by simp [mv_up])) ?_
        refine mv_iret (pc := 69) dX5_asks_69 rfl (by decide) (by decide) (hQ _ _ _ ?_)
        rw [e0, if_neg (fun q => q.elim (fun a => a hb) hb2)]
        refine ⟨rfl, hS3.now (rc_Fr.rf.up (by omega)) hr4, fun b hb => ?_, hz, fun _ _ => rfl⟩
        rw [mv_upN b (by omega)]; exact hF3 b (by omega)
      · exact no (Or.inr hb2)
  · rw [if_neg hv]
    have e : ab_asks v (w, L, nt, π, x, uh, us, kp, sn, se) = (-1, (w, L, nt, π, x, uh, us, kp, sn, se)) := if_pos hv
    refine mv_if_ne (pc := 5) (tgt := 10) dX5_asks_5 (by decide) (fun hb => absurd hb (by decide)) (fun _ => ?_)
    refine mv_iconst (pc := 8) (v := -1) dX5_asks_8 (by decide) ?_
    refine mv_iret (pc := 9) dX5_asks_9 rfl (by decide) (by decide) (hQ _ _ _ ?_)
    rw [e]
    exact ⟨rfl, hS, fun _ _ => rfl, hz, fun _ _ => rfl⟩
theorem c5_asks {l : Launch} {D : va_G} {b0 n : Nat} {sh : mv_Sh} {I : mv_I} {R : mv_R} {w : Nat → Int32} {L nt uh sn : Nat} {π x : xs_X} {us : Nat → xs_X} {kp : Nat → Option xs_X} {se : Nat → Nat × Nat × Nat} {z : Nat} {v : Int32} (hz : ly_ST sh R z) (hS : gc_S I z (w, L, nt, π, x, uh, us, kp, sn, se)) (hW : ab_W (w, L, nt, π, x, uh, us, kp, sn, se)) : mv_C l D b0 m5_asks (mv_rm 7) [.ref z, .int v] n sh I R (mv_PI n sh (fun r I' R' => gc_P sh z I R (ab_asks v (w, L, nt, π, x, uh, us, kp, sn, se)) r I' R')) := mv_C.of 0 (by decide) (by simp [Value.category]) rfl (e5_asks hz hS hW (fun _ _ _ h => mv_PI.mk h))
set_option maxHeartbeats 4000000 in
set_option maxRecDepth 100000 in
theorem e5_undo {l : Launch} {D : va_G} {b0 n : Nat} {sh : mv_Sh} {I : mv_I} {R : mv_R} {Q : mv_Q} {w : Nat → Int32} {L nt uh sn : Nat} {π x : xs_X} {us : Nat → xs_X} {kp : Nat → Option xs_X} {se : Nat → Nat × Nat × Nat} {z : Nat} (hz : ly_ST sh R z) (hS : gc_S I z (w, L, nt, π, x, uh, us, kp, sn, se)) (hW : ab_W (w, L, nt, π, x, uh, us, kp, sn, se)) (hQ : ∀ r I' R', (gc_P sh z I R (ab_undo (w, L, nt, π, x, uh, us, kp, sn, se)) r I' R') → Q (some (.int r)) n sh I' R') : mv_E l D b0 m5_undo (mv_rm 7) Q 0 [.ref z] [] 0 0 n sh I R := by
  obtain ⟨-, hpw, -, huh, -, -, -, -⟩ := id hW
  have hn := hpw.2.1
  refine mv_aload_n (pc := 0) dX5_undo_0 rfl ?_
  refine mv_getR (pc := 1) (q := (z + 61)) dX5_undo_1 fl5_53 (fun _ _ => rfl) (congrArg Prod.fst hz.o) hz.f7 ?_
  refine mv_aload_n (pc := 4) dX5_undo_4 rfl ?_
  refine mv_getR (pc := 5) (q := (z + 31)) dX5_undo_5 fl5_43 (fun _ _ => rfl) (congrArg Prod.fst hz.o) hz.f5 ?_
  refine mv_cVi (pc := 8) dX5_undo_8 lk5_127 (congrArg Prod.fst hz.hi.o) (c0_restore hz.hi hz.no hz.nop (by omega) hS.2.2.2.1 hn huh) rfl rfl (Nat.le_of_ble_eq_true rfl) (by decide) (by decide) (fun r J ⟨e1, e2, e3⟩ => ?_)
  by_cases h0 : uh = 0
  · have e0 : ab_undo (w, L, nt, π, x, uh, us, kp, sn, se) = (-2, (w, L, nt, π, x, uh, us, kp, sn, se)) := if_pos h0
    rw [if_pos h0] at e1
    have := e2 h0
    subst e1 this
    refine mv_if_eq (pc := 11) (tgt := 24) dX5_undo_11 (by decide) (fun _ => ?_) (fun hb => absurd hb (by decide))
    refine mv_bipush (pc := 24) (v := -2) dX5_undo_24 (by decide) ?_
    refine mv_iret (pc := 26) dX5_undo_26 rfl (by decide) (by decide) (hQ _ _ _ ?_)
    rw [e0]
    exact ⟨rfl, hS, fun _ _ => rfl, hz, fun _ _ => rfl⟩
  · have e0 : ab_undo (w, L, nt, π, x, uh, us, kp, sn, se) = (nI (uh - 1), (w, L, nt, π, us 0, uh - 1, fun i => us (i + 1), kp, sn, se)) := if_neg h0
    rw [if_neg h0] at e1
    subst e1
    obtain ⟨hh, hr, hf⟩ := e3 h0
    refine mv_if_eq (pc := 11) (tgt := 24) dX5_undo_11 (by decide) (fun hb => absurd hb (by decide)) (fun _ => ?_)
    refine mv_aload_n (pc := 14) dX5_undo_14 rfl ?_
    refine mv_getR (pc := 15) (q := (z + 61)) dX5_undo_15 fl5_53 (fun _ _ => rfl) (congrArg Prod.fst hz.o) hz.f7 ?_
    refine mv_getIx (pc := 18) (x := nI (uh - 1)) dX5_undo_18 fl5_99 rfl (congrArg Prod.fst hz.hi.o) hh.1 ?_
    refine mv_goto (pc := 21) (tgt := 26) dX5_undo_21 (by decide) ?_
    refine mv_iret (pc := 26) dX5_undo_26 rfl (by decide) (by decide) (hQ _ _ _ ?_)
    rw [e0]
    obtain ⟨⟨a0, a1⟩, a2, a3, a4, a5, a6⟩ := hS
    exact ⟨rfl, ⟨⟨by rw [hf _ (by omega) (by omega)]; exact a0, fun j hj => by rw [hf _ (by omega) (by omega)]; exact a1 j hj⟩, a2.eq (fun b b1 b2 => hf b (by omega) (by omega)), hr, hh, fun i hi => (a5 i hi).eq hi (hf _ (by omega) (by omega)) (fun b b1 b2 => hf b (by omega) (by omega)), a6.eq (by rw [hf z (by omega) (by omega)]) (fun b b1 b2 => hf b (by omega) (by omega))⟩, fun b hb => hf b (by omega) (by omega), hz, fun _ _ => rfl⟩
theorem c5_undo {l : Launch} {D : va_G} {b0 n : Nat} {sh : mv_Sh} {I : mv_I} {R : mv_R} {w : Nat → Int32} {L nt uh sn : Nat} {π x : xs_X} {us : Nat → xs_X} {kp : Nat → Option xs_X} {se : Nat → Nat × Nat × Nat} {z : Nat} (hz : ly_ST sh R z) (hS : gc_S I z (w, L, nt, π, x, uh, us, kp, sn, se)) (hW : ab_W (w, L, nt, π, x, uh, us, kp, sn, se)) : mv_C l D b0 m5_undo (mv_rm 7) [.ref z] n sh I R (mv_PI n sh (fun r I' R' => gc_P sh z I R (ab_undo (w, L, nt, π, x, uh, us, kp, sn, se)) r I' R')) := mv_C.of 0 (by decide) (by simp [Value.category]) rfl (e5_undo hz hS hW (fun _ _ _ h => mv_PI.mk h))
set_option maxHeartbeats 4000000 in
set_option maxRecDepth 100000 in
theorem e5_task {l : Launch} {D : va_G} {b0 n : Nat} {sh : mv_Sh} {I : mv_I} {R : mv_R} {Q : mv_Q} {w : Nat → Int32} {L nt uh sn : Nat} {π x : xs_X} {us : Nat → xs_X} {kp : Nat → Option xs_X} {se : Nat → Nat × Nat × Nat} {z : Nat} {v k : Int32} (hz : ly_ST sh R z) (hS : gc_S I z (w, L, nt, π, x, uh, us, kp, sn, se)) (hW : ab_W (w, L, nt, π, x, uh, us, kp, sn, se)) (hQ : ∀ r I' R', (gc_P sh z I R (ab_task v k (w, L, nt, π, x, uh, us, kp, sn, se), (w, L, nt, π, x, uh, us, kp, sn, se)) r I' R') → Q (some (.int r)) n sh I' R') : mv_E l D b0 m5_task (mv_rm 7) Q 0 [.ref z, .int v, .int k] [] 0 0 n sh I R := by
  obtain ⟨-, hpw, ⟨hX, τ, hτ9, hτ⟩, huh, -, -, -, -⟩ := id hW
  have hn := hpw.2.1
  have hx := hS.2.2.1
  have ok : ∀ r, r = ab_task v k (w, L, nt, π, x, uh, us, kp, sn, se) → Q (some (.int r)) n sh I R := fun r h => hQ r I R ⟨h, hS, fun _ _ => rfl, hz, fun _ _ => rfl⟩
  refine mv_aload_n (pc := 0) dX5_task_0 rfl ?_
  refine mv_iload_n (pc := 1) dX5_task_1 rfl ?_
  refine mv_cVi (pc := 2) dX5_task_2 lk5_118 (congrArg Prod.fst hz.o) (c5_isTask hz hS.2.1.1) rfl rfl (Nat.le_of_ble_eq_true rfl) (by decide) (by decide) (fun r J ⟨e1, e2⟩ => ?_)
  subst e1 e2
  by_cases hv : ab_is nt v
  · rw [if_pos hv]
    obtain ⟨t, ht, rfl⟩ := ab_is_n hv hn
    have ht8 : t < 8 := by omega
    rw [ab_task_in ht hn] at ok
    refine mv_if_ne (pc := 5) (tgt := 10) dX5_task_5 (by decide) (fun _ => ?_) (fun hb => absurd hb (by decide))
    refine mv_iload_n (pc := 10) dX5_task_10 rfl ?_
    rcases ab_cs k 7 (by decide) with ⟨j, j7, rfl⟩ | ho
    · have hj : j = 0 ∨ j = 1 ∨ j = 2 ∨ j = 3 ∨ j = 4 ∨ j = 5 ∨ j = 6 ∨ j = 7 := by omega
      rcases hj with rfl | rfl | rfl | rfl | rfl | rfl | rfl | rfl
      · refine mv_tswIn (pc := 11) (off := 45) (tgt := 56) dX5_task_11 (by decide) (by decide) (by decide) (by decide) ?_
        refine mv_aload_n (pc := 56) dX5_task_56 rfl ?_
        refine mv_getR (pc := 57) (q := (z + 3)) dX5_task_57 fl5_19 (fun _ _ => rfl) (congrArg Prod.fst hz.o) hz.f1 ?_
        refine mv_getR (pc := 60) (q := (z + 3) + 1) dX5_task_60 fl5_131 (fun _ _ => rfl) (congrArg Prod.fst hz.to.o) hz.to.f1 ?_
        refine mv_iload_n (pc := 63) dX5_task_63 rfl ?_
        refine mv_ialdx (pc := 64) (x := π t 0) (k := t) dX5_task_64 hz.to.g1 rfl (by omega) (hS.2.1.2 t ht).1 ?_
        exact mv_iret (pc := 65) dX5_task_65 rfl (by decide) (by decide) (ok _ rfl)
      · refine mv_tswIn (pc := 11) (off := 55) (tgt := 66) dX5_task_11 (by decide) (by decide) (by decide) (by decide) ?_
        refine mv_aload_n (pc := 66) dX5_task_66 rfl ?_
        refine mv_getR (pc := 67) (q := (z + 31)) dX5_task_67 fl5_43 (fun _ _ => rfl) (congrArg Prod.fst hz.o) hz.f5 ?_
        refine mv_getR (pc := 70) (q := (z + 31) + 1) dX5_task_70 fl5_105 (fun _ _ => rfl) (congrArg Prod.fst hz.no.o) hz.no.f2 ?_
        refine mv_iload_n (pc := 73) dX5_task_73 rfl ?_
        refine mv_ialdx (pc := 74) (x := x t 0) (k := t) dX5_task_74 hz.no.g2 rfl (by omega) ((hx.2.1 t ht).1 0 (by decide)) ?_
        exact mv_iret (pc := 75) dX5_task_75 rfl (by decide) (by decide) (ok _ rfl)
      · refine mv_tswIn (pc := 11) (off := 65) (tgt := 76) dX5_task_11 (by decide) (by decide) (by decide) (by decide) ?_
        refine mv_aload_n (pc := 76) dX5_task_76 rfl ?_
        refine mv_getR (pc := 77) (q := (z + 31)) dX5_task_77 fl5_43 (fun _ _ => rfl) (congrArg Prod.fst hz.o) hz.f5 ?_
        refine mv_getR (pc := 80) (q := (z + 31) + 2) dX5_task_80 fl5_134 (fun _ _ => rfl) (congrArg Prod.fst hz.no.o) hz.no.f3 ?_
        refine mv_iload_n (pc := 83) dX5_task_83 rfl ?_
        refine mv_ialdx (pc := 84) (x := x t 1) (k := t) dX5_task_84 hz.no.g3 rfl (by omega) ((hx.2.1 t ht).1 1 (by decide)) ?_
        exact mv_iret (pc := 85) dX5_task_85 rfl (by decide) (by decide) (ok _ rfl)
      · refine mv_tswIn (pc := 11) (off := 75) (tgt := 86) dX5_task_11 (by decide) (by decide) (by decide) (by decide) ?_
        refine mv_aload_n (pc := 86) dX5_task_86 rfl ?_
        refine mv_getR (pc := 87) (q := (z + 31)) dX5_task_87 fl5_43 (fun _ _ => rfl) (congrArg Prod.fst hz.o) hz.f5 ?_
        refine mv_getR (pc := 90) (q := (z + 31) + 6) dX5_task_90 fl5_124 (fun _ _ => rfl) (congrArg Prod.fst hz.no.o) hz.no.f7 ?_
        refine mv_iload_n (pc := 93) dX5_task_93 rfl ?_
        refine mv_ialdx (pc := 94) (x := x t 2) (k := t) dX5_task_94 hz.no.g7 rfl (by omega) ((hx.2.1 t ht).1 2 (by decide)) ?_
        exact mv_iret (pc := 95) dX5_task_95 rfl (by decide) (by decide) (ok _ rfl)
      · have eq4 : (if nI 4 = 0 then π t 0 else if nI 4 = 1 then x t 0 else if nI 4 = 2 then x t 1 else if nI 4 = 3 then x t 2 else if nI 4 = 4 then (if x t 4 = 0 ∨ x t 4 = 9999 then -9 else x t 4) else if nI 4 = 5 then x t 5 else if nI 4 = 6 then x t 9 else if nI 4 = 7 then xs_bs π x t nt else -1) = (if x t 4 = 0 ∨ x t 4 = 9999 then -9 else x t 4) := rfl
        rw [eq4] at ok
        have hdu := (hx.2.1 t ht).2.2.1
        generalize hc : J (z + 31 + 5) t = c at hdu
        refine mv_tswIn (pc := 11) (off := 85) (tgt := 96) dX5_task_11 (by decide) (by decide) (by decide) (by decide) ?_
        refine mv_aload_n (pc := 96) dX5_task_96 rfl ?_
        refine mv_getR (pc := 97) (q := (z + 31)) dX5_task_97 fl5_43 (fun _ _ => rfl) (congrArg Prod.fst hz.o) hz.f5 ?_
        refine mv_getR (pc := 100) (q := (z + 31) + 5) dX5_task_100 fl5_137 (fun _ _ => rfl) (congrArg Prod.fst hz.no.o) hz.no.f6 ?_
        refine mv_iload_n (pc := 103) dX5_task_103 rfl ?_
        refine mv_ialdx (pc := 104) (x := c) (k := t) dX5_task_104 hz.no.g6 rfl (by omega) hc ?_
        refine mv_ldc (pc := 105) dX5_task_105 kc5_140 ?_
        refine mv_icmp_ne (pc := 107) (tgt := 115) dX5_task_107 (by decide) (fun hb => ?_) (fun hb => ?_)
        · refine mv_aload_n (pc := 115) dX5_task_115 rfl ?_
          refine mv_getR (pc := 116) (q := (z + 31)) dX5_task_116 fl5_43 (fun _ _ => rfl) (congrArg Prod.fst hz.o) hz.f5 ?_
          refine mv_getR (pc := 119) (q := (z + 31) + 5) dX5_task_119 fl5_137 (fun _ _ => rfl) (congrArg Prod.fst hz.no.o) hz.no.f6 ?_
          refine mv_iload_n (pc := 122) dX5_task_122 rfl ?_
          refine mv_ialdx (pc := 123) (x := c) (k := t) dX5_task_123 hz.no.g6 rfl (by omega) hc ?_
          refine mv_iret (pc := 124) dX5_task_124 rfl (by decide) (by decide) (ok _ ?_)
          rcases hdu with ⟨a, -⟩ | ⟨a, b1, b2⟩
          · exact absurd a hb
          · rw [if_neg, a]
            rintro (q | q)
            · rw [q] at b1; exact absurd b1 (by decide)
            · rw [q] at b2; exact absurd b2 (by decide)
        · refine mv_bipush (pc := 110) (v := -9) dX5_task_110 (by decide) ?_
          refine mv_goto (pc := 112) (tgt := 124) dX5_task_112 (by decide) ?_
          refine mv_iret (pc := 124) dX5_task_124 rfl (by decide) (by decide) (ok _ ?_)
          rcases hdu with ⟨-, a⟩ | ⟨a, b1, b2⟩
          · rw [if_pos a.symm]
          · rw [hb] at a
            rw [← a] at b2
            exact absurd b2 (by decide)
      · refine mv_tswIn (pc := 11) (off := 114) (tgt := 125) dX5_task_11 (by decide) (by decide) (by decide) (by decide) ?_
        refine mv_aload_n (pc := 125) dX5_task_125 rfl ?_
        refine mv_getR (pc := 126) (q := (z + 31)) dX5_task_126 fl5_43 (fun _ _ => rfl) (congrArg Prod.fst hz.o) hz.f5 ?_
        refine mv_getR (pc := 129) (q := (z + 31) + 9) dX5_task_129 fl5_121 (fun _ _ => rfl) (congrArg Prod.fst hz.no.o) hz.no.f10 ?_
        refine mv_iload_n (pc := 132) dX5_task_132 rfl ?_
        refine mv_ialdx (pc := 133) (x := x t 5) (k := t) dX5_task_133 hz.no.g10 rfl (by omega) ((hx.2.1 t ht).1 5 (by decide)) ?_
        exact mv_iret (pc := 134) dX5_task_134 rfl (by decide) (by decide) (ok _ rfl)
      · refine mv_tswIn (pc := 11) (off := 124) (tgt := 135) dX5_task_11 (by decide) (by decide) (by decide) (by decide) ?_
        refine mv_aload_n (pc := 135) dX5_task_135 rfl ?_
        refine mv_getR (pc := 136) (q := (z + 31)) dX5_task_136 fl5_43 (fun _ _ => rfl) (congrArg Prod.fst hz.o) hz.f5 ?_
        refine mv_getR (pc := 139) (q := (z + 31) + 10) dX5_task_139 fl5_141 (fun _ _ => rfl) (congrArg Prod.fst hz.no.o) hz.no.f11 ?_
        refine mv_iload_n (pc := 142) dX5_task_142 rfl ?_
        refine mv_ialdx (pc := 143) (x := x t 9) (k := t) dX5_task_143 hz.no.g11 rfl (by omega) ((hx.2.1 t ht).1 9 (by decide)) ?_
        exact mv_iret (pc := 144) dX5_task_144 rfl (by decide) (by decide) (ok _ rfl)
      · refine mv_tswIn (pc := 11) (off := 134) (tgt := 145) dX5_task_11 (by decide) (by decide) (by decide) (by decide) ?_
        refine mv_aload_n (pc := 145) dX5_task_145 rfl ?_
        refine mv_getR (pc := 146) (q := (z + 31)) dX5_task_146 fl5_43 (fun _ _ => rfl) (congrArg Prod.fst hz.o) hz.f5 ?_
        refine mv_iload_n (pc := 149) dX5_task_149 rfl ?_
        refine mv_cVi (pc := 150) dX5_task_150 lk5_144 (congrArg Prod.fst hz.no.o) (c3_activeChildren (gc_S.K hz hS hpw) hx ht) rfl rfl (Nat.le_of_ble_eq_true rfl) (by decide) (by decide) (fun r J3 ⟨e1, e2⟩ => ?_)
        subst e1 e2
        exact mv_iret (pc := 153) dX5_task_153 rfl (by decide) (by decide) (ok _ rfl)
    · refine mv_tswOut (pc := 11) (tgt := 154) dX5_task_11 ho (by decide) ?_
      refine mv_iconst (pc := 154) (v := -1) dX5_task_154 (by decide) ?_
      refine mv_iret (pc := 155) dX5_task_155 rfl (by decide) (by decide) (ok _ ?_)
      rw [← ab_task_in (w := w) (L := L) (σ := (uh, us, kp, sn, se)) ht hn]
      refine (ab_task_out (fun q => ?_)).symm
      obtain ⟨j, j7, rfl⟩ := ab_in (N := 7) q (by decide)
      rw [nI_toInt (by omega)] at ho
      omega
  · rw [if_neg hv]
    refine mv_if_ne (pc := 5) (tgt := 10) dX5_task_5 (by decide) (fun hb => absurd hb (by decide)) (fun _ => ?_)
    refine mv_iconst (pc := 8) (v := -1) dX5_task_8 (by decide) ?_
    exact mv_iret (pc := 9) dX5_task_9 rfl (by decide) (by decide) (ok _ (if_pos hv).symm)
theorem c5_task {l : Launch} {D : va_G} {b0 n : Nat} {sh : mv_Sh} {I : mv_I} {R : mv_R} {w : Nat → Int32} {L nt uh sn : Nat} {π x : xs_X} {us : Nat → xs_X} {kp : Nat → Option xs_X} {se : Nat → Nat × Nat × Nat} {z : Nat} {v k : Int32} (hz : ly_ST sh R z) (hS : gc_S I z (w, L, nt, π, x, uh, us, kp, sn, se)) (hW : ab_W (w, L, nt, π, x, uh, us, kp, sn, se)) : mv_C l D b0 m5_task (mv_rm 7) [.ref z, .int v, .int k] n sh I R (mv_PI n sh (fun r I' R' => gc_P sh z I R (ab_task v k (w, L, nt, π, x, uh, us, kp, sn, se), (w, L, nt, π, x, uh, us, kp, sn, se)) r I' R')) := mv_C.of 0 (by decide) (by simp [Value.category]) rfl (e5_task hz hS hW (fun _ _ _ h => mv_PI.mk h))
set_option maxHeartbeats 4000000 in
set_option maxRecDepth 100000 in
theorem e5_failure {l : Launch} {D : va_G} {b0 n : Nat} {sh : mv_Sh} {I : mv_I} {R : mv_R} {Q : mv_Q} {w : Nat → Int32} {L nt uh sn : Nat} {π x : xs_X} {us : Nat → xs_X} {kp : Nat → Option xs_X} {se : Nat → Nat × Nat × Nat} {z : Nat} {v k : Int32} (hz : ly_ST sh R z) (hS : gc_S I z (w, L, nt, π, x, uh, us, kp, sn, se)) (hW : ab_W (w, L, nt, π, x, uh, us, kp, sn, se)) (hQ : ∀ r I' R', (gc_P sh z I R (ab_failure v k (w, L, nt, π, x, uh, us, kp, sn, se), (w, L, nt, π, x, uh, us, kp, sn, se)) r I' R') → Q (some (.int r)) n sh I' R') : mv_E l D b0 m5_failure (mv_rm 7) Q 0 [.ref z, .int v, .int k] [] 0 0 n sh I R := by
  obtain ⟨-, hpw, ⟨hX, τ, hτ9, hτ⟩, huh, -, -, -, -⟩ := id hW
  have hn := hpw.2.1
  have hx := hS.2.2.1
  have ok : ∀ r, r = ab_failure v k (w, L, nt, π, x, uh, us, kp, sn, se) → Q (some (.int r)) n sh I R := fun r h => hQ r I R ⟨h, hS, fun _ _ => rfl, hz, fun _ _ => rfl⟩
  have no : (¬ ab_is nt v ∨ k < 0) → mv_E l D b0 m5_failure (mv_rm 7) Q 12 [.ref z, .int v, .int k] [] 0 0 n sh I R := by
    intro q
    refine mv_iconst (pc := 12) (v := -1) dX5_failure_12 (by decide) ?_
    exact mv_iret (pc := 13) dX5_failure_13 rfl (by decide) (by decide) (ok _ (if_pos q).symm)
  refine mv_aload_n (pc := 0) dX5_failure_0 rfl ?_
  refine mv_iload_n (pc := 1) dX5_failure_1 rfl ?_
  refine mv_cVi (pc := 2) dX5_failure_2 lk5_118 (congrArg Prod.fst hz.o) (c5_isTask hz hS.2.1.1) rfl rfl (Nat.le_of_ble_eq_true rfl) (by decide) (by decide) (fun r J ⟨e1, e2⟩ => ?_)
  subst e1 e2
  by_cases hv : ab_is nt v
  · rw [if_pos hv]
    refine mv_if_eq (pc := 5) (tgt := 12) dX5_failure_5 (by decide) (fun hb => absurd hb (by decide)) (fun _ => ?_)
    refine mv_iload_n (pc := 8) dX5_failure_8 rfl ?_
    refine mv_if_ge (pc := 9) (tgt := 14) dX5_failure_9 (by decide) (fun hb => ?_) (fun hb => ?_)
    · have hk0 : ¬ k < 0 := Int32.not_lt.mpr hb
      obtain ⟨t, ht, rfl⟩ := ab_is_n hv hn
      obtain ⟨j, j1, rfl⟩ := nI_of hk0
      obtain ⟨c, c8, hc⟩ := (hX.2.2.2 t ht).2.1
      have e0 : ab_failure (nI t) (nI j) (w, L, nt, π, x, uh, us, kp, sn, se) = if nI j < x t 9 then x t (10 + j) else -9 := by
        refine (if_neg (fun q => q.elim (fun a => a hv) hk0)).trans ?_
        rw [nI_clamp (by omega), nI_clamp j1]
      rw [e0] at ok
      refine mv_iload_n (pc := 14) dX5_failure_14 rfl ?_
      refine mv_aload_n (pc := 15) dX5_failure_15 rfl ?_
      refine mv_getR (pc := 16) (q := (z + 31)) dX5_failure_16 fl5_43 (fun _ _ => rfl) (congrArg Prod.fst hz.o) hz.f5 ?_
      refine mv_getR (pc := 19) (q := (z + 31) + 10) dX5_failure_19 fl5_141 (fun _ _ => rfl) (congrArg Prod.fst hz.no.o) hz.no.f11 ?_
      refine mv_iload_n (pc := 22) dX5_failure_22 rfl ?_
      refine mv_ialdx (pc := 23) (x := x t 9) (k := t) dX5_failure_23 hz.no.g11 rfl (by omega) ((hx.2.1 t ht).1 9 (by decide)) ?_
      refine mv_icmp_ge (pc := 24) (tgt := 44) dX5_failure_24 (by decide) (fun hb2 => ?_) (fun hb2 => ?_)
      · refine mv_bipush (pc := 44) (v := -9) dX5_failure_44 (by decide) ?_
        refine mv_iret (pc := 46) dX5_failure_46 rfl (by decide) (by decide) (ok _ ?_)
        rw [if_neg (Int32.not_lt.mpr hb2)]
      · have hlt : nI j < x t 9 := Int32.not_le.mp hb2
        have hj : j < c := by rw [hc] at hlt; exact (nI_ltI j1 (by omega)).mp hlt
        refine mv_aload_n (pc := 27) dX5_failure_27 rfl ?_
        refine mv_getR (pc := 28) (q := (z + 31)) dX5_failure_28 fl5_43 (fun _ _ => rfl) (congrArg Prod.fst hz.o) hz.f5 ?_
        refine mv_getR (pc := 31) (q := (z + 31) + 11) dX5_failure_31 fl5_148 (fun _ _ => rfl) (congrArg Prod.fst hz.no.o) hz.no.f12 ?_
        refine mv_iload_n (pc := 34) dX5_failure_34 rfl ?_
        refine mv_bipush (pc := 35) (v := 8) dX5_failure_35 (by decide) ?_
        refine mv_imul (pc := 37) dX5_failure_37 ?_
        refine mv_iload_n (pc := 38) dX5_failure_38 rfl ?_
        refine mv_iadd (pc := 39) dX5_failure_39 ?_
        refine mv_ialdx (pc := 40) (x := x t (10 + j)) (k := 8 * t + j) dX5_failure_40 hz.no.g12 (by rw [Nat.mul_comm]; exact mv_jx t 8 j) (by omega) ((hx.2.1 t ht).2.2.2 j (by rw [hc, nI_clamp (by omega)]; exact hj) (by omega)) ?_
        refine mv_goto (pc := 41) (tgt := 46) dX5_failure_41 (by decide) ?_
        refine mv_iret (pc := 46) dX5_failure_46 rfl (by decide) (by decide) (ok _ ?_)
        rw [if_pos hlt]
    · exact no (Or.inr (Int32.not_le.mp hb))
  · rw [if_neg hv]
    refine mv_if_eq (pc := 5) (tgt := 12) dX5_failure_5 (by decide) (fun _ => ?_) (fun hb => absurd hb (by decide))
    exact no (Or.inl hv)
theorem c5_failure {l : Launch} {D : va_G} {b0 n : Nat} {sh : mv_Sh} {I : mv_I} {R : mv_R} {w : Nat → Int32} {L nt uh sn : Nat} {π x : xs_X} {us : Nat → xs_X} {kp : Nat → Option xs_X} {se : Nat → Nat × Nat × Nat} {z : Nat} {v k : Int32} (hz : ly_ST sh R z) (hS : gc_S I z (w, L, nt, π, x, uh, us, kp, sn, se)) (hW : ab_W (w, L, nt, π, x, uh, us, kp, sn, se)) : mv_C l D b0 m5_failure (mv_rm 7) [.ref z, .int v, .int k] n sh I R (mv_PI n sh (fun r I' R' => gc_P sh z I R (ab_failure v k (w, L, nt, π, x, uh, us, kp, sn, se), (w, L, nt, π, x, uh, us, kp, sn, se)) r I' R')) := mv_C.of 0 (by decide) (by simp [Value.category]) rfl (e5_failure hz hS hW (fun _ _ _ h => mv_PI.mk h))
set_option maxHeartbeats 4000000 in
set_option maxRecDepth 100000 in
theorem e5_trace {l : Launch} {D : va_G} {b0 n : Nat} {sh : mv_Sh} {I : mv_I} {R : mv_R} {Q : mv_Q} {w : Nat → Int32} {L nt uh sn : Nat} {π x : xs_X} {us : Nat → xs_X} {kp : Nat → Option xs_X} {se : Nat → Nat × Nat × Nat} {z : Nat} {k c : Int32} (hz : ly_ST sh R z) (hS : gc_S I z (w, L, nt, π, x, uh, us, kp, sn, se)) (hW : ab_W (w, L, nt, π, x, uh, us, kp, sn, se)) (hQ : ∀ r I' R', (gc_P sh z I R (ab_trace k c (w, L, nt, π, x, uh, us, kp, sn, se), (w, L, nt, π, x, uh, us, kp, sn, se)) r I' R') → Q (some (.int r)) n sh I' R') : mv_E l D b0 m5_trace (mv_rm 7) Q 0 [.ref z, .int k, .int c] [] 0 0 n sh I R := by
  obtain ⟨-, hpw, ⟨hX, τ, hτ9, hτ⟩, huh, -, -, -, -⟩ := id hW
  obtain ⟨e, he6, he⟩ := hX.2.1
  have hx := hS.2.2.1
  have ok : ∀ r, r = ab_trace k c (w, L, nt, π, x, uh, us, kp, sn, se) → Q (some (.int r)) n sh I R := fun r h => hQ r I R ⟨h, hS, fun _ _ => rfl, hz, fun _ _ => rfl⟩
  have no : (k < 0 ∨ ¬ (0 ≤ c ∧ c ≤ 2)) → mv_E l D b0 m5_trace (mv_rm 7) Q 13 [.ref z, .int k, .int c] [] 0 0 n sh I R := by
    intro q
    refine mv_iconst (pc := 13) (v := -1) dX5_trace_13 (by decide) ?_
    exact mv_iret (pc := 14) dX5_trace_14 rfl (by decide) (by decide) (ok _ (if_pos q).symm)
  refine mv_iload_n (pc := 0) dX5_trace_0 rfl ?_
  refine mv_if_lt (pc := 1) (tgt := 13) dX5_trace_1 (by decide) (fun hb => ?_) (fun hb => ?_)
  · exact no (Or.inl hb)
  · refine mv_iload_n (pc := 4) dX5_trace_4 rfl ?_
    refine mv_if_lt (pc := 5) (tgt := 13) dX5_trace_5 (by decide) (fun hb2 => ?_) (fun hb2 => ?_)
    · exact no (Or.inr (fun q => absurd q.1 (Int32.not_le.mpr hb2)))
    · refine mv_iload_n (pc := 8) dX5_trace_8 rfl ?_
      refine mv_iconst (pc := 9) (v := 2) dX5_trace_9 (by decide) ?_
      refine mv_icmp_le (pc := 10) (tgt := 15) dX5_trace_10 (by decide) (fun hb3 => ?_) (fun hb3 => ?_)
      · have hc : 0 ≤ c ∧ c ≤ 2 := ⟨Int32.not_lt.mp hb2, hb3⟩
        have hk0 : ¬ k < 0 := hb
        obtain ⟨j, j1, rfl⟩ := nI_of hk0
        obtain ⟨i, i2, rfl⟩ := ab_in (N := 2) hc (by decide)
        have e0 : ab_trace (nI j) (nI i) (w, L, nt, π, x, uh, us, kp, sn, se) = if nI j < x 8 1 then x (9 + j) i else -9 := by
          refine (if_neg (fun q => q.elim hk0 (fun a => a hc))).trans ?_
          rw [nI_clamp j1, nI_clamp (by omega)]
        rw [e0] at ok
        refine mv_iload_n (pc := 15) dX5_trace_15 rfl ?_
        refine mv_aload_n (pc := 16) dX5_trace_16 rfl ?_
        refine mv_getR (pc := 17) (q := (z + 31)) dX5_trace_17 fl5_43 (fun _ _ => rfl) (congrArg Prod.fst hz.o) hz.f5 ?_
        refine mv_getIx (pc := 20) (x := x 8 1) dX5_trace_20 fl5_151 rfl (congrArg Prod.fst hz.no.o) hx.1.2 ?_
        refine mv_icmp_lt (pc := 23) (tgt := 29) dX5_trace_23 (by decide) (fun hb4 => ?_) (fun hb4 => ?_)
        · have hj : j < e := by rw [he] at hb4; exact (nI_ltI j1 (by omega)).mp hb4
          obtain ⟨t1, t2, t3⟩ := hx.2.2 j (by rw [he, nI_clamp (by omega)]; exact hj) (by omega)
          rw [if_pos hb4] at ok
          have hi : i = 0 ∨ i = 1 ∨ i = 2 := by omega
          refine mv_iload_n (pc := 29) dX5_trace_29 rfl ?_
          rcases hi with rfl | rfl | rfl
          · refine mv_if_ne (pc := 30) (tgt := 43) dX5_trace_30 (by decide) (fun hb => absurd hb (by decide)) (fun _ => ?_)
            refine mv_aload_n (pc := 33) dX5_trace_33 rfl ?_
            refine mv_getR (pc := 34) (q := (z + 31)) dX5_trace_34 fl5_43 (fun _ _ => rfl) (congrArg Prod.fst hz.o) hz.f5 ?_
            refine mv_getR (pc := 37) (q := (z + 31) + 12) dX5_trace_37 fl5_154 (fun _ _ => rfl) (congrArg Prod.fst hz.no.o) hz.no.f14 ?_
            refine mv_iload_n (pc := 40) dX5_trace_40 rfl ?_
            refine mv_ialdx (pc := 41) (x := x (9 + j) 0) (k := j) dX5_trace_41 hz.no.g14 rfl (by omega) t1 ?_
            exact mv_iret (pc := 42) dX5_trace_42 rfl (by decide) (by decide) (ok _ rfl)
          · refine mv_if_ne (pc := 30) (tgt := 43) dX5_trace_30 (by decide) (fun _ => ?_) (fun hb => absurd hb (by decide))
            refine mv_iload_n (pc := 43) dX5_trace_43 rfl ?_
            refine mv_iconst (pc := 44) (v := 1) dX5_trace_44 (by decide) ?_
            refine mv_icmp_ne (pc := 45) (tgt := 60) dX5_trace_45 (by decide) (fun hb => absurd hb (by decide)) (fun _ => ?_)
            refine mv_aload_n (pc := 48) dX5_trace_48 rfl ?_
            refine mv_getR (pc := 49) (q := (z + 31)) dX5_trace_49 fl5_43 (fun _ _ => rfl) (congrArg Prod.fst hz.o) hz.f5 ?_
            refine mv_getR (pc := 52) (q := (z + 31) + 13) dX5_trace_52 fl5_157 (fun _ _ => rfl) (congrArg Prod.fst hz.no.o) hz.no.f15 ?_
            refine mv_iload_n (pc := 55) dX5_trace_55 rfl ?_
            refine mv_ialdx (pc := 56) (x := x (9 + j) 1) (k := j) dX5_trace_56 hz.no.g15 rfl (by omega) t2 ?_
            refine mv_goto (pc := 57) (tgt := 69) dX5_trace_57 (by decide) ?_
            exact mv_iret (pc := 69) dX5_trace_69 rfl (by decide) (by decide) (ok _ rfl)
          · refine mv_if_ne (pc := 30) (tgt := 43) dX5_trace_30 (by decide) (fun _ => ?_) (fun hb => absurd hb (by decide))
            refine mv_iload_n (pc := 43) dX5_trace_43 rfl ?_
            refine mv_iconst (pc := 44) (v := 1) dX5_trace_44 (by decide) ?_
            refine mv_icmp_ne (pc := 45) (tgt := 60) dX5_trace_45 (by decide) (fun _ => ?_) (fun hb => absurd hb (by decide))
            refine mv_aload_n (pc := 60) dX5_trace_60 rfl ?_
            refine mv_getR (pc := 61) (q := (z + 31)) dX5_trace_61 fl5_43 (fun _ _ => rfl) (congrArg Prod.fst hz.o) hz.f5 ?_
            refine mv_getR (pc := 64) (q := (z + 31) + 14) dX5_trace_64 fl5_160 (fun _ _ => rfl) (congrArg Prod.fst hz.no.o) hz.no.f16 ?_
            refine mv_iload_n (pc := 67) dX5_trace_67 rfl ?_
            refine mv_ialdx (pc := 68) (x := x (9 + j) 2) (k := j) dX5_trace_68 hz.no.g16 rfl (by omega) t3 ?_
            exact mv_iret (pc := 69) dX5_trace_69 rfl (by decide) (by decide) (ok _ rfl)
        · refine mv_bipush (pc := 26) (v := -9) dX5_trace_26 (by decide) ?_
          refine mv_iret (pc := 28) dX5_trace_28 rfl (by decide) (by decide) (ok _ ?_)
          rw [if_neg hb4]
      · exact no (Or.inr (fun q => hb3 q.2))
theorem c5_trace {l : Launch} {D : va_G} {b0 n : Nat} {sh : mv_Sh} {I : mv_I} {R : mv_R} {w : Nat → Int32} {L nt uh sn : Nat} {π x : xs_X} {us : Nat → xs_X} {kp : Nat → Option xs_X} {se : Nat → Nat × Nat × Nat} {z : Nat} {k c : Int32} (hz : ly_ST sh R z) (hS : gc_S I z (w, L, nt, π, x, uh, us, kp, sn, se)) (hW : ab_W (w, L, nt, π, x, uh, us, kp, sn, se)) : mv_C l D b0 m5_trace (mv_rm 7) [.ref z, .int k, .int c] n sh I R (mv_PI n sh (fun r I' R' => gc_P sh z I R (ab_trace k c (w, L, nt, π, x, uh, us, kp, sn, se), (w, L, nt, π, x, uh, us, kp, sn, se)) r I' R')) := mv_C.of 0 (by decide) (by simp [Value.category]) rfl (e5_trace hz hS hW (fun _ _ _ h => mv_PI.mk h))

