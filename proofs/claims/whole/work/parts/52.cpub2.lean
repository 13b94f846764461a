theorem gc_S.see {I I' : mv_I} {z : Nat} {w : Nat → Int32} {L nt uh sn : Nat} {π x : xs_X} {us : Nat → xs_X} {kp : Nat → Option xs_X} {se : Nat → Nat × Nat × Nat} {sn' : Nat} {se' : Nat → Nat × Nat × Nat} (h : gc_S I z (w, L, nt, π, x, uh, us, kp, sn, se)) (e : ∀ b, b ≠ z → (b < z + 245 ∨ z + 247 < b) → I' b = I b) (hh : gc_N I' z sn' se') : gc_S I' z (w, L, nt, π, x, uh, us, kp, sn', se') := by
  obtain ⟨⟨h0, h1⟩, h2, h3, h4, h5, h6⟩ := h
  exact ⟨⟨by rw [e _ (by omega) (by omega)]; exact h0, fun j hj => by rw [e _ (by omega) (by omega)]; exact h1 j hj⟩, h2.eq (fun b b1 b2 => e b (by omega) (by omega)), h3.eq (fun b b1 b2 => e b (by omega) (by omega)), h4.eq (e _ (by omega) (by omega)) (fun b b1 b2 => e b (by omega) (by omega)), fun i hi => (h5 i hi).eq hi (e _ (by omega) (by omega)) (fun b b1 b2 => e b (by omega) (by omega)), hh⟩
set_option maxHeartbeats 4000000 in
set_option maxRecDepth 100000 in
theorem e5_sees {l : Launch} {D : va_G} {b0 n : Nat} {sh : mv_Sh} {I : mv_I} {R : mv_R} {Q : mv_Q} {w : Nat → Int32} {L nt uh sn : Nat} {π x : xs_X} {us : Nat → xs_X} {kp : Nat → Option xs_X} {se : Nat → Nat × Nat × Nat} {z : Nat} {v k e : Int32} (hz : ly_ST sh R z) (hS : gc_S I z (w, L, nt, π, x, uh, us, kp, sn, se)) (hW : ab_W (w, L, nt, π, x, uh, us, kp, sn, se)) (hQ : ∀ r I' R', (gc_P sh z I R (ab_sees v k e (w, L, nt, π, x, uh, us, kp, sn, se)) r I' R') → Q (some (.int r)) n sh I' R') : mv_E l D b0 m5_sees (mv_rm 7) Q 0 [.ref z, .int v, .int k, .int e] [] 0 0 n sh I R := by
  obtain ⟨-, hpw, -, -, -, -, hsn, -⟩ := id hW
  have hn := hpw.2.1
  obtain ⟨s13, sN⟩ := hS.2.2.2.2.2
  have no : (¬ ab_is nt v ∨ ¬ (1 ≤ k ∧ k ≤ 60) ∨ ¬ (0 ≤ e ∧ e ≤ 1)) → mv_E l D b0 m5_sees (mv_rm 7) Q 28 [.ref z, .int v, .int k, .int e] [] 0 0 n sh I R := by
    intro q
    have e0 : ab_sees v k e (w, L, nt, π, x, uh, us, kp, sn, se) = (-1, (w, L, nt, π, x, uh, us, kp, sn, se)) := if_pos q
    refine mv_iconst (pc := 28) (v := -1) dX5_sees_28 (by decide) ?_
    refine mv_iret (pc := 29) dX5_sees_29 rfl (by decide) (by decide) (hQ _ _ _ ?_)
    rw [e0]
    exact ⟨rfl, hS, fun _ _ => rfl, hz, fun _ _ => rfl⟩
  refine mv_aload_n (pc := 0) dX5_sees_0 rfl ?_
  refine mv_iload_n (pc := 1) dX5_sees_1 rfl ?_
  refine mv_cVi (pc := 2) dX5_sees_2 lk5_118 (congrArg Prod.fst hz.o) (c5_isTask hz hS.2.1.1) rfl rfl (Nat.le_of_ble_eq_true rfl) (by decide) (by decide) (fun r J ⟨e1, e2⟩ => ?_)
  subst e1 e2
  by_cases hv : ab_is nt v
  · rw [if_pos hv]
    refine mv_if_eq (pc := 5) (tgt := 28) dX5_sees_5 (by decide) (fun hb => absurd hb (by decide)) (fun _ => ?_)
    refine mv_iload_n (pc := 8) dX5_sees_8 rfl ?_
    refine mv_iconst (pc := 9) (v := 1) dX5_sees_9 (by decide) ?_
    refine mv_icmp_lt (pc := 10) (tgt := 28) dX5_sees_10 (by decide) (fun hb1 => ?_) (fun hb1 => ?_)
    · exact no (Or.inr (Or.inl (fun q => absurd q.1 (Int32.not_le.mpr hb1))))
    · refine mv_iload_n (pc := 13) dX5_sees_13 rfl ?_
      refine mv_bipush (pc := 14) (v := 60) dX5_sees_14 (by decide) ?_
      refine mv_icmp_gt (pc := 16) (tgt := 28) dX5_sees_16 (by decide) (fun hb2 => ?_) (fun hb2 => ?_)
      · exact no (Or.inr (Or.inl (fun q => absurd q.2 (Int32.not_le.mpr hb2))))
      · refine mv_iload_n (pc := 19) dX5_sees_19 rfl ?_
        refine mv_if_lt (pc := 20) (tgt := 28) dX5_sees_20 (by decide) (fun hb3 => ?_) (fun hb3 => ?_)
        · exact no (Or.inr (Or.inr (fun q => absurd q.1 (Int32.not_le.mpr hb3))))
        · refine mv_iload_n (pc := 23) dX5_sees_23 rfl ?_
          refine mv_iconst (pc := 24) (v := 1) dX5_sees_24 (by decide) ?_
          refine mv_icmp_le (pc := 25) (tgt := 30) dX5_sees_25 (by decide) (fun hb4 => ?_) (fun hb4 => ?_)
          · have hk : 1 ≤ k ∧ k ≤ 60 := ⟨Int32.not_lt.mp hb1, Int32.not_lt.mp hb2⟩
            have he : 0 ≤ e ∧ e ≤ 1 := ⟨Int32.not_lt.mp hb3, hb4⟩
            have hno : ¬ (¬ ab_is nt v ∨ ¬ (1 ≤ k ∧ k ≤ 60) ∨ ¬ (0 ≤ e ∧ e ≤ 1)) := fun q => q.elim (fun a => a hv) (fun q => q.elim (fun a => a hk) (fun a => a he))
            refine mv_aload_n (pc := 30) dX5_sees_30 rfl ?_
            refine mv_getIx (pc := 31) (x := nI sn) dX5_sees_31 fl5_75 rfl (congrArg Prod.fst hz.o) s13 ?_
            refine mv_bipush (pc := 34) (v := 6) dX5_sees_34 (by decide) ?_
            refine mv_icmp_lt (pc := 36) (tgt := 42) dX5_sees_36 (by decide) (fun hb => ?_) (fun hb => ?_)
            · have hlt : sn < 6 := (nI_ltI (b := 6) (by omega) (by decide)).mp hb
              have hs6 : sn ≠ 6 := by omega
              have e0 : ab_sees v k e (w, L, nt, π, x, uh, us, kp, sn, se) = (nI (sn + 1), (w, L, nt, π, x, uh, us, kp, sn + 1, fun i => if i = sn then (v.toNatClampNeg, k.toNatClampNeg, e.toNatClampNeg) else se i)) := (if_neg hno).trans (if_neg hs6)
              obtain ⟨t, ht, rfl⟩ := ab_is_n hv hn
              obtain ⟨j, j1, rfl⟩ := ab_in (N := 60) (v := k) ⟨Int32.le_trans (by decide) hk.1, hk.2⟩ (by decide)
              obtain ⟨i, i1, rfl⟩ := ab_in (N := 1) he (by decide)
              rw [nI_clamp (n := t) (by omega), nI_clamp (n := j) (by omega), nI_clamp (n := i) (by omega)] at e0
              rw [e0] at hQ
              refine mv_aload_n (pc := 42) dX5_sees_42 rfl ?_
              refine mv_getR (pc := 43) (q := (z + 245)) dX5_sees_43 fl5_65 (fun _ _ => rfl) (congrArg Prod.fst hz.o) hz.f10 ?_
              refine mv_aload_n (pc := 46) dX5_sees_46 rfl ?_
              refine mv_getIx (pc := 47) (x := nI sn) dX5_sees_47 fl5_75 rfl (congrArg Prod.fst hz.o) s13 ?_
              refine mv_iload_n (pc := 50) dX5_sees_50 rfl ?_
              refine mv_iast (pc := 51) (k := sn) dX5_sees_51 hz.s0 rfl (by omega) ?_
              refine mv_aload_n (pc := 52) dX5_sees_52 rfl ?_
              refine mv_getR (pc := 53) (q := (z + 246)) dX5_sees_53 fl5_69 (fun _ _ => rfl) (congrArg Prod.fst hz.o) hz.f11 ?_
              refine mv_aload_n (pc := 56) dX5_sees_56 rfl ?_
              refine mv_getIx (pc := 57) (x := nI sn) dX5_sees_57 fl5_75 rfl (congrArg Prod.fst hz.o) (by rw [mv_upN z (by omega)]; exact s13) ?_
              refine mv_iload_n (pc := 60) dX5_sees_60 rfl ?_
              refine mv_iast (pc := 61) (k := sn) dX5_sees_61 hz.s1 rfl (by omega) ?_
              refine mv_aload_n (pc := 62) dX5_sees_62 rfl ?_
              refine mv_getR (pc := 63) (q := (z + 247)) dX5_sees_63 fl5_72 (fun _ _ => rfl) (congrArg Prod.fst hz.o) hz.f12 ?_
              refine mv_aload_n (pc := 66) dX5_sees_66 rfl ?_
              refine mv_getIx (pc := 67) (x := nI sn) dX5_sees_67 fl5_75 rfl (congrArg Prod.fst hz.o) (by rw [mv_upN z (by omega), mv_upN z (by omega)]; exact s13) ?_
              refine mv_iload_n (pc := 70) dX5_sees_70 rfl ?_
              refine mv_iast (pc := 71) (k := sn) dX5_sees_71 hz.s2 rfl (by omega) ?_
              refine mv_aload_n (pc := 72) dX5_sees_72 rfl ?_
              refine mv_dup (pc := 73) dX5_sees_73 rfl ?_
              refine mv_getIx (pc := 74) (x := nI sn) dX5_sees_74 fl5_75 rfl (congrArg Prod.fst hz.o) (by rw [mv_upN z (by omega), mv_upN z (by omega), mv_upN z (by omega)]; exact s13) ?_
              refine mv_iconst (pc := 77) (v := 1) dX5_sees_77 (by decide) ?_
              refine mv_iadd (pc := 78) dX5_sees_78 ?_
              refine mv_putI (pc := 79) dX5_sees_79 fl5_75 rfl rfl (congrArg Prod.fst hz.o) ?_
              refine mv_aload_n (pc := 82) dX5_sees_82 rfl ?_
              refine mv_getIx (pc := 83) (x := nI (sn + 1)) dX5_sees_83 fl5_75 rfl (congrArg Prod.fst hz.o) (by rw [mv_upe, nI_1]) ?_
              refine mv_iret (pc := 86) dX5_sees_86 rfl (by decide) (by decide) (hQ _ _ _ ⟨rfl, hS.see (fun b b1 b2 => ?_) ⟨by rw [mv_upe, nI_1], fun u hu => ?_⟩, fun b hb => ?_, hz, fun _ _ => rfl⟩)
              · rw [mv_upN b b1, mv_upN b (by omega), mv_upN b (by omega), mv_upN b (by omega)]
              · by_cases q : u = sn
                · subst q
                  refine ⟨?_, ?_, ?_⟩ <;> simp [mv_up]
                · obtain ⟨a1, a2, a3⟩ := sN u (by omega)
                  refine ⟨?_, ?_, ?_⟩
                  · simpa [mv_up, q] using a1
                  · simpa [mv_up, q] using a2
                  · simpa [mv_up, q] using a3
              · rw [mv_upN b (by omega), mv_upN b (by omega), mv_upN b (by omega), mv_upN b (by omega)]
            · have hs6 : sn = 6 := by
                have : ¬ sn < 6 := fun q => hb (nI_lt q (by decide))
                omega
              have e0 : ab_sees v k e (w, L, nt, π, x, uh, us, kp, sn, se) = (-3, (w, L, nt, π, x, uh, us, kp, sn, se)) := (if_neg hno).trans (if_pos hs6)
              refine mv_bipush (pc := 39) (v := -3) dX5_sees_39 (by decide) ?_
              refine mv_iret (pc := 41) dX5_sees_41 rfl (by decide) (by decide) (hQ _ _ _ ?_)
              rw [e0]
              exact ⟨rfl, hS, fun _ _ => rfl, hz, fun _ _ => rfl⟩
          · exact no (Or.inr (Or.inr (fun q => hb4 q.2)))
  · rw [if_neg hv]
    refine mv_if_eq (pc := 5) (tgt := 28) dX5_sees_5 (by decide) (fun _ => ?_) (fun hb => absurd hb (by decide))
    exact no (Or.inl hv)
theorem c5_sees {l : Launch} {D : va_G} {b0 n : Nat} {sh : mv_Sh} {I : mv_I} {R : mv_R} {w : Nat → Int32} {L nt uh sn : Nat} {π x : xs_X} {us : Nat → xs_X} {kp : Nat → Option xs_X} {se : Nat → Nat × Nat × Nat} {z : Nat} {v k e : Int32} (hz : ly_ST sh R z) (hS : gc_S I z (w, L, nt, π, x, uh, us, kp, sn, se)) (hW : ab_W (w, L, nt, π, x, uh, us, kp, sn, se)) : mv_C l D b0 m5_sees (mv_rm 7) [.ref z, .int v, .int k, .int e] n sh I R (mv_PI n sh (fun r I' R' => gc_P sh z I R (ab_sees v k e (w, L, nt, π, x, uh, us, kp, sn, se)) r I' R')) := mv_C.of 0 (by decide) (by simp [Value.category]) rfl (e5_sees hz hS hW (fun _ _ _ h => mv_PI.mk h))
set_option maxHeartbeats 4000000 in
set_option maxRecDepth 100000 in
theorem e5_forget {l : Launch} {D : va_G} {b0 n : Nat} {sh : mv_Sh} {I : mv_I} {R : mv_R} {Q : mv_Q} {w : Nat → Int32} {L nt uh sn : Nat} {π x : xs_X} {us : Nat → xs_X} {kp : Nat → Option xs_X} {se : Nat → Nat × Nat × Nat} {z : Nat} (hz : ly_ST sh R z) (hS : gc_S I z (w, L, nt, π, x, uh, us, kp, sn, se)) (hW : ab_W (w, L, nt, π, x, uh, us, kp, sn, se)) (hQ : ∀ r I' R', (gc_P sh z I R (ab_forget (w, L, nt, π, x, uh, us, kp, sn, se)) r I' R') → Q (some (.int r)) n sh I' R') : mv_E l D b0 m5_forget (mv_rm 7) Q 0 [.ref z, .null] [] 0 0 n sh I R := by
  refine mv_aload_n (pc := 0) dX5_forget_0 rfl ?_
  refine mv_getIx (pc := 1) (x := nI sn) dX5_forget_1 fl5_75 rfl (congrArg Prod.fst hz.o) hS.2.2.2.2.2.1 ?_
  refine mv_istore_n (pc := 4) dX5_forget_4 (by decide) ?_
  refine mv_aload_n (pc := 5) dX5_forget_5 rfl ?_
  refine mv_iconst (pc := 6) (v := 0) dX5_forget_6 (by decide) ?_
  refine mv_putI (pc := 7) dX5_forget_7 fl5_75 rfl rfl (congrArg Prod.fst hz.o) ?_
  refine mv_iload_n (pc := 10) dX5_forget_10 rfl ?_
  refine mv_iret (pc := 11) dX5_forget_11 rfl (by decide) (by decide) (hQ _ _ _ ⟨rfl, hS.see (fun b b1 b2 => ?_) ⟨by rw [mv_upe]; rfl, fun u hu => by omega⟩, fun b hb => ?_, hz, fun _ _ => rfl⟩)
  · rw [mv_upN b (by omega)]
  · rw [mv_upN b (by omega)]
theorem c5_forget {l : Launch} {D : va_G} {b0 n : Nat} {sh : mv_Sh} {I : mv_I} {R : mv_R} {w : Nat → Int32} {L nt uh sn : Nat} {π x : xs_X} {us : Nat → xs_X} {kp : Nat → Option xs_X} {se : Nat → Nat × Nat × Nat} {z : Nat} (hz : ly_ST sh R z) (hS : gc_S I z (w, L, nt, π, x, uh, us, kp, sn, se)) (hW : ab_W (w, L, nt, π, x, uh, us, kp, sn, se)) : mv_C l D b0 m5_forget (mv_rm 7) [.ref z] n sh I R (mv_PI n sh (fun r I' R' => gc_P sh z I R (ab_forget (w, L, nt, π, x, uh, us, kp, sn, se)) r I' R')) := mv_C.of 1 (by decide) (by simp [Value.category]) rfl (e5_forget hz hS hW (fun _ _ _ h => mv_PI.mk h))
set_option maxHeartbeats 4000000 in
set_option maxRecDepth 100000 in
theorem e5_count {l : Launch} {D : va_G} {b0 n : Nat} {sh : mv_Sh} {I : mv_I} {R : mv_R} {Q : mv_Q} {w : Nat → Int32} {L nt uh sn : Nat} {π x : xs_X} {us : Nat → xs_X} {kp : Nat → Option xs_X} {se : Nat → Nat × Nat × Nat} {z : Nat} {v : Int32} (hz : ly_ST sh R z) (hS : gc_S I z (w, L, nt, π, x, uh, us, kp, sn, se)) (hW : ab_W (w, L, nt, π, x, uh, us, kp, sn, se)) (hQ : ∀ r I' R', (gc_P sh z I R (ab_count v (w, L, nt, π, x, uh, us, kp, sn, se), (w, L, nt, π, x, uh, us, kp, sn, se)) r I' R') → Q (some (.int r)) n sh I' R') : mv_E l D b0 m5_count (mv_rm 7) Q 0 [.ref z, .int v] [] 0 0 n sh I R := by
  obtain ⟨-, hpw, -, -, -, -, -, -⟩ := id hW
  obtain ⟨⟨s0, -⟩, s1, s2, s3, -, s5⟩ := id hS
  have hn := hpw.2.1
  have K := gc_S.K hz hS hpw
  have ok : ∀ r, r = ab_count v (w, L, nt, π, x, uh, us, kp, sn, se) → Q (some (.int r)) n sh I R := fun r h => hQ r I R ⟨h, hS, fun _ _ => rfl, hz, fun _ _ => rfl⟩
  refine mv_iload_n (pc := 0) dX5_count_0 rfl ?_
  rcases ab_cs v 8 (by decide) with ⟨j, j8, rfl⟩ | ho
  · have hj : j = 0 ∨ j = 1 ∨ j = 2 ∨ j = 3 ∨ j = 4 ∨ j = 5 ∨ j = 6 ∨ j = 7 ∨ j = 8 := by omega
    rcases hj with rfl | rfl | rfl | rfl | rfl | rfl | rfl | rfl | rfl
    · refine mv_tswIn (pc := 1) (off := 51) (tgt := 52) dX5_count_1 (by decide) (by decide) (by decide) (by decide) ?_
      refine mv_aload_n (pc := 52) dX5_count_52 rfl ?_
      refine mv_getR (pc := 53) (q := (z + 3)) dX5_count_53 fl5_19 (fun _ _ => rfl) (congrArg Prod.fst hz.o) hz.f1 ?_
      refine mv_getIx (pc := 56) (x := nI nt) dX5_count_56 fl5_184 rfl (congrArg Prod.fst hz.to.o) s1.1 ?_
      exact mv_iret (pc := 59) dX5_count_59 rfl (by decide) (by decide) (ok _ rfl)
    · refine mv_tswIn (pc := 1) (off := 59) (tgt := 60) dX5_count_1 (by decide) (by decide) (by decide) (by decide) ?_
      refine mv_aload_n (pc := 60) dX5_count_60 rfl ?_
      refine mv_getR (pc := 61) (q := (z + 31)) dX5_count_61 fl5_43 (fun _ _ => rfl) (congrArg Prod.fst hz.o) hz.f5 ?_
      refine mv_getIx (pc := 64) (x := x 8 0) dX5_count_64 fl5_108 rfl (congrArg Prod.fst hz.no.o) s2.1.1 ?_
      exact mv_iret (pc := 67) dX5_count_67 rfl (by decide) (by decide) (ok _ rfl)
    · refine mv_tswIn (pc := 1) (off := 67) (tgt := 68) dX5_count_1 (by decide) (by decide) (by decide) (by decide) ?_
      refine mv_aload_n (pc := 68) dX5_count_68 rfl ?_
      refine mv_getR (pc := 69) (q := (z + 31)) dX5_count_69 fl5_43 (fun _ _ => rfl) (congrArg Prod.fst hz.o) hz.f5 ?_
      refine mv_iconst (pc := 72) (v := 1) dX5_count_72 (by decide) ?_
      refine mv_cVi (pc := 73) dX5_count_73 lk5_187 (congrArg Prod.fst hz.no.o) (c3_countThatAre K s2) rfl rfl (Nat.le_of_ble_eq_true rfl) (by decide) (by decide) (fun r J3 ⟨e1, e2⟩ => ?_)
      subst e1 e2
      exact mv_iret (pc := 76) dX5_count_76 rfl (by decide) (by decide) (ok _ rfl)
    · refine mv_tswIn (pc := 1) (off := 76) (tgt := 77) dX5_count_1 (by decide) (by decide) (by decide) (by decide) ?_
      refine mv_aload_n (pc := 77) dX5_count_77 rfl ?_
      refine mv_getR (pc := 78) (q := (z + 31)) dX5_count_78 fl5_43 (fun _ _ => rfl) (congrArg Prod.fst hz.o) hz.f5 ?_
      refine mv_iconst (pc := 81) (v := 2) dX5_count_81 (by decide) ?_
      refine mv_cVi (pc := 82) dX5_count_82 lk5_187 (congrArg Prod.fst hz.no.o) (c3_countThatAre K s2) rfl rfl (Nat.le_of_ble_eq_true rfl) (by decide) (by decide) (fun r J3 ⟨e1, e2⟩ => ?_)
      subst e1 e2
      exact mv_iret (pc := 85) dX5_count_85 rfl (by decide) (by decide) (ok _ rfl)
    · refine mv_tswIn (pc := 1) (off := 85) (tgt := 86) dX5_count_1 (by decide) (by decide) (by decide) (by decide) ?_
      refine mv_aload_n (pc := 86) dX5_count_86 rfl ?_
      refine mv_getR (pc := 87) (q := (z + 31)) dX5_count_87 fl5_43 (fun _ _ => rfl) (congrArg Prod.fst hz.o) hz.f5 ?_
      refine mv_iconst (pc := 90) (v := 3) dX5_count_90 (by decide) ?_
      refine mv_cVi (pc := 91) dX5_count_91 lk5_187 (congrArg Prod.fst hz.no.o) (c3_countThatAre K s2) rfl rfl (Nat.le_of_ble_eq_true rfl) (by decide) (by decide) (fun r J3 ⟨e1, e2⟩ => ?_)
      subst e1 e2
      exact mv_iret (pc := 94) dX5_count_94 rfl (by decide) (by decide) (ok _ rfl)
    · refine mv_tswIn (pc := 1) (off := 94) (tgt := 95) dX5_count_1 (by decide) (by decide) (by decide) (by decide) ?_
      refine mv_aload_n (pc := 95) dX5_count_95 rfl ?_
      refine mv_getR (pc := 96) (q := (z + 31)) dX5_count_96 fl5_43 (fun _ _ => rfl) (congrArg Prod.fst hz.o) hz.f5 ?_
      refine mv_getIx (pc := 99) (x := x 8 1) dX5_count_99 fl5_151 rfl (congrArg Prod.fst hz.no.o) s2.1.2 ?_
      exact mv_iret (pc := 102) dX5_count_102 rfl (by decide) (by decide) (ok _ rfl)
    · refine mv_tswIn (pc := 1) (off := 102) (tgt := 103) dX5_count_1 (by decide) (by decide) (by decide) (by decide) ?_
      refine mv_aload_n (pc := 103) dX5_count_103 rfl ?_
      refine mv_getIx (pc := 104) (x := nI sn) dX5_count_104 fl5_75 rfl (congrArg Prod.fst hz.o) s5.1 ?_
      exact mv_iret (pc := 107) dX5_count_107 rfl (by decide) (by decide) (ok _ rfl)
    · refine mv_tswIn (pc := 1) (off := 107) (tgt := 108) dX5_count_1 (by decide) (by decide) (by decide) (by decide) ?_
      refine mv_aload_n (pc := 108) dX5_count_108 rfl ?_
      refine mv_getR (pc := 109) (q := (z + 1)) dX5_count_109 fl5_10 (fun _ _ => rfl) (congrArg Prod.fst hz.o) hz.f0 ?_
      refine mv_getIx (pc := 112) (x := nI L) dX5_count_112 fl5_83 rfl (congrArg Prod.fst hz.tx.o) s0 ?_
      exact mv_iret (pc := 115) dX5_count_115 rfl (by decide) (by decide) (ok _ rfl)
    · refine mv_tswIn (pc := 1) (off := 115) (tgt := 116) dX5_count_1 (by decide) (by decide) (by decide) (by decide) ?_
      refine mv_aload_n (pc := 116) dX5_count_116 rfl ?_
      refine mv_getR (pc := 117) (q := (z + 61)) dX5_count_117 fl5_53 (fun _ _ => rfl) (congrArg Prod.fst hz.o) hz.f7 ?_
      refine mv_getIx (pc := 120) (x := nI uh) dX5_count_120 fl5_99 rfl (congrArg Prod.fst hz.hi.o) s3.1 ?_
      exact mv_iret (pc := 123) dX5_count_123 rfl (by decide) (by decide) (ok _ rfl)
  · refine mv_tswOut (pc := 1) (tgt := 124) dX5_count_1 ho (by decide) ?_
    refine mv_iconst (pc := 124) (v := -1) dX5_count_124 (by decide) ?_
    refine mv_iret (pc := 125) dX5_count_125 rfl (by decide) (by decide) (ok _ ?_)
    rw [ab_count_out ho]
theorem c5_count {l : Launch} {D : va_G} {b0 n : Nat} {sh : mv_Sh} {I : mv_I} {R : mv_R} {w : Nat → Int32} {L nt uh sn : Nat} {π x : xs_X} {us : Nat → xs_X} {kp : Nat → Option xs_X} {se : Nat → Nat × Nat × Nat} {z : Nat} {v : Int32} (hz : ly_ST sh R z) (hS : gc_S I z (w, L, nt, π, x, uh, us, kp, sn, se)) (hW : ab_W (w, L, nt, π, x, uh, us, kp, sn, se)) : mv_C l D b0 m5_count (mv_rm 7) [.ref z, .int v] n sh I R (mv_PI n sh (fun r I' R' => gc_P sh z I R (ab_count v (w, L, nt, π, x, uh, us, kp, sn, se), (w, L, nt, π, x, uh, us, kp, sn, se)) r I' R')) := mv_C.of 0 (by decide) (by simp [Value.category]) rfl (e5_count hz hS hW (fun _ _ _ h => mv_PI.mk h))
theorem ab_i2 {v : Int32} : (0 ≤ v ∧ v ≤ 1) ↔ (¬ v < 0 ∧ v < 2) := by
  constructor
  · rintro ⟨a, b⟩
    exact ⟨Int32.not_lt.mpr a, Int32.lt_of_le_of_lt b (by decide)⟩
  · rintro ⟨a, b⟩
    obtain ⟨j, j1, rfl⟩ := nI_of a
    have := (nI_ltI (b := 2) j1 (by decide)).mp b
    exact ⟨nI_pos' j1, nI_le (b := 1) (by omega) (by decide)⟩
set_option maxHeartbeats 4000000 in
set_option maxRecDepth 100000 in
theorem e5_keep {l : Launch} {D : va_G} {b0 n : Nat} {sh : mv_Sh} {I : mv_I} {R : mv_R} {Q : mv_Q} {w : Nat → Int32} {L nt uh sn : Nat} {π x : xs_X} {us : Nat → xs_X} {kp : Nat → Option xs_X} {se : Nat → Nat × Nat × Nat} {z : Nat} {v : Int32} (hz : ly_ST sh R z) (hS : gc_S I z (w, L, nt, π, x, uh, us, kp, sn, se)) (hW : ab_W (w, L, nt, π, x, uh, us, kp, sn, se)) (hQ : ∀ r I' R', (gc_P sh z I R (ab_keep v (w, L, nt, π, x, uh, us, kp, sn, se)) r I' R') → Q (some (.int r)) n sh I' R') : mv_E l D b0 m5_keep (mv_rm 7) Q 0 [.ref z, .int v] [] 0 0 n sh I R := by
  have hn : nt ≤ 8 := hW.2.1.2.1
  have no : ¬ (0 ≤ v ∧ v ≤ 1) → mv_E l D b0 m5_keep (mv_rm 7) Q 9 [.ref z, .int v] [] 0 0 n sh I R := by
    intro q
    have e0 : ab_keep v (w, L, nt, π, x, uh, us, kp, sn, se) = (-1, (w, L, nt, π, x, uh, us, kp, sn, se)) := if_pos q
    refine mv_iconst (pc := 9) (v := -1) dX5_keep_9 (by decide) ?_
    refine mv_iret (pc := 10) dX5_keep_10 rfl (by decide) (by decide) (hQ _ _ _ ?_)
    rw [e0]
    exact ⟨rfl, hS, fun _ _ => rfl, hz, fun _ _ => rfl⟩
  refine mv_iload_n (pc := 0) dX5_keep_0 rfl ?_
  refine mv_if_lt (pc := 1) (tgt := 9) dX5_keep_1 (by decide) (fun hb => ?_) (fun hb => ?_)
  · exact no (fun q => (ab_i2.mp q).1 hb)
  · refine mv_iload_n (pc := 4) dX5_keep_4 rfl ?_
    refine mv_iconst (pc := 5) (v := 2) dX5_keep_5 (by decide) ?_
    refine mv_icmp_lt (pc := 6) (tgt := 11) dX5_keep_6 (by decide) (fun hb2 => ?_) (fun hb2 => ?_)
    · have hv := ab_i2.mpr ⟨hb, hb2⟩
      obtain ⟨i, i1, rfl⟩ := ab_in (N := 1) hv (by decide)
      have e0 : ab_keep (nI i) (w, L, nt, π, x, uh, us, kp, sn, se) = (x 8 0, (w, L, nt, π, x, uh, us, fun j => if j = i then some x else kp j, sn, se)) := by
        refine (if_neg (fun q => q hv)).trans ?_
        rw [nI_clamp (n := i) (by omega)]
      rw [e0] at hQ
      obtain ⟨r1, r2, r3⟩ := hz.imr i (by omega)
      refine mv_aload_n (pc := 11) dX5_keep_11 rfl ?_
      refine mv_getR (pc := 12) (q := (z + 243)) dX5_keep_12 fl5_57 (fun _ _ => rfl) (congrArg Prod.fst hz.o) hz.f8 ?_
      refine mv_iload_n (pc := 15) dX5_keep_15 rfl ?_
      refine mv_aald (pc := 16) (k := i) (q := (z + 248 + 15 * i)) dX5_keep_16 hz.im rfl (by omega) r1 ?_
      refine mv_aload_n (pc := 17) dX5_keep_17 rfl ?_
      refine mv_getR (pc := 18) (q := (z + 31)) dX5_keep_18 fl5_43 (fun _ _ => rfl) (congrArg Prod.fst hz.o) hz.f5 ?_
      refine mv_cVv (pc := 21) dX5_keep_21 lk5_163 (congrArg Prod.fst r2.o) (c3_copyFromS r2 hz.no (by omega) hz.nop r3) rfl rfl (Nat.le_of_ble_eq_true rfl) (by decide) (by decide) (fun J ⟨hc, hf⟩ => ?_)
      refine mv_aload_n (pc := 24) dX5_keep_24 rfl ?_
      refine mv_getR (pc := 25) (q := (z + 244)) dX5_keep_25 fl5_61 (fun _ _ => rfl) (congrArg Prod.fst hz.o) hz.f9 ?_
      refine mv_iload_n (pc := 28) dX5_keep_28 rfl ?_
      refine mv_iconst (pc := 29) (v := 1) dX5_keep_29 (by decide) ?_
      refine mv_zast (pc := 30) (k := i) dX5_keep_30 hz.ke rfl rfl (by omega) ?_
      refine mv_aload_n (pc := 31) dX5_keep_31 rfl ?_
      refine mv_getR (pc := 32) (q := (z + 31)) dX5_keep_32 fl5_43 (fun _ _ => rfl) (congrArg Prod.fst hz.o) hz.f5 ?_
      refine mv_getIx (pc := 35) (x := x 8 0) dX5_keep_35 fl5_108 rfl (congrArg Prod.fst hz.no.o) (by rw [mv_upN (z + 31) (by omega), hf _ (by omega)]; exact hS.2.2.1.1.1) ?_
      refine mv_iret (pc := 38) dX5_keep_38 rfl (by decide) (by decide) (hQ _ _ _ ⟨rfl, ?_, fun b hb => ?_, hz, fun _ _ => rfl⟩)
      · have e : ∀ b, b ≠ z + 244 → (b < z + 248 + 15 * i ∨ z + 248 + 15 * i + 15 ≤ b) → mv_up J (z + 244) i 1 b = I b := fun b b1 b2 => by rw [mv_upN b b1, hf b b2]
        obtain ⟨⟨h0, h1⟩, h2, h3, h4, h5, h6⟩ := hS
        refine ⟨⟨by rw [e _ (by omega) (by omega)]; exact h0, fun j hj => by rw [e _ (by omega) (by omega)]; exact h1 j hj⟩, h2.eq (fun b b1 b2 => e b (by omega) (by omega)), h3.eq (fun b b1 b2 => e b (by omega) (by omega)), h4.eq (e _ (by omega) (by omega)) (fun b b1 b2 => e b (by omega) (by omega)), fun u hu => ?_, h6.eq (by rw [e z (by omega) (by omega)]) (fun b b1 b2 => e b (by omega) (by omega))⟩
        by_cases q : u = i
        · subst q
          show gc_K1 _ _ _ _ (if u = u then some x else kp u)
          rw [if_pos rfl]
          exact ⟨mv_upe, (h3.cp hn hc).eq (fun b b1 b2 => mv_upN b (by omega))⟩
        · show gc_K1 _ _ _ _ (if u = i then some x else kp u)
          rw [if_neg q]
          have e20 : mv_up J (z + 244) i 1 (z + 244) u = I (z + 244) u := by
            simp only [mv_up, q, and_false, if_false]
            rw [hf _ (by omega)]
          have := h5 u hu
          cases hku : kp u with
          | none =>
            rw [hku] at this
            show mv_up J (z + 244) i 1 (z + 244) u = 0
            rw [e20]; exact this
          | some y =>
            rw [hku] at this
            exact ⟨by rw [e20]; exact this.1, this.2.eq (fun b b1 b2 => e b (by omega) (by omega))⟩
      · rw [mv_upN b (by omega), hf b (by omega)]
    · exact no (fun q => hb2 (ab_i2.mp q).2)
theorem c5_keep {l : Launch} {D : va_G} {b0 n : Nat} {sh : mv_Sh} {I : mv_I} {R : mv_R} {w : Nat → Int32} {L nt uh sn : Nat} {π x : xs_X} {us : Nat → xs_X} {kp : Nat → Option xs_X} {se : Nat → Nat × Nat × Nat} {z : Nat} {v : Int32} (hz : ly_ST sh R z) (hS : gc_S I z (w, L, nt, π, x, uh, us, kp, sn, se)) (hW : ab_W (w, L, nt, π, x, uh, us, kp, sn, se)) : mv_C l D b0 m5_keep (mv_rm 7) [.ref z, .int v] n sh I R (mv_PI n sh (fun r I' R' => gc_P sh z I R (ab_keep v (w, L, nt, π, x, uh, us, kp, sn, se)) r I' R')) := mv_C.of 0 (by decide) (by simp [Value.category]) rfl (e5_keep hz hS hW (fun _ _ _ h => mv_PI.mk h))
set_option maxHeartbeats 4000000 in
set_option maxRecDepth 100000 in
theorem e5_back {l : Launch} {D : va_G} {b0 n : Nat} {sh : mv_Sh} {I : mv_I} {R : mv_R} {Q : mv_Q} {w : Nat → Int32} {L nt uh sn : Nat} {π x : xs_X} {us : Nat → xs_X} {kp : Nat → Option xs_X} {se : Nat → Nat × Nat × Nat} {z : Nat} {v : Int32} (hz : ly_ST sh R z) (hS : gc_S I z (w, L, nt, π, x, uh, us, kp, sn, se)) (hW : ab_W (w, L, nt, π, x, uh, us, kp, sn, se)) (hQ : ∀ r I' R', (gc_P sh z I R (ab_back v (w, L, nt, π, x, uh, us, kp, sn, se)) r I' R') → Q (some (.int r)) n sh I' R') : mv_E l D b0 m5_back (mv_rm 7) Q 0 [.ref z, .int v] [] 0 0 n sh I R := by
  have hn : nt ≤ 8 := hW.2.1.2.1
  have no : ¬ (0 ≤ v ∧ v ≤ 1) → mv_E l D b0 m5_back (mv_rm 7) Q 9 [.ref z, .int v] [] 0 0 n sh I R := by
    intro q
    have e0 : ab_back v (w, L, nt, π, x, uh, us, kp, sn, se) = (-1, (w, L, nt, π, x, uh, us, kp, sn, se)) := if_pos q
    refine mv_iconst (pc := 9) (v := -1) dX5_back_9 (by decide) ?_
    refine mv_iret (pc := 10) dX5_back_10 rfl (by decide) (by decide) (hQ _ _ _ ?_)
    rw [e0]
    exact ⟨rfl, hS, fun _ _ => rfl, hz, fun _ _ => rfl⟩
  refine mv_iload_n (pc := 0) dX5_back_0 rfl ?_
  refine mv_if_lt (pc := 1) (tgt := 9) dX5_back_1 (by decide) (fun hb => ?_) (fun hb => ?_)
  · exact no (fun q => (ab_i2.mp q).1 hb)
  · refine mv_iload_n (pc := 4) dX5_back_4 rfl ?_
    refine mv_iconst (pc := 5) (v := 2) dX5_back_5 (by decide) ?_
    refine mv_icmp_lt (pc := 6) (tgt := 11) dX5_back_6 (by decide) (fun hb2 => ?_) (fun hb2 => ?_)
    · have hv := ab_i2.mpr ⟨hb, hb2⟩
      obtain ⟨i, i1, rfl⟩ := ab_in (N := 1) hv (by decide)
      have e0 : ab_back (nI i) (w, L, nt, π, x, uh, us, kp, sn, se) = match kp i with
        | none => (-2, (w, L, nt, π, x, uh, us, kp, sn, se))
        | some y => (y 8 0, (w, L, nt, π, y, 0, us, kp, sn, se)) := by
        refine (if_neg (fun q => q hv)).trans ?_
        rw [nI_clamp (n := i) (by omega)]
        cases kp i <;> rfl
      have hki := hS.2.2.2.2.1 i (by omega)
      obtain ⟨r1, r2, r3⟩ := hz.imr i (by omega)
      cases hk : kp i with
      | none =>
        rw [hk] at e0 hki
        rw [e0] at hQ
        have hki0 : I (z + 244) i = 0 := hki
        refine mv_aload_n (pc := 11) dX5_back_11 rfl ?_
        refine mv_getR (pc := 12) (q := (z + 244)) dX5_back_12 fl5_61 (fun _ _ => rfl) (congrArg Prod.fst hz.o) hz.f9 ?_
        refine mv_iload_n (pc := 15) dX5_back_15 rfl ?_
        refine mv_zaldx (pc := 16) (x := 0) (k := i) dX5_back_16 hz.ke rfl (by omega) hki0 ?_
        refine mv_if_ne (pc := 17) (tgt := 23) dX5_back_17 (by decide) (fun hb => absurd hb (by decide)) (fun _ => ?_)
        refine mv_bipush (pc := 20) (v := -2) dX5_back_20 (by decide) ?_
        exact mv_iret (pc := 22) dX5_back_22 rfl (by decide) (by decide) (hQ _ _ _ ⟨rfl, hS, fun _ _ => rfl, hz, fun _ _ => rfl⟩)
      | some y =>
        rw [hk] at e0 hki
        rw [e0] at hQ
        obtain ⟨k1, k2⟩ := hki
        refine mv_aload_n (pc := 11) dX5_back_11 rfl ?_
        refine mv_getR (pc := 12) (q := (z + 244)) dX5_back_12 fl5_61 (fun _ _ => rfl) (congrArg Prod.fst hz.o) hz.f9 ?_
        refine mv_iload_n (pc := 15) dX5_back_15 rfl ?_
        refine mv_zaldx (pc := 16) (x := 1) (k := i) dX5_back_16 hz.ke rfl (by omega) k1 ?_
        refine mv_if_ne (pc := 17) (tgt := 23) dX5_back_17 (by decide) (fun _ => ?_) (fun hb => absurd hb (by decide))
        refine mv_aload_n (pc := 23) dX5_back_23 rfl ?_
        refine mv_getR (pc := 24) (q := (z + 31)) dX5_back_24 fl5_43 (fun _ _ => rfl) (congrArg Prod.fst hz.o) hz.f5 ?_
        refine mv_aload_n (pc := 27) dX5_back_27 rfl ?_
        refine mv_getR (pc := 28) (q := (z + 243)) dX5_back_28 fl5_57 (fun _ _ => rfl) (congrArg Prod.fst hz.o) hz.f8 ?_
        refine mv_iload_n (pc := 31) dX5_back_31 rfl ?_
        refine mv_aald (pc := 32) (k := i) (q := (z + 248 + 15 * i)) dX5_back_32 hz.im rfl (by omega) r1 ?_
        refine mv_cVv (pc := 33) dX5_back_33 lk5_163 (congrArg Prod.fst hz.no.o) (c3_copyFromS hz.no r2 (by omega) r3 hz.nop) rfl rfl (Nat.le_of_ble_eq_true rfl) (by decide) (by decide) (fun J ⟨hc, hf⟩ => ?_)
        have hr := k2.cp hn hc
        have hS1 := hS.now hf hr
        refine mv_aload_n (pc := 36) dX5_back_36 rfl ?_
        refine mv_getR (pc := 37) (q := (z + 61)) dX5_back_37 fl5_53 (fun _ _ => rfl) (congrArg Prod.fst hz.o) hz.f7 ?_
        refine mv_iconst (pc := 40) (v := 0) dX5_back_40 (by decide) ?_
        refine mv_putI (pc := 41) dX5_back_41 fl5_99 rfl rfl (congrArg Prod.fst hz.hi.o) ?_
        refine mv_aload_n (pc := 44) dX5_back_44 rfl ?_
        refine mv_getR (pc := 45) (q := (z + 31)) dX5_back_45 fl5_43 (fun _ _ => rfl) (congrArg Prod.fst hz.o) hz.f5 ?_
        refine mv_getIx (pc := 48) (x := y 8 0) dX5_back_48 fl5_108 rfl (congrArg Prod.fst hz.no.o) (by rw [mv_upN (z + 31) (by omega)]; exact hr.1.1) ?_
        refine mv_iret (pc := 51) dX5_back_51 rfl (by decide) (by decide) (hQ _ _ _ ⟨rfl, ?_, fun b hb => ?_, hz, fun _ _ => rfl⟩)
        · obtain ⟨-, -, -, ⟨-, nw, nw1, nw2, -⟩, -, -⟩ := id hS1
          exact hS1.his (fun b hb => mv_upN b (by omega)) ⟨by rw [mv_upe]; rfl, nw, nw1, by rw [← nw2]; simp [mv_up], fun i hi => by omega⟩
        · rw [mv_upN b (by omega), hf b (by omega)]
    · exact no (fun q => hb2 (ab_i2.mp q).2)
theorem c5_back {l : Launch} {D : va_G} {b0 n : Nat} {sh : mv_Sh} {I : mv_I} {R : mv_R} {w : Nat → Int32} {L nt uh sn : Nat} {π x : xs_X} {us : Nat → xs_X} {kp : Nat → Option xs_X} {se : Nat → Nat × Nat × Nat} {z : Nat} {v : Int32} (hz : ly_ST sh R z) (hS : gc_S I z (w, L, nt, π, x, uh, us, kp, sn, se)) (hW : ab_W (w, L, nt, π, x, uh, us, kp, sn, se)) : mv_C l D b0 m5_back (mv_rm 7) [.ref z, .int v] n sh I R (mv_PI n sh (fun r I' R' => gc_P sh z I R (ab_back v (w, L, nt, π, x, uh, us, kp, sn, se)) r I' R')) := mv_C.of 0 (by decide) (by simp [Value.category]) rfl (e5_back hz hS hW (fun _ _ _ h => mv_PI.mk h))

