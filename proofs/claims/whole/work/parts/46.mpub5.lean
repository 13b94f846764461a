set_option maxHeartbeats 4000000 in
set_option maxRecDepth 100000 in
theorem e6_sees {l : Launch} {D : va_G} {b0 n : Nat} {sh : mv_Sh} {I : mv_I} {R : mv_R} {Q : mv_Q} {w : Nat → Int32} {L nt uh sn : Nat} {π x : xs_X} {us : Nat → xs_X} {kp : Nat → Option xs_X} {se : Nat → Nat × Nat × Nat} {m : Nat} {v k e : Int32} (hm : ly_Mod sh R m) (hS : gm_S I m (w, L, nt, π, x, uh, us, kp, sn, se)) (hW : ab_W (w, L, nt, π, x, uh, us, kp, sn, se)) (hQ : ∀ r I', (r = (ab_sees v k e (w, L, nt, π, x, uh, us, kp, sn, se)).1 ∧ gm_S I' m (ab_sees v k e (w, L, nt, π, x, uh, us, kp, sn, se)).2 ∧ gm_F m I I') → Q (some (.int r)) n sh I' R) : mv_E l D b0 m6_sees (mv_rm 7) Q 0 [.ref m, .int v, .int k, .int e] [] 0 0 n sh I R := by
  obtain ⟨-, hpw, -, -, -, -, hsn, -⟩ := id hW
  have hn := hpw.2.1
  obtain ⟨s28, sN⟩ := hS.2.2.2.2.2
  have no : (¬ ab_is nt v ∨ ¬ (1 ≤ k ∧ k ≤ 60) ∨ ¬ (0 ≤ e ∧ e ≤ 1)) → mv_E l D b0 m6_sees (mv_rm 7) Q 27 [.ref m, .int v, .int k, .int e] [] 0 0 n sh I R := by
    intro q
    have e0 : ab_sees v k e (w, L, nt, π, x, uh, us, kp, sn, se) = (-1, (w, L, nt, π, x, uh, us, kp, sn, se)) := if_pos q
    refine mv_iconst (pc := 27) (v := -1) dX6_sees_27 (by decide) ?_
    refine mv_iret (pc := 28) dX6_sees_28 rfl (by decide) (by decide) (hQ _ _ ?_)
    rw [e0]
    exact ⟨rfl, hS, fun _ _ => rfl⟩
  refine mv_aload_n (pc := 0) dX6_sees_0 rfl ?_
  refine mv_iload_n (pc := 1) dX6_sees_1 rfl ?_
  refine mv_cVi (pc := 2) dX6_sees_2 lk6_214 (congrArg Prod.fst hm.o) (c6_isTask hm hS.2.1.1 hpw.1 hn) rfl rfl (Nat.le_of_ble_eq_true rfl) (by decide) (by decide) (fun r J ⟨e1, e2⟩ => ?_)
  subst e1 e2
  by_cases hv : ab_is nt v
  · rw [if_pos hv]
    refine mv_if_eq (pc := 5) (tgt := 27) dX6_sees_5 (by decide) (fun hb => absurd hb (by decide)) (fun _ => ?_)
    refine mv_iload_n (pc := 8) dX6_sees_8 rfl ?_
    refine mv_iconst (pc := 9) (v := 1) dX6_sees_9 (by decide) ?_
    refine mv_bipush (pc := 10) (v := 60) dX6_sees_10 (by decide) ?_
    refine mv_cSi (pc := 12) dX6_sees_12 lk6_80 (c6_in trivial) rfl rfl (Nat.le_of_ble_eq_true rfl) (by decide) (by decide) (fun r J2 ⟨e1, e2⟩ => ?_)
    subst e1 e2
    by_cases hk : 1 ≤ k ∧ k ≤ 60
    · rw [if_pos hk]
      refine mv_if_eq (pc := 15) (tgt := 27) dX6_sees_15 (by decide) (fun hb => absurd hb (by decide)) (fun _ => ?_)
      refine mv_iload_n (pc := 18) dX6_sees_18 rfl ?_
      refine mv_iconst (pc := 19) (v := 0) dX6_sees_19 (by decide) ?_
      refine mv_iconst (pc := 20) (v := 1) dX6_sees_20 (by decide) ?_
      refine mv_cSi (pc := 21) dX6_sees_21 lk6_80 (c6_in trivial) rfl rfl (Nat.le_of_ble_eq_true rfl) (by decide) (by decide) (fun r J3 ⟨e1, e2⟩ => ?_)
      subst e1 e2
      by_cases he : 0 ≤ e ∧ e ≤ 1
      · rw [if_pos he]
        refine mv_if_ne (pc := 24) (tgt := 29) dX6_sees_24 (by decide) (fun _ => ?_) (fun hb => absurd hb (by decide))
        have hno : ¬ (¬ ab_is nt v ∨ ¬ (1 ≤ k ∧ k ≤ 60) ∨ ¬ (0 ≤ e ∧ e ≤ 1)) := fun q => q.elim (fun a => a hv) (fun q => q.elim (fun a => a hk) (fun a => a he))
        refine mv_aload_n (pc := 29) dX6_sees_29 rfl ?_
        refine mv_getIx (pc := 30) (x := nI sn) dX6_sees_30 fl6_155 rfl (congrArg Prod.fst hm.o) s28 ?_
        refine mv_bipush (pc := 33) (v := 6) dX6_sees_33 (by decide) ?_
        refine mv_icmp_ne (pc := 35) (tgt := 41) dX6_sees_35 (by decide) (fun hb => ?_) (fun hb => ?_)
        · have hs6 : sn ≠ 6 := fun q => hb (by rw [q]; rfl)
          have e0 : ab_sees v k e (w, L, nt, π, x, uh, us, kp, sn, se) = (nI (sn + 1), (w, L, nt, π, x, uh, us, kp, sn + 1, fun i => if i = sn then (v.toNatClampNeg, k.toNatClampNeg, e.toNatClampNeg) else se i)) := (if_neg hno).trans (if_neg hs6)
          obtain ⟨t, ht, rfl⟩ := ab_is_n hv hn
          obtain ⟨j, j1, rfl⟩ := ab_in (N := 60) (v := k) ⟨Int32.le_trans (by decide) hk.1, hk.2⟩ (by decide)
          obtain ⟨i, i1, rfl⟩ := ab_in (N := 1) he (by decide)
          rw [nI_clamp (n := t) (by omega), nI_clamp (n := j) (by omega), nI_clamp (n := i) (by omega)] at e0
          rw [e0] at hQ
          refine mv_aload_n (pc := 41) dX6_sees_41 rfl ?_
          refine mv_getR (pc := 42) (q := m + 17) dX6_sees_42 fl6_58 (fun _ _ => rfl) (congrArg Prod.fst hm.o) hm.f29 ?_
          refine mv_aload_n (pc := 45) dX6_sees_45 rfl ?_
          refine mv_getIx (pc := 46) (x := nI sn) dX6_sees_46 fl6_155 rfl (congrArg Prod.fst hm.o) s28 ?_
          refine mv_iload_n (pc := 49) dX6_sees_49 rfl ?_
          refine mv_iast (pc := 50) (k := sn) dX6_sees_50 hm.g29 rfl (by omega) ?_
          refine mv_aload_n (pc := 51) dX6_sees_51 rfl ?_
          refine mv_getR (pc := 52) (q := m + 18) dX6_sees_52 fl6_61 (fun _ _ => rfl) (congrArg Prod.fst hm.o) hm.f30 ?_
          refine mv_aload_n (pc := 55) dX6_sees_55 rfl ?_
          refine mv_getIx (pc := 56) (x := nI sn) dX6_sees_56 fl6_155 rfl (congrArg Prod.fst hm.o) (by rw [mv_upN m (by omega)]; exact s28) ?_
          refine mv_iload_n (pc := 59) dX6_sees_59 rfl ?_
          refine mv_iast (pc := 60) (k := sn) dX6_sees_60 hm.g30 rfl (by omega) ?_
          refine mv_aload_n (pc := 61) dX6_sees_61 rfl ?_
          refine mv_getR (pc := 62) (q := m + 19) dX6_sees_62 fl6_64 (fun _ _ => rfl) (congrArg Prod.fst hm.o) hm.f31 ?_
          refine mv_aload_n (pc := 65) dX6_sees_65 rfl ?_
          refine mv_getIx (pc := 66) (x := nI sn) dX6_sees_66 fl6_155 rfl (congrArg Prod.fst hm.o) (by rw [mv_upN m (by omega), mv_upN m (by omega)]; exact s28) ?_
          refine mv_iload_n (pc := 69) dX6_sees_69 rfl ?_
          refine mv_iast (pc := 70) (k := sn) dX6_sees_70 hm.g31 rfl (by omega) ?_
          refine mv_aload_n (pc := 71) dX6_sees_71 rfl ?_
          refine mv_dup (pc := 72) dX6_sees_72 rfl ?_
          refine mv_getIx (pc := 73) (x := nI sn) dX6_sees_73 fl6_155 rfl (congrArg Prod.fst hm.o) (by rw [mv_upN m (by omega), mv_upN m (by omega), mv_upN m (by omega)]; exact s28) ?_
          refine mv_iconst (pc := 76) (v := 1) dX6_sees_76 (by decide) ?_
          refine mv_iadd (pc := 77) dX6_sees_77 ?_
          refine mv_putI (pc := 78) dX6_sees_78 fl6_155 rfl rfl (congrArg Prod.fst hm.o) ?_
          refine mv_aload_n (pc := 81) dX6_sees_81 rfl ?_
          refine mv_getIx (pc := 82) (x := nI (sn + 1)) dX6_sees_82 fl6_155 rfl (congrArg Prod.fst hm.o) (by rw [mv_upe, nI_1]) ?_
          refine mv_iret (pc := 85) dX6_sees_85 rfl (by decide) (by decide) (hQ _ _ ⟨rfl, hS.see (fun k hk => ?_) (fun b b1 b2 => ?_) ⟨by rw [mv_upe, nI_1], fun u hu => ?_⟩, fun b hb => ?_⟩)
          · rw [show ∀ (Z : mv_I) (a : Int32), mv_up Z m 28 a m k = Z m k from fun Z a => by simp [mv_up, hk], mv_upN m (by omega), mv_upN m (by omega), mv_upN m (by omega)]
          · rw [mv_upN b b1, mv_upN b (by omega), mv_upN b (by omega), mv_upN b (by omega)]
          · by_cases q : u = sn
            · subst q
              refine ⟨?_, ?_, ?_⟩ <;> simp [mv_up]
            · obtain ⟨a1, a2, a3⟩ := sN u (by omega)
              refine ⟨?_, ?_, ?_⟩
              · simpa [mv_up, q] using a1
              · simpa [mv_up, q] using a2
              · simpa [mv_up, q] using a3
          · rw [mv_upN b (by omega), mv_upN b (by omega), mv_upN b (by omega), mv_upN b (by omega)]
        · have hs6 : sn = 6 := (nI_eq (b := 6) (by omega) (by decide)).mp hb
          have e0 : ab_sees v k e (w, L, nt, π, x, uh, us, kp, sn, se) = (-3, (w, L, nt, π, x, uh, us, kp, sn, se)) := (if_neg hno).trans (if_pos hs6)
          refine mv_bipush (pc := 38) (v := -3) dX6_sees_38 (by decide) ?_
          refine mv_iret (pc := 40) dX6_sees_40 rfl (by decide) (by decide) (hQ _ _ ?_)
          rw [e0]
          exact ⟨rfl, hS, fun _ _ => rfl⟩
      · rw [if_neg he]
        refine mv_if_ne (pc := 24) (tgt := 29) dX6_sees_24 (by decide) (fun hb => absurd hb (by decide)) (fun _ => ?_)
        exact no (Or.inr (Or.inr he))
    · rw [if_neg hk]
      refine mv_if_eq (pc := 15) (tgt := 27) dX6_sees_15 (by decide) (fun _ => ?_) (fun hb => absurd hb (by decide))
      exact no (Or.inr (Or.inl hk))
  · rw [if_neg hv]
    refine mv_if_eq (pc := 5) (tgt := 27) dX6_sees_5 (by decide) (fun _ => ?_) (fun hb => absurd hb (by decide))
    exact no (Or.inl hv)
theorem c6_sees {l : Launch} {D : va_G} {b0 n : Nat} {sh : mv_Sh} {I : mv_I} {R : mv_R} {w : Nat → Int32} {L nt uh sn : Nat} {π x : xs_X} {us : Nat → xs_X} {kp : Nat → Option xs_X} {se : Nat → Nat × Nat × Nat} {m : Nat} {v k e : Int32} (hm : ly_Mod sh R m) (hS : gm_S I m (w, L, nt, π, x, uh, us, kp, sn, se)) (hW : ab_W (w, L, nt, π, x, uh, us, kp, sn, se)) : mv_C l D b0 m6_sees (mv_rm 7) [.ref m, .int v, .int k, .int e] n sh I R (mv_Pi n sh R (fun r I' => r = (ab_sees v k e (w, L, nt, π, x, uh, us, kp, sn, se)).1 ∧ gm_S I' m (ab_sees v k e (w, L, nt, π, x, uh, us, kp, sn, se)).2 ∧ gm_F m I I')) := mv_C.of 0 (by decide) (by simp [Value.category]) rfl (e6_sees hm hS hW (fun _ _ h => mv_Pi.mk h))
set_option maxHeartbeats 4000000 in
set_option maxRecDepth 100000 in
theorem e6_forget {l : Launch} {D : va_G} {b0 n : Nat} {sh : mv_Sh} {I : mv_I} {R : mv_R} {Q : mv_Q} {w : Nat → Int32} {L nt uh sn : Nat} {π x : xs_X} {us : Nat → xs_X} {kp : Nat → Option xs_X} {se : Nat → Nat × Nat × Nat} {m : Nat} (hm : ly_Mod sh R m) (hS : gm_S I m (w, L, nt, π, x, uh, us, kp, sn, se)) (hW : ab_W (w, L, nt, π, x, uh, us, kp, sn, se)) (hQ : ∀ r I', (r = (ab_forget (w, L, nt, π, x, uh, us, kp, sn, se)).1 ∧ gm_S I' m (ab_forget (w, L, nt, π, x, uh, us, kp, sn, se)).2 ∧ gm_F m I I') → Q (some (.int r)) n sh I' R) : mv_E l D b0 m6_forget (mv_rm 7) Q 0 [.ref m, .null] [] 0 0 n sh I R := by
  refine mv_aload_n (pc := 0) dX6_forget_0 rfl ?_
  refine mv_getIx (pc := 1) (x := nI sn) dX6_forget_1 fl6_155 rfl (congrArg Prod.fst hm.o) hS.2.2.2.2.2.1 ?_
  refine mv_istore_n (pc := 4) dX6_forget_4 (by decide) ?_
  refine mv_aload_n (pc := 5) dX6_forget_5 rfl ?_
  refine mv_iconst (pc := 6) (v := 0) dX6_forget_6 (by decide) ?_
  refine mv_putI (pc := 7) dX6_forget_7 fl6_155 rfl rfl (congrArg Prod.fst hm.o) ?_
  refine mv_iload_n (pc := 10) dX6_forget_10 rfl ?_
  refine mv_iret (pc := 11) dX6_forget_11 rfl (by decide) (by decide) (hQ _ _ ⟨rfl, hS.see (fun k hk => ?_) (fun b b1 b2 => ?_) ⟨by rw [mv_upe]; rfl, fun u hu => by omega⟩, fun b hb => ?_⟩)
  · simp [mv_up, hk]
  · rw [mv_upN b (by omega)]
  · rw [mv_upN b (by omega)]
theorem c6_forget {l : Launch} {D : va_G} {b0 n : Nat} {sh : mv_Sh} {I : mv_I} {R : mv_R} {w : Nat → Int32} {L nt uh sn : Nat} {π x : xs_X} {us : Nat → xs_X} {kp : Nat → Option xs_X} {se : Nat → Nat × Nat × Nat} {m : Nat} (hm : ly_Mod sh R m) (hS : gm_S I m (w, L, nt, π, x, uh, us, kp, sn, se)) (hW : ab_W (w, L, nt, π, x, uh, us, kp, sn, se)) : mv_C l D b0 m6_forget (mv_rm 7) [.ref m] n sh I R (mv_Pi n sh R (fun r I' => r = (ab_forget (w, L, nt, π, x, uh, us, kp, sn, se)).1 ∧ gm_S I' m (ab_forget (w, L, nt, π, x, uh, us, kp, sn, se)).2 ∧ gm_F m I I')) := mv_C.of 1 (by decide) (by simp [Value.category]) rfl (e6_forget hm hS hW (fun _ _ h => mv_Pi.mk h))
set_option maxHeartbeats 4000000 in
set_option maxRecDepth 100000 in
theorem e6_fits {l : Launch} {D : va_G} {b0 n : Nat} {sh : mv_Sh} {I : mv_I} {R : mv_R} {Q : mv_Q} {w : Nat → Int32} {L nt uh sn : Nat} {π x : xs_X} {us : Nat → xs_X} {kp : Nat → Option xs_X} {se : Nat → Nat × Nat × Nat} {m : Nat} {v : Int32} (hm : ly_Mod sh R m) (hS : gm_S I m (w, L, nt, π, x, uh, us, kp, sn, se)) (hW : ab_W (w, L, nt, π, x, uh, us, kp, sn, se)) (hQ : ∀ r I', (r = ab_fits v (w, L, nt, π, x, uh, us, kp, sn, se) ∧ gm_S I' m (w, L, nt, π, x, uh, us, kp, sn, se) ∧ gm_F m I I') → Q (some (.int r)) n sh I' R) : mv_E l D b0 m6_fits (mv_rm 7) Q 0 [.ref m, .int v, .null, .null, .null, .null, .null, .null] [] 0 0 n sh I R := by
  obtain ⟨-, hpw, -, -, -, -, hsn, hse⟩ := id hW
  have hn := hpw.2.1
  obtain ⟨s28, sN⟩ := hS.2.2.2.2.2
  refine mv_aload_n (pc := 0) dX6_fits_0 rfl ?_
  refine mv_iload_n (pc := 1) dX6_fits_1 rfl ?_
  refine mv_cVi (pc := 2) dX6_fits_2 lk6_214 (congrArg Prod.fst hm.o) (c6_isTask hm hS.2.1.1 hpw.1 hn) rfl rfl (Nat.le_of_ble_eq_true rfl) (by decide) (by decide) (fun r J ⟨e1, e2⟩ => ?_)
  subst e1 e2
  by_cases hv : ab_is nt v
  · rw [if_pos hv]
    obtain ⟨t, ht, rfl⟩ := ab_is_n hv hn
    have ht8 : t < 8 := by omega
    have e0 : ab_fits (nI t) (w, L, nt, π, x, uh, us, kp, sn, se) = ab_ft nt π t sn se 30 1 0 := by
      refine (if_neg (fun q => q hv)).trans ?_
      rw [nI_clamp (by omega)]
    rw [e0] at hQ
    refine mv_if_ne (pc := 5) (tgt := 10) dX6_fits_5 (by decide) (fun _ => ?_) (fun hb => absurd hb (by decide))
    have loop : ∀ (f d : Nat) (b : Int32) (K : mv_I) (z1 z2 z3 : Value), d + f = 31 → 1 ≤ d → (∀ k, k ≠ t → K (m + 11) k = J (m + 11) k) → (∀ b, b ≠ m + 11 → b ≠ m + 15 → K b = J b) → ab_ft nt π t sn se f d b = ab_ft nt π t sn se 30 1 0 → mv_E l D b0 m6_fits (mv_rm 7) Q 22 [.ref m, .int (nI t), .int (J (m + 11) t), .int b, .int (nI d), z1, z2, z3] [] 0 0 n sh K R := by
      intro f
      induction f with
      | zero =>
        intro d b K z1 z2 z3 hd hd1 h1 h2 he
        have he' : b = ab_ft nt π t sn se 30 1 0 := he
        refine mv_iload (pc := 22) dX6_fits_22 rfl ?_
        refine mv_bipush (pc := 24) (v := 30) dX6_fits_24 (by decide) ?_
        refine mv_icmp_gt (pc := 26) (tgt := 158) dX6_fits_26 (by decide) (fun hb => ?_) (fun hb => ?_)
        · refine mv_aload_n (pc := 158) dX6_fits_158 rfl ?_
          refine mv_getR (pc := 159) (q := m + 11) dX6_fits_159 fl6_40 (fun _ _ => rfl) (congrArg Prod.fst hm.o) hm.f20 ?_
          refine mv_iload_n (pc := 162) dX6_fits_162 rfl ?_
          refine mv_iload_n (pc := 163) dX6_fits_163 rfl ?_
          refine mv_iast (pc := 164) (k := t) dX6_fits_164 hm.g20 rfl (by omega) ?_
          refine mv_iload_n (pc := 165) dX6_fits_165 rfl ?_
          refine mv_iret (pc := 166) dX6_fits_166 rfl (by decide) (by decide) (hQ _ _ ⟨he', ?_, fun b hb => by rw [mv_upN b (by omega)]; exact h2 b (by omega) (by omega)⟩)
          refine hS.tried (fun b hb => ?_)
          by_cases q : b = m + 11
          · subst q
            funext k
            by_cases qk : k = t
            · subst qk; rw [mv_upe]
            · simp only [mv_up, qk, and_false, if_false]; exact h1 k qk
          · rw [mv_upN b q]; exact h2 b q hb
        · exact absurd (nI_lt (a := 30) (b := d) (by omega) (by omega)) hb
      | succ f ih =>
        intro d b K z1 z2 z3 hd hd1 h1 h2 he
        refine mv_iload (pc := 22) dX6_fits_22 rfl ?_
        refine mv_bipush (pc := 24) (v := 30) dX6_fits_24 (by decide) ?_
        refine mv_icmp_gt (pc := 26) (tgt := 158) dX6_fits_26 (by decide) (fun hb => ?_) (fun hb => ?_)
        · exact absurd hb (nI_nlt (a := 30) (b := d) (by omega) (by decide))
        · refine mv_aload_n (pc := 29) dX6_fits_29 rfl ?_
          refine mv_getR (pc := 30) (q := m + 11) dX6_fits_30 fl6_40 (fun _ _ => rfl) (congrArg Prod.fst hm.o) hm.f20 ?_
          refine mv_iload_n (pc := 33) dX6_fits_33 rfl ?_
          refine mv_iload (pc := 34) dX6_fits_34 rfl ?_
          refine mv_iast (pc := 36) (k := t) dX6_fits_36 hm.g20 rfl (by omega) ?_
          refine mv_aload_n (pc := 37) dX6_fits_37 rfl ?_
          refine mv_aload_n (pc := 38) dX6_fits_38 rfl ?_
          refine mv_getR (pc := 39) (q := m + 15) dX6_fits_39 fl6_52 (fun _ _ => rfl) (congrArg Prod.fst hm.o) hm.f24 ?_
          refine mv_cVv (pc := 42) dX6_fits_42 lk6_148 (congrArg Prod.fst hm.o) (c6_starts hm hm.g24 (by omega)) rfl rfl (Nat.le_of_ble_eq_true rfl) (by decide) (by decide) (fun J2 ⟨hr2, hf2⟩ => ?_)
          have hpd := hpw.dl (t := t) (d := d) ht hd1 (by omega)
          have hW2 := xs_W.st hpd
          have e02 : mv_up K (m + 11) t (nI d) (m + 11) 0 = mv_up π t 2 (nI d) 0 2 := by
            by_cases q : (0 : Nat) = t
            · subst q; rw [mv_upe, mv_upe]
            · rw [mv_upN 0 q]
              simp only [mv_up, q, and_false, if_false]
              rw [h1 0 q]
              exact (hS.2.1.2 0 (by omega)).2.2.1
          rw [e02] at hr2
          have hpM : pl_M J2 m nt (mv_up π t 2 (nI d)) := by
            refine hS.2.1.dl ?_ (fun b b1 b2 b3 => ?_) ?_ (fun k hk => ?_)
            · rw [hf2 m (by omega), mv_upN m (by omega)]; exact h2 m (by omega) (by omega)
            · rw [hf2 b (by omega), mv_upN b b3]; exact h2 b b3 (by omega)
            · rw [hf2 (m + 11) (by omega), mv_upe]
            · rw [hf2 (m + 11) (by omega)]
              simp only [mv_up, hk, and_false, if_false]; exact h1 k hk
          refine mv_aload_n (pc := 45) dX6_fits_45 rfl ?_
          refine mv_bipush (pc := 46) (v := 60) dX6_fits_46 (by decide) ?_
          refine mv_cVv (pc := 48) dX6_fits_48 lk6_225 (congrArg Prod.fst hm.o) (c6_goesOn (k := 60) ⟨hm, hm.g24, Or.inr rfl, hpM, hpd⟩ hr2 hW2.1 hW2.2 (by omega)) rfl rfl (Nat.le_of_ble_eq_true rfl) (by decide) (by decide) (fun J3 ⟨hr3, hf3⟩ => ?_)
          have esu : ab_su nt π t d 60 = xs_go nt (mv_up π t 2 (nI d)) 0 60 (xs_st (mv_up π t 2 (nI d) 0 2)) := rfl
          rw [← esu] at hr3
          have g1 : ∀ k, k ≠ t → J3 (m + 11) k = J (m + 11) k := fun k hk => by
            rw [hf3 (m + 11) (by omega), hf2 (m + 11) (by omega)]
            simp only [mv_up, hk, and_false, if_false]; exact h1 k hk
          have g2 : ∀ b, b ≠ m + 11 → b ≠ m + 15 → J3 b = J b := fun b b1 b2 => by
            rw [hf3 b b2, hf2 b b2, mv_upN b b1]; exact h2 b b1 b2
          generalize hy : ab_su nt π t d 60 = y at hr3
          have eft : ab_ft nt π t sn se (f + 1) d b = ab_ft nt π t sn se f (d + 1) (if ab_ag y se sn = true then b ||| (1 <<< (nI d &&& 31)) else b) := by rw [← hy]; rfl
          have nxt : ∀ (a : Int32) (z2 z3 : Value) (u : Int32), a = (if ab_ag y se sn = true then 1 <<< (nI d &&& 31) else 0) → mv_E l D b0 m6_fits (mv_rm 7) Q 150 [.ref m, .int (nI t), .int (J (m + 11) t), .int b, .int (nI d), .int u, z2, z3] [.int a, .int b] 0 0 n sh J3 R := by
            intro a z2 z3 u ha
            refine mv_ior (pc := 150) dX6_fits_150 ?_
            refine mv_istore_n (pc := 151) dX6_fits_151 (by decide) ?_
            refine mv_iinc (pc := 152) (v := nI (d + 1)) dX6_fits_152 (by decide) rfl (nI_1 d) ?_
            refine mv_goto (pc := 155) (tgt := 22) dX6_fits_155 (by decide) ?_
            refine ih (d + 1) _ J3 _ _ _ (by omega) (by omega) g1 g2 ?_
            rw [← he, eft, ha]
            by_cases q : ab_ag y se sn = true
            · rw [if_pos q, if_pos q]
            · rw [if_neg q, if_neg q, ab_or0]
          have inner : ∀ (g c : Nat) (z3 : Value), c + g = sn → mv_E l D b0 m6_fits (mv_rm 7) Q 57 [.ref m, .int (nI t), .int (J (m + 11) t), .int b, .int (nI d), .int (if ab_ag y se c = true then 1 else 0), .int (nI c), z3] [] 0 0 n sh J3 R := by
            intro g
            induction g with
            | zero =>
              intro c z3 hc
              have : c = sn := by omega
              subst this
              refine mv_iload (pc := 57) dX6_fits_57 rfl ?_
              refine mv_aload_n (pc := 59) dX6_fits_59 rfl ?_
              refine mv_getIx (pc := 60) (x := nI c) dX6_fits_60 fl6_155 rfl (congrArg Prod.fst hm.o) (by rw [g2 m (by omega) (by omega)]; exact s28) ?_
              refine mv_icmp_ge (pc := 63) (tgt := 136) dX6_fits_63 (by decide) (fun hb2 => ?_) (fun hb2 => ?_)
              · refine mv_iload_n (pc := 136) dX6_fits_136 rfl ?_
                refine mv_iload (pc := 137) dX6_fits_137 rfl ?_
                by_cases q : ab_ag y se c = true
                · rw [if_pos q]
                  refine mv_if_eq (pc := 139) (tgt := 149) dX6_fits_139 (by decide) (fun hb => absurd hb (by decide)) (fun _ => ?_)
                  refine mv_iconst (pc := 142) (v := 1) dX6_fits_142 (by decide) ?_
                  refine mv_iload (pc := 143) dX6_fits_143 rfl ?_
                  refine mv_ishl (pc := 145) dX6_fits_145 ?_
                  refine mv_goto (pc := 146) (tgt := 150) dX6_fits_146 (by decide) ?_
                  exact nxt _ _ _ _ (by rw [if_pos q])
                · rw [if_neg q]
                  refine mv_if_eq (pc := 139) (tgt := 149) dX6_fits_139 (by decide) (fun _ => ?_) (fun hb => absurd hb (by decide))
                  refine mv_iconst (pc := 149) (v := 0) dX6_fits_149 (by decide) ?_
                  exact nxt _ _ _ _ (by rw [if_neg q])
              · exact absurd (Int32.le_refl _) hb2
            | succ g ihg =>
              intro c z3 hc
              have hcs : c < sn := by omega
              obtain ⟨a1, a2, a3⟩ := sN c hcs
              obtain ⟨b1, b2, b3, b4⟩ := hse c hcs
              have eag : ab_ag y se (c + 1) = (ab_ag y se c && ab_ok y (se c)) := rfl
              have eok : ab_ok y (se c) = true ↔ (if ¬ y (se c).1 8 = -9 ∧ y (se c).1 8 ≤ nI (se c).2.1 then 1 else 0) = nI (se c).2.2 := by unfold ab_ok; exact decide_eq_true_iff
              refine mv_iload (pc := 57) dX6_fits_57 rfl ?_
              refine mv_aload_n (pc := 59) dX6_fits_59 rfl ?_
              refine mv_getIx (pc := 60) (x := nI sn) dX6_fits_60 fl6_155 rfl (congrArg Prod.fst hm.o) (by rw [g2 m (by omega) (by omega)]; exact s28) ?_
              refine mv_icmp_ge (pc := 63) (tgt := 136) dX6_fits_63 (by decide) (fun hb2 => ?_) (fun hb2 => ?_)
              · exact absurd hb2 (nI_ge (by omega) (by omega))
              · refine mv_aload_n (pc := 66) dX6_fits_66 rfl ?_
                refine mv_getR (pc := 67) (q := m + 15) dX6_fits_67 fl6_52 (fun _ _ => rfl) (congrArg Prod.fst hm.o) hm.f24 ?_
                refine mv_aload_n (pc := 70) dX6_fits_70 rfl ?_
                refine mv_getR (pc := 71) (q := m + 17) dX6_fits_71 fl6_58 (fun _ _ => rfl) (congrArg Prod.fst hm.o) hm.f29 ?_
                refine mv_iload (pc := 74) dX6_fits_74 rfl ?_
                refine mv_ialdx (pc := 76) (x := nI (se c).1) (k := c) dX6_fits_76 hm.g29 rfl (by omega) (by rw [g2 (m + 17) (by omega) (by omega)]; exact a1) ?_
                refine mv_bipush (pc := 77) (v := 8) dX6_fits_77 (by decide) ?_
                refine mv_cSi (pc := 79) dX6_fits_79 lk6_161 (c6_at hm.g24 hr3 (t := (se c).1) (by omega) (k := 8) (by decide)) rfl rfl (Nat.le_of_ble_eq_true rfl) (by decide) (by decide) (fun r J4 ⟨e1, e2⟩ => ?_)
                subst e1 e2
                have nx2 : ∀ a : Int32, a = (if ab_ag y se (c + 1) = true then 1 else 0) → mv_E l D b0 m6_fits (mv_rm 7) Q 128 [.ref m, .int (nI t), .int (J (m + 11) t), .int b, .int (nI d), .int (if ab_ag y se c = true then 1 else 0), .int (nI c), .int (y (se c).1 8)] [.int a] 0 0 n sh J4 R := by
                  intro a ha
                  refine mv_istore (pc := 128) dX6_fits_128 (by decide) ?_
                  refine mv_iinc (pc := 130) (v := nI (c + 1)) dX6_fits_130 (by decide) rfl (nI_1 c) ?_
                  refine mv_goto (pc := 133) (tgt := 57) dX6_fits_133 (by decide) ?_
                  rw [ha]
                  exact ihg (c + 1) _ (by omega)
                have no : ¬ ab_ag y se (c + 1) = true → mv_E l D b0 m6_fits (mv_rm 7) Q 127 [.ref m, .int (nI t), .int (J (m + 11) t), .int b, .int (nI d), .int (if ab_ag y se c = true then 1 else 0), .int (nI c), .int (y (se c).1 8)] [] 0 0 n sh J4 R := by
                  intro q
                  refine mv_iconst (pc := 127) (v := 0) dX6_fits_127 (by decide) ?_
                  exact nx2 _ (by rw [if_neg q])
                refine mv_istore (pc := 82) dX6_fits_82 (by decide) ?_
                refine mv_iload (pc := 84) dX6_fits_84 rfl ?_
                by_cases qa : ab_ag y se c = true
                · rw [if_pos qa] at nx2 no
                  have eag2 : ab_ag y se (c + 1) = true ↔ (if ¬ y (se c).1 8 = -9 ∧ y (se c).1 8 ≤ nI (se c).2.1 then 1 else 0) = nI (se c).2.2 := by
                    rw [eag, qa, Bool.true_and]; exact eok
                  have cmp : ∀ a : Int32, a = (if ¬ y (se c).1 8 = -9 ∧ y (se c).1 8 ≤ nI (se c).2.1 then 1 else 0) → mv_E l D b0 m6_fits (mv_rm 7) Q 113 [.ref m, .int (nI t), .int (J (m + 11) t), .int b, .int (nI d), .int 1, .int (nI c), .int (y (se c).1 8)] [.int a] 0 0 n sh J4 R := by
                    intro a ha
                    refine mv_aload_n (pc := 113) dX6_fits_113 rfl ?_
                    refine mv_getR (pc := 114) (q := m + 19) dX6_fits_114 fl6_64 (fun _ _ => rfl) (congrArg Prod.fst hm.o) hm.f31 ?_
                    refine mv_iload (pc := 117) dX6_fits_117 rfl ?_
                    refine mv_ialdx (pc := 119) (x := nI (se c).2.2) (k := c) dX6_fits_119 hm.g31 rfl (by omega) (by rw [g2 (m + 19) (by omega) (by omega)]; exact a3) ?_
                    refine mv_icmp_ne (pc := 120) (tgt := 127) dX6_fits_120 (by decide) (fun hb3 => ?_) (fun hb3 => ?_)
                    · exact no (fun q => hb3 (ha.trans (eag2.mp q)))
                    · refine mv_iconst (pc := 123) (v := 1) dX6_fits_123 (by decide) ?_
                      refine mv_goto (pc := 124) (tgt := 128) dX6_fits_124 (by decide) ?_
                      exact nx2 _ (by rw [if_pos (eag2.mpr (ha.symm.trans hb3))])
                  have c0 : ¬ (¬ y (se c).1 8 = -9 ∧ y (se c).1 8 ≤ nI (se c).2.1) → mv_E l D b0 m6_fits (mv_rm 7) Q 112 [.ref m, .int (nI t), .int (J (m + 11) t), .int b, .int (nI d), .int 1, .int (nI c), .int (y (se c).1 8)] [] 0 0 n sh J4 R := by
                    intro q
                    refine mv_iconst (pc := 112) (v := 0) dX6_fits_112 (by decide) ?_
                    exact cmp _ (by rw [if_neg q])
                  rw [if_pos qa]
                  refine mv_if_eq (pc := 86) (tgt := 127) dX6_fits_86 (by decide) (fun hb => absurd hb (by decide)) (fun _ => ?_)
                  refine mv_iload (pc := 89) dX6_fits_89 rfl ?_
                  refine mv_bipush (pc := 91) (v := -9) dX6_fits_91 (by decide) ?_
                  refine mv_icmp_eq (pc := 93) (tgt := 112) dX6_fits_93 (by decide) (fun hb3 => ?_) (fun hb3 => ?_)
                  · exact c0 (fun q => q.1 hb3)
                  · refine mv_iload (pc := 96) dX6_fits_96 rfl ?_
                    refine mv_aload_n (pc := 98) dX6_fits_98 rfl ?_
                    refine mv_getR (pc := 99) (q := m + 18) dX6_fits_99 fl6_61 (fun _ _ => rfl) (congrArg Prod.fst hm.o) hm.f30 ?_
                    refine mv_iload (pc := 102) dX6_fits_102 rfl ?_
                    refine mv_ialdx (pc := 104) (x := nI (se c).2.1) (k := c) dX6_fits_104 hm.g30 rfl (by omega) (by rw [g2 (m + 18) (by omega) (by omega)]; exact a2) ?_
                    refine mv_icmp_gt (pc := 105) (tgt := 112) dX6_fits_105 (by decide) (fun hb4 => ?_) (fun hb4 => ?_)
                    · exact c0 (fun q => absurd hb4 (Int32.not_lt.mpr q.2))
                    · refine mv_iconst (pc := 108) (v := 1) dX6_fits_108 (by decide) ?_
                      refine mv_goto (pc := 109) (tgt := 113) dX6_fits_109 (by decide) ?_
                      exact cmp _ (by rw [if_pos ⟨hb3, Int32.not_lt.mp hb4⟩])
                · rw [if_neg qa] at nx2 no
                  rw [if_neg qa]
                  refine mv_if_eq (pc := 86) (tgt := 127) dX6_fits_86 (by decide) (fun _ => ?_) (fun hb => absurd hb (by decide))
                  refine no (fun q => qa ?_)
                  rw [eag] at q
                  exact (Bool.and_eq_true _ _ ▸ q).1
          refine mv_iconst (pc := 51) (v := 1) dX6_fits_51 (by decide) ?_
          refine mv_istore (pc := 52) dX6_fits_52 (by decide) ?_
          refine mv_iconst (pc := 54) (v := 0) dX6_fits_54 (by decide) ?_
          refine mv_istore (pc := 55) dX6_fits_55 (by decide) ?_
          exact inner sn 0 _ (by omega)
    refine mv_aload_n (pc := 10) dX6_fits_10 rfl ?_
    refine mv_getR (pc := 11) (q := m + 11) dX6_fits_11 fl6_40 (fun _ _ => rfl) (congrArg Prod.fst hm.o) hm.f20 ?_
    refine mv_iload_n (pc := 14) dX6_fits_14 rfl ?_
    refine mv_ialdx (pc := 15) (x := J (m + 11) t) (k := t) dX6_fits_15 hm.g20 rfl (by omega) rfl ?_
    refine mv_istore_n (pc := 16) dX6_fits_16 (by decide) ?_
    refine mv_iconst (pc := 17) (v := 0) dX6_fits_17 (by decide) ?_
    refine mv_istore_n (pc := 18) dX6_fits_18 (by decide) ?_
    refine mv_iconst (pc := 19) (v := 1) dX6_fits_19 (by decide) ?_
    refine mv_istore (pc := 20) dX6_fits_20 (by decide) ?_
    exact loop 30 1 0 J _ _ _ (by omega) (by omega) (fun k _ => rfl) (fun b _ _ => rfl) rfl
  · rw [if_neg hv]
    refine mv_if_ne (pc := 5) (tgt := 10) dX6_fits_5 (by decide) (fun hb => absurd hb (by decide)) (fun _ => ?_)
    refine mv_iconst (pc := 8) (v := -1) dX6_fits_8 (by decide) ?_
    exact mv_iret (pc := 9) dX6_fits_9 rfl (by decide) (by decide) (hQ _ _ ⟨(if_pos hv).symm, hS, fun _ _ => rfl⟩)
theorem c6_fits {l : Launch} {D : va_G} {b0 n : Nat} {sh : mv_Sh} {I : mv_I} {R : mv_R} {w : Nat → Int32} {L nt uh sn : Nat} {π x : xs_X} {us : Nat → xs_X} {kp : Nat → Option xs_X} {se : Nat → Nat × Nat × Nat} {m : Nat} {v : Int32} (hm : ly_Mod sh R m) (hS : gm_S I m (w, L, nt, π, x, uh, us, kp, sn, se)) (hW : ab_W (w, L, nt, π, x, uh, us, kp, sn, se)) : mv_C l D b0 m6_fits (mv_rm 7) [.ref m, .int v] n sh I R (mv_Pi n sh R (fun r I' => r = ab_fits v (w, L, nt, π, x, uh, us, kp, sn, se) ∧ gm_S I' m (w, L, nt, π, x, uh, us, kp, sn, se) ∧ gm_F m I I')) := mv_C.of 6 (by decide) (by simp [Value.category]) rfl (e6_fits hm hS hW (fun _ _ h => mv_Pi.mk h))

