theorem pl_W.dl {nt t d : Nat} {π : xs_X} (h : pl_W nt π) (ht : t < nt) (h1 : 1 ≤ d) (h2 : d ≤ 60) : pl_W nt (mv_up π t 2 (nI d)) := by
  have e : ∀ j, j ≠ 2 → mv_up π t 2 (nI d) t j = π t j := fun j hj => by simp [mv_up, hj]
  refine h.one (t := t) (fun u hu => mv_upN u hu) ?_ ?_
  · by_cases q : (0 : Nat) = t
    · subst q; rw [e 0 (by decide)]; exact h.2.2.1
    · rw [mv_upN 0 q]; exact h.2.2.1
  · obtain ⟨a1, ⟨s, s6, s1, s2⟩, a3, a4, a5, a6⟩ := h.T ht
    refine ⟨by rw [e 0 (by decide)]; exact a1, ⟨s, s6, by rw [e 1 (by decide)]; exact s1, fun j hj => by rw [e (6 + 2 * j) (by omega), e (7 + 2 * j) (by omega)]; exact s2 j hj⟩, Or.inr ⟨d, h1, h2, mv_upe⟩, by rw [e 3 (by decide)]; exact a4, by rw [e 4 (by decide)]; exact a5, by rw [e 5 (by decide)]; exact a6⟩
theorem xs_W.st {nt : Nat} {π : xs_X} (h : pl_W nt π) : xs_W nt π (xs_st (π 0 2)) ∧ xs_st (π 0 2) 8 0 = nI 0 := by
  refine ⟨⟨⟨0, by decide, rfl⟩, ⟨0, by decide, rfl⟩, rfl, fun t ht => ?_⟩, rfl⟩
  have hn := h.2.1
  have ht8 : t < 8 := by omega
  obtain ⟨a1, ⟨s, s6, s1, s2⟩, a3, a4, ⟨k, k5, hk⟩, a6⟩ := h.T ht
  have e : ∀ k, xs_st (π 0 2) t k = (if k = 1 ∨ k = 8 then -9 else if t = 0 ∧ k = 0 then 1 else if t = 0 ∧ k = 4 then (if π 0 2 = 99 then 9999 else π 0 2) else 0) := fun k => if_pos ht8
  have e8 : xs_st (π 0 2) t 8 = -9 := by rw [e]; rfl
  have e9 : xs_st (π 0 2) t 9 = nI 0 := by rw [e, if_neg (by omega), if_neg (by omega), if_neg (by omega)]; rfl
  have e2 : xs_st (π 0 2) t 2 = nI 0 := by rw [e, if_neg (by omega), if_neg (by omega), if_neg (by omega)]; rfl
  have e3 : xs_st (π 0 2) t 3 = 0 := by rw [e, if_neg (by omega), if_neg (by omega), if_neg (by omega)]
  have e5 : xs_st (π 0 2) t 5 = 0 := by rw [e, if_neg (by omega), if_neg (by omega), if_neg (by omega)]
  have e6 : xs_st (π 0 2) t 6 = nI 0 := by rw [e, if_neg (by omega), if_neg (by omega), if_neg (by omega)]; rfl
  have e7 : xs_st (π 0 2) t 7 = nI 0 := by rw [e, if_neg (by omega), if_neg (by omega), if_neg (by omega)]; rfl
  refine ⟨?_, ⟨0, by omega, e9⟩, ⟨0, s, by omega, s6, s1, e2, Or.inl e3⟩, Or.inl e5, ⟨0, k, by omega, k5, e6, hk⟩, ?_, Or.inl e8, ⟨0, by omega, e7⟩⟩
  · by_cases q : t = 0
    · subst q
      have e4 : xs_st (π 0 2) 0 4 = if π 0 2 = 99 then 9999 else π 0 2 := by rw [e]; rfl
      refine ⟨1, by omega, by rw [e]; rfl, ⟨fun a => by omega, fun a => ?_⟩, ⟨fun a => by omega, fun a => absurd e8 a⟩⟩
      rw [e4] at a
      rcases a3 with b | ⟨d, d1, d2, d3⟩
      · rw [if_pos b] at a; exact absurd a (by decide)
      · by_cases b : π 0 2 = 99
        · rw [if_pos b] at a; exact absurd a (by decide)
        · rw [if_neg b, d3] at a
          exact absurd a (nI_ne0 (by omega) (by omega))
    · refine ⟨0, by omega, by rw [e, if_neg (by omega), if_neg (by omega), if_neg (by omega)]; rfl, ⟨fun _ => by rw [e, if_neg (by omega), if_neg (by omega), if_neg (by omega)], fun _ => rfl⟩, ⟨fun a => by omega, fun a => absurd e8 a⟩⟩
  · by_cases q : t = 0
    · subst q
      have e4 : xs_st (π 0 2) 0 4 = if π 0 2 = 99 then 9999 else π 0 2 := by rw [e]; rfl
      rw [e4]
      by_cases b : π 0 2 = 99
      · rw [if_pos b]; exact Or.inl rfl
      · rw [if_neg b]
        rcases a3 with c | ⟨d, d1, d2, d3⟩
        · exact absurd c b
        · exact Or.inr ⟨d, by omega, d3⟩
    · exact Or.inr ⟨0, by omega, by rw [e, if_neg (by omega), if_neg (by omega), if_neg (by omega)]; rfl⟩
theorem pl_M.dl {I J : mv_I} {m nt t d : Nat} {π : xs_X} (h : pl_M I m nt π) (e0 : J m = I m) (e : ∀ b, m + 8 ≤ b → b < m + 14 → b ≠ m + 11 → J b = I b) (e1 : J (m + 11) t = nI d) (e2 : ∀ k, k ≠ t → J (m + 11) k = I (m + 11) k) : pl_M J m nt (mv_up π t 2 (nI d)) := by
  refine ⟨by rw [e0]; exact h.1, fun u hu => ?_⟩
  rw [e0, e (m + 8) (by omega) (by omega) (by omega), e (m + 9) (by omega) (by omega) (by omega), e (m + 10) (by omega) (by omega) (by omega), e (m + 12) (by omega) (by omega) (by omega), e (m + 13) (by omega) (by omega) (by omega)]
  by_cases q : u = t
  · subst q
    have p : ∀ j, j ≠ 2 → mv_up π u 2 (nI d) u j = π u j := fun j hj => by simp [mv_up, hj]
    obtain ⟨a1, a2, a3, a4, a5, a6, a7⟩ := h.2 u hu
    rw [p 0 (by decide), p 1 (by decide), p 3 (by decide), p 4 (by decide), p 5 (by decide), mv_upe, e1]
    exact ⟨a1, a2, rfl, a4, a5, a6, fun j hj => by rw [p (6 + 2 * j) (by omega), p (7 + 2 * j) (by omega)]; exact a7 j hj⟩
  · rw [mv_upN u q, e2 u q]
    exact h.2 u hu
theorem gm_S.tried {I J : mv_I} {m : Nat} {σ : ab_S} (h : gm_S I m σ) (hf : rm_Fr (m + 15) I J) : gm_S J m σ := h.eq (fun k _ => by rw [hf m (by omega)]) (fun b _ _ b3 => hf b b3)
set_option maxHeartbeats 4000000 in
set_option maxRecDepth 100000 in
theorem e6_ends_ {l : Launch} {D : va_G} {b0 n : Nat} {sh : mv_Sh} {I : mv_I} {R : mv_R} {Q : mv_Q} {w : Nat → Int32} {L nt uh sn : Nat} {π x : xs_X} {us : Nat → xs_X} {kp : Nat → Option xs_X} {se : Nat → Nat × Nat × Nat} {m : Nat} {v k : Int32} (hm : ly_Mod sh R m) (hS : gm_S I m (w, L, nt, π, x, uh, us, kp, sn, se)) (hW : ab_W (w, L, nt, π, x, uh, us, kp, sn, se)) (hQ : ∀ r I', (r = ab_ends v k (w, L, nt, π, x, uh, us, kp, sn, se) ∧ gm_S I' m (w, L, nt, π, x, uh, us, kp, sn, se) ∧ gm_F m I I') → Q (some (.int r)) n sh I' R) : mv_E l D b0 m6_ends_ (mv_rm 7) Q 0 [.ref m, .int v, .int k] [] 0 0 n sh I R := by
  obtain ⟨-, hpw, ⟨hX, τ, hτ9, hτ⟩, huh, -, -, -, -⟩ := id hW
  have hn := hpw.2.1
  have hx := hS.2.2.1
  have no : (¬ ab_is nt v ∨ ¬ (0 ≤ k ∧ k ≤ 1)) → mv_E l D b0 m6_ends_ (mv_rm 7) Q 17 [.ref m, .int v, .int k] [] 0 0 n sh I R := by
    intro q
    refine mv_iconst (pc := 17) (v := -1) dX6_ends__17 (by decide) ?_
    exact mv_iret (pc := 18) dX6_ends__18 rfl (by decide) (by decide) (hQ _ _ ⟨(if_pos q).symm, hS, fun _ _ => rfl⟩)
  refine mv_aload_n (pc := 0) dX6_ends__0 rfl ?_
  refine mv_iload_n (pc := 1) dX6_ends__1 rfl ?_
  refine mv_cVi (pc := 2) dX6_ends__2 lk6_214 (congrArg Prod.fst hm.o) (c6_isTask hm hS.2.1.1 hpw.1 hn) rfl rfl (Nat.le_of_ble_eq_true rfl) (by decide) (by decide) (fun r J ⟨e1, e2⟩ => ?_)
  subst e1 e2
  by_cases hv : ab_is nt v
  · rw [if_pos hv]
    refine mv_if_eq (pc := 5) (tgt := 17) dX6_ends__5 (by decide) (fun hb => absurd hb (by decide)) (fun _ => ?_)
    refine mv_iload_n (pc := 8) dX6_ends__8 rfl ?_
    refine mv_iconst (pc := 9) (v := 0) dX6_ends__9 (by decide) ?_
    refine mv_iconst (pc := 10) (v := 1) dX6_ends__10 (by decide) ?_
    refine mv_cSi (pc := 11) dX6_ends__11 lk6_80 (c6_in trivial) rfl rfl (Nat.le_of_ble_eq_true rfl) (by decide) (by decide) (fun r J2 ⟨e1, e2⟩ => ?_)
    subst e1 e2
    by_cases hk : 0 ≤ k ∧ k ≤ 1
    · rw [if_pos hk]
      refine mv_if_ne (pc := 14) (tgt := 19) dX6_ends__14 (by decide) (fun _ => ?_) (fun hb => absurd hb (by decide))
      obtain ⟨t, ht, rfl⟩ := ab_is_n hv hn
      have ht8 : t < 8 := by omega
      have e0 : ab_ends (nI t) k (w, L, nt, π, x, uh, us, kp, sn, se) = if xs_go nt π 0 200 x t 0 = 3 then (if k = 0 then xs_go nt π 0 200 x t 8 else xs_go nt π 0 200 x t 1) else -9 := by
        refine (if_neg (fun q => q.elim (fun a => a hv) (fun a => a hk))).trans ?_
        rw [nI_clamp (by omega)]
      rw [e0] at hQ
      refine mv_aload_n (pc := 19) dX6_ends__19 rfl ?_
      refine mv_getR (pc := 20) (q := m + 14) dX6_ends__20 fl6_49 (fun _ _ => rfl) (congrArg Prod.fst hm.o) hm.f23 ?_
      refine mv_aload_n (pc := 23) dX6_ends__23 rfl ?_
      refine mv_getR (pc := 24) (q := m + 15) dX6_ends__24 fl6_52 (fun _ _ => rfl) (congrArg Prod.fst hm.o) hm.f24 ?_
      refine mv_cSv (pc := 27) dX6_ends__27 lk6_221 (c6_copies hm.g23 hm.g24 (by omega)) rfl rfl (Nat.le_of_ble_eq_true rfl) (by decide) (by decide) (fun J3 ⟨hc3, hf3⟩ => ?_)
      have hr3 : rm_R J3 (m + 15) x := hx.cp hc3
      have hS3 := hS.tried hf3
      refine mv_aload_n (pc := 30) dX6_ends__30 rfl ?_
      refine mv_sipush (pc := 31) (v := 200) dX6_ends__31 (by decide) ?_
      refine mv_cVv (pc := 34) dX6_ends__34 lk6_225 (congrArg Prod.fst hm.o) (c6_goesOn (k := 200) ⟨hm, hm.g24, Or.inr rfl, hS3.2.1, hpw⟩ hr3 hX hτ (by omega)) rfl rfl (Nat.le_of_ble_eq_true rfl) (by decide) (by decide) (fun J4 ⟨hr4, hf4⟩ => ?_)
      have hS4 := hS3.tried hf4
      have hF : gm_F m J2 J4 := fun b hb => (hf4 b (by omega)).trans (hf3 b (by omega))
      refine mv_aload_n (pc := 37) dX6_ends__37 rfl ?_
      refine mv_getR (pc := 38) (q := m + 15) dX6_ends__38 fl6_52 (fun _ _ => rfl) (congrArg Prod.fst hm.o) hm.f24 ?_
      refine mv_iload_n (pc := 41) dX6_ends__41 rfl ?_
      refine mv_iconst (pc := 42) (v := 3) dX6_ends__42 (by decide) ?_
      refine mv_cSi (pc := 43) dX6_ends__43 lk6_165 (c6_isHow hm.g24 hr4 (t := t) ht8) rfl rfl (Nat.le_of_ble_eq_true rfl) (by decide) (by decide) (fun r J5 ⟨e1, e2⟩ => ?_)
      subst e1 e2
      by_cases h3 : xs_go nt π 0 200 x t 0 = 3
      · rw [if_pos h3]
        refine mv_if_ne (pc := 46) (tgt := 54) dX6_ends__46 (by decide) (fun _ => ?_) (fun hb => absurd hb (by decide))
        refine mv_aload_n (pc := 54) dX6_ends__54 rfl ?_
        refine mv_getR (pc := 55) (q := m + 15) dX6_ends__55 fl6_52 (fun _ _ => rfl) (congrArg Prod.fst hm.o) hm.f24 ?_
        refine mv_iload_n (pc := 58) dX6_ends__58 rfl ?_
        refine mv_iload_n (pc := 59) dX6_ends__59 rfl ?_
        refine mv_if_ne (pc := 60) (tgt := 68) dX6_ends__60 (by decide) (fun hb => ?_) (fun hb => ?_)
        · refine mv_iconst (pc := 68) (v := 1) dX6_ends__68 (by decide) ?_
          refine mv_cSi (pc := 69) dX6_ends__69 lk6_161 (c6_at hm.g24 hr4 (t := t) ht8 (k := 1) (by decide)) rfl rfl (Nat.le_of_ble_eq_true rfl) (by decide) (by decide) (fun r J6 ⟨e1, e2⟩ => ?_)
          subst e1 e2
          refine mv_iret (pc := 72) dX6_ends__72 rfl (by decide) (by decide) (hQ _ _ ⟨?_, hS4, hF⟩)
          rw [if_pos h3, if_neg hb]
        · refine mv_bipush (pc := 63) (v := 8) dX6_ends__63 (by decide) ?_
          refine mv_goto (pc := 65) (tgt := 69) dX6_ends__65 (by decide) ?_
          refine mv_cSi (pc := 69) dX6_ends__69 lk6_161 (c6_at hm.g24 hr4 (t := t) ht8 (k := 8) (by decide)) rfl rfl (Nat.le_of_ble_eq_true rfl) (by decide) (by decide) (fun r J6 ⟨e1, e2⟩ => ?_)
          subst e1 e2
          refine mv_iret (pc := 72) dX6_ends__72 rfl (by decide) (by decide) (hQ _ _ ⟨?_, hS4, hF⟩)
          rw [if_pos h3, if_pos hb]
      · rw [if_neg h3]
        refine mv_if_ne (pc := 46) (tgt := 54) dX6_ends__46 (by decide) (fun hb => absurd hb (by decide)) (fun _ => ?_)
        refine mv_bipush (pc := 49) (v := -9) dX6_ends__49 (by decide) ?_
        refine mv_goto (pc := 51) (tgt := 72) dX6_ends__51 (by decide) ?_
        refine mv_iret (pc := 72) dX6_ends__72 rfl (by decide) (by decide) (hQ _ _ ⟨?_, hS4, hF⟩)
        rw [if_neg h3]
    · rw [if_neg hk]
      refine mv_if_ne (pc := 14) (tgt := 19) dX6_ends__14 (by decide) (fun hb => absurd hb (by decide)) (fun _ => ?_)
      exact no (Or.inr hk)
  · rw [if_neg hv]
    refine mv_if_eq (pc := 5) (tgt := 17) dX6_ends__5 (by decide) (fun _ => ?_) (fun hb => absurd hb (by decide))
    exact no (Or.inl hv)
theorem c6_ends_ {l : Launch} {D : va_G} {b0 n : Nat} {sh : mv_Sh} {I : mv_I} {R : mv_R} {w : Nat → Int32} {L nt uh sn : Nat} {π x : xs_X} {us : Nat → xs_X} {kp : Nat → Option xs_X} {se : Nat → Nat × Nat × Nat} {m : Nat} {v k : Int32} (hm : ly_Mod sh R m) (hS : gm_S I m (w, L, nt, π, x, uh, us, kp, sn, se)) (hW : ab_W (w, L, nt, π, x, uh, us, kp, sn, se)) : mv_C l D b0 m6_ends_ (mv_rm 7) [.ref m, .int v, .int k] n sh I R (mv_Pi n sh R (fun r I' => r = ab_ends v k (w, L, nt, π, x, uh, us, kp, sn, se) ∧ gm_S I' m (w, L, nt, π, x, uh, us, kp, sn, se) ∧ gm_F m I I')) := mv_C.of 0 (by decide) (by simp [Value.category]) rfl (e6_ends_ hm hS hW (fun _ _ h => mv_Pi.mk h))
set_option maxHeartbeats 4000000 in
set_option maxRecDepth 100000 in
theorem e6_wellBy {l : Launch} {D : va_G} {b0 n : Nat} {sh : mv_Sh} {I : mv_I} {R : mv_R} {Q : mv_Q} {w : Nat → Int32} {L nt uh sn : Nat} {π x : xs_X} {us : Nat → xs_X} {kp : Nat → Option xs_X} {se : Nat → Nat × Nat × Nat} {m : Nat} (hm : ly_Mod sh R m) (hS : gm_S I m (w, L, nt, π, x, uh, us, kp, sn, se)) (hW : ab_W (w, L, nt, π, x, uh, us, kp, sn, se)) (hQ : ∀ r I', (r = ab_wellBy (w, L, nt, π, x, uh, us, kp, sn, se) ∧ gm_S I' m (w, L, nt, π, x, uh, us, kp, sn, se) ∧ gm_F m I I') → Q (some (.int r)) n sh I' R) : mv_E l D b0 m6_wellBy (mv_rm 7) Q 0 [.ref m, .null, .null, .null] [] 0 0 n sh I R := by
  obtain ⟨-, hpw, ⟨hX, τ, hτ9, hτ⟩, huh, -, -, -, -⟩ := id hW
  have hn := hpw.2.1
  have e0 : ab_wellBy (w, L, nt, π, x, uh, us, kp, sn, se) = ab_wb nt π 60 1 := rfl
  rw [e0] at hQ
  have fin : ∀ (J : mv_I) (d : Int32), (∀ k, k ≠ 0 → J (m + 11) k = I (m + 11) k) → (∀ b, b ≠ m + 11 → b ≠ m + 15 → J b = I b) → mv_E l D b0 m6_wellBy (mv_rm 7) Q 80 [.ref m, .int (I (m + 11) 0), .int (ab_wb nt π 60 1), .int d] [] 0 0 n sh J R := by
    intro J d h1 h2
    refine mv_aload_n (pc := 80) dX6_wellBy_80 rfl ?_
    refine mv_getR (pc := 81) (q := m + 11) dX6_wellBy_81 fl6_40 (fun _ _ => rfl) (congrArg Prod.fst hm.o) hm.f20 ?_
    refine mv_iconst (pc := 84) (v := 0) dX6_wellBy_84 (by decide) ?_
    refine mv_iload_n (pc := 85) dX6_wellBy_85 rfl ?_
    refine mv_iast (pc := 86) (k := 0) dX6_wellBy_86 hm.g20 (by decide) (by omega) ?_
    refine mv_iload_n (pc := 87) dX6_wellBy_87 rfl ?_
    refine mv_iret (pc := 88) dX6_wellBy_88 rfl (by decide) (by decide) (hQ _ _ ⟨rfl, ?_, fun b hb => by rw [mv_upN b (by omega)]; exact h2 b (by omega) (by omega)⟩)
    refine hS.tried (fun b hb => ?_)
    by_cases q : b = m + 11
    · subst q
      funext k
      by_cases qk : k = 0
      · subst qk; rw [mv_upe]
      · simp only [mv_up, qk, and_false, if_false]; exact h1 k qk
    · rw [mv_upN b q]; exact h2 b q hb
  have loop : ∀ (f d : Nat) (J : mv_I), d + f = 61 → 1 ≤ d → (∀ k, k ≠ 0 → J (m + 11) k = I (m + 11) k) → (∀ b, b ≠ m + 11 → b ≠ m + 15 → J b = I b) → ab_wb nt π f d = ab_wb nt π 60 1 → mv_E l D b0 m6_wellBy (mv_rm 7) Q 12 [.ref m, .int (I (m + 11) 0), .int (-9), .int (nI d)] [] 0 0 n sh J R := by
    intro f
    induction f with
    | zero =>
      intro d J hd hd1 h1 h2 he
      have e9 : (-9 : Int32) = ab_wb nt π 60 1 := he
      refine mv_iload_n (pc := 12) dX6_wellBy_12 rfl ?_
      refine mv_bipush (pc := 13) (v := 60) dX6_wellBy_13 (by decide) ?_
      refine mv_icmp_gt (pc := 15) (tgt := 80) dX6_wellBy_15 (by decide) (fun hb => ?_) (fun hb => ?_)
      · rw [e9]
        exact fin J _ h1 h2
      · exact absurd (nI_lt (a := 60) (b := d) (by omega) (by omega)) hb
    | succ f ih =>
      intro d J hd hd1 h1 h2 he
      refine mv_iload_n (pc := 12) dX6_wellBy_12 rfl ?_
      refine mv_bipush (pc := 13) (v := 60) dX6_wellBy_13 (by decide) ?_
      refine mv_icmp_gt (pc := 15) (tgt := 80) dX6_wellBy_15 (by decide) (fun hb => ?_) (fun hb => ?_)
      · exact absurd hb (nI_nlt (a := 60) (b := d) (by omega) (by decide))
      · refine mv_iload_n (pc := 18) dX6_wellBy_18 rfl ?_
        refine mv_bipush (pc := 19) (v := -9) dX6_wellBy_19 (by decide) ?_
        refine mv_icmp_ne (pc := 21) (tgt := 80) dX6_wellBy_21 (by decide) (fun hb => absurd hb (by decide)) (fun _ => ?_)
        refine mv_aload_n (pc := 24) dX6_wellBy_24 rfl ?_
        refine mv_getR (pc := 25) (q := m + 11) dX6_wellBy_25 fl6_40 (fun _ _ => rfl) (congrArg Prod.fst hm.o) hm.f20 ?_
        refine mv_iconst (pc := 28) (v := 0) dX6_wellBy_28 (by decide) ?_
        refine mv_iload_n (pc := 29) dX6_wellBy_29 rfl ?_
        refine mv_iast (pc := 30) (k := 0) dX6_wellBy_30 hm.g20 (by decide) (by omega) ?_
        refine mv_aload_n (pc := 31) dX6_wellBy_31 rfl ?_
        refine mv_aload_n (pc := 32) dX6_wellBy_32 rfl ?_
        refine mv_getR (pc := 33) (q := m + 15) dX6_wellBy_33 fl6_52 (fun _ _ => rfl) (congrArg Prod.fst hm.o) hm.f24 ?_
        have hd11 : mv_up J (m + 11) 0 (nI d) (m + 11) 0 = nI d := mv_upe
        refine mv_cVv (pc := 36) dX6_wellBy_36 lk6_148 (congrArg Prod.fst hm.o) (c6_starts hm hm.g24 (by omega)) rfl rfl (Nat.le_of_ble_eq_true rfl) (by decide) (by decide) (fun J2 ⟨hr2, hf2⟩ => ?_)
        rw [hd11] at hr2
        have hpd := hpw.dl (t := 0) (d := d) hpw.1 hd1 (by omega)
        have hW2 := xs_W.st hpd
        have e02 : mv_up π 0 2 (nI d) 0 2 = nI d := mv_upe
        rw [e02] at hW2
        have hpM : pl_M J2 m nt (mv_up π 0 2 (nI d)) := by
          refine hS.2.1.dl ?_ (fun b b1 b2 b3 => ?_) ?_ (fun k hk => ?_)
          · rw [hf2 m (by omega), mv_upN m (by omega)]; exact h2 m (by omega) (by omega)
          · rw [hf2 b (by omega), mv_upN b b3]; exact h2 b b3 (by omega)
          · rw [hf2 (m + 11) (by omega), mv_upe]
          · rw [hf2 (m + 11) (by omega)]
            simp only [mv_up, hk, and_false, if_false]; exact h1 k hk
        refine mv_aload_n (pc := 39) dX6_wellBy_39 rfl ?_
        refine mv_sipush (pc := 40) (v := 200) dX6_wellBy_40 (by decide) ?_
        refine mv_cVv (pc := 43) dX6_wellBy_43 lk6_225 (congrArg Prod.fst hm.o) (c6_goesOn (k := 200) ⟨hm, hm.g24, Or.inr rfl, hpM, hpd⟩ hr2 hW2.1 hW2.2 (by omega)) rfl rfl (Nat.le_of_ble_eq_true rfl) (by decide) (by decide) (fun J3 ⟨hr3, hf3⟩ => ?_)
        have esu : ab_su nt π 0 d 200 = xs_go nt (mv_up π 0 2 (nI d)) 0 200 (xs_st (nI d)) := by unfold ab_su; rw [e02]
        rw [← esu] at hr3
        have g1 : ∀ k, k ≠ 0 → J3 (m + 11) k = I (m + 11) k := fun k hk => by
          rw [hf3 (m + 11) (by omega), hf2 (m + 11) (by omega)]
          simp only [mv_up, hk, and_false, if_false]; exact h1 k hk
        have g2 : ∀ b, b ≠ m + 11 → b ≠ m + 15 → J3 b = I b := fun b b1 b2 => by
          rw [hf3 b b2, hf2 b b2, mv_upN b b1]; exact h2 b b1 b2
        have ew : ab_wb nt π (f + 1) d = if ab_su nt π 0 d 200 0 0 = 3 ∧ ab_su nt π 0 d 200 0 1 = 0 then nI d else ab_wb nt π f (d + 1) := rfl
        have no : ¬ (ab_su nt π 0 d 200 0 0 = 3 ∧ ab_su nt π 0 d 200 0 1 = 0) → mv_E l D b0 m6_wellBy (mv_rm 7) Q 71 [.ref m, .int (I (m + 11) 0), .int (-9), .int (nI d)] [] 0 0 n sh J3 R := by
          intro q
          refine mv_bipush (pc := 71) (v := -9) dX6_wellBy_71 (by decide) ?_
          refine mv_istore_n (pc := 73) dX6_wellBy_73 (by decide) ?_
          refine mv_iinc (pc := 74) (v := nI (d + 1)) dX6_wellBy_74 (by decide) rfl (nI_1 d) ?_
          refine mv_goto (pc := 77) (tgt := 12) dX6_wellBy_77 (by decide) ?_
          exact ih (d + 1) J3 (by omega) (by omega) g1 g2 (by rw [← he, ew, if_neg q])
        refine mv_aload_n (pc := 46) dX6_wellBy_46 rfl ?_
        refine mv_getR (pc := 47) (q := m + 15) dX6_wellBy_47 fl6_52 (fun _ _ => rfl) (congrArg Prod.fst hm.o) hm.f24 ?_
        refine mv_iconst (pc := 50) (v := 0) dX6_wellBy_50 (by decide) ?_
        refine mv_iconst (pc := 51) (v := 3) dX6_wellBy_51 (by decide) ?_
        refine mv_cSi (pc := 52) dX6_wellBy_52 lk6_165 (c6_isHow hm.g24 hr3 (t := 0) (by omega)) rfl rfl (Nat.le_of_ble_eq_true rfl) (by decide) (by decide) (fun r J4 ⟨e1, e2⟩ => ?_)
        subst e1 e2
        by_cases q3 : ab_su nt π 0 d 200 0 0 = 3
        · rw [if_pos q3]
          refine mv_if_eq (pc := 55) (tgt := 71) dX6_wellBy_55 (by decide) (fun hb => absurd hb (by decide)) (fun _ => ?_)
          refine mv_aload_n (pc := 58) dX6_wellBy_58 rfl ?_
          refine mv_getR (pc := 59) (q := m + 15) dX6_wellBy_59 fl6_52 (fun _ _ => rfl) (congrArg Prod.fst hm.o) hm.f24 ?_
          refine mv_iconst (pc := 62) (v := 1) dX6_wellBy_62 (by decide) ?_
          refine mv_ialdx (pc := 63) (x := ab_su nt π 0 d 200 0 1) (k := 1) dX6_wellBy_63 hm.g24 (by decide) (by omega) (hr3.1 0 (by omega) 1 (by decide)) ?_
          refine mv_if_ne (pc := 64) (tgt := 71) dX6_wellBy_64 (by decide) (fun hb3 => ?_) (fun hb3 => ?_)
          · exact no (fun q => hb3 q.2)
          · have er : nI d = ab_wb nt π 60 1 := by rw [← he, ew, if_pos ⟨q3, hb3⟩]
            refine mv_iload_n (pc := 67) dX6_wellBy_67 rfl ?_
            refine mv_goto (pc := 68) (tgt := 73) dX6_wellBy_68 (by decide) ?_
            refine mv_istore_n (pc := 73) dX6_wellBy_73 (by decide) ?_
            refine mv_iinc (pc := 74) (v := nI (d + 1)) dX6_wellBy_74 (by decide) rfl (nI_1 d) ?_
            refine mv_goto (pc := 77) (tgt := 12) dX6_wellBy_77 (by decide) ?_
            refine mv_iload_n (pc := 12) dX6_wellBy_12 rfl ?_
            refine mv_bipush (pc := 13) (v := 60) dX6_wellBy_13 (by decide) ?_
            refine mv_icmp_gt (pc := 15) (tgt := 80) dX6_wellBy_15 (by decide) (fun hb4 => ?_) (fun hb4 => ?_)
            · rw [er]
              exact fin _ _ g1 g2
            · refine mv_iload_n (pc := 18) dX6_wellBy_18 rfl ?_
              refine mv_bipush (pc := 19) (v := -9) dX6_wellBy_19 (by decide) ?_
              refine mv_icmp_ne (pc := 21) (tgt := 80) dX6_wellBy_21 (by decide) (fun hb5 => ?_) (fun hb5 => ?_)
              · rw [er]
                exact fin _ _ g1 g2
              · exfalso
                have hd60 : d ≤ 60 := by omega
                exact absurd hb5 (fun q => absurd (nI_pos' (n := d) (by omega)) (by rw [q]; decide))
        · rw [if_neg q3]
          refine mv_if_eq (pc := 55) (tgt := 71) dX6_wellBy_55 (by decide) (fun _ => ?_) (fun hb => absurd hb (by decide))
          exact no (fun q => q3 q.1)
  refine mv_aload_n (pc := 0) dX6_wellBy_0 rfl ?_
  refine mv_getR (pc := 1) (q := m + 11) dX6_wellBy_1 fl6_40 (fun _ _ => rfl) (congrArg Prod.fst hm.o) hm.f20 ?_
  refine mv_iconst (pc := 4) (v := 0) dX6_wellBy_4 (by decide) ?_
  refine mv_iald (pc := 5) (k := 0) dX6_wellBy_5 hm.g20 (by decide) (by omega) ?_
  refine mv_istore_n (pc := 6) dX6_wellBy_6 (by decide) ?_
  refine mv_bipush (pc := 7) (v := -9) dX6_wellBy_7 (by decide) ?_
  refine mv_istore_n (pc := 9) dX6_wellBy_9 (by decide) ?_
  refine mv_iconst (pc := 10) (v := 1) dX6_wellBy_10 (by decide) ?_
  refine mv_istore_n (pc := 11) dX6_wellBy_11 (by decide) ?_
  exact loop 60 1 I (by omega) (by omega) (fun k _ => rfl) (fun b _ _ => rfl) rfl
theorem c6_wellBy {l : Launch} {D : va_G} {b0 n : Nat} {sh : mv_Sh} {I : mv_I} {R : mv_R} {w : Nat → Int32} {L nt uh sn : Nat} {π x : xs_X} {us : Nat → xs_X} {kp : Nat → Option xs_X} {se : Nat → Nat × Nat × Nat} {m : Nat} (hm : ly_Mod sh R m) (hS : gm_S I m (w, L, nt, π, x, uh, us, kp, sn, se)) (hW : ab_W (w, L, nt, π, x, uh, us, kp, sn, se)) : mv_C l D b0 m6_wellBy (mv_rm 7) [.ref m] n sh I R (mv_Pi n sh R (fun r I' => r = ab_wellBy (w, L, nt, π, x, uh, us, kp, sn, se) ∧ gm_S I' m (w, L, nt, π, x, uh, us, kp, sn, se) ∧ gm_F m I I')) := mv_C.of 3 (by decide) (by simp [Value.category]) rfl (e6_wellBy hm hS hW (fun _ _ h => mv_Pi.mk h))
set_option maxHeartbeats 4000000 in
set_option maxRecDepth 100000 in
theorem e6_spares {l : Launch} {D : va_G} {b0 n : Nat} {sh : mv_Sh} {I : mv_I} {R : mv_R} {Q : mv_Q} {w : Nat → Int32} {L nt uh sn : Nat} {π x : xs_X} {us : Nat → xs_X} {kp : Nat → Option xs_X} {se : Nat → Nat × Nat × Nat} {m : Nat} {v : Int32} (hm : ly_Mod sh R m) (hS : gm_S I m (w, L, nt, π, x, uh, us, kp, sn, se)) (hW : ab_W (w, L, nt, π, x, uh, us, kp, sn, se)) (hQ : ∀ r I', (r = ab_spares v (w, L, nt, π, x, uh, us, kp, sn, se) ∧ gm_S I' m (w, L, nt, π, x, uh, us, kp, sn, se) ∧ gm_F m I I') → Q (some (.int r)) n sh I' R) : mv_E l D b0 m6_spares (mv_rm 7) Q 0 [.ref m, .int v, .null] [] 0 0 n sh I R := by
  obtain ⟨-, hpw, ⟨hX, τ, hτ9, hτ⟩, huh, -, -, -, -⟩ := id hW
  have hn := hpw.2.1
  have hx := hS.2.2.1
  have no : (¬ ab_is nt v ∨ ¬ x v.toNatClampNeg 0 = 1) → mv_E l D b0 m6_spares (mv_rm 7) Q 20 [.ref m, .int v, .null] [] 0 0 n sh I R := by
    intro q
    refine mv_ldc (pc := 20) dX6_spares_20 kc6_229 ?_
    exact mv_iret (pc := 22) dX6_spares_22 rfl (by decide) (by decide) (hQ _ _ ⟨(if_pos q).symm, hS, fun _ _ => rfl⟩)
  refine mv_aload_n (pc := 0) dX6_spares_0 rfl ?_
  refine mv_iload_n (pc := 1) dX6_spares_1 rfl ?_
  refine mv_cVi (pc := 2) dX6_spares_2 lk6_214 (congrArg Prod.fst hm.o) (c6_isTask hm hS.2.1.1 hpw.1 hn) rfl rfl (Nat.le_of_ble_eq_true rfl) (by decide) (by decide) (fun r J ⟨e1, e2⟩ => ?_)
  subst e1 e2
  by_cases hv : ab_is nt v
  · rw [if_pos hv]
    obtain ⟨t, ht, rfl⟩ := ab_is_n hv hn
    have ht8 : t < 8 := by omega
    rw [nI_clamp (n := t) (by omega)] at no
    refine mv_if_eq (pc := 5) (tgt := 20) dX6_spares_5 (by decide) (fun hb => absurd hb (by decide)) (fun _ => ?_)
    refine mv_aload_n (pc := 8) dX6_spares_8 rfl ?_
    refine mv_getR (pc := 9) (q := m + 14) dX6_spares_9 fl6_49 (fun _ _ => rfl) (congrArg Prod.fst hm.o) hm.f23 ?_
    refine mv_iload_n (pc := 12) dX6_spares_12 rfl ?_
    refine mv_iconst (pc := 13) (v := 1) dX6_spares_13 (by decide) ?_
    refine mv_cSi (pc := 14) dX6_spares_14 lk6_165 (c6_isHow hm.g23 hx (t := t) ht8) rfl rfl (Nat.le_of_ble_eq_true rfl) (by decide) (by decide) (fun r J2 ⟨e1, e2⟩ => ?_)
    subst e1 e2
    by_cases h1 : x t 0 = 1
    · rw [if_pos h1]
      refine mv_if_ne (pc := 17) (tgt := 23) dX6_spares_17 (by decide) (fun _ => ?_) (fun hb => absurd hb (by decide))
      have e0 : ab_spares (nI t) (w, L, nt, π, x, uh, us, kp, sn, se) = if xs_go nt π 0 200 x 0 8 = -9 ∨ xs_go nt π 0 200 (mv_up x t 5 1) 0 8 = -9 then -1000000 else xs_go nt π 0 200 x 0 8 - xs_go nt π 0 200 (mv_up x t 5 1) 0 8 := by
        have ecl : (nI t).toNatClampNeg = t := nI_clamp (by omega)
        refine (if_neg (fun q => q.elim (fun a => a hv) (fun a => a (by rw [ecl]; exact h1)))).trans ?_
        rw [ecl]
      rw [e0] at hQ
      refine mv_aload_n (pc := 23) dX6_spares_23 rfl ?_
      refine mv_getR (pc := 24) (q := m + 14) dX6_spares_24 fl6_49 (fun _ _ => rfl) (congrArg Prod.fst hm.o) hm.f23 ?_
      refine mv_aload_n (pc := 27) dX6_spares_27 rfl ?_
      refine mv_getR (pc := 28) (q := m + 15) dX6_spares_28 fl6_52 (fun _ _ => rfl) (congrArg Prod.fst hm.o) hm.f24 ?_
      refine mv_cSv (pc := 31) dX6_spares_31 lk6_221 (c6_copies hm.g23 hm.g24 (by omega)) rfl rfl (Nat.le_of_ble_eq_true rfl) (by decide) (by decide) (fun J3 ⟨hc3, hf3⟩ => ?_)
      have hr3 : rm_R J3 (m + 15) x := hx.cp hc3
      have hS3 := hS.tried hf3
      refine mv_aload_n (pc := 34) dX6_spares_34 rfl ?_
      refine mv_sipush (pc := 35) (v := 200) dX6_spares_35 (by decide) ?_
      refine mv_cVv (pc := 38) dX6_spares_38 lk6_225 (congrArg Prod.fst hm.o) (c6_goesOn (k := 200) ⟨hm, hm.g24, Or.inr rfl, hS3.2.1, hpw⟩ hr3 hX hτ (by omega)) rfl rfl (Nat.le_of_ble_eq_true rfl) (by decide) (by decide) (fun J4 ⟨hr4, hf4⟩ => ?_)
      have hS4 := hS3.tried hf4
      refine mv_aload_n (pc := 41) dX6_spares_41 rfl ?_
      refine mv_getR (pc := 42) (q := m + 15) dX6_spares_42 fl6_52 (fun _ _ => rfl) (congrArg Prod.fst hm.o) hm.f24 ?_
      refine mv_bipush (pc := 45) (v := 8) dX6_spares_45 (by decide) ?_
      refine mv_ialdx (pc := 47) (x := xs_go nt π 0 200 x 0 8) (k := 8) dX6_spares_47 hm.g24 (by decide) (by omega) (hr4.1 0 (by omega) 8 (by decide)) ?_
      refine mv_istore_n (pc := 48) dX6_spares_48 (by decide) ?_
      refine mv_aload_n (pc := 49) dX6_spares_49 rfl ?_
      refine mv_getR (pc := 50) (q := m + 14) dX6_spares_50 fl6_49 (fun _ _ => rfl) (congrArg Prod.fst hm.o) hm.f23 ?_
      refine mv_aload_n (pc := 53) dX6_spares_53 rfl ?_
      refine mv_getR (pc := 54) (q := m + 15) dX6_spares_54 fl6_52 (fun _ _ => rfl) (congrArg Prod.fst hm.o) hm.f24 ?_
      refine mv_cSv (pc := 57) dX6_spares_57 lk6_221 (c6_copies hm.g23 hm.g24 (by omega)) rfl rfl (Nat.le_of_ble_eq_true rfl) (by decide) (by decide) (fun J5 ⟨hc5, hf5⟩ => ?_)
      have hr5 : rm_R J5 (m + 15) x := hS4.2.2.1.cp hc5
      have hS5 := hS4.tried hf5
      refine mv_aload_n (pc := 60) dX6_spares_60 rfl ?_
      refine mv_getR (pc := 61) (q := m + 15) dX6_spares_61 fl6_52 (fun _ _ => rfl) (congrArg Prod.fst hm.o) hm.f24 ?_
      refine mv_bipush (pc := 64) (v := 18) dX6_spares_64 (by decide) ?_
      refine mv_iload_n (pc := 66) dX6_spares_66 rfl ?_
      refine mv_imul (pc := 67) dX6_spares_67 ?_
      refine mv_iconst (pc := 68) (v := 5) dX6_spares_68 (by decide) ?_
      refine mv_iadd (pc := 69) dX6_spares_69 ?_
      refine mv_iconst (pc := 70) (v := 1) dX6_spares_70 (by decide) ?_
      refine mv_iast (pc := 71) (k := 18 * t + 5) dX6_spares_71 hm.g24 (mv_jx 18 t 5) (by omega) ?_
      refine mv_aload_n (pc := 72) dX6_spares_72 rfl ?_
      refine mv_sipush (pc := 73) (v := 200) dX6_spares_73 (by decide) ?_
      have hr6 := rm_set (v := 1) 5 hr5 ht8 (by decide)
      have hS6 := hS5.tried (rm_Fr.up (k := 18 * t + 5) (v := 1) rm_Fr.rf)
      have hX6 : xs_W nt π (mv_up x t 5 1) := by
        obtain ⟨a1, a2, a3, a4⟩ := hX
        have e8 : mv_up x t 5 1 8 = x 8 := mv_upN 8 (by omega)
        refine ⟨by rw [e8]; exact a1, by rw [e8]; exact a2, ?_, fun u hu => ?_⟩
        · rw [← a3]; simp [mv_up]
        · by_cases q : u = t
          · subst q
            have e : ∀ k, k ≠ 5 → mv_up x u 5 1 u k = x u k := fun k hk => by simp [mv_up, hk]
            obtain ⟨b1, b2, b3, b4, b5, b6, b7, b8⟩ := a4 u hu
            refine ⟨by rw [e 0 (by decide), e 4 (by decide), e 8 (by decide)]; exact b1, by rw [e 9 (by decide)]; exact b2, by rw [e 2 (by decide), e 3 (by decide)]; exact b3, Or.inr mv_upe, by rw [e 6 (by decide)]; exact b5, by rw [e 4 (by decide)]; exact b6, by rw [e 8 (by decide)]; exact b7, by rw [e 7 (by decide)]; exact b8⟩
          · rw [mv_upN u q]; exact a4 u hu
      have hτ6 : mv_up x t 5 1 8 0 = nI τ := by rw [mv_upN 8 (by omega)]; exact hτ
      refine mv_cVv (pc := 76) dX6_spares_76 lk6_225 (congrArg Prod.fst hm.o) (c6_goesOn (k := 200) ⟨hm, hm.g24, Or.inr rfl, hS6.2.1, hpw⟩ hr6 hX6 hτ6 (by omega)) rfl rfl (Nat.le_of_ble_eq_true rfl) (by decide) (by decide) (fun J7 ⟨hr7, hf7⟩ => ?_)
      have hS7 := hS6.tried hf7
      have hF : gm_F m J2 J7 := fun b hb => by
        rw [hf7 b (by omega), mv_upN b (by omega), hf5 b (by omega), hf4 b (by omega), hf3 b (by omega)]
      have bad : (xs_go nt π 0 200 x 0 8 = -9 ∨ xs_go nt π 0 200 (mv_up x t 5 1) 0 8 = -9) → mv_E l D b0 m6_spares (mv_rm 7) Q 97 [.ref m, .int (nI t), .int (xs_go nt π 0 200 x 0 8)] [] 0 0 n sh J7 R := by
        intro q
        refine mv_ldc (pc := 97) dX6_spares_97 kc6_229 ?_
        refine mv_goto (pc := 99) (tgt := 111) dX6_spares_99 (by decide) ?_
        refine mv_iret (pc := 111) dX6_spares_111 rfl (by decide) (by decide) (hQ _ _ ⟨?_, hS7, hF⟩)
        rw [if_pos q]
      refine mv_iload_n (pc := 79) dX6_spares_79 rfl ?_
      refine mv_bipush (pc := 80) (v := -9) dX6_spares_80 (by decide) ?_
      refine mv_icmp_eq (pc := 82) (tgt := 97) dX6_spares_82 (by decide) (fun hb => ?_) (fun hb => ?_)
      · exact bad (Or.inl hb)
      · refine mv_aload_n (pc := 85) dX6_spares_85 rfl ?_
        refine mv_getR (pc := 86) (q := m + 15) dX6_spares_86 fl6_52 (fun _ _ => rfl) (congrArg Prod.fst hm.o) hm.f24 ?_
        refine mv_bipush (pc := 89) (v := 8) dX6_spares_89 (by decide) ?_
        refine mv_ialdx (pc := 91) (x := xs_go nt π 0 200 (mv_up x t 5 1) 0 8) (k := 8) dX6_spares_91 hm.g24 (by decide) (by omega) (hr7.1 0 (by omega) 8 (by decide)) ?_
        refine mv_bipush (pc := 92) (v := -9) dX6_spares_92 (by decide) ?_
        refine mv_icmp_ne (pc := 94) (tgt := 102) dX6_spares_94 (by decide) (fun hb2 => ?_) (fun hb2 => ?_)
        · refine mv_iload_n (pc := 102) dX6_spares_102 rfl ?_
          refine mv_aload_n (pc := 103) dX6_spares_103 rfl ?_
          refine mv_getR (pc := 104) (q := m + 15) dX6_spares_104 fl6_52 (fun _ _ => rfl) (congrArg Prod.fst hm.o) hm.f24 ?_
          refine mv_bipush (pc := 107) (v := 8) dX6_spares_107 (by decide) ?_
          refine mv_ialdx (pc := 109) (x := xs_go nt π 0 200 (mv_up x t 5 1) 0 8) (k := 8) dX6_spares_109 hm.g24 (by decide) (by omega) (hr7.1 0 (by omega) 8 (by decide)) ?_
          refine mv_isub (pc := 110) dX6_spares_110 ?_
          refine mv_iret (pc := 111) dX6_spares_111 rfl (by decide) (by decide) (hQ _ _ ⟨?_, hS7, hF⟩)
          rw [if_neg (fun q => q.elim hb hb2)]
        · exact bad (Or.inr hb2)
    · rw [if_neg h1]
      refine mv_if_ne (pc := 17) (tgt := 23) dX6_spares_17 (by decide) (fun hb => absurd hb (by decide)) (fun _ => ?_)
      exact no (Or.inr h1)
  · rw [if_neg hv]
    refine mv_if_eq (pc := 5) (tgt := 20) dX6_spares_5 (by decide) (fun _ => ?_) (fun hb => absurd hb (by decide))
    exact no (Or.inl hv)
theorem c6_spares {l : Launch} {D : va_G} {b0 n : Nat} {sh : mv_Sh} {I : mv_I} {R : mv_R} {w : Nat → Int32} {L nt uh sn : Nat} {π x : xs_X} {us : Nat → xs_X} {kp : Nat → Option xs_X} {se : Nat → Nat × Nat × Nat} {m : Nat} {v : Int32} (hm : ly_Mod sh R m) (hS : gm_S I m (w, L, nt, π, x, uh, us, kp, sn, se)) (hW : ab_W (w, L, nt, π, x, uh, us, kp, sn, se)) : mv_C l D b0 m6_spares (mv_rm 7) [.ref m, .int v] n sh I R (mv_Pi n sh R (fun r I' => r = ab_spares v (w, L, nt, π, x, uh, us, kp, sn, se) ∧ gm_S I' m (w, L, nt, π, x, uh, us, kp, sn, se) ∧ gm_F m I I')) := mv_C.of 1 (by decide) (by simp [Value.category]) rfl (e6_spares hm hS hW (fun _ _ h => mv_Pi.mk h))

