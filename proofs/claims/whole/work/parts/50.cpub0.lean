/-! the object of the class: where its parts lie -/
def ly_ST (sh : mv_Sh) (R : mv_R) (z : Nat) : Prop := sh z = (5, 14) ∧ (R z 0 = some (z + 1) ∧ R z 1 = some (z + 3) ∧ R z 2 = some (z + 12) ∧ R z 3 = some (z + 21) ∧ R z 4 = some (z + 30) ∧ R z 5 = some (z + 31) ∧ R z 6 = some (z + 46) ∧ R z 7 = some (z + 61) ∧ R z 8 = some (z + 243) ∧ R z 9 = some (z + 244) ∧ R z 10 = some (z + 245) ∧ R z 11 = some (z + 246) ∧ R z 12 = some (z + 247)) ∧ (ly_Tok sh R (z + 1) ∧ ly_Plan sh R (z + 3) ∧ ly_Plan sh R (z + 12) ∧ ly_Plan sh R (z + 21) ∧ ly_Rd sh R (z + 30) (z + 1) (z + 12)) ∧ (ly_Run sh R (z + 31) ∧ R (z + 31) 0 = some (z + 3)) ∧ ly_Run sh R (z + 46) ∧ ly_His sh R (z + 61) (z + 3) ∧ (sh (z + 243) = (9, 2) ∧ ∀ i, i < 2 → R (z + 243) i = some (z + 248 + 15 * i) ∧ ly_Run sh R (z + 248 + 15 * i) ∧ R (z + 248 + 15 * i) 0 = some (z + 3)) ∧ sh (z + 244) = (8, 2) ∧ sh (z + 245) = (7, 6) ∧ sh (z + 246) = (7, 6) ∧ sh (z + 247) = (7, 6)
section ST
variable {sh : mv_Sh} {R : mv_R} {z : Nat}
theorem ly_ST.o (h : ly_ST sh R z) : sh z = (5, 14) := h.1
theorem ly_ST.f0 (h : ly_ST sh R z) : R z 0 = some (z + 1) := h.2.1.1
theorem ly_ST.f1 (h : ly_ST sh R z) : R z 1 = some (z + 3) := h.2.1.2.1
theorem ly_ST.f2 (h : ly_ST sh R z) : R z 2 = some (z + 12) := h.2.1.2.2.1
theorem ly_ST.f3 (h : ly_ST sh R z) : R z 3 = some (z + 21) := h.2.1.2.2.2.1
theorem ly_ST.f4 (h : ly_ST sh R z) : R z 4 = some (z + 30) := h.2.1.2.2.2.2.1
theorem ly_ST.f5 (h : ly_ST sh R z) : R z 5 = some (z + 31) := h.2.1.2.2.2.2.2.1
theorem ly_ST.f6 (h : ly_ST sh R z) : R z 6 = some (z + 46) := h.2.1.2.2.2.2.2.2.1
theorem ly_ST.f7 (h : ly_ST sh R z) : R z 7 = some (z + 61) := h.2.1.2.2.2.2.2.2.2.1
theorem ly_ST.f8 (h : ly_ST sh R z) : R z 8 = some (z + 243) := h.2.1.2.2.2.2.2.2.2.2.1
theorem ly_ST.f9 (h : ly_ST sh R z) : R z 9 = some (z + 244) := h.2.1.2.2.2.2.2.2.2.2.2.1
theorem ly_ST.f10 (h : ly_ST sh R z) : R z 10 = some (z + 245) := h.2.1.2.2.2.2.2.2.2.2.2.2.1
theorem ly_ST.f11 (h : ly_ST sh R z) : R z 11 = some (z + 246) := h.2.1.2.2.2.2.2.2.2.2.2.2.2.1
theorem ly_ST.f12 (h : ly_ST sh R z) : R z 12 = some (z + 247) := h.2.1.2.2.2.2.2.2.2.2.2.2.2.2
theorem ly_ST.tx (h : ly_ST sh R z) : ly_Tok sh R (z + 1) := h.2.2.1.1
theorem ly_ST.to (h : ly_ST sh R z) : ly_Plan sh R (z + 3) := h.2.2.1.2.1
theorem ly_ST.dr (h : ly_ST sh R z) : ly_Plan sh R (z + 12) := h.2.2.1.2.2.1
theorem ly_ST.sp (h : ly_ST sh R z) : ly_Plan sh R (z + 21) := h.2.2.1.2.2.2.1
theorem ly_ST.rd (h : ly_ST sh R z) : ly_Rd sh R (z + 30) (z + 1) (z + 12) := h.2.2.1.2.2.2.2
theorem ly_ST.no (h : ly_ST sh R z) : ly_Run sh R (z + 31) := h.2.2.2.1.1
theorem ly_ST.nop (h : ly_ST sh R z) : R (z + 31) 0 = some (z + 3) := h.2.2.2.1.2
theorem ly_ST.tr (h : ly_ST sh R z) : ly_Run sh R (z + 46) := h.2.2.2.2.1
theorem ly_ST.hi (h : ly_ST sh R z) : ly_His sh R (z + 61) (z + 3) := h.2.2.2.2.2.1
theorem ly_ST.im (h : ly_ST sh R z) : sh (z + 243) = (9, 2) := h.2.2.2.2.2.2.1.1
theorem ly_ST.imr (h : ly_ST sh R z) : ∀ i, i < 2 → R (z + 243) i = some (z + 248 + 15 * i) ∧ ly_Run sh R (z + 248 + 15 * i) ∧ R (z + 248 + 15 * i) 0 = some (z + 3) := h.2.2.2.2.2.2.1.2
theorem ly_ST.ke (h : ly_ST sh R z) : sh (z + 244) = (8, 2) := h.2.2.2.2.2.2.2.1
theorem ly_ST.s0 (h : ly_ST sh R z) : sh (z + 245) = (7, 6) := h.2.2.2.2.2.2.2.2.1
theorem ly_ST.s1 (h : ly_ST sh R z) : sh (z + 246) = (7, 6) := h.2.2.2.2.2.2.2.2.2.1
theorem ly_ST.s2 (h : ly_ST sh R z) : sh (z + 247) = (7, 6) := h.2.2.2.2.2.2.2.2.2.2
/-- the trial's plan is another -/
theorem ly_ST.up {v : Option Nat} (h : ly_ST sh R z) : ly_ST sh (mv_up R (z + 46) 0 v) z := by
  have e : ∀ b, b ≠ z + 46 → mv_up R (z + 46) 0 v b = R b := fun b hb => mv_upN b hb
  have er : ∀ p, p ≠ z + 46 → ly_Run sh R p → ly_Run sh (mv_up R (z + 46) 0 v) p := fun p hp h => h.upR (fun k _ => by rw [e p hp])
  refine ⟨h.o, by rw [e z (by omega)]; exact h.2.1, ⟨h.tx.upR (e _ (by omega)), h.to.upR (e _ (by omega)), h.dr.upR (e _ (by omega)), h.sp.upR (e _ (by omega)), ?_⟩, ⟨er _ (by omega) h.no, by rw [e _ (by omega)]; exact h.nop⟩, h.tr.upR (fun k hk => by simp [mv_up, hk]), ?_, ⟨h.im, fun i hi => ?_⟩, h.ke, h.s0, h.s1, h.s2⟩
  · have := h.rd
    unfold ly_Rd at this ⊢
    rw [e (z + 30) (by omega)]
    exact this
  · have := h.hi
    refine ⟨this.1, by rw [e _ (by omega)]; exact this.2.1, this.2.2.1, fun i hi => ?_⟩
    obtain ⟨a, b, c⟩ := this.2.2.2 i hi
    exact ⟨by rw [e _ (by omega)]; exact a, er _ (by omega) b, by rw [e _ (by omega)]; exact c⟩
  · obtain ⟨a, b, c⟩ := h.imr i hi
    exact ⟨by rw [e _ (by omega)]; exact a, er _ (by omega) b, by rw [e _ (by omega)]; exact c⟩
end ST
def gc_K1 (I : mv_I) (z nt i : Nat) : Option xs_X → Prop
  | none => I (z + 244) i = 0
  | some y => I (z + 244) i = 1 ∧ rc_R I (z + 248 + 15 * i) nt y
def gc_N (I : mv_I) (z sn : Nat) (se : Nat → Nat × Nat × Nat) : Prop := I z 13 = nI sn ∧ ∀ i, i < sn → I (z + 245) i = nI (se i).1 ∧ I (z + 246) i = nI (se i).2.1 ∧ I (z + 247) i = nI (se i).2.2
def gc_S (I : mv_I) (z : Nat) : ab_S → Prop
  | (w, L, nt, π, x, uh, us, kp, sn, se) => (I (z + 1) 1 = nI L ∧ ∀ j, j < L → I (z + 1 + 1) j = w j) ∧ pl_C I (z + 3) nt π ∧ rc_R I (z + 31) nt x ∧ gc_H I (z + 61) nt uh us ∧ (∀ i, i < 2 → gc_K1 I z nt i (kp i)) ∧ gc_N I z sn se
def gc_P (sh : mv_Sh) (z : Nat) (I : mv_I) (R : mv_R) (q : Int32 × ab_S) (r : Int32) (I' : mv_I) (R' : mv_R) : Prop := r = q.1 ∧ gc_S I' z q.2 ∧ (∀ b, z + 278 ≤ b → I' b = I b) ∧ ly_ST sh R' z ∧ ∀ b, z + 278 ≤ b → R' b = R b
theorem gc_H.eq {I I' : mv_I} {p nt uh : Nat} {us : Nat → xs_X} (h : gc_H I p nt uh us) (e0 : I' p = I p) (e : ∀ b, p + 2 ≤ b → b < p + 182 → I' b = I b) : gc_H I' p nt uh us := by
  obtain ⟨h1, nw, h2, h3, h4⟩ := h
  exact ⟨by rw [e0]; exact h1, nw, h2, by rw [e0]; exact h3, fun i hi => (h4 i hi).eq (fun b b1 b2 => e b (by omega) (by omega))⟩
theorem gc_K1.eq {I I' : mv_I} {z nt i : Nat} {y : Option xs_X} (h : gc_K1 I z nt i y) (hi : i < 2) (e1 : I' (z + 244) = I (z + 244)) (e2 : ∀ b, z + 248 ≤ b → b < z + 278 → I' b = I b) : gc_K1 I' z nt i y := by
  cases y with
  | none => show I' (z + 244) i = 0; rw [e1]; exact h
  | some y => exact ⟨by rw [e1]; exact h.1, h.2.eq (fun b b1 b2 => e2 b (by omega) (by omega))⟩
theorem gc_N.eq {I I' : mv_I} {z sn : Nat} {se : Nat → Nat × Nat × Nat} (h : gc_N I z sn se) (e1 : I' z 13 = I z 13) (e2 : ∀ b, z + 245 ≤ b → b ≤ z + 247 → I' b = I b) : gc_N I' z sn se := by
  refine ⟨by rw [e1]; exact h.1, fun i hi => ?_⟩
  rw [e2 (z + 245) (by omega) (by omega), e2 (z + 246) (by omega) (by omega), e2 (z + 247) (by omega) (by omega)]
  exact h.2 i hi
section GC
variable {I I' : mv_I} {z : Nat} {w : Nat → Int32} {L nt uh sn : Nat} {π x : xs_X} {us : Nat → xs_X} {kp : Nat → Option xs_X} {se : Nat → Nat × Nat × Nat}
theorem gc_S.txt {w' : Nat → Int32} {L' : Nat} (h : gc_S I z (w, L, nt, π, x, uh, us, kp, sn, se)) (e : ∀ b, z + 3 ≤ b → (b < z + 12 ∨ z + 31 ≤ b) → I' b = I b) (e13 : I' z 13 = I z 13) (h0 : I' (z + 1) 1 = nI L') (h1 : ∀ j, j < L' → I' (z + 1 + 1) j = w' j) : gc_S I' z (w', L', nt, π, x, uh, us, kp, sn, se) := by
  obtain ⟨-, h2, h3, h4, h5, h6⟩ := h
  exact ⟨⟨h0, h1⟩, h2.eq (fun b b1 b2 => e b (by omega) (by omega)), h3.eq (fun b b1 b2 => e b (by omega) (by omega)), h4.eq (e _ (by omega) (by omega)) (fun b b1 b2 => e b (by omega) (by omega)), fun i hi => (h5 i hi).eq hi (e _ (by omega) (by omega)) (fun b b1 b2 => e b (by omega) (by omega)), h6.eq e13 (fun b b1 b2 => e b (by omega) (by omega))⟩
theorem gc_S.now {y : xs_X} (h : gc_S I z (w, L, nt, π, x, uh, us, kp, sn, se)) (e : rc_Fr (z + 31) I I') (hr : rc_R I' (z + 31) nt y) : gc_S I' z (w, L, nt, π, y, uh, us, kp, sn, se) := by
  obtain ⟨⟨h0, h1⟩, h2, h3, h4, h5, h6⟩ := h
  exact ⟨⟨by rw [e _ (by omega)]; exact h0, fun j hj => by rw [e _ (by omega)]; exact h1 j hj⟩, h2.eq (fun b b1 b2 => e b (by omega)), hr, h4.eq (e _ (by omega)) (fun b b1 b2 => e b (by omega)), fun i hi => (h5 i hi).eq hi (e _ (by omega)) (fun b b1 b2 => e b (by omega)), h6.eq (by rw [e z (by omega)]) (fun b b1 b2 => e b (by omega))⟩
theorem gc_S.his {uh' : Nat} {us' : Nat → xs_X} (h : gc_S I z (w, L, nt, π, x, uh, us, kp, sn, se)) (e : gh_Fr (z + 61) I I') (hh : gc_H I' (z + 61) nt uh' us') : gc_S I' z (w, L, nt, π, x, uh', us', kp, sn, se) := by
  obtain ⟨⟨h0, h1⟩, h2, h3, h4, h5, h6⟩ := h
  exact ⟨⟨by rw [e _ (by omega)]; exact h0, fun j hj => by rw [e _ (by omega)]; exact h1 j hj⟩, h2.eq (fun b b1 b2 => e b (by omega)), h3.eq (fun b b1 b2 => e b (by omega)), hh, fun i hi => (h5 i hi).eq hi (e _ (by omega)) (fun b b1 b2 => e b (by omega)), h6.eq (by rw [e z (by omega)]) (fun b b1 b2 => e b (by omega))⟩
/-- only what tries is written -/
theorem gc_S.tried {σ : ab_S} (h : gc_S I z σ) (e : ∀ b, (b < z + 12 ∨ z + 31 ≤ b) → (b < z + 46 ∨ z + 61 ≤ b) → I' b = I b) : gc_S I' z σ := by
  obtain ⟨w, L, nt, π, x, uh, us, kp, sn, se⟩ := σ
  obtain ⟨⟨h0, h1⟩, h2, h3, h4, h5, h6⟩ := h
  exact ⟨⟨by rw [e _ (by omega) (by omega)]; exact h0, fun j hj => by rw [e _ (by omega) (by omega)]; exact h1 j hj⟩, h2.eq (fun b b1 b2 => e b (by omega) (by omega)), h3.eq (fun b b1 b2 => e b (by omega) (by omega)), h4.eq (e _ (by omega) (by omega)) (fun b b1 b2 => e b (by omega) (by omega)), fun i hi => (h5 i hi).eq hi (e _ (by omega) (by omega)) (fun b b1 b2 => e b (by omega) (by omega)), h6.eq (by rw [e z (by omega) (by omega)]) (fun b b1 b2 => e b (by omega) (by omega))⟩
end GC
theorem c3_restartS {l : Launch} {D : va_G} {b0 n : Nat} {sh : mv_Sh} {I : mv_I} {R : mv_R} {p q nt : Nat} {π : xs_X} (hp : ly_Run sh R p) (hq : ly_Plan sh R q) (hpq : q + 9 ≤ p ∨ p + 15 ≤ q) (h : pl_C I q nt π) (hw : pl_W nt π) (hpp : R p 0 = some q) : mv_C l D b0 m3_restart (mv_rm 2) [.ref p, .ref q] n sh I R (mv_Pv n sh R (fun I' => rc_R I' p nt (xs_st (π 0 2)) ∧ rc_Fr p I I')) := by
  have := c3_restart (l := l) (D := D) (b0 := b0) (n := n) hp hq hpq h hw
  rw [mv_self hpp] at this
  exact this
set_option maxHeartbeats 4000000 in
set_option maxRecDepth 100000 in
theorem e5_isTask {l : Launch} {D : va_G} {b0 n : Nat} {sh : mv_Sh} {I : mv_I} {R : mv_R} {Q : mv_Q} {z nt : Nat} {v : Int32} (hz : ly_ST sh R z) (h : I (z + 3) 0 = nI nt) (hQ : ∀ r I', (r = (if ab_is nt v then 1 else 0) ∧ I' = I) → Q (some (.int r)) n sh I' R) : mv_E l D b0 m5_isTask (mv_rm 0) Q 0 [.ref z, .int v] [] 0 0 n sh I R := by
  have no : ¬ ab_is nt v → mv_E l D b0 m5_isTask (mv_rm 0) Q 19 [.ref z, .int v] [] 0 0 n sh I R := by
    intro q
    refine mv_iconst (pc := 19) (v := 0) dX5_isTask_19 (by decide) ?_
    exact mv_zret (pc := 20) dX5_isTask_20 rfl (by rfl) (by decide) (by decide) (hQ _ _ ⟨by rw [if_neg q], rfl⟩)
  refine mv_iload_n (pc := 0) dX5_isTask_0 rfl ?_
  refine mv_if_lt (pc := 1) (tgt := 19) dX5_isTask_1 (by decide) (fun hb => ?_) (fun hb => ?_)
  · exact no (fun q => absurd q.1 (Int32.not_le.mpr hb))
  · refine mv_iload_n (pc := 4) dX5_isTask_4 rfl ?_
    refine mv_aload_n (pc := 5) dX5_isTask_5 rfl ?_
    refine mv_getR (pc := 6) (q := (z + 3)) dX5_isTask_6 fl5_19 (fun _ _ => rfl) (congrArg Prod.fst hz.o) hz.f1 ?_
    refine mv_getIx (pc := 9) (x := nI nt) dX5_isTask_9 fl5_184 rfl (congrArg Prod.fst hz.to.o) h ?_
    refine mv_icmp_ge (pc := 12) (tgt := 19) dX5_isTask_12 (by decide) (fun hb2 => ?_) (fun hb2 => ?_)
    · exact no (fun q => absurd q.2 (Int32.not_lt.mpr hb2))
    · refine mv_iconst (pc := 15) (v := 1) dX5_isTask_15 (by decide) ?_
      refine mv_goto (pc := 16) (tgt := 20) dX5_isTask_16 (by decide) ?_
      exact mv_zret (pc := 20) dX5_isTask_20 rfl (by rfl) (by decide) (by decide) (hQ _ _ ⟨by rw [if_pos ⟨Int32.not_lt.mp hb, Int32.not_le.mp hb2⟩], rfl⟩)
theorem c5_isTask {l : Launch} {D : va_G} {b0 n : Nat} {sh : mv_Sh} {I : mv_I} {R : mv_R} {z nt : Nat} {v : Int32} (hz : ly_ST sh R z) (h : I (z + 3) 0 = nI nt) : mv_C l D b0 m5_isTask (mv_rm 0) [.ref z, .int v] n sh I R (mv_Pi n sh R (fun r I' => r = (if ab_is nt v then 1 else 0) ∧ I' = I)) := mv_C.of 0 (by decide) (by simp [Value.category]) rfl (e5_isTask hz h (fun _ _ h => mv_Pi.mk h))
set_option maxHeartbeats 4000000 in
set_option maxRecDepth 100000 in
theorem e5_type {l : Launch} {D : va_G} {b0 n : Nat} {sh : mv_Sh} {I : mv_I} {R : mv_R} {Q : mv_Q} {w : Nat → Int32} {L nt uh sn : Nat} {π x : xs_X} {us : Nat → xs_X} {kp : Nat → Option xs_X} {se : Nat → Nat × Nat × Nat} {z : Nat} {v : Int32} (hz : ly_ST sh R z) (hS : gc_S I z (w, L, nt, π, x, uh, us, kp, sn, se)) (hW : ab_W (w, L, nt, π, x, uh, us, kp, sn, se)) (hQ : ∀ r I' R', (gc_P sh z I R (ab_type v (w, L, nt, π, x, uh, us, kp, sn, se)) r I' R') → Q (some (.int r)) n sh I' R') : mv_E l D b0 m5_type (mv_rm 7) Q 0 [.ref z, .int v] [] 0 0 n sh I R := by
  obtain ⟨s0, s1⟩ := hS.1
  have hL : L ≤ 120 := hW.1.1
  have no : ¬ (0 ≤ v ∧ v ≤ 255) → mv_E l D b0 m5_type (mv_rm 7) Q 11 [.ref z, .int v] [] 0 0 n sh I R := by
    intro q
    have e : ab_type v (w, L, nt, π, x, uh, us, kp, sn, se) = (-1, (w, L, nt, π, x, uh, us, kp, sn, se)) := if_pos q
    refine mv_iconst (pc := 11) (v := -1) dX5_type_11 (by decide) ?_
    refine mv_iret (pc := 12) dX5_type_12 rfl (by decide) (by decide) (hQ _ _ _ ?_)
    rw [e]
    exact ⟨rfl, hS, fun _ _ => rfl, hz, fun _ _ => rfl⟩
  refine mv_iload_n (pc := 0) dX5_type_0 rfl ?_
  refine mv_if_lt (pc := 1) (tgt := 11) dX5_type_1 (by decide) (fun hb => ?_) (fun hb => ?_)
  · exact no (fun q => absurd q.1 (Int32.not_le.mpr hb))
  · refine mv_iload_n (pc := 4) dX5_type_4 rfl ?_
    refine mv_sipush (pc := 5) (v := 255) dX5_type_5 (by decide) ?_
    refine mv_icmp_le (pc := 8) (tgt := 13) dX5_type_8 (by decide) (fun hb2 => ?_) (fun hb2 => ?_)
    · have hv : 0 ≤ v ∧ v ≤ 255 := ⟨Int32.not_lt.mp hb, hb2⟩
      refine mv_aload_n (pc := 13) dX5_type_13 rfl ?_
      refine mv_getR (pc := 14) (q := (z + 1)) dX5_type_14 fl5_10 (fun _ _ => rfl) (congrArg Prod.fst hz.o) hz.f0 ?_
      refine mv_iload_n (pc := 17) dX5_type_17 rfl ?_
      refine mv_cVi (pc := 18) dX5_type_18 lk5_79 (congrArg Prod.fst hz.tx.o) (c4_append hz.tx s0 hL) rfl rfl (Nat.le_of_ble_eq_true rfl) (by decide) (by decide) (fun r J ⟨e1, e2⟩ => ?_)
      by_cases hlt : L < 120
      · rw [if_pos hlt] at e1 e2
        subst e1 e2
        have e : ab_type v (w, L, nt, π, x, uh, us, kp, sn, se) = (nI (L + 1), (fun j => if j = L then v else w j, L + 1, nt, π, x, uh, us, kp, sn, se)) := (if_neg (fun q => q hv)).trans (if_neg (by omega))
        refine mv_if_eq (pc := 21) (tgt := 34) dX5_type_21 (by decide) (fun hb => absurd hb (by decide)) (fun _ => ?_)
        refine mv_aload_n (pc := 24) dX5_type_24 rfl ?_
        refine mv_getR (pc := 25) (q := (z + 1)) dX5_type_25 fl5_10 (fun _ _ => rfl) (congrArg Prod.fst hz.o) hz.f0 ?_
        refine mv_getIx (pc := 28) (x := nI (L + 1)) dX5_type_28 fl5_83 rfl (congrArg Prod.fst hz.tx.o) mv_upe ?_
        refine mv_goto (pc := 31) (tgt := 36) dX5_type_31 (by decide) ?_
        refine mv_iret (pc := 36) dX5_type_36 rfl (by decide) (by decide) (hQ _ _ _ ?_)
        rw [e]
        refine ⟨rfl, hS.txt (fun b b1 b2 => ?_) ?_ mv_upe (fun j hj => ?_), fun b hb => ?_, hz, fun _ _ => rfl⟩
        · rw [mv_upN b (by omega), mv_upN b (by omega)]
        · rw [mv_upN z (by omega), mv_upN z (by omega)]
        · rw [mv_upN (z + 1 + 1) (by omega)]
          by_cases q : j = L
          · subst q; rw [mv_upe, if_pos rfl]
          · simp only [mv_up, q, and_false, if_false]; exact s1 j (by omega)
        · rw [mv_upN b (by omega), mv_upN b (by omega)]
      · rw [if_neg hlt] at e1 e2
        subst e1 e2
        have e : ab_type v (w, L, nt, π, x, uh, us, kp, sn, se) = (-3, (w, L, nt, π, x, uh, us, kp, sn, se)) := (if_neg (fun q => q hv)).trans (if_pos (by omega))
        refine mv_if_eq (pc := 21) (tgt := 34) dX5_type_21 (by decide) (fun _ => ?_) (fun hb => absurd hb (by decide))
        refine mv_bipush (pc := 34) (v := -3) dX5_type_34 (by decide) ?_
        refine mv_iret (pc := 36) dX5_type_36 rfl (by decide) (by decide) (hQ _ _ _ ?_)
        rw [e]
        exact ⟨rfl, hS, fun _ _ => rfl, hz, fun _ _ => rfl⟩
    · exact no (fun q => hb2 q.2)
theorem c5_type {l : Launch} {D : va_G} {b0 n : Nat} {sh : mv_Sh} {I : mv_I} {R : mv_R} {w : Nat → Int32} {L nt uh sn : Nat} {π x : xs_X} {us : Nat → xs_X} {kp : Nat → Option xs_X} {se : Nat → Nat × Nat × Nat} {z : Nat} {v : Int32} (hz : ly_ST sh R z) (hS : gc_S I z (w, L, nt, π, x, uh, us, kp, sn, se)) (hW : ab_W (w, L, nt, π, x, uh, us, kp, sn, se)) : mv_C l D b0 m5_type (mv_rm 7) [.ref z, .int v] n sh I R (mv_PI n sh (fun r I' R' => gc_P sh z I R (ab_type v (w, L, nt, π, x, uh, us, kp, sn, se)) r I' R')) := mv_C.of 0 (by decide) (by simp [Value.category]) rfl (e5_type hz hS hW (fun _ _ _ h => mv_PI.mk h))
set_option maxHeartbeats 4000000 in
set_option maxRecDepth 100000 in
theorem e5_clear {l : Launch} {D : va_G} {b0 n : Nat} {sh : mv_Sh} {I : mv_I} {R : mv_R} {Q : mv_Q} {w : Nat → Int32} {L nt uh sn : Nat} {π x : xs_X} {us : Nat → xs_X} {kp : Nat → Option xs_X} {se : Nat → Nat × Nat × Nat} {z : Nat} (hz : ly_ST sh R z) (hS : gc_S I z (w, L, nt, π, x, uh, us, kp, sn, se)) (hW : ab_W (w, L, nt, π, x, uh, us, kp, sn, se)) (hQ : ∀ r I' R', (gc_P sh z I R (ab_clear (w, L, nt, π, x, uh, us, kp, sn, se)) r I' R') → Q (some (.int r)) n sh I' R') : mv_E l D b0 m5_clear (mv_rm 7) Q 0 [.ref z, .null] [] 0 0 n sh I R := by
  refine mv_aload_n (pc := 0) dX5_clear_0 rfl ?_
  refine mv_getR (pc := 1) (q := (z + 1)) dX5_clear_1 fl5_10 (fun _ _ => rfl) (congrArg Prod.fst hz.o) hz.f0 ?_
  refine mv_getIx (pc := 4) (x := nI L) dX5_clear_4 fl5_83 rfl (congrArg Prod.fst hz.tx.o) hS.1.1 ?_
  refine mv_istore_n (pc := 7) dX5_clear_7 (by decide) ?_
  refine mv_aload_n (pc := 8) dX5_clear_8 rfl ?_
  refine mv_getR (pc := 9) (q := (z + 1)) dX5_clear_9 fl5_10 (fun _ _ => rfl) (congrArg Prod.fst hz.o) hz.f0 ?_
  refine mv_iconst (pc := 12) (v := 0) dX5_clear_12 (by decide) ?_
  refine mv_putI (pc := 13) dX5_clear_13 fl5_83 rfl rfl (congrArg Prod.fst hz.tx.o) ?_
  refine mv_iload_n (pc := 16) dX5_clear_16 rfl ?_
  refine mv_iret (pc := 17) dX5_clear_17 rfl (by decide) (by decide) (hQ _ _ _ ⟨rfl, hS.txt (fun b b1 b2 => ?_) ?_ (by rw [mv_upe]; rfl) (fun j hj => by omega), fun b hb => ?_, hz, fun _ _ => rfl⟩)
  · rw [mv_upN b (by omega)]
  · rw [mv_upN z (by omega)]
  · rw [mv_upN b (by omega)]
theorem c5_clear {l : Launch} {D : va_G} {b0 n : Nat} {sh : mv_Sh} {I : mv_I} {R : mv_R} {w : Nat → Int32} {L nt uh sn : Nat} {π x : xs_X} {us : Nat → xs_X} {kp : Nat → Option xs_X} {se : Nat → Nat × Nat × Nat} {z : Nat} (hz : ly_ST sh R z) (hS : gc_S I z (w, L, nt, π, x, uh, us, kp, sn, se)) (hW : ab_W (w, L, nt, π, x, uh, us, kp, sn, se)) : mv_C l D b0 m5_clear (mv_rm 7) [.ref z] n sh I R (mv_PI n sh (fun r I' R' => gc_P sh z I R (ab_clear (w, L, nt, π, x, uh, us, kp, sn, se)) r I' R')) := mv_C.of 1 (by decide) (by simp [Value.category]) rfl (e5_clear hz hS hW (fun _ _ _ h => mv_PI.mk h))
set_option maxHeartbeats 4000000 in
set_option maxRecDepth 100000 in
theorem e5_tree {l : Launch} {D : va_G} {b0 n : Nat} {sh : mv_Sh} {I : mv_I} {R : mv_R} {Q : mv_Q} {w : Nat → Int32} {L nt uh sn : Nat} {π x : xs_X} {us : Nat → xs_X} {kp : Nat → Option xs_X} {se : Nat → Nat × Nat × Nat} {z : Nat} (hz : ly_ST sh R z) (hS : gc_S I z (w, L, nt, π, x, uh, us, kp, sn, se)) (hW : ab_W (w, L, nt, π, x, uh, us, kp, sn, se)) (hQ : ∀ r I' R', (gc_P sh z I R (ab_tree (w, L, nt, π, x, uh, us, kp, sn, se)) r I' R') → Q (some (.int r)) n sh I' R') : mv_E l D b0 m5_tree (mv_rm 7) Q 0 [.ref z, .null] [] 0 0 n sh I R := by
  have e0 : ab_tree (w, L, nt, π, x, uh, us, kp, sn, se) = match sp_all w L 121 0 0 0 sp_0 with
    | .inl s => (-10 - nI s, (w, L, nt, π, x, uh, us, kp, sn, se))
    | .inr (c, n2, π2) => (nI c, (w, 0, sp_n n2, π2, xs_st (π2 0 2), 0, us, fun _ => none, 0, se)) := rfl
  rw [e0] at hQ
  have hWa := fun c2 n2 π2 => sp_W.all (w := w) (L := L) 121 0 0 0 sp_0 sp_W.z (Or.inl (fun k _ => rfl)) c2 n2 π2
  refine mv_aload_n (pc := 0) dX5_tree_0 rfl ?_
  refine mv_getR (pc := 1) (q := (z + 30)) dX5_tree_1 fl5_34 (fun _ _ => rfl) (congrArg Prod.fst hz.o) hz.f4 ?_
  refine mv_cVi (pc := 4) dX5_tree_4 lk5_86 (congrArg Prod.fst hz.rd.o) (c2_readAll (rd := z + 30) (z := z + 1) (q := z + 12) ⟨hz.rd, hz.tx, hz.dr, hW.1, by omega, by omega, by omega, by omega⟩ hS.1.1 hS.1.2) rfl rfl (Nat.le_of_ble_eq_true rfl) (by decide) (by decide) (fun r J ⟨hq, hf, hl⟩ => ?_)
  generalize sp_all w L 121 0 0 0 sp_0 = res at hq hQ hWa
  cases res with
  | inl s =>
    obtain ⟨hr, h4⟩ := hq
    subst hr
    refine mv_if_ne (pc := 7) (tgt := 21) dX5_tree_7 (by decide) (fun hb => absurd hb (by decide)) (fun _ => ?_)
    refine mv_bipush (pc := 10) (v := -10) dX5_tree_10 (by decide) ?_
    refine mv_aload_n (pc := 12) dX5_tree_12 rfl ?_
    refine mv_getR (pc := 13) (q := (z + 1)) dX5_tree_13 fl5_10 (fun _ _ => rfl) (congrArg Prod.fst hz.o) hz.f0 ?_
    refine mv_getIx (pc := 16) (x := nI s) dX5_tree_16 fl5_90 rfl (congrArg Prod.fst hz.tx.o) h4 ?_
    refine mv_isub (pc := 19) dX5_tree_19 ?_
    refine mv_iret (pc := 20) dX5_tree_20 rfl (by decide) (by decide) (hQ _ _ _ ⟨rfl, hS.txt (fun b b1 b2 => hf b (by omega) (by omega) (by omega)) (by rw [hf z (by omega) (by omega) (by omega)]) hl (fun j hj => ?_), fun b hb => hf b (by omega) (by omega) (by omega), hz, fun _ _ => rfl⟩)
    rw [hf (z + 1 + 1) (by omega) (by omega) (by omega)]
    exact hS.1.2 j hj
  | inr q =>
    obtain ⟨c, n2, π2⟩ := q
    obtain ⟨hr, h2, hp⟩ := hq
    subst hr
    have hpw := (hWa c n2 π2 rfl).2.1
    refine mv_if_ne (pc := 7) (tgt := 21) dX5_tree_7 (by decide) (fun _ => ?_) (fun hb => absurd hb (by decide))
    refine mv_aload_n (pc := 21) dX5_tree_21 rfl ?_
    refine mv_getR (pc := 22) (q := (z + 3)) dX5_tree_22 fl5_19 (fun _ _ => rfl) (congrArg Prod.fst hz.o) hz.f1 ?_
    refine mv_aload_n (pc := 25) dX5_tree_25 rfl ?_
    refine mv_getR (pc := 26) (q := (z + 12)) dX5_tree_26 fl5_23 (fun _ _ => rfl) (congrArg Prod.fst hz.o) hz.f2 ?_
    refine mv_cVv (pc := 29) dX5_tree_29 lk5_93 (congrArg Prod.fst hz.to.o) (c1_copyFrom hz.to hz.dr (by omega) hp hpw) rfl rfl (Nat.le_of_ble_eq_true rfl) (by decide) (by decide) (fun J2 ⟨hp2, hf2⟩ => ?_)
    refine mv_aload_n (pc := 32) dX5_tree_32 rfl ?_
    refine mv_getR (pc := 33) (q := (z + 1)) dX5_tree_33 fl5_10 (fun _ _ => rfl) (congrArg Prod.fst hz.o) hz.f0 ?_
    refine mv_iconst (pc := 36) (v := 0) dX5_tree_36 (by decide) ?_
    refine mv_putI (pc := 37) dX5_tree_37 fl5_83 rfl rfl (congrArg Prod.fst hz.tx.o) ?_
    refine mv_aload_n (pc := 40) dX5_tree_40 rfl ?_
    refine mv_getR (pc := 41) (q := (z + 31)) dX5_tree_41 fl5_43 (fun _ _ => rfl) (congrArg Prod.fst hz.o) hz.f5 ?_
    refine mv_aload_n (pc := 44) dX5_tree_44 rfl ?_
    refine mv_getR (pc := 45) (q := (z + 3)) dX5_tree_45 fl5_19 (fun _ _ => rfl) (congrArg Prod.fst hz.o) hz.f1 ?_
    refine mv_cVv (pc := 48) dX5_tree_48 lk5_96 (congrArg Prod.fst hz.no.o) (c3_restartS hz.no hz.to (by omega) (hp2.eq (fun b b1 b2 => mv_upN b (by omega))) hpw hz.nop) rfl rfl (Nat.le_of_ble_eq_true rfl) (by decide) (by decide) (fun J3 ⟨hr3, hf3⟩ => ?_)
    refine mv_aload_n (pc := 51) dX5_tree_51 rfl ?_
    refine mv_getR (pc := 52) (q := (z + 61)) dX5_tree_52 fl5_53 (fun _ _ => rfl) (congrArg Prod.fst hz.o) hz.f7 ?_
    refine mv_iconst (pc := 55) (v := 0) dX5_tree_55 (by decide) ?_
    refine mv_putI (pc := 56) dX5_tree_56 fl5_99 rfl rfl (congrArg Prod.fst hz.hi.o) ?_
    refine mv_aload_n (pc := 59) dX5_tree_59 rfl ?_
    refine mv_iconst (pc := 60) (v := 0) dX5_tree_60 (by decide) ?_
    refine mv_putI (pc := 61) dX5_tree_61 fl5_75 rfl rfl (congrArg Prod.fst hz.o) ?_
    refine mv_iconst (pc := 64) (v := 0) dX5_tree_64 (by decide) ?_
    refine mv_istore_n (pc := 65) dX5_tree_65 (by decide) ?_
    have g0 : ∀ b, b ≠ z → b ≠ z + 1 → b ≠ z + 30 → b ≠ z + 61 → (b < z + 3 ∨ z + 21 ≤ b) → (b < z + 31 ∨ z + 46 ≤ b) → mv_up (mv_up J3 (z + 61) 1 0) z 13 0 b = I b := fun b b1 b2 b3 b4 b5 b6 => by
      rw [mv_upN b b1, mv_upN b b4, hf3 b (by omega), mv_upN b b2, hf2 b (by omega)]
      exact hf b b2 b3 (by omega)
    have g1 : mv_up (mv_up J3 (z + 61) 1 0) z 13 0 z 13 = nI 0 := mv_upe
    have g2 : mv_up (mv_up J3 (z + 61) 1 0) z 13 0 (z + 61) 1 = nI 0 := by rw [mv_upN (z + 61) (by omega), mv_upe]; rfl
    have g3 : mv_up (mv_up J3 (z + 61) 1 0) z 13 0 (z + 61) 2 = I (z + 61) 2 := by
      rw [mv_upN (z + 61) (by omega), show ∀ (Z : mv_I) (a : Int32), mv_up Z (z + 61) 1 a (z + 61) 2 = Z (z + 61) 2 from fun Z a => by simp [mv_up], hf3 _ (by omega), mv_upN _ (by omega), hf2 _ (by omega), hf _ (by omega) (by omega) (by omega)]
    have g4 : mv_up (mv_up J3 (z + 61) 1 0) z 13 0 (z + 1) 1 = nI 0 := by
      rw [mv_upN (z + 1) (by omega), mv_upN (z + 1) (by omega), hf3 _ (by omega), mv_upe]; rfl
    have g5 : rc_R (mv_up (mv_up J3 (z + 61) 1 0) z 13 0) (z + 31) (sp_n n2) (xs_st (π2 0 2)) := hr3.eq (fun b b1 b2 => by rw [mv_upN b (by omega), mv_upN b (by omega)])
    have g6 : pl_C (mv_up (mv_up J3 (z + 61) 1 0) z 13 0) (z + 3) (sp_n n2) π2 := hp2.eq (fun b b1 b2 => by rw [mv_upN b (by omega), mv_upN b (by omega), hf3 b (by omega), mv_upN b (by omega)])
    have g7 : mv_up (mv_up J3 (z + 61) 1 0) z 13 0 (z + 30) 2 = nI c := by
      rw [mv_upN (z + 30) (by omega), mv_upN (z + 30) (by omega), hf3 _ (by omega), mv_upN (z + 30) (by omega), hf2 _ (by omega)]; exact h2
    generalize mv_up (mv_up J3 (z + 61) 1 0) z 13 0 = J4 at g0 g1 g2 g3 g4 g5 g6 g7 ⊢
    have loop : ∀ (f i : Nat) (K : mv_I), i + f = 2 → (∀ j, j < i → K (z + 244) j = 0) → (∀ b, b ≠ z + 244 → K b = J4 b) → mv_E l D b0 m5_tree (mv_rm 7) Q 66 [.ref z, .int (nI i)] [] 0 0 n sh K R := by
      intro f
      induction f with
      | zero =>
        intro i K hi k1 k2
        have : i = 2 := by omega
        subst this
        refine mv_iload_n (pc := 66) dX5_tree_66 rfl ?_
        refine mv_iconst (pc := 67) (v := 2) dX5_tree_67 (by decide) ?_
        refine mv_icmp_ge (pc := 68) (tgt := 84) dX5_tree_68 (by decide) (fun hb => ?_) (fun hb => ?_)
        · refine mv_aload_n (pc := 84) dX5_tree_84 rfl ?_
          refine mv_getR (pc := 85) (q := (z + 30)) dX5_tree_85 fl5_34 (fun _ _ => rfl) (congrArg Prod.fst hz.o) hz.f4 ?_
          refine mv_getIx (pc := 88) (x := nI c) dX5_tree_88 fl5_102 rfl (congrArg Prod.fst hz.rd.o) (by rw [k2 (z + 30) (by omega)]; exact g7) ?_
          obtain ⟨-, -, -, ⟨-, nw, nw1, nw2, -⟩, -, -⟩ := id hS
          refine mv_iret (pc := 91) dX5_tree_91 rfl (by decide) (by decide) (hQ _ _ _ ⟨rfl, ⟨⟨by rw [k2 _ (by omega)]; exact g4, fun j hj => by omega⟩, g6.eq (fun b b1 b2 => k2 b (by omega)), g5.eq (fun b b1 b2 => k2 b (by omega)), ⟨by rw [k2 _ (by omega)]; exact g2, nw, nw1, by rw [k2 _ (by omega), g3]; exact nw2, fun i hi => by omega⟩, fun i hi => k1 i hi, ⟨by rw [k2 z (by omega)]; exact g1, fun i hi => by omega⟩⟩, fun b hb => ?_, hz, fun _ _ => rfl⟩)
          rw [k2 b (by omega)]
          exact g0 b (by omega) (by omega) (by omega) (by omega) (by omega) (by omega)
        · exact absurd (by decide) hb
      | succ f ih =>
        intro i K hi k1 k2
        refine mv_iload_n (pc := 66) dX5_tree_66 rfl ?_
        refine mv_iconst (pc := 67) (v := 2) dX5_tree_67 (by decide) ?_
        refine mv_icmp_ge (pc := 68) (tgt := 84) dX5_tree_68 (by decide) (fun hb => ?_) (fun hb => ?_)
        · exact absurd hb (nI_ge (b := 2) (by omega) (by decide))
        · refine mv_aload_n (pc := 71) dX5_tree_71 rfl ?_
          refine mv_getR (pc := 72) (q := (z + 244)) dX5_tree_72 fl5_61 (fun _ _ => rfl) (congrArg Prod.fst hz.o) hz.f9 ?_
          refine mv_iload_n (pc := 75) dX5_tree_75 rfl ?_
          refine mv_iconst (pc := 76) (v := 0) dX5_tree_76 (by decide) ?_
          refine mv_zast (pc := 77) (k := i) dX5_tree_77 hz.ke rfl rfl (by omega) ?_
          refine mv_iinc (pc := 78) (v := nI (i + 1)) dX5_tree_78 (by decide) rfl (nI_1 i) ?_
          refine mv_goto (pc := 81) (tgt := 66) dX5_tree_81 (by decide) ?_
          refine ih (i + 1) _ (by omega) (fun j hj => ?_) (fun b hb => by rw [mv_upN b hb]; exact k2 b hb)
          by_cases q : j = i
          · subst q; rw [mv_upe]
          · simp only [mv_up, q, and_false, if_false]; exact k1 j (by omega)
    exact loop 2 0 J4 (by omega) (fun j hj => by omega) (fun b _ => rfl)
theorem c5_tree {l : Launch} {D : va_G} {b0 n : Nat} {sh : mv_Sh} {I : mv_I} {R : mv_R} {w : Nat → Int32} {L nt uh sn : Nat} {π x : xs_X} {us : Nat → xs_X} {kp : Nat → Option xs_X} {se : Nat → Nat × Nat × Nat} {z : Nat} (hz : ly_ST sh R z) (hS : gc_S I z (w, L, nt, π, x, uh, us, kp, sn, se)) (hW : ab_W (w, L, nt, π, x, uh, us, kp, sn, se)) : mv_C l D b0 m5_tree (mv_rm 7) [.ref z] n sh I R (mv_PI n sh (fun r I' R' => gc_P sh z I R (ab_tree (w, L, nt, π, x, uh, us, kp, sn, se)) r I' R')) := mv_C.of 1 (by decide) (by simp [Value.category]) rfl (e5_tree hz hS hW (fun _ _ _ h => mv_PI.mk h))

