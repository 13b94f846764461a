theorem pl_M.eq2 {I I' : mv_I} {m n : Nat} {π : xs_X} (h : pl_M I m n π) (e1 : I' m 15 = I m 15) (e2 : I' m 16 = I m 16) (e : ∀ b, m + 8 ≤ b → b < m + 14 → I' b = I b) : pl_M I' m n π := by
  refine ⟨by rw [e1]; exact h.1, fun t ht => ?_⟩
  rw [e2, e (m + 8) (by omega) (by omega), e (m + 9) (by omega) (by omega), e (m + 10) (by omega) (by omega), e (m + 11) (by omega) (by omega), e (m + 12) (by omega) (by omega), e (m + 13) (by omega) (by omega)]
  exact h.2 t ht
section GM
variable {I I' : mv_I} {m : Nat} {w : Nat → Int32} {L nt uh sn : Nat} {π x : xs_X} {us : Nat → xs_X} {kp : Nat → Option xs_X} {se : Nat → Nat × Nat × Nat}
theorem gm_S.txt {w' : Nat → Int32} {L' : Nat} (h : gm_S I m (w, L, nt, π, x, uh, us, kp, sn, se)) (e1 : ∀ k, 8 < k → I' m k = I m k) (e2 : ∀ b, m + 8 ≤ b → I' b = I b) (h0 : I' m 0 = nI L') (h1 : ∀ j, j < L' → I' (m + 1) j = w' j) : gm_S I' m (w', L', nt, π, x, uh, us, kp, sn, se) := by
  obtain ⟨-, h2, h3, h4, h5, h6⟩ := h
  exact ⟨⟨h0, h1⟩, h2.eq2 (e1 15 (by omega)) (e1 16 (by omega)) (fun b b1 b2 => e2 b (by omega)), h3.cp (fun k _ => by rw [e2 (m + 14) (by omega)]), h4.eq (e1 25 (by omega)) (e1 26 (by omega)) (e2 _ (by omega)), fun i hi => (h5 i hi).eq (e2 _ (by omega)) (e2 _ (by omega)), h6.eq (e1 28 (by omega)) (fun b b1 b2 => e2 b (by omega))⟩
theorem gm_S.now {y : xs_X} (h : gm_S I m (w, L, nt, π, x, uh, us, kp, sn, se)) (hf : rm_Fr (m + 14) I I') (hr : rm_R I' (m + 14) y) : gm_S I' m (w, L, nt, π, y, uh, us, kp, sn, se) := by
  obtain ⟨⟨h0, h1⟩, h2, h3, h4, h5, h6⟩ := h
  have em := hf m (by omega)
  exact ⟨⟨by rw [em]; exact h0, fun j hj => by rw [hf (m + 1) (by omega)]; exact h1 j hj⟩, h2.eq em (fun b b1 b2 => hf b (by omega)), hr, h4.eq (by rw [em]) (by rw [em]) (hf _ (by omega)), fun i hi => (h5 i hi).eq (hf _ (by omega)) (hf _ (by omega)), h6.eq (by rw [em]) (fun b b1 b2 => hf b (by omega))⟩
theorem gm_S.his {uh' : Nat} {us' : Nat → xs_X} (h : gm_S I m (w, L, nt, π, x, uh, us, kp, sn, se)) (e1 : ∀ k, k ≠ 25 → k ≠ 26 → I' m k = I m k) (e2 : ∀ b, b ≠ m → b ≠ m + 16 → I' b = I b) (hh : gm_H I' m uh' us') : gm_S I' m (w, L, nt, π, x, uh', us', kp, sn, se) := by
  obtain ⟨⟨h0, h1⟩, h2, h3, h4, h5, h6⟩ := h
  exact ⟨⟨by rw [e1 0 (by omega) (by omega)]; exact h0, fun j hj => by rw [e2 (m + 1) (by omega) (by omega)]; exact h1 j hj⟩, h2.eq2 (e1 15 (by omega) (by omega)) (e1 16 (by omega) (by omega)) (fun b b1 b2 => e2 b (by omega) (by omega)), h3.cp (fun k _ => by rw [e2 (m + 14) (by omega) (by omega)]), hh, fun i hi => (h5 i hi).eq (e2 _ (by omega) (by omega)) (e2 _ (by omega) (by omega)), h6.eq (e1 28 (by omega) (by omega)) (fun b b1 b2 => e2 b (by omega) (by omega))⟩
theorem gm_S.see {sn' : Nat} {se' : Nat → Nat × Nat × Nat} (h : gm_S I m (w, L, nt, π, x, uh, us, kp, sn, se)) (e1 : ∀ k, k ≠ 28 → I' m k = I m k) (e2 : ∀ b, b ≠ m → (b < m + 17 ∨ m + 19 < b) → I' b = I b) (hh : gm_N I' m sn' se') : gm_S I' m (w, L, nt, π, x, uh, us, kp, sn', se') := by
  obtain ⟨⟨h0, h1⟩, h2, h3, h4, h5, h6⟩ := h
  exact ⟨⟨by rw [e1 0 (by omega)]; exact h0, fun j hj => by rw [e2 (m + 1) (by omega) (by omega)]; exact h1 j hj⟩, h2.eq2 (e1 15 (by omega)) (e1 16 (by omega)) (fun b b1 b2 => e2 b (by omega) (by omega)), h3.cp (fun k _ => by rw [e2 (m + 14) (by omega) (by omega)]), h4.eq (e1 25 (by omega)) (e1 26 (by omega)) (e2 _ (by omega) (by omega)), fun i hi => (h5 i hi).eq (e2 _ (by omega) (by omega)) (e2 _ (by omega) (by omega)), hh⟩
theorem gm_S.K {sh : mv_Sh} {R : mv_R} (hm : ly_Mod sh R m) (h : gm_S I m (w, L, nt, π, x, uh, us, kp, sn, se)) (hp : pl_W nt π) : rm_P sh R I m (m + 14) nt π := ⟨hm, hm.g23, Or.inl rfl, h.2.1, hp⟩
theorem gm_F.tr {I2 : mv_I} (h : gm_F m I I') (h2 : gm_F m I' I2) : gm_F m I I2 := fun b hb => (h2 b hb).trans (h b hb)
theorem gm_F.of {a : Nat} (h : rm_Fr a I I') (ha : m ≤ a) : gm_F m I I' := fun b hb => h b (by omega)
end GM
set_option maxHeartbeats 4000000 in
set_option maxRecDepth 100000 in
theorem e6_isTask {l : Launch} {D : va_G} {b0 n : Nat} {sh : mv_Sh} {I : mv_I} {R : mv_R} {Q : mv_Q} {m nt : Nat} {v : Int32} (hm : ly_Mod sh R m) (h : I m 15 = nI nt) (hn1 : 1 ≤ nt) (hn : nt ≤ 8) (hQ : ∀ r I', (r = (if ab_is nt v then 1 else 0) ∧ I' = I) → Q (some (.int r)) n sh I' R) : mv_E l D b0 m6_isTask (mv_rm 1) Q 0 [.ref m, .int v] [] 0 0 n sh I R := by
  refine mv_iload_n (pc := 0) dX6_isTask_0 rfl ?_
  refine mv_iconst (pc := 1) (v := 0) dX6_isTask_1 (by decide) ?_
  refine mv_aload_n (pc := 2) dX6_isTask_2 rfl ?_
  refine mv_getIx (pc := 3) (x := nI nt) dX6_isTask_3 fl6_142 rfl (congrArg Prod.fst hm.o) h ?_
  refine mv_iconst (pc := 6) (v := 1) dX6_isTask_6 (by decide) ?_
  have ep : nI nt - 1 = nI (nt - 1) := by
    obtain ⟨k, rfl⟩ : ∃ k, nt = k + 1 := ⟨nt - 1, by omega⟩
    exact nI_pred k
  refine mv_isub (pc := 7) dX6_isTask_7 ?_
  refine mv_top (y := nI (nt - 1)) ep ?_
  refine mv_cSi (pc := 8) dX6_isTask_8 lk6_80 (c6_in trivial) rfl rfl (Nat.le_of_ble_eq_true rfl) (by decide) (by decide) (fun r J ⟨e1, e2⟩ => ?_)
  subst e1 e2
  refine mv_zret (pc := 11) dX6_isTask_11 rfl (by split <;> rfl) (by decide) (by decide) (hQ _ _ ⟨?_, rfl⟩)
  have : (0 ≤ v ∧ v ≤ nI (nt - 1)) ↔ ab_is nt v := by
    constructor
    · rintro ⟨a, b⟩
      obtain ⟨j, j1, j2⟩ := nI_of (Int32.not_lt.mpr a)
      subst j2
      have := (nI_leI j1 (by omega)).mp b
      exact ab_is_of (by omega) hn
    · intro a
      obtain ⟨t, t1, rfl⟩ := ab_is_n a hn
      exact ⟨nI_pos' (by omega), nI_le (by omega) (by omega)⟩
  simp only [this]
theorem c6_isTask {l : Launch} {D : va_G} {b0 n : Nat} {sh : mv_Sh} {I : mv_I} {R : mv_R} {m nt : Nat} {v : Int32} (hm : ly_Mod sh R m) (h : I m 15 = nI nt) (hn1 : 1 ≤ nt) (hn : nt ≤ 8) : mv_C l D b0 m6_isTask (mv_rm 1) [.ref m, .int v] n sh I R (mv_Pi n sh R (fun r I' => r = (if ab_is nt v then 1 else 0) ∧ I' = I)) := mv_C.of 0 (by decide) (by simp [Value.category]) rfl (e6_isTask hm h hn1 hn (fun _ _ h => mv_Pi.mk h))
set_option maxHeartbeats 4000000 in
set_option maxRecDepth 100000 in
theorem e6_type {l : Launch} {D : va_G} {b0 n : Nat} {sh : mv_Sh} {I : mv_I} {R : mv_R} {Q : mv_Q} {w : Nat → Int32} {L nt uh sn : Nat} {π x : xs_X} {us : Nat → xs_X} {kp : Nat → Option xs_X} {se : Nat → Nat × Nat × Nat} {m : Nat} {v : Int32} (hm : ly_Mod sh R m) (hS : gm_S I m (w, L, nt, π, x, uh, us, kp, sn, se)) (hW : ab_W (w, L, nt, π, x, uh, us, kp, sn, se)) (hQ : ∀ r I', (r = (ab_type v (w, L, nt, π, x, uh, us, kp, sn, se)).1 ∧ gm_S I' m (ab_type v (w, L, nt, π, x, uh, us, kp, sn, se)).2 ∧ gm_F m I I') → Q (some (.int r)) n sh I' R) : mv_E l D b0 m6_type (mv_rm 7) Q 0 [.ref m, .int v] [] 0 0 n sh I R := by
  obtain ⟨⟨s0, s1⟩, -⟩ := id hS
  have hL : L ≤ 120 := hW.1.1
  refine mv_iload_n (pc := 0) dX6_type_0 rfl ?_
  refine mv_iconst (pc := 1) (v := 0) dX6_type_1 (by decide) ?_
  refine mv_sipush (pc := 2) (v := 255) dX6_type_2 (by decide) ?_
  refine mv_cSi (pc := 5) dX6_type_5 lk6_80 (c6_in trivial) rfl rfl (Nat.le_of_ble_eq_true rfl) (by decide) (by decide) (fun r J ⟨e1, e2⟩ => ?_)
  subst e1 e2
  by_cases hv : 0 ≤ v ∧ v ≤ 255
  · rw [if_pos hv]
    refine mv_if_ne (pc := 8) (tgt := 13) dX6_type_8 (by decide) (fun _ => ?_) (fun hb => absurd hb (by decide))
    refine mv_aload_n (pc := 13) dX6_type_13 rfl ?_
    refine mv_getIx (pc := 14) (x := nI L) dX6_type_14 fl6_84 rfl (congrArg Prod.fst hm.o) s0 ?_
    refine mv_bipush (pc := 17) (v := 120) dX6_type_17 (by decide) ?_
    refine mv_icmp_ne (pc := 19) (tgt := 25) dX6_type_19 (by decide) (fun hb => ?_) (fun hb => ?_)
    · have hL2 : L ≠ 120 := fun q => hb (by rw [q]; rfl)
      have e : ab_type v (w, L, nt, π, x, uh, us, kp, sn, se) = (nI (L + 1), (fun j => if j = L then v else w j, L + 1, nt, π, x, uh, us, kp, sn, se)) := (if_neg (fun q => q hv)).trans (if_neg hL2)
      refine mv_aload_n (pc := 25) dX6_type_25 rfl ?_
      refine mv_getR (pc := 26) (q := m + 1) dX6_type_26 fl6_7 (fun _ _ => rfl) (congrArg Prod.fst hm.o) hm.f1 ?_
      refine mv_aload_n (pc := 29) dX6_type_29 rfl ?_
      refine mv_getIx (pc := 30) (x := nI L) dX6_type_30 fl6_84 rfl (congrArg Prod.fst hm.o) s0 ?_
      refine mv_iload_n (pc := 33) dX6_type_33 rfl ?_
      refine mv_iast (pc := 34) (k := L) dX6_type_34 hm.g1 rfl (by omega) ?_
      refine mv_aload_n (pc := 35) dX6_type_35 rfl ?_
      refine mv_dup (pc := 36) dX6_type_36 rfl ?_
      refine mv_getIx (pc := 37) (x := nI L) dX6_type_37 fl6_84 rfl (congrArg Prod.fst hm.o) (by rw [mv_upN m (by omega)]; exact s0) ?_
      refine mv_iconst (pc := 40) (v := 1) dX6_type_40 (by decide) ?_
      refine mv_iadd (pc := 41) dX6_type_41 ?_
      refine mv_putI (pc := 42) dX6_type_42 fl6_84 rfl rfl (congrArg Prod.fst hm.o) ?_
      refine mv_aload_n (pc := 45) dX6_type_45 rfl ?_
      refine mv_getIx (pc := 46) (x := nI (L + 1)) dX6_type_46 fl6_84 rfl (congrArg Prod.fst hm.o) (by rw [mv_upe, nI_1]) ?_
      refine mv_iret (pc := 49) dX6_type_49 rfl (by decide) (by decide) (hQ _ _ ?_)
      rw [e]
      refine ⟨rfl, hS.txt (fun k hk => ?_) (fun b hb => ?_) (by rw [mv_upe, nI_1]) (fun j hj => ?_), fun b hb => ?_⟩
      · rw [show mv_up (mv_up J (m + 1) L v) m 0 (nI L + 1) m k = mv_up J (m + 1) L v m k by simp [mv_up, show ¬ k = 0 by omega], mv_upN m (by omega)]
      · rw [mv_upN b (by omega), mv_upN b (by omega)]
      · rw [mv_upN (m + 1) (by omega)]
        by_cases q : j = L
        · subst q; rw [mv_upe, if_pos rfl]
        · simp only [mv_up, q, and_false, if_false]; exact s1 j (by omega)
      · rw [mv_upN b (by omega), mv_upN b (by omega)]
    · have hL2 : L = 120 := (nI_eq (b := 120) (by omega) (by decide)).mp hb
      have e : ab_type v (w, L, nt, π, x, uh, us, kp, sn, se) = (-3, (w, L, nt, π, x, uh, us, kp, sn, se)) := (if_neg (fun q => q hv)).trans (if_pos hL2)
      refine mv_bipush (pc := 22) (v := -3) dX6_type_22 (by decide) ?_
      refine mv_iret (pc := 24) dX6_type_24 rfl (by decide) (by decide) (hQ _ _ ?_)
      rw [e]
      exact ⟨rfl, hS, fun _ _ => rfl⟩
  · rw [if_neg hv]
    have e : ab_type v (w, L, nt, π, x, uh, us, kp, sn, se) = (-1, (w, L, nt, π, x, uh, us, kp, sn, se)) := if_pos hv
    refine mv_if_ne (pc := 8) (tgt := 13) dX6_type_8 (by decide) (fun hb => absurd hb (by decide)) (fun _ => ?_)
    refine mv_iconst (pc := 11) (v := -1) dX6_type_11 (by decide) ?_
    refine mv_iret (pc := 12) dX6_type_12 rfl (by decide) (by decide) (hQ _ _ ?_)
    rw [e]
    exact ⟨rfl, hS, fun _ _ => rfl⟩
theorem c6_type {l : Launch} {D : va_G} {b0 n : Nat} {sh : mv_Sh} {I : mv_I} {R : mv_R} {w : Nat → Int32} {L nt uh sn : Nat} {π x : xs_X} {us : Nat → xs_X} {kp : Nat → Option xs_X} {se : Nat → Nat × Nat × Nat} {m : Nat} {v : Int32} (hm : ly_Mod sh R m) (hS : gm_S I m (w, L, nt, π, x, uh, us, kp, sn, se)) (hW : ab_W (w, L, nt, π, x, uh, us, kp, sn, se)) : mv_C l D b0 m6_type (mv_rm 7) [.ref m, .int v] n sh I R (mv_Pi n sh R (fun r I' => r = (ab_type v (w, L, nt, π, x, uh, us, kp, sn, se)).1 ∧ gm_S I' m (ab_type v (w, L, nt, π, x, uh, us, kp, sn, se)).2 ∧ gm_F m I I')) := mv_C.of 0 (by decide) (by simp [Value.category]) rfl (e6_type hm hS hW (fun _ _ h => mv_Pi.mk h))
set_option maxHeartbeats 4000000 in
set_option maxRecDepth 100000 in
theorem e6_clear {l : Launch} {D : va_G} {b0 n : Nat} {sh : mv_Sh} {I : mv_I} {R : mv_R} {Q : mv_Q} {w : Nat → Int32} {L nt uh sn : Nat} {π x : xs_X} {us : Nat → xs_X} {kp : Nat → Option xs_X} {se : Nat → Nat × Nat × Nat} {m : Nat} (hm : ly_Mod sh R m) (hS : gm_S I m (w, L, nt, π, x, uh, us, kp, sn, se)) (hW : ab_W (w, L, nt, π, x, uh, us, kp, sn, se)) (hQ : ∀ r I', (r = (ab_clear (w, L, nt, π, x, uh, us, kp, sn, se)).1 ∧ gm_S I' m (ab_clear (w, L, nt, π, x, uh, us, kp, sn, se)).2 ∧ gm_F m I I') → Q (some (.int r)) n sh I' R) : mv_E l D b0 m6_clear (mv_rm 7) Q 0 [.ref m, .null] [] 0 0 n sh I R := by
  refine mv_aload_n (pc := 0) dX6_clear_0 rfl ?_
  refine mv_getIx (pc := 1) (x := nI L) dX6_clear_1 fl6_84 rfl (congrArg Prod.fst hm.o) hS.1.1 ?_
  refine mv_istore_n (pc := 4) dX6_clear_4 (by decide) ?_
  refine mv_aload_n (pc := 5) dX6_clear_5 rfl ?_
  refine mv_iconst (pc := 6) (v := 0) dX6_clear_6 (by decide) ?_
  refine mv_putI (pc := 7) dX6_clear_7 fl6_84 rfl rfl (congrArg Prod.fst hm.o) ?_
  refine mv_iload_n (pc := 10) dX6_clear_10 rfl ?_
  refine mv_iret (pc := 11) dX6_clear_11 rfl (by decide) (by decide) (hQ _ _ ⟨rfl, hS.txt (fun k hk => ?_) (fun b hb => ?_) (by rw [mv_upe]; rfl) (fun j hj => by omega), fun b hb => ?_⟩)
  · simp [mv_up, show ¬ k = 0 by omega]
  · rw [mv_upN b (by omega)]
  · rw [mv_upN b (by omega)]
theorem c6_clear {l : Launch} {D : va_G} {b0 n : Nat} {sh : mv_Sh} {I : mv_I} {R : mv_R} {w : Nat → Int32} {L nt uh sn : Nat} {π x : xs_X} {us : Nat → xs_X} {kp : Nat → Option xs_X} {se : Nat → Nat × Nat × Nat} {m : Nat} (hm : ly_Mod sh R m) (hS : gm_S I m (w, L, nt, π, x, uh, us, kp, sn, se)) (hW : ab_W (w, L, nt, π, x, uh, us, kp, sn, se)) : mv_C l D b0 m6_clear (mv_rm 7) [.ref m] n sh I R (mv_Pi n sh R (fun r I' => r = (ab_clear (w, L, nt, π, x, uh, us, kp, sn, se)).1 ∧ gm_S I' m (ab_clear (w, L, nt, π, x, uh, us, kp, sn, se)).2 ∧ gm_F m I I')) := mv_C.of 1 (by decide) (by simp [Value.category]) rfl (e6_clear hm hS hW (fun _ _ h => mv_Pi.mk h))
theorem ab_rem1 : ∀ u, u < 12 → nI (u + 1) - nI (u + 1) / 12 * 12 = nI ((u + 1) % 12) := by decide
theorem ab_rem2 : ∀ u, u < 12 → nI (u + 11) - nI (u + 11) / 12 * 12 = nI ((u + 11) % 12) := by decide
set_option maxHeartbeats 4000000 in
set_option maxRecDepth 100000 in
theorem e6_remember {l : Launch} {D : va_G} {b0 n : Nat} {sh : mv_Sh} {I : mv_I} {R : mv_R} {Q : mv_Q} {w : Nat → Int32} {L nt uh sn : Nat} {π x : xs_X} {us : Nat → xs_X} {kp : Nat → Option xs_X} {se : Nat → Nat × Nat × Nat} {m : Nat} (hm : ly_Mod sh R m) (hS : gm_S I m (w, L, nt, π, x, uh, us, kp, sn, se)) (huh : uh ≤ 12) (hQ : ∀ I', (gm_S I' m (w, L, nt, π, x, (if uh < 12 then uh + 1 else 12), ab_pu us x, kp, sn, se) ∧ gm_F m I I') → Q none n sh I' R) : mv_E l D b0 m6_remember (mv_rm 0) Q 0 [.ref m, .null] [] 0 0 n sh I R := by
  obtain ⟨-, -, s3, ⟨s4, ua, ua1, ua2, ua3⟩, -, -⟩ := id hS
  have fin : ∀ (v : Int32) (J : mv_I) (z : Value), v = nI (if uh < 12 then uh + 1 else 12) → J m = mv_up I m 26 (nI ((ua + 1) % 12)) m → (∀ j, j < 326 → J (m + 16) (326 * ua + j) = I (m + 14) j) → (∀ i, (i < 326 * ua ∨ 326 * ua + 326 ≤ i) → J (m + 16) i = I (m + 16) i) → (∀ b, b ≠ m → b ≠ m + 16 → J b = I b) → mv_E l D b0 m6_remember (mv_rm 0) Q 69 [.ref m, z] [.int v, .ref m] 0 0 n sh J R := by
    intro v J z hv hJm h1 h2 h3
    refine mv_putI (pc := 69) dX6_remember_69 fl6_152 rfl rfl (congrArg Prod.fst hm.o) ?_
    refine mv_vret (pc := 72) dX6_remember_72 rfl (by decide) (by decide) (hQ _ ⟨?_, fun b hb => by rw [mv_upN b (by omega)]; exact h3 b (by omega) (by omega)⟩)
    refine hS.his (fun k k1 k2 => ?_) (fun b b1 b2 => ?_) ⟨?_, (ua + 1) % 12, by omega, ?_, fun i hi => ?_⟩
    · rw [show mv_up J m 25 v m k = J m k by simp [mv_up, k1], hJm]; simp [mv_up, k2]
    · rw [mv_upN b b1]; exact h3 b b1 b2
    · rw [mv_upe, hv]
    · rw [show mv_up J m 25 v m 26 = J m 26 by simp [mv_up], hJm, mv_upe]
    · by_cases q : i = 0
      · subst q
        have e : ((ua + 1) % 12 + 11 - 0) % 12 = ua := by omega
        rw [e]
        show rm_O _ _ _ x
        exact rm_O.of s3 (fun k hk => by rw [mv_upN (m + 16) (by omega)]; exact h1 k hk)
      · have hi12 : i < 12 ∧ i - 1 < uh := by
          by_cases q2 : uh < 12
          · rw [if_pos q2] at hi; omega
          · rw [if_neg q2] at hi; omega
        have e : ((ua + 1) % 12 + 11 - i) % 12 = (ua + 11 - (i - 1)) % 12 := by omega
        have en : (ua + 11 - (i - 1)) % 12 ≠ ua := by omega
        rw [e]
        show rm_O _ _ _ (if i = 0 then x else us (i - 1))
        rw [if_neg q]
        refine (ua3 (i - 1) hi12.2).eq (fun k hk => ?_)
        rw [mv_upN (m + 16) (by omega), h2 _ (by omega)]
  have loop : ∀ (f k : Nat) (J : mv_I), k + f = 326 → (∀ j, j < k → J (m + 16) (326 * ua + j) = I (m + 14) j) → (∀ i, (i < 326 * ua ∨ 326 * ua + 326 ≤ i) → J (m + 16) i = I (m + 16) i) → (∀ b, b ≠ m + 16 → J b = I b) → mv_E l D b0 m6_remember (mv_rm 0) Q 2 [.ref m, .int (nI k)] [] 0 0 n sh J R := by
    intro f
    induction f with
    | zero =>
      intro k J hk h1 h2 h3
      have : k = 326 := by omega
      subst this
      refine mv_iload_n (pc := 2) dX6_remember_2 rfl ?_
      refine mv_sipush (pc := 3) (v := 326) dX6_remember_3 (by decide) ?_
      refine mv_icmp_ge (pc := 6) (tgt := 36) dX6_remember_6 (by decide) (fun hb => ?_) (fun hb => ?_)
      · have em : J m = I m := h3 m (by omega)
        refine mv_aload_n (pc := 36) dX6_remember_36 rfl ?_
        refine mv_aload_n (pc := 37) dX6_remember_37 rfl ?_
        refine mv_getIx (pc := 38) (x := nI ua) dX6_remember_38 fl6_205 rfl (congrArg Prod.fst hm.o) (by rw [em]; exact ua2) ?_
        refine mv_iconst (pc := 41) (v := 1) dX6_remember_41 (by decide) ?_
        refine mv_iadd (pc := 42) dX6_remember_42 ?_
        refine mv_top (y := nI (ua + 1)) (nI_1 ua) ?_
        refine mv_bipush (pc := 43) (v := 12) dX6_remember_43 (by decide) ?_
        refine mv_irem (pc := 45) dX6_remember_45 (by decide) ?_
        refine mv_top (y := nI ((ua + 1) % 12)) (ab_rem1 ua ua1) ?_
        refine mv_putI (pc := 46) dX6_remember_46 fl6_205 rfl rfl (congrArg Prod.fst hm.o) ?_
        refine mv_aload_n (pc := 49) dX6_remember_49 rfl ?_
        refine mv_dup (pc := 50) dX6_remember_50 rfl ?_
        refine mv_getIx (pc := 51) (x := nI uh) dX6_remember_51 fl6_152 rfl (congrArg Prod.fst hm.o) (by rw [show mv_up J m 26 (nI ((ua + 1) % 12)) m 25 = J m 25 by simp [mv_up], em]; exact s4) ?_
        refine mv_aload_n (pc := 54) dX6_remember_54 rfl ?_
        refine mv_getIx (pc := 55) (x := nI uh) dX6_remember_55 fl6_152 rfl (congrArg Prod.fst hm.o) (by rw [show mv_up J m 26 (nI ((ua + 1) % 12)) m 25 = J m 25 by simp [mv_up], em]; exact s4) ?_
        refine mv_bipush (pc := 58) (v := 12) dX6_remember_58 (by decide) ?_
        have emm : mv_up J m 26 (nI ((ua + 1) % 12)) m = mv_up I m 26 (nI ((ua + 1) % 12)) m := by
          funext k; simp only [mv_up, em]
        refine mv_icmp_ge (pc := 60) (tgt := 67) dX6_remember_60 (by decide) (fun hc => ?_) (fun hc => ?_)
        · refine mv_iconst (pc := 67) (v := 0) dX6_remember_67 (by decide) ?_
          refine mv_iadd (pc := 68) dX6_remember_68 ?_
          refine fin _ _ _ ?_ emm (fun j hj => by rw [mv_upN (m + 16) (by omega)]; exact h1 j hj) (fun i hi => by rw [mv_upN (m + 16) (by omega)]; exact h2 i hi) (fun b b1 b2 => by rw [mv_upN b b1]; exact h3 b b2)
          have : uh = 12 := by
            have := (nI_leI (a := 12) (b := uh) (by decide) (by omega)).mp hc
            omega
          subst this; rfl
        · refine mv_iconst (pc := 63) (v := 1) dX6_remember_63 (by decide) ?_
          refine mv_goto (pc := 64) (tgt := 68) dX6_remember_64 (by decide) ?_
          refine mv_iadd (pc := 68) dX6_remember_68 ?_
          refine fin _ _ _ ?_ emm (fun j hj => by rw [mv_upN (m + 16) (by omega)]; exact h1 j hj) (fun i hi => by rw [mv_upN (m + 16) (by omega)]; exact h2 i hi) (fun b b1 b2 => by rw [mv_upN b b1]; exact h3 b b2)
          have : uh < 12 := Nat.lt_of_not_le fun q => hc (nI_le q (by omega))
          rw [if_pos this, nI_1]
      · exact absurd (by decide) hb
    | succ f ih =>
      intro k J hk h1 h2 h3
      refine mv_iload_n (pc := 2) dX6_remember_2 rfl ?_
      refine mv_sipush (pc := 3) (v := 326) dX6_remember_3 (by decide) ?_
      refine mv_icmp_ge (pc := 6) (tgt := 36) dX6_remember_6 (by decide) (fun hb => ?_) (fun hb => ?_)
      · exact absurd hb (nI_ge (b := 326) (by omega) (by decide))
      · refine mv_aload_n (pc := 9) dX6_remember_9 rfl ?_
        refine mv_getR (pc := 10) (q := m + 16) dX6_remember_10 fl6_55 (fun _ _ => rfl) (congrArg Prod.fst hm.o) hm.f27 ?_
        refine mv_sipush (pc := 13) (v := 326) dX6_remember_13 (by decide) ?_
        refine mv_aload_n (pc := 16) dX6_remember_16 rfl ?_
        refine mv_getIx (pc := 17) (x := nI ua) dX6_remember_17 fl6_205 rfl (congrArg Prod.fst hm.o) (by rw [h3 m (by omega)]; exact ua2) ?_
        refine mv_imul (pc := 20) dX6_remember_20 ?_
        refine mv_iload_n (pc := 21) dX6_remember_21 rfl ?_
        refine mv_iadd (pc := 22) dX6_remember_22 ?_
        refine mv_aload_n (pc := 23) dX6_remember_23 rfl ?_
        refine mv_getR (pc := 24) (q := m + 14) dX6_remember_24 fl6_49 (fun _ _ => rfl) (congrArg Prod.fst hm.o) hm.f23 ?_
        refine mv_iload_n (pc := 27) dX6_remember_27 rfl ?_
        refine mv_ialdx (pc := 28) (x := I (m + 14) k) (k := k) dX6_remember_28 hm.g23 rfl (by omega) (by rw [h3 (m + 14) (by omega)]) ?_
        refine mv_iast (pc := 29) (k := 326 * ua + k) dX6_remember_29 hm.g27 (mv_jx 326 ua k) (by omega) ?_
        refine mv_iinc (pc := 30) (v := nI (k + 1)) dX6_remember_30 (by decide) rfl (nI_1 k) ?_
        refine mv_goto (pc := 33) (tgt := 2) dX6_remember_33 (by decide) ?_
        refine ih (k + 1) _ (by omega) (fun j hj => ?_) (fun i hi => ?_) (fun b hb => ?_)
        · by_cases q : j = k
          · subst q; rw [mv_upe]
          · have : ¬ 326 * ua + j = 326 * ua + k := by omega
            simp only [mv_up, this, and_false, if_false]; exact h1 j (by omega)
        · have : ¬ i = 326 * ua + k := by omega
          simp only [mv_up, this, and_false, if_false]; exact h2 i hi
        · rw [mv_upN b hb]; exact h3 b hb
  refine mv_iconst (pc := 0) (v := 0) dX6_remember_0 (by decide) ?_
  refine mv_istore_n (pc := 1) dX6_remember_1 (by decide) ?_
  exact loop 326 0 I (by omega) (fun j hj => by omega) (fun i _ => rfl) (fun b _ => rfl)
theorem c6_remember {l : Launch} {D : va_G} {b0 n : Nat} {sh : mv_Sh} {I : mv_I} {R : mv_R} {w : Nat → Int32} {L nt uh sn : Nat} {π x : xs_X} {us : Nat → xs_X} {kp : Nat → Option xs_X} {se : Nat → Nat × Nat × Nat} {m : Nat} (hm : ly_Mod sh R m) (hS : gm_S I m (w, L, nt, π, x, uh, us, kp, sn, se)) (huh : uh ≤ 12) : mv_C l D b0 m6_remember (mv_rm 0) [.ref m] n sh I R (mv_Pv n sh R (fun I' => gm_S I' m (w, L, nt, π, x, (if uh < 12 then uh + 1 else 12), ab_pu us x, kp, sn, se) ∧ gm_F m I I')) := mv_C.of 1 (by decide) (by simp [Value.category]) rfl (e6_remember hm hS huh (fun _ h => mv_Pv.mk h))

