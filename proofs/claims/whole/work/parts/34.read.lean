theorem sp_numb_iff {w : Nat → Int32} {L j lo up : Nat} : sp_numb w L j lo up = true ↔ (tk_k w L j = -2 ∧ lo ≤ tk_v w L j ∧ tk_v w L j ≤ up) := decide_eq_true_iff
theorem sp_opb_iff {k : Int32} : sp_opb k = true ↔ (k = 119 ∨ k = 98 ∨ k = 106 ∨ k = 120 ∨ k = 102) := decide_eq_true_iff
def ly_Rd (sh : mv_Sh) (R : mv_R) (r z q : Nat) : Prop := sh r = (2, 3) ∧ R r 0 = some z ∧ R r 1 = some q
theorem ly_Rd.o {sh : mv_Sh} {R : mv_R} {r z q : Nat} (h : ly_Rd sh R r z q) : sh r = (2, 3) := h.1
def rd_K (sh : mv_Sh) (R : mv_R) (rd z q : Nat) (w : Nat → Int32) (L : Nat) : Prop := ly_Rd sh R rd z q ∧ ly_Tok sh R z ∧ ly_Plan sh R q ∧ tx_W w L ∧ (z + 2 ≤ q ∨ q + 9 ≤ z) ∧ rd ≠ z ∧ rd ≠ z + 1 ∧ (rd < q ∨ q + 9 ≤ rd)
def rd_Fr (z q : Nat) (I I' : mv_I) : Prop := ∀ b, b ≠ z → (b < q ∨ q + 9 ≤ b) → I' b = I b
theorem rd_Fr.rf {z q : Nat} {I : mv_I} : rd_Fr z q I I := fun _ _ _ => rfl
theorem rd_Fr.tr {z q : Nat} {I I1 I2 : mv_I} (h : rd_Fr z q I I1) (h2 : rd_Fr z q I1 I2) : rd_Fr z q I I2 := fun b a1 a2 => (h2 b a1 a2).trans (h b a1 a2)
theorem rd_Fr.tk {z q : Nat} {I I1 I2 : mv_I} (h : rd_Fr z q I I1) (h2 : tk_Fr z I1 I2) : rd_Fr z q I I2 := fun b a1 a2 => (h2.1 b a1).trans (h b a1 a2)
theorem rd_Fr.up {z q a k : Nat} {I I1 : mv_I} {v : Int32} (h : rd_Fr z q I I1) (ha : q ≤ a ∧ a < q + 9) : rd_Fr z q I (mv_up I1 a k v) := fun b a1 a2 => by rw [mv_upN b (by omega)]; exact h b a1 a2
def pc_Fr (q : Nat) (I I' : mv_I) : Prop := ∀ b, (b < q ∨ q + 9 ≤ b) → I' b = I b
theorem rd_Fr.pc {z q : Nat} {I I1 I2 : mv_I} (h : rd_Fr z q I I1) (h2 : pc_Fr q I1 I2) : rd_Fr z q I I2 := fun b a1 a2 => (h2 b a2).trans (h b a1 a2)
theorem tk_A.keep {I I' : mv_I} {z L i : Nat} {w : Nat → Int32} (h : tk_A I z w L i) (e0 : I' z = I z) (e1 : I' (z + 1) = I (z + 1)) : tk_A I' z w L i := by
  unfold tk_A at h ⊢
  rw [e0, e1]
  exact h
theorem pl_C.tk {I I' : mv_I} {q n z : Nat} {π : xs_X} (h : pl_C I q n π) (f : tk_Fr z I I') (hz : z < q ∨ q + 9 ≤ z) : pl_C I' q n π := h.eq (fun b b1 b2 => f.1 b (by omega))
theorem pl_C.set {I : mv_I} {q n t col : Nat} {π : xs_X} {v : Int32} (h : pl_C I q n π) (hc : 2 ≤ col ∧ col ≤ 5) : pl_C (mv_up I (q + (col + 3)) t v) q n (mv_up π t col v) := by
  have e : ∀ j, j ≠ col + 3 → mv_up I (q + (col + 3)) t v (q + j) = I (q + j) := fun j hj => mv_upN _ (by omega)
  have e1 : mv_up I (q + (col + 3)) t v q = I q := mv_upN _ (by omega)
  have p : ∀ u j, j ≠ col → mv_up π t col v u j = π u j := fun u j hj => by simp [mv_up, hj]
  have key : ∀ c, 2 ≤ c → c ≤ 5 → ∀ u, I (q + (c + 3)) u = π u c → mv_up I (q + (col + 3)) t v (q + (c + 3)) u = mv_up π t col v u c := by
    intro c c1 c2 u hu
    by_cases q1 : c = col
    · subst q1
      by_cases q2 : u = t
      · subst q2; rw [mv_upe, mv_upe]
      · simp only [mv_up, q2, and_false, false_and, if_false]; exact hu
    · rw [e _ (by omega), p u c q1]; exact hu
  refine ⟨by rw [e1]; exact h.1, fun u hu => ?_⟩
  obtain ⟨h1, h2, h3, h4, h5, h6, h7⟩ := h.2 u hu
  refine ⟨?_, ?_, key 2 (by omega) (by omega) u h3, key 3 (by omega) (by omega) u h4, key 4 (by omega) (by omega) u h5, key 5 (by omega) (by omega) u h6, fun j hj => ?_⟩
  · rw [e 1 (by omega), p u 0 (by omega)]; exact h1
  · rw [e 2 (by omega), p u 1 (by omega)]; exact h2
  · rw [p u 1 (by omega)] at hj
    rw [e 3 (by omega), e 4 (by omega), p u (6 + 2 * j) (by omega), p u (7 + 2 * j) (by omega)]
    exact h7 j hj
theorem pl_C.add {I : mv_I} {q n t c : Nat} {π : xs_X} {k v : Int32} (h : pl_C I q n π) (hs : ∀ u, u < n → ∃ s, s ≤ 6 ∧ π u 1 = nI s) (hc : π t 1 = nI c) (hc6 : c < 6) : pl_C (mv_up (mv_up (mv_up I (q + 3) (6 * t + c) k) (q + 4) (6 * t + c) v) (q + 2) t (nI c + 1)) q n (sp_add π t c k v) := by
  have e : ∀ j, j ≠ 2 → j ≠ 3 → j ≠ 4 → mv_up (mv_up (mv_up I (q + 3) (6 * t + c) k) (q + 4) (6 * t + c) v) (q + 2) t (nI c + 1) (q + j) = I (q + j) := fun j a b d => by rw [mv_upN _ (by omega), mv_upN _ (by omega), mv_upN _ (by omega)]
  have e1 : mv_up (mv_up (mv_up I (q + 3) (6 * t + c) k) (q + 4) (6 * t + c) v) (q + 2) t (nI c + 1) q = I q := by rw [mv_upN _ (by omega), mv_upN _ (by omega), mv_upN _ (by omega)]
  have p : ∀ u, u ≠ t → sp_add π t c k v u = π u := fun u hu => by unfold sp_add; rw [mv_upN u hu, mv_upN u hu, mv_upN u hu]
  have pt : ∀ j, j ≠ 1 → j ≠ 6 + 2 * c → j ≠ 7 + 2 * c → sp_add π t c k v t j = π t j := fun j a b d => by simp [sp_add, mv_up, a, b, d]
  refine ⟨by rw [e1]; exact h.1, fun u hu => ?_⟩
  obtain ⟨h1, h2, h3, h4, h5, h6, h7⟩ := h.2 u hu
  obtain ⟨su, su6, su1⟩ := hs u hu
  rw [e 1 (by omega) (by omega) (by omega), e 5 (by omega) (by omega) (by omega), e 6 (by omega) (by omega) (by omega), e 7 (by omega) (by omega) (by omega), e 8 (by omega) (by omega) (by omega)]
  by_cases q1 : u = t
  · subst q1
    rw [pt 0 (by omega) (by omega) (by omega), pt 2 (by omega) (by omega) (by omega), pt 3 (by omega) (by omega) (by omega), pt 4 (by omega) (by omega) (by omega), pt 5 (by omega) (by omega) (by omega)]
    have es : sp_add π u c k v u 1 = nI (c + 1) := by unfold sp_add; rw [mv_upe]
    refine ⟨h1, by rw [mv_upe, es, nI_1], h3, h4, h5, h6, fun j hj => ?_⟩
    rw [es, nI_clamp (by omega)] at hj
    rw [mv_upN (q + 3) (by omega), mv_upN (q + 3) (by omega), mv_upN (q + 4) (by omega)]
    by_cases q2 : j = c
    · subst q2
      have a : ¬ 6 + 2 * j = 1 := by omega
      have b : ¬ 6 + 2 * j = 7 + 2 * j := by omega
      have d : ¬ 7 + 2 * j = 1 := by omega
      rw [mv_upe, mv_upe]
      simp [sp_add, mv_up, a, b, d]
    · have a : ¬ 6 * u + j = 6 * u + c := by omega
      rw [pt (6 + 2 * j) (by omega) (by omega) (by omega), pt (7 + 2 * j) (by omega) (by omega) (by omega)]
      simp only [mv_up, a, and_false, if_false]
      have := h7 j (by rw [hc, nI_clamp (by omega)]; omega)
      exact this
  · rw [p u q1]
    refine ⟨h1, ?_, h3, h4, h5, h6, fun j hj => ?_⟩
    · simp only [mv_up, q1, and_false, if_false]
      have a : ¬ q + 2 = q + 3 := by omega
      have b : ¬ q + 2 = q + 4 := by omega
      simp only [a, b, false_and, if_false]
      exact h2
    · have hj6 : j < 6 := by rw [su1, nI_clamp (by omega)] at hj; omega
      have a : ¬ 6 * u + j = 6 * t + c := by omega
      rw [mv_upN (q + 3) (by omega), mv_upN (q + 3) (by omega), mv_upN (q + 4) (by omega)]
      simp only [mv_up, a, and_false, if_false]
      have := h7 j hj
      refine ⟨this.1, ?_⟩
      exact this.2
set_option maxHeartbeats 4000000 in
set_option maxRecDepth 100000 in
theorem e1_addTask {l : Launch} {D : va_G} {b0 n : Nat} {sh : mv_Sh} {I : mv_I} {R : mv_R} {Q : mv_Q} {q nc : Nat} {π π' : xs_X} {pa : Int32} (hq : ly_Plan sh R q) (h : pl_C I q nc π) (hn : nc < 8) (he : ∀ u, u < nc → π' u = π u) (h0 : π' nc 0 = pa) (h1 : π' nc 1 = 0) (h2 : π' nc 2 = 99) (h3 : π' nc 3 = 0) (h4 : π' nc 4 = 0) (h5 : π' nc 5 = 0) (hQ : ∀ r I', (r = nI nc ∧ pl_C I' q (nc + 1) π' ∧ pc_Fr q I I') → Q (some (.int r)) n sh I' R) : mv_E l D b0 m1_addTask (mv_rm 0) Q 0 [.ref q, .int pa, .null] [] 0 0 n sh I R := by
  refine mv_aload_n (pc := 0) dX1_addTask_0 rfl ?_
  refine mv_getIx (pc := 1) (x := nI nc) dX1_addTask_1 fl1_9 rfl (congrArg Prod.fst hq.o) h.1 ?_
  refine mv_bipush (pc := 4) (v := 8) dX1_addTask_4 (by decide) ?_
  refine mv_icmp_lt (pc := 6) (tgt := 12) dX1_addTask_6 (by decide) (fun hb => ?_) (fun hb => ?_)
  · refine mv_aload_n (pc := 12) dX1_addTask_12 rfl ?_
    refine mv_getIx (pc := 13) (x := nI nc) dX1_addTask_13 fl1_9 rfl (congrArg Prod.fst hq.o) h.1 ?_
    refine mv_istore_n (pc := 16) dX1_addTask_16 (by decide) ?_
    refine mv_aload_n (pc := 17) dX1_addTask_17 rfl ?_
    refine mv_dup (pc := 18) dX1_addTask_18 rfl ?_
    refine mv_getIx (pc := 19) (x := nI nc) dX1_addTask_19 fl1_9 rfl (congrArg Prod.fst hq.o) h.1 ?_
    refine mv_iconst (pc := 22) (v := 1) dX1_addTask_22 (by decide) ?_
    refine mv_iadd (pc := 23) dX1_addTask_23 ?_
    refine mv_putI (pc := 24) dX1_addTask_24 fl1_9 rfl rfl (congrArg Prod.fst hq.o) ?_
    refine mv_aload_n (pc := 27) dX1_addTask_27 rfl ?_
    refine mv_getR (pc := 28) (q := q + 1) dX1_addTask_28 fl1_15 (fun _ _ => rfl) (congrArg Prod.fst hq.o) hq.f1 ?_
    refine mv_iload_n (pc := 31) dX1_addTask_31 rfl ?_
    refine mv_iload_n (pc := 32) dX1_addTask_32 rfl ?_
    refine mv_iast (pc := 33) (k := nc) dX1_addTask_33 hq.g1 rfl (by omega) ?_
    refine mv_aload_n (pc := 34) dX1_addTask_34 rfl ?_
    refine mv_getR (pc := 35) (q := q + 2) dX1_addTask_35 fl1_19 (fun _ _ => rfl) (congrArg Prod.fst hq.o) hq.f2 ?_
    refine mv_iload_n (pc := 38) dX1_addTask_38 rfl ?_
    refine mv_iconst (pc := 39) (v := 0) dX1_addTask_39 (by decide) ?_
    refine mv_iast (pc := 40) (k := nc) dX1_addTask_40 hq.g2 rfl (by omega) ?_
    refine mv_aload_n (pc := 41) dX1_addTask_41 rfl ?_
    refine mv_getR (pc := 42) (q := q + 5) dX1_addTask_42 fl1_28 (fun _ _ => rfl) (congrArg Prod.fst hq.o) hq.f5 ?_
    refine mv_iload_n (pc := 45) dX1_addTask_45 rfl ?_
    refine mv_bipush (pc := 46) (v := 99) dX1_addTask_46 (by decide) ?_
    refine mv_iast (pc := 48) (k := nc) dX1_addTask_48 hq.g5 rfl (by omega) ?_
    refine mv_aload_n (pc := 49) dX1_addTask_49 rfl ?_
    refine mv_getR (pc := 50) (q := q + 6) dX1_addTask_50 fl1_31 (fun _ _ => rfl) (congrArg Prod.fst hq.o) hq.f6 ?_
    refine mv_iload_n (pc := 53) dX1_addTask_53 rfl ?_
    refine mv_iconst (pc := 54) (v := 0) dX1_addTask_54 (by decide) ?_
    refine mv_iast (pc := 55) (k := nc) dX1_addTask_55 hq.g6 rfl (by omega) ?_
    refine mv_aload_n (pc := 56) dX1_addTask_56 rfl ?_
    refine mv_getR (pc := 57) (q := q + 7) dX1_addTask_57 fl1_34 (fun _ _ => rfl) (congrArg Prod.fst hq.o) hq.f7 ?_
    refine mv_iload_n (pc := 60) dX1_addTask_60 rfl ?_
    refine mv_iconst (pc := 61) (v := 0) dX1_addTask_61 (by decide) ?_
    refine mv_iast (pc := 62) (k := nc) dX1_addTask_62 hq.g7 rfl (by omega) ?_
    refine mv_aload_n (pc := 63) dX1_addTask_63 rfl ?_
    refine mv_getR (pc := 64) (q := q + 8) dX1_addTask_64 fl1_37 (fun _ _ => rfl) (congrArg Prod.fst hq.o) hq.f8 ?_
    refine mv_iload_n (pc := 67) dX1_addTask_67 rfl ?_
    refine mv_iconst (pc := 68) (v := 0) dX1_addTask_68 (by decide) ?_
    refine mv_iast (pc := 69) (k := nc) dX1_addTask_69 hq.g8 rfl (by omega) ?_
    refine mv_iload_n (pc := 70) dX1_addTask_70 rfl ?_
    refine mv_iret (pc := 71) dX1_addTask_71 rfl (by decide) (by decide) (hQ _ _ ⟨rfl, ⟨?_, fun t ht => ?_⟩, fun b hb => ?_⟩)
    · simp [mv_up, nI_1]
    · by_cases qt : t = nc
      · subst qt
        refine ⟨by simp [mv_up, h0], by simp [mv_up, h1], by simp [mv_up, h2], by simp [mv_up, h3], by simp [mv_up, h4], by simp [mv_up, h5], fun j hj => ?_⟩
        rw [h1] at hj
        exact absurd hj (Nat.not_lt_zero j)
      · have ht' : t < nc := by omega
        rw [he t ht']
        obtain ⟨a1, a2, a3, a4, a5, a6, a7⟩ := h.2 t ht'
        refine ⟨by simpa [mv_up, qt] using a1, by simpa [mv_up, qt] using a2, by simpa [mv_up, qt] using a3, by simpa [mv_up, qt] using a4, by simpa [mv_up, qt] using a5, by simpa [mv_up, qt] using a6, fun j hj => ?_⟩
        simpa [mv_up] using a7 j hj
    · rw [mv_upN b (by omega), mv_upN b (by omega), mv_upN b (by omega), mv_upN b (by omega), mv_upN b (by omega), mv_upN b (by omega), mv_upN b (by omega)]
  · exact absurd (nI_lt (b := 8) (by omega) (by decide)) hb
theorem c1_addTask {l : Launch} {D : va_G} {b0 n : Nat} {sh : mv_Sh} {I : mv_I} {R : mv_R} {q nc : Nat} {π π' : xs_X} {pa : Int32} (hq : ly_Plan sh R q) (h : pl_C I q nc π) (hn : nc < 8) (he : ∀ u, u < nc → π' u = π u) (h0 : π' nc 0 = pa) (h1 : π' nc 1 = 0) (h2 : π' nc 2 = 99) (h3 : π' nc 3 = 0) (h4 : π' nc 4 = 0) (h5 : π' nc 5 = 0) : mv_C l D b0 m1_addTask (mv_rm 0) [.ref q, .int pa] n sh I R (mv_Pi n sh R (fun r I' => r = nI nc ∧ pl_C I' q (nc + 1) π' ∧ pc_Fr q I I')) := mv_C.of 1 (by decide) (by simp [Value.category]) rfl (e1_addTask hq h hn he h0 h1 h2 h3 h4 h5 (fun _ _ h => mv_Pi.mk h))
set_option maxHeartbeats 4000000 in
set_option maxRecDepth 100000 in
theorem e1_tellAnew {l : Launch} {D : va_G} {b0 n : Nat} {sh : mv_Sh} {I : mv_I} {R : mv_R} {Q : mv_Q} {q : Nat} (hq : ly_Plan sh R q) (hQ : ∀ I', (pl_C I' q 1 sp_0 ∧ pc_Fr q I I') → Q none n sh I' R) : mv_E l D b0 m1_tellAnew (mv_rm 1) Q 0 [.ref q] [] 0 0 n sh I R := by
  refine mv_aload_n (pc := 0) dX1_tellAnew_0 rfl ?_
  refine mv_iconst (pc := 1) (v := 0) dX1_tellAnew_1 (by decide) ?_
  refine mv_putI (pc := 2) dX1_tellAnew_2 fl1_9 rfl rfl (congrArg Prod.fst hq.o) ?_
  refine mv_aload_n (pc := 5) dX1_tellAnew_5 rfl ?_
  refine mv_bipush (pc := 6) (v := -9) dX1_tellAnew_6 (by decide) ?_
  refine mv_cVi (pc := 8) dX1_tellAnew_8 lk1_43 (congrArg Prod.fst hq.o) (c1_addTask (nc := 0) (π := sp_0) (π' := sp_0) hq ⟨mv_upe, fun t ht => by omega⟩ (by decide) (fun u hu => by omega) rfl rfl rfl rfl rfl rfl) rfl rfl (Nat.le_of_ble_eq_true rfl) (by decide) (by decide) (fun r J ⟨_, hp, hf⟩ => ?_)
  refine mv_pop (pc := 11) dX1_tellAnew_11 rfl ?_
  exact mv_vret (pc := 12) dX1_tellAnew_12 rfl (by decide) (by decide) (hQ _ ⟨hp, fun b hb => by rw [hf b hb, mv_upN b (by omega)]⟩)
theorem c1_tellAnew {l : Launch} {D : va_G} {b0 n : Nat} {sh : mv_Sh} {I : mv_I} {R : mv_R} {q : Nat} (hq : ly_Plan sh R q) : mv_C l D b0 m1_tellAnew (mv_rm 1) [.ref q] n sh I R (mv_Pv n sh R (fun I' => pl_C I' q 1 sp_0 ∧ pc_Fr q I I')) := mv_C.of 0 (by decide) (by simp [Value.category]) rfl (e1_tellAnew hq (fun _ h => mv_Pv.mk h))
set_option maxHeartbeats 4000000 in
set_option maxRecDepth 100000 in
theorem e1_addOperation {l : Launch} {D : va_G} {b0 n : Nat} {sh : mv_Sh} {I : mv_I} {R : mv_R} {Q : mv_Q} {q nc t c : Nat} {π : xs_X} {k v : Int32} (hq : ly_Plan sh R q) (h : pl_C I q nc π) (hn : nc ≤ 8) (ht : t < nc) (hs : ∀ u, u < nc → ∃ s, s ≤ 6 ∧ π u 1 = nI s) (hc : π t 1 = nI c) (hc6 : c < 6) (hQ : ∀ r I', (r = 1 ∧ pl_C I' q nc (sp_add π t c k v) ∧ pc_Fr q I I') → Q (some (.int r)) n sh I' R) : mv_E l D b0 m1_addOperation (mv_rm 0) Q 0 [.ref q, .int (nI t), .int k, .int v, .null] [] 0 0 n sh I R := by
  have h2 : I (q + 2) t = nI c := (h.2 t ht).2.1.trans hc
  refine mv_iload_n (pc := 0) dX1_addOperation_0 rfl ?_
  refine mv_if_lt (pc := 1) (tgt := 23) dX1_addOperation_1 (by decide) (fun hb => ?_) (fun hb => ?_)
  · exact absurd hb (nI_pos (by omega))
  · refine mv_iload_n (pc := 4) dX1_addOperation_4 rfl ?_
    refine mv_aload_n (pc := 5) dX1_addOperation_5 rfl ?_
    refine mv_getIx (pc := 6) (x := nI nc) dX1_addOperation_6 fl1_9 rfl (congrArg Prod.fst hq.o) h.1 ?_
    refine mv_icmp_ge (pc := 9) (tgt := 23) dX1_addOperation_9 (by decide) (fun hb2 => ?_) (fun hb2 => ?_)
    · exact absurd hb2 (nI_ge (by omega) (by omega))
    · refine mv_aload_n (pc := 12) dX1_addOperation_12 rfl ?_
      refine mv_getR (pc := 13) (q := q + 2) dX1_addOperation_13 fl1_19 (fun _ _ => rfl) (congrArg Prod.fst hq.o) hq.f2 ?_
      refine mv_iload_n (pc := 16) dX1_addOperation_16 rfl ?_
      refine mv_ialdx (pc := 17) (x := nI c) (k := t) dX1_addOperation_17 hq.g2 rfl (by omega) h2 ?_
      refine mv_bipush (pc := 18) (v := 6) dX1_addOperation_18 (by decide) ?_
      refine mv_icmp_lt (pc := 20) (tgt := 25) dX1_addOperation_20 (by decide) (fun hb3 => ?_) (fun hb3 => ?_)
      · refine mv_iload_n (pc := 25) dX1_addOperation_25 rfl ?_
        refine mv_bipush (pc := 26) (v := 6) dX1_addOperation_26 (by decide) ?_
        refine mv_imul (pc := 28) dX1_addOperation_28 ?_
        refine mv_aload_n (pc := 29) dX1_addOperation_29 rfl ?_
        refine mv_getR (pc := 30) (q := q + 2) dX1_addOperation_30 fl1_19 (fun _ _ => rfl) (congrArg Prod.fst hq.o) hq.f2 ?_
        refine mv_iload_n (pc := 33) dX1_addOperation_33 rfl ?_
        refine mv_ialdx (pc := 34) (x := nI c) (k := t) dX1_addOperation_34 hq.g2 rfl (by omega) h2 ?_
        refine mv_iadd (pc := 35) dX1_addOperation_35 ?_
        refine mv_top (y := nI (6 * t + c)) (mv_ix t 6 c) ?_
        refine mv_istore (pc := 36) dX1_addOperation_36 (by decide) ?_
        refine mv_aload_n (pc := 38) dX1_addOperation_38 rfl ?_
        refine mv_getR (pc := 39) (q := q + 3) dX1_addOperation_39 fl1_22 (fun _ _ => rfl) (congrArg Prod.fst hq.o) hq.f3 ?_
        refine mv_iload (pc := 42) dX1_addOperation_42 rfl ?_
        refine mv_iload_n (pc := 44) dX1_addOperation_44 rfl ?_
        refine mv_iast (pc := 45) (k := 6 * t + c) dX1_addOperation_45 hq.g3 rfl (by omega) ?_
        refine mv_aload_n (pc := 46) dX1_addOperation_46 rfl ?_
        refine mv_getR (pc := 47) (q := q + 4) dX1_addOperation_47 fl1_25 (fun _ _ => rfl) (congrArg Prod.fst hq.o) hq.f4 ?_
        refine mv_iload (pc := 50) dX1_addOperation_50 rfl ?_
        refine mv_iload_n (pc := 52) dX1_addOperation_52 rfl ?_
        refine mv_iast (pc := 53) (k := 6 * t + c) dX1_addOperation_53 hq.g4 rfl (by omega) ?_
        refine mv_aload_n (pc := 54) dX1_addOperation_54 rfl ?_
        refine mv_getR (pc := 55) (q := q + 2) dX1_addOperation_55 fl1_19 (fun _ _ => rfl) (congrArg Prod.fst hq.o) hq.f2 ?_
        refine mv_iload_n (pc := 58) dX1_addOperation_58 rfl ?_
        refine mv_dup2 (pc := 59) dX1_addOperation_59 rfl rfl ?_
        refine mv_ialdx (pc := 60) (x := nI c) (k := t) dX1_addOperation_60 hq.g2 rfl (by omega) (by simp [mv_up, h2]) ?_
        refine mv_iconst (pc := 61) (v := 1) dX1_addOperation_61 (by decide) ?_
        refine mv_iadd (pc := 62) dX1_addOperation_62 ?_
        refine mv_iast (pc := 63) (k := t) dX1_addOperation_63 hq.g2 rfl (by omega) ?_
        refine mv_iconst (pc := 64) (v := 1) dX1_addOperation_64 (by decide) ?_
        refine mv_zret (pc := 65) dX1_addOperation_65 rfl (by rfl) (by decide) (by decide) (hQ _ _ ⟨rfl, h.add hs hc hc6, fun b hb => by rw [mv_upN b (by omega), mv_upN b (by omega), mv_upN b (by omega)]⟩)
      · exact absurd (nI_lt (b := 6) (by omega) (by decide)) hb3
theorem c1_addOperation {l : Launch} {D : va_G} {b0 n : Nat} {sh : mv_Sh} {I : mv_I} {R : mv_R} {q nc t c : Nat} {π : xs_X} {k v : Int32} (hq : ly_Plan sh R q) (h : pl_C I q nc π) (hn : nc ≤ 8) (ht : t < nc) (hs : ∀ u, u < nc → ∃ s, s ≤ 6 ∧ π u 1 = nI s) (hc : π t 1 = nI c) (hc6 : c < 6) : mv_C l D b0 m1_addOperation (mv_rm 0) [.ref q, .int (nI t), .int k, .int v] n sh I R (mv_Pi n sh R (fun r I' => r = 1 ∧ pl_C I' q nc (sp_add π t c k v) ∧ pc_Fr q I I')) := mv_C.of 1 (by decide) (by simp [Value.category]) rfl (e1_addOperation hq h hn ht hs hc hc6 (fun _ _ h => mv_Pi.mk h))
def rd_Q (I' : mv_I) (r : Int32) (z q : Nat) (w : Nat → Int32) (L n : Nat) (res : Nat ⊕ (Nat × xs_X)) : Prop := match res with
  | .inl s => r = 0 ∧ I' z 4 = nI s ∧ I' z 1 = nI L
  | .inr (i2, π2) => r = 1 ∧ tk_A I' z w L i2 ∧ i2 ≤ L ∧ pl_C I' q n π2
set_option maxHeartbeats 4000000 in
set_option maxRecDepth 100000 in
theorem e2_readEnd {l : Launch} {D : va_G} {b0 n : Nat} {sh : mv_Sh} {I : mv_I} {R : mv_R} {Q : mv_Q} {rd z q L i n' : Nat} {w : Nat → Int32} {π : xs_X} (K : rd_K sh R rd z q w L) (hA : tk_A I z w L i) (hi : i ≤ L) (hp : pl_C I q n' π) (hQ : ∀ r I', (rd_Q I' r z q w L n' (sp_end w L i π) ∧ rd_Fr z q I I') → Q (some (.int r)) n sh I' R) : mv_E l D b0 m2_readEnd (mv_rm 2) Q 0 [.ref rd] [] 0 0 n sh I R := by
  obtain ⟨hr, hz, hq, hw, hzq, hrz, hrz1, hrq⟩ := id K
  have hte := tk_e_le (w := w) hi
  refine mv_aload_n (pc := 0) dX2_readEnd_0 rfl ?_
  refine mv_getR (pc := 1) (q := z) dX2_readEnd_1 fl2_15 (fun _ _ => rfl) (congrArg Prod.fst hr.o) hr.2.1 ?_
  refine mv_getIx (pc := 4) (x := tk_k w L i) dX2_readEnd_4 fl2_33 rfl (congrArg Prod.fst hz.o) hA.2.2.1 ?_
  refine mv_bipush (pc := 7) (v := 59) dX2_readEnd_7 (by decide) ?_
  refine mv_icmp_eq (pc := 9) (tgt := 14) dX2_readEnd_9 (by decide) (fun hb => ?_) (fun hb => ?_)
  · refine mv_aload_n (pc := 14) dX2_readEnd_14 rfl ?_
    refine mv_getR (pc := 15) (q := z) dX2_readEnd_15 fl2_15 (fun _ _ => rfl) (congrArg Prod.fst hr.o) hr.2.1 ?_
    refine mv_cVv (pc := 18) dX2_readEnd_18 lk2_63 (congrArg Prod.fst hz.o) (c4_advance hz hw hA.1 hA.2.1 hA.2.2.2.2.1 hte.2.1) rfl rfl (Nat.le_of_ble_eq_true rfl) (by decide) (by decide) (fun J ⟨hA2, hF⟩ => ?_)
    refine mv_iconst (pc := 21) (v := 1) dX2_readEnd_21 (by decide) ?_
    refine mv_zret (pc := 22) dX2_readEnd_22 rfl (by rfl) (by decide) (by decide) (hQ _ _ ⟨?_, rd_Fr.rf.tk hF⟩)
    unfold sp_end
    rw [if_pos hb]
    exact ⟨rfl, hA2, hte.2.1, hp.tk hF (by omega)⟩
  · refine mv_iconst (pc := 12) (v := 0) dX2_readEnd_12 (by decide) ?_
    refine mv_zret (pc := 13) dX2_readEnd_13 rfl (by rfl) (by decide) (by decide) (hQ _ _ ⟨?_, rd_Fr.rf⟩)
    unfold sp_end
    rw [if_neg hb]
    exact ⟨rfl, hA.2.2.2.1, hA.1⟩
theorem c2_readEnd {l : Launch} {D : va_G} {b0 n : Nat} {sh : mv_Sh} {I : mv_I} {R : mv_R} {rd z q L i n' : Nat} {w : Nat → Int32} {π : xs_X} (K : rd_K sh R rd z q w L) (hA : tk_A I z w L i) (hi : i ≤ L) (hp : pl_C I q n' π) : mv_C l D b0 m2_readEnd (mv_rm 2) [.ref rd] n sh I R (mv_Pi n sh R (fun r I' => rd_Q I' r z q w L n' (sp_end w L i π) ∧ rd_Fr z q I I')) := mv_C.of 0 (by decide) (by simp [Value.category]) rfl (e2_readEnd K hA hi hp (fun _ _ h => mv_Pi.mk h))
set_option maxHeartbeats 4000000 in
set_option maxRecDepth 100000 in
theorem e2_isTaskTold {l : Launch} {D : va_G} {b0 n : Nat} {sh : mv_Sh} {I : mv_I} {R : mv_R} {Q : mv_Q} {rd z q L i nc : Nat} {w : Nat → Int32} {π : xs_X} (K : rd_K sh R rd z q w L) (hA : tk_A I z w L i) (hp : pl_C I q nc π) (hn1 : 1 ≤ nc) (hn8 : nc ≤ 8) (hQ : ∀ r I', (r = (if sp_numb w L i 0 (nc - 1) = true then 1 else 0) ∧ I' = I) → Q (some (.int r)) n sh I' R) : mv_E l D b0 m2_isTaskTold (mv_rm 1) Q 0 [.ref rd] [] 0 0 n sh I R := by
  obtain ⟨hr, hz, hq, hw, hzq, hrz, hrz1, hrq⟩ := id K
  refine mv_aload_n (pc := 0) dX2_isTaskTold_0 rfl ?_
  refine mv_getR (pc := 1) (q := z) dX2_isTaskTold_1 fl2_15 (fun _ _ => rfl) (congrArg Prod.fst hr.o) hr.2.1 ?_
  refine mv_iconst (pc := 4) (v := 0) dX2_isTaskTold_4 (by decide) ?_
  refine mv_aload_n (pc := 5) dX2_isTaskTold_5 rfl ?_
  refine mv_getR (pc := 6) (q := q) dX2_isTaskTold_6 fl2_19 (fun _ _ => rfl) (congrArg Prod.fst hr.o) hr.2.2 ?_
  refine mv_getIx (pc := 9) (x := nI nc) dX2_isTaskTold_9 fl2_70 rfl (congrArg Prod.fst hq.o) hp.1 ?_
  refine mv_iconst (pc := 12) (v := 1) dX2_isTaskTold_12 (by decide) ?_
  refine mv_isub (pc := 13) dX2_isTaskTold_13 ?_
  refine mv_top (y := nI (nc - 1)) (by rw [show nI nc = nI ((nc - 1) + 1) by congr 1; omega]; exact nI_pred (nc - 1)) ?_
  refine mv_cVi (pc := 14) dX2_isTaskTold_14 lk2_83 (congrArg Prod.fst hz.o) (c4_isNumberWithin (lo := 0) hz hA (by decide) (by omega)) rfl rfl (Nat.le_of_ble_eq_true rfl) (by decide) (by decide) (fun r J ⟨e1, e2⟩ => ?_)
  subst e1 e2
  refine mv_zret (pc := 17) dX2_isTaskTold_17 rfl ?_ (by decide) (by decide) (hQ _ _ ⟨?_, rfl⟩)
  · split <;> rfl
  · unfold sp_numb
    by_cases q1 : tk_k w L i = -2 ∧ 0 ≤ tk_v w L i ∧ tk_v w L i ≤ nc - 1
    · rw [if_pos q1, if_pos (decide_eq_true q1)]
    · rw [if_neg q1, if_neg (fun z => q1 (of_decide_eq_true z))]
theorem c2_isTaskTold {l : Launch} {D : va_G} {b0 n : Nat} {sh : mv_Sh} {I : mv_I} {R : mv_R} {rd z q L i nc : Nat} {w : Nat → Int32} {π : xs_X} (K : rd_K sh R rd z q w L) (hA : tk_A I z w L i) (hp : pl_C I q nc π) (hn1 : 1 ≤ nc) (hn8 : nc ≤ 8) : mv_C l D b0 m2_isTaskTold (mv_rm 1) [.ref rd] n sh I R (mv_Pi n sh R (fun r I' => r = (if sp_numb w L i 0 (nc - 1) = true then 1 else 0) ∧ I' = I)) := mv_C.of 0 (by decide) (by simp [Value.category]) rfl (e2_isTaskTold K hA hp hn1 hn8 (fun _ _ h => mv_Pi.mk h))
def sp_one (w : Nat → Int32) (L t c i : Nat) (π : xs_X) : Nat ⊕ (Nat × xs_X) :=
  if sp_opb (tk_k w L i) = true then
    (if tk_k w L i = 119 ∨ tk_k w L i = 102 then
      (if sp_numb w L (tk_e w L i) 1 9 = true then .inr (tk_e w L (tk_e w L i), sp_add π t c (tk_k w L i) (nI (tk_v w L (tk_e w L i)))) else .inl (tk_s w L (tk_e w L i)))
    else .inr (tk_e w L i, sp_add π t c (tk_k w L i) 0))
  else .inl (tk_s w L i)
set_option maxHeartbeats 4000000 in
set_option maxRecDepth 100000 in
theorem e2_readOperation {l : Launch} {D : va_G} {b0 n : Nat} {sh : mv_Sh} {I : mv_I} {R : mv_R} {Q : mv_Q} {rd z q L i nc t c : Nat} {w : Nat → Int32} {π : xs_X} (K : rd_K sh R rd z q w L) (hA : tk_A I z w L i) (hi : i ≤ L) (hp : pl_C I q nc π) (hn : nc ≤ 8) (ht : t < nc) (hs : ∀ u, u < nc → ∃ s, s ≤ 6 ∧ π u 1 = nI s) (hc : π t 1 = nI c) (hc6 : c < 6) (hQ : ∀ r I', (rd_Q I' r z q w L nc (sp_one w L t c i π) ∧ rd_Fr z q I I') → Q (some (.int r)) n sh I' R) : mv_E l D b0 m2_readOperation (mv_rm 2) Q 0 [.ref rd, .int (nI t), .null, .null] [] 0 0 n sh I R := by
  obtain ⟨hr, hz, hq, hw, hzq, hrz, hrz1, hrq⟩ := id K
  have hte := tk_e_le (w := w) hi
  have hte2 := tk_e_le (w := w) hte.2.1
  have fin : ∀ (J : mv_I) (i2 : Nat) (v : Int32), tk_A J z w L i2 → i2 ≤ L → pl_C J q nc π → rd_Fr z q I J → sp_one w L t c i π = .inr (tk_e w L i2, sp_add π t c (tk_k w L i) v) → mv_E l D b0 m2_readOperation (mv_rm 2) Q 75 [.ref rd, .int (nI t), .int (tk_k w L i), .int v] [] 0 0 n sh J R := by
    intro J i2 v hA2 hi2 hp2 hf2 he
    have hte3 := tk_e_le (w := w) hi2
    refine mv_aload_n (pc := 75) dX2_readOperation_75 rfl ?_
    refine mv_getR (pc := 76) (q := z) dX2_readOperation_76 fl2_15 (fun _ _ => rfl) (congrArg Prod.fst hr.o) hr.2.1 ?_
    refine mv_cVv (pc := 79) dX2_readOperation_79 lk2_63 (congrArg Prod.fst hz.o) (c4_advance hz hw hA2.1 hA2.2.1 hA2.2.2.2.2.1 hte3.2.1) rfl rfl (Nat.le_of_ble_eq_true rfl) (by decide) (by decide) (fun J2 ⟨hA3, hF⟩ => ?_)
    refine mv_aload_n (pc := 82) dX2_readOperation_82 rfl ?_
    refine mv_getR (pc := 83) (q := q) dX2_readOperation_83 fl2_19 (fun _ _ => rfl) (congrArg Prod.fst hr.o) hr.2.2 ?_
    refine mv_iload_n (pc := 86) dX2_readOperation_86 rfl ?_
    refine mv_iload_n (pc := 87) dX2_readOperation_87 rfl ?_
    refine mv_iload_n (pc := 88) dX2_readOperation_88 rfl ?_
    refine mv_cVi (pc := 89) dX2_readOperation_89 lk2_96 (congrArg Prod.fst hq.o) (c1_addOperation hq (hp2.tk hF (by omega)) hn ht hs hc hc6) rfl rfl (Nat.le_of_ble_eq_true rfl) (by decide) (by decide) (fun r J3 ⟨e1, hp3, hf3⟩ => ?_)
    subst e1
    refine mv_zret (pc := 92) dX2_readOperation_92 rfl (by rfl) (by decide) (by decide) (hQ _ _ ⟨?_, (hf2.tk hF).pc hf3⟩)
    rw [he]
    exact ⟨rfl, hA3.keep (hf3 z (by omega)) (hf3 (z + 1) (by omega)), hte3.2.1, hp3⟩
  have num : (tk_k w L i = 119 ∨ tk_k w L i = 102) → mv_E l D b0 m2_readOperation (mv_rm 2) Q 22 [.ref rd, .int (nI t), .int (tk_k w L i), .int 0] [] 0 0 n sh I R := by
    intro hwf
    have hop : sp_opb (tk_k w L i) = true := decide_eq_true (hwf.elim Or.inl (fun q => Or.inr (Or.inr (Or.inr (Or.inr q)))))
    refine mv_aload_n (pc := 22) dX2_readOperation_22 rfl ?_
    refine mv_getR (pc := 23) (q := z) dX2_readOperation_23 fl2_15 (fun _ _ => rfl) (congrArg Prod.fst hr.o) hr.2.1 ?_
    refine mv_cVv (pc := 26) dX2_readOperation_26 lk2_63 (congrArg Prod.fst hz.o) (c4_advance hz hw hA.1 hA.2.1 hA.2.2.2.2.1 hte.2.1) rfl rfl (Nat.le_of_ble_eq_true rfl) (by decide) (by decide) (fun J ⟨hA2, hF⟩ => ?_)
    refine mv_aload_n (pc := 29) dX2_readOperation_29 rfl ?_
    refine mv_getR (pc := 30) (q := z) dX2_readOperation_30 fl2_15 (fun _ _ => rfl) (congrArg Prod.fst hr.o) hr.2.1 ?_
    refine mv_iconst (pc := 33) (v := 1) dX2_readOperation_33 (by decide) ?_
    refine mv_bipush (pc := 34) (v := 9) dX2_readOperation_34 (by decide) ?_
    refine mv_cVi (pc := 36) dX2_readOperation_36 lk2_83 (congrArg Prod.fst hz.o) (c4_isNumberWithin (lo := 1) (hi := 9) hz hA2 (by decide) (by decide)) rfl rfl (Nat.le_of_ble_eq_true rfl) (by decide) (by decide) (fun r J' ⟨e1, e2⟩ => ?_)
    subst e1 e2
    refine mv_if_ne (pc := 39) (tgt := 44) dX2_readOperation_39 (by decide) (fun hb => ?_) (fun hb => ?_)
    · have hq1 : tk_k w L (tk_e w L i) = -2 ∧ 1 ≤ tk_v w L (tk_e w L i) ∧ tk_v w L (tk_e w L i) ≤ 9 := Classical.byContradiction fun q => hb (by rw [if_neg q])
      refine mv_aload_n (pc := 44) dX2_readOperation_44 rfl ?_
      refine mv_getR (pc := 45) (q := z) dX2_readOperation_45 fl2_15 (fun _ _ => rfl) (congrArg Prod.fst hr.o) hr.2.1 ?_
      refine mv_getIx (pc := 48) (x := nI (tk_v w L (tk_e w L i))) dX2_readOperation_48 fl2_76 rfl (congrArg Prod.fst hz.o) (hA2.2.2.2.2.2 hq1.1).1 ?_
      refine mv_istore_n (pc := 51) dX2_readOperation_51 (by decide) ?_
      refine mv_goto (pc := 52) (tgt := 75) dX2_readOperation_52 (by decide) ?_
      refine fin _ _ _ hA2 hte.2.1 (hp.tk hF (by omega)) (rd_Fr.rf.tk hF) ?_
      unfold sp_one
      rw [if_pos hop, if_pos hwf, if_pos (sp_numb_iff.mpr hq1)]
    · have hq1 : ¬ (tk_k w L (tk_e w L i) = -2 ∧ 1 ≤ tk_v w L (tk_e w L i) ∧ tk_v w L (tk_e w L i) ≤ 9) := fun q => by rw [if_pos q] at hb; exact absurd hb (by decide)
      refine mv_iconst (pc := 42) (v := 0) dX2_readOperation_42 (by decide) ?_
      refine mv_zret (pc := 43) dX2_readOperation_43 rfl (by rfl) (by decide) (by decide) (hQ _ _ ⟨?_, rd_Fr.rf.tk hF⟩)
      unfold sp_one
      rw [if_pos hop, if_pos hwf, if_neg (fun z => hq1 (sp_numb_iff.mp z))]
      exact ⟨rfl, hA2.2.2.2.1, hA2.1⟩
  have plain : (tk_k w L i = 98 ∨ tk_k w L i = 106 ∨ tk_k w L i = 120) → ¬ (tk_k w L i = 119 ∨ tk_k w L i = 102) → mv_E l D b0 m2_readOperation (mv_rm 2) Q 75 [.ref rd, .int (nI t), .int (tk_k w L i), .int 0] [] 0 0 n sh I R := by
    intro h3 hwf
    refine fin I i 0 hA hi hp rd_Fr.rf ?_
    unfold sp_one
    rw [if_pos (sp_opb_iff.mpr (Or.inr (h3.elim Or.inl (fun q => Or.inr (q.elim Or.inl (fun q => Or.inr (Or.inl q))))))), if_neg hwf]
  refine mv_aload_n (pc := 0) dX2_readOperation_0 rfl ?_
  refine mv_getR (pc := 1) (q := z) dX2_readOperation_1 fl2_15 (fun _ _ => rfl) (congrArg Prod.fst hr.o) hr.2.1 ?_
  refine mv_getIx (pc := 4) (x := tk_k w L i) dX2_readOperation_4 fl2_33 rfl (congrArg Prod.fst hz.o) hA.2.2.1 ?_
  refine mv_istore_n (pc := 7) dX2_readOperation_7 (by decide) ?_
  refine mv_iconst (pc := 8) (v := 0) dX2_readOperation_8 (by decide) ?_
  refine mv_istore_n (pc := 9) dX2_readOperation_9 (by decide) ?_
  refine mv_iload_n (pc := 10) dX2_readOperation_10 rfl ?_
  refine mv_bipush (pc := 11) (v := 119) dX2_readOperation_11 (by decide) ?_
  refine mv_icmp_eq (pc := 13) (tgt := 22) dX2_readOperation_13 (by decide) (fun hb => ?_) (fun hb => ?_)
  · exact num (Or.inl hb)
  · refine mv_iload_n (pc := 16) dX2_readOperation_16 rfl ?_
    refine mv_bipush (pc := 17) (v := 102) dX2_readOperation_17 (by decide) ?_
    refine mv_icmp_ne (pc := 19) (tgt := 55) dX2_readOperation_19 (by decide) (fun hb2 => ?_) (fun hb2 => ?_)
    · have hwf : ¬ (tk_k w L i = 119 ∨ tk_k w L i = 102) := fun q => q.elim hb hb2
      refine mv_iload_n (pc := 55) dX2_readOperation_55 rfl ?_
      refine mv_bipush (pc := 56) (v := 98) dX2_readOperation_56 (by decide) ?_
      refine mv_icmp_eq (pc := 58) (tgt := 75) dX2_readOperation_58 (by decide) (fun hb3 => ?_) (fun hb3 => ?_)
      · exact plain (Or.inl hb3) hwf
      · refine mv_iload_n (pc := 61) dX2_readOperation_61 rfl ?_
        refine mv_bipush (pc := 62) (v := 106) dX2_readOperation_62 (by decide) ?_
        refine mv_icmp_eq (pc := 64) (tgt := 75) dX2_readOperation_64 (by decide) (fun hb4 => ?_) (fun hb4 => ?_)
        · exact plain (Or.inr (Or.inl hb4)) hwf
        · refine mv_iload_n (pc := 67) dX2_readOperation_67 rfl ?_
          refine mv_bipush (pc := 68) (v := 120) dX2_readOperation_68 (by decide) ?_
          refine mv_icmp_eq (pc := 70) (tgt := 75) dX2_readOperation_70 (by decide) (fun hb5 => ?_) (fun hb5 => ?_)
          · exact plain (Or.inr (Or.inr hb5)) hwf
          · refine mv_iconst (pc := 73) (v := 0) dX2_readOperation_73 (by decide) ?_
            refine mv_zret (pc := 74) dX2_readOperation_74 rfl (by rfl) (by decide) (by decide) (hQ _ _ ⟨?_, rd_Fr.rf⟩)
            unfold sp_one
            rw [if_neg (fun z => (sp_opb_iff.mp z).elim hb (fun z => z.elim hb3 (fun z => z.elim hb4 (fun z => z.elim hb5 hb2))))]
            exact ⟨rfl, hA.2.2.2.1, hA.1⟩
    · exact num (Or.inr hb2)
theorem c2_readOperation {l : Launch} {D : va_G} {b0 n : Nat} {sh : mv_Sh} {I : mv_I} {R : mv_R} {rd z q L i nc t c : Nat} {w : Nat → Int32} {π : xs_X} (K : rd_K sh R rd z q w L) (hA : tk_A I z w L i) (hi : i ≤ L) (hp : pl_C I q nc π) (hn : nc ≤ 8) (ht : t < nc) (hs : ∀ u, u < nc → ∃ s, s ≤ 6 ∧ π u 1 = nI s) (hc : π t 1 = nI c) (hc6 : c < 6) : mv_C l D b0 m2_readOperation (mv_rm 2) [.ref rd, .int (nI t)] n sh I R (mv_Pi n sh R (fun r I' => rd_Q I' r z q w L nc (sp_one w L t c i π) ∧ rd_Fr z q I I')) := mv_C.of 2 (by decide) (by simp [Value.category]) rfl (e2_readOperation K hA hi hp hn ht hs hc hc6 (fun _ _ h => mv_Pi.mk h))
set_option maxHeartbeats 4000000 in
set_option maxRecDepth 100000 in
theorem e2_readOperations {l : Launch} {D : va_G} {b0 n : Nat} {sh : mv_Sh} {I : mv_I} {R : mv_R} {Q : mv_Q} {rd z q L i n' t : Nat} {w : Nat → Int32} {π : xs_X} (K : rd_K sh R rd z q w L) (hA : tk_A I z w L i) (hi : i ≤ L) (hp : pl_C I q (sp_n n') π) (hW : sp_W n' π) (ht : t < sp_n n') (hc : π t 1 = nI 0) (hQ : ∀ r I', (rd_Q I' r z q w L (sp_n n') (sp_ops w L t 7 0 i π) ∧ rd_Fr z q I I') → Q (some (.int r)) n sh I' R) : mv_E l D b0 m2_readOperations (mv_rm 3) Q 0 [.ref rd, .int (nI t), .null] [] 0 0 n sh I R := by
  obtain ⟨hr, hz, hq, hw, hzq, hrz, hrz1, hrq⟩ := id K
  have hn := sp_nn hW.1
  have fin : ∀ (c i2 : Nat) (J : mv_I) (π2 : xs_X), tk_A J z w L i2 → i2 ≤ L → pl_C J q (sp_n n') π2 → rd_Fr z q I J → sp_ops w L t 7 0 i π = sp_end w L i2 π2 → mv_E l D b0 m2_readOperations (mv_rm 3) Q 36 [.ref rd, .int (nI t), .int (nI c)] [] 0 0 n sh J R := by
    intro c i2 J π2 hA2 hi2 hp2 hf2 he
    refine mv_aload_n (pc := 36) dX2_readOperations_36 rfl ?_
    refine mv_cVi (pc := 37) dX2_readOperations_37 lk2_87 (congrArg Prod.fst hr.o) (c2_readEnd K hA2 hi2 hp2) rfl rfl (Nat.le_of_ble_eq_true rfl) (by decide) (by decide) (fun r J2 ⟨hq2, hf3⟩ => ?_)
    refine mv_zret (pc := 40) dX2_readOperations_40 rfl ?_ (by decide) (by decide) (hQ _ _ ⟨by rw [he]; exact hq2, hf2.tr hf3⟩)
    unfold sp_end at hq2
    split at hq2
    · rw [hq2.1]; rfl
    · rw [hq2.1]; rfl
  have loop : ∀ (f c i2 : Nat) (J : mv_I) (π2 : xs_X), c + f = 6 → tk_A J z w L i2 → i2 ≤ L → pl_C J q (sp_n n') π2 → sp_W n' π2 → π2 t 1 = nI c → rd_Fr z q I J → sp_ops w L t 7 0 i π = sp_ops w L t (f + 1) c i2 π2 → mv_E l D b0 m2_readOperations (mv_rm 3) Q 2 [.ref rd, .int (nI t), .int (nI c)] [] 0 0 n sh J R := by
    intro f
    induction f with
    | zero =>
      intro c i2 J π2 hcf hA2 hi2 hp2 hW2 hc2 hf2 he
      have : c = 6 := by omega
      subst this
      refine mv_iload_n (pc := 2) dX2_readOperations_2 rfl ?_
      refine mv_bipush (pc := 3) (v := 6) dX2_readOperations_3 (by decide) ?_
      refine mv_icmp_ge (pc := 5) (tgt := 36) dX2_readOperations_5 (by decide) (fun hb => ?_) (fun hb => ?_)
      · refine fin 6 i2 J π2 hA2 hi2 hp2 hf2 ?_
        rw [he, sp_ops]
        unfold sp_end
        split
        · rfl
        · rw [if_neg (fun q => absurd q.2 (by decide))]
      · exact absurd (by decide) hb
    | succ f ih =>
      intro c i2 J π2 hcf hA2 hi2 hp2 hW2 hc2 hf2 he
      have hte := tk_e_le (w := w) hi2
      have hte2 := tk_e_le (w := w) hte.2.1
      refine mv_iload_n (pc := 2) dX2_readOperations_2 rfl ?_
      refine mv_bipush (pc := 3) (v := 6) dX2_readOperations_3 (by decide) ?_
      refine mv_icmp_ge (pc := 5) (tgt := 36) dX2_readOperations_5 (by decide) (fun hb => ?_) (fun hb => ?_)
      · exact absurd hb (nI_ge (b := 6) (by omega) (by decide))
      · refine mv_aload_n (pc := 8) dX2_readOperations_8 rfl ?_
        refine mv_getR (pc := 9) (q := z) dX2_readOperations_9 fl2_15 (fun _ _ => rfl) (congrArg Prod.fst hr.o) hr.2.1 ?_
        refine mv_getIx (pc := 12) (x := tk_k w L i2) dX2_readOperations_12 fl2_33 rfl (congrArg Prod.fst hz.o) hA2.2.2.1 ?_
        refine mv_bipush (pc := 15) (v := 59) dX2_readOperations_15 (by decide) ?_
        refine mv_icmp_eq (pc := 17) (tgt := 36) dX2_readOperations_17 (by decide) (fun hb2 => ?_) (fun hb2 => ?_)
        · refine fin c i2 J π2 hA2 hi2 hp2 hf2 ?_
          rw [he, sp_ops, if_pos hb2]
          unfold sp_end
          rw [if_pos hb2]
        · have hsz : ∀ u, u < sp_n n' → ∃ s, s ≤ 6 ∧ π2 u 1 = nI s := fun u hu => by
            obtain ⟨s, s6, s1, -⟩ := (hW2.2.1.T hu).2.1
            exact ⟨s, s6, s1⟩
          refine mv_aload_n (pc := 20) dX2_readOperations_20 rfl ?_
          refine mv_iload_n (pc := 21) dX2_readOperations_21 rfl ?_
          refine mv_cVi (pc := 22) dX2_readOperations_22 lk2_93 (congrArg Prod.fst hr.o) (c2_readOperation K hA2 hi2 hp2 hn.2.1 ht hsz hc2 (by omega)) rfl rfl (Nat.le_of_ble_eq_true rfl) (by decide) (by decide) (fun r J2 ⟨hq2, hf3⟩ => ?_)
          -- what one operation gives
          have step : ∀ (i3 : Nat) (k v : Int32), (((k = 119 ∨ k = 102) ∧ ∃ y, 1 ≤ y ∧ y ≤ 9 ∧ v = nI y) ∨ k = 98 ∨ k = 106 ∨ k = 120) → rd_Q J2 r z q w L (sp_n n') (.inr (i3, sp_add π2 t c k v)) → sp_ops w L t (f + 1 + 1) c i2 π2 = sp_ops w L t (f + 1) (c + 1) i3 (sp_add π2 t c k v) → mv_E l D b0 m2_readOperations (mv_rm 3) Q 25 [.ref rd, .int (nI t), .int (nI c)] [.int r] 0 0 n sh J2 R := by
            intro i3 k v hk hq3 he3
            obtain ⟨hr1, hA3, hi3, hp3⟩ := hq3
            subst hr1
            have := hW2.add (k := k) (v := v) ht hc2 (by omega) hk
            refine mv_if_ne (pc := 25) (tgt := 30) dX2_readOperations_25 (by decide) (fun hb3 => ?_) (fun hb3 => ?_)
            · refine mv_iinc (pc := 30) (v := nI (c + 1)) dX2_readOperations_30 (by decide) rfl (nI_1 c) ?_
              refine mv_goto (pc := 33) (tgt := 2) dX2_readOperations_33 (by decide) ?_
              exact ih (c + 1) i3 J2 _ (by omega) hA3 hi3 hp3 this.1 this.2 (hf2.tr hf3) (he.trans he3)
            · exact absurd hb3 (by decide)
          have bad : ∀ s, rd_Q J2 r z q w L (sp_n n') (.inl s) → sp_ops w L t (f + 1 + 1) c i2 π2 = .inl s → mv_E l D b0 m2_readOperations (mv_rm 3) Q 25 [.ref rd, .int (nI t), .int (nI c)] [.int r] 0 0 n sh J2 R := by
            intro s hq3 he3
            obtain ⟨hr0, h4⟩ := hq3
            subst hr0
            refine mv_if_ne (pc := 25) (tgt := 30) dX2_readOperations_25 (by decide) (fun hb3 => ?_) (fun hb3 => ?_)
            · exact absurd rfl hb3
            · refine mv_iconst (pc := 28) (v := 0) dX2_readOperations_28 (by decide) ?_
              refine mv_zret (pc := 29) dX2_readOperations_29 rfl (by rfl) (by decide) (by decide) (hQ _ _ ⟨?_, hf2.tr hf3⟩)
              rw [he, he3]
              exact ⟨rfl, h4⟩
          unfold sp_one at hq2
          by_cases hop : sp_opb (tk_k w L i2) = true
          · rw [if_pos hop] at hq2
            by_cases hwf : tk_k w L i2 = 119 ∨ tk_k w L i2 = 102
            · rw [if_pos hwf] at hq2
              by_cases hnum : sp_numb w L (tk_e w L i2) 1 9 = true
              · rw [if_pos hnum] at hq2
                have hnum2 := of_decide_eq_true hnum
                exact step _ _ _ (Or.inl ⟨hwf, _, hnum2.2.1, hnum2.2.2, rfl⟩) hq2 (by rw [sp_ops, if_neg hb2, if_pos ⟨hop, by omega⟩, if_pos hwf, if_pos hnum])
              · rw [if_neg hnum] at hq2
                exact bad _ hq2 (by rw [sp_ops, if_neg hb2, if_pos ⟨hop, by omega⟩, if_pos hwf, if_neg hnum])
            · rw [if_neg hwf] at hq2
              refine step _ _ _ (Or.inr ?_) hq2 (by rw [sp_ops, if_neg hb2, if_pos ⟨hop, by omega⟩, if_neg hwf])
              rcases of_decide_eq_true hop with q | q | q | q | q
              · exact absurd (Or.inl q) hwf
              · exact Or.inl q
              · exact Or.inr (Or.inl q)
              · exact Or.inr (Or.inr q)
              · exact absurd (Or.inr q) hwf
          · rw [if_neg hop] at hq2
            exact bad _ hq2 (by rw [sp_ops, if_neg hb2, if_neg (fun q => hop q.1)])
  refine mv_iconst (pc := 0) (v := 0) dX2_readOperations_0 (by decide) ?_
  refine mv_istore_n (pc := 1) dX2_readOperations_1 (by decide) ?_
  exact loop 6 0 i I π (by omega) hA hi hp hW hc rd_Fr.rf rfl
theorem c2_readOperations {l : Launch} {D : va_G} {b0 n : Nat} {sh : mv_Sh} {I : mv_I} {R : mv_R} {rd z q L i n' t : Nat} {w : Nat → Int32} {π : xs_X} (K : rd_K sh R rd z q w L) (hA : tk_A I z w L i) (hi : i ≤ L) (hp : pl_C I q (sp_n n') π) (hW : sp_W n' π) (ht : t < sp_n n') (hc : π t 1 = nI 0) : mv_C l D b0 m2_readOperations (mv_rm 3) [.ref rd, .int (nI t)] n sh I R (mv_Pi n sh R (fun r I' => rd_Q I' r z q w L (sp_n n') (sp_ops w L t 7 0 i π) ∧ rd_Fr z q I I')) := mv_C.of 1 (by decide) (by simp [Value.category]) rfl (e2_readOperations K hA hi hp hW ht hc (fun _ _ h => mv_Pi.mk h))

