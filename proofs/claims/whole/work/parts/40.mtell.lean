theorem tx_bl_stop {w : Nat → Int32} {L : Nat} : ∀ f i, L < f + i → ¬ (tx_bl w L f i < L ∧ w (tx_bl w L f i) = 32)
  | 0, i, h => fun q => by have : tx_bl w L 0 i = i := rfl
                           rw [this] at q
                           omega
  | f + 1, i, h => by
    unfold tx_bl
    split
    · exact tx_bl_stop f (i + 1) (by omega)
    · rename_i q; exact q
theorem tk_ss {w : Nat → Int32} {L i : Nat} : tk_s w L (tk_s w L i) = tk_s w L i := by
  have := tx_bl_stop (w := w) (L := L) (L + 1) i (by omega)
  show tx_bl w L (L + 1) (tk_s w L i) = _
  unfold tx_bl
  exact if_neg this
theorem sp_item_s {w : Nat → Int32} {L i n : Nat} {π : xs_X} : sp_item w L (tk_s w L i) n π = sp_item w L i n π := by
  have ek : tk_k w L (tk_s w L i) = tk_k w L i := by unfold tk_k tk_d; rw [tk_ss]
  have ee : tk_e w L (tk_s w L i) = tk_e w L i := by unfold tk_e tk_d; rw [tk_ss]
  unfold sp_item sp_tsk sp_set sp_gat
  rw [ek, ee, tk_ss]
/-! the row at a place of a longer array -/
def rm_O (I : mv_I) (a o : Nat) (x : xs_X) : Prop := rm_R (fun _ k => I a (o + k)) 0 x
theorem rm_R.cp {I I' : mv_I} {a b : Nat} {x : xs_X} (h : rm_R I a x) (e : ∀ k, k < 326 → I' b k = I a k) : rm_R I' b x := by
  obtain ⟨h1, ⟨h2, h3⟩, h4⟩ := h
  refine ⟨fun t ht k hk => by rw [e _ (by omega)]; exact h1 t ht k hk, ⟨by rw [e _ (by omega)]; exact h2, by rw [e _ (by omega)]; exact h3⟩, fun j hj c hc => by rw [e _ (by omega)]; exact h4 j hj c hc⟩
theorem rm_O.to {I I' : mv_I} {a b o : Nat} {x : xs_X} (h : rm_O I a o x) (e : ∀ k, k < 326 → I' b k = I a (o + k)) : rm_R I' b x := rm_R.cp (I := fun _ k => I a (o + k)) (a := 0) h e
theorem rm_O.of {I I' : mv_I} {a b o : Nat} {x : xs_X} (h : rm_R I b x) (e : ∀ k, k < 326 → I' a (o + k) = I b k) : rm_O I' a o x := rm_R.cp (I' := fun _ k => I' a (o + k)) (b := 0) h e
theorem rm_O.eq {I I' : mv_I} {a o : Nat} {x : xs_X} (h : rm_O I a o x) (e : ∀ k, k < 326 → I' a (o + k) = I a (o + k)) : rm_O I' a o x := rm_R.cp (I := fun _ k => I a (o + k)) (I' := fun _ k => I' a (o + k)) (a := 0) (b := 0) h e
def tl_F (m : Nat) (I J : mv_I) : Prop := ∀ b, (b < m + 8 ∨ m + 14 ≤ b) → J b = I b
def tl_C (m t : Nat) (I J : mv_I) : Prop := (∀ u, u < t → J (m + 8) u = I (m + 2) u ∧ J (m + 9) u = I (m + 3) u ∧ J (m + 11) u = I (m + 5) u ∧ J (m + 12) u = I (m + 6) u ∧ J (m + 13) u = I (m + 7) u)
set_option maxHeartbeats 4000000 in
set_option maxRecDepth 100000 in
theorem e6_tellsAll {l : Launch} {D : va_G} {b0 n : Nat} {sh : mv_Sh} {I : mv_I} {R : mv_R} {Q : mv_Q} {m L i n' : Nat} {w : Nat → Int32} {π : xs_X} (hm : ly_Mod sh R m) (hS : md_S I m w L i n' π) (hW : sp_W n' π) (hQ : ∀ I', (pl_M I' m (sp_n n') π ∧ rm_R I' (m + 14) (xs_st (π 0 2)) ∧ (I' m 25 = nI 0 ∧ I' m 28 = nI 0 ∧ I' (m + 20) 0 = 0 ∧ I' (m + 20) 1 = 0) ∧ (∀ b, b ≠ m → (b < m + 8 ∨ m + 15 ≤ b) → b ≠ m + 20 → I' b = I b) ∧ ∀ k, k ≠ 15 → k ≠ 16 → k ≠ 25 → k ≠ 28 → I' m k = I m k) → Q none n sh I' R) : mv_E l D b0 m6_tellsAll (mv_rm 1) Q 0 [.ref m, .null, .null] [] 0 0 n sh I R := by
  obtain ⟨s1, s2, s3, s4, s5, s6⟩ := id hS
  have hn8 := sp_nn hW.1
  have fin : ∀ (I1 J : mv_I) (a b : Value), I1 m 15 = nI (sp_n n') → I1 m 16 = I m 8 → (∀ b, b ≠ m → I1 b = I b) → (∀ k, k ≠ 15 → k ≠ 16 → I1 m k = I m k) → tl_C m 8 I1 J → (∀ k, k < 96 → J (m + 10) k = I1 (m + 4) k) → tl_F m I1 J → mv_E l D b0 m6_tellsAll (mv_rm 1) Q 135 [.ref m, a, b] [] 0 0 n sh J R := by
    intro I1 J a b g1 g2 g3 g4 hC hA hF
    refine mv_aload_n (pc := 135) dX6_tellsAll_135 rfl ?_
    refine mv_aload_n (pc := 136) dX6_tellsAll_136 rfl ?_
    refine mv_getR (pc := 137) (q := m + 14) dX6_tellsAll_137 fl6_49 (fun _ _ => rfl) (congrArg Prod.fst hm.o) hm.f23 ?_
    refine mv_cVv (pc := 140) dX6_tellsAll_140 lk6_148 (congrArg Prod.fst hm.o) (c6_starts hm hm.g23 (by omega)) rfl rfl (Nat.le_of_ble_eq_true rfl) (by decide) (by decide) (fun J2 ⟨hr, hf⟩ => ?_)
    refine mv_aload_n (pc := 143) dX6_tellsAll_143 rfl ?_
    refine mv_iconst (pc := 144) (v := 0) dX6_tellsAll_144 (by decide) ?_
    refine mv_putI (pc := 145) dX6_tellsAll_145 fl6_152 rfl rfl (congrArg Prod.fst hm.o) ?_
    refine mv_aload_n (pc := 148) dX6_tellsAll_148 rfl ?_
    refine mv_iconst (pc := 149) (v := 0) dX6_tellsAll_149 (by decide) ?_
    refine mv_putI (pc := 150) dX6_tellsAll_150 fl6_155 rfl rfl (congrArg Prod.fst hm.o) ?_
    refine mv_aload_n (pc := 153) dX6_tellsAll_153 rfl ?_
    refine mv_getR (pc := 154) (q := m + 20) dX6_tellsAll_154 fl6_67 (fun _ _ => rfl) (congrArg Prod.fst hm.o) hm.f32 ?_
    refine mv_iconst (pc := 157) (v := 0) dX6_tellsAll_157 (by decide) ?_
    refine mv_iconst (pc := 158) (v := 0) dX6_tellsAll_158 (by decide) ?_
    refine mv_zast (pc := 159) (k := 0) dX6_tellsAll_159 hm.g32 (by decide) rfl (by omega) ?_
    refine mv_aload_n (pc := 160) dX6_tellsAll_160 rfl ?_
    refine mv_getR (pc := 161) (q := m + 20) dX6_tellsAll_161 fl6_67 (fun _ _ => rfl) (congrArg Prod.fst hm.o) hm.f32 ?_
    refine mv_iconst (pc := 164) (v := 1) dX6_tellsAll_164 (by decide) ?_
    refine mv_iconst (pc := 165) (v := 0) dX6_tellsAll_165 (by decide) ?_
    refine mv_zast (pc := 166) (k := 1) dX6_tellsAll_166 hm.g32 (by decide) rfl (by omega) ?_
    have ed : J (m + 11) 0 = π 0 2 := by rw [(hC 0 (by decide)).2.2.1, g3 (m + 5) (by omega)]; exact (s6 0 (by decide)).2.2.1
    have eJ : ∀ b, b ≠ m → b ≠ m + 20 → mv_up (mv_up (mv_up (mv_up J2 m 25 0) m 28 0) (m + 20) 0 0) (m + 20) 1 0 b = J2 b := fun b b1 b2 => by rw [mv_upN b b2, mv_upN b b2, mv_upN b b1, mv_upN b b1]
    have eM : ∀ k, k ≠ 25 → k ≠ 28 → mv_up (mv_up (mv_up (mv_up J2 m 25 0) m 28 0) (m + 20) 0 0) (m + 20) 1 0 m k = J2 m k := fun k k1 k2 => by
      rw [mv_upN m (by omega), mv_upN m (by omega)]; simp [mv_up, k1, k2]
    have e2 : ∀ b, b ≠ m + 14 → J2 b = J b := hf
    refine mv_vret (pc := 167) dX6_tellsAll_167 rfl (by decide) (by decide) (hQ _ ⟨⟨?_, fun t ht => ?_⟩, ?_, ⟨?_, ?_, ?_, ?_⟩, fun b b1 b2 b3 => ?_, fun k k1 k2 k3 k4 => ?_⟩)
    · rw [eM 15 (by decide) (by decide), e2 m (by omega), hF m (by omega)]; exact g1
    · have ht8 : t < 8 := by omega
      obtain ⟨a1, a2, a3, a4, a5, a6, a7⟩ := s6 t ht8
      obtain ⟨c1, c2, c3, c4, c5⟩ := hC t ht8
      rw [eJ (m + 8) (by omega) (by omega), eJ (m + 9) (by omega) (by omega), eJ (m + 10) (by omega) (by omega), eJ (m + 11) (by omega) (by omega), eJ (m + 12) (by omega) (by omega), eJ (m + 13) (by omega) (by omega), eM 16 (by decide) (by decide), e2 m (by omega), hF m (by omega), g2, e2 (m + 8) (by omega), e2 (m + 9) (by omega), e2 (m + 10) (by omega), e2 (m + 11) (by omega), e2 (m + 12) (by omega), e2 (m + 13) (by omega), c1, c2, c3, c4, c5, g3 (m + 2) (by omega), g3 (m + 3) (by omega), g3 (m + 5) (by omega), g3 (m + 6) (by omega), g3 (m + 7) (by omega)]
      refine ⟨a1, a2, a3, a4, a5, a6, fun j hj => ?_⟩
      obtain ⟨-, ⟨s, s6', s1', -⟩, -⟩ := hW.2.1.T ht
      have hj6 : j < 6 := by rw [s1', nI_clamp (by omega)] at hj; omega
      rw [hA _ (by omega), hA _ (by omega), g3 (m + 4) (by omega)]
      exact a7 j hj hj6
    · exact rm_R.cp (by rw [ed] at hr; exact hr) (fun k _ => by rw [eJ _ (by omega) (by omega)])
    · simp [mv_up]; rfl
    · simp [mv_up]; rfl
    · simp [mv_up]
    · simp [mv_up]
    · rw [eJ b b1 b3, e2 b (by omega), hF b (by omega), g3 b b1]
    · rw [eM k k3 k4, e2 m (by omega), hF m (by omega), g4 k k1 k2]
  have mid : ∀ (v : Int32), v = nI (sp_n n') → mv_E l D b0 m6_tellsAll (mv_rm 1) Q 16 [.ref m, .null, .null] [.int v, .ref m] 0 0 n sh I R := by
    intro v hv
    refine mv_putI (pc := 16) dX6_tellsAll_16 fl6_142 rfl rfl (congrArg Prod.fst hm.o) ?_
    refine mv_aload_n (pc := 19) dX6_tellsAll_19 rfl ?_
    refine mv_aload_n (pc := 20) dX6_tellsAll_20 rfl ?_
    refine mv_getIx (pc := 21) (x := I m 8) dX6_tellsAll_21 fl6_123 rfl (congrArg Prod.fst hm.o) (by simp [mv_up]) ?_
    refine mv_putI (pc := 24) dX6_tellsAll_24 fl6_145 rfl rfl (congrArg Prod.fst hm.o) ?_
    refine mv_iconst (pc := 27) (v := 0) dX6_tellsAll_27 (by decide) ?_
    refine mv_istore_n (pc := 28) dX6_tellsAll_28 (by decide) ?_
    have g1 : mv_up (mv_up I m 15 v) m 16 (I m 8) m 15 = nI (sp_n n') := by rw [← hv]; simp [mv_up]
    have g2 : mv_up (mv_up I m 15 v) m 16 (I m 8) m 16 = I m 8 := mv_upe
    have g3 : ∀ b, b ≠ m → mv_up (mv_up I m 15 v) m 16 (I m 8) b = I b := fun b hb => by rw [mv_upN b hb, mv_upN b hb]
    have g4 : ∀ k, k ≠ 15 → k ≠ 16 → mv_up (mv_up I m 15 v) m 16 (I m 8) m k = I m k := fun k k1 k2 => by simp [mv_up, k1, k2]
    generalize mv_up (mv_up I m 15 v) m 16 (I m 8) = I1 at g1 g2 g3 g4 ⊢
    have l1 : ∀ (f t : Nat) (J : mv_I) (z : Value), t + f = 8 → tl_C m t I1 J → (∀ k, k < 12 * t → J (m + 10) k = I1 (m + 4) k) → tl_F m I1 J → mv_E l D b0 m6_tellsAll (mv_rm 1) Q 29 [.ref m, .int (nI t), z] [] 0 0 n sh J R := by
      intro f
      induction f with
      | zero =>
        intro t J z ht hC hA hF
        have : t = 8 := by omega
        subst this
        refine mv_iload_n (pc := 29) dX6_tellsAll_29 rfl ?_
        refine mv_bipush (pc := 30) (v := 8) dX6_tellsAll_30 (by decide) ?_
        refine mv_icmp_ge (pc := 32) (tgt := 135) dX6_tellsAll_32 (by decide) (fun hb => ?_) (fun hb => ?_)
        · exact fin I1 J _ _ g1 g2 g3 g4 hC hA hF
        · exact absurd (by decide) hb
      | succ f ih =>
        intro t J z ht hC hA hF
        have l2 : ∀ (g k : Nat) (J : mv_I), k + g = 12 * t + 12 → 12 * t ≤ k → tl_C m (t + 1) I1 J → (∀ j, j < k → J (m + 10) j = I1 (m + 4) j) → tl_F m I1 J → mv_E l D b0 m6_tellsAll (mv_rm 1) Q 100 [.ref m, .int (nI t), .int (nI k)] [] 0 0 n sh J R := by
          intro g
          induction g with
          | zero =>
            intro k J hk h12 hC hA hF
            refine mv_iload_n (pc := 100) dX6_tellsAll_100 rfl ?_
            refine mv_bipush (pc := 101) (v := 12) dX6_tellsAll_101 (by decide) ?_
            refine mv_iload_n (pc := 103) dX6_tellsAll_103 rfl ?_
            refine mv_imul (pc := 104) dX6_tellsAll_104 ?_
            refine mv_bipush (pc := 105) (v := 12) dX6_tellsAll_105 (by decide) ?_
            refine mv_iadd (pc := 107) dX6_tellsAll_107 ?_
            refine mv_top (y := nI (12 * t + 12)) (mv_jx 12 t 12) ?_
            refine mv_icmp_ge (pc := 108) (tgt := 129) dX6_tellsAll_108 (by decide) (fun hb => ?_) (fun hb => ?_)
            · refine mv_iinc (pc := 129) (v := nI (t + 1)) dX6_tellsAll_129 (by decide) rfl (nI_1 t) ?_
              refine mv_goto (pc := 132) (tgt := 29) dX6_tellsAll_132 (by decide) ?_
              exact ih (t + 1) J _ (by omega) hC (fun j hj => hA j (by omega)) hF
            · exact absurd (nI_le (by omega) (by omega)) hb
          | succ g ihg =>
            intro k J hk h12 hC hA hF
            refine mv_iload_n (pc := 100) dX6_tellsAll_100 rfl ?_
            refine mv_bipush (pc := 101) (v := 12) dX6_tellsAll_101 (by decide) ?_
            refine mv_iload_n (pc := 103) dX6_tellsAll_103 rfl ?_
            refine mv_imul (pc := 104) dX6_tellsAll_104 ?_
            refine mv_bipush (pc := 105) (v := 12) dX6_tellsAll_105 (by decide) ?_
            refine mv_iadd (pc := 107) dX6_tellsAll_107 ?_
            refine mv_top (y := nI (12 * t + 12)) (mv_jx 12 t 12) ?_
            refine mv_icmp_ge (pc := 108) (tgt := 129) dX6_tellsAll_108 (by decide) (fun hb => ?_) (fun hb => ?_)
            · exact absurd hb (nI_ge (by omega) (by omega))
            · refine mv_aload_n (pc := 111) dX6_tellsAll_111 rfl ?_
              refine mv_getR (pc := 112) (q := m + 10) dX6_tellsAll_112 fl6_37 (fun _ _ => rfl) (congrArg Prod.fst hm.o) hm.f19 ?_
              refine mv_iload_n (pc := 115) dX6_tellsAll_115 rfl ?_
              refine mv_aload_n (pc := 116) dX6_tellsAll_116 rfl ?_
              refine mv_getR (pc := 117) (q := m + 4) dX6_tellsAll_117 fl6_19 (fun _ _ => rfl) (congrArg Prod.fst hm.o) hm.f11 ?_
              refine mv_iload_n (pc := 120) dX6_tellsAll_120 rfl ?_
              refine mv_ialdx (pc := 121) (x := I1 (m + 4) k) (k := k) dX6_tellsAll_121 hm.g11 rfl (by omega) (by rw [hF (m + 4) (by omega)]) ?_
              refine mv_iast (pc := 122) (k := k) dX6_tellsAll_122 hm.g19 rfl (by omega) ?_
              refine mv_iinc (pc := 123) (v := nI (k + 1)) dX6_tellsAll_123 (by decide) rfl (nI_1 k) ?_
              refine mv_goto (pc := 126) (tgt := 100) dX6_tellsAll_126 (by decide) ?_
              refine ihg (k + 1) _ (by omega) (by omega) (fun u hu => ?_) (fun j hj => ?_) (fun b hb => ?_)
              · rw [mv_upN (m + 8) (by omega), mv_upN (m + 9) (by omega), mv_upN (m + 11) (by omega), mv_upN (m + 12) (by omega), mv_upN (m + 13) (by omega)]
                exact hC u hu
              · by_cases q : j = k
                · subst q; rw [mv_upe]
                · simp only [mv_up, q, and_false, if_false]; exact hA j (by omega)
              · rw [mv_upN b (by omega)]; exact hF b hb
        refine mv_iload_n (pc := 29) dX6_tellsAll_29 rfl ?_
        refine mv_bipush (pc := 30) (v := 8) dX6_tellsAll_30 (by decide) ?_
        refine mv_icmp_ge (pc := 32) (tgt := 135) dX6_tellsAll_32 (by decide) (fun hb => ?_) (fun hb => ?_)
        · exact absurd hb (nI_ge (b := 8) (by omega) (by decide))
        · refine mv_aload_n (pc := 35) dX6_tellsAll_35 rfl ?_
          refine mv_getR (pc := 36) (q := m + 8) dX6_tellsAll_36 fl6_31 (fun _ _ => rfl) (congrArg Prod.fst hm.o) hm.f17 ?_
          refine mv_iload_n (pc := 39) dX6_tellsAll_39 rfl ?_
          refine mv_aload_n (pc := 40) dX6_tellsAll_40 rfl ?_
          refine mv_getR (pc := 41) (q := m + 2) dX6_tellsAll_41 fl6_13 (fun _ _ => rfl) (congrArg Prod.fst hm.o) hm.f9 ?_
          refine mv_iload_n (pc := 44) dX6_tellsAll_44 rfl ?_
          refine mv_ialdx (pc := 45) (x := I1 (m + 2) t) (k := t) dX6_tellsAll_45 hm.g9 rfl (by omega) (by rw [hF (m + 2) (by omega)]) ?_
          refine mv_iast (pc := 46) (k := t) dX6_tellsAll_46 hm.g17 rfl (by omega) ?_
          refine mv_aload_n (pc := 47) dX6_tellsAll_47 rfl ?_
          refine mv_getR (pc := 48) (q := m + 9) dX6_tellsAll_48 fl6_34 (fun _ _ => rfl) (congrArg Prod.fst hm.o) hm.f18 ?_
          refine mv_iload_n (pc := 51) dX6_tellsAll_51 rfl ?_
          refine mv_aload_n (pc := 52) dX6_tellsAll_52 rfl ?_
          refine mv_getR (pc := 53) (q := m + 3) dX6_tellsAll_53 fl6_16 (fun _ _ => rfl) (congrArg Prod.fst hm.o) hm.f10 ?_
          refine mv_iload_n (pc := 56) dX6_tellsAll_56 rfl ?_
          refine mv_ialdx (pc := 57) (x := I1 (m + 3) t) (k := t) dX6_tellsAll_57 hm.g10 rfl (by omega) (by rw [mv_upN (m + 3) (by omega), hF (m + 3) (by omega)]) ?_
          refine mv_iast (pc := 58) (k := t) dX6_tellsAll_58 hm.g18 rfl (by omega) ?_
          refine mv_aload_n (pc := 59) dX6_tellsAll_59 rfl ?_
          refine mv_getR (pc := 60) (q := m + 11) dX6_tellsAll_60 fl6_40 (fun _ _ => rfl) (congrArg Prod.fst hm.o) hm.f20 ?_
          refine mv_iload_n (pc := 63) dX6_tellsAll_63 rfl ?_
          refine mv_aload_n (pc := 64) dX6_tellsAll_64 rfl ?_
          refine mv_getR (pc := 65) (q := m + 5) dX6_tellsAll_65 fl6_22 (fun _ _ => rfl) (congrArg Prod.fst hm.o) hm.f12 ?_
          refine mv_iload_n (pc := 68) dX6_tellsAll_68 rfl ?_
          refine mv_ialdx (pc := 69) (x := I1 (m + 5) t) (k := t) dX6_tellsAll_69 hm.g12 rfl (by omega) (by rw [mv_upN (m + 5) (by omega), mv_upN (m + 5) (by omega), hF (m + 5) (by omega)]) ?_
          refine mv_iast (pc := 70) (k := t) dX6_tellsAll_70 hm.g20 rfl (by omega) ?_
          refine mv_aload_n (pc := 71) dX6_tellsAll_71 rfl ?_
          refine mv_getR (pc := 72) (q := m + 12) dX6_tellsAll_72 fl6_43 (fun _ _ => rfl) (congrArg Prod.fst hm.o) hm.f21 ?_
          refine mv_iload_n (pc := 75) dX6_tellsAll_75 rfl ?_
          refine mv_aload_n (pc := 76) dX6_tellsAll_76 rfl ?_
          refine mv_getR (pc := 77) (q := m + 6) dX6_tellsAll_77 fl6_25 (fun _ _ => rfl) (congrArg Prod.fst hm.o) hm.f13 ?_
          refine mv_iload_n (pc := 80) dX6_tellsAll_80 rfl ?_
          refine mv_ialdx (pc := 81) (x := I1 (m + 6) t) (k := t) dX6_tellsAll_81 hm.g13 rfl (by omega) (by rw [mv_upN (m + 6) (by omega), mv_upN (m + 6) (by omega), mv_upN (m + 6) (by omega), hF (m + 6) (by omega)]) ?_
          refine mv_iast (pc := 82) (k := t) dX6_tellsAll_82 hm.g21 rfl (by omega) ?_
          refine mv_aload_n (pc := 83) dX6_tellsAll_83 rfl ?_
          refine mv_getR (pc := 84) (q := m + 13) dX6_tellsAll_84 fl6_46 (fun _ _ => rfl) (congrArg Prod.fst hm.o) hm.f22 ?_
          refine mv_iload_n (pc := 87) dX6_tellsAll_87 rfl ?_
          refine mv_aload_n (pc := 88) dX6_tellsAll_88 rfl ?_
          refine mv_getR (pc := 89) (q := m + 7) dX6_tellsAll_89 fl6_28 (fun _ _ => rfl) (congrArg Prod.fst hm.o) hm.f14 ?_
          refine mv_iload_n (pc := 92) dX6_tellsAll_92 rfl ?_
          refine mv_ialdx (pc := 93) (x := I1 (m + 7) t) (k := t) dX6_tellsAll_93 hm.g14 rfl (by omega) (by rw [mv_upN (m + 7) (by omega), mv_upN (m + 7) (by omega), mv_upN (m + 7) (by omega), mv_upN (m + 7) (by omega), hF (m + 7) (by omega)]) ?_
          refine mv_iast (pc := 94) (k := t) dX6_tellsAll_94 hm.g22 rfl (by omega) ?_
          refine mv_bipush (pc := 95) (v := 12) dX6_tellsAll_95 (by decide) ?_
          refine mv_iload_n (pc := 97) dX6_tellsAll_97 rfl ?_
          refine mv_imul (pc := 98) dX6_tellsAll_98 ?_
          refine mv_top (y := nI (12 * t)) (nI_mul 12 t) ?_
          refine mv_istore_n (pc := 99) dX6_tellsAll_99 (by decide) ?_
          refine l2 12 (12 * t) _ (by omega) (by omega) (fun u hu => ?_) (fun j hj => ?_) (fun b hb => ?_)
          · by_cases q : u = t
            · subst q
              refine ⟨?_, ?_, ?_, ?_, ?_⟩ <;> simp [mv_up]
            · obtain ⟨a1, a2, a3, a4, a5⟩ := hC u (by omega)
              refine ⟨?_, ?_, ?_, ?_, ?_⟩
              · simpa [mv_up, q] using a1
              · simpa [mv_up, q] using a2
              · simpa [mv_up, q] using a3
              · simpa [mv_up, q] using a4
              · simpa [mv_up, q] using a5
          · rw [mv_upN (m + 10) (by omega), mv_upN (m + 10) (by omega), mv_upN (m + 10) (by omega), mv_upN (m + 10) (by omega), mv_upN (m + 10) (by omega)]; exact hA j hj
          · rw [mv_upN b (by omega), mv_upN b (by omega), mv_upN b (by omega), mv_upN b (by omega), mv_upN b (by omega)]; exact hF b hb
    exact l1 8 0 I1 _ (by omega) (fun u hu => by omega) (fun k hk => by omega) (fun b _ => rfl)
  refine mv_aload_n (pc := 0) dX6_tellsAll_0 rfl ?_
  refine mv_aload_n (pc := 1) dX6_tellsAll_1 rfl ?_
  refine mv_getIx (pc := 2) (x := nI n') dX6_tellsAll_2 fl6_120 rfl (congrArg Prod.fst hm.o) s4 ?_
  refine mv_if_le (pc := 5) (tgt := 15) dX6_tellsAll_5 (by decide) (fun hb => ?_) (fun hb => ?_)
  · have : n' = 0 := by
      rcases Nat.eq_zero_or_pos n' with q | q
      · exact q
      · exact absurd hb (nI_nle q (by have := hW.1; omega))
    refine mv_iconst (pc := 15) (v := 1) dX6_tellsAll_15 (by decide) ?_
    refine mid 1 ?_
    rw [this]; rfl
  · have : n' ≠ 0 := fun q => hb (by rw [q]; decide)
    refine mv_aload_n (pc := 8) dX6_tellsAll_8 rfl ?_
    refine mv_getIx (pc := 9) (x := nI n') dX6_tellsAll_9 fl6_120 rfl (congrArg Prod.fst hm.o) s4 ?_
    refine mv_goto (pc := 12) (tgt := 16) dX6_tellsAll_12 (by decide) ?_
    refine mid _ ?_
    unfold sp_n; rw [if_neg this]
theorem c6_tellsAll {l : Launch} {D : va_G} {b0 n : Nat} {sh : mv_Sh} {I : mv_I} {R : mv_R} {m L i n' : Nat} {w : Nat → Int32} {π : xs_X} (hm : ly_Mod sh R m) (hS : md_S I m w L i n' π) (hW : sp_W n' π) : mv_C l D b0 m6_tellsAll (mv_rm 1) [.ref m] n sh I R (mv_Pv n sh R (fun I' => pl_M I' m (sp_n n') π ∧ rm_R I' (m + 14) (xs_st (π 0 2)) ∧ (I' m 25 = nI 0 ∧ I' m 28 = nI 0 ∧ I' (m + 20) 0 = 0 ∧ I' (m + 20) 1 = 0) ∧ (∀ b, b ≠ m → (b < m + 8 ∨ m + 15 ≤ b) → b ≠ m + 20 → I' b = I b) ∧ ∀ k, k ≠ 15 → k ≠ 16 → k ≠ 25 → k ≠ 28 → I' m k = I m k)) := mv_C.of 2 (by decide) (by simp [Value.category]) rfl (e6_tellsAll hm hS hW (fun _ h => mv_Pv.mk h))
def md_QT (I' : mv_I) (r : Int32) (m : Nat) (res : Nat ⊕ (Nat × Nat × xs_X)) : Prop := match res with
  | .inl s => r = -10 - nI s
  | .inr (c, n2, π2) => r = nI c ∧ I' m 0 = nI 0 ∧ pl_M I' m (sp_n n2) π2 ∧ rm_R I' (m + 14) (xs_st (π2 0 2)) ∧ I' m 25 = nI 0 ∧ I' m 28 = nI 0 ∧ I' (m + 20) 0 = 0 ∧ I' (m + 20) 1 = 0
def md_FT (m : Nat) (I I' : mv_I) (res : Nat ⊕ (Nat × Nat × xs_X)) : Prop := match res with
  | .inl _ => md_Fr m I I'
  | .inr _ => (∀ b, b ≠ m → (b < m + 2 ∨ m + 15 ≤ b) → b ≠ m + 20 → I' b = I b) ∧ ∀ k, 17 ≤ k → k ≠ 25 → k ≠ 28 → I' m k = I m k
set_option maxHeartbeats 4000000 in
set_option maxRecDepth 100000 in
theorem e6_tree {l : Launch} {D : va_G} {b0 n : Nat} {sh : mv_Sh} {I : mv_I} {R : mv_R} {Q : mv_Q} {m L : Nat} {w : Nat → Int32} (hm : ly_Mod sh R m) (hw : tx_W w L) (hl : I m 0 = nI L) (hx : ∀ j, j < L → I (m + 1) j = w j) (hQ : ∀ r I', (md_QT I' r m (sp_all w L 121 0 0 0 sp_0) ∧ md_FT m I I' (sp_all w L 121 0 0 0 sp_0)) → Q (some (.int r)) n sh I' R) : mv_E l D b0 m6_tree (mv_rm 7) Q 0 [.ref m, .null] [] 0 0 n sh I R := by
  have hL := hw.1
  generalize hres : sp_all w L 121 0 0 0 sp_0 = res at hQ
  have loop : ∀ (f c i n' : Nat) (π : xs_X) (J : mv_I), c + f = 120 → c ≤ i → i ≤ L → md_S J m w L (tk_s w L i) n' π → sp_W n' π → ((∀ k, k < 6 → π 0 k = sp_0 0 k) ∨ n' ≠ 0) → md_Fr m I J → sp_all w L (f + 1) i c n' π = res → mv_E l D b0 m6_tree (mv_rm 7) Q 15 [.ref m, .int (nI c)] [] 0 0 n sh J R := by
    intro f
    induction f with
    | zero =>
      intro c i n' π J hcf hci hiL hS hW hs0 hF he
      have hiL2 : tk_s w L i = L := by have := tk_s_le (w := w) hiL; omega
      have he' := he
      rw [sp_all, if_pos hiL2] at he
      refine mv_aload_n (pc := 15) dX6_tree_15 rfl ?_
      refine mv_getIx (pc := 16) (x := nI (tk_s w L i)) dX6_tree_16 fl6_88 rfl (congrArg Prod.fst hm.o) hS.2.2.1 ?_
      refine mv_aload_n (pc := 19) dX6_tree_19 rfl ?_
      refine mv_getIx (pc := 20) (x := nI L) dX6_tree_20 fl6_84 rfl (congrArg Prod.fst hm.o) hS.1 ?_
      refine mv_icmp_ge (pc := 23) (tgt := 51) dX6_tree_23 (by decide) (fun hb => ?_) (fun hb => ?_)
      · refine mv_aload_n (pc := 51) dX6_tree_51 rfl ?_
        refine mv_iconst (pc := 52) (v := 0) dX6_tree_52 (by decide) ?_
        refine mv_putI (pc := 53) dX6_tree_53 fl6_84 rfl rfl (congrArg Prod.fst hm.o) ?_
        refine mv_aload_n (pc := 56) dX6_tree_56 rfl ?_
        refine mv_cVv (pc := 57) dX6_tree_57 lk6_77 (congrArg Prod.fst hm.o) (c6_tellsAll hm (n' := n') (π := π) (w := w) (L := 0) (i := tk_s w L i) ⟨by rw [mv_upe]; rfl, fun j hj => by omega, by rw [show mv_up J m 0 0 m 2 = J m 2 by simp [mv_up]]; exact hS.2.2.1, by rw [show mv_up J m 0 0 m 7 = J m 7 by simp [mv_up]]; exact hS.2.2.2.1, by rw [show mv_up J m 0 0 m 8 = J m 8 by simp [mv_up]]; exact hS.2.2.2.2.1, fun t ht => by rw [show mv_up J m 0 0 m 8 = J m 8 by simp [mv_up], mv_upN (m + 2) (by omega), mv_upN (m + 3) (by omega), mv_upN (m + 4) (by omega), mv_upN (m + 5) (by omega), mv_upN (m + 6) (by omega), mv_upN (m + 7) (by omega)]; exact hS.2.2.2.2.2 t ht⟩ hW) rfl rfl (Nat.le_of_ble_eq_true rfl) (by decide) (by decide) (fun J2 ⟨q1, q2, ⟨q3, q4, q5, q6⟩, q7, q8⟩ => ?_)
        refine mv_iload_n (pc := 60) dX6_tree_60 rfl ?_
        refine mv_iret (pc := 61) dX6_tree_61 rfl (by decide) (by decide) (hQ _ _ ?_)
        rw [← he]
        refine ⟨⟨rfl, ?_, q1, q2, q3, q4, q5, q6⟩, fun b b1 b2 b3 => ?_, fun k k1 k2 k3 => ?_⟩
        · rw [q8 0 (by decide) (by decide) (by decide) (by decide), mv_upe]; rfl
        · rw [q7 b b1 (by omega) b3, mv_upN b b1]; exact hF.1 b b1 (by omega)
        · rw [q8 k (by omega) (by omega) k2 k3, show mv_up J m 0 0 m k = J m k by simp [mv_up, show ¬ k = 0 by omega]]; exact hF.2 k (by omega)
      · exact absurd (nI_le (by omega) (by omega)) hb
    | succ f ih =>
      intro c i n' π J hcf hci hiL hS hW hs0 hF he
      have hsl := tk_s_le (w := w) hiL
      refine mv_aload_n (pc := 15) dX6_tree_15 rfl ?_
      refine mv_getIx (pc := 16) (x := nI (tk_s w L i)) dX6_tree_16 fl6_88 rfl (congrArg Prod.fst hm.o) hS.2.2.1 ?_
      refine mv_aload_n (pc := 19) dX6_tree_19 rfl ?_
      refine mv_getIx (pc := 20) (x := nI L) dX6_tree_20 fl6_84 rfl (congrArg Prod.fst hm.o) hS.1 ?_
      refine mv_icmp_ge (pc := 23) (tgt := 51) dX6_tree_23 (by decide) (fun hb => ?_) (fun hb => ?_)
      · have hiL2 : tk_s w L i = L := by
          have := (nI_leI (a := L) (b := tk_s w L i) (by omega) (by omega)).mp hb
          omega
        rw [sp_all, if_pos hiL2] at he
        refine mv_aload_n (pc := 51) dX6_tree_51 rfl ?_
        refine mv_iconst (pc := 52) (v := 0) dX6_tree_52 (by decide) ?_
        refine mv_putI (pc := 53) dX6_tree_53 fl6_84 rfl rfl (congrArg Prod.fst hm.o) ?_
        refine mv_aload_n (pc := 56) dX6_tree_56 rfl ?_
        refine mv_cVv (pc := 57) dX6_tree_57 lk6_77 (congrArg Prod.fst hm.o) (c6_tellsAll hm (n' := n') (π := π) (w := w) (L := 0) (i := tk_s w L i) ⟨by rw [mv_upe]; rfl, fun j hj => by omega, by rw [show mv_up J m 0 0 m 2 = J m 2 by simp [mv_up]]; exact hS.2.2.1, by rw [show mv_up J m 0 0 m 7 = J m 7 by simp [mv_up]]; exact hS.2.2.2.1, by rw [show mv_up J m 0 0 m 8 = J m 8 by simp [mv_up]]; exact hS.2.2.2.2.1, fun t ht => by rw [show mv_up J m 0 0 m 8 = J m 8 by simp [mv_up], mv_upN (m + 2) (by omega), mv_upN (m + 3) (by omega), mv_upN (m + 4) (by omega), mv_upN (m + 5) (by omega), mv_upN (m + 6) (by omega), mv_upN (m + 7) (by omega)]; exact hS.2.2.2.2.2 t ht⟩ hW) rfl rfl (Nat.le_of_ble_eq_true rfl) (by decide) (by decide) (fun J2 ⟨q1, q2, ⟨q3, q4, q5, q6⟩, q7, q8⟩ => ?_)
        refine mv_iload_n (pc := 60) dX6_tree_60 rfl ?_
        refine mv_iret (pc := 61) dX6_tree_61 rfl (by decide) (by decide) (hQ _ _ ?_)
        rw [← he]
        refine ⟨⟨rfl, ?_, q1, q2, q3, q4, q5, q6⟩, fun b b1 b2 b3 => ?_, fun k k1 k2 k3 => ?_⟩
        · rw [q8 0 (by decide) (by decide) (by decide) (by decide), mv_upe]; rfl
        · rw [q7 b b1 (by omega) b3, mv_upN b b1]; exact hF.1 b b1 (by omega)
        · rw [q8 k (by omega) (by omega) k2 k3, show mv_up J m 0 0 m k = J m k by simp [mv_up, show ¬ k = 0 by omega]]; exact hF.2 k (by omega)
      · have hne : ¬ tk_s w L i = L := fun q => hb (by rw [q]; exact Int32.le_refl _)
        rw [sp_all, if_neg hne] at he
        refine mv_aload_n (pc := 26) dX6_tree_26 rfl ?_
        refine mv_cVi (pc := 27) dX6_tree_27 lk6_158 (congrArg Prod.fst hm.o) (c6_readsItem hm hw hS hsl.2 hW hs0) rfl rfl (Nat.le_of_ble_eq_true rfl) (by decide) (by decide) (fun r J2 ⟨hq3, hf3⟩ => ?_)
        have hF2 := hF.tr hf3
        rw [sp_item_s] at hq3
        cases hit : sp_item w L i n' π with
        | inl s =>
          rw [hit] at hq3 he
          obtain ⟨hr, h6⟩ := hq3
          subst hr
          refine mv_if_ne (pc := 30) (tgt := 41) dX6_tree_30 (by decide) (fun hb => absurd hb (by decide)) (fun _ => ?_)
          refine mv_bipush (pc := 33) (v := -10) dX6_tree_33 (by decide) ?_
          refine mv_aload_n (pc := 35) dX6_tree_35 rfl ?_
          refine mv_getIx (pc := 36) (x := nI s) dX6_tree_36 fl6_111 rfl (congrArg Prod.fst hm.o) h6 ?_
          refine mv_isub (pc := 39) dX6_tree_39 ?_
          refine mv_iret (pc := 40) dX6_tree_40 rfl (by decide) (by decide) (hQ _ _ ?_)
          rw [← he]
          exact ⟨rfl, hF2⟩
        | inr q =>
          obtain ⟨i3, n3, π3⟩ := q
          rw [hit] at hq3 he
          obtain ⟨hr, hS3, hi3⟩ := hq3
          subst hr
          have hW3 := hW.item hs0 hit
          have hprog := (sp_item_mono hiL hne hit).1
          refine mv_if_ne (pc := 30) (tgt := 41) dX6_tree_30 (by decide) (fun _ => ?_) (fun hb => absurd hb (by decide))
          refine mv_iinc (pc := 41) (v := nI (c + 1)) dX6_tree_41 (by decide) rfl (nI_1 c) ?_
          refine mv_aload_n (pc := 44) dX6_tree_44 rfl ?_
          refine mv_cVv (pc := 45) dX6_tree_45 lk6_91 (congrArg Prod.fst hm.o) (c6_blanks hm hL hS3.1 hS3.2.1 hS3.2.2.1 hi3) rfl rfl (Nat.le_of_ble_eq_true rfl) (by decide) (by decide) (fun J3 ⟨g1, g2, g3⟩ => ?_)
          refine mv_goto (pc := 48) (tgt := 15) dX6_tree_48 (by decide) ?_
          refine ih (c + 1) i3 n3 π3 J3 (by omega) (by omega) hi3 ⟨?_, fun j hj => ?_, g1, ?_, ?_, fun t ht => ?_⟩ hW3.1 (Or.inr hW3.2) (hF2.tr ⟨fun b b1 _ => g2 b b1, fun k k1 => g3 k (by omega)⟩) he
          · rw [g3 0 (by decide)]; exact hS3.1
          · rw [g2 (m + 1) (by omega)]; exact hS3.2.1 j hj
          · rw [g3 7 (by decide)]; exact hS3.2.2.2.1
          · rw [g3 8 (by decide)]; exact hS3.2.2.2.2.1
          · rw [g3 8 (by decide), g2 (m + 2) (by omega), g2 (m + 3) (by omega), g2 (m + 4) (by omega), g2 (m + 5) (by omega), g2 (m + 6) (by omega), g2 (m + 7) (by omega)]; exact hS3.2.2.2.2.2 t ht
  refine mv_aload_n (pc := 0) dX6_tree_0 rfl ?_
  refine mv_cVv (pc := 1) dX6_tree_1 lk6_74 (congrArg Prod.fst hm.o) (c6_begins hm) rfl rfl (Nat.le_of_ble_eq_true rfl) (by decide) (by decide) (fun J ⟨⟨b1, b2⟩, b3, b4, b5⟩ => ?_)
  refine mv_aload_n (pc := 4) dX6_tree_4 rfl ?_
  refine mv_iconst (pc := 5) (v := 0) dX6_tree_5 (by decide) ?_
  refine mv_putI (pc := 6) dX6_tree_6 fl6_88 rfl rfl (congrArg Prod.fst hm.o) ?_
  refine mv_iconst (pc := 9) (v := 0) dX6_tree_9 (by decide) ?_
  refine mv_istore_n (pc := 10) dX6_tree_10 (by decide) ?_
  refine mv_aload_n (pc := 11) dX6_tree_11 rfl ?_
  have el : mv_up J m 2 0 m 0 = nI L := by rw [show mv_up J m 2 0 m 0 = J m 0 by simp [mv_up], b5 0 (by decide) (by decide)]; exact hl
  have ex : ∀ j, j < L → mv_up J m 2 0 (m + 1) j = w j := fun j hj => by rw [mv_upN (m + 1) (by omega), b4 (m + 1) (by omega) (by omega) (by omega) (by omega) (by omega) (by omega)]; exact hx j hj
  refine mv_cVv (pc := 12) dX6_tree_12 lk6_91 (congrArg Prod.fst hm.o) (c6_blanks hm hL el ex (show mv_up J m 2 0 m 2 = nI 0 by rw [mv_upe]; rfl) (by omega)) rfl rfl (Nat.le_of_ble_eq_true rfl) (by decide) (by decide) (fun J2 ⟨g1, g2, g3⟩ => ?_)
  have eM : ∀ k, k ≠ 2 → J2 m k = J m k := fun k hk => by rw [g3 k hk]; simp [mv_up, hk]
  have eB : ∀ b, b ≠ m → J2 b = J b := fun b hb => by rw [g2 b hb, mv_upN b hb]
  refine loop 120 0 0 0 sp_0 J2 (by omega) (by omega) (by omega) ⟨by rw [g3 0 (by decide)]; exact el, fun j hj => by rw [g2 (m + 1) (by omega)]; exact ex j hj, g1, by rw [eM 7 (by decide)]; exact b1, ⟨0, by decide, by rw [eM 8 (by decide)]; exact b2⟩, fun t ht => ?_⟩ sp_W.z (Or.inl (fun k _ => rfl)) ⟨fun b c1 c2 => ?_, fun k c1 => ?_⟩ hres
  · obtain ⟨a1, a2, a3, a4, a5⟩ := b3 t ht
    rw [eM 8 (by decide), eB (m + 2) (by omega), eB (m + 3) (by omega), eB (m + 4) (by omega), eB (m + 5) (by omega), eB (m + 6) (by omega), eB (m + 7) (by omega), a1, a2, a3, a4, a5, b2]
    have : t = 0 ∨ t = 1 ∨ t = 2 ∨ t = 3 ∨ t = 4 ∨ t = 5 ∨ t = 6 ∨ t = 7 := by omega
    refine ⟨rfl, rfl, rfl, rfl, rfl, ?_, fun j hj => ?_⟩
    · rcases this with rfl | rfl | rfl | rfl | rfl | rfl | rfl | rfl <;> decide
    · exact absurd hj (by show ¬ j < (0 : Int32).toNatClampNeg; simp)
  · rw [eB b c1]; exact b4 b c1 (by omega) (by omega) (by omega) (by omega) (by omega)
  · rw [eM k (by omega)]; exact b5 k (by omega) (by omega)
theorem c6_tree {l : Launch} {D : va_G} {b0 n : Nat} {sh : mv_Sh} {I : mv_I} {R : mv_R} {m L : Nat} {w : Nat → Int32} (hm : ly_Mod sh R m) (hw : tx_W w L) (hl : I m 0 = nI L) (hx : ∀ j, j < L → I (m + 1) j = w j) : mv_C l D b0 m6_tree (mv_rm 7) [.ref m] n sh I R (mv_Pi n sh R (fun r I' => md_QT I' r m (sp_all w L 121 0 0 0 sp_0) ∧ md_FT m I I' (sp_all w L 121 0 0 0 sp_0))) := mv_C.of 1 (by decide) (by simp [Value.category]) rfl (e6_tree hm hw hl hx (fun _ _ h => mv_Pi.mk h))

