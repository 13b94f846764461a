theorem mv_self {α : Type} {I : Nat → Nat → α} {a k : Nat} {v : α} (h : I a k = v) : mv_up I a k v = I := by
  funext x j
  simp only [mv_up]
  split
  · rename_i q; rw [q.1, q.2, h]
  · rfl
def md_S (I : mv_I) (m : Nat) (w : Nat → Int32) (L i n : Nat) (π : xs_X) : Prop := I m 0 = nI L ∧ (∀ j, j < L → I (m + 1) j = w j) ∧ I m 2 = nI i ∧ I m 7 = nI n ∧ (∃ G, G < 256 ∧ I m 8 = nI G) ∧ ∀ t, t < 8 → I (m + 2) t = π t 0 ∧ I (m + 3) t = π t 1 ∧ I (m + 5) t = π t 2 ∧ I (m + 6) t = π t 3 ∧ I (m + 7) t = π t 4 ∧ (I m 8 >>> (nI t &&& 31)) &&& 1 = π t 5 ∧ ∀ j, j < (π t 1).toNatClampNeg → j < 6 → I (m + 4) (12 * t + 2 * j) = π t (6 + 2 * j) ∧ I (m + 4) (12 * t + 2 * j + 1) = π t (7 + 2 * j)
def md_Fr (m : Nat) (I I' : mv_I) : Prop := (∀ b, b ≠ m → (b < m + 2 ∨ m + 8 ≤ b) → I' b = I b) ∧ ∀ k, (k < 2 ∨ 8 < k) → I' m k = I m k
theorem md_Fr.rf {m : Nat} {I : mv_I} : md_Fr m I I := ⟨fun _ _ _ => rfl, fun _ _ => rfl⟩
theorem md_Fr.tr {m : Nat} {I I1 I2 : mv_I} (h : md_Fr m I I1) (h2 : md_Fr m I1 I2) : md_Fr m I I2 := ⟨fun b b1 b2 => (h2.1 b b1 b2).trans (h.1 b b1 b2), fun k k1 => (h2.2 k k1).trans (h.2 k k1)⟩
theorem md_Fr.mt {m : Nat} {I I1 I2 : mv_I} (h : md_Fr m I I1) (h2 : mt_Fr m I1 I2) : md_Fr m I I2 := ⟨fun b b1 b2 => (h2.1 b b1).trans (h.1 b b1 b2), fun k k1 => (h2.2 k (by omega) (by omega) (by omega) (by omega) (by omega)).trans (h.2 k k1)⟩
theorem md_Fr.up {m a k : Nat} {I I1 : mv_I} {v : Int32} (h : md_Fr m I I1) (ha : (m + 2 ≤ a ∧ a < m + 8) ∨ (a = m ∧ 2 ≤ k ∧ k ≤ 8)) : md_Fr m I (mv_up I1 a k v) := by
  refine ⟨fun b b1 b2 => ?_, fun j j1 => ?_⟩
  · rw [mv_upN b (by omega)]; exact h.1 b b1 b2
  · have : ¬ (m = a ∧ j = k) := by omega
    simp only [mv_up, this, if_false]
    exact h.2 j j1
theorem md_S.nx {I I' : mv_I} {m L i n : Nat} {w : Nat → Int32} {π : xs_X} (h : md_S I m w L i n π) (hA : mt_A I' m w L i) (hF : mt_Fr m I I') : md_S I' m w L (tk_e w L i) n π := by
  obtain ⟨h1, h2, h3, h4, h5, h6⟩ := h
  have e : ∀ k, k ≠ 2 → k ≠ 3 → k ≠ 4 → k ≠ 5 → k ≠ 6 → I' m k = I m k := hF.2
  have e7 := e 7 (by decide) (by decide) (by decide) (by decide) (by decide)
  have e8 := e 8 (by decide) (by decide) (by decide) (by decide) (by decide)
  refine ⟨by rw [e 0 (by decide) (by decide) (by decide) (by decide) (by decide)]; exact h1, fun j hj => by rw [hF.1 (m + 1) (by omega)]; exact h2 j hj, hA.1, by rw [e7]; exact h4, by rw [e8]; exact h5, fun t ht => ?_⟩
  rw [e8, hF.1 (m + 2) (by omega), hF.1 (m + 3) (by omega), hF.1 (m + 4) (by omega), hF.1 (m + 5) (by omega), hF.1 (m + 6) (by omega), hF.1 (m + 7) (by omega)]
  exact h6 t ht
theorem md_S.fault {I : mv_I} {m L i n : Nat} {w : Nat → Int32} {π : xs_X} {v : Int32} (h : md_S I m w L i n π) : md_S (mv_up I m 6 v) m w L i n π := by
  obtain ⟨h1, h2, h3, h4, h5, h6⟩ := h
  refine ⟨by simpa [mv_up] using h1, fun j hj => by rw [mv_upN (m + 1) (by omega)]; exact h2 j hj, by simpa [mv_up] using h3, by simpa [mv_up] using h4, by simpa [mv_up] using h5, fun t ht => ?_⟩
  rw [mv_upN (m + 2) (by omega), mv_upN (m + 3) (by omega), mv_upN (m + 4) (by omega), mv_upN (m + 5) (by omega), mv_upN (m + 6) (by omega), mv_upN (m + 7) (by omega), show mv_up I m 6 v m 8 = I m 8 by simp [mv_up]]
  exact h6 t ht
theorem md_S.add {I : mv_I} {m L i n t c : Nat} {w : Nat → Int32} {π : xs_X} {k v : Int32} (h : md_S I m w L i n π) (ht : t < 8) (hc : π t 1 = nI c) (hc6 : c < 6) : md_S (mv_up (mv_up (mv_up I (m + 4) (12 * t + 2 * c) k) (m + 4) (12 * t + 2 * c + 1) v) (m + 3) t (nI c + 1)) m w L i n (sp_add π t c k v) := by
  obtain ⟨h1, h2, h3, h4, h5, h6⟩ := h
  have e0 : ∀ b, b ≠ m + 3 → b ≠ m + 4 → mv_up (mv_up (mv_up I (m + 4) (12 * t + 2 * c) k) (m + 4) (12 * t + 2 * c + 1) v) (m + 3) t (nI c + 1) b = I b := fun b b1 b2 => by rw [mv_upN b b1, mv_upN b b2, mv_upN b b2]
  rw [md_S, e0 m (by omega) (by omega), e0 (m + 1) (by omega) (by omega)]
  refine ⟨h1, h2, h3, h4, h5, fun u hu => ?_⟩
  rw [e0 (m + 2) (by omega) (by omega), e0 (m + 5) (by omega) (by omega), e0 (m + 6) (by omega) (by omega), e0 (m + 7) (by omega) (by omega)]
  obtain ⟨a1, a2, a3, a4, a5, a6, a7⟩ := h6 u hu
  have p : ∀ u, u ≠ t → sp_add π t c k v u = π u := fun u hu => by unfold sp_add; rw [mv_upN u hu, mv_upN u hu, mv_upN u hu]
  have pt : ∀ j, j ≠ 1 → j ≠ 6 + 2 * c → j ≠ 7 + 2 * c → sp_add π t c k v t j = π t j := fun j a b d => by simp [sp_add, mv_up, a, b, d]
  by_cases q1 : u = t
  · subst q1
    rw [pt 0 (by omega) (by omega) (by omega), pt 2 (by omega) (by omega) (by omega), pt 3 (by omega) (by omega) (by omega), pt 4 (by omega) (by omega) (by omega), pt 5 (by omega) (by omega) (by omega)]
    have es : sp_add π u c k v u 1 = nI (c + 1) := by unfold sp_add; rw [mv_upe]
    refine ⟨a1, by rw [mv_upe, es, nI_1], a3, a4, a5, a6, fun j hj hj6 => ?_⟩
    rw [es, nI_clamp (by omega)] at hj
    rw [mv_upN (m + 4) (by omega)]
    by_cases q2 : j = c
    · subst q2
      have a : ¬ 6 + 2 * j = 1 := by omega
      have b : ¬ 6 + 2 * j = 7 + 2 * j := by omega
      have d : ¬ 7 + 2 * j = 1 := by omega
      have e : ¬ 12 * u + 2 * j = 12 * u + 2 * j + 1 := by omega
      simp [sp_add, mv_up, a, b, d]
    · have b1 : ¬ 12 * u + 2 * j = 12 * u + 2 * c := by omega
      have b2 : ¬ 12 * u + 2 * j = 12 * u + 2 * c + 1 := by omega
      have b3 : ¬ 12 * u + 2 * j + 1 = 12 * u + 2 * c := by omega
      have b4 : ¬ 12 * u + 2 * j + 1 = 12 * u + 2 * c + 1 := by omega
      rw [pt (6 + 2 * j) (by omega) (by omega) (by omega), pt (7 + 2 * j) (by omega) (by omega) (by omega)]
      simp only [mv_up, b1, b2, b3, b4, and_false, if_false]
      exact a7 j (by rw [hc, nI_clamp (by omega)]; omega) hj6
  · rw [p u q1]
    refine ⟨a1, ?_, a3, a4, a5, a6, fun j hj hj6 => ?_⟩
    · have b1 : ¬ m + 3 = m + 4 := by omega
      simp only [mv_up, q1, b1, and_false, false_and, if_false]
      exact a2
    · have b1 : ¬ 12 * u + 2 * j = 12 * t + 2 * c := by omega
      have b2 : ¬ 12 * u + 2 * j = 12 * t + 2 * c + 1 := by omega
      have b3 : ¬ 12 * u + 2 * j + 1 = 12 * t + 2 * c := by omega
      have b4 : ¬ 12 * u + 2 * j + 1 = 12 * t + 2 * c + 1 := by omega
      rw [mv_upN (m + 4) (by omega)]
      simp only [mv_up, b1, b2, b3, b4, and_false, if_false]
      exact a7 j hj hj6
def md_Q (I' : mv_I) (r : Int32) (m : Nat) (w : Nat → Int32) (L n : Nat) (res : Nat ⊕ (Nat × xs_X)) : Prop := match res with
  | .inl s => r = 0 ∧ I' m 6 = nI s
  | .inr (i2, π2) => r = 1 ∧ md_S I' m w L i2 n π2 ∧ i2 ≤ L
theorem md_Q.z {I' : mv_I} {r : Int32} {m L n : Nat} {w : Nat → Int32} {res : Nat ⊕ (Nat × xs_X)} (h : md_Q I' r m w L n res) : narrow .boolean (.int r) = .int r := by
  cases res with
  | inl s => rw [h.1]; rfl
  | inr x => rw [h.1]; rfl
set_option maxHeartbeats 4000000 in
set_option maxRecDepth 100000 in
theorem e6_readsProgram {l : Launch} {D : va_G} {b0 n : Nat} {sh : mv_Sh} {I : mv_I} {R : mv_R} {Q : mv_Q} {m L i n' t : Nat} {w : Nat → Int32} {π : xs_X} (hm : ly_Mod sh R m) (hw : tx_W w L) (hS : md_S I m w L i n' π) (hi : i ≤ L) (ht : t < 8) (hc : π t 1 = nI 0) (hQ : ∀ r I', (md_Q I' r m w L n' (sp_ops w L t 7 0 i π) ∧ md_Fr m I I') → Q (some (.int r)) n sh I' R) : mv_E l D b0 m6_readsProgram (mv_rm 4) Q 0 [.ref m, .int (nI t), .null, .null, .null] [] 0 0 n sh I R := by
  have body : ∀ (f c i2 : Nat) (J : mv_I) (π2 : xs_X) (y2 y3 y4 : Value), c + f = 6 → mt_A J m w L i2 → i2 ≤ L → md_S J m w L (tk_e w L i2) n' π2 → π2 t 1 = nI c → md_Fr m I J → sp_ops w L t 7 0 i π = sp_ops w L t (f + 1) c i2 π2 →
      (∀ (i3 : Nat) (J3 : mv_I) (π3 : xs_X) (y2 y3 y4 : Value), c < 6 → mt_A J3 m w L i3 → i3 ≤ L → md_S J3 m w L (tk_e w L i3) n' π3 → π3 t 1 = nI (c + 1) → md_Fr m I J3 → sp_ops w L t 7 0 i π = sp_ops w L t f (c + 1) i3 π3 → mv_E l D b0 m6_readsProgram (mv_rm 4) Q 4 [.ref m, .int (nI t), y2, y3, y4] [] 0 0 n sh J3 R) → mv_E l D b0 m6_readsProgram (mv_rm 4) Q 4 [.ref m, .int (nI t), y2, y3, y4] [] 0 0 n sh J R := by
    intro f c i2 J π2 y2 y3 y4 hcf hA hi2 hS2 hc2 hF he rec
    have hte := tk_e_le (w := w) hi2
    have hte2 := tk_e_le (w := w) hte.2.1
    have h3 : J (m + 3) t = nI c := (hS2.2.2.2.2.2 t ht).2.1.trans hc2
    have fail : sp_ops w L t (f + 1) c i2 π2 = .inl (tk_s w L i2) → ∀ y2 y3, mv_E l D b0 m6_readsProgram (mv_rm 4) Q 69 [.ref m, .int (nI t), y2, y3, y4] [] 0 0 n sh J R := by
      intro hno y2 y3
      refine mv_aload_n (pc := 69) dX6_readsProgram_69 rfl ?_
      refine mv_cVi (pc := 70) dX6_readsProgram_70 lk6_117 (congrArg Prod.fst hm.o) (c6_fails hm hA.2.1) rfl rfl (Nat.le_of_ble_eq_true rfl) (by decide) (by decide) (fun r J2 ⟨e1, e2⟩ => ?_)
      subst e1 e2
      refine mv_zret (pc := 73) dX6_readsProgram_73 rfl (by rfl) (by decide) (by decide) (hQ _ _ ⟨?_, hF.up (by omega)⟩)
      rw [he, hno]
      exact ⟨rfl, mv_upe⟩
    -- the operation is laid down
    have lay : ∀ (J3 : mv_I) (i3 : Nat) (v : Int32), c < 6 → sp_opb (tk_k w L i2) = true → md_S J3 m w L i3 n' π2 → i3 ≤ L → md_Fr m I J3 → ((tk_k w L i2 = 119 ∨ tk_k w L i2 = 102) → J3 m 5 = v) → (¬ (tk_k w L i2 = 119 ∨ tk_k w L i2 = 102) → v = 0) → sp_ops w L t (f + 1) c i2 π2 = sp_ops w L t f (c + 1) i3 (sp_add π2 t c (tk_k w L i2) v) → mv_E l D b0 m6_readsProgram (mv_rm 4) Q 98 [.ref m, .int (nI t), .int (tk_k w L i2), .int 1, y4] [] 0 0 n sh J3 R := by
      intro J3 i3 v hc6 hop hS3 hi3 hF3 hv1 hv2 he3
      have h33 : J3 (m + 3) t = nI c := (hS3.2.2.2.2.2 t ht).2.1.trans hc2
      have put : mv_E l D b0 m6_readsProgram (mv_rm 4) Q 149 [.ref m, .int (nI t), .int (tk_k w L i2), .int 1, .int (nI (12 * t + 2 * c))] [.int v, .int (nI (12 * t + 2 * c + 1)), .ref (m + 4)] 0 0 n sh (mv_up J3 (m + 4) (12 * t + 2 * c) (tk_k w L i2)) R := by
        refine mv_iast (pc := 149) (k := (12 * t + 2 * c + 1)) dX6_readsProgram_149 hm.g11 rfl (by omega) ?_
        refine mv_aload_n (pc := 150) dX6_readsProgram_150 rfl ?_
        refine mv_getR (pc := 151) (q := m + 3) dX6_readsProgram_151 fl6_16 (fun _ _ => rfl) (congrArg Prod.fst hm.o) hm.f10 ?_
        refine mv_iload_n (pc := 154) dX6_readsProgram_154 rfl ?_
        refine mv_dup2 (pc := 155) dX6_readsProgram_155 rfl rfl ?_
        refine mv_ialdx (pc := 156) (x := nI c) (k := t) dX6_readsProgram_156 hm.g10 rfl (by omega) (by rw [mv_upN _ (by omega), mv_upN _ (by omega)]; exact h33) ?_
        refine mv_iconst (pc := 157) (v := 1) dX6_readsProgram_157 (by decide) ?_
        refine mv_iadd (pc := 158) dX6_readsProgram_158 ?_
        refine mv_iast (pc := 159) (k := t) dX6_readsProgram_159 hm.g10 rfl (by omega) ?_
        refine mv_aload_n (pc := 160) dX6_readsProgram_160 rfl ?_
        have hS4 := hS3.add (k := tk_k w L i2) (v := v) ht hc2 hc6
        refine mv_cVv (pc := 161) dX6_readsProgram_161 lk6_114 (congrArg Prod.fst hm.o) (c6_next hm hw hS4.1 hS4.2.1 hS4.2.2.1 hi3) rfl rfl (Nat.le_of_ble_eq_true rfl) (by decide) (by decide) (fun J4 ⟨hA4, hF4⟩ => ?_)
        refine mv_goto (pc := 164) (tgt := 4) dX6_readsProgram_164 (by decide) ?_
        exact rec i3 J4 _ _ _ _ hc6 hA4 hi3 (hS4.nx hA4 hF4) (by unfold sp_add; rw [mv_upe]) ((((hF3.up (by omega)).up (by omega)).up (by omega)).mt hF4) (he.trans he3)
      refine mv_bipush (pc := 98) (v := 12) dX6_readsProgram_98 (by decide) ?_
      refine mv_iload_n (pc := 100) dX6_readsProgram_100 rfl ?_
      refine mv_imul (pc := 101) dX6_readsProgram_101 ?_
      refine mv_iconst (pc := 102) (v := 2) dX6_readsProgram_102 (by decide) ?_
      refine mv_aload_n (pc := 103) dX6_readsProgram_103 rfl ?_
      refine mv_getR (pc := 104) (q := m + 3) dX6_readsProgram_104 fl6_16 (fun _ _ => rfl) (congrArg Prod.fst hm.o) hm.f10 ?_
      refine mv_iload_n (pc := 107) dX6_readsProgram_107 rfl ?_
      refine mv_ialdx (pc := 108) (x := nI c) (k := t) dX6_readsProgram_108 hm.g10 rfl (by omega) h33 ?_
      refine mv_imul (pc := 109) dX6_readsProgram_109 ?_
      refine mv_iadd (pc := 110) dX6_readsProgram_110 ?_
      refine mv_top (y := nI (12 * t + 2 * c)) (show nI 12 * nI t + nI 2 * nI c = nI (12 * t + 2 * c) by rw [nI_mul, nI_mul, nI_add]) ?_
      refine mv_istore (pc := 111) dX6_readsProgram_111 (by decide) ?_
      refine mv_aload_n (pc := 113) dX6_readsProgram_113 rfl ?_
      refine mv_getR (pc := 114) (q := m + 4) dX6_readsProgram_114 fl6_19 (fun _ _ => rfl) (congrArg Prod.fst hm.o) hm.f11 ?_
      refine mv_iload (pc := 117) dX6_readsProgram_117 rfl ?_
      refine mv_iload_n (pc := 119) dX6_readsProgram_119 rfl ?_
      refine mv_iast (pc := 120) (k := 12 * t + 2 * c) dX6_readsProgram_120 hm.g11 rfl (by omega) ?_
      refine mv_aload_n (pc := 121) dX6_readsProgram_121 rfl ?_
      refine mv_getR (pc := 122) (q := m + 4) dX6_readsProgram_122 fl6_19 (fun _ _ => rfl) (congrArg Prod.fst hm.o) hm.f11 ?_
      refine mv_iload (pc := 125) dX6_readsProgram_125 rfl ?_
      refine mv_iconst (pc := 127) (v := 1) dX6_readsProgram_127 (by decide) ?_
      refine mv_iadd (pc := 128) dX6_readsProgram_128 ?_
      refine mv_top (y := nI (12 * t + 2 * c + 1)) (nI_add _ 1) ?_
      refine mv_iload_n (pc := 129) dX6_readsProgram_129 rfl ?_
      refine mv_bipush (pc := 130) (v := 119) dX6_readsProgram_130 (by decide) ?_
      refine mv_icmp_eq (pc := 132) (tgt := 141) dX6_readsProgram_132 (by decide) (fun hb => ?_) (fun hb => ?_)
      · refine mv_aload_n (pc := 141) dX6_readsProgram_141 rfl ?_
        refine mv_getIx (pc := 142) (x := v) dX6_readsProgram_142 fl6_104 rfl (congrArg Prod.fst hm.o) (by rw [mv_upN _ (by omega)]; exact hv1 (Or.inl hb)) ?_
        refine mv_goto (pc := 145) (tgt := 149) dX6_readsProgram_145 (by decide) ?_
        exact put
      · refine mv_iload_n (pc := 135) dX6_readsProgram_135 rfl ?_
        refine mv_bipush (pc := 136) (v := 102) dX6_readsProgram_136 (by decide) ?_
        refine mv_icmp_ne (pc := 138) (tgt := 148) dX6_readsProgram_138 (by decide) (fun hb2 => ?_) (fun hb2 => ?_)
        · refine mv_iconst (pc := 148) (v := 0) dX6_readsProgram_148 (by decide) ?_
          have : v = 0 := hv2 (fun q => q.elim hb hb2)
          rw [this] at put
          exact put
        · refine mv_aload_n (pc := 141) dX6_readsProgram_141 rfl ?_
          refine mv_getIx (pc := 142) (x := v) dX6_readsProgram_142 fl6_104 rfl (congrArg Prod.fst hm.o) (by rw [mv_upN _ (by omega)]; exact hv1 (Or.inr hb2)) ?_
          refine mv_goto (pc := 145) (tgt := 149) dX6_readsProgram_145 (by decide) ?_
          exact put
    have num : c < 6 → sp_opb (tk_k w L i2) = true → ¬ tk_k w L i2 = 59 → (tk_k w L i2 = 119 ∨ tk_k w L i2 = 102) → mv_E l D b0 m6_readsProgram (mv_rm 4) Q 86 [.ref m, .int (nI t), .int (tk_k w L i2), .int 1, y4] [] 0 0 n sh J R := by
      intro hc6 hop h59 hwf
      refine mv_aload_n (pc := 86) dX6_readsProgram_86 rfl ?_
      refine mv_iconst (pc := 87) (v := 1) dX6_readsProgram_87 (by decide) ?_
      refine mv_bipush (pc := 88) (v := 9) dX6_readsProgram_88 (by decide) ?_
      refine mv_cVi (pc := 90) dX6_readsProgram_90 lk6_126 (congrArg Prod.fst hm.o) (c6_number (lo := 1) (up := 9) hm hw hS2.1 hS2.2.1 hS2.2.2.1 hte.2.1 (by decide) (by decide)) rfl rfl (Nat.le_of_ble_eq_true rfl) (by decide) (by decide) (fun r J3 ⟨e1, hA3, hF3, hf3⟩ => ?_)
      subst e1
      refine mv_if_ne (pc := 93) (tgt := 98) dX6_readsProgram_93 (by decide) (fun hb => ?_) (fun hb => ?_)
      · have hq1 : tk_k w L (tk_e w L i2) = -2 ∧ 1 ≤ tk_v w L (tk_e w L i2) ∧ tk_v w L (tk_e w L i2) ≤ 9 := Classical.byContradiction fun q => hb (by rw [if_neg q])
        refine lay J3 _ (nI (tk_v w L (tk_e w L i2))) hc6 hop (hS2.nx hA3 hF3) hte2.2.1 (hF.mt hF3) (fun _ => (hA3.2.2.2 hq1.1).1) (fun q => absurd hwf q) ?_
        rw [sp_ops, if_neg h59, if_pos ⟨hop, hc6⟩, if_pos hwf, if_pos (sp_numb_iff.mpr hq1)]
      · have hq1 : ¬ (tk_k w L (tk_e w L i2) = -2 ∧ 1 ≤ tk_v w L (tk_e w L i2) ∧ tk_v w L (tk_e w L i2) ≤ 9) := fun q => by rw [if_pos q] at hb; exact absurd hb (by decide)
        refine mv_iconst (pc := 96) (v := 0) dX6_readsProgram_96 (by decide) ?_
        refine mv_zret (pc := 97) dX6_readsProgram_97 rfl (by rfl) (by decide) (by decide) (hQ _ _ ⟨?_, hF.mt hF3⟩)
        rw [he, sp_ops, if_neg h59, if_pos ⟨hop, hc6⟩, if_pos hwf, if_neg (fun z => hq1 (sp_numb_iff.mp z))]
        exact ⟨rfl, hf3 hq1⟩
    have at53 : ¬ tk_k w L i2 = 59 → ∀ v : Int32, v = (if sp_opb (tk_k w L i2) = true then 1 else 0) → mv_E l D b0 m6_readsProgram (mv_rm 4) Q 53 [.ref m, .int (nI t), .int (tk_m (tk_k w L i2)), y3, y4] [.int v] 0 0 n sh J R := by
      intro h59 v hv
      refine mv_istore_n (pc := 53) dX6_readsProgram_53 (by decide) ?_
      refine mv_iload_n (pc := 54) dX6_readsProgram_54 rfl ?_
      refine mv_if_eq (pc := 55) (tgt := 69) dX6_readsProgram_55 (by decide) (fun hb => ?_) (fun hb => ?_)
      · refine fail ?_ _ _
        have : ¬ sp_opb (tk_k w L i2) = true := fun q => by rw [hv, if_pos q] at hb; exact absurd hb (by decide)
        rw [sp_ops, if_neg h59, if_neg (fun q => this q.1)]
      · have hop : sp_opb (tk_k w L i2) = true := Classical.byContradiction fun q => hb (by rw [hv, if_neg q])
        have hmk : tk_m (tk_k w L i2) = tk_k w L i2 := by
          rcases sp_opb_iff.mp hop with q | q | q | q | q <;> rw [q] <;> decide
        have hv1 : v = 1 := by rw [hv, if_pos hop]
        refine mv_aload_n (pc := 58) dX6_readsProgram_58 rfl ?_
        refine mv_getR (pc := 59) (q := m + 3) dX6_readsProgram_59 fl6_16 (fun _ _ => rfl) (congrArg Prod.fst hm.o) hm.f10 ?_
        refine mv_iload_n (pc := 62) dX6_readsProgram_62 rfl ?_
        refine mv_ialdx (pc := 63) (x := nI c) (k := t) dX6_readsProgram_63 hm.g10 rfl (by omega) h3 ?_
        refine mv_bipush (pc := 64) (v := 6) dX6_readsProgram_64 (by decide) ?_
        refine mv_icmp_ne (pc := 66) (tgt := 74) dX6_readsProgram_66 (by decide) (fun hb2 => ?_) (fun hb2 => ?_)
        · have hc6 : c < 6 := by
            have : c ≠ 6 := fun q => hb2 (by rw [q]; rfl)
            omega
          rw [hmk, hv1]
          refine mv_iload_n (pc := 74) dX6_readsProgram_74 rfl ?_
          refine mv_bipush (pc := 75) (v := 119) dX6_readsProgram_75 (by decide) ?_
          refine mv_icmp_eq (pc := 77) (tgt := 86) dX6_readsProgram_77 (by decide) (fun hb3 => ?_) (fun hb3 => ?_)
          · exact num hc6 hop h59 (Or.inl hb3)
          · refine mv_iload_n (pc := 80) dX6_readsProgram_80 rfl ?_
            refine mv_bipush (pc := 81) (v := 102) dX6_readsProgram_81 (by decide) ?_
            refine mv_icmp_ne (pc := 83) (tgt := 98) dX6_readsProgram_83 (by decide) (fun hb4 => ?_) (fun hb4 => ?_)
            · have hwf : ¬ (tk_k w L i2 = 119 ∨ tk_k w L i2 = 102) := fun q => q.elim hb3 hb4
              refine lay J _ 0 hc6 hop hS2 hte.2.1 hF (fun q => absurd q hwf) (fun _ => rfl) ?_
              rw [sp_ops, if_neg h59, if_pos ⟨hop, hc6⟩, if_neg hwf]
            · exact num hc6 hop h59 (Or.inr hb4)
        · refine fail ?_ _ _
          have : c = 6 := (nI_eq (b := 6) (by omega) (by decide)).mp hb2
          rw [sp_ops, if_neg h59, if_neg (fun q => by omega)]
    refine mv_aload_n (pc := 4) dX6_readsProgram_4 rfl ?_
    refine mv_getIx (pc := 5) (x := tk_m (tk_k w L i2)) dX6_readsProgram_5 fl6_97 rfl (congrArg Prod.fst hm.o) hA.2.2.1 ?_
    refine mv_bipush (pc := 8) (v := 59) dX6_readsProgram_8 (by decide) ?_
    refine mv_icmp_eq (pc := 10) (tgt := 167) dX6_readsProgram_10 (by decide) (fun hb => ?_) (fun hb => ?_)
    · have hk := (tk_mT (c := 59) (by decide) (by decide)).mp hb
      refine mv_iconst (pc := 167) (v := 1) dX6_readsProgram_167 (by decide) ?_
      refine mv_zret (pc := 168) dX6_readsProgram_168 rfl (by rfl) (by decide) (by decide) (hQ _ _ ⟨?_, hF⟩)
      rw [he, sp_ops, if_pos hk]
      exact ⟨rfl, hS2, hte.2.1⟩
    · have hk : ¬ tk_k w L i2 = 59 := fun q => hb ((tk_mT (c := 59) (by decide) (by decide)).mpr q)
      have yes : sp_opb (tk_k w L i2) = true → mv_E l D b0 m6_readsProgram (mv_rm 4) Q 48 [.ref m, .int (nI t), .int (tk_m (tk_k w L i2)), y3, y4] [] 0 0 n sh J R := by
        intro q
        refine mv_iconst (pc := 48) (v := 1) dX6_readsProgram_48 (by decide) ?_
        refine mv_goto (pc := 49) (tgt := 53) dX6_readsProgram_49 (by decide) ?_
        exact at53 hk 1 (by rw [if_pos q])
      refine mv_aload_n (pc := 13) dX6_readsProgram_13 rfl ?_
      refine mv_getIx (pc := 14) (x := tk_m (tk_k w L i2)) dX6_readsProgram_14 fl6_97 rfl (congrArg Prod.fst hm.o) hA.2.2.1 ?_
      refine mv_istore_n (pc := 17) dX6_readsProgram_17 (by decide) ?_
      refine mv_iload_n (pc := 18) dX6_readsProgram_18 rfl ?_
      refine mv_bipush (pc := 19) (v := 119) dX6_readsProgram_19 (by decide) ?_
      refine mv_icmp_eq (pc := 21) (tgt := 48) dX6_readsProgram_21 (by decide) (fun b1 => ?_) (fun b1 => ?_)
      · exact yes (sp_opb_iff.mpr (Or.inl ((tk_mT (c := 119) (by decide) (by decide)).mp b1)))
      · refine mv_iload_n (pc := 24) dX6_readsProgram_24 rfl ?_
        refine mv_bipush (pc := 25) (v := 98) dX6_readsProgram_25 (by decide) ?_
        refine mv_icmp_eq (pc := 27) (tgt := 48) dX6_readsProgram_27 (by decide) (fun b2 => ?_) (fun b2 => ?_)
        · exact yes (sp_opb_iff.mpr (Or.inr (Or.inl ((tk_mT (c := 98) (by decide) (by decide)).mp b2))))
        · refine mv_iload_n (pc := 30) dX6_readsProgram_30 rfl ?_
          refine mv_bipush (pc := 31) (v := 106) dX6_readsProgram_31 (by decide) ?_
          refine mv_icmp_eq (pc := 33) (tgt := 48) dX6_readsProgram_33 (by decide) (fun b3 => ?_) (fun b3 => ?_)
          · exact yes (sp_opb_iff.mpr (Or.inr (Or.inr (Or.inl ((tk_mT (c := 106) (by decide) (by decide)).mp b3)))))
          · refine mv_iload_n (pc := 36) dX6_readsProgram_36 rfl ?_
            refine mv_bipush (pc := 37) (v := 120) dX6_readsProgram_37 (by decide) ?_
            refine mv_icmp_eq (pc := 39) (tgt := 48) dX6_readsProgram_39 (by decide) (fun b4 => ?_) (fun b4 => ?_)
            · exact yes (sp_opb_iff.mpr (Or.inr (Or.inr (Or.inr (Or.inl ((tk_mT (c := 120) (by decide) (by decide)).mp b4))))))
            · refine mv_iload_n (pc := 42) dX6_readsProgram_42 rfl ?_
              refine mv_bipush (pc := 43) (v := 102) dX6_readsProgram_43 (by decide) ?_
              refine mv_icmp_ne (pc := 45) (tgt := 52) dX6_readsProgram_45 (by decide) (fun b5 => ?_) (fun b5 => ?_)
              · refine mv_iconst (pc := 52) (v := 0) dX6_readsProgram_52 (by decide) ?_
                refine at53 hk 0 ?_
                rw [if_neg]
                intro q
                rcases sp_opb_iff.mp q with z | z | z | z | z
                · exact b1 ((tk_mT (c := 119) (by decide) (by decide)).mpr z)
                · exact b2 ((tk_mT (c := 98) (by decide) (by decide)).mpr z)
                · exact b3 ((tk_mT (c := 106) (by decide) (by decide)).mpr z)
                · exact b4 ((tk_mT (c := 120) (by decide) (by decide)).mpr z)
                · exact b5 ((tk_mT (c := 102) (by decide) (by decide)).mpr z)
              · exact yes (sp_opb_iff.mpr (Or.inr (Or.inr (Or.inr (Or.inr ((tk_mT (c := 102) (by decide) (by decide)).mp b5))))))
  have loop : ∀ (f c i2 : Nat) (J : mv_I) (π2 : xs_X) (y2 y3 y4 : Value), c + f = 6 → mt_A J m w L i2 → i2 ≤ L → md_S J m w L (tk_e w L i2) n' π2 → π2 t 1 = nI c → md_Fr m I J → sp_ops w L t 7 0 i π = sp_ops w L t (f + 1) c i2 π2 → mv_E l D b0 m6_readsProgram (mv_rm 4) Q 4 [.ref m, .int (nI t), y2, y3, y4] [] 0 0 n sh J R := by
    intro f
    induction f with
    | zero => intro c i2 J π2 y2 y3 y4 h1 h2 h3 h4 h5 h6 h7; exact body 0 c i2 J π2 y2 y3 y4 h1 h2 h3 h4 h5 h6 h7 (fun i3 J3 π3 y2 y3 y4 q => by omega)
    | succ f ih => intro c i2 J π2 y2 y3 y4 h1 h2 h3 h4 h5 h6 h7; exact body (f + 1) c i2 J π2 y2 y3 y4 h1 h2 h3 h4 h5 h6 h7 (fun i3 J3 π3 y2 y3 y4 q1 q2 q3 q4 q5 q6 q7 => ih (c + 1) i3 J3 π3 y2 y3 y4 (by omega) q2 q3 q4 q5 q6 q7)
  refine mv_aload_n (pc := 0) dX6_readsProgram_0 rfl ?_
  refine mv_cVv (pc := 1) dX6_readsProgram_1 lk6_114 (congrArg Prod.fst hm.o) (c6_next hm hw hS.1 hS.2.1 hS.2.2.1 hi) rfl rfl (Nat.le_of_ble_eq_true rfl) (by decide) (by decide) (fun J ⟨hA, hF⟩ => ?_)
  exact loop 6 0 i J π _ _ _ (by omega) hA hi (hS.nx hA hF) hc (md_Fr.rf.mt hF) rfl
theorem c6_readsProgram {l : Launch} {D : va_G} {b0 n : Nat} {sh : mv_Sh} {I : mv_I} {R : mv_R} {m L i n' t : Nat} {w : Nat → Int32} {π : xs_X} (hm : ly_Mod sh R m) (hw : tx_W w L) (hS : md_S I m w L i n' π) (hi : i ≤ L) (ht : t < 8) (hc : π t 1 = nI 0) : mv_C l D b0 m6_readsProgram (mv_rm 4) [.ref m, .int (nI t)] n sh I R (mv_Pi n sh R (fun r I' => md_Q I' r m w L n' (sp_ops w L t 7 0 i π) ∧ md_Fr m I I')) := mv_C.of 3 (by decide) (by simp [Value.category]) rfl (e6_readsProgram hm hw hS hi ht hc (fun _ _ h => mv_Pi.mk h))
theorem md_S.par {I : mv_I} {m L i n : Nat} {w : Nat → Int32} {π : xs_X} {v : Int32} (h : md_S I m w L i n π) (hn : n < 8) : md_S (mv_up (mv_up I (m + 2) n v) m 7 (nI n + 1)) m w L i (n + 1) (mv_up π n 0 v) := by
  obtain ⟨h1, h2, h3, h4, h5, h6⟩ := h
  have em : ∀ k, k ≠ 7 → mv_up (mv_up I (m + 2) n v) m 7 (nI n + 1) m k = I m k := fun k hk => by simp [mv_up, hk]
  refine ⟨by rw [em 0 (by decide)]; exact h1, fun j hj => by rw [mv_upN (m + 1) (by omega), mv_upN (m + 1) (by omega)]; exact h2 j hj, by rw [em 2 (by decide)]; exact h3, by rw [mv_upe, nI_1], by rw [em 8 (by decide)]; exact h5, fun t ht => ?_⟩
  obtain ⟨a1, a2, a3, a4, a5, a6, a7⟩ := h6 t ht
  have e : ∀ b, b ≠ m → b ≠ m + 2 → mv_up (mv_up I (m + 2) n v) m 7 (nI n + 1) b = I b := fun b b1 b2 => by rw [mv_upN b b1, mv_upN b b2]
  have p : ∀ j, j ≠ 0 → mv_up π n 0 v t j = π t j := fun j hj => by simp [mv_up, hj]
  rw [em 8 (by decide), e (m + 3) (by omega) (by omega), e (m + 4) (by omega) (by omega), e (m + 5) (by omega) (by omega), e (m + 6) (by omega) (by omega), e (m + 7) (by omega) (by omega), p 1 (by decide), p 2 (by decide), p 3 (by decide), p 4 (by decide), p 5 (by decide)]
  refine ⟨?_, a2, a3, a4, a5, a6, fun j hj hj6 => ?_⟩
  · rw [mv_upN (m + 2) (by omega)]
    by_cases q : t = n
    · subst q; rw [mv_upe, mv_upe]
    · simp only [mv_up, q, and_false, false_and, if_false]; exact a1
  · rw [p (6 + 2 * j) (by omega), p (7 + 2 * j) (by omega)]
    exact a7 j hj hj6
set_option maxHeartbeats 4000000 in
set_option maxRecDepth 100000 in
theorem e6_readsTask {l : Launch} {D : va_G} {b0 n : Nat} {sh : mv_Sh} {I : mv_I} {R : mv_R} {Q : mv_Q} {m L i n' : Nat} {w : Nat → Int32} {π : xs_X} (hm : ly_Mod sh R m) (hw : tx_W w L) (hA : mt_A I m w L i) (hS : md_S I m w L (tk_e w L i) n' π) (hi : i ≤ L) (hn0 : n' ≠ 0) (hn8 : n' ≤ 8) (hdf : n' < 8 → π n' 1 = nI 0) (hQ : ∀ r I', ((n' = 8 → r = 0 ∧ I' m 6 = nI (tk_s w L i)) ∧ (n' ≠ 8 → md_Q I' r m w L (n' + 1) (sp_tsk w L i n' π)) ∧ md_Fr m I I') → Q (some (.int r)) n sh I' R) : mv_E l D b0 m6_readsTask (mv_rm 5) Q 0 [.ref m] [] 0 0 n sh I R := by
  have hte := tk_e_le (w := w) hi
  have hte2 := tk_e_le (w := w) hte.2.1
  refine mv_aload_n (pc := 0) dX6_readsTask_0 rfl ?_
  refine mv_getIx (pc := 1) (x := nI n') dX6_readsTask_1 fl6_120 rfl (congrArg Prod.fst hm.o) hS.2.2.2.1 ?_
  refine mv_bipush (pc := 4) (v := 8) dX6_readsTask_4 (by decide) ?_
  refine mv_icmp_ne (pc := 6) (tgt := 14) dX6_readsTask_6 (by decide) (fun hb => ?_) (fun hb => ?_)
  · have hlt : n' < 8 := by
      have : n' ≠ 8 := fun q => hb (by rw [q]; rfl)
      omega
    refine mv_aload_n (pc := 14) dX6_readsTask_14 rfl ?_
    refine mv_iconst (pc := 15) (v := 0) dX6_readsTask_15 (by decide) ?_
    refine mv_aload_n (pc := 16) dX6_readsTask_16 rfl ?_
    refine mv_getIx (pc := 17) (x := nI n') dX6_readsTask_17 fl6_120 rfl (congrArg Prod.fst hm.o) hS.2.2.2.1 ?_
    refine mv_iconst (pc := 20) (v := 1) dX6_readsTask_20 (by decide) ?_
    refine mv_isub (pc := 21) dX6_readsTask_21 ?_
    refine mv_top (y := nI (n' - 1)) (by rw [show nI n' = nI ((n' - 1) + 1) by congr 1; omega]; exact nI_pred (n' - 1)) ?_
    refine mv_cVi (pc := 22) dX6_readsTask_22 lk6_126 (congrArg Prod.fst hm.o) (c6_number (lo := 0) (up := n' - 1) hm hw hS.1 hS.2.1 hS.2.2.1 hte.2.1 (by decide) (by omega)) rfl rfl (Nat.le_of_ble_eq_true rfl) (by decide) (by decide) (fun r J ⟨e1, hA2, hF, hf6⟩ => ?_)
    subst e1
    have hS2 := hS.nx hA2 hF
    refine mv_if_ne (pc := 25) (tgt := 30) dX6_readsTask_25 (by decide) (fun hb2 => ?_) (fun hb2 => ?_)
    · have hq1 : tk_k w L (tk_e w L i) = -2 ∧ 0 ≤ tk_v w L (tk_e w L i) ∧ tk_v w L (tk_e w L i) ≤ n' - 1 := Classical.byContradiction fun q => hb2 (by rw [if_neg q])
      refine mv_aload_n (pc := 30) dX6_readsTask_30 rfl ?_
      refine mv_getR (pc := 31) (q := m + 2) dX6_readsTask_31 fl6_13 (fun _ _ => rfl) (congrArg Prod.fst hm.o) hm.f9 ?_
      refine mv_aload_n (pc := 34) dX6_readsTask_34 rfl ?_
      refine mv_getIx (pc := 35) (x := nI n') dX6_readsTask_35 fl6_120 rfl (congrArg Prod.fst hm.o) hS2.2.2.2.1 ?_
      refine mv_aload_n (pc := 38) dX6_readsTask_38 rfl ?_
      refine mv_getIx (pc := 39) (x := nI (tk_v w L (tk_e w L i))) dX6_readsTask_39 fl6_104 rfl (congrArg Prod.fst hm.o) (hA2.2.2.2 hq1.1).1 ?_
      refine mv_iast (pc := 42) (k := n') dX6_readsTask_42 hm.g9 rfl (by omega) ?_
      refine mv_aload_n (pc := 43) dX6_readsTask_43 rfl ?_
      refine mv_dup (pc := 44) dX6_readsTask_44 rfl ?_
      refine mv_getIx (pc := 45) (x := nI n') dX6_readsTask_45 fl6_120 rfl (congrArg Prod.fst hm.o) (by rw [mv_upN m (by omega)]; exact hS2.2.2.2.1) ?_
      refine mv_iconst (pc := 48) (v := 1) dX6_readsTask_48 (by decide) ?_
      refine mv_iadd (pc := 49) dX6_readsTask_49 ?_
      refine mv_putI (pc := 50) dX6_readsTask_50 fl6_120 rfl rfl (congrArg Prod.fst hm.o) ?_
      refine mv_aload_n (pc := 53) dX6_readsTask_53 rfl ?_
      refine mv_aload_n (pc := 54) dX6_readsTask_54 rfl ?_
      refine mv_getIx (pc := 55) (x := nI (n' + 1)) dX6_readsTask_55 fl6_120 rfl (congrArg Prod.fst hm.o) (by rw [mv_upe, nI_1]) ?_
      refine mv_iconst (pc := 58) (v := 1) dX6_readsTask_58 (by decide) ?_
      refine mv_isub (pc := 59) dX6_readsTask_59 ?_
      refine mv_top (y := nI (n')) (nI_pred n') ?_
      refine mv_cVi (pc := 60) dX6_readsTask_60 lk6_130 (congrArg Prod.fst hm.o) (c6_readsProgram (t := n') hm hw (hS2.par hlt) hte2.2.1 hlt (by rw [show mv_up π n' 0 (nI (tk_v w L (tk_e w L i))) n' 1 = π n' 1 by simp [mv_up]]; exact hdf hlt)) rfl rfl (Nat.le_of_ble_eq_true rfl) (by decide) (by decide) (fun r J2 ⟨hq2, hf2⟩ => ?_)
      refine mv_zret (pc := 63) dX6_readsTask_63 rfl hq2.z (by decide) (by decide) (hQ _ _ ⟨fun q => by omega, fun _ => ?_, (((md_Fr.rf.mt hF).up (by omega)).up (by omega)).tr hf2⟩)
      unfold sp_tsk
      rw [if_pos (sp_numb_iff.mpr hq1)]
      exact hq2
    · have hq1 : ¬ (tk_k w L (tk_e w L i) = -2 ∧ 0 ≤ tk_v w L (tk_e w L i) ∧ tk_v w L (tk_e w L i) ≤ n' - 1) := fun q => by rw [if_pos q] at hb2; exact absurd hb2 (by decide)
      refine mv_iconst (pc := 28) (v := 0) dX6_readsTask_28 (by decide) ?_
      refine mv_zret (pc := 29) dX6_readsTask_29 rfl (by rfl) (by decide) (by decide) (hQ _ _ ⟨fun q => by omega, fun _ => ?_, md_Fr.rf.mt hF⟩)
      unfold sp_tsk
      rw [if_neg (fun z => hq1 (sp_numb_iff.mp z))]
      exact ⟨rfl, hf6 hq1⟩
  · have h8 : n' = 8 := (nI_eq (b := 8) (by omega) (by decide)).mp hb
    refine mv_aload_n (pc := 9) dX6_readsTask_9 rfl ?_
    refine mv_cVi (pc := 10) dX6_readsTask_10 lk6_117 (congrArg Prod.fst hm.o) (c6_fails hm hA.2.1) rfl rfl (Nat.le_of_ble_eq_true rfl) (by decide) (by decide) (fun r J2 ⟨e1, e2⟩ => ?_)
    subst e1 e2
    exact mv_zret (pc := 13) dX6_readsTask_13 rfl (by rfl) (by decide) (by decide) (hQ _ _ ⟨fun _ => ⟨rfl, mv_upe⟩, fun q => absurd h8 q, md_Fr.rf.up (by omega)⟩)
theorem c6_readsTask {l : Launch} {D : va_G} {b0 n : Nat} {sh : mv_Sh} {I : mv_I} {R : mv_R} {m L i n' : Nat} {w : Nat → Int32} {π : xs_X} (hm : ly_Mod sh R m) (hw : tx_W w L) (hA : mt_A I m w L i) (hS : md_S I m w L (tk_e w L i) n' π) (hi : i ≤ L) (hn0 : n' ≠ 0) (hn8 : n' ≤ 8) (hdf : n' < 8 → π n' 1 = nI 0) : mv_C l D b0 m6_readsTask (mv_rm 5) [.ref m] n sh I R (mv_Pi n sh R (fun r I' => (n' = 8 → r = 0 ∧ I' m 6 = nI (tk_s w L i)) ∧ (n' ≠ 8 → md_Q I' r m w L (n' + 1) (sp_tsk w L i n' π)) ∧ md_Fr m I I')) := mv_C.of 0 (by decide) (by simp [Value.category]) rfl (e6_readsTask hm hw hA hS hi hn0 hn8 hdf (fun _ _ h => mv_Pi.mk h))

