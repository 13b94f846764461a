theorem md_bit : ∀ G, G < 256 → ∀ t, t < 8 → (nI G ||| ((1 : Int32) <<< (nI t &&& 31))) = nI (G ||| 2 ^ t) ∧ (G ||| 2 ^ t) < 256 ∧ ∀ u, u < 8 → (nI (G ||| 2 ^ t) >>> (nI u &&& 31)) &&& 1 = if u = t then 1 else (nI G >>> (nI u &&& 31)) &&& 1 := by decide +kernel
theorem md_S.set {I : mv_I} {m L i n t col : Nat} {w : Nat → Int32} {π : xs_X} {v : Int32} (h : md_S I m w L i n π) (hc : 2 ≤ col ∧ col ≤ 4) : md_S (mv_up I (m + (col + 3)) t v) m w L i n (mv_up π t col v) := by
  obtain ⟨h1, h2, h3, h4, h5, h6⟩ := h
  have e0 : ∀ b, b ≠ m + (col + 3) → mv_up I (m + (col + 3)) t v b = I b := fun b b1 => mv_upN b b1
  rw [md_S, e0 m (by omega), e0 (m + 1) (by omega)]
  refine ⟨h1, h2, h3, h4, h5, fun u hu => ?_⟩
  obtain ⟨a1, a2, a3, a4, a5, a6, a7⟩ := h6 u hu
  have p : ∀ j, j ≠ col → mv_up π t col v u j = π u j := fun j hj => by simp [mv_up, hj]
  have key : ∀ c, 2 ≤ c → c ≤ 4 → I (m + (c + 3)) u = π u c → mv_up I (m + (col + 3)) t v (m + (c + 3)) u = mv_up π t col v u c := by
    intro c c1 c2 hu
    by_cases q1 : c = col
    · subst q1
      by_cases q2 : u = t
      · subst q2; rw [mv_upe, mv_upe]
      · simp only [mv_up, q2, and_false, false_and, if_false]; exact hu
    · rw [e0 _ (by omega), p c q1]; exact hu
  rw [e0 (m + 2) (by omega), e0 (m + 3) (by omega), e0 (m + 4) (by omega), p 0 (by omega), p 1 (by omega), p 5 (by omega)]
  exact ⟨a1, a2, key 2 (by omega) (by omega) a3, key 3 (by omega) (by omega) a4, key 4 (by omega) (by omega) a5, a6, fun j hj hj6 => by rw [p (6 + 2 * j) (by omega), p (7 + 2 * j) (by omega)]; exact a7 j hj hj6⟩
theorem md_S.gat {I : mv_I} {m L i n t : Nat} {w : Nat → Int32} {π : xs_X} (h : md_S I m w L i n π) (ht : t < 8) : md_S (mv_up I m 8 (I m 8 ||| ((1 : Int32) <<< (nI t &&& 31)))) m w L i n (mv_up π t 5 1) := by
  obtain ⟨h1, h2, h3, h4, ⟨G, hG, h5⟩, h6⟩ := h
  obtain ⟨b1, b2, b3⟩ := md_bit G hG t ht
  have em : ∀ k, k ≠ 8 → mv_up I m 8 (I m 8 ||| ((1 : Int32) <<< (nI t &&& 31))) m k = I m k := fun k hk => by simp [mv_up, hk]
  have e8 : mv_up I m 8 (I m 8 ||| ((1 : Int32) <<< (nI t &&& 31))) m 8 = nI (G ||| 2 ^ t) := by rw [mv_upe, h5, b1]
  refine ⟨by rw [em 0 (by decide)]; exact h1, fun j hj => by rw [mv_upN (m + 1) (by omega)]; exact h2 j hj, by rw [em 2 (by decide)]; exact h3, by rw [em 7 (by decide)]; exact h4, ⟨_, b2, e8⟩, fun u hu => ?_⟩
  obtain ⟨a1, a2, a3, a4, a5, a6, a7⟩ := h6 u hu
  have p : ∀ j, j ≠ 5 → mv_up π t 5 1 u j = π u j := fun j hj => by simp [mv_up, hj]
  rw [e8, mv_upN (m + 2) (by omega), mv_upN (m + 3) (by omega), mv_upN (m + 4) (by omega), mv_upN (m + 5) (by omega), mv_upN (m + 6) (by omega), mv_upN (m + 7) (by omega), p 0 (by decide), p 1 (by decide), p 2 (by decide), p 3 (by decide), p 4 (by decide)]
  refine ⟨a1, a2, a3, a4, a5, ?_, fun j hj hj6 => by rw [p (6 + 2 * j) (by omega), p (7 + 2 * j) (by omega)]; exact a7 j hj hj6⟩
  rw [b3 u hu]
  by_cases q : u = t
  · subst q; rw [if_pos rfl, mv_upe]
  · rw [if_neg q, ← h5, a6]; simp [mv_up, q]
theorem md_end {I I' : mv_I} {m L i n : Nat} {w : Nat → Int32} {π : xs_X} (h : md_S I m w L i n π) (hA : mt_A I' m w L i) (hF : mt_Fr m I I') (h6 : ¬ tk_k w L i = 59 → I' m 6 = nI (tk_s w L i)) (hi : i ≤ L) : md_Q I' (if tk_k w L i = 59 then 1 else 0) m w L n (sp_end w L i π) := by
  have := tk_e_le (w := w) hi
  unfold sp_end
  split
  · exact ⟨rfl, h.nx hA hF, this.2.1⟩
  · rename_i q
    exact ⟨rfl, h6 q⟩
set_option maxHeartbeats 4000000 in
set_option maxRecDepth 100000 in
theorem e6_readsOf {l : Launch} {D : va_G} {b0 n : Nat} {sh : mv_Sh} {I : mv_I} {R : mv_R} {Q : mv_Q} {m L i n' : Nat} {w : Nat → Int32} {π : xs_X} {k : Int32} {res : Nat ⊕ (Nat × xs_X)} (hm : ly_Mod sh R m) (hw : tx_W w L) (hS : md_S I m w L (tk_e w L i) n' π) (hi : i ≤ L) (hn0 : n' ≠ 0) (hn8 : n' ≤ 8) (hres : (k = 103 ∧ res = sp_gat w L i n' π) ∨ (k = 100 ∧ res = sp_set w L i n' π 2 1 60) ∨ (k = 115 ∧ res = sp_set w L i n' π 3 0 6) ∨ (k = 99 ∧ res = sp_set w L i n' π 4 0 5)) (hQ : ∀ r I', (md_Q I' r m w L n' res ∧ md_Fr m I I') → Q (some (.int r)) n sh I' R) : mv_E l D b0 m6_readsOf (mv_rm 4) Q 0 [.ref m, .int k, .null] [] 0 0 n sh I R := by
  have hte := tk_e_le (w := w) hi
  have hte2 := tk_e_le (w := w) hte.2.1
  have hte3 := tk_e_le (w := w) hte2.2.1
  refine mv_aload_n (pc := 0) dX6_readsOf_0 rfl ?_
  refine mv_iconst (pc := 1) (v := 0) dX6_readsOf_1 (by decide) ?_
  refine mv_aload_n (pc := 2) dX6_readsOf_2 rfl ?_
  refine mv_getIx (pc := 3) (x := nI n') dX6_readsOf_3 fl6_120 rfl (congrArg Prod.fst hm.o) hS.2.2.2.1 ?_
  refine mv_iconst (pc := 6) (v := 1) dX6_readsOf_6 (by decide) ?_
  refine mv_isub (pc := 7) dX6_readsOf_7 ?_
  refine mv_top (y := nI (n' - 1)) (by rw [show nI n' = nI ((n' - 1) + 1) by congr 1; omega]; exact nI_pred (n' - 1)) ?_
  refine mv_cVi (pc := 8) dX6_readsOf_8 lk6_126 (congrArg Prod.fst hm.o) (c6_number (lo := 0) (up := n' - 1) hm hw hS.1 hS.2.1 hS.2.2.1 hte.2.1 (by decide) (by omega)) rfl rfl (Nat.le_of_ble_eq_true rfl) (by decide) (by decide) (fun r J ⟨e1, hA2, hF, hf6⟩ => ?_)
  subst e1
  have hS2 := hS.nx hA2 hF
  refine mv_if_ne (pc := 11) (tgt := 16) dX6_readsOf_11 (by decide) (fun hb => ?_) (fun hb => ?_)
  · have hq1 : tk_k w L (tk_e w L i) = -2 ∧ 0 ≤ tk_v w L (tk_e w L i) ∧ tk_v w L (tk_e w L i) ≤ n' - 1 := Classical.byContradiction fun q => hb (by rw [if_neg q])
    have hu : tk_v w L (tk_e w L i) < n' := by omega
    have set_100 : k = 100 → res = sp_set w L i n' π 2 1 60 → tk_k w L (tk_e w L i) = -2 → tk_v w L (tk_e w L i) < n' → mv_E l D b0 m6_readsOf (mv_rm 4) Q 61 [.ref m, .int k, .int (nI (tk_v w L (tk_e w L i)))] [] 0 0 n sh J R := by
      intro hk hr hnk hu
      subst hk
      have ht8 : tk_v w L (tk_e w L i) < 8 := by omega
      have hnb : sp_numb w L (tk_e w L i) 0 (n' - 1) = true := sp_numb_iff.mpr ⟨hnk, by omega, by omega⟩
      generalize hv : tk_v w L (tk_e w L i) = t at hu ht8
      refine mv_aload_n (pc := 61) dX6_readsOf_61 rfl ?_
      refine mv_iload_n (pc := 62) dX6_readsOf_62 rfl ?_
      refine mv_bipush (pc := 63) (v := 100) dX6_readsOf_63 (by decide) ?_
      refine mv_icmp_ne (pc := 65) (tgt := 72) dX6_readsOf_65 (by decide) (fun hb => absurd hb (by decide)) (fun _ => ?_)
      refine mv_iconst (pc := 68) (v := 1) dX6_readsOf_68 (by decide) ?_
      refine mv_goto (pc := 69) (tgt := 73) dX6_readsOf_69 (by decide) ?_
      refine mv_iload_n (pc := 73) dX6_readsOf_73 rfl ?_
      refine mv_bipush (pc := 74) (v := 100) dX6_readsOf_74 (by decide) ?_
      refine mv_icmp_ne (pc := 76) (tgt := 84) dX6_readsOf_76 (by decide) (fun hb => absurd hb (by decide)) (fun _ => ?_)
      refine mv_bipush (pc := 79) (v := 60) dX6_readsOf_79 (by decide) ?_
      refine mv_goto (pc := 81) (tgt := 96) dX6_readsOf_81 (by decide) ?_
      refine mv_cVi (pc := 96) dX6_readsOf_96 lk6_126 (congrArg Prod.fst hm.o) (c6_number (lo := 1) (up := 60) hm hw hS2.1 hS2.2.1 hS2.2.2.1 hte2.2.1 (by decide) (by decide)) rfl rfl (Nat.le_of_ble_eq_true rfl) (by decide) (by decide) (fun r J2 ⟨e1, hA3, hF3, hf3⟩ => ?_)
      subst e1
      have hS3 := hS2.nx hA3 hF3
      refine mv_if_ne (pc := 99) (tgt := 104) dX6_readsOf_99 (by decide) (fun hb => ?_) (fun hb => ?_)
      · have hq1 : tk_k w L (tk_e w L (tk_e w L i)) = -2 ∧ 1 ≤ tk_v w L (tk_e w L (tk_e w L i)) ∧ tk_v w L (tk_e w L (tk_e w L i)) ≤ 60 := Classical.byContradiction fun q => hb (by rw [if_neg q])
        have h5 := (hA3.2.2.2 hq1.1).1
        obtain ⟨a1, a2, a3, a4, a5, a6, a7⟩ := hS3.2.2.2.2.2 t ht8
        have hset := hS3.set (t := t) (col := 2) (v := nI (tk_v w L (tk_e w L (tk_e w L i)))) (by decide)
        have hfin : md_Fr m I (mv_up J2 (m + (2 + 3)) t (nI (tk_v w L (tk_e w L (tk_e w L i))))) := ((md_Fr.rf.mt hF).mt hF3).up (by omega)
        have hJ3 : mv_up (mv_up (mv_up J2 (m + 5) t (nI (tk_v w L (tk_e w L (tk_e w L i))))) (m + 6) t (π t 3)) (m + 7) t (π t 4) = mv_up J2 (m + (2 + 3)) t (nI (tk_v w L (tk_e w L (tk_e w L i)))) := by
          rw [mv_self (a := m + 6) (by rw [mv_upN _ (by omega)]; exact a4), mv_self (a := m + 7) (by rw [mv_upN _ (by omega)]; exact a5)]
        refine mv_aload_n (pc := 104) dX6_readsOf_104 rfl ?_
        refine mv_getR (pc := 105) (q := m + 5) dX6_readsOf_105 fl6_22 (fun _ _ => rfl) (congrArg Prod.fst hm.o) hm.f12 ?_
        refine mv_iload_n (pc := 108) dX6_readsOf_108 rfl ?_
        refine mv_iload_n (pc := 109) dX6_readsOf_109 rfl ?_
        refine mv_bipush (pc := 110) (v := 100) dX6_readsOf_110 (by decide) ?_
        refine mv_icmp_ne (pc := 112) (tgt := 122) dX6_readsOf_112 (by decide) (fun hb => absurd hb (by decide)) (fun _ => ?_)
        refine mv_aload_n (pc := 115) dX6_readsOf_115 rfl ?_
        refine mv_getIx (pc := 116) (x := nI (tk_v w L (tk_e w L (tk_e w L i)))) dX6_readsOf_116 fl6_104 rfl (congrArg Prod.fst hm.o) h5 ?_
        refine mv_goto (pc := 119) (tgt := 128) dX6_readsOf_119 (by decide) ?_
        refine mv_iast (pc := 128) (k := t) dX6_readsOf_128 hm.g12 rfl (by omega) ?_
        refine mv_aload_n (pc := 129) dX6_readsOf_129 rfl ?_
        refine mv_getR (pc := 130) (q := m + 6) dX6_readsOf_130 fl6_25 (fun _ _ => rfl) (congrArg Prod.fst hm.o) hm.f13 ?_
        refine mv_iload_n (pc := 133) dX6_readsOf_133 rfl ?_
        refine mv_iload_n (pc := 134) dX6_readsOf_134 rfl ?_
        refine mv_bipush (pc := 135) (v := 115) dX6_readsOf_135 (by decide) ?_
        refine mv_icmp_ne (pc := 137) (tgt := 147) dX6_readsOf_137 (by decide) (fun _ => ?_) (fun hb => absurd hb (by decide))
        refine mv_aload_n (pc := 147) dX6_readsOf_147 rfl ?_
        refine mv_getR (pc := 148) (q := m + 6) dX6_readsOf_148 fl6_25 (fun _ _ => rfl) (congrArg Prod.fst hm.o) hm.f13 ?_
        refine mv_iload_n (pc := 151) dX6_readsOf_151 rfl ?_
        refine mv_ialdx (pc := 152) (x := π t 3) (k := t) dX6_readsOf_152 hm.g13 rfl (by omega) (by rw [mv_upN _ (by omega)]; exact a4) ?_
        refine mv_iast (pc := 153) (k := t) dX6_readsOf_153 hm.g13 rfl (by omega) ?_
        refine mv_aload_n (pc := 154) dX6_readsOf_154 rfl ?_
        refine mv_getR (pc := 155) (q := m + 7) dX6_readsOf_155 fl6_28 (fun _ _ => rfl) (congrArg Prod.fst hm.o) hm.f14 ?_
        refine mv_iload_n (pc := 158) dX6_readsOf_158 rfl ?_
        refine mv_iload_n (pc := 159) dX6_readsOf_159 rfl ?_
        refine mv_bipush (pc := 160) (v := 99) dX6_readsOf_160 (by decide) ?_
        refine mv_icmp_ne (pc := 162) (tgt := 172) dX6_readsOf_162 (by decide) (fun _ => ?_) (fun hb => absurd hb (by decide))
        refine mv_aload_n (pc := 172) dX6_readsOf_172 rfl ?_
        refine mv_getR (pc := 173) (q := m + 7) dX6_readsOf_173 fl6_28 (fun _ _ => rfl) (congrArg Prod.fst hm.o) hm.f14 ?_
        refine mv_iload_n (pc := 176) dX6_readsOf_176 rfl ?_
        refine mv_ialdx (pc := 177) (x := π t 4) (k := t) dX6_readsOf_177 hm.g14 rfl (by omega) (by rw [mv_upN _ (by omega), mv_upN _ (by omega)]; exact a5) ?_
        refine mv_iast (pc := 178) (k := t) dX6_readsOf_178 hm.g14 rfl (by omega) ?_
        refine mv_aload_n (pc := 179) dX6_readsOf_179 rfl ?_
        rw [hJ3]
        refine mv_cVi (pc := 180) dX6_readsOf_180 lk6_133 (congrArg Prod.fst hm.o) (c6_ends hm hw hset.1 hset.2.1 hset.2.2.1 hte3.2.1) rfl rfl (Nat.le_of_ble_eq_true rfl) (by decide) (by decide) (fun r J4 ⟨e1, hA4, hF4, hf4⟩ => ?_)
        subst e1
        refine mv_zret (pc := 183) dX6_readsOf_183 rfl (by split <;> rfl) (by decide) (by decide) (hQ _ _ ⟨?_, hfin.mt hF4⟩)
        rw [hr]
        unfold sp_set
        rw [if_pos hnb, if_pos (sp_numb_iff.mpr hq1), hv]
        exact md_end hset hA4 hF4 hf4 hte3.2.1
      · have hq1 : ¬ (tk_k w L (tk_e w L (tk_e w L i)) = -2 ∧ 1 ≤ tk_v w L (tk_e w L (tk_e w L i)) ∧ tk_v w L (tk_e w L (tk_e w L i)) ≤ 60) := fun q => by rw [if_pos q] at hb; exact absurd hb (by decide)
        refine mv_iconst (pc := 102) (v := 0) dX6_readsOf_102 (by decide) ?_
        refine mv_zret (pc := 103) dX6_readsOf_103 rfl (by rfl) (by decide) (by decide) (hQ _ _ ⟨?_, (md_Fr.rf.mt hF).mt hF3⟩)
        rw [hr]
        unfold sp_set
        rw [if_pos hnb, if_neg (fun z => hq1 (sp_numb_iff.mp z))]
        exact ⟨rfl, hf3 hq1⟩
    have set_115 : k = 115 → res = sp_set w L i n' π 3 0 6 → tk_k w L (tk_e w L i) = -2 → tk_v w L (tk_e w L i) < n' → mv_E l D b0 m6_readsOf (mv_rm 4) Q 61 [.ref m, .int k, .int (nI (tk_v w L (tk_e w L i)))] [] 0 0 n sh J R := by
      intro hk hr hnk hu
      subst hk
      have ht8 : tk_v w L (tk_e w L i) < 8 := by omega
      have hnb : sp_numb w L (tk_e w L i) 0 (n' - 1) = true := sp_numb_iff.mpr ⟨hnk, by omega, by omega⟩
      generalize hv : tk_v w L (tk_e w L i) = t at hu ht8
      refine mv_aload_n (pc := 61) dX6_readsOf_61 rfl ?_
      refine mv_iload_n (pc := 62) dX6_readsOf_62 rfl ?_
      refine mv_bipush (pc := 63) (v := 100) dX6_readsOf_63 (by decide) ?_
      refine mv_icmp_ne (pc := 65) (tgt := 72) dX6_readsOf_65 (by decide) (fun _ => ?_) (fun hb => absurd hb (by decide))
      refine mv_iconst (pc := 72) (v := 0) dX6_readsOf_72 (by decide) ?_
      refine mv_iload_n (pc := 73) dX6_readsOf_73 rfl ?_
      refine mv_bipush (pc := 74) (v := 100) dX6_readsOf_74 (by decide) ?_
      refine mv_icmp_ne (pc := 76) (tgt := 84) dX6_readsOf_76 (by decide) (fun _ => ?_) (fun hb => absurd hb (by decide))
      refine mv_iload_n (pc := 84) dX6_readsOf_84 rfl ?_
      refine mv_bipush (pc := 85) (v := 115) dX6_readsOf_85 (by decide) ?_
      refine mv_icmp_ne (pc := 87) (tgt := 95) dX6_readsOf_87 (by decide) (fun hb => absurd hb (by decide)) (fun _ => ?_)
      refine mv_bipush (pc := 90) (v := 6) dX6_readsOf_90 (by decide) ?_
      refine mv_goto (pc := 92) (tgt := 96) dX6_readsOf_92 (by decide) ?_
      refine mv_cVi (pc := 96) dX6_readsOf_96 lk6_126 (congrArg Prod.fst hm.o) (c6_number (lo := 0) (up := 6) hm hw hS2.1 hS2.2.1 hS2.2.2.1 hte2.2.1 (by decide) (by decide)) rfl rfl (Nat.le_of_ble_eq_true rfl) (by decide) (by decide) (fun r J2 ⟨e1, hA3, hF3, hf3⟩ => ?_)
      subst e1
      have hS3 := hS2.nx hA3 hF3
      refine mv_if_ne (pc := 99) (tgt := 104) dX6_readsOf_99 (by decide) (fun hb => ?_) (fun hb => ?_)
      · have hq1 : tk_k w L (tk_e w L (tk_e w L i)) = -2 ∧ 0 ≤ tk_v w L (tk_e w L (tk_e w L i)) ∧ tk_v w L (tk_e w L (tk_e w L i)) ≤ 6 := Classical.byContradiction fun q => hb (by rw [if_neg q])
        have h5 := (hA3.2.2.2 hq1.1).1
        obtain ⟨a1, a2, a3, a4, a5, a6, a7⟩ := hS3.2.2.2.2.2 t ht8
        have hset := hS3.set (t := t) (col := 3) (v := nI (tk_v w L (tk_e w L (tk_e w L i)))) (by decide)
        have hfin : md_Fr m I (mv_up J2 (m + (3 + 3)) t (nI (tk_v w L (tk_e w L (tk_e w L i))))) := ((md_Fr.rf.mt hF).mt hF3).up (by omega)
        have hJ3 : mv_up (mv_up (mv_up J2 (m + 5) t (π t 2)) (m + 6) t (nI (tk_v w L (tk_e w L (tk_e w L i))))) (m + 7) t (π t 4) = mv_up J2 (m + (3 + 3)) t (nI (tk_v w L (tk_e w L (tk_e w L i)))) := by
          rw [mv_self (a := m + 5) a3, mv_self (a := m + 7) (by rw [mv_upN _ (by omega)]; exact a5)]
        refine mv_aload_n (pc := 104) dX6_readsOf_104 rfl ?_
        refine mv_getR (pc := 105) (q := m + 5) dX6_readsOf_105 fl6_22 (fun _ _ => rfl) (congrArg Prod.fst hm.o) hm.f12 ?_
        refine mv_iload_n (pc := 108) dX6_readsOf_108 rfl ?_
        refine mv_iload_n (pc := 109) dX6_readsOf_109 rfl ?_
        refine mv_bipush (pc := 110) (v := 100) dX6_readsOf_110 (by decide) ?_
        refine mv_icmp_ne (pc := 112) (tgt := 122) dX6_readsOf_112 (by decide) (fun _ => ?_) (fun hb => absurd hb (by decide))
        refine mv_aload_n (pc := 122) dX6_readsOf_122 rfl ?_
        refine mv_getR (pc := 123) (q := m + 5) dX6_readsOf_123 fl6_22 (fun _ _ => rfl) (congrArg Prod.fst hm.o) hm.f12 ?_
        refine mv_iload_n (pc := 126) dX6_readsOf_126 rfl ?_
        refine mv_ialdx (pc := 127) (x := π t 2) (k := t) dX6_readsOf_127 hm.g12 rfl (by omega) a3 ?_
        refine mv_iast (pc := 128) (k := t) dX6_readsOf_128 hm.g12 rfl (by omega) ?_
        refine mv_aload_n (pc := 129) dX6_readsOf_129 rfl ?_
        refine mv_getR (pc := 130) (q := m + 6) dX6_readsOf_130 fl6_25 (fun _ _ => rfl) (congrArg Prod.fst hm.o) hm.f13 ?_
        refine mv_iload_n (pc := 133) dX6_readsOf_133 rfl ?_
        refine mv_iload_n (pc := 134) dX6_readsOf_134 rfl ?_
        refine mv_bipush (pc := 135) (v := 115) dX6_readsOf_135 (by decide) ?_
        refine mv_icmp_ne (pc := 137) (tgt := 147) dX6_readsOf_137 (by decide) (fun hb => absurd hb (by decide)) (fun _ => ?_)
        refine mv_aload_n (pc := 140) dX6_readsOf_140 rfl ?_
        refine mv_getIx (pc := 141) (x := nI (tk_v w L (tk_e w L (tk_e w L i)))) dX6_readsOf_141 fl6_104 rfl (congrArg Prod.fst hm.o) (by rw [mv_upN m (by omega)]; exact h5) ?_
        refine mv_goto (pc := 144) (tgt := 153) dX6_readsOf_144 (by decide) ?_
        refine mv_iast (pc := 153) (k := t) dX6_readsOf_153 hm.g13 rfl (by omega) ?_
        refine mv_aload_n (pc := 154) dX6_readsOf_154 rfl ?_
        refine mv_getR (pc := 155) (q := m + 7) dX6_readsOf_155 fl6_28 (fun _ _ => rfl) (congrArg Prod.fst hm.o) hm.f14 ?_
        refine mv_iload_n (pc := 158) dX6_readsOf_158 rfl ?_
        refine mv_iload_n (pc := 159) dX6_readsOf_159 rfl ?_
        refine mv_bipush (pc := 160) (v := 99) dX6_readsOf_160 (by decide) ?_
        refine mv_icmp_ne (pc := 162) (tgt := 172) dX6_readsOf_162 (by decide) (fun _ => ?_) (fun hb => absurd hb (by decide))
        refine mv_aload_n (pc := 172) dX6_readsOf_172 rfl ?_
        refine mv_getR (pc := 173) (q := m + 7) dX6_readsOf_173 fl6_28 (fun _ _ => rfl) (congrArg Prod.fst hm.o) hm.f14 ?_
        refine mv_iload_n (pc := 176) dX6_readsOf_176 rfl ?_
        refine mv_ialdx (pc := 177) (x := π t 4) (k := t) dX6_readsOf_177 hm.g14 rfl (by omega) (by rw [mv_upN _ (by omega), mv_upN _ (by omega)]; exact a5) ?_
        refine mv_iast (pc := 178) (k := t) dX6_readsOf_178 hm.g14 rfl (by omega) ?_
        refine mv_aload_n (pc := 179) dX6_readsOf_179 rfl ?_
        rw [hJ3]
        refine mv_cVi (pc := 180) dX6_readsOf_180 lk6_133 (congrArg Prod.fst hm.o) (c6_ends hm hw hset.1 hset.2.1 hset.2.2.1 hte3.2.1) rfl rfl (Nat.le_of_ble_eq_true rfl) (by decide) (by decide) (fun r J4 ⟨e1, hA4, hF4, hf4⟩ => ?_)
        subst e1
        refine mv_zret (pc := 183) dX6_readsOf_183 rfl (by split <;> rfl) (by decide) (by decide) (hQ _ _ ⟨?_, hfin.mt hF4⟩)
        rw [hr]
        unfold sp_set
        rw [if_pos hnb, if_pos (sp_numb_iff.mpr hq1), hv]
        exact md_end hset hA4 hF4 hf4 hte3.2.1
      · have hq1 : ¬ (tk_k w L (tk_e w L (tk_e w L i)) = -2 ∧ 0 ≤ tk_v w L (tk_e w L (tk_e w L i)) ∧ tk_v w L (tk_e w L (tk_e w L i)) ≤ 6) := fun q => by rw [if_pos q] at hb; exact absurd hb (by decide)
        refine mv_iconst (pc := 102) (v := 0) dX6_readsOf_102 (by decide) ?_
        refine mv_zret (pc := 103) dX6_readsOf_103 rfl (by rfl) (by decide) (by decide) (hQ _ _ ⟨?_, (md_Fr.rf.mt hF).mt hF3⟩)
        rw [hr]
        unfold sp_set
        rw [if_pos hnb, if_neg (fun z => hq1 (sp_numb_iff.mp z))]
        exact ⟨rfl, hf3 hq1⟩
    have set_99 : k = 99 → res = sp_set w L i n' π 4 0 5 → tk_k w L (tk_e w L i) = -2 → tk_v w L (tk_e w L i) < n' → mv_E l D b0 m6_readsOf (mv_rm 4) Q 61 [.ref m, .int k, .int (nI (tk_v w L (tk_e w L i)))] [] 0 0 n sh J R := by
      intro hk hr hnk hu
      subst hk
      have ht8 : tk_v w L (tk_e w L i) < 8 := by omega
      have hnb : sp_numb w L (tk_e w L i) 0 (n' - 1) = true := sp_numb_iff.mpr ⟨hnk, by omega, by omega⟩
      generalize hv : tk_v w L (tk_e w L i) = t at hu ht8
      refine mv_aload_n (pc := 61) dX6_readsOf_61 rfl ?_
      refine mv_iload_n (pc := 62) dX6_readsOf_62 rfl ?_
      refine mv_bipush (pc := 63) (v := 100) dX6_readsOf_63 (by decide) ?_
      refine mv_icmp_ne (pc := 65) (tgt := 72) dX6_readsOf_65 (by decide) (fun _ => ?_) (fun hb => absurd hb (by decide))
      refine mv_iconst (pc := 72) (v := 0) dX6_readsOf_72 (by decide) ?_
      refine mv_iload_n (pc := 73) dX6_readsOf_73 rfl ?_
      refine mv_bipush (pc := 74) (v := 100) dX6_readsOf_74 (by decide) ?_
      refine mv_icmp_ne (pc := 76) (tgt := 84) dX6_readsOf_76 (by decide) (fun _ => ?_) (fun hb => absurd hb (by decide))
      refine mv_iload_n (pc := 84) dX6_readsOf_84 rfl ?_
      refine mv_bipush (pc := 85) (v := 115) dX6_readsOf_85 (by decide) ?_
      refine mv_icmp_ne (pc := 87) (tgt := 95) dX6_readsOf_87 (by decide) (fun _ => ?_) (fun hb => absurd hb (by decide))
      refine mv_iconst (pc := 95) (v := 5) dX6_readsOf_95 (by decide) ?_
      refine mv_cVi (pc := 96) dX6_readsOf_96 lk6_126 (congrArg Prod.fst hm.o) (c6_number (lo := 0) (up := 5) hm hw hS2.1 hS2.2.1 hS2.2.2.1 hte2.2.1 (by decide) (by decide)) rfl rfl (Nat.le_of_ble_eq_true rfl) (by decide) (by decide) (fun r J2 ⟨e1, hA3, hF3, hf3⟩ => ?_)
      subst e1
      have hS3 := hS2.nx hA3 hF3
      refine mv_if_ne (pc := 99) (tgt := 104) dX6_readsOf_99 (by decide) (fun hb => ?_) (fun hb => ?_)
      · have hq1 : tk_k w L (tk_e w L (tk_e w L i)) = -2 ∧ 0 ≤ tk_v w L (tk_e w L (tk_e w L i)) ∧ tk_v w L (tk_e w L (tk_e w L i)) ≤ 5 := Classical.byContradiction fun q => hb (by rw [if_neg q])
        have h5 := (hA3.2.2.2 hq1.1).1
        obtain ⟨a1, a2, a3, a4, a5, a6, a7⟩ := hS3.2.2.2.2.2 t ht8
        have hset := hS3.set (t := t) (col := 4) (v := nI (tk_v w L (tk_e w L (tk_e w L i)))) (by decide)
        have hfin : md_Fr m I (mv_up J2 (m + (4 + 3)) t (nI (tk_v w L (tk_e w L (tk_e w L i))))) := ((md_Fr.rf.mt hF).mt hF3).up (by omega)
        have hJ3 : mv_up (mv_up (mv_up J2 (m + 5) t (π t 2)) (m + 6) t (π t 3)) (m + 7) t (nI (tk_v w L (tk_e w L (tk_e w L i)))) = mv_up J2 (m + (4 + 3)) t (nI (tk_v w L (tk_e w L (tk_e w L i)))) := by
          rw [mv_self (a := m + 5) a3, mv_self (a := m + 6) a4]
        refine mv_aload_n (pc := 104) dX6_readsOf_104 rfl ?_
        refine mv_getR (pc := 105) (q := m + 5) dX6_readsOf_105 fl6_22 (fun _ _ => rfl) (congrArg Prod.fst hm.o) hm.f12 ?_
        refine mv_iload_n (pc := 108) dX6_readsOf_108 rfl ?_
        refine mv_iload_n (pc := 109) dX6_readsOf_109 rfl ?_
        refine mv_bipush (pc := 110) (v := 100) dX6_readsOf_110 (by decide) ?_
        refine mv_icmp_ne (pc := 112) (tgt := 122) dX6_readsOf_112 (by decide) (fun _ => ?_) (fun hb => absurd hb (by decide))
        refine mv_aload_n (pc := 122) dX6_readsOf_122 rfl ?_
        refine mv_getR (pc := 123) (q := m + 5) dX6_readsOf_123 fl6_22 (fun _ _ => rfl) (congrArg Prod.fst hm.o) hm.f12 ?_
        refine mv_iload_n (pc := 126) dX6_readsOf_126 rfl ?_
        refine mv_ialdx (pc := 127) (x := π t 2) (k := t) dX6_readsOf_127 hm.g12 rfl (by omega) a3 ?_
        refine mv_iast (pc := 128) (k := t) dX6_readsOf_128 hm.g12 rfl (by omega) ?_
        refine mv_aload_n (pc := 129) dX6_readsOf_129 rfl ?_
        refine mv_getR (pc := 130) (q := m + 6) dX6_readsOf_130 fl6_25 (fun _ _ => rfl) (congrArg Prod.fst hm.o) hm.f13 ?_
        refine mv_iload_n (pc := 133) dX6_readsOf_133 rfl ?_
        refine mv_iload_n (pc := 134) dX6_readsOf_134 rfl ?_
        refine mv_bipush (pc := 135) (v := 115) dX6_readsOf_135 (by decide) ?_
        refine mv_icmp_ne (pc := 137) (tgt := 147) dX6_readsOf_137 (by decide) (fun _ => ?_) (fun hb => absurd hb (by decide))
        refine mv_aload_n (pc := 147) dX6_readsOf_147 rfl ?_
        refine mv_getR (pc := 148) (q := m + 6) dX6_readsOf_148 fl6_25 (fun _ _ => rfl) (congrArg Prod.fst hm.o) hm.f13 ?_
        refine mv_iload_n (pc := 151) dX6_readsOf_151 rfl ?_
        refine mv_ialdx (pc := 152) (x := π t 3) (k := t) dX6_readsOf_152 hm.g13 rfl (by omega) (by rw [mv_upN _ (by omega)]; exact a4) ?_
        refine mv_iast (pc := 153) (k := t) dX6_readsOf_153 hm.g13 rfl (by omega) ?_
        refine mv_aload_n (pc := 154) dX6_readsOf_154 rfl ?_
        refine mv_getR (pc := 155) (q := m + 7) dX6_readsOf_155 fl6_28 (fun _ _ => rfl) (congrArg Prod.fst hm.o) hm.f14 ?_
        refine mv_iload_n (pc := 158) dX6_readsOf_158 rfl ?_
        refine mv_iload_n (pc := 159) dX6_readsOf_159 rfl ?_
        refine mv_bipush (pc := 160) (v := 99) dX6_readsOf_160 (by decide) ?_
        refine mv_icmp_ne (pc := 162) (tgt := 172) dX6_readsOf_162 (by decide) (fun hb => absurd hb (by decide)) (fun _ => ?_)
        refine mv_aload_n (pc := 165) dX6_readsOf_165 rfl ?_
        refine mv_getIx (pc := 166) (x := nI (tk_v w L (tk_e w L (tk_e w L i)))) dX6_readsOf_166 fl6_104 rfl (congrArg Prod.fst hm.o) (by rw [mv_upN m (by omega), mv_upN m (by omega)]; exact h5) ?_
        refine mv_goto (pc := 169) (tgt := 178) dX6_readsOf_169 (by decide) ?_
        refine mv_iast (pc := 178) (k := t) dX6_readsOf_178 hm.g14 rfl (by omega) ?_
        refine mv_aload_n (pc := 179) dX6_readsOf_179 rfl ?_
        rw [hJ3]
        refine mv_cVi (pc := 180) dX6_readsOf_180 lk6_133 (congrArg Prod.fst hm.o) (c6_ends hm hw hset.1 hset.2.1 hset.2.2.1 hte3.2.1) rfl rfl (Nat.le_of_ble_eq_true rfl) (by decide) (by decide) (fun r J4 ⟨e1, hA4, hF4, hf4⟩ => ?_)
        subst e1
        refine mv_zret (pc := 183) dX6_readsOf_183 rfl (by split <;> rfl) (by decide) (by decide) (hQ _ _ ⟨?_, hfin.mt hF4⟩)
        rw [hr]
        unfold sp_set
        rw [if_pos hnb, if_pos (sp_numb_iff.mpr hq1), hv]
        exact md_end hset hA4 hF4 hf4 hte3.2.1
      · have hq1 : ¬ (tk_k w L (tk_e w L (tk_e w L i)) = -2 ∧ 0 ≤ tk_v w L (tk_e w L (tk_e w L i)) ∧ tk_v w L (tk_e w L (tk_e w L i)) ≤ 5) := fun q => by rw [if_pos q] at hb; exact absurd hb (by decide)
        refine mv_iconst (pc := 102) (v := 0) dX6_readsOf_102 (by decide) ?_
        refine mv_zret (pc := 103) dX6_readsOf_103 rfl (by rfl) (by decide) (by decide) (hQ _ _ ⟨?_, (md_Fr.rf.mt hF).mt hF3⟩)
        rw [hr]
        unfold sp_set
        rw [if_pos hnb, if_neg (fun z => hq1 (sp_numb_iff.mp z))]
        exact ⟨rfl, hf3 hq1⟩
    refine mv_aload_n (pc := 16) dX6_readsOf_16 rfl ?_
    refine mv_getIx (pc := 17) (x := nI (tk_v w L (tk_e w L i))) dX6_readsOf_17 fl6_104 rfl (congrArg Prod.fst hm.o) (hA2.2.2.2 hq1.1).1 ?_
    refine mv_istore_n (pc := 20) dX6_readsOf_20 (by decide) ?_
    refine mv_iload_n (pc := 21) dX6_readsOf_21 rfl ?_
    refine mv_bipush (pc := 22) (v := 103) dX6_readsOf_22 (by decide) ?_
    rcases hres with ⟨hk, hr⟩ | ⟨hk, hr⟩ | ⟨hk, hr⟩ | ⟨hk, hr⟩
    · subst hk
      have ht8 : tk_v w L (tk_e w L i) < 8 := by omega
      have hnb : sp_numb w L (tk_e w L i) 0 (n' - 1) = true := sp_numb_iff.mpr hq1
      generalize hv : tk_v w L (tk_e w L i) = t at hu ht8
      have hbit := (hS2.2.2.2.2.2 t ht8).2.2.2.2.2.1
      refine mv_icmp_ne (pc := 24) (tgt := 61) dX6_readsOf_24 (by decide) (fun hb => absurd hb (by decide)) (fun _ => ?_)
      refine mv_aload_n (pc := 27) dX6_readsOf_27 rfl ?_
      refine mv_getI (pc := 28) dX6_readsOf_28 fl6_123 rfl (congrArg Prod.fst hm.o) ?_
      refine mv_iload_n (pc := 31) dX6_readsOf_31 rfl ?_
      refine mv_ishr (pc := 32) dX6_readsOf_32 ?_
      refine mv_iconst (pc := 33) (v := 1) dX6_readsOf_33 (by decide) ?_
      refine mv_iand (pc := 34) dX6_readsOf_34 ?_
      refine mv_top (y := π t 5) hbit ?_
      refine mv_iconst (pc := 35) (v := 1) dX6_readsOf_35 (by decide) ?_
      refine mv_icmp_ne (pc := 36) (tgt := 44) dX6_readsOf_36 (by decide) (fun hb2 => ?_) (fun hb2 => ?_)
      · refine mv_aload_n (pc := 44) dX6_readsOf_44 rfl ?_
        refine mv_dup (pc := 45) dX6_readsOf_45 rfl ?_
        refine mv_getI (pc := 46) dX6_readsOf_46 fl6_123 rfl (congrArg Prod.fst hm.o) ?_
        refine mv_iconst (pc := 49) (v := 1) dX6_readsOf_49 (by decide) ?_
        refine mv_iload_n (pc := 50) dX6_readsOf_50 rfl ?_
        refine mv_ishl (pc := 51) dX6_readsOf_51 ?_
        refine mv_ior (pc := 52) dX6_readsOf_52 ?_
        refine mv_putI (pc := 53) dX6_readsOf_53 fl6_123 rfl rfl (congrArg Prod.fst hm.o) ?_
        refine mv_aload_n (pc := 56) dX6_readsOf_56 rfl ?_
        have hg := hS2.gat ht8
        refine mv_cVi (pc := 57) dX6_readsOf_57 lk6_133 (congrArg Prod.fst hm.o) (c6_ends hm hw hg.1 hg.2.1 hg.2.2.1 hte2.2.1) rfl rfl (Nat.le_of_ble_eq_true rfl) (by decide) (by decide) (fun r J4 ⟨e1, hA4, hF4, hf4⟩ => ?_)
        subst e1
        refine mv_zret (pc := 60) dX6_readsOf_60 rfl (by split <;> rfl) (by decide) (by decide) (hQ _ _ ⟨?_, ((md_Fr.rf.mt hF).up (by omega)).mt hF4⟩)
        rw [hr]
        unfold sp_gat
        rw [hv, if_pos (show sp_numb w L (tk_e w L i) 0 (n' - 1) = true ∧ ¬ π t 5 = 1 from ⟨hnb, hb2⟩)]
        exact md_end hg hA4 hF4 hf4 hte2.2.1
      · refine mv_aload_n (pc := 39) dX6_readsOf_39 rfl ?_
        refine mv_cVi (pc := 40) dX6_readsOf_40 lk6_117 (congrArg Prod.fst hm.o) (c6_fails hm hA2.2.1) rfl rfl (Nat.le_of_ble_eq_true rfl) (by decide) (by decide) (fun r J2 ⟨e1, e2⟩ => ?_)
        subst e1 e2
        refine mv_zret (pc := 43) dX6_readsOf_43 rfl (by rfl) (by decide) (by decide) (hQ _ _ ⟨?_, (md_Fr.rf.mt hF).up (by omega)⟩)
        rw [hr]
        unfold sp_gat
        rw [hv, if_neg (fun q => q.2 hb2)]
        exact ⟨rfl, mv_upe⟩
    · refine mv_icmp_ne (pc := 24) (tgt := 61) dX6_readsOf_24 (by decide) (fun _ => set_100 hk hr hq1.1 hu) (fun hb => absurd (hk.symm.trans hb) (by decide))
    · refine mv_icmp_ne (pc := 24) (tgt := 61) dX6_readsOf_24 (by decide) (fun _ => set_115 hk hr hq1.1 hu) (fun hb => absurd (hk.symm.trans hb) (by decide))
    · refine mv_icmp_ne (pc := 24) (tgt := 61) dX6_readsOf_24 (by decide) (fun _ => set_99 hk hr hq1.1 hu) (fun hb => absurd (hk.symm.trans hb) (by decide))
  · have hq1 : ¬ (tk_k w L (tk_e w L i) = -2 ∧ 0 ≤ tk_v w L (tk_e w L i) ∧ tk_v w L (tk_e w L i) ≤ n' - 1) := fun q => by rw [if_pos q] at hb; exact absurd hb (by decide)
    have hres2 : res = .inl (tk_s w L (tk_e w L i)) := by
      rcases hres with ⟨-, hr⟩ | ⟨-, hr⟩ | ⟨-, hr⟩ | ⟨-, hr⟩
      · rw [hr]; unfold sp_gat; rw [if_neg (fun z => hq1 (sp_numb_iff.mp z.1))]
      · rw [hr]; unfold sp_set; rw [if_neg (fun z => hq1 (sp_numb_iff.mp z))]
      · rw [hr]; unfold sp_set; rw [if_neg (fun z => hq1 (sp_numb_iff.mp z))]
      · rw [hr]; unfold sp_set; rw [if_neg (fun z => hq1 (sp_numb_iff.mp z))]
    refine mv_iconst (pc := 14) (v := 0) dX6_readsOf_14 (by decide) ?_
    refine mv_zret (pc := 15) dX6_readsOf_15 rfl (by rfl) (by decide) (by decide) (hQ _ _ ⟨?_, md_Fr.rf.mt hF⟩)
    rw [hres2]
    exact ⟨rfl, hf6 hq1⟩
theorem c6_readsOf {l : Launch} {D : va_G} {b0 n : Nat} {sh : mv_Sh} {I : mv_I} {R : mv_R} {m L i n' : Nat} {w : Nat → Int32} {π : xs_X} {k : Int32} {res : Nat ⊕ (Nat × xs_X)} (hm : ly_Mod sh R m) (hw : tx_W w L) (hS : md_S I m w L (tk_e w L i) n' π) (hi : i ≤ L) (hn0 : n' ≠ 0) (hn8 : n' ≤ 8) (hres : (k = 103 ∧ res = sp_gat w L i n' π) ∨ (k = 100 ∧ res = sp_set w L i n' π 2 1 60) ∨ (k = 115 ∧ res = sp_set w L i n' π 3 0 6) ∨ (k = 99 ∧ res = sp_set w L i n' π 4 0 5)) : mv_C l D b0 m6_readsOf (mv_rm 4) [.ref m, .int k] n sh I R (mv_Pi n sh R (fun r I' => md_Q I' r m w L n' res ∧ md_Fr m I I')) := mv_C.of 1 (by decide) (by simp [Value.category]) rfl (e6_readsOf hm hw hS hi hn0 hn8 hres (fun _ _ h => mv_Pi.mk h))

