set_option maxHeartbeats 4000000 in
set_option maxRecDepth 100000 in
theorem e6_works {l : Launch} {D : va_G} {b0 n : Nat} {sh : mv_Sh} {I : mv_I} {R : mv_R} {Q : mv_Q} {m a nt t b s : Nat} {π x : xs_X} (K : rm_P sh R I m a nt π) (h : rm_R I a x) (hW : xs_W nt π x) (ht : t < nt) (hb : x t 2 = nI b) (hs : π t 1 = nI s) (hbs : b < s) (hs6 : s ≤ 6) (hQ : ∀ I', (rm_R I' a (xs_wk nt π x t) ∧ rm_Fr a I I') → Q none n sh I' R) : mv_E l D b0 m6_works (mv_rm 3) Q 0 [.ref m, .ref a, .int (nI t), .null, .null] [] 0 0 n sh I R := by
  obtain ⟨hm, ha, haa, hpc, hpw⟩ := id K
  have hn := hpw.2.1
  have ht8 : t < 8 := by omega
  obtain ⟨-, ⟨e, he6, he⟩, -, hT⟩ := id hW
  obtain ⟨c, hc8, hc⟩ := (hT t ht).2.1
  have hcl : (x t 2).toNatClampNeg = b := by rw [hb]; exact nI_clamp (by omega)
  have hcs : (π t 1).toNatClampNeg = s := by rw [hs]; exact nI_clamp (by omega)
  have h2 : I a (18 * t + 2) = x t 2 := h.1 t ht8 2 (by decide)
  have hact := (hpc.2 t ht).2.2.2.2.2.2 b (by omega)
  obtain ⟨s2, hs26, hs2, hops⟩ := (hpw.2.2.2 t ht).2.1
  have es : s2 = s := (nI_eq (by omega) (by omega)).mp (hs2.symm.trans hs)
  subst es
  have hop5 := hops b hbs
  have hbe : rm_R (mv_up I a (18 * t + 2) (x t 2 + 1)) a (xs_beh x t) := rm_set 2 h ht8 (by decide)
  have hbf : rm_Fr a I (mv_up I a (18 * t + 2) (x t 2 + 1)) := rm_Fr.rf.up
  have he8 : xs_beh x t 8 1 = nI e := by unfold xs_beh; rw [mv_upN 8 (by omega)]; exact he
  refine mv_bipush (pc := 0) (v := 18) dX6_works_0 (by decide) ?_
  refine mv_iload_n (pc := 2) dX6_works_2 rfl ?_
  refine mv_imul (pc := 3) dX6_works_3 ?_
  refine mv_top (y := nI (18 * t)) (nI_mul 18 t) ?_
  refine mv_istore_n (pc := 4) dX6_works_4 (by decide) ?_
  refine mv_bipush (pc := 5) (v := 12) dX6_works_5 (by decide) ?_
  refine mv_iload_n (pc := 7) dX6_works_7 rfl ?_
  refine mv_imul (pc := 8) dX6_works_8 ?_
  refine mv_iconst (pc := 9) (v := 2) dX6_works_9 (by decide) ?_
  refine mv_aload_n (pc := 10) dX6_works_10 rfl ?_
  refine mv_iload_n (pc := 11) dX6_works_11 rfl ?_
  refine mv_iconst (pc := 12) (v := 2) dX6_works_12 (by decide) ?_
  refine mv_iadd (pc := 13) dX6_works_13 ?_
  refine mv_ialdx (pc := 14) (x := nI b) (k := 18 * t + 2) dX6_works_14 ha (nI_add _ 2) (by omega) (h2.trans hb) ?_
  refine mv_imul (pc := 15) dX6_works_15 ?_
  refine mv_iadd (pc := 16) dX6_works_16 ?_
  refine mv_top (y := nI (12 * t + 2 * b)) (show nI 12 * nI t + nI 2 * nI b = nI (12 * t + 2 * b) by rw [nI_mul, nI_mul, nI_add]) ?_
  refine mv_istore (pc := 17) dX6_works_17 (by decide) ?_
  refine mv_aload_n (pc := 19) dX6_works_19 rfl ?_
  refine mv_getR (pc := 20) (q := m + 10) dX6_works_20 fl6_37 (fun _ _ => rfl) (congrArg Prod.fst hm.o) hm.f19 ?_
  refine mv_iload (pc := 23) dX6_works_23 rfl ?_
  refine mv_ialdx (pc := 25) (x := π t (6 + 2 * b)) (k := 12 * t + 2 * b) dX6_works_25 hm.g19 rfl (by omega) hact.1 ?_
  rcases hop5 with ⟨hop5 | hop5, -⟩ | hop5 | hop5 | hop5
  · rw [hop5]
    refine mv_lsw (pc := 26) (off := 42) (tgt := 68) dX6_works_26 (by decide) (by decide) (by decide) ?_
    refine mv_aload_n (pc := 68) dX6_works_68 rfl ?_
    refine mv_iload_n (pc := 69) dX6_works_69 rfl ?_
    refine mv_iconst (pc := 70) (v := 3) dX6_works_70 (by decide) ?_
    refine mv_iadd (pc := 71) dX6_works_71 ?_
    refine mv_dup2 (pc := 72) dX6_works_72 rfl rfl ?_
    refine mv_ialdx (pc := 73) (x := x t 3) (k := 18 * t + 3) dX6_works_73 ha (nI_add _ 3) (by omega) (h.1 t ht8 3 (by decide)) ?_
    refine mv_iconst (pc := 74) (v := 1) dX6_works_74 (by decide) ?_
    refine mv_iadd (pc := 75) dX6_works_75 ?_
    refine mv_iast (pc := 76) (k := 18 * t + 3) dX6_works_76 ha (nI_add _ 3) (by omega) ?_
    refine mv_aload_n (pc := 77) dX6_works_77 rfl ?_
    refine mv_iload_n (pc := 78) dX6_works_78 rfl ?_
    refine mv_iconst (pc := 79) (v := 3) dX6_works_79 (by decide) ?_
    refine mv_iadd (pc := 80) dX6_works_80 ?_
    refine mv_ialdx (pc := 81) (x := x t 3 + 1) (k := 18 * t + 3) dX6_works_81 ha (nI_add _ 3) (by omega) mv_upe ?_
    refine mv_aload_n (pc := 82) dX6_works_82 rfl ?_
    refine mv_getR (pc := 83) (q := m + 10) dX6_works_83 fl6_37 (fun _ _ => rfl) (congrArg Prod.fst hm.o) hm.f19 ?_
    refine mv_iload (pc := 86) dX6_works_86 rfl ?_
    refine mv_iconst (pc := 88) (v := 1) dX6_works_88 (by decide) ?_
    refine mv_iadd (pc := 89) dX6_works_89 ?_
    refine mv_ialdx (pc := 90) (x := π t (7 + 2 * b)) (k := 12 * t + 2 * b + 1) dX6_works_90 hm.g19 (nI_add _ 1) (by omega) (by rw [mv_upN _ (by omega)]; exact hact.2) ?_
    refine mv_icmp_ne (pc := 91) (tgt := 194) dX6_works_91 (by decide) (fun hne => ?_) (fun hne => ?_)
    · refine mv_vret (pc := 194) dX6_works_194 rfl (by decide) (by decide) (hQ _ ⟨?_, rm_Fr.rf.up⟩)
      unfold xs_wk
      rw [hcl, if_pos hop5, if_neg hne]
      exact rm_set 3 h ht8 (by decide)
    · refine mv_aload_n (pc := 94) dX6_works_94 rfl ?_
      refine mv_iload_n (pc := 95) dX6_works_95 rfl ?_
      refine mv_iconst (pc := 96) (v := 3) dX6_works_96 (by decide) ?_
      refine mv_iadd (pc := 97) dX6_works_97 ?_
      refine mv_iconst (pc := 98) (v := 0) dX6_works_98 (by decide) ?_
      refine mv_iast (pc := 99) (k := 18 * t + 3) dX6_works_99 ha (nI_add _ 3) (by omega) ?_
      refine mv_aload_n (pc := 100) dX6_works_100 rfl ?_
      refine mv_iload_n (pc := 101) dX6_works_101 rfl ?_
      refine mv_iconst (pc := 102) (v := 2) dX6_works_102 (by decide) ?_
      refine mv_iadd (pc := 103) dX6_works_103 ?_
      refine mv_dup2 (pc := 104) dX6_works_104 rfl rfl ?_
      refine mv_ialdx (pc := 105) (x := x t 2) (k := 18 * t + 2) dX6_works_105 ha (nI_add _ 2) (by omega) (by rw [mv_upup]; have q : ¬ 18 * t + 2 = 18 * t + 3 := (by omega); simp only [mv_up, q, and_false, if_false]; exact h2) ?_
      refine mv_iconst (pc := 106) (v := 1) dX6_works_106 (by decide) ?_
      refine mv_iadd (pc := 107) dX6_works_107 ?_
      refine mv_iast (pc := 108) (k := 18 * t + 2) dX6_works_108 ha (nI_add _ 2) (by omega) ?_
      refine mv_goto (pc := 109) (tgt := 194) dX6_works_109 (by decide) ?_
      refine mv_vret (pc := 194) dX6_works_194 rfl (by decide) (by decide) (hQ _ ⟨?_, rm_Fr.rf.up.up.up⟩)
      unfold xs_wk
      rw [hcl, if_pos hop5, if_pos hne, mv_upup]
      unfold xs_beh
      rw [show mv_up x t 3 0 t 2 = x t 2 by simp [mv_up]]
      exact rm_set 2 (rm_set 3 h ht8 (by decide)) ht8 (by decide)
  · rw [hop5]
    refine mv_lsw (pc := 26) (off := 147) (tgt := 173) dX6_works_26 (by decide) (by decide) (by decide) ?_
    refine mv_aload_n (pc := 173) dX6_works_173 rfl ?_
    refine mv_iload_n (pc := 174) dX6_works_174 rfl ?_
    refine mv_aload_n (pc := 175) dX6_works_175 rfl ?_
    refine mv_getR (pc := 176) (q := m + 10) dX6_works_176 fl6_37 (fun _ _ => rfl) (congrArg Prod.fst hm.o) hm.f19 ?_
    refine mv_iload (pc := 179) dX6_works_179 rfl ?_
    refine mv_iconst (pc := 181) (v := 1) dX6_works_181 (by decide) ?_
    refine mv_iadd (pc := 182) dX6_works_182 ?_
    refine mv_ialdx (pc := 183) (x := π t (7 + 2 * b)) (k := 12 * t + 2 * b + 1) dX6_works_183 hm.g19 (nI_add _ 1) (by omega) hact.2 ?_
    refine mv_cSv (pc := 184) dX6_works_184 lk6_187 (c6_codes ha h ht8 hc hc8) rfl rfl (Nat.le_of_ble_eq_true rfl) (by decide) (by decide) (fun J ⟨hr, hf⟩ => ?_)
    refine mv_aload_n (pc := 187) dX6_works_187 rfl ?_
    refine mv_aload_n (pc := 188) dX6_works_188 rfl ?_
    refine mv_iload_n (pc := 189) dX6_works_189 rfl ?_
    refine mv_iconst (pc := 190) (v := 1) dX6_works_190 (by decide) ?_
    refine mv_cVv (pc := 191) dX6_works_191 lk6_190 (congrArg Prod.fst hm.o) (c6_closes (K.fr hf) hr ht (by rw [xs_cd_ne (by omega)]; exact he) he6) rfl rfl (Nat.le_of_ble_eq_true rfl) (by decide) (by decide) (fun J2 ⟨hr2, hf2⟩ => ?_)
    refine mv_vret (pc := 194) dX6_works_194 rfl (by decide) (by decide) (hQ _ ⟨?_, hf.tr hf2⟩)
    unfold xs_wk
    rw [hcl, if_neg (by rw [hop5]; decide), if_neg (by rw [hop5]; decide), if_neg (by rw [hop5]; decide), if_neg (by rw [hop5]; decide)]
    exact hr2
  · rw [hop5]
    refine mv_lsw (pc := 26) (off := 86) (tgt := 112) dX6_works_26 (by decide) (by decide) (by decide) ?_
    refine mv_aload_n (pc := 112) dX6_works_112 rfl ?_
    refine mv_iload_n (pc := 113) dX6_works_113 rfl ?_
    refine mv_iconst (pc := 114) (v := 2) dX6_works_114 (by decide) ?_
    refine mv_iadd (pc := 115) dX6_works_115 ?_
    refine mv_dup2 (pc := 116) dX6_works_116 rfl rfl ?_
    refine mv_ialdx (pc := 117) (x := x t 2) (k := 18 * t + 2) dX6_works_117 ha (nI_add _ 2) (by omega) h2 ?_
    refine mv_iconst (pc := 118) (v := 1) dX6_works_118 (by decide) ?_
    refine mv_iadd (pc := 119) dX6_works_119 ?_
    refine mv_iast (pc := 120) (k := 18 * t + 2) dX6_works_120 ha (nI_add _ 2) (by omega) ?_
    refine mv_aload_n (pc := 121) dX6_works_121 rfl ?_
    refine mv_aload_n (pc := 122) dX6_works_122 rfl ?_
    refine mv_iload_n (pc := 123) dX6_works_123 rfl ?_
    refine mv_cVv (pc := 124) dX6_works_124 lk6_180 (congrArg Prod.fst hm.o) (c6_beginsChild (K.fr hbf) hbe ht he8 he6) rfl rfl (Nat.le_of_ble_eq_true rfl) (by decide) (by decide) (fun J ⟨hr, hf⟩ => ?_)
    refine mv_goto (pc := 127) (tgt := 194) dX6_works_127 (by decide) ?_
    refine mv_vret (pc := 194) dX6_works_194 rfl (by decide) (by decide) (hQ _ ⟨?_, hbf.tr hf⟩)
    unfold xs_wk
    rw [hcl, if_neg (by rw [hop5]; decide), if_pos hop5]
    exact hr
  · rw [hop5]
    have ew : xs_wk nt π x t = if xs_busy nt π x t = true then x else xs_beh x t := by
      unfold xs_wk
      rw [hcl, if_neg (by rw [hop5]; decide), if_neg (by rw [hop5]; decide), if_pos hop5]
    rw [ew] at hQ
    refine mv_lsw (pc := 26) (off := 104) (tgt := 130) dX6_works_26 (by decide) (by decide) (by decide) ?_
    refine mv_aload_n (pc := 130) dX6_works_130 rfl ?_
    refine mv_iload_n (pc := 131) dX6_works_131 rfl ?_
    refine mv_iconst (pc := 132) (v := 2) dX6_works_132 (by decide) ?_
    refine mv_iadd (pc := 133) dX6_works_133 ?_
    refine mv_dup2 (pc := 134) dX6_works_134 rfl rfl ?_
    refine mv_ialdx (pc := 135) (x := x t 2) (k := 18 * t + 2) dX6_works_135 ha (nI_add _ 2) (by omega) h2 ?_
    refine mv_aload_n (pc := 136) dX6_works_136 rfl ?_
    refine mv_aload_n (pc := 137) dX6_works_137 rfl ?_
    refine mv_iload_n (pc := 138) dX6_works_138 rfl ?_
    refine mv_cVi (pc := 139) dX6_works_139 lk6_183 (congrArg Prod.fst hm.o) (c6_isBusy K h ht) rfl rfl (Nat.le_of_ble_eq_true rfl) (by decide) (by decide) (fun r J ⟨e1, e2⟩ => ?_)
    subst e1 e2
    refine mv_if_eq (pc := 142) (tgt := 149) dX6_works_142 (by decide) (fun hb0 => ?_) (fun hb0 => ?_)
    · have nb : ¬ xs_busy nt π x t = true := fun q => by rw [if_pos q] at hb0; exact absurd hb0 (by decide)
      refine mv_iconst (pc := 149) (v := 1) dX6_works_149 (by decide) ?_
      refine mv_iadd (pc := 150) dX6_works_150 ?_
      refine mv_iast (pc := 151) (k := 18 * t + 2) dX6_works_151 ha (nI_add _ 2) (by omega) ?_
      refine mv_goto (pc := 152) (tgt := 194) dX6_works_152 (by decide) ?_
      refine mv_vret (pc := 194) dX6_works_194 rfl (by decide) (by decide) (hQ _ ⟨?_, rm_Fr.rf.up⟩)
      rw [if_neg nb]
      exact hbe
    · have yb : xs_busy nt π x t = true := Classical.byContradiction fun q => hb0 (by rw [if_neg q])
      refine mv_iconst (pc := 145) (v := 0) dX6_works_145 (by decide) ?_
      refine mv_goto (pc := 146) (tgt := 150) dX6_works_146 (by decide) ?_
      refine mv_iadd (pc := 150) dX6_works_150 ?_
      refine mv_iast (pc := 151) (k := 18 * t + 2) dX6_works_151 ha (nI_add _ 2) (by omega) ?_
      refine mv_goto (pc := 152) (tgt := 194) dX6_works_152 (by decide) ?_
      refine mv_vret (pc := 194) dX6_works_194 rfl (by decide) (by decide) (hQ _ ⟨?_, rm_Fr.rf.up⟩)
      rw [if_pos yb]
      have : x = mv_up x t 2 (x t 2 + 0) := by
        funext u k
        simp only [mv_up]
        split
        · rename_i q
          rw [q.1, q.2, Int32.add_zero]
        · rfl
      rw [show (rm_R (mv_up _ a (18 * t + 2) (x t 2 + 0)) a x) = (rm_R (mv_up _ a (18 * t + 2) (x t 2 + 0)) a (mv_up x t 2 (x t 2 + 0))) from congrArg _ this]
      exact rm_set 2 h ht8 (by decide)
  · rw [hop5]
    refine mv_lsw (pc := 26) (off := 129) (tgt := 155) dX6_works_26 (by decide) (by decide) (by decide) ?_
    refine mv_aload_n (pc := 155) dX6_works_155 rfl ?_
    refine mv_iload_n (pc := 156) dX6_works_156 rfl ?_
    refine mv_iconst (pc := 157) (v := 2) dX6_works_157 (by decide) ?_
    refine mv_iadd (pc := 158) dX6_works_158 ?_
    refine mv_dup2 (pc := 159) dX6_works_159 rfl rfl ?_
    refine mv_ialdx (pc := 160) (x := x t 2) (k := 18 * t + 2) dX6_works_160 ha (nI_add _ 2) (by omega) h2 ?_
    refine mv_iconst (pc := 161) (v := 1) dX6_works_161 (by decide) ?_
    refine mv_iadd (pc := 162) dX6_works_162 ?_
    refine mv_iast (pc := 163) (k := 18 * t + 2) dX6_works_163 ha (nI_add _ 2) (by omega) ?_
    refine mv_aload_n (pc := 164) dX6_works_164 rfl ?_
    refine mv_aload_n (pc := 165) dX6_works_165 rfl ?_
    refine mv_iload_n (pc := 166) dX6_works_166 rfl ?_
    refine mv_cVv (pc := 167) dX6_works_167 lk6_169 (congrArg Prod.fst hm.o) (c6_asksChildren (K.fr hbf) hbe ht) rfl rfl (Nat.le_of_ble_eq_true rfl) (by decide) (by decide) (fun J ⟨hr, hf⟩ => ?_)
    refine mv_goto (pc := 170) (tgt := 194) dX6_works_170 (by decide) ?_
    refine mv_vret (pc := 194) dX6_works_194 rfl (by decide) (by decide) (hQ _ ⟨?_, hbf.tr hf⟩)
    unfold xs_wk
    rw [hcl, if_neg (by rw [hop5]; decide), if_neg (by rw [hop5]; decide), if_neg (by rw [hop5]; decide), if_pos hop5]
    exact hr
theorem c6_works {l : Launch} {D : va_G} {b0 n : Nat} {sh : mv_Sh} {I : mv_I} {R : mv_R} {m a nt t b s : Nat} {π x : xs_X} (K : rm_P sh R I m a nt π) (h : rm_R I a x) (hW : xs_W nt π x) (ht : t < nt) (hb : x t 2 = nI b) (hs : π t 1 = nI s) (hbs : b < s) (hs6 : s ≤ 6) : mv_C l D b0 m6_works (mv_rm 3) [.ref m, .ref a, .int (nI t)] n sh I R (mv_Pv n sh R (fun I' => rm_R I' a (xs_wk nt π x t) ∧ rm_Fr a I I')) := mv_C.of 2 (by decide) (by simp [Value.category]) rfl (e6_works K h hW ht hb hs hbs hs6 (fun _ h => mv_Pv.mk h))
set_option maxHeartbeats 4000000 in
set_option maxRecDepth 100000 in
theorem e6_moves {l : Launch} {D : va_G} {b0 n : Nat} {sh : mv_Sh} {I : mv_I} {R : mv_R} {Q : mv_Q} {m a nt t : Nat} {π x : xs_X} (K : rm_P sh R I m a nt π) (h : rm_R I a x) (hW : xs_W nt π x) (ht : t < nt) (hQ : ∀ I', (rm_R I' a (xs_mo nt π x t) ∧ rm_Fr a I I') → Q none n sh I' R) : mv_E l D b0 m6_moves (mv_rm 4) Q 0 [.ref m, .ref a, .int (nI t)] [] 0 0 n sh I R := by
  obtain ⟨hm, ha, haa, hpc, hpw⟩ := id K
  have hn := hpw.2.1
  have ht8 : t < 8 := by omega
  obtain ⟨-, ⟨e, he6, he⟩, -, hT⟩ := id hW
  obtain ⟨-, -, ⟨b, s, hbs, hs6, hs, hb, -⟩, -⟩ := hT t ht
  have rest : ¬ (x t 5 = 1 ∧ π t 3 ≤ x t 2) → mv_E l D b0 m6_moves (mv_rm 4) Q 35 [.ref m, .ref a, .int (nI t)] [] 0 0 n sh I R := by
    intro hno
    refine mv_aload_n (pc := 35) dX6_moves_35 rfl ?_
    refine mv_iload_n (pc := 36) dX6_moves_36 rfl ?_
    refine mv_iconst (pc := 37) (v := 2) dX6_moves_37 (by decide) ?_
    refine mv_cSi (pc := 38) dX6_moves_38 lk6_161 (c6_at ha h ht8 (k := 2) (by decide)) rfl rfl (Nat.le_of_ble_eq_true rfl) (by decide) (by decide) (fun r J ⟨e1, e2⟩ => ?_)
    subst e1 e2
    refine mv_aload_n (pc := 41) dX6_moves_41 rfl ?_
    refine mv_getR (pc := 42) (q := m + 9) dX6_moves_42 fl6_34 (fun _ _ => rfl) (congrArg Prod.fst hm.o) hm.f18 ?_
    refine mv_iload_n (pc := 45) dX6_moves_45 rfl ?_
    refine mv_ialdx (pc := 46) (x := π t 1) (k := t) dX6_moves_46 hm.g18 rfl (by omega) (hpc.2 t ht).2.1 ?_
    refine mv_icmp_ne (pc := 47) (tgt := 60) dX6_moves_47 (by decide) (fun hb2 => ?_) (fun hb2 => ?_)
    · have hlt : b < s := by
        have : b ≠ s := fun q => hb2 (by rw [hb, hs, q])
        omega
      refine mv_aload_n (pc := 60) dX6_moves_60 rfl ?_
      refine mv_aload_n (pc := 61) dX6_moves_61 rfl ?_
      refine mv_iload_n (pc := 62) dX6_moves_62 rfl ?_
      refine mv_cVv (pc := 63) dX6_moves_63 lk6_193 (congrArg Prod.fst hm.o) (c6_works K h hW ht hb hs hlt hs6) rfl rfl (Nat.le_of_ble_eq_true rfl) (by decide) (by decide) (fun J2 ⟨hr, hf⟩ => ?_)
      refine mv_vret (pc := 66) dX6_moves_66 rfl (by decide) (by decide) (hQ _ ⟨?_, hf⟩)
      unfold xs_mo
      rw [if_neg hno, if_neg hb2]
      exact hr
    · refine mv_aload_n (pc := 50) dX6_moves_50 rfl ?_
      refine mv_aload_n (pc := 51) dX6_moves_51 rfl ?_
      refine mv_iload_n (pc := 52) dX6_moves_52 rfl ?_
      refine mv_iconst (pc := 53) (v := 0) dX6_moves_53 (by decide) ?_
      refine mv_cVv (pc := 54) dX6_moves_54 lk6_190 (congrArg Prod.fst hm.o) (c6_closes K h ht he he6) rfl rfl (Nat.le_of_ble_eq_true rfl) (by decide) (by decide) (fun J2 ⟨hr, hf⟩ => ?_)
      refine mv_goto (pc := 57) (tgt := 66) dX6_moves_57 (by decide) ?_
      refine mv_vret (pc := 66) dX6_moves_66 rfl (by decide) (by decide) (hQ _ ⟨?_, hf⟩)
      unfold xs_mo
      rw [if_neg hno, if_pos hb2]
      exact hr
  refine mv_aload_n (pc := 0) dX6_moves_0 rfl ?_
  refine mv_iload_n (pc := 1) dX6_moves_1 rfl ?_
  refine mv_iconst (pc := 2) (v := 5) dX6_moves_2 (by decide) ?_
  refine mv_cSi (pc := 3) dX6_moves_3 lk6_161 (c6_at ha h ht8 (k := 5) (by decide)) rfl rfl (Nat.le_of_ble_eq_true rfl) (by decide) (by decide) (fun r J ⟨e1, e2⟩ => ?_)
  subst e1 e2
  refine mv_iconst (pc := 6) (v := 1) dX6_moves_6 (by decide) ?_
  refine mv_icmp_ne (pc := 7) (tgt := 35) dX6_moves_7 (by decide) (fun hc => ?_) (fun hc => ?_)
  · exact rest (fun q => hc q.1)
  · refine mv_aload_n (pc := 10) dX6_moves_10 rfl ?_
    refine mv_iload_n (pc := 11) dX6_moves_11 rfl ?_
    refine mv_iconst (pc := 12) (v := 2) dX6_moves_12 (by decide) ?_
    refine mv_cSi (pc := 13) dX6_moves_13 lk6_161 (c6_at ha h ht8 (k := 2) (by decide)) rfl rfl (Nat.le_of_ble_eq_true rfl) (by decide) (by decide) (fun r J' ⟨e1, e2⟩ => ?_)
    subst e1 e2
    refine mv_aload_n (pc := 16) dX6_moves_16 rfl ?_
    refine mv_getR (pc := 17) (q := m + 12) dX6_moves_17 fl6_43 (fun _ _ => rfl) (congrArg Prod.fst hm.o) hm.f21 ?_
    refine mv_iload_n (pc := 20) dX6_moves_20 rfl ?_
    refine mv_ialdx (pc := 21) (x := π t 3) (k := t) dX6_moves_21 hm.g21 rfl (by omega) (hpc.2 t ht).2.2.2.1 ?_
    refine mv_icmp_lt (pc := 22) (tgt := 35) dX6_moves_22 (by decide) (fun hc2 => ?_) (fun hc2 => ?_)
    · exact rest (fun q => absurd q.2 (Int32.not_le.mpr hc2))
    · refine mv_aload_n (pc := 25) dX6_moves_25 rfl ?_
      refine mv_aload_n (pc := 26) dX6_moves_26 rfl ?_
      refine mv_iload_n (pc := 27) dX6_moves_27 rfl ?_
      refine mv_iconst (pc := 28) (v := 2) dX6_moves_28 (by decide) ?_
      refine mv_cVv (pc := 29) dX6_moves_29 lk6_190 (congrArg Prod.fst hm.o) (c6_closes K h ht he he6) rfl rfl (Nat.le_of_ble_eq_true rfl) (by decide) (by decide) (fun J2 ⟨hr, hf⟩ => ?_)
      refine mv_goto (pc := 32) (tgt := 66) dX6_moves_32 (by decide) ?_
      refine mv_vret (pc := 66) dX6_moves_66 rfl (by decide) (by decide) (hQ _ ⟨?_, hf⟩)
      unfold xs_mo
      rw [if_pos ⟨hc, Int32.not_lt.mp hc2⟩]
      exact hr
theorem c6_moves {l : Launch} {D : va_G} {b0 n : Nat} {sh : mv_Sh} {I : mv_I} {R : mv_R} {m a nt t : Nat} {π x : xs_X} (K : rm_P sh R I m a nt π) (h : rm_R I a x) (hW : xs_W nt π x) (ht : t < nt) : mv_C l D b0 m6_moves (mv_rm 4) [.ref m, .ref a, .int (nI t)] n sh I R (mv_Pv n sh R (fun I' => rm_R I' a (xs_mo nt π x t) ∧ rm_Fr a I I')) := mv_C.of 0 (by decide) (by simp [Value.category]) rfl (e6_moves K h hW ht (fun _ h => mv_Pv.mk h))
set_option maxHeartbeats 4000000 in
set_option maxRecDepth 100000 in
theorem e6_gives {l : Launch} {D : va_G} {b0 n : Nat} {sh : mv_Sh} {I : mv_I} {R : mv_R} {Q : mv_Q} {m a nt t u c : Nat} {π x : xs_X} (K : rm_P sh R I m a nt π) (h : rm_R I a x) (hW : xs_W nt π x) (ht : t < nt) (hu : u < t) (hpu : π t 0 = nI u) (hc : x t 9 = nI c) (hc8 : c ≤ 8) (hQ : ∀ I', (rm_R I' a (xs_tf nt π (xs_gl x t u c) u) ∧ rm_Fr a I I') → Q none n sh I' R) : mv_E l D b0 m6_gives (mv_rm 3) Q 0 [.ref m, .ref a, .int (nI t), .null, .null] [] 0 0 n sh I R := by
  obtain ⟨hm, ha, haa, hpc, hpw⟩ := id K
  have hn := hpw.2.1
  have ht8 : t < 8 := by omega
  have fin : ∀ (v : Int32) (J : mv_I), rm_R J a (xs_gl x t u c) → rm_Fr a I J → mv_E l D b0 m6_gives (mv_rm 3) Q 43 [.ref m, .ref a, .int (nI t), .int (nI u), .int v] [] 0 0 n sh J R := by
    intro v J hr hf
    have hWg := hW.gl (t := t) (u := u) (by omega) hn c
    generalize hyy : xs_gl x t u c = y at hr hWg hQ
    obtain ⟨e, he6, he⟩ := hWg.2.1
    have hpc' := (K.fr hf).2.2.2.1
    have rest : ¬ (y u 0 = 1 ∧ π u 5 = 0) → mv_E l D b0 m6_gives (mv_rm 3) Q 73 [.ref m, .ref a, .int (nI t), .int (nI u), .int v] [] 0 0 n sh J R := by
      intro hno
      have stay : ¬ (y u 0 = 2 ∧ y u 1 = 0) → mv_E l D b0 m6_gives (mv_rm 3) Q 106 [.ref m, .ref a, .int (nI t), .int (nI u), .int v] [] 0 0 n sh J R := by
        intro hno2
        refine mv_vret (pc := 106) dX6_gives_106 rfl (by decide) (by decide) (hQ _ ⟨?_, hf⟩)
        unfold xs_tf
        rw [if_neg hno, if_neg hno2]
        exact hr
      refine mv_aload_n (pc := 73) dX6_gives_73 rfl ?_
      refine mv_iload_n (pc := 74) dX6_gives_74 rfl ?_
      refine mv_iconst (pc := 75) (v := 2) dX6_gives_75 (by decide) ?_
      refine mv_cSi (pc := 76) dX6_gives_76 lk6_165 (c6_isHow ha hr (t := u) (by omega)) rfl rfl (Nat.le_of_ble_eq_true rfl) (by decide) (by decide) (fun r J' ⟨e1, e2⟩ => ?_)
      subst e1 e2
      refine mv_if_eq (pc := 79) (tgt := 106) dX6_gives_79 (by decide) (fun hb => ?_) (fun hb => ?_)
      · have : ¬ y u 0 = 2 := fun q => by rw [if_pos q] at hb; exact absurd hb (by decide)
        exact stay (fun q => this q.1)
      · have y2 : y u 0 = 2 := Classical.byContradiction fun q => hb (by rw [if_neg q])
        refine mv_aload_n (pc := 82) dX6_gives_82 rfl ?_
        refine mv_iload_n (pc := 83) dX6_gives_83 rfl ?_
        refine mv_iconst (pc := 84) (v := 1) dX6_gives_84 (by decide) ?_
        refine mv_cSi (pc := 85) dX6_gives_85 lk6_161 (c6_at ha hr (t := u) (by omega) (k := 1) (by decide)) rfl rfl (Nat.le_of_ble_eq_true rfl) (by decide) (by decide) (fun r J' ⟨e1, e2⟩ => ?_)
        subst e1 e2
        refine mv_if_ne (pc := 88) (tgt := 106) dX6_gives_88 (by decide) (fun hb2 => ?_) (fun hb2 => ?_)
        · exact stay (fun q => hb2 q.2)
        · refine mv_aload_n (pc := 91) dX6_gives_91 rfl ?_
          refine mv_bipush (pc := 92) (v := 18) dX6_gives_92 (by decide) ?_
          refine mv_iload_n (pc := 94) dX6_gives_94 rfl ?_
          refine mv_imul (pc := 95) dX6_gives_95 ?_
          refine mv_iconst (pc := 96) (v := 1) dX6_gives_96 (by decide) ?_
          refine mv_iadd (pc := 97) dX6_gives_97 ?_
          refine mv_iconst (pc := 98) (v := 1) dX6_gives_98 (by decide) ?_
          refine mv_iast (pc := 99) (k := 18 * u + 1) dX6_gives_99 ha (mv_jx 18 u 1) (by omega) ?_
          refine mv_aload_n (pc := 100) dX6_gives_100 rfl ?_
          refine mv_aload_n (pc := 101) dX6_gives_101 rfl ?_
          refine mv_iload_n (pc := 102) dX6_gives_102 rfl ?_
          refine mv_cVv (pc := 103) dX6_gives_103 lk6_169 (congrArg Prod.fst hm.o) (c6_asksChildren (K.fr hf.up) (rm_set 1 hr (t := u) (v := 1) (by omega) (by decide)) (by omega)) rfl rfl (Nat.le_of_ble_eq_true rfl) (by decide) (by decide) (fun J2 ⟨hr2, hf2⟩ => ?_)
          refine mv_vret (pc := 106) dX6_gives_106 rfl (by decide) (by decide) (hQ _ ⟨?_, hf.up.tr hf2⟩)
          unfold xs_tf
          rw [if_neg hno, if_pos ⟨y2, hb2⟩]
          exact hr2
    refine mv_aload_n (pc := 43) dX6_gives_43 rfl ?_
    refine mv_iload_n (pc := 44) dX6_gives_44 rfl ?_
    refine mv_iconst (pc := 45) (v := 1) dX6_gives_45 (by decide) ?_
    refine mv_cSi (pc := 46) dX6_gives_46 lk6_165 (c6_isHow ha hr (t := u) (by omega)) rfl rfl (Nat.le_of_ble_eq_true rfl) (by decide) (by decide) (fun r J' ⟨e1, e2⟩ => ?_)
    subst e1 e2
    refine mv_if_eq (pc := 49) (tgt := 73) dX6_gives_49 (by decide) (fun hb => ?_) (fun hb => ?_)
    · have : ¬ y u 0 = 1 := fun q => by rw [if_pos q] at hb; exact absurd hb (by decide)
      exact rest (fun q => this q.1)
    · have y1 : y u 0 = 1 := Classical.byContradiction fun q => hb (by rw [if_neg q])
      refine mv_aload_n (pc := 52) dX6_gives_52 rfl ?_
      refine mv_getI (pc := 53) dX6_gives_53 fl6_145 rfl (congrArg Prod.fst hm.o) ?_
      refine mv_iload_n (pc := 56) dX6_gives_56 rfl ?_
      refine mv_ishr (pc := 57) dX6_gives_57 ?_
      refine mv_iconst (pc := 58) (v := 1) dX6_gives_58 (by decide) ?_
      refine mv_iand (pc := 59) dX6_gives_59 ?_
      refine mv_top (y := π u 5) (hpc'.2 u (by omega)).2.2.2.2.2.1 ?_
      refine mv_if_ne (pc := 60) (tgt := 73) dX6_gives_60 (by decide) (fun hb2 => ?_) (fun hb2 => ?_)
      · exact rest (fun q => hb2 q.2)
      · refine mv_aload_n (pc := 63) dX6_gives_63 rfl ?_
        refine mv_aload_n (pc := 64) dX6_gives_64 rfl ?_
        refine mv_iload_n (pc := 65) dX6_gives_65 rfl ?_
        refine mv_iconst (pc := 66) (v := 1) dX6_gives_66 (by decide) ?_
        refine mv_cVv (pc := 67) dX6_gives_67 lk6_190 (congrArg Prod.fst hm.o) (c6_closes (K.fr hf) hr (t := u) (by omega) he he6) rfl rfl (Nat.le_of_ble_eq_true rfl) (by decide) (by decide) (fun J2 ⟨hr2, hf2⟩ => ?_)
        refine mv_goto (pc := 70) (tgt := 106) dX6_gives_70 (by decide) ?_
        refine mv_vret (pc := 106) dX6_gives_106 rfl (by decide) (by decide) (hQ _ ⟨?_, hf.tr hf2⟩)
        unfold xs_tf
        rw [if_pos ⟨y1, hb2⟩]
        exact hr2
  have htu : t ≠ u := by omega
  have loop : ∀ (f k : Nat) (J : mv_I), c < k + f → k ≤ c → rm_R J a (xs_gl x t u k) → rm_Fr a I J → mv_E l D b0 m6_gives (mv_rm 3) Q 10 [.ref m, .ref a, .int (nI t), .int (nI u), .int (nI k)] [] 0 0 n sh J R := by
    intro f
    induction f with
    | zero => intro k J h1 h2; omega
    | succ f ih =>
      intro k J h1 h2 hr hf
      have e9 : xs_gl x t u k t 9 = nI c := by rw [xs_gl_ne htu]; exact hc
      refine mv_iload (pc := 10) dX6_gives_10 rfl ?_
      refine mv_aload_n (pc := 12) dX6_gives_12 rfl ?_
      refine mv_iload_n (pc := 13) dX6_gives_13 rfl ?_
      refine mv_bipush (pc := 14) (v := 9) dX6_gives_14 (by decide) ?_
      refine mv_cSi (pc := 16) dX6_gives_16 lk6_161 (c6_at ha hr ht8 (k := 9) (by decide)) rfl rfl (Nat.le_of_ble_eq_true rfl) (by decide) (by decide) (fun r J' ⟨e1, e2⟩ => ?_)
      subst e1 e2
      refine mv_top (y := nI c) e9 ?_
      refine mv_icmp_ge (pc := 19) (tgt := 43) dX6_gives_19 (by decide) (fun hb => ?_) (fun hb => ?_)
      · have : k = c := by
          have := (nI_leI (by omega) (by omega)).mp hb
          omega
        subst this
        exact fin _ _ hr hf
      · have hkc : k < c := by
          rcases Nat.lt_or_ge k c with q | q
          · exact q
          · exact absurd (nI_le q (by omega)) hb
        obtain ⟨cu, hcu8, hcu⟩ := ((hW.gl (t := t) (u := u) (by omega) hn k).2.2.2 u (by omega)).2.1
        refine mv_aload_n (pc := 22) dX6_gives_22 rfl ?_
        refine mv_iload_n (pc := 23) dX6_gives_23 rfl ?_
        refine mv_aload_n (pc := 24) dX6_gives_24 rfl ?_
        refine mv_iload_n (pc := 25) dX6_gives_25 rfl ?_
        refine mv_bipush (pc := 26) (v := 10) dX6_gives_26 (by decide) ?_
        refine mv_iload (pc := 28) dX6_gives_28 rfl ?_
        refine mv_iadd (pc := 30) dX6_gives_30 ?_
        refine mv_top (y := nI (10 + k)) (nI_add 10 k) ?_
        refine mv_cSi (pc := 31) dX6_gives_31 lk6_161 (c6_at ha hr ht8 (k := 10 + k) (by omega)) rfl rfl (Nat.le_of_ble_eq_true rfl) (by decide) (by decide) (fun r J' ⟨e1, e2⟩ => ?_)
        subst e1 e2
        refine mv_top (y := x t (10 + k)) (by rw [xs_gl_ne htu]) ?_
        refine mv_cSv (pc := 34) dX6_gives_34 lk6_187 (c6_codes ha hr (t := u) (by omega) hcu hcu8) rfl rfl (Nat.le_of_ble_eq_true rfl) (by decide) (by decide) (fun J2 ⟨hr2, hf2⟩ => ?_)
        refine mv_iinc (pc := 37) (v := nI (k + 1)) dX6_gives_37 (by decide) rfl (nI_1 k) ?_
        refine mv_goto (pc := 40) (tgt := 10) dX6_gives_40 (by decide) ?_
        exact ih (k + 1) J2 (by omega) (by omega) hr2 (hf.tr hf2)
  refine mv_aload_n (pc := 0) dX6_gives_0 rfl ?_
  refine mv_getR (pc := 1) (q := m + 8) dX6_gives_1 fl6_31 (fun _ _ => rfl) (congrArg Prod.fst hm.o) hm.f17 ?_
  refine mv_iload_n (pc := 4) dX6_gives_4 rfl ?_
  refine mv_ialdx (pc := 5) (x := nI u) (k := t) dX6_gives_5 hm.g17 rfl (by omega) ((hpc.2 t ht).1.trans hpu) ?_
  refine mv_istore_n (pc := 6) dX6_gives_6 (by decide) ?_
  refine mv_iconst (pc := 7) (v := 0) dX6_gives_7 (by decide) ?_
  refine mv_istore (pc := 8) dX6_gives_8 (by decide) ?_
  exact loop (c + 1) 0 I (by omega) (by omega) h rm_Fr.rf
theorem c6_gives {l : Launch} {D : va_G} {b0 n : Nat} {sh : mv_Sh} {I : mv_I} {R : mv_R} {m a nt t u c : Nat} {π x : xs_X} (K : rm_P sh R I m a nt π) (h : rm_R I a x) (hW : xs_W nt π x) (ht : t < nt) (hu : u < t) (hpu : π t 0 = nI u) (hc : x t 9 = nI c) (hc8 : c ≤ 8) : mv_C l D b0 m6_gives (mv_rm 3) [.ref m, .ref a, .int (nI t)] n sh I R (mv_Pv n sh R (fun I' => rm_R I' a (xs_tf nt π (xs_gl x t u c) u) ∧ rm_Fr a I I')) := mv_C.of 2 (by decide) (by simp [Value.category]) rfl (e6_gives K h hW ht hu hpu hc hc8 (fun _ h => mv_Pv.mk h))

