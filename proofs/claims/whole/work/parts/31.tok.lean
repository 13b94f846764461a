theorem tk_min {v d : Nat} (hv9 : v ≤ 999) (d9 : d ≤ 9) : (if (100 : Int32) < nI ((if 99 < v then 100 else v) * 10 + d) then 100 else nI ((if 99 < v then 100 else v) * 10 + d)) = nI (if 99 < (if 99 < v then v else 10 * v + (48 + d) - 48) then 100 else (if 99 < v then v else 10 * v + (48 + d) - 48)) := by
  by_cases hv : 99 < v
  · simp only [hv, if_true]
    rw [if_pos (show (100 : Int32) < nI (100 * 10 + d) from nI_lt (a := 100) (by omega) (by omega))]
    rfl
  · simp only [hv, if_false]
    by_cases h3 : 100 < v * 10 + d
    · rw [if_pos (show (100 : Int32) < nI (v * 10 + d) from nI_lt (a := 100) h3 (by omega)), if_pos (show 99 < 10 * v + (48 + d) - 48 by omega)]
      rfl
    · rw [if_neg (show ¬ (100 : Int32) < nI (v * 10 + d) from nI_nlt (a := 100) (by omega) (by omega))]
      by_cases h2 : 99 < 10 * v + (48 + d) - 48
      · rw [if_pos h2, show v * 10 + d = 100 by omega]
      · rw [if_neg h2, show v * 10 + d = 10 * v + (48 + d) - 48 by omega]
set_option maxHeartbeats 4000000 in
set_option maxRecDepth 100000 in
theorem e4_advance {l : Launch} {D : va_G} {b0 n : Nat} {sh : mv_Sh} {I : mv_I} {R : mv_R} {Q : mv_Q} {z L i : Nat} {w : Nat → Int32} (hz : ly_Tok sh R z) (hw : tx_W w L) (hl : I z 1 = nI L) (hx : ∀ j, j < L → I (z + 1) j = w j) (h5 : I z 5 = nI i) (hi : i ≤ L) (hQ : ∀ I', (tk_A I' z w L i ∧ tk_Fr z I I') → Q none n sh I' R) : mv_E l D b0 m4_advance (mv_rm 1) Q 0 [.ref z, .null] [] 0 0 n sh I R := by
  have hL := hw.1
  have hs := tk_s_le (w := w) hi
  generalize hsv : tk_s w L i = s at hs
  -- behind the blanks and the figures
  have fin : ∀ (J : mv_I) (e v : Nat), (∀ b, b ≠ z → J b = I b) → J z 1 = nI L → J z 4 = nI s → J z 5 = nI e → J z 3 = nI (if 99 < v then 100 else v) → tx_dg w L (L + 1) s 0 = (e, v) → mv_E l D b0 m4_advance (mv_rm 1) Q 132 [.ref z, .null] [] 0 0 n sh J R := by
    intro J e v f1 f2 f3 f4 f5 f6
    have hJx : ∀ j, j < L → J (z + 1) j = w j := fun j hj => by rw [f1 _ (by omega)]; exact hx j hj
    have ed : tk_d w L i = (e, v) := by unfold tk_d; rw [hsv]; exact f6
    have hv9 : v ≤ 999 := by have := tx_dg_v hw (L + 1) s 0 (by omega); rw [f6] at this; exact this
    refine mv_aload_n (pc := 132) dX4_advance_132 rfl ?_
    refine mv_getIx (pc := 133) (x := nI e) dX4_advance_133 fl4_28 rfl (congrArg Prod.fst hz.o) f4 ?_
    refine mv_aload_n (pc := 136) dX4_advance_136 rfl ?_
    refine mv_getIx (pc := 137) (x := nI s) dX4_advance_137 fl4_25 rfl (congrArg Prod.fst hz.o) f3 ?_
    have hse : s ≤ e ∧ e ≤ L := by have := tx_dg_le (w := w) (L := L) (L + 1) s 0 hs.2; rw [f6] at this; exact this
    refine mv_icmp_le (pc := 140) (tgt := 203) dX4_advance_140 (by decide) (fun hb => ?_) (fun hb => ?_)
    · have hes : e = s := by have := (nI_leI (by omega) (by omega)).mp hb; omega
      subst hes
      have nod : ¬ (e < L ∧ 48 ≤ w e ∧ w e ≤ 57) := by
        intro q
        have := tk_d_lt (w := w) hi (by rw [hsv]; omega) (by rw [hsv]; exact q.2)
        rw [ed, hsv] at this
        exact absurd this.1 (Nat.lt_irrefl _)
      refine mv_aload_n (pc := 203) dX4_advance_203 rfl ?_
      refine mv_getIx (pc := 204) (x := nI e) dX4_advance_204 fl4_28 rfl (congrArg Prod.fst hz.o) f4 ?_
      refine mv_aload_n (pc := 207) dX4_advance_207 rfl ?_
      refine mv_getIx (pc := 208) (x := nI L) dX4_advance_208 fl4_15 rfl (congrArg Prod.fst hz.o) f2 ?_
      refine mv_icmp_lt (pc := 211) (tgt := 222) dX4_advance_211 (by decide) (fun hb2 => ?_) (fun hb2 => ?_)
      · have hel : e < L := (nI_ltI (by omega) (by omega)).mp hb2
        have nd : ¬ (48 ≤ w e ∧ w e ≤ 57) := fun q => nod ⟨hel, q⟩
        have ne : ¬ e = L := by omega
        have ek : tk_k w L i = w e := by unfold tk_k; rw [hsv, if_neg ne, if_neg nd]
        have ee : tk_e w L i = e + 1 := by unfold tk_e; rw [hsv, if_neg ne, if_neg nd]
        refine mv_aload_n (pc := 222) dX4_advance_222 rfl ?_
        refine mv_aload_n (pc := 223) dX4_advance_223 rfl ?_
        refine mv_getR (pc := 224) (q := z + 1) dX4_advance_224 fl4_9 (fun _ _ => rfl) (congrArg Prod.fst hz.o) hz.f0 ?_
        refine mv_aload_n (pc := 227) dX4_advance_227 rfl ?_
        refine mv_getIx (pc := 228) (x := nI e) dX4_advance_228 fl4_28 rfl (congrArg Prod.fst hz.o) f4 ?_
        refine mv_ialdx (pc := 231) (x := w e) (k := e) dX4_advance_231 hz.g0 rfl (by omega) (hJx e hel) ?_
        refine mv_putI (pc := 232) dX4_advance_232 fl4_19 rfl rfl (congrArg Prod.fst hz.o) ?_
        refine mv_aload_n (pc := 235) dX4_advance_235 rfl ?_
        refine mv_dup (pc := 236) dX4_advance_236 rfl ?_
        refine mv_getIx (pc := 237) (x := nI e) dX4_advance_237 fl4_28 rfl (congrArg Prod.fst hz.o) (by simp [mv_up, f4]) ?_
        refine mv_iconst (pc := 240) (v := 1) dX4_advance_240 (by decide) ?_
        refine mv_iadd (pc := 241) dX4_advance_241 ?_
        refine mv_putI (pc := 242) dX4_advance_242 fl4_28 rfl rfl (congrArg Prod.fst hz.o) ?_
        refine mv_vret (pc := 245) dX4_advance_245 rfl (by decide) (by decide) (hQ _ ⟨⟨?_, ?_, ?_, ?_, ?_, ?_⟩, ?_, ?_⟩)
        · simp [mv_up, f2]
        · intro j hj; rw [mv_upN _ (by omega), mv_upN _ (by omega)]; exact hJx j hj
        · rw [ek]; simp [mv_up]
        · rw [hsv]; simp [mv_up, f3]
        · rw [ee, mv_upe, nI_1]
        · intro q
          rw [ek] at q
          obtain ⟨k, k1, k2⟩ := hw.2 e hel
          rw [k2] at q
          have z1 := nI_toInt (n := k) (by omega)
          rw [q] at z1
          have : (-2 : Int32).toInt = -2 := by decide
          omega
        · intro b hb'; rw [mv_upN _ hb', mv_upN _ hb']; exact f1 b hb'
        · rw [hl]; simp [mv_up, f2]
      · have hel : e = L := by
          have : ¬ e < L := fun q => hb2 (nI_lt q (by omega))
          omega
        have ek : tk_k w L i = -1 := by unfold tk_k; rw [hsv, if_pos hel]
        have ee : tk_e w L i = L := by unfold tk_e; rw [hsv, if_pos hel]
        refine mv_aload_n (pc := 214) dX4_advance_214 rfl ?_
        refine mv_iconst (pc := 215) (v := -1) dX4_advance_215 (by decide) ?_
        refine mv_putI (pc := 216) dX4_advance_216 fl4_19 rfl rfl (congrArg Prod.fst hz.o) ?_
        refine mv_goto (pc := 219) (tgt := 245) dX4_advance_219 (by decide) ?_
        refine mv_vret (pc := 245) dX4_advance_245 rfl (by decide) (by decide) (hQ _ ⟨⟨?_, ?_, ?_, ?_, ?_, ?_⟩, ?_, ?_⟩)
        · simp [mv_up, f2]
        · intro j hj; rw [mv_upN _ (by omega)]; exact hJx j hj
        · rw [ek]; simp [mv_up]
        · rw [hsv]; simp [mv_up, f3]
        · rw [ee, ← hel]; simp [mv_up, f4]
        · intro q; rw [ek] at q; exact absurd q (by decide)
        · intro b hb'; rw [mv_upN _ hb']; exact f1 b hb'
        · rw [hl]; simp [mv_up, f2]
    · have hlt : s < e := by
        rcases Nat.lt_or_ge s e with q | q
        · exact q
        · exact absurd (nI_le q (by omega)) hb
      have hsL : ¬ s = L := by omega
      have hd : 48 ≤ w s ∧ w s ≤ 57 := by
        apply Classical.byContradiction
        intro q
        rw [tx_dg, if_neg (fun z => q z.2)] at f6
        have := congrArg Prod.fst f6
        simp at this
        omega
      have ek : tk_k w L i = if 99 < v ∨ (w s = 48 ∧ 1 < e - s) then -3 else -2 := by unfold tk_k; rw [hsv, if_neg hsL, if_pos hd, ed]
      have ee : tk_e w L i = e := by unfold tk_e; rw [hsv, if_neg hsL, if_pos hd, ed]
      have ev : tk_v w L i = v := by unfold tk_v; rw [ed]
      -- the end with a number
      have fin2 : ∀ (k : Int32) (y : Int32), k = tk_k w L i → mv_E l D b0 m4_advance (mv_rm 1) Q 197 [.ref z, .int y] [.int k, .ref z] 0 0 n sh J R := by
        intro k y hk
        refine mv_putI (pc := 197) dX4_advance_197 fl4_19 rfl rfl (congrArg Prod.fst hz.o) ?_
        refine mv_goto (pc := 200) (tgt := 245) dX4_advance_200 (by decide) ?_
        refine mv_vret (pc := 245) dX4_advance_245 rfl (by decide) (by decide) (hQ _ ⟨⟨?_, ?_, ?_, ?_, ?_, ?_⟩, ?_, ?_⟩)
        · simp [mv_up, f2]
        · intro j hj; rw [mv_upN _ (by omega)]; exact hJx j hj
        · rw [← hk]; simp [mv_up]
        · rw [hsv]; simp [mv_up, f3]
        · rw [ee]; simp [mv_up, f4]
        · intro q
          rw [ek] at q
          have hv : ¬ 99 < v := fun z => by rw [if_pos (Or.inl z)] at q; exact absurd q (by decide)
          rw [if_neg hv] at f5
          rw [ev]
          exact ⟨by simp [mv_up, f5], by omega⟩
        · intro b hb'; rw [mv_upN _ hb']; exact f1 b hb'
        · rw [hl]; simp [mv_up, f2]
      have mid : ∀ y : Int32, (y = if w s = 48 ∧ 1 < e - s then 1 else 0) → mv_E l D b0 m4_advance (mv_rm 1) Q 175 [.ref z, .null] [.int y] 0 0 n sh J R := by
        intro y hy
        refine mv_istore_n (pc := 175) dX4_advance_175 (by decide) ?_
        refine mv_aload_n (pc := 176) dX4_advance_176 rfl ?_
        refine mv_iload_n (pc := 177) dX4_advance_177 rfl ?_
        refine mv_if_ne (pc := 178) (tgt := 190) dX4_advance_178 (by decide) (fun hb3 => ?_) (fun hb3 => ?_)
        · have : w s = 48 ∧ 1 < e - s := Classical.byContradiction fun q => hb3 (by rw [hy, if_neg q])
          refine mv_bipush (pc := 190) (v := -3) dX4_advance_190 (by decide) ?_
          refine mv_goto (pc := 192) (tgt := 197) dX4_advance_192 (by decide) ?_
          exact fin2 _ _ (by rw [ek, if_pos (Or.inr this)])
        · have nz : ¬ (w s = 48 ∧ 1 < e - s) := fun q => by rw [hy, if_pos q] at hb3; exact absurd hb3 (by decide)
          refine mv_aload_n (pc := 181) dX4_advance_181 rfl ?_
          refine mv_getIx (pc := 182) (x := nI (if 99 < v then 100 else v)) dX4_advance_182 fl4_22 rfl (congrArg Prod.fst hz.o) f5 ?_
          refine mv_bipush (pc := 185) (v := 100) dX4_advance_185 (by decide) ?_
          refine mv_icmp_lt (pc := 187) (tgt := 195) dX4_advance_187 (by decide) (fun hb4 => ?_) (fun hb4 => ?_)
          · have : (if 99 < v then 100 else v) < 100 := (nI_ltI (b := 100) (by split <;> omega) (by decide)).mp hb4
            have hv : ¬ 99 < v := fun q => by rw [if_pos q] at this; omega
            refine mv_bipush (pc := 195) (v := -2) dX4_advance_195 (by decide) ?_
            exact fin2 _ _ (by rw [ek, if_neg (fun q => q.elim hv nz)])
          · have : ¬ (if 99 < v then 100 else v) < 100 := fun q => hb4 (nI_lt (b := 100) q (by decide))
            have hv : 99 < v := by
              apply Classical.byContradiction
              intro q
              rw [if_neg q] at this
              omega
            refine mv_bipush (pc := 190) (v := -3) dX4_advance_190 (by decide) ?_
            refine mv_goto (pc := 192) (tgt := 197) dX4_advance_192 (by decide) ?_
            exact fin2 _ _ (by rw [ek, if_pos (Or.inl hv)])
      refine mv_aload_n (pc := 143) dX4_advance_143 rfl ?_
      refine mv_getR (pc := 144) (q := z + 1) dX4_advance_144 fl4_9 (fun _ _ => rfl) (congrArg Prod.fst hz.o) hz.f0 ?_
      refine mv_aload_n (pc := 147) dX4_advance_147 rfl ?_
      refine mv_getIx (pc := 148) (x := nI s) dX4_advance_148 fl4_25 rfl (congrArg Prod.fst hz.o) f3 ?_
      refine mv_ialdx (pc := 151) (x := w s) (k := s) dX4_advance_151 hz.g0 rfl (by omega) (hJx s (by omega)) ?_
      refine mv_bipush (pc := 152) (v := 48) dX4_advance_152 (by decide) ?_
      refine mv_icmp_ne (pc := 154) (tgt := 174) dX4_advance_154 (by decide) (fun hb3 => ?_) (fun hb3 => ?_)
      · refine mv_iconst (pc := 174) (v := 0) dX4_advance_174 (by decide) ?_
        exact mid 0 (by rw [if_neg (fun q => hb3 q.1)])
      · refine mv_aload_n (pc := 157) dX4_advance_157 rfl ?_
        refine mv_getIx (pc := 158) (x := nI e) dX4_advance_158 fl4_28 rfl (congrArg Prod.fst hz.o) f4 ?_
        refine mv_aload_n (pc := 161) dX4_advance_161 rfl ?_
        refine mv_getIx (pc := 162) (x := nI s) dX4_advance_162 fl4_25 rfl (congrArg Prod.fst hz.o) f3 ?_
        refine mv_isub (pc := 165) dX4_advance_165 ?_
        refine mv_top (y := nI (e - s)) (by rw [show nI e = nI (e - s) + nI s by rw [nI_add]; congr 1; omega, Int32.add_sub_cancel]) ?_
        refine mv_iconst (pc := 166) (v := 1) dX4_advance_166 (by decide) ?_
        refine mv_icmp_le (pc := 167) (tgt := 174) dX4_advance_167 (by decide) (fun hb4 => ?_) (fun hb4 => ?_)
        · have := (nI_leI (b := 1) (by omega) (by decide)).mp hb4
          refine mv_iconst (pc := 174) (v := 0) dX4_advance_174 (by decide) ?_
          exact mid 0 (by rw [if_neg (by omega)])
        · have : ¬ e - s ≤ 1 := fun q => hb4 (nI_le (b := 1) q (by decide))
          refine mv_iconst (pc := 170) (v := 1) dX4_advance_170 (by decide) ?_
          refine mv_goto (pc := 171) (tgt := 175) dX4_advance_171 (by decide) ?_
          exact mid 1 (by rw [if_pos ⟨hb3, by omega⟩])
  -- the figures
  have l2 : ∀ (f j v : Nat) (J : mv_I), L < j + f → j ≤ L → v ≤ 999 → (∀ b, b ≠ z → J b = I b) → J z 1 = nI L → J z 4 = nI s → J z 5 = nI j → J z 3 = nI (if 99 < v then 100 else v) → tx_dg w L (L + 1) s 0 = tx_dg w L f j v → mv_E l D b0 m4_advance (mv_rm 1) Q 51 [.ref z, .null] [] 0 0 n sh J R := by
    intro f
    induction f with
    | zero => intro j v J h1 h2; omega
    | succ f ih =>
      intro j v J h1 h2 hv9 f1 f2 f3 f4 f5 f6
      have hJx : ∀ j, j < L → J (z + 1) j = w j := fun j hj => by rw [f1 _ (by omega)]; exact hx j hj
      have stop : ¬ (j < L ∧ 48 ≤ w j ∧ w j ≤ 57) → mv_E l D b0 m4_advance (mv_rm 1) Q 132 [.ref z, .null] [] 0 0 n sh J R := by
        intro q
        refine fin J j v f1 f2 f3 f4 f5 ?_
        rw [f6, tx_dg, if_neg q]
      refine mv_aload_n (pc := 51) dX4_advance_51 rfl ?_
      refine mv_getIx (pc := 52) (x := nI j) dX4_advance_52 fl4_28 rfl (congrArg Prod.fst hz.o) f4 ?_
      refine mv_aload_n (pc := 55) dX4_advance_55 rfl ?_
      refine mv_getIx (pc := 56) (x := nI L) dX4_advance_56 fl4_15 rfl (congrArg Prod.fst hz.o) f2 ?_
      refine mv_icmp_ge (pc := 59) (tgt := 132) dX4_advance_59 (by decide) (fun hb => ?_) (fun hb => ?_)
      · exact stop (fun q => absurd hb (nI_ge q.1 (by omega)))
      · have hjL : j < L := by
          rcases Nat.lt_or_ge j L with q | q
          · exact q
          · exact absurd (nI_le q (by omega)) hb
        refine mv_aload_n (pc := 62) dX4_advance_62 rfl ?_
        refine mv_getR (pc := 63) (q := z + 1) dX4_advance_63 fl4_9 (fun _ _ => rfl) (congrArg Prod.fst hz.o) hz.f0 ?_
        refine mv_aload_n (pc := 66) dX4_advance_66 rfl ?_
        refine mv_getIx (pc := 67) (x := nI j) dX4_advance_67 fl4_28 rfl (congrArg Prod.fst hz.o) f4 ?_
        refine mv_ialdx (pc := 70) (x := w j) (k := j) dX4_advance_70 hz.g0 rfl (by omega) (hJx j hjL) ?_
        refine mv_bipush (pc := 71) (v := 48) dX4_advance_71 (by decide) ?_
        refine mv_icmp_lt (pc := 73) (tgt := 132) dX4_advance_73 (by decide) (fun hb2 => ?_) (fun hb2 => ?_)
        · exact stop (fun q => absurd q.2.1 (Int32.not_le.mpr hb2))
        · refine mv_aload_n (pc := 76) dX4_advance_76 rfl ?_
          refine mv_getR (pc := 77) (q := z + 1) dX4_advance_77 fl4_9 (fun _ _ => rfl) (congrArg Prod.fst hz.o) hz.f0 ?_
          refine mv_aload_n (pc := 80) dX4_advance_80 rfl ?_
          refine mv_getIx (pc := 81) (x := nI j) dX4_advance_81 fl4_28 rfl (congrArg Prod.fst hz.o) f4 ?_
          refine mv_ialdx (pc := 84) (x := w j) (k := j) dX4_advance_84 hz.g0 rfl (by omega) (hJx j hjL) ?_
          refine mv_bipush (pc := 85) (v := 57) dX4_advance_85 (by decide) ?_
          refine mv_icmp_gt (pc := 87) (tgt := 132) dX4_advance_87 (by decide) (fun hb3 => ?_) (fun hb3 => ?_)
          · exact stop (fun q => absurd q.2.2 (Int32.not_le.mpr hb3))
          · have hdg : 48 ≤ w j ∧ w j ≤ 57 := ⟨Int32.not_lt.mp hb2, Int32.not_lt.mp hb3⟩
            obtain ⟨d, d9, dw, dn⟩ := tk_dig hw hjL hdg
            refine mv_aload_n (pc := 90) dX4_advance_90 rfl ?_
            refine mv_aload_n (pc := 91) dX4_advance_91 rfl ?_
            refine mv_getIx (pc := 92) (x := nI (if 99 < v then 100 else v)) dX4_advance_92 fl4_22 rfl (congrArg Prod.fst hz.o) f5 ?_
            refine mv_bipush (pc := 95) (v := 10) dX4_advance_95 (by decide) ?_
            refine mv_imul (pc := 97) dX4_advance_97 ?_
            refine mv_aload_n (pc := 98) dX4_advance_98 rfl ?_
            refine mv_getR (pc := 99) (q := z + 1) dX4_advance_99 fl4_9 (fun _ _ => rfl) (congrArg Prod.fst hz.o) hz.f0 ?_
            refine mv_aload_n (pc := 102) dX4_advance_102 rfl ?_
            refine mv_getIx (pc := 103) (x := nI j) dX4_advance_103 fl4_28 rfl (congrArg Prod.fst hz.o) f4 ?_
            refine mv_ialdx (pc := 106) (x := nI (48 + d)) (k := j) dX4_advance_106 hz.g0 rfl (by omega) ((hJx j hjL).trans dw) ?_
            refine mv_iadd (pc := 107) dX4_advance_107 ?_
            refine mv_bipush (pc := 108) (v := 48) dX4_advance_108 (by decide) ?_
            refine mv_isub (pc := 110) dX4_advance_110 ?_
            refine mv_top (y := nI ((if 99 < v then 100 else v) * 10 + d)) (show nI (if 99 < v then 100 else v) * nI 10 + nI (48 + d) - nI 48 = _ by rw [nI_mul, nI_add, show (if 99 < v then 100 else v) * 10 + (48 + d) = ((if 99 < v then 100 else v) * 10 + d) + 48 by omega, ← nI_add, Int32.add_sub_cancel]) ?_
            refine mv_bipush (pc := 111) (v := 100) dX4_advance_111 (by decide) ?_
            refine mv_mmin (pc := 113) dX4_advance_113 lkm4_34 wm_smin wm_i wm_cmin (Nat.le_of_ble_eq_true rfl) ⟨by decide, by decide⟩ (by decide) (by decide) ?_
            refine mv_top (y := nI (if 99 < (if 99 < v then v else 10 * v + (w j).toNatClampNeg - 48) then 100 else (if 99 < v then v else 10 * v + (w j).toNatClampNeg - 48))) (by rw [dn]; exact tk_min hv9 d9) ?_
            refine mv_putI (pc := 116) dX4_advance_116 fl4_22 rfl rfl (congrArg Prod.fst hz.o) ?_
            refine mv_aload_n (pc := 119) dX4_advance_119 rfl ?_
            refine mv_dup (pc := 120) dX4_advance_120 rfl ?_
            refine mv_getIx (pc := 121) (x := nI j) dX4_advance_121 fl4_28 rfl (congrArg Prod.fst hz.o) (by simp [mv_up, f4]) ?_
            refine mv_iconst (pc := 124) (v := 1) dX4_advance_124 (by decide) ?_
            refine mv_iadd (pc := 125) dX4_advance_125 ?_
            refine mv_putI (pc := 126) dX4_advance_126 fl4_28 rfl rfl (congrArg Prod.fst hz.o) ?_
            refine mv_goto (pc := 129) (tgt := 51) dX4_advance_129 (by decide) ?_
            refine ih (j + 1) (if 99 < v then v else 10 * v + (w j).toNatClampNeg - 48) _ (by omega) (by omega) (by rw [dn]; split <;> omega) ?_ ?_ ?_ ?_ ?_ ?_
            · intro b hb'; rw [mv_upN _ hb', mv_upN _ hb']; exact f1 b hb'
            · simp [mv_up, f2]
            · simp [mv_up, f3]
            · rw [mv_upe, nI_1]
            · simp [mv_up]
            · rw [f6, tx_dg, if_pos ⟨hjL, hdg⟩]
  -- the blanks
  have l1 : ∀ (f j : Nat) (J : mv_I), L < j + f → j ≤ L → (∀ b, b ≠ z → J b = I b) → J z 1 = nI L → J z 5 = nI j → tx_bl w L f j = s → mv_E l D b0 m4_advance (mv_rm 1) Q 0 [.ref z, .null] [] 0 0 n sh J R := by
    intro f
    induction f with
    | zero => intro j J h1 h2; omega
    | succ f ih =>
      intro j J h1 h2 f1 f2 f4 f6
      have hJx : ∀ j, j < L → J (z + 1) j = w j := fun j hj => by rw [f1 _ (by omega)]; exact hx j hj
      have stop : ¬ (j < L ∧ w j = 32) → mv_E l D b0 m4_advance (mv_rm 1) Q 38 [.ref z, .null] [] 0 0 n sh J R := by
        intro q
        have : j = s := by rw [← f6, tx_bl, if_neg q]
        subst this
        refine mv_aload_n (pc := 38) dX4_advance_38 rfl ?_
        refine mv_aload_n (pc := 39) dX4_advance_39 rfl ?_
        refine mv_getIx (pc := 40) (x := nI j) dX4_advance_40 fl4_28 rfl (congrArg Prod.fst hz.o) f4 ?_
        refine mv_putI (pc := 43) dX4_advance_43 fl4_25 rfl rfl (congrArg Prod.fst hz.o) ?_
        refine mv_aload_n (pc := 46) dX4_advance_46 rfl ?_
        refine mv_iconst (pc := 47) (v := 0) dX4_advance_47 (by decide) ?_
        refine mv_putI (pc := 48) dX4_advance_48 fl4_22 rfl rfl (congrArg Prod.fst hz.o) ?_
        refine l2 (L + 1) j 0 _ (by omega) h2 (by omega) ?_ ?_ ?_ ?_ ?_ rfl
        · intro b hb'; rw [mv_upN _ hb', mv_upN _ hb']; exact f1 b hb'
        · simp [mv_up, f2]
        · simp [mv_up]
        · simp [mv_up, f4]
        · rw [mv_upe]; rfl
      refine mv_aload_n (pc := 0) dX4_advance_0 rfl ?_
      refine mv_getIx (pc := 1) (x := nI j) dX4_advance_1 fl4_28 rfl (congrArg Prod.fst hz.o) f4 ?_
      refine mv_aload_n (pc := 4) dX4_advance_4 rfl ?_
      refine mv_getIx (pc := 5) (x := nI L) dX4_advance_5 fl4_15 rfl (congrArg Prod.fst hz.o) f2 ?_
      refine mv_icmp_ge (pc := 8) (tgt := 38) dX4_advance_8 (by decide) (fun hb => ?_) (fun hb => ?_)
      · exact stop (fun q => absurd hb (nI_ge q.1 (by omega)))
      · have hjL : j < L := by
          rcases Nat.lt_or_ge j L with q | q
          · exact q
          · exact absurd (nI_le q (by omega)) hb
        refine mv_aload_n (pc := 11) dX4_advance_11 rfl ?_
        refine mv_getR (pc := 12) (q := z + 1) dX4_advance_12 fl4_9 (fun _ _ => rfl) (congrArg Prod.fst hz.o) hz.f0 ?_
        refine mv_aload_n (pc := 15) dX4_advance_15 rfl ?_
        refine mv_getIx (pc := 16) (x := nI j) dX4_advance_16 fl4_28 rfl (congrArg Prod.fst hz.o) f4 ?_
        refine mv_ialdx (pc := 19) (x := w j) (k := j) dX4_advance_19 hz.g0 rfl (by omega) (hJx j hjL) ?_
        refine mv_bipush (pc := 20) (v := 32) dX4_advance_20 (by decide) ?_
        refine mv_icmp_ne (pc := 22) (tgt := 38) dX4_advance_22 (by decide) (fun hb2 => ?_) (fun hb2 => ?_)
        · exact stop (fun q => hb2 q.2)
        · refine mv_aload_n (pc := 25) dX4_advance_25 rfl ?_
          refine mv_dup (pc := 26) dX4_advance_26 rfl ?_
          refine mv_getIx (pc := 27) (x := nI j) dX4_advance_27 fl4_28 rfl (congrArg Prod.fst hz.o) f4 ?_
          refine mv_iconst (pc := 30) (v := 1) dX4_advance_30 (by decide) ?_
          refine mv_iadd (pc := 31) dX4_advance_31 ?_
          refine mv_putI (pc := 32) dX4_advance_32 fl4_28 rfl rfl (congrArg Prod.fst hz.o) ?_
          refine mv_goto (pc := 35) (tgt := 0) dX4_advance_35 (by decide) ?_
          refine ih (j + 1) _ (by omega) (by omega) ?_ ?_ ?_ ?_
          · intro b hb'; rw [mv_upN _ hb']; exact f1 b hb'
          · simp [mv_up, f2]
          · rw [mv_upe, nI_1]
          · rw [← f6, tx_bl, if_pos ⟨hjL, hb2⟩]
  exact l1 (L + 1) i I (by omega) hi (fun _ _ => rfl) hl h5 hsv
theorem c4_advance {l : Launch} {D : va_G} {b0 n : Nat} {sh : mv_Sh} {I : mv_I} {R : mv_R} {z L i : Nat} {w : Nat → Int32} (hz : ly_Tok sh R z) (hw : tx_W w L) (hl : I z 1 = nI L) (hx : ∀ j, j < L → I (z + 1) j = w j) (h5 : I z 5 = nI i) (hi : i ≤ L) : mv_C l D b0 m4_advance (mv_rm 1) [.ref z] n sh I R (mv_Pv n sh R (fun I' => tk_A I' z w L i ∧ tk_Fr z I I')) := mv_C.of 1 (by decide) (by simp [Value.category]) rfl (e4_advance hz hw hl hx h5 hi (fun _ h => mv_Pv.mk h))
set_option maxHeartbeats 4000000 in
set_option maxRecDepth 100000 in
theorem e4_goToFirst {l : Launch} {D : va_G} {b0 n : Nat} {sh : mv_Sh} {I : mv_I} {R : mv_R} {Q : mv_Q} {z L : Nat} {w : Nat → Int32} (hz : ly_Tok sh R z) (hw : tx_W w L) (hl : I z 1 = nI L) (hx : ∀ j, j < L → I (z + 1) j = w j) (hQ : ∀ I', (tk_A I' z w L 0 ∧ tk_Fr z I I') → Q none n sh I' R) : mv_E l D b0 m4_goToFirst (mv_rm 2) Q 0 [.ref z] [] 0 0 n sh I R := by
  refine mv_aload_n (pc := 0) dX4_goToFirst_0 rfl ?_
  refine mv_iconst (pc := 1) (v := 0) dX4_goToFirst_1 (by decide) ?_
  refine mv_putI (pc := 2) dX4_goToFirst_2 fl4_28 rfl rfl (congrArg Prod.fst hz.o) ?_
  refine mv_aload_n (pc := 5) dX4_goToFirst_5 rfl ?_
  refine mv_cVv (pc := 6) dX4_goToFirst_6 lk4_31 (congrArg Prod.fst hz.o) (c4_advance hz hw (i := 0) (by simp [mv_up, hl]) (fun j hj => by rw [mv_upN _ (by omega)]; exact hx j hj) mv_upe (Nat.zero_le L)) rfl rfl (Nat.le_of_ble_eq_true rfl) (by decide) (by decide) (fun J ⟨hA, hF⟩ => ?_)
  exact mv_vret (pc := 9) dX4_goToFirst_9 rfl (by decide) (by decide) (hQ _ ⟨hA, fun b hb => by rw [hF.1 b hb, mv_upN b hb], by rw [hF.2]; simp [mv_up]⟩)
theorem c4_goToFirst {l : Launch} {D : va_G} {b0 n : Nat} {sh : mv_Sh} {I : mv_I} {R : mv_R} {z L : Nat} {w : Nat → Int32} (hz : ly_Tok sh R z) (hw : tx_W w L) (hl : I z 1 = nI L) (hx : ∀ j, j < L → I (z + 1) j = w j) : mv_C l D b0 m4_goToFirst (mv_rm 2) [.ref z] n sh I R (mv_Pv n sh R (fun I' => tk_A I' z w L 0 ∧ tk_Fr z I I')) := mv_C.of 0 (by decide) (by simp [Value.category]) rfl (e4_goToFirst hz hw hl hx (fun _ h => mv_Pv.mk h))
set_option maxHeartbeats 4000000 in
set_option maxRecDepth 100000 in
theorem e4_isNumberWithin {l : Launch} {D : va_G} {b0 n : Nat} {sh : mv_Sh} {I : mv_I} {R : mv_R} {Q : mv_Q} {z L i lo hi : Nat} {w : Nat → Int32} (hz : ly_Tok sh R z) (hA : tk_A I z w L i) (hlo : lo ≤ 99) (hhi : hi ≤ 99) (hQ : ∀ r I', (r = (if tk_k w L i = -2 ∧ lo ≤ tk_v w L i ∧ tk_v w L i ≤ hi then 1 else 0) ∧ I' = I) → Q (some (.int r)) n sh I' R) : mv_E l D b0 m4_isNumberWithin (mv_rm 0) Q 0 [.ref z, .int (nI lo), .int (nI hi)] [] 0 0 n sh I R := by
  have no : ¬ (tk_k w L i = -2 ∧ lo ≤ tk_v w L i ∧ tk_v w L i ≤ hi) → mv_E l D b0 m4_isNumberWithin (mv_rm 0) Q 29 [.ref z, .int (nI lo), .int (nI hi)] [] 0 0 n sh I R := by
    intro q
    refine mv_iconst (pc := 29) (v := 0) dX4_isNumberWithin_29 (by decide) ?_
    exact mv_zret (pc := 30) dX4_isNumberWithin_30 rfl (by rfl) (by decide) (by decide) (hQ _ _ ⟨by rw [if_neg q], rfl⟩)
  refine mv_aload_n (pc := 0) dX4_isNumberWithin_0 rfl ?_
  refine mv_getIx (pc := 1) (x := tk_k w L i) dX4_isNumberWithin_1 fl4_19 rfl (congrArg Prod.fst hz.o) hA.2.2.1 ?_
  refine mv_bipush (pc := 4) (v := -2) dX4_isNumberWithin_4 (by decide) ?_
  refine mv_icmp_ne (pc := 6) (tgt := 29) dX4_isNumberWithin_6 (by decide) (fun hb => ?_) (fun hb => ?_)
  · exact no (fun q => hb q.1)
  · obtain ⟨h3, hv⟩ := hA.2.2.2.2.2 hb
    refine mv_aload_n (pc := 9) dX4_isNumberWithin_9 rfl ?_
    refine mv_getIx (pc := 10) (x := nI (tk_v w L i)) dX4_isNumberWithin_10 fl4_22 rfl (congrArg Prod.fst hz.o) h3 ?_
    refine mv_iload_n (pc := 13) dX4_isNumberWithin_13 rfl ?_
    refine mv_icmp_lt (pc := 14) (tgt := 29) dX4_isNumberWithin_14 (by decide) (fun hb2 => ?_) (fun hb2 => ?_)
    · have := (nI_ltI (by omega) (by omega)).mp hb2
      exact no (fun q => by omega)
    · have h1 : ¬ tk_v w L i < lo := fun q => hb2 (nI_lt q (by omega))
      refine mv_aload_n (pc := 17) dX4_isNumberWithin_17 rfl ?_
      refine mv_getIx (pc := 18) (x := nI (tk_v w L i)) dX4_isNumberWithin_18 fl4_22 rfl (congrArg Prod.fst hz.o) h3 ?_
      refine mv_iload_n (pc := 21) dX4_isNumberWithin_21 rfl ?_
      refine mv_icmp_gt (pc := 22) (tgt := 29) dX4_isNumberWithin_22 (by decide) (fun hb3 => ?_) (fun hb3 => ?_)
      · have := (nI_ltI (by omega) (by omega)).mp hb3
        exact no (fun q => by omega)
      · have h2 : ¬ hi < tk_v w L i := fun q => hb3 (nI_lt q (by omega))
        refine mv_iconst (pc := 25) (v := 1) dX4_isNumberWithin_25 (by decide) ?_
        refine mv_goto (pc := 26) (tgt := 30) dX4_isNumberWithin_26 (by decide) ?_
        exact mv_zret (pc := 30) dX4_isNumberWithin_30 rfl (by rfl) (by decide) (by decide) (hQ _ _ ⟨by rw [if_pos ⟨hb, by omega, by omega⟩], rfl⟩)
theorem c4_isNumberWithin {l : Launch} {D : va_G} {b0 n : Nat} {sh : mv_Sh} {I : mv_I} {R : mv_R} {z L i lo hi : Nat} {w : Nat → Int32} (hz : ly_Tok sh R z) (hA : tk_A I z w L i) (hlo : lo ≤ 99) (hhi : hi ≤ 99) : mv_C l D b0 m4_isNumberWithin (mv_rm 0) [.ref z, .int (nI lo), .int (nI hi)] n sh I R (mv_Pi n sh R (fun r I' => r = (if tk_k w L i = -2 ∧ lo ≤ tk_v w L i ∧ tk_v w L i ≤ hi then 1 else 0) ∧ I' = I)) := mv_C.of 0 (by decide) (by simp [Value.category]) rfl (e4_isNumberWithin hz hA hlo hhi (fun _ _ h => mv_Pi.mk h))

