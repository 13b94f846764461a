set_option maxHeartbeats 16000000 in
set_option maxRecDepth 100000 in
theorem law_loop {p : Program} {l : Launch} {e : Env} {s : State} {m : MethodId} {below : List Frame} {meth : Method} {c : Code} {b L : Nat} {xs : Nat → Int32} {D : va_G} (hL : L ≤ 2048) (C0 : lw_At p s m meth c b L xs) (hK : mv_K D s) {sh : mv_Sh} {nn : Nat} :
    ∀ (n i : Nat), i ≤ 2048 → L < i + n → ∀ (σ : ab_S) (I : mv_I) (R : mv_R), ab_W σ → ly_ST sh R s.heap.size → ly_Mod sh R (s.heap.size + 278) → gc_S I s.heap.size σ → gm_S I (s.heap.size + 278) σ → ∀ (H : Heap) (locs : List Loc) (ls : Array Slot), mv_H D s.heap.size nn sh I R s H → va_S (fun q : Nat => s.heap.size ≤ q) s.heap H locs → lv_has ls 4 [(0, .ref b), (1, .ref s.heap.size), (2, .ref (s.heap.size + 278)), (3, .int (nI i))] → W p l e room_1 s m #[Value.ref b] below meth c H locs 300 11757 (lw_Z below #[Value.ref b] s) (F0 m 18 ls []) := by
  obtain ⟨hx, hb, hr, hml, hown, hts, hX, hbl, hlocks, hgv⟩ := id C0
  have hbA : ¬ (fun q : Nat => s.heap.size ≤ q) b := Nat.not_le.mpr hbl
  intro n
  induction n with
  | zero =>
    intro i h1 h2 σ I R hW hz hm hSc hSm H locs ls hH hS hl
    refine lv_iload_n hx hb dL_law_18 rfl (lv_at hl 3 rfl) ?_
    refine lv_aload_n hx hb dL_law_19 rfl (lv_at hl 0 rfl) ?_
    refine va_slen hx hb hX hbl hbA hS dL_law_20 ?_
    refine lv_iconst (v := 4) hx hb dL_law_21 (by decide) ?_
    refine lv_isub hx hb dL_law_22 ?_
    refine lv_icmp_gt (tgt := 550) hx hb dL_law_23 (by decide) (fun hc => ?_) (fun hc => ?_)
    · refine lv_iconst (v := 1) hx hb dL_law_550 (by decide) ?_
      refine va_forget (fun q hq => hS.2.2 q hq) ?_
      refine W.widen (k := 600000) (n := 7302250) (Nat.le_of_ble_eq_true rfl) (Nat.le_of_ble_eq_true rfl) ?_
      exact lw_ret hx hb hr hlocks dL_law_551
    · have := lw_idx hL hc h1
      omega
  | succ n ih =>
    intro i h1 h2 σ I R hW hz hm hSc hSm H locs ls hH hS hl
    have hls : ls.size = 4 := hl.1
    refine lv_iload_n hx hb dL_law_18 rfl (lv_at hl 3 rfl) ?_
    refine lv_aload_n hx hb dL_law_19 rfl (lv_at hl 0 rfl) ?_
    refine va_slen hx hb hX hbl hbA hS dL_law_20 ?_
    refine lv_iconst (v := 4) hx hb dL_law_21 (by decide) ?_
    refine lv_isub hx hb dL_law_22 ?_
    refine lv_icmp_gt (tgt := 550) hx hb dL_law_23 (by decide) (fun hc => ?_) (fun hc => ?_)
    · refine lv_iconst (v := 1) hx hb dL_law_550 (by decide) ?_
      refine va_forget (fun q hq => hS.2.2 q hq) ?_
      refine W.widen (k := 600000) (n := 7302250) (Nat.le_of_ble_eq_true rfl) (Nat.le_of_ble_eq_true rfl) ?_
      exact lw_ret hx hb hr hlocks dL_law_551
    · have hi4 := lw_idx hL hc h1
      have hin : ∀ k, k < 4 → vp_in (nI (i + k)) L := fun k hk => vp_in_nI (by omega) (by omega)
      have fin : ∀ (σ' : ab_S) (I' : mv_I) (R' : mv_R) (H' : Heap) (locs' : List Loc), ab_W σ' → ly_ST sh R' s.heap.size → ly_Mod sh R' (s.heap.size + 278) → gc_S I' s.heap.size σ' → gm_S I' (s.heap.size + 278) σ' → mv_H D s.heap.size nn sh I' R' s H' → va_S (fun q : Nat => s.heap.size ≤ q) s.heap H' locs' → W p l e room_1 s m #[Value.ref b] below meth c H' locs' 300 11757 (lw_Z below #[Value.ref b] s) (F0 m 544 ls []) := by
        intro σ' I' R' H' locs' a1 a2 a3 a4 a5 a6 a7
        refine lv_iinc (v := nI (i + 4)) (lv' := [(3, .int (nI (i + 4))), (0, .ref b), (1, .ref s.heap.size), (2, .ref (s.heap.size + 278))]) hx hb dL_law_544 hl (k := 3) rfl (nI_add i 4) (by decide) rfl (fun ls hl => ?_)
        refine lv_goto (tgt := 18) hx hb dL_law_547 (by decide) ?_
        exact ih (i + 4) (by omega) (by omega) σ' I' R' a1 a2 a3 a4 a5 H' locs' ls a6 a7 (lv_sub hl [1, 2, 3, 0] rfl)
      have hzs := congrArg Prod.fst hz.o
      have hms := congrArg Prod.fst hm.o
      refine lv_aload_n hx hb dL_law_26 rfl (lv_at hl 0 rfl) ?_
      refine lv_iload_n hx hb dL_law_27 rfl (lv_at hl 3 rfl) ?_
      refine va_sld hx hb hX hbl hbA hS (hin 0 (by decide)) dL_law_28 ?_
      refine lv_bipush (v := 31) hx hb dL_law_29 (by decide) ?_
      refine lv_iand hx hb dL_law_31 ?_
      refine lv_topi (fun y ey => ?_)
      rcases ab_cs y 17 (by decide) with ⟨j, j17, rfl⟩ | ho
      · have hj : j = 0 ∨ j = 1 ∨ j = 2 ∨ j = 3 ∨ j = 4 ∨ j = 5 ∨ j = 6 ∨ j = 7 ∨ j = 8 ∨ j = 9 ∨ j = 10 ∨ j = 11 ∨ j = 12 ∨ j = 13 ∨ j = 14 ∨ j = 15 ∨ j = 16 ∨ j = 17 := by omega
        obtain ⟨w, L1, nt, π, x, uh, us, kp, sn, se⟩ := σ
        rcases hj with rfl | rfl | rfl | rfl | rfl | rfl | rfl | rfl | rfl | rfl | rfl | rfl | rfl | rfl | rfl | rfl | rfl | rfl
        · refine lv_tableIn (off := 88) (tgt := 120) hx hb dL_law_32 (by decide) (by decide) (by decide) (by decide) ?_
          refine lv_aload_n hx hb dL_law_120 rfl (lv_at hl 1 rfl) ?_
          refine lv_aload_n hx hb dL_law_121 rfl (lv_at hl 0 rfl) ?_
          refine lv_iload_n hx hb dL_law_122 rfl (lv_at hl 3 rfl) ?_
          refine lv_iconst (v := 1) hx hb dL_law_123 (by decide) ?_
          refine lv_iadd hx hb dL_law_124 ?_
          rw [show nI i + 1 = nI (i + 1) from nI_add i 1]
          refine va_sld hx hb hX hbl hbA hS (hin 1 (by decide)) dL_law_125 ?_
          refine lw_cC C0 hK dL_law_126 lkL_13 hzs (c5_type hz hSc hW) rfl rfl (Nat.le_of_ble_eq_true rfl) (by decide) ⟨Nat.le_of_ble_eq_true rfl, Nat.le_of_ble_eq_true rfl⟩ hls hH hS (fun r1 I1 R1 H1 locs1 hp hH1 hS1 => ?_)
          obtain ⟨e1, g1, f1, hz1, fr1⟩ := hp
          have hm1 := hm.upR (fr1 _ (Nat.le_refl _))
          have hSm1 := hSm.all f1
          refine lv_aload_n hx hb dL_law_129 rfl (lv_at hl 2 rfl) ?_
          refine lv_aload_n hx hb dL_law_130 rfl (lv_at hl 0 rfl) ?_
          refine lv_iload_n hx hb dL_law_131 rfl (lv_at hl 3 rfl) ?_
          refine lv_iconst (v := 1) hx hb dL_law_132 (by decide) ?_
          refine lv_iadd hx hb dL_law_133 ?_
          rw [show nI i + 1 = nI (i + 1) from nI_add i 1]
          refine va_sld hx hb hX hbl hbA hS1 (hin 1 (by decide)) dL_law_134 ?_
          refine lw_cM C0 hK dL_law_135 lkL_17 hms (c6_type hm1 hSm1 hW) rfl rfl (Nat.le_of_ble_eq_true rfl) (by decide) ⟨Nat.le_of_ble_eq_true rfl, Nat.le_of_ble_eq_true rfl⟩ hls hH1 hS1 (fun r2 I2 H2 locs2 hp2 hH2 hS2 => ?_)
          obtain ⟨e2, g2, f2⟩ := hp2
          refine lv_icmp_eq (tgt := 544) hx hb dL_law_138 (by decide) (fun _ => ?_) (fun hc => absurd (e1.trans e2.symm) hc)
          exact fin _ I2 R1 H2 locs2 (hW.type) hz1 hm1 (g1.all f2) g2 hH2 hS2
        · refine lv_tableIn (off := 111) (tgt := 143) hx hb dL_law_32 (by decide) (by decide) (by decide) (by decide) ?_
          refine lv_aload_n hx hb dL_law_143 rfl (lv_at hl 1 rfl) ?_
          refine lw_cC C0 hK dL_law_144 lkL_18 hzs (c5_clear hz hSc hW) rfl rfl (Nat.le_of_ble_eq_true rfl) (by decide) ⟨Nat.le_of_ble_eq_true rfl, Nat.le_of_ble_eq_true rfl⟩ hls hH hS (fun r1 I1 R1 H1 locs1 hp hH1 hS1 => ?_)
          obtain ⟨e1, g1, f1, hz1, fr1⟩ := hp
          have hm1 := hm.upR (fr1 _ (Nat.le_refl _))
          have hSm1 := hSm.all f1
          refine lv_aload_n hx hb dL_law_147 rfl (lv_at hl 2 rfl) ?_
          refine lw_cM C0 hK dL_law_148 lkL_22 hms (c6_clear hm1 hSm1 hW) rfl rfl (Nat.le_of_ble_eq_true rfl) (by decide) ⟨Nat.le_of_ble_eq_true rfl, Nat.le_of_ble_eq_true rfl⟩ hls hH1 hS1 (fun r2 I2 H2 locs2 hp2 hH2 hS2 => ?_)
          obtain ⟨e2, g2, f2⟩ := hp2
          refine lv_icmp_eq (tgt := 544) hx hb dL_law_151 (by decide) (fun _ => ?_) (fun hc => absurd (e1.trans e2.symm) hc)
          exact fin _ I2 R1 H2 locs2 (hW.clear) hz1 hm1 (g1.all f2) g2 hH2 hS2
        · refine lv_tableIn (off := 124) (tgt := 156) hx hb dL_law_32 (by decide) (by decide) (by decide) (by decide) ?_
          refine lv_aload_n hx hb dL_law_156 rfl (lv_at hl 1 rfl) ?_
          refine lw_cC C0 hK dL_law_157 lkL_23 hzs (c5_tree hz hSc hW) rfl rfl (Nat.le_of_ble_eq_true rfl) (by decide) ⟨Nat.le_of_ble_eq_true rfl, Nat.le_of_ble_eq_true rfl⟩ hls hH hS (fun r1 I1 R1 H1 locs1 hp hH1 hS1 => ?_)
          obtain ⟨e1, g1, f1, hz1, fr1⟩ := hp
          have hm1 := hm.upR (fr1 _ (Nat.le_refl _))
          have hSm1 := hSm.all f1
          refine lv_aload_n hx hb dL_law_160 rfl (lv_at hl 2 rfl) ?_
          refine lw_cM C0 hK dL_law_161 lkL_26 hms (c6_treeS hm1 hSm1 hW) rfl rfl (Nat.le_of_ble_eq_true rfl) (by decide) ⟨Nat.le_of_ble_eq_true rfl, Nat.le_of_ble_eq_true rfl⟩ hls hH1 hS1 (fun r2 I2 H2 locs2 hp2 hH2 hS2 => ?_)
          obtain ⟨e2, g2, f2⟩ := hp2
          refine lv_icmp_eq (tgt := 544) hx hb dL_law_164 (by decide) (fun _ => ?_) (fun hc => absurd (e1.trans e2.symm) hc)
          exact fin _ I2 R1 H2 locs2 (hW.tree) hz1 hm1 (g1.all f2) g2 hH2 hS2
        · refine lv_tableIn (off := 137) (tgt := 169) hx hb dL_law_32 (by decide) (by decide) (by decide) (by decide) ?_
          refine lv_aload_n hx hb dL_law_169 rfl (lv_at hl 1 rfl) ?_
          refine lv_aload_n hx hb dL_law_170 rfl (lv_at hl 0 rfl) ?_
          refine lv_iload_n hx hb dL_law_171 rfl (lv_at hl 3 rfl) ?_
          refine lv_iconst (v := 1) hx hb dL_law_172 (by decide) ?_
          refine lv_iadd hx hb dL_law_173 ?_
          rw [show nI i + 1 = nI (i + 1) from nI_add i 1]
          refine va_sld hx hb hX hbl hbA hS (hin 1 (by decide)) dL_law_174 ?_
          refine lw_cC C0 hK dL_law_175 lkL_27 hzs (c5_ticks hz hSc hW) rfl rfl (Nat.le_of_ble_eq_true rfl) (by decide) ⟨Nat.le_of_ble_eq_true rfl, Nat.le_of_ble_eq_true rfl⟩ hls hH hS (fun r1 I1 R1 H1 locs1 hp hH1 hS1 => ?_)
          obtain ⟨e1, g1, f1, hz1, fr1⟩ := hp
          have hm1 := hm.upR (fr1 _ (Nat.le_refl _))
          have hSm1 := hSm.all f1
          refine lv_aload_n hx hb dL_law_178 rfl (lv_at hl 2 rfl) ?_
          refine lv_aload_n hx hb dL_law_179 rfl (lv_at hl 0 rfl) ?_
          refine lv_iload_n hx hb dL_law_180 rfl (lv_at hl 3 rfl) ?_
          refine lv_iconst (v := 1) hx hb dL_law_181 (by decide) ?_
          refine lv_iadd hx hb dL_law_182 ?_
          rw [show nI i + 1 = nI (i + 1) from nI_add i 1]
          refine va_sld hx hb hX hbl hbA hS1 (hin 1 (by decide)) dL_law_183 ?_
          refine lw_cM C0 hK dL_law_184 lkL_30 hms (c6_ticks hm1 hSm1 hW) rfl rfl (Nat.le_of_ble_eq_true rfl) (by decide) ⟨Nat.le_of_ble_eq_true rfl, Nat.le_of_ble_eq_true rfl⟩ hls hH1 hS1 (fun r2 I2 H2 locs2 hp2 hH2 hS2 => ?_)
          obtain ⟨e2, g2, f2⟩ := hp2
          refine lv_icmp_eq (tgt := 544) hx hb dL_law_187 (by decide) (fun _ => ?_) (fun hc => absurd (e1.trans e2.symm) hc)
          exact fin _ I2 R1 H2 locs2 (hW.ticks) hz1 hm1 (g1.all f2) g2 hH2 hS2
        · refine lv_tableIn (off := 160) (tgt := 192) hx hb dL_law_32 (by decide) (by decide) (by decide) (by decide) ?_
          refine lv_aload_n hx hb dL_law_192 rfl (lv_at hl 1 rfl) ?_
          refine lv_aload_n hx hb dL_law_193 rfl (lv_at hl 0 rfl) ?_
          refine lv_iload_n hx hb dL_law_194 rfl (lv_at hl 3 rfl) ?_
          refine lv_iconst (v := 1) hx hb dL_law_195 (by decide) ?_
          refine lv_iadd hx hb dL_law_196 ?_
          rw [show nI i + 1 = nI (i + 1) from nI_add i 1]
          refine va_sld hx hb hX hbl hbA hS (hin 1 (by decide)) dL_law_197 ?_
          refine lw_cC C0 hK dL_law_198 lkL_31 hzs (c5_asks hz hSc hW) rfl rfl (Nat.le_of_ble_eq_true rfl) (by decide) ⟨Nat.le_of_ble_eq_true rfl, Nat.le_of_ble_eq_true rfl⟩ hls hH hS (fun r1 I1 R1 H1 locs1 hp hH1 hS1 => ?_)
          obtain ⟨e1, g1, f1, hz1, fr1⟩ := hp
          have hm1 := hm.upR (fr1 _ (Nat.le_refl _))
          have hSm1 := hSm.all f1
          refine lv_aload_n hx hb dL_law_201 rfl (lv_at hl 2 rfl) ?_
          refine lv_aload_n hx hb dL_law_202 rfl (lv_at hl 0 rfl) ?_
          refine lv_iload_n hx hb dL_law_203 rfl (lv_at hl 3 rfl) ?_
          refine lv_iconst (v := 1) hx hb dL_law_204 (by decide) ?_
          refine lv_iadd hx hb dL_law_205 ?_
          rw [show nI i + 1 = nI (i + 1) from nI_add i 1]
          refine va_sld hx hb hX hbl hbA hS1 (hin 1 (by decide)) dL_law_206 ?_
          refine lw_cM C0 hK dL_law_207 lkL_34 hms (c6_asks hm1 hSm1 hW) rfl rfl (Nat.le_of_ble_eq_true rfl) (by decide) ⟨Nat.le_of_ble_eq_true rfl, Nat.le_of_ble_eq_true rfl⟩ hls hH1 hS1 (fun r2 I2 H2 locs2 hp2 hH2 hS2 => ?_)
          obtain ⟨e2, g2, f2⟩ := hp2
          refine lv_icmp_eq (tgt := 544) hx hb dL_law_210 (by decide) (fun _ => ?_) (fun hc => absurd (e1.trans e2.symm) hc)
          exact fin _ I2 R1 H2 locs2 (hW.asks) hz1 hm1 (g1.all f2) g2 hH2 hS2
        · refine lv_tableIn (off := 183) (tgt := 215) hx hb dL_law_32 (by decide) (by decide) (by decide) (by decide) ?_
          refine lv_aload_n hx hb dL_law_215 rfl (lv_at hl 1 rfl) ?_
          refine lw_cC C0 hK dL_law_216 lkL_35 hzs (c5_undo hz hSc hW) rfl rfl (Nat.le_of_ble_eq_true rfl) (by decide) ⟨Nat.le_of_ble_eq_true rfl, Nat.le_of_ble_eq_true rfl⟩ hls hH hS (fun r1 I1 R1 H1 locs1 hp hH1 hS1 => ?_)
          obtain ⟨e1, g1, f1, hz1, fr1⟩ := hp
          have hm1 := hm.upR (fr1 _ (Nat.le_refl _))
          have hSm1 := hSm.all f1
          refine lv_aload_n hx hb dL_law_219 rfl (lv_at hl 2 rfl) ?_
          refine lw_cM C0 hK dL_law_220 lkL_38 hms (c6_undo hm1 hSm1 hW) rfl rfl (Nat.le_of_ble_eq_true rfl) (by decide) ⟨Nat.le_of_ble_eq_true rfl, Nat.le_of_ble_eq_true rfl⟩ hls hH1 hS1 (fun r2 I2 H2 locs2 hp2 hH2 hS2 => ?_)
          obtain ⟨e2, g2, f2⟩ := hp2
          refine lv_icmp_eq (tgt := 544) hx hb dL_law_223 (by decide) (fun _ => ?_) (fun hc => absurd (e1.trans e2.symm) hc)
          exact fin _ I2 R1 H2 locs2 (hW.undo) hz1 hm1 (g1.all f2) g2 hH2 hS2
        · refine lv_tableIn (off := 196) (tgt := 228) hx hb dL_law_32 (by decide) (by decide) (by decide) (by decide) ?_
          refine lv_aload_n hx hb dL_law_228 rfl (lv_at hl 1 rfl) ?_
          refine lv_aload_n hx hb dL_law_229 rfl (lv_at hl 0 rfl) ?_
          refine lv_iload_n hx hb dL_law_230 rfl (lv_at hl 3 rfl) ?_
          refine lv_iconst (v := 1) hx hb dL_law_231 (by decide) ?_
          refine lv_iadd hx hb dL_law_232 ?_
          rw [show nI i + 1 = nI (i + 1) from nI_add i 1]
          refine va_sld hx hb hX hbl hbA hS (hin 1 (by decide)) dL_law_233 ?_
          refine lv_aload_n hx hb dL_law_234 rfl (lv_at hl 0 rfl) ?_
          refine lv_iload_n hx hb dL_law_235 rfl (lv_at hl 3 rfl) ?_
          refine lv_iconst (v := 2) hx hb dL_law_236 (by decide) ?_
          refine lv_iadd hx hb dL_law_237 ?_
          rw [show nI i + 2 = nI (i + 2) from nI_add i 2]
          refine va_sld hx hb hX hbl hbA hS (hin 2 (by decide)) dL_law_238 ?_
          refine lw_cC C0 hK dL_law_239 lkL_39 hzs (c5_task hz hSc hW) rfl rfl (Nat.le_of_ble_eq_true rfl) (by decide) ⟨Nat.le_of_ble_eq_true rfl, Nat.le_of_ble_eq_true rfl⟩ hls hH hS (fun r1 I1 R1 H1 locs1 hp hH1 hS1 => ?_)
          obtain ⟨e1, g1, f1, hz1, fr1⟩ := hp
          have hm1 := hm.upR (fr1 _ (Nat.le_refl _))
          have hSm1 := hSm.all f1
          refine lv_aload_n hx hb dL_law_242 rfl (lv_at hl 2 rfl) ?_
          refine lv_aload_n hx hb dL_law_243 rfl (lv_at hl 0 rfl) ?_
          refine lv_iload_n hx hb dL_law_244 rfl (lv_at hl 3 rfl) ?_
          refine lv_iconst (v := 1) hx hb dL_law_245 (by decide) ?_
          refine lv_iadd hx hb dL_law_246 ?_
          rw [show nI i + 1 = nI (i + 1) from nI_add i 1]
          refine va_sld hx hb hX hbl hbA hS1 (hin 1 (by decide)) dL_law_247 ?_
          refine lv_aload_n hx hb dL_law_248 rfl (lv_at hl 0 rfl) ?_
          refine lv_iload_n hx hb dL_law_249 rfl (lv_at hl 3 rfl) ?_
          refine lv_iconst (v := 2) hx hb dL_law_250 (by decide) ?_
          refine lv_iadd hx hb dL_law_251 ?_
          rw [show nI i + 2 = nI (i + 2) from nI_add i 2]
          refine va_sld hx hb hX hbl hbA hS1 (hin 2 (by decide)) dL_law_252 ?_
          refine lw_cM C0 hK dL_law_253 lkL_43 hms (c6_task hm1 hSm1 hW) rfl rfl (Nat.le_of_ble_eq_true rfl) (by decide) ⟨Nat.le_of_ble_eq_true rfl, Nat.le_of_ble_eq_true rfl⟩ hls hH1 hS1 (fun r2 I2 H2 locs2 hp2 hH2 hS2 => ?_)
          obtain ⟨e2, g2, f2⟩ := hp2
          refine lv_icmp_eq (tgt := 544) hx hb dL_law_256 (by decide) (fun _ => ?_) (fun hc => absurd (e1.trans e2.symm) hc)
          exact fin _ I2 R1 H2 locs2 (hW) hz1 hm1 (g1.all f2) g2 hH2 hS2
        · refine lv_tableIn (off := 229) (tgt := 261) hx hb dL_law_32 (by decide) (by decide) (by decide) (by decide) ?_
          refine lv_aload_n hx hb dL_law_261 rfl (lv_at hl 1 rfl) ?_
          refine lv_aload_n hx hb dL_law_262 rfl (lv_at hl 0 rfl) ?_
          refine lv_iload_n hx hb dL_law_263 rfl (lv_at hl 3 rfl) ?_
          refine lv_iconst (v := 1) hx hb dL_law_264 (by decide) ?_
          refine lv_iadd hx hb dL_law_265 ?_
          rw [show nI i + 1 = nI (i + 1) from nI_add i 1]
          refine va_sld hx hb hX hbl hbA hS (hin 1 (by decide)) dL_law_266 ?_
          refine lv_aload_n hx hb dL_law_267 rfl (lv_at hl 0 rfl) ?_
          refine lv_iload_n hx hb dL_law_268 rfl (lv_at hl 3 rfl) ?_
          refine lv_iconst (v := 2) hx hb dL_law_269 (by decide) ?_
          refine lv_iadd hx hb dL_law_270 ?_
          rw [show nI i + 2 = nI (i + 2) from nI_add i 2]
          refine va_sld hx hb hX hbl hbA hS (hin 2 (by decide)) dL_law_271 ?_
          refine lw_cC C0 hK dL_law_272 lkL_44 hzs (c5_failure hz hSc hW) rfl rfl (Nat.le_of_ble_eq_true rfl) (by decide) ⟨Nat.le_of_ble_eq_true rfl, Nat.le_of_ble_eq_true rfl⟩ hls hH hS (fun r1 I1 R1 H1 locs1 hp hH1 hS1 => ?_)
          obtain ⟨e1, g1, f1, hz1, fr1⟩ := hp
          have hm1 := hm.upR (fr1 _ (Nat.le_refl _))
          have hSm1 := hSm.all f1
          refine lv_aload_n hx hb dL_law_275 rfl (lv_at hl 2 rfl) ?_
          refine lv_aload_n hx hb dL_law_276 rfl (lv_at hl 0 rfl) ?_
          refine lv_iload_n hx hb dL_law_277 rfl (lv_at hl 3 rfl) ?_
          refine lv_iconst (v := 1) hx hb dL_law_278 (by decide) ?_
          refine lv_iadd hx hb dL_law_279 ?_
          rw [show nI i + 1 = nI (i + 1) from nI_add i 1]
          refine va_sld hx hb hX hbl hbA hS1 (hin 1 (by decide)) dL_law_280 ?_
          refine lv_aload_n hx hb dL_law_281 rfl (lv_at hl 0 rfl) ?_
          refine lv_iload_n hx hb dL_law_282 rfl (lv_at hl 3 rfl) ?_
          refine lv_iconst (v := 2) hx hb dL_law_283 (by decide) ?_
          refine lv_iadd hx hb dL_law_284 ?_
          rw [show nI i + 2 = nI (i + 2) from nI_add i 2]
          refine va_sld hx hb hX hbl hbA hS1 (hin 2 (by decide)) dL_law_285 ?_
          refine lw_cM C0 hK dL_law_286 lkL_47 hms (c6_failure hm1 hSm1 hW) rfl rfl (Nat.le_of_ble_eq_true rfl) (by decide) ⟨Nat.le_of_ble_eq_true rfl, Nat.le_of_ble_eq_true rfl⟩ hls hH1 hS1 (fun r2 I2 H2 locs2 hp2 hH2 hS2 => ?_)
          obtain ⟨e2, g2, f2⟩ := hp2
          refine lv_icmp_eq (tgt := 544) hx hb dL_law_289 (by decide) (fun _ => ?_) (fun hc => absurd (e1.trans e2.symm) hc)
          exact fin _ I2 R1 H2 locs2 (hW) hz1 hm1 (g1.all f2) g2 hH2 hS2
        · refine lv_tableIn (off := 262) (tgt := 294) hx hb dL_law_32 (by decide) (by decide) (by decide) (by decide) ?_
          refine lv_aload_n hx hb dL_law_294 rfl (lv_at hl 1 rfl) ?_
          refine lv_aload_n hx hb dL_law_295 rfl (lv_at hl 0 rfl) ?_
          refine lv_iload_n hx hb dL_law_296 rfl (lv_at hl 3 rfl) ?_
          refine lv_iconst (v := 1) hx hb dL_law_297 (by decide) ?_
          refine lv_iadd hx hb dL_law_298 ?_
          rw [show nI i + 1 = nI (i + 1) from nI_add i 1]
          refine va_sld hx hb hX hbl hbA hS (hin 1 (by decide)) dL_law_299 ?_
          refine lv_aload_n hx hb dL_law_300 rfl (lv_at hl 0 rfl) ?_
          refine lv_iload_n hx hb dL_law_301 rfl (lv_at hl 3 rfl) ?_
          refine lv_iconst (v := 2) hx hb dL_law_302 (by decide) ?_
          refine lv_iadd hx hb dL_law_303 ?_
          rw [show nI i + 2 = nI (i + 2) from nI_add i 2]
          refine va_sld hx hb hX hbl hbA hS (hin 2 (by decide)) dL_law_304 ?_
          refine lw_cC C0 hK dL_law_305 lkL_48 hzs (c5_trace hz hSc hW) rfl rfl (Nat.le_of_ble_eq_true rfl) (by decide) ⟨Nat.le_of_ble_eq_true rfl, Nat.le_of_ble_eq_true rfl⟩ hls hH hS (fun r1 I1 R1 H1 locs1 hp hH1 hS1 => ?_)
          obtain ⟨e1, g1, f1, hz1, fr1⟩ := hp
          have hm1 := hm.upR (fr1 _ (Nat.le_refl _))
          have hSm1 := hSm.all f1
          refine lv_aload_n hx hb dL_law_308 rfl (lv_at hl 2 rfl) ?_
          refine lv_aload_n hx hb dL_law_309 rfl (lv_at hl 0 rfl) ?_
          refine lv_iload_n hx hb dL_law_310 rfl (lv_at hl 3 rfl) ?_
          refine lv_iconst (v := 1) hx hb dL_law_311 (by decide) ?_
          refine lv_iadd hx hb dL_law_312 ?_
          rw [show nI i + 1 = nI (i + 1) from nI_add i 1]
          refine va_sld hx hb hX hbl hbA hS1 (hin 1 (by decide)) dL_law_313 ?_
          refine lv_aload_n hx hb dL_law_314 rfl (lv_at hl 0 rfl) ?_
          refine lv_iload_n hx hb dL_law_315 rfl (lv_at hl 3 rfl) ?_
          refine lv_iconst (v := 2) hx hb dL_law_316 (by decide) ?_
          refine lv_iadd hx hb dL_law_317 ?_
          rw [show nI i + 2 = nI (i + 2) from nI_add i 2]
          refine va_sld hx hb hX hbl hbA hS1 (hin 2 (by decide)) dL_law_318 ?_
          refine lw_cM C0 hK dL_law_319 lkL_51 hms (c6_trace hm1 hSm1 hW) rfl rfl (Nat.le_of_ble_eq_true rfl) (by decide) ⟨Nat.le_of_ble_eq_true rfl, Nat.le_of_ble_eq_true rfl⟩ hls hH1 hS1 (fun r2 I2 H2 locs2 hp2 hH2 hS2 => ?_)
          obtain ⟨e2, g2, f2⟩ := hp2
          refine lv_icmp_eq (tgt := 544) hx hb dL_law_322 (by decide) (fun _ => ?_) (fun hc => absurd (e1.trans e2.symm) hc)
          exact fin _ I2 R1 H2 locs2 (hW) hz1 hm1 (g1.all f2) g2 hH2 hS2
        · refine lv_tableIn (off := 295) (tgt := 327) hx hb dL_law_32 (by decide) (by decide) (by decide) (by decide) ?_
          refine lv_aload_n hx hb dL_law_327 rfl (lv_at hl 1 rfl) ?_
          refine lv_aload_n hx hb dL_law_328 rfl (lv_at hl 0 rfl) ?_
          refine lv_iload_n hx hb dL_law_329 rfl (lv_at hl 3 rfl) ?_
          refine lv_iconst (v := 1) hx hb dL_law_330 (by decide) ?_
          refine lv_iadd hx hb dL_law_331 ?_
          rw [show nI i + 1 = nI (i + 1) from nI_add i 1]
          refine va_sld hx hb hX hbl hbA hS (hin 1 (by decide)) dL_law_332 ?_
          refine lv_aload_n hx hb dL_law_333 rfl (lv_at hl 0 rfl) ?_
          refine lv_iload_n hx hb dL_law_334 rfl (lv_at hl 3 rfl) ?_
          refine lv_iconst (v := 2) hx hb dL_law_335 (by decide) ?_
          refine lv_iadd hx hb dL_law_336 ?_
          rw [show nI i + 2 = nI (i + 2) from nI_add i 2]
          refine va_sld hx hb hX hbl hbA hS (hin 2 (by decide)) dL_law_337 ?_
          refine lw_cC C0 hK dL_law_338 lkL_52 hzs (c5_ends hz hSc hW) rfl rfl (Nat.le_of_ble_eq_true rfl) (by decide) ⟨Nat.le_of_ble_eq_true rfl, Nat.le_of_ble_eq_true rfl⟩ hls hH hS (fun r1 I1 R1 H1 locs1 hp hH1 hS1 => ?_)
          obtain ⟨e1, g1, f1, hz1, fr1⟩ := hp
          have hm1 := hm.upR (fr1 _ (Nat.le_refl _))
          have hSm1 := hSm.all f1
          refine lv_aload_n hx hb dL_law_341 rfl (lv_at hl 2 rfl) ?_
          refine lv_aload_n hx hb dL_law_342 rfl (lv_at hl 0 rfl) ?_
          refine lv_iload_n hx hb dL_law_343 rfl (lv_at hl 3 rfl) ?_
          refine lv_iconst (v := 1) hx hb dL_law_344 (by decide) ?_
          refine lv_iadd hx hb dL_law_345 ?_
          rw [show nI i + 1 = nI (i + 1) from nI_add i 1]
          refine va_sld hx hb hX hbl hbA hS1 (hin 1 (by decide)) dL_law_346 ?_
          refine lv_aload_n hx hb dL_law_347 rfl (lv_at hl 0 rfl) ?_
          refine lv_iload_n hx hb dL_law_348 rfl (lv_at hl 3 rfl) ?_
          refine lv_iconst (v := 2) hx hb dL_law_349 (by decide) ?_
          refine lv_iadd hx hb dL_law_350 ?_
          rw [show nI i + 2 = nI (i + 2) from nI_add i 2]
          refine va_sld hx hb hX hbl hbA hS1 (hin 2 (by decide)) dL_law_351 ?_
          refine lw_cM C0 hK dL_law_352 lkL_55 hms (c6_ends_ hm1 hSm1 hW) rfl rfl (Nat.le_of_ble_eq_true rfl) (by decide) ⟨Nat.le_of_ble_eq_true rfl, Nat.le_of_ble_eq_true rfl⟩ hls hH1 hS1 (fun r2 I2 H2 locs2 hp2 hH2 hS2 => ?_)
          obtain ⟨e2, g2, f2⟩ := hp2
          refine lv_icmp_eq (tgt := 544) hx hb dL_law_355 (by decide) (fun _ => ?_) (fun hc => absurd (e1.trans e2.symm) hc)
          exact fin _ I2 R1 H2 locs2 (hW) hz1 hm1 (g1.all f2) g2 hH2 hS2
        · refine lv_tableIn (off := 328) (tgt := 360) hx hb dL_law_32 (by decide) (by decide) (by decide) (by decide) ?_
          refine lv_aload_n hx hb dL_law_360 rfl (lv_at hl 1 rfl) ?_
          refine lw_cC C0 hK dL_law_361 lkL_56 hzs (c5_wellBy hz hSc hW) rfl rfl (Nat.le_of_ble_eq_true rfl) (by decide) ⟨Nat.le_of_ble_eq_true rfl, Nat.le_of_ble_eq_true rfl⟩ hls hH hS (fun r1 I1 R1 H1 locs1 hp hH1 hS1 => ?_)
          obtain ⟨e1, g1, f1, hz1, fr1⟩ := hp
          have hm1 := hm.upR (fr1 _ (Nat.le_refl _))
          have hSm1 := hSm.all f1
          refine lv_aload_n hx hb dL_law_364 rfl (lv_at hl 2 rfl) ?_
          refine lw_cM C0 hK dL_law_365 lkL_59 hms (c6_wellBy hm1 hSm1 hW) rfl rfl (Nat.le_of_ble_eq_true rfl) (by decide) ⟨Nat.le_of_ble_eq_true rfl, Nat.le_of_ble_eq_true rfl⟩ hls hH1 hS1 (fun r2 I2 H2 locs2 hp2 hH2 hS2 => ?_)
          obtain ⟨e2, g2, f2⟩ := hp2
          refine lv_icmp_eq (tgt := 544) hx hb dL_law_368 (by decide) (fun _ => ?_) (fun hc => absurd (e1.trans e2.symm) hc)
          exact fin _ I2 R1 H2 locs2 (hW) hz1 hm1 (g1.all f2) g2 hH2 hS2
        · refine lv_tableIn (off := 341) (tgt := 373) hx hb dL_law_32 (by decide) (by decide) (by decide) (by decide) ?_
          refine lv_aload_n hx hb dL_law_373 rfl (lv_at hl 1 rfl) ?_
          refine lv_aload_n hx hb dL_law_374 rfl (lv_at hl 0 rfl) ?_
          refine lv_iload_n hx hb dL_law_375 rfl (lv_at hl 3 rfl) ?_
          refine lv_iconst (v := 1) hx hb dL_law_376 (by decide) ?_
          refine lv_iadd hx hb dL_law_377 ?_
          rw [show nI i + 1 = nI (i + 1) from nI_add i 1]
          refine va_sld hx hb hX hbl hbA hS (hin 1 (by decide)) dL_law_378 ?_
          refine lw_cC C0 hK dL_law_379 lkL_60 hzs (c5_spares hz hSc hW) rfl rfl (Nat.le_of_ble_eq_true rfl) (by decide) ⟨Nat.le_of_ble_eq_true rfl, Nat.le_of_ble_eq_true rfl⟩ hls hH hS (fun r1 I1 R1 H1 locs1 hp hH1 hS1 => ?_)
          obtain ⟨e1, g1, f1, hz1, fr1⟩ := hp
          have hm1 := hm.upR (fr1 _ (Nat.le_refl _))
          have hSm1 := hSm.all f1
          refine lv_aload_n hx hb dL_law_382 rfl (lv_at hl 2 rfl) ?_
          refine lv_aload_n hx hb dL_law_383 rfl (lv_at hl 0 rfl) ?_
          refine lv_iload_n hx hb dL_law_384 rfl (lv_at hl 3 rfl) ?_
          refine lv_iconst (v := 1) hx hb dL_law_385 (by decide) ?_
          refine lv_iadd hx hb dL_law_386 ?_
          rw [show nI i + 1 = nI (i + 1) from nI_add i 1]
          refine va_sld hx hb hX hbl hbA hS1 (hin 1 (by decide)) dL_law_387 ?_
          refine lw_cM C0 hK dL_law_388 lkL_63 hms (c6_spares hm1 hSm1 hW) rfl rfl (Nat.le_of_ble_eq_true rfl) (by decide) ⟨Nat.le_of_ble_eq_true rfl, Nat.le_of_ble_eq_true rfl⟩ hls hH1 hS1 (fun r2 I2 H2 locs2 hp2 hH2 hS2 => ?_)
          obtain ⟨e2, g2, f2⟩ := hp2
          refine lv_icmp_eq (tgt := 544) hx hb dL_law_391 (by decide) (fun _ => ?_) (fun hc => absurd (e1.trans e2.symm) hc)
          exact fin _ I2 R1 H2 locs2 (hW) hz1 hm1 (g1.all f2) g2 hH2 hS2
        · refine lv_tableIn (off := 364) (tgt := 396) hx hb dL_law_32 (by decide) (by decide) (by decide) (by decide) ?_
          refine lv_aload_n hx hb dL_law_396 rfl (lv_at hl 1 rfl) ?_
          refine lv_aload_n hx hb dL_law_397 rfl (lv_at hl 0 rfl) ?_
          refine lv_iload_n hx hb dL_law_398 rfl (lv_at hl 3 rfl) ?_
          refine lv_iconst (v := 1) hx hb dL_law_399 (by decide) ?_
          refine lv_iadd hx hb dL_law_400 ?_
          rw [show nI i + 1 = nI (i + 1) from nI_add i 1]
          refine va_sld hx hb hX hbl hbA hS (hin 1 (by decide)) dL_law_401 ?_
          refine lv_aload_n hx hb dL_law_402 rfl (lv_at hl 0 rfl) ?_
          refine lv_iload_n hx hb dL_law_403 rfl (lv_at hl 3 rfl) ?_
          refine lv_iconst (v := 2) hx hb dL_law_404 (by decide) ?_
          refine lv_iadd hx hb dL_law_405 ?_
          rw [show nI i + 2 = nI (i + 2) from nI_add i 2]
          refine va_sld hx hb hX hbl hbA hS (hin 2 (by decide)) dL_law_406 ?_
          refine lv_aload_n hx hb dL_law_407 rfl (lv_at hl 0 rfl) ?_
          refine lv_iload_n hx hb dL_law_408 rfl (lv_at hl 3 rfl) ?_
          refine lv_iconst (v := 3) hx hb dL_law_409 (by decide) ?_
          refine lv_iadd hx hb dL_law_410 ?_
          rw [show nI i + 3 = nI (i + 3) from nI_add i 3]
          refine va_sld hx hb hX hbl hbA hS (hin 3 (by decide)) dL_law_411 ?_
          refine lw_cC C0 hK dL_law_412 lkL_64 hzs (c5_sees hz hSc hW) rfl rfl (Nat.le_of_ble_eq_true rfl) (by decide) ⟨Nat.le_of_ble_eq_true rfl, Nat.le_of_ble_eq_true rfl⟩ hls hH hS (fun r1 I1 R1 H1 locs1 hp hH1 hS1 => ?_)
          obtain ⟨e1, g1, f1, hz1, fr1⟩ := hp
          have hm1 := hm.upR (fr1 _ (Nat.le_refl _))
          have hSm1 := hSm.all f1
          refine lv_aload_n hx hb dL_law_415 rfl (lv_at hl 2 rfl) ?_
          refine lv_aload_n hx hb dL_law_416 rfl (lv_at hl 0 rfl) ?_
          refine lv_iload_n hx hb dL_law_417 rfl (lv_at hl 3 rfl) ?_
          refine lv_iconst (v := 1) hx hb dL_law_418 (by decide) ?_
          refine lv_iadd hx hb dL_law_419 ?_
          rw [show nI i + 1 = nI (i + 1) from nI_add i 1]
          refine va_sld hx hb hX hbl hbA hS1 (hin 1 (by decide)) dL_law_420 ?_
          refine lv_aload_n hx hb dL_law_421 rfl (lv_at hl 0 rfl) ?_
          refine lv_iload_n hx hb dL_law_422 rfl (lv_at hl 3 rfl) ?_
          refine lv_iconst (v := 2) hx hb dL_law_423 (by decide) ?_
          refine lv_iadd hx hb dL_law_424 ?_
          rw [show nI i + 2 = nI (i + 2) from nI_add i 2]
          refine va_sld hx hb hX hbl hbA hS1 (hin 2 (by decide)) dL_law_425 ?_
          refine lv_aload_n hx hb dL_law_426 rfl (lv_at hl 0 rfl) ?_
          refine lv_iload_n hx hb dL_law_427 rfl (lv_at hl 3 rfl) ?_
          refine lv_iconst (v := 3) hx hb dL_law_428 (by decide) ?_
          refine lv_iadd hx hb dL_law_429 ?_
          rw [show nI i + 3 = nI (i + 3) from nI_add i 3]
          refine va_sld hx hb hX hbl hbA hS1 (hin 3 (by decide)) dL_law_430 ?_
          refine lw_cM C0 hK dL_law_431 lkL_68 hms (c6_sees hm1 hSm1 hW) rfl rfl (Nat.le_of_ble_eq_true rfl) (by decide) ⟨Nat.le_of_ble_eq_true rfl, Nat.le_of_ble_eq_true rfl⟩ hls hH1 hS1 (fun r2 I2 H2 locs2 hp2 hH2 hS2 => ?_)
          obtain ⟨e2, g2, f2⟩ := hp2
          refine lv_icmp_eq (tgt := 544) hx hb dL_law_434 (by decide) (fun _ => ?_) (fun hc => absurd (e1.trans e2.symm) hc)
          exact fin _ I2 R1 H2 locs2 (hW.sees) hz1 hm1 (g1.all f2) g2 hH2 hS2
        · refine lv_tableIn (off := 407) (tgt := 439) hx hb dL_law_32 (by decide) (by decide) (by decide) (by decide) ?_
          refine lv_aload_n hx hb dL_law_439 rfl (lv_at hl 1 rfl) ?_
          refine lw_cC C0 hK dL_law_440 lkL_69 hzs (c5_forget hz hSc hW) rfl rfl (Nat.le_of_ble_eq_true rfl) (by decide) ⟨Nat.le_of_ble_eq_true rfl, Nat.le_of_ble_eq_true rfl⟩ hls hH hS (fun r1 I1 R1 H1 locs1 hp hH1 hS1 => ?_)
          obtain ⟨e1, g1, f1, hz1, fr1⟩ := hp
          have hm1 := hm.upR (fr1 _ (Nat.le_refl _))
          have hSm1 := hSm.all f1
          refine lv_aload_n hx hb dL_law_443 rfl (lv_at hl 2 rfl) ?_
          refine lw_cM C0 hK dL_law_444 lkL_72 hms (c6_forget hm1 hSm1 hW) rfl rfl (Nat.le_of_ble_eq_true rfl) (by decide) ⟨Nat.le_of_ble_eq_true rfl, Nat.le_of_ble_eq_true rfl⟩ hls hH1 hS1 (fun r2 I2 H2 locs2 hp2 hH2 hS2 => ?_)
          obtain ⟨e2, g2, f2⟩ := hp2
          refine lv_icmp_eq (tgt := 544) hx hb dL_law_447 (by decide) (fun _ => ?_) (fun hc => absurd (e1.trans e2.symm) hc)
          exact fin _ I2 R1 H2 locs2 (hW.forget) hz1 hm1 (g1.all f2) g2 hH2 hS2
        · refine lv_tableIn (off := 420) (tgt := 452) hx hb dL_law_32 (by decide) (by decide) (by decide) (by decide) ?_
          refine lv_aload_n hx hb dL_law_452 rfl (lv_at hl 1 rfl) ?_
          refine lv_aload_n hx hb dL_law_453 rfl (lv_at hl 0 rfl) ?_
          refine lv_iload_n hx hb dL_law_454 rfl (lv_at hl 3 rfl) ?_
          refine lv_iconst (v := 1) hx hb dL_law_455 (by decide) ?_
          refine lv_iadd hx hb dL_law_456 ?_
          rw [show nI i + 1 = nI (i + 1) from nI_add i 1]
          refine va_sld hx hb hX hbl hbA hS (hin 1 (by decide)) dL_law_457 ?_
          refine lw_cC C0 hK dL_law_458 lkL_73 hzs (c5_fits hz hSc hW) rfl rfl (Nat.le_of_ble_eq_true rfl) (by decide) ⟨Nat.le_of_ble_eq_true rfl, Nat.le_of_ble_eq_true rfl⟩ hls hH hS (fun r1 I1 R1 H1 locs1 hp hH1 hS1 => ?_)
          obtain ⟨e1, g1, f1, hz1, fr1⟩ := hp
          have hm1 := hm.upR (fr1 _ (Nat.le_refl _))
          have hSm1 := hSm.all f1
          refine lv_aload_n hx hb dL_law_461 rfl (lv_at hl 2 rfl) ?_
          refine lv_aload_n hx hb dL_law_462 rfl (lv_at hl 0 rfl) ?_
          refine lv_iload_n hx hb dL_law_463 rfl (lv_at hl 3 rfl) ?_
          refine lv_iconst (v := 1) hx hb dL_law_464 (by decide) ?_
          refine lv_iadd hx hb dL_law_465 ?_
          rw [show nI i + 1 = nI (i + 1) from nI_add i 1]
          refine va_sld hx hb hX hbl hbA hS1 (hin 1 (by decide)) dL_law_466 ?_
          refine lw_cM C0 hK dL_law_467 lkL_76 hms (c6_fits hm1 hSm1 hW) rfl rfl (Nat.le_of_ble_eq_true rfl) (by decide) ⟨Nat.le_of_ble_eq_true rfl, Nat.le_of_ble_eq_true rfl⟩ hls hH1 hS1 (fun r2 I2 H2 locs2 hp2 hH2 hS2 => ?_)
          obtain ⟨e2, g2, f2⟩ := hp2
          refine lv_icmp_eq (tgt := 544) hx hb dL_law_470 (by decide) (fun _ => ?_) (fun hc => absurd (e1.trans e2.symm) hc)
          exact fin _ I2 R1 H2 locs2 (hW) hz1 hm1 (g1.all f2) g2 hH2 hS2
        · refine lv_tableIn (off := 443) (tgt := 475) hx hb dL_law_32 (by decide) (by decide) (by decide) (by decide) ?_
          refine lv_aload_n hx hb dL_law_475 rfl (lv_at hl 1 rfl) ?_
          refine lv_aload_n hx hb dL_law_476 rfl (lv_at hl 0 rfl) ?_
          refine lv_iload_n hx hb dL_law_477 rfl (lv_at hl 3 rfl) ?_
          refine lv_iconst (v := 1) hx hb dL_law_478 (by decide) ?_
          refine lv_iadd hx hb dL_law_479 ?_
          rw [show nI i + 1 = nI (i + 1) from nI_add i 1]
          refine va_sld hx hb hX hbl hbA hS (hin 1 (by decide)) dL_law_480 ?_
          refine lw_cC C0 hK dL_law_481 lkL_77 hzs (c5_keep hz hSc hW) rfl rfl (Nat.le_of_ble_eq_true rfl) (by decide) ⟨Nat.le_of_ble_eq_true rfl, Nat.le_of_ble_eq_true rfl⟩ hls hH hS (fun r1 I1 R1 H1 locs1 hp hH1 hS1 => ?_)
          obtain ⟨e1, g1, f1, hz1, fr1⟩ := hp
          have hm1 := hm.upR (fr1 _ (Nat.le_refl _))
          have hSm1 := hSm.all f1
          refine lv_aload_n hx hb dL_law_484 rfl (lv_at hl 2 rfl) ?_
          refine lv_aload_n hx hb dL_law_485 rfl (lv_at hl 0 rfl) ?_
          refine lv_iload_n hx hb dL_law_486 rfl (lv_at hl 3 rfl) ?_
          refine lv_iconst (v := 1) hx hb dL_law_487 (by decide) ?_
          refine lv_iadd hx hb dL_law_488 ?_
          rw [show nI i + 1 = nI (i + 1) from nI_add i 1]
          refine va_sld hx hb hX hbl hbA hS1 (hin 1 (by decide)) dL_law_489 ?_
          refine lw_cM C0 hK dL_law_490 lkL_80 hms (c6_keep hm1 hSm1 hW) rfl rfl (Nat.le_of_ble_eq_true rfl) (by decide) ⟨Nat.le_of_ble_eq_true rfl, Nat.le_of_ble_eq_true rfl⟩ hls hH1 hS1 (fun r2 I2 H2 locs2 hp2 hH2 hS2 => ?_)
          obtain ⟨e2, g2, f2⟩ := hp2
          refine lv_icmp_eq (tgt := 544) hx hb dL_law_493 (by decide) (fun _ => ?_) (fun hc => absurd (e1.trans e2.symm) hc)
          exact fin _ I2 R1 H2 locs2 (hW.keep) hz1 hm1 (g1.all f2) g2 hH2 hS2
        · refine lv_tableIn (off := 466) (tgt := 498) hx hb dL_law_32 (by decide) (by decide) (by decide) (by decide) ?_
          refine lv_aload_n hx hb dL_law_498 rfl (lv_at hl 1 rfl) ?_
          refine lv_aload_n hx hb dL_law_499 rfl (lv_at hl 0 rfl) ?_
          refine lv_iload_n hx hb dL_law_500 rfl (lv_at hl 3 rfl) ?_
          refine lv_iconst (v := 1) hx hb dL_law_501 (by decide) ?_
          refine lv_iadd hx hb dL_law_502 ?_
          rw [show nI i + 1 = nI (i + 1) from nI_add i 1]
          refine va_sld hx hb hX hbl hbA hS (hin 1 (by decide)) dL_law_503 ?_
          refine lw_cC C0 hK dL_law_504 lkL_81 hzs (c5_back hz hSc hW) rfl rfl (Nat.le_of_ble_eq_true rfl) (by decide) ⟨Nat.le_of_ble_eq_true rfl, Nat.le_of_ble_eq_true rfl⟩ hls hH hS (fun r1 I1 R1 H1 locs1 hp hH1 hS1 => ?_)
          obtain ⟨e1, g1, f1, hz1, fr1⟩ := hp
          have hm1 := hm.upR (fr1 _ (Nat.le_refl _))
          have hSm1 := hSm.all f1
          refine lv_aload_n hx hb dL_law_507 rfl (lv_at hl 2 rfl) ?_
          refine lv_aload_n hx hb dL_law_508 rfl (lv_at hl 0 rfl) ?_
          refine lv_iload_n hx hb dL_law_509 rfl (lv_at hl 3 rfl) ?_
          refine lv_iconst (v := 1) hx hb dL_law_510 (by decide) ?_
          refine lv_iadd hx hb dL_law_511 ?_
          rw [show nI i + 1 = nI (i + 1) from nI_add i 1]
          refine va_sld hx hb hX hbl hbA hS1 (hin 1 (by decide)) dL_law_512 ?_
          refine lw_cM C0 hK dL_law_513 lkL_84 hms (c6_back hm1 hSm1 hW) rfl rfl (Nat.le_of_ble_eq_true rfl) (by decide) ⟨Nat.le_of_ble_eq_true rfl, Nat.le_of_ble_eq_true rfl⟩ hls hH1 hS1 (fun r2 I2 H2 locs2 hp2 hH2 hS2 => ?_)
          obtain ⟨e2, g2, f2⟩ := hp2
          refine lv_icmp_eq (tgt := 544) hx hb dL_law_516 (by decide) (fun _ => ?_) (fun hc => absurd (e1.trans e2.symm) hc)
          exact fin _ I2 R1 H2 locs2 (hW.back) hz1 hm1 (g1.all f2) g2 hH2 hS2
        · refine lv_tableIn (off := 489) (tgt := 521) hx hb dL_law_32 (by decide) (by decide) (by decide) (by decide) ?_
          refine lv_aload_n hx hb dL_law_521 rfl (lv_at hl 1 rfl) ?_
          refine lv_aload_n hx hb dL_law_522 rfl (lv_at hl 0 rfl) ?_
          refine lv_iload_n hx hb dL_law_523 rfl (lv_at hl 3 rfl) ?_
          refine lv_iconst (v := 1) hx hb dL_law_524 (by decide) ?_
          refine lv_iadd hx hb dL_law_525 ?_
          rw [show nI i + 1 = nI (i + 1) from nI_add i 1]
          refine va_sld hx hb hX hbl hbA hS (hin 1 (by decide)) dL_law_526 ?_
          refine lw_cC C0 hK dL_law_527 lkL_85 hzs (c5_count hz hSc hW) rfl rfl (Nat.le_of_ble_eq_true rfl) (by decide) ⟨Nat.le_of_ble_eq_true rfl, Nat.le_of_ble_eq_true rfl⟩ hls hH hS (fun r1 I1 R1 H1 locs1 hp hH1 hS1 => ?_)
          obtain ⟨e1, g1, f1, hz1, fr1⟩ := hp
          have hm1 := hm.upR (fr1 _ (Nat.le_refl _))
          have hSm1 := hSm.all f1
          refine lv_aload_n hx hb dL_law_530 rfl (lv_at hl 2 rfl) ?_
          refine lv_aload_n hx hb dL_law_531 rfl (lv_at hl 0 rfl) ?_
          refine lv_iload_n hx hb dL_law_532 rfl (lv_at hl 3 rfl) ?_
          refine lv_iconst (v := 1) hx hb dL_law_533 (by decide) ?_
          refine lv_iadd hx hb dL_law_534 ?_
          rw [show nI i + 1 = nI (i + 1) from nI_add i 1]
          refine va_sld hx hb hX hbl hbA hS1 (hin 1 (by decide)) dL_law_535 ?_
          refine lw_cM C0 hK dL_law_536 lkL_88 hms (c6_count hm1 hSm1 hW) rfl rfl (Nat.le_of_ble_eq_true rfl) (by decide) ⟨Nat.le_of_ble_eq_true rfl, Nat.le_of_ble_eq_true rfl⟩ hls hH1 hS1 (fun r2 I2 H2 locs2 hp2 hH2 hS2 => ?_)
          obtain ⟨e2, g2, f2⟩ := hp2
          refine lv_icmp_eq (tgt := 544) hx hb dL_law_539 (by decide) (fun _ => ?_) (fun hc => absurd (e1.trans e2.symm) hc)
          exact fin _ I2 R1 H2 locs2 (hW) hz1 hm1 (g1.all f2) g2 hH2 hS2
      · refine lv_tableOut (tgt := 544) hx hb dL_law_32 ho (by decide) ?_
        exact fin σ I R H locs hW hz hm hSc hSm hH hS
set_option maxHeartbeats 8000000 in
set_option maxRecDepth 100000 in
theorem whole_start {p : Program} {e : Env} {s : State} {m : MethodId} {below : List Frame} {meth : Method} {c : Code} (l : Launch) (hflags : l.flags = flags0) {b L : Nat} {xs : Nat → Int32} (hL : L ≤ 2048) (C0 : lw_At p s m meth c b L xs) : W p l e room_1 s m #[Value.ref b] below meth c s.heap [] 0 0 (lw_Z below #[Value.ref b] s) (entryFrame m ([Value.ref b] : List Value).toArray 4) := by
  obtain ⟨hx, hb, hr, hml, hown, hts, hX, hbl, hlocks, hgv⟩ := id C0
  have hw : ∀ w ∈ mv_W, w.before #[Value.ref b] s = true := fun w h => hts w (lw_W h)
  have hkn : ∀ ci, ci < 7 → ∃ (cC : ClassId) (iS : Nat → Nat), u_Kn s (mv_Cn ci) (mv_T ci) (mv_N ci) cC iS := fun ci h7 => by
    refine u_known (ws := mv_W) (n := mv_N ci) hw (mv_lays h7) (hw _ ?_)
    exact mv_c7 (P := fun ci => Cond.instantiable (mv_Cn ci) (mv_N ci) ∈ mv_W) h7 wn0 wn1 wn2 wn3 wn4 wn5 wn6
  obtain ⟨D, hKc⟩ : ∃ D : va_G, ∀ (k : Nat) (q : vw_C), vwCl[k]? = some q → u_Kn s q.1 q.2.1 q.2.2 (D.1 k) (D.2 k) := by
    have h2 : ∀ ci, ∃ d : ClassId × (Nat → Nat), ci < 7 → u_Kn s (mv_Cn ci) (mv_T ci) (mv_N ci) d.1 d.2 := fun ci => by
      by_cases h7 : ci < 7
      · obtain ⟨a, b, h⟩ := hkn ci h7
        exact ⟨(a, b), fun _ => h⟩
      · obtain ⟨a, b, h⟩ := hkn 0 (by decide)
        exact ⟨(a, b), fun q => absurd q h7⟩
    refine ⟨(fun k => (Classical.choose (h2 k)).1, fun k => (Classical.choose (h2 k)).2), fun k q hq => ?_⟩
    have h7 : k < 7 := (List.getElem?_eq_some_iff.mp hq).1
    rw [mv_cl h7] at hq
    cases hq
    exact Classical.choose_spec (h2 k) h7
  have hK : mv_K D s := ⟨⟨hKc, fun k q h => by simp at h⟩, va_AO.of (hts _ wL_ao), va_Nw.of rfl (hts _ wL_nl)⟩
  have hS : va_S (fun q : Nat => s.heap.size ≤ q) s.heap s.heap [] := va_S.rf
  have hH : mv_H D s.heap.size s.heap.size (fun _ => (10, 0)) (fun _ _ => 0) (fun _ _ => none) s s.heap := ⟨rfl, fun a h => absurd h (show ¬ (10 : Nat) < 10 by decide), fun a => ⟨fun h => absurd h (show ¬ (10 : Nat) < 7 by decide), fun h => absurd h (show ¬ (10 : Nat) = 7 by decide), fun h => absurd h (show ¬ (10 : Nat) = 8 by decide), fun h => absurd h (show ¬ (10 : Nat) = 9 by decide)⟩⟩
  have hl := lv_entry ([.ref b]) (n := 4) (Nat.le_of_ble_eq_true rfl)
  rw [lg_entry_eq]
  generalize (lg_sl ([.ref b]) ++ List.replicate (4 - (lg_sl ([.ref b])).length) Slot.unset).toArray = ls at hl ⊢
  have hl : lv_has ls 4 [(0, .ref b)] := hl
  refine lw_new (ci := 5) C0 hK dL_law_0 (by decide) clL_7 wn5 wi5 (Nat.le_of_ble_eq_true rfl) (Nat.le_of_ble_eq_true rfl) hH hS (fun H1 hH1 hS1 => ?_)
  refine lv_dup hx hb dL_law_3 rfl ?_
  refine lw_callI C0 hK dL_law_4 lkL_9 (c5_init (z := s.heap.size) (by simp [mv_rp]; rfl)) rfl rfl (Nat.le_of_ble_eq_true rfl) ⟨by decide, by decide⟩ ⟨Nat.le_of_ble_eq_true rfl, Nat.le_of_ble_eq_true rfl⟩ hl.1 hH1 hS1 (fun v n2 sh2 I2 R2 H2 locs2 hq hH2 hS2 => ?_)
  obtain ⟨hv, hn, fr, hz, hSc⟩ := hq
  subst hv hn
  refine lv_astore_n (lv' := [(1, .ref s.heap.size), (0, .ref b)]) hx hb dL_law_7 rfl hl (by decide) rfl (fun ls hl => ?_)
  refine lw_new (ci := 6) C0 hK dL_law_8 (by decide) clL_10 wn6 wi6 (Nat.le_of_ble_eq_true rfl) (Nat.le_of_ble_eq_true rfl) hH2 hS2 (fun H3 hH3 hS3 => ?_)
  refine lv_dup hx hb dL_law_11 rfl ?_
  refine lw_callI C0 hK dL_law_12 lkL_12 (c6_init (p := s.heap.size + 278) (by simp [mv_rp]; rfl) (fun k => by simp [mv_rp])) rfl rfl (Nat.le_of_ble_eq_true rfl) ⟨by decide, by decide⟩ ⟨Nat.le_of_ble_eq_true rfl, Nat.le_of_ble_eq_true rfl⟩ hl.1 hH3 hS3 (fun v n4 sh4 I4 R4 H4 locs4 hq4 hH4 hS4 => ?_)
  obtain ⟨hv4, hn4, fr4, hm, hSm⟩ := hq4
  subst hv4 hn4
  have e4 : ∀ b, b < s.heap.size + 278 → sh4 b = sh2 b ∧ I4 b = I2 b ∧ R4 b = R2 b := fun b hb => by
    have hne : b ≠ s.heap.size + 278 := by omega
    obtain ⟨a1, a2, a3⟩ := fr4 b hb
    refine ⟨a1.trans ?_, a2.trans ?_, a3.trans ?_⟩ <;> simp [mv_rp, hne]
  refine lv_astore_n (lv' := [(2, .ref (s.heap.size + 278)), (1, .ref s.heap.size), (0, .ref b)]) hx hb dL_law_15 rfl hl (by decide) rfl (fun ls hl => ?_)
  refine lv_iconst (v := 0) hx hb dL_law_16 (by decide) ?_
  refine lv_istore_n (lv' := [(3, .int 0), (2, .ref (s.heap.size + 278)), (1, .ref s.heap.size), (0, .ref b)]) hx hb dL_law_17 rfl hl (by decide) rfl (fun ls hl => ?_)
  exact law_loop hL C0 hK (L + 1) 0 (by omega) (by omega) ab_0 I4 R4 ab_0W (hz.fr (fun b hb => ⟨(e4 b hb).1, (e4 b hb).2.2⟩)) hm (hSc.all (fun b hb => (e4 b hb).2.1)) hSm H4 locs4 ls hH4 hS4 (lv_sub hl [3, 2, 1, 0] rfl)
