set_option maxHeartbeats 4000000 in
set_option maxRecDepth 100000 in
theorem e5_suppose {l : Launch} {D : va_G} {b0 n : Nat} {sh : mv_Sh} {I : mv_I} {R : mv_R} {Q : mv_Q} {z nt t d : Nat} {π : xs_X} (hz : ly_ST sh R z) (h : pl_C I (z + 3) nt π) (hw : pl_W nt π) (ht : t < nt) (hd1 : 1 ≤ d) (hd : d ≤ 60) (hQ : ∀ I', (pl_C I' (z + 21) nt (mv_up π t 2 (nI d)) ∧ rc_R I' (z + 46) nt (xs_st (mv_up π t 2 (nI d) 0 2)) ∧ ∀ b, (b < z + 21 ∨ z + 30 ≤ b) → (b < z + 46 ∨ z + 61 ≤ b) → I' b = I b) → Q none n sh I' (mv_up R (z + 46) 0 (some (z + 21)))) : mv_E l D b0 m5_suppose (mv_rm 3) Q 0 [.ref z, .int (nI t), .int (nI d)] [] 0 0 n sh I R := by
  have hn := hw.2.1
  have hwd := hw.dl ht hd1 hd
  refine mv_aload_n (pc := 0) dX5_suppose_0 rfl ?_
  refine mv_getR (pc := 1) (q := (z + 21)) dX5_suppose_1 fl5_26 (fun _ _ => rfl) (congrArg Prod.fst hz.o) hz.f3 ?_
  refine mv_aload_n (pc := 4) dX5_suppose_4 rfl ?_
  refine mv_getR (pc := 5) (q := (z + 3)) dX5_suppose_5 fl5_19 (fun _ _ => rfl) (congrArg Prod.fst hz.o) hz.f1 ?_
  refine mv_cVv (pc := 8) dX5_suppose_8 lk5_93 (congrArg Prod.fst hz.sp.o) (c1_copyFrom hz.sp hz.to (by omega) h hw) rfl rfl (Nat.le_of_ble_eq_true rfl) (by decide) (by decide) (fun J ⟨hp, hf⟩ => ?_)
  refine mv_aload_n (pc := 11) dX5_suppose_11 rfl ?_
  refine mv_getR (pc := 12) (q := (z + 21)) dX5_suppose_12 fl5_26 (fun _ _ => rfl) (congrArg Prod.fst hz.o) hz.f3 ?_
  refine mv_getR (pc := 15) (q := (z + 21) + 5) dX5_suppose_15 fl5_190 (fun _ _ => rfl) (congrArg Prod.fst hz.sp.o) hz.sp.f5 ?_
  refine mv_iload_n (pc := 18) dX5_suppose_18 rfl ?_
  refine mv_iload_n (pc := 19) dX5_suppose_19 rfl ?_
  refine mv_iast (pc := 20) (k := t) dX5_suppose_20 hz.sp.g5 rfl (by omega) ?_
  refine mv_aload_n (pc := 21) dX5_suppose_21 rfl ?_
  refine mv_getR (pc := 22) (q := (z + 46)) dX5_suppose_22 fl5_47 (fun _ _ => rfl) (congrArg Prod.fst hz.o) hz.f6 ?_
  refine mv_aload_n (pc := 25) dX5_suppose_25 rfl ?_
  refine mv_getR (pc := 26) (q := (z + 21)) dX5_suppose_26 fl5_26 (fun _ _ => rfl) (congrArg Prod.fst hz.o) hz.f3 ?_
  have hp2 : pl_C (mv_up J (z + 21 + 5) t (nI d)) (z + 21) nt (mv_up π t 2 (nI d)) := hp.set (col := 2) (by decide)
  refine mv_cVvR (pc := 29) dX5_suppose_29 lk5_96 (congrArg Prod.fst hz.tr.o) (c3_restart hz.tr hz.sp (by omega) hp2 hwd) rfl rfl (Nat.le_of_ble_eq_true rfl) (by decide) (by decide) (fun J2 ⟨hr, hf2⟩ => ?_)
  refine mv_vret (pc := 32) dX5_suppose_32 rfl (by decide) (by decide) (hQ _ ⟨hp2.eq (fun b b1 b2 => hf2 b (by omega)), hr, fun b b1 b2 => ?_⟩)
  rw [hf2 b (by omega), mv_upN b (by omega), hf b (by omega)]
theorem c5_suppose {l : Launch} {D : va_G} {b0 n : Nat} {sh : mv_Sh} {I : mv_I} {R : mv_R} {z nt t d : Nat} {π : xs_X} (hz : ly_ST sh R z) (h : pl_C I (z + 3) nt π) (hw : pl_W nt π) (ht : t < nt) (hd1 : 1 ≤ d) (hd : d ≤ 60) : mv_C l D b0 m5_suppose (mv_rm 3) [.ref z, .int (nI t), .int (nI d)] n sh I R (mv_Pv n sh (mv_up R (z + 46) 0 (some (z + 21))) (fun I' => pl_C I' (z + 21) nt (mv_up π t 2 (nI d)) ∧ rc_R I' (z + 46) nt (xs_st (mv_up π t 2 (nI d) 0 2)) ∧ ∀ b, (b < z + 21 ∨ z + 30 ≤ b) → (b < z + 46 ∨ z + 61 ≤ b) → I' b = I b)) := mv_C.of 0 (by decide) (by simp [Value.category]) rfl (e5_suppose hz h hw ht hd1 hd (fun _ h => mv_Pv.mk h))
def ab_lg (se : Nat → Nat × Nat × Nat) : Nat → Nat
  | 0 => 0
  | k + 1 => max (ab_lg se k) (se k).2.1
theorem ab_lg_le {se : Nat → Nat × Nat × Nat} : ∀ k, (∀ i, i < k → (se i).2.1 ≤ 60) → ab_lg se k ≤ 60 ∧ ∀ i, i < k → (se i).2.1 ≤ ab_lg se k
  | 0, _ => ⟨Nat.zero_le 60, fun i hi => by omega⟩
  | k + 1, h => by
    obtain ⟨a, b⟩ := ab_lg_le k (fun i hi => h i (by omega))
    have := h k (by omega)
    show max (ab_lg se k) (se k).2.1 ≤ 60 ∧ ∀ i, i < k + 1 → (se i).2.1 ≤ max (ab_lg se k) (se k).2.1
    refine ⟨by omega, fun i hi => ?_⟩
    by_cases q : i = k
    · subst q; omega
    · have := b i (by omega)
      omega
set_option maxHeartbeats 4000000 in
set_option maxRecDepth 100000 in
theorem e5_longestSeen {l : Launch} {D : va_G} {b0 n : Nat} {sh : mv_Sh} {I : mv_I} {R : mv_R} {Q : mv_Q} {z sn : Nat} {se : Nat → Nat × Nat × Nat} (hz : ly_ST sh R z) (h : gc_N I z sn se) (hsn : sn ≤ 6) (h6 : ∀ i, i < sn → (se i).2.1 ≤ 60) (hQ : ∀ r I', (r = nI (ab_lg se sn) ∧ I' = I) → Q (some (.int r)) n sh I' R) : mv_E l D b0 m5_longestSeen (mv_rm 1) Q 0 [.ref z, .null, .null] [] 0 0 n sh I R := by
  have loop : ∀ (f c : Nat), c + f = sn → mv_E l D b0 m5_longestSeen (mv_rm 1) Q 4 [.ref z, .int (nI (ab_lg se c)), .int (nI c)] [] 0 0 n sh I R := by
    intro f
    induction f with
    | zero =>
      intro c hc
      have : c = sn := by omega
      subst this
      refine mv_iload_n (pc := 4) dX5_longestSeen_4 rfl ?_
      refine mv_aload_n (pc := 5) dX5_longestSeen_5 rfl ?_
      refine mv_getIx (pc := 6) (x := nI c) dX5_longestSeen_6 fl5_75 rfl (congrArg Prod.fst hz.o) h.1 ?_
      refine mv_icmp_ge (pc := 9) (tgt := 29) dX5_longestSeen_9 (by decide) (fun hb => ?_) (fun hb => ?_)
      · refine mv_iload_n (pc := 29) dX5_longestSeen_29 rfl ?_
        exact mv_iret (pc := 30) dX5_longestSeen_30 rfl (by decide) (by decide) (hQ _ _ ⟨rfl, rfl⟩)
      · exact absurd (Int32.le_refl _) hb
    | succ f ih =>
      intro c hc
      have hcs : c < sn := by omega
      have hl := ab_lg_le (se := se) c (fun i hi => h6 i (by omega))
      have h6c := h6 c hcs
      refine mv_iload_n (pc := 4) dX5_longestSeen_4 rfl ?_
      refine mv_aload_n (pc := 5) dX5_longestSeen_5 rfl ?_
      refine mv_getIx (pc := 6) (x := nI sn) dX5_longestSeen_6 fl5_75 rfl (congrArg Prod.fst hz.o) h.1 ?_
      refine mv_icmp_ge (pc := 9) (tgt := 29) dX5_longestSeen_9 (by decide) (fun hb => ?_) (fun hb => ?_)
      · exact absurd hb (nI_ge (by omega) (by omega))
      · refine mv_iload_n (pc := 12) dX5_longestSeen_12 rfl ?_
        refine mv_aload_n (pc := 13) dX5_longestSeen_13 rfl ?_
        refine mv_getR (pc := 14) (q := (z + 246)) dX5_longestSeen_14 fl5_69 (fun _ _ => rfl) (congrArg Prod.fst hz.o) hz.f11 ?_
        refine mv_iload_n (pc := 17) dX5_longestSeen_17 rfl ?_
        refine mv_ialdx (pc := 18) (x := nI (se c).2.1) (k := c) dX5_longestSeen_18 hz.s1 rfl (by omega) (h.2 c hcs).2.1 ?_
        refine mv_mmax (pc := 19) dX5_longestSeen_19 lkm5_193 wm_smax wm_i wm_cmax (Nat.le_of_ble_eq_true rfl) ⟨by decide, by decide⟩ (by decide) (by decide) ?_
        have emax : (if nI (ab_lg se c) < nI (se c).2.1 then nI (se c).2.1 else nI (ab_lg se c)) = nI (ab_lg se (c + 1)) := by
          show _ = nI (max (ab_lg se c) (se c).2.1)
          by_cases q : ab_lg se c < (se c).2.1
          · rw [if_pos (nI_lt q (by omega)), Nat.max_eq_right (by omega)]
          · rw [if_neg (nI_nlt (by omega) (by omega)), Nat.max_eq_left (by omega)]
        refine mv_top emax ?_
        refine mv_istore_n (pc := 22) dX5_longestSeen_22 (by decide) ?_
        refine mv_iinc (pc := 23) (v := nI (c + 1)) dX5_longestSeen_23 (by decide) rfl (nI_1 c) ?_
        refine mv_goto (pc := 26) (tgt := 4) dX5_longestSeen_26 (by decide) ?_
        exact ih (c + 1) (by omega)
  refine mv_iconst (pc := 0) (v := 0) dX5_longestSeen_0 (by decide) ?_
  refine mv_istore_n (pc := 1) dX5_longestSeen_1 (by decide) ?_
  refine mv_iconst (pc := 2) (v := 0) dX5_longestSeen_2 (by decide) ?_
  refine mv_istore_n (pc := 3) dX5_longestSeen_3 (by decide) ?_
  exact loop sn 0 (by omega)
theorem c5_longestSeen {l : Launch} {D : va_G} {b0 n : Nat} {sh : mv_Sh} {I : mv_I} {R : mv_R} {z sn : Nat} {se : Nat → Nat × Nat × Nat} (hz : ly_ST sh R z) (h : gc_N I z sn se) (hsn : sn ≤ 6) (h6 : ∀ i, i < sn → (se i).2.1 ≤ 60) : mv_C l D b0 m5_longestSeen (mv_rm 1) [.ref z] n sh I R (mv_Pi n sh R (fun r I' => r = nI (ab_lg se sn) ∧ I' = I)) := mv_C.of 2 (by decide) (by simp [Value.category]) rfl (e5_longestSeen hz h hsn h6 (fun _ _ h => mv_Pi.mk h))
def ab_ok2 (y : xs_X) (e : Nat × Nat × Nat) : Bool := decide ((if y e.1 0 = 3 ∧ y e.1 8 ≤ nI e.2.1 then 1 else 0) = nI e.2.2)
def ab_ag2 (y : xs_X) (se : Nat → Nat × Nat × Nat) : Nat → Bool
  | 0 => true
  | k + 1 => ab_ag2 y se k && ab_ok2 y (se k)
theorem ab_ag2_no {y : xs_X} {se : Nat → Nat × Nat × Nat} {k : Nat} (h : ¬ ab_ag2 y se k = true) : ∀ m, ¬ ab_ag2 y se (k + m) = true
  | 0 => h
  | m + 1 => fun q => by
    have e : ab_ag2 y se (k + m + 1) = (ab_ag2 y se (k + m) && ab_ok2 y (se (k + m))) := rfl
    rw [show k + (m + 1) = k + m + 1 from rfl, e, Bool.and_eq_true] at q
    exact ab_ag2_no h m q.1
theorem ab_ag_eq {y y' : xs_X} {se : Nat → Nat × Nat × Nat} : ∀ k, (∀ i, i < k → ((y (se i).1 0 = 3 ∧ y (se i).1 8 ≤ nI (se i).2.1) ↔ (¬ y' (se i).1 8 = -9 ∧ y' (se i).1 8 ≤ nI (se i).2.1))) → ab_ag2 y se k = ab_ag y' se k
  | 0, _ => rfl
  | k + 1, h => by
    have a := ab_ag_eq k (fun i hi => h i (by omega))
    have b : ab_ok2 y (se k) = ab_ok y' (se k) := by
      unfold ab_ok2 ab_ok
      have := h k (by omega)
      simp only [this]
    show (ab_ag2 y se k && ab_ok2 y (se k)) = (ab_ag y' se k && ab_ok y' (se k))
    rw [a, b]
set_option maxHeartbeats 4000000 in
set_option maxRecDepth 100000 in
theorem e5_agreesWithSeen {l : Launch} {D : va_G} {b0 n : Nat} {sh : mv_Sh} {I : mv_I} {R : mv_R} {Q : mv_Q} {z nt sn : Nat} {y : xs_X} {se : Nat → Nat × Nat × Nat} (hz : ly_ST sh R z) (h : gc_N I z sn se) (hsn : sn ≤ 6) (hse : ∀ i, i < sn → (se i).1 < nt) (hn : nt ≤ 8) (hr : rc_R I (z + 46) nt y) (h8 : ∀ t, t < nt → y t 0 = 3 → y t 8 ≠ -9) (hQ : ∀ r I', (r = (if ab_ag2 y se sn = true then 1 else 0) ∧ I' = I) → Q (some (.int r)) n sh I' R) : mv_E l D b0 m5_agreesWithSeen (mv_rm 1) Q 0 [.ref z, .null, .null] [] 0 0 n sh I R := by
  have loop : ∀ (f c : Nat) (v : Value), c + f = sn → ab_ag2 y se c = true → mv_E l D b0 m5_agreesWithSeen (mv_rm 1) Q 2 [.ref z, .int (nI c), v] [] 0 0 n sh I R := by
    intro f
    induction f with
    | zero =>
      intro c v hc ha
      have : c = sn := by omega
      subst this
      refine mv_iload_n (pc := 2) dX5_agreesWithSeen_2 rfl ?_
      refine mv_aload_n (pc := 3) dX5_agreesWithSeen_3 rfl ?_
      refine mv_getIx (pc := 4) (x := nI c) dX5_agreesWithSeen_4 fl5_75 rfl (congrArg Prod.fst hz.o) h.1 ?_
      refine mv_icmp_ge (pc := 7) (tgt := 56) dX5_agreesWithSeen_7 (by decide) (fun hb => ?_) (fun hb => ?_)
      · refine mv_iconst (pc := 56) (v := 1) dX5_agreesWithSeen_56 (by decide) ?_
        exact mv_zret (pc := 57) dX5_agreesWithSeen_57 rfl (by rfl) (by decide) (by decide) (hQ _ _ ⟨by rw [if_pos ha], rfl⟩)
      · exact absurd (Int32.le_refl _) hb
    | succ f ih =>
      intro c v hc ha
      have hcs : c < sn := by omega
      obtain ⟨a1, a2, a3⟩ := h.2 c hcs
      have ea : ab_ag2 y se (c + 1) = true ↔ (if y (se c).1 0 = 3 ∧ y (se c).1 8 ≤ nI (se c).2.1 then 1 else 0) = nI (se c).2.2 := by
        show (ab_ag2 y se c && ab_ok2 y (se c)) = true ↔ _
        rw [ha, Bool.true_and]
        unfold ab_ok2
        exact decide_eq_true_iff
      refine mv_iload_n (pc := 2) dX5_agreesWithSeen_2 rfl ?_
      refine mv_aload_n (pc := 3) dX5_agreesWithSeen_3 rfl ?_
      refine mv_getIx (pc := 4) (x := nI sn) dX5_agreesWithSeen_4 fl5_75 rfl (congrArg Prod.fst hz.o) h.1 ?_
      refine mv_icmp_ge (pc := 7) (tgt := 56) dX5_agreesWithSeen_7 (by decide) (fun hb => ?_) (fun hb => ?_)
      · exact absurd hb (nI_ge (by omega) (by omega))
      · refine mv_aload_n (pc := 10) dX5_agreesWithSeen_10 rfl ?_
        refine mv_getR (pc := 11) (q := (z + 46)) dX5_agreesWithSeen_11 fl5_47 (fun _ _ => rfl) (congrArg Prod.fst hz.o) hz.f6 ?_
        refine mv_aload_n (pc := 14) dX5_agreesWithSeen_14 rfl ?_
        refine mv_getR (pc := 15) (q := (z + 245)) dX5_agreesWithSeen_15 fl5_65 (fun _ _ => rfl) (congrArg Prod.fst hz.o) hz.f10 ?_
        refine mv_iload_n (pc := 18) dX5_agreesWithSeen_18 rfl ?_
        refine mv_ialdx (pc := 19) (x := nI (se c).1) (k := c) dX5_agreesWithSeen_19 hz.s0 rfl (by omega) a1 ?_
        refine mv_aload_n (pc := 20) dX5_agreesWithSeen_20 rfl ?_
        refine mv_getR (pc := 21) (q := (z + 246)) dX5_agreesWithSeen_21 fl5_69 (fun _ _ => rfl) (congrArg Prod.fst hz.o) hz.f11 ?_
        refine mv_iload_n (pc := 24) dX5_agreesWithSeen_24 rfl ?_
        refine mv_ialdx (pc := 25) (x := nI (se c).2.1) (k := c) dX5_agreesWithSeen_25 hz.s1 rfl (by omega) a2 ?_
        refine mv_cVi (pc := 26) dX5_agreesWithSeen_26 lk5_199 (congrArg Prod.fst hz.tr.o) (c3_hadEndedBy (t := (se c).1) (w := nI (se c).2.1) hz.tr hr hn (hse c hcs) (h8 _ (hse c hcs))) rfl rfl (Nat.le_of_ble_eq_true rfl) (by decide) (by decide) (fun r J ⟨e1, e2⟩ => ?_)
        have cmp : ∀ a : Int32, a = r → mv_E l D b0 m5_agreesWithSeen (mv_rm 1) Q 37 [.ref z, .int (nI c), v] [.int a] 0 0 n sh J R := by
          intro a har
          subst e1 e2
          refine mv_istore_n (pc := 37) dX5_agreesWithSeen_37 (by decide) ?_
          refine mv_iload_n (pc := 38) dX5_agreesWithSeen_38 rfl ?_
          refine mv_aload_n (pc := 39) dX5_agreesWithSeen_39 rfl ?_
          refine mv_getR (pc := 40) (q := (z + 247)) dX5_agreesWithSeen_40 fl5_72 (fun _ _ => rfl) (congrArg Prod.fst hz.o) hz.f12 ?_
          refine mv_iload_n (pc := 43) dX5_agreesWithSeen_43 rfl ?_
          refine mv_ialdx (pc := 44) (x := nI (se c).2.2) (k := c) dX5_agreesWithSeen_44 hz.s2 rfl (by omega) a3 ?_
          refine mv_icmp_eq (pc := 45) (tgt := 50) dX5_agreesWithSeen_45 (by decide) (fun hb2 => ?_) (fun hb2 => ?_)
          · refine mv_iinc (pc := 50) (v := nI (c + 1)) dX5_agreesWithSeen_50 (by decide) rfl (nI_1 c) ?_
            refine mv_goto (pc := 53) (tgt := 2) dX5_agreesWithSeen_53 (by decide) ?_
            exact ih (c + 1) _ (by omega) (ea.mpr (har ▸ hb2))
          · refine mv_iconst (pc := 48) (v := 0) dX5_agreesWithSeen_48 (by decide) ?_
            refine mv_zret (pc := 49) dX5_agreesWithSeen_49 rfl (by rfl) (by decide) (by decide) (hQ _ _ ⟨?_, rfl⟩)
            rw [if_neg]
            intro q
            have hno : ¬ ab_ag2 y se (c + 1) = true := fun q2 => hb2 (har.trans (ea.mp q2))
            have := ab_ag2_no hno (sn - (c + 1))
            rw [show c + 1 + (sn - (c + 1)) = sn by omega] at this
            exact this q
        by_cases q : y (se c).1 0 = 3 ∧ y (se c).1 8 ≤ nI (se c).2.1
        · rw [if_pos q] at e1
          rw [e1] at cmp ⊢
          refine mv_if_eq (pc := 29) (tgt := 36) dX5_agreesWithSeen_29 (by decide) (fun hb => absurd hb (by decide)) (fun _ => ?_)
          refine mv_iconst (pc := 32) (v := 1) dX5_agreesWithSeen_32 (by decide) ?_
          refine mv_goto (pc := 33) (tgt := 37) dX5_agreesWithSeen_33 (by decide) ?_
          exact cmp _ rfl
        · rw [if_neg q] at e1
          rw [e1] at cmp ⊢
          refine mv_if_eq (pc := 29) (tgt := 36) dX5_agreesWithSeen_29 (by decide) (fun _ => ?_) (fun hb => absurd hb (by decide))
          refine mv_iconst (pc := 36) (v := 0) dX5_agreesWithSeen_36 (by decide) ?_
          exact cmp _ rfl
  refine mv_iconst (pc := 0) (v := 0) dX5_agreesWithSeen_0 (by decide) ?_
  refine mv_istore_n (pc := 1) dX5_agreesWithSeen_1 (by decide) ?_
  exact loop sn 0 _ (by omega) rfl
theorem c5_agreesWithSeen {l : Launch} {D : va_G} {b0 n : Nat} {sh : mv_Sh} {I : mv_I} {R : mv_R} {z nt sn : Nat} {y : xs_X} {se : Nat → Nat × Nat × Nat} (hz : ly_ST sh R z) (h : gc_N I z sn se) (hsn : sn ≤ 6) (hse : ∀ i, i < sn → (se i).1 < nt) (hn : nt ≤ 8) (hr : rc_R I (z + 46) nt y) (h8 : ∀ t, t < nt → y t 0 = 3 → y t 8 ≠ -9) : mv_C l D b0 m5_agreesWithSeen (mv_rm 1) [.ref z] n sh I R (mv_Pi n sh R (fun r I' => r = (if ab_ag2 y se sn = true then 1 else 0) ∧ I' = I)) := mv_C.of 2 (by decide) (by simp [Value.category]) rfl (e5_agreesWithSeen hz h hsn hse hn hr h8 (fun _ _ h => mv_Pi.mk h))
theorem gc_tr3 {nt t : Nat} {π y : xs_X} (h : xs_W nt π y) (ht : t < nt) : y t 0 = 3 ↔ y t 8 ≠ -9 := by
  obtain ⟨a, h1, h2, -, h4⟩ := (h.2.2.2 t ht).1
  rw [h2]
  constructor
  · intro q
    exact h4.mp ((nI_eq (b := 3) (by omega) (by decide)).mp q)
  · intro q
    rw [h4.mpr q]; rfl
set_option maxHeartbeats 4000000 in
set_option maxRecDepth 100000 in
theorem e5_ends {l : Launch} {D : va_G} {b0 n : Nat} {sh : mv_Sh} {I : mv_I} {R : mv_R} {Q : mv_Q} {w : Nat → Int32} {L nt uh sn : Nat} {π x : xs_X} {us : Nat → xs_X} {kp : Nat → Option xs_X} {se : Nat → Nat × Nat × Nat} {z : Nat} {v k : Int32} (hz : ly_ST sh R z) (hS : gc_S I z (w, L, nt, π, x, uh, us, kp, sn, se)) (hW : ab_W (w, L, nt, π, x, uh, us, kp, sn, se)) (hQ : ∀ r I' R', (gc_P sh z I R (ab_ends v k (w, L, nt, π, x, uh, us, kp, sn, se), (w, L, nt, π, x, uh, us, kp, sn, se)) r I' R') → Q (some (.int r)) n sh I' R') : mv_E l D b0 m5_ends (mv_rm 7) Q 0 [.ref z, .int v, .int k] [] 0 0 n sh I R := by
  obtain ⟨-, hpw, ⟨hX, τ, hτ9, hτ⟩, huh, -, -, -, -⟩ := id hW
  have hn := hpw.2.1
  have hx := hS.2.2.1
  have no : (¬ ab_is nt v ∨ ¬ (0 ≤ k ∧ k ≤ 1)) → mv_E l D b0 m5_ends (mv_rm 7) Q 17 [.ref z, .int v, .int k] [] 0 0 n sh I R := by
    intro q
    refine mv_iconst (pc := 17) (v := -1) dX5_ends_17 (by decide) ?_
    exact mv_iret (pc := 18) dX5_ends_18 rfl (by decide) (by decide) (hQ _ _ _ ⟨(if_pos q).symm, hS, fun _ _ => rfl, hz, fun _ _ => rfl⟩)
  refine mv_aload_n (pc := 0) dX5_ends_0 rfl ?_
  refine mv_iload_n (pc := 1) dX5_ends_1 rfl ?_
  refine mv_cVi (pc := 2) dX5_ends_2 lk5_118 (congrArg Prod.fst hz.o) (c5_isTask hz hS.2.1.1) rfl rfl (Nat.le_of_ble_eq_true rfl) (by decide) (by decide) (fun r J ⟨e1, e2⟩ => ?_)
  subst e1 e2
  by_cases hv : ab_is nt v
  · rw [if_pos hv]
    obtain ⟨t, ht, rfl⟩ := ab_is_n hv hn
    have ht8 : t < 8 := by omega
    refine mv_if_eq (pc := 5) (tgt := 17) dX5_ends_5 (by decide) (fun hb => absurd hb (by decide)) (fun _ => ?_)
    refine mv_iload_n (pc := 8) dX5_ends_8 rfl ?_
    refine mv_if_lt (pc := 9) (tgt := 17) dX5_ends_9 (by decide) (fun hb => ?_) (fun hb => ?_)
    · exact no (Or.inr (fun q => absurd q.1 (Int32.not_le.mpr hb)))
    · refine mv_iload_n (pc := 12) dX5_ends_12 rfl ?_
      refine mv_iconst (pc := 13) (v := 1) dX5_ends_13 (by decide) ?_
      refine mv_icmp_le (pc := 14) (tgt := 19) dX5_ends_14 (by decide) (fun hb2 => ?_) (fun hb2 => ?_)
      · have hk : 0 ≤ k ∧ k ≤ 1 := ⟨Int32.not_lt.mp hb, hb2⟩
        have e0 : ab_ends (nI t) k (w, L, nt, π, x, uh, us, kp, sn, se) = if xs_go nt π 0 200 x t 0 = 3 then (if k = 0 then xs_go nt π 0 200 x t 8 else xs_go nt π 0 200 x t 1) else -9 := by
          refine (if_neg (fun q => q.elim (fun a => a hv) (fun a => a hk))).trans ?_
          rw [nI_clamp (by omega)]
        obtain ⟨g1, g2⟩ := xs_go_t (π := π) ht8 hpw 200 x
        have hz2 := hz.up (v := some (z + 3))
        refine mv_aload_n (pc := 19) dX5_ends_19 rfl ?_
        refine mv_getR (pc := 20) (q := (z + 46)) dX5_ends_20 fl5_47 (fun _ _ => rfl) (congrArg Prod.fst hz.o) hz.f6 ?_
        refine mv_aload_n (pc := 23) dX5_ends_23 rfl ?_
        refine mv_getR (pc := 24) (q := (z + 31)) dX5_ends_24 fl5_43 (fun _ _ => rfl) (congrArg Prod.fst hz.o) hz.f5 ?_
        refine mv_cVvR (pc := 27) dX5_ends_27 lk5_163 (congrArg Prod.fst hz.tr.o) (c3_copyFrom hz.tr hz.no (by omega) hz.nop) rfl rfl (Nat.le_of_ble_eq_true rfl) (by decide) (by decide) (fun J3 ⟨hc3, hf3⟩ => ?_)
        have hr3 : rc_R J3 (z + 46) nt x := hx.cp hn hc3
        have hp3 : pl_C J3 (z + 3) nt π := hS.2.1.eq (fun b b1 b2 => hf3 b (by omega))
        refine mv_aload_n (pc := 30) dX5_ends_30 rfl ?_
        refine mv_getR (pc := 31) (q := (z + 46)) dX5_ends_31 fl5_47 (fun _ _ => rfl) (congrArg Prod.fst hz2.o) hz2.f6 ?_
        refine mv_iload_n (pc := 34) dX5_ends_34 rfl ?_
        refine mv_sipush (pc := 35) (v := 200) dX5_ends_35 (by decide) ?_
        refine mv_cVi (pc := 38) dX5_ends_38 lk5_165 (congrArg Prod.fst hz2.tr.o) (c3_passUntilEnded (q := z + 3) (m := 200) ⟨hz2.tr, hz2.to, mv_upe, by omega, hp3, hpw⟩ hr3 hX ht hτ (by omega)) rfl rfl (Nat.le_of_ble_eq_true rfl) (by decide) (by decide) (fun r J4 ⟨e1, hr4, hf4⟩ => ?_)
        have hX4 := xs_W.go (t := t) hpw 200 τ x hX hτ (by omega)
        have hF : ∀ b, (b < z + 46 ∨ z + 61 ≤ b) → J4 b = J b := fun b hb => (hf4 b (by omega)).trans (hf3 b (by omega))
        have hS4 := hS.tried (I' := J4) (fun b b1 b2 => hF b b2)
        have ok : ∀ r, r = ab_ends (nI t) k (w, L, nt, π, x, uh, us, kp, sn, se) → Q (some (.int r)) n sh J4 (mv_up R (z + 46) 0 (some (z + 3))) := fun r h => hQ r _ _ ⟨h, hS4, fun b hb => hF b (by omega), hz2, fun b hb => mv_upN b (by omega)⟩
        rw [e0] at ok
        subst e1
        by_cases h3 : xs_go nt π t 200 x t 0 = 3
        · rw [if_pos h3]
          rw [if_pos (g1.mp h3), ← (g2 h3).1, ← (g2 h3).2] at ok
          have hend : J4 (z + 46 + 4) t = xs_go nt π t 200 x t 8 := ((hr4.2.1 t ht).2.1).elim (fun q => absurd q ((gc_tr3 hX4 ht).mp h3)) id
          refine mv_if_ne (pc := 41) (tgt := 47) dX5_ends_41 (by decide) (fun _ => ?_) (fun hb => absurd hb (by decide))
          refine mv_iload_n (pc := 47) dX5_ends_47 rfl ?_
          refine mv_if_ne (pc := 48) (tgt := 63) dX5_ends_48 (by decide) (fun hb3 => ?_) (fun hb3 => ?_)
          · refine mv_aload_n (pc := 63) dX5_ends_63 rfl ?_
            refine mv_getR (pc := 64) (q := (z + 46)) dX5_ends_64 fl5_47 (fun _ _ => rfl) (congrArg Prod.fst hz2.o) hz2.f6 ?_
            refine mv_getR (pc := 67) (q := (z + 46) + 2) dX5_ends_67 fl5_134 (fun _ _ => rfl) (congrArg Prod.fst hz2.tr.o) hz2.tr.f3 ?_
            refine mv_iload_n (pc := 70) dX5_ends_70 rfl ?_
            refine mv_ialdx (pc := 71) (x := xs_go nt π t 200 x t 1) (k := t) dX5_ends_71 hz2.tr.g3 rfl (by omega) ((hr4.2.1 t ht).1 1 (by decide)) ?_
            refine mv_iret (pc := 72) dX5_ends_72 rfl (by decide) (by decide) (ok _ ?_)
            rw [if_neg hb3]
          · refine mv_aload_n (pc := 51) dX5_ends_51 rfl ?_
            refine mv_getR (pc := 52) (q := (z + 46)) dX5_ends_52 fl5_47 (fun _ _ => rfl) (congrArg Prod.fst hz2.o) hz2.f6 ?_
            refine mv_getR (pc := 55) (q := (z + 46) + 4) dX5_ends_55 fl5_169 (fun _ _ => rfl) (congrArg Prod.fst hz2.tr.o) hz2.tr.f5 ?_
            refine mv_iload_n (pc := 58) dX5_ends_58 rfl ?_
            refine mv_ialdx (pc := 59) (x := xs_go nt π t 200 x t 8) (k := t) dX5_ends_59 hz2.tr.g5 rfl (by omega) hend ?_
            refine mv_goto (pc := 60) (tgt := 72) dX5_ends_60 (by decide) ?_
            refine mv_iret (pc := 72) dX5_ends_72 rfl (by decide) (by decide) (ok _ ?_)
            rw [if_pos hb3]
        · rw [if_neg h3]
          refine mv_if_ne (pc := 41) (tgt := 47) dX5_ends_41 (by decide) (fun hb => absurd hb (by decide)) (fun _ => ?_)
          refine mv_bipush (pc := 44) (v := -9) dX5_ends_44 (by decide) ?_
          refine mv_iret (pc := 46) dX5_ends_46 rfl (by decide) (by decide) (ok _ ?_)
          rw [if_neg (fun q => h3 (g1.mpr q))]
      · exact no (Or.inr (fun q => hb2 q.2))
  · rw [if_neg hv]
    refine mv_if_eq (pc := 5) (tgt := 17) dX5_ends_5 (by decide) (fun _ => ?_) (fun hb => absurd hb (by decide))
    exact no (Or.inl hv)
theorem c5_ends {l : Launch} {D : va_G} {b0 n : Nat} {sh : mv_Sh} {I : mv_I} {R : mv_R} {w : Nat → Int32} {L nt uh sn : Nat} {π x : xs_X} {us : Nat → xs_X} {kp : Nat → Option xs_X} {se : Nat → Nat × Nat × Nat} {z : Nat} {v k : Int32} (hz : ly_ST sh R z) (hS : gc_S I z (w, L, nt, π, x, uh, us, kp, sn, se)) (hW : ab_W (w, L, nt, π, x, uh, us, kp, sn, se)) : mv_C l D b0 m5_ends (mv_rm 7) [.ref z, .int v, .int k] n sh I R (mv_PI n sh (fun r I' R' => gc_P sh z I R (ab_ends v k (w, L, nt, π, x, uh, us, kp, sn, se), (w, L, nt, π, x, uh, us, kp, sn, se)) r I' R')) := mv_C.of 0 (by decide) (by simp [Value.category]) rfl (e5_ends hz hS hW (fun _ _ _ h => mv_PI.mk h))
theorem xs_W.askd {nt t : Nat} {π x : xs_X} (hX : xs_W nt π x) (ht8 : t < 8) : xs_W nt π (mv_up x t 5 1) := by
  obtain ⟨a1, a2, a3, a4⟩ := hX
  have e8 : mv_up x t 5 1 8 = x 8 := mv_upN 8 (by omega)
  refine ⟨by rw [e8]; exact a1, by rw [e8]; exact a2, ?_, fun u hu => ?_⟩
  · rw [← a3]; simp [mv_up]
  · by_cases q : u = t
    · subst q
      have e : ∀ k, k ≠ 5 → mv_up x u 5 1 u k = x u k := fun k hk => by simp [mv_up, hk]
      obtain ⟨b1, b2, b3, b4, b5, b6, b7, b8⟩ := a4 u hu
      refine ⟨by rw [e 0 (by decide), e 4 (by decide), e 8 (by decide)]; exact b1, by rw [e 9 (by decide)]; exact b2, by rw [e 2 (by decide), e 3 (by decide)]; exact b3, Or.inr mv_upe, by rw [e 6 (by decide)]; exact b5, by rw [e 4 (by decide)]; exact b6, by rw [e 8 (by decide)]; exact b7, by rw [e 7 (by decide)]; exact b8⟩
    · rw [mv_upN u q]; exact a4 u hu
set_option maxHeartbeats 4000000 in
set_option maxRecDepth 100000 in
theorem e5_spares {l : Launch} {D : va_G} {b0 n : Nat} {sh : mv_Sh} {I : mv_I} {R : mv_R} {Q : mv_Q} {w : Nat → Int32} {L nt uh sn : Nat} {π x : xs_X} {us : Nat → xs_X} {kp : Nat → Option xs_X} {se : Nat → Nat × Nat × Nat} {z : Nat} {v : Int32} (hz : ly_ST sh R z) (hS : gc_S I z (w, L, nt, π, x, uh, us, kp, sn, se)) (hW : ab_W (w, L, nt, π, x, uh, us, kp, sn, se)) (hQ : ∀ r I' R', (gc_P sh z I R (ab_spares v (w, L, nt, π, x, uh, us, kp, sn, se), (w, L, nt, π, x, uh, us, kp, sn, se)) r I' R') → Q (some (.int r)) n sh I' R') : mv_E l D b0 m5_spares (mv_rm 7) Q 0 [.ref z, .int v, .null] [] 0 0 n sh I R := by
  obtain ⟨-, hpw, ⟨hX, τ, hτ9, hτ⟩, huh, -, -, -, -⟩ := id hW
  have hn := hpw.2.1
  have hn1 := hpw.1
  have hx := hS.2.2.1
  have no : (¬ ab_is nt v ∨ ¬ x v.toNatClampNeg 0 = 1) → mv_E l D b0 m5_spares (mv_rm 7) Q 21 [.ref z, .int v, .null] [] 0 0 n sh I R := by
    intro q
    refine mv_ldc (pc := 21) dX5_spares_21 kc5_176 ?_
    exact mv_iret (pc := 23) dX5_spares_23 rfl (by decide) (by decide) (hQ _ _ _ ⟨(if_pos q).symm, hS, fun _ _ => rfl, hz, fun _ _ => rfl⟩)
  refine mv_aload_n (pc := 0) dX5_spares_0 rfl ?_
  refine mv_iload_n (pc := 1) dX5_spares_1 rfl ?_
  refine mv_cVi (pc := 2) dX5_spares_2 lk5_118 (congrArg Prod.fst hz.o) (c5_isTask hz hS.2.1.1) rfl rfl (Nat.le_of_ble_eq_true rfl) (by decide) (by decide) (fun r J ⟨e1, e2⟩ => ?_)
  subst e1 e2
  by_cases hv : ab_is nt v
  · rw [if_pos hv]
    obtain ⟨t, ht, rfl⟩ := ab_is_n hv hn
    have ht8 : t < 8 := by omega
    have ecl : (nI t).toNatClampNeg = t := nI_clamp (by omega)
    rw [ecl] at no
    refine mv_if_eq (pc := 5) (tgt := 21) dX5_spares_5 (by decide) (fun hb => absurd hb (by decide)) (fun _ => ?_)
    refine mv_aload_n (pc := 8) dX5_spares_8 rfl ?_
    refine mv_getR (pc := 9) (q := (z + 31)) dX5_spares_9 fl5_43 (fun _ _ => rfl) (congrArg Prod.fst hz.o) hz.f5 ?_
    refine mv_getR (pc := 12) (q := (z + 31) + 1) dX5_spares_12 fl5_105 (fun _ _ => rfl) (congrArg Prod.fst hz.no.o) hz.no.f2 ?_
    refine mv_iload_n (pc := 15) dX5_spares_15 rfl ?_
    refine mv_ialdx (pc := 16) (x := x t 0) (k := t) dX5_spares_16 hz.no.g2 rfl (by omega) ((hx.2.1 t ht).1 0 (by decide)) ?_
    refine mv_iconst (pc := 17) (v := 1) dX5_spares_17 (by decide) ?_
    refine mv_icmp_eq (pc := 18) (tgt := 24) dX5_spares_18 (by decide) (fun h1 => ?_) (fun h1 => ?_)
    · have e0 : ab_spares (nI t) (w, L, nt, π, x, uh, us, kp, sn, se) = if xs_go nt π 0 200 x 0 8 = -9 ∨ xs_go nt π 0 200 (mv_up x t 5 1) 0 8 = -9 then -1000000 else xs_go nt π 0 200 x 0 8 - xs_go nt π 0 200 (mv_up x t 5 1) 0 8 := by
        refine (if_neg (fun q => q.elim (fun a => a hv) (fun a => a (by rw [ecl]; exact h1)))).trans ?_
        rw [ecl]
      rw [e0] at hQ
      have hz2 := hz.up (v := some (z + 3))
      have hz3 := hz2.up (v := some (z + 3))
      have hXa := hX.askd ht8
      have hτa : mv_up x t 5 1 8 0 = nI τ := by rw [mv_upN 8 (by omega)]; exact hτ
      refine mv_aload_n (pc := 24) dX5_spares_24 rfl ?_
      refine mv_getR (pc := 25) (q := (z + 46)) dX5_spares_25 fl5_47 (fun _ _ => rfl) (congrArg Prod.fst hz.o) hz.f6 ?_
      refine mv_aload_n (pc := 28) dX5_spares_28 rfl ?_
      refine mv_getR (pc := 29) (q := (z + 31)) dX5_spares_29 fl5_43 (fun _ _ => rfl) (congrArg Prod.fst hz.o) hz.f5 ?_
      refine mv_cVvR (pc := 32) dX5_spares_32 lk5_163 (congrArg Prod.fst hz.tr.o) (c3_copyFrom hz.tr hz.no (by omega) hz.nop) rfl rfl (Nat.le_of_ble_eq_true rfl) (by decide) (by decide) (fun J3 ⟨hc3, hf3⟩ => ?_)
      have hr3 : rc_R J3 (z + 46) nt x := hx.cp hn hc3
      have hp3 : pl_C J3 (z + 3) nt π := hS.2.1.eq (fun b b1 b2 => hf3 b (by omega))
      refine mv_aload_n (pc := 35) dX5_spares_35 rfl ?_
      refine mv_getR (pc := 36) (q := (z + 46)) dX5_spares_36 fl5_47 (fun _ _ => rfl) (congrArg Prod.fst hz2.o) hz2.f6 ?_
      refine mv_iconst (pc := 39) (v := 0) dX5_spares_39 (by decide) ?_
      refine mv_sipush (pc := 40) (v := 200) dX5_spares_40 (by decide) ?_
      refine mv_cVi (pc := 43) dX5_spares_43 lk5_165 (congrArg Prod.fst hz2.tr.o) (c3_passUntilEnded (q := z + 3) (t := 0) (m := 200) ⟨hz2.tr, hz2.to, mv_upe, by omega, hp3, hpw⟩ hr3 hX hn1 hτ (by omega)) rfl rfl (Nat.le_of_ble_eq_true rfl) (by decide) (by decide) (fun r J4 ⟨e1, hr4, hf4⟩ => ?_)
      have hX4 := xs_W.go (t := 0) hpw 200 τ x hX hτ (by omega)
      have hF4 : ∀ b, (b < z + 46 ∨ z + 61 ≤ b) → J4 b = J b := fun b hb => (hf4 b (by omega)).trans (hf3 b (by omega))
      have hS4 := hS.tried (I' := J4) (fun b b1 b2 => hF4 b b2)
      subst e1
      by_cases h3 : xs_go nt π 0 200 x 0 0 = 3
      · rw [if_pos h3]
        have h38 := (gc_tr3 hX4 hn1).mp h3
        have hend : J4 (z + 46 + 4) 0 = xs_go nt π 0 200 x 0 8 := ((hr4.2.1 0 hn1).2.1).elim (fun q => absurd q h38) id
        refine mv_if_ne (pc := 46) (tgt := 52) dX5_spares_46 (by decide) (fun _ => ?_) (fun hb => absurd hb (by decide))
        refine mv_aload_n (pc := 52) dX5_spares_52 rfl ?_
        refine mv_getR (pc := 53) (q := (z + 46)) dX5_spares_53 fl5_47 (fun _ _ => rfl) (congrArg Prod.fst hz2.o) hz2.f6 ?_
        refine mv_getR (pc := 56) (q := (z + 46) + 4) dX5_spares_56 fl5_169 (fun _ _ => rfl) (congrArg Prod.fst hz2.tr.o) hz2.tr.f5 ?_
        refine mv_iconst (pc := 59) (v := 0) dX5_spares_59 (by decide) ?_
        refine mv_ialdx (pc := 60) (x := xs_go nt π 0 200 x 0 8) (k := 0) dX5_spares_60 hz2.tr.g5 (by decide) (by omega) hend ?_
        refine mv_istore_n (pc := 61) dX5_spares_61 (by decide) ?_
        refine mv_aload_n (pc := 62) dX5_spares_62 rfl ?_
        refine mv_getR (pc := 63) (q := (z + 46)) dX5_spares_63 fl5_47 (fun _ _ => rfl) (congrArg Prod.fst hz2.o) hz2.f6 ?_
        refine mv_aload_n (pc := 66) dX5_spares_66 rfl ?_
        refine mv_getR (pc := 67) (q := (z + 31)) dX5_spares_67 fl5_43 (fun _ _ => rfl) (congrArg Prod.fst hz2.o) hz2.f5 ?_
        refine mv_cVvR (pc := 70) dX5_spares_70 lk5_163 (congrArg Prod.fst hz2.tr.o) (c3_copyFrom hz2.tr hz2.no (by omega) hz2.nop) rfl rfl (Nat.le_of_ble_eq_true rfl) (by decide) (by decide) (fun J5 ⟨hc5, hf5⟩ => ?_)
        have hr5 : rc_R J5 (z + 46) nt x := (hS4.2.2.1).cp hn hc5
        have hr6 := rc_set (v := 1) 5 hr5 (by decide) (by decide) ht hn
        refine mv_aload_n (pc := 73) dX5_spares_73 rfl ?_
        refine mv_getR (pc := 74) (q := (z + 46)) dX5_spares_74 fl5_47 (fun _ _ => rfl) (congrArg Prod.fst hz3.o) hz3.f6 ?_
        refine mv_getR (pc := 77) (q := (z + 46) + 9) dX5_spares_77 fl5_121 (fun _ _ => rfl) (congrArg Prod.fst hz3.tr.o) hz3.tr.f10 ?_
        refine mv_iload_n (pc := 80) dX5_spares_80 rfl ?_
        refine mv_iconst (pc := 81) (v := 1) dX5_spares_81 (by decide) ?_
        refine mv_iast (pc := 82) (k := t) dX5_spares_82 hz3.tr.g10 rfl (by omega) ?_
        refine mv_aload_n (pc := 83) dX5_spares_83 rfl ?_
        refine mv_getR (pc := 84) (q := (z + 46)) dX5_spares_84 fl5_47 (fun _ _ => rfl) (congrArg Prod.fst hz3.o) hz3.f6 ?_
        refine mv_iconst (pc := 87) (v := 0) dX5_spares_87 (by decide) ?_
        refine mv_sipush (pc := 88) (v := 200) dX5_spares_88 (by decide) ?_
        have hF6 : ∀ b, (b < z + 46 ∨ z + 61 ≤ b) → mv_up J5 (z + 46 + 9) t 1 b = J b := fun b hb => by rw [mv_upN b (by omega), hf5 b (by omega), hF4 b hb]
        have hp6 : pl_C (mv_up J5 (z + 46 + 9) t 1) (z + 3) nt π := hS.2.1.eq (fun b b1 b2 => hF6 b (by omega))
        refine mv_cVi (pc := 91) dX5_spares_91 lk5_165 (congrArg Prod.fst hz3.tr.o) (c3_passUntilEnded (q := z + 3) (t := 0) (m := 200) ⟨hz3.tr, hz3.to, mv_upe, by omega, hp6, hpw⟩ hr6 hXa hn1 hτa (by omega)) rfl rfl (Nat.le_of_ble_eq_true rfl) (by decide) (by decide) (fun r J7 ⟨e1, hr7, hf7⟩ => ?_)
        have hX7 := xs_W.go (t := 0) hpw 200 τ _ hXa hτa (by omega)
        have hF7 : ∀ b, (b < z + 46 ∨ z + 61 ≤ b) → J7 b = J b := fun b hb => (hf7 b (by omega)).trans (hF6 b hb)
        have hS7 := hS.tried (I' := J7) (fun b b1 b2 => hF7 b b2)
        have ok : ∀ r, r = (if xs_go nt π 0 200 x 0 8 = -9 ∨ xs_go nt π 0 200 (mv_up x t 5 1) 0 8 = -9 then -1000000 else xs_go nt π 0 200 x 0 8 - xs_go nt π 0 200 (mv_up x t 5 1) 0 8) → Q (some (.int r)) n sh J7 (mv_up (mv_up R (z + 46) 0 (some (z + 3))) (z + 46) 0 (some (z + 3))) := fun r h => hQ r _ _ ⟨h, hS7, fun b hb => hF7 b (by omega), hz3, fun b hb => by rw [mv_upN b (by omega), mv_upN b (by omega)]⟩
        subst e1
        by_cases h5 : xs_go nt π 0 200 (mv_up x t 5 1) 0 0 = 3
        · rw [if_pos h5]
          have h58 := (gc_tr3 hX7 hn1).mp h5
          have hend2 : J7 (z + 46 + 4) 0 = xs_go nt π 0 200 (mv_up x t 5 1) 0 8 := ((hr7.2.1 0 hn1).2.1).elim (fun q => absurd q h58) id
          refine mv_if_ne (pc := 94) (tgt := 100) dX5_spares_94 (by decide) (fun _ => ?_) (fun hb => absurd hb (by decide))
          refine mv_iload_n (pc := 100) dX5_spares_100 rfl ?_
          refine mv_aload_n (pc := 101) dX5_spares_101 rfl ?_
          refine mv_getR (pc := 102) (q := (z + 46)) dX5_spares_102 fl5_47 (fun _ _ => rfl) (congrArg Prod.fst hz3.o) hz3.f6 ?_
          refine mv_getR (pc := 105) (q := (z + 46) + 4) dX5_spares_105 fl5_169 (fun _ _ => rfl) (congrArg Prod.fst hz3.tr.o) hz3.tr.f5 ?_
          refine mv_iconst (pc := 108) (v := 0) dX5_spares_108 (by decide) ?_
          refine mv_ialdx (pc := 109) (x := xs_go nt π 0 200 (mv_up x t 5 1) 0 8) (k := 0) dX5_spares_109 hz3.tr.g5 (by decide) (by omega) hend2 ?_
          refine mv_isub (pc := 110) dX5_spares_110 ?_
          refine mv_iret (pc := 111) dX5_spares_111 rfl (by decide) (by decide) (ok _ ?_)
          rw [if_neg (fun q => q.elim h38 h58)]
        · rw [if_neg h5]
          refine mv_if_ne (pc := 94) (tgt := 100) dX5_spares_94 (by decide) (fun hb => absurd hb (by decide)) (fun _ => ?_)
          refine mv_ldc (pc := 97) dX5_spares_97 kc5_176 ?_
          refine mv_iret (pc := 99) dX5_spares_99 rfl (by decide) (by decide) (ok _ ?_)
          rw [if_pos (Or.inr (Classical.byContradiction fun q => h5 ((gc_tr3 hX7 hn1).mpr q)))]
      · rw [if_neg h3]
        refine mv_if_ne (pc := 46) (tgt := 52) dX5_spares_46 (by decide) (fun hb => absurd hb (by decide)) (fun _ => ?_)
        refine mv_ldc (pc := 49) dX5_spares_49 kc5_176 ?_
        refine mv_iret (pc := 51) dX5_spares_51 rfl (by decide) (by decide) (hQ _ _ _ ⟨?_, hS4, fun b hb => hF4 b (by omega), hz2, fun b hb => mv_upN b (by omega)⟩)
        exact (if_pos (Or.inl (Classical.byContradiction fun q => h3 ((gc_tr3 hX4 hn1).mpr q)))).symm
    · exact no (Or.inr h1)
  · rw [if_neg hv]
    refine mv_if_eq (pc := 5) (tgt := 21) dX5_spares_5 (by decide) (fun _ => ?_) (fun hb => absurd hb (by decide))
    exact no (Or.inl hv)
theorem c5_spares {l : Launch} {D : va_G} {b0 n : Nat} {sh : mv_Sh} {I : mv_I} {R : mv_R} {w : Nat → Int32} {L nt uh sn : Nat} {π x : xs_X} {us : Nat → xs_X} {kp : Nat → Option xs_X} {se : Nat → Nat × Nat × Nat} {z : Nat} {v : Int32} (hz : ly_ST sh R z) (hS : gc_S I z (w, L, nt, π, x, uh, us, kp, sn, se)) (hW : ab_W (w, L, nt, π, x, uh, us, kp, sn, se)) : mv_C l D b0 m5_spares (mv_rm 7) [.ref z, .int v] n sh I R (mv_PI n sh (fun r I' R' => gc_P sh z I R (ab_spares v (w, L, nt, π, x, uh, us, kp, sn, se), (w, L, nt, π, x, uh, us, kp, sn, se)) r I' R')) := mv_C.of 1 (by decide) (by simp [Value.category]) rfl (e5_spares hz hS hW (fun _ _ _ h => mv_PI.mk h))
set_option maxHeartbeats 4000000 in
set_option maxRecDepth 100000 in
theorem e5_wellBy {l : Launch} {D : va_G} {b0 n : Nat} {sh : mv_Sh} {I : mv_I} {R : mv_R} {Q : mv_Q} {w : Nat → Int32} {L nt uh sn : Nat} {π x : xs_X} {us : Nat → xs_X} {kp : Nat → Option xs_X} {se : Nat → Nat × Nat × Nat} {z : Nat} (hz : ly_ST sh R z) (hS : gc_S I z (w, L, nt, π, x, uh, us, kp, sn, se)) (hW : ab_W (w, L, nt, π, x, uh, us, kp, sn, se)) (hQ : ∀ r I' R', (gc_P sh z I R (ab_wellBy (w, L, nt, π, x, uh, us, kp, sn, se), (w, L, nt, π, x, uh, us, kp, sn, se)) r I' R') → Q (some (.int r)) n sh I' R') : mv_E l D b0 m5_wellBy (mv_rm 7) Q 0 [.ref z, .null] [] 0 0 n sh I R := by
  obtain ⟨-, hpw, -, -, -, -, -, -⟩ := id hW
  have hn := hpw.2.1
  have hn1 := hpw.1
  have e0 : ab_wellBy (w, L, nt, π, x, uh, us, kp, sn, se) = ab_wb nt π 60 1 := rfl
  rw [e0] at hQ
  have loop : ∀ (f d : Nat) (J : mv_I) (R2 : mv_R), d + f = 61 → 1 ≤ d → (∀ b, (b < z + 21 ∨ z + 30 ≤ b) → (b < z + 46 ∨ z + 61 ≤ b) → J b = I b) → ly_ST sh R2 z → (∀ b, z + 278 ≤ b → R2 b = R b) → ab_wb nt π f d = ab_wb nt π 60 1 → mv_E l D b0 m5_wellBy (mv_rm 7) Q 2 [.ref z, .int (nI d)] [] 0 0 n sh J R2 := by
    intro f
    induction f with
    | zero =>
      intro d J R2 hd hd1 hJ hz hR2 he
      have e9 : (-9 : Int32) = ab_wb nt π 60 1 := he
      refine mv_iload_n (pc := 2) dX5_wellBy_2 rfl ?_
      refine mv_bipush (pc := 3) (v := 60) dX5_wellBy_3 (by decide) ?_
      refine mv_icmp_gt (pc := 5) (tgt := 48) dX5_wellBy_5 (by decide) (fun hb => ?_) (fun hb => ?_)
      · refine mv_bipush (pc := 48) (v := -9) dX5_wellBy_48 (by decide) ?_
        exact mv_iret (pc := 50) dX5_wellBy_50 rfl (by decide) (by decide) (hQ _ _ _ ⟨e9, hS.tried (fun b b1 b2 => hJ b (by omega) b2), fun b hb => hJ b (by omega) (by omega), hz, hR2⟩)
      · exact absurd (nI_lt (a := 60) (b := d) (by omega) (by omega)) hb
    | succ f ih =>
      intro d J R2 hd hd1 hJ hz hR2 he
      have hS2 := hS.tried (I' := J) (fun b b1 b2 => hJ b (by omega) b2)
      have hpd := hpw.dl (t := 0) (d := d) hn1 hd1 (by omega)
      have hWs := xs_W.st hpd
      have hz2 := hz.up (v := some (z + 21))
      have ew : ab_wb nt π (f + 1) d = if ab_su nt π 0 d 200 0 0 = 3 ∧ ab_su nt π 0 d 200 0 1 = 0 then nI d else ab_wb nt π f (d + 1) := rfl
      refine mv_iload_n (pc := 2) dX5_wellBy_2 rfl ?_
      refine mv_bipush (pc := 3) (v := 60) dX5_wellBy_3 (by decide) ?_
      refine mv_icmp_gt (pc := 5) (tgt := 48) dX5_wellBy_5 (by decide) (fun hb => ?_) (fun hb => ?_)
      · exact absurd hb (nI_nlt (a := 60) (b := d) (by omega) (by decide))
      · refine mv_aload_n (pc := 8) dX5_wellBy_8 rfl ?_
        refine mv_iconst (pc := 9) (v := 0) dX5_wellBy_9 (by decide) ?_
        refine mv_iload_n (pc := 10) dX5_wellBy_10 rfl ?_
        refine mv_cVvR (pc := 11) dX5_wellBy_11 lk5_172 (congrArg Prod.fst hz.o) (c5_suppose (t := 0) hz hS2.2.1 hpw hn1 hd1 (by omega)) rfl rfl (Nat.le_of_ble_eq_true rfl) (by decide) (by decide) (fun J3 ⟨hp3, hr3, hf3⟩ => ?_)
        refine mv_aload_n (pc := 14) dX5_wellBy_14 rfl ?_
        refine mv_getR (pc := 15) (q := (z + 46)) dX5_wellBy_15 fl5_47 (fun _ _ => rfl) (congrArg Prod.fst hz2.o) hz2.f6 ?_
        refine mv_iconst (pc := 18) (v := 0) dX5_wellBy_18 (by decide) ?_
        refine mv_sipush (pc := 19) (v := 200) dX5_wellBy_19 (by decide) ?_
        refine mv_cVi (pc := 22) dX5_wellBy_22 lk5_165 (congrArg Prod.fst hz2.tr.o) (c3_passUntilEnded (q := z + 21) (t := 0) (m := 200) ⟨hz2.tr, hz2.sp, mv_upe, by omega, hp3, hpd⟩ hr3 hWs.1 hn1 hWs.2 (by omega)) rfl rfl (Nat.le_of_ble_eq_true rfl) (by decide) (by decide) (fun r J4 ⟨e1, hr4, hf4⟩ => ?_)
        have hF : ∀ b, (b < z + 21 ∨ z + 30 ≤ b) → (b < z + 46 ∨ z + 61 ≤ b) → J4 b = I b := fun b b1 b2 => by rw [hf4 b (by omega), hf3 b b1 b2, hJ b b1 b2]
        have hR3 : ∀ b, z + 278 ≤ b → mv_up R2 (z + 46) 0 (some (z + 21)) b = R b := fun b hb => by rw [mv_upN b (by omega)]; exact hR2 b hb
        have esu : xs_go nt (mv_up π 0 2 (nI d)) 0 200 (xs_st (mv_up π 0 2 (nI d) 0 2)) = ab_su nt π 0 d 200 := rfl
        rw [esu] at e1 hr4
        have no : ¬ (ab_su nt π 0 d 200 0 0 = 3 ∧ ab_su nt π 0 d 200 0 1 = 0) → mv_E l D b0 m5_wellBy (mv_rm 7) Q 42 [.ref z, .int (nI d)] [] 0 0 n sh J4 (mv_up R2 (z + 46) 0 (some (z + 21))) := by
          intro q
          refine mv_iinc (pc := 42) (v := nI (d + 1)) dX5_wellBy_42 (by decide) rfl (nI_1 d) ?_
          refine mv_goto (pc := 45) (tgt := 2) dX5_wellBy_45 (by decide) ?_
          exact ih (d + 1) J4 _ (by omega) (by omega) hF hz2 hR3 (by rw [← he, ew, if_neg q])
        subst e1
        by_cases q3 : ab_su nt π 0 d 200 0 0 = 3
        · rw [if_pos q3]
          refine mv_if_eq (pc := 25) (tgt := 42) dX5_wellBy_25 (by decide) (fun hb => absurd hb (by decide)) (fun _ => ?_)
          refine mv_aload_n (pc := 28) dX5_wellBy_28 rfl ?_
          refine mv_getR (pc := 29) (q := (z + 46)) dX5_wellBy_29 fl5_47 (fun _ _ => rfl) (congrArg Prod.fst hz2.o) hz2.f6 ?_
          refine mv_getR (pc := 32) (q := (z + 46) + 2) dX5_wellBy_32 fl5_134 (fun _ _ => rfl) (congrArg Prod.fst hz2.tr.o) hz2.tr.f3 ?_
          refine mv_iconst (pc := 35) (v := 0) dX5_wellBy_35 (by decide) ?_
          refine mv_ialdx (pc := 36) (x := ab_su nt π 0 d 200 0 1) (k := 0) dX5_wellBy_36 hz2.tr.g3 (by decide) (by omega) ((hr4.2.1 0 hn1).1 1 (by decide)) ?_
          refine mv_if_ne (pc := 37) (tgt := 42) dX5_wellBy_37 (by decide) (fun hb3 => ?_) (fun hb3 => ?_)
          · exact no (fun q => hb3 q.2)
          · refine mv_iload_n (pc := 40) dX5_wellBy_40 rfl ?_
            refine mv_iret (pc := 41) dX5_wellBy_41 rfl (by decide) (by decide) (hQ _ _ _ ⟨?_, hS.tried (fun b b1 b2 => hF b (by omega) b2), fun b hb => hF b (by omega) (by omega), hz2, hR3⟩)
            show nI d = ab_wb nt π 60 1
            rw [← he, ew, if_pos ⟨q3, hb3⟩]
        · rw [if_neg q3]
          refine mv_if_eq (pc := 25) (tgt := 42) dX5_wellBy_25 (by decide) (fun _ => ?_) (fun hb => absurd hb (by decide))
          exact no (fun q => q3 q.1)
  refine mv_iconst (pc := 0) (v := 1) dX5_wellBy_0 (by decide) ?_
  refine mv_istore_n (pc := 1) dX5_wellBy_1 (by decide) ?_
  exact loop 60 1 I R (by omega) (by omega) (fun b _ _ => rfl) hz (fun _ _ => rfl) rfl
theorem c5_wellBy {l : Launch} {D : va_G} {b0 n : Nat} {sh : mv_Sh} {I : mv_I} {R : mv_R} {w : Nat → Int32} {L nt uh sn : Nat} {π x : xs_X} {us : Nat → xs_X} {kp : Nat → Option xs_X} {se : Nat → Nat × Nat × Nat} {z : Nat} (hz : ly_ST sh R z) (hS : gc_S I z (w, L, nt, π, x, uh, us, kp, sn, se)) (hW : ab_W (w, L, nt, π, x, uh, us, kp, sn, se)) : mv_C l D b0 m5_wellBy (mv_rm 7) [.ref z] n sh I R (mv_PI n sh (fun r I' R' => gc_P sh z I R (ab_wellBy (w, L, nt, π, x, uh, us, kp, sn, se), (w, L, nt, π, x, uh, us, kp, sn, se)) r I' R')) := mv_C.of 1 (by decide) (by simp [Value.category]) rfl (e5_wellBy hz hS hW (fun _ _ _ h => mv_PI.mk h))
set_option maxHeartbeats 4000000 in
set_option maxRecDepth 100000 in
theorem e5_fits {l : Launch} {D : va_G} {b0 n : Nat} {sh : mv_Sh} {I : mv_I} {R : mv_R} {Q : mv_Q} {w : Nat → Int32} {L nt uh sn : Nat} {π x : xs_X} {us : Nat → xs_X} {kp : Nat → Option xs_X} {se : Nat → Nat × Nat × Nat} {z : Nat} {v : Int32} (hz : ly_ST sh R z) (hS : gc_S I z (w, L, nt, π, x, uh, us, kp, sn, se)) (hW : ab_W (w, L, nt, π, x, uh, us, kp, sn, se)) (hQ : ∀ r I' R', (gc_P sh z I R (ab_fits v (w, L, nt, π, x, uh, us, kp, sn, se), (w, L, nt, π, x, uh, us, kp, sn, se)) r I' R') → Q (some (.int r)) n sh I' R') : mv_E l D b0 m5_fits (mv_rm 7) Q 0 [.ref z, .int v, .null, .null, .null] [] 0 0 n sh I R := by
  obtain ⟨-, hpw, -, -, -, -, hsn, hse⟩ := id hW
  have hn := hpw.2.1
  have hn1 := hpw.1
  refine mv_aload_n (pc := 0) dX5_fits_0 rfl ?_
  refine mv_iload_n (pc := 1) dX5_fits_1 rfl ?_
  refine mv_cVi (pc := 2) dX5_fits_2 lk5_118 (congrArg Prod.fst hz.o) (c5_isTask hz hS.2.1.1) rfl rfl (Nat.le_of_ble_eq_true rfl) (by decide) (by decide) (fun r J ⟨e1, e2⟩ => ?_)
  subst e1 e2
  by_cases hv : ab_is nt v
  · rw [if_pos hv]
    obtain ⟨t, ht, rfl⟩ := ab_is_n hv hn
    have ht8 : t < 8 := by omega
    have e0 : ab_fits (nI t) (w, L, nt, π, x, uh, us, kp, sn, se) = ab_ft nt π t sn se 30 1 0 := by
      refine (if_neg (fun q => q hv)).trans ?_
      rw [nI_clamp (by omega)]
    rw [e0] at hQ
    obtain ⟨lg1, lg2⟩ := ab_lg_le (se := se) sn (fun i hi => (hse i hi).2.2.1)
    have loop : ∀ (f d : Nat) (b : Int32) (J2 : mv_I) (R2 : mv_R), d + f = 31 → 1 ≤ d → (∀ b, (b < z + 21 ∨ z + 30 ≤ b) → (b < z + 46 ∨ z + 61 ≤ b) → J2 b = J b) → ly_ST sh R2 z → (∀ b, z + 278 ≤ b → R2 b = R b) → ab_ft nt π t sn se f d b = ab_ft nt π t sn se 30 1 0 → mv_E l D b0 m5_fits (mv_rm 7) Q 20 [.ref z, .int (nI t), .int (nI (ab_lg se sn)), .int b, .int (nI d)] [] 0 0 n sh J2 R2 := by
      intro f
      induction f with
      | zero =>
        intro d b J2 R2 hd hd1 hJ hz hR2 he
        have he' : b = ab_ft nt π t sn se 30 1 0 := he
        refine mv_iload (pc := 20) dX5_fits_20 rfl ?_
        refine mv_bipush (pc := 22) (v := 30) dX5_fits_22 (by decide) ?_
        refine mv_icmp_gt (pc := 24) (tgt := 64) dX5_fits_24 (by decide) (fun hb => ?_) (fun hb => ?_)
        · refine mv_iload_n (pc := 64) dX5_fits_64 rfl ?_
          exact mv_iret (pc := 65) dX5_fits_65 rfl (by decide) (by decide) (hQ _ _ _ ⟨he', hS.tried (fun b b1 b2 => hJ b (by omega) b2), fun b hb => hJ b (by omega) (by omega), hz, hR2⟩)
        · exact absurd (nI_lt (a := 30) (b := d) (by omega) (by omega)) hb
      | succ f ih =>
        intro d b J2 R2 hd hd1 hJ hz hR2 he
        have hS2 := hS.tried (I' := J2) (fun b b1 b2 => hJ b (by omega) b2)
        have hpd := hpw.dl (t := t) (d := d) ht hd1 (by omega)
        have hWs := xs_W.st hpd
        have hz2 := hz.up (v := some (z + 21))
        refine mv_iload (pc := 20) dX5_fits_20 rfl ?_
        refine mv_bipush (pc := 22) (v := 30) dX5_fits_22 (by decide) ?_
        refine mv_icmp_gt (pc := 24) (tgt := 64) dX5_fits_24 (by decide) (fun hb => ?_) (fun hb => ?_)
        · exact absurd hb (nI_nlt (a := 30) (b := d) (by omega) (by decide))
        · refine mv_aload_n (pc := 27) dX5_fits_27 rfl ?_
          refine mv_iload_n (pc := 28) dX5_fits_28 rfl ?_
          refine mv_iload (pc := 29) dX5_fits_29 rfl ?_
          refine mv_cVvR (pc := 31) dX5_fits_31 lk5_172 (congrArg Prod.fst hz.o) (c5_suppose (t := t) hz hS2.2.1 hpw ht hd1 (by omega)) rfl rfl (Nat.le_of_ble_eq_true rfl) (by decide) (by decide) (fun J3 ⟨hp3, hr3, hf3⟩ => ?_)
          refine mv_aload_n (pc := 34) dX5_fits_34 rfl ?_
          refine mv_getR (pc := 35) (q := (z + 46)) dX5_fits_35 fl5_47 (fun _ _ => rfl) (congrArg Prod.fst hz2.o) hz2.f6 ?_
          refine mv_iconst (pc := 38) (v := 0) dX5_fits_38 (by decide) ?_
          refine mv_iload_n (pc := 39) dX5_fits_39 rfl ?_
          refine mv_cVi (pc := 40) dX5_fits_40 lk5_165 (congrArg Prod.fst hz2.tr.o) (c3_passUntilEnded (q := z + 21) (t := 0) (m := ab_lg se sn) ⟨hz2.tr, hz2.sp, mv_upe, by omega, hp3, hpd⟩ hr3 hWs.1 hn1 hWs.2 (by omega)) rfl rfl (Nat.le_of_ble_eq_true rfl) (by decide) (by decide) (fun r J4 ⟨e1, hr4, hf4⟩ => ?_)
          have hF : ∀ b, (b < z + 21 ∨ z + 30 ≤ b) → (b < z + 46 ∨ z + 61 ≤ b) → J4 b = J b := fun b b1 b2 => by rw [hf4 b (by omega), hf3 b b1 b2, hJ b b1 b2]
          have hR3 : ∀ b, z + 278 ≤ b → mv_up R2 (z + 46) 0 (some (z + 21)) b = R b := fun b hb => by rw [mv_upN b (by omega)]; exact hR2 b hb
          have hS4 := hS.tried (I' := J4) (fun b b1 b2 => hF b (by omega) b2)
          have hW4 := xs_W.go (t := 0) hpd (ab_lg se sn) 0 _ hWs.1 hWs.2 (by omega)
          have eag : ab_ag2 (xs_go nt (mv_up π t 2 (nI d)) 0 (ab_lg se sn) (xs_st (mv_up π t 2 (nI d) 0 2))) se sn = ab_ag (ab_su nt π t d 60) se sn := by
            refine ab_ag_eq sn (fun i hi => ?_)
            exact xs_by (hse i hi).1 hpd hWs.1 hWs.2 (lg2 i hi) lg1
          have eft : ab_ft nt π t sn se (f + 1) d b = ab_ft nt π t sn se f (d + 1) (if ab_ag (ab_su nt π t d 60) se sn = true then b ||| (1 <<< (nI d &&& 31)) else b) := rfl
          have nxt : ∀ b2 : Int32, b2 = (if ab_ag (ab_su nt π t d 60) se sn = true then b ||| (1 <<< (nI d &&& 31)) else b) → mv_E l D b0 m5_fits (mv_rm 7) Q 58 [.ref z, .int (nI t), .int (nI (ab_lg se sn)), .int b2, .int (nI d)] [] 0 0 n sh J4 (mv_up R2 (z + 46) 0 (some (z + 21))) := by
            intro b2 hb2
            refine mv_iinc (pc := 58) (v := nI (d + 1)) dX5_fits_58 (by decide) rfl (nI_1 d) ?_
            refine mv_goto (pc := 61) (tgt := 20) dX5_fits_61 (by decide) ?_
            exact ih (d + 1) b2 J4 _ (by omega) (by omega) hF hz2 hR3 (by rw [← he, eft, hb2])
          refine mv_pop (pc := 43) dX5_fits_43 rfl ?_
          refine mv_aload_n (pc := 44) dX5_fits_44 rfl ?_
          refine mv_cVi (pc := 45) dX5_fits_45 lk5_181 (congrArg Prod.fst hz2.o) (c5_agreesWithSeen hz2 hS4.2.2.2.2.2 hsn (fun i hi => (hse i hi).1) hn hr4 (fun t ht => (gc_tr3 hW4 ht).mp)) rfl rfl (Nat.le_of_ble_eq_true rfl) (by decide) (by decide) (fun r J5 ⟨e2, e3⟩ => ?_)
          rw [eag] at e2
          subst e2 e3
          by_cases q : ab_ag (ab_su nt π t d 60) se sn = true
          · rw [if_pos q]
            refine mv_if_eq (pc := 48) (tgt := 58) dX5_fits_48 (by decide) (fun hb => absurd hb (by decide)) (fun _ => ?_)
            refine mv_iload_n (pc := 51) dX5_fits_51 rfl ?_
            refine mv_iconst (pc := 52) (v := 1) dX5_fits_52 (by decide) ?_
            refine mv_iload (pc := 53) dX5_fits_53 rfl ?_
            refine mv_ishl (pc := 55) dX5_fits_55 ?_
            refine mv_ior (pc := 56) dX5_fits_56 ?_
            refine mv_istore_n (pc := 57) dX5_fits_57 (by decide) ?_
            exact nxt _ (by rw [if_pos q])
          · rw [if_neg q]
            refine mv_if_eq (pc := 48) (tgt := 58) dX5_fits_48 (by decide) (fun _ => ?_) (fun hb => absurd hb (by decide))
            exact nxt _ (by rw [if_neg q])
    refine mv_if_ne (pc := 5) (tgt := 10) dX5_fits_5 (by decide) (fun _ => ?_) (fun hb => absurd hb (by decide))
    refine mv_aload_n (pc := 10) dX5_fits_10 rfl ?_
    refine mv_cVi (pc := 11) dX5_fits_11 lk5_177 (congrArg Prod.fst hz.o) (c5_longestSeen hz hS.2.2.2.2.2 hsn (fun i hi => (hse i hi).2.2.1)) rfl rfl (Nat.le_of_ble_eq_true rfl) (by decide) (by decide) (fun r J2 ⟨e1, e2⟩ => ?_)
    subst e1 e2
    refine mv_istore_n (pc := 14) dX5_fits_14 (by decide) ?_
    refine mv_iconst (pc := 15) (v := 0) dX5_fits_15 (by decide) ?_
    refine mv_istore_n (pc := 16) dX5_fits_16 (by decide) ?_
    refine mv_iconst (pc := 17) (v := 1) dX5_fits_17 (by decide) ?_
    refine mv_istore (pc := 18) dX5_fits_18 (by decide) ?_
    exact loop 30 1 0 _ R (by omega) (by omega) (fun b _ _ => rfl) hz (fun _ _ => rfl) rfl
  · rw [if_neg hv]
    refine mv_if_ne (pc := 5) (tgt := 10) dX5_fits_5 (by decide) (fun hb => absurd hb (by decide)) (fun _ => ?_)
    refine mv_iconst (pc := 8) (v := -1) dX5_fits_8 (by decide) ?_
    exact mv_iret (pc := 9) dX5_fits_9 rfl (by decide) (by decide) (hQ _ _ _ ⟨(if_pos hv).symm, hS, fun _ _ => rfl, hz, fun _ _ => rfl⟩)
theorem c5_fits {l : Launch} {D : va_G} {b0 n : Nat} {sh : mv_Sh} {I : mv_I} {R : mv_R} {w : Nat → Int32} {L nt uh sn : Nat} {π x : xs_X} {us : Nat → xs_X} {kp : Nat → Option xs_X} {se : Nat → Nat × Nat × Nat} {z : Nat} {v : Int32} (hz : ly_ST sh R z) (hS : gc_S I z (w, L, nt, π, x, uh, us, kp, sn, se)) (hW : ab_W (w, L, nt, π, x, uh, us, kp, sn, se)) : mv_C l D b0 m5_fits (mv_rm 7) [.ref z, .int v] n sh I R (mv_PI n sh (fun r I' R' => gc_P sh z I R (ab_fits v (w, L, nt, π, x, uh, us, kp, sn, se), (w, L, nt, π, x, uh, us, kp, sn, se)) r I' R')) := mv_C.of 3 (by decide) (by simp [Value.category]) rfl (e5_fits hz hS hW (fun _ _ _ h => mv_PI.mk h))

