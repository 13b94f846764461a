theorem mv_comm {α : Type} {x : Nat → Nat → α} {a k b j : Nat} {v w : α} (h : ¬ (a = b ∧ k = j)) : mv_up (mv_up x a k v) b j w = mv_up (mv_up x b j w) a k v := by
  funext c i
  simp only [mv_up]
  by_cases h1 : c = b ∧ i = j
  · rw [if_pos h1]
    have h2 : ¬ (c = a ∧ i = k) := fun q => h ⟨q.1.symm.trans h1.1, q.2.symm.trans h1.2⟩
    rw [if_neg h2, if_pos h1]
  · rw [if_neg h1, if_neg h1]
theorem mv_upup {α : Type} {x : Nat → Nat → α} {a k : Nat} {v w : α} : mv_up (mv_up x a k v) a k w = mv_up x a k w := by
  funext c i
  simp only [mv_up]
  split <;> rfl
def xs_dd (π x : xs_X) (t : Nat) : Int32 := if π t 2 = 99 then 9999 else x 8 0 + π t 2
theorem xs_dun {c m : Int32} (h : xs_duer c m) (h0 : m ≠ 0) : (c = 1000000 ∧ m = 9999) ∨ ∃ k : Nat, 0 < k ∧ k < 9999 ∧ c = nI k ∧ m = nI k := by
  rcases h with ⟨h1, h2 | h2⟩ | ⟨h1, h2, h3⟩
  · exact Or.inl ⟨h1, h2⟩
  · exact absurd h2 h0
  · obtain ⟨j, hj, e⟩ := nI_of (x := m) (fun q => absurd (Int32.lt_trans h2 q) Int32.lt_irrefl)
    subst e
    refine Or.inr ⟨j, ?_, ?_, h1, rfl⟩
    · exact (nI_ltI (a := 0) (by decide) hj).mp h2
    · exact (nI_ltI (b := 9999) hj (by decide)).mp h3
set_option maxHeartbeats 4000000 in
set_option maxRecDepth 100000 in
theorem e3_start {l : Launch} {D : va_G} {b0 n : Nat} {sh : mv_Sh} {I : mv_I} {R : mv_R} {Q : mv_Q} {p q nt t τ : Nat} {π x : xs_X} {L m : Int32} (K : rc_P sh R I p q nt π) (h : rc_R I p nt x) (ht : t < nt) (hτ : x 8 0 = nI τ) (hτ2 : τ ≤ 2000) (hL : xs_duer L m) (hm : m ≠ 0) (hQ : ∀ I', (rc_R I' p nt (mv_up (mv_up (mv_up x t 0 1) t 7 (x 8 0)) t 4 (if xs_dd π x t < m then xs_dd π x t else m)) ∧ rc_Fr p I I') → Q none n sh I' R) : mv_E l D b0 m3_start (mv_rm 1) Q 0 [.ref p, .int (nI t), .int L] [] 0 0 n sh I R := by
  obtain ⟨hp, hq, hpl, hdj, hpc, hpw⟩ := id K
  have hn := hpw.2.1
  have h1 : rc_R (mv_up I (p + 1) t 1) p nt (mv_up x t 0 1) := rc_set 0 h (by decide) (by decide) ht hn
  have h2 : rc_R (mv_up (mv_up I (p + 1) t 1) (p + 3) t (x 8 0)) p nt (mv_up (mv_up x t 0 1) t 7 (x 8 0)) := rc_set 7 h1 (by decide) (by decide) ht hn
  have f3 : rc_Fr p I (mv_up (mv_up (mv_up I (p + 1) t 1) (p + 3) t (x 8 0)) (p + 5) t L) := ((rc_Fr.rf.up (by omega)).up (by omega)).up (by omega)
  have hpc3 := (K.fr f3).2.2.2.2.1
  refine mv_aload_n (pc := 0) dX3_start_0 rfl ?_
  refine mv_getR (pc := 1) (q := p + 1) dX3_start_1 fl3_15 (fun _ _ => rfl) (congrArg Prod.fst hp.o) hp.f2 ?_
  refine mv_iload_n (pc := 4) dX3_start_4 rfl ?_
  refine mv_iconst (pc := 5) (v := 1) dX3_start_5 (by decide) ?_
  refine mv_iast (pc := 6) (k := t) dX3_start_6 hp.g2 rfl (by omega) ?_
  refine mv_aload_n (pc := 7) dX3_start_7 rfl ?_
  refine mv_getR (pc := 8) (q := p + 3) dX3_start_8 fl3_22 (fun _ _ => rfl) (congrArg Prod.fst hp.o) hp.f4 ?_
  refine mv_iload_n (pc := 11) dX3_start_11 rfl ?_
  refine mv_aload_n (pc := 12) dX3_start_12 rfl ?_
  refine mv_getIx (pc := 13) (x := x 8 0) dX3_start_13 fl3_9 rfl (congrArg Prod.fst hp.o) (by rw [mv_upN p (by omega)]; exact h.1.1) ?_
  refine mv_iast (pc := 16) (k := t) dX3_start_16 hp.g4 rfl (by omega) ?_
  refine mv_aload_n (pc := 17) dX3_start_17 rfl ?_
  refine mv_getR (pc := 18) (q := p + 5) dX3_start_18 fl3_28 (fun _ _ => rfl) (congrArg Prod.fst hp.o) hp.f6 ?_
  refine mv_iload_n (pc := 21) dX3_start_21 rfl ?_
  refine mv_iload_n (pc := 22) dX3_start_22 rfl ?_
  refine mv_iast (pc := 23) (k := t) dX3_start_23 hp.g6 rfl (by omega) ?_
  refine mv_aload_n (pc := 24) dX3_start_24 rfl ?_
  refine mv_getR (pc := 25) (q := q) dX3_start_25 fl3_65 (fun _ _ => rfl) (congrArg Prod.fst hp.o) hpl ?_
  refine mv_getR (pc := 28) (q := q + 5) dX3_start_28 fl3_140 (fun _ _ => rfl) (congrArg Prod.fst hq.o) hq.f5 ?_
  refine mv_iload_n (pc := 31) dX3_start_31 rfl ?_
  refine mv_ialdx (pc := 32) (x := π t 2) (k := t) dX3_start_32 hq.g5 rfl (by omega) (hpc3.2 t ht).2.2.1 ?_
  refine mv_bipush (pc := 33) (v := 99) dX3_start_33 (by decide) ?_
  refine mv_icmp_eq (pc := 35) (tgt := 62) dX3_start_35 (by decide) (fun hb => ?_) (fun hb => ?_)
  · refine mv_vret (pc := 62) dX3_start_62 rfl (by decide) (by decide) (hQ _ ⟨?_, f3⟩)
    have e : (if xs_dd π x t < m then xs_dd π x t else m) = m := by
      unfold xs_dd
      rw [if_pos hb, if_neg]
      rcases xs_dun hL hm with ⟨-, q⟩ | ⟨k, -, k2, -, q⟩
      · rw [q]; decide
      · rw [q]; exact nI_nlt (a := 9999) (by omega) (by decide)
    rw [e]
    exact rc_due h2 hL ht hn
  · refine mv_aload_n (pc := 38) dX3_start_38 rfl ?_
    refine mv_getR (pc := 39) (q := p + 5) dX3_start_39 fl3_28 (fun _ _ => rfl) (congrArg Prod.fst hp.o) hp.f6 ?_
    refine mv_iload_n (pc := 42) dX3_start_42 rfl ?_
    refine mv_iload_n (pc := 43) dX3_start_43 rfl ?_
    refine mv_aload_n (pc := 44) dX3_start_44 rfl ?_
    refine mv_getIx (pc := 45) (x := x 8 0) dX3_start_45 fl3_9 rfl (congrArg Prod.fst hp.o) (by rw [mv_upN p (by omega), mv_upN p (by omega), mv_upN p (by omega)]; exact h.1.1) ?_
    refine mv_aload_n (pc := 48) dX3_start_48 rfl ?_
    refine mv_getR (pc := 49) (q := q) dX3_start_49 fl3_65 (fun _ _ => rfl) (congrArg Prod.fst hp.o) hpl ?_
    refine mv_getR (pc := 52) (q := q + 5) dX3_start_52 fl3_140 (fun _ _ => rfl) (congrArg Prod.fst hq.o) hq.f5 ?_
    refine mv_iload_n (pc := 55) dX3_start_55 rfl ?_
    refine mv_ialdx (pc := 56) (x := π t 2) (k := t) dX3_start_56 hq.g5 rfl (by omega) (hpc3.2 t ht).2.2.1 ?_
    refine mv_iadd (pc := 57) dX3_start_57 ?_
    refine mv_mmin (pc := 58) dX3_start_58 lkm3_143 wm_smin wm_i wm_cmin (Nat.le_of_ble_eq_true rfl) ⟨by decide, by decide⟩ (by decide) (by decide) ?_
    refine mv_iast (pc := 61) (k := t) dX3_start_61 hp.g6 rfl (by omega) ?_
    refine mv_vret (pc := 62) dX3_start_62 rfl (by decide) (by decide) (hQ _ ⟨?_, f3.up (by omega)⟩)
    rw [mv_upup]
    refine rc_due h2 ?_ ht hn
    have e : xs_dd π x t = x 8 0 + π t 2 := by unfold xs_dd; rw [if_neg hb]
    rw [← e]
    obtain ⟨d, d1, d2, d3⟩ := ((hpw.2.2.2 t ht).2.2.1).resolve_left hb
    have e2 : xs_dd π x t = nI (τ + d) := by rw [e, hτ, d3, nI_add]
    rw [e2]
    have hgood : xs_duer (nI (τ + d)) (nI (τ + d)) := Or.inr ⟨rfl, nI_lt (a := 0) (by omega) (by omega), nI_lt (b := 9999) (by omega) (by decide)⟩
    rcases xs_dun hL hm with ⟨q1, q2⟩ | ⟨k, k1, k2, q1, q2⟩
    · rw [q1, q2, if_pos (show nI (τ + d) < (1000000 : Int32) from nI_lt (b := 1000000) (by omega) (by decide)), if_pos (show nI (τ + d) < (9999 : Int32) from nI_lt (b := 9999) (by omega) (by decide))]
      exact hgood
    · rw [q1, q2]
      split
      · exact hgood
      · exact Or.inr ⟨rfl, nI_lt (a := 0) (by omega) (by omega), nI_lt (b := 9999) (by omega) (by decide)⟩
theorem c3_start {l : Launch} {D : va_G} {b0 n : Nat} {sh : mv_Sh} {I : mv_I} {R : mv_R} {p q nt t τ : Nat} {π x : xs_X} {L m : Int32} (K : rc_P sh R I p q nt π) (h : rc_R I p nt x) (ht : t < nt) (hτ : x 8 0 = nI τ) (hτ2 : τ ≤ 2000) (hL : xs_duer L m) (hm : m ≠ 0) : mv_C l D b0 m3_start (mv_rm 1) [.ref p, .int (nI t), .int L] n sh I R (mv_Pv n sh R (fun I' => rc_R I' p nt (mv_up (mv_up (mv_up x t 0 1) t 7 (x 8 0)) t 4 (if xs_dd π x t < m then xs_dd π x t else m)) ∧ rc_Fr p I I')) := mv_C.of 0 (by decide) (by simp [Value.category]) rfl (e3_start K h ht hτ hτ2 hL hm (fun _ h => mv_Pv.mk h))
set_option maxHeartbeats 4000000 in
set_option maxRecDepth 100000 in
theorem e3_beginChild {l : Launch} {D : va_G} {b0 n : Nat} {sh : mv_Sh} {I : mv_I} {R : mv_R} {Q : mv_Q} {p q nt t τ e : Nat} {π x : xs_X} (K : rc_P sh R I p q nt π) (h : rc_R I p nt x) (ht : t < nt) (hτ : x 8 0 = nI τ) (hτ2 : τ ≤ 2000) (he : x 8 1 = nI e) (he6 : e ≤ 60) (hd : x t 4 ≠ 0) (hQ : ∀ I', (rc_R I' p nt (xs_bc nt π x t) ∧ rc_Fr p I I') → Q none n sh I' R) : mv_E l D b0 m3_beginChild (mv_rm 2) Q 0 [.ref p, .int (nI t), .null] [] 0 0 n sh I R := by
  obtain ⟨hp, hq, hpl, hdj, hpc, hpw⟩ := id K
  have hn := hpw.2.1
  have loop : ∀ (f c : Nat), nt < c + f → t < c → c ≤ nt → (∀ u, u < c → ¬ (1 ≤ u ∧ π u 0 = nI t ∧ x u 0 = 0)) → mv_E l D b0 m3_beginChild (mv_rm 2) Q 4 [.ref p, .int (nI t), .int (nI c)] [] 0 0 n sh I R := by
    intro f
    induction f with
    | zero => intro c h1 h2 h3; omega
    | succ f ih =>
      intro c h1 h2 h3 hl
      refine mv_iload_n (pc := 4) dX3_beginChild_4 rfl ?_
      refine mv_aload_n (pc := 5) dX3_beginChild_5 rfl ?_
      refine mv_getR (pc := 6) (q := q) dX3_beginChild_6 fl3_65 (fun _ _ => rfl) (congrArg Prod.fst hp.o) hpl ?_
      refine mv_getIx (pc := 9) (x := nI nt) dX3_beginChild_9 fl3_83 rfl (congrArg Prod.fst hq.o) hpc.1 ?_
      refine mv_icmp_ge (pc := 12) (tgt := 61) dX3_beginChild_12 (by decide) (fun hb => ?_) (fun hb => ?_)
      · have : c = nt := by
          have := (nI_leI (a := nt) (b := c) (by omega) (by omega)).mp hb
          omega
        subst this
        refine mv_vret (pc := 61) dX3_beginChild_61 rfl (by decide) (by decide) (hQ _ ⟨?_, rc_Fr.rf⟩)
        unfold xs_bc
        rw [xs_fc_none hl]
        exact h
      · have hcn : c < nt := by
          rcases Nat.lt_or_ge c nt with q | q
          · exact q
          · exact absurd (nI_le q (by omega)) hb
        have hnext : ¬ (π c 0 = nI t ∧ x c 0 = 0) → mv_E l D b0 m3_beginChild (mv_rm 2) Q 55 [.ref p, .int (nI t), .int (nI c)] [] 0 0 n sh I R := by
          intro q
          refine mv_iinc (pc := 55) (v := nI (c + 1)) dX3_beginChild_55 (by decide) rfl (nI_1 c) ?_
          refine mv_goto (pc := 58) (tgt := 4) dX3_beginChild_58 (by decide) ?_
          refine ih (c + 1) (by omega) (by omega) (by omega) (fun u hu => ?_)
          by_cases huc : u = c
          · subst huc; exact fun z => q z.2
          · exact hl u (by omega)
        refine mv_aload_n (pc := 15) dX3_beginChild_15 rfl ?_
        refine mv_getR (pc := 16) (q := q) dX3_beginChild_16 fl3_65 (fun _ _ => rfl) (congrArg Prod.fst hp.o) hpl ?_
        refine mv_getR (pc := 19) (q := q + 1) dX3_beginChild_19 fl3_88 (fun _ _ => rfl) (congrArg Prod.fst hq.o) hq.f1 ?_
        refine mv_iload_n (pc := 22) dX3_beginChild_22 rfl ?_
        refine mv_ialdx (pc := 23) (x := π c 0) (k := c) dX3_beginChild_23 hq.g1 rfl (by omega) (hpc.2 c hcn).1 ?_
        refine mv_iload_n (pc := 24) dX3_beginChild_24 rfl ?_
        refine mv_icmp_ne (pc := 25) (tgt := 55) dX3_beginChild_25 (by decide) (fun hb2 => ?_) (fun hb2 => ?_)
        · exact hnext (fun q => hb2 q.1)
        · refine mv_aload_n (pc := 28) dX3_beginChild_28 rfl ?_
          refine mv_getR (pc := 29) (q := p + 1) dX3_beginChild_29 fl3_15 (fun _ _ => rfl) (congrArg Prod.fst hp.o) hp.f2 ?_
          refine mv_iload_n (pc := 32) dX3_beginChild_32 rfl ?_
          refine mv_ialdx (pc := 33) (x := x c 0) (k := c) dX3_beginChild_33 hp.g2 rfl (by omega) ((h.2.1 c hcn).1 0 (by decide)) ?_
          refine mv_if_ne (pc := 34) (tgt := 55) dX3_beginChild_34 (by decide) (fun hb3 => ?_) (fun hb3 => ?_)
          · exact hnext (fun q => hb3 q.2)
          · refine mv_aload_n (pc := 37) dX3_beginChild_37 rfl ?_
            refine mv_iload_n (pc := 38) dX3_beginChild_38 rfl ?_
            refine mv_aload_n (pc := 39) dX3_beginChild_39 rfl ?_
            refine mv_getR (pc := 40) (q := p + 5) dX3_beginChild_40 fl3_28 (fun _ _ => rfl) (congrArg Prod.fst hp.o) hp.f6 ?_
            refine mv_iload_n (pc := 43) dX3_beginChild_43 rfl ?_
            refine mv_iald (pc := 44) (k := t) dX3_beginChild_44 hp.g6 rfl (by omega) ?_
            refine mv_cVv (pc := 45) dX3_beginChild_45 lk3_70 (congrArg Prod.fst hp.o) (c3_start K h hcn hτ hτ2 (h.2.1 t ht).2.2.1 hd) rfl rfl (Nat.le_of_ble_eq_true rfl) (by decide) (by decide) (fun J ⟨hr, hf⟩ => ?_)
            refine mv_aload_n (pc := 48) dX3_beginChild_48 rfl ?_
            refine mv_iload_n (pc := 49) dX3_beginChild_49 rfl ?_
            refine mv_iconst (pc := 50) (v := 0) dX3_beginChild_50 (by decide) ?_
            refine mv_cVv (pc := 51) dX3_beginChild_51 lk3_137 (congrArg Prod.fst hp.o) (c3_note hp hr hn (by rw [mv_upN 8 (by omega), mv_upN 8 (by omega), mv_upN 8 (by omega)]; exact he) he6) rfl rfl (Nat.le_of_ble_eq_true rfl) (by decide) (by decide) (fun J2 ⟨hr2, hf2⟩ => ?_)
            refine mv_vret (pc := 54) dX3_beginChild_54 rfl (by decide) (by decide) (hQ _ ⟨?_, hf.tr hf2⟩)
            unfold xs_bc
            rw [xs_fc_some hcn ⟨by omega, hb2, hb3⟩ hl]
            show rc_R J2 p nt (xs_tr (mv_up (mv_up (mv_up x c 0 1) c 4 (xs_due π x c t)) c 7 (x 8 0)) c 0)
            rw [mv_comm (a := c) (k := 4) (b := c) (j := 7) (by omega)]
            exact hr2
  refine mv_iload_n (pc := 0) dX3_beginChild_0 rfl ?_
  refine mv_iconst (pc := 1) (v := 1) dX3_beginChild_1 (by decide) ?_
  refine mv_iadd (pc := 2) dX3_beginChild_2 ?_
  refine mv_top (y := nI (t + 1)) (nI_1 t) ?_
  refine mv_istore_n (pc := 3) dX3_beginChild_3 (by decide) ?_
  refine loop (nt + 1) (t + 1) (by omega) (by omega) (by omega) (fun u hu q => ?_)
  have := hpw.par (by omega) q.1 q.2.1 (by omega)
  omega
theorem c3_beginChild {l : Launch} {D : va_G} {b0 n : Nat} {sh : mv_Sh} {I : mv_I} {R : mv_R} {p q nt t τ e : Nat} {π x : xs_X} (K : rc_P sh R I p q nt π) (h : rc_R I p nt x) (ht : t < nt) (hτ : x 8 0 = nI τ) (hτ2 : τ ≤ 2000) (he : x 8 1 = nI e) (he6 : e ≤ 60) (hd : x t 4 ≠ 0) : mv_C l D b0 m3_beginChild (mv_rm 2) [.ref p, .int (nI t)] n sh I R (mv_Pv n sh R (fun I' => rc_R I' p nt (xs_bc nt π x t) ∧ rc_Fr p I I')) := mv_C.of 1 (by decide) (by simp [Value.category]) rfl (e3_beginChild K h ht hτ hτ2 he he6 hd (fun _ h => mv_Pv.mk h))
set_option maxHeartbeats 4000000 in
set_option maxRecDepth 100000 in
theorem e3_work {l : Launch} {D : va_G} {b0 n : Nat} {sh : mv_Sh} {I : mv_I} {R : mv_R} {Q : mv_Q} {p nt t w k : Nat} {x : xs_X} (hp : ly_Run sh R p) (h : rc_R I p nt x) (hn : nt ≤ 8) (ht : t < nt) (hw : x t 3 = nI w) (hk : w < k) (hk9 : k ≤ 9) (hQ : ∀ I', (rc_R I' p nt (if x t 3 + 1 = nI k then xs_beh (mv_up x t 3 0) t else mv_up x t 3 (x t 3 + 1)) ∧ rc_Fr p I I') → Q none n sh I' R) : mv_E l D b0 m3_work (mv_rm 0) Q 0 [.ref p, .int (nI t), .int (nI k)] [] 0 0 n sh I R := by
  have h7 : I (p + 7) t = nI w := ((h.2.1 t ht).1 3 (by decide)).trans hw
  have h1 : rc_R (mv_up I (p + 7) t (nI w + 1)) p nt (mv_up x t 3 (nI w + 1)) := rc_set 3 h (by decide) (by decide) ht hn
  refine mv_aload_n (pc := 0) dX3_work_0 rfl ?_
  refine mv_getR (pc := 1) (q := p + 7) dX3_work_1 fl3_34 (fun _ _ => rfl) (congrArg Prod.fst hp.o) hp.f8 ?_
  refine mv_iload_n (pc := 4) dX3_work_4 rfl ?_
  refine mv_dup2 (pc := 5) dX3_work_5 rfl rfl ?_
  refine mv_ialdx (pc := 6) (x := nI w) (k := t) dX3_work_6 hp.g8 rfl (by omega) h7 ?_
  refine mv_iconst (pc := 7) (v := 1) dX3_work_7 (by decide) ?_
  refine mv_iadd (pc := 8) dX3_work_8 ?_
  refine mv_iast (pc := 9) (k := t) dX3_work_9 hp.g8 rfl (by omega) ?_
  refine mv_aload_n (pc := 10) dX3_work_10 rfl ?_
  refine mv_getR (pc := 11) (q := p + 7) dX3_work_11 fl3_34 (fun _ _ => rfl) (congrArg Prod.fst hp.o) hp.f8 ?_
  refine mv_iload_n (pc := 14) dX3_work_14 rfl ?_
  refine mv_ialdx (pc := 15) (x := nI (w + 1)) (k := t) dX3_work_15 hp.g8 rfl (by omega) (by rw [mv_upe, nI_1]) ?_
  refine mv_iload_n (pc := 16) dX3_work_16 rfl ?_
  refine mv_icmp_lt (pc := 17) (tgt := 37) dX3_work_17 (by decide) (fun hb => ?_) (fun hb => ?_)
  · refine mv_vret (pc := 37) dX3_work_37 rfl (by decide) (by decide) (hQ _ ⟨?_, rc_Fr.rf.up (by omega)⟩)
    have := (nI_ltI (a := w + 1) (b := k) (by omega) (by omega)).mp hb
    rw [hw, if_neg (by rw [nI_1, nI_eq (by omega) (by omega)]; omega)]
    exact h1
  · have hkk : w + 1 = k := by
      have : ¬ w + 1 < k := fun q => hb ((nI_ltI (a := w + 1) (b := k) (by omega) (by omega)).mpr q)
      omega
    refine mv_aload_n (pc := 20) dX3_work_20 rfl ?_
    refine mv_getR (pc := 21) (q := p + 7) dX3_work_21 fl3_34 (fun _ _ => rfl) (congrArg Prod.fst hp.o) hp.f8 ?_
    refine mv_iload_n (pc := 24) dX3_work_24 rfl ?_
    refine mv_iconst (pc := 25) (v := 0) dX3_work_25 (by decide) ?_
    refine mv_iast (pc := 26) (k := t) dX3_work_26 hp.g8 rfl (by omega) ?_
    refine mv_aload_n (pc := 27) dX3_work_27 rfl ?_
    refine mv_getR (pc := 28) (q := p + 6) dX3_work_28 fl3_31 (fun _ _ => rfl) (congrArg Prod.fst hp.o) hp.f7 ?_
    refine mv_iload_n (pc := 31) dX3_work_31 rfl ?_
    refine mv_dup2 (pc := 32) dX3_work_32 rfl rfl ?_
    refine mv_ialdx (pc := 33) (x := x t 2) (k := t) dX3_work_33 hp.g7 rfl (by omega) (by rw [mv_upN _ (by omega), mv_upN _ (by omega)]; exact (h.2.1 t ht).1 2 (by decide)) ?_
    refine mv_iconst (pc := 34) (v := 1) dX3_work_34 (by decide) ?_
    refine mv_iadd (pc := 35) dX3_work_35 ?_
    refine mv_iast (pc := 36) (k := t) dX3_work_36 hp.g7 rfl (by omega) ?_
    refine mv_vret (pc := 37) dX3_work_37 rfl (by decide) (by decide) (hQ _ ⟨?_, ((rc_Fr.rf.up (by omega)).up (by omega)).up (by omega)⟩)
    rw [mv_upup, hw, if_pos (by rw [nI_1, hkk])]
    have h2 : rc_R (mv_up I (p + 7) t 0) p nt (mv_up x t 3 0) := rc_set 3 h (by decide) (by decide) ht hn
    have h3 : rc_R (mv_up (mv_up I (p + 7) t 0) (p + 6) t (x t 2 + 1)) p nt (mv_up (mv_up x t 3 0) t 2 (x t 2 + 1)) := rc_set 2 h2 (by decide) (by decide) ht hn
    unfold xs_beh
    rw [show mv_up x t 3 0 t 2 = x t 2 by simp [mv_up]]
    exact h3
theorem c3_work {l : Launch} {D : va_G} {b0 n : Nat} {sh : mv_Sh} {I : mv_I} {R : mv_R} {p nt t w k : Nat} {x : xs_X} (hp : ly_Run sh R p) (h : rc_R I p nt x) (hn : nt ≤ 8) (ht : t < nt) (hw : x t 3 = nI w) (hk : w < k) (hk9 : k ≤ 9) : mv_C l D b0 m3_work (mv_rm 0) [.ref p, .int (nI t), .int (nI k)] n sh I R (mv_Pv n sh R (fun I' => rc_R I' p nt (if x t 3 + 1 = nI k then xs_beh (mv_up x t 3 0) t else mv_up x t 3 (x t 3 + 1)) ∧ rc_Fr p I I')) := mv_C.of 0 (by decide) (by simp [Value.category]) rfl (e3_work hp h hn ht hw hk hk9 (fun _ h => mv_Pv.mk h))

