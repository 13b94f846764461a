set_option maxHeartbeats 4000000 in
set_option maxRecDepth 100000 in
theorem e6_in {l : Launch} {D : va_G} {b0 n : Nat} {sh : mv_Sh} {I : mv_I} {R : mv_R} {Q : mv_Q} {v lo hi : Int32} (hok : True) (hQ : ∀ r I', (r = (if lo ≤ v ∧ v ≤ hi then 1 else 0) ∧ I' = I) → Q (some (.int r)) n sh I' R) : mv_E l D b0 m6_in (mv_rm 0) Q 0 [.int v, .int lo, .int hi] [] 0 0 n sh I R := by
  have no : ¬ (lo ≤ v ∧ v ≤ hi) → mv_E l D b0 m6_in (mv_rm 0) Q 14 [.int v, .int lo, .int hi] [] 0 0 n sh I R := by
    intro q
    refine mv_iconst (pc := 14) (v := 0) dX6_in_14 (by decide) ?_
    exact mv_zret (pc := 15) dX6_in_15 rfl (by rfl) (by decide) (by decide) (hQ _ _ ⟨by rw [if_neg q], rfl⟩)
  refine mv_iload_n (pc := 0) dX6_in_0 rfl ?_
  refine mv_iload_n (pc := 1) dX6_in_1 rfl ?_
  refine mv_icmp_lt (pc := 2) (tgt := 14) dX6_in_2 (by decide) (fun hb => ?_) (fun hb => ?_)
  · exact no (fun q => absurd q.1 (Int32.not_le.mpr hb))
  · refine mv_iload_n (pc := 5) dX6_in_5 rfl ?_
    refine mv_iload_n (pc := 6) dX6_in_6 rfl ?_
    refine mv_icmp_gt (pc := 7) (tgt := 14) dX6_in_7 (by decide) (fun hb2 => ?_) (fun hb2 => ?_)
    · exact no (fun q => absurd q.2 (Int32.not_le.mpr hb2))
    · refine mv_iconst (pc := 10) (v := 1) dX6_in_10 (by decide) ?_
      refine mv_goto (pc := 11) (tgt := 15) dX6_in_11 (by decide) ?_
      exact mv_zret (pc := 15) dX6_in_15 rfl (by rfl) (by decide) (by decide) (hQ _ _ ⟨by rw [if_pos ⟨Int32.not_lt.mp hb, Int32.not_lt.mp hb2⟩], rfl⟩)
theorem c6_in {l : Launch} {D : va_G} {b0 n : Nat} {sh : mv_Sh} {I : mv_I} {R : mv_R} {v lo hi : Int32} (hok : True) : mv_C l D b0 m6_in (mv_rm 0) [.int v, .int lo, .int hi] n sh I R (mv_Pi n sh R (fun r I' => r = (if lo ≤ v ∧ v ≤ hi then 1 else 0) ∧ I' = I)) := mv_C.of 0 (by decide) (by simp [Value.category]) rfl (e6_in hok (fun _ _ h => mv_Pi.mk h))
def tk_isT (k : Int32) : Prop := k = 59 ∨ k = 98 ∨ k = 99 ∨ k = 100 ∨ k = 102 ∨ k = 103 ∨ k = 106 ∨ k = 114 ∨ k = 115 ∨ k = 116 ∨ k = 119 ∨ k = 120
def tk_tb (k : Int32) : Bool := decide (k = 59) || decide (k = 98) || decide (k = 99) || decide (k = 100) || decide (k = 102) || decide (k = 103) || decide (k = 106) || decide (k = 114) || decide (k = 115) || decide (k = 116) || decide (k = 119) || decide (k = 120)
/-- the token as the reference has it -/
def tk_m (k : Int32) : Int32 := if k = -1 then -1 else if k = -2 then 0 else if tk_tb k = true then k else -2
def tk_lso (k : Int) : Int := Op.lookupswitch.offset [(59, 107), (98, 107), (99, 107), (100, 107), (102, 107), (103, 107), (106, 107), (114, 107), (115, 107), (116, 107), (119, 107), (120, 107)] 109 k
theorem tk_ls : ∀ k : Nat, k ≤ 255 → tk_lso (k : Int) = if tk_tb (nI k) = true then 107 else 109 := by decide +kernel
set_option maxHeartbeats 4000000 in
set_option maxRecDepth 100000 in
theorem e6_isToken {l : Launch} {D : va_G} {b0 n : Nat} {sh : mv_Sh} {I : mv_I} {R : mv_R} {Q : mv_Q} {k : Nat} (hk : k ≤ 255) (hQ : ∀ r I', (r = (if tk_tb (nI k) = true then 1 else 0) ∧ I' = I) → Q (some (.int r)) n sh I' R) : mv_E l D b0 m6_isToken (mv_rm 0) Q 0 [.int (nI k)] [] 0 0 n sh I R := by
  have hti : (nI k).toInt = (k : Int) := nI_toInt (by omega)
  refine mv_iload_n (pc := 0) dX6_isToken_0 rfl ?_
  by_cases ht : tk_tb (nI k) = true
  · refine mv_lsw (pc := 1) (off := 107) (tgt := 108) dX6_isToken_1 (by decide) (by rw [hti]; exact (tk_ls k hk).trans (if_pos ht)) (by decide) ?_
    refine mv_iconst (pc := 108) (v := 1) dX6_isToken_108 (by decide) ?_
    exact mv_zret (pc := 109) dX6_isToken_109 rfl (by rfl) (by decide) (by decide) (hQ _ _ ⟨by rw [if_pos ht], rfl⟩)
  · refine mv_lsw (pc := 1) (off := 109) (tgt := 110) dX6_isToken_1 (by decide) (by rw [hti]; exact (tk_ls k hk).trans (if_neg ht)) (by decide) ?_
    refine mv_iconst (pc := 110) (v := 0) dX6_isToken_110 (by decide) ?_
    exact mv_zret (pc := 111) dX6_isToken_111 rfl (by rfl) (by decide) (by decide) (hQ _ _ ⟨by rw [if_neg ht], rfl⟩)
theorem c6_isToken {l : Launch} {D : va_G} {b0 n : Nat} {sh : mv_Sh} {I : mv_I} {R : mv_R} {k : Nat} (hk : k ≤ 255) : mv_C l D b0 m6_isToken (mv_rm 0) [.int (nI k)] n sh I R (mv_Pi n sh R (fun r I' => r = (if tk_tb (nI k) = true then 1 else 0) ∧ I' = I)) := mv_C.of 0 (by decide) (by simp [Value.category]) rfl (e6_isToken hk (fun _ _ h => mv_Pi.mk h))
set_option maxHeartbeats 4000000 in
set_option maxRecDepth 100000 in
theorem e6_isFigure {l : Launch} {D : va_G} {b0 n : Nat} {sh : mv_Sh} {I : mv_I} {R : mv_R} {Q : mv_Q} {m L i : Nat} {w : Nat → Int32} (hm : ly_Mod sh R m) (hL : L ≤ 120) (hl : I m 0 = nI L) (hx : ∀ j, j < L → I (m + 1) j = w j) (h2 : I m 2 = nI i) (hi : i ≤ L) (hQ : ∀ r I', (r = (if i < L ∧ 48 ≤ w i ∧ w i ≤ 57 then 1 else 0) ∧ I' = I) → Q (some (.int r)) n sh I' R) : mv_E l D b0 m6_isFigure (mv_rm 1) Q 0 [.ref m] [] 0 0 n sh I R := by
  have no : ¬ (i < L ∧ 48 ≤ w i ∧ w i ≤ 57) → mv_E l D b0 m6_isFigure (mv_rm 1) Q 34 [.ref m] [] 0 0 n sh I R := by
    intro q
    refine mv_iconst (pc := 34) (v := 0) dX6_isFigure_34 (by decide) ?_
    exact mv_zret (pc := 35) dX6_isFigure_35 rfl (by rfl) (by decide) (by decide) (hQ _ _ ⟨by rw [if_neg q], rfl⟩)
  refine mv_aload_n (pc := 0) dX6_isFigure_0 rfl ?_
  refine mv_getIx (pc := 1) (x := nI i) dX6_isFigure_1 fl6_88 rfl (congrArg Prod.fst hm.o) h2 ?_
  refine mv_aload_n (pc := 4) dX6_isFigure_4 rfl ?_
  refine mv_getIx (pc := 5) (x := nI L) dX6_isFigure_5 fl6_84 rfl (congrArg Prod.fst hm.o) hl ?_
  refine mv_icmp_ge (pc := 8) (tgt := 34) dX6_isFigure_8 (by decide) (fun hb => ?_) (fun hb => ?_)
  · exact no (fun q => absurd hb (nI_ge q.1 (by omega)))
  · have hiL : i < L := by
      rcases Nat.lt_or_ge i L with q | q
      · exact q
      · exact absurd (nI_le q (by omega)) hb
    refine mv_aload_n (pc := 11) dX6_isFigure_11 rfl ?_
    refine mv_getR (pc := 12) (q := m + 1) dX6_isFigure_12 fl6_7 (fun _ _ => rfl) (congrArg Prod.fst hm.o) hm.f1 ?_
    refine mv_aload_n (pc := 15) dX6_isFigure_15 rfl ?_
    refine mv_getIx (pc := 16) (x := nI i) dX6_isFigure_16 fl6_88 rfl (congrArg Prod.fst hm.o) h2 ?_
    refine mv_ialdx (pc := 19) (x := w i) (k := i) dX6_isFigure_19 hm.g1 rfl (by omega) (hx i hiL) ?_
    refine mv_bipush (pc := 20) (v := 48) dX6_isFigure_20 (by decide) ?_
    refine mv_bipush (pc := 22) (v := 57) dX6_isFigure_22 (by decide) ?_
    refine mv_cSi (pc := 24) dX6_isFigure_24 lk6_80 (c6_in trivial) rfl rfl (Nat.le_of_ble_eq_true rfl) (by decide) (by decide) (fun r J ⟨e1, e2⟩ => ?_)
    subst e1 e2
    refine mv_if_eq (pc := 27) (tgt := 34) dX6_isFigure_27 (by decide) (fun hb2 => ?_) (fun hb2 => ?_)
    · exact no (fun q => by rw [if_pos q.2] at hb2; exact absurd hb2 (by decide))
    · have : 48 ≤ w i ∧ w i ≤ 57 := Classical.byContradiction fun q => hb2 (by rw [if_neg q])
      refine mv_iconst (pc := 30) (v := 1) dX6_isFigure_30 (by decide) ?_
      refine mv_goto (pc := 31) (tgt := 35) dX6_isFigure_31 (by decide) ?_
      exact mv_zret (pc := 35) dX6_isFigure_35 rfl (by rfl) (by decide) (by decide) (hQ _ _ ⟨by rw [if_pos ⟨hiL, this⟩], rfl⟩)
theorem c6_isFigure {l : Launch} {D : va_G} {b0 n : Nat} {sh : mv_Sh} {I : mv_I} {R : mv_R} {m L i : Nat} {w : Nat → Int32} (hm : ly_Mod sh R m) (hL : L ≤ 120) (hl : I m 0 = nI L) (hx : ∀ j, j < L → I (m + 1) j = w j) (h2 : I m 2 = nI i) (hi : i ≤ L) : mv_C l D b0 m6_isFigure (mv_rm 1) [.ref m] n sh I R (mv_Pi n sh R (fun r I' => r = (if i < L ∧ 48 ≤ w i ∧ w i ≤ 57 then 1 else 0) ∧ I' = I)) := mv_C.of 0 (by decide) (by simp [Value.category]) rfl (e6_isFigure hm hL hl hx h2 hi (fun _ _ h => mv_Pi.mk h))
def mt_Fr (m : Nat) (I I' : mv_I) : Prop := (∀ b, b ≠ m → I' b = I b) ∧ ∀ k, k ≠ 2 → k ≠ 3 → k ≠ 4 → k ≠ 5 → k ≠ 6 → I' m k = I m k
theorem mt_Fr.rf {m : Nat} {I : mv_I} : mt_Fr m I I := ⟨fun _ _ => rfl, fun _ _ _ _ _ _ => rfl⟩
theorem mt_Fr.tr {m : Nat} {I I1 I2 : mv_I} (h : mt_Fr m I I1) (h2 : mt_Fr m I1 I2) : mt_Fr m I I2 := ⟨fun b hb => (h2.1 b hb).trans (h.1 b hb), fun k a1 a2 a3 a4 a5 => (h2.2 k a1 a2 a3 a4 a5).trans (h.2 k a1 a2 a3 a4 a5)⟩
theorem mt_Fr.up {m k : Nat} {I I1 : mv_I} {v : Int32} (h : mt_Fr m I I1) (hk : 2 ≤ k ∧ k ≤ 6) : mt_Fr m I (mv_up I1 m k v) := ⟨fun b hb => by rw [mv_upN b hb]; exact h.1 b hb, fun j a1 a2 a3 a4 a5 => by
  have : ¬ j = k := by omega
  simp only [mv_up, this, and_false, if_false]
  exact h.2 j a1 a2 a3 a4 a5⟩
set_option maxHeartbeats 4000000 in
set_option maxRecDepth 100000 in
theorem e6_blanks {l : Launch} {D : va_G} {b0 n : Nat} {sh : mv_Sh} {I : mv_I} {R : mv_R} {Q : mv_Q} {m L i : Nat} {w : Nat → Int32} (hm : ly_Mod sh R m) (hL : L ≤ 120) (hl : I m 0 = nI L) (hx : ∀ j, j < L → I (m + 1) j = w j) (h2 : I m 2 = nI i) (hi : i ≤ L) (hQ : ∀ I', (I' m 2 = nI (tk_s w L i) ∧ (∀ b, b ≠ m → I' b = I b) ∧ (∀ k, k ≠ 2 → I' m k = I m k)) → Q none n sh I' R) : mv_E l D b0 m6_blanks (mv_rm 0) Q 0 [.ref m] [] 0 0 n sh I R := by
  have l1 : ∀ (f j : Nat) (J : mv_I), L < j + f → j ≤ L → (∀ b, b ≠ m → J b = I b) → (∀ k, k ≠ 2 → J m k = I m k) → J m 2 = nI j → tx_bl w L f j = tk_s w L i → mv_E l D b0 m6_blanks (mv_rm 0) Q 0 [.ref m] [] 0 0 n sh J R := by
    intro f
    induction f with
    | zero => intro j J h1 h2; omega
    | succ f ih =>
      intro j J h1 h2 f1 f2 f4 f6
      have hJx : ∀ j, j < L → J (m + 1) j = w j := fun j hj => by rw [f1 _ (by omega)]; exact hx j hj
      have stop : ¬ (j < L ∧ w j = 32) → mv_E l D b0 m6_blanks (mv_rm 0) Q 38 [.ref m] [] 0 0 n sh J R := by
        intro q
        refine mv_vret (pc := 38) dX6_blanks_38 rfl (by decide) (by decide) (hQ _ ⟨?_, f1, f2⟩)
        rw [f4, ← f6, tx_bl, if_neg q]
      refine mv_aload_n (pc := 0) dX6_blanks_0 rfl ?_
      refine mv_getIx (pc := 1) (x := nI j) dX6_blanks_1 fl6_88 rfl (congrArg Prod.fst hm.o) f4 ?_
      refine mv_aload_n (pc := 4) dX6_blanks_4 rfl ?_
      refine mv_getIx (pc := 5) (x := nI L) dX6_blanks_5 fl6_84 rfl (congrArg Prod.fst hm.o) ((f2 0 (by decide)).trans hl) ?_
      refine mv_icmp_ge (pc := 8) (tgt := 38) dX6_blanks_8 (by decide) (fun hb => ?_) (fun hb => ?_)
      · exact stop (fun q => absurd hb (nI_ge q.1 (by omega)))
      · have hjL : j < L := by
          rcases Nat.lt_or_ge j L with q | q
          · exact q
          · exact absurd (nI_le q (by omega)) hb
        refine mv_aload_n (pc := 11) dX6_blanks_11 rfl ?_
        refine mv_getR (pc := 12) (q := m + 1) dX6_blanks_12 fl6_7 (fun _ _ => rfl) (congrArg Prod.fst hm.o) hm.f1 ?_
        refine mv_aload_n (pc := 15) dX6_blanks_15 rfl ?_
        refine mv_getIx (pc := 16) (x := nI j) dX6_blanks_16 fl6_88 rfl (congrArg Prod.fst hm.o) f4 ?_
        refine mv_ialdx (pc := 19) (x := w j) (k := j) dX6_blanks_19 hm.g1 rfl (by omega) (hJx j hjL) ?_
        refine mv_bipush (pc := 20) (v := 32) dX6_blanks_20 (by decide) ?_
        refine mv_icmp_ne (pc := 22) (tgt := 38) dX6_blanks_22 (by decide) (fun hb2 => ?_) (fun hb2 => ?_)
        · exact stop (fun q => hb2 q.2)
        · refine mv_aload_n (pc := 25) dX6_blanks_25 rfl ?_
          refine mv_dup (pc := 26) dX6_blanks_26 rfl ?_
          refine mv_getIx (pc := 27) (x := nI j) dX6_blanks_27 fl6_88 rfl (congrArg Prod.fst hm.o) f4 ?_
          refine mv_iconst (pc := 30) (v := 1) dX6_blanks_30 (by decide) ?_
          refine mv_iadd (pc := 31) dX6_blanks_31 ?_
          refine mv_putI (pc := 32) dX6_blanks_32 fl6_88 rfl rfl (congrArg Prod.fst hm.o) ?_
          refine mv_goto (pc := 35) (tgt := 0) dX6_blanks_35 (by decide) ?_
          refine ih (j + 1) _ (by omega) (by omega) ?_ ?_ ?_ ?_
          · intro b hb'; rw [mv_upN _ hb']; exact f1 b hb'
          · intro k hk; simp only [mv_up, hk, and_false, if_false]; exact f2 k hk
          · rw [mv_upe, nI_1]
          · rw [← f6, tx_bl, if_pos ⟨hjL, hb2⟩]
  exact l1 (L + 1) i I (by omega) hi (fun _ _ => rfl) (fun _ _ => rfl) h2 rfl
theorem c6_blanks {l : Launch} {D : va_G} {b0 n : Nat} {sh : mv_Sh} {I : mv_I} {R : mv_R} {m L i : Nat} {w : Nat → Int32} (hm : ly_Mod sh R m) (hL : L ≤ 120) (hl : I m 0 = nI L) (hx : ∀ j, j < L → I (m + 1) j = w j) (h2 : I m 2 = nI i) (hi : i ≤ L) : mv_C l D b0 m6_blanks (mv_rm 0) [.ref m] n sh I R (mv_Pv n sh R (fun I' => I' m 2 = nI (tk_s w L i) ∧ (∀ b, b ≠ m → I' b = I b) ∧ (∀ k, k ≠ 2 → I' m k = I m k))) := mv_C.of 0 (by decide) (by simp [Value.category]) rfl (e6_blanks hm hL hl hx h2 hi (fun _ h => mv_Pv.mk h))
def mt_A (I : mv_I) (m : Nat) (w : Nat → Int32) (L i : Nat) : Prop := I m 2 = nI (tk_e w L i) ∧ I m 3 = nI (tk_s w L i) ∧ I m 4 = tk_m (tk_k w L i) ∧ (tk_k w L i = -2 → I m 5 = nI (tk_v w L i) ∧ tk_v w L i ≤ 99)
theorem tk_s_s {w : Nat → Int32} {L : Nat} : ∀ f i, i ≤ L → L < i + f → ¬ (tx_bl w L f i < L ∧ w (tx_bl w L f i) = 32)
  | 0, i, h1, h2 => by omega
  | f + 1, i, h1, h2 => by
    unfold tx_bl
    split
    · rename_i q
      exact tk_s_s f (i + 1) q.1 (by omega)
    · rename_i q
      exact q
set_option maxHeartbeats 4000000 in
set_option maxRecDepth 100000 in
theorem e6_next {l : Launch} {D : va_G} {b0 n : Nat} {sh : mv_Sh} {I : mv_I} {R : mv_R} {Q : mv_Q} {m L i : Nat} {w : Nat → Int32} (hm : ly_Mod sh R m) (hw : tx_W w L) (hl : I m 0 = nI L) (hx : ∀ j, j < L → I (m + 1) j = w j) (h2 : I m 2 = nI i) (hi : i ≤ L) (hQ : ∀ I', (mt_A I' m w L i ∧ mt_Fr m I I') → Q none n sh I' R) : mv_E l D b0 m6_next (mv_rm 2) Q 0 [.ref m] [] 0 0 n sh I R := by
  have hL := hw.1
  have hs := tk_s_le (w := w) hi
  refine mv_aload_n (pc := 0) dX6_next_0 rfl ?_
  refine mv_cVv (pc := 1) dX6_next_1 lk6_91 (congrArg Prod.fst hm.o) (c6_blanks hm hL hl hx h2 hi) rfl rfl (Nat.le_of_ble_eq_true rfl) (by decide) (by decide) (fun J ⟨j1, j2, j3⟩ => ?_)
  have fJ : mt_Fr m I J := ⟨j2, fun k a1 _ _ _ _ => j3 k a1⟩
  have ek0 : tk_k w L i = if tk_s w L i = L then -1 else if 48 ≤ w (tk_s w L i) ∧ w (tk_s w L i) ≤ 57 then (if 99 < (tk_d w L i).2 ∨ (w (tk_s w L i) = 48 ∧ 1 < (tk_d w L i).1 - tk_s w L i) then -3 else -2) else w (tk_s w L i) := rfl
  have ee0 : tk_e w L i = if tk_s w L i = L then L else if 48 ≤ w (tk_s w L i) ∧ w (tk_s w L i) ≤ 57 then (tk_d w L i).1 else tk_s w L i + 1 := rfl
  have hdlt := fun a b => tk_d_lt (w := w) (L := L) (i := i) hi a b
  have ed0 : tk_d w L i = tx_dg w L (L + 1) (tk_s w L i) 0 := rfl
  unfold mt_A at hQ
  generalize hsv : tk_s w L i = s at hs j1 ek0 ee0 hdlt hQ ed0
  have hJ0 : J m 0 = nI L := (j3 0 (by decide)).trans hl
  have hJx : ∀ j, j < L → J (m + 1) j = w j := fun j hj => by rw [j2 _ (by omega)]; exact hx j hj
  refine mv_aload_n (pc := 4) dX6_next_4 rfl ?_
  refine mv_aload_n (pc := 5) dX6_next_5 rfl ?_
  refine mv_getIx (pc := 6) (x := nI s) dX6_next_6 fl6_88 rfl (congrArg Prod.fst hm.o) j1 ?_
  refine mv_putI (pc := 9) dX6_next_9 fl6_94 rfl rfl (congrArg Prod.fst hm.o) ?_
  refine mv_aload_n (pc := 12) dX6_next_12 rfl ?_
  refine mv_getIx (pc := 13) (x := nI s) dX6_next_13 fl6_88 rfl (congrArg Prod.fst hm.o) (by simp [mv_up, j1]) ?_
  refine mv_aload_n (pc := 16) dX6_next_16 rfl ?_
  refine mv_getIx (pc := 17) (x := nI L) dX6_next_17 fl6_84 rfl (congrArg Prod.fst hm.o) (by simp [mv_up, hJ0]) ?_
  refine mv_icmp_ne (pc := 20) (tgt := 31) dX6_next_20 (by decide) (fun hb => ?_) (fun hb => ?_)
  · have hsL : s ≠ L := fun q => hb (by rw [q])
    rw [if_neg hsL] at ek0 ee0
    refine mv_aload_n (pc := 31) dX6_next_31 rfl ?_
    refine mv_cVi (pc := 32) dX6_next_32 lk6_100 (congrArg Prod.fst hm.o) (c6_isFigure (w := w) hm hL (by simp [mv_up, hJ0]) (fun j hj => by rw [mv_upN _ (by omega)]; exact hJx j hj) (i := s) (by simp [mv_up, j1]) hs.2) rfl rfl (Nat.le_of_ble_eq_true rfl) (by decide) (by decide) (fun r J' ⟨e1, e2⟩ => ?_)
    subst e1 e2
    refine mv_if_eq (pc := 35) (tgt := 152) dX6_next_35 (by decide) (fun hb2 => ?_) (fun hb2 => ?_)
    · have nd : ¬ (48 ≤ w s ∧ w s ≤ 57) := fun q => by rw [if_pos ⟨by omega, q⟩] at hb2; exact absurd hb2 (by decide)
      rw [if_neg nd] at ek0 ee0
      obtain ⟨k, k1, k2⟩ := hw.2 s (by omega)
      have kn1 : ¬ (nI k = -1) := fun q => by
        have z1 := nI_toInt (n := k) (by omega)
        rw [q] at z1
        have : (-1 : Int32).toInt = -1 := by decide
        omega
      have kn2 : ¬ (nI k = -2) := fun q => by
        have z1 := nI_toInt (n := k) (by omega)
        rw [q] at z1
        have : (-2 : Int32).toInt = -2 := by decide
        omega
      have etm : tk_m (tk_k w L i) = if tk_tb (nI k) = true then nI k else -2 := by
        rw [ek0, k2]
        unfold tk_m
        rw [if_neg kn1, if_neg kn2]
      have fin : ∀ v, v = tk_m (tk_k w L i) → mv_E l D b0 m6_next (mv_rm 2) Q 182 [.ref m] [.int v, .ref m] 0 0 n sh (mv_up J m 3 (nI s)) R := by
        intro v hv
        refine mv_putI (pc := 182) dX6_next_182 fl6_97 rfl rfl (congrArg Prod.fst hm.o) ?_
        refine mv_aload_n (pc := 185) dX6_next_185 rfl ?_
        refine mv_dup (pc := 186) dX6_next_186 rfl ?_
        refine mv_getIx (pc := 187) (x := nI s) dX6_next_187 fl6_88 rfl (congrArg Prod.fst hm.o) (by simp [mv_up, j1]) ?_
        refine mv_iconst (pc := 190) (v := 1) dX6_next_190 (by decide) ?_
        refine mv_iadd (pc := 191) dX6_next_191 ?_
        refine mv_putI (pc := 192) dX6_next_192 fl6_88 rfl rfl (congrArg Prod.fst hm.o) ?_
        refine mv_vret (pc := 195) dX6_next_195 rfl (by decide) (by decide) (hQ _ ⟨⟨?_, ?_, ?_, ?_⟩, ((fJ.up (by omega)).up (by omega)).up (by omega)⟩)
        · rw [ee0, mv_upe, nI_1]
        · simp [mv_up]
        · rw [← hv]; simp [mv_up]
        · intro q; rw [ek0, k2] at q; exact absurd q kn2
      refine mv_aload_n (pc := 152) dX6_next_152 rfl ?_
      refine mv_aload_n (pc := 153) dX6_next_153 rfl ?_
      refine mv_getR (pc := 154) (q := m + 1) dX6_next_154 fl6_7 (fun _ _ => rfl) (congrArg Prod.fst hm.o) hm.f1 ?_
      refine mv_aload_n (pc := 157) dX6_next_157 rfl ?_
      refine mv_getIx (pc := 158) (x := nI s) dX6_next_158 fl6_88 rfl (congrArg Prod.fst hm.o) (by simp [mv_up, j1]) ?_
      refine mv_ialdx (pc := 161) (x := nI k) (k := s) dX6_next_161 hm.g1 rfl (by omega) (by rw [mv_upN _ (by omega), hJx s (by omega)]; exact k2) ?_
      refine mv_cSi (pc := 162) dX6_next_162 lk6_107 (c6_isToken k1) rfl rfl (Nat.le_of_ble_eq_true rfl) (by decide) (by decide) (fun r J' ⟨e1, e2⟩ => ?_)
      subst e1 e2
      refine mv_if_eq (pc := 165) (tgt := 180) dX6_next_165 (by decide) (fun hb3 => ?_) (fun hb3 => ?_)
      · have : ¬ tk_tb (nI k) = true := fun q => by rw [if_pos q] at hb3; exact absurd hb3 (by decide)
        refine mv_bipush (pc := 180) (v := -2) dX6_next_180 (by decide) ?_
        exact fin _ (by rw [etm, if_neg this])
      · have : tk_tb (nI k) = true := Classical.byContradiction fun q => hb3 (by rw [if_neg q])
        refine mv_aload_n (pc := 168) dX6_next_168 rfl ?_
        refine mv_getR (pc := 169) (q := m + 1) dX6_next_169 fl6_7 (fun _ _ => rfl) (congrArg Prod.fst hm.o) hm.f1 ?_
        refine mv_aload_n (pc := 172) dX6_next_172 rfl ?_
        refine mv_getIx (pc := 173) (x := nI s) dX6_next_173 fl6_88 rfl (congrArg Prod.fst hm.o) (by simp [mv_up, j1]) ?_
        refine mv_ialdx (pc := 176) (x := nI k) (k := s) dX6_next_176 hm.g1 rfl (by omega) (by rw [mv_upN _ (by omega), hJx s (by omega)]; exact k2) ?_
        refine mv_goto (pc := 177) (tgt := 182) dX6_next_177 (by decide) ?_
        exact fin _ (by rw [etm, if_pos this])
    · have hdg : s < L ∧ 48 ≤ w s ∧ w s ≤ 57 := Classical.byContradiction fun q => hb2 (by rw [if_neg q])
      rw [if_pos hdg.2] at ek0 ee0
      -- behind the figures
      have fin : ∀ (J2 : mv_I) (e v : Nat), mt_Fr m I J2 → J2 m 2 = nI e → J2 m 3 = nI s → J2 m 5 = nI v → v ≤ 999 → e ≤ L → s ≤ e → tk_d w L i = (e, v) → mv_E l D b0 m6_next (mv_rm 2) Q 103 [.ref m] [] 0 0 n sh J2 R := by
        intro J2 e v f1 f2 f3 f5 f9 feL fse fd
        rw [fd] at ek0 ee0
        have hJ2x : ∀ j, j < L → J2 (m + 1) j = w j := fun j hj => by rw [f1.1 _ (by omega)]; exact hx j hj
        have ev : tk_v w L i = v := by unfold tk_v; rw [fd]
        have put : ∀ y, y = tk_m (tk_k w L i) → mv_E l D b0 m6_next (mv_rm 2) Q 146 [.ref m] [.int y, .ref m] 0 0 n sh J2 R := by
          intro y hy
          refine mv_putI (pc := 146) dX6_next_146 fl6_97 rfl rfl (congrArg Prod.fst hm.o) ?_
          refine mv_goto (pc := 149) (tgt := 195) dX6_next_149 (by decide) ?_
          refine mv_vret (pc := 195) dX6_next_195 rfl (by decide) (by decide) (hQ _ ⟨⟨?_, ?_, ?_, ?_⟩, f1.up (by omega)⟩)
          · rw [ee0]; simp [mv_up, f2]
          · simp [mv_up, f3]
          · rw [← hy]; simp [mv_up]
          · intro q
            rw [ek0] at q
            have hv : ¬ 99 < v := fun z => by rw [if_pos (Or.inl z)] at q; exact absurd q (by decide)
            rw [ev]
            exact ⟨by simp [mv_up, f5], by omega⟩
        have bad : (99 < v ∨ (w s = 48 ∧ 1 < e - s)) → mv_E l D b0 m6_next (mv_rm 2) Q 140 [.ref m] [.ref m] 0 0 n sh J2 R := by
          intro q
          refine mv_bipush (pc := 140) (v := -2) dX6_next_140 (by decide) ?_
          refine mv_goto (pc := 142) (tgt := 146) dX6_next_142 (by decide) ?_
          exact put _ (by rw [ek0, if_pos q]; decide)
        have good : ¬ (99 < v ∨ (w s = 48 ∧ 1 < e - s)) → mv_E l D b0 m6_next (mv_rm 2) Q 145 [.ref m] [.ref m] 0 0 n sh J2 R := by
          intro q
          refine mv_iconst (pc := 145) (v := 0) dX6_next_145 (by decide) ?_
          exact put _ (by rw [ek0, if_neg q]; decide)
        refine mv_aload_n (pc := 103) dX6_next_103 rfl ?_
        refine mv_aload_n (pc := 104) dX6_next_104 rfl ?_
        refine mv_getIx (pc := 105) (x := nI v) dX6_next_105 fl6_104 rfl (congrArg Prod.fst hm.o) f5 ?_
        refine mv_bipush (pc := 108) (v := 99) dX6_next_108 (by decide) ?_
        refine mv_icmp_gt (pc := 110) (tgt := 140) dX6_next_110 (by decide) (fun hb3 => ?_) (fun hb3 => ?_)
        · exact bad (Or.inl ((nI_ltI (a := 99) (by decide) (by omega)).mp hb3))
        · have nv : ¬ 99 < v := fun q => hb3 (nI_lt (a := 99) q (by omega))
          refine mv_aload_n (pc := 113) dX6_next_113 rfl ?_
          refine mv_getR (pc := 114) (q := m + 1) dX6_next_114 fl6_7 (fun _ _ => rfl) (congrArg Prod.fst hm.o) hm.f1 ?_
          refine mv_aload_n (pc := 117) dX6_next_117 rfl ?_
          refine mv_getIx (pc := 118) (x := nI s) dX6_next_118 fl6_94 rfl (congrArg Prod.fst hm.o) f3 ?_
          refine mv_ialdx (pc := 121) (x := w s) (k := s) dX6_next_121 hm.g1 rfl (by omega) (hJ2x s hdg.1) ?_
          refine mv_bipush (pc := 122) (v := 48) dX6_next_122 (by decide) ?_
          refine mv_icmp_ne (pc := 124) (tgt := 145) dX6_next_124 (by decide) (fun hb4 => ?_) (fun hb4 => ?_)
          · exact good (fun q => q.elim nv (fun z => hb4 z.1))
          · refine mv_aload_n (pc := 127) dX6_next_127 rfl ?_
            refine mv_getIx (pc := 128) (x := nI e) dX6_next_128 fl6_88 rfl (congrArg Prod.fst hm.o) f2 ?_
            refine mv_aload_n (pc := 131) dX6_next_131 rfl ?_
            refine mv_getIx (pc := 132) (x := nI s) dX6_next_132 fl6_94 rfl (congrArg Prod.fst hm.o) f3 ?_
            refine mv_isub (pc := 135) dX6_next_135 ?_
            refine mv_top (y := nI (e - s)) (by rw [show nI e = nI (e - s) + nI s by rw [nI_add]; congr 1; omega, Int32.add_sub_cancel]) ?_
            refine mv_iconst (pc := 136) (v := 1) dX6_next_136 (by decide) ?_
            refine mv_icmp_le (pc := 137) (tgt := 145) dX6_next_137 (by decide) (fun hb5 => ?_) (fun hb5 => ?_)
            · have := (nI_leI (b := 1) (by omega) (by decide)).mp hb5
              exact good (fun q => q.elim nv (fun z => by omega))
            · have : ¬ e - s ≤ 1 := fun q => hb5 (nI_le (b := 1) q (by decide))
              exact bad (Or.inr ⟨hb4, by omega⟩)
      have l2 : ∀ (f j v : Nat) (J2 : mv_I), L < j + f → j ≤ L → s ≤ j → v ≤ 999 → mt_Fr m I J2 → J2 m 2 = nI j → J2 m 3 = nI s → J2 m 5 = nI v → tk_d w L i = tx_dg w L f j v → mv_E l D b0 m6_next (mv_rm 2) Q 43 [.ref m] [] 0 0 n sh J2 R := by
        intro f
        induction f with
        | zero => intro j v J2 h1 h2; omega
        | succ f ih =>
          intro j v J2 h1 h2 hsj hv9 f1 f2 f3 f5 f6
          have hJ20 : J2 m 0 = nI L := (f1.2 0 (by decide) (by decide) (by decide) (by decide) (by decide)).trans hl
          have hJ2x : ∀ j, j < L → J2 (m + 1) j = w j := fun j hj => by rw [f1.1 _ (by omega)]; exact hx j hj
          refine mv_aload_n (pc := 43) dX6_next_43 rfl ?_
          refine mv_cVi (pc := 44) dX6_next_44 lk6_100 (congrArg Prod.fst hm.o) (c6_isFigure hm hL hJ20 hJ2x f2 h2) rfl rfl (Nat.le_of_ble_eq_true rfl) (by decide) (by decide) (fun r J' ⟨e1, e2⟩ => ?_)
          subst e1 e2
          refine mv_if_eq (pc := 47) (tgt := 103) dX6_next_47 (by decide) (fun hb3 => ?_) (fun hb3 => ?_)
          · have nd : ¬ (j < L ∧ 48 ≤ w j ∧ w j ≤ 57) := fun q => by rw [if_pos q] at hb3; exact absurd hb3 (by decide)
            exact fin _ j v f1 f2 f3 f5 hv9 h2 hsj (by rw [f6, tx_dg, if_neg nd])
          · have hd : j < L ∧ 48 ≤ w j ∧ w j ≤ 57 := Classical.byContradiction fun q => hb3 (by rw [if_neg q])
            obtain ⟨d, d9, dw, dn⟩ := tk_dig hw hd.1 hd.2
            have put : ∀ y, y = nI (if 99 < v then v else 10 * v + (w j).toNatClampNeg - 48) → mv_E l D b0 m6_next (mv_rm 2) Q 87 [.ref m] [.int y, .ref m] 0 0 n sh J' R := by
              intro y hy
              refine mv_putI (pc := 87) dX6_next_87 fl6_104 rfl rfl (congrArg Prod.fst hm.o) ?_
              refine mv_aload_n (pc := 90) dX6_next_90 rfl ?_
              refine mv_dup (pc := 91) dX6_next_91 rfl ?_
              refine mv_getIx (pc := 92) (x := nI j) dX6_next_92 fl6_88 rfl (congrArg Prod.fst hm.o) (by simp [mv_up, f2]) ?_
              refine mv_iconst (pc := 95) (v := 1) dX6_next_95 (by decide) ?_
              refine mv_iadd (pc := 96) dX6_next_96 ?_
              refine mv_putI (pc := 97) dX6_next_97 fl6_88 rfl rfl (congrArg Prod.fst hm.o) ?_
              refine mv_goto (pc := 100) (tgt := 43) dX6_next_100 (by decide) ?_
              refine ih (j + 1) (if 99 < v then v else 10 * v + (w j).toNatClampNeg - 48) _ (by omega) (by omega) (by omega) (by rw [dn]; split <;> omega) ((f1.up (by omega)).up (by omega)) ?_ ?_ ?_ ?_
              · rw [mv_upe, nI_1]
              · simp [mv_up, f3]
              · rw [← hy]; simp [mv_up]
              · rw [f6, tx_dg, if_pos hd]
            refine mv_aload_n (pc := 50) dX6_next_50 rfl ?_
            refine mv_aload_n (pc := 51) dX6_next_51 rfl ?_
            refine mv_getIx (pc := 52) (x := nI v) dX6_next_52 fl6_104 rfl (congrArg Prod.fst hm.o) f5 ?_
            refine mv_bipush (pc := 55) (v := 99) dX6_next_55 (by decide) ?_
            refine mv_icmp_le (pc := 57) (tgt := 67) dX6_next_57 (by decide) (fun hb4 => ?_) (fun hb4 => ?_)
            · have nv : ¬ 99 < v := fun q => absurd hb4 (nI_ge (a := 99) q (by omega))
              refine mv_bipush (pc := 67) (v := 10) dX6_next_67 (by decide) ?_
              refine mv_aload_n (pc := 69) dX6_next_69 rfl ?_
              refine mv_getIx (pc := 70) (x := nI v) dX6_next_70 fl6_104 rfl (congrArg Prod.fst hm.o) f5 ?_
              refine mv_imul (pc := 73) dX6_next_73 ?_
              refine mv_aload_n (pc := 74) dX6_next_74 rfl ?_
              refine mv_getR (pc := 75) (q := m + 1) dX6_next_75 fl6_7 (fun _ _ => rfl) (congrArg Prod.fst hm.o) hm.f1 ?_
              refine mv_aload_n (pc := 78) dX6_next_78 rfl ?_
              refine mv_getIx (pc := 79) (x := nI j) dX6_next_79 fl6_88 rfl (congrArg Prod.fst hm.o) f2 ?_
              refine mv_ialdx (pc := 82) (x := nI (48 + d)) (k := j) dX6_next_82 hm.g1 rfl (by omega) ((hJ2x j hd.1).trans dw) ?_
              refine mv_iadd (pc := 83) dX6_next_83 ?_
              refine mv_bipush (pc := 84) (v := 48) dX6_next_84 (by decide) ?_
              refine mv_isub (pc := 86) dX6_next_86 ?_
              refine put _ ?_
              rw [if_neg nv, dn]
              show nI 10 * nI v + nI (48 + d) - nI 48 = _
              rw [nI_mul, nI_add, show 10 * v + (48 + d) = (10 * v + d) + 48 by omega, ← nI_add (10 * v + d) 48, Int32.add_sub_cancel]
              congr 1
            · have hv : 99 < v := by
                rcases Nat.lt_or_ge 99 v with q | q
                · exact q
                · exact absurd (nI_le (b := 99) q (by decide)) hb4
              refine mv_aload_n (pc := 60) dX6_next_60 rfl ?_
              refine mv_getIx (pc := 61) (x := nI v) dX6_next_61 fl6_104 rfl (congrArg Prod.fst hm.o) f5 ?_
              refine mv_goto (pc := 64) (tgt := 87) dX6_next_64 (by decide) ?_
              exact put _ (by rw [if_pos hv])
      refine mv_aload_n (pc := 38) dX6_next_38 rfl ?_
      refine mv_iconst (pc := 39) (v := 0) dX6_next_39 (by decide) ?_
      refine mv_putI (pc := 40) dX6_next_40 fl6_104 rfl rfl (congrArg Prod.fst hm.o) ?_
      refine l2 (L + 1) s 0 _ (by omega) hs.2 (by omega) (by omega) ((fJ.up (by omega)).up (by omega)) ?_ ?_ ?_ ed0
      · simp [mv_up, j1]
      · simp [mv_up]
      · simp [mv_up]; rfl
  · have hsL : s = L := (nI_eq (by omega) (by omega)).mp hb
    rw [if_pos hsL] at ek0 ee0
    refine mv_aload_n (pc := 23) dX6_next_23 rfl ?_
    refine mv_iconst (pc := 24) (v := -1) dX6_next_24 (by decide) ?_
    refine mv_putI (pc := 25) dX6_next_25 fl6_97 rfl rfl (congrArg Prod.fst hm.o) ?_
    refine mv_goto (pc := 28) (tgt := 195) dX6_next_28 (by decide) ?_
    refine mv_vret (pc := 195) dX6_next_195 rfl (by decide) (by decide) (hQ _ ⟨⟨?_, ?_, ?_, ?_⟩, (fJ.up (by omega)).up (by omega)⟩)
    · rw [ee0, ← hsL]; simp [mv_up, j1]
    · simp [mv_up]
    · rw [ek0]; simp [mv_up]; decide
    · intro q; rw [ek0] at q; exact absurd q (by decide)
theorem c6_next {l : Launch} {D : va_G} {b0 n : Nat} {sh : mv_Sh} {I : mv_I} {R : mv_R} {m L i : Nat} {w : Nat → Int32} (hm : ly_Mod sh R m) (hw : tx_W w L) (hl : I m 0 = nI L) (hx : ∀ j, j < L → I (m + 1) j = w j) (h2 : I m 2 = nI i) (hi : i ≤ L) : mv_C l D b0 m6_next (mv_rm 2) [.ref m] n sh I R (mv_Pv n sh R (fun I' => mt_A I' m w L i ∧ mt_Fr m I I')) := mv_C.of 0 (by decide) (by simp [Value.category]) rfl (e6_next hm hw hl hx h2 hi (fun _ h => mv_Pv.mk h))
set_option maxHeartbeats 4000000 in
set_option maxRecDepth 100000 in
theorem e6_fails {l : Launch} {D : va_G} {b0 n : Nat} {sh : mv_Sh} {I : mv_I} {R : mv_R} {Q : mv_Q} {m s : Nat} (hm : ly_Mod sh R m) (h3 : I m 3 = nI s) (hQ : ∀ r I', (r = 0 ∧ I' = mv_up I m 6 (nI s)) → Q (some (.int r)) n sh I' R) : mv_E l D b0 m6_fails (mv_rm 0) Q 0 [.ref m] [] 0 0 n sh I R := by
  refine mv_aload_n (pc := 0) dX6_fails_0 rfl ?_
  refine mv_aload_n (pc := 1) dX6_fails_1 rfl ?_
  refine mv_getIx (pc := 2) (x := nI s) dX6_fails_2 fl6_94 rfl (congrArg Prod.fst hm.o) h3 ?_
  refine mv_putI (pc := 5) dX6_fails_5 fl6_111 rfl rfl (congrArg Prod.fst hm.o) ?_
  refine mv_iconst (pc := 8) (v := 0) dX6_fails_8 (by decide) ?_
  exact mv_zret (pc := 9) dX6_fails_9 rfl (by rfl) (by decide) (by decide) (hQ _ _ ⟨rfl, rfl⟩)
theorem c6_fails {l : Launch} {D : va_G} {b0 n : Nat} {sh : mv_Sh} {I : mv_I} {R : mv_R} {m s : Nat} (hm : ly_Mod sh R m) (h3 : I m 3 = nI s) : mv_C l D b0 m6_fails (mv_rm 0) [.ref m] n sh I R (mv_Pi n sh R (fun r I' => r = 0 ∧ I' = mv_up I m 6 (nI s))) := mv_C.of 0 (by decide) (by simp [Value.category]) rfl (e6_fails hm h3 (fun _ _ h => mv_Pi.mk h))
theorem tk_m0 {k : Int32} : tk_m k = 0 ↔ k = -2 := by
  unfold tk_m
  constructor
  · intro q
    split at q
    · exact absurd q (by decide)
    · split at q
      · assumption
      · split at q
        · rename_i h
          rw [q] at h
          exact absurd h (by decide)
        · exact absurd q (by decide)
  · intro q
    rw [q]; decide
theorem tk_mT {k c : Int32} (hc : tk_tb c = true) (h0 : c ≠ -1 ∧ c ≠ 0 ∧ c ≠ -2) : tk_m k = c ↔ k = c := by
  unfold tk_m
  constructor
  · intro q
    split at q
    · exact absurd q.symm h0.1
    · split at q
      · exact absurd q.symm h0.2.1
      · split at q
        · exact q
        · exact absurd q.symm h0.2.2
  · intro q
    subst q
    rw [if_neg h0.1, if_neg h0.2.2, if_pos hc]
set_option maxHeartbeats 4000000 in
set_option maxRecDepth 100000 in
theorem e6_number {l : Launch} {D : va_G} {b0 n : Nat} {sh : mv_Sh} {I : mv_I} {R : mv_R} {Q : mv_Q} {m L i lo up : Nat} {w : Nat → Int32} (hm : ly_Mod sh R m) (hw : tx_W w L) (hl : I m 0 = nI L) (hx : ∀ j, j < L → I (m + 1) j = w j) (h2 : I m 2 = nI i) (hi : i ≤ L) (hlo : lo ≤ 99) (hhi : up ≤ 99) (hQ : ∀ r I', (r = (if tk_k w L i = -2 ∧ lo ≤ tk_v w L i ∧ tk_v w L i ≤ up then 1 else 0) ∧ mt_A I' m w L i ∧ mt_Fr m I I' ∧ (¬ (tk_k w L i = -2 ∧ lo ≤ tk_v w L i ∧ tk_v w L i ≤ up) → I' m 6 = nI (tk_s w L i))) → Q (some (.int r)) n sh I' R) : mv_E l D b0 m6_number (mv_rm 3) Q 0 [.ref m, .int (nI lo), .int (nI up)] [] 0 0 n sh I R := by
  refine mv_aload_n (pc := 0) dX6_number_0 rfl ?_
  refine mv_cVv (pc := 1) dX6_number_1 lk6_114 (congrArg Prod.fst hm.o) (c6_next hm hw hl hx h2 hi) rfl rfl (Nat.le_of_ble_eq_true rfl) (by decide) (by decide) (fun J ⟨hA, hF⟩ => ?_)
  have no : ¬ (tk_k w L i = -2 ∧ lo ≤ tk_v w L i ∧ tk_v w L i ≤ up) → mv_E l D b0 m6_number (mv_rm 3) Q 23 [.ref m, .int (nI lo), .int (nI up)] [] 0 0 n sh J R := by
    intro q
    refine mv_aload_n (pc := 23) dX6_number_23 rfl ?_
    refine mv_cVi (pc := 24) dX6_number_24 lk6_117 (congrArg Prod.fst hm.o) (c6_fails hm hA.2.1) rfl rfl (Nat.le_of_ble_eq_true rfl) (by decide) (by decide) (fun r J2 ⟨e1, e2⟩ => ?_)
    subst e1 e2
    refine mv_if_eq (pc := 27) (tgt := 34) dX6_number_27 (by decide) (fun hb => ?_) (fun hb => ?_)
    · refine mv_iconst (pc := 34) (v := 0) dX6_number_34 (by decide) ?_
      refine mv_zret (pc := 35) dX6_number_35 rfl (by rfl) (by decide) (by decide) (hQ _ _ ⟨by rw [if_neg q], ?_, hF.up (by omega), fun _ => mv_upe⟩)
      obtain ⟨a1, a2, a3, a4⟩ := hA
      exact ⟨by simp [mv_up, a1], by simp [mv_up, a2], by simp [mv_up, a3], by simpa [mv_up] using a4⟩
    · exact absurd rfl hb
  have yes : (tk_k w L i = -2 ∧ lo ≤ tk_v w L i ∧ tk_v w L i ≤ up) → mv_E l D b0 m6_number (mv_rm 3) Q 30 [.ref m, .int (nI lo), .int (nI up)] [] 0 0 n sh J R := by
    intro q
    refine mv_iconst (pc := 30) (v := 1) dX6_number_30 (by decide) ?_
    refine mv_goto (pc := 31) (tgt := 35) dX6_number_31 (by decide) ?_
    exact mv_zret (pc := 35) dX6_number_35 rfl (by rfl) (by decide) (by decide) (hQ _ _ ⟨by rw [if_pos q], hA, hF, fun z => absurd q z⟩)
  refine mv_aload_n (pc := 4) dX6_number_4 rfl ?_
  refine mv_getIx (pc := 5) (x := tk_m (tk_k w L i)) dX6_number_5 fl6_97 rfl (congrArg Prod.fst hm.o) hA.2.2.1 ?_
  refine mv_if_ne (pc := 8) (tgt := 23) dX6_number_8 (by decide) (fun hb => ?_) (fun hb => ?_)
  · exact no (fun q => hb (tk_m0.mpr q.1))
  · have hk := tk_m0.mp hb
    obtain ⟨h5, hv⟩ := hA.2.2.2 hk
    refine mv_aload_n (pc := 11) dX6_number_11 rfl ?_
    refine mv_getIx (pc := 12) (x := nI (tk_v w L i)) dX6_number_12 fl6_104 rfl (congrArg Prod.fst hm.o) h5 ?_
    refine mv_iload_n (pc := 15) dX6_number_15 rfl ?_
    refine mv_iload_n (pc := 16) dX6_number_16 rfl ?_
    refine mv_cSi (pc := 17) dX6_number_17 lk6_80 (c6_in trivial) rfl rfl (Nat.le_of_ble_eq_true rfl) (by decide) (by decide) (fun r J' ⟨e1, e2⟩ => ?_)
    subst e1 e2
    have ein : (nI lo ≤ nI (tk_v w L i) ∧ nI (tk_v w L i) ≤ nI up) ↔ (lo ≤ tk_v w L i ∧ tk_v w L i ≤ up) := by rw [nI_leI (by omega) (by omega), nI_leI (by omega) (by omega)]
    refine mv_if_ne (pc := 20) (tgt := 30) dX6_number_20 (by decide) (fun hb2 => ?_) (fun hb2 => ?_)
    · exact yes ⟨hk, ein.mp (Classical.byContradiction fun q => hb2 (by rw [if_neg q]))⟩
    · exact no (fun q => by rw [if_pos (ein.mpr q.2)] at hb2; exact absurd hb2 (by decide))
theorem c6_number {l : Launch} {D : va_G} {b0 n : Nat} {sh : mv_Sh} {I : mv_I} {R : mv_R} {m L i lo up : Nat} {w : Nat → Int32} (hm : ly_Mod sh R m) (hw : tx_W w L) (hl : I m 0 = nI L) (hx : ∀ j, j < L → I (m + 1) j = w j) (h2 : I m 2 = nI i) (hi : i ≤ L) (hlo : lo ≤ 99) (hhi : up ≤ 99) : mv_C l D b0 m6_number (mv_rm 3) [.ref m, .int (nI lo), .int (nI up)] n sh I R (mv_Pi n sh R (fun r I' => r = (if tk_k w L i = -2 ∧ lo ≤ tk_v w L i ∧ tk_v w L i ≤ up then 1 else 0) ∧ mt_A I' m w L i ∧ mt_Fr m I I' ∧ (¬ (tk_k w L i = -2 ∧ lo ≤ tk_v w L i ∧ tk_v w L i ≤ up) → I' m 6 = nI (tk_s w L i)))) := mv_C.of 0 (by decide) (by simp [Value.category]) rfl (e6_number hm hw hl hx h2 hi hlo hhi (fun _ _ h => mv_Pi.mk h))
set_option maxHeartbeats 4000000 in
set_option maxRecDepth 100000 in
theorem e6_ends {l : Launch} {D : va_G} {b0 n : Nat} {sh : mv_Sh} {I : mv_I} {R : mv_R} {Q : mv_Q} {m L i : Nat} {w : Nat → Int32} (hm : ly_Mod sh R m) (hw : tx_W w L) (hl : I m 0 = nI L) (hx : ∀ j, j < L → I (m + 1) j = w j) (h2 : I m 2 = nI i) (hi : i ≤ L) (hQ : ∀ r I', (r = (if tk_k w L i = 59 then 1 else 0) ∧ mt_A I' m w L i ∧ mt_Fr m I I' ∧ (¬ tk_k w L i = 59 → I' m 6 = nI (tk_s w L i))) → Q (some (.int r)) n sh I' R) : mv_E l D b0 m6_ends (mv_rm 3) Q 0 [.ref m] [] 0 0 n sh I R := by
  refine mv_aload_n (pc := 0) dX6_ends_0 rfl ?_
  refine mv_cVv (pc := 1) dX6_ends_1 lk6_114 (congrArg Prod.fst hm.o) (c6_next hm hw hl hx h2 hi) rfl rfl (Nat.le_of_ble_eq_true rfl) (by decide) (by decide) (fun J ⟨hA, hF⟩ => ?_)
  refine mv_aload_n (pc := 4) dX6_ends_4 rfl ?_
  refine mv_getIx (pc := 5) (x := tk_m (tk_k w L i)) dX6_ends_5 fl6_97 rfl (congrArg Prod.fst hm.o) hA.2.2.1 ?_
  refine mv_bipush (pc := 8) (v := 59) dX6_ends_8 (by decide) ?_
  refine mv_icmp_eq (pc := 10) (tgt := 20) dX6_ends_10 (by decide) (fun hb => ?_) (fun hb => ?_)
  · have hk := (tk_mT (c := 59) (by decide) (by decide)).mp hb
    refine mv_iconst (pc := 20) (v := 1) dX6_ends_20 (by decide) ?_
    refine mv_goto (pc := 21) (tgt := 25) dX6_ends_21 (by decide) ?_
    exact mv_zret (pc := 25) dX6_ends_25 rfl (by rfl) (by decide) (by decide) (hQ _ _ ⟨by rw [if_pos hk], hA, hF, fun z => absurd hk z⟩)
  · have hk : ¬ tk_k w L i = 59 := fun q => hb ((tk_mT (c := 59) (by decide) (by decide)).mpr q)
    refine mv_aload_n (pc := 13) dX6_ends_13 rfl ?_
    refine mv_cVi (pc := 14) dX6_ends_14 lk6_117 (congrArg Prod.fst hm.o) (c6_fails hm hA.2.1) rfl rfl (Nat.le_of_ble_eq_true rfl) (by decide) (by decide) (fun r J2 ⟨e1, e2⟩ => ?_)
    subst e1 e2
    refine mv_if_eq (pc := 17) (tgt := 24) dX6_ends_17 (by decide) (fun hb2 => ?_) (fun hb2 => ?_)
    · refine mv_iconst (pc := 24) (v := 0) dX6_ends_24 (by decide) ?_
      refine mv_zret (pc := 25) dX6_ends_25 rfl (by rfl) (by decide) (by decide) (hQ _ _ ⟨by rw [if_neg hk], ?_, hF.up (by omega), fun _ => mv_upe⟩)
      obtain ⟨a1, a2, a3, a4⟩ := hA
      exact ⟨by simp [mv_up, a1], by simp [mv_up, a2], by simp [mv_up, a3], by simpa [mv_up] using a4⟩
    · exact absurd rfl hb2
theorem c6_ends {l : Launch} {D : va_G} {b0 n : Nat} {sh : mv_Sh} {I : mv_I} {R : mv_R} {m L i : Nat} {w : Nat → Int32} (hm : ly_Mod sh R m) (hw : tx_W w L) (hl : I m 0 = nI L) (hx : ∀ j, j < L → I (m + 1) j = w j) (h2 : I m 2 = nI i) (hi : i ≤ L) : mv_C l D b0 m6_ends (mv_rm 3) [.ref m] n sh I R (mv_Pi n sh R (fun r I' => r = (if tk_k w L i = 59 then 1 else 0) ∧ mt_A I' m w L i ∧ mt_Fr m I I' ∧ (¬ tk_k w L i = 59 → I' m 6 = nI (tk_s w L i)))) := mv_C.of 0 (by decide) (by simp [Value.category]) rfl (e6_ends hm hw hl hx h2 hi (fun _ _ h => mv_Pi.mk h))

