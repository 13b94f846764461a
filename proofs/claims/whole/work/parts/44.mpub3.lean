theorem ab_or0 (x : Int32) : x ||| 0 = x := Int32.or_zero
theorem ab_cs (v : Int32) (N : Nat) (hN : N < 2 ^ 31) : (∃ j, j ≤ N ∧ v = nI j) ∨ (v.toInt < 0 ∨ (N : Int) < v.toInt) := by
  by_cases h0 : v < 0
  · have q := Int32.lt_iff_toInt_lt.mp h0
    exact Or.inr (Or.inl q)
  · obtain ⟨j, j1, rfl⟩ := nI_of h0
    rw [nI_toInt j1]
    by_cases h : j ≤ N
    · exact Or.inl ⟨j, h, rfl⟩
    · exact Or.inr (Or.inr (by omega))
theorem ab_in {v : Int32} {N : Nat} (h : 0 ≤ v ∧ v ≤ nI N) (hN : N < 2 ^ 31) : ∃ j, j ≤ N ∧ v = nI j := by
  obtain ⟨j, j1, rfl⟩ := nI_of (Int32.not_lt.mpr h.1)
  exact ⟨j, (nI_leI j1 hN).mp h.2, rfl⟩
set_option maxHeartbeats 4000000 in
set_option maxRecDepth 100000 in
theorem e6_busySet {l : Launch} {D : va_G} {b0 n : Nat} {sh : mv_Sh} {I : mv_I} {R : mv_R} {Q : mv_Q} {m nt t : Nat} {π x : xs_X} (hm : ly_Mod sh R m) (h : pl_M I m nt π) (hx : rm_R I (m + 14) x) (hn : nt ≤ 8) (hn1 : 1 ≤ nt) (ht : t < 8) (hQ : ∀ r I', (r = xs_bs π x t nt ∧ I' = I) → Q (some (.int r)) n sh I' R) : mv_E l D b0 m6_busySet (mv_rm 1) Q 0 [.ref m, .int (nI t), .null, .null] [] 0 0 n sh I R := by
  have ha := hm.g23
  have loop : ∀ (f c : Nat) (b : Int32), c + f = nt → 1 ≤ c → b = xs_bs π x t c → mv_E l D b0 m6_busySet (mv_rm 1) Q 4 [.ref m, .int (nI t), .int b, .int (nI c)] [] 0 0 n sh I R := by
    intro f
    induction f with
    | zero =>
      intro c b hc h1 hb
      refine mv_iload_n (pc := 4) dX6_busySet_4 rfl ?_
      refine mv_aload_n (pc := 5) dX6_busySet_5 rfl ?_
      refine mv_getIx (pc := 6) (x := nI nt) dX6_busySet_6 fl6_142 rfl (congrArg Prod.fst hm.o) h.1 ?_
      refine mv_icmp_ge (pc := 9) (tgt := 62) dX6_busySet_9 (by decide) (fun hc2 => ?_) (fun hc2 => ?_)
      · refine mv_iload_n (pc := 62) dX6_busySet_62 rfl ?_
        refine mv_iret (pc := 63) dX6_busySet_63 rfl (by decide) (by decide) (hQ _ _ ⟨?_, rfl⟩)
        rw [hb, show c = nt by omega]
      · exact absurd (nI_le (by omega) (by omega)) hc2
    | succ f ih =>
      intro c b hc h1 hb
      have hcn : c < nt := by omega
      have e1 : xs_bs π x t (c + 1) = if 1 ≤ c ∧ π c 0 = nI t ∧ (x c 0 = 1 ∨ x c 0 = 2) then xs_bs π x t c ||| (1 <<< (nI c &&& 31)) else xs_bs π x t c := rfl
      have nxt : ∀ v : Int32, v = (if π c 0 = nI t ∧ (x c 0 = 1 ∨ x c 0 = 2) then 1 <<< (nI c &&& 31) else 0) → mv_E l D b0 m6_busySet (mv_rm 1) Q 54 [.ref m, .int (nI t), .int b, .int (nI c)] [.int v, .int b] 0 0 n sh I R := by
        intro v hv
        refine mv_ior (pc := 54) dX6_busySet_54 ?_
        refine mv_istore_n (pc := 55) dX6_busySet_55 (by decide) ?_
        refine mv_iinc (pc := 56) (v := nI (c + 1)) dX6_busySet_56 (by decide) rfl (nI_1 c) ?_
        refine mv_goto (pc := 59) (tgt := 4) dX6_busySet_59 (by decide) ?_
        refine ih (c + 1) _ (by omega) (by omega) ?_
        rw [e1, hv, hb]
        by_cases q : π c 0 = nI t ∧ (x c 0 = 1 ∨ x c 0 = 2)
        · rw [if_pos q, if_pos ⟨h1, q⟩]
        · rw [if_neg q, if_neg (fun a => q a.2), ab_or0]
      have yes : π c 0 = nI t ∧ (x c 0 = 1 ∨ x c 0 = 2) → mv_E l D b0 m6_busySet (mv_rm 1) Q 47 [.ref m, .int (nI t), .int b, .int (nI c)] [.int b] 0 0 n sh I R := by
        intro q
        refine mv_iconst (pc := 47) (v := 1) dX6_busySet_47 (by decide) ?_
        refine mv_iload_n (pc := 48) dX6_busySet_48 rfl ?_
        refine mv_ishl (pc := 49) dX6_busySet_49 ?_
        refine mv_goto (pc := 50) (tgt := 54) dX6_busySet_50 (by decide) ?_
        exact nxt _ (by rw [if_pos q])
      have no : ¬ (π c 0 = nI t ∧ (x c 0 = 1 ∨ x c 0 = 2)) → mv_E l D b0 m6_busySet (mv_rm 1) Q 53 [.ref m, .int (nI t), .int b, .int (nI c)] [.int b] 0 0 n sh I R := by
        intro q
        refine mv_iconst (pc := 53) (v := 0) dX6_busySet_53 (by decide) ?_
        exact nxt _ (by rw [if_neg q])
      refine mv_iload_n (pc := 4) dX6_busySet_4 rfl ?_
      refine mv_aload_n (pc := 5) dX6_busySet_5 rfl ?_
      refine mv_getIx (pc := 6) (x := nI nt) dX6_busySet_6 fl6_142 rfl (congrArg Prod.fst hm.o) h.1 ?_
      refine mv_icmp_ge (pc := 9) (tgt := 62) dX6_busySet_9 (by decide) (fun hc2 => ?_) (fun hc2 => ?_)
      · exact absurd hc2 (nI_ge (by omega) (by omega))
      · refine mv_iload_n (pc := 12) dX6_busySet_12 rfl ?_
        refine mv_aload_n (pc := 13) dX6_busySet_13 rfl ?_
        refine mv_getR (pc := 14) (q := m + 8) dX6_busySet_14 fl6_31 (fun _ _ => rfl) (congrArg Prod.fst hm.o) hm.f17 ?_
        refine mv_iload_n (pc := 17) dX6_busySet_17 rfl ?_
        refine mv_ialdx (pc := 18) (x := π c 0) (k := c) dX6_busySet_18 hm.g17 rfl (by omega) (h.2 c hcn).1 ?_
        refine mv_iload_n (pc := 19) dX6_busySet_19 rfl ?_
        refine mv_icmp_ne (pc := 20) (tgt := 53) dX6_busySet_20 (by decide) (fun hp => ?_) (fun hp => ?_)
        · exact no (fun q => hp q.1)
        · refine mv_aload_n (pc := 23) dX6_busySet_23 rfl ?_
          refine mv_getR (pc := 24) (q := m + 14) dX6_busySet_24 fl6_49 (fun _ _ => rfl) (congrArg Prod.fst hm.o) hm.f23 ?_
          refine mv_iload_n (pc := 27) dX6_busySet_27 rfl ?_
          refine mv_iconst (pc := 28) (v := 1) dX6_busySet_28 (by decide) ?_
          refine mv_cSi (pc := 29) dX6_busySet_29 lk6_165 (c6_isHow ha hx (t := c) (by omega)) rfl rfl (Nat.le_of_ble_eq_true rfl) (by decide) (by decide) (fun r J ⟨e2, e3⟩ => ?_)
          subst e2 e3
          by_cases q1 : x c 0 = 1
          · rw [if_pos q1]
            refine mv_if_ne (pc := 32) (tgt := 47) dX6_busySet_32 (by decide) (fun _ => ?_) (fun hb => absurd hb (by decide))
            exact yes ⟨hp, Or.inl q1⟩
          · rw [if_neg q1]
            refine mv_if_ne (pc := 32) (tgt := 47) dX6_busySet_32 (by decide) (fun hb => absurd hb (by decide)) (fun _ => ?_)
            refine mv_aload_n (pc := 35) dX6_busySet_35 rfl ?_
            refine mv_getR (pc := 36) (q := m + 14) dX6_busySet_36 fl6_49 (fun _ _ => rfl) (congrArg Prod.fst hm.o) hm.f23 ?_
            refine mv_iload_n (pc := 39) dX6_busySet_39 rfl ?_
            refine mv_iconst (pc := 40) (v := 2) dX6_busySet_40 (by decide) ?_
            refine mv_cSi (pc := 41) dX6_busySet_41 lk6_165 (c6_isHow ha hx (t := c) (by omega)) rfl rfl (Nat.le_of_ble_eq_true rfl) (by decide) (by decide) (fun r J2 ⟨e2, e3⟩ => ?_)
            subst e2 e3
            by_cases q2 : x c 0 = 2
            · rw [if_pos q2]
              refine mv_if_eq (pc := 44) (tgt := 53) dX6_busySet_44 (by decide) (fun hb => absurd hb (by decide)) (fun _ => ?_)
              exact yes ⟨hp, Or.inr q2⟩
            · rw [if_neg q2]
              refine mv_if_eq (pc := 44) (tgt := 53) dX6_busySet_44 (by decide) (fun _ => ?_) (fun hb => absurd hb (by decide))
              exact no (fun q => q.2.elim q1 q2)
  refine mv_iconst (pc := 0) (v := 0) dX6_busySet_0 (by decide) ?_
  refine mv_istore_n (pc := 1) dX6_busySet_1 (by decide) ?_
  refine mv_iconst (pc := 2) (v := 1) dX6_busySet_2 (by decide) ?_
  refine mv_istore_n (pc := 3) dX6_busySet_3 (by decide) ?_
  exact loop (nt - 1) 1 0 (by omega) (by omega) rfl
theorem c6_busySet {l : Launch} {D : va_G} {b0 n : Nat} {sh : mv_Sh} {I : mv_I} {R : mv_R} {m nt t : Nat} {π x : xs_X} (hm : ly_Mod sh R m) (h : pl_M I m nt π) (hx : rm_R I (m + 14) x) (hn : nt ≤ 8) (hn1 : 1 ≤ nt) (ht : t < 8) : mv_C l D b0 m6_busySet (mv_rm 1) [.ref m, .int (nI t)] n sh I R (mv_Pi n sh R (fun r I' => r = xs_bs π x t nt ∧ I' = I)) := mv_C.of 2 (by decide) (by simp [Value.category]) rfl (e6_busySet hm h hx hn hn1 ht (fun _ _ h => mv_Pi.mk h))
theorem ab_task_out {v k : Int32} {σ : ab_S} (h : ¬ (0 ≤ k ∧ k ≤ 7)) : ab_task v k σ = -1 := by
  obtain ⟨w, L, nt, π, x, uh, us, kp, sn, se⟩ := σ
  have hk : ∀ c : Int32, 0 ≤ c ∧ c ≤ 7 → ¬ k = c := fun c hc q => h (by rw [q]; exact hc)
  unfold ab_task
  simp only [hk 0 (by decide), hk 1 (by decide), hk 2 (by decide), hk 3 (by decide), hk 4 (by decide), hk 5 (by decide), hk 6 (by decide), hk 7 (by decide), if_false, ite_self]
theorem ab_task_in {nt t : Nat} {k : Int32} {w : Nat → Int32} {L : Nat} {π x : xs_X} {σ : Nat × (Nat → xs_X) × (Nat → Option xs_X) × Nat × (Nat → Nat × Nat × Nat)} (ht : t < nt) (hn : nt ≤ 8) : ab_task (nI t) k (w, L, nt, π, x, σ) = if k = 0 then π t 0 else if k = 1 then x t 0 else if k = 2 then x t 1 else if k = 3 then x t 2 else if k = 4 then (if x t 4 = 0 ∨ x t 4 = 9999 then -9 else x t 4) else if k = 5 then x t 5 else if k = 6 then x t 9 else if k = 7 then xs_bs π x t nt else -1 := by
  refine (if_neg (fun q => q (ab_is_of ht hn))).trans ?_
  rw [nI_clamp (by omega)]
set_option maxHeartbeats 4000000 in
set_option maxRecDepth 100000 in
theorem e6_task {l : Launch} {D : va_G} {b0 n : Nat} {sh : mv_Sh} {I : mv_I} {R : mv_R} {Q : mv_Q} {w : Nat → Int32} {L nt uh sn : Nat} {π x : xs_X} {us : Nat → xs_X} {kp : Nat → Option xs_X} {se : Nat → Nat × Nat × Nat} {m : Nat} {v k : Int32} (hm : ly_Mod sh R m) (hS : gm_S I m (w, L, nt, π, x, uh, us, kp, sn, se)) (hW : ab_W (w, L, nt, π, x, uh, us, kp, sn, se)) (hQ : ∀ r I', (r = ab_task v k (w, L, nt, π, x, uh, us, kp, sn, se) ∧ gm_S I' m (w, L, nt, π, x, uh, us, kp, sn, se) ∧ gm_F m I I') → Q (some (.int r)) n sh I' R) : mv_E l D b0 m6_task (mv_rm 7) Q 0 [.ref m, .int v, .int k] [] 0 0 n sh I R := by
  obtain ⟨-, hpw, ⟨hX, τ, hτ9, hτ⟩, huh, -, -, -, -⟩ := id hW
  have hn := hpw.2.1
  have ha := hm.g23
  have hx := hS.2.2.1
  refine mv_aload_n (pc := 0) dX6_task_0 rfl ?_
  refine mv_iload_n (pc := 1) dX6_task_1 rfl ?_
  refine mv_cVi (pc := 2) dX6_task_2 lk6_214 (congrArg Prod.fst hm.o) (c6_isTask hm hS.2.1.1 hpw.1 hn) rfl rfl (Nat.le_of_ble_eq_true rfl) (by decide) (by decide) (fun r J ⟨e1, e2⟩ => ?_)
  subst e1 e2
  by_cases hv : ab_is nt v
  · rw [if_pos hv]
    obtain ⟨t, ht, rfl⟩ := ab_is_n hv hn
    have ht8 : t < 8 := by omega
    refine mv_if_eq (pc := 5) (tgt := 18) dX6_task_5 (by decide) (fun hb => absurd hb (by decide)) (fun _ => ?_)
    refine mv_iload_n (pc := 8) dX6_task_8 rfl ?_
    refine mv_iconst (pc := 9) (v := 0) dX6_task_9 (by decide) ?_
    refine mv_bipush (pc := 10) (v := 7) dX6_task_10 (by decide) ?_
    refine mv_cSi (pc := 12) dX6_task_12 lk6_80 (c6_in trivial) rfl rfl (Nat.le_of_ble_eq_true rfl) (by decide) (by decide) (fun r J2 ⟨e1, e2⟩ => ?_)
    subst e1 e2
    by_cases hk : 0 ≤ k ∧ k ≤ 7
    · rw [if_pos hk]
      refine mv_if_ne (pc := 15) (tgt := 20) dX6_task_15 (by decide) (fun _ => ?_) (fun hb => absurd hb (by decide))
      rw [ab_task_in ht hn] at hQ
      obtain ⟨j, j7, rfl⟩ := ab_in (N := 7) hk (by decide)
      have hj : j = 0 ∨ j = 1 ∨ j = 2 ∨ j = 3 ∨ j = 4 ∨ j = 5 ∨ j = 6 ∨ j = 7 := by omega
      refine mv_iload_n (pc := 20) dX6_task_20 rfl ?_
      rcases hj with rfl | rfl | rfl | rfl | rfl | rfl | rfl | rfl
      · refine mv_tswIn (pc := 21) (off := 43) (tgt := 64) dX6_task_21 (by decide) (by decide) (by decide) (by decide) ?_
        refine mv_aload_n (pc := 64) dX6_task_64 rfl ?_
        refine mv_getR (pc := 65) (q := m + 8) dX6_task_65 fl6_31 (fun _ _ => rfl) (congrArg Prod.fst hm.o) hm.f17 ?_
        refine mv_iload_n (pc := 68) dX6_task_68 rfl ?_
        refine mv_ialdx (pc := 69) (x := π t 0) (k := t) dX6_task_69 hm.g17 rfl (by omega) (hS.2.1.2 t ht).1 ?_
        exact mv_iret (pc := 70) dX6_task_70 rfl (by decide) (by decide) (hQ _ _ ⟨rfl, hS, fun _ _ => rfl⟩)
      · refine mv_tswIn (pc := 21) (off := 50) (tgt := 71) dX6_task_21 (by decide) (by decide) (by decide) (by decide) ?_
        refine mv_aload_n (pc := 71) dX6_task_71 rfl ?_
        refine mv_getR (pc := 72) (q := m + 14) dX6_task_72 fl6_49 (fun _ _ => rfl) (congrArg Prod.fst hm.o) hm.f23 ?_
        refine mv_iload_n (pc := 75) dX6_task_75 rfl ?_
        refine mv_iconst (pc := 76) (v := 0) dX6_task_76 (by decide) ?_
        refine mv_cSi (pc := 77) dX6_task_77 lk6_161 (c6_at ha hx (t := t) ht8 (k := 0) (by decide)) rfl rfl (Nat.le_of_ble_eq_true rfl) (by decide) (by decide) (fun r J3 ⟨e1, e2⟩ => ?_)
        subst e1 e2
        exact mv_iret (pc := 80) dX6_task_80 rfl (by decide) (by decide) (hQ _ _ ⟨rfl, hS, fun _ _ => rfl⟩)
      · refine mv_tswIn (pc := 21) (off := 60) (tgt := 81) dX6_task_21 (by decide) (by decide) (by decide) (by decide) ?_
        refine mv_aload_n (pc := 81) dX6_task_81 rfl ?_
        refine mv_getR (pc := 82) (q := m + 14) dX6_task_82 fl6_49 (fun _ _ => rfl) (congrArg Prod.fst hm.o) hm.f23 ?_
        refine mv_iload_n (pc := 85) dX6_task_85 rfl ?_
        refine mv_iconst (pc := 86) (v := 1) dX6_task_86 (by decide) ?_
        refine mv_cSi (pc := 87) dX6_task_87 lk6_161 (c6_at ha hx (t := t) ht8 (k := 1) (by decide)) rfl rfl (Nat.le_of_ble_eq_true rfl) (by decide) (by decide) (fun r J3 ⟨e1, e2⟩ => ?_)
        subst e1 e2
        exact mv_iret (pc := 90) dX6_task_90 rfl (by decide) (by decide) (hQ _ _ ⟨rfl, hS, fun _ _ => rfl⟩)
      · refine mv_tswIn (pc := 21) (off := 70) (tgt := 91) dX6_task_21 (by decide) (by decide) (by decide) (by decide) ?_
        refine mv_aload_n (pc := 91) dX6_task_91 rfl ?_
        refine mv_getR (pc := 92) (q := m + 14) dX6_task_92 fl6_49 (fun _ _ => rfl) (congrArg Prod.fst hm.o) hm.f23 ?_
        refine mv_iload_n (pc := 95) dX6_task_95 rfl ?_
        refine mv_iconst (pc := 96) (v := 2) dX6_task_96 (by decide) ?_
        refine mv_cSi (pc := 97) dX6_task_97 lk6_161 (c6_at ha hx (t := t) ht8 (k := 2) (by decide)) rfl rfl (Nat.le_of_ble_eq_true rfl) (by decide) (by decide) (fun r J3 ⟨e1, e2⟩ => ?_)
        subst e1 e2
        exact mv_iret (pc := 100) dX6_task_100 rfl (by decide) (by decide) (hQ _ _ ⟨rfl, hS, fun _ _ => rfl⟩)
      · have hT := (hX.2.2.2 t ht).1
        have h04 : x t 0 = 0 ↔ x t 4 = 0 := by
          obtain ⟨h, h3, h1, h2, -⟩ := hT
          rw [h1, ← h2]
          exact nI_eq (b := 0) (by omega) (by decide)
        have eq4 : (if nI 4 = 0 then π t 0 else if nI 4 = 1 then x t 0 else if nI 4 = 2 then x t 1 else if nI 4 = 3 then x t 2 else if nI 4 = 4 then (if x t 4 = 0 ∨ x t 4 = 9999 then -9 else x t 4) else if nI 4 = 5 then x t 5 else if nI 4 = 6 then x t 9 else if nI 4 = 7 then xs_bs π x t nt else -1) = (if x t 4 = 0 ∨ x t 4 = 9999 then -9 else x t 4) := rfl
        rw [eq4] at hQ
        have no : (x t 4 = 0 ∨ x t 4 = 9999) → mv_E l D b0 m6_task (mv_rm 7) Q 128 [.ref m, .int (nI t), .int (nI 4)] [] 0 0 n sh J2 R := by
          intro q
          refine mv_bipush (pc := 128) (v := -9) dX6_task_128 (by decide) ?_
          refine mv_goto (pc := 130) (tgt := 142) dX6_task_130 (by decide) ?_
          refine mv_iret (pc := 142) dX6_task_142 rfl (by decide) (by decide) (hQ _ _ ⟨?_, hS, fun _ _ => rfl⟩)
          rw [if_pos q]
        refine mv_tswIn (pc := 21) (off := 80) (tgt := 101) dX6_task_21 (by decide) (by decide) (by decide) (by decide) ?_
        refine mv_aload_n (pc := 101) dX6_task_101 rfl ?_
        refine mv_getR (pc := 102) (q := m + 14) dX6_task_102 fl6_49 (fun _ _ => rfl) (congrArg Prod.fst hm.o) hm.f23 ?_
        refine mv_iload_n (pc := 105) dX6_task_105 rfl ?_
        refine mv_iconst (pc := 106) (v := 0) dX6_task_106 (by decide) ?_
        refine mv_cSi (pc := 107) dX6_task_107 lk6_165 (c6_isHow ha hx (t := t) ht8) rfl rfl (Nat.le_of_ble_eq_true rfl) (by decide) (by decide) (fun r J3 ⟨e1, e2⟩ => ?_)
        subst e1 e2
        by_cases q0 : x t 0 = 0
        · rw [if_pos q0]
          refine mv_if_ne (pc := 110) (tgt := 128) dX6_task_110 (by decide) (fun _ => ?_) (fun hb => absurd hb (by decide))
          exact no (Or.inl (h04.mp q0))
        · rw [if_neg q0]
          refine mv_if_ne (pc := 110) (tgt := 128) dX6_task_110 (by decide) (fun hb => absurd hb (by decide)) (fun _ => ?_)
          refine mv_aload_n (pc := 113) dX6_task_113 rfl ?_
          refine mv_getR (pc := 114) (q := m + 14) dX6_task_114 fl6_49 (fun _ _ => rfl) (congrArg Prod.fst hm.o) hm.f23 ?_
          refine mv_iload_n (pc := 117) dX6_task_117 rfl ?_
          refine mv_iconst (pc := 118) (v := 4) dX6_task_118 (by decide) ?_
          refine mv_cSi (pc := 119) dX6_task_119 lk6_161 (c6_at ha hx (t := t) ht8 (k := 4) (by decide)) rfl rfl (Nat.le_of_ble_eq_true rfl) (by decide) (by decide) (fun r J3 ⟨e1, e2⟩ => ?_)
          subst e1 e2
          refine mv_sipush (pc := 122) (v := 9999) dX6_task_122 (by decide) ?_
          refine mv_icmp_ne (pc := 125) (tgt := 133) dX6_task_125 (by decide) (fun hb => ?_) (fun hb => ?_)
          · refine mv_aload_n (pc := 133) dX6_task_133 rfl ?_
            refine mv_getR (pc := 134) (q := m + 14) dX6_task_134 fl6_49 (fun _ _ => rfl) (congrArg Prod.fst hm.o) hm.f23 ?_
            refine mv_iload_n (pc := 137) dX6_task_137 rfl ?_
            refine mv_iconst (pc := 138) (v := 4) dX6_task_138 (by decide) ?_
            refine mv_cSi (pc := 139) dX6_task_139 lk6_161 (c6_at ha hx (t := t) ht8 (k := 4) (by decide)) rfl rfl (Nat.le_of_ble_eq_true rfl) (by decide) (by decide) (fun r J3 ⟨e1, e2⟩ => ?_)
            subst e1 e2
            refine mv_iret (pc := 142) dX6_task_142 rfl (by decide) (by decide) (hQ _ _ ⟨?_, hS, fun _ _ => rfl⟩)
            rw [if_neg (fun q => q.elim (fun a => q0 (h04.mpr a)) hb)]
          · exact no (Or.inr hb)
      · refine mv_tswIn (pc := 21) (off := 122) (tgt := 143) dX6_task_21 (by decide) (by decide) (by decide) (by decide) ?_
        refine mv_aload_n (pc := 143) dX6_task_143 rfl ?_
        refine mv_getR (pc := 144) (q := m + 14) dX6_task_144 fl6_49 (fun _ _ => rfl) (congrArg Prod.fst hm.o) hm.f23 ?_
        refine mv_iload_n (pc := 147) dX6_task_147 rfl ?_
        refine mv_iconst (pc := 148) (v := 5) dX6_task_148 (by decide) ?_
        refine mv_cSi (pc := 149) dX6_task_149 lk6_161 (c6_at ha hx (t := t) ht8 (k := 5) (by decide)) rfl rfl (Nat.le_of_ble_eq_true rfl) (by decide) (by decide) (fun r J3 ⟨e1, e2⟩ => ?_)
        subst e1 e2
        exact mv_iret (pc := 152) dX6_task_152 rfl (by decide) (by decide) (hQ _ _ ⟨rfl, hS, fun _ _ => rfl⟩)
      · refine mv_tswIn (pc := 21) (off := 132) (tgt := 153) dX6_task_21 (by decide) (by decide) (by decide) (by decide) ?_
        refine mv_aload_n (pc := 153) dX6_task_153 rfl ?_
        refine mv_getR (pc := 154) (q := m + 14) dX6_task_154 fl6_49 (fun _ _ => rfl) (congrArg Prod.fst hm.o) hm.f23 ?_
        refine mv_iload_n (pc := 157) dX6_task_157 rfl ?_
        refine mv_bipush (pc := 158) (v := 9) dX6_task_158 (by decide) ?_
        refine mv_cSi (pc := 160) dX6_task_160 lk6_161 (c6_at ha hx (t := t) ht8 (k := 9) (by decide)) rfl rfl (Nat.le_of_ble_eq_true rfl) (by decide) (by decide) (fun r J3 ⟨e1, e2⟩ => ?_)
        subst e1 e2
        exact mv_iret (pc := 163) dX6_task_163 rfl (by decide) (by decide) (hQ _ _ ⟨rfl, hS, fun _ _ => rfl⟩)
      · refine mv_tswOut (pc := 21) (tgt := 164) dX6_task_21 (by decide) (by decide) ?_
        refine mv_aload_n (pc := 164) dX6_task_164 rfl ?_
        refine mv_iload_n (pc := 165) dX6_task_165 rfl ?_
        refine mv_cVi (pc := 166) dX6_task_166 lk6_217 (congrArg Prod.fst hm.o) (c6_busySet hm hS.2.1 hx hn hpw.1 ht8) rfl rfl (Nat.le_of_ble_eq_true rfl) (by decide) (by decide) (fun r J3 ⟨e1, e2⟩ => ?_)
        subst e1 e2
        exact mv_iret (pc := 169) dX6_task_169 rfl (by decide) (by decide) (hQ _ _ ⟨rfl, hS, fun _ _ => rfl⟩)
    · rw [if_neg hk]
      refine mv_if_ne (pc := 15) (tgt := 20) dX6_task_15 (by decide) (fun hb => absurd hb (by decide)) (fun _ => ?_)
      refine mv_iconst (pc := 18) (v := -1) dX6_task_18 (by decide) ?_
      refine mv_iret (pc := 19) dX6_task_19 rfl (by decide) (by decide) (hQ _ _ ⟨?_, hS, fun _ _ => rfl⟩)
      rw [ab_task_out hk]
  · rw [if_neg hv]
    refine mv_if_eq (pc := 5) (tgt := 18) dX6_task_5 (by decide) (fun _ => ?_) (fun hb => absurd hb (by decide))
    refine mv_iconst (pc := 18) (v := -1) dX6_task_18 (by decide) ?_
    refine mv_iret (pc := 19) dX6_task_19 rfl (by decide) (by decide) (hQ _ _ ⟨?_, hS, fun _ _ => rfl⟩)
    exact (if_pos hv).symm
theorem c6_task {l : Launch} {D : va_G} {b0 n : Nat} {sh : mv_Sh} {I : mv_I} {R : mv_R} {w : Nat → Int32} {L nt uh sn : Nat} {π x : xs_X} {us : Nat → xs_X} {kp : Nat → Option xs_X} {se : Nat → Nat × Nat × Nat} {m : Nat} {v k : Int32} (hm : ly_Mod sh R m) (hS : gm_S I m (w, L, nt, π, x, uh, us, kp, sn, se)) (hW : ab_W (w, L, nt, π, x, uh, us, kp, sn, se)) : mv_C l D b0 m6_task (mv_rm 7) [.ref m, .int v, .int k] n sh I R (mv_Pi n sh R (fun r I' => r = ab_task v k (w, L, nt, π, x, uh, us, kp, sn, se) ∧ gm_S I' m (w, L, nt, π, x, uh, us, kp, sn, se) ∧ gm_F m I I')) := mv_C.of 0 (by decide) (by simp [Value.category]) rfl (e6_task hm hS hW (fun _ _ h => mv_Pi.mk h))
set_option maxHeartbeats 4000000 in
set_option maxRecDepth 100000 in
theorem e6_failure {l : Launch} {D : va_G} {b0 n : Nat} {sh : mv_Sh} {I : mv_I} {R : mv_R} {Q : mv_Q} {w : Nat → Int32} {L nt uh sn : Nat} {π x : xs_X} {us : Nat → xs_X} {kp : Nat → Option xs_X} {se : Nat → Nat × Nat × Nat} {m : Nat} {v k : Int32} (hm : ly_Mod sh R m) (hS : gm_S I m (w, L, nt, π, x, uh, us, kp, sn, se)) (hW : ab_W (w, L, nt, π, x, uh, us, kp, sn, se)) (hQ : ∀ r I', (r = ab_failure v k (w, L, nt, π, x, uh, us, kp, sn, se) ∧ gm_S I' m (w, L, nt, π, x, uh, us, kp, sn, se) ∧ gm_F m I I') → Q (some (.int r)) n sh I' R) : mv_E l D b0 m6_failure (mv_rm 7) Q 0 [.ref m, .int v, .int k] [] 0 0 n sh I R := by
  obtain ⟨-, hpw, ⟨hX, τ, hτ9, hτ⟩, huh, -, -, -, -⟩ := id hW
  have hn := hpw.2.1
  have ha := hm.g23
  have hx := hS.2.2.1
  have no : (¬ ab_is nt v ∨ k < 0) → mv_E l D b0 m6_failure (mv_rm 7) Q 12 [.ref m, .int v, .int k] [] 0 0 n sh I R := by
    intro q
    refine mv_iconst (pc := 12) (v := -1) dX6_failure_12 (by decide) ?_
    exact mv_iret (pc := 13) dX6_failure_13 rfl (by decide) (by decide) (hQ _ _ ⟨(if_pos q).symm, hS, fun _ _ => rfl⟩)
  refine mv_aload_n (pc := 0) dX6_failure_0 rfl ?_
  refine mv_iload_n (pc := 1) dX6_failure_1 rfl ?_
  refine mv_cVi (pc := 2) dX6_failure_2 lk6_214 (congrArg Prod.fst hm.o) (c6_isTask hm hS.2.1.1 hpw.1 hn) rfl rfl (Nat.le_of_ble_eq_true rfl) (by decide) (by decide) (fun r J ⟨e1, e2⟩ => ?_)
  subst e1 e2
  by_cases hv : ab_is nt v
  · rw [if_pos hv]
    refine mv_if_eq (pc := 5) (tgt := 12) dX6_failure_5 (by decide) (fun hb => absurd hb (by decide)) (fun _ => ?_)
    refine mv_iload_n (pc := 8) dX6_failure_8 rfl ?_
    refine mv_if_ge (pc := 9) (tgt := 14) dX6_failure_9 (by decide) (fun hb => ?_) (fun hb => ?_)
    · have hk0 : ¬ k < 0 := Int32.not_lt.mpr hb
      obtain ⟨t, ht, rfl⟩ := ab_is_n hv hn
      obtain ⟨j, j1, rfl⟩ := nI_of hk0
      obtain ⟨c, c8, hc⟩ := (hX.2.2.2 t ht).2.1
      have e0 : ab_failure (nI t) (nI j) (w, L, nt, π, x, uh, us, kp, sn, se) = if nI j < x t 9 then x t (10 + j) else -9 := by
        refine (if_neg (fun q => q.elim (fun a => a hv) hk0)).trans ?_
        rw [nI_clamp (by omega), nI_clamp j1]
      rw [e0] at hQ
      refine mv_iload_n (pc := 14) dX6_failure_14 rfl ?_
      refine mv_aload_n (pc := 15) dX6_failure_15 rfl ?_
      refine mv_getR (pc := 16) (q := m + 14) dX6_failure_16 fl6_49 (fun _ _ => rfl) (congrArg Prod.fst hm.o) hm.f23 ?_
      refine mv_iload_n (pc := 19) dX6_failure_19 rfl ?_
      refine mv_bipush (pc := 20) (v := 9) dX6_failure_20 (by decide) ?_
      refine mv_cSi (pc := 22) dX6_failure_22 lk6_161 (c6_at ha hx (t := t) (by omega) (k := 9) (by decide)) rfl rfl (Nat.le_of_ble_eq_true rfl) (by decide) (by decide) (fun r J3 ⟨e1, e2⟩ => ?_)
      subst e1 e2
      refine mv_icmp_ge (pc := 25) (tgt := 43) dX6_failure_25 (by decide) (fun hb2 => ?_) (fun hb2 => ?_)
      · refine mv_bipush (pc := 43) (v := -9) dX6_failure_43 (by decide) ?_
        refine mv_iret (pc := 45) dX6_failure_45 rfl (by decide) (by decide) (hQ _ _ ⟨?_, hS, fun _ _ => rfl⟩)
        rw [if_neg (Int32.not_lt.mpr hb2)]
      · have hlt : nI j < x t 9 := Int32.not_le.mp hb2
        have hj : j < c := by rw [hc] at hlt; exact (nI_ltI j1 (by omega)).mp hlt
        refine mv_aload_n (pc := 28) dX6_failure_28 rfl ?_
        refine mv_getR (pc := 29) (q := m + 14) dX6_failure_29 fl6_49 (fun _ _ => rfl) (congrArg Prod.fst hm.o) hm.f23 ?_
        refine mv_iload_n (pc := 32) dX6_failure_32 rfl ?_
        refine mv_bipush (pc := 33) (v := 10) dX6_failure_33 (by decide) ?_
        refine mv_iload_n (pc := 35) dX6_failure_35 rfl ?_
        refine mv_iadd (pc := 36) dX6_failure_36 ?_
        refine mv_top (y := nI (10 + j)) (nI_add 10 j) ?_
        refine mv_cSi (pc := 37) dX6_failure_37 lk6_161 (c6_at ha hx (t := t) (by omega) (k := 10 + j) (by omega)) rfl rfl (Nat.le_of_ble_eq_true rfl) (by decide) (by decide) (fun r J3 ⟨e1, e2⟩ => ?_)
        subst e1 e2
        refine mv_goto (pc := 40) (tgt := 45) dX6_failure_40 (by decide) ?_
        refine mv_iret (pc := 45) dX6_failure_45 rfl (by decide) (by decide) (hQ _ _ ⟨?_, hS, fun _ _ => rfl⟩)
        rw [if_pos hlt]
    · exact no (Or.inr (Int32.not_le.mp hb))
  · rw [if_neg hv]
    refine mv_if_eq (pc := 5) (tgt := 12) dX6_failure_5 (by decide) (fun _ => ?_) (fun hb => absurd hb (by decide))
    exact no (Or.inl hv)
theorem c6_failure {l : Launch} {D : va_G} {b0 n : Nat} {sh : mv_Sh} {I : mv_I} {R : mv_R} {w : Nat → Int32} {L nt uh sn : Nat} {π x : xs_X} {us : Nat → xs_X} {kp : Nat → Option xs_X} {se : Nat → Nat × Nat × Nat} {m : Nat} {v k : Int32} (hm : ly_Mod sh R m) (hS : gm_S I m (w, L, nt, π, x, uh, us, kp, sn, se)) (hW : ab_W (w, L, nt, π, x, uh, us, kp, sn, se)) : mv_C l D b0 m6_failure (mv_rm 7) [.ref m, .int v, .int k] n sh I R (mv_Pi n sh R (fun r I' => r = ab_failure v k (w, L, nt, π, x, uh, us, kp, sn, se) ∧ gm_S I' m (w, L, nt, π, x, uh, us, kp, sn, se) ∧ gm_F m I I')) := mv_C.of 0 (by decide) (by simp [Value.category]) rfl (e6_failure hm hS hW (fun _ _ h => mv_Pi.mk h))
set_option maxHeartbeats 4000000 in
set_option maxRecDepth 100000 in
theorem e6_trace {l : Launch} {D : va_G} {b0 n : Nat} {sh : mv_Sh} {I : mv_I} {R : mv_R} {Q : mv_Q} {w : Nat → Int32} {L nt uh sn : Nat} {π x : xs_X} {us : Nat → xs_X} {kp : Nat → Option xs_X} {se : Nat → Nat × Nat × Nat} {m : Nat} {k c : Int32} (hm : ly_Mod sh R m) (hS : gm_S I m (w, L, nt, π, x, uh, us, kp, sn, se)) (hW : ab_W (w, L, nt, π, x, uh, us, kp, sn, se)) (hQ : ∀ r I', (r = ab_trace k c (w, L, nt, π, x, uh, us, kp, sn, se) ∧ gm_S I' m (w, L, nt, π, x, uh, us, kp, sn, se) ∧ gm_F m I I') → Q (some (.int r)) n sh I' R) : mv_E l D b0 m6_trace (mv_rm 7) Q 0 [.ref m, .int k, .int c] [] 0 0 n sh I R := by
  obtain ⟨-, hpw, ⟨hX, τ, hτ9, hτ⟩, huh, -, -, -, -⟩ := id hW
  obtain ⟨e, he6, he⟩ := hX.2.1
  have hx := hS.2.2.1
  have no : (k < 0 ∨ ¬ (0 ≤ c ∧ c ≤ 2)) → mv_E l D b0 m6_trace (mv_rm 7) Q 13 [.ref m, .int k, .int c] [] 0 0 n sh I R := by
    intro q
    refine mv_iconst (pc := 13) (v := -1) dX6_trace_13 (by decide) ?_
    exact mv_iret (pc := 14) dX6_trace_14 rfl (by decide) (by decide) (hQ _ _ ⟨(if_pos q).symm, hS, fun _ _ => rfl⟩)
  refine mv_iload_n (pc := 0) dX6_trace_0 rfl ?_
  refine mv_if_lt (pc := 1) (tgt := 13) dX6_trace_1 (by decide) (fun hb => ?_) (fun hb => ?_)
  · exact no (Or.inl hb)
  · refine mv_iload_n (pc := 4) dX6_trace_4 rfl ?_
    refine mv_iconst (pc := 5) (v := 0) dX6_trace_5 (by decide) ?_
    refine mv_iconst (pc := 6) (v := 2) dX6_trace_6 (by decide) ?_
    refine mv_cSi (pc := 7) dX6_trace_7 lk6_80 (c6_in trivial) rfl rfl (Nat.le_of_ble_eq_true rfl) (by decide) (by decide) (fun r J ⟨e1, e2⟩ => ?_)
    subst e1 e2
    by_cases hc : 0 ≤ c ∧ c ≤ 2
    · rw [if_pos hc]
      refine mv_if_ne (pc := 10) (tgt := 15) dX6_trace_10 (by decide) (fun _ => ?_) (fun hb => absurd hb (by decide))
      have hk0 : ¬ k < 0 := hb
      obtain ⟨j, j1, rfl⟩ := nI_of hk0
      obtain ⟨i, i2, rfl⟩ := ab_in (N := 2) hc (by decide)
      have e0 : ab_trace (nI j) (nI i) (w, L, nt, π, x, uh, us, kp, sn, se) = if nI j < x 8 1 then x (9 + j) i else -9 := by
        refine (if_neg (fun q => q.elim hk0 (fun a => a hc))).trans ?_
        rw [nI_clamp j1, nI_clamp (by omega)]
      rw [e0] at hQ
      refine mv_iload_n (pc := 15) dX6_trace_15 rfl ?_
      refine mv_aload_n (pc := 16) dX6_trace_16 rfl ?_
      refine mv_getR (pc := 17) (q := m + 14) dX6_trace_17 fl6_49 (fun _ _ => rfl) (congrArg Prod.fst hm.o) hm.f23 ?_
      refine mv_sipush (pc := 20) (v := 145) dX6_trace_20 (by decide) ?_
      refine mv_ialdx (pc := 23) (x := x 8 1) (k := 145) dX6_trace_23 hm.g23 (by decide) (by omega) hx.2.1.2 ?_
      refine mv_icmp_ge (pc := 24) (tgt := 44) dX6_trace_24 (by decide) (fun hb2 => ?_) (fun hb2 => ?_)
      · refine mv_bipush (pc := 44) (v := -9) dX6_trace_44 (by decide) ?_
        refine mv_iret (pc := 46) dX6_trace_46 rfl (by decide) (by decide) (hQ _ _ ⟨?_, hS, fun _ _ => rfl⟩)
        rw [if_neg (Int32.not_lt.mpr hb2)]
      · have hlt : nI j < x 8 1 := Int32.not_le.mp hb2
        have hj : j < e := by rw [he] at hlt; exact (nI_ltI j1 (by omega)).mp hlt
        refine mv_aload_n (pc := 27) dX6_trace_27 rfl ?_
        refine mv_getR (pc := 28) (q := m + 14) dX6_trace_28 fl6_49 (fun _ _ => rfl) (congrArg Prod.fst hm.o) hm.f23 ?_
        refine mv_sipush (pc := 31) (v := 146) dX6_trace_31 (by decide) ?_
        refine mv_iconst (pc := 34) (v := 3) dX6_trace_34 (by decide) ?_
        refine mv_iload_n (pc := 35) dX6_trace_35 rfl ?_
        refine mv_imul (pc := 36) dX6_trace_36 ?_
        refine mv_iadd (pc := 37) dX6_trace_37 ?_
        refine mv_iload_n (pc := 38) dX6_trace_38 rfl ?_
        refine mv_iadd (pc := 39) dX6_trace_39 ?_
        refine mv_ialdx (pc := 40) (x := x (9 + j) i) (k := 146 + 3 * j + i) dX6_trace_40 hm.g23 (by rw [show (146 : Int32) = nI 146 from rfl, show (3 : Int32) = nI 3 from rfl, nI_mul, nI_add, nI_add]) (by omega) (hx.2.2 j (by omega) i (by omega)) ?_
        refine mv_goto (pc := 41) (tgt := 46) dX6_trace_41 (by decide) ?_
        refine mv_iret (pc := 46) dX6_trace_46 rfl (by decide) (by decide) (hQ _ _ ⟨?_, hS, fun _ _ => rfl⟩)
        rw [if_pos hlt]
    · rw [if_neg hc]
      refine mv_if_ne (pc := 10) (tgt := 15) dX6_trace_10 (by decide) (fun hb => absurd hb (by decide)) (fun _ => ?_)
      exact no (Or.inr hc)
theorem c6_trace {l : Launch} {D : va_G} {b0 n : Nat} {sh : mv_Sh} {I : mv_I} {R : mv_R} {w : Nat → Int32} {L nt uh sn : Nat} {π x : xs_X} {us : Nat → xs_X} {kp : Nat → Option xs_X} {se : Nat → Nat × Nat × Nat} {m : Nat} {k c : Int32} (hm : ly_Mod sh R m) (hS : gm_S I m (w, L, nt, π, x, uh, us, kp, sn, se)) (hW : ab_W (w, L, nt, π, x, uh, us, kp, sn, se)) : mv_C l D b0 m6_trace (mv_rm 7) [.ref m, .int k, .int c] n sh I R (mv_Pi n sh R (fun r I' => r = ab_trace k c (w, L, nt, π, x, uh, us, kp, sn, se) ∧ gm_S I' m (w, L, nt, π, x, uh, us, kp, sn, se) ∧ gm_F m I I')) := mv_C.of 0 (by decide) (by simp [Value.category]) rfl (e6_trace hm hS hW (fun _ _ h => mv_Pi.mk h))

