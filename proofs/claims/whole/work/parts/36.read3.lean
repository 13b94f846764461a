theorem sp_end_mono {w : Nat → Int32} {L i i2 : Nat} {π π2 : xs_X} (hi : i ≤ L) (h : sp_end w L i π = .inr (i2, π2)) : i ≤ i2 ∧ i2 ≤ L := by
  have := tk_e_le (w := w) hi
  unfold sp_end at h
  split at h
  · cases h; exact ⟨this.1, this.2.1⟩
  · cases h
theorem sp_ops_mono {w : Nat → Int32} {L t : Nat} : ∀ (f c i : Nat) (π : xs_X), i ≤ L → ∀ i2 π2, sp_ops w L t f c i π = .inr (i2, π2) → i ≤ i2 ∧ i2 ≤ L
  | 0, c, i, π, _, i2, π2, h => by cases h
  | f + 1, c, i, π, hi, i2, π2, h => by
    have h1 := tk_e_le (w := w) hi
    have h2 := tk_e_le (w := w) h1.2.1
    unfold sp_ops at h
    split at h
    · cases h; exact ⟨h1.1, h1.2.1⟩
    · split at h
      · split at h
        · split at h
          · have := sp_ops_mono f (c + 1) _ _ h2.2.1 i2 π2 h
            omega
          · cases h
        · have := sp_ops_mono f (c + 1) _ _ h1.2.1 i2 π2 h
          omega
      · cases h
theorem sp_item_mono {w : Nat → Int32} {L i n i2 n2 : Nat} {π π2 : xs_X} (hi : i ≤ L) (hne : ¬ tk_s w L i = L) (h : sp_item w L i n π = .inr (i2, n2, π2)) : i < i2 ∧ i2 ≤ L := by
  have h0 := tk_s_le (w := w) hi
  have h1 := tk_e_le (w := w) hi
  have h1' := h1.2.2 hne
  have h2 := tk_e_le (w := w) h1.2.1
  have h3 := tk_e_le (w := w) h2.2.1
  have hset : ∀ col lo up r, sp_set w L i n π col lo up = .inr r → i < r.1 ∧ r.1 ≤ L := by
    intro col lo up r hr
    obtain ⟨i3, π3⟩ := r
    unfold sp_set at hr
    split at hr
    · split at hr
      · have := sp_end_mono h3.2.1 hr
        show i < i3 ∧ i3 ≤ L
        omega
      · cases hr
    · cases hr
  unfold sp_item at h
  split at h
  · split at h
    · have := sp_ops_mono _ _ _ _ h1.2.1 _ _ (sp_lift_r h).2
      omega
    · cases h
  · split at h
    · split at h
      · cases h
      · have h' := (sp_lift_r h).2
        unfold sp_tsk at h'
        split at h'
        · have := sp_ops_mono _ _ _ _ h2.2.1 _ _ h'
          omega
        · cases h'
    · split at h
      · exact hset _ _ _ _ (sp_lift_r h).2
      · split at h
        · exact hset _ _ _ _ (sp_lift_r h).2
        · split at h
          · exact hset _ _ _ _ (sp_lift_r h).2
          · split at h
            · have h' := (sp_lift_r h).2
              unfold sp_gat at h'
              split at h'
              · have := sp_end_mono h2.2.1 h'
                omega
              · cases h'
            · cases h
def rd_QA (I' : mv_I) (r : Int32) (rd z q : Nat) (res : Nat ⊕ (Nat × Nat × xs_X)) : Prop := match res with
  | .inl s => r = 0 ∧ I' z 4 = nI s
  | .inr (c, n2, π2) => r = 1 ∧ I' rd 2 = nI c ∧ pl_C I' q (sp_n n2) π2
set_option maxHeartbeats 4000000 in
set_option maxRecDepth 100000 in
theorem e2_readAll {l : Launch} {D : va_G} {b0 n : Nat} {sh : mv_Sh} {I : mv_I} {R : mv_R} {Q : mv_Q} {rd z q L : Nat} {w : Nat → Int32} (K : rd_K sh R rd z q w L) (hl : I z 1 = nI L) (hx : ∀ j, j < L → I (z + 1) j = w j) (hQ : ∀ r I', (rd_QA I' r rd z q (sp_all w L 121 0 0 0 sp_0) ∧ (∀ b, b ≠ z → b ≠ rd → (b < q ∨ q + 9 ≤ b) → I' b = I b) ∧ I' z 1 = nI L) → Q (some (.int r)) n sh I' R) : mv_E l D b0 m2_readAll (mv_rm 6) Q 0 [.ref rd, .null] [] 0 0 n sh I R := by
  obtain ⟨hr, hz, hq, hw, hzq, hrz, hrz1, hrq⟩ := id K
  have hL := hw.1
  generalize hres : sp_all w L 121 0 0 0 sp_0 = res at hQ
  have loop : ∀ (f c i n' : Nat) (π : xs_X) (J : mv_I), c + f = 120 → c ≤ i → i ≤ L → tk_A J z w L i → pl_C J q (sp_n n') π → sp_W n' π → ((∀ k, k < 6 → π 0 k = sp_0 0 k) ∨ n' ≠ 0) → (c = 0 ↔ n' = 0) → J rd 2 = nI c → (∀ b, b ≠ z → b ≠ rd → (b < q ∨ q + 9 ≤ b) → J b = I b) → sp_all w L (f + 1) i c n' π = res → mv_E l D b0 m2_readAll (mv_rm 6) Q 21 [.ref rd, .int (nI c)] [] 0 0 n sh J R := by
    intro f
    induction f with
    | zero =>
      intro c i n' π J hcf hci hiL hA hp hW hs0 hcn hJ hF he
      have : c = 120 := by omega
      subst this
      have hiL2 : tk_s w L i = L := by have := tk_s_le (w := w) hiL; omega
      rw [sp_all, if_pos hiL2] at he
      refine mv_iload_n (pc := 21) dX2_readAll_21 rfl ?_
      refine mv_bipush (pc := 22) (v := 120) dX2_readAll_22 (by decide) ?_
      refine mv_icmp_ge (pc := 24) (tgt := 63) dX2_readAll_24 (by decide) (fun hb => ?_) (fun hb => ?_)
      · refine mv_iconst (pc := 63) (v := 1) dX2_readAll_63 (by decide) ?_
        refine mv_zret (pc := 64) dX2_readAll_64 rfl (by rfl) (by decide) (by decide) (hQ _ _ ⟨?_, hF, hA.1⟩)
        rw [← he]
        exact ⟨rfl, hJ, hp⟩
      · exact absurd (by decide) hb
    | succ f ih =>
      intro c i n' π J hcf hci hiL hA hp hW hs0 hcn hJ hF he
      refine mv_iload_n (pc := 21) dX2_readAll_21 rfl ?_
      refine mv_bipush (pc := 22) (v := 120) dX2_readAll_22 (by decide) ?_
      refine mv_icmp_ge (pc := 24) (tgt := 63) dX2_readAll_24 (by decide) (fun hb => ?_) (fun hb => ?_)
      · exact absurd hb (nI_ge (b := 120) (by omega) (by decide))
      · refine mv_aload_n (pc := 27) dX2_readAll_27 rfl ?_
        refine mv_getR (pc := 28) (q := z) dX2_readAll_28 fl2_15 (fun _ _ => rfl) (congrArg Prod.fst hr.o) hr.2.1 ?_
        refine mv_getIx (pc := 31) (x := tk_k w L i) dX2_readAll_31 fl2_33 rfl (congrArg Prod.fst hz.o) hA.2.2.1 ?_
        refine mv_iconst (pc := 34) (v := -1) dX2_readAll_34 (by decide) ?_
        refine mv_icmp_eq (pc := 35) (tgt := 63) dX2_readAll_35 (by decide) (fun hb2 => ?_) (fun hb2 => ?_)
        · have := (tk_k_end hw hiL).mp hb2
          rw [sp_all, if_pos this] at he
          refine mv_iconst (pc := 63) (v := 1) dX2_readAll_63 (by decide) ?_
          refine mv_zret (pc := 64) dX2_readAll_64 rfl (by rfl) (by decide) (by decide) (hQ _ _ ⟨?_, hF, hA.1⟩)
          rw [← he]
          exact ⟨rfl, hJ, hp⟩
        · have hne : ¬ tk_s w L i = L := fun q => hb2 ((tk_k_end hw hiL).mpr q)
          rw [sp_all, if_neg hne] at he
          refine mv_aload_n (pc := 38) dX2_readAll_38 rfl ?_
          refine mv_cVi (pc := 39) dX2_readAll_39 lk2_36 (congrArg Prod.fst hr.o) (c2_readItem K hA hiL hp hW hs0 hJ (by omega) hcn) rfl rfl (Nat.le_of_ble_eq_true rfl) (by decide) (by decide) (fun r J2 ⟨hq2, hf2⟩ => ?_)
          have hF2 : ∀ b, b ≠ z → b ≠ rd → (b < q ∨ q + 9 ≤ b) → J2 b = I b := fun b b1 b2 b3 => (hf2 b b1 b3).trans (hF b b1 b2 b3)
          have hJ2 : J2 rd 2 = nI c := by rw [hf2 rd hrz hrq]; exact hJ
          cases hit : sp_item w L i n' π with
          | inl s =>
            rw [hit] at he hq2
            obtain ⟨hr0, h4, h41⟩ := hq2
            subst hr0
            refine mv_if_ne (pc := 42) (tgt := 47) dX2_readAll_42 (by decide) (fun hb3 => ?_) (fun hb3 => ?_)
            · exact absurd rfl hb3
            · refine mv_iconst (pc := 45) (v := 0) dX2_readAll_45 (by decide) ?_
              refine mv_zret (pc := 46) dX2_readAll_46 rfl (by rfl) (by decide) (by decide) (hQ _ _ ⟨?_, hF2, ?_⟩)
              · rw [← he]; exact ⟨rfl, h4⟩
              · exact h41
          | inr x =>
            obtain ⟨i3, n3, π3⟩ := x
            rw [hit] at he hq2
            obtain ⟨hr1, hA3, hi3, hp3⟩ := hq2
            subst hr1
            have hW3 := hW.item hs0 hit
            have hprog : i < i3 := (sp_item_mono hiL hne hit).1
            refine mv_if_ne (pc := 42) (tgt := 47) dX2_readAll_42 (by decide) (fun hb3 => ?_) (fun hb3 => ?_)
            · refine mv_aload_n (pc := 47) dX2_readAll_47 rfl ?_
              refine mv_dup (pc := 48) dX2_readAll_48 rfl ?_
              refine mv_getIx (pc := 49) (x := nI c) dX2_readAll_49 fl2_9 rfl (congrArg Prod.fst hr.o) hJ2 ?_
              refine mv_iconst (pc := 52) (v := 1) dX2_readAll_52 (by decide) ?_
              refine mv_iadd (pc := 53) dX2_readAll_53 ?_
              refine mv_putI (pc := 54) dX2_readAll_54 fl2_9 rfl rfl (congrArg Prod.fst hr.o) ?_
              refine mv_iinc (pc := 57) (v := nI (c + 1)) dX2_readAll_57 (by decide) rfl (nI_1 c) ?_
              refine mv_goto (pc := 60) (tgt := 21) dX2_readAll_60 (by decide) ?_
              refine ih (c + 1) i3 n3 π3 _ (by omega) (by omega) hi3 (hA3.keep (mv_upN z (by omega)) (mv_upN (z + 1) (by omega))) (hp3.eq (fun b b1 b2 => mv_upN b (by omega))) hW3.1 (Or.inr hW3.2) ⟨fun q => by omega, fun q => absurd q hW3.2⟩ (by rw [mv_upe, nI_1]) (fun b b1 b2 b3 => by rw [mv_upN b b2]; exact hF2 b b1 b2 b3) he
            · exact absurd hb3 (by decide)
  refine mv_aload_n (pc := 0) dX2_readAll_0 rfl ?_
  refine mv_iconst (pc := 1) (v := 0) dX2_readAll_1 (by decide) ?_
  refine mv_putI (pc := 2) dX2_readAll_2 fl2_9 rfl rfl (congrArg Prod.fst hr.o) ?_
  refine mv_aload_n (pc := 5) dX2_readAll_5 rfl ?_
  refine mv_getR (pc := 6) (q := q) dX2_readAll_6 fl2_19 (fun _ _ => rfl) (congrArg Prod.fst hr.o) hr.2.2 ?_
  refine mv_cVv (pc := 9) dX2_readAll_9 lk2_23 (congrArg Prod.fst hq.o) (c1_tellAnew hq) rfl rfl (Nat.le_of_ble_eq_true rfl) (by decide) (by decide) (fun J ⟨hp, hf⟩ => ?_)
  have hlJ : J z 1 = nI L := by rw [hf z (by omega), mv_upN z (by omega)]; exact hl
  have hxJ : ∀ j, j < L → J (z + 1) j = w j := fun j hj => by rw [hf (z + 1) (by omega), mv_upN (z + 1) (by omega)]; exact hx j hj
  refine mv_aload_n (pc := 12) dX2_readAll_12 rfl ?_
  refine mv_getR (pc := 13) (q := z) dX2_readAll_13 fl2_15 (fun _ _ => rfl) (congrArg Prod.fst hr.o) hr.2.1 ?_
  refine mv_cVv (pc := 16) dX2_readAll_16 lk2_28 (congrArg Prod.fst hz.o) (c4_goToFirst hz hw hlJ hxJ) rfl rfl (Nat.le_of_ble_eq_true rfl) (by decide) (by decide) (fun J2 ⟨hA, hF⟩ => ?_)
  refine mv_iconst (pc := 19) (v := 0) dX2_readAll_19 (by decide) ?_
  refine mv_istore_n (pc := 20) dX2_readAll_20 (by decide) ?_
  refine loop 120 0 0 0 sp_0 J2 (by omega) (by omega) (by omega) hA (hp.tk hF (by omega)) sp_W.z (Or.inl (fun k _ => rfl)) ⟨fun _ => rfl, fun _ => rfl⟩ ?_ ?_ hres
  · rw [hF.1 rd hrz, hf rd hrq, mv_upe]; rfl
  · intro b b1 b2 b3
    rw [hF.1 b b1, hf b b3, mv_upN b b2]
theorem c2_readAll {l : Launch} {D : va_G} {b0 n : Nat} {sh : mv_Sh} {I : mv_I} {R : mv_R} {rd z q L : Nat} {w : Nat → Int32} (K : rd_K sh R rd z q w L) (hl : I z 1 = nI L) (hx : ∀ j, j < L → I (z + 1) j = w j) : mv_C l D b0 m2_readAll (mv_rm 6) [.ref rd] n sh I R (mv_Pi n sh R (fun r I' => rd_QA I' r rd z q (sp_all w L 121 0 0 0 sp_0) ∧ (∀ b, b ≠ z → b ≠ rd → (b < q ∨ q + 9 ≤ b) → I' b = I b) ∧ I' z 1 = nI L)) := mv_C.of 1 (by decide) (by simp [Value.category]) rfl (e2_readAll K hl hx (fun _ _ h => mv_Pi.mk h))

