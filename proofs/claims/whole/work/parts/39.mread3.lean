def md_Q3 (I' : mv_I) (r : Int32) (m : Nat) (w : Nat → Int32) (L : Nat) (res : Nat ⊕ (Nat × Nat × xs_X)) : Prop := match res with
  | .inl s => r = 0 ∧ I' m 6 = nI s
  | .inr (i2, n2, π2) => r = 1 ∧ md_S I' m w L i2 n2 π2 ∧ i2 ≤ L
theorem md_Q.lift {I' : mv_I} {r : Int32} {m L n : Nat} {w : Nat → Int32} {res : Nat ⊕ (Nat × xs_X)} (h : md_Q I' r m w L n res) : md_Q3 I' r m w L (sp_lift n res) := by
  cases res with
  | inl s => exact h
  | inr x => exact h
theorem md_Q3.z {I' : mv_I} {r : Int32} {m L : Nat} {w : Nat → Int32} {res : Nat ⊕ (Nat × Nat × xs_X)} (h : md_Q3 I' r m w L res) : narrow .boolean (.int r) = .int r := by
  cases res with
  | inl s => rw [h.1]; rfl
  | inr x => rw [h.1]; rfl
theorem md_S.n1 {I : mv_I} {m L i n : Nat} {w : Nat → Int32} {π : xs_X} (h : md_S I m w L i n π) : md_S (mv_up I m 7 1) m w L i 1 π := by
  obtain ⟨h1, h2, h3, h4, h5, h6⟩ := h
  have em : ∀ k, k ≠ 7 → mv_up I m 7 1 m k = I m k := fun k hk => by simp [mv_up, hk]
  refine ⟨by rw [em 0 (by decide)]; exact h1, fun j hj => by rw [mv_upN (m + 1) (by omega)]; exact h2 j hj, by rw [em 2 (by decide)]; exact h3, by rw [mv_upe]; rfl, by rw [em 8 (by decide)]; exact h5, fun t ht => ?_⟩
  rw [em 8 (by decide), mv_upN (m + 2) (by omega), mv_upN (m + 3) (by omega), mv_upN (m + 4) (by omega), mv_upN (m + 5) (by omega), mv_upN (m + 6) (by omega), mv_upN (m + 7) (by omega)]
  exact h6 t ht
def md_lso (k : Int) : Int := Op.lookupswitch.offset [(99, 54), (100, 54), (103, 54), (115, 54), (116, 49)] 60 k
theorem md_ls {k : Int} (h1 : k ≠ 99) (h2 : k ≠ 100) (h3 : k ≠ 103) (h4 : k ≠ 115) (h5 : k ≠ 116) : md_lso k = 60 := by
  unfold md_lso
  simp [Op.lookupswitch.offset, h1, h2, h3, h4, h5, Ne.symm h1, Ne.symm h2, Ne.symm h3, Ne.symm h4, Ne.symm h5]
set_option maxHeartbeats 4000000 in
set_option maxRecDepth 100000 in
theorem e6_readsItem {l : Launch} {D : va_G} {b0 n : Nat} {sh : mv_Sh} {I : mv_I} {R : mv_R} {Q : mv_Q} {m L i n' : Nat} {w : Nat → Int32} {π : xs_X} (hm : ly_Mod sh R m) (hw : tx_W w L) (hS : md_S I m w L i n' π) (hi : i ≤ L) (hW : sp_W n' π) (hs0 : (∀ k, k < 6 → π 0 k = sp_0 0 k) ∨ n' ≠ 0) (hQ : ∀ r I', (md_Q3 I' r m w L (sp_item w L i n' π) ∧ md_Fr m I I') → Q (some (.int r)) n sh I' R) : mv_E l D b0 m6_readsItem (mv_rm 6) Q 0 [.ref m, .null] [] 0 0 n sh I R := by
  have hn8 := hW.1
  have hte := tk_e_le (w := w) hi
  have hdf : n' < 8 → n' ≠ 0 → π n' 1 = nI 0 := fun h h0 => hW.2.2 n' (by unfold sp_n; rw [if_neg h0]; omega) h 1 (by decide)
  refine mv_aload_n (pc := 0) dX6_readsItem_0 rfl ?_
  refine mv_cVv (pc := 1) dX6_readsItem_1 lk6_114 (congrArg Prod.fst hm.o) (c6_next hm hw hS.1 hS.2.1 hS.2.2.1 hi) rfl rfl (Nat.le_of_ble_eq_true rfl) (by decide) (by decide) (fun J ⟨hA, hF⟩ => ?_)
  have hS2 := hS.nx hA hF
  have fJ := md_Fr.rf.mt hF
  have fin : ∀ pc : Nat, sp_item w L i n' π = .inl (tk_s w L i) → md_Q3 (mv_up J m 6 (nI (tk_s w L i))) 0 m w L (sp_item w L i n' π) := by
    intro _ h
    rw [h]
    exact ⟨rfl, mv_upe⟩
  refine mv_aload_n (pc := 4) dX6_readsItem_4 rfl ?_
  refine mv_getIx (pc := 5) (x := tk_m (tk_k w L i)) dX6_readsItem_5 fl6_97 rfl (congrArg Prod.fst hm.o) hA.2.2.1 ?_
  refine mv_istore_n (pc := 8) dX6_readsItem_8 (by decide) ?_
  refine mv_iload_n (pc := 9) dX6_readsItem_9 rfl ?_
  refine mv_bipush (pc := 10) (v := 114) dX6_readsItem_10 (by decide) ?_
  refine mv_icmp_ne (pc := 12) (tgt := 38) dX6_readsItem_12 (by decide) (fun hb => ?_) (fun hb => ?_)
  · have h114 : ¬ tk_k w L i = 114 := fun q => hb ((tk_mT (c := 114) (by decide) (by decide)).mpr q)
    refine mv_aload_n (pc := 38) dX6_readsItem_38 rfl ?_
    refine mv_getIx (pc := 39) (x := nI n') dX6_readsItem_39 fl6_120 rfl (congrArg Prod.fst hm.o) hS2.2.2.2.1 ?_
    refine mv_if_ne (pc := 42) (tgt := 50) dX6_readsItem_42 (by decide) (fun hb2 => ?_) (fun hb2 => ?_)
    · have hn0 : n' ≠ 0 := fun q => hb2 (by rw [q]; rfl)
      refine mv_iload_n (pc := 50) dX6_readsItem_50 rfl ?_
      by_cases h116 : tk_k w L i = 116
      · rw [(tk_mT (c := 116) (by decide) (by decide)).mpr h116]
        refine mv_lsw (pc := 51) (off := 49) (tgt := 100) dX6_readsItem_51 (by decide) (by decide) (by decide) ?_
        refine mv_aload_n (pc := 100) dX6_readsItem_100 rfl ?_
        refine mv_cVi (pc := 101) dX6_readsItem_101 lk6_136 (congrArg Prod.fst hm.o) (c6_readsTask hm hw hA hS2 hi hn0 hn8 (fun h => hdf h hn0)) rfl rfl (Nat.le_of_ble_eq_true rfl) (by decide) (by decide) (fun r J2 ⟨q1, q2, hf2⟩ => ?_)
        have q3 : md_Q3 J2 r m w L (sp_item w L i n' π) := by
          unfold sp_item
          rw [if_neg hn0, if_pos h116]
          by_cases h8 : n' = 8
          · rw [if_pos h8]; exact q1 h8
          · rw [if_neg h8]; exact (q2 h8).lift
        exact mv_zret (pc := 104) dX6_readsItem_104 rfl q3.z (by decide) (by decide) (hQ _ _ ⟨q3, fJ.tr hf2⟩)
      · by_cases h100 : tk_k w L i = 100
        · rw [(tk_mT (c := 100) (by decide) (by decide)).mpr h100]
          refine mv_lsw (pc := 51) (off := 54) (tgt := 105) dX6_readsItem_51 (by decide) (by decide) (by decide) ?_
          refine mv_aload_n (pc := 105) dX6_readsItem_105 rfl ?_
          refine mv_iload_n (pc := 106) dX6_readsItem_106 rfl ?_
          refine mv_cVi (pc := 107) dX6_readsItem_107 lk6_139 (congrArg Prod.fst hm.o) (c6_readsOf (i := i) hm hw hS2 hi hn0 hn8 (Or.inr (Or.inl ⟨rfl, rfl⟩))) rfl rfl (Nat.le_of_ble_eq_true rfl) (by decide) (by decide) (fun r J2 ⟨q1, hf2⟩ => ?_)
          have q3 : md_Q3 J2 r m w L (sp_item w L i n' π) := by
            unfold sp_item
            rw [if_neg hn0, if_neg h116, if_pos h100]
            exact q1.lift
          exact mv_zret (pc := 110) dX6_readsItem_110 rfl q3.z (by decide) (by decide) (hQ _ _ ⟨q3, fJ.tr hf2⟩)
        · by_cases h115 : tk_k w L i = 115
          · rw [(tk_mT (c := 115) (by decide) (by decide)).mpr h115]
            refine mv_lsw (pc := 51) (off := 54) (tgt := 105) dX6_readsItem_51 (by decide) (by decide) (by decide) ?_
            refine mv_aload_n (pc := 105) dX6_readsItem_105 rfl ?_
            refine mv_iload_n (pc := 106) dX6_readsItem_106 rfl ?_
            refine mv_cVi (pc := 107) dX6_readsItem_107 lk6_139 (congrArg Prod.fst hm.o) (c6_readsOf (i := i) hm hw hS2 hi hn0 hn8 (Or.inr (Or.inr (Or.inl ⟨rfl, rfl⟩)))) rfl rfl (Nat.le_of_ble_eq_true rfl) (by decide) (by decide) (fun r J2 ⟨q1, hf2⟩ => ?_)
            have q3 : md_Q3 J2 r m w L (sp_item w L i n' π) := by
              unfold sp_item
              rw [if_neg hn0, if_neg h116, if_neg h100, if_pos h115]
              exact q1.lift
            exact mv_zret (pc := 110) dX6_readsItem_110 rfl q3.z (by decide) (by decide) (hQ _ _ ⟨q3, fJ.tr hf2⟩)
          · by_cases h99 : tk_k w L i = 99
            · rw [(tk_mT (c := 99) (by decide) (by decide)).mpr h99]
              refine mv_lsw (pc := 51) (off := 54) (tgt := 105) dX6_readsItem_51 (by decide) (by decide) (by decide) ?_
              refine mv_aload_n (pc := 105) dX6_readsItem_105 rfl ?_
              refine mv_iload_n (pc := 106) dX6_readsItem_106 rfl ?_
              refine mv_cVi (pc := 107) dX6_readsItem_107 lk6_139 (congrArg Prod.fst hm.o) (c6_readsOf (i := i) hm hw hS2 hi hn0 hn8 (Or.inr (Or.inr (Or.inr ⟨rfl, rfl⟩)))) rfl rfl (Nat.le_of_ble_eq_true rfl) (by decide) (by decide) (fun r J2 ⟨q1, hf2⟩ => ?_)
              have q3 : md_Q3 J2 r m w L (sp_item w L i n' π) := by
                unfold sp_item
                rw [if_neg hn0, if_neg h116, if_neg h100, if_neg h115, if_pos h99]
                exact q1.lift
              exact mv_zret (pc := 110) dX6_readsItem_110 rfl q3.z (by decide) (by decide) (hQ _ _ ⟨q3, fJ.tr hf2⟩)
            · by_cases h103 : tk_k w L i = 103
              · rw [(tk_mT (c := 103) (by decide) (by decide)).mpr h103]
                refine mv_lsw (pc := 51) (off := 54) (tgt := 105) dX6_readsItem_51 (by decide) (by decide) (by decide) ?_
                refine mv_aload_n (pc := 105) dX6_readsItem_105 rfl ?_
                refine mv_iload_n (pc := 106) dX6_readsItem_106 rfl ?_
                refine mv_cVi (pc := 107) dX6_readsItem_107 lk6_139 (congrArg Prod.fst hm.o) (c6_readsOf (i := i) hm hw hS2 hi hn0 hn8 (Or.inl ⟨rfl, rfl⟩)) rfl rfl (Nat.le_of_ble_eq_true rfl) (by decide) (by decide) (fun r J2 ⟨q1, hf2⟩ => ?_)
                have q3 : md_Q3 J2 r m w L (sp_item w L i n' π) := by
                  unfold sp_item
                  rw [if_neg hn0, if_neg h116, if_neg h100, if_neg h115, if_neg h99, if_pos h103]
                  exact q1.lift
                exact mv_zret (pc := 110) dX6_readsItem_110 rfl q3.z (by decide) (by decide) (hQ _ _ ⟨q3, fJ.tr hf2⟩)
              · have hne : ∀ c : Int32, tk_tb c = true → c ≠ -1 ∧ c ≠ 0 ∧ c ≠ -2 → ¬ tk_k w L i = c → (tk_m (tk_k w L i)).toInt ≠ c.toInt := fun c c1 c2 c3 q => c3 ((tk_mT c1 c2).mp (Int32.toInt_inj.mp q))
                refine mv_lsw (pc := 51) (off := 60) (tgt := 111) dX6_readsItem_51 (by decide) (md_ls (hne 99 (by decide) (by decide) h99) (hne 100 (by decide) (by decide) h100) (hne 103 (by decide) (by decide) h103) (hne 115 (by decide) (by decide) h115) (hne 116 (by decide) (by decide) h116)) (by decide) ?_
                refine mv_aload_n (pc := 111) dX6_readsItem_111 rfl ?_
                refine mv_cVi (pc := 112) dX6_readsItem_112 lk6_117 (congrArg Prod.fst hm.o) (c6_fails hm hA.2.1) rfl rfl (Nat.le_of_ble_eq_true rfl) (by decide) (by decide) (fun r J2 ⟨e1, e2⟩ => ?_)
                subst e1 e2
                refine mv_zret (pc := 115) dX6_readsItem_115 rfl (by rfl) (by decide) (by decide) (hQ _ _ ⟨fin 0 ?_, fJ.up (by omega)⟩)
                unfold sp_item
                rw [if_neg hn0, if_neg h116, if_neg h100, if_neg h115, if_neg h99, if_neg h103]
    · have hn0 : n' = 0 := (nI_eq (b := 0) (by omega) (by decide)).mp hb2
      refine mv_aload_n (pc := 45) dX6_readsItem_45 rfl ?_
      refine mv_cVi (pc := 46) dX6_readsItem_46 lk6_117 (congrArg Prod.fst hm.o) (c6_fails hm hA.2.1) rfl rfl (Nat.le_of_ble_eq_true rfl) (by decide) (by decide) (fun r J2 ⟨e1, e2⟩ => ?_)
      subst e1 e2
      refine mv_zret (pc := 49) dX6_readsItem_49 rfl (by rfl) (by decide) (by decide) (hQ _ _ ⟨fin 0 ?_, fJ.up (by omega)⟩)
      unfold sp_item
      rw [if_pos hn0, if_neg h114]
  · have h114 := (tk_mT (c := 114) (by decide) (by decide)).mp hb
    refine mv_aload_n (pc := 15) dX6_readsItem_15 rfl ?_
    refine mv_getIx (pc := 16) (x := nI n') dX6_readsItem_16 fl6_120 rfl (congrArg Prod.fst hm.o) hS2.2.2.2.1 ?_
    refine mv_if_le (pc := 19) (tgt := 27) dX6_readsItem_19 (by decide) (fun hb2 => ?_) (fun hb2 => ?_)
    · have hn0 : n' = 0 := by
        rcases Nat.eq_zero_or_pos n' with q | q
        · exact q
        · exact absurd hb2 (nI_nle q (by omega))
      subst hn0
      refine mv_aload_n (pc := 27) dX6_readsItem_27 rfl ?_
      refine mv_iconst (pc := 28) (v := 1) dX6_readsItem_28 (by decide) ?_
      refine mv_putI (pc := 29) dX6_readsItem_29 fl6_120 rfl rfl (congrArg Prod.fst hm.o) ?_
      refine mv_aload_n (pc := 32) dX6_readsItem_32 rfl ?_
      refine mv_iconst (pc := 33) (v := 0) dX6_readsItem_33 (by decide) ?_
      refine mv_cVi (pc := 34) dX6_readsItem_34 lk6_130 (congrArg Prod.fst hm.o) (c6_readsProgram (t := 0) hm hw hS2.n1 hte.2.1 (by decide) (hs0.elim (fun q => q 1 (by decide)) (fun q => absurd rfl q))) rfl rfl (Nat.le_of_ble_eq_true rfl) (by decide) (by decide) (fun r J2 ⟨q1, hf2⟩ => ?_)
      have q3 : md_Q3 J2 r m w L (sp_item w L i 0 π) := by
        unfold sp_item
        rw [if_pos rfl, if_pos h114]
        exact q1.lift
      exact mv_zret (pc := 37) dX6_readsItem_37 rfl q3.z (by decide) (by decide) (hQ _ _ ⟨q3, (fJ.up (by omega)).tr hf2⟩)
    · have hn0 : n' ≠ 0 := fun q => hb2 (by rw [q]; decide)
      refine mv_aload_n (pc := 22) dX6_readsItem_22 rfl ?_
      refine mv_cVi (pc := 23) dX6_readsItem_23 lk6_117 (congrArg Prod.fst hm.o) (c6_fails hm hA.2.1) rfl rfl (Nat.le_of_ble_eq_true rfl) (by decide) (by decide) (fun r J2 ⟨e1, e2⟩ => ?_)
      subst e1 e2
      refine mv_zret (pc := 26) dX6_readsItem_26 rfl (by rfl) (by decide) (by decide) (hQ _ _ ⟨fin 0 ?_, fJ.up (by omega)⟩)
      unfold sp_item
      rw [if_neg hn0, if_neg (by rw [h114]; decide), if_neg (by rw [h114]; decide), if_neg (by rw [h114]; decide), if_neg (by rw [h114]; decide), if_neg (by rw [h114]; decide)]
theorem c6_readsItem {l : Launch} {D : va_G} {b0 n : Nat} {sh : mv_Sh} {I : mv_I} {R : mv_R} {m L i n' : Nat} {w : Nat → Int32} {π : xs_X} (hm : ly_Mod sh R m) (hw : tx_W w L) (hS : md_S I m w L i n' π) (hi : i ≤ L) (hW : sp_W n' π) (hs0 : (∀ k, k < 6 → π 0 k = sp_0 0 k) ∨ n' ≠ 0) : mv_C l D b0 m6_readsItem (mv_rm 6) [.ref m] n sh I R (mv_Pi n sh R (fun r I' => md_Q3 I' r m w L (sp_item w L i n' π) ∧ md_Fr m I I')) := mv_C.of 1 (by decide) (by simp [Value.category]) rfl (e6_readsItem hm hw hS hi hW hs0 (fun _ _ h => mv_Pi.mk h))
set_option maxHeartbeats 4000000 in
set_option maxRecDepth 100000 in
theorem e6_begins {l : Launch} {D : va_G} {b0 n : Nat} {sh : mv_Sh} {I : mv_I} {R : mv_R} {Q : mv_Q} {m : Nat} (hm : ly_Mod sh R m) (hQ : ∀ I', ((I' m 7 = nI 0 ∧ I' m 8 = nI 0) ∧ (∀ t, t < 8 → I' (m + 2) t = -9 ∧ I' (m + 3) t = 0 ∧ I' (m + 5) t = 99 ∧ I' (m + 6) t = 0 ∧ I' (m + 7) t = 0) ∧ (∀ b, b ≠ m → b ≠ m + 2 → b ≠ m + 3 → b ≠ m + 5 → b ≠ m + 6 → b ≠ m + 7 → I' b = I b) ∧ ∀ k, k ≠ 7 → k ≠ 8 → I' m k = I m k) → Q none n sh I' R) : mv_E l D b0 m6_begins (mv_rm 0) Q 0 [.ref m, .null] [] 0 0 n sh I R := by
  have loop : ∀ (f t : Nat) (J : mv_I), t + f = 8 → (J m 7 = nI 0 ∧ J m 8 = nI 0) → (∀ u, u < t → J (m + 2) u = -9 ∧ J (m + 3) u = 0 ∧ J (m + 5) u = 99 ∧ J (m + 6) u = 0 ∧ J (m + 7) u = 0) → (∀ b, b ≠ m → b ≠ m + 2 → b ≠ m + 3 → b ≠ m + 5 → b ≠ m + 6 → b ≠ m + 7 → J b = I b) → (∀ k, k ≠ 7 → k ≠ 8 → J m k = I m k) → mv_E l D b0 m6_begins (mv_rm 0) Q 12 [.ref m, .int (nI t)] [] 0 0 n sh J R := by
    intro f
    induction f with
    | zero =>
      intro t J ht h1 h2 h3 h4
      refine mv_iload_n (pc := 12) dX6_begins_12 rfl ?_
      refine mv_bipush (pc := 13) (v := 8) dX6_begins_13 (by decide) ?_
      refine mv_icmp_ge (pc := 15) (tgt := 61) dX6_begins_15 (by decide) (fun hb => ?_) (fun hb => ?_)
      · exact mv_vret (pc := 61) dX6_begins_61 rfl (by decide) (by decide) (hQ _ ⟨h1, fun u hu => h2 u (by omega), h3, h4⟩)
      · exact absurd (nI_le (a := 8) (by omega) (by omega)) hb
    | succ f ih =>
      intro t J ht h1 h2 h3 h4
      refine mv_iload_n (pc := 12) dX6_begins_12 rfl ?_
      refine mv_bipush (pc := 13) (v := 8) dX6_begins_13 (by decide) ?_
      refine mv_icmp_ge (pc := 15) (tgt := 61) dX6_begins_15 (by decide) (fun hb => ?_) (fun hb => ?_)
      · exact absurd hb (nI_ge (b := 8) (by omega) (by decide))
      · refine mv_aload_n (pc := 18) dX6_begins_18 rfl ?_
        refine mv_getR (pc := 19) (q := m + 2) dX6_begins_19 fl6_13 (fun _ _ => rfl) (congrArg Prod.fst hm.o) hm.f9 ?_
        refine mv_iload_n (pc := 22) dX6_begins_22 rfl ?_
        refine mv_bipush (pc := 23) (v := -9) dX6_begins_23 (by decide) ?_
        refine mv_iast (pc := 25) (k := t) dX6_begins_25 hm.g9 rfl (by omega) ?_
        refine mv_aload_n (pc := 26) dX6_begins_26 rfl ?_
        refine mv_getR (pc := 27) (q := m + 3) dX6_begins_27 fl6_16 (fun _ _ => rfl) (congrArg Prod.fst hm.o) hm.f10 ?_
        refine mv_iload_n (pc := 30) dX6_begins_30 rfl ?_
        refine mv_iconst (pc := 31) (v := 0) dX6_begins_31 (by decide) ?_
        refine mv_iast (pc := 32) (k := t) dX6_begins_32 hm.g10 rfl (by omega) ?_
        refine mv_aload_n (pc := 33) dX6_begins_33 rfl ?_
        refine mv_getR (pc := 34) (q := m + 5) dX6_begins_34 fl6_22 (fun _ _ => rfl) (congrArg Prod.fst hm.o) hm.f12 ?_
        refine mv_iload_n (pc := 37) dX6_begins_37 rfl ?_
        refine mv_bipush (pc := 38) (v := 99) dX6_begins_38 (by decide) ?_
        refine mv_iast (pc := 40) (k := t) dX6_begins_40 hm.g12 rfl (by omega) ?_
        refine mv_aload_n (pc := 41) dX6_begins_41 rfl ?_
        refine mv_getR (pc := 42) (q := m + 6) dX6_begins_42 fl6_25 (fun _ _ => rfl) (congrArg Prod.fst hm.o) hm.f13 ?_
        refine mv_iload_n (pc := 45) dX6_begins_45 rfl ?_
        refine mv_iconst (pc := 46) (v := 0) dX6_begins_46 (by decide) ?_
        refine mv_iast (pc := 47) (k := t) dX6_begins_47 hm.g13 rfl (by omega) ?_
        refine mv_aload_n (pc := 48) dX6_begins_48 rfl ?_
        refine mv_getR (pc := 49) (q := m + 7) dX6_begins_49 fl6_28 (fun _ _ => rfl) (congrArg Prod.fst hm.o) hm.f14 ?_
        refine mv_iload_n (pc := 52) dX6_begins_52 rfl ?_
        refine mv_iconst (pc := 53) (v := 0) dX6_begins_53 (by decide) ?_
        refine mv_iast (pc := 54) (k := t) dX6_begins_54 hm.g14 rfl (by omega) ?_
        refine mv_iinc (pc := 55) (v := nI (t + 1)) dX6_begins_55 (by decide) rfl (nI_1 t) ?_
        refine mv_goto (pc := 58) (tgt := 12) dX6_begins_58 (by decide) ?_
        refine ih (t + 1) _ (by omega) ⟨?_, ?_⟩ (fun u hu => ?_) (fun b b1 b2 b3 b4 b5 b6 => ?_) (fun k k1 k2 => ?_)
        · rw [mv_upN m (by omega), mv_upN m (by omega), mv_upN m (by omega), mv_upN m (by omega), mv_upN m (by omega)]; exact h1.1
        · rw [mv_upN m (by omega), mv_upN m (by omega), mv_upN m (by omega), mv_upN m (by omega), mv_upN m (by omega)]; exact h1.2
        · by_cases q : u = t
          · subst q
            refine ⟨?_, ?_, ?_, ?_, ?_⟩ <;> simp [mv_up]
          · obtain ⟨a1, a2, a3, a4, a5⟩ := h2 u (by omega)
            refine ⟨?_, ?_, ?_, ?_, ?_⟩
            · simpa [mv_up, q] using a1
            · simpa [mv_up, q] using a2
            · simpa [mv_up, q] using a3
            · simpa [mv_up, q] using a4
            · simpa [mv_up, q] using a5
        · rw [mv_upN b b6, mv_upN b b5, mv_upN b b4, mv_upN b b3, mv_upN b b2]; exact h3 b b1 b2 b3 b4 b5 b6
        · rw [mv_upN m (by omega), mv_upN m (by omega), mv_upN m (by omega), mv_upN m (by omega), mv_upN m (by omega)]; exact h4 k k1 k2
  refine mv_aload_n (pc := 0) dX6_begins_0 rfl ?_
  refine mv_iconst (pc := 1) (v := 0) dX6_begins_1 (by decide) ?_
  refine mv_putI (pc := 2) dX6_begins_2 fl6_120 rfl rfl (congrArg Prod.fst hm.o) ?_
  refine mv_aload_n (pc := 5) dX6_begins_5 rfl ?_
  refine mv_iconst (pc := 6) (v := 0) dX6_begins_6 (by decide) ?_
  refine mv_putI (pc := 7) dX6_begins_7 fl6_123 rfl rfl (congrArg Prod.fst hm.o) ?_
  refine mv_iconst (pc := 10) (v := 0) dX6_begins_10 (by decide) ?_
  refine mv_istore_n (pc := 11) dX6_begins_11 (by decide) ?_
  refine loop 8 0 _ (by omega) ⟨?_, ?_⟩ (fun u hu => by omega) (fun b b1 _ _ _ _ _ => by rw [mv_upN b b1, mv_upN b b1]) (fun k k1 k2 => by simp [mv_up, k1, k2])
  · simp [mv_up]; rfl
  · simp [mv_up]; rfl
theorem c6_begins {l : Launch} {D : va_G} {b0 n : Nat} {sh : mv_Sh} {I : mv_I} {R : mv_R} {m : Nat} (hm : ly_Mod sh R m) : mv_C l D b0 m6_begins (mv_rm 0) [.ref m] n sh I R (mv_Pv n sh R (fun I' => (I' m 7 = nI 0 ∧ I' m 8 = nI 0) ∧ (∀ t, t < 8 → I' (m + 2) t = -9 ∧ I' (m + 3) t = 0 ∧ I' (m + 5) t = 99 ∧ I' (m + 6) t = 0 ∧ I' (m + 7) t = 0) ∧ (∀ b, b ≠ m → b ≠ m + 2 → b ≠ m + 3 → b ≠ m + 5 → b ≠ m + 6 → b ≠ m + 7 → I' b = I b) ∧ ∀ k, k ≠ 7 → k ≠ 8 → I' m k = I m k)) := mv_C.of 1 (by decide) (by simp [Value.category]) rfl (e6_begins hm (fun _ h => mv_Pv.mk h))

