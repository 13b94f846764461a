theorem rd_Q.z {I' : mv_I} {r : Int32} {z q L n : Nat} {w : Nat → Int32} {res : Nat ⊕ (Nat × xs_X)} (h : rd_Q I' r z q w L n res) : narrow .boolean (.int r) = .int r := by
  cases res with
  | inl s => rw [h.1]; rfl
  | inr x => rw [h.1]; rfl
set_option maxHeartbeats 4000000 in
set_option maxRecDepth 100000 in
theorem e2_readRoot {l : Launch} {D : va_G} {b0 n : Nat} {sh : mv_Sh} {I : mv_I} {R : mv_R} {Q : mv_Q} {rd z q L i n' : Nat} {w : Nat → Int32} {π : xs_X} (K : rd_K sh R rd z q w L) (hA : tk_A I z w L i) (hi : i ≤ L) (hp : pl_C I q (sp_n n') π) (hW : sp_W n' π) (hc : π 0 1 = nI 0) (hQ : ∀ r I', (rd_Q I' r z q w L (sp_n n') (sp_ops w L 0 7 0 (tk_e w L i) π) ∧ rd_Fr z q I I') → Q (some (.int r)) n sh I' R) : mv_E l D b0 m2_readRoot (mv_rm 4) Q 0 [.ref rd] [] 0 0 n sh I R := by
  obtain ⟨hr, hz, hq, hw, hzq, hrz, hrz1, hrq⟩ := id K
  have hte := tk_e_le (w := w) hi
  refine mv_aload_n (pc := 0) dX2_readRoot_0 rfl ?_
  refine mv_getR (pc := 1) (q := z) dX2_readRoot_1 fl2_15 (fun _ _ => rfl) (congrArg Prod.fst hr.o) hr.2.1 ?_
  refine mv_cVv (pc := 4) dX2_readRoot_4 lk2_63 (congrArg Prod.fst hz.o) (c4_advance hz hw hA.1 hA.2.1 hA.2.2.2.2.1 hte.2.1) rfl rfl (Nat.le_of_ble_eq_true rfl) (by decide) (by decide) (fun J ⟨hA2, hF⟩ => ?_)
  refine mv_aload_n (pc := 7) dX2_readRoot_7 rfl ?_
  refine mv_iconst (pc := 8) (v := 0) dX2_readRoot_8 (by decide) ?_
  refine mv_cVi (pc := 9) dX2_readRoot_9 lk2_66 (congrArg Prod.fst hr.o) (c2_readOperations (t := 0) K hA2 hte.2.1 (hp.tk hF (by omega)) hW (sp_nn hW.1).1 hc) rfl rfl (Nat.le_of_ble_eq_true rfl) (by decide) (by decide) (fun r J2 ⟨hq2, hf2⟩ => ?_)
  exact mv_zret (pc := 12) dX2_readRoot_12 rfl hq2.z (by decide) (by decide) (hQ _ _ ⟨hq2, (rd_Fr.rf.tk hF).tr hf2⟩)
theorem c2_readRoot {l : Launch} {D : va_G} {b0 n : Nat} {sh : mv_Sh} {I : mv_I} {R : mv_R} {rd z q L i n' : Nat} {w : Nat → Int32} {π : xs_X} (K : rd_K sh R rd z q w L) (hA : tk_A I z w L i) (hi : i ≤ L) (hp : pl_C I q (sp_n n') π) (hW : sp_W n' π) (hc : π 0 1 = nI 0) : mv_C l D b0 m2_readRoot (mv_rm 4) [.ref rd] n sh I R (mv_Pi n sh R (fun r I' => rd_Q I' r z q w L (sp_n n') (sp_ops w L 0 7 0 (tk_e w L i) π) ∧ rd_Fr z q I I')) := mv_C.of 0 (by decide) (by simp [Value.category]) rfl (e2_readRoot K hA hi hp hW hc (fun _ _ h => mv_Pi.mk h))
set_option maxHeartbeats 4000000 in
set_option maxRecDepth 100000 in
theorem e2_readTask {l : Launch} {D : va_G} {b0 n : Nat} {sh : mv_Sh} {I : mv_I} {R : mv_R} {Q : mv_Q} {rd z q L i n' : Nat} {w : Nat → Int32} {π : xs_X} (K : rd_K sh R rd z q w L) (hA : tk_A I z w L i) (hi : i ≤ L) (hp : pl_C I q n' π) (hW : sp_W n' π) (hn0 : n' ≠ 0) (hQ : ∀ r I', ((n' = 8 → r = 0 ∧ I' z 4 = nI (tk_s w L i) ∧ I' z 1 = nI L) ∧ (n' ≠ 8 → rd_Q I' r z q w L (n' + 1) (sp_tsk w L i n' π)) ∧ rd_Fr z q I I') → Q (some (.int r)) n sh I' R) : mv_E l D b0 m2_readTask (mv_rm 4) Q 0 [.ref rd, .null] [] 0 0 n sh I R := by
  obtain ⟨hr, hz, hq, hw, hzq, hrz, hrz1, hrq⟩ := id K
  have hte := tk_e_le (w := w) hi
  have hte2 := tk_e_le (w := w) hte.2.1
  have hn8 := hW.1
  have en : sp_n n' = n' := by unfold sp_n; rw [if_neg hn0]
  have en1 : sp_n (n' + 1) = n' + 1 := by unfold sp_n; rw [if_neg (by omega)]
  refine mv_aload_n (pc := 0) dX2_readTask_0 rfl ?_
  refine mv_getR (pc := 1) (q := q) dX2_readTask_1 fl2_19 (fun _ _ => rfl) (congrArg Prod.fst hr.o) hr.2.2 ?_
  refine mv_getIx (pc := 4) (x := nI n') dX2_readTask_4 fl2_70 rfl (congrArg Prod.fst hq.o) hp.1 ?_
  refine mv_bipush (pc := 7) (v := 8) dX2_readTask_7 (by decide) ?_
  refine mv_icmp_lt (pc := 9) (tgt := 14) dX2_readTask_9 (by decide) (fun hb => ?_) (fun hb => ?_)
  · have hlt : n' < 8 := (nI_ltI (b := 8) (by omega) (by decide)).mp hb
    refine mv_aload_n (pc := 14) dX2_readTask_14 rfl ?_
    refine mv_getR (pc := 15) (q := z) dX2_readTask_15 fl2_15 (fun _ _ => rfl) (congrArg Prod.fst hr.o) hr.2.1 ?_
    refine mv_cVv (pc := 18) dX2_readTask_18 lk2_63 (congrArg Prod.fst hz.o) (c4_advance hz hw hA.1 hA.2.1 hA.2.2.2.2.1 hte.2.1) rfl rfl (Nat.le_of_ble_eq_true rfl) (by decide) (by decide) (fun J ⟨hA2, hF⟩ => ?_)
    have hp2 := hp.tk hF (by omega)
    refine mv_aload_n (pc := 21) dX2_readTask_21 rfl ?_
    refine mv_cVi (pc := 22) dX2_readTask_22 lk2_73 (congrArg Prod.fst hr.o) (c2_isTaskTold K hA2 hp2 (by omega) (by omega)) rfl rfl (Nat.le_of_ble_eq_true rfl) (by decide) (by decide) (fun r J' ⟨e1, e2⟩ => ?_)
    subst e1 e2
    refine mv_if_ne (pc := 25) (tgt := 30) dX2_readTask_25 (by decide) (fun hb2 => ?_) (fun hb2 => ?_)
    · have hnum : sp_numb w L (tk_e w L i) 0 (n' - 1) = true := Classical.byContradiction fun q => hb2 (by rw [if_neg q])
      have hnum2 := sp_numb_iff.mp hnum
      have hu : tk_v w L (tk_e w L i) < n' := by omega
      have hT := hW.tsk (u := tk_v w L (tk_e w L i)) (by omega) hlt hu
      have hdf : ∀ k, k < 6 → π n' k = sp_0 n' k := hW.2.2 n' (by rw [en]; omega) hlt
      refine mv_aload_n (pc := 30) dX2_readTask_30 rfl ?_
      refine mv_getR (pc := 31) (q := q) dX2_readTask_31 fl2_19 (fun _ _ => rfl) (congrArg Prod.fst hr.o) hr.2.2 ?_
      refine mv_aload_n (pc := 34) dX2_readTask_34 rfl ?_
      refine mv_getR (pc := 35) (q := z) dX2_readTask_35 fl2_15 (fun _ _ => rfl) (congrArg Prod.fst hr.o) hr.2.1 ?_
      refine mv_getIx (pc := 38) (x := nI (tk_v w L (tk_e w L i))) dX2_readTask_38 fl2_76 rfl (congrArg Prod.fst hz.o) (hA2.2.2.2.2.2 hnum2.1).1 ?_
      refine mv_cVi (pc := 41) dX2_readTask_41 lk2_79 (congrArg Prod.fst hq.o) (c1_addTask (π' := mv_up π n' 0 (nI (tk_v w L (tk_e w L i)))) hq hp2 hlt (fun u hu => mv_upN u (by omega)) mv_upe (by have := hdf 1 (by decide); simpa [mv_up, sp_0] using this) (by have := hdf 2 (by decide); simpa [mv_up, sp_0] using this) (by have := hdf 3 (by decide); simpa [mv_up, sp_0] using this) (by have := hdf 4 (by decide); simpa [mv_up, sp_0] using this) (by have := hdf 5 (by decide); simpa [mv_up, sp_0] using this)) rfl rfl (Nat.le_of_ble_eq_true rfl) (by decide) (by decide) (fun r J2 ⟨e1, hp3, hf3⟩ => ?_)
      subst e1
      have hA3 := hA2.keep (hf3 z (by omega)) (hf3 (z + 1) (by omega))
      refine mv_istore_n (pc := 44) dX2_readTask_44 (by decide) ?_
      refine mv_aload_n (pc := 45) dX2_readTask_45 rfl ?_
      refine mv_getR (pc := 46) (q := z) dX2_readTask_46 fl2_15 (fun _ _ => rfl) (congrArg Prod.fst hr.o) hr.2.1 ?_
      refine mv_cVv (pc := 49) dX2_readTask_49 lk2_63 (congrArg Prod.fst hz.o) (c4_advance hz hw hA3.1 hA3.2.1 hA3.2.2.2.2.1 hte2.2.1) rfl rfl (Nat.le_of_ble_eq_true rfl) (by decide) (by decide) (fun J3 ⟨hA4, hF4⟩ => ?_)
      refine mv_aload_n (pc := 52) dX2_readTask_52 rfl ?_
      refine mv_iload_n (pc := 53) dX2_readTask_53 rfl ?_
      refine mv_cVi (pc := 54) dX2_readTask_54 lk2_66 (congrArg Prod.fst hr.o) (c2_readOperations (n' := n' + 1) (t := n') K hA4 hte2.2.1 (by rw [en1]; exact hp3.tk hF4 (by omega)) hT.1 (by rw [en1]; omega) hT.2) rfl rfl (Nat.le_of_ble_eq_true rfl) (by decide) (by decide) (fun r J4 ⟨hq4, hf4⟩ => ?_)
      refine mv_zret (pc := 57) dX2_readTask_57 rfl hq4.z (by decide) (by decide) (hQ _ _ ⟨fun q => by omega, fun _ => ?_, (((rd_Fr.rf.tk hF).pc hf3).tk hF4).tr hf4⟩)
      rw [en1] at hq4
      unfold sp_tsk
      rw [if_pos hnum]
      exact hq4
    · have hnum : ¬ sp_numb w L (tk_e w L i) 0 (n' - 1) = true := fun q => by rw [if_pos q] at hb2; exact absurd hb2 (by decide)
      refine mv_iconst (pc := 28) (v := 0) dX2_readTask_28 (by decide) ?_
      refine mv_zret (pc := 29) dX2_readTask_29 rfl (by rfl) (by decide) (by decide) (hQ _ _ ⟨fun q => by omega, fun _ => ?_, rd_Fr.rf.tk hF⟩)
      unfold sp_tsk
      rw [if_neg hnum]
      exact ⟨rfl, hA2.2.2.2.1, hA2.1⟩
  · have hge : n' = 8 := by
      have : ¬ n' < 8 := fun q => hb (nI_lt (b := 8) q (by decide))
      omega
    refine mv_iconst (pc := 12) (v := 0) dX2_readTask_12 (by decide) ?_
    exact mv_zret (pc := 13) dX2_readTask_13 rfl (by rfl) (by decide) (by decide) (hQ _ _ ⟨fun _ => ⟨rfl, hA.2.2.2.1, hA.1⟩, fun q => absurd hge q, rd_Fr.rf⟩)
theorem c2_readTask {l : Launch} {D : va_G} {b0 n : Nat} {sh : mv_Sh} {I : mv_I} {R : mv_R} {rd z q L i n' : Nat} {w : Nat → Int32} {π : xs_X} (K : rd_K sh R rd z q w L) (hA : tk_A I z w L i) (hi : i ≤ L) (hp : pl_C I q n' π) (hW : sp_W n' π) (hn0 : n' ≠ 0) : mv_C l D b0 m2_readTask (mv_rm 4) [.ref rd] n sh I R (mv_Pi n sh R (fun r I' => (n' = 8 → r = 0 ∧ I' z 4 = nI (tk_s w L i) ∧ I' z 1 = nI L) ∧ (n' ≠ 8 → rd_Q I' r z q w L (n' + 1) (sp_tsk w L i n' π)) ∧ rd_Fr z q I I')) := mv_C.of 1 (by decide) (by simp [Value.category]) rfl (e2_readTask K hA hi hp hW hn0 (fun _ _ h => mv_Pi.mk h))
set_option maxHeartbeats 4000000 in
set_option maxRecDepth 100000 in
theorem e2_readSetting {l : Launch} {D : va_G} {b0 n : Nat} {sh : mv_Sh} {I : mv_I} {R : mv_R} {Q : mv_Q} {rd z q L i n' col lo up : Nat} {w : Nat → Int32} {π : xs_X} (K : rd_K sh R rd z q w L) (hA : tk_A I z w L i) (hi : i ≤ L) (hp : pl_C I q n' π) (hn0 : n' ≠ 0) (hn8 : n' ≤ 8) (hsc : sh (q + (col + 3)) = (7, 8)) (hcol : 2 ≤ col ∧ col ≤ 5) (hlo : lo ≤ 99) (hup : up ≤ 99) (hQ : ∀ r I', (rd_Q I' r z q w L n' (sp_set w L i n' π col lo up) ∧ rd_Fr z q I I') → Q (some (.int r)) n sh I' R) : mv_E l D b0 m2_readSetting (mv_rm 3) Q 0 [.ref rd, .ref (q + (col + 3)), .int (nI lo), .int (nI up), .null] [] 0 0 n sh I R := by
  obtain ⟨hr, hz, hq, hw, hzq, hrz, hrz1, hrq⟩ := id K
  have hte := tk_e_le (w := w) hi
  have hte2 := tk_e_le (w := w) hte.2.1
  have hte3 := tk_e_le (w := w) hte2.2.1
  refine mv_aload_n (pc := 0) dX2_readSetting_0 rfl ?_
  refine mv_getR (pc := 1) (q := z) dX2_readSetting_1 fl2_15 (fun _ _ => rfl) (congrArg Prod.fst hr.o) hr.2.1 ?_
  refine mv_cVv (pc := 4) dX2_readSetting_4 lk2_63 (congrArg Prod.fst hz.o) (c4_advance hz hw hA.1 hA.2.1 hA.2.2.2.2.1 hte.2.1) rfl rfl (Nat.le_of_ble_eq_true rfl) (by decide) (by decide) (fun J ⟨hA2, hF⟩ => ?_)
  have hp2 := hp.tk hF (by omega)
  refine mv_aload_n (pc := 7) dX2_readSetting_7 rfl ?_
  refine mv_cVi (pc := 8) dX2_readSetting_8 lk2_73 (congrArg Prod.fst hr.o) (c2_isTaskTold K hA2 hp2 (by omega) (by omega)) rfl rfl (Nat.le_of_ble_eq_true rfl) (by decide) (by decide) (fun r J' ⟨e1, e2⟩ => ?_)
  subst e1 e2
  refine mv_if_ne (pc := 11) (tgt := 16) dX2_readSetting_11 (by decide) (fun hb => ?_) (fun hb => ?_)
  · have hnum : sp_numb w L (tk_e w L i) 0 (n' - 1) = true := Classical.byContradiction fun q => hb (by rw [if_neg q])
    have hnum2 := sp_numb_iff.mp hnum
    have hu : tk_v w L (tk_e w L i) < n' := by omega
    refine mv_aload_n (pc := 16) dX2_readSetting_16 rfl ?_
    refine mv_getR (pc := 17) (q := z) dX2_readSetting_17 fl2_15 (fun _ _ => rfl) (congrArg Prod.fst hr.o) hr.2.1 ?_
    refine mv_getIx (pc := 20) (x := nI (tk_v w L (tk_e w L i))) dX2_readSetting_20 fl2_76 rfl (congrArg Prod.fst hz.o) (hA2.2.2.2.2.2 hnum2.1).1 ?_
    refine mv_istore (pc := 23) dX2_readSetting_23 (by decide) ?_
    refine mv_aload_n (pc := 25) dX2_readSetting_25 rfl ?_
    refine mv_getR (pc := 26) (q := z) dX2_readSetting_26 fl2_15 (fun _ _ => rfl) (congrArg Prod.fst hr.o) hr.2.1 ?_
    refine mv_cVv (pc := 29) dX2_readSetting_29 lk2_63 (congrArg Prod.fst hz.o) (c4_advance hz hw hA2.1 hA2.2.1 hA2.2.2.2.2.1 hte2.2.1) rfl rfl (Nat.le_of_ble_eq_true rfl) (by decide) (by decide) (fun J2 ⟨hA3, hF3⟩ => ?_)
    have hp3 := hp2.tk hF3 (by omega)
    refine mv_aload_n (pc := 32) dX2_readSetting_32 rfl ?_
    refine mv_getR (pc := 33) (q := z) dX2_readSetting_33 fl2_15 (fun _ _ => rfl) (congrArg Prod.fst hr.o) hr.2.1 ?_
    refine mv_iload_n (pc := 36) dX2_readSetting_36 rfl ?_
    refine mv_iload_n (pc := 37) dX2_readSetting_37 rfl ?_
    refine mv_cVi (pc := 38) dX2_readSetting_38 lk2_83 (congrArg Prod.fst hz.o) (c4_isNumberWithin hz hA3 hlo hup) rfl rfl (Nat.le_of_ble_eq_true rfl) (by decide) (by decide) (fun r J' ⟨e1, e2⟩ => ?_)
    subst e1 e2
    refine mv_if_ne (pc := 41) (tgt := 46) dX2_readSetting_41 (by decide) (fun hb2 => ?_) (fun hb2 => ?_)
    · have hb3 : tk_k w L (tk_e w L (tk_e w L i)) = -2 ∧ lo ≤ tk_v w L (tk_e w L (tk_e w L i)) ∧ tk_v w L (tk_e w L (tk_e w L i)) ≤ up := Classical.byContradiction fun q => hb2 (by rw [if_neg q])
      refine mv_aload_n (pc := 46) dX2_readSetting_46 rfl ?_
      refine mv_iload (pc := 47) dX2_readSetting_47 rfl ?_
      refine mv_aload_n (pc := 49) dX2_readSetting_49 rfl ?_
      refine mv_getR (pc := 50) (q := z) dX2_readSetting_50 fl2_15 (fun _ _ => rfl) (congrArg Prod.fst hr.o) hr.2.1 ?_
      refine mv_getIx (pc := 53) (x := nI (tk_v w L (tk_e w L (tk_e w L i)))) dX2_readSetting_53 fl2_76 rfl (congrArg Prod.fst hz.o) (hA3.2.2.2.2.2 hb3.1).1 ?_
      refine mv_iast (pc := 56) (k := (tk_v w L (tk_e w L i))) dX2_readSetting_56 hsc rfl (by omega) ?_
      refine mv_aload_n (pc := 57) dX2_readSetting_57 rfl ?_
      refine mv_getR (pc := 58) (q := z) dX2_readSetting_58 fl2_15 (fun _ _ => rfl) (congrArg Prod.fst hr.o) hr.2.1 ?_
      refine mv_cVv (pc := 61) dX2_readSetting_61 lk2_63 (congrArg Prod.fst hz.o) (c4_advance hz hw (i := tk_e w L (tk_e w L (tk_e w L i))) (by rw [mv_upN z (by omega)]; exact hA3.1) (fun j hj => by rw [mv_upN (z + 1) (by omega)]; exact hA3.2.1 j hj) (by rw [mv_upN z (by omega)]; exact hA3.2.2.2.2.1) hte3.2.1) rfl rfl (Nat.le_of_ble_eq_true rfl) (by decide) (by decide) (fun J3 ⟨hA4, hF4⟩ => ?_)
      have hp4 := (hp3.set (t := tk_v w L (tk_e w L i)) (v := nI (tk_v w L (tk_e w L (tk_e w L i)))) hcol).tk hF4 (by omega)
      refine mv_aload_n (pc := 64) dX2_readSetting_64 rfl ?_
      refine mv_cVi (pc := 65) dX2_readSetting_65 lk2_87 (congrArg Prod.fst hr.o) (c2_readEnd K hA4 hte3.2.1 hp4) rfl rfl (Nat.le_of_ble_eq_true rfl) (by decide) (by decide) (fun r J4 ⟨hq4, hf4⟩ => ?_)
      refine mv_zret (pc := 68) dX2_readSetting_68 rfl hq4.z (by decide) (by decide) (hQ _ _ ⟨?_, ((((rd_Fr.rf.tk hF).tk hF3).up (by omega)).tk hF4).tr hf4⟩)
      unfold sp_set
      rw [if_pos hnum, if_pos (sp_numb_iff.mpr hb3)]
      exact hq4
    · have hb3 : ¬ (tk_k w L (tk_e w L (tk_e w L i)) = -2 ∧ lo ≤ tk_v w L (tk_e w L (tk_e w L i)) ∧ tk_v w L (tk_e w L (tk_e w L i)) ≤ up) := fun q => by rw [if_pos q] at hb2; exact absurd hb2 (by decide)
      refine mv_iconst (pc := 44) (v := 0) dX2_readSetting_44 (by decide) ?_
      refine mv_zret (pc := 45) dX2_readSetting_45 rfl (by rfl) (by decide) (by decide) (hQ _ _ ⟨?_, (rd_Fr.rf.tk hF).tk hF3⟩)
      unfold sp_set
      rw [if_pos hnum, if_neg (fun z => hb3 (sp_numb_iff.mp z))]
      exact ⟨rfl, hA3.2.2.2.1, hA3.1⟩
  · have hnum : ¬ sp_numb w L (tk_e w L i) 0 (n' - 1) = true := fun q => by rw [if_pos q] at hb; exact absurd hb (by decide)
    refine mv_iconst (pc := 14) (v := 0) dX2_readSetting_14 (by decide) ?_
    refine mv_zret (pc := 15) dX2_readSetting_15 rfl (by rfl) (by decide) (by decide) (hQ _ _ ⟨?_, rd_Fr.rf.tk hF⟩)
    unfold sp_set
    rw [if_neg hnum]
    exact ⟨rfl, hA2.2.2.2.1, hA2.1⟩
theorem c2_readSetting {l : Launch} {D : va_G} {b0 n : Nat} {sh : mv_Sh} {I : mv_I} {R : mv_R} {rd z q L i n' col lo up : Nat} {w : Nat → Int32} {π : xs_X} (K : rd_K sh R rd z q w L) (hA : tk_A I z w L i) (hi : i ≤ L) (hp : pl_C I q n' π) (hn0 : n' ≠ 0) (hn8 : n' ≤ 8) (hsc : sh (q + (col + 3)) = (7, 8)) (hcol : 2 ≤ col ∧ col ≤ 5) (hlo : lo ≤ 99) (hup : up ≤ 99) : mv_C l D b0 m2_readSetting (mv_rm 3) [.ref rd, .ref (q + (col + 3)), .int (nI lo), .int (nI up)] n sh I R (mv_Pi n sh R (fun r I' => rd_Q I' r z q w L n' (sp_set w L i n' π col lo up) ∧ rd_Fr z q I I')) := mv_C.of 1 (by decide) (by simp [Value.category]) rfl (e2_readSetting K hA hi hp hn0 hn8 hsc hcol hlo hup (fun _ _ h => mv_Pi.mk h))
set_option maxHeartbeats 4000000 in
set_option maxRecDepth 100000 in
theorem e2_readGathers {l : Launch} {D : va_G} {b0 n : Nat} {sh : mv_Sh} {I : mv_I} {R : mv_R} {Q : mv_Q} {rd z q L i n' : Nat} {w : Nat → Int32} {π : xs_X} (K : rd_K sh R rd z q w L) (hA : tk_A I z w L i) (hi : i ≤ L) (hp : pl_C I q n' π) (hn0 : n' ≠ 0) (hn8 : n' ≤ 8) (hQ : ∀ r I', (rd_Q I' r z q w L n' (sp_gat w L i n' π) ∧ rd_Fr z q I I') → Q (some (.int r)) n sh I' R) : mv_E l D b0 m2_readGathers (mv_rm 3) Q 0 [.ref rd] [] 0 0 n sh I R := by
  obtain ⟨hr, hz, hq, hw, hzq, hrz, hrz1, hrq⟩ := id K
  have hte := tk_e_le (w := w) hi
  have hte2 := tk_e_le (w := w) hte.2.1
  refine mv_aload_n (pc := 0) dX2_readGathers_0 rfl ?_
  refine mv_getR (pc := 1) (q := z) dX2_readGathers_1 fl2_15 (fun _ _ => rfl) (congrArg Prod.fst hr.o) hr.2.1 ?_
  refine mv_cVv (pc := 4) dX2_readGathers_4 lk2_63 (congrArg Prod.fst hz.o) (c4_advance hz hw hA.1 hA.2.1 hA.2.2.2.2.1 hte.2.1) rfl rfl (Nat.le_of_ble_eq_true rfl) (by decide) (by decide) (fun J ⟨hA2, hF⟩ => ?_)
  have hp2 := hp.tk hF (by omega)
  have bad : ¬ (sp_numb w L (tk_e w L i) 0 (n' - 1) = true ∧ ¬ π (tk_v w L (tk_e w L i)) 5 = 1) → mv_E l D b0 m2_readGathers (mv_rm 3) Q 33 [.ref rd] [] 0 0 n sh J R := by
    intro hno
    refine mv_iconst (pc := 33) (v := 0) dX2_readGathers_33 (by decide) ?_
    refine mv_zret (pc := 34) dX2_readGathers_34 rfl (by rfl) (by decide) (by decide) (hQ _ _ ⟨?_, rd_Fr.rf.tk hF⟩)
    unfold sp_gat
    rw [if_neg hno]
    exact ⟨rfl, hA2.2.2.2.1, hA2.1⟩
  refine mv_aload_n (pc := 7) dX2_readGathers_7 rfl ?_
  refine mv_cVi (pc := 8) dX2_readGathers_8 lk2_73 (congrArg Prod.fst hr.o) (c2_isTaskTold K hA2 hp2 (by omega) (by omega)) rfl rfl (Nat.le_of_ble_eq_true rfl) (by decide) (by decide) (fun r J' ⟨e1, e2⟩ => ?_)
  subst e1 e2
  refine mv_if_eq (pc := 11) (tgt := 33) dX2_readGathers_11 (by decide) (fun hb => ?_) (fun hb => ?_)
  · have hnum : ¬ sp_numb w L (tk_e w L i) 0 (n' - 1) = true := fun q => by rw [if_pos q] at hb; exact absurd hb (by decide)
    exact bad (fun q => hnum q.1)
  · have hnum : sp_numb w L (tk_e w L i) 0 (n' - 1) = true := Classical.byContradiction fun q => hb (by rw [if_neg q])
    have hnum2 := sp_numb_iff.mp hnum
    have hu : tk_v w L (tk_e w L i) < n' := by omega
    have h3 := (hA2.2.2.2.2.2 hnum2.1).1
    generalize hv : tk_v w L (tk_e w L i) = t at hu h3 bad
    refine mv_aload_n (pc := 14) dX2_readGathers_14 rfl ?_
    refine mv_getR (pc := 15) (q := q) dX2_readGathers_15 fl2_19 (fun _ _ => rfl) (congrArg Prod.fst hr.o) hr.2.2 ?_
    refine mv_getR (pc := 18) (q := q + 8) dX2_readGathers_18 fl2_90 (fun _ _ => rfl) (congrArg Prod.fst hq.o) hq.f8 ?_
    refine mv_aload_n (pc := 21) dX2_readGathers_21 rfl ?_
    refine mv_getR (pc := 22) (q := z) dX2_readGathers_22 fl2_15 (fun _ _ => rfl) (congrArg Prod.fst hr.o) hr.2.1 ?_
    refine mv_getIx (pc := 25) (x := nI t) dX2_readGathers_25 fl2_76 rfl (congrArg Prod.fst hz.o) h3 ?_
    refine mv_ialdx (pc := 28) (x := π t 5) (k := t) dX2_readGathers_28 hq.g8 rfl (by omega) (hp2.2 t hu).2.2.2.2.2.1 ?_
    refine mv_iconst (pc := 29) (v := 1) dX2_readGathers_29 (by decide) ?_
    refine mv_icmp_ne (pc := 30) (tgt := 35) dX2_readGathers_30 (by decide) (fun hb2 => ?_) (fun hb2 => ?_)
    · refine mv_aload_n (pc := 35) dX2_readGathers_35 rfl ?_
      refine mv_getR (pc := 36) (q := q) dX2_readGathers_36 fl2_19 (fun _ _ => rfl) (congrArg Prod.fst hr.o) hr.2.2 ?_
      refine mv_getR (pc := 39) (q := q + 8) dX2_readGathers_39 fl2_90 (fun _ _ => rfl) (congrArg Prod.fst hq.o) hq.f8 ?_
      refine mv_aload_n (pc := 42) dX2_readGathers_42 rfl ?_
      refine mv_getR (pc := 43) (q := z) dX2_readGathers_43 fl2_15 (fun _ _ => rfl) (congrArg Prod.fst hr.o) hr.2.1 ?_
      refine mv_getIx (pc := 46) (x := nI t) dX2_readGathers_46 fl2_76 rfl (congrArg Prod.fst hz.o) h3 ?_
      refine mv_iconst (pc := 49) (v := 1) dX2_readGathers_49 (by decide) ?_
      refine mv_iast (pc := 50) (k := t) dX2_readGathers_50 hq.g8 rfl (by omega) ?_
      refine mv_aload_n (pc := 51) dX2_readGathers_51 rfl ?_
      refine mv_getR (pc := 52) (q := z) dX2_readGathers_52 fl2_15 (fun _ _ => rfl) (congrArg Prod.fst hr.o) hr.2.1 ?_
      refine mv_cVv (pc := 55) dX2_readGathers_55 lk2_63 (congrArg Prod.fst hz.o) (c4_advance hz hw (i := tk_e w L (tk_e w L i)) (by rw [mv_upN z (by omega)]; exact hA2.1) (fun j hj => by rw [mv_upN (z + 1) (by omega)]; exact hA2.2.1 j hj) (by rw [mv_upN z (by omega)]; exact hA2.2.2.2.2.1) hte2.2.1) rfl rfl (Nat.le_of_ble_eq_true rfl) (by decide) (by decide) (fun J3 ⟨hA4, hF4⟩ => ?_)
      have hp4 : pl_C J3 q n' (mv_up π t 5 1) := (hp2.set (t := t) (col := 5) (v := 1) (by omega)).tk hF4 (by omega)
      refine mv_aload_n (pc := 58) dX2_readGathers_58 rfl ?_
      refine mv_cVi (pc := 59) dX2_readGathers_59 lk2_87 (congrArg Prod.fst hr.o) (c2_readEnd K hA4 hte2.2.1 hp4) rfl rfl (Nat.le_of_ble_eq_true rfl) (by decide) (by decide) (fun r J4 ⟨hq4, hf4⟩ => ?_)
      refine mv_zret (pc := 62) dX2_readGathers_62 rfl hq4.z (by decide) (by decide) (hQ _ _ ⟨?_, (((rd_Fr.rf.tk hF).up (by omega)).tk hF4).tr hf4⟩)
      unfold sp_gat
      rw [hv, if_pos ⟨hnum, hb2⟩]
      exact hq4
    · exact bad (fun q => q.2 hb2)
theorem c2_readGathers {l : Launch} {D : va_G} {b0 n : Nat} {sh : mv_Sh} {I : mv_I} {R : mv_R} {rd z q L i n' : Nat} {w : Nat → Int32} {π : xs_X} (K : rd_K sh R rd z q w L) (hA : tk_A I z w L i) (hi : i ≤ L) (hp : pl_C I q n' π) (hn0 : n' ≠ 0) (hn8 : n' ≤ 8) : mv_C l D b0 m2_readGathers (mv_rm 3) [.ref rd] n sh I R (mv_Pi n sh R (fun r I' => rd_Q I' r z q w L n' (sp_gat w L i n' π) ∧ rd_Fr z q I I')) := mv_C.of 0 (by decide) (by simp [Value.category]) rfl (e2_readGathers K hA hi hp hn0 hn8 (fun _ _ h => mv_Pi.mk h))
def rd_Q3 (I' : mv_I) (r : Int32) (z q : Nat) (w : Nat → Int32) (L : Nat) (res : Nat ⊕ (Nat × Nat × xs_X)) : Prop := match res with
  | .inl s => r = 0 ∧ I' z 4 = nI s ∧ I' z 1 = nI L
  | .inr (i2, n2, π2) => r = 1 ∧ tk_A I' z w L i2 ∧ i2 ≤ L ∧ pl_C I' q (sp_n n2) π2
theorem rd_Q.lift {I' : mv_I} {r : Int32} {z q L n : Nat} {w : Nat → Int32} {res : Nat ⊕ (Nat × xs_X)} (h : rd_Q I' r z q w L (sp_n n) res) : rd_Q3 I' r z q w L (sp_lift n res) := by
  cases res with
  | inl s => exact h
  | inr x => exact h
theorem rd_Q3.z {I' : mv_I} {r : Int32} {z q L : Nat} {w : Nat → Int32} {res : Nat ⊕ (Nat × Nat × xs_X)} (h : rd_Q3 I' r z q w L res) : narrow .boolean (.int r) = .int r := by
  cases res with
  | inl s => rw [h.1]; rfl
  | inr x => rw [h.1]; rfl
set_option maxHeartbeats 4000000 in
set_option maxRecDepth 100000 in
theorem e2_readItem {l : Launch} {D : va_G} {b0 n : Nat} {sh : mv_Sh} {I : mv_I} {R : mv_R} {Q : mv_Q} {rd z q L i n' c : Nat} {w : Nat → Int32} {π : xs_X} (K : rd_K sh R rd z q w L) (hA : tk_A I z w L i) (hi : i ≤ L) (hp : pl_C I q (sp_n n') π) (hW : sp_W n' π) (hs0 : (∀ k, k < 6 → π 0 k = sp_0 0 k) ∨ n' ≠ 0) (hc : I rd 2 = nI c) (hc8 : c ≤ 120) (hcn : c = 0 ↔ n' = 0) (hQ : ∀ r I', (rd_Q3 I' r z q w L (sp_item w L i n' π) ∧ rd_Fr z q I I') → Q (some (.int r)) n sh I' R) : mv_E l D b0 m2_readItem (mv_rm 5) Q 0 [.ref rd] [] 0 0 n sh I R := by
  obtain ⟨hr, hz, hq, hw, hzq, hrz, hrz1, hrq⟩ := id K
  have hkk : ∀ k, tk_k w L i = k → I z 2 = k := fun k hk => hA.2.2.1.trans hk
  have en : n' ≠ 0 → sp_n n' = n' := fun h => by unfold sp_n; rw [if_neg h]
  -- the kinds that are told apart
  have go : ((tk_k w L i = 114) ↔ n' = 0) → mv_E l D b0 m2_readItem (mv_rm 5) Q 34 [.ref rd] [] 0 0 n sh I R := by
    intro hrn
    have hkd : ∀ k : Int32, k = 114 ∨ k = 116 ∨ k = 100 ∨ k = 115 ∨ k = 99 ∨ k = 103 → True := fun _ _ => trivial
    refine mv_aload_n (pc := 34) dX2_readItem_34 rfl ?_
    refine mv_getR (pc := 35) (q := z) dX2_readItem_35 fl2_15 (fun _ _ => rfl) (congrArg Prod.fst hr.o) hr.2.1 ?_
    refine mv_getIx (pc := 38) (x := tk_k w L i) dX2_readItem_38 fl2_33 rfl (congrArg Prod.fst hz.o) hA.2.2.1 ?_
    by_cases h114 : tk_k w L i = 114
    · have hn0 : n' = 0 := hrn.mp h114
      subst hn0
      have en1 : sp_n 0 = sp_n 1 := rfl
      rw [h114]
      refine mv_tswIn (pc := 41) (off := 87) (tgt := 128) dX2_readItem_41 (by decide) (by decide) (by decide) (by decide) ?_
      refine mv_aload_n (pc := 128) dX2_readItem_128 rfl ?_
      refine mv_cVi (pc := 129) dX2_readItem_129 lk2_40 (congrArg Prod.fst hr.o) (c2_readRoot (n' := 1) K hA hi (by rw [← en1]; exact hp) hW.n1 (hs0.elim (fun q => q 1 (by decide)) (fun q => absurd rfl q))) rfl rfl (Nat.le_of_ble_eq_true rfl) (by decide) (by decide) (fun r J ⟨hq2, hf2⟩ => ?_)
      refine mv_zret (pc := 132) dX2_readItem_132 rfl hq2.z (by decide) (by decide) (hQ _ _ ⟨?_, hf2⟩)
      unfold sp_item
      rw [if_pos rfl, if_pos h114]
      exact hq2.lift
    · have hn0 : n' ≠ 0 := fun q => h114 (hrn.mpr q)
      have enn := en hn0
      rw [enn] at hp
      by_cases h116 : tk_k w L i = 116
      · rw [h116]
        refine mv_tswIn (pc := 41) (off := 92) (tgt := 133) dX2_readItem_41 (by decide) (by decide) (by decide) (by decide) ?_
        refine mv_aload_n (pc := 133) dX2_readItem_133 rfl ?_
        refine mv_cVi (pc := 134) dX2_readItem_134 lk2_43 (congrArg Prod.fst hr.o) (c2_readTask K hA hi hp hW hn0) rfl rfl (Nat.le_of_ble_eq_true rfl) (by decide) (by decide) (fun r J ⟨q1, q2, hf2⟩ => ?_)
        have q3 : rd_Q3 J r z q w L (sp_item w L i n' π) := by
          unfold sp_item
          rw [if_neg hn0, if_pos h116]
          by_cases h8 : n' = 8
          · rw [if_pos h8]; exact q1 h8
          · rw [if_neg h8]
            have := q2 h8
            rw [show n' + 1 = sp_n (n' + 1) by unfold sp_n; rw [if_neg (by omega)]] at this
            exact this.lift
        exact mv_zret (pc := 137) dX2_readItem_137 rfl q3.z (by decide) (by decide) (hQ _ _ ⟨q3, hf2⟩)
      · by_cases h100 : tk_k w L i = 100
        · rw [h100]
          refine mv_tswIn (pc := 41) (off := 97) (tgt := 138) dX2_readItem_41 (by decide) (by decide) (by decide) (by decide) ?_
          refine mv_aload_n (pc := 138) dX2_readItem_138 rfl ?_
          refine mv_aload_n (pc := 139) dX2_readItem_139 rfl ?_
          refine mv_getR (pc := 140) (q := q) dX2_readItem_140 fl2_19 (fun _ _ => rfl) (congrArg Prod.fst hr.o) hr.2.2 ?_
          refine mv_getR (pc := 143) (q := q + 5) dX2_readItem_143 fl2_46 (fun _ _ => rfl) (congrArg Prod.fst hq.o) hq.f5 ?_
          refine mv_iconst (pc := 146) (v := 1) dX2_readItem_146 (by decide) ?_
          refine mv_bipush (pc := 147) (v := 60) dX2_readItem_147 (by decide) ?_
          refine mv_cVi (pc := 149) dX2_readItem_149 lk2_50 (congrArg Prod.fst hr.o) (c2_readSetting (col := 2) (lo := 1) (up := 60) K hA hi hp hn0 hW.1 hq.g5 (by decide) (by decide) (by decide)) rfl rfl (Nat.le_of_ble_eq_true rfl) (by decide) (by decide) (fun r J ⟨q1, hf2⟩ => ?_)
          have q3 : rd_Q3 J r z q w L (sp_item w L i n' π) := by
            unfold sp_item
            rw [if_neg hn0, if_neg h116, if_pos h100]
            rw [← enn] at q1
            rw [enn] at q1
            exact rd_Q.lift (n := n') (by rw [enn]; exact q1)
          exact mv_zret (pc := 152) dX2_readItem_152 rfl q3.z (by decide) (by decide) (hQ _ _ ⟨q3, hf2⟩)
        · by_cases h115 : tk_k w L i = 115
          · rw [h115]
            refine mv_tswIn (pc := 41) (off := 112) (tgt := 153) dX2_readItem_41 (by decide) (by decide) (by decide) (by decide) ?_
            refine mv_aload_n (pc := 153) dX2_readItem_153 rfl ?_
            refine mv_aload_n (pc := 154) dX2_readItem_154 rfl ?_
            refine mv_getR (pc := 155) (q := q) dX2_readItem_155 fl2_19 (fun _ _ => rfl) (congrArg Prod.fst hr.o) hr.2.2 ?_
            refine mv_getR (pc := 158) (q := q + 6) dX2_readItem_158 fl2_54 (fun _ _ => rfl) (congrArg Prod.fst hq.o) hq.f6 ?_
            refine mv_iconst (pc := 161) (v := 0) dX2_readItem_161 (by decide) ?_
            refine mv_bipush (pc := 162) (v := 6) dX2_readItem_162 (by decide) ?_
            refine mv_cVi (pc := 164) dX2_readItem_164 lk2_50 (congrArg Prod.fst hr.o) (c2_readSetting (col := 3) (lo := 0) (up := 6) K hA hi hp hn0 hW.1 hq.g6 (by decide) (by decide) (by decide)) rfl rfl (Nat.le_of_ble_eq_true rfl) (by decide) (by decide) (fun r J ⟨q1, hf2⟩ => ?_)
            have q3 : rd_Q3 J r z q w L (sp_item w L i n' π) := by
              unfold sp_item
              rw [if_neg hn0, if_neg h116, if_neg h100, if_pos h115]
              exact rd_Q.lift (n := n') (by rw [enn]; exact q1)
            exact mv_zret (pc := 167) dX2_readItem_167 rfl q3.z (by decide) (by decide) (hQ _ _ ⟨q3, hf2⟩)
          · by_cases h99 : tk_k w L i = 99
            · rw [h99]
              refine mv_tswIn (pc := 41) (off := 127) (tgt := 168) dX2_readItem_41 (by decide) (by decide) (by decide) (by decide) ?_
              refine mv_aload_n (pc := 168) dX2_readItem_168 rfl ?_
              refine mv_aload_n (pc := 169) dX2_readItem_169 rfl ?_
              refine mv_getR (pc := 170) (q := q) dX2_readItem_170 fl2_19 (fun _ _ => rfl) (congrArg Prod.fst hr.o) hr.2.2 ?_
              refine mv_getR (pc := 173) (q := q + 7) dX2_readItem_173 fl2_57 (fun _ _ => rfl) (congrArg Prod.fst hq.o) hq.f7 ?_
              refine mv_iconst (pc := 176) (v := 0) dX2_readItem_176 (by decide) ?_
              refine mv_iconst (pc := 177) (v := 5) dX2_readItem_177 (by decide) ?_
              refine mv_cVi (pc := 178) dX2_readItem_178 lk2_50 (congrArg Prod.fst hr.o) (c2_readSetting (col := 4) (lo := 0) (up := 5) K hA hi hp hn0 hW.1 hq.g7 (by decide) (by decide) (by decide)) rfl rfl (Nat.le_of_ble_eq_true rfl) (by decide) (by decide) (fun r J ⟨q1, hf2⟩ => ?_)
              have q3 : rd_Q3 J r z q w L (sp_item w L i n' π) := by
                unfold sp_item
                rw [if_neg hn0, if_neg h116, if_neg h100, if_neg h115, if_pos h99]
                exact rd_Q.lift (n := n') (by rw [enn]; exact q1)
              exact mv_zret (pc := 181) dX2_readItem_181 rfl q3.z (by decide) (by decide) (hQ _ _ ⟨q3, hf2⟩)
            · by_cases h103 : tk_k w L i = 103
              · rw [h103]
                refine mv_tswIn (pc := 41) (off := 141) (tgt := 182) dX2_readItem_41 (by decide) (by decide) (by decide) (by decide) ?_
                refine mv_aload_n (pc := 182) dX2_readItem_182 rfl ?_
                refine mv_cVi (pc := 183) dX2_readItem_183 lk2_60 (congrArg Prod.fst hr.o) (c2_readGathers K hA hi hp hn0 hW.1) rfl rfl (Nat.le_of_ble_eq_true rfl) (by decide) (by decide) (fun r J ⟨q1, hf2⟩ => ?_)
                have q3 : rd_Q3 J r z q w L (sp_item w L i n' π) := by
                  unfold sp_item
                  rw [if_neg hn0, if_neg h116, if_neg h100, if_neg h115, if_neg h99, if_pos h103]
                  exact rd_Q.lift (n := n') (by rw [enn]; exact q1)
                exact mv_zret (pc := 186) dX2_readItem_186 rfl q3.z (by decide) (by decide) (hQ _ _ ⟨q3, hf2⟩)
              · -- any other kind
                have dflt : mv_E l D b0 m2_readItem (mv_rm 5) Q 187 [.ref rd] [] 0 0 n sh I R := by
                  refine mv_iconst (pc := 187) (v := 0) dX2_readItem_187 (by decide) ?_
                  refine mv_zret (pc := 188) dX2_readItem_188 rfl (by rfl) (by decide) (by decide) (hQ _ _ ⟨?_, rd_Fr.rf⟩)
                  unfold sp_item
                  rw [if_neg hn0, if_neg h116, if_neg h100, if_neg h115, if_neg h99, if_neg h103]
                  exact ⟨rfl, hA.2.2.2.1, hA.1⟩
                generalize tk_k w L i = k at h114 h116 h100 h115 h99 h103 ⊢
                by_cases hin : k.toInt < 99 ∨ 116 < k.toInt
                · refine mv_tswOut (pc := 41) (tgt := 187) dX2_readItem_41 hin (by decide) ?_
                  exact dflt
                · have h1 : ¬ k.toInt < 99 := fun q => hin (Or.inl q)
                  have h2 : ¬ 116 < k.toInt := fun q => hin (Or.inr q)
                  have hne : ∀ v : Int32, k ≠ v → k.toInt ≠ v.toInt := fun v hv q => hv (Int32.toInt_inj.mp q)
                  have n114 : k.toInt ≠ 114 := hne 114 h114
                  have n116 : k.toInt ≠ 116 := hne 116 h116
                  have n100 : k.toInt ≠ 100 := hne 100 h100
                  have n115 : k.toInt ≠ 115 := hne 115 h115
                  have n99 : k.toInt ≠ 99 := hne 99 h99
                  have n103 : k.toInt ≠ 103 := hne 103 h103
                  refine mv_tswIn (pc := 41) (off := 146) (tgt := 187) dX2_readItem_41 h1 h2 ?_ (by decide) ?_
                  · have : (k.toInt - 99).toNat = 2 ∨ (k.toInt - 99).toNat = 3 ∨ (k.toInt - 99).toNat = 5 ∨ (k.toInt - 99).toNat = 6 ∨ (k.toInt - 99).toNat = 7 ∨ (k.toInt - 99).toNat = 8 ∨ (k.toInt - 99).toNat = 9 ∨ (k.toInt - 99).toNat = 10 ∨ (k.toInt - 99).toNat = 11 ∨ (k.toInt - 99).toNat = 12 ∨ (k.toInt - 99).toNat = 13 ∨ (k.toInt - 99).toNat = 14 := by omega
                    rcases this with q | q | q | q | q | q | q | q | q | q | q | q <;> rw [q] <;> decide
                  · exact dflt
  have stop : ¬ ((tk_k w L i = 114) ↔ n' = 0) → mv_E l D b0 m2_readItem (mv_rm 5) Q 32 [.ref rd] [] 0 0 n sh I R := by
    intro hno
    refine mv_iconst (pc := 32) (v := 0) dX2_readItem_32 (by decide) ?_
    refine mv_zret (pc := 33) dX2_readItem_33 rfl (by rfl) (by decide) (by decide) (hQ _ _ ⟨?_, rd_Fr.rf⟩)
    have : sp_item w L i n' π = .inl (tk_s w L i) := by
      unfold sp_item
      by_cases hn0 : n' = 0
      · rw [if_pos hn0, if_neg (fun q => hno ⟨fun _ => hn0, fun _ => q⟩)]
      · have h114 : tk_k w L i = 114 := Classical.byContradiction fun q => hno ⟨fun z => absurd z q, fun z => absurd z hn0⟩
        rw [if_neg hn0, if_neg (by rw [h114]; decide), if_neg (by rw [h114]; decide), if_neg (by rw [h114]; decide), if_neg (by rw [h114]; decide), if_neg (by rw [h114]; decide)]
    rw [this]
    exact ⟨rfl, hA.2.2.2.1, hA.1⟩
  have cmp : ∀ a b : Int32, a = (if tk_k w L i = 114 then 1 else 0) → b = (if n' = 0 then 1 else 0) → mv_E l D b0 m2_readItem (mv_rm 5) Q 29 [.ref rd] [.int b, .int a] 0 0 n sh I R := by
    intro a b ha hb'
    refine mv_icmp_eq (pc := 29) (tgt := 34) dX2_readItem_29 (by decide) (fun hb => ?_) (fun hb => ?_)
    · refine go ?_
      rw [ha, hb'] at hb
      constructor
      · intro q; rw [if_pos q] at hb; exact Classical.byContradiction fun z => by rw [if_neg z] at hb; exact absurd hb (by decide)
      · intro q; rw [if_pos q] at hb; exact Classical.byContradiction fun z => by rw [if_neg z] at hb; exact absurd hb (by decide)
    · refine stop (fun q => hb ?_)
      rw [ha, hb']
      by_cases z : n' = 0
      · rw [if_pos z, if_pos (q.mpr z)]
      · rw [if_neg z, if_neg (fun y => z (q.mp y))]
  have mid : ∀ a : Int32, a = (if tk_k w L i = 114 then 1 else 0) → mv_E l D b0 m2_readItem (mv_rm 5) Q 17 [.ref rd] [.int a] 0 0 n sh I R := by
    intro a ha
    refine mv_aload_n (pc := 17) dX2_readItem_17 rfl ?_
    refine mv_getIx (pc := 18) (x := nI c) dX2_readItem_18 fl2_9 rfl (congrArg Prod.fst hr.o) hc ?_
    refine mv_if_ne (pc := 21) (tgt := 28) dX2_readItem_21 (by decide) (fun hb => ?_) (fun hb => ?_)
    · have : n' ≠ 0 := fun q => hb (by rw [hcn.mpr q]; rfl)
      refine mv_iconst (pc := 28) (v := 0) dX2_readItem_28 (by decide) ?_
      exact cmp a 0 ha (by rw [if_neg this])
    · have : n' = 0 := hcn.mp ((nI_eq (b := 0) (by omega) (by decide)).mp hb)
      refine mv_iconst (pc := 24) (v := 1) dX2_readItem_24 (by decide) ?_
      refine mv_goto (pc := 25) (tgt := 29) dX2_readItem_25 (by decide) ?_
      exact cmp a 1 ha (by rw [if_pos this])
  refine mv_aload_n (pc := 0) dX2_readItem_0 rfl ?_
  refine mv_getR (pc := 1) (q := z) dX2_readItem_1 fl2_15 (fun _ _ => rfl) (congrArg Prod.fst hr.o) hr.2.1 ?_
  refine mv_getIx (pc := 4) (x := tk_k w L i) dX2_readItem_4 fl2_33 rfl (congrArg Prod.fst hz.o) hA.2.2.1 ?_
  refine mv_bipush (pc := 7) (v := 114) dX2_readItem_7 (by decide) ?_
  refine mv_icmp_ne (pc := 9) (tgt := 16) dX2_readItem_9 (by decide) (fun hb => ?_) (fun hb => ?_)
  · refine mv_iconst (pc := 16) (v := 0) dX2_readItem_16 (by decide) ?_
    exact mid 0 (by rw [if_neg hb])
  · refine mv_iconst (pc := 12) (v := 1) dX2_readItem_12 (by decide) ?_
    refine mv_goto (pc := 13) (tgt := 17) dX2_readItem_13 (by decide) ?_
    exact mid 1 (by rw [if_pos hb])
theorem c2_readItem {l : Launch} {D : va_G} {b0 n : Nat} {sh : mv_Sh} {I : mv_I} {R : mv_R} {rd z q L i n' c : Nat} {w : Nat → Int32} {π : xs_X} (K : rd_K sh R rd z q w L) (hA : tk_A I z w L i) (hi : i ≤ L) (hp : pl_C I q (sp_n n') π) (hW : sp_W n' π) (hs0 : (∀ k, k < 6 → π 0 k = sp_0 0 k) ∨ n' ≠ 0) (hc : I rd 2 = nI c) (hc8 : c ≤ 120) (hcn : c = 0 ↔ n' = 0) : mv_C l D b0 m2_readItem (mv_rm 5) [.ref rd] n sh I R (mv_Pi n sh R (fun r I' => rd_Q3 I' r z q w L (sp_item w L i n' π) ∧ rd_Fr z q I I')) := mv_C.of 0 (by decide) (by simp [Value.category]) rfl (e2_readItem K hA hi hp hW hs0 hc hc8 hcn (fun _ _ h => mv_Pi.mk h))

