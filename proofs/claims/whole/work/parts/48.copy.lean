/-! calls that write references; the whole object's layout -/
def mv_PI (n : Nat) (sh : mv_Sh) (P : Int32 → mv_I → mv_R → Prop) : mv_Q := fun v n' sh' I' R' => ∃ x : Int32, v = some (.int x) ∧ n' = n ∧ sh' = sh ∧ P x I' R'
theorem mv_PI.mk {n : Nat} {sh : mv_Sh} {R : mv_R} {P : Int32 → mv_I → mv_R → Prop} {I : mv_I} {x : Int32} (h : P x I R) : mv_PI n sh P (some (.int x)) n sh I R := ⟨x, rfl, rfl, rfl, h⟩
section MR2
variable {l : Launch} {D : va_G} {b0 : Nat} {M : mv_M} {d d2 : Nat} {Q : mv_Q} {pc : Nat} {loc stk st0 : List Value} {n : Nat} {sh : mv_Sh} {I : mv_I} {R R2 : mv_R}
variable {M2 : mv_M} {As : List Value} {idx k : Nat}
theorem mv_cVvR {a ci : Nat} {P : mv_I → Prop} (hd : decode M.2.1 pc = .ok (.invokevirtual idx, 3)) (hL : mv_LkV M.1.cls idx M2 k ci) (ha : (sh a).1 = ci) (hC : mv_C l D b0 M2 (mv_rm d2) (.ref a :: As) n sh I R (mv_Pv n sh R2 P)) (hk : As.length = k) (hst : st0 = As.reverse ++ .ref a :: stk) (hcat : (stk.map fun v => v.category).sum ≤ 8) (hm : M2.2.2.1 ≤ 21) (hdd : d2 < d)
    (kk : ∀ I', P I' → mv_E l D b0 M (mv_rm d) Q (pc + 3) loc stk 0 0 n sh I' R2) : mv_E l D b0 M (mv_rm d) Q pc loc st0 0 0 n sh I R := by
  refine mv_callV hd hL ha hC hk hst hcat (mv_room hdd hm) ⟨Nat.le_refl _, Nat.le_refl _⟩ ?_
  intro v n' sh' I' R' h'
  obtain ⟨h1, h2, h3, h4, h5⟩ := h'
  subst h1 h2 h3 h4
  exact kk _ h5
theorem mv_copyG {rm : Room} {ac sl a0 a1 l0 l1 cnt : Nat} {k : Int32} (hd : decode M.2.1 pc = .ok (.invokestatic idx, 3)) (w1 : Cond.methodLink M.1.cls idx arraycopyName ∈ mv_W) (w2 : Cond.native arraycopyName ∈ mv_W) (w3 : Cond.static arraycopyName ∈ mv_W) (w4 : Cond.initialized "java/lang/System" ∈ mv_W) (h0 : sh a0 = (7, l0)) (h1 : sh a1 = (7, l1)) (hk : k = nI cnt) (hk0 : cnt ≤ l0) (hk1 : cnt ≤ l1) (hcat : (stk.map fun v => v.category).sum ≤ 8) (hR : 1 ≤ rm.frames ∧ 8 + (nativeFrameWords "java/lang/System" "arraycopy" 5 + 11) ≤ rm.locals)
    (kk : ∀ J : mv_I, (∀ b, b ≠ a1 → J b = I b) → (∀ j, j < cnt → J a1 j = I a0 j) → mv_E l D b0 M rm Q (pc + 3) loc stk ac sl n sh J R) (hl : l0 < 2 ^ 31 := by decide) : mv_E l D b0 M rm Q pc loc (.int k :: .int 0 :: .ref a1 :: .int 0 :: .ref a0 :: stk) ac sl n sh I R :=
  mv_copy hd w1 w2 w3 w4 h0 h1 hk hk0 hk1 hcat hR (kk _ (fun b hb => by simp [mv_rp, hb]) (fun j hj => by simp [mv_rp, hj])) hl
end MR2
theorem ly_Run.upR {sh : mv_Sh} {R R2 : mv_R} {p : Nat} (h : ly_Run sh R p) (e : ∀ k, k ≠ 0 → R2 p k = R p k) : ly_Run sh R2 p := by
  refine ⟨h.o, ⟨by rw [e 2 (by decide)]; exact h.f2, h.g2⟩, ⟨by rw [e 3 (by decide)]; exact h.f3, h.g3⟩, ⟨by rw [e 4 (by decide)]; exact h.f4, h.g4⟩, ⟨by rw [e 5 (by decide)]; exact h.f5, h.g5⟩, ⟨by rw [e 6 (by decide)]; exact h.f6, h.g6⟩, ⟨by rw [e 7 (by decide)]; exact h.f7, h.g7⟩, ⟨by rw [e 8 (by decide)]; exact h.f8, h.g8⟩, ⟨by rw [e 9 (by decide)]; exact h.f9, h.g9⟩, ⟨by rw [e 10 (by decide)]; exact h.f10, h.g10⟩, ⟨by rw [e 11 (by decide)]; exact h.f11, h.g11⟩, ⟨by rw [e 12 (by decide)]; exact h.f12, h.g12⟩, ⟨by rw [e 14 (by decide)]; exact h.f14, h.g14⟩, ⟨by rw [e 15 (by decide)]; exact h.f15, h.g15⟩, ⟨by rw [e 16 (by decide)]; exact h.f16, h.g16⟩⟩
theorem ly_Plan.upR {sh : mv_Sh} {R R2 : mv_R} {p : Nat} (h : ly_Plan sh R p) (e : R2 p = R p) : ly_Plan sh R2 p := by
  unfold ly_Plan
  rw [e]
  exact h
theorem ly_Tok.upR {sh : mv_Sh} {R R2 : mv_R} {p : Nat} (h : ly_Tok sh R p) (e : R2 p = R p) : ly_Tok sh R2 p := by
  unfold ly_Tok
  rw [e]
  exact h

set_option maxHeartbeats 4000000 in
set_option maxRecDepth 100000 in
theorem e1_copyFrom {l : Launch} {D : va_G} {b0 n : Nat} {sh : mv_Sh} {I : mv_I} {R : mv_R} {Q : mv_Q} {p q nt : Nat} {π : xs_X} (hq : ly_Plan sh R q) (hp : ly_Plan sh R p) (hpq : q + 9 ≤ p ∨ p + 9 ≤ q) (h : pl_C I p nt π) (hw : pl_W nt π) (hQ : ∀ I', (pl_C I' q nt π ∧ pc_Fr q I I') → Q none n sh I' R) : mv_E l D b0 m1_copyFrom (mv_rm 1) Q 0 [.ref q, .ref p] [] 0 0 n sh I R := by
  have hn := hw.2.1
  refine mv_aload_n (pc := 0) dX1_copyFrom_0 rfl ?_
  refine mv_aload_n (pc := 1) dX1_copyFrom_1 rfl ?_
  refine mv_getIx (pc := 2) (x := nI nt) dX1_copyFrom_2 fl1_9 rfl (congrArg Prod.fst hp.o) h.1 ?_
  refine mv_putI (pc := 5) dX1_copyFrom_5 fl1_9 rfl rfl (congrArg Prod.fst hq.o) ?_
  refine mv_aload_n (pc := 8) dX1_copyFrom_8 rfl ?_
  refine mv_getR (pc := 9) (q := p + 1) dX1_copyFrom_9 fl1_15 (fun _ _ => rfl) (congrArg Prod.fst hp.o) hp.f1 ?_
  refine mv_iconst (pc := 12) (v := 0) dX1_copyFrom_12 (by decide) ?_
  refine mv_aload_n (pc := 13) dX1_copyFrom_13 rfl ?_
  refine mv_getR (pc := 14) (q := q + 1) dX1_copyFrom_14 fl1_15 (fun _ _ => rfl) (congrArg Prod.fst hq.o) hq.f1 ?_
  refine mv_iconst (pc := 17) (v := 0) dX1_copyFrom_17 (by decide) ?_
  refine mv_bipush (pc := 18) (v := 8) dX1_copyFrom_18 (by decide) ?_
  refine mv_copyG (pc := 20) (cnt := 8) dX1_copyFrom_20 lkc1_47 ws_n ws_s ws_i hp.g1 hq.g1 (by decide) (by decide) (by decide) (Nat.le_of_ble_eq_true rfl) ⟨by decide, by decide⟩ (fun J1 f1 g1 => ?_)
  refine mv_aload_n (pc := 23) dX1_copyFrom_23 rfl ?_
  refine mv_getR (pc := 24) (q := p + 2) dX1_copyFrom_24 fl1_19 (fun _ _ => rfl) (congrArg Prod.fst hp.o) hp.f2 ?_
  refine mv_iconst (pc := 27) (v := 0) dX1_copyFrom_27 (by decide) ?_
  refine mv_aload_n (pc := 28) dX1_copyFrom_28 rfl ?_
  refine mv_getR (pc := 29) (q := q + 2) dX1_copyFrom_29 fl1_19 (fun _ _ => rfl) (congrArg Prod.fst hq.o) hq.f2 ?_
  refine mv_iconst (pc := 32) (v := 0) dX1_copyFrom_32 (by decide) ?_
  refine mv_bipush (pc := 33) (v := 8) dX1_copyFrom_33 (by decide) ?_
  refine mv_copyG (pc := 35) (cnt := 8) dX1_copyFrom_35 lkc1_47 ws_n ws_s ws_i hp.g2 hq.g2 (by decide) (by decide) (by decide) (Nat.le_of_ble_eq_true rfl) ⟨by decide, by decide⟩ (fun J2 f2 g2 => ?_)
  refine mv_aload_n (pc := 38) dX1_copyFrom_38 rfl ?_
  refine mv_getR (pc := 39) (q := p + 3) dX1_copyFrom_39 fl1_22 (fun _ _ => rfl) (congrArg Prod.fst hp.o) hp.f3 ?_
  refine mv_iconst (pc := 42) (v := 0) dX1_copyFrom_42 (by decide) ?_
  refine mv_aload_n (pc := 43) dX1_copyFrom_43 rfl ?_
  refine mv_getR (pc := 44) (q := q + 3) dX1_copyFrom_44 fl1_22 (fun _ _ => rfl) (congrArg Prod.fst hq.o) hq.f3 ?_
  refine mv_iconst (pc := 47) (v := 0) dX1_copyFrom_47 (by decide) ?_
  refine mv_bipush (pc := 48) (v := 48) dX1_copyFrom_48 (by decide) ?_
  refine mv_copyG (pc := 50) (cnt := 48) dX1_copyFrom_50 lkc1_47 ws_n ws_s ws_i hp.g3 hq.g3 (by decide) (by decide) (by decide) (Nat.le_of_ble_eq_true rfl) ⟨by decide, by decide⟩ (fun J3 f3 g3 => ?_)
  refine mv_aload_n (pc := 53) dX1_copyFrom_53 rfl ?_
  refine mv_getR (pc := 54) (q := p + 4) dX1_copyFrom_54 fl1_25 (fun _ _ => rfl) (congrArg Prod.fst hp.o) hp.f4 ?_
  refine mv_iconst (pc := 57) (v := 0) dX1_copyFrom_57 (by decide) ?_
  refine mv_aload_n (pc := 58) dX1_copyFrom_58 rfl ?_
  refine mv_getR (pc := 59) (q := q + 4) dX1_copyFrom_59 fl1_25 (fun _ _ => rfl) (congrArg Prod.fst hq.o) hq.f4 ?_
  refine mv_iconst (pc := 62) (v := 0) dX1_copyFrom_62 (by decide) ?_
  refine mv_bipush (pc := 63) (v := 48) dX1_copyFrom_63 (by decide) ?_
  refine mv_copyG (pc := 65) (cnt := 48) dX1_copyFrom_65 lkc1_47 ws_n ws_s ws_i hp.g4 hq.g4 (by decide) (by decide) (by decide) (Nat.le_of_ble_eq_true rfl) ⟨by decide, by decide⟩ (fun J4 f4 g4 => ?_)
  refine mv_aload_n (pc := 68) dX1_copyFrom_68 rfl ?_
  refine mv_getR (pc := 69) (q := p + 5) dX1_copyFrom_69 fl1_28 (fun _ _ => rfl) (congrArg Prod.fst hp.o) hp.f5 ?_
  refine mv_iconst (pc := 72) (v := 0) dX1_copyFrom_72 (by decide) ?_
  refine mv_aload_n (pc := 73) dX1_copyFrom_73 rfl ?_
  refine mv_getR (pc := 74) (q := q + 5) dX1_copyFrom_74 fl1_28 (fun _ _ => rfl) (congrArg Prod.fst hq.o) hq.f5 ?_
  refine mv_iconst (pc := 77) (v := 0) dX1_copyFrom_77 (by decide) ?_
  refine mv_bipush (pc := 78) (v := 8) dX1_copyFrom_78 (by decide) ?_
  refine mv_copyG (pc := 80) (cnt := 8) dX1_copyFrom_80 lkc1_47 ws_n ws_s ws_i hp.g5 hq.g5 (by decide) (by decide) (by decide) (Nat.le_of_ble_eq_true rfl) ⟨by decide, by decide⟩ (fun J5 f5 g5 => ?_)
  refine mv_aload_n (pc := 83) dX1_copyFrom_83 rfl ?_
  refine mv_getR (pc := 84) (q := p + 6) dX1_copyFrom_84 fl1_31 (fun _ _ => rfl) (congrArg Prod.fst hp.o) hp.f6 ?_
  refine mv_iconst (pc := 87) (v := 0) dX1_copyFrom_87 (by decide) ?_
  refine mv_aload_n (pc := 88) dX1_copyFrom_88 rfl ?_
  refine mv_getR (pc := 89) (q := q + 6) dX1_copyFrom_89 fl1_31 (fun _ _ => rfl) (congrArg Prod.fst hq.o) hq.f6 ?_
  refine mv_iconst (pc := 92) (v := 0) dX1_copyFrom_92 (by decide) ?_
  refine mv_bipush (pc := 93) (v := 8) dX1_copyFrom_93 (by decide) ?_
  refine mv_copyG (pc := 95) (cnt := 8) dX1_copyFrom_95 lkc1_47 ws_n ws_s ws_i hp.g6 hq.g6 (by decide) (by decide) (by decide) (Nat.le_of_ble_eq_true rfl) ⟨by decide, by decide⟩ (fun J6 f6 g6 => ?_)
  refine mv_aload_n (pc := 98) dX1_copyFrom_98 rfl ?_
  refine mv_getR (pc := 99) (q := p + 7) dX1_copyFrom_99 fl1_34 (fun _ _ => rfl) (congrArg Prod.fst hp.o) hp.f7 ?_
  refine mv_iconst (pc := 102) (v := 0) dX1_copyFrom_102 (by decide) ?_
  refine mv_aload_n (pc := 103) dX1_copyFrom_103 rfl ?_
  refine mv_getR (pc := 104) (q := q + 7) dX1_copyFrom_104 fl1_34 (fun _ _ => rfl) (congrArg Prod.fst hq.o) hq.f7 ?_
  refine mv_iconst (pc := 107) (v := 0) dX1_copyFrom_107 (by decide) ?_
  refine mv_bipush (pc := 108) (v := 8) dX1_copyFrom_108 (by decide) ?_
  refine mv_copyG (pc := 110) (cnt := 8) dX1_copyFrom_110 lkc1_47 ws_n ws_s ws_i hp.g7 hq.g7 (by decide) (by decide) (by decide) (Nat.le_of_ble_eq_true rfl) ⟨by decide, by decide⟩ (fun J7 f7 g7 => ?_)
  refine mv_aload_n (pc := 113) dX1_copyFrom_113 rfl ?_
  refine mv_getR (pc := 114) (q := p + 8) dX1_copyFrom_114 fl1_37 (fun _ _ => rfl) (congrArg Prod.fst hp.o) hp.f8 ?_
  refine mv_iconst (pc := 117) (v := 0) dX1_copyFrom_117 (by decide) ?_
  refine mv_aload_n (pc := 118) dX1_copyFrom_118 rfl ?_
  refine mv_getR (pc := 119) (q := q + 8) dX1_copyFrom_119 fl1_37 (fun _ _ => rfl) (congrArg Prod.fst hq.o) hq.f8 ?_
  refine mv_iconst (pc := 122) (v := 0) dX1_copyFrom_122 (by decide) ?_
  refine mv_bipush (pc := 123) (v := 8) dX1_copyFrom_123 (by decide) ?_
  refine mv_copyG (pc := 125) (cnt := 8) dX1_copyFrom_125 lkc1_47 ws_n ws_s ws_i hp.g8 hq.g8 (by decide) (by decide) (by decide) (Nat.le_of_ble_eq_true rfl) ⟨by decide, by decide⟩ (fun J8 f8 g8 => ?_)
  have b0 : ∀ b, b ≠ q → mv_up I q 0 (nI nt) b = I b := fun b hb => mv_upN b hb
  have h1 : ∀ k, k < 8 → J8 (q + 1) k = I (p + 1) k := fun k hk => by rw [f8 (q + 1) (by omega), f7 (q + 1) (by omega), f6 (q + 1) (by omega), f5 (q + 1) (by omega), f4 (q + 1) (by omega), f3 (q + 1) (by omega), f2 (q + 1) (by omega), g1 k hk, b0 (p + 1) (by omega)]
  have h2 : ∀ k, k < 8 → J8 (q + 2) k = I (p + 2) k := fun k hk => by rw [f8 (q + 2) (by omega), f7 (q + 2) (by omega), f6 (q + 2) (by omega), f5 (q + 2) (by omega), f4 (q + 2) (by omega), f3 (q + 2) (by omega), g2 k hk, f1 (p + 2) (by omega), b0 (p + 2) (by omega)]
  have h3 : ∀ k, k < 48 → J8 (q + 3) k = I (p + 3) k := fun k hk => by rw [f8 (q + 3) (by omega), f7 (q + 3) (by omega), f6 (q + 3) (by omega), f5 (q + 3) (by omega), f4 (q + 3) (by omega), g3 k hk, f2 (p + 3) (by omega), f1 (p + 3) (by omega), b0 (p + 3) (by omega)]
  have h4 : ∀ k, k < 48 → J8 (q + 4) k = I (p + 4) k := fun k hk => by rw [f8 (q + 4) (by omega), f7 (q + 4) (by omega), f6 (q + 4) (by omega), f5 (q + 4) (by omega), g4 k hk, f3 (p + 4) (by omega), f2 (p + 4) (by omega), f1 (p + 4) (by omega), b0 (p + 4) (by omega)]
  have h5 : ∀ k, k < 8 → J8 (q + 5) k = I (p + 5) k := fun k hk => by rw [f8 (q + 5) (by omega), f7 (q + 5) (by omega), f6 (q + 5) (by omega), g5 k hk, f4 (p + 5) (by omega), f3 (p + 5) (by omega), f2 (p + 5) (by omega), f1 (p + 5) (by omega), b0 (p + 5) (by omega)]
  have h6 : ∀ k, k < 8 → J8 (q + 6) k = I (p + 6) k := fun k hk => by rw [f8 (q + 6) (by omega), f7 (q + 6) (by omega), g6 k hk, f5 (p + 6) (by omega), f4 (p + 6) (by omega), f3 (p + 6) (by omega), f2 (p + 6) (by omega), f1 (p + 6) (by omega), b0 (p + 6) (by omega)]
  have h7 : ∀ k, k < 8 → J8 (q + 7) k = I (p + 7) k := fun k hk => by rw [f8 (q + 7) (by omega), g7 k hk, f6 (p + 7) (by omega), f5 (p + 7) (by omega), f4 (p + 7) (by omega), f3 (p + 7) (by omega), f2 (p + 7) (by omega), f1 (p + 7) (by omega), b0 (p + 7) (by omega)]
  have h8 : ∀ k, k < 8 → J8 (q + 8) k = I (p + 8) k := fun k hk => by rw [g8 k hk, f7 (p + 8) (by omega), f6 (p + 8) (by omega), f5 (p + 8) (by omega), f4 (p + 8) (by omega), f3 (p + 8) (by omega), f2 (p + 8) (by omega), f1 (p + 8) (by omega), b0 (p + 8) (by omega)]
  refine mv_vret (pc := 128) dX1_copyFrom_128 rfl (by decide) (by decide) (hQ _ ⟨⟨?_, fun t ht => ?_⟩, fun b hb => ?_⟩)
  · rw [f8 q (by omega), f7 q (by omega), f6 q (by omega), f5 q (by omega), f4 q (by omega), f3 q (by omega), f2 q (by omega), f1 q (by omega), mv_upe]
  · obtain ⟨a1, a2, a3, a4, a5, a6, a7⟩ := h.2 t ht
    obtain ⟨-, ⟨s, s6, s1, -⟩, -⟩ := hw.T ht
    rw [h1 t (by omega), h2 t (by omega), h5 t (by omega), h6 t (by omega), h7 t (by omega), h8 t (by omega)]
    refine ⟨a1, a2, a3, a4, a5, a6, fun j hj => ?_⟩
    have hj6 : j < 6 := by rw [s1, nI_clamp (by omega)] at hj; omega
    rw [h3 _ (by omega), h4 _ (by omega)]
    exact a7 j hj
  · rw [f8 b (by omega), f7 b (by omega), f6 b (by omega), f5 b (by omega), f4 b (by omega), f3 b (by omega), f2 b (by omega), f1 b (by omega), b0 b (by omega)]
theorem c1_copyFrom {l : Launch} {D : va_G} {b0 n : Nat} {sh : mv_Sh} {I : mv_I} {R : mv_R} {p q nt : Nat} {π : xs_X} (hq : ly_Plan sh R q) (hp : ly_Plan sh R p) (hpq : q + 9 ≤ p ∨ p + 9 ≤ q) (h : pl_C I p nt π) (hw : pl_W nt π) : mv_C l D b0 m1_copyFrom (mv_rm 1) [.ref q, .ref p] n sh I R (mv_Pv n sh R (fun I' => pl_C I' q nt π ∧ pc_Fr q I I')) := mv_C.of 0 (by decide) (by simp [Value.category]) rfl (e1_copyFrom hq hp hpq h hw (fun _ h => mv_Pv.mk h))
def rc_cp (p q : Nat) (I I' : mv_I) : Prop := (I' p 1 = I q 1 ∧ I' p 13 = I q 13) ∧ (∀ j, 1 ≤ j → j ≤ 10 → ∀ k, k < 8 → I' (p + j) k = I (q + j) k) ∧ (∀ k, k < 64 → I' (p + 11) k = I (q + 11) k) ∧ ∀ k, k < 60 → I' (p + 12) k = I (q + 12) k ∧ I' (p + 13) k = I (q + 13) k ∧ I' (p + 14) k = I (q + 14) k
theorem rc_R.cp {I I' : mv_I} {p q n : Nat} {x : xs_X} (h : rc_R I q n x) (hn : n ≤ 8) (e : rc_cp p q I I') : rc_R I' p n x := by
  obtain ⟨⟨h1, h2⟩, h3, h4⟩ := h
  obtain ⟨⟨e1, e2⟩, e3, e4, e5⟩ := e
  refine ⟨⟨by rw [e1]; exact h1, by rw [e2]; exact h2⟩, fun t ht => ⟨fun k hk => ?_, ?_, ?_, fun j hj hj8 => ?_⟩, fun j hj hj6 => ?_⟩
  · have := @xs_off_ne k
    rw [e3 _ (by omega) (by omega) t (by omega)]; exact (h3 t ht).1 k hk
  · rw [e3 4 (by omega) (by omega) t (by omega)]; exact (h3 t ht).2.1
  · rw [e3 5 (by omega) (by omega) t (by omega)]; exact (h3 t ht).2.2.1
  · rw [e4 _ (by omega)]; exact (h3 t ht).2.2.2 j hj hj8
  · obtain ⟨a1, a2, a3⟩ := e5 j hj6
    rw [a1, a2, a3]; exact h4 j hj hj6
set_option maxHeartbeats 4000000 in
set_option maxRecDepth 100000 in
theorem e3_copyFrom {l : Launch} {D : va_G} {b0 n : Nat} {sh : mv_Sh} {I : mv_I} {R : mv_R} {Q : mv_Q} {p q pl : Nat} (hp : ly_Run sh R p) (hq : ly_Run sh R q) (hpq : q + 15 ≤ p ∨ p + 15 ≤ q) (hqp : R q 0 = some pl) (hQ : ∀ I', (rc_cp p q I I' ∧ rc_Fr p I I') → Q none n sh I' (mv_up R p 0 (some pl))) : mv_E l D b0 m3_copyFrom (mv_rm 1) Q 0 [.ref p, .ref q] [] 0 0 n sh I R := by
  have hp2 : ly_Run sh (mv_up R p 0 (some pl)) p := hp.upR (fun k hk => by simp [mv_up, hk])
  have hq2 : ly_Run sh (mv_up R p 0 (some pl)) q := hq.upR (fun k hk => by simp [mv_up, hk])
  refine mv_aload_n (pc := 0) dX3_copyFrom_0 rfl ?_
  refine mv_aload_n (pc := 1) dX3_copyFrom_1 rfl ?_
  refine mv_getR (pc := 2) (q := pl) dX3_copyFrom_2 fl3_65 (fun _ _ => rfl) (congrArg Prod.fst hq.o) hqp ?_
  refine mv_putR (pc := 5) dX3_copyFrom_5 fl3_65 (fun _ _ => rfl) (Or.inl rfl) rfl rfl (congrArg Prod.fst hp.o) ?_
  refine mv_aload_n (pc := 8) dX3_copyFrom_8 rfl ?_
  refine mv_aload_n (pc := 9) dX3_copyFrom_9 rfl ?_
  refine mv_getIx (pc := 10) (x := I q 1) dX3_copyFrom_10 fl3_9 rfl (congrArg Prod.fst hq2.o) rfl ?_
  refine mv_putI (pc := 13) dX3_copyFrom_13 fl3_9 rfl rfl (congrArg Prod.fst hp2.o) ?_
  refine mv_aload_n (pc := 16) dX3_copyFrom_16 rfl ?_
  refine mv_aload_n (pc := 17) dX3_copyFrom_17 rfl ?_
  refine mv_getIx (pc := 18) (x := I q 13) dX3_copyFrom_18 fl3_49 rfl (congrArg Prod.fst hq2.o) (by rw [mv_upN q (by omega)]) ?_
  refine mv_putI (pc := 21) dX3_copyFrom_21 fl3_49 rfl rfl (congrArg Prod.fst hp2.o) ?_
  refine mv_aload_n (pc := 24) dX3_copyFrom_24 rfl ?_
  refine mv_getR (pc := 25) (q := q + 1) dX3_copyFrom_25 fl3_15 (fun _ _ => rfl) (congrArg Prod.fst hq2.o) hq2.f2 ?_
  refine mv_iconst (pc := 28) (v := 0) dX3_copyFrom_28 (by decide) ?_
  refine mv_aload_n (pc := 29) dX3_copyFrom_29 rfl ?_
  refine mv_getR (pc := 30) (q := p + 1) dX3_copyFrom_30 fl3_15 (fun _ _ => rfl) (congrArg Prod.fst hp2.o) hp2.f2 ?_
  refine mv_iconst (pc := 33) (v := 0) dX3_copyFrom_33 (by decide) ?_
  refine mv_bipush (pc := 34) (v := 8) dX3_copyFrom_34 (by decide) ?_
  refine mv_copyG (pc := 36) (cnt := 8) dX3_copyFrom_36 lkc3_74 ws_n ws_s ws_i hq2.g2 hp2.g2 (by decide) (by decide) (by decide) (Nat.le_of_ble_eq_true rfl) ⟨by decide, by decide⟩ (fun J1 f1 g1 => ?_)
  refine mv_aload_n (pc := 39) dX3_copyFrom_39 rfl ?_
  refine mv_getR (pc := 40) (q := q + 2) dX3_copyFrom_40 fl3_19 (fun _ _ => rfl) (congrArg Prod.fst hq2.o) hq2.f3 ?_
  refine mv_iconst (pc := 43) (v := 0) dX3_copyFrom_43 (by decide) ?_
  refine mv_aload_n (pc := 44) dX3_copyFrom_44 rfl ?_
  refine mv_getR (pc := 45) (q := p + 2) dX3_copyFrom_45 fl3_19 (fun _ _ => rfl) (congrArg Prod.fst hp2.o) hp2.f3 ?_
  refine mv_iconst (pc := 48) (v := 0) dX3_copyFrom_48 (by decide) ?_
  refine mv_bipush (pc := 49) (v := 8) dX3_copyFrom_49 (by decide) ?_
  refine mv_copyG (pc := 51) (cnt := 8) dX3_copyFrom_51 lkc3_74 ws_n ws_s ws_i hq2.g3 hp2.g3 (by decide) (by decide) (by decide) (Nat.le_of_ble_eq_true rfl) ⟨by decide, by decide⟩ (fun J2 f2 g2 => ?_)
  refine mv_aload_n (pc := 54) dX3_copyFrom_54 rfl ?_
  refine mv_getR (pc := 55) (q := q + 3) dX3_copyFrom_55 fl3_22 (fun _ _ => rfl) (congrArg Prod.fst hq2.o) hq2.f4 ?_
  refine mv_iconst (pc := 58) (v := 0) dX3_copyFrom_58 (by decide) ?_
  refine mv_aload_n (pc := 59) dX3_copyFrom_59 rfl ?_
  refine mv_getR (pc := 60) (q := p + 3) dX3_copyFrom_60 fl3_22 (fun _ _ => rfl) (congrArg Prod.fst hp2.o) hp2.f4 ?_
  refine mv_iconst (pc := 63) (v := 0) dX3_copyFrom_63 (by decide) ?_
  refine mv_bipush (pc := 64) (v := 8) dX3_copyFrom_64 (by decide) ?_
  refine mv_copyG (pc := 66) (cnt := 8) dX3_copyFrom_66 lkc3_74 ws_n ws_s ws_i hq2.g4 hp2.g4 (by decide) (by decide) (by decide) (Nat.le_of_ble_eq_true rfl) ⟨by decide, by decide⟩ (fun J3 f3 g3 => ?_)
  refine mv_aload_n (pc := 69) dX3_copyFrom_69 rfl ?_
  refine mv_getR (pc := 70) (q := q + 4) dX3_copyFrom_70 fl3_25 (fun _ _ => rfl) (congrArg Prod.fst hq2.o) hq2.f5 ?_
  refine mv_iconst (pc := 73) (v := 0) dX3_copyFrom_73 (by decide) ?_
  refine mv_aload_n (pc := 74) dX3_copyFrom_74 rfl ?_
  refine mv_getR (pc := 75) (q := p + 4) dX3_copyFrom_75 fl3_25 (fun _ _ => rfl) (congrArg Prod.fst hp2.o) hp2.f5 ?_
  refine mv_iconst (pc := 78) (v := 0) dX3_copyFrom_78 (by decide) ?_
  refine mv_bipush (pc := 79) (v := 8) dX3_copyFrom_79 (by decide) ?_
  refine mv_copyG (pc := 81) (cnt := 8) dX3_copyFrom_81 lkc3_74 ws_n ws_s ws_i hq2.g5 hp2.g5 (by decide) (by decide) (by decide) (Nat.le_of_ble_eq_true rfl) ⟨by decide, by decide⟩ (fun J4 f4 g4 => ?_)
  refine mv_aload_n (pc := 84) dX3_copyFrom_84 rfl ?_
  refine mv_getR (pc := 85) (q := q + 5) dX3_copyFrom_85 fl3_28 (fun _ _ => rfl) (congrArg Prod.fst hq2.o) hq2.f6 ?_
  refine mv_iconst (pc := 88) (v := 0) dX3_copyFrom_88 (by decide) ?_
  refine mv_aload_n (pc := 89) dX3_copyFrom_89 rfl ?_
  refine mv_getR (pc := 90) (q := p + 5) dX3_copyFrom_90 fl3_28 (fun _ _ => rfl) (congrArg Prod.fst hp2.o) hp2.f6 ?_
  refine mv_iconst (pc := 93) (v := 0) dX3_copyFrom_93 (by decide) ?_
  refine mv_bipush (pc := 94) (v := 8) dX3_copyFrom_94 (by decide) ?_
  refine mv_copyG (pc := 96) (cnt := 8) dX3_copyFrom_96 lkc3_74 ws_n ws_s ws_i hq2.g6 hp2.g6 (by decide) (by decide) (by decide) (Nat.le_of_ble_eq_true rfl) ⟨by decide, by decide⟩ (fun J5 f5 g5 => ?_)
  refine mv_aload_n (pc := 99) dX3_copyFrom_99 rfl ?_
  refine mv_getR (pc := 100) (q := q + 6) dX3_copyFrom_100 fl3_31 (fun _ _ => rfl) (congrArg Prod.fst hq2.o) hq2.f7 ?_
  refine mv_iconst (pc := 103) (v := 0) dX3_copyFrom_103 (by decide) ?_
  refine mv_aload_n (pc := 104) dX3_copyFrom_104 rfl ?_
  refine mv_getR (pc := 105) (q := p + 6) dX3_copyFrom_105 fl3_31 (fun _ _ => rfl) (congrArg Prod.fst hp2.o) hp2.f7 ?_
  refine mv_iconst (pc := 108) (v := 0) dX3_copyFrom_108 (by decide) ?_
  refine mv_bipush (pc := 109) (v := 8) dX3_copyFrom_109 (by decide) ?_
  refine mv_copyG (pc := 111) (cnt := 8) dX3_copyFrom_111 lkc3_74 ws_n ws_s ws_i hq2.g7 hp2.g7 (by decide) (by decide) (by decide) (Nat.le_of_ble_eq_true rfl) ⟨by decide, by decide⟩ (fun J6 f6 g6 => ?_)
  refine mv_aload_n (pc := 114) dX3_copyFrom_114 rfl ?_
  refine mv_getR (pc := 115) (q := q + 7) dX3_copyFrom_115 fl3_34 (fun _ _ => rfl) (congrArg Prod.fst hq2.o) hq2.f8 ?_
  refine mv_iconst (pc := 118) (v := 0) dX3_copyFrom_118 (by decide) ?_
  refine mv_aload_n (pc := 119) dX3_copyFrom_119 rfl ?_
  refine mv_getR (pc := 120) (q := p + 7) dX3_copyFrom_120 fl3_34 (fun _ _ => rfl) (congrArg Prod.fst hp2.o) hp2.f8 ?_
  refine mv_iconst (pc := 123) (v := 0) dX3_copyFrom_123 (by decide) ?_
  refine mv_bipush (pc := 124) (v := 8) dX3_copyFrom_124 (by decide) ?_
  refine mv_copyG (pc := 126) (cnt := 8) dX3_copyFrom_126 lkc3_74 ws_n ws_s ws_i hq2.g8 hp2.g8 (by decide) (by decide) (by decide) (Nat.le_of_ble_eq_true rfl) ⟨by decide, by decide⟩ (fun J7 f7 g7 => ?_)
  refine mv_aload_n (pc := 129) dX3_copyFrom_129 rfl ?_
  refine mv_getR (pc := 130) (q := q + 8) dX3_copyFrom_130 fl3_37 (fun _ _ => rfl) (congrArg Prod.fst hq2.o) hq2.f9 ?_
  refine mv_iconst (pc := 133) (v := 0) dX3_copyFrom_133 (by decide) ?_
  refine mv_aload_n (pc := 134) dX3_copyFrom_134 rfl ?_
  refine mv_getR (pc := 135) (q := p + 8) dX3_copyFrom_135 fl3_37 (fun _ _ => rfl) (congrArg Prod.fst hp2.o) hp2.f9 ?_
  refine mv_iconst (pc := 138) (v := 0) dX3_copyFrom_138 (by decide) ?_
  refine mv_bipush (pc := 139) (v := 8) dX3_copyFrom_139 (by decide) ?_
  refine mv_copyG (pc := 141) (cnt := 8) dX3_copyFrom_141 lkc3_74 ws_n ws_s ws_i hq2.g9 hp2.g9 (by decide) (by decide) (by decide) (Nat.le_of_ble_eq_true rfl) ⟨by decide, by decide⟩ (fun J8 f8 g8 => ?_)
  refine mv_aload_n (pc := 144) dX3_copyFrom_144 rfl ?_
  refine mv_getR (pc := 145) (q := q + 9) dX3_copyFrom_145 fl3_40 (fun _ _ => rfl) (congrArg Prod.fst hq2.o) hq2.f10 ?_
  refine mv_iconst (pc := 148) (v := 0) dX3_copyFrom_148 (by decide) ?_
  refine mv_aload_n (pc := 149) dX3_copyFrom_149 rfl ?_
  refine mv_getR (pc := 150) (q := p + 9) dX3_copyFrom_150 fl3_40 (fun _ _ => rfl) (congrArg Prod.fst hp2.o) hp2.f10 ?_
  refine mv_iconst (pc := 153) (v := 0) dX3_copyFrom_153 (by decide) ?_
  refine mv_bipush (pc := 154) (v := 8) dX3_copyFrom_154 (by decide) ?_
  refine mv_copyG (pc := 156) (cnt := 8) dX3_copyFrom_156 lkc3_74 ws_n ws_s ws_i hq2.g10 hp2.g10 (by decide) (by decide) (by decide) (Nat.le_of_ble_eq_true rfl) ⟨by decide, by decide⟩ (fun J9 f9 g9 => ?_)
  refine mv_aload_n (pc := 159) dX3_copyFrom_159 rfl ?_
  refine mv_getR (pc := 160) (q := q + 10) dX3_copyFrom_160 fl3_43 (fun _ _ => rfl) (congrArg Prod.fst hq2.o) hq2.f11 ?_
  refine mv_iconst (pc := 163) (v := 0) dX3_copyFrom_163 (by decide) ?_
  refine mv_aload_n (pc := 164) dX3_copyFrom_164 rfl ?_
  refine mv_getR (pc := 165) (q := p + 10) dX3_copyFrom_165 fl3_43 (fun _ _ => rfl) (congrArg Prod.fst hp2.o) hp2.f11 ?_
  refine mv_iconst (pc := 168) (v := 0) dX3_copyFrom_168 (by decide) ?_
  refine mv_bipush (pc := 169) (v := 8) dX3_copyFrom_169 (by decide) ?_
  refine mv_copyG (pc := 171) (cnt := 8) dX3_copyFrom_171 lkc3_74 ws_n ws_s ws_i hq2.g11 hp2.g11 (by decide) (by decide) (by decide) (Nat.le_of_ble_eq_true rfl) ⟨by decide, by decide⟩ (fun J10 f10 g10 => ?_)
  refine mv_aload_n (pc := 174) dX3_copyFrom_174 rfl ?_
  refine mv_getR (pc := 175) (q := q + 11) dX3_copyFrom_175 fl3_46 (fun _ _ => rfl) (congrArg Prod.fst hq2.o) hq2.f12 ?_
  refine mv_iconst (pc := 178) (v := 0) dX3_copyFrom_178 (by decide) ?_
  refine mv_aload_n (pc := 179) dX3_copyFrom_179 rfl ?_
  refine mv_getR (pc := 180) (q := p + 11) dX3_copyFrom_180 fl3_46 (fun _ _ => rfl) (congrArg Prod.fst hp2.o) hp2.f12 ?_
  refine mv_iconst (pc := 183) (v := 0) dX3_copyFrom_183 (by decide) ?_
  refine mv_bipush (pc := 184) (v := 64) dX3_copyFrom_184 (by decide) ?_
  refine mv_copyG (pc := 186) (cnt := 64) dX3_copyFrom_186 lkc3_74 ws_n ws_s ws_i hq2.g12 hp2.g12 (by decide) (by decide) (by decide) (Nat.le_of_ble_eq_true rfl) ⟨by decide, by decide⟩ (fun J11 f11 g11 => ?_)
  refine mv_aload_n (pc := 189) dX3_copyFrom_189 rfl ?_
  refine mv_getR (pc := 190) (q := q + 12) dX3_copyFrom_190 fl3_52 (fun _ _ => rfl) (congrArg Prod.fst hq2.o) hq2.f14 ?_
  refine mv_iconst (pc := 193) (v := 0) dX3_copyFrom_193 (by decide) ?_
  refine mv_aload_n (pc := 194) dX3_copyFrom_194 rfl ?_
  refine mv_getR (pc := 195) (q := p + 12) dX3_copyFrom_195 fl3_52 (fun _ _ => rfl) (congrArg Prod.fst hp2.o) hp2.f14 ?_
  refine mv_iconst (pc := 198) (v := 0) dX3_copyFrom_198 (by decide) ?_
  refine mv_bipush (pc := 199) (v := 60) dX3_copyFrom_199 (by decide) ?_
  refine mv_copyG (pc := 201) (cnt := 60) dX3_copyFrom_201 lkc3_74 ws_n ws_s ws_i hq2.g14 hp2.g14 (by decide) (by decide) (by decide) (Nat.le_of_ble_eq_true rfl) ⟨by decide, by decide⟩ (fun J12 f12 g12 => ?_)
  refine mv_aload_n (pc := 204) dX3_copyFrom_204 rfl ?_
  refine mv_getR (pc := 205) (q := q + 13) dX3_copyFrom_205 fl3_55 (fun _ _ => rfl) (congrArg Prod.fst hq2.o) hq2.f15 ?_
  refine mv_iconst (pc := 208) (v := 0) dX3_copyFrom_208 (by decide) ?_
  refine mv_aload_n (pc := 209) dX3_copyFrom_209 rfl ?_
  refine mv_getR (pc := 210) (q := p + 13) dX3_copyFrom_210 fl3_55 (fun _ _ => rfl) (congrArg Prod.fst hp2.o) hp2.f15 ?_
  refine mv_iconst (pc := 213) (v := 0) dX3_copyFrom_213 (by decide) ?_
  refine mv_bipush (pc := 214) (v := 60) dX3_copyFrom_214 (by decide) ?_
  refine mv_copyG (pc := 216) (cnt := 60) dX3_copyFrom_216 lkc3_74 ws_n ws_s ws_i hq2.g15 hp2.g15 (by decide) (by decide) (by decide) (Nat.le_of_ble_eq_true rfl) ⟨by decide, by decide⟩ (fun J13 f13 g13 => ?_)
  refine mv_aload_n (pc := 219) dX3_copyFrom_219 rfl ?_
  refine mv_getR (pc := 220) (q := q + 14) dX3_copyFrom_220 fl3_58 (fun _ _ => rfl) (congrArg Prod.fst hq2.o) hq2.f16 ?_
  refine mv_iconst (pc := 223) (v := 0) dX3_copyFrom_223 (by decide) ?_
  refine mv_aload_n (pc := 224) dX3_copyFrom_224 rfl ?_
  refine mv_getR (pc := 225) (q := p + 14) dX3_copyFrom_225 fl3_58 (fun _ _ => rfl) (congrArg Prod.fst hp2.o) hp2.f16 ?_
  refine mv_iconst (pc := 228) (v := 0) dX3_copyFrom_228 (by decide) ?_
  refine mv_bipush (pc := 229) (v := 60) dX3_copyFrom_229 (by decide) ?_
  refine mv_copyG (pc := 231) (cnt := 60) dX3_copyFrom_231 lkc3_74 ws_n ws_s ws_i hq2.g16 hp2.g16 (by decide) (by decide) (by decide) (Nat.le_of_ble_eq_true rfl) ⟨by decide, by decide⟩ (fun J14 f14 g14 => ?_)
  have b0 : ∀ b, b ≠ p → mv_up (mv_up I p 1 (I q 1)) p 13 (I q 13) b = I b := fun b hb => by rw [mv_upN b hb, mv_upN b hb]
  have h1 : ∀ k, k < 8 → J14 (p + 1) k = I (q + 1) k := fun k hk => by rw [f14 (p + 1) (by omega), f13 (p + 1) (by omega), f12 (p + 1) (by omega), f11 (p + 1) (by omega), f10 (p + 1) (by omega), f9 (p + 1) (by omega), f8 (p + 1) (by omega), f7 (p + 1) (by omega), f6 (p + 1) (by omega), f5 (p + 1) (by omega), f4 (p + 1) (by omega), f3 (p + 1) (by omega), f2 (p + 1) (by omega), g1 k hk, b0 (q + 1) (by omega)]
  have h2 : ∀ k, k < 8 → J14 (p + 2) k = I (q + 2) k := fun k hk => by rw [f14 (p + 2) (by omega), f13 (p + 2) (by omega), f12 (p + 2) (by omega), f11 (p + 2) (by omega), f10 (p + 2) (by omega), f9 (p + 2) (by omega), f8 (p + 2) (by omega), f7 (p + 2) (by omega), f6 (p + 2) (by omega), f5 (p + 2) (by omega), f4 (p + 2) (by omega), f3 (p + 2) (by omega), g2 k hk, f1 (q + 2) (by omega), b0 (q + 2) (by omega)]
  have h3 : ∀ k, k < 8 → J14 (p + 3) k = I (q + 3) k := fun k hk => by rw [f14 (p + 3) (by omega), f13 (p + 3) (by omega), f12 (p + 3) (by omega), f11 (p + 3) (by omega), f10 (p + 3) (by omega), f9 (p + 3) (by omega), f8 (p + 3) (by omega), f7 (p + 3) (by omega), f6 (p + 3) (by omega), f5 (p + 3) (by omega), f4 (p + 3) (by omega), g3 k hk, f2 (q + 3) (by omega), f1 (q + 3) (by omega), b0 (q + 3) (by omega)]
  have h4 : ∀ k, k < 8 → J14 (p + 4) k = I (q + 4) k := fun k hk => by rw [f14 (p + 4) (by omega), f13 (p + 4) (by omega), f12 (p + 4) (by omega), f11 (p + 4) (by omega), f10 (p + 4) (by omega), f9 (p + 4) (by omega), f8 (p + 4) (by omega), f7 (p + 4) (by omega), f6 (p + 4) (by omega), f5 (p + 4) (by omega), g4 k hk, f3 (q + 4) (by omega), f2 (q + 4) (by omega), f1 (q + 4) (by omega), b0 (q + 4) (by omega)]
  have h5 : ∀ k, k < 8 → J14 (p + 5) k = I (q + 5) k := fun k hk => by rw [f14 (p + 5) (by omega), f13 (p + 5) (by omega), f12 (p + 5) (by omega), f11 (p + 5) (by omega), f10 (p + 5) (by omega), f9 (p + 5) (by omega), f8 (p + 5) (by omega), f7 (p + 5) (by omega), f6 (p + 5) (by omega), g5 k hk, f4 (q + 5) (by omega), f3 (q + 5) (by omega), f2 (q + 5) (by omega), f1 (q + 5) (by omega), b0 (q + 5) (by omega)]
  have h6 : ∀ k, k < 8 → J14 (p + 6) k = I (q + 6) k := fun k hk => by rw [f14 (p + 6) (by omega), f13 (p + 6) (by omega), f12 (p + 6) (by omega), f11 (p + 6) (by omega), f10 (p + 6) (by omega), f9 (p + 6) (by omega), f8 (p + 6) (by omega), f7 (p + 6) (by omega), g6 k hk, f5 (q + 6) (by omega), f4 (q + 6) (by omega), f3 (q + 6) (by omega), f2 (q + 6) (by omega), f1 (q + 6) (by omega), b0 (q + 6) (by omega)]
  have h7 : ∀ k, k < 8 → J14 (p + 7) k = I (q + 7) k := fun k hk => by rw [f14 (p + 7) (by omega), f13 (p + 7) (by omega), f12 (p + 7) (by omega), f11 (p + 7) (by omega), f10 (p + 7) (by omega), f9 (p + 7) (by omega), f8 (p + 7) (by omega), g7 k hk, f6 (q + 7) (by omega), f5 (q + 7) (by omega), f4 (q + 7) (by omega), f3 (q + 7) (by omega), f2 (q + 7) (by omega), f1 (q + 7) (by omega), b0 (q + 7) (by omega)]
  have h8 : ∀ k, k < 8 → J14 (p + 8) k = I (q + 8) k := fun k hk => by rw [f14 (p + 8) (by omega), f13 (p + 8) (by omega), f12 (p + 8) (by omega), f11 (p + 8) (by omega), f10 (p + 8) (by omega), f9 (p + 8) (by omega), g8 k hk, f7 (q + 8) (by omega), f6 (q + 8) (by omega), f5 (q + 8) (by omega), f4 (q + 8) (by omega), f3 (q + 8) (by omega), f2 (q + 8) (by omega), f1 (q + 8) (by omega), b0 (q + 8) (by omega)]
  have h9 : ∀ k, k < 8 → J14 (p + 9) k = I (q + 9) k := fun k hk => by rw [f14 (p + 9) (by omega), f13 (p + 9) (by omega), f12 (p + 9) (by omega), f11 (p + 9) (by omega), f10 (p + 9) (by omega), g9 k hk, f8 (q + 9) (by omega), f7 (q + 9) (by omega), f6 (q + 9) (by omega), f5 (q + 9) (by omega), f4 (q + 9) (by omega), f3 (q + 9) (by omega), f2 (q + 9) (by omega), f1 (q + 9) (by omega), b0 (q + 9) (by omega)]
  have h10 : ∀ k, k < 8 → J14 (p + 10) k = I (q + 10) k := fun k hk => by rw [f14 (p + 10) (by omega), f13 (p + 10) (by omega), f12 (p + 10) (by omega), f11 (p + 10) (by omega), g10 k hk, f9 (q + 10) (by omega), f8 (q + 10) (by omega), f7 (q + 10) (by omega), f6 (q + 10) (by omega), f5 (q + 10) (by omega), f4 (q + 10) (by omega), f3 (q + 10) (by omega), f2 (q + 10) (by omega), f1 (q + 10) (by omega), b0 (q + 10) (by omega)]
  have h11 : ∀ k, k < 64 → J14 (p + 11) k = I (q + 11) k := fun k hk => by rw [f14 (p + 11) (by omega), f13 (p + 11) (by omega), f12 (p + 11) (by omega), g11 k hk, f10 (q + 11) (by omega), f9 (q + 11) (by omega), f8 (q + 11) (by omega), f7 (q + 11) (by omega), f6 (q + 11) (by omega), f5 (q + 11) (by omega), f4 (q + 11) (by omega), f3 (q + 11) (by omega), f2 (q + 11) (by omega), f1 (q + 11) (by omega), b0 (q + 11) (by omega)]
  have h12 : ∀ k, k < 60 → J14 (p + 12) k = I (q + 12) k := fun k hk => by rw [f14 (p + 12) (by omega), f13 (p + 12) (by omega), g12 k hk, f11 (q + 12) (by omega), f10 (q + 12) (by omega), f9 (q + 12) (by omega), f8 (q + 12) (by omega), f7 (q + 12) (by omega), f6 (q + 12) (by omega), f5 (q + 12) (by omega), f4 (q + 12) (by omega), f3 (q + 12) (by omega), f2 (q + 12) (by omega), f1 (q + 12) (by omega), b0 (q + 12) (by omega)]
  have h13 : ∀ k, k < 60 → J14 (p + 13) k = I (q + 13) k := fun k hk => by rw [f14 (p + 13) (by omega), g13 k hk, f12 (q + 13) (by omega), f11 (q + 13) (by omega), f10 (q + 13) (by omega), f9 (q + 13) (by omega), f8 (q + 13) (by omega), f7 (q + 13) (by omega), f6 (q + 13) (by omega), f5 (q + 13) (by omega), f4 (q + 13) (by omega), f3 (q + 13) (by omega), f2 (q + 13) (by omega), f1 (q + 13) (by omega), b0 (q + 13) (by omega)]
  have h14 : ∀ k, k < 60 → J14 (p + 14) k = I (q + 14) k := fun k hk => by rw [g14 k hk, f13 (q + 14) (by omega), f12 (q + 14) (by omega), f11 (q + 14) (by omega), f10 (q + 14) (by omega), f9 (q + 14) (by omega), f8 (q + 14) (by omega), f7 (q + 14) (by omega), f6 (q + 14) (by omega), f5 (q + 14) (by omega), f4 (q + 14) (by omega), f3 (q + 14) (by omega), f2 (q + 14) (by omega), f1 (q + 14) (by omega), b0 (q + 14) (by omega)]
  refine mv_vret (pc := 234) dX3_copyFrom_234 rfl (by decide) (by decide) (hQ _ ⟨⟨⟨?_, ?_⟩, fun j j1 j2 => ?_, h11, fun k hk => ⟨h12 k hk, h13 k hk, h14 k hk⟩⟩, fun b hb => ?_⟩)
  · rw [f14 p (by omega), f13 p (by omega), f12 p (by omega), f11 p (by omega), f10 p (by omega), f9 p (by omega), f8 p (by omega), f7 p (by omega), f6 p (by omega), f5 p (by omega), f4 p (by omega), f3 p (by omega), f2 p (by omega), f1 p (by omega)]; simp [mv_up]
  · rw [f14 p (by omega), f13 p (by omega), f12 p (by omega), f11 p (by omega), f10 p (by omega), f9 p (by omega), f8 p (by omega), f7 p (by omega), f6 p (by omega), f5 p (by omega), f4 p (by omega), f3 p (by omega), f2 p (by omega), f1 p (by omega), mv_upe]
  · have : j = 1 ∨ j = 2 ∨ j = 3 ∨ j = 4 ∨ j = 5 ∨ j = 6 ∨ j = 7 ∨ j = 8 ∨ j = 9 ∨ j = 10 := by omega
    rcases this with rfl | rfl | rfl | rfl | rfl | rfl | rfl | rfl | rfl | rfl
    · exact h1
    · exact h2
    · exact h3
    · exact h4
    · exact h5
    · exact h6
    · exact h7
    · exact h8
    · exact h9
    · exact h10
  · rw [f14 b (by omega), f13 b (by omega), f12 b (by omega), f11 b (by omega), f10 b (by omega), f9 b (by omega), f8 b (by omega), f7 b (by omega), f6 b (by omega), f5 b (by omega), f4 b (by omega), f3 b (by omega), f2 b (by omega), f1 b (by omega), b0 b (by omega)]
theorem c3_copyFrom {l : Launch} {D : va_G} {b0 n : Nat} {sh : mv_Sh} {I : mv_I} {R : mv_R} {p q pl : Nat} (hp : ly_Run sh R p) (hq : ly_Run sh R q) (hpq : q + 15 ≤ p ∨ p + 15 ≤ q) (hqp : R q 0 = some pl) : mv_C l D b0 m3_copyFrom (mv_rm 1) [.ref p, .ref q] n sh I R (mv_Pv n sh (mv_up R p 0 (some pl)) (fun I' => rc_cp p q I I' ∧ rc_Fr p I I')) := mv_C.of 0 (by decide) (by simp [Value.category]) rfl (e3_copyFrom hp hq hpq hqp (fun _ h => mv_Pv.mk h))
theorem c3_copyFromS {l : Launch} {D : va_G} {b0 n : Nat} {sh : mv_Sh} {I : mv_I} {R : mv_R} {p q pl : Nat} (hp : ly_Run sh R p) (hq : ly_Run sh R q) (hpq : q + 15 ≤ p ∨ p + 15 ≤ q) (hqp : R q 0 = some pl) (hpp : R p 0 = some pl) : mv_C l D b0 m3_copyFrom (mv_rm 1) [.ref p, .ref q] n sh I R (mv_Pv n sh R (fun I' => rc_cp p q I I' ∧ rc_Fr p I I')) := by
  have := c3_copyFrom (l := l) (D := D) (b0 := b0) (n := n) (I := I) hp hq hpq hqp
  rw [mv_self hpp] at this
  exact this

