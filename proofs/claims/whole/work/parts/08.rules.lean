def mv_rm (d : Nat) : Room := { frames := d, cells := 0, slots := 0, locals := 40 * d }
/-- nothing new is made, no reference is written: a void answer; an int -/
def mv_Pv (n : Nat) (sh : mv_Sh) (R : mv_R) (P : mv_I → Prop) : mv_Q := fun v n' sh' I' R' => v = none ∧ n' = n ∧ sh' = sh ∧ R' = R ∧ P I'
def mv_Pi (n : Nat) (sh : mv_Sh) (R : mv_R) (P : Int32 → mv_I → Prop) : mv_Q := fun v n' sh' I' R' => ∃ x : Int32, v = some (.int x) ∧ n' = n ∧ sh' = sh ∧ R' = R ∧ P x I'
theorem mv_Pv.mk {n : Nat} {sh : mv_Sh} {R : mv_R} {P : mv_I → Prop} {I : mv_I} (h : P I) : mv_Pv n sh R P none n sh I R := ⟨rfl, rfl, rfl, rfl, h⟩
theorem mv_Pi.mk {n : Nat} {sh : mv_Sh} {R : mv_R} {P : Int32 → mv_I → Prop} {I : mv_I} {x : Int32} (h : P x I) : mv_Pi n sh R P (some (.int x)) n sh I R := ⟨x, rfl, rfl, rfl, rfl, h⟩
theorem mv_room {d d2 mL : Nat} (h : d2 < d) (hm : mL ≤ 21) : (mv_rm d2).frames + 1 ≤ (mv_rm d).frames ∧ 8 + (mL + 11) + (mv_rm d2).locals ≤ (mv_rm d).locals := by
  constructor
  · show d2 + 1 ≤ d; omega
  · show 8 + (mL + 11) + 40 * d2 ≤ 40 * d; omega
section MR
variable {l : Launch} {D : va_G} {b0 : Nat} {M : mv_M} {d d2 : Nat} {Q : mv_Q} {pc : Nat} {loc stk st0 : List Value} {n : Nat} {sh : mv_Sh} {I : mv_I} {R : mv_R}
variable {M2 : mv_M} {As : List Value} {idx k : Nat}
theorem mv_cVv {a ci : Nat} {P : mv_I → Prop} (hd : decode M.2.1 pc = .ok (.invokevirtual idx, 3)) (hL : mv_LkV M.1.cls idx M2 k ci) (ha : (sh a).1 = ci) (hC : mv_C l D b0 M2 (mv_rm d2) (.ref a :: As) n sh I R (mv_Pv n sh R P)) (hk : As.length = k) (hst : st0 = As.reverse ++ .ref a :: stk) (hcat : (stk.map fun v => v.category).sum ≤ 8) (hm : M2.2.2.1 ≤ 21) (hdd : d2 < d)
    (kk : ∀ I', P I' → mv_E l D b0 M (mv_rm d) Q (pc + 3) loc stk 0 0 n sh I' R) : mv_E l D b0 M (mv_rm d) Q pc loc st0 0 0 n sh I R := by
  refine mv_callV hd hL ha hC hk hst hcat (mv_room hdd hm) ⟨Nat.le_refl _, Nat.le_refl _⟩ ?_
  intro v n' sh' I' R' h'
  obtain ⟨h1, h2, h3, h4, h5⟩ := h'
  subst h1 h2 h3 h4
  exact kk _ h5
theorem mv_cVi {a ci : Nat} {P : Int32 → mv_I → Prop} (hd : decode M.2.1 pc = .ok (.invokevirtual idx, 3)) (hL : mv_LkV M.1.cls idx M2 k ci) (ha : (sh a).1 = ci) (hC : mv_C l D b0 M2 (mv_rm d2) (.ref a :: As) n sh I R (mv_Pi n sh R P)) (hk : As.length = k) (hst : st0 = As.reverse ++ .ref a :: stk) (hcat : (stk.map fun v => v.category).sum ≤ 8) (hm : M2.2.2.1 ≤ 21) (hdd : d2 < d)
    (kk : ∀ x I', P x I' → mv_E l D b0 M (mv_rm d) Q (pc + 3) loc (.int x :: stk) 0 0 n sh I' R) : mv_E l D b0 M (mv_rm d) Q pc loc st0 0 0 n sh I R := by
  refine mv_callV hd hL ha hC hk hst hcat (mv_room hdd hm) ⟨Nat.le_refl _, Nat.le_refl _⟩ ?_
  intro v n' sh' I' R' h'
  obtain ⟨x, h1, h2, h3, h4, h5⟩ := h'
  subst h1 h2 h3 h4
  exact kk _ _ h5
theorem mv_cSv {P : mv_I → Prop} (hd : decode M.2.1 pc = .ok (.invokestatic idx, 3)) (hL : mv_LkS M.1.cls idx M2 k) (hC : mv_C l D b0 M2 (mv_rm d2) As n sh I R (mv_Pv n sh R P)) (hk : As.length = k) (hst : st0 = As.reverse ++ stk) (hcat : (stk.map fun v => v.category).sum ≤ 8) (hm : M2.2.2.1 ≤ 21) (hdd : d2 < d)
    (kk : ∀ I', P I' → mv_E l D b0 M (mv_rm d) Q (pc + 3) loc stk 0 0 n sh I' R) : mv_E l D b0 M (mv_rm d) Q pc loc st0 0 0 n sh I R := by
  refine mv_callS hd hL hC hk hst hcat (mv_room hdd hm) ⟨Nat.le_refl _, Nat.le_refl _⟩ ?_
  intro v n' sh' I' R' h'
  obtain ⟨h1, h2, h3, h4, h5⟩ := h'
  subst h1 h2 h3 h4
  exact kk _ h5
theorem mv_cSi {P : Int32 → mv_I → Prop} (hd : decode M.2.1 pc = .ok (.invokestatic idx, 3)) (hL : mv_LkS M.1.cls idx M2 k) (hC : mv_C l D b0 M2 (mv_rm d2) As n sh I R (mv_Pi n sh R P)) (hk : As.length = k) (hst : st0 = As.reverse ++ stk) (hcat : (stk.map fun v => v.category).sum ≤ 8) (hm : M2.2.2.1 ≤ 21) (hdd : d2 < d)
    (kk : ∀ x I', P x I' → mv_E l D b0 M (mv_rm d) Q (pc + 3) loc (.int x :: stk) 0 0 n sh I' R) : mv_E l D b0 M (mv_rm d) Q pc loc st0 0 0 n sh I R := by
  refine mv_callS hd hL hC hk hst hcat (mv_room hdd hm) ⟨Nat.le_refl _, Nat.le_refl _⟩ ?_
  intro v n' sh' I' R' h'
  obtain ⟨x, h1, h2, h3, h4, h5⟩ := h'
  subst h1 h2 h3 h4
  exact kk _ _ h5
end MR
section MS
variable {l : Launch} {D : va_G} {b0 : Nat} {M : mv_M} {rm : Room} {Q : mv_Q} {pc : Nat} {loc stk : List Value} {ac sl n : Nat} {sh : mv_Sh} {I : mv_I} {R : mv_R}
theorem mv_top {x y : Int32} (h : x = y) (kk : mv_E l D b0 M rm Q pc loc (.int y :: stk) ac sl n sh I R) : mv_E l D b0 M rm Q pc loc (.int x :: stk) ac sl n sh I R := h ▸ kk
theorem mv_getIx {ci k a idx : Nat} {x : Int32} (hd : decode M.2.1 pc = .ok (.getfield idx, 3)) (hF : mv_FL M.1.cls idx ci k) (hi : mv_ty ci k = .int) (ha : (sh a).1 = ci) (hx : I a k = x) (kk : mv_E l D b0 M rm Q (pc + 3) loc (.int x :: stk) ac sl n sh I R) : mv_E l D b0 M rm Q pc loc (.ref a :: stk) ac sl n sh I R := mv_getI hd hF hi ha (by rw [hx]; exact kk)
theorem mv_ialdx {a k len : Nat} {i x : Int32} (hd : decode M.2.1 pc = .ok (.iaload, 1)) (ha : sh a = (7, len)) (hi : i = nI k) (hk : k < len) (hx : I a k = x) (kk : mv_E l D b0 M rm Q (pc + 1) loc (.int x :: stk) ac sl n sh I R) (hl : len < 2 ^ 31 := by decide) : mv_E l D b0 M rm Q pc loc (.int i :: .ref a :: stk) ac sl n sh I R := mv_iald hd ha hi hk (by rw [hx]; exact kk) hl
theorem mv_zaldx {a k len : Nat} {i x : Int32} (hd : decode M.2.1 pc = .ok (.baload, 1)) (ha : sh a = (8, len)) (hi : i = nI k) (hk : k < len) (hx : I a k = x) (kk : mv_E l D b0 M rm Q (pc + 1) loc (.int x :: stk) ac sl n sh I R) (hl : len < 2 ^ 31 := by decide) : mv_E l D b0 M rm Q pc loc (.int i :: .ref a :: stk) ac sl n sh I R := mv_zald hd ha hi hk (by rw [hx]; exact kk) hl
end MS
def ly_Run (sh : mv_Sh) (R : mv_R) (p : Nat) : Prop := sh p = (3, 17) ∧ (R p 2 = some (p + 1) ∧ sh (p + 1) = (7, 8)) ∧ (R p 3 = some (p + 2) ∧ sh (p + 2) = (7, 8)) ∧ (R p 4 = some (p + 3) ∧ sh (p + 3) = (7, 8)) ∧ (R p 5 = some (p + 4) ∧ sh (p + 4) = (7, 8)) ∧ (R p 6 = some (p + 5) ∧ sh (p + 5) = (7, 8)) ∧ (R p 7 = some (p + 6) ∧ sh (p + 6) = (7, 8)) ∧ (R p 8 = some (p + 7) ∧ sh (p + 7) = (7, 8)) ∧ (R p 9 = some (p + 8) ∧ sh (p + 8) = (7, 8)) ∧ (R p 10 = some (p + 9) ∧ sh (p + 9) = (7, 8)) ∧ (R p 11 = some (p + 10) ∧ sh (p + 10) = (7, 8)) ∧ (R p 12 = some (p + 11) ∧ sh (p + 11) = (7, 64)) ∧ (R p 14 = some (p + 12) ∧ sh (p + 12) = (7, 60)) ∧ (R p 15 = some (p + 13) ∧ sh (p + 13) = (7, 60)) ∧ (R p 16 = some (p + 14) ∧ sh (p + 14) = (7, 60))
theorem ly_Run.o {sh : mv_Sh} {R : mv_R} {p : Nat} (h : ly_Run sh R p) : sh p = (3, 17) := h.1
theorem ly_Run.f2 {sh : mv_Sh} {R : mv_R} {p : Nat} (h : ly_Run sh R p) : R p 2 = some (p + 1) := h.2.1.1
theorem ly_Run.g2 {sh : mv_Sh} {R : mv_R} {p : Nat} (h : ly_Run sh R p) : sh (p + 1) = (7, 8) := h.2.1.2
theorem ly_Run.f3 {sh : mv_Sh} {R : mv_R} {p : Nat} (h : ly_Run sh R p) : R p 3 = some (p + 2) := h.2.2.1.1
theorem ly_Run.g3 {sh : mv_Sh} {R : mv_R} {p : Nat} (h : ly_Run sh R p) : sh (p + 2) = (7, 8) := h.2.2.1.2
theorem ly_Run.f4 {sh : mv_Sh} {R : mv_R} {p : Nat} (h : ly_Run sh R p) : R p 4 = some (p + 3) := h.2.2.2.1.1
theorem ly_Run.g4 {sh : mv_Sh} {R : mv_R} {p : Nat} (h : ly_Run sh R p) : sh (p + 3) = (7, 8) := h.2.2.2.1.2
theorem ly_Run.f5 {sh : mv_Sh} {R : mv_R} {p : Nat} (h : ly_Run sh R p) : R p 5 = some (p + 4) := h.2.2.2.2.1.1
theorem ly_Run.g5 {sh : mv_Sh} {R : mv_R} {p : Nat} (h : ly_Run sh R p) : sh (p + 4) = (7, 8) := h.2.2.2.2.1.2
theorem ly_Run.f6 {sh : mv_Sh} {R : mv_R} {p : Nat} (h : ly_Run sh R p) : R p 6 = some (p + 5) := h.2.2.2.2.2.1.1
theorem ly_Run.g6 {sh : mv_Sh} {R : mv_R} {p : Nat} (h : ly_Run sh R p) : sh (p + 5) = (7, 8) := h.2.2.2.2.2.1.2
theorem ly_Run.f7 {sh : mv_Sh} {R : mv_R} {p : Nat} (h : ly_Run sh R p) : R p 7 = some (p + 6) := h.2.2.2.2.2.2.1.1
theorem ly_Run.g7 {sh : mv_Sh} {R : mv_R} {p : Nat} (h : ly_Run sh R p) : sh (p + 6) = (7, 8) := h.2.2.2.2.2.2.1.2
theorem ly_Run.f8 {sh : mv_Sh} {R : mv_R} {p : Nat} (h : ly_Run sh R p) : R p 8 = some (p + 7) := h.2.2.2.2.2.2.2.1.1
theorem ly_Run.g8 {sh : mv_Sh} {R : mv_R} {p : Nat} (h : ly_Run sh R p) : sh (p + 7) = (7, 8) := h.2.2.2.2.2.2.2.1.2
theorem ly_Run.f9 {sh : mv_Sh} {R : mv_R} {p : Nat} (h : ly_Run sh R p) : R p 9 = some (p + 8) := h.2.2.2.2.2.2.2.2.1.1
theorem ly_Run.g9 {sh : mv_Sh} {R : mv_R} {p : Nat} (h : ly_Run sh R p) : sh (p + 8) = (7, 8) := h.2.2.2.2.2.2.2.2.1.2
theorem ly_Run.f10 {sh : mv_Sh} {R : mv_R} {p : Nat} (h : ly_Run sh R p) : R p 10 = some (p + 9) := h.2.2.2.2.2.2.2.2.2.1.1
theorem ly_Run.g10 {sh : mv_Sh} {R : mv_R} {p : Nat} (h : ly_Run sh R p) : sh (p + 9) = (7, 8) := h.2.2.2.2.2.2.2.2.2.1.2
theorem ly_Run.f11 {sh : mv_Sh} {R : mv_R} {p : Nat} (h : ly_Run sh R p) : R p 11 = some (p + 10) := h.2.2.2.2.2.2.2.2.2.2.1.1
theorem ly_Run.g11 {sh : mv_Sh} {R : mv_R} {p : Nat} (h : ly_Run sh R p) : sh (p + 10) = (7, 8) := h.2.2.2.2.2.2.2.2.2.2.1.2
theorem ly_Run.f12 {sh : mv_Sh} {R : mv_R} {p : Nat} (h : ly_Run sh R p) : R p 12 = some (p + 11) := h.2.2.2.2.2.2.2.2.2.2.2.1.1
theorem ly_Run.g12 {sh : mv_Sh} {R : mv_R} {p : Nat} (h : ly_Run sh R p) : sh (p + 11) = (7, 64) := h.2.2.2.2.2.2.2.2.2.2.2.1.2
theorem ly_Run.f14 {sh : mv_Sh} {R : mv_R} {p : Nat} (h : ly_Run sh R p) : R p 14 = some (p + 12) := h.2.2.2.2.2.2.2.2.2.2.2.2.1.1
theorem ly_Run.g14 {sh : mv_Sh} {R : mv_R} {p : Nat} (h : ly_Run sh R p) : sh (p + 12) = (7, 60) := h.2.2.2.2.2.2.2.2.2.2.2.2.1.2
theorem ly_Run.f15 {sh : mv_Sh} {R : mv_R} {p : Nat} (h : ly_Run sh R p) : R p 15 = some (p + 13) := h.2.2.2.2.2.2.2.2.2.2.2.2.2.1.1
theorem ly_Run.g15 {sh : mv_Sh} {R : mv_R} {p : Nat} (h : ly_Run sh R p) : sh (p + 13) = (7, 60) := h.2.2.2.2.2.2.2.2.2.2.2.2.2.1.2
theorem ly_Run.f16 {sh : mv_Sh} {R : mv_R} {p : Nat} (h : ly_Run sh R p) : R p 16 = some (p + 14) := h.2.2.2.2.2.2.2.2.2.2.2.2.2.2.1
theorem ly_Run.g16 {sh : mv_Sh} {R : mv_R} {p : Nat} (h : ly_Run sh R p) : sh (p + 14) = (7, 60) := h.2.2.2.2.2.2.2.2.2.2.2.2.2.2.2
def ly_Plan (sh : mv_Sh) (R : mv_R) (p : Nat) : Prop := sh p = (1, 9) ∧ (R p 1 = some (p + 1) ∧ sh (p + 1) = (7, 8)) ∧ (R p 2 = some (p + 2) ∧ sh (p + 2) = (7, 8)) ∧ (R p 3 = some (p + 3) ∧ sh (p + 3) = (7, 48)) ∧ (R p 4 = some (p + 4) ∧ sh (p + 4) = (7, 48)) ∧ (R p 5 = some (p + 5) ∧ sh (p + 5) = (7, 8)) ∧ (R p 6 = some (p + 6) ∧ sh (p + 6) = (7, 8)) ∧ (R p 7 = some (p + 7) ∧ sh (p + 7) = (7, 8)) ∧ (R p 8 = some (p + 8) ∧ sh (p + 8) = (7, 8))
theorem ly_Plan.o {sh : mv_Sh} {R : mv_R} {p : Nat} (h : ly_Plan sh R p) : sh p = (1, 9) := h.1
theorem ly_Plan.f1 {sh : mv_Sh} {R : mv_R} {p : Nat} (h : ly_Plan sh R p) : R p 1 = some (p + 1) := h.2.1.1
theorem ly_Plan.g1 {sh : mv_Sh} {R : mv_R} {p : Nat} (h : ly_Plan sh R p) : sh (p + 1) = (7, 8) := h.2.1.2
theorem ly_Plan.f2 {sh : mv_Sh} {R : mv_R} {p : Nat} (h : ly_Plan sh R p) : R p 2 = some (p + 2) := h.2.2.1.1
theorem ly_Plan.g2 {sh : mv_Sh} {R : mv_R} {p : Nat} (h : ly_Plan sh R p) : sh (p + 2) = (7, 8) := h.2.2.1.2
theorem ly_Plan.f3 {sh : mv_Sh} {R : mv_R} {p : Nat} (h : ly_Plan sh R p) : R p 3 = some (p + 3) := h.2.2.2.1.1
theorem ly_Plan.g3 {sh : mv_Sh} {R : mv_R} {p : Nat} (h : ly_Plan sh R p) : sh (p + 3) = (7, 48) := h.2.2.2.1.2
theorem ly_Plan.f4 {sh : mv_Sh} {R : mv_R} {p : Nat} (h : ly_Plan sh R p) : R p 4 = some (p + 4) := h.2.2.2.2.1.1
theorem ly_Plan.g4 {sh : mv_Sh} {R : mv_R} {p : Nat} (h : ly_Plan sh R p) : sh (p + 4) = (7, 48) := h.2.2.2.2.1.2
theorem ly_Plan.f5 {sh : mv_Sh} {R : mv_R} {p : Nat} (h : ly_Plan sh R p) : R p 5 = some (p + 5) := h.2.2.2.2.2.1.1
theorem ly_Plan.g5 {sh : mv_Sh} {R : mv_R} {p : Nat} (h : ly_Plan sh R p) : sh (p + 5) = (7, 8) := h.2.2.2.2.2.1.2
theorem ly_Plan.f6 {sh : mv_Sh} {R : mv_R} {p : Nat} (h : ly_Plan sh R p) : R p 6 = some (p + 6) := h.2.2.2.2.2.2.1.1
theorem ly_Plan.g6 {sh : mv_Sh} {R : mv_R} {p : Nat} (h : ly_Plan sh R p) : sh (p + 6) = (7, 8) := h.2.2.2.2.2.2.1.2
theorem ly_Plan.f7 {sh : mv_Sh} {R : mv_R} {p : Nat} (h : ly_Plan sh R p) : R p 7 = some (p + 7) := h.2.2.2.2.2.2.2.1.1
theorem ly_Plan.g7 {sh : mv_Sh} {R : mv_R} {p : Nat} (h : ly_Plan sh R p) : sh (p + 7) = (7, 8) := h.2.2.2.2.2.2.2.1.2
theorem ly_Plan.f8 {sh : mv_Sh} {R : mv_R} {p : Nat} (h : ly_Plan sh R p) : R p 8 = some (p + 8) := h.2.2.2.2.2.2.2.2.1
theorem ly_Plan.g8 {sh : mv_Sh} {R : mv_R} {p : Nat} (h : ly_Plan sh R p) : sh (p + 8) = (7, 8) := h.2.2.2.2.2.2.2.2.2
def ly_Tok (sh : mv_Sh) (R : mv_R) (p : Nat) : Prop := sh p = (4, 6) ∧ (R p 0 = some (p + 1) ∧ sh (p + 1) = (7, 120))
theorem ly_Tok.o {sh : mv_Sh} {R : mv_R} {p : Nat} (h : ly_Tok sh R p) : sh p = (4, 6) := h.1
theorem ly_Tok.f0 {sh : mv_Sh} {R : mv_R} {p : Nat} (h : ly_Tok sh R p) : R p 0 = some (p + 1) := h.2.1
theorem ly_Tok.g0 {sh : mv_Sh} {R : mv_R} {p : Nat} (h : ly_Tok sh R p) : sh (p + 1) = (7, 120) := h.2.2
def ly_Mod (sh : mv_Sh) (R : mv_R) (p : Nat) : Prop := sh p = (6, 34) ∧ (R p 1 = some (p + 1) ∧ sh (p + 1) = (7, 120)) ∧ (R p 9 = some (p + 2) ∧ sh (p + 2) = (7, 8)) ∧ (R p 10 = some (p + 3) ∧ sh (p + 3) = (7, 8)) ∧ (R p 11 = some (p + 4) ∧ sh (p + 4) = (7, 96)) ∧ (R p 12 = some (p + 5) ∧ sh (p + 5) = (7, 8)) ∧ (R p 13 = some (p + 6) ∧ sh (p + 6) = (7, 8)) ∧ (R p 14 = some (p + 7) ∧ sh (p + 7) = (7, 8)) ∧ (R p 17 = some (p + 8) ∧ sh (p + 8) = (7, 8)) ∧ (R p 18 = some (p + 9) ∧ sh (p + 9) = (7, 8)) ∧ (R p 19 = some (p + 10) ∧ sh (p + 10) = (7, 96)) ∧ (R p 20 = some (p + 11) ∧ sh (p + 11) = (7, 8)) ∧ (R p 21 = some (p + 12) ∧ sh (p + 12) = (7, 8)) ∧ (R p 22 = some (p + 13) ∧ sh (p + 13) = (7, 8)) ∧ (R p 23 = some (p + 14) ∧ sh (p + 14) = (7, 326)) ∧ (R p 24 = some (p + 15) ∧ sh (p + 15) = (7, 326)) ∧ (R p 27 = some (p + 16) ∧ sh (p + 16) = (7, 3912)) ∧ (R p 29 = some (p + 17) ∧ sh (p + 17) = (7, 6)) ∧ (R p 30 = some (p + 18) ∧ sh (p + 18) = (7, 6)) ∧ (R p 31 = some (p + 19) ∧ sh (p + 19) = (7, 6)) ∧ (R p 32 = some (p + 20) ∧ sh (p + 20) = (8, 2)) ∧ (R p 33 = some (p + 21) ∧ sh (p + 21) = (7, 652))
theorem ly_Mod.o {sh : mv_Sh} {R : mv_R} {p : Nat} (h : ly_Mod sh R p) : sh p = (6, 34) := h.1
theorem ly_Mod.f1 {sh : mv_Sh} {R : mv_R} {p : Nat} (h : ly_Mod sh R p) : R p 1 = some (p + 1) := h.2.1.1
theorem ly_Mod.g1 {sh : mv_Sh} {R : mv_R} {p : Nat} (h : ly_Mod sh R p) : sh (p + 1) = (7, 120) := h.2.1.2
theorem ly_Mod.f9 {sh : mv_Sh} {R : mv_R} {p : Nat} (h : ly_Mod sh R p) : R p 9 = some (p + 2) := h.2.2.1.1
theorem ly_Mod.g9 {sh : mv_Sh} {R : mv_R} {p : Nat} (h : ly_Mod sh R p) : sh (p + 2) = (7, 8) := h.2.2.1.2
theorem ly_Mod.f10 {sh : mv_Sh} {R : mv_R} {p : Nat} (h : ly_Mod sh R p) : R p 10 = some (p + 3) := h.2.2.2.1.1
theorem ly_Mod.g10 {sh : mv_Sh} {R : mv_R} {p : Nat} (h : ly_Mod sh R p) : sh (p + 3) = (7, 8) := h.2.2.2.1.2
theorem ly_Mod.f11 {sh : mv_Sh} {R : mv_R} {p : Nat} (h : ly_Mod sh R p) : R p 11 = some (p + 4) := h.2.2.2.2.1.1
theorem ly_Mod.g11 {sh : mv_Sh} {R : mv_R} {p : Nat} (h : ly_Mod sh R p) : sh (p + 4) = (7, 96) := h.2.2.2.2.1.2
theorem ly_Mod.f12 {sh : mv_Sh} {R : mv_R} {p : Nat} (h : ly_Mod sh R p) : R p 12 = some (p + 5) := h.2.2.2.2.2.1.1
theorem ly_Mod.g12 {sh : mv_Sh} {R : mv_R} {p : Nat} (h : ly_Mod sh R p) : sh (p + 5) = (7, 8) := h.2.2.2.2.2.1.2
theorem ly_Mod.f13 {sh : mv_Sh} {R : mv_R} {p : Nat} (h : ly_Mod sh R p) : R p 13 = some (p + 6) := h.2.2.2.2.2.2.1.1
theorem ly_Mod.g13 {sh : mv_Sh} {R : mv_R} {p : Nat} (h : ly_Mod sh R p) : sh (p + 6) = (7, 8) := h.2.2.2.2.2.2.1.2
theorem ly_Mod.f14 {sh : mv_Sh} {R : mv_R} {p : Nat} (h : ly_Mod sh R p) : R p 14 = some (p + 7) := h.2.2.2.2.2.2.2.1.1
theorem ly_Mod.g14 {sh : mv_Sh} {R : mv_R} {p : Nat} (h : ly_Mod sh R p) : sh (p + 7) = (7, 8) := h.2.2.2.2.2.2.2.1.2
theorem ly_Mod.f17 {sh : mv_Sh} {R : mv_R} {p : Nat} (h : ly_Mod sh R p) : R p 17 = some (p + 8) := h.2.2.2.2.2.2.2.2.1.1
theorem ly_Mod.g17 {sh : mv_Sh} {R : mv_R} {p : Nat} (h : ly_Mod sh R p) : sh (p + 8) = (7, 8) := h.2.2.2.2.2.2.2.2.1.2
theorem ly_Mod.f18 {sh : mv_Sh} {R : mv_R} {p : Nat} (h : ly_Mod sh R p) : R p 18 = some (p + 9) := h.2.2.2.2.2.2.2.2.2.1.1
theorem ly_Mod.g18 {sh : mv_Sh} {R : mv_R} {p : Nat} (h : ly_Mod sh R p) : sh (p + 9) = (7, 8) := h.2.2.2.2.2.2.2.2.2.1.2
theorem ly_Mod.f19 {sh : mv_Sh} {R : mv_R} {p : Nat} (h : ly_Mod sh R p) : R p 19 = some (p + 10) := h.2.2.2.2.2.2.2.2.2.2.1.1
theorem ly_Mod.g19 {sh : mv_Sh} {R : mv_R} {p : Nat} (h : ly_Mod sh R p) : sh (p + 10) = (7, 96) := h.2.2.2.2.2.2.2.2.2.2.1.2
theorem ly_Mod.f20 {sh : mv_Sh} {R : mv_R} {p : Nat} (h : ly_Mod sh R p) : R p 20 = some (p + 11) := h.2.2.2.2.2.2.2.2.2.2.2.1.1
theorem ly_Mod.g20 {sh : mv_Sh} {R : mv_R} {p : Nat} (h : ly_Mod sh R p) : sh (p + 11) = (7, 8) := h.2.2.2.2.2.2.2.2.2.2.2.1.2
theorem ly_Mod.f21 {sh : mv_Sh} {R : mv_R} {p : Nat} (h : ly_Mod sh R p) : R p 21 = some (p + 12) := h.2.2.2.2.2.2.2.2.2.2.2.2.1.1
theorem ly_Mod.g21 {sh : mv_Sh} {R : mv_R} {p : Nat} (h : ly_Mod sh R p) : sh (p + 12) = (7, 8) := h.2.2.2.2.2.2.2.2.2.2.2.2.1.2
theorem ly_Mod.f22 {sh : mv_Sh} {R : mv_R} {p : Nat} (h : ly_Mod sh R p) : R p 22 = some (p + 13) := h.2.2.2.2.2.2.2.2.2.2.2.2.2.1.1
theorem ly_Mod.g22 {sh : mv_Sh} {R : mv_R} {p : Nat} (h : ly_Mod sh R p) : sh (p + 13) = (7, 8) := h.2.2.2.2.2.2.2.2.2.2.2.2.2.1.2
theorem ly_Mod.f23 {sh : mv_Sh} {R : mv_R} {p : Nat} (h : ly_Mod sh R p) : R p 23 = some (p + 14) := h.2.2.2.2.2.2.2.2.2.2.2.2.2.2.1.1
theorem ly_Mod.g23 {sh : mv_Sh} {R : mv_R} {p : Nat} (h : ly_Mod sh R p) : sh (p + 14) = (7, 326) := h.2.2.2.2.2.2.2.2.2.2.2.2.2.2.1.2
theorem ly_Mod.f24 {sh : mv_Sh} {R : mv_R} {p : Nat} (h : ly_Mod sh R p) : R p 24 = some (p + 15) := h.2.2.2.2.2.2.2.2.2.2.2.2.2.2.2.1.1
theorem ly_Mod.g24 {sh : mv_Sh} {R : mv_R} {p : Nat} (h : ly_Mod sh R p) : sh (p + 15) = (7, 326) := h.2.2.2.2.2.2.2.2.2.2.2.2.2.2.2.1.2
theorem ly_Mod.f27 {sh : mv_Sh} {R : mv_R} {p : Nat} (h : ly_Mod sh R p) : R p 27 = some (p + 16) := h.2.2.2.2.2.2.2.2.2.2.2.2.2.2.2.2.1.1
theorem ly_Mod.g27 {sh : mv_Sh} {R : mv_R} {p : Nat} (h : ly_Mod sh R p) : sh (p + 16) = (7, 3912) := h.2.2.2.2.2.2.2.2.2.2.2.2.2.2.2.2.1.2
theorem ly_Mod.f29 {sh : mv_Sh} {R : mv_R} {p : Nat} (h : ly_Mod sh R p) : R p 29 = some (p + 17) := h.2.2.2.2.2.2.2.2.2.2.2.2.2.2.2.2.2.1.1
theorem ly_Mod.g29 {sh : mv_Sh} {R : mv_R} {p : Nat} (h : ly_Mod sh R p) : sh (p + 17) = (7, 6) := h.2.2.2.2.2.2.2.2.2.2.2.2.2.2.2.2.2.1.2
theorem ly_Mod.f30 {sh : mv_Sh} {R : mv_R} {p : Nat} (h : ly_Mod sh R p) : R p 30 = some (p + 18) := h.2.2.2.2.2.2.2.2.2.2.2.2.2.2.2.2.2.2.1.1
theorem ly_Mod.g30 {sh : mv_Sh} {R : mv_R} {p : Nat} (h : ly_Mod sh R p) : sh (p + 18) = (7, 6) := h.2.2.2.2.2.2.2.2.2.2.2.2.2.2.2.2.2.2.1.2
theorem ly_Mod.f31 {sh : mv_Sh} {R : mv_R} {p : Nat} (h : ly_Mod sh R p) : R p 31 = some (p + 19) := h.2.2.2.2.2.2.2.2.2.2.2.2.2.2.2.2.2.2.2.1.1
theorem ly_Mod.g31 {sh : mv_Sh} {R : mv_R} {p : Nat} (h : ly_Mod sh R p) : sh (p + 19) = (7, 6) := h.2.2.2.2.2.2.2.2.2.2.2.2.2.2.2.2.2.2.2.1.2
theorem ly_Mod.f32 {sh : mv_Sh} {R : mv_R} {p : Nat} (h : ly_Mod sh R p) : R p 32 = some (p + 20) := h.2.2.2.2.2.2.2.2.2.2.2.2.2.2.2.2.2.2.2.2.1.1
theorem ly_Mod.g32 {sh : mv_Sh} {R : mv_R} {p : Nat} (h : ly_Mod sh R p) : sh (p + 20) = (8, 2) := h.2.2.2.2.2.2.2.2.2.2.2.2.2.2.2.2.2.2.2.2.1.2
theorem ly_Mod.f33 {sh : mv_Sh} {R : mv_R} {p : Nat} (h : ly_Mod sh R p) : R p 33 = some (p + 21) := h.2.2.2.2.2.2.2.2.2.2.2.2.2.2.2.2.2.2.2.2.2.1
theorem ly_Mod.g33 {sh : mv_Sh} {R : mv_R} {p : Nat} (h : ly_Mod sh R p) : sh (p + 21) = (7, 652) := h.2.2.2.2.2.2.2.2.2.2.2.2.2.2.2.2.2.2.2.2.2.2
