/-! what both objects hold, as numbers: the text, the plan, the tasks, what can be undone, the images, what was seen -/
abbrev ab_S : Type := (Nat → Int32) × Nat × Nat × xs_X × xs_X × Nat × (Nat → xs_X) × (Nat → Option xs_X) × Nat × (Nat → Nat × Nat × Nat)
def ab_X (nt : Nat) (π x : xs_X) : Prop := xs_W nt π x ∧ ∃ τ, τ ≤ 999 ∧ x 8 0 = nI τ
def ab_W : ab_S → Prop
  | (w, L, nt, π, x, uh, us, kp, sn, se) => tx_W w L ∧ pl_W nt π ∧ ab_X nt π x ∧ uh ≤ 12 ∧ (∀ i, i < uh → ab_X nt π (us i)) ∧ (∀ i y, kp i = some y → ab_X nt π y) ∧ sn ≤ 6 ∧ ∀ i, i < sn → (se i).1 < nt ∧ 1 ≤ (se i).2.1 ∧ (se i).2.1 ≤ 60 ∧ (se i).2.2 ≤ 1
abbrev ab_is (nt : Nat) (v : Int32) : Prop := 0 ≤ v ∧ v < nI nt
theorem ab_is_n {nt : Nat} {v : Int32} (h : ab_is nt v) (hn : nt ≤ 8) : ∃ t, t < nt ∧ v = nI t := by
  obtain ⟨j, j1, j2⟩ := nI_of (Int32.not_lt.mpr h.1)
  refine ⟨j, ?_, j2⟩
  have := h.2
  rw [j2] at this
  exact (nI_ltI j1 (by omega)).mp this
theorem ab_is_of {nt t : Nat} (h : t < nt) (hn : nt ≤ 8) : ab_is nt (nI t) := ⟨nI_pos' (by omega), nI_lt h (by omega)⟩
/-- rows behind, the newest first -/
def ab_pu (us : Nat → xs_X) (x : xs_X) : Nat → xs_X := fun i => if i = 0 then x else us (i - 1)
def ab_ts (nt : Nat) (π : xs_X) : Nat → xs_X × Nat × (Nat → xs_X) → xs_X × Nat × (Nat → xs_X)
  | 0, s => s
  | f + 1, (x, uh, us) => if x 0 0 = 3 then (x, uh, us) else ab_ts nt π f (xs_tk nt π x, (if uh < 12 then uh + 1 else 12), ab_pu us x)
def ab_type (c : Int32) : ab_S → Int32 × ab_S
  | (w, L, nt, π, x, uh, us, kp, sn, se) => if ¬ (0 ≤ c ∧ c ≤ 255) then (-1, (w, L, nt, π, x, uh, us, kp, sn, se)) else if L = 120 then (-3, (w, L, nt, π, x, uh, us, kp, sn, se)) else (nI (L + 1), (fun j => if j = L then c else w j, L + 1, nt, π, x, uh, us, kp, sn, se))
def ab_clear : ab_S → Int32 × ab_S
  | (w, L, nt, π, x, uh, us, kp, sn, se) => (nI L, (w, 0, nt, π, x, uh, us, kp, sn, se))
def ab_tree : ab_S → Int32 × ab_S
  | (w, L, nt, π, x, uh, us, kp, sn, se) => match sp_all w L 121 0 0 0 sp_0 with
    | .inl s => (-10 - nI s, (w, L, nt, π, x, uh, us, kp, sn, se))
    | .inr (c, n2, π2) => (nI c, (w, 0, sp_n n2, π2, xs_st (π2 0 2), 0, us, fun _ => none, 0, se))
def ab_ticks (v : Int32) : ab_S → Int32 × ab_S
  | (w, L, nt, π, x, uh, us, kp, sn, se) => if ¬ (1 ≤ v ∧ v ≤ 12) then (-1, (w, L, nt, π, x, uh, us, kp, sn, se)) else if x 0 0 = 3 then (-2, (w, L, nt, π, x, uh, us, kp, sn, se)) else if 999 < x 8 0 + v then (-3, (w, L, nt, π, x, uh, us, kp, sn, se)) else
    ((ab_ts nt π v.toNatClampNeg (x, uh, us)).1 8 0, (w, L, nt, π, (ab_ts nt π v.toNatClampNeg (x, uh, us)).1, (ab_ts nt π v.toNatClampNeg (x, uh, us)).2.1, (ab_ts nt π v.toNatClampNeg (x, uh, us)).2.2, kp, sn, se))
def ab_asks (v : Int32) : ab_S → Int32 × ab_S
  | (w, L, nt, π, x, uh, us, kp, sn, se) => if ¬ ab_is nt v then (-1, (w, L, nt, π, x, uh, us, kp, sn, se)) else if ¬ x v.toNatClampNeg 0 = 1 ∨ x v.toNatClampNeg 5 = 1 then (-2, (w, L, nt, π, x, uh, us, kp, sn, se)) else (x v.toNatClampNeg 2, (w, L, nt, π, mv_up x v.toNatClampNeg 5 1, (if uh < 12 then uh + 1 else 12), ab_pu us x, kp, sn, se))
def ab_undo : ab_S → Int32 × ab_S
  | (w, L, nt, π, x, uh, us, kp, sn, se) => if uh = 0 then (-2, (w, L, nt, π, x, uh, us, kp, sn, se)) else (nI (uh - 1), (w, L, nt, π, us 0, uh - 1, fun i => us (i + 1), kp, sn, se))
def ab_task (v k : Int32) : ab_S → Int32
  | (_, _, nt, π, x, _) => if ¬ ab_is nt v then -1 else if k = 0 then π v.toNatClampNeg 0 else if k = 1 then x v.toNatClampNeg 0 else if k = 2 then x v.toNatClampNeg 1 else if k = 3 then x v.toNatClampNeg 2 else if k = 4 then (if x v.toNatClampNeg 4 = 0 ∨ x v.toNatClampNeg 4 = 9999 then -9 else x v.toNatClampNeg 4) else if k = 5 then x v.toNatClampNeg 5 else if k = 6 then x v.toNatClampNeg 9 else if k = 7 then xs_bs π x v.toNatClampNeg nt else -1
def ab_failure (v k : Int32) : ab_S → Int32
  | (_, _, nt, _, x, _) => if ¬ ab_is nt v ∨ k < 0 then -1 else if k < x v.toNatClampNeg 9 then x v.toNatClampNeg (10 + k.toNatClampNeg) else -9
def ab_trace (k c : Int32) : ab_S → Int32
  | (_, _, _, _, x, _) => if k < 0 ∨ ¬ (0 ≤ c ∧ c ≤ 2) then -1 else if k < x 8 1 then x (9 + k.toNatClampNeg) c.toNatClampNeg else -9
def ab_ends (v k : Int32) : ab_S → Int32
  | (_, _, nt, π, x, _) => if ¬ ab_is nt v ∨ ¬ (0 ≤ k ∧ k ≤ 1) then -1 else if xs_go nt π 0 200 x v.toNatClampNeg 0 = 3 then (if k = 0 then xs_go nt π 0 200 x v.toNatClampNeg 8 else xs_go nt π 0 200 x v.toNatClampNeg 1) else -9
/-- the plan with another deadline, from its beginning -/
def ab_su (nt : Nat) (π : xs_X) (t d k : Nat) : xs_X := xs_go nt (mv_up π t 2 (nI d)) 0 k (xs_st (mv_up π t 2 (nI d) 0 2))
def ab_wb (nt : Nat) (π : xs_X) : Nat → Nat → Int32
  | 0, _ => -9
  | f + 1, d => if ab_su nt π 0 d 200 0 0 = 3 ∧ ab_su nt π 0 d 200 0 1 = 0 then nI d else ab_wb nt π f (d + 1)
def ab_wellBy : ab_S → Int32
  | (_, _, nt, π, _) => ab_wb nt π 60 1
def ab_spares (v : Int32) : ab_S → Int32
  | (_, _, nt, π, x, _) => if ¬ ab_is nt v ∨ ¬ x v.toNatClampNeg 0 = 1 then -1000000 else if xs_go nt π 0 200 x 0 8 = -9 ∨ xs_go nt π 0 200 (mv_up x v.toNatClampNeg 5 1) 0 8 = -9 then -1000000 else xs_go nt π 0 200 x 0 8 - xs_go nt π 0 200 (mv_up x v.toNatClampNeg 5 1) 0 8
def ab_sees (v n e : Int32) : ab_S → Int32 × ab_S
  | (w, L, nt, π, x, uh, us, kp, sn, se) => if ¬ ab_is nt v ∨ ¬ (1 ≤ n ∧ n ≤ 60) ∨ ¬ (0 ≤ e ∧ e ≤ 1) then (-1, (w, L, nt, π, x, uh, us, kp, sn, se)) else if sn = 6 then (-3, (w, L, nt, π, x, uh, us, kp, sn, se)) else (nI (sn + 1), (w, L, nt, π, x, uh, us, kp, sn + 1, fun i => if i = sn then (v.toNatClampNeg, n.toNatClampNeg, e.toNatClampNeg) else se i))
def ab_forget : ab_S → Int32 × ab_S
  | (w, L, nt, π, x, uh, us, kp, sn, se) => (nI sn, (w, L, nt, π, x, uh, us, kp, 0, se))
/-- whether what was seen from the k-th on agrees with the tasks y -/
def ab_ok (y : xs_X) (e : Nat × Nat × Nat) : Bool := decide ((if ¬ y e.1 8 = -9 ∧ y e.1 8 ≤ nI e.2.1 then 1 else 0) = nI e.2.2)
def ab_ag (y : xs_X) (se : Nat → Nat × Nat × Nat) : Nat → Bool
  | 0 => true
  | k + 1 => ab_ag y se k && ab_ok y (se k)
def ab_ft (nt : Nat) (π : xs_X) (t sn : Nat) (se : Nat → Nat × Nat × Nat) : Nat → Nat → Int32 → Int32
  | 0, _, b => b
  | f + 1, d, b => ab_ft nt π t sn se f (d + 1) (if ab_ag (ab_su nt π t d 60) se sn = true then b ||| (1 <<< (nI d &&& 31)) else b)
def ab_fits (v : Int32) : ab_S → Int32
  | (_, _, nt, π, _, _, _, _, sn, se) => if ¬ ab_is nt v then -1 else ab_ft nt π v.toNatClampNeg sn se 30 1 0
def ab_keep (v : Int32) : ab_S → Int32 × ab_S
  | (w, L, nt, π, x, uh, us, kp, sn, se) => if ¬ (0 ≤ v ∧ v ≤ 1) then (-1, (w, L, nt, π, x, uh, us, kp, sn, se)) else (x 8 0, (w, L, nt, π, x, uh, us, fun i => if i = v.toNatClampNeg then some x else kp i, sn, se))
def ab_back (v : Int32) : ab_S → Int32 × ab_S
  | (w, L, nt, π, x, uh, us, kp, sn, se) => if ¬ (0 ≤ v ∧ v ≤ 1) then (-1, (w, L, nt, π, x, uh, us, kp, sn, se)) else match kp v.toNatClampNeg with
    | none => (-2, (w, L, nt, π, x, uh, us, kp, sn, se))
    | some y => (y 8 0, (w, L, nt, π, y, 0, us, kp, sn, se))
def ab_count (k : Int32) : ab_S → Int32
  | (_, L, nt, _, x, uh, _, _, sn, _) => if k = 0 then nI nt else if k = 1 then x 8 0 else if k = 2 then nI (xs_ct x 1 nt) else if k = 3 then nI (xs_ct x 2 nt) else if k = 4 then nI (xs_ct x 3 nt) else if k = 5 then x 8 1 else if k = 6 then nI sn else if k = 7 then nI L else if k = 8 then nI uh else -1
/-! the reference holds them -/
def gm_H (I : mv_I) (m uh : Nat) (us : Nat → xs_X) : Prop := I m 25 = nI uh ∧ ∃ ua, ua < 12 ∧ I m 26 = nI ua ∧ ∀ i, i < uh → rm_O I (m + 16) (326 * ((ua + 11 - i) % 12)) (us i)
def gm_K1 (I : mv_I) (m i : Nat) : Option xs_X → Prop
  | none => I (m + 20) i = 0
  | some y => I (m + 20) i = 1 ∧ rm_O I (m + 21) (326 * i) y
def gm_N (I : mv_I) (m sn : Nat) (se : Nat → Nat × Nat × Nat) : Prop := I m 28 = nI sn ∧ ∀ i, i < sn → I (m + 17) i = nI (se i).1 ∧ I (m + 18) i = nI (se i).2.1 ∧ I (m + 19) i = nI (se i).2.2
def gm_S (I : mv_I) (m : Nat) : ab_S → Prop
  | (w, L, nt, π, x, uh, us, kp, sn, se) => (I m 0 = nI L ∧ ∀ j, j < L → I (m + 1) j = w j) ∧ pl_M I m nt π ∧ rm_R I (m + 14) x ∧ gm_H I m uh us ∧ (∀ i, i < 2 → gm_K1 I m i (kp i)) ∧ gm_N I m sn se
def gm_F (m : Nat) (I I' : mv_I) : Prop := ∀ b, b < m → I' b = I b
theorem gm_H.eq {I I' : mv_I} {m uh : Nat} {us : Nat → xs_X} (h : gm_H I m uh us) (e1 : I' m 25 = I m 25) (e2 : I' m 26 = I m 26) (e3 : I' (m + 16) = I (m + 16)) : gm_H I' m uh us := by
  obtain ⟨h1, ua, h2, h3, h4⟩ := h
  exact ⟨by rw [e1]; exact h1, ua, h2, by rw [e2]; exact h3, fun i hi => (h4 i hi).eq (fun k _ => by rw [e3])⟩
theorem gm_K1.eq {I I' : mv_I} {m i : Nat} {y : Option xs_X} (h : gm_K1 I m i y) (e1 : I' (m + 20) = I (m + 20)) (e2 : I' (m + 21) = I (m + 21)) : gm_K1 I' m i y := by
  cases y with
  | none => show I' (m + 20) i = 0; rw [e1]; exact h
  | some y => exact ⟨by rw [e1]; exact h.1, h.2.eq (fun k _ => by rw [e2])⟩
theorem gm_N.eq {I I' : mv_I} {m sn : Nat} {se : Nat → Nat × Nat × Nat} (h : gm_N I m sn se) (e1 : I' m 28 = I m 28) (e2 : ∀ b, m + 17 ≤ b → b ≤ m + 19 → I' b = I b) : gm_N I' m sn se := by
  refine ⟨by rw [e1]; exact h.1, fun i hi => ?_⟩
  rw [e2 (m + 17) (by omega) (by omega), e2 (m + 18) (by omega) (by omega), e2 (m + 19) (by omega) (by omega)]
  exact h.2 i hi
theorem gm_S.eq {I I' : mv_I} {m : Nat} {σ : ab_S} (h : gm_S I m σ) (e1 : ∀ k, (k < 2 ∨ 8 < k) → I' m k = I m k) (e2 : ∀ b, b ≠ m → (b < m + 2 ∨ m + 8 ≤ b) → b ≠ m + 15 → I' b = I b) : gm_S I' m σ := by
  obtain ⟨w, L, nt, π, x, uh, us, kp, sn, se⟩ := σ
  obtain ⟨⟨h0, h1⟩, h2, h3, h4, h5, h6⟩ := h
  refine ⟨⟨by rw [e1 0 (by omega)]; exact h0, fun j hj => by rw [e2 (m + 1) (by omega) (by omega) (by omega)]; exact h1 j hj⟩, ?_, ?_, h4.eq (e1 25 (by omega)) (e1 26 (by omega)) (e2 _ (by omega) (by omega) (by omega)), fun i hi => (h5 i hi).eq (e2 _ (by omega) (by omega) (by omega)) (e2 _ (by omega) (by omega) (by omega)), h6.eq (e1 28 (by omega)) (fun b b1 b2 => e2 b (by omega) (by omega) (by omega))⟩
  · refine ⟨by rw [e1 15 (by omega)]; exact h2.1, fun t ht => ?_⟩
    rw [e1 16 (by omega), e2 (m + 8) (by omega) (by omega) (by omega), e2 (m + 9) (by omega) (by omega) (by omega), e2 (m + 10) (by omega) (by omega) (by omega), e2 (m + 11) (by omega) (by omega) (by omega), e2 (m + 12) (by omega) (by omega) (by omega), e2 (m + 13) (by omega) (by omega) (by omega)]
    exact h2.2 t ht
  · exact h3.cp (fun k _ => by rw [e2 (m + 14) (by omega) (by omega) (by omega)])

