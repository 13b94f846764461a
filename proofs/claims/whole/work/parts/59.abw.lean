/-! what is held stays as it may be -/
theorem ab_W.type {c : Int32} {σ : ab_S} (h : ab_W σ) : ab_W (ab_type c σ).2 := by
  obtain ⟨w, L, nt, π, x, uh, us, kp, sn, se⟩ := σ
  obtain ⟨hw, h2, h3, h4, h5, h6, h7, h8⟩ := id h
  unfold ab_type
  dsimp only
  split
  · exact h
  · rename_i q
    split
    · exact h
    · rename_i q2
      refine ⟨⟨by have := hw.1; omega, fun j hj => ?_⟩, h2, h3, h4, h5, h6, h7, h8⟩
      by_cases e : j = L
      · obtain ⟨k, k1, k2⟩ := ab_in (N := 255) (v := c) (Classical.not_not.mp q) (by decide)
        exact ⟨k, k1, by show (if j = L then c else w j) = nI k; rw [if_pos e, k2]⟩
      · obtain ⟨k, k1, k2⟩ := hw.2 j (by omega)
        exact ⟨k, k1, by show (if j = L then c else w j) = nI k; rw [if_neg e, k2]⟩
theorem ab_W.clear {σ : ab_S} (h : ab_W σ) : ab_W (ab_clear σ).2 := by
  obtain ⟨w, L, nt, π, x, uh, us, kp, sn, se⟩ := σ
  obtain ⟨hw, h2, h3, h4, h5, h6, h7, h8⟩ := id h
  exact ⟨⟨Nat.zero_le 120, fun j hj => absurd hj (Nat.not_lt_zero j)⟩, h2, h3, h4, h5, h6, h7, h8⟩
theorem ab_W.tree {σ : ab_S} (h : ab_W σ) : ab_W (ab_tree σ).2 := by
  obtain ⟨w, L, nt, π, x, uh, us, kp, sn, se⟩ := σ
  have hWa := fun c2 n2 π2 => sp_W.all (w := w) (L := L) 121 0 0 0 sp_0 sp_W.z (Or.inl (fun k _ => rfl)) c2 n2 π2
  unfold ab_tree
  dsimp only
  generalize sp_all w L 121 0 0 0 sp_0 = res at hWa
  cases res with
  | inl s => exact h
  | inr q =>
    obtain ⟨c, n2, π2⟩ := q
    have hp := (hWa c n2 π2 rfl).2.1
    have hs := xs_W.st hp
    exact ⟨⟨Nat.zero_le 120, fun j hj => by omega⟩, hp, ⟨hs.1, 0, Nat.zero_le 999, hs.2⟩, Nat.zero_le 12, fun i hi => by omega, fun i y q => (by cases q), Nat.zero_le 6, fun i hi => by omega⟩
theorem ab_pu_W {nt uh : Nat} {π x : xs_X} {us : Nat → xs_X} (hx : ab_X nt π x) (h5 : ∀ i, i < uh → ab_X nt π (us i)) : ∀ i, i < (if uh < 12 then uh + 1 else 12) → uh ≤ 12 → ab_X nt π (ab_pu us x i) := by
  intro i hi hu
  show ab_X nt π (if i = 0 then x else us (i - 1))
  by_cases q : i = 0
  · rw [if_pos q]; exact hx
  · rw [if_neg q]
    refine h5 _ ?_
    by_cases q2 : uh < 12
    · rw [if_pos q2] at hi; omega
    · rw [if_neg q2] at hi; omega
theorem ab_ts_W {nt : Nat} {π : xs_X} (hp : pl_W nt π) : ∀ (f τ : Nat) (x : xs_X) (uh : Nat) (us : Nat → xs_X), xs_W nt π x → x 8 0 = nI τ → τ + f ≤ 999 → uh ≤ 12 → (∀ i, i < uh → ab_X nt π (us i)) → ab_X nt π (ab_ts nt π f (x, uh, us)).1 ∧ (ab_ts nt π f (x, uh, us)).2.1 ≤ 12 ∧ ∀ i, i < (ab_ts nt π f (x, uh, us)).2.1 → ab_X nt π ((ab_ts nt π f (x, uh, us)).2.2 i)
  | 0, τ, x, uh, us, hW, hτ, h9, hu, h5 => ⟨⟨hW, τ, by omega, hτ⟩, hu, h5⟩
  | f + 1, τ, x, uh, us, hW, hτ, h9, hu, h5 => by
    unfold ab_ts
    split
    · exact ⟨⟨hW, τ, by omega, hτ⟩, hu, h5⟩
    · have hWt := hW.tk hp hτ (by omega)
      exact ab_ts_W hp f (τ + 1) _ _ _ hWt.1 hWt.2 (by omega) (by split <;> omega) (fun i hi => ab_pu_W ⟨hW, τ, by omega, hτ⟩ h5 i hi hu)
theorem ab_W.ticks {v : Int32} {σ : ab_S} (h : ab_W σ) : ab_W (ab_ticks v σ).2 := by
  obtain ⟨w, L, nt, π, x, uh, us, kp, sn, se⟩ := σ
  obtain ⟨hw, h2, ⟨hX, τ, hτ9, hτ⟩, h4, h5, h6, h7, h8⟩ := id h
  unfold ab_ticks
  dsimp only
  split
  · exact h
  · rename_i q1
    split
    · exact h
    · split
      · exact h
      · rename_i q3
        have hv := Classical.not_not.mp q1
        obtain ⟨k, k12, rfl⟩ := ab_in (N := 12) (v := v) ⟨Int32.le_trans (by decide) hv.1, hv.2⟩ (by decide)
        rw [hτ, nI_add] at q3
        have hle : τ + k ≤ 999 := (nI_leI (a := τ + k) (b := 999) (by omega) (by decide)).mp (Int32.not_lt.mp q3)
        rw [nI_clamp (n := k) (by omega)]
        obtain ⟨a, b, c⟩ := ab_ts_W h2 k τ x uh us hX hτ hle h4 h5
        exact ⟨hw, h2, a, b, c, h6, h7, h8⟩
theorem ab_W.asks {v : Int32} {σ : ab_S} (h : ab_W σ) : ab_W (ab_asks v σ).2 := by
  obtain ⟨w, L, nt, π, x, uh, us, kp, sn, se⟩ := σ
  obtain ⟨hw, h2, ⟨hX, τ, hτ9, hτ⟩, h4, h5, h6, h7, h8⟩ := id h
  have hn := h2.2.1
  unfold ab_asks
  dsimp only
  split
  · exact h
  · rename_i q1
    split
    · exact h
    · obtain ⟨t, ht, rfl⟩ := ab_is_n (Classical.not_not.mp q1) hn
      rw [nI_clamp (n := t) (by omega)]
      exact ⟨hw, h2, ⟨hX.askd (by omega), τ, hτ9, by rw [mv_upN 8 (by omega)]; exact hτ⟩, (by split <;> omega), fun i hi => ab_pu_W ⟨hX, τ, hτ9, hτ⟩ h5 i hi h4, h6, h7, h8⟩
theorem ab_W.undo {σ : ab_S} (h : ab_W σ) : ab_W (ab_undo σ).2 := by
  obtain ⟨w, L, nt, π, x, uh, us, kp, sn, se⟩ := σ
  obtain ⟨hw, h2, h3, h4, h5, h6, h7, h8⟩ := id h
  unfold ab_undo
  dsimp only
  split
  · exact h
  · exact ⟨hw, h2, h5 0 (by omega), by show uh - 1 ≤ 12; omega, fun i hi => h5 (i + 1) (by omega), h6, h7, h8⟩
theorem ab_W.sees {v k e : Int32} {σ : ab_S} (h : ab_W σ) : ab_W (ab_sees v k e σ).2 := by
  obtain ⟨w, L, nt, π, x, uh, us, kp, sn, se⟩ := σ
  obtain ⟨hw, h2, h3, h4, h5, h6, h7, h8⟩ := id h
  have hn := h2.2.1
  unfold ab_sees
  dsimp only
  split
  · exact h
  · rename_i q
    split
    · exact h
    · have q1 : ab_is nt v := Classical.byContradiction fun a => q (Or.inl a)
      have q2 : 1 ≤ k ∧ k ≤ 60 := Classical.byContradiction fun a => q (Or.inr (Or.inl a))
      have q3 : 0 ≤ e ∧ e ≤ 1 := Classical.byContradiction fun a => q (Or.inr (Or.inr a))
      obtain ⟨t, ht, rfl⟩ := ab_is_n q1 hn
      obtain ⟨j, j1, rfl⟩ := ab_in (N := 60) (v := k) ⟨Int32.le_trans (by decide) q2.1, q2.2⟩ (by decide)
      obtain ⟨i, i1, rfl⟩ := ab_in (N := 1) q3 (by decide)
      have hj1 : 1 ≤ j := (nI_leI (a := 1) (b := j) (by decide) (by omega)).mp q2.1
      rw [nI_clamp (n := t) (by omega), nI_clamp (n := j) (by omega), nI_clamp (n := i) (by omega)]
      refine ⟨hw, h2, h3, h4, h5, h6, (by show sn + 1 ≤ 6; omega), fun u hu => ?_⟩
      show (if u = sn then (t, j, i) else se u).1 < nt ∧ 1 ≤ (if u = sn then (t, j, i) else se u).2.1 ∧ (if u = sn then (t, j, i) else se u).2.1 ≤ 60 ∧ (if u = sn then (t, j, i) else se u).2.2 ≤ 1
      by_cases e : u = sn
      · rw [if_pos e]; exact ⟨ht, hj1, j1, i1⟩
      · rw [if_neg e]; exact h8 u (by omega)
theorem ab_W.forget {σ : ab_S} (h : ab_W σ) : ab_W (ab_forget σ).2 := by
  obtain ⟨w, L, nt, π, x, uh, us, kp, sn, se⟩ := σ
  obtain ⟨hw, h2, h3, h4, h5, h6, h7, h8⟩ := id h
  exact ⟨hw, h2, h3, h4, h5, h6, Nat.zero_le 6, fun i hi => absurd hi (Nat.not_lt_zero i)⟩
theorem ab_W.keep {v : Int32} {σ : ab_S} (h : ab_W σ) : ab_W (ab_keep v σ).2 := by
  obtain ⟨w, L, nt, π, x, uh, us, kp, sn, se⟩ := σ
  obtain ⟨hw, h2, h3, h4, h5, h6, h7, h8⟩ := id h
  unfold ab_keep
  dsimp only
  split
  · exact h
  · refine ⟨hw, h2, h3, h4, h5, fun i y hy => ?_, h7, h8⟩
    have hy : (if i = v.toNatClampNeg then some x else kp i) = some y := hy
    split at hy
    · cases hy; exact h3
    · exact h6 i y hy
theorem ab_W.back {v : Int32} {σ : ab_S} (h : ab_W σ) : ab_W (ab_back v σ).2 := by
  obtain ⟨w, L, nt, π, x, uh, us, kp, sn, se⟩ := σ
  obtain ⟨hw, h2, h3, h4, h5, h6, h7, h8⟩ := id h
  unfold ab_back
  dsimp only
  split
  · exact h
  · split
    · exact h
    · rename_i y hy
      exact ⟨hw, h2, h6 _ y hy, Nat.zero_le 12, fun i hi => by omega, h6, h7, h8⟩
