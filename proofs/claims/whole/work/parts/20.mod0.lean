/-! the reference's row holds the tasks -/
theorem mv_jx (a b c : Nat) : nI a * nI b + nI c = nI (a * b + c) := by rw [nI_mul, nI_add]
def rm_R (I : mv_I) (a : Nat) (x : xs_X) : Prop := (∀ t, t < 8 → ∀ k, k < 18 → I a (18 * t + k) = x t k) ∧ (I a 144 = x 8 0 ∧ I a 145 = x 8 1) ∧ ∀ j, j < 60 → ∀ c, c < 3 → I a (146 + 3 * j + c) = x (9 + j) c
def rm_Fr (a : Nat) (I I' : mv_I) : Prop := ∀ b, b ≠ a → I' b = I b
theorem rm_Fr.rf {a : Nat} {I : mv_I} : rm_Fr a I I := fun _ _ => rfl
theorem rm_Fr.tr {a : Nat} {I I1 I2 : mv_I} (h : rm_Fr a I I1) (h2 : rm_Fr a I1 I2) : rm_Fr a I I2 := fun b hb => (h2 b hb).trans (h b hb)
theorem rm_Fr.up {a k : Nat} {I I1 : mv_I} {v : Int32} (h : rm_Fr a I I1) : rm_Fr a I (mv_up I1 a k v) := fun b hb => by
  rw [mv_upN b hb]
  exact h b hb
theorem rm_set {I : mv_I} {a t : Nat} {x : xs_X} {v : Int32} (k : Nat) (h : rm_R I a x) (ht : t < 8) (hk : k < 18) : rm_R (mv_up I a (18 * t + k) v) a (mv_up x t k v) := by
  obtain ⟨h1, ⟨h2, h3⟩, h4⟩ := h
  refine ⟨fun u hu j hj => ?_, ⟨?_, ?_⟩, fun j hj c hc => ?_⟩
  · by_cases q : u = t ∧ j = k
    · obtain ⟨rfl, rfl⟩ := q
      rw [mv_upe, mv_upe]
    · have : ¬ 18 * u + j = 18 * t + k := by omega
      simp only [mv_up, this, q, and_false, if_false]
      exact h1 u hu j hj
  · have : ¬ 144 = 18 * t + k := by omega
    have q : ¬ 8 = t := by omega
    simp only [mv_up, this, q, and_false, false_and, if_false]
    exact h2
  · have : ¬ 145 = 18 * t + k := by omega
    have q : ¬ 8 = t := by omega
    simp only [mv_up, this, q, and_false, false_and, if_false]
    exact h3
  · have : ¬ 146 + 3 * j + c = 18 * t + k := by omega
    have q : ¬ 9 + j = t := by omega
    simp only [mv_up, this, q, and_false, false_and, if_false]
    exact h4 j hj c hc
theorem rm_tick {I : mv_I} {a : Nat} {x : xs_X} {v : Int32} (h : rm_R I a x) : rm_R (mv_up I a 144 v) a (mv_up x 8 0 v) := by
  obtain ⟨h1, ⟨h2, h3⟩, h4⟩ := h
  refine ⟨fun u hu j hj => ?_, ⟨?_, ?_⟩, fun j hj c hc => ?_⟩
  · have : ¬ 18 * u + j = 144 := by omega
    have q : ¬ u = 8 := by omega
    simp only [mv_up, this, q, and_false, false_and, if_false]
    exact h1 u hu j hj
  · rw [mv_upe, mv_upe]
  · rw [show mv_up x 8 0 v 8 1 = x 8 1 by simp [mv_up], ← h3]; simp [mv_up]
  · have : ¬ 146 + 3 * j + c = 144 := by omega
    have q : ¬ 9 + j = 8 := by omega
    simp only [mv_up, this, q, and_false, false_and, if_false]
    exact h4 j hj c hc
theorem rm_tr {I : mv_I} {a t e : Nat} {x : xs_X} {w : Int32} (h : rm_R I a x) (he : x 8 1 = nI e) (he6 : e < 60) : rm_R (mv_up (mv_up (mv_up (mv_up I a (146 + 3 * e) (x 8 0)) a (146 + 3 * e + 1) (nI t)) a (146 + 3 * e + 2) w) a 145 (nI e + 1)) a (xs_tr x t w) := by
  have e0 : xs_tr x t w = mv_up (mv_up (mv_up (mv_up x (9 + e) 0 (x 8 0)) (9 + e) 1 (nI t)) (9 + e) 2 w) 8 1 (nI e + 1) := by
    unfold xs_tr
    rw [he, if_pos (show nI e < (60 : Int32) from nI_lt he6 (by decide)), nI_clamp (by omega)]
  rw [e0]
  obtain ⟨h1, ⟨h2, h3⟩, h4⟩ := h
  refine ⟨fun u hu j hj => ?_, ⟨?_, ?_⟩, fun j hj c hc => ?_⟩
  · have q0 : ¬ 18 * u + j = 146 + 3 * e := by omega
    have q1 : ¬ 18 * u + j = 146 + 3 * e + 1 := by omega
    have q2 : ¬ 18 * u + j = 146 + 3 * e + 2 := by omega
    have q3 : ¬ 18 * u + j = 145 := by omega
    have q4 : ¬ u = 9 + e := by omega
    have q5 : ¬ u = 8 := by omega
    simp only [mv_up, q0, q1, q2, q3, q4, q5, and_false, false_and, if_false]
    exact h1 u hu j hj
  · have q0 : ¬ 144 = 146 + 3 * e := by omega
    have q1 : ¬ 144 = 146 + 3 * e + 1 := by omega
    have q2 : ¬ 144 = 146 + 3 * e + 2 := by omega
    have q4 : ¬ 8 = 9 + e := by omega
    simp only [mv_up, q0, q1, q2, q4, and_false, false_and, if_false]
    simpa using h2
  · rw [mv_upe, mv_upe]
  · have q3 : ¬ 146 + 3 * j + c = 145 := by omega
    have q5 : ¬ 9 + j = 8 := by omega
    by_cases hje : j = e
    · subst hje
      have hc3 : c = 0 ∨ c = 1 ∨ c = 2 := by omega
      rcases hc3 with rfl | rfl | rfl
      · have : ¬ 146 + 3 * j = 145 := by omega
        simp [mv_up, q5, this]
      · have : ¬ 146 + 3 * j + 1 = 145 := by omega
        simp [mv_up, q5, this]
      · have : ¬ 146 + 3 * j + 2 = 145 := by omega
        simp [mv_up, q5, this]
    · have q0 : ¬ 146 + 3 * j + c = 146 + 3 * e := by omega
      have q1 : ¬ 146 + 3 * j + c = 146 + 3 * e + 1 := by omega
      have q2 : ¬ 146 + 3 * j + c = 146 + 3 * e + 2 := by omega
      have q4 : ¬ 9 + j = 9 + e := by omega
      simp only [mv_up, q0, q1, q2, q3, q4, q5, and_false, false_and, if_false]
      exact h4 j hj c hc
def pl_M (I : mv_I) (m n : Nat) (π : xs_X) : Prop := I m 15 = nI n ∧ ∀ t, t < n → I (m + 8) t = π t 0 ∧ I (m + 9) t = π t 1 ∧ I (m + 11) t = π t 2 ∧ I (m + 12) t = π t 3 ∧ I (m + 13) t = π t 4 ∧ (I m 16 >>> (nI t &&& 31)) &&& 1 = π t 5 ∧ ∀ j, j < (π t 1).toNatClampNeg → I (m + 10) (12 * t + 2 * j) = π t (6 + 2 * j) ∧ I (m + 10) (12 * t + 2 * j + 1) = π t (7 + 2 * j)
theorem pl_M.eq {I I' : mv_I} {m n : Nat} {π : xs_X} (h : pl_M I m n π) (e0 : I' m = I m) (e : ∀ b, m + 8 ≤ b → b < m + 14 → I' b = I b) : pl_M I' m n π := by
  refine ⟨by rw [e0]; exact h.1, fun t ht => ?_⟩
  rw [e0, e (m + 8) (by omega) (by omega), e (m + 9) (by omega) (by omega), e (m + 10) (by omega) (by omega), e (m + 11) (by omega) (by omega), e (m + 12) (by omega) (by omega), e (m + 13) (by omega) (by omega)]
  exact h.2 t ht
def rm_P (sh : mv_Sh) (R : mv_R) (I : mv_I) (m a nt : Nat) (π : xs_X) : Prop := ly_Mod sh R m ∧ sh a = (7, 326) ∧ (a = m + 14 ∨ a = m + 15) ∧ pl_M I m nt π ∧ pl_W nt π
theorem rm_P.fr {sh : mv_Sh} {R : mv_R} {I I' : mv_I} {m a nt : Nat} {π : xs_X} (h : rm_P sh R I m a nt π) (f : rm_Fr a I I') : rm_P sh R I' m a nt π := by
  obtain ⟨h1, h2, h3, h4, h5⟩ := h
  exact ⟨h1, h2, h3, h4.eq (f m (by omega)) (fun b b1 b2 => f b (by omega)), h5⟩
