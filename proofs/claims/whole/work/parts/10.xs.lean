/-! The tasks as numbers: x t k of task t (k as the reference lays a row: 0 how, 1 out, 2 behind, 3 worked, 4 due, 5 asked, 6 cleaned, 7 begun, 8 end, 9 many, 10 on codes); x 8 0 the tick, x 8 1 how long the trace is, x (9 + j) its lines -/
abbrev xs_X : Type := Nat → Nat → Int32
theorem mv_upe {α : Type} {I : Nat → Nat → α} {a k : Nat} {v : α} : mv_up I a k v a k = v := by simp [mv_up]
def xs_tr (x : xs_X) (t : Nat) (w : Int32) : xs_X :=
  if x 8 1 < 60 then mv_up (mv_up (mv_up (mv_up x (9 + (x 8 1).toNatClampNeg) 0 (x 8 0)) (9 + (x 8 1).toNatClampNeg) 1 (nI t)) (9 + (x 8 1).toNatClampNeg) 2 w) 8 1 (x 8 1 + 1) else x
def xs_cd (x : xs_X) (t : Nat) (c : Int32) : xs_X :=
  if x t 9 < 8 then mv_up (mv_up x t (10 + (x t 9).toNatClampNeg) c) t 9 (x t 9 + 1) else x
def xs_ask (n : Nat) (π x : xs_X) (t : Nat) : xs_X := fun u k => if k = 5 ∧ 1 ≤ u ∧ u < n ∧ π u 0 = nI t ∧ x u 0 = 1 then 1 else x u k
def xs_cl (n : Nat) (π x : xs_X) (t : Nat) (o : Int32) : xs_X :=
  xs_tr (if ¬ o = 0 ∨ 0 < x t 9 then xs_ask n π (mv_up (mv_up x t 0 2) t 1 (if o = 0 ∧ 0 < x t 9 then 1 else o)) t else mv_up (mv_up x t 0 2) t 1 (if o = 0 ∧ 0 < x t 9 then 1 else o)) t 1
def xs_due (π x : xs_X) (t u : Nat) : Int32 := if (if π t 2 = 99 then 9999 else x 8 0 + π t 2) < x u 4 then (if π t 2 = 99 then 9999 else x 8 0 + π t 2) else x u 4
def xs_bg (π x : xs_X) (t u : Nat) : xs_X := xs_tr (mv_up (mv_up (mv_up x t 0 1) t 4 (xs_due π x t u)) t 7 (x 8 0)) t 0
/-- the lowest child that is unbegun -/
def xs_fc (n : Nat) (π x : xs_X) (t : Nat) : Option Nat := (List.range n).find? fun u => decide (1 ≤ u ∧ π u 0 = nI t ∧ x u 0 = 0)
theorem xs_fc_some {n : Nat} {π x : xs_X} {t c : Nat} (hc : c < n) (h : 1 ≤ c ∧ π c 0 = nI t ∧ x c 0 = 0) (hl : ∀ u, u < c → ¬ (1 ≤ u ∧ π u 0 = nI t ∧ x u 0 = 0)) : xs_fc n π x t = some c := by
  unfold xs_fc
  rw [List.find?_range_eq_some]
  refine ⟨by simpa using h, by simpa using hc, fun j hj => ?_⟩
  have := hl j hj
  rw [Bool.not_eq_true', decide_eq_false_iff_not]
  exact this
theorem xs_fc_none {n : Nat} {π x : xs_X} {t : Nat} (hl : ∀ u, u < n → ¬ (1 ≤ u ∧ π u 0 = nI t ∧ x u 0 = 0)) : xs_fc n π x t = none := by
  unfold xs_fc
  rw [List.find?_eq_none]
  intro u hu
  have := hl u (List.mem_range.mp hu)
  rw [decide_eq_true_iff]
  exact this
/-- the set of busy children below c -/
def xs_bs (π x : xs_X) (t : Nat) : Nat → Int32
  | 0 => 0
  | c + 1 => if 1 ≤ c ∧ π c 0 = nI t ∧ (x c 0 = 1 ∨ x c 0 = 2) then xs_bs π x t c ||| (1 <<< (nI c &&& 31)) else xs_bs π x t c
def xs_bc (n : Nat) (π x : xs_X) (t : Nat) : xs_X := match xs_fc n π x t with
  | some c => xs_bg π x c t
  | none => x
def xs_busy (n : Nat) (π x : xs_X) (t : Nat) : Bool := (List.range n).any fun u => decide (1 ≤ u ∧ π u 0 = nI t ∧ (x u 0 = 1 ∨ x u 0 = 2))
theorem xs_busy_iff {n : Nat} {π x : xs_X} {t : Nat} : xs_busy n π x t = true ↔ ∃ u, u < n ∧ 1 ≤ u ∧ π u 0 = nI t ∧ (x u 0 = 1 ∨ x u 0 = 2) := by
  simp [xs_busy, List.any_eq_true]
def xs_beh (x : xs_X) (t : Nat) : xs_X := mv_up x t 2 (x t 2 + 1)
def xs_wk (n : Nat) (π x : xs_X) (t : Nat) : xs_X :=
  if π t (6 + 2 * (x t 2).toNatClampNeg) = 119 then
    (if x t 3 + 1 = π t (7 + 2 * (x t 2).toNatClampNeg) then xs_beh (mv_up x t 3 0) t else mv_up x t 3 (x t 3 + 1))
  else if π t (6 + 2 * (x t 2).toNatClampNeg) = 98 then xs_bc n π (xs_beh x t) t
  else if π t (6 + 2 * (x t 2).toNatClampNeg) = 106 then (if xs_busy n π x t = true then x else xs_beh x t)
  else if π t (6 + 2 * (x t 2).toNatClampNeg) = 120 then xs_ask n π (xs_beh x t) t
  else xs_cl n π (xs_cd x t (π t (7 + 2 * (x t 2).toNatClampNeg))) t 1
def xs_mo (n : Nat) (π x : xs_X) (t : Nat) : xs_X :=
  if x t 5 = 1 ∧ π t 3 ≤ x t 2 then xs_cl n π x t 2 else if x t 2 = π t 1 then xs_cl n π x t 0 else xs_wk n π x t
/-- k codes of t's list come to u's -/
def xs_gl (x : xs_X) (t u : Nat) : Nat → xs_X
  | 0 => x
  | k + 1 => xs_cd (xs_gl x t u k) u (x t (10 + k))
def xs_tf (n : Nat) (π x : xs_X) (u : Nat) : xs_X :=
  if x u 0 = 1 ∧ π u 5 = 0 then xs_cl n π x u 1 else if x u 0 = 2 ∧ x u 1 = 0 then xs_ask n π (mv_up x u 1 1) u else x
def xs_en (n : Nat) (π x : xs_X) (t : Nat) : xs_X :=
  if 0 < t ∧ (x t 1 = 1 ∨ x t 1 = 3) then xs_tf n π (xs_gl (xs_tr (mv_up (mv_up x t 0 3) t 8 (x 8 0)) t 2) t (π t 0).toNatClampNeg (x t 9).toNatClampNeg) (π t 0).toNatClampNeg
  else xs_tr (mv_up (mv_up x t 0 3) t 8 (x 8 0)) t 2
def xs_cc (π x : xs_X) (t : Nat) : xs_X := if x t 6 < π t 4 then mv_up x t 6 (x t 6 + 1) else x
def xs_cu (n : Nat) (π x : xs_X) (t : Nat) : xs_X := if (xs_cc π x t) t 6 = π t 4 then xs_en n π (xs_cc π x t) t else xs_cc π x t
def xs_p1 (n : Nat) (π x : xs_X) (t : Nat) : xs_X := if x t 0 = 1 ∧ x t 4 < x 8 0 then xs_cl n π (xs_cd x t 10) t 3 else x
def xs_p2 (n : Nat) (π x : xs_X) (t : Nat) : xs_X := if x t 0 = 1 ∧ (t = 0 ∨ x t 7 < x 8 0) then xs_mo n π x t else x
def xs_p3 (n : Nat) (π x : xs_X) (t : Nat) : xs_X := if x t 0 = 2 ∧ ¬ xs_busy n π x t = true then xs_cu n π x t else x
def xs_u (f : xs_X → Nat → xs_X) (x : xs_X) : Nat → xs_X
  | 0 => x
  | k + 1 => f (xs_u f x k) k
def xs_d (f : xs_X → Nat → xs_X) : Nat → xs_X → xs_X
  | 0, x => x
  | k + 1, x => xs_d f k (f x k)
def xs_tk (n : Nat) (π x : xs_X) : xs_X := xs_d (xs_p3 n π) n (xs_u (xs_p2 n π) (xs_u (xs_p1 n π) (mv_up x 8 0 (x 8 0 + 1)) n) n)
/-! what always holds of them -/
def xs_T (π r : Nat → Int32) : Prop :=
  (∃ h, h ≤ 3 ∧ r 0 = nI h ∧ (h = 0 ↔ r 4 = 0) ∧ (h = 3 ↔ r 8 ≠ -9)) ∧
  (∃ c, c ≤ 8 ∧ r 9 = nI c) ∧
  (∃ b s, b ≤ s ∧ s ≤ 6 ∧ π 1 = nI s ∧ r 2 = nI b ∧ (r 3 = 0 ∨ (b < s ∧ π (6 + 2 * b) = 119 ∧ ∃ w k, w < k ∧ k ≤ 9 ∧ r 3 = nI w ∧ π (7 + 2 * b) = nI k))) ∧
  (r 5 = 0 ∨ r 5 = 1) ∧
  (∃ c k, c ≤ k ∧ k ≤ 5 ∧ r 6 = nI c ∧ π 4 = nI k) ∧
  (r 4 = 9999 ∨ ∃ d, d < 9999 ∧ r 4 = nI d) ∧
  (r 8 = -9 ∨ ∃ e, e < 9999 ∧ r 8 = nI e) ∧
  (∃ b, b < 9999 ∧ r 7 = nI b)
def xs_W (n : Nat) (π x : xs_X) : Prop := (∃ τ, τ ≤ 2000 ∧ x 8 0 = nI τ) ∧ (∃ e, e ≤ 60 ∧ x 8 1 = nI e) ∧ x 0 7 = 0 ∧ ∀ t, t < n → xs_T (π t) (x t)
/-- a plan as it may be: π t: 0 parent, 1 size, 2 deadline, 3 shield, 4 clean-up, 5 gathers, 6 + 2 j an operation, 7 + 2 j its number -/
def pl_W (n : Nat) (π : xs_X) : Prop := 1 ≤ n ∧ n ≤ 8 ∧ π 0 0 = -9 ∧ ∀ t, t < n → (0 < t → ∃ u, u < t ∧ π t 0 = nI u) ∧ (∃ s, s ≤ 6 ∧ π t 1 = nI s ∧ ∀ j, j < s → ((π t (6 + 2 * j) = 119 ∨ π t (6 + 2 * j) = 102) ∧ ∃ k, 1 ≤ k ∧ k ≤ 9 ∧ π t (7 + 2 * j) = nI k) ∨ π t (6 + 2 * j) = 98 ∨ π t (6 + 2 * j) = 106 ∨ π t (6 + 2 * j) = 120) ∧
  (π t 2 = 99 ∨ ∃ d, 1 ≤ d ∧ d ≤ 60 ∧ π t 2 = nI d) ∧ (∃ k, k ≤ 6 ∧ π t 3 = nI k) ∧ (∃ k, k ≤ 5 ∧ π t 4 = nI k) ∧ (π t 5 = 0 ∨ π t 5 = 1)
def pl_C (I : mv_I) (q n : Nat) (π : xs_X) : Prop := I q 0 = nI n ∧ ∀ t, t < n → I (q + 1) t = π t 0 ∧ I (q + 2) t = π t 1 ∧ I (q + 5) t = π t 2 ∧ I (q + 6) t = π t 3 ∧ I (q + 7) t = π t 4 ∧ I (q + 8) t = π t 5 ∧ ∀ j, j < (π t 1).toNatClampNeg → I (q + 3) (6 * t + j) = π t (6 + 2 * j) ∧ I (q + 4) (6 * t + j) = π t (7 + 2 * j)
/-! the class's own Run holds them -/
def xs_off (k : Nat) : Nat := match k with
  | 0 => 1 | 1 => 2 | 2 => 6 | 3 => 7 | 5 => 9 | 6 => 8 | 7 => 3 | 9 => 10 | _ => 0
theorem xs_off_10 {k : Nat} (h : 10 ≤ k) : xs_off k = 0 := by
  unfold xs_off
  split <;> first | omega | rfl
theorem xs_off_inj {k j : Nat} (h : xs_off k ≠ 0) (e : xs_off j = xs_off k) : j = k := by
  have hk : k < 10 := Nat.not_le.mp fun q => h (xs_off_10 q)
  have hj : j < 10 := Nat.not_le.mp fun q => h (e.symm.trans (xs_off_10 q))
  exact (by decide : ∀ k, k < 10 → ∀ j, j < 10 → xs_off k ≠ 0 → xs_off j = xs_off k → j = k) k hk j hj h e
theorem xs_off_ne {k : Nat} : xs_off k ≠ 4 ∧ xs_off k ≠ 5 ∧ xs_off k ≤ 10 := by
  unfold xs_off
  split <;> decide
def xs_endr (c m : Int32) : Prop := m = -9 ∨ c = m
def xs_duer (c m : Int32) : Prop := (c = 1000000 ∧ (m = 9999 ∨ m = 0)) ∨ (c = m ∧ 0 < m ∧ m < 9999)
def rc_R (I : mv_I) (p n : Nat) (x : xs_X) : Prop :=
  (I p 1 = x 8 0 ∧ I p 13 = x 8 1) ∧
  (∀ t, t < n → (∀ k, xs_off k ≠ 0 → I (p + xs_off k) t = x t k) ∧ xs_endr (I (p + 4) t) (x t 8) ∧ xs_duer (I (p + 5) t) (x t 4) ∧ ∀ j, j < (x t 9).toNatClampNeg → j < 8 → I (p + 11) (8 * t + j) = x t (10 + j)) ∧
  ∀ j, j < (x 8 1).toNatClampNeg → j < 60 → I (p + 12) j = x (9 + j) 0 ∧ I (p + 13) j = x (9 + j) 1 ∧ I (p + 14) j = x (9 + j) 2
def rc_Fr (p : Nat) (I I' : mv_I) : Prop := ∀ b, (b < p ∨ p + 15 ≤ b) → I' b = I b
theorem rc_Fr.rf {p : Nat} {I : mv_I} : rc_Fr p I I := fun _ _ => rfl
theorem rc_Fr.tr {p : Nat} {I I1 I2 : mv_I} (h : rc_Fr p I I1) (h2 : rc_Fr p I1 I2) : rc_Fr p I I2 := fun b hb => (h2 b hb).trans (h b hb)
theorem rc_Fr.up {p a k : Nat} {I I1 : mv_I} {v : Int32} (h : rc_Fr p I I1) (ha : p ≤ a ∧ a < p + 15) : rc_Fr p I (mv_up I1 a k v) := fun b hb => by
  rw [mv_upN b (by omega)]
  exact h b hb
section RC
variable {I : mv_I} {p n t : Nat} {x : xs_X} {v : Int32}
theorem rc_set (k : Nat) (h : rc_R I p n x) (hk : xs_off k ≠ 0) (h9 : k ≠ 9) (ht : t < n) (hn : n ≤ 8) : rc_R (mv_up I (p + xs_off k) t v) p n (mv_up x t k v) := by
  obtain ⟨⟨h1, h2⟩, h3, h4⟩ := h
  have ho := @xs_off_ne k
  have e1 : mv_up x t k v 8 1 = x 8 1 := by rw [mv_upN 8 (by omega)]
  refine ⟨⟨?_, ?_⟩, fun u hu => ⟨fun j hj => ?_, ?_, ?_, fun j hj hj8 => ?_⟩, fun j hj hj6 => ?_⟩
  · rw [mv_upN p (by omega), mv_upN 8 (by omega)]; exact h1
  · rw [mv_upN p (by omega), e1]; exact h2
  · by_cases hjk : j = k
    · subst hjk
      by_cases hut : u = t
      · subst hut; rw [mv_upe, mv_upe]
      · simp only [mv_up, hut, and_false, false_and, if_false]; exact (h3 u hu).1 j hj
    · have : p + xs_off j ≠ p + xs_off k := fun e => hjk (xs_off_inj hk (by omega))
      rw [mv_upN _ this]
      simp only [mv_up, hjk, and_false, if_false]
      exact (h3 u hu).1 j hj
  · rw [mv_upN _ (by omega)]
    have : ¬ (8 : Nat) = k := fun e => by subst e; exact hk rfl
    simp only [mv_up, this, and_false, if_false]
    exact (h3 u hu).2.1
  · rw [mv_upN _ (by omega)]
    have : ¬ (4 : Nat) = k := fun e => by subst e; exact hk rfl
    simp only [mv_up, this, and_false, if_false]
    exact (h3 u hu).2.2.1
  · rw [mv_upN _ (by omega)]
    have h10 : ¬ 10 + j = k := fun e => hk (xs_off_10 (by omega))
    simp only [mv_up, h10, Ne.symm h9, and_false, if_false] at hj ⊢
    exact (h3 u hu).2.2.2 j hj hj8
  · rw [e1] at hj
    rw [mv_upN (p + 12) (by omega), mv_upN (p + 13) (by omega), mv_upN (p + 14) (by omega), mv_upN (9 + j) (by omega)]
    exact h4 j hj hj6
theorem rc_due {c : Int32} (h : rc_R I p n x) (hd : xs_duer c v) (ht : t < n) (hn : n ≤ 8) : rc_R (mv_up I (p + 5) t c) p n (mv_up x t 4 v) := by
  obtain ⟨⟨h1, h2⟩, h3, h4⟩ := h
  have e1 : mv_up x t 4 v 8 1 = x 8 1 := by rw [mv_upN 8 (by omega)]
  refine ⟨⟨?_, ?_⟩, fun u hu => ⟨fun j hj => ?_, ?_, ?_, fun j hj hj8 => ?_⟩, fun j hj hj6 => ?_⟩
  · rw [mv_upN p (by omega), mv_upN 8 (by omega)]; exact h1
  · rw [mv_upN p (by omega), e1]; exact h2
  · have := @xs_off_ne j
    have h4j : ¬ j = 4 := fun e => by subst e; exact hj rfl
    rw [mv_upN _ (by omega)]
    simp only [mv_up, h4j, and_false, if_false]
    exact (h3 u hu).1 j hj
  · rw [mv_upN _ (by omega)]
    simp only [mv_up, Nat.reduceEqDiff, and_false, if_false]
    exact (h3 u hu).2.1
  · by_cases hut : u = t
    · subst hut; rw [mv_upe, mv_upe]; exact hd
    · simp only [mv_up, hut, and_false, false_and, if_false]; exact (h3 u hu).2.2.1
  · rw [mv_upN _ (by omega)]
    simp only [mv_up, Nat.reduceEqDiff, show ¬ 10 + j = 4 by omega, and_false, if_false] at hj ⊢
    exact (h3 u hu).2.2.2 j hj hj8
  · rw [e1] at hj
    rw [mv_upN (p + 12) (by omega), mv_upN (p + 13) (by omega), mv_upN (p + 14) (by omega), mv_upN (9 + j) (by omega)]
    exact h4 j hj hj6
theorem rc_end {c : Int32} (h : rc_R I p n x) (hd : xs_endr c v) (ht : t < n) (hn : n ≤ 8) : rc_R (mv_up I (p + 4) t c) p n (mv_up x t 8 v) := by
  obtain ⟨⟨h1, h2⟩, h3, h4⟩ := h
  have e1 : mv_up x t 8 v 8 1 = x 8 1 := by rw [mv_upN 8 (by omega)]
  refine ⟨⟨?_, ?_⟩, fun u hu => ⟨fun j hj => ?_, ?_, ?_, fun j hj hj8 => ?_⟩, fun j hj hj6 => ?_⟩
  · rw [mv_upN p (by omega), mv_upN 8 (by omega)]; exact h1
  · rw [mv_upN p (by omega), e1]; exact h2
  · have := @xs_off_ne j
    have h4j : ¬ j = 8 := fun e => by subst e; exact hj rfl
    rw [mv_upN _ (by omega)]
    simp only [mv_up, h4j, and_false, if_false]
    exact (h3 u hu).1 j hj
  · by_cases hut : u = t
    · subst hut; rw [mv_upe, mv_upe]; exact hd
    · simp only [mv_up, hut, and_false, false_and, if_false]; exact (h3 u hu).2.1
  · rw [mv_upN _ (by omega)]
    simp only [mv_up, Nat.reduceEqDiff, and_false, if_false]
    exact (h3 u hu).2.2.1
  · rw [mv_upN _ (by omega)]
    simp only [mv_up, Nat.reduceEqDiff, show ¬ 10 + j = 8 by omega, and_false, if_false] at hj ⊢
    exact (h3 u hu).2.2.2 j hj hj8
  · rw [e1] at hj
    rw [mv_upN (p + 12) (by omega), mv_upN (p + 13) (by omega), mv_upN (p + 14) (by omega), mv_upN (9 + j) (by omega)]
    exact h4 j hj hj6
theorem rc_tick (h : rc_R I p n x) (hn : n ≤ 8) : rc_R (mv_up I p 1 v) p n (mv_up x 8 0 v) := by
  obtain ⟨⟨h1, h2⟩, h3, h4⟩ := h
  have e1 : mv_up x 8 0 v 8 1 = x 8 1 := by simp [mv_up]
  have e2 : ∀ u, u ≠ 8 → mv_up x 8 0 v u = x u := fun u hu => mv_upN u hu
  refine ⟨⟨?_, ?_⟩, fun u hu => ?_, fun j hj hj6 => ?_⟩
  · rw [mv_upe, mv_upe]
  · rw [e1, ← h2]; simp [mv_up]
  · rw [e2 u (by omega)]
    have e3 : ∀ o, 1 ≤ o → mv_up I p 1 v (p + o) = I (p + o) := fun o ho => mv_upN _ (by omega)
    refine ⟨fun k hk => ?_, ?_, ?_, ?_⟩
    · rw [e3 _ (by omega)]; exact (h3 u hu).1 k hk
    · rw [e3 4 (by omega)]; exact (h3 u hu).2.1
    · rw [e3 5 (by omega)]; exact (h3 u hu).2.2.1
    · rw [e3 11 (by omega)]; exact (h3 u hu).2.2.2
  · rw [e1] at hj
    rw [mv_upN (p + 12) (by omega), mv_upN (p + 13) (by omega), mv_upN (p + 14) (by omega), mv_upN (9 + j) (by omega)]
    exact h4 j hj hj6
/-- a code is added: the cell of the list, then how many there are -/
theorem rc_cd {c : Nat} (h : rc_R I p n x) (hc : x t 9 = nI c) (hc8 : c < 8) (ht : t < n) (hn : n ≤ 8) : rc_R (mv_up (mv_up I (p + 11) (8 * t + c) v) (p + 10) t (nI c + 1)) p n (xs_cd x t v) := by
  have e0 : xs_cd x t v = mv_up (mv_up x t (10 + c) v) t 9 (nI c + 1) := by
    unfold xs_cd
    rw [hc, if_pos (show nI c < (8 : Int32) from nI_lt hc8 (by decide)), nI_clamp (by omega)]
  rw [e0]
  obtain ⟨⟨h1, h2⟩, h3, h4⟩ := h
  have e2 : ∀ u, u ≠ t → mv_up (mv_up x t (10 + c) v) t 9 (nI c + 1) u = x u := fun u hu => by rw [mv_upN u hu, mv_upN u hu]
  have e3 : ∀ a, a ≠ p + 10 → a ≠ p + 11 → mv_up (mv_up I (p + 11) (8 * t + c) v) (p + 10) t (nI c + 1) a = I a := fun a h1 h2 => by rw [mv_upN a h1, mv_upN a h2]
  refine ⟨⟨?_, ?_⟩, fun u hu => ?_, fun j hj hj6 => ?_⟩
  · rw [e3 p (by omega) (by omega), e2 8 (by omega)]; exact h1
  · rw [e3 p (by omega) (by omega), e2 8 (by omega)]; exact h2
  · by_cases hut : u = t
    · subst hut
      refine ⟨fun k hk => ?_, ?_, ?_, fun j hj hj8 => ?_⟩
      · have := @xs_off_ne k
        by_cases h9 : k = 9
        · subst h9
          show mv_up _ (p + 10) u _ (p + 10) u = _
          rw [mv_upe, mv_upe]
        · have hk10 : xs_off k ≠ 10 := fun e => h9 (xs_off_inj (k := 9) (by decide) e)
          have hk2 : ¬ k = 10 + c := fun e => hk (xs_off_10 (by omega))
          rw [e3 _ (by omega) (by omega)]
          simp only [mv_up, h9, hk2, and_false, if_false]
          exact (h3 u hu).1 k hk
      · rw [e3 _ (by omega) (by omega)]
        simp only [mv_up, Nat.reduceEqDiff, show ¬ 8 = 10 + c by omega, and_false, if_false]
        exact (h3 u hu).2.1
      · rw [e3 _ (by omega) (by omega)]
        simp only [mv_up, Nat.reduceEqDiff, show ¬ 4 = 10 + c by omega, and_false, if_false]
        exact (h3 u hu).2.2.1
      · rw [mv_upe, nI_1, nI_clamp (by omega)] at hj
        rw [mv_upN _ (by omega)]
        by_cases hjc : j = c
        · subst hjc
          rw [mv_upe]
          simp [mv_up]
          omega
        · have a1 : ¬ 8 * u + j = 8 * u + c := by omega
          have a2 : ¬ 10 + j = 10 + c := by omega
          have a3 : ¬ 10 + j = 9 := by omega
          simp only [mv_up, a1, a2, a3, and_false, if_false]
          exact (h3 u hu).2.2.2 j (by rw [hc, nI_clamp (by omega)]; omega) hj8
    · rw [e2 u hut]
      refine ⟨fun k hk => ?_, ?_, ?_, fun j hj hj8 => ?_⟩
      · have := @xs_off_ne k
        have : mv_up (mv_up I (p + 11) (8 * t + c) v) (p + 10) t (nI c + 1) (p + xs_off k) u = I (p + xs_off k) u := by
          have a1 : ¬ xs_off k = 11 := by omega
          simp [mv_up, hut, a1]
        rw [this]
        exact (h3 u hu).1 k hk
      · rw [e3 _ (by omega) (by omega)]; exact (h3 u hu).2.1
      · rw [e3 _ (by omega) (by omega)]; exact (h3 u hu).2.2.1
      · rw [mv_upN _ (by omega)]
        have : ¬ 8 * u + j = 8 * t + c := by omega
        simp only [mv_up, this, and_false, if_false]
        exact (h3 u hu).2.2.2 j hj hj8
  · rw [e2 8 (by omega)] at hj
    rw [e3 _ (by omega) (by omega), e3 _ (by omega) (by omega), e3 _ (by omega) (by omega), e2 (9 + j) (by omega)]
    exact h4 j hj hj6
/-- a line of the trace -/
theorem rc_tr {e : Nat} {w : Int32} (h : rc_R I p n x) (he : x 8 1 = nI e) (he6 : e < 60) (hn : n ≤ 8) : rc_R (mv_up (mv_up (mv_up (mv_up I (p + 12) e (x 8 0)) (p + 13) e (nI t)) (p + 14) e w) p 13 (nI e + 1)) p n (xs_tr x t w) := by
  have e0 : xs_tr x t w = mv_up (mv_up (mv_up (mv_up x (9 + e) 0 (x 8 0)) (9 + e) 1 (nI t)) (9 + e) 2 w) 8 1 (nI e + 1) := by
    unfold xs_tr
    rw [he, if_pos (show nI e < (60 : Int32) from nI_lt he6 (by decide)), nI_clamp (by omega)]
  rw [e0]
  obtain ⟨⟨h1, h2⟩, h3, h4⟩ := h
  have e2 : ∀ u, u ≠ 8 → u ≠ 9 + e → mv_up (mv_up (mv_up (mv_up x (9 + e) 0 (x 8 0)) (9 + e) 1 (nI t)) (9 + e) 2 w) 8 1 (nI e + 1) u = x u := fun u h1 h2 => by rw [mv_upN u h1, mv_upN u h2, mv_upN u h2, mv_upN u h2]
  have e3 : ∀ a, a ≠ p → a ≠ p + 12 → a ≠ p + 13 → a ≠ p + 14 → mv_up (mv_up (mv_up (mv_up I (p + 12) e (x 8 0)) (p + 13) e (nI t)) (p + 14) e w) p 13 (nI e + 1) a = I a := fun a h1 h2 h3 h4 => by rw [mv_upN a h1, mv_upN a h4, mv_upN a h3, mv_upN a h2]
  have h89 : ¬ 8 = 9 + e := by omega
  refine ⟨⟨?_, ?_⟩, fun u hu => ?_, fun j hj hj6 => ?_⟩
  · simp [mv_up, h89, h1]
  · rw [mv_upe, mv_upe]
  · rw [e2 u (by omega) (by omega)]
    refine ⟨fun k hk => ?_, ?_, ?_, ?_⟩
    · have := @xs_off_ne k
      rw [e3 _ (by omega) (by omega) (by omega) (by omega)]; exact (h3 u hu).1 k hk
    · rw [e3 _ (by omega) (by omega) (by omega) (by omega)]; exact (h3 u hu).2.1
    · rw [e3 _ (by omega) (by omega) (by omega) (by omega)]; exact (h3 u hu).2.2.1
    · rw [e3 _ (by omega) (by omega) (by omega) (by omega)]; exact (h3 u hu).2.2.2
  · rw [mv_upe, nI_1, nI_clamp (by omega)] at hj
    by_cases hje : j = e
    · subst hje
      have h98 : ¬ 9 + j = 8 := by omega
      refine ⟨?_, ?_, ?_⟩ <;> simp [mv_up, h98]
    · have := h4 j (by rw [he, nI_clamp (by omega)]; omega) hj6
      rw [e2 (9 + j) (by omega) (by omega)]
      refine ⟨?_, ?_, ?_⟩
      · rw [← this.1]; simp [mv_up, hje]
      · rw [← this.2.1]; simp [mv_up, hje]
      · rw [← this.2.2]; simp [mv_up, hje]
end RC
