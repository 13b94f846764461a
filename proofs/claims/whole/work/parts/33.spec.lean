/-! what a text tells: either the place of a fault, or how many tasks there are and their plan -/
def sp_num (w : Nat → Int32) (L j lo up : Nat) : Prop := tk_k w L j = -2 ∧ lo ≤ tk_v w L j ∧ tk_v w L j ≤ up
def sp_numb (w : Nat → Int32) (L j lo up : Nat) : Bool := decide (tk_k w L j = -2 ∧ lo ≤ tk_v w L j ∧ tk_v w L j ≤ up)
def sp_op (k : Int32) : Prop := k = 119 ∨ k = 98 ∨ k = 106 ∨ k = 120 ∨ k = 102
def sp_opb (k : Int32) : Bool := decide (k = 119 ∨ k = 98 ∨ k = 106 ∨ k = 120 ∨ k = 102)
def sp_add (π : xs_X) (t c : Nat) (k v : Int32) : xs_X := mv_up (mv_up (mv_up π t (6 + 2 * c) k) t (7 + 2 * c) v) t 1 (nI (c + 1))
def sp_ops (w : Nat → Int32) (L t : Nat) : Nat → Nat → Nat → xs_X → Nat ⊕ (Nat × xs_X)
  | 0, _, i, _ => .inl (tk_s w L i)
  | f + 1, c, i, π => if tk_k w L i = 59 then .inr (tk_e w L i, π) else
      if sp_opb (tk_k w L i) = true ∧ c < 6 then
        (if tk_k w L i = 119 ∨ tk_k w L i = 102 then
          (if sp_numb w L (tk_e w L i) 1 9 = true then sp_ops w L t f (c + 1) (tk_e w L (tk_e w L i)) (sp_add π t c (tk_k w L i) (nI (tk_v w L (tk_e w L i)))) else .inl (tk_s w L (tk_e w L i)))
        else sp_ops w L t f (c + 1) (tk_e w L i) (sp_add π t c (tk_k w L i) 0))
      else .inl (tk_s w L i)
def sp_end (w : Nat → Int32) (L i : Nat) (π : xs_X) : Nat ⊕ (Nat × xs_X) := if tk_k w L i = 59 then .inr (tk_e w L i, π) else .inl (tk_s w L i)
def sp_set (w : Nat → Int32) (L i n : Nat) (π : xs_X) (col lo up : Nat) : Nat ⊕ (Nat × xs_X) :=
  if sp_numb w L (tk_e w L i) 0 (n - 1) = true then
    (if sp_numb w L (tk_e w L (tk_e w L i)) lo up = true then sp_end w L (tk_e w L (tk_e w L (tk_e w L i))) (mv_up π (tk_v w L (tk_e w L i)) col (nI (tk_v w L (tk_e w L (tk_e w L i))))) else .inl (tk_s w L (tk_e w L (tk_e w L i))))
  else .inl (tk_s w L (tk_e w L i))
def sp_gat (w : Nat → Int32) (L i n : Nat) (π : xs_X) : Nat ⊕ (Nat × xs_X) :=
  if sp_numb w L (tk_e w L i) 0 (n - 1) = true ∧ ¬ π (tk_v w L (tk_e w L i)) 5 = 1 then sp_end w L (tk_e w L (tk_e w L i)) (mv_up π (tk_v w L (tk_e w L i)) 5 1)
  else .inl (tk_s w L (tk_e w L i))
def sp_tsk (w : Nat → Int32) (L i n : Nat) (π : xs_X) : Nat ⊕ (Nat × xs_X) :=
  if sp_numb w L (tk_e w L i) 0 (n - 1) = true then sp_ops w L n 7 0 (tk_e w L (tk_e w L i)) (mv_up π n 0 (nI (tk_v w L (tk_e w L i)))) else .inl (tk_s w L (tk_e w L i))
def sp_lift (n : Nat) (r : Nat ⊕ (Nat × xs_X)) : Nat ⊕ (Nat × Nat × xs_X) := match r with
  | .inl s => .inl s
  | .inr (i, π) => .inr (i, n, π)
def sp_item (w : Nat → Int32) (L i n : Nat) (π : xs_X) : Nat ⊕ (Nat × Nat × xs_X) :=
  if n = 0 then (if tk_k w L i = 114 then sp_lift 1 (sp_ops w L 0 7 0 (tk_e w L i) π) else .inl (tk_s w L i))
  else if tk_k w L i = 116 then (if n = 8 then .inl (tk_s w L i) else sp_lift (n + 1) (sp_tsk w L i n π))
  else if tk_k w L i = 100 then sp_lift n (sp_set w L i n π 2 1 60)
  else if tk_k w L i = 115 then sp_lift n (sp_set w L i n π 3 0 6)
  else if tk_k w L i = 99 then sp_lift n (sp_set w L i n π 4 0 5)
  else if tk_k w L i = 103 then sp_lift n (sp_gat w L i n π)
  else .inl (tk_s w L i)
def sp_all (w : Nat → Int32) (L : Nat) : Nat → Nat → Nat → Nat → xs_X → Nat ⊕ (Nat × Nat × xs_X)
  | 0, _, _, _, _ => .inl 0
  | f + 1, i, c, n, π => if tk_s w L i = L then .inr (c, n, π) else match sp_item w L i n π with
    | .inl s => .inl s
    | .inr (i2, n2, π2) => sp_all w L f i2 (c + 1) n2 π2
def sp_0 : xs_X := fun _ k => if k = 0 then -9 else if k = 2 then 99 else 0
/-! the plan that is read keeps what a plan must -/
def sp_n (n : Nat) : Nat := if n = 0 then 1 else n
def sp_W (n : Nat) (π : xs_X) : Prop := n ≤ 8 ∧ pl_W (sp_n n) π ∧ ∀ t, sp_n n ≤ t → t < 8 → ∀ k, k < 6 → π t k = sp_0 t k
theorem sp_nn {n : Nat} (h : n ≤ 8) : 1 ≤ sp_n n ∧ sp_n n ≤ 8 ∧ n ≤ sp_n n := by
  unfold sp_n
  split <;> omega
def pl_T (t : Nat) (r : Nat → Int32) : Prop := (0 < t → ∃ u, u < t ∧ r 0 = nI u) ∧ (∃ s, s ≤ 6 ∧ r 1 = nI s ∧ ∀ j, j < s → ((r (6 + 2 * j) = 119 ∨ r (6 + 2 * j) = 102) ∧ ∃ k, 1 ≤ k ∧ k ≤ 9 ∧ r (7 + 2 * j) = nI k) ∨ r (6 + 2 * j) = 98 ∨ r (6 + 2 * j) = 106 ∨ r (6 + 2 * j) = 120) ∧
  (r 2 = 99 ∨ ∃ d, 1 ≤ d ∧ d ≤ 60 ∧ r 2 = nI d) ∧ (∃ k, k ≤ 6 ∧ r 3 = nI k) ∧ (∃ k, k ≤ 5 ∧ r 4 = nI k) ∧ (r 5 = 0 ∨ r 5 = 1)
theorem pl_W.T {n : Nat} {π : xs_X} (h : pl_W n π) {t : Nat} (ht : t < n) : pl_T t (π t) := h.2.2.2 t ht
theorem pl_W.one {n t : Nat} {π π' : xs_X} (h : pl_W n π) (e : ∀ u, u ≠ t → π' u = π u) (h0 : π' 0 0 = -9) (hT : pl_T t (π' t)) : pl_W n π' := by
  refine ⟨h.1, h.2.1, h0, fun u hu => ?_⟩
  by_cases q : u = t
  · subst q; exact hT
  · rw [e u q]; exact h.2.2.2 u hu
theorem sp_W.one {n t : Nat} {π π' : xs_X} (h : sp_W n π) (ht : t < sp_n n) (e : ∀ u, u ≠ t → π' u = π u) (h0 : π' 0 0 = -9) (hT : pl_T t (π' t)) : sp_W n π' := by
  refine ⟨h.1, h.2.1.one e h0 hT, fun u h1 h2 k hk => ?_⟩
  rw [e u (by omega)]
  exact h.2.2 u h1 h2 k hk
theorem sp_W.add {n t c : Nat} {π : xs_X} {k v : Int32} (h : sp_W n π) (ht : t < sp_n n) (hc : π t 1 = nI c) (hc6 : c < 6) (hk : ((k = 119 ∨ k = 102) ∧ ∃ z, 1 ≤ z ∧ z ≤ 9 ∧ v = nI z) ∨ k = 98 ∨ k = 106 ∨ k = 120) : sp_W n (sp_add π t c k v) ∧ sp_add π t c k v t 1 = nI (c + 1) := by
  have e : ∀ j, j ≠ 1 → j ≠ 6 + 2 * c → j ≠ 7 + 2 * c → sp_add π t c k v t j = π t j := fun j a b d => by simp [sp_add, mv_up, a, b, d]
  have e1 : sp_add π t c k v t 1 = nI (c + 1) := by unfold sp_add; rw [mv_upe]
  have e6 : sp_add π t c k v t (6 + 2 * c) = k := by
    have a : ¬ 6 + 2 * c = 1 := by omega
    have b : ¬ 6 + 2 * c = 7 + 2 * c := by omega
    simp [sp_add, mv_up, a, b]
  have e7 : sp_add π t c k v t (7 + 2 * c) = v := by
    have a : ¬ 7 + 2 * c = 1 := by omega
    simp [sp_add, mv_up, a]
  refine ⟨h.one ht (fun u hu => by unfold sp_add; rw [mv_upN u hu, mv_upN u hu, mv_upN u hu]) ?_ ?_, e1⟩
  · by_cases h0 : (0 : Nat) = t
    · subst h0; rw [e 0 (by decide) (by omega) (by omega)]; exact h.2.1.2.2.1
    · unfold sp_add; rw [mv_upN 0 h0, mv_upN 0 h0, mv_upN 0 h0]; exact h.2.1.2.2.1
  · obtain ⟨a1, ⟨s, s6, s1, s2⟩, a3, a4, a5, a6⟩ := h.2.1.T ht
    have es : s = c := (nI_eq (by omega) (by omega)).mp (s1.symm.trans hc)
    subst es
    refine ⟨by rw [e 0 (by decide) (by omega) (by omega)]; exact a1, ⟨s + 1, by omega, e1, fun j hj => ?_⟩, by rw [e 2 (by decide) (by omega) (by omega)]; exact a3, by rw [e 3 (by decide) (by omega) (by omega)]; exact a4, by rw [e 4 (by decide) (by omega) (by omega)]; exact a5, by rw [e 5 (by decide) (by omega) (by omega)]; exact a6⟩
    by_cases q : j = s
    · subst q
      rw [e6, e7]
      exact hk
    · rw [e (6 + 2 * j) (by omega) (by omega) (by omega), e (7 + 2 * j) (by omega) (by omega) (by omega)]
      exact s2 j (by omega)
theorem sp_W.set {n t col v : Nat} {π : xs_X} (h : sp_W n π) (ht : t < sp_n n) (hc : (col = 2 ∧ 1 ≤ v ∧ v ≤ 60) ∨ (col = 3 ∧ v ≤ 6) ∨ (col = 4 ∧ v ≤ 5) ∨ (col = 5 ∧ v = 1)) : sp_W n (mv_up π t col (nI v)) := by
  have e : ∀ j, j ≠ col → mv_up π t col (nI v) t j = π t j := fun j a => by simp [mv_up, a]
  have hcol : 2 ≤ col ∧ col ≤ 5 := by omega
  have e6 : ∀ j, mv_up π t col (nI v) t (6 + 2 * j) = π t (6 + 2 * j) := fun j => e _ (by omega)
  have e7 : ∀ j, mv_up π t col (nI v) t (7 + 2 * j) = π t (7 + 2 * j) := fun j => e _ (by omega)
  have e1 : mv_up π t col (nI v) t 1 = π t 1 := e _ (by omega)
  refine h.one ht (fun u hu => by rw [mv_upN u hu]) ?_ ?_
  · by_cases h0 : (0 : Nat) = t
    · subst h0; rw [e 0 (by omega)]; exact h.2.1.2.2.1
    · rw [mv_upN 0 h0]; exact h.2.1.2.2.1
  · obtain ⟨a1, ⟨s, s6, s1, s2⟩, a3, a4, a5, a6⟩ := h.2.1.T ht
    have b1 : 0 < t → ∃ u, u < t ∧ mv_up π t col (nI v) t 0 = nI u := by rw [e 0 (by omega)]; exact a1
    have b2 : ∃ s, s ≤ 6 ∧ mv_up π t col (nI v) t 1 = nI s ∧ ∀ j, j < s → ((mv_up π t col (nI v) t (6 + 2 * j) = 119 ∨ mv_up π t col (nI v) t (6 + 2 * j) = 102) ∧ ∃ k, 1 ≤ k ∧ k ≤ 9 ∧ mv_up π t col (nI v) t (7 + 2 * j) = nI k) ∨ mv_up π t col (nI v) t (6 + 2 * j) = 98 ∨ mv_up π t col (nI v) t (6 + 2 * j) = 106 ∨ mv_up π t col (nI v) t (6 + 2 * j) = 120 :=
      ⟨s, s6, e1.trans s1, fun j hj => by rw [e6 j, e7 j]; exact s2 j hj⟩
    rcases hc with ⟨rfl, v1, v2⟩ | ⟨rfl, v1⟩ | ⟨rfl, v1⟩ | ⟨rfl, v1⟩
    · exact ⟨b1, b2, Or.inr ⟨v, v1, v2, mv_upe⟩, by rw [e 3 (by decide)]; exact a4, by rw [e 4 (by decide)]; exact a5, by rw [e 5 (by decide)]; exact a6⟩
    · exact ⟨b1, b2, by rw [e 2 (by decide)]; exact a3, ⟨v, v1, mv_upe⟩, by rw [e 4 (by decide)]; exact a5, by rw [e 5 (by decide)]; exact a6⟩
    · exact ⟨b1, b2, by rw [e 2 (by decide)]; exact a3, by rw [e 3 (by decide)]; exact a4, ⟨v, v1, mv_upe⟩, by rw [e 5 (by decide)]; exact a6⟩
    · exact ⟨b1, b2, by rw [e 2 (by decide)]; exact a3, by rw [e 3 (by decide)]; exact a4, by rw [e 4 (by decide)]; exact a5, Or.inr (by rw [mv_upe, v1]; rfl)⟩
/-- one more task, of a parent -/
theorem sp_W.tsk {n u : Nat} {π : xs_X} (h : sp_W n π) (hn : 1 ≤ n) (hn8 : n < 8) (hu : u < n) : sp_W (n + 1) (mv_up π n 0 (nI u)) ∧ mv_up π n 0 (nI u) n 1 = nI 0 := by
  have en : sp_n n = n := by unfold sp_n; rw [if_neg (by omega)]
  have en1 : sp_n (n + 1) = n + 1 := by unfold sp_n; rw [if_neg (by omega)]
  obtain ⟨h1, h2, h3⟩ := h
  rw [en] at h2 h3
  have e : ∀ j, j ≠ 0 → j < 6 → mv_up π n 0 (nI u) n j = sp_0 n j := fun j a b => by
    have := h3 n (Nat.le_refl n) hn8 j b
    simp only [mv_up, a, and_false, if_false]
    exact this
  refine ⟨⟨by omega, ?_, fun t t1 t2 k hk => ?_⟩, e 1 (by decide) (by decide)⟩
  · rw [en1]
    refine ⟨by omega, by omega, by rw [mv_upN 0 (by omega)]; exact h2.2.2.1, fun t ht => ?_⟩
    by_cases q : t = n
    · subst q
      refine ⟨fun _ => ⟨u, hu, mv_upe⟩, ⟨0, by omega, e 1 (by decide) (by decide), fun j hj => by omega⟩, Or.inl (e 2 (by decide) (by decide)), ⟨0, by omega, e 3 (by decide) (by decide)⟩, ⟨0, by omega, e 4 (by decide) (by decide)⟩, Or.inl (e 5 (by decide) (by decide))⟩
    · rw [mv_upN t q]
      exact h2.2.2.2 t (by omega)
  · rw [en1] at t1
    rw [mv_upN t (by omega)]
    exact h3 t (by omega) t2 k hk
theorem sp_W.n1 {π : xs_X} (h : sp_W 0 π) : sp_W 1 π := ⟨by decide, h.2.1, h.2.2⟩
theorem sp_W.ops {w : Nat → Int32} {L n t : Nat} (ht : t < sp_n n) : ∀ (f c i : Nat) (π : xs_X), sp_W n π → π t 1 = nI c → ∀ i2 π2, sp_ops w L t f c i π = .inr (i2, π2) → sp_W n π2
  | 0, c, i, π, _, _, i2, π2, h => by cases h
  | f + 1, c, i, π, hW, hc, i2, π2, h => by
    unfold sp_ops at h
    split at h
    · cases h; exact hW
    · split at h
      · rename_i hop
        have hopk := of_decide_eq_true hop.1
        split at h
        · rename_i hwf
          split at h
          · rename_i hnum
            have hnum2 := of_decide_eq_true hnum
            have := hW.add (k := tk_k w L i) (v := nI (tk_v w L (tk_e w L i))) ht hc hop.2 (Or.inl ⟨hwf, _, hnum2.2.1, hnum2.2.2, rfl⟩)
            exact sp_W.ops ht f (c + 1) _ _ this.1 this.2 i2 π2 h
          · cases h
        · rename_i hwf
          have hk3 : tk_k w L i = 98 ∨ tk_k w L i = 106 ∨ tk_k w L i = 120 := by
            rcases hopk with q | q | q | q | q
            · exact absurd (Or.inl q) hwf
            · exact Or.inl q
            · exact Or.inr (Or.inl q)
            · exact Or.inr (Or.inr q)
            · exact absurd (Or.inr q) hwf
          have := hW.add (k := tk_k w L i) (v := 0) ht hc hop.2 (Or.inr hk3)
          exact sp_W.ops ht f (c + 1) _ _ this.1 this.2 i2 π2 h
      · cases h
theorem sp_lift_r {n : Nat} {r : Nat ⊕ (Nat × xs_X)} {i n2 : Nat} {π : xs_X} (h : sp_lift n r = .inr (i, n2, π)) : n2 = n ∧ r = .inr (i, π) := by
  cases r with
  | inl s => cases h
  | inr q =>
    obtain ⟨a, b⟩ := q
    simp only [sp_lift] at h
    cases h
    exact ⟨rfl, rfl⟩
theorem sp_end_r {w : Nat → Int32} {L i i2 : Nat} {π π2 : xs_X} (h : sp_end w L i π = .inr (i2, π2)) : π2 = π := by
  unfold sp_end at h
  split at h
  · cases h; rfl
  · cases h
theorem sp_W.item {w : Nat → Int32} {L i n i2 n2 : Nat} {π π2 : xs_X} (hW : sp_W n π) (hs : (∀ k, k < 6 → π 0 k = sp_0 0 k) ∨ n ≠ 0) (h : sp_item w L i n π = .inr (i2, n2, π2)) : sp_W n2 π2 ∧ n2 ≠ 0 := by
  have hset : ∀ col lo up, ((col = 2 ∧ lo = 1 ∧ up = 60) ∨ (col = 3 ∧ up = 6) ∨ (col = 4 ∧ up = 5)) → n ≠ 0 → ∀ r, sp_set w L i n π col lo up = .inr r → sp_W n r.2 := by
    intro col lo up hc hn0 r hr
    obtain ⟨i3, π3⟩ := r
    have en : sp_n n = n := by unfold sp_n; rw [if_neg hn0]
    unfold sp_set at hr
    split at hr
    · rename_i q1
      have q1 := of_decide_eq_true q1
      split at hr
      · rename_i q2
        have q2 := of_decide_eq_true q2
        rw [sp_end_r hr]
        refine hW.set (by rw [en]; have := q1.2.2; omega) ?_
        rcases hc with ⟨a, b, c⟩ | ⟨a, b⟩ | ⟨a, b⟩
        · subst a b c; exact Or.inl ⟨rfl, q2.2.1, q2.2.2⟩
        · subst a b; exact Or.inr (Or.inl ⟨rfl, q2.2.2⟩)
        · subst a b; exact Or.inr (Or.inr (Or.inl ⟨rfl, q2.2.2⟩))
      · cases hr
    · cases hr
  unfold sp_item at h
  split at h
  · rename_i hn0
    subst hn0
    split at h
    · obtain ⟨e2, h'⟩ := sp_lift_r h
      subst e2
      exact ⟨sp_W.ops (n := 1) (by decide) 7 0 _ _ hW.n1 (hs.elim (fun q => q 1 (by decide)) (fun q => absurd rfl q)) _ _ h', by decide⟩
    · cases h
  · rename_i hn0
    have en : sp_n n = n := by unfold sp_n; rw [if_neg hn0]
    split at h
    · split at h
      · cases h
      · rename_i hn8
        obtain ⟨e2, h'⟩ := sp_lift_r h
        subst e2
        unfold sp_tsk at h'
        split at h'
        · rename_i q1
          have q1 := of_decide_eq_true q1
          have hn := hW.1
          have := hW.tsk (u := tk_v w L (tk_e w L i)) (by omega) (by omega) (by have := q1.2.2; omega)
          exact ⟨sp_W.ops (n := n + 1) (t := n) (by unfold sp_n; rw [if_neg (by omega)]; omega) 7 0 _ _ this.1 this.2 _ _ h', by omega⟩
        · cases h'
    · split at h
      · obtain ⟨rfl, h⟩ := sp_lift_r h
        exact ⟨hset 2 1 60 (Or.inl ⟨rfl, rfl, rfl⟩) hn0 _ h, hn0⟩
      · split at h
        · obtain ⟨rfl, h⟩ := sp_lift_r h
          exact ⟨hset 3 0 6 (Or.inr (Or.inl ⟨rfl, rfl⟩)) hn0 _ h, hn0⟩
        · split at h
          · obtain ⟨rfl, h⟩ := sp_lift_r h
            exact ⟨hset 4 0 5 (Or.inr (Or.inr ⟨rfl, rfl⟩)) hn0 _ h, hn0⟩
          · split at h
            · obtain ⟨rfl, h⟩ := sp_lift_r h
              unfold sp_gat at h
              split at h
              · rename_i q1
                have q1 := of_decide_eq_true q1.1
                rw [sp_end_r h]
                exact ⟨hW.set (v := 1) (by rw [en]; have := q1.2.2; omega) (Or.inr (Or.inr (Or.inr ⟨rfl, rfl⟩))), hn0⟩
              · cases h
            · cases h
theorem sp_W.z : sp_W 0 sp_0 := by
  refine ⟨by decide, ⟨by decide, by decide, by decide, fun t ht => ?_⟩, fun t _ _ k _ => rfl⟩
  have : t = 0 := by have : t < 1 := ht; omega
  subst this
  exact ⟨fun q => by omega, ⟨0, by decide, by decide, fun j hj => by omega⟩, Or.inl (by decide), ⟨0, by decide, by decide⟩, ⟨0, by decide, by decide⟩, Or.inl (by decide)⟩
theorem sp_W.all {w : Nat → Int32} {L : Nat} : ∀ (f i c n : Nat) (π : xs_X), sp_W n π → ((∀ k, k < 6 → π 0 k = sp_0 0 k) ∨ n ≠ 0) → ∀ c2 n2 π2, sp_all w L f i c n π = .inr (c2, n2, π2) → sp_W n2 π2
  | 0, i, c, n, π, _, _, c2, n2, π2, h => by cases h
  | f + 1, i, c, n, π, hW, hs, c2, n2, π2, h => by
    unfold sp_all at h
    split at h
    · cases h; exact hW
    · split at h
      · cases h
      · rename_i i3 n3 π3 hit
        have := hW.item hs hit
        exact sp_W.all f i3 (c + 1) n3 π3 this.1 (Or.inr this.2) c2 n2 π2 h
