/-! what always holds of the tasks goes on to hold -/
theorem xs_W.one {n : Nat} {π x y : xs_X} (h : xs_W n π x) (t : Nat) (e8 : y 8 = x 8) (eo : ∀ u, u < n → u ≠ t → y u = x u) (hT : t < n → xs_T (π t) (y t)) (h7 : y 0 7 = 0) : xs_W n π y := by
  obtain ⟨h1, h2, h3, h4⟩ := h
  refine ⟨by rw [e8]; exact h1, by rw [e8]; exact h2, h7, fun u hu => ?_⟩
  by_cases hut : u = t
  · subst hut; exact hT hu
  · rw [eo u hu hut]; exact h4 u hu
/-- a row with some fields new: what is asked of each -/
theorem xs_T.of {π r r' : Nat → Int32} (h : xs_T π r)
    (a0 : (r' 0 = r 0 ∧ r' 4 = r 4 ∧ r' 8 = r 8) ∨ ((∃ h, h ≤ 3 ∧ r' 0 = nI h ∧ (h = 0 ↔ r' 4 = 0) ∧ (h = 3 ↔ r' 8 ≠ -9)) ∧ (r' 4 = 9999 ∨ ∃ d, d < 9999 ∧ r' 4 = nI d) ∧ (r' 8 = -9 ∨ ∃ e, e < 9999 ∧ r' 8 = nI e)))
    (a9 : r' 9 = r 9 ∨ ∃ c, c ≤ 8 ∧ r' 9 = nI c)
    (a2 : (r' 2 = r 2 ∧ r' 3 = r 3) ∨ (∃ b s, b ≤ s ∧ s ≤ 6 ∧ π 1 = nI s ∧ r' 2 = nI b ∧ (r' 3 = 0 ∨ (b < s ∧ π (6 + 2 * b) = 119 ∧ ∃ w k, w < k ∧ k ≤ 9 ∧ r' 3 = nI w ∧ π (7 + 2 * b) = nI k))))
    (a5 : r' 5 = r 5 ∨ r' 5 = 1)
    (a6 : r' 6 = r 6 ∨ ∃ c k, c ≤ k ∧ k ≤ 5 ∧ r' 6 = nI c ∧ π 4 = nI k)
    (a7 : r' 7 = r 7 ∨ ∃ b, b < 9999 ∧ r' 7 = nI b) : xs_T π r' := by
  obtain ⟨H0, H9, H2, H5, H6, H4, H8, H7⟩ := h
  refine ⟨?_, ?_, ?_, ?_, ?_, ?_, ?_, ?_⟩
  · rcases a0 with ⟨q0, q4, q8⟩ | q
    · rw [q0, q4, q8]; exact H0
    · exact q.1
  · rcases a9 with q | q
    · rw [q]; exact H9
    · exact q
  · rcases a2 with ⟨q1, q2⟩ | q
    · rw [q1, q2]; exact H2
    · exact q
  · rcases a5 with q | q
    · rw [q]; exact H5
    · exact Or.inr q
  · rcases a6 with q | q
    · rw [q]; exact H6
    · exact q
  · rcases a0 with ⟨q0, q4, q8⟩ | q
    · rw [q4]; exact H4
    · exact q.2.1
  · rcases a0 with ⟨q0, q4, q8⟩ | q
    · rw [q8]; exact H8
    · exact q.2.2
  · rcases a7 with q | q
    · rw [q]; exact H7
    · exact q
theorem xs_W.tr {n t : Nat} {π x : xs_X} {w : Int32} (h : xs_W n π x) (hn : n ≤ 8) : xs_W n π (xs_tr x t w) := by
  obtain ⟨⟨τ, h1, h1'⟩, ⟨e, h2, h2'⟩, h3, h4⟩ := h
  refine ⟨⟨τ, h1, ?_⟩, ?_, by rw [xs_tr_lo (by omega)]; exact h3, fun u hu => by rw [xs_tr_lo (by omega)]; exact h4 u hu⟩
  · unfold xs_tr
    split
    · have : ¬ 8 = 9 + (x 8 1).toNatClampNeg := by omega
      simp only [mv_up, this, false_and, if_false]
      simp [h1']
    · exact h1'
  · unfold xs_tr
    split
    · rename_i hlt
      rw [h2'] at hlt
      have := (nI_ltI (b := 60) (by omega) (by decide)).mp hlt
      exact ⟨e + 1, by omega, by rw [mv_upe, h2', nI_1]⟩
    · exact ⟨e, h2, h2'⟩
theorem xs_tr_80 {x : xs_X} {t : Nat} {w : Int32} : xs_tr x t w 8 0 = x 8 0 := by
  unfold xs_tr
  split
  · have : ¬ 8 = 9 + (x 8 1).toNatClampNeg := by omega
    simp [mv_up, this]
  · rfl
theorem xs_W.ask {n t : Nat} {π x : xs_X} (h : xs_W n π x) (hn : n ≤ 8) : xs_W n π (xs_ask n π x t) := by
  obtain ⟨h1, h2, h3, h4⟩ := h
  have e8 : xs_ask n π x t 8 = x 8 := xs_ask_hi hn
  have e : ∀ u k, k ≠ 5 → xs_ask n π x t u k = x u k := fun u k hk => by simp [xs_ask, hk]
  refine ⟨by rw [e8]; exact h1, by rw [e8]; exact h2, by rw [e 0 7 (by decide)]; exact h3, fun u hu => ?_⟩
  refine (h4 u hu).of (Or.inl ⟨e u 0 (by decide), e u 4 (by decide), e u 8 (by decide)⟩) (Or.inl (e u 9 (by decide))) (Or.inl ⟨e u 2 (by decide), e u 3 (by decide)⟩) ?_ (Or.inl (e u 6 (by decide))) (Or.inl (e u 7 (by decide)))
  unfold xs_ask
  split
  · exact Or.inr rfl
  · exact Or.inl rfl
theorem xs_W.cd {n t : Nat} {π x : xs_X} {c : Int32} (h : xs_W n π x) (ht : t < n) (hn : n ≤ 8) : xs_W n π (xs_cd x t c) := by
  refine h.one t (xs_cd_ne (by omega)) (fun u _ hu => xs_cd_ne hu) (fun _ => ?_) ?_
  · obtain ⟨c0, hc8, hc⟩ := (h.2.2.2 t ht).2.1
    exact (h.2.2.2 t ht).of (Or.inl ⟨xs_cd_col (by omega), xs_cd_col (by omega), xs_cd_col (by omega)⟩) (Or.inr (xs_cd_many hc hc8)) (Or.inl ⟨xs_cd_col (by omega), xs_cd_col (by omega)⟩) (Or.inl (xs_cd_col (by omega))) (Or.inl (xs_cd_col (by omega))) (Or.inl (xs_cd_col (by omega)))
  · by_cases h0 : (0 : Nat) = t
    · subst h0; rw [xs_cd_col (by omega)]; exact h.2.2.1
    · rw [xs_cd_ne h0]; exact h.2.2.1
theorem xs_T.run {π r : Nat → Int32} (h : xs_T π r) {a : Nat} (ha : r 0 = nI a) (a3 : a ≤ 3) : (a = 0 ↔ r 4 = 0) ∧ (a = 3 ↔ r 8 ≠ -9) := by
  obtain ⟨⟨b, b3, b0, b4, b8⟩, -⟩ := h
  have : b = a := (nI_eq (by omega) (by omega)).mp (b0.symm.trans ha)
  subst this
  exact ⟨b4, b8⟩
/-- it closes: from running or closing -/
theorem xs_W.cl0 {n t : Nat} {π x : xs_X} {v : Int32} (h : xs_W n π x) (ht : t < n) (hn : n ≤ 8) (h1 : x t 0 = 1 ∨ x t 0 = 2) : xs_W n π (mv_up (mv_up x t 0 2) t 1 v) := by
  have e : ∀ k, k ≠ 0 → k ≠ 1 → mv_up (mv_up x t 0 2) t 1 v t k = x t k := fun k a b => by simp [mv_up, a, b]
  refine h.one t (by rw [mv_upN 8 (by omega), mv_upN 8 (by omega)]) (fun u _ hu => by rw [mv_upN u hu, mv_upN u hu]) (fun _ => ?_) ?_
  · have h48 : x t 4 ≠ 0 ∧ x t 8 = -9 := by
      rcases h1 with q | q
      · have := (h.2.2.2 t ht).run (a := 1) q (by decide)
        exact ⟨fun z => absurd (this.1.mpr z) (by decide), Classical.byContradiction fun z => absurd (this.2.mpr z) (by decide)⟩
      · have := (h.2.2.2 t ht).run (a := 2) q (by decide)
        exact ⟨fun z => absurd (this.1.mpr z) (by decide), Classical.byContradiction fun z => absurd (this.2.mpr z) (by decide)⟩
    refine (h.2.2.2 t ht).of (Or.inr ⟨⟨2, by decide, by simp [mv_up]; rfl, ?_, ?_⟩, ?_, ?_⟩) (Or.inl (e 9 (by decide) (by decide))) (Or.inl ⟨e 2 (by decide) (by decide), e 3 (by decide) (by decide)⟩) (Or.inl (e 5 (by decide) (by decide))) (Or.inl (e 6 (by decide) (by decide))) (Or.inl (e 7 (by decide) (by decide)))
    · rw [e 4 (by decide) (by decide)]
      exact ⟨fun q => absurd q (by decide), fun q => absurd q h48.1⟩
    · rw [e 8 (by decide) (by decide)]
      exact ⟨fun q => absurd q (by decide), fun q => absurd h48.2 q⟩
    · rw [e 4 (by decide) (by decide)]; exact (h.2.2.2 t ht).2.2.2.2.2.1
    · rw [e 8 (by decide) (by decide)]; exact (h.2.2.2 t ht).2.2.2.2.2.2.1
  · by_cases h0 : (0 : Nat) = t
    · subst h0; rw [e 7 (by decide) (by decide)]; exact h.2.2.1
    · rw [mv_upN 0 h0, mv_upN 0 h0]; exact h.2.2.1
theorem xs_W.cl {n t : Nat} {π x : xs_X} {o : Int32} (h : xs_W n π x) (ht : t < n) (hn : n ≤ 8) (h1 : x t 0 = 1 ∨ x t 0 = 2) : xs_W n π (xs_cl n π x t o) := by
  unfold xs_cl
  refine xs_W.tr ?_ hn
  split
  · exact (h.cl0 ht hn h1).ask hn
  · exact h.cl0 ht hn h1
theorem xs_cl_80 {n t : Nat} {π x : xs_X} {o : Int32} (ht : t < 8) (hn : n ≤ 8) : xs_cl n π x t o 8 0 = x 8 0 := by
  unfold xs_cl
  rw [xs_tr_80]
  split
  · rw [xs_ask_hi hn, mv_upN 8 (by omega), mv_upN 8 (by omega)]
  · rw [mv_upN 8 (by omega), mv_upN 8 (by omega)]
theorem xs_W.bg {n t u : Nat} {π x : xs_X} (h : xs_W n π x) (hp : pl_W n π) (ht : t < n) (hu : u < n) (h0 : x t 0 = 0) (h4 : x u 4 ≠ 0) (ht0 : 1 ≤ t) : xs_W n π (xs_bg π x t u) := by
  have hn := hp.2.1
  unfold xs_bg
  refine xs_W.tr ?_ hn
  have e : ∀ k, k ≠ 0 → k ≠ 4 → k ≠ 7 → mv_up (mv_up (mv_up x t 0 1) t 4 (xs_due π x t u)) t 7 (x 8 0) t k = x t k := fun k a b c => by simp [mv_up, a, b, c]
  have e4 : mv_up (mv_up (mv_up x t 0 1) t 4 (xs_due π x t u)) t 7 (x 8 0) t 4 = xs_due π x t u := by simp [mv_up]
  obtain ⟨⟨τ, hτ2, hτ⟩, -, h07, hT⟩ := id h
  have hdd : (if π t 2 = 99 then (9999 : Int32) else x 8 0 + π t 2) = 9999 ∨ ∃ d, 0 < d ∧ d < 9999 ∧ (if π t 2 = 99 then (9999 : Int32) else x 8 0 + π t 2) = nI d := by
    rcases (hp.2.2.2 t ht).2.2.1 with q | ⟨d, d1, d2, d3⟩
    · exact Or.inl (by rw [if_pos q])
    · by_cases q : π t 2 = 99
      · exact Or.inl (by rw [if_pos q])
      · exact Or.inr ⟨τ + d, by omega, by omega, by rw [if_neg q, hτ, d3, nI_add]⟩
  have hdue : (xs_due π x t u = 9999 ∨ ∃ d, d < 9999 ∧ xs_due π x t u = nI d) ∧ xs_due π x t u ≠ 0 := by
    have key : ∀ z : Int32, (z = 9999 ∨ ∃ d, 0 < d ∧ d < 9999 ∧ z = nI d) → (z = 9999 ∨ ∃ d, d < 9999 ∧ z = nI d) ∧ z ≠ 0 := by
      rintro z (q | ⟨d, d1, d2, d3⟩)
      · exact ⟨Or.inl q, by rw [q]; decide⟩
      · exact ⟨Or.inr ⟨d, d2, d3⟩, by rw [d3]; exact nI_ne0 d1 (by omega)⟩
    apply key
    unfold xs_due
    generalize (if π t 2 = 99 then (9999 : Int32) else x 8 0 + π t 2) = z at hdd ⊢
    split
    · exact hdd
    · rcases (hT u hu).2.2.2.2.2.1 with q | ⟨d, d1, d2⟩
      · exact Or.inl q
      · refine Or.inr ⟨d, ?_, d1, d2⟩
        rcases Nat.eq_zero_or_pos d with z | z
        · subst z; exact absurd d2 h4
        · exact z
  have h48 := ((hT t ht).run (a := 0) h0 (by decide)).2
  have h8 : x t 8 = -9 := Classical.byContradiction fun z => absurd (h48.mpr z) (by decide)
  refine h.one t (by rw [mv_upN 8 (by omega), mv_upN 8 (by omega), mv_upN 8 (by omega)]) (fun v _ hv => by rw [mv_upN v hv, mv_upN v hv, mv_upN v hv]) (fun _ => ?_) ?_
  · refine (hT t ht).of (Or.inr ⟨⟨1, by decide, by simp [mv_up]; rfl, ?_, ?_⟩, ?_, ?_⟩) (Or.inl (e 9 (by decide) (by decide) (by decide))) (Or.inl ⟨e 2 (by decide) (by decide) (by decide), e 3 (by decide) (by decide) (by decide)⟩) (Or.inl (e 5 (by decide) (by decide) (by decide))) (Or.inl (e 6 (by decide) (by decide) (by decide))) (Or.inr ⟨τ, by omega, by rw [mv_upe]; exact hτ⟩)
    · rw [e4]
      exact ⟨fun q => absurd q (by decide), fun q => absurd q hdue.2⟩
    · rw [e 8 (by decide) (by decide) (by decide)]
      exact ⟨fun q => absurd q (by decide), fun q => absurd h8 q⟩
    · rw [e4]; exact hdue.1
    · rw [e 8 (by decide) (by decide) (by decide)]; exact Or.inl h8
  · rw [mv_upN 0 (by omega), mv_upN 0 (by omega), mv_upN 0 (by omega)]; exact h07
theorem xs_bg_80 {t u : Nat} {π x : xs_X} (ht : t < 8) : xs_bg π x t u 8 0 = x 8 0 := by
  unfold xs_bg
  rw [xs_tr_80, mv_upN 8 (by omega), mv_upN 8 (by omega), mv_upN 8 (by omega)]
theorem xs_W.bc {n t : Nat} {π x : xs_X} (h : xs_W n π x) (hp : pl_W n π) (ht : t < n) (h4 : x t 4 ≠ 0) : xs_W n π (xs_bc n π x t) ∧ xs_bc n π x t 8 0 = x 8 0 := by
  have hn := hp.2.1
  unfold xs_bc
  cases hf : xs_fc n π x t with
  | none => exact ⟨h, rfl⟩
  | some c =>
    have hc := List.find?_range_eq_some.mp hf
    have hc1 := of_decide_eq_true hc.1
    have hcn : c < n := List.mem_range.mp hc.2.1
    exact ⟨h.bg hp hcn ht hc1.2.2 h4 hc1.1, xs_bg_80 (by omega)⟩
/-- one more operation is behind it, nothing is half worked -/
theorem xs_W.beh {n t b s : Nat} {π x : xs_X} (h : xs_W n π x) (ht : t < n) (hn : n ≤ 8) (hb : x t 2 = nI b) (hs : π t 1 = nI s) (hbs : b < s) (hs6 : s ≤ 6) (h3 : x t 3 = 0) : xs_W n π (xs_beh x t) := by
  unfold xs_beh
  have e : ∀ k, k ≠ 2 → mv_up x t 2 (x t 2 + 1) t k = x t k := fun k a => by simp [mv_up, a]
  refine h.one t (by rw [mv_upN 8 (by omega)]) (fun u _ hu => by rw [mv_upN u hu]) (fun _ => ?_) ?_
  · exact (h.2.2.2 t ht).of (Or.inl ⟨e 0 (by decide), e 4 (by decide), e 8 (by decide)⟩) (Or.inl (e 9 (by decide))) (Or.inr ⟨b + 1, s, by omega, hs6, hs, by rw [mv_upe, hb, nI_1], Or.inl (by rw [e 3 (by decide)]; exact h3)⟩) (Or.inl (e 5 (by decide))) (Or.inl (e 6 (by decide))) (Or.inl (e 7 (by decide)))
  · by_cases h0 : (0 : Nat) = t
    · subst h0; rw [e 7 (by decide)]; exact h.2.2.1
    · rw [mv_upN 0 h0]; exact h.2.2.1
theorem xs_W.wkd {n t : Nat} {π x : xs_X} {v : Int32} (h : xs_W n π x) (ht : t < n) (hn : n ≤ 8) (hv : ∃ b s, b ≤ s ∧ s ≤ 6 ∧ π t 1 = nI s ∧ x t 2 = nI b ∧ (v = 0 ∨ (b < s ∧ π t (6 + 2 * b) = 119 ∧ ∃ w k, w < k ∧ k ≤ 9 ∧ v = nI w ∧ π t (7 + 2 * b) = nI k))) : xs_W n π (mv_up x t 3 v) := by
  have e : ∀ k, k ≠ 3 → mv_up x t 3 v t k = x t k := fun k a => by simp [mv_up, a]
  refine h.one t (by rw [mv_upN 8 (by omega)]) (fun u _ hu => by rw [mv_upN u hu]) (fun _ => ?_) ?_
  · refine (h.2.2.2 t ht).of (Or.inl ⟨e 0 (by decide), e 4 (by decide), e 8 (by decide)⟩) (Or.inl (e 9 (by decide))) (Or.inr ?_) (Or.inl (e 5 (by decide))) (Or.inl (e 6 (by decide))) (Or.inl (e 7 (by decide)))
    rw [e 2 (by decide), mv_upe]; exact hv
  · by_cases h0 : (0 : Nat) = t
    · subst h0; rw [e 7 (by decide)]; exact h.2.2.1
    · rw [mv_upN 0 h0]; exact h.2.2.1
theorem xs_W.wk {n t b s : Nat} {π x : xs_X} (h : xs_W n π x) (hp : pl_W n π) (ht : t < n) (h1 : x t 0 = 1) (hb : x t 2 = nI b) (hs : π t 1 = nI s) (hbs : b < s) (hs6 : s ≤ 6) : xs_W n π (xs_wk n π x t) ∧ xs_wk n π x t 8 0 = x 8 0 := by
  have hn := hp.2.1
  have hcl : (x t 2).toNatClampNeg = b := by rw [hb]; exact nI_clamp (by omega)
  have hrun := (h.2.2.2 t ht).run (a := 1) h1 (by decide)
  have h4 : x t 4 ≠ 0 := fun z => absurd (hrun.1.mpr z) (by decide)
  obtain ⟨b', s', hbs', hs6', hs', hb', hw⟩ := (h.2.2.2 t ht).2.2.1
  have ebb : b' = b := (nI_eq (by omega) (by omega)).mp (hb'.symm.trans hb)
  subst ebb
  have h3 : ¬ π t (6 + 2 * b') = 119 → x t 3 = 0 := fun q => hw.resolve_right fun z => q z.2.1
  unfold xs_wk
  rw [hcl]
  split
  · rename_i h119
    obtain ⟨s2, hs26, hs2, hops⟩ := (hp.2.2.2 t ht).2.1
    have es : s2 = s := (nI_eq (by omega) (by omega)).mp (hs2.symm.trans hs)
    subst es
    have hk : ∃ k, 1 ≤ k ∧ k ≤ 9 ∧ π t (7 + 2 * b') = nI k := by
      rcases hops b' hbs with ⟨-, q⟩ | q | q | q
      · exact q
      · rw [q] at h119; exact absurd h119 (by decide)
      · rw [q] at h119; exact absurd h119 (by decide)
      · rw [q] at h119; exact absurd h119 (by decide)
    obtain ⟨k, k1, k9, hk⟩ := hk
    have hwl : ∃ w, w < k ∧ x t 3 = nI w := by
      rcases hw with q | ⟨-, -, w, k', q1, q2, q3, q4⟩
      · exact ⟨0, by omega, q⟩
      · have : k' = k := (nI_eq (by omega) (by omega)).mp (q4.symm.trans hk)
        exact ⟨w, by omega, q3⟩
    obtain ⟨w, hwk, hw3⟩ := hwl
    split
    · have h0 := h.wkd (v := 0) ht hn ⟨b', s2, by omega, hs6, hs, hb, Or.inl rfl⟩
      exact ⟨h0.beh ht hn (by simp [mv_up]; exact hb) hs hbs hs6 (by simp [mv_up]), by simp only [xs_beh]; rw [mv_upN 8 (by omega), mv_upN 8 (by omega)]⟩
    · rename_i hne
      have : w + 1 ≠ k := fun q => hne (by rw [hw3, hk, nI_1, q])
      exact ⟨h.wkd ht hn ⟨b', s2, by omega, hs6, hs, hb, Or.inr ⟨hbs, h119, w + 1, k, by omega, k9, by rw [hw3, nI_1], hk⟩⟩, by rw [mv_upN 8 (by omega)]⟩
  · rename_i h119
    have hbe := h.beh ht hn hb hs hbs hs6 (h3 h119)
    have e80 : xs_beh x t 8 0 = x 8 0 := by unfold xs_beh; rw [mv_upN 8 (by omega)]
    split
    · have := hbe.bc hp ht (by unfold xs_beh; simp [mv_up]; exact h4)
      exact ⟨this.1, this.2.trans e80⟩
    · split
      · split
        · exact ⟨h, rfl⟩
        · exact ⟨hbe, e80⟩
      · split
        · exact ⟨hbe.ask hn, by rw [xs_ask_hi hn]; exact e80⟩
        · exact ⟨(h.cd ht hn).cl ht hn (Or.inl (by rw [xs_cd_col (by omega)]; exact h1)), by rw [xs_cl_80 (by omega) hn, xs_cd_ne (by omega)]⟩
theorem xs_W.mo {n t : Nat} {π x : xs_X} (h : xs_W n π x) (hp : pl_W n π) (ht : t < n) (h1 : x t 0 = 1) : xs_W n π (xs_mo n π x t) ∧ xs_mo n π x t 8 0 = x 8 0 := by
  have hn := hp.2.1
  obtain ⟨b, s, hbs, hs6, hs, hb, -⟩ := (h.2.2.2 t ht).2.2.1
  unfold xs_mo
  split
  · exact ⟨h.cl ht hn (Or.inl h1), xs_cl_80 (by omega) hn⟩
  · split
    · exact ⟨h.cl ht hn (Or.inl h1), xs_cl_80 (by omega) hn⟩
    · rename_i hne
      refine h.wk hp ht h1 hb hs ?_ hs6
      have : b ≠ s := fun q => hne (by rw [hb, hs, q])
      omega
theorem xs_gl_ne {x : xs_X} {t u v : Nat} (h : v ≠ u) : ∀ k, xs_gl x t u k v = x v
  | 0 => rfl
  | k + 1 => by
    show xs_cd _ u _ v = x v
    rw [xs_cd_ne h, xs_gl_ne h k]
theorem xs_W.gl {n t u : Nat} {π x : xs_X} (h : xs_W n π x) (hu : u < n) (hn : n ≤ 8) : ∀ k, xs_W n π (xs_gl x t u k)
  | 0 => h
  | k + 1 => (xs_W.gl h hu hn k).cd hu hn
theorem xs_gl_col {x : xs_X} {t u j : Nat} (h : j < 9) : ∀ k, xs_gl x t u k u j = x u j
  | 0 => rfl
  | k + 1 => by
    show xs_cd _ u _ u j = x u j
    rw [xs_cd_col h, xs_gl_col h k]
theorem xs_W.tf {n u : Nat} {π x : xs_X} (h : xs_W n π x) (hu : u < n) (hn : n ≤ 8) : xs_W n π (xs_tf n π x u) ∧ xs_tf n π x u 8 0 = x 8 0 := by
  unfold xs_tf
  split
  · rename_i q
    exact ⟨h.cl hu hn (Or.inl q.1), xs_cl_80 (by omega) hn⟩
  · split
    · have e : ∀ k, k ≠ 1 → mv_up x u 1 1 u k = x u k := fun k a => by simp [mv_up, a]
      refine ⟨xs_W.ask (h.one u (by rw [mv_upN 8 (by omega)]) (fun v _ hv => by rw [mv_upN v hv]) (fun _ => ?_) ?_) hn, by rw [xs_ask_hi hn, mv_upN 8 (by omega)]⟩
      · exact (h.2.2.2 u hu).of (Or.inl ⟨e 0 (by decide), e 4 (by decide), e 8 (by decide)⟩) (Or.inl (e 9 (by decide))) (Or.inl ⟨e 2 (by decide), e 3 (by decide)⟩) (Or.inl (e 5 (by decide))) (Or.inl (e 6 (by decide))) (Or.inl (e 7 (by decide)))
      · by_cases h0 : (0 : Nat) = u
        · subst h0; rw [e 7 (by decide)]; exact h.2.2.1
        · rw [mv_upN 0 h0]; exact h.2.2.1
    · exact ⟨h, rfl⟩
theorem xs_W.en0 {n t : Nat} {π x : xs_X} (h : xs_W n π x) (ht : t < n) (hn : n ≤ 8) (h2 : x t 0 = 2) : xs_W n π (xs_tr (mv_up (mv_up x t 0 3) t 8 (x 8 0)) t 2) := by
  refine xs_W.tr ?_ hn
  have e : ∀ k, k ≠ 0 → k ≠ 8 → mv_up (mv_up x t 0 3) t 8 (x 8 0) t k = x t k := fun k a b => by simp [mv_up, a, b]
  obtain ⟨⟨τ, hτ2, hτ⟩, -, h07, hT⟩ := id h
  have h4 : x t 4 ≠ 0 := fun z => absurd (((hT t ht).run (a := 2) h2 (by decide)).1.mpr z) (by decide)
  refine h.one t (by rw [mv_upN 8 (by omega), mv_upN 8 (by omega)]) (fun u _ hu => by rw [mv_upN u hu, mv_upN u hu]) (fun _ => ?_) ?_
  · refine (hT t ht).of (Or.inr ⟨⟨3, by decide, by simp [mv_up]; rfl, ?_, ?_⟩, ?_, ?_⟩) (Or.inl (e 9 (by decide) (by decide))) (Or.inl ⟨e 2 (by decide) (by decide), e 3 (by decide) (by decide)⟩) (Or.inl (e 5 (by decide) (by decide))) (Or.inl (e 6 (by decide) (by decide))) (Or.inl (e 7 (by decide) (by decide)))
    · rw [e 4 (by decide) (by decide)]
      exact ⟨fun q => absurd q (by decide), fun q => absurd q h4⟩
    · rw [mv_upe, hτ]
      refine ⟨fun _ q => ?_, fun _ => rfl⟩
      have h1 := nI_toInt (n := τ) (by omega)
      rw [q] at h1
      have h2 : (-9 : Int32).toInt = -9 := by decide
      omega
    · rw [e 4 (by decide) (by decide)]; exact (hT t ht).2.2.2.2.2.1
    · rw [mv_upe]; exact Or.inr ⟨τ, by omega, hτ⟩
  · by_cases h0 : (0 : Nat) = t
    · subst h0; rw [e 7 (by decide) (by decide)]; exact h07
    · rw [mv_upN 0 h0, mv_upN 0 h0]; exact h07
theorem xs_W.en {n t : Nat} {π x : xs_X} (h : xs_W n π x) (hp : pl_W n π) (ht : t < n) (h2 : x t 0 = 2) : xs_W n π (xs_en n π x t) ∧ xs_en n π x t 8 0 = x 8 0 := by
  have hn := hp.2.1
  have e80 : xs_tr (mv_up (mv_up x t 0 3) t 8 (x 8 0)) t 2 8 0 = x 8 0 := by rw [xs_tr_80, mv_upN 8 (by omega), mv_upN 8 (by omega)]
  unfold xs_en
  split
  · rename_i q
    obtain ⟨u, hut, hu⟩ := (hp.2.2.2 t ht).1 q.1
    have hcl : (π t 0).toNatClampNeg = u := by rw [hu]; exact nI_clamp (by omega)
    rw [hcl]
    have := ((h.en0 ht hn h2).gl (t := t) (u := u) (by omega) hn (x t 9).toNatClampNeg).tf (by omega : u < n) hn
    exact ⟨this.1, this.2.trans (by rw [xs_gl_ne (by omega)]; exact e80)⟩
  · exact ⟨h.en0 ht hn h2, e80⟩
theorem xs_W.cc {n t : Nat} {π x : xs_X} (h : xs_W n π x) (ht : t < n) (hn : n ≤ 8) : xs_W n π (xs_cc π x t) ∧ xs_cc π x t 8 = x 8 ∧ ∀ k, k ≠ 6 → xs_cc π x t t k = x t k := by
  unfold xs_cc
  split
  · rename_i hlt
    have e : ∀ k, k ≠ 6 → mv_up x t 6 (x t 6 + 1) t k = x t k := fun k a => by simp [mv_up, a]
    refine ⟨h.one t (by rw [mv_upN 8 (by omega)]) (fun u _ hu => by rw [mv_upN u hu]) (fun _ => ?_) ?_, by rw [mv_upN 8 (by omega)], e⟩
    · obtain ⟨c, k, hck, hk5, hc, hk⟩ := (h.2.2.2 t ht).2.2.2.2.1
      rw [hc, hk] at hlt
      have := (nI_ltI (by omega) (by omega)).mp hlt
      exact (h.2.2.2 t ht).of (Or.inl ⟨e 0 (by decide), e 4 (by decide), e 8 (by decide)⟩) (Or.inl (e 9 (by decide))) (Or.inl ⟨e 2 (by decide), e 3 (by decide)⟩) (Or.inl (e 5 (by decide))) (Or.inr ⟨c + 1, k, by omega, hk5, by rw [mv_upe, hc, nI_1], hk⟩) (Or.inl (e 7 (by decide)))
    · by_cases h0 : (0 : Nat) = t
      · subst h0; rw [e 7 (by decide)]; exact h.2.2.1
      · rw [mv_upN 0 h0]; exact h.2.2.1
  · exact ⟨h, rfl, fun _ _ => rfl⟩
theorem xs_W.cu {n t : Nat} {π x : xs_X} (h : xs_W n π x) (hp : pl_W n π) (ht : t < n) (h2 : x t 0 = 2) : xs_W n π (xs_cu n π x t) ∧ xs_cu n π x t 8 0 = x 8 0 := by
  have hn := hp.2.1
  obtain ⟨q1, q2, q3⟩ := h.cc ht hn
  unfold xs_cu
  split
  · have := q1.en hp ht (by rw [q3 0 (by decide)]; exact h2)
    exact ⟨this.1, this.2.trans (by rw [q2])⟩
  · exact ⟨q1, by rw [q2]⟩
theorem xs_W.p1 {n t : Nat} {π x : xs_X} (h : xs_W n π x) (hp : pl_W n π) (ht : t < n) : xs_W n π (xs_p1 n π x t) ∧ xs_p1 n π x t 8 0 = x 8 0 := by
  have hn := hp.2.1
  unfold xs_p1
  split
  · rename_i q
    exact ⟨(h.cd ht hn).cl ht hn (Or.inl (by rw [xs_cd_col (by omega)]; exact q.1)), by rw [xs_cl_80 (by omega) hn, xs_cd_ne (by omega)]⟩
  · exact ⟨h, rfl⟩
theorem xs_W.p2 {n t : Nat} {π x : xs_X} (h : xs_W n π x) (hp : pl_W n π) (ht : t < n) : xs_W n π (xs_p2 n π x t) ∧ xs_p2 n π x t 8 0 = x 8 0 := by
  unfold xs_p2
  split
  · rename_i q
    exact h.mo hp ht q.1
  · exact ⟨h, rfl⟩
theorem xs_W.p3 {n t : Nat} {π x : xs_X} (h : xs_W n π x) (hp : pl_W n π) (ht : t < n) : xs_W n π (xs_p3 n π x t) ∧ xs_p3 n π x t 8 0 = x 8 0 := by
  unfold xs_p3
  split
  · rename_i q
    exact h.cu hp ht q.1
  · exact ⟨h, rfl⟩
theorem xs_W.u {n : Nat} {π x : xs_X} {f : xs_X → Nat → xs_X} (hf : ∀ y t, xs_W n π y → t < n → xs_W n π (f y t) ∧ f y t 8 0 = y 8 0) (h : xs_W n π x) : ∀ k, k ≤ n → xs_W n π (xs_u f x k) ∧ xs_u f x k 8 0 = x 8 0
  | 0, _ => ⟨h, rfl⟩
  | k + 1, hk => by
    have ih := xs_W.u hf h k (by omega)
    have := hf (xs_u f x k) k ih.1 (by omega)
    exact ⟨this.1, this.2.trans ih.2⟩
theorem xs_W.d {n : Nat} {π : xs_X} {f : xs_X → Nat → xs_X} (hf : ∀ y t, xs_W n π y → t < n → xs_W n π (f y t) ∧ f y t 8 0 = y 8 0) : ∀ k x, xs_W n π x → k ≤ n → xs_W n π (xs_d f k x) ∧ xs_d f k x 8 0 = x 8 0
  | 0, x, h, _ => ⟨h, rfl⟩
  | k + 1, x, h, hk => by
    have := hf x k h (by omega)
    have ih := xs_W.d hf k (f x k) this.1 (by omega)
    exact ⟨ih.1, ih.2.trans this.2⟩
theorem xs_W.tick {n τ : Nat} {π x : xs_X} (h : xs_W n π x) (hn : n ≤ 8) (hτ : x 8 0 = nI τ) (hτ2 : τ < 2000) : xs_W n π (mv_up x 8 0 (x 8 0 + 1)) := by
  obtain ⟨-, h2, h3, h4⟩ := h
  refine ⟨⟨τ + 1, by omega, by rw [mv_upe, hτ, nI_1]⟩, by simpa [mv_up] using h2, by simpa [mv_up] using h3, fun u hu => by rw [mv_upN u (by omega)]; exact h4 u hu⟩
theorem xs_W.tk {n τ : Nat} {π x : xs_X} (h : xs_W n π x) (hp : pl_W n π) (hτ : x 8 0 = nI τ) (hτ2 : τ < 2000) : xs_W n π (xs_tk n π x) ∧ xs_tk n π x 8 0 = nI (τ + 1) := by
  have h0 := h.tick hp.2.1 hτ hτ2
  have h1 := xs_W.u (fun y t hy ht => hy.p1 hp ht) h0 n (Nat.le_refl n)
  have h2 := xs_W.u (fun y t hy ht => hy.p2 hp ht) h1.1 n (Nat.le_refl n)
  have h3 := xs_W.d (fun y t hy ht => hy.p3 hp ht) n _ h2.1 (Nat.le_refl n)
  exact ⟨h3.1, (h3.2.trans (h2.2.trans h1.2)).trans (by rw [mv_upe, hτ, nI_1])⟩
