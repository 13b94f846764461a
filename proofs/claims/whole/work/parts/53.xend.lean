/-! what is ended stays as it is; what ends later has a later end -/
def xs_sm (t : Nat) (x y : xs_X) : Prop := y t 0 = x t 0 ∧ y t 1 = x t 1 ∧ y t 8 = x t 8 ∧ y 8 0 = x 8 0
theorem xs_sm.rf {t : Nat} {x : xs_X} : xs_sm t x x := ⟨rfl, rfl, rfl, rfl⟩
theorem xs_sm.tr {t : Nat} {x y z : xs_X} (h : xs_sm t x y) (h2 : xs_sm t y z) : xs_sm t x z := ⟨h2.1.trans h.1, h2.2.1.trans h.2.1, h2.2.2.1.trans h.2.2.1, h2.2.2.2.trans h.2.2.2⟩
theorem xs_sm.up {t u k : Nat} {x : xs_X} {v : Int32} (h : t ≠ u ∨ (k ≠ 0 ∧ k ≠ 1 ∧ k ≠ 8)) (hu : u < 8) : xs_sm t x (mv_up x u k v) := by
  have e : ∀ j, (j = 0 ∨ j = 1 ∨ j = 8) → mv_up x u k v t j = x t j := fun j hj => by
    have : ¬ (t = u ∧ j = k) := by omega
    simp only [mv_up, this, if_false]
  exact ⟨e 0 (by omega), e 1 (by omega), e 8 (by omega), by rw [mv_upN 8 (by omega)]⟩
theorem xs_sm.trc {t u : Nat} {x : xs_X} {w : Int32} (ht : t < 8) : xs_sm t x (xs_tr x u w) := by
  have e : ∀ j, xs_tr x u w t j = x t j := fun j => by
    unfold xs_tr
    split
    · simp only [mv_up, show ¬ t = 8 by omega, show ¬ t = 9 + (x 8 1).toNatClampNeg by omega, false_and, if_false]
    · rfl
  refine ⟨e 0, e 1, e 8, ?_⟩
  unfold xs_tr
  split
  · simp only [mv_up, show ¬ 8 = 9 + (x 8 1).toNatClampNeg by omega, show ¬ (0 = 1) by decide, false_and, and_false, if_false]
  · rfl
theorem xs_sm.cd {t u : Nat} {x : xs_X} {c : Int32} (hu : u < 8) : xs_sm t x (xs_cd x u c) := by
  unfold xs_cd
  split
  · exact (xs_sm.up (Or.inr ⟨by omega, by omega, by omega⟩) hu).tr (xs_sm.up (Or.inr ⟨by decide, by decide, by decide⟩) hu)
  · exact xs_sm.rf
theorem xs_sm.ask {t u n : Nat} {π x : xs_X} : xs_sm t x (xs_ask n π x u) := by
  refine ⟨?_, ?_, ?_, ?_⟩ <;> simp [xs_ask]
def xs_E (t : Nat) (x y : xs_X) : Prop := (y t 0 = 3 → (x t 0 = 3 ∧ y t 8 = x t 8) ∨ y t 8 = x 8 0) ∧ (x t 0 = 3 → y t 0 = 3 ∧ y t 1 = x t 1 ∧ y t 8 = x t 8) ∧ y 8 0 = x 8 0
theorem xs_sm.E {t : Nat} {x y : xs_X} (h : xs_sm t x y) : xs_E t x y := ⟨fun q => Or.inl ⟨h.1.symm.trans q, h.2.2.1⟩, fun q => ⟨h.1.trans q, h.2.1, h.2.2.1⟩, h.2.2.2⟩
theorem xs_E.ch {t : Nat} {x y : xs_X} (h1 : x t 0 ≠ 3) (h2 : y t 0 ≠ 3) (h3 : y 8 0 = x 8 0) : xs_E t x y := ⟨fun q => absurd q h2, fun q => absurd q h1, h3⟩
theorem xs_E.tr {t : Nat} {x y z : xs_X} (h : xs_E t x y) (h2 : xs_E t y z) : xs_E t x z := by
  refine ⟨fun q => ?_, fun q => ?_, h2.2.2.trans h.2.2⟩
  · rcases h2.1 q with ⟨a, b⟩ | a
    · rcases h.1 a with ⟨c, d⟩ | c
      · exact Or.inl ⟨c, b.trans d⟩
      · exact Or.inr (b.trans c)
    · exact Or.inr (a.trans h.2.2)
  · obtain ⟨a, b, c⟩ := h.2.1 q
    obtain ⟨d, e, f⟩ := h2.2.1 a
    exact ⟨d, e.trans b, f.trans c⟩
theorem xs_E.cl {t u n : Nat} {π x : xs_X} {o : Int32} (ht : t < 8) (hu : u < 8) (h : x u 0 ≠ 3) : xs_E t x (xs_cl n π x u o) := by
  unfold xs_cl
  have hm : ∀ v : Int32, xs_E t x (mv_up (mv_up x u 0 2) u 1 v) := by
    intro v
    by_cases q : t = u
    · subst q
      refine xs_E.ch h ?_ ?_
      · simp [mv_up]
      · rw [mv_upN 8 (by omega), mv_upN 8 (by omega)]
    · exact ((xs_sm.up (Or.inl q) hu).tr (xs_sm.up (Or.inl q) hu)).E
  split
  · exact ((hm _).tr xs_sm.ask.E).tr (xs_sm.trc ht).E
  · exact (hm _).tr (xs_sm.trc ht).E
theorem xs_E.p1 {t u n : Nat} {π x : xs_X} (ht : t < 8) (hu : u < 8) : xs_E t x (xs_p1 n π x u) := by
  unfold xs_p1
  split
  · rename_i q
    have c : xs_sm u x (xs_cd x u 10) := xs_sm.cd hu
    exact (xs_sm.cd hu).E.tr (xs_E.cl ht hu (by rw [c.1, q.1]; decide))
  · exact xs_sm.rf.E
theorem xs_E.bc {t u n : Nat} {π x : xs_X} (ht : t < 8) (hn : n ≤ 8) : xs_E t x (xs_bc n π x u) := by
  unfold xs_bc
  cases hc : xs_fc n π x u with
  | none => exact xs_sm.rf.E
  | some c =>
    unfold xs_fc at hc
    have h1 := List.find?_some hc
    have h2 := List.mem_of_find?_eq_some hc
    have hcn : c < n := List.mem_range.mp h2
    have h0 : x c 0 = 0 := (of_decide_eq_true h1).2.2
    show xs_E t x (xs_bg π x c u)
    unfold xs_bg
    refine xs_E.tr ?_ (xs_sm.trc ht).E
    by_cases q : t = c
    · subst q
      refine xs_E.ch (by rw [h0]; decide) ?_ ?_
      · simp [mv_up]
      · rw [mv_upN 8 (by omega), mv_upN 8 (by omega), mv_upN 8 (by omega)]
    · exact (((xs_sm.up (Or.inl q) (by omega)).tr (xs_sm.up (Or.inl q) (by omega))).tr (xs_sm.up (Or.inl q) (by omega))).E
theorem xs_sm.beh {t u : Nat} {x : xs_X} (hu : u < 8) : xs_sm t x (xs_beh x u) := xs_sm.up (Or.inr ⟨by decide, by decide, by decide⟩) hu
theorem xs_E.wk {t u n : Nat} {π x : xs_X} (ht : t < 8) (hu : u < 8) (hn : n ≤ 8) (h : x u 0 ≠ 3) : xs_E t x (xs_wk n π x u) := by
  have u3 : ∀ v : Int32, xs_sm t x (mv_up x u 3 v) := fun v => xs_sm.up (Or.inr ⟨by decide, by decide, by decide⟩) hu
  unfold xs_wk
  split
  · split
    · exact ((u3 0).tr (xs_sm.beh hu)).E
    · exact (u3 _).E
  · split
    · exact (xs_sm.beh hu).E.tr (xs_E.bc ht hn)
    · split
      · split
        · exact xs_sm.rf.E
        · exact (xs_sm.beh hu).E
      · split
        · exact ((xs_sm.beh hu).tr xs_sm.ask).E
        · exact (xs_sm.cd hu).E.tr (xs_E.cl ht hu (by rw [(xs_sm.cd (t := u) hu).1]; exact h))
theorem xs_E.p2 {t u n : Nat} {π x : xs_X} (ht : t < 8) (hu : u < 8) (hn : n ≤ 8) : xs_E t x (xs_p2 n π x u) := by
  unfold xs_p2
  split
  · rename_i q
    have h : x u 0 ≠ 3 := by rw [q.1]; decide
    unfold xs_mo
    split
    · exact xs_E.cl ht hu h
    · split
      · exact xs_E.cl ht hu h
      · exact xs_E.wk ht hu hn h
  · exact xs_sm.rf.E
theorem xs_E.tf {t u n : Nat} {π x : xs_X} (ht : t < 8) (hu : u < 8) : xs_E t x (xs_tf n π x u) := by
  unfold xs_tf
  split
  · rename_i q
    exact xs_E.cl ht hu (by rw [q.1]; decide)
  · split
    · rename_i q
      refine xs_E.tr ?_ xs_sm.ask.E
      by_cases e : t = u
      · subst e
        refine xs_E.ch (by rw [q.1]; decide) ?_ ?_
        · rw [show mv_up x t 1 1 t 0 = x t 0 by simp [mv_up], q.1]; decide
        · rw [mv_upN 8 (by omega)]
      · exact (xs_sm.up (Or.inl e) hu).E
    · exact xs_sm.rf.E
theorem xs_sm.gl {t u v : Nat} {x : xs_X} (hv : v < 8) : ∀ k, xs_sm t x (xs_gl x u v k)
  | 0 => xs_sm.rf
  | k + 1 => (xs_sm.gl hv k).tr (xs_sm.cd hv)
theorem xs_E.p3 {t u n : Nat} {π x : xs_X} (ht : t < 8) (hn : n ≤ 8) (hp : pl_W n π) (hu : u < n) : xs_E t x (xs_p3 n π x u) := by
  have hu8 : u < 8 := by omega
  unfold xs_p3
  split
  · rename_i q
    have hcc : ∀ t, xs_sm t x (xs_cc π x u) := fun t => by
      unfold xs_cc
      split
      · exact xs_sm.up (Or.inr ⟨by decide, by decide, by decide⟩) hu8
      · exact xs_sm.rf
    have h2 : xs_cc π x u u 0 = 2 := (hcc u).1.trans q.1
    unfold xs_cu
    split
    · refine (hcc t).E.tr ?_
      generalize xs_cc π x u = y at h2
      have he : xs_E t y (xs_tr (mv_up (mv_up y u 0 3) u 8 (y 8 0)) u 2) := by
        refine xs_E.tr ?_ (xs_sm.trc ht).E
        by_cases e : t = u
        · subst e
          refine ⟨fun _ => Or.inr (by rw [mv_upe]), fun a => absurd a (by rw [h2]; decide), by rw [mv_upN 8 (by omega), mv_upN 8 (by omega)]⟩
        · exact ((xs_sm.up (Or.inl e) hu8).tr (xs_sm.up (Or.inl e) hu8)).E
      unfold xs_en
      split
      · rename_i q2
        obtain ⟨p, p1, p2⟩ := (hp.2.2.2 u hu).1 q2.1
        have ep : (π u 0).toNatClampNeg = p := by rw [p2]; exact nI_clamp (by omega)
        rw [ep]
        exact (he.tr (xs_sm.gl (by omega) _).E).tr (xs_E.tf ht (by omega))
      · exact he
    · exact (hcc t).E
  · exact xs_sm.rf.E
theorem xs_E.u {t : Nat} {f : xs_X → Nat → xs_X} {x : xs_X} : ∀ k, (∀ y u, u < k → xs_E t y (f y u)) → xs_E t x (xs_u f x k)
  | 0, _ => xs_sm.rf.E
  | k + 1, h => (xs_E.u k (fun y u hu => h y u (by omega))).tr (h _ k (by omega))
theorem xs_E.d {t : Nat} {f : xs_X → Nat → xs_X} : ∀ (k : Nat) (x : xs_X), (∀ y u, u < k → xs_E t y (f y u)) → xs_E t x (xs_d f k x)
  | 0, _, _ => xs_sm.rf.E
  | k + 1, x, h => (h x k (by omega)).tr (xs_E.d k _ (fun y u hu => h y u (by omega)))
theorem xs_E.tk {t n : Nat} {π x : xs_X} (ht : t < 8) (hp : pl_W n π) : xs_E t (mv_up x 8 0 (x 8 0 + 1)) (xs_tk n π x) := by
  have hn := hp.2.1
  unfold xs_tk
  exact ((xs_E.u n (fun y u hu => xs_E.p1 ht (by omega))).tr (xs_E.u n (fun y u hu => xs_E.p2 ht (by omega) hn))).tr (xs_E.d n _ (fun y u hu => xs_E.p3 ht hn hp hu))
/-- a tick keeps what is ended -/
theorem xs_tk_kept {t n : Nat} {π x : xs_X} (ht : t < 8) (hp : pl_W n π) (h : x t 0 = 3) : xs_tk n π x t 0 = 3 ∧ xs_tk n π x t 1 = x t 1 ∧ xs_tk n π x t 8 = x t 8 := by
  have := (xs_E.tk (x := x) ht hp).2.1
  rw [mv_upN t (by omega)] at this
  exact this h
theorem xs_tk_new {t n : Nat} {π x : xs_X} (ht : t < 8) (hp : pl_W n π) (h : x t 0 ≠ 3) (h2 : xs_tk n π x t 0 = 3) : xs_tk n π x t 8 = x 8 0 + 1 := by
  have := (xs_E.tk (x := x) ht hp).1 h2
  rw [mv_upN t (by omega), mv_upe] at this
  exact this.elim (fun a => absurd a.1 h) id
theorem xs_go_kept {t n u : Nat} {π : xs_X} (ht : t < 8) (hp : pl_W n π) : ∀ (k : Nat) (x : xs_X), x t 0 = 3 → xs_go n π u k x t 0 = 3 ∧ xs_go n π u k x t 1 = x t 1 ∧ xs_go n π u k x t 8 = x t 8
  | 0, x, h => ⟨h, rfl, rfl⟩
  | k + 1, x, h => by
    unfold xs_go
    split
    · exact ⟨h, rfl, rfl⟩
    · obtain ⟨a, b, c⟩ := xs_tk_kept ht hp h
      obtain ⟨d, e, f⟩ := xs_go_kept ht hp k _ a
      exact ⟨d, e.trans b, f.trans c⟩
theorem xs_go_t {t n : Nat} {π : xs_X} (ht : t < 8) (hp : pl_W n π) : ∀ (k : Nat) (x : xs_X), (xs_go n π t k x t 0 = 3 ↔ xs_go n π 0 k x t 0 = 3) ∧ (xs_go n π t k x t 0 = 3 → xs_go n π t k x t 1 = xs_go n π 0 k x t 1 ∧ xs_go n π t k x t 8 = xs_go n π 0 k x t 8)
  | 0, x => ⟨Iff.rfl, fun _ => ⟨rfl, rfl⟩⟩
  | k + 1, x => by
    by_cases h0 : x 0 0 = 3
    · have e : ∀ u, xs_go n π u (k + 1) x = x := fun u => by unfold xs_go; rw [if_pos (Or.inr h0)]
      rw [e t, e 0]
      exact ⟨Iff.rfl, fun _ => ⟨rfl, rfl⟩⟩
    · by_cases h3 : x t 0 = 3
      · have e : xs_go n π t (k + 1) x = x := by unfold xs_go; rw [if_pos (Or.inl h3)]
        obtain ⟨a, b, c⟩ := xs_go_kept (u := 0) ht hp (k + 1) x h3
        rw [e]
        exact ⟨⟨fun _ => a, fun _ => h3⟩, fun _ => ⟨b.symm, c.symm⟩⟩
      · have e1 : xs_go n π t (k + 1) x = xs_go n π t k (xs_tk n π x) := by rw [xs_go, if_neg (fun q => q.elim h3 h0)]
        have e2 : xs_go n π 0 (k + 1) x = xs_go n π 0 k (xs_tk n π x) := by rw [xs_go, if_neg (fun q => q.elim h0 h0)]
        rw [e1, e2]
        exact xs_go_t ht hp k _
theorem xs_go_late {t n : Nat} {π : xs_X} (ht : t < 8) (hp : pl_W n π) : ∀ (k τ : Nat) (x : xs_X), xs_W n π x → x 8 0 = nI τ → τ + k ≤ 2000 → x t 0 ≠ 3 → xs_go n π 0 k x t 0 = 3 → ∃ e, τ < e ∧ e ≤ τ + k ∧ xs_go n π 0 k x t 8 = nI e
  | 0, τ, x, _, _, _, h, h2 => absurd h2 h
  | k + 1, τ, x, hW, hτ, h2k, h, h2 => by
    unfold xs_go at h2 ⊢
    split
    · rename_i q
      rw [if_pos q] at h2
      exact absurd h2 h
    · rename_i q
      rw [if_neg q] at h2
      have hWt := hW.tk hp hτ (by omega)
      by_cases h3 : xs_tk n π x t 0 = 3
      · have e8 := xs_tk_new ht hp h h3
        obtain ⟨-, -, c⟩ := xs_go_kept (u := 0) ht hp k _ h3
        exact ⟨τ + 1, by omega, by omega, by rw [c, e8, hτ, nI_1]⟩
      · obtain ⟨e, e1, e2, e3⟩ := xs_go_late ht hp k (τ + 1) _ hWt.1 hWt.2 (by omega) h3 h2
        exact ⟨e, by omega, by omega, e3⟩
theorem xs_go_add {n : Nat} {π : xs_X} : ∀ (a b : Nat) (x : xs_X), xs_go n π 0 (a + b) x = xs_go n π 0 b (xs_go n π 0 a x)
  | 0, b, x => by rw [Nat.zero_add]; rfl
  | a + 1, b, x => by
    rw [show a + 1 + b = (a + b) + 1 by omega]
    by_cases h0 : x 0 0 = 3
    · have e : ∀ k, xs_go n π 0 k x = x := fun k => by
        cases k with
        | zero => rfl
        | succ k => unfold xs_go; rw [if_pos (Or.inr h0)]
      rw [e, e (a + 1), e]
    · rw [xs_go, if_neg (fun q => q.elim h0 h0), xs_go, if_neg (fun q => q.elim h0 h0)]
      exact xs_go_add a b _
theorem xs_go_tick {n : Nat} {π : xs_X} (hp : pl_W n π) : ∀ (k τ : Nat) (x : xs_X), xs_W n π x → x 8 0 = nI τ → τ + k ≤ 2000 → xs_go n π 0 k x 0 0 ≠ 3 → xs_go n π 0 k x 8 0 = nI (τ + k)
  | 0, τ, x, _, hτ, _, _ => hτ
  | k + 1, τ, x, hW, hτ, h2, h => by
    unfold xs_go at h ⊢
    split
    · rename_i q
      rw [if_pos q] at h
      exact absurd (q.elim id id) h
    · rename_i q
      rw [if_neg q] at h
      have hWt := hW.tk hp hτ (by omega)
      rw [xs_go_tick hp k (τ + 1) _ hWt.1 hWt.2 (by omega) h]
      congr 1
      omega
/-- whether a task had ended by a tick that both runs have seen -/
theorem xs_by {t n a s : Nat} {π x : xs_X} (ht : t < n) (hp : pl_W n π) (hW : xs_W n π x) (h0 : x 8 0 = nI 0) (hs : s ≤ a) (ha : a ≤ 60) : (xs_go n π 0 a x t 0 = 3 ∧ xs_go n π 0 a x t 8 ≤ nI s) ↔ (¬ xs_go n π 0 60 x t 8 = -9 ∧ xs_go n π 0 60 x t 8 ≤ nI s) := by
  have hn := hp.2.1
  have ht8 : t < 8 := by omega
  obtain ⟨b, rfl⟩ : ∃ b, b = 60 - a := ⟨_, rfl⟩
  have e60 : (60 : Nat) = a + (60 - a) := by omega
  have eadd : xs_go n π 0 60 x = xs_go n π 0 (60 - a) (xs_go n π 0 a x) := by
    rw [← xs_go_add, ← e60]
  have hWy := xs_W.go (t := 0) hp a 0 x hW h0 (by omega)
  have h3 : ∀ y, xs_W n π y → (y t 0 = 3 ↔ ¬ y t 8 = -9) := fun y hy => by
    obtain ⟨h, h1, h2, -, h4⟩ := (hy.2.2.2 t ht).1
    rw [h2]
    constructor
    · intro q
      exact h4.mp ((nI_eq (b := 3) (by omega) (by decide)).mp q)
    · intro q
      rw [h4.mpr q]; rfl
  rw [eadd]
  by_cases r3 : xs_go n π 0 a x 0 0 = 3
  · have e : xs_go n π 0 (60 - a) (xs_go n π 0 a x) = xs_go n π 0 a x := by
      cases hb : 60 - a with
      | zero => rfl
      | succ k => rw [xs_go, if_pos (Or.inl r3)]
    rw [e, h3 _ hWy]
  · have hτ := xs_go_tick hp a 0 x hW h0 (by omega) r3
    have hWz := xs_W.go (t := 0) hp (60 - a) (0 + a) _ hWy hτ (by omega)
    generalize xs_go n π 0 a x = y at hWy hτ hWz r3
    by_cases t3 : y t 0 = 3
    · obtain ⟨c1, -, c3⟩ := xs_go_kept (u := 0) ht8 hp (60 - a) y t3
      rw [c3, ← h3 y hWy]
    · constructor
      · intro q; exact absurd q.1 t3
      · rintro ⟨q1, q2⟩
        have q3 := (h3 _ hWz).mpr q1
        obtain ⟨e, e1, e2, e3⟩ := xs_go_late ht8 hp (60 - a) (0 + a) y hWy hτ (by omega) t3 q3
        rw [e3] at q2
        have := (nI_leI (a := e) (b := s) (by omega) (by omega)).mp q2
        omega
