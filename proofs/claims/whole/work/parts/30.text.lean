/-! the text and its tokens: w its letters, L how many; the token from place i on: where it starts, where it ends, its kind as the class has it (-1 the end, -2 a number, -3 none), its value -/
def tx_bl (w : Nat → Int32) (L : Nat) : Nat → Nat → Nat
  | 0, i => i
  | f + 1, i => if i < L ∧ w i = 32 then tx_bl w L f (i + 1) else i
def tx_isd (w : Nat → Int32) (L i : Nat) : Prop := i < L ∧ 48 ≤ w i ∧ w i ≤ 57
def tx_dg (w : Nat → Int32) (L : Nat) : Nat → Nat → Nat → Nat × Nat
  | 0, i, v => (i, v)
  | f + 1, i, v => if i < L ∧ 48 ≤ w i ∧ w i ≤ 57 then tx_dg w L f (i + 1) (if 99 < v then v else 10 * v + (w i).toNatClampNeg - 48) else (i, v)
def tk_s (w : Nat → Int32) (L i : Nat) : Nat := tx_bl w L (L + 1) i
def tk_d (w : Nat → Int32) (L i : Nat) : Nat × Nat := tx_dg w L (L + 1) (tk_s w L i) 0
def tk_e (w : Nat → Int32) (L i : Nat) : Nat := if tk_s w L i = L then L else if 48 ≤ w (tk_s w L i) ∧ w (tk_s w L i) ≤ 57 then (tk_d w L i).1 else tk_s w L i + 1
def tk_k (w : Nat → Int32) (L i : Nat) : Int32 := if tk_s w L i = L then -1 else if 48 ≤ w (tk_s w L i) ∧ w (tk_s w L i) ≤ 57 then (if 99 < (tk_d w L i).2 ∨ (w (tk_s w L i) = 48 ∧ 1 < (tk_d w L i).1 - tk_s w L i) then -3 else -2) else w (tk_s w L i)
def tk_v (w : Nat → Int32) (L i : Nat) : Nat := (tk_d w L i).2
def tx_W (w : Nat → Int32) (L : Nat) : Prop := L ≤ 120 ∧ ∀ j, j < L → ∃ k, k ≤ 255 ∧ w j = nI k
theorem tx_bl_le {w : Nat → Int32} {L : Nat} : ∀ f i, i ≤ L → i ≤ tx_bl w L f i ∧ tx_bl w L f i ≤ L
  | 0, i, h => ⟨Nat.le_refl i, h⟩
  | f + 1, i, h => by
    unfold tx_bl
    split
    · rename_i q
      have := tx_bl_le (w := w) f (i + 1) q.1
      exact ⟨by omega, this.2⟩
    · exact ⟨Nat.le_refl i, h⟩
theorem tx_dg_le {w : Nat → Int32} {L : Nat} : ∀ f i v, i ≤ L → i ≤ (tx_dg w L f i v).1 ∧ (tx_dg w L f i v).1 ≤ L
  | 0, i, v, h => ⟨Nat.le_refl i, h⟩
  | f + 1, i, v, h => by
    unfold tx_dg
    split
    · rename_i q
      have := tx_dg_le (w := w) f (i + 1) (if 99 < v then v else 10 * v + (w i).toNatClampNeg - 48) q.1
      exact ⟨by omega, this.2⟩
    · exact ⟨Nat.le_refl i, h⟩
theorem tk_s_le {w : Nat → Int32} {L i : Nat} (h : i ≤ L) : i ≤ tk_s w L i ∧ tk_s w L i ≤ L := tx_bl_le _ _ h
theorem tk_d_lt {w : Nat → Int32} {L i : Nat} (h : i ≤ L) (hs : tk_s w L i ≠ L) (hd : 48 ≤ w (tk_s w L i) ∧ w (tk_s w L i) ≤ 57) : tk_s w L i < (tk_d w L i).1 ∧ (tk_d w L i).1 ≤ L := by
  have h1 := tk_s_le (w := w) h
  unfold tk_d
  rw [tx_dg, if_pos ⟨by omega, hd⟩]
  have := tx_dg_le (w := w) (L := L) L (tk_s w L i + 1) (if 99 < 0 then 0 else 10 * 0 + (w (tk_s w L i)).toNatClampNeg - 48) (by omega)
  exact ⟨by omega, this.2⟩
theorem tk_e_le {w : Nat → Int32} {L i : Nat} (h : i ≤ L) : i ≤ tk_e w L i ∧ tk_e w L i ≤ L ∧ (tk_s w L i ≠ L → tk_s w L i < tk_e w L i) := by
  have h1 := tk_s_le (w := w) h
  unfold tk_e
  split
  · exact ⟨h, Nat.le_refl L, fun q => absurd (by assumption) q⟩
  · rename_i hs
    split
    · rename_i hd
      have := tk_d_lt h hs hd
      exact ⟨by omega, this.2, fun _ => this.1⟩
    · exact ⟨by omega, by omega, fun _ => by omega⟩
theorem tk_k_end {w : Nat → Int32} {L i : Nat} (hw : tx_W w L) (h : i ≤ L) : tk_k w L i = -1 ↔ tk_s w L i = L := by
  have h1 := tk_s_le (w := w) h
  unfold tk_k
  constructor
  · intro q
    apply Classical.byContradiction
    intro hs
    rw [if_neg hs] at q
    split at q
    · split at q
      · exact absurd q (by decide)
      · exact absurd q (by decide)
    · obtain ⟨k, k1, k2⟩ := hw.2 (tk_s w L i) (by omega)
      rw [k2] at q
      have z := nI_toInt (n := k) (by omega)
      rw [q] at z
      have : (-1 : Int32).toInt = -1 := by decide
      omega
  · intro q
    rw [if_pos q]
theorem tk_dig {w : Nat → Int32} {L j : Nat} (hw : tx_W w L) (hj : j < L) (h : 48 ≤ w j ∧ w j ≤ 57) : ∃ d, d ≤ 9 ∧ w j = nI (48 + d) ∧ (w j).toNatClampNeg = 48 + d := by
  obtain ⟨k, k1, k2⟩ := hw.2 j hj
  rw [k2] at h
  have a1 := (nI_leI (a := 48) (b := k) (by decide) (by omega)).mp h.1
  have a2 := (nI_leI (a := k) (b := 57) (by omega) (by decide)).mp h.2
  exact ⟨k - 48, by omega, by rw [k2]; congr 1; omega, by rw [k2, nI_clamp (by omega)]; omega⟩
theorem tx_dg_v {w : Nat → Int32} {L : Nat} (hw : tx_W w L) : ∀ f i v, v ≤ 999 → (tx_dg w L f i v).2 ≤ 999
  | 0, i, v, h => h
  | f + 1, i, v, h => by
    unfold tx_dg
    split
    · rename_i q
      refine tx_dg_v hw f _ _ ?_
      obtain ⟨d, d9, -, dn⟩ := tk_dig hw q.1 q.2
      rw [dn]
      split <;> omega
    · exact h
/-- the class's tokens stand at the token from place i on -/
def tk_A (I : mv_I) (z : Nat) (w : Nat → Int32) (L i : Nat) : Prop := I z 1 = nI L ∧ (∀ j, j < L → I (z + 1) j = w j) ∧ I z 2 = tk_k w L i ∧ I z 4 = nI (tk_s w L i) ∧ I z 5 = nI (tk_e w L i) ∧ (tk_k w L i = -2 → I z 3 = nI (tk_v w L i) ∧ tk_v w L i ≤ 99)
def tk_Fr (z : Nat) (I I' : mv_I) : Prop := (∀ b, b ≠ z → I' b = I b) ∧ I' z 1 = I z 1
