/-! The machine of this claim, over the kit's rows: a heap by numbers (n: its size; sh: what each cell is, kind and length; I: its ints; R: its references), one row an instruction -/
abbrev mv_Sh : Type := Nat → Nat × Nat
abbrev mv_I : Type := Nat → Nat → Int32
abbrev mv_R : Type := Nat → Nat → Option Nat
abbrev mv_Q : Type := Option Value → Nat → mv_Sh → mv_I → mv_R → Prop
abbrev mv_M : Type := MethodName × ByteArray × Nat × Option FieldType
def mv_up {α : Type} (I : Nat → Nat → α) (a k : Nat) (v : α) : Nat → Nat → α := fun x j => if x = a ∧ j = k then v else I x j
def mv_rp {α : Type} (I : Nat → α) (a : Nat) (f : α) : Nat → α := fun x => if x = a then f else I x
def mv_W : List Cond := lw_tbl.filter goodWord
def mv_ws (M : mv_M) : List Cond := Cond.code M.1 M.2.1 M.2.2.1 M.2.2.2 :: mv_W
theorem mv_inW {w : Cond} (h : w ∈ lw_tbl) (hg : goodWord w = true) : w ∈ mv_W := List.mem_filter.mpr ⟨h, hg⟩
theorem mv_ofW {w : Cond} (h : w ∈ mv_W) : w ∈ lw_tbl ∧ goodWord w = true := List.mem_filter.mp h
def mv_N (ci : Nat) : Nat := match ci with
  | 0 => 3 | 1 => 9 | 2 => 3 | 3 => 17 | 4 => 6 | 5 => 14 | _ => 34
def mv_Cn (ci : Nat) : String := match ci with
  | 0 => RX0 | 1 => RX1 | 2 => RX2 | 3 => RX3 | 4 => RX4 | 5 => RX5 | _ => RX6
def mv_T (ci : Nat) : u_T := match ci with
  | 0 => TX0 | 1 => TX1 | 2 => TX2 | 3 => TX3 | 4 => TX4 | 5 => TX5 | _ => TX6
def mv_ty (ci : Nat) : Nat → FieldType := match ci with
  | 0 => tyX0 | 1 => tyX1 | 2 => tyX2 | 3 => tyX3 | 4 => tyX4 | 5 => tyX5 | _ => tyX6
theorem mv_c7 {P : Nat → Prop} {ci : Nat} (h : ci < 7) (h0 : P 0) (h1 : P 1) (h2 : P 2) (h3 : P 3) (h4 : P 4) (h5 : P 5) (h6 : P 6) : P ci := by
  match ci, h with
  | 0, _ => exact h0
  | 1, _ => exact h1
  | 2, _ => exact h2
  | 3, _ => exact h3
  | 4, _ => exact h4
  | 5, _ => exact h5
  | 6, _ => exact h6
theorem mv_cl {ci : Nat} (h : ci < 7) : vwCl[ci]? = some (mv_Cn ci, mv_T ci, mv_N ci) := mv_c7 (P := fun ci => vwCl[ci]? = some (mv_Cn ci, mv_T ci, mv_N ci)) h rfl rfl rfl rfl rfl rfl rfl
theorem mv_lay {C : String} {T : u_T} {N : Nat} (h : ∀ w ∈ u_ws C T N, w ∈ lw_tbl) : ∀ w ∈ u_ws C T N, w ∈ mv_W := by
  intro w hw
  refine mv_inW (h w hw) ?_
  obtain ⟨k, -, rfl⟩ := List.mem_map.mp hw
  unfold u_lay
  split <;> rfl
theorem mv_lays {ci : Nat} (h : ci < 7) : ∀ w ∈ u_ws (mv_Cn ci) (mv_T ci) (mv_N ci), w ∈ mv_W := mv_c7 (P := fun ci => ∀ w ∈ u_ws (mv_Cn ci) (mv_T ci) (mv_N ci), w ∈ mv_W) h (mv_lay inX0) (mv_lay inX1) (mv_lay inX2) (mv_lay inX3) (mv_lay inX4) (mv_lay inX5) (mv_lay inX6)
theorem mv_nm {ci : Nat} (h : ci < 7) : ∀ a, a < mv_N ci → ∀ b, b < mv_N ci → a ≠ b → (mv_T ci a).2.1 ≠ (mv_T ci b).2.1 := mv_c7 (P := fun ci => ∀ a, a < mv_N ci → ∀ b, b < mv_N ci → a ≠ b → (mv_T ci a).2.1 ≠ (mv_T ci b).2.1) h nmX0 nmX1 nmX2 nmX3 nmX4 nmX5 nmX6
theorem mv_tyok {ci : Nat} (h : ci < 7) : ∀ k, k < mv_N ci → parseFieldDescriptor (mv_T ci k).2.2.1 = some (mv_ty ci k) := mv_c7 (P := fun ci => ∀ k, k < mv_N ci → parseFieldDescriptor (mv_T ci k).2.2.1 = some (mv_ty ci k)) h tyX0_ok tyX1_ok tyX2_ok tyX3_ok tyX4_ok tyX5_ok tyX6_ok
/-- a field's value: an int, or a reference -/
def mv_fv (ty : FieldType) (x : Int32) (r : Option Nat) : Value := match ty with
  | .int => .int x
  | _ => va_rf r
/-- a cell: kinds 0 to 6 objects, 7 int[], 8 boolean[], 9 Run[] -/
def mv_at (D : va_G) (s : State) (H : Heap) (a : Nat) (q : Nat × Nat) (I : Nat → Int32) (R : Nat → Option Nat) : Prop :=
  (q.1 < 7 → t_OB a (D.1 q.1) (mv_N q.1) (D.2 q.1) H (fun k => mv_fv (mv_ty q.1 k) (I k) (R k))) ∧
  (q.1 = 7 → ∃ cA : ClassId, H[a]? = some (vp_cell cA (q.2, .inl I)) ∧ ArrOfT s cA .int) ∧
  (q.1 = 8 → ∃ cA : ClassId, H[a]? = some (vp_cell cA (q.2, .inl I)) ∧ ArrOfT s cA .boolean) ∧
  (q.1 = 9 → ∃ cA : ClassId, H[a]? = some (vp_cell cA (q.2, .inr (.inr (.inr (.inr R))))) ∧ ArrOfT s cA (.object RX3) ∧ va_RA s cA (.object RX3))
theorem mv_at.kept {D : va_G} {s : State} {H H1 : Heap} {a : Nat} {q : Nat × Nat} {I : Nat → Int32} {R : Nat → Option Nat} (h : mv_at D s H a q I R) (e : H1[a]? = H[a]?) : mv_at D s H1 a q I R := by
  obtain ⟨h1, h2, h3, h4⟩ := h
  exact ⟨fun k => (h1 k).kept e, fun k => by rw [e]; exact h2 k, fun k => by rw [e]; exact h3 k, fun k => by rw [e]; exact h4 k⟩
theorem mv_at.moved {D : va_G} {u U : State} {H : Heap} {a : Nat} {q : Nat × Nat} {I : Nat → Int32} {R : Nat → Option Nat} (hvm : u.vm.Alike U.vm) (h : mv_at D u H a q I R) : mv_at D U H a q I R := by
  obtain ⟨h1, h2, h3, h4⟩ := h
  refine ⟨h1, fun k => ?_, fun k => ?_, fun k => ?_⟩
  · obtain ⟨cA, a1, a2⟩ := h2 k
    exact ⟨cA, a1, arrOfT_moved hvm a2⟩
  · obtain ⟨cA, a1, a2⟩ := h3 k
    exact ⟨cA, a1, arrOfT_moved hvm a2⟩
  · obtain ⟨cA, a1, a2, a3⟩ := h4 k
    exact ⟨cA, a1, arrOfT_moved hvm a2, a3.moved hvm⟩
def mv_H (D : va_G) (b0 n : Nat) (sh : mv_Sh) (I : mv_I) (R : mv_R) (s : State) (H : Heap) : Prop :=
  H.size = n ∧ (∀ a : Nat, (sh a).1 < 10 → b0 ≤ a ∧ a < n) ∧ ∀ a : Nat, mv_at D s H a (sh a) (I a) (R a)
theorem mv_H.moved {D : va_G} {b0 n : Nat} {sh : mv_Sh} {I : mv_I} {R : mv_R} {u U : State} {H : Heap} (hvm : u.vm.Alike U.vm) (h : mv_H D b0 n sh I R u H) : mv_H D b0 n sh I R U H := ⟨h.1, h.2.1, fun a => (h.2.2 a).moved hvm⟩
/-- one cell is written -/
theorem mv_H.set {D : va_G} {b0 n : Nat} {sh : mv_Sh} {I I' : mv_I} {R R' : mv_R} {s : State} {H H1 : Heap} (h : mv_H D b0 n sh I R s H) {a : Nat} (z : H1.size = H.size) (oq : ∀ q : Nat, q ≠ a → H1[q]? = H[q]?) (hI : ∀ x, x ≠ a → I' x = I x) (hR : ∀ x, x ≠ a → R' x = R x) (ha : mv_at D s H1 a (sh a) (I' a) (R' a)) : mv_H D b0 n sh I' R' s H1 := by
  refine ⟨z.trans h.1, h.2.1, fun x => ?_⟩
  by_cases hx : x = a
  · subst hx; exact ha
  · rw [hI x hx, hR x hx]
    exact (h.2.2 x).kept (oq x hx)
/-- the locals: a null stands for what isn't known -/
def mv_L (ls : Array Slot) (nL : Nat) (loc : List Value) : Prop := ls.size = nL ∧ lv_wf ls ∧ ∀ (j : Nat) (v : Value), loc[j]? = some v → v.category = 1 ∧ (v ≠ .null → ls[j]? = some (.val v))
theorem mv_L.at {ls : Array Slot} {nL : Nat} {loc : List Value} (h : mv_L ls nL loc) {j : Nat} {v : Value} (hj : loc[j]? = some v) (hv : v ≠ .null) : ls[j]? = some (.val v) := (h.2.2 j v hj).2 hv
theorem mv_L.store {ls : Array Slot} {nL : Nat} {loc : List Value} (h : mv_L ls nL loc) {i : Nat} {v : Value} (hi : i < nL) (hv : v.category = 1) (hn : v ≠ .null) {ls' : Array Slot} (hs : storeLocals ls i v = some ls') : mv_L ls' nL (loc.set i v) := by
  have base : lv_has ls nL [] := ⟨h.1, h.2.1, fun q hq => by cases hq⟩
  obtain ⟨l0, e0, p0⟩ := lv_store1 base hi hv
  cases hs.symm.trans e0
  refine ⟨p0.1, p0.2.1, fun j w hj => ?_⟩
  by_cases hji : j = i
  · subst hji
    rw [List.getElem?_set] at hj
    simp only [if_true] at hj
    split at hj
    · cases hj
      exact ⟨hv, fun _ => p0.2.2 (j, v) List.mem_cons_self⟩
    · cases hj
  · rw [List.getElem?_set_ne (Ne.symm hji)] at hj
    obtain ⟨c1, c2⟩ := h.2.2 j w hj
    refine ⟨c1, fun hw => ?_⟩
    have one : lv_has ls nL [(j, w)] := ⟨h.1, h.2.1, fun q hq => by rw [List.mem_singleton.mp hq]; exact c2 hw⟩
    obtain ⟨l1, e1, p1⟩ := lv_store1 one hi hv
    cases hs.symm.trans e1
    refine p1.2.2 (j, w) (List.mem_cons_of_mem _ ?_)
    simp [hji, c1]
def mv_K (D : va_G) (U : State) : Prop := va_K D vwCl [] U ∧ va_AO RX3 U ∧ va_Nw (.methodLinkNest RX5 9 yX4_init RX5) U
def mv_Cx (D : va_G) (b0 : Nat) (M : mv_M) (p : Program) (s : State) (m : MethodId) (args : Array Value) (meth : Method) (c : Code) : Prop :=
  p.tables.exec = Jvm.exec ∧ c.code = M.2.1 ∧ c.maxLocals = M.2.2.1 ∧ s.vm.findClass M.1.cls = some m.cls ∧ (∀ w ∈ mv_ws M, w.before args s = true) ∧ mv_K D s ∧ meth.locks = false ∧ meth.sig.returnType = M.2.2.2 ∧ meth.name = M.1.name ∧ b0 ≤ s.heap.size
def mv_Qc (D : va_G) (b0 : Nat) (Q : mv_Q) : Array Value → State → Outcome → State → Prop := fun _ st oc t => (∃ (v : Option Value) (n : Nat) (sh : mv_Sh) (I : mv_I) (R : mv_R), oc = .returned v ∧ Q v n sh I R ∧ mv_H D b0 n sh I R t t.heap) ∧ va_F (fun q => b0 ≤ q) st t
def mv_E (l : Launch) (D : va_G) (b0 : Nat) (M : mv_M) (rm : Room) (Q : mv_Q) (pc : Nat) (loc stk : List Value) (ac sl n : Nat) (sh : mv_Sh) (I : mv_I) (R : mv_R) : Prop :=
  ∀ (p : Program) (e : Env) (s : State) (m : MethodId) (args : Array Value) (below : List Frame) (meth : Method) (c : Code) (H : Heap) (locs : List Loc) (ls : Array Slot),
    mv_Cx D b0 M p s m args meth c → mv_L ls M.2.2.1 loc → mv_H D b0 n sh I R s H → va_S (fun q => b0 ≤ q) s.heap H locs →
    W p l e rm s m args below meth c H locs ac sl (MQ below (mv_Qc D b0 Q) args s rm.cells rm.slots (fun q => b0 ≤ q)) (F0 m pc ls stk)
/-- a method's contract -/
def mv_C (l : Launch) (D : va_G) (b0 : Nat) (M : mv_M) (rm : Room) (av : List Value) (n : Nat) (sh : mv_Sh) (I : mv_I) (R : mv_R) (Q : mv_Q) : Prop :=
  Met l M.1 (mv_ws M) rm (va_Pc av (fun U => mv_H D b0 n sh I R U U.heap ∧ mv_K D U ∧ b0 ≤ U.heap.size)) (mv_Qc D b0 Q) rm.cells rm.slots (fun q => b0 ≤ q)
theorem mv_args : ∀ (vs : List Value) (i : Nat), (∀ v ∈ vs, v.category = 1) → ∀ (j : Nat) (v : Value), vs[j]? = some v → (i + j, v) ∈ lv_args i vs
  | [], _, _, j, v, h => by simp at h
  | w :: vs, i, hc, j, v, h => by
    have hw := hc w List.mem_cons_self
    have e : lv_args i (w :: vs) = (i, w) :: lv_args (i + 1) vs := by simp [lv_args, hw]
    rw [e]
    cases j with
    | zero =>
      simp at h
      subst h
      exact List.mem_cons_self
    | succ j =>
      simp at h
      have := mv_args vs (i + 1) (fun v hv => hc v (List.mem_cons_of_mem _ hv)) j v h
      rw [show i + (j + 1) = i + 1 + j by omega]
      exact List.mem_cons_of_mem _ this
theorem mv_sl : ∀ (vs : List Value), (∀ v ∈ vs, v.category = 1) → (lg_sl vs).length = vs.length
  | [], _ => rfl
  | w :: vs, hc => by
    have hw := hc w List.mem_cons_self
    have ih := mv_sl vs (fun v hv => hc v (List.mem_cons_of_mem _ hv))
    unfold lg_sl at ih ⊢
    simp [hw, ih]
section MV
variable {l : Launch} {D : va_G} {b0 : Nat} {M : mv_M} {rm : Room} {Q : mv_Q} {pc : Nat} {loc stk : List Value} {ac sl n : Nat} {sh : mv_Sh} {I : mv_I} {R : mv_R}
theorem mv_C.of {av : List Value} (k : Nat) (hy : plainName M.1.cls = true) (hc : ∀ v ∈ av, v.category = 1) (hk : M.2.2.1 = av.length + k)
    (E : mv_E l D b0 M rm Q 0 (av ++ List.replicate k .null) [] 0 0 n sh I R) : mv_C l D b0 M rm av n sh I R Q := by
  refine Met.ofW (cc := M.2.1) (maxL := M.2.2.1) (ret := M.2.2.2) hy rfl ?_
  intro p e s m args below meth c s₁ B hml hv
  obtain ⟨rfl, hH, hK, hb0⟩ := hv
  have hts := atoms_spec (ws := mv_ws M) B.pre
  have hsz := mv_sl av hc
  have hl := lv_entry av (n := M.2.2.1) (by rw [hsz, hk]; omega)
  rw [lg_entry_eq]
  refine E p e s m _ below meth c s.heap [] _ ⟨B.exec, B.bytes, hml, findClass_of_methodNamed B.named, hts, hK, B.notSynchronized, B.returns, (name_of_methodNamed B.named B.method).1, hb0⟩ ⟨hl.1, hl.2.1, fun j v hj => ?_⟩ hH va_S.rf
  by_cases hjl : j < av.length
  · rw [List.getElem?_append_left hjl] at hj
    refine ⟨hc v (List.mem_of_getElem? hj), fun _ => ?_⟩
    have := mv_args av 0 hc j v hj
    rw [Nat.zero_add] at this
    exact hl.2.2 (j, v) this
  · rw [List.getElem?_append_right (by omega)] at hj
    have := List.mem_of_getElem? hj
    rw [List.mem_replicate] at this
    rw [this.2]
    exact ⟨rfl, fun h => absurd rfl h⟩
theorem mv_C.weaken {av : List Value} {Q2 : mv_Q} (h : mv_C l D b0 M rm av n sh I R Q) (hq : ∀ v n' sh' I' R', Q v n' sh' I' R' → Q2 v n' sh' I' R') : mv_C l D b0 M rm av n sh I R Q2 := by
  intro p e ha hc hk s m args below hf happ hP hK
  obtain ⟨k, o, h1, h2, h3, ⟨⟨v, n', sh', I', R', q1, q2, q3⟩, q4⟩, h5⟩ := h p e ha hc hk s m args below hf happ hP hK
  exact ⟨k, o, h1, h2, h3, ⟨⟨v, n', sh', I', R', q1, hq _ _ _ _ _ q2, q3⟩, q4⟩, h5⟩
theorem mv_E.weaken {Q2 : mv_Q} (h : mv_E l D b0 M rm Q pc loc stk ac sl n sh I R) (hq : ∀ v n' sh' I' R', Q v n' sh' I' R' → Q2 v n' sh' I' R') : mv_E l D b0 M rm Q2 pc loc stk ac sl n sh I R := by
  intro p e s m args below meth c H locs ls C L hH hS T hT X
  obtain ⟨t, a1, o, b1, b2, ⟨⟨v, n', sh', I', R', q1, q2, q3⟩, q4⟩, b4⟩ := h p e s m args below meth c H locs ls C L hH hS T hT X
  exact ⟨t, a1, o, b1, b2, ⟨⟨v, n', sh', I', R', q1, hq _ _ _ _ _ q2, q3⟩, q4⟩, b4⟩
theorem mv_step {pc' : Nat} {stk' : List Value}
    (h : ∀ {p : Program} {e : Env} {s : State} {m : MethodId} {args : Array Value} {below : List Frame} {meth : Method} {c : Code} {H : Heap} {locs : List Loc} {ls : Array Slot} {QQ : State → Prop}, p.tables.exec = Jvm.exec → c.code = M.2.1 →
      W p l e rm s m args below meth c H locs ac sl QQ (F0 m pc' ls stk') → W p l e rm s m args below meth c H locs ac sl QQ (F0 m pc ls stk))
    (kk : mv_E l D b0 M rm Q pc' loc stk' ac sl n sh I R) : mv_E l D b0 M rm Q pc loc stk ac sl n sh I R := by
  intro p e s m args below meth c H locs ls C L hH hS
  exact h C.1 C.2.1 (kk p e s m args below meth c H locs ls C L hH hS)
theorem mv_iconst {k : Int} {v : Int32} (hd : decode M.2.1 pc = .ok (.iconst k, 1)) (hv : Int32.ofInt k = v) (kk : mv_E l D b0 M rm Q (pc + 1) loc (.int v :: stk) ac sl n sh I R) : mv_E l D b0 M rm Q pc loc stk ac sl n sh I R := mv_step (fun hx hb k => lv_iconst hx hb hd hv k) kk
theorem mv_bipush {k : Int} {v : Int32} (hd : decode M.2.1 pc = .ok (.bipush k, 2)) (hv : (Int8.ofInt k).toInt32 = v) (kk : mv_E l D b0 M rm Q (pc + 2) loc (.int v :: stk) ac sl n sh I R) : mv_E l D b0 M rm Q pc loc stk ac sl n sh I R := mv_step (fun hx hb k => lv_bipush hx hb hd hv k) kk
theorem mv_sipush {k : Int} {v : Int32} (hd : decode M.2.1 pc = .ok (.sipush k, 3)) (hv : (Int16.ofInt k).toInt32 = v) (kk : mv_E l D b0 M rm Q (pc + 3) loc (.int v :: stk) ac sl n sh I R) : mv_E l D b0 M rm Q pc loc stk ac sl n sh I R := mv_step (fun hx hb k => lv_sipush hx hb hd hv k) kk
theorem mv_iadd {x y : Int32} (hd : decode M.2.1 pc = .ok (.iadd, 1)) (kk : mv_E l D b0 M rm Q (pc + 1) loc (.int (x + y) :: stk) ac sl n sh I R) : mv_E l D b0 M rm Q pc loc (.int y :: .int x :: stk) ac sl n sh I R := mv_step (fun hx hb k => lv_iadd hx hb hd k) kk
theorem mv_isub {x y : Int32} (hd : decode M.2.1 pc = .ok (.isub, 1)) (kk : mv_E l D b0 M rm Q (pc + 1) loc (.int (x - y) :: stk) ac sl n sh I R) : mv_E l D b0 M rm Q pc loc (.int y :: .int x :: stk) ac sl n sh I R := mv_step (fun hx hb k => lv_isub hx hb hd k) kk
theorem mv_imul {x y : Int32} (hd : decode M.2.1 pc = .ok (.imul, 1)) (kk : mv_E l D b0 M rm Q (pc + 1) loc (.int (x * y) :: stk) ac sl n sh I R) : mv_E l D b0 M rm Q pc loc (.int y :: .int x :: stk) ac sl n sh I R := mv_step (fun hx hb k => lv_imul hx hb hd k) kk
theorem mv_irem {x y : Int32} (hd : decode M.2.1 pc = .ok (.irem, 1)) (hne : ¬ y = 0) (kk : mv_E l D b0 M rm Q (pc + 1) loc (.int (x - x / y * y) :: stk) ac sl n sh I R) : mv_E l D b0 M rm Q pc loc (.int y :: .int x :: stk) ac sl n sh I R := mv_step (fun hx hb k => lv_irem hx hb hd hne k) kk
theorem mv_ishl {x y : Int32} (hd : decode M.2.1 pc = .ok (.ishl, 1)) (kk : mv_E l D b0 M rm Q (pc + 1) loc (.int (x <<< (y &&& 31)) :: stk) ac sl n sh I R) : mv_E l D b0 M rm Q pc loc (.int y :: .int x :: stk) ac sl n sh I R := mv_step (fun hx hb k => lv_ishl hx hb hd k) kk
theorem mv_ishr {x y : Int32} (hd : decode M.2.1 pc = .ok (.ishr, 1)) (kk : mv_E l D b0 M rm Q (pc + 1) loc (.int (x >>> (y &&& 31)) :: stk) ac sl n sh I R) : mv_E l D b0 M rm Q pc loc (.int y :: .int x :: stk) ac sl n sh I R := mv_step (fun hx hb k => lv_ishr hx hb hd k) kk
theorem mv_iand {x y : Int32} (hd : decode M.2.1 pc = .ok (.iand, 1)) (kk : mv_E l D b0 M rm Q (pc + 1) loc (.int (x &&& y) :: stk) ac sl n sh I R) : mv_E l D b0 M rm Q pc loc (.int y :: .int x :: stk) ac sl n sh I R := mv_step (fun hx hb k => lv_iand hx hb hd k) kk
theorem mv_ior {x y : Int32} (hd : decode M.2.1 pc = .ok (.ior, 1)) (kk : mv_E l D b0 M rm Q (pc + 1) loc (.int (x ||| y) :: stk) ac sl n sh I R) : mv_E l D b0 M rm Q pc loc (.int y :: .int x :: stk) ac sl n sh I R := mv_step (fun hx hb k => lv_ior hx hb hd k) kk
theorem mv_dup {v : Value} (hd : decode M.2.1 pc = .ok (.dup, 1)) (hv : v.category = 1) (kk : mv_E l D b0 M rm Q (pc + 1) loc (v :: v :: stk) ac sl n sh I R) : mv_E l D b0 M rm Q pc loc (v :: stk) ac sl n sh I R := mv_step (fun hx hb k => lv_dup hx hb hd hv k) kk
theorem mv_dup2 {v w : Value} (hd : decode M.2.1 pc = .ok (.dup2, 1)) (hv : v.category = 1) (hw : w.category = 1) (kk : mv_E l D b0 M rm Q (pc + 1) loc (v :: w :: v :: w :: stk) ac sl n sh I R) : mv_E l D b0 M rm Q pc loc (v :: w :: stk) ac sl n sh I R := mv_step (fun hx hb k => lv_dup2_11 hx hb hd hv hw k) kk
theorem mv_pop {v : Value} (hd : decode M.2.1 pc = .ok (.pop, 1)) (hv : v.category = 1) (kk : mv_E l D b0 M rm Q (pc + 1) loc stk ac sl n sh I R) : mv_E l D b0 M rm Q pc loc (v :: stk) ac sl n sh I R := mv_step (fun hx hb k => lv_pop hx hb hd hv k) kk
theorem mv_goto {off : Int} {tgt : Nat} (hd : decode M.2.1 pc = .ok (.goto off, 3)) (ht : (pc : Int) + off = (tgt : Int)) (kk : mv_E l D b0 M rm Q tgt loc stk ac sl n sh I R) : mv_E l D b0 M rm Q pc loc stk ac sl n sh I R := mv_step (fun hx hb k => lv_goto hx hb hd ht k) kk
theorem mv_iload_n {k : Fin 4} {x : Int32} (hd : decode M.2.1 pc = .ok (.iload_n k, 1)) (hl : loc[(k : Nat)]? = some (.int x)) (kk : mv_E l D b0 M rm Q (pc + 1) loc (.int x :: stk) ac sl n sh I R) : mv_E l D b0 M rm Q pc loc stk ac sl n sh I R := by
  intro p e s m args below meth c H locs ls C L hH hS
  exact lv_iload_n C.1 C.2.1 hd rfl (L.at hl (fun h => by cases h)) (kk p e s m args below meth c H locs ls C L hH hS)
theorem mv_iload {k : Nat} {x : Int32} (hd : decode M.2.1 pc = .ok (.iload k, 2)) (hl : loc[k]? = some (.int x)) (kk : mv_E l D b0 M rm Q (pc + 2) loc (.int x :: stk) ac sl n sh I R) : mv_E l D b0 M rm Q pc loc stk ac sl n sh I R := by
  intro p e s m args below meth c H locs ls C L hH hS
  exact lv_iload C.1 C.2.1 hd (L.at hl (fun h => by cases h)) (kk p e s m args below meth c H locs ls C L hH hS)
theorem mv_aload_n {k : Fin 4} {x : Nat} (hd : decode M.2.1 pc = .ok (.aload_n k, 1)) (hl : loc[(k : Nat)]? = some (.ref x)) (kk : mv_E l D b0 M rm Q (pc + 1) loc (.ref x :: stk) ac sl n sh I R) : mv_E l D b0 M rm Q pc loc stk ac sl n sh I R := by
  intro p e s m args below meth c H locs ls C L hH hS
  exact lv_aload_n C.1 C.2.1 hd rfl (L.at hl (fun h => by cases h)) (kk p e s m args below meth c H locs ls C L hH hS)
theorem mv_L.use {ls : Array Slot} {nL i : Nat} {v : Value} {loc : List Value} (L : mv_L ls nL loc) (hi : i < nL) (hc : v.category = 1) (hn : v ≠ .null) {lv' : List (Nat × Value)} (hl : (i, v) :: ([] : List (Nat × Value)).filter (fun q => !(q.1 == i) && !(q.1 + 1 == i && q.2.category == 2)) = lv') {P : Array Slot → Prop} (kk : ∀ ls', mv_L ls' nL (loc.set i v) → P ls') : ∀ ls', storeLocals ls i v = some ls' → P ls' := fun ls' h => kk ls' (L.store hi hc hn h)
theorem mv_stI {k : Nat} {x : Int32} {pc' : Nat} (hk : k < M.2.2.1)
    (h : ∀ {p : Program} {e : Env} {s : State} {m : MethodId} {args : Array Value} {below : List Frame} {meth : Method} {c : Code} {H : Heap} {locs : List Loc} {ls ls' : Array Slot} {QQ : State → Prop}, p.tables.exec = Jvm.exec → c.code = M.2.1 → storeLocals ls k (.int x) = some ls' → W p l e rm s m args below meth c H locs ac sl QQ (F0 m pc' ls' stk) → W p l e rm s m args below meth c H locs ac sl QQ (F0 m pc ls (.int x :: stk)))
    (kk : mv_E l D b0 M rm Q pc' (loc.set k (.int x)) stk ac sl n sh I R) : mv_E l D b0 M rm Q pc loc (.int x :: stk) ac sl n sh I R := by
  intro p e s m args below meth c H locs ls C L hH hS
  obtain ⟨ls', e', -⟩ := lv_store1 (v := .int x) (show lv_has ls M.2.2.1 [] from ⟨L.1, L.2.1, fun q hq => by cases hq⟩) hk rfl
  exact h C.1 C.2.1 e' (kk p e s m args below meth c H locs ls' C (L.store hk rfl (fun h => by cases h) e') hH hS)
theorem mv_istore_n {k : Fin 4} {x : Int32} (hd : decode M.2.1 pc = .ok (.istore_n k, 1)) (hk : (k : Nat) < M.2.2.1) (kk : mv_E l D b0 M rm Q (pc + 1) (loc.set k (.int x)) stk ac sl n sh I R) : mv_E l D b0 M rm Q pc loc (.int x :: stk) ac sl n sh I R := by
  refine mv_stI (k := k) hk ?_ kk
  intro p e s m args below meth c H locs ls ls' QQ hexec hb e' kw T hT X
  obtain ⟨t, a, b⟩ := kw T hT X
  refine ⟨t, ?_, b⟩
  jvm_step X.here [X.here.top, ↓top_set X.here.top, hexec, hb, hd, e']
  exact a
theorem mv_istore {k : Nat} {x : Int32} (hd : decode M.2.1 pc = .ok (.istore k, 2)) (hk : k < M.2.2.1) (kk : mv_E l D b0 M rm Q (pc + 2) (loc.set k (.int x)) stk ac sl n sh I R) : mv_E l D b0 M rm Q pc loc (.int x :: stk) ac sl n sh I R := by
  refine mv_stI (k := k) hk ?_ kk
  intro p e s m args below meth c H locs ls ls' QQ hexec hb e' kw T hT X
  obtain ⟨t, a, b⟩ := kw T hT X
  refine ⟨t, ?_, b⟩
  jvm_step X.here [X.here.top, ↓top_set X.here.top, hexec, hb, hd, e']
  exact a
theorem mv_iinc {k : Nat} {d : Int} {x v : Int32} (hd : decode M.2.1 pc = .ok (.iinc k d, 3)) (hk : k < M.2.2.1) (hl : loc[k]? = some (.int x)) (hv : x + Int32.ofInt d = v) (kk : mv_E l D b0 M rm Q (pc + 3) (loc.set k (.int v)) stk ac sl n sh I R) : mv_E l D b0 M rm Q pc loc stk ac sl n sh I R := by
  intro p e s m args below meth c H locs ls C L hH hS
  have hg := L.at hl (fun h => by cases h)
  obtain ⟨ls', e', -⟩ := lv_store1 (v := .int (x + Int32.ofInt d)) (show lv_has ls M.2.2.1 [] from ⟨L.1, L.2.1, fun q hq => by cases hq⟩) hk rfl
  have hexec := C.1
  have hb := C.2.1
  have kw := kk p e s m args below meth c H locs ls' C (by rw [← hv]; exact L.store hk rfl (fun h => by cases h) e') hH hS
  intro T hT X
  obtain ⟨t, a, b⟩ := kw T hT X
  refine ⟨t, ?_, b⟩
  jvm_step X.here [X.here.top, ↓top_set X.here.top, hexec, hb, hd, hg, e']
  exact a
end MV
