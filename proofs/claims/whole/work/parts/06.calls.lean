/-! calls of the machine -/
def mv_Lk (own : String) (idx : Nat) (M2 : mv_M) (k : Nat) : Prop := Cond.methodLink own idx M2.1 ∈ mv_W ∧ Cond.code M2.1 M2.2.1 M2.2.2.1 M2.2.2.2 ∈ mv_W ∧ Cond.initialized M2.1.cls ∈ mv_W ∧ (M2.1.cls ≠ "java/lang/invoke/MethodHandle" ∧ M2.1.cls ≠ "java/lang/invoke/VarHandle" ∧ (parseMethodDescriptor M2.1.desc).map (fun d => d.parameters.length) = some k)
def mv_LkV (own : String) (idx : Nat) (M2 : mv_M) (k ci : Nat) : Prop := mv_Lk own idx M2 k ∧ Cond.instanceMethod M2.1 ∈ mv_W ∧ Cond.selects M2.1.cls M2.1 M2.1 ∈ mv_W ∧ ci < 7 ∧ mv_Cn ci = M2.1.cls
def mv_LkS (own : String) (idx : Nat) (M2 : mv_M) (k : Nat) : Prop := mv_Lk own idx M2 k ∧ Cond.static M2.1 ∈ mv_W ∧ M2.1.cls = own
def mv_LkI (own : String) (idx : Nat) (M2 : mv_M) (k : Nat) : Prop := mv_Lk own idx M2 k ∧ Cond.instanceMethod M2.1 ∈ mv_W ∧ M2.1.name = "<init>" ∧ M2.2.2.2 = none
theorem mv_goodT {Ts : List Cond} (hTs : ∀ w ∈ mv_W, w ∈ Ts) {M2 : mv_M} (hc : Cond.code M2.1 M2.2.1 M2.2.2.1 M2.2.2.2 ∈ mv_W) : GoodIn Ts (mv_ws M2) := by
  intro w hw
  have h : w ∈ mv_W := by
    rcases List.mem_cons.mp hw with h | h
    · rw [h]; exact hc
    · exact h
  exact ⟨hTs w h, good_of_word (mv_ofW h).2⟩
theorem mv_K.calling {D : va_G} {U : State} (g : JFrame) (mk : MethodId) (a : Array Value) (h : mv_K D U) : mv_K D (U.calling g mk a) := ⟨va_K.moved (u := U) (U := U.calling g mk a) (Vm.Alike.refl U.vm) h.1, va_AO.moved (u := U) (U := U.calling g mk a) (Vm.Alike.refl U.vm) h.2.1, va_Nw.same (u := U) (U := U.calling g mk a) rfl rfl h.2.2⟩
theorem mv_K.warm {D : va_G} {s U : State} (hW : s.WarmedH U.vm) (h : mv_K D s) : mv_K D U := ⟨va_K.moved hW.alike h.1, va_AO.moved hW.alike h.2.1, va_Nw.warmM hW h.2.2⟩
theorem mv_blind {D : va_G} {b0 n : Nat} {sh : mv_Sh} {I : mv_I} {R : mv_R} {av : List Value} : FrameBlind (va_Pc av (fun U => mv_H D b0 n sh I R U U.heap ∧ mv_K D U ∧ b0 ≤ U.heap.size)) := by
  intro a U g mk h
  obtain ⟨h1, h2, h3, h4⟩ := h
  exact ⟨h1, mv_H.moved (u := U) (U := U.calling g mk a) (Vm.Alike.refl U.vm) h2, h3.calling g mk a, h4⟩
section MC
variable {p : Program} {l : Launch} {e : Env} {R : Room} {s : State} {m : MethodId} {args : Array Value} {below : List Frame} {meth : Method} {c : Code} {H : Heap} {locs : List Loc} {cells slots : Nat} {Q : State → Prop}
variable {pc : Nat} {ls : Array Slot} {rest st0 : List Value} {mc ms : Nat} {free : Addr → Prop} {Qa : State → Outcome → State → Prop}
theorem mv_callx (hr : va_Run p l e R s m args below meth c H locs cells slots mc ms (F0 m pc ls st0) rest Qa free)
    (kk : ∀ (v : Option Value) (st t : State) (locs1 : List Loc), st.heap = H → Qa st (.returned v) t → s.vm.Alike t.vm → (∀ q ∈ locs1, q ∈ locs ∨ free q.base) → W p l e R s m args below meth c t.heap locs1 (cells + mc) (slots + ms) Q (F0 m (pc + 3) ls (v.toList ++ rest))) : W p l e R s m args below meth c H locs cells slots Q (F0 m pc ls st0) := by
  intro T hT X
  obtain ⟨v, st₀, t, T', L, h0, X', hL, e1, e2, hq, st⟩ := hr T hT X
  obtain ⟨t2, a1, b1⟩ := kk v st₀ t (locs ++ L) h0 hq (by rw [← e2]; exact X'.warmed.alike) (fun q hq => by
    rcases List.mem_append.mp hq with h | h
    · exact Or.inl h
    · exact Or.inr (hL q h)) T' e1 X'
  exact ⟨t2, st t2 a1, b1⟩
end MC
section MD
variable {l : Launch} {D : va_G} {b0 : Nat} {M : mv_M} {rm : Room} {Q : mv_Q} {pc : Nat} {loc stk : List Value} {ac sl n : Nat} {sh : mv_Sh} {I : mv_I} {R : mv_R}
variable {M2 : mv_M} {rm2 : Room} {As st0 : List Value} {Q2 : mv_Q} {idx k : Nat}
/-- what is left behind a call: the caller's world is the callee's -/
theorem mv_after {p : Program} {e : Env} {s : State} {m : MethodId} {args : Array Value} {below : List Frame} {meth : Method} {c : Code} {H : Heap} {locs : List Loc} {ls : Array Slot} {st0 rest : List Value} {av : Array Value}
    (C : mv_Cx D b0 M p s m args meth c) (L : mv_L ls M.2.2.1 loc) (hS : va_S (fun q => b0 ≤ q) s.heap H locs)
    (hr : va_Run p l e rm s m args below meth c H locs ac sl rm2.cells rm2.slots (F0 m pc ls st0) rest (mv_Qc D b0 Q2 av) (fun q => b0 ≤ q))
    (kk : ∀ v n' sh' I' R', Q2 v n' sh' I' R' → mv_E l D b0 M rm Q (pc + 3) loc (v.toList ++ rest) (ac + rm2.cells) (sl + rm2.slots) n' sh' I' R') :
    W p l e rm s m args below meth c H locs ac sl (MQ below (mv_Qc D b0 Q) args s rm.cells rm.slots (fun q => b0 ≤ q)) (F0 m pc ls st0) := by
  refine mv_callx hr fun v st t locs1 h0 hq hvm hl => ?_
  obtain ⟨⟨v', n', sh', I', R', hv, h2, h3⟩, hF⟩ := hq
  cases hv
  refine kk v n' sh' I' R' h2 p e s m args below meth c t.heap locs1 ls C L (h3.moved hvm.symm) ⟨Nat.le_trans hS.1 (by rw [← h0]; exact hF.1), fun q a1 a2 => ?_, fun q hq => (hl q hq).elim (hS.2.2 q) id⟩
  rw [hF.2 q (by rw [h0]; exact Nat.lt_of_lt_of_le a1 hS.1) a2, h0]
  exact hS.2.1 q a1 a2
theorem mv_sum : ∀ (rest : List Value), (∀ v ∈ rest, v.category = 1) → (rest.map fun v => v.category).sum = rest.length
  | [], _ => rfl
  | v :: rest, h => by
    have := mv_sum rest (fun v hv => h v (List.mem_cons_of_mem _ hv))
    simp [this, h v List.mem_cons_self]
    omega
theorem mv_callV {a ci : Nat} (hd : decode M.2.1 pc = .ok (.invokevirtual idx, 3)) (hL : mv_LkV M.1.cls idx M2 k ci) (ha : (sh a).1 = ci) (hC : mv_C l D b0 M2 rm2 (.ref a :: As) n sh I R Q2) (hk : As.length = k) (hst : st0 = As.reverse ++ .ref a :: stk) (hcat : (stk.map fun v => v.category).sum ≤ 8)
    (hR : rm2.frames + 1 ≤ rm.frames ∧ 8 + (M2.2.2.1 + 11) + rm2.locals ≤ rm.locals) (hf : ac + rm2.cells ≤ rm.cells ∧ sl + rm2.slots ≤ rm.slots)
    (kk : ∀ v n' sh' I' R', Q2 v n' sh' I' R' → mv_E l D b0 M rm Q (pc + 3) loc (v.toList ++ stk) (ac + rm2.cells) (sl + rm2.slots) n' sh' I' R') : mv_E l D b0 M rm Q pc loc st0 ac sl n sh I R := by
  intro p e s m args below meth c H locs ls C L hH hS
  obtain ⟨⟨w1, w2, w3, hds⟩, w4, w5, h7, hcn⟩ := hL
  subst hst
  subst ha
  have hsub : ∀ w ∈ mv_W, w ∈ mv_ws M := fun w h => List.mem_cons_of_mem _ h
  have hG : GoodIn (mv_ws M) (wsV M.1.cls idx M2.1.cls M2.1 (mv_ws M2)) := by
    intro w hw
    rcases List.mem_append.mp hw with h | h
    · have hin : w ∈ mv_W := by
        simp only [List.mem_cons, List.not_mem_nil, or_false] at h
        rcases h with rfl | rfl | rfl | rfl
        · exact w1
        · exact w4
        · exact w5
        · exact w3
      exact ⟨hsub w hin, good_of_word (mv_ofW hin).2⟩
    · exact mv_goodT hsub w2 w h
  refine mv_after (Q2 := Q2) C L hS (va_runV (As := As) (rest := stk) (y := M2.1) (bytes := M2.2.1) (maxL := M2.2.2.1) (ret := M2.2.2.2) ⟨C.1, C.2.1, C.2.2.1, C.2.2.2.1, C.2.2.2.2.1⟩ hC (cwV (C := M2.1.cls) k C.2.2.2.2.1 hG rfl rfl rfl ⟨rfl, hds⟩ hR) ⟨mv_blind, ?_, fun U hU hW => ⟨rfl, ?_, C.2.2.2.2.2.1.warm hW, ?_⟩⟩ rfl hk L.1 rfl (lv_room hcat) hd hf) kk
  · obtain ⟨cell, g1, g2, g3, -⟩ := (hH.2.2 a).1 h7
    exact ⟨cell, g1, by rw [g3]; rfl, by rw [g2, ← hcn]; exact (C.2.2.2.2.2.1.1.1 _ _ (mv_cl h7)).2.1⟩
  · rw [hU]; exact hH.moved hW.alike
  · rw [hU]; exact Nat.le_trans C.2.2.2.2.2.2.2.2.2 hS.1
theorem mv_callS (hd : decode M.2.1 pc = .ok (.invokestatic idx, 3)) (hL : mv_LkS M.1.cls idx M2 k) (hC : mv_C l D b0 M2 rm2 As n sh I R Q2) (hk : As.length = k) (hst : st0 = As.reverse ++ stk) (hcat : (stk.map fun v => v.category).sum ≤ 8)
    (hR : rm2.frames + 1 ≤ rm.frames ∧ 8 + (M2.2.2.1 + 11) + rm2.locals ≤ rm.locals) (hf : ac + rm2.cells ≤ rm.cells ∧ sl + rm2.slots ≤ rm.slots)
    (kk : ∀ v n' sh' I' R', Q2 v n' sh' I' R' → mv_E l D b0 M rm Q (pc + 3) loc (v.toList ++ stk) (ac + rm2.cells) (sl + rm2.slots) n' sh' I' R') : mv_E l D b0 M rm Q pc loc st0 ac sl n sh I R := by
  intro p e s m args below meth c H locs ls C L hH hS
  obtain ⟨⟨w1, w2, w3, hds⟩, w4, hcn⟩ := hL
  subst hst
  have hsub : ∀ w ∈ mv_W, w ∈ mv_ws M := fun w h => List.mem_cons_of_mem _ h
  have hG : GoodIn (mv_ws M) (wsS M.1.cls idx M2.1 (mv_ws M2)) := by
    intro w hw
    rcases List.mem_append.mp hw with h | h
    · have hin : w ∈ mv_W := by
        simp only [List.mem_cons, List.not_mem_nil, or_false] at h
        rcases h with rfl | rfl | rfl
        · exact w1
        · exact w4
        · rw [← hcn]; exact w3
      exact ⟨hsub w hin, good_of_word (mv_ofW hin).2⟩
    · exact mv_goodT hsub w2 w h
  refine mv_after (Q2 := Q2) C L hS (va_runS (As := As) (rest := stk) (y := M2.1) (bytes := M2.2.1) (maxL := M2.2.2.1) (ret := M2.2.2.2) ⟨C.1, C.2.1, C.2.2.1, C.2.2.2.1, C.2.2.2.2.1⟩ hC (cwS k C.2.2.2.2.1 hG rfl rfl rfl ⟨hcn, hds⟩ hR) ⟨mv_blind, fun U hU hW => ⟨rfl, ?_, C.2.2.2.2.2.1.warm hW, ?_⟩⟩ rfl hk L.1 rfl (lv_room hcat) hd hf) kk
  · rw [hU]; exact hH.moved hW.alike
  · rw [hU]; exact Nat.le_trans C.2.2.2.2.2.2.2.2.2 hS.1
theorem mv_callI {a : Nat} (hd : decode M.2.1 pc = .ok (.invokespecial idx, 3)) (hL : mv_LkI M.1.cls idx M2 k) (hC : mv_C l D b0 M2 rm2 (.ref a :: As) n sh I R Q2) (hk : As.length = k) (hst : st0 = As.reverse ++ .ref a :: stk) (hcat : (stk.map fun v => v.category).sum ≤ 8)
    (hR : rm2.frames + 1 ≤ rm.frames ∧ 8 + (M2.2.2.1 + 11) + rm2.locals ≤ rm.locals) (hf : ac + rm2.cells ≤ rm.cells ∧ sl + rm2.slots ≤ rm.slots)
    (kk : ∀ v n' sh' I' R', Q2 v n' sh' I' R' → mv_E l D b0 M rm Q (pc + 3) loc (v.toList ++ stk) (ac + rm2.cells) (sl + rm2.slots) n' sh' I' R') : mv_E l D b0 M rm Q pc loc st0 ac sl n sh I R := by
  intro p e s m args below meth c H locs ls C L hH hS
  obtain ⟨⟨w1, w2, w3, hds⟩, w4, hy1, hnone⟩ := hL
  subst hst
  have hsub : ∀ w ∈ mv_W, w ∈ mv_ws M := fun w h => List.mem_cons_of_mem _ h
  have hw : mv_ws M2 = Cond.code M2.1 M2.2.1 M2.2.2.1 none :: mv_W := by unfold mv_ws; rw [hnone]
  refine mv_after (Q2 := Q2) C L hS (va_runI (As := As) (rest := stk) (y := M2.1) (bytes := M2.2.1) (maxL := M2.2.2.1) ⟨C.1, C.2.1, C.2.2.1, C.2.2.2.1, C.2.2.2.2.1⟩ hC (cwI k C.2.2.2.2.1 (mv_goodT hsub w2) hw rfl rfl (C.w _ w3) (C.w _ w1) (C.w _ w4) hy1 hds hR) ⟨mv_blind, fun U hU hW => ⟨rfl, ?_, C.2.2.2.2.2.1.warm hW, ?_⟩⟩ rfl hk L.1 rfl (lv_room hcat) hd hf) kk
  · rw [hU]; exact hH.moved hW.alike
  · rw [hU]; exact Nat.le_trans C.2.2.2.2.2.2.2.2.2 hS.1
/-- the private constructor of Tokens, called by ScopeTasks -/
theorem mv_callN {a : Nat} (hd : decode M.2.1 pc = .ok (.invokespecial 9, 3)) (hM : M.1.cls = RX5) (hM2 : M2.1 = yX4_init) (w2 : Cond.code M2.1 M2.2.1 M2.2.2.1 M2.2.2.2 ∈ mv_W) (w3 : Cond.initialized RX4 ∈ mv_W) (w4 : Cond.instanceMethod yX4_init ∈ mv_W) (hnone : M2.2.2.2 = none) (hC : mv_C l D b0 M2 rm2 [.ref a] n sh I R Q2) (hst : st0 = .ref a :: stk) (hcat : (stk.map fun v => v.category).sum ≤ 8)
    (hR : rm2.frames + 1 ≤ rm.frames ∧ 8 + (M2.2.2.1 + 11) + rm2.locals ≤ rm.locals) (hf : ac + rm2.cells ≤ rm.cells ∧ sl + rm2.slots ≤ rm.slots)
    (kk : ∀ v n' sh' I' R', Q2 v n' sh' I' R' → mv_E l D b0 M rm Q (pc + 3) loc (v.toList ++ stk) (ac + rm2.cells) (sl + rm2.slots) n' sh' I' R') : mv_E l D b0 M rm Q pc loc st0 ac sl n sh I R := by
  intro p e s m args below meth c H locs ls C L hH hS
  subst hst
  have hsub : ∀ w ∈ mv_W, w ∈ mv_ws M := fun w h => List.mem_cons_of_mem _ h
  have hw : mv_ws M2 = Cond.code M2.1 M2.2.1 M2.2.2.1 none :: mv_W := by unfold mv_ws; rw [hnone]
  have hN := C.2.2.2.2.2.1.2.2
  refine mv_after (Q2 := Q2) C L hS (va_runIN (As := []) (rest := stk) (y := M2.1) (host := RX5) (bytes := M2.2.1) (maxL := M2.2.2.1) ⟨C.1, C.2.1, C.2.2.1, C.2.2.2.1, C.2.2.2.2.1⟩ hC ⟨va_cnB 0 C.2.2.2.2.1 (mv_goodT hsub w2) hw rfl rfl (by rw [hM, hM2]; exact hN) (by rw [hM2]; exact C.w _ w3) (by rw [hM2]; decide +kernel) hR, by rw [hM2]; rfl, by rw [hM2]; exact C.w _ w4⟩ ⟨mv_blind, fun U hU hW => ⟨rfl, ?_, C.2.2.2.2.2.1.warm hW, ?_⟩⟩ rfl rfl L.1 rfl (lv_room hcat) hd hf) kk
  · rw [hU]; exact hH.moved hW.alike
  · rw [hU]; exact Nat.le_trans C.2.2.2.2.2.2.2.2.2 hS.1
theorem mv_objInit {a : Nat} (hd : decode M.2.1 pc = .ok (.invokespecial idx, 3)) (w1 : Cond.methodLink M.1.cls idx Lib.objectInit ∈ mv_W) (w2 : Cond.instanceMethod Lib.objectInit ∈ mv_W) (w3 : Cond.code Lib.objectInit ⟨#[0xb1]⟩ 1 none ∈ mv_W) (hcat : (stk.map fun v => v.category).sum ≤ 8) (hR : 1 ≤ rm.frames ∧ 20 ≤ rm.locals)
    (kk : mv_E l D b0 M rm Q (pc + 3) loc stk ac sl n sh I R) : mv_E l D b0 M rm Q pc loc (.ref a :: stk) ac sl n sh I R := by
  intro p e s m args below meth c H locs ls C L hH hS
  refine W.objInit C.1 C.2.1 C.2.2.2.1 (C.w _ w1) (C.w _ w2) (C.w _ w3) rfl (by rw [C.2.2.1]; exact L.1) rfl hd hR.1 ?_ (kk p e s m args below meth c H locs ls C L hH hS)
  have := lv_room (m := m) (pc := pc) (ls := ls) (rest := .ref a :: stk) hcat
  omega
theorem mv_mmin {x y : Int32} (hd : decode M.2.1 pc = .ok (.invokestatic idx, 3)) (w1 : Cond.methodLink M.1.cls idx Lib.Math.min.name ∈ mv_W) (w2 : Cond.static Lib.Math.min.name ∈ mv_W) (w3 : Cond.initialized "java/lang/Math" ∈ mv_W) (w4 : Cond.code Lib.Math.min.name Lib.Math.min.code 2 (some .int) ∈ mv_W) (hcat : (stk.map fun v => v.category).sum ≤ 8) (hR : 1 ≤ rm.frames ∧ 21 ≤ rm.locals) (h1 : ac ≤ rm.cells) (h2 : sl ≤ rm.slots)
    (kk : mv_E l D b0 M rm Q (pc + 3) loc (.int (if y < x then y else x) :: stk) ac sl n sh I R) : mv_E l D b0 M rm Q pc loc (.int y :: .int x :: stk) ac sl n sh I R := by
  intro p e s m args below meth c H locs ls C L hH hS
  exact va_mmin C.1 C.2.1 (by rw [C.2.2.1]; exact L.1.symm) C.2.2.2.1 (C.w _ w1) (C.w _ w2) (C.w _ w3) (C.w _ w4) hR.1 (by omega) h1 h2 hd (kk p e s m args below meth c H locs ls C L hH hS)
theorem mv_mmax {x y : Int32} (hd : decode M.2.1 pc = .ok (.invokestatic idx, 3)) (w1 : Cond.methodLink M.1.cls idx Lib.Math.max.name ∈ mv_W) (w2 : Cond.static Lib.Math.max.name ∈ mv_W) (w3 : Cond.initialized "java/lang/Math" ∈ mv_W) (w4 : Cond.code Lib.Math.max.name Lib.Math.max.code 2 (some .int) ∈ mv_W) (hcat : (stk.map fun v => v.category).sum ≤ 8) (hR : 1 ≤ rm.frames ∧ 21 ≤ rm.locals) (h1 : ac ≤ rm.cells) (h2 : sl ≤ rm.slots)
    (kk : mv_E l D b0 M rm Q (pc + 3) loc (.int (if x < y then y else x) :: stk) ac sl n sh I R) : mv_E l D b0 M rm Q pc loc (.int y :: .int x :: stk) ac sl n sh I R := by
  intro p e s m args below meth c H locs ls C L hH hS
  exact va_mmax C.1 C.2.1 (by rw [C.2.2.1]; exact L.1.symm) C.2.2.2.1 (C.w _ w1) (C.w _ w2) (C.w _ w3) (C.w _ w4) hR.1 (by omega) h1 h2 hd (kk p e s m args below meth c H locs ls C L hH hS)
/-- System.arraycopy of the first cnt ints of one array to those of another -/
theorem mv_copy {a0 a1 l0 l1 cnt : Nat} {k : Int32} (hd : decode M.2.1 pc = .ok (.invokestatic idx, 3)) (w1 : Cond.methodLink M.1.cls idx arraycopyName ∈ mv_W) (w2 : Cond.native arraycopyName ∈ mv_W) (w3 : Cond.static arraycopyName ∈ mv_W) (w4 : Cond.initialized "java/lang/System" ∈ mv_W) (h0 : sh a0 = (7, l0)) (h1 : sh a1 = (7, l1)) (hk : k = nI cnt) (hk0 : cnt ≤ l0) (hk1 : cnt ≤ l1) (hcat : (stk.map fun v => v.category).sum ≤ 8) (hR : 1 ≤ rm.frames ∧ 8 + (nativeFrameWords "java/lang/System" "arraycopy" 5 + 11) ≤ rm.locals)
    (kk : mv_E l D b0 M rm Q (pc + 3) loc stk ac sl n sh (mv_rp I a1 (fun j => if j < cnt then I a0 j else I a1 j)) R) (hl : l0 < 2 ^ 31 := by decide) : mv_E l D b0 M rm Q pc loc (.int k :: .int 0 :: .ref a1 :: .int 0 :: .ref a0 :: stk) ac sl n sh I R := by
  intro p e s m args below meth c H locs ls C L hH hS
  subst hk
  have hcl : (nI cnt).toNatClampNeg = cnt := nI_clamp (Nat.lt_of_le_of_lt hk0 hl)
  have hz : (0 : Int32).toNatClampNeg = 0 := by decide
  have hti : (nI cnt).toInt = (cnt : Int) := nI_toInt (Nat.lt_of_le_of_lt hk0 hl)
  obtain ⟨c0, c01, c02⟩ := (hH.2.2 a0).2.1 (by rw [h0])
  rw [h0] at c01
  obtain ⟨c1, c11, c12⟩ := (hH.2.2 a1).2.1 (by rw [h1])
  rw [h1] at c11
  have hA : b0 ≤ a1 := (hH.2.1 a1 (by rw [h1]; simp)).1
  have hc0 : H[a0]? = some (vp_cell c0 (l0, .inl (I a0))) := c01
  have hc1 : H[a1]? = some (vp_cell c1 (l1, .inl (I a1))) := c11
  intro T hT X
  obtain ⟨-, k0, hk0', cm0, hkk0⟩ := c02 l0 (fun j => .int (I a0 j))
  obtain ⟨-, k1, hk1', cm1, hkk1⟩ := c12 l1 (fun j => .int (I a1 j))
  obtain ⟨vm', X', step⟩ := X.arraycopy C.1 C.2.2.2.1 (C.w _ w1) (C.w _ w2) (C.w _ w3) (C.w _ w4) (src := a0) (dst := a1) (cs := vp_cell c0 (l0, .inl (I a0))) (cd := vp_cell c1 (l1, .inl (I a1))) (srcPos := 0) (destPos := 0) (n := nI cnt) (by rw [hT]; exact hc0) (by rw [hT]; exact hc1)
    (fun _ h => by cases h) (fun _ h => by cases h) (fun h => by cases h) (fun h => by cases h) hk0' hk1' hkk0 hkk1 (by simp [refKind]) (by decide) (by decide) (nI_pos (Nat.lt_of_le_of_lt hk0 hl))
    (by rw [hti]; show ¬ _ > ((arrV c0 l0 (fun j => .int (I a0 j))).slots.size : Int); rw [arrV_size]; simp; omega)
    (by rw [hti]; show ¬ _ > ((arrV c1 l1 (fun j => .int (I a1 j))).slots.size : Int); rw [arrV_size]; simp; omega)
    (fun vm₁ _ i hi => by
      rw [hcl] at hi
      have e : (vp_cell c0 (l0, .inl (I a0))).slots.getD ((0 : Int32).toNatClampNeg + i) .null = .int (I a0 ((0 : Int32).toNatClampNeg + i)) := by
        show (arrV c0 l0 (fun j => .int (I a0 j))).slots.getD _ _ = _
        rw [Array.getD_eq_getD_getElem?, arrV_read _ _ (by rw [hz]; omega)]
        rfl
      refine ⟨?_, ?_⟩
      · rw [e]; rfl
      · rw [e]
        exact trivial)
    (g := F0 m pc ls (.int (nI cnt) :: .int 0 :: .ref a1 :: .int 0 :: .ref a0 :: stk)) rfl (by rw [C.2.2.1]; exact L.1) (rest := stk) rfl (by rw [C.2.1]; exact hd) hR.1 (by show 2 * 0 + _ + _ ≤ _; omega)
  have e1 : copied (vp_cell c0 (l0, .inl (I a0))) (vp_cell c1 (l1, .inl (I a1))) 0 0 (nI cnt) = vp_cell c1 (l1, .inl (va_cpy (I a0) (I a1) (0 : Int32).toNatClampNeg (0 : Int32).toNatClampNeg (nI cnt).toNatClampNeg)) := va_copied (fun z => .int z) c0 c1 (I a0) (I a1) (by rw [hcl, hz]; omega)
  rw [e1] at X' step
  have e2 : va_cpy (I a0) (I a1) (0 : Int32).toNatClampNeg (0 : Int32).toNatClampNeg (nI cnt).toNatClampNeg = fun j => if j < cnt then I a0 j else I a1 j := by
    funext j
    simp [va_cpy, hcl, hz]
  rw [e2] at X' step
  have hlt : a1 < H.size := (Array.getElem?_eq_some_iff.mp hc1).1
  have hheap : ((T.setVm vm').setCell a1 (vp_cell c1 (l1, .inl (fun j => if j < cnt then I a0 j else I a1 j)))).heap = H.setIfInBounds a1 (vp_cell c1 (l1, .inl (fun j => if j < cnt then I a0 j else I a1 j))) := by rw [← hT]; rfl
  have oq : ∀ q : Nat, q ≠ a1 → (H.setIfInBounds a1 (vp_cell c1 (l1, .inl (fun j => if j < cnt then I a0 j else I a1 j))))[q]? = H[q]? := fun q hq => by simp [Array.getElem?_setIfInBounds, Ne.symm hq]
  obtain ⟨t, b1, b2⟩ := kk p e s m args below meth c _ _ ls C L (hH.set (a := a1) (H1 := H.setIfInBounds a1 (vp_cell c1 (l1, .inl (fun j => if j < cnt then I a0 j else I a1 j)))) (by simp) oq (fun x hx => by simp [mv_rp, hx]) (fun _ _ => rfl) (by rw [h1]; simp only [mv_rp, if_true]; exact mv_at7 (by simp [Array.getElem?_setIfInBounds, hlt]) c12)) ⟨by simp; exact hS.1, fun q g1 g2 => by
      rw [oq q (fun e => g2 (by rw [e]; exact hA))]
      exact hS.2.1 q g1 g2, fun q hq => by
      rcases List.mem_append.mp hq with h | h
      · exact hS.2.2 q h
      · obtain ⟨z, -, hz⟩ := List.mem_map.mp h
        rw [← hz]
        exact hA⟩ _ hheap X'
  exact ⟨t, step t b1, b2⟩
end MD
