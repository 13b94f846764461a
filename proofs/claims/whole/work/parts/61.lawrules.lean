/-! THE CLAIM OUT OF ONE WALK OF THE LAW'S BODY. Your part is whole_start (and what it stands on); all else here is the same for every law, but numbers. -/
def R_law : String := "ScopeTasksLaw"
def lw_P (b : Addr) (xs : List Int32) (args : Array Value) (s : State) : Prop := args = #[.ref b] ∧ s.IntsAt b xs ∧ xs.length ≤ 2048 ∧ (Jvm.Cond.and given_1 narrow_1).before args s = true
def lw_Q (_ : Array Value) (s : State) (o : Outcome) (t : State) : Prop := o = .returned (some (.int 1)) ∧ Framed s o t [] 600000 7302250
def lw_Z (below : List Frame) (a : Array Value) (s : State) : State → Prop := fun t => ∃ o, t.status = .running ∧ Ended t below o ∧ lw_Q a s o t
/-- the law's own end, with 1 on the stack, nothing written that was there before, its room as the claim has it -/
theorem lw_ret {p : Program} {l : Launch} {e : Env} {s : State} {m : MethodId} {below : List Frame} {meth : Method} {c : Code} {b : Nat} (hx : p.tables.exec = Jvm.exec) (hb : c.code = code) (hr : meth.sig.returnType = ret) (hlocks : meth.locks = false) {pc : Nat} {H : Heap} {ls : Array Slot} (hdg : decode code pc = .ok (.ireturn, 1)) : W p l e room_1 s m #[Value.ref b] below meth c H [] 600000 7302250 (lw_Z below #[Value.ref b] s) (F0 m pc ls [.int 1]) := by
  intro T hT X
  obtain ⟨fs, hret, hrun, hended, hW, hframe⟩ := X.leave (v := some (.int 1)) (hlocks := hlocks) (fun h => by rw [hr] at h; cases h)
  have hmeth' : T.vm.method? m = some meth := X.method'
  refine ⟨T.setFrames fs, ?_, .returned (some (.int 1)), hrun, hended, rfl, ⟨_, rfl⟩, hW, hframe⟩
  jvm_step X.here [X.here.top, hx, hb, hdg, hmeth', hr, ret, narrow_b1]
  (try refine ⟨rfl, ?_⟩); (try refine ⟨rfl, ?_⟩)
  first | (intro acts; rw [hret _ acts rfl rfl rfl]) | rw [hret _ _ rfl rfl rfl]
  exact Steps.refl _
/-- what holds at the law's entry: the machine, the code, the tables' words (any of lw_tbl by 'hts w (by decide +kernel)'), the script of L ints xs at the cell b, what the Statement gives of the start (any of its parts by flat_of_before) -/
def lw_At (p : Program) (s : State) (m : MethodId) (meth : Method) (c : Code) (b L : Nat) (xs : Nat → Int32) : Prop :=
  p.tables.exec = Jvm.exec ∧ c.code = code ∧ meth.sig.returnType = ret ∧ c.maxLocals = 4 ∧ s.vm.findClass R_law = some m.cls ∧ (∀ w ∈ lw_tbl, w.before #[Value.ref b] s = true) ∧ va_X b L xs s s.heap ∧ b < s.heap.size ∧ meth.locks = false ∧ (Jvm.Cond.and given_1 narrow_1).before #[Value.ref b] s = true
theorem lw_W {w : Cond} (h : w ∈ mv_W) : w ∈ lw_tbl := (mv_ofW h).1
section LW
variable {p : Program} {l : Launch} {e : Env} {s : State} {m : MethodId} {below : List Frame} {meth : Method} {c : Code} {b L : Nat} {xs : Nat → Int32} {D : va_G} {Q : State → Prop} {pc n cells slots : Nat} {ls : Array Slot} {stk st0 : List Value} {sh : mv_Sh} {I : mv_I} {R : mv_R} {H : Heap} {locs : List Loc} {M2 : mv_M} {rm2 : Room} {As : List Value} {Q2 : mv_Q} {idx k : Nat}
theorem lw_after {rest : List Value} {av : Array Value} (hS : va_S (fun q : Nat => s.heap.size ≤ q) s.heap H locs) (hr : va_Run p l e room_1 s m #[Value.ref b] below meth c H locs cells slots rm2.cells rm2.slots (F0 m pc ls st0) rest (mv_Qc D s.heap.size Q2 av) (fun q : Nat => s.heap.size ≤ q))
    (kk : ∀ v n' sh' I' R' H' locs', Q2 v n' sh' I' R' → mv_H D s.heap.size n' sh' I' R' s H' → va_S (fun q : Nat => s.heap.size ≤ q) s.heap H' locs' → W p l e room_1 s m #[Value.ref b] below meth c H' locs' (cells + rm2.cells) (slots + rm2.slots) Q (F0 m (pc + 3) ls (v.toList ++ rest))) : W p l e room_1 s m #[Value.ref b] below meth c H locs cells slots Q (F0 m pc ls st0) := by
  refine mv_callx hr fun v st t locs1 h0 hq hvm hl => ?_
  obtain ⟨⟨v', n', sh', I', R', hv, h2, h3⟩, hF⟩ := hq
  cases hv
  refine kk v n' sh' I' R' t.heap locs1 h2 (h3.moved hvm.symm) ⟨Nat.le_trans hS.1 (by rw [← h0]; exact hF.1), fun q a1 a2 => ?_, fun q hq => (hl q hq).elim (hS.2.2 q) id⟩
  rw [hF.2 q (by rw [h0]; exact Nat.lt_of_lt_of_le a1 hS.1) a2, h0]
  exact hS.2.1 q a1 a2
theorem lw_callV {a ci : Nat} (C0 : lw_At p s m meth c b L xs) (hK : mv_K D s) (hd : decode code pc = .ok (.invokevirtual idx, 3)) (hL : mv_LkV RL idx M2 k ci) (ha : (sh a).1 = ci) (hC : mv_C l D s.heap.size M2 rm2 (.ref a :: As) n sh I R Q2) (hk : As.length = k) (hst : st0 = As.reverse ++ .ref a :: stk) (hcat : (stk.map fun v => v.category).sum ≤ 8)
    (hR : rm2.frames + 1 ≤ room_1.frames ∧ 8 + (M2.2.2.1 + 11) + rm2.locals ≤ room_1.locals) (hf : cells + rm2.cells ≤ room_1.cells ∧ slots + rm2.slots ≤ room_1.slots) (hls : ls.size = 4) (hH : mv_H D s.heap.size n sh I R s H) (hS : va_S (fun q : Nat => s.heap.size ≤ q) s.heap H locs)
    (kk : ∀ v n' sh' I' R' H' locs', Q2 v n' sh' I' R' → mv_H D s.heap.size n' sh' I' R' s H' → va_S (fun q : Nat => s.heap.size ≤ q) s.heap H' locs' → W p l e room_1 s m #[Value.ref b] below meth c H' locs' (cells + rm2.cells) (slots + rm2.slots) Q (F0 m (pc + 3) ls (v.toList ++ stk))) : W p l e room_1 s m #[Value.ref b] below meth c H locs cells slots Q (F0 m pc ls st0) := by
  obtain ⟨hx, hb, hr, hml, hown, hts, -⟩ := C0
  obtain ⟨⟨w1, w2, w3, hds⟩, w4, w5, h7, hcn⟩ := hL
  subst hst
  subst ha
  have hG : GoodIn lw_tbl (wsV RL idx M2.1.cls M2.1 (mv_ws M2)) := by
    intro w hw
    rcases List.mem_append.mp hw with h | h
    · have hin : w ∈ mv_W := by
        simp only [List.mem_cons, List.not_mem_nil, or_false] at h
        rcases h with rfl | rfl | rfl | rfl
        · exact w1
        · exact w4
        · exact w5
        · exact w3
      exact ⟨lw_W hin, good_of_word (mv_ofW hin).2⟩
    · exact mv_goodT (fun w h => lw_W h) w2 w h
  refine lw_after (Q2 := Q2) hS (va_runV (As := As) (rest := stk) (y := M2.1) (bytes := M2.2.1) (maxL := M2.2.2.1) (ret := M2.2.2.2) (own := RL) ⟨hx, hb, hml, hown, hts⟩ hC (cwV (C := M2.1.cls) k hts hG rfl rfl rfl ⟨rfl, hds⟩ hR) ⟨mv_blind, ?_, fun U hU hW => ⟨rfl, ?_, hK.warm hW, ?_⟩⟩ rfl hk hls rfl (lv_room hcat) hd hf) kk
  · obtain ⟨cell, g1, g2, g3, -⟩ := (hH.2.2 a).1 h7
    exact ⟨cell, g1, by rw [g3]; rfl, by rw [g2, ← hcn]; exact (hK.1.1 _ _ (mv_cl h7)).2.1⟩
  · rw [hU]; exact hH.moved hW.alike
  · rw [hU]; exact hS.1
theorem lw_callI {a : Nat} (C0 : lw_At p s m meth c b L xs) (hK : mv_K D s) (hd : decode code pc = .ok (.invokespecial idx, 3)) (hL : mv_LkI RL idx M2 k) (hC : mv_C l D s.heap.size M2 rm2 (.ref a :: As) n sh I R Q2) (hk : As.length = k) (hst : st0 = As.reverse ++ .ref a :: stk) (hcat : (stk.map fun v => v.category).sum ≤ 8)
    (hR : rm2.frames + 1 ≤ room_1.frames ∧ 8 + (M2.2.2.1 + 11) + rm2.locals ≤ room_1.locals) (hf : cells + rm2.cells ≤ room_1.cells ∧ slots + rm2.slots ≤ room_1.slots) (hls : ls.size = 4) (hH : mv_H D s.heap.size n sh I R s H) (hS : va_S (fun q : Nat => s.heap.size ≤ q) s.heap H locs)
    (kk : ∀ v n' sh' I' R' H' locs', Q2 v n' sh' I' R' → mv_H D s.heap.size n' sh' I' R' s H' → va_S (fun q : Nat => s.heap.size ≤ q) s.heap H' locs' → W p l e room_1 s m #[Value.ref b] below meth c H' locs' (cells + rm2.cells) (slots + rm2.slots) Q (F0 m (pc + 3) ls (v.toList ++ stk))) : W p l e room_1 s m #[Value.ref b] below meth c H locs cells slots Q (F0 m pc ls st0) := by
  obtain ⟨hx, hb, hr, hml, hown, hts, -⟩ := C0
  obtain ⟨⟨w1, w2, w3, hds⟩, w4, hy1, hnone⟩ := hL
  subst hst
  have hw : mv_ws M2 = Cond.code M2.1 M2.2.1 M2.2.2.1 none :: mv_W := by unfold mv_ws; rw [hnone]
  refine lw_after (Q2 := Q2) hS (va_runI (As := As) (rest := stk) (y := M2.1) (bytes := M2.2.1) (maxL := M2.2.2.1) (own := RL) ⟨hx, hb, hml, hown, hts⟩ hC (cwI k hts (mv_goodT (fun w h => lw_W h) w2) hw rfl rfl (hts _ (lw_W w3)) (hts _ (lw_W w1)) (hts _ (lw_W w4)) hy1 hds hR) ⟨mv_blind, fun U hU hW => ⟨rfl, ?_, hK.warm hW, ?_⟩⟩ rfl hk hls rfl (lv_room hcat) hd hf) kk
  · rw [hU]; exact hH.moved hW.alike
  · rw [hU]; exact hS.1
theorem lw_cC {a ci : Nat} {P : Int32 → mv_I → mv_R → Prop} (C0 : lw_At p s m meth c b L xs) (hK : mv_K D s) (hd : decode code pc = .ok (.invokevirtual idx, 3)) (hL : mv_LkV RL idx M2 k ci) (ha : (sh a).1 = ci) (hC : mv_C l D s.heap.size M2 (mv_rm 7) (.ref a :: As) n sh I R (mv_PI n sh P)) (hk : As.length = k) (hst : st0 = As.reverse ++ .ref a :: stk) (hcat : (stk.map fun v => v.category).sum ≤ 8) (hR : M2.2.2.1 ≤ 21) (hf : cells ≤ room_1.cells ∧ slots ≤ room_1.slots) (hls : ls.size = 4) (hH : mv_H D s.heap.size n sh I R s H) (hS : va_S (fun q : Nat => s.heap.size ≤ q) s.heap H locs)
    (kk : ∀ r I' R' H' locs', P r I' R' → mv_H D s.heap.size n sh I' R' s H' → va_S (fun q : Nat => s.heap.size ≤ q) s.heap H' locs' → W p l e room_1 s m #[Value.ref b] below meth c H' locs' cells slots Q (F0 m (pc + 3) ls (.int r :: stk))) : W p l e room_1 s m #[Value.ref b] below meth c H locs cells slots Q (F0 m pc ls st0) := by
  refine lw_callV C0 hK hd hL ha hC hk hst hcat ⟨by decide, ?_⟩ hf hls hH hS ?_
  · show 8 + (M2.2.2.1 + 11) + 280 ≤ 374
    omega
  · intro v n' sh' I' R' H' locs' hq h1 h2
    obtain ⟨r, e1, e2, e3, hp⟩ := hq
    subst e1 e2 e3
    exact kk r I' R' H' locs' hp h1 h2
theorem lw_cM {a ci : Nat} {P : Int32 → mv_I → Prop} (C0 : lw_At p s m meth c b L xs) (hK : mv_K D s) (hd : decode code pc = .ok (.invokevirtual idx, 3)) (hL : mv_LkV RL idx M2 k ci) (ha : (sh a).1 = ci) (hC : mv_C l D s.heap.size M2 (mv_rm 7) (.ref a :: As) n sh I R (mv_Pi n sh R P)) (hk : As.length = k) (hst : st0 = As.reverse ++ .ref a :: stk) (hcat : (stk.map fun v => v.category).sum ≤ 8) (hR : M2.2.2.1 ≤ 21) (hf : cells ≤ room_1.cells ∧ slots ≤ room_1.slots) (hls : ls.size = 4) (hH : mv_H D s.heap.size n sh I R s H) (hS : va_S (fun q : Nat => s.heap.size ≤ q) s.heap H locs)
    (kk : ∀ r I' H' locs', P r I' → mv_H D s.heap.size n sh I' R s H' → va_S (fun q : Nat => s.heap.size ≤ q) s.heap H' locs' → W p l e room_1 s m #[Value.ref b] below meth c H' locs' cells slots Q (F0 m (pc + 3) ls (.int r :: stk))) : W p l e room_1 s m #[Value.ref b] below meth c H locs cells slots Q (F0 m pc ls st0) := by
  refine lw_callV C0 hK hd hL ha hC hk hst hcat ⟨by decide, ?_⟩ hf hls hH hS ?_
  · show 8 + (M2.2.2.1 + 11) + 280 ≤ 374
    omega
  · intro v n' sh' I' R' H' locs' hq h1 h2
    obtain ⟨r, e1, e2, e3, e4, hp⟩ := hq
    subst e1 e2 e3 e4
    exact kk r I' H' locs' hp h1 h2
theorem lw_new {ci : Nat} (C0 : lw_At p s m meth c b L xs) (hK : mv_K D s) (hd : decode code pc = .ok (.new idx, 3)) (h7 : ci < 7) (w1 : Cond.classLink RL idx (mv_Cn ci) ∈ mv_W) (w2 : Cond.instantiable (mv_Cn ci) (mv_N ci) ∈ mv_W) (w3 : Cond.initialized (mv_Cn ci) ∈ mv_W) (hac : cells + 1 ≤ room_1.cells) (hsl : slots + mv_N ci ≤ room_1.slots) (hH : mv_H D s.heap.size n sh I R s H) (hS : va_S (fun q : Nat => s.heap.size ≤ q) s.heap H locs)
    (kk : ∀ H1, mv_H D s.heap.size (n + 1) (mv_rp sh n (ci, mv_N ci)) (mv_rp I n (fun _ => 0)) (mv_rp R n (fun _ => none)) s H1 → va_S (fun q : Nat => s.heap.size ≤ q) s.heap H1 locs → W p l e room_1 s m #[Value.ref b] below meth c H1 locs (cells + 1) (slots + mv_N ci) Q (F0 m (pc + 3) ls (.ref n :: stk))) : W p l e room_1 s m #[Value.ref b] below meth c H locs cells slots Q (F0 m pc ls stk) := by
  obtain ⟨hx, hb, hr, hml, hown, hts, -⟩ := C0
  have hw : ∀ w ∈ mv_W, w.before #[Value.ref b] s = true := fun w h => hts w (lw_W h)
  have hKn := hK.1.1 _ _ (mv_cl h7)
  refine W.newcK hx hb hown (hw _ w1) (hw _ w2) (hw _ w3) rfl hd hac hsl hKn.2.1 hH.1 fun H1 kC hkC e1 z1 o1 => ?_
  have hbn : s.heap.size ≤ n := by rw [← hH.1]; exact hS.1
  refine kk H1 (hH.push hbn z1 o1 (mv_atO (x := mv_N ci) h7 ?_)) ⟨Nat.le_trans hS.1 (by rw [hH.1, z1]; omega), fun x h1 h2 => (o1 x (by rw [← hH.1]; exact Nat.lt_of_lt_of_le h1 hS.1)).trans (hS.2.1 x h1 h2), hS.2.2⟩
  exact (u_born (mv_ty ci) hw (mv_lays h7) hKn hkC e1 (mv_tyok h7)).to (mv_dv h7)
end LW
theorem ly_Mod.upR {sh : mv_Sh} {R R2 : mv_R} {p : Nat} (h : ly_Mod sh R p) (e : R2 p = R p) : ly_Mod sh R2 p := by
  unfold ly_Mod
  rw [e]
  exact h
theorem gm_S.all {I I' : mv_I} {m : Nat} {σ : ab_S} (h : gm_S I m σ) (e : ∀ b, m ≤ b → I' b = I b) : gm_S I' m σ := by
  obtain ⟨w, L, nt, π, x, uh, us, kp, sn, se⟩ := σ
  obtain ⟨⟨h0, h1⟩, h2, h3, h4, h5, h6⟩ := h
  have em := e m (by omega)
  exact ⟨⟨by rw [em]; exact h0, fun j hj => by rw [e (m + 1) (by omega)]; exact h1 j hj⟩, h2.eq em (fun b b1 b2 => e b (by omega)), h3.cp (fun k _ => by rw [e (m + 14) (by omega)]), h4.eq (by rw [em]) (by rw [em]) (e _ (by omega)), fun i hi => (h5 i hi).eq (e _ (by omega)) (e _ (by omega)), h6.eq (by rw [em]) (fun b b1 b2 => e b (by omega))⟩
theorem gc_S.all {I I' : mv_I} {z : Nat} {σ : ab_S} (h : gc_S I z σ) (e : ∀ b, b < z + 278 → I' b = I b) : gc_S I' z σ := by
  obtain ⟨w, L, nt, π, x, uh, us, kp, sn, se⟩ := σ
  obtain ⟨⟨h0, h1⟩, h2, h3, h4, h5, h6⟩ := h
  exact ⟨⟨by rw [e _ (by omega)]; exact h0, fun j hj => by rw [e _ (by omega)]; exact h1 j hj⟩, h2.eq (fun b b1 b2 => e b (by omega)), h3.eq (fun b b1 b2 => e b (by omega)), h4.eq (e _ (by omega)) (fun b b1 b2 => e b (by omega)), fun i hi => (h5 i hi).eq hi (e _ (by omega)) (fun b b1 b2 => e b (by omega)), h6.eq (by rw [e z (by omega)]) (fun b b1 b2 => e b (by omega))⟩
theorem ly_ST.fr {sh sh2 : mv_Sh} {R R2 : mv_R} {z : Nat} (h : ly_ST sh R z) (e : ∀ b, b < z + 278 → sh2 b = sh b ∧ R2 b = R b) : ly_ST sh2 R2 z := by
  have es : ∀ b, b < z + 278 → sh2 b = sh b := fun b hb => (e b hb).1
  have er : ∀ b, b < z + 278 → R2 b = R b := fun b hb => (e b hb).2
  refine ⟨by rw [es z (by omega)]; exact h.o, by rw [er z (by omega)]; exact h.2.1, ⟨h.tx.fr (fun b b1 b2 => es b (by omega)) (er _ (by omega)), h.to.fr (fun b b1 b2 => es b (by omega)) (er _ (by omega)), h.dr.fr (fun b b1 b2 => es b (by omega)) (er _ (by omega)), h.sp.fr (fun b b1 b2 => es b (by omega)) (er _ (by omega)), ?_⟩, ⟨h.no.fr (fun b b1 b2 => es b (by omega)) (er _ (by omega)), by rw [er _ (by omega)]; exact h.nop⟩, h.tr.fr (fun b b1 b2 => es b (by omega)) (er _ (by omega)), h.hi.fr (fun b b1 b2 => e b (by omega)), ⟨by rw [es _ (by omega)]; exact h.im, fun i hi => ?_⟩, by rw [es _ (by omega)]; exact h.ke, by rw [es _ (by omega)]; exact h.s0, by rw [es _ (by omega)]; exact h.s1, by rw [es _ (by omega)]; exact h.s2⟩
  · have := h.rd
    unfold ly_Rd at this ⊢
    rw [er (z + 30) (by omega), es (z + 30) (by omega)]
    exact this
  · obtain ⟨a, b, c⟩ := h.imr i hi
    exact ⟨by rw [er _ (by omega)]; exact a, b.fr (fun x x1 x2 => es x (by omega)) (er _ (by omega)), by rw [er _ (by omega)]; exact c⟩
theorem lw_idx {i L : Nat} (hL : L ≤ 2048) (h : ¬ nI L - 4 < nI i) (hi : i ≤ 2048) : i + 4 ≤ L := by
  rcases Nat.lt_or_ge L 4 with q | q
  · exfalso
    have h1 : nI L - 4 < 0 := (by decide : ∀ L, L < 4 → nI L - 4 < 0) L q
    exact h (Int32.lt_of_lt_of_le h1 (nI_pos' (by omega)))
  · obtain ⟨k, rfl⟩ : ∃ k, L = k + 4 := ⟨L - 4, by omega⟩
    have e : nI (k + 4) - 4 = nI k := by
      rw [← nI_add k 4]
      exact Int32.add_sub_cancel _ _
    rw [e] at h
    have := (nI_leI (a := i) (b := k) (by omega) (by omega)).mp (Int32.not_lt.mp h)
    omega
