section MB
variable {l : Launch} {D : va_G} {b0 : Nat} {M : mv_M} {rm : Room} {Q : mv_Q} {pc : Nat} {loc stk : List Value} {ac sl n : Nat} {sh : mv_Sh} {I : mv_I} {R : mv_R}
theorem mv_icmp_eq {x y : Int32} {off : Int} {tgt : Nat} (hd : decode M.2.1 pc = .ok (.if_icmp .eq off, 3)) (ht : (pc : Int) + off = (tgt : Int)) (kt : x = y → mv_E l D b0 M rm Q tgt loc stk ac sl n sh I R) (kf : ¬ x = y → mv_E l D b0 M rm Q (pc + 3) loc stk ac sl n sh I R) : mv_E l D b0 M rm Q pc loc (.int y :: .int x :: stk) ac sl n sh I R := by
  intro p e s m args below meth c H locs ls C L hH hS
  exact lv_icmp_eq C.1 C.2.1 hd ht (fun h => kt h p e s m args below meth c H locs ls C L hH hS) (fun h => kf h p e s m args below meth c H locs ls C L hH hS)
theorem mv_icmp_ne {x y : Int32} {off : Int} {tgt : Nat} (hd : decode M.2.1 pc = .ok (.if_icmp .ne off, 3)) (ht : (pc : Int) + off = (tgt : Int)) (kt : ¬ x = y → mv_E l D b0 M rm Q tgt loc stk ac sl n sh I R) (kf : x = y → mv_E l D b0 M rm Q (pc + 3) loc stk ac sl n sh I R) : mv_E l D b0 M rm Q pc loc (.int y :: .int x :: stk) ac sl n sh I R := by
  intro p e s m args below meth c H locs ls C L hH hS
  exact lv_icmp_ne C.1 C.2.1 hd ht (fun h => kt h p e s m args below meth c H locs ls C L hH hS) (fun h => kf h p e s m args below meth c H locs ls C L hH hS)
theorem mv_icmp_lt {x y : Int32} {off : Int} {tgt : Nat} (hd : decode M.2.1 pc = .ok (.if_icmp .lt off, 3)) (ht : (pc : Int) + off = (tgt : Int)) (kt : x < y → mv_E l D b0 M rm Q tgt loc stk ac sl n sh I R) (kf : ¬ x < y → mv_E l D b0 M rm Q (pc + 3) loc stk ac sl n sh I R) : mv_E l D b0 M rm Q pc loc (.int y :: .int x :: stk) ac sl n sh I R := by
  intro p e s m args below meth c H locs ls C L hH hS
  exact lv_icmp_lt C.1 C.2.1 hd ht (fun h => kt h p e s m args below meth c H locs ls C L hH hS) (fun h => kf h p e s m args below meth c H locs ls C L hH hS)
theorem mv_icmp_ge {x y : Int32} {off : Int} {tgt : Nat} (hd : decode M.2.1 pc = .ok (.if_icmp .ge off, 3)) (ht : (pc : Int) + off = (tgt : Int)) (kt : y ≤ x → mv_E l D b0 M rm Q tgt loc stk ac sl n sh I R) (kf : ¬ y ≤ x → mv_E l D b0 M rm Q (pc + 3) loc stk ac sl n sh I R) : mv_E l D b0 M rm Q pc loc (.int y :: .int x :: stk) ac sl n sh I R := by
  intro p e s m args below meth c H locs ls C L hH hS
  exact lv_icmp_ge C.1 C.2.1 hd ht (fun h => kt h p e s m args below meth c H locs ls C L hH hS) (fun h => kf h p e s m args below meth c H locs ls C L hH hS)
theorem mv_icmp_gt {x y : Int32} {off : Int} {tgt : Nat} (hd : decode M.2.1 pc = .ok (.if_icmp .gt off, 3)) (ht : (pc : Int) + off = (tgt : Int)) (kt : y < x → mv_E l D b0 M rm Q tgt loc stk ac sl n sh I R) (kf : ¬ y < x → mv_E l D b0 M rm Q (pc + 3) loc stk ac sl n sh I R) : mv_E l D b0 M rm Q pc loc (.int y :: .int x :: stk) ac sl n sh I R := by
  intro p e s m args below meth c H locs ls C L hH hS
  exact lv_icmp_gt C.1 C.2.1 hd ht (fun h => kt h p e s m args below meth c H locs ls C L hH hS) (fun h => kf h p e s m args below meth c H locs ls C L hH hS)
theorem mv_icmp_le {x y : Int32} {off : Int} {tgt : Nat} (hd : decode M.2.1 pc = .ok (.if_icmp .le off, 3)) (ht : (pc : Int) + off = (tgt : Int)) (kt : x ≤ y → mv_E l D b0 M rm Q tgt loc stk ac sl n sh I R) (kf : ¬ x ≤ y → mv_E l D b0 M rm Q (pc + 3) loc stk ac sl n sh I R) : mv_E l D b0 M rm Q pc loc (.int y :: .int x :: stk) ac sl n sh I R := by
  intro p e s m args below meth c H locs ls C L hH hS
  exact lv_icmp_le C.1 C.2.1 hd ht (fun h => kt h p e s m args below meth c H locs ls C L hH hS) (fun h => kf h p e s m args below meth c H locs ls C L hH hS)
theorem mv_if_eq {x : Int32} {off : Int} {tgt : Nat} (hd : decode M.2.1 pc = .ok (.ifCond .eq off, 3)) (ht : (pc : Int) + off = (tgt : Int)) (kt : x = 0 → mv_E l D b0 M rm Q tgt loc stk ac sl n sh I R) (kf : ¬ x = 0 → mv_E l D b0 M rm Q (pc + 3) loc stk ac sl n sh I R) : mv_E l D b0 M rm Q pc loc (.int x :: stk) ac sl n sh I R := by
  intro p e s m args below meth c H locs ls C L hH hS
  exact lv_if_eq C.1 C.2.1 hd ht (fun h => kt h p e s m args below meth c H locs ls C L hH hS) (fun h => kf h p e s m args below meth c H locs ls C L hH hS)
theorem mv_if_ne {x : Int32} {off : Int} {tgt : Nat} (hd : decode M.2.1 pc = .ok (.ifCond .ne off, 3)) (ht : (pc : Int) + off = (tgt : Int)) (kt : ¬ x = 0 → mv_E l D b0 M rm Q tgt loc stk ac sl n sh I R) (kf : x = 0 → mv_E l D b0 M rm Q (pc + 3) loc stk ac sl n sh I R) : mv_E l D b0 M rm Q pc loc (.int x :: stk) ac sl n sh I R := by
  intro p e s m args below meth c H locs ls C L hH hS
  exact lv_if_ne C.1 C.2.1 hd ht (fun h => kt h p e s m args below meth c H locs ls C L hH hS) (fun h => kf h p e s m args below meth c H locs ls C L hH hS)
theorem mv_if_lt {x : Int32} {off : Int} {tgt : Nat} (hd : decode M.2.1 pc = .ok (.ifCond .lt off, 3)) (ht : (pc : Int) + off = (tgt : Int)) (kt : x < 0 → mv_E l D b0 M rm Q tgt loc stk ac sl n sh I R) (kf : ¬ x < 0 → mv_E l D b0 M rm Q (pc + 3) loc stk ac sl n sh I R) : mv_E l D b0 M rm Q pc loc (.int x :: stk) ac sl n sh I R := by
  intro p e s m args below meth c H locs ls C L hH hS
  exact lv_if_lt C.1 C.2.1 hd ht (fun h => kt h p e s m args below meth c H locs ls C L hH hS) (fun h => kf h p e s m args below meth c H locs ls C L hH hS)
theorem mv_if_ge {x : Int32} {off : Int} {tgt : Nat} (hd : decode M.2.1 pc = .ok (.ifCond .ge off, 3)) (ht : (pc : Int) + off = (tgt : Int)) (kt : 0 ≤ x → mv_E l D b0 M rm Q tgt loc stk ac sl n sh I R) (kf : ¬ 0 ≤ x → mv_E l D b0 M rm Q (pc + 3) loc stk ac sl n sh I R) : mv_E l D b0 M rm Q pc loc (.int x :: stk) ac sl n sh I R := by
  intro p e s m args below meth c H locs ls C L hH hS
  exact lv_if_ge C.1 C.2.1 hd ht (fun h => kt h p e s m args below meth c H locs ls C L hH hS) (fun h => kf h p e s m args below meth c H locs ls C L hH hS)
theorem mv_if_gt {x : Int32} {off : Int} {tgt : Nat} (hd : decode M.2.1 pc = .ok (.ifCond .gt off, 3)) (ht : (pc : Int) + off = (tgt : Int)) (kt : 0 < x → mv_E l D b0 M rm Q tgt loc stk ac sl n sh I R) (kf : ¬ 0 < x → mv_E l D b0 M rm Q (pc + 3) loc stk ac sl n sh I R) : mv_E l D b0 M rm Q pc loc (.int x :: stk) ac sl n sh I R := by
  intro p e s m args below meth c H locs ls C L hH hS
  exact lv_if_gt C.1 C.2.1 hd ht (fun h => kt h p e s m args below meth c H locs ls C L hH hS) (fun h => kf h p e s m args below meth c H locs ls C L hH hS)
theorem mv_if_le {x : Int32} {off : Int} {tgt : Nat} (hd : decode M.2.1 pc = .ok (.ifCond .le off, 3)) (ht : (pc : Int) + off = (tgt : Int)) (kt : x ≤ 0 → mv_E l D b0 M rm Q tgt loc stk ac sl n sh I R) (kf : ¬ x ≤ 0 → mv_E l D b0 M rm Q (pc + 3) loc stk ac sl n sh I R) : mv_E l D b0 M rm Q pc loc (.int x :: stk) ac sl n sh I R := by
  intro p e s m args below meth c H locs ls C L hH hS
  exact lv_if_le C.1 C.2.1 hd ht (fun h => kt h p e s m args below meth c H locs ls C L hH hS) (fun h => kf h p e s m args below meth c H locs ls C L hH hS)
theorem mv_tswIn {dflt lo hi : Int} {offs : Array Int} {len : Nat} {x : Int32} {off : Int} {tgt : Nat} (hd : decode M.2.1 pc = .ok (.tableswitch dflt lo hi offs, len)) (h1 : ¬ x.toInt < lo) (h2 : ¬ hi < x.toInt) (ho : offs[(x.toInt - lo).toNat]? = some off) (ht : (pc : Int) + off = (tgt : Int)) (kk : mv_E l D b0 M rm Q tgt loc stk ac sl n sh I R) : mv_E l D b0 M rm Q pc loc (.int x :: stk) ac sl n sh I R := mv_step (fun hx hb k => lv_tableIn hx hb hd h1 h2 ho ht k) kk
theorem mv_tswOut {dflt lo hi : Int} {offs : Array Int} {len : Nat} {x : Int32} {tgt : Nat} (hd : decode M.2.1 pc = .ok (.tableswitch dflt lo hi offs, len)) (h : x.toInt < lo ∨ hi < x.toInt) (ht : (pc : Int) + dflt = (tgt : Int)) (kk : mv_E l D b0 M rm Q tgt loc stk ac sl n sh I R) : mv_E l D b0 M rm Q pc loc (.int x :: stk) ac sl n sh I R := mv_step (fun hx hb k => lv_tableOut hx hb hd h ht k) kk
theorem mv_lsw {dflt : Int} {ps : Array (Int × Int)} {len : Nat} {x : Int32} {off : Int} {tgt : Nat} (hd : decode M.2.1 pc = .ok (.lookupswitch dflt ps, len)) (hp : (ps.toList.zip (ps.toList.drop 1)).all (fun (a, next) => a.1 < next.1) = true) (ho : Op.lookupswitch.offset ps.toList dflt x.toInt = off) (ht : (pc : Int) + off = (tgt : Int)) (kk : mv_E l D b0 M rm Q tgt loc stk ac sl n sh I R) : mv_E l D b0 M rm Q pc loc (.int x :: stk) ac sl n sh I R := mv_step (fun hx hb k => lv_lookup hx hb hd hp ho ht k) kk
theorem mv_Cx.w {p : Program} {s : State} {m : MethodId} {args : Array Value} {meth : Method} {c : Code} (C : mv_Cx D b0 M p s m args meth c) : ∀ w ∈ mv_W, w.before args s = true := fun w h => C.2.2.2.2.1 w (List.mem_cons_of_mem _ h)
theorem mv_ldc {idx : Nat} {v : Int32} (hd : decode M.2.1 pc = .ok (.ldc idx, 2)) (hw : Cond.constant M.1.cls idx v ∈ mv_W) (kk : mv_E l D b0 M rm Q (pc + 2) loc (.int v :: stk) ac sl n sh I R) : mv_E l D b0 M rm Q pc loc stk ac sl n sh I R := by
  intro p e s m args below meth c H locs ls C L hH hS
  exact lv_ldc C.1 C.2.1 C.2.2.2.1 (C.w _ hw) hd (kk p e s m args below meth c H locs ls C L hH hS)
/-- a link to a field: its class and its place there -/
def mv_FL (own : String) (idx ci k : Nat) : Prop := ci < 7 ∧ k < mv_N ci ∧ Cond.fieldLink own idx (mv_T ci k).1 (mv_T ci k).2.1 (mv_T ci k).2.2.1 ∈ mv_W
theorem mv_get {ci k a idx : Nat} {v : Value} (hd : decode M.2.1 pc = .ok (.getfield idx, 3)) (hF : mv_FL M.1.cls idx ci k) (ha : (sh a).1 = ci) (hv : mv_fv (mv_ty ci k) (I a k) (R a k) = v) (kk : mv_E l D b0 M rm Q (pc + 3) loc (v :: stk) ac sl n sh I R) : mv_E l D b0 M rm Q pc loc (.ref a :: stk) ac sl n sh I R := by
  intro p e s m args below meth c H locs ls C L hH hS
  obtain ⟨h7, hk, hw⟩ := hF
  subst ha
  obtain ⟨cell, q1, q2, q3, q4⟩ := (hH.2.2 a).1 h7
  obtain ⟨hSl, hfc, kC, hkC, hkind⟩ := C.2.2.2.2.2.1.1.1 _ _ (mv_cl h7)
  obtain ⟨cf, kf, fi, f, hi, hsl⟩ := hSl k hk
  refine W.getf C.1 C.2.1 C.2.2.2.1 (C.w _ hw) hi (u_facts hfc hkC (u_lays C.w (mv_lays h7) hk) hi).1 q1 (by rw [q3]; exact fun h => by cases h) (v := v) ?_ rfl rfl hd (kk p e s m args below meth c H locs ls C L hH hS)
  rw [hsl, q4 k hk]
  exact congrArg some hv
theorem mv_getI {ci k a idx : Nat} (hd : decode M.2.1 pc = .ok (.getfield idx, 3)) (hF : mv_FL M.1.cls idx ci k) (hi : mv_ty ci k = .int) (ha : (sh a).1 = ci) (kk : mv_E l D b0 M rm Q (pc + 3) loc (.int (I a k) :: stk) ac sl n sh I R) : mv_E l D b0 M rm Q pc loc (.ref a :: stk) ac sl n sh I R := mv_get hd hF ha (by rw [hi]; rfl) kk
theorem mv_getR {ci k a q idx : Nat} (hd : decode M.2.1 pc = .ok (.getfield idx, 3)) (hF : mv_FL M.1.cls idx ci k) (hi : ∀ x r, mv_fv (mv_ty ci k) x r = va_rf r) (ha : (sh a).1 = ci) (hq : R a k = some q) (kk : mv_E l D b0 M rm Q (pc + 3) loc (.ref q :: stk) ac sl n sh I R) : mv_E l D b0 M rm Q pc loc (.ref a :: stk) ac sl n sh I R := mv_get hd hF ha (by rw [hi, hq]; rfl) kk
theorem mv_apart {p : Program} {s : State} {m : MethodId} {args : Array Value} {meth : Method} {c : Code} (C : mv_Cx D b0 M p s m args meth c) {ci : Nat} (h7 : ci < 7) : ∀ x y, x < mv_N ci → y < mv_N ci → x ≠ y → (D.2 ci) x ≠ (D.2 ci) y := va_apart (own := M.1.cls) C.w (mv_lays h7) (mv_ty ci) (mv_tyok h7) (mv_nm h7) C.2.2.2.2.2.1.1 (mv_cl h7)
theorem mv_atO {s : State} {H : Heap} {a ci x : Nat} {I : Nat → Int32} {R : Nat → Option Nat} (h7 : ci < 7) (h : t_OB a (D.1 ci) (mv_N ci) (D.2 ci) H (fun k => mv_fv (mv_ty ci k) (I k) (R k))) : mv_at D s H a (ci, x) I R := ⟨fun _ => h, fun h => absurd h (by show ¬ ci = 7; omega), fun h => absurd h (by show ¬ ci = 8; omega), fun h => absurd h (by show ¬ ci = 9; omega)⟩
theorem mv_put {ci k a idx : Nat} {v : Value} {I' : mv_I} {R' : mv_R} (hd : decode M.2.1 pc = .ok (.putfield idx, 3)) (hF : mv_FL M.1.cls idx ci k) (ha : (sh a).1 = ci) (hfin : (mv_T ci k).2.2.2 = false ∨ ((mv_T ci k).2.2.2 = true ∧ M.1.name = "<init>" ∧ (mv_T ci k).1 = M.1.cls)) (hn : narrow (mv_ty ci k) v = v) (hfit : fits (mv_ty ci k) v = true)
    (hI : ∀ x, x ≠ a → I' x = I x) (hR : ∀ x, x ≠ a → R' x = R x) (hV : ∀ j, j < mv_N ci → updV (fun k => mv_fv (mv_ty ci k) (I a k) (R a k)) k v j = mv_fv (mv_ty ci j) (I' a j) (R' a j))
    (kk : mv_E l D b0 M rm Q (pc + 3) loc stk ac sl n sh I' R') : mv_E l D b0 M rm Q pc loc (v :: .ref a :: stk) ac sl n sh I R := by
  intro p e s m args below meth c H locs ls C L hH hS
  obtain ⟨h7, hk, hw⟩ := hF
  subst ha
  have hap := mv_apart C h7
  obtain ⟨cell, q1, q2, q3, q4⟩ := (hH.2.2 a).1 h7
  obtain ⟨hSl, hfc, kC, hkC, hkind⟩ := C.2.2.2.2.2.1.1.1 _ _ (mv_cl h7)
  obtain ⟨cf, kf, fi, f, hi, hsl⟩ := hSl k hk
  have hlay := C.w _ (mv_lays h7 _ (u_in_lay hk))
  have hst := (u_facts hfc hkC (u_lays C.w (mv_lays h7) hk) hi).1
  have hA : b0 ≤ a := (hH.2.1 a (by omega)).1
  have fin : ∀ H' : Heap, H'[a]? = some (cell.setSlot f.slot v) → H'.size = H.size → (∀ q, q ≠ a → H'[q]? = H[q]?) → W p l e rm s m args below meth c H' (locs ++ [⟨a, f.slot⟩]) ac sl (MQ below (mv_Qc D b0 Q) args s rm.cells rm.slots (fun q => b0 ≤ q)) (F0 m (pc + 3) ls stk) := by
    intro H' e1 e2 e3
    rw [hsl] at e1 ⊢
    refine kk p e s m args below meth c H' _ ls C L (hH.set (a := a) e2 e3 hI hR ?_) (hS.put e2 e3 hA)
    exact mv_atO (x := (sh a).2) h7 (t_OB.to ⟨_, e1, q2, q3, t_set q4 hap hk v⟩ hV)
  unfold u_lay at hlay
  rcases hfin with hf | ⟨hf, hin, hdecl⟩
  · rw [if_neg (by rw [hf]; decide)] at hlay
    have h6 := u_store hfc hkC hkind hlay hi (mv_tyok h7 k hk) hn hfit
    exact W.putK C.1 C.2.1 (f := f) ⟨C.2.2.2.1, C.w _ hw, ⟨_, _, _, hi⟩, hst⟩ (by rw [q2]; exact h6) q1 q3 (by rw [hsl]; exact k2_hasslot (q4 k hk)) rfl rfl hd fin
  · rw [if_pos hf] at hlay
    have hcf : m.cls = cf := by
      obtain ⟨_, _, c', _, _, _, -, -, hf', -, -, -, hown2, -⟩ := Cond.laysFinal_spec hlay
      have e1 : c' = cf := by have := hi.symm.trans hf'; simp at this; exact this.1.symm
      rw [hdecl] at hown2
      rw [← e1]; exact Option.some.inj (C.2.2.2.1.symm.trans hown2)
    have h6 := u_fits hfc hkC hkind (Or.inr hlay) hi (mv_tyok h7 k hk) hn hfit
    exact W.putFinK C.1 C.2.1 C.2.2.2.1 (C.w _ hw) hi hst hcf (C.2.2.2.2.2.2.2.2.1.trans hin) (by rw [q2]; exact h6) q1 q3 (by rw [hsl]; exact k2_hasslot (q4 k hk)) rfl rfl hd fin
theorem mv_putI {ci k a idx : Nat} {x : Int32} (hd : decode M.2.1 pc = .ok (.putfield idx, 3)) (hF : mv_FL M.1.cls idx ci k) (hi : mv_ty ci k = .int) (hfin : (mv_T ci k).2.2.2 = false) (ha : (sh a).1 = ci) (kk : mv_E l D b0 M rm Q (pc + 3) loc stk ac sl n sh (mv_up I a k x) R) : mv_E l D b0 M rm Q pc loc (.int x :: .ref a :: stk) ac sl n sh I R := by
  refine mv_put hd hF ha (Or.inl hfin) (by rw [hi]; rfl) (by rw [hi]; rfl) (I' := mv_up I a k x) (R' := R) (fun y hy => ?_) (fun _ _ => rfl) (fun j hj => ?_) kk
  · funext j; simp [mv_up, hy]
  · by_cases hjk : j = k
    · subst hjk; simp [updV, mv_up, hi, mv_fv]
    · simp [updV, mv_up, hjk]
theorem mv_putR {ci k a q idx : Nat} (hd : decode M.2.1 pc = .ok (.putfield idx, 3)) (hF : mv_FL M.1.cls idx ci k) (hi : ∀ x r, mv_fv (mv_ty ci k) x r = va_rf r) (hfin : (mv_T ci k).2.2.2 = false ∨ ((mv_T ci k).2.2.2 = true ∧ M.1.name = "<init>" ∧ (mv_T ci k).1 = M.1.cls)) (hn : narrow (mv_ty ci k) (.ref q) = .ref q) (hfit : fits (mv_ty ci k) (.ref q) = true) (ha : (sh a).1 = ci) (kk : mv_E l D b0 M rm Q (pc + 3) loc stk ac sl n sh I (mv_up R a k (some q))) : mv_E l D b0 M rm Q pc loc (.ref q :: .ref a :: stk) ac sl n sh I R := by
  refine mv_put hd hF ha hfin hn hfit (I' := I) (R' := mv_up R a k (some q)) (fun _ _ => rfl) (fun y hy => ?_) (fun j hj => ?_) kk
  · funext j; simp [mv_up, hy]
  · by_cases hjk : j = k
    · subst hjk; simp [updV, mv_up, hi, va_rf]
    · simp [updV, mv_up, hjk]
theorem mv_at7 {s : State} {H : Heap} {a len : Nat} {I : Nat → Int32} {R : Nat → Option Nat} {cA : ClassId} (h : H[a]? = some (vp_cell cA (len, .inl I))) (h2 : ArrOfT s cA .int) : mv_at D s H a (7, len) I R := ⟨fun h => absurd h (by simp), fun _ => ⟨cA, h, h2⟩, fun h => absurd h (by simp), fun h => absurd h (by simp)⟩
theorem mv_at8 {s : State} {H : Heap} {a len : Nat} {I : Nat → Int32} {R : Nat → Option Nat} {cA : ClassId} (h : H[a]? = some (vp_cell cA (len, .inl I))) (h2 : ArrOfT s cA .boolean) : mv_at D s H a (8, len) I R := ⟨fun h => absurd h (by simp), fun h => absurd h (by simp), fun _ => ⟨cA, h, h2⟩, fun h => absurd h (by simp)⟩
theorem mv_at9 {s : State} {H : Heap} {a len : Nat} {I : Nat → Int32} {R : Nat → Option Nat} {cA : ClassId} (h : H[a]? = some (vp_cell cA (len, .inr (.inr (.inr (.inr R)))))) (h2 : ArrOfT s cA (.object RX3)) (h3 : va_RA s cA (.object RX3)) : mv_at D s H a (9, len) I R := ⟨fun h => absurd h (by simp), fun h => absurd h (by simp), fun h => absurd h (by simp), fun _ => ⟨cA, h, h2, h3⟩⟩
theorem mv_ss {cA : ClassId} {len k : Nat} {f : Nat → Int32} {x : Int32} (hk : k < 2 ^ 31) : (vp_cell cA (len, .inl f)).setSlot (nI k).toNatClampNeg (.int x) = vp_cell cA (len, .inl (fun j => if j = k then x else f j)) := by
  rw [nI_clamp hk, vp_cell_i, vp_cell_i, arrV_store]
  congr 1
  funext j
  by_cases h : j = k
  · simp [updV, h]
  · simp [updV, h]
theorem mv_upA {I : mv_I} {a k : Nat} {x : Int32} : mv_up I a k x a = fun j => if j = k then x else I a j := by
  funext j; simp [mv_up]
theorem mv_upN {α : Type} {I : Nat → Nat → α} {a k : Nat} {x : α} (y : Nat) (hy : y ≠ a) : mv_up I a k x y = I y := by
  funext j; simp [mv_up, hy]
theorem mv_iald {a k len : Nat} {i : Int32} (hd : decode M.2.1 pc = .ok (.iaload, 1)) (ha : sh a = (7, len)) (hi : i = nI k) (hk : k < len) (kk : mv_E l D b0 M rm Q (pc + 1) loc (.int (I a k) :: stk) ac sl n sh I R) (hl : len < 2 ^ 31 := by decide) : mv_E l D b0 M rm Q pc loc (.int i :: .ref a :: stk) ac sl n sh I R := by
  intro p e s m args below meth c H locs ls C L hH hS
  subst hi
  obtain ⟨cA, c1, c2⟩ := (hH.2.2 a).2.1 (by rw [ha])
  rw [ha] at c1
  exact W.iald (v := .int (I a k)) C.1 C.2.1 c1 (c2 len (fun j => .int (I a j))) (fun q => by cases q) (by show ¬ (_ < 0 ∨ (arrV _ _ _).slots.size ≤ _); rw [arrV_size]; exact nI_in hk hl) (by show (arrV _ _ _).slots[_]? = _; rw [nI_clamp (Nat.lt_trans hk hl), arrV_read _ _ hk]) rfl rfl hd (kk p e s m args below meth c H locs ls C L hH hS)
theorem mv_zald {a k len : Nat} {i : Int32} (hd : decode M.2.1 pc = .ok (.baload, 1)) (ha : sh a = (8, len)) (hi : i = nI k) (hk : k < len) (kk : mv_E l D b0 M rm Q (pc + 1) loc (.int (I a k) :: stk) ac sl n sh I R) (hl : len < 2 ^ 31 := by decide) : mv_E l D b0 M rm Q pc loc (.int i :: .ref a :: stk) ac sl n sh I R := by
  intro p e s m args below meth c H locs ls C L hH hS
  subst hi
  obtain ⟨cA, c1, c2⟩ := (hH.2.2 a).2.2.1 (by rw [ha])
  rw [ha] at c1
  exact W.zald (v := .int (I a k)) C.1 C.2.1 c1 (c2 len (fun j => .int (I a j))) (fun q => by cases q) (by show ¬ (_ < 0 ∨ (arrV _ _ _).slots.size ≤ _); rw [arrV_size]; exact nI_in hk hl) (by show (arrV _ _ _).slots[_]? = _; rw [nI_clamp (Nat.lt_trans hk hl), arrV_read _ _ hk]) rfl rfl hd (kk p e s m args below meth c H locs ls C L hH hS)
theorem mv_iast {a k len : Nat} {i x : Int32} (hd : decode M.2.1 pc = .ok (.iastore, 1)) (ha : sh a = (7, len)) (hi : i = nI k) (hk : k < len) (kk : mv_E l D b0 M rm Q (pc + 1) loc stk ac sl n sh (mv_up I a k x) R) (hl : len < 2 ^ 31 := by decide) : mv_E l D b0 M rm Q pc loc (.int x :: .int i :: .ref a :: stk) ac sl n sh I R := by
  intro p e s m args below meth c H locs ls C L hH hS
  subst hi
  obtain ⟨cA, c1, c2⟩ := (hH.2.2 a).2.1 (by rw [ha])
  rw [ha] at c1
  have hA : b0 ≤ a := (hH.2.1 a (by rw [ha]; simp)).1
  refine W.iast C.1 C.2.1 c1 (c2 len (fun j => .int (I a j))) (fun q => by cases q) (by show ¬ (_ < 0 ∨ (arrV _ _ _).slots.size ≤ _); rw [arrV_size]; exact nI_in hk hl) rfl rfl hd fun H1 e1 z oq => ?_
  refine kk p e s m args below meth c H1 _ ls C L (hH.set (a := a) z oq (fun y hy => mv_upN y hy) (fun _ _ => rfl) ?_) (hS.put z oq hA)
  rw [ha, mv_upA]
  exact mv_at7 (e1.trans (congrArg some (mv_ss (Nat.lt_trans hk hl)))) c2
theorem mv_zast {a k len : Nat} {i x : Int32} (hd : decode M.2.1 pc = .ok (.bastore, 1)) (ha : sh a = (8, len)) (hi : i = nI k) (hx : narrow .boolean (.int x) = .int x) (hk : k < len) (kk : mv_E l D b0 M rm Q (pc + 1) loc stk ac sl n sh (mv_up I a k x) R) (hl : len < 2 ^ 31 := by decide) : mv_E l D b0 M rm Q pc loc (.int x :: .int i :: .ref a :: stk) ac sl n sh I R := by
  intro p e s m args below meth c H locs ls C L hH hS
  subst hi
  obtain ⟨cA, c1, c2⟩ := (hH.2.2 a).2.2.1 (by rw [ha])
  rw [ha] at c1
  have hA : b0 ≤ a := (hH.2.1 a (by rw [ha]; simp)).1
  refine W.zast C.1 C.2.1 c1 (c2 len (fun j => .int (I a j))) (fun q => by cases q) (by show ¬ (_ < 0 ∨ (arrV _ _ _).slots.size ≤ _); rw [arrV_size]; exact nI_in hk hl) rfl rfl hd fun H1 e1 z oq => ?_
  rw [hx] at e1
  refine kk p e s m args below meth c H1 _ ls C L (hH.set (a := a) z oq (fun y hy => mv_upN y hy) (fun _ _ => rfl) ?_) (hS.put z oq hA)
  rw [ha, mv_upA]
  exact mv_at8 (e1.trans (congrArg some (mv_ss (Nat.lt_trans hk hl)))) c2
theorem mv_aald {a k q len : Nat} {i : Int32} (hd : decode M.2.1 pc = .ok (.aaload, 1)) (ha : sh a = (9, len)) (hi : i = nI k) (hk : k < len) (hq : R a k = some q) (kk : mv_E l D b0 M rm Q (pc + 1) loc (.ref q :: stk) ac sl n sh I R) (hl : len < 2 ^ 31 := by decide) : mv_E l D b0 M rm Q pc loc (.int i :: .ref a :: stk) ac sl n sh I R := by
  intro p e s m args below meth c H locs ls C L hH hS
  subst hi
  obtain ⟨cA, c1, c2, c3⟩ := (hH.2.2 a).2.2.2 (by rw [ha])
  rw [ha] at c1
  exact W.aald (v := .ref q) (ty := .object RX3) C.1 C.2.1 c1 (c2 len (fun j => va_rf (R a j))) rfl (fun q => by cases q) (by show ¬ (_ < 0 ∨ (arrV _ _ _).slots.size ≤ _); rw [arrV_size]; exact nI_in hk hl) (by show (arrV _ _ _).slots[_]? = _; rw [nI_clamp (Nat.lt_trans hk hl), arrV_read _ _ hk, hq]; rfl) rfl rfl hd (kk p e s m args below meth c H locs ls C L hH hS)
theorem mv_aast {a k v len : Nat} {i : Int32} (hd : decode M.2.1 pc = .ok (.aastore, 1)) (ha : sh a = (9, len)) (hv : (sh v).1 = 3) (hi : i = nI k) (hk : k < len) (kk : mv_E l D b0 M rm Q (pc + 1) loc stk ac sl n sh I (mv_up R a k (some v))) (hl : len < 2 ^ 31 := by decide) : mv_E l D b0 M rm Q pc loc (.ref v :: .int i :: .ref a :: stk) ac sl n sh I R := by
  intro p e s m args below meth c H locs ls C L hH hS
  subst hi
  obtain ⟨cA, c1, c2, c3⟩ := (hH.2.2 a).2.2.2 (by rw [ha])
  rw [ha] at c1
  have hA : b0 ≤ a := (hH.2.1 a (by rw [ha]; simp)).1
  obtain ⟨cellV, g1, g2, g3, -⟩ := (hH.2.2 v).1 (by rw [hv]; decide)
  rw [hv] at g2
  have hcls := (C.2.2.2.2.2.1.1.1 3 _ (mv_cl (by decide))).2
  obtain ⟨kA, comp, k1, k2, k3, -⟩ := id c3
  have hcomp : comp = D.1 3 := Option.some.inj (k3.symm.trans hcls.1)
  subst hcomp
  obtain ⟨kC, hkC, -⟩ := id hcls.2
  refine W.aast C.1 C.2.1 c1 (fun q h => by cases h) (fun h => by cases h) k1 k2 rfl hkC ⟨nI_pos (Nat.lt_trans hk hl), by show _ < (arrV _ _ _).slots.size; rw [arrV_size, nI_clamp (Nat.lt_trans hk hl)]; exact hk⟩ g1 (fun q h => by rw [g3] at h; cases h) (by rw [g2]; exact hkC) (by rw [g2]; exact va_assign hcls) rfl rfl hd fun H1 e1 z oq => ?_
  refine kk p e s m args below meth c H1 _ ls C L (hH.set (a := a) z oq (fun _ _ => rfl) (fun y hy => mv_upN y hy) ?_) (hS.put z oq hA)
  rw [ha]
  refine mv_at9 (e1.trans (congrArg some ?_)) c2 c3
  rw [nI_clamp (Nat.lt_trans hk hl), vp_cell_q, vp_cell_q, arrV_store]
  congr 1
  funext j
  by_cases h : j = k
  · simp [updV, mv_up, h, va_rf]
  · simp [updV, mv_up, h]
theorem mv_H.push {s : State} {H H1 : Heap} (h : mv_H D b0 n sh I R s H) (hb : b0 ≤ n) {q : Nat × Nat} {f : Nat → Int32} {g : Nat → Option Nat} (z : H1.size = n + 1) (oq : ∀ x, x < n → H1[x]? = H[x]?) (ha : mv_at D s H1 n q f g) : mv_H D b0 (n + 1) (mv_rp sh n q) (mv_rp I n f) (mv_rp R n g) s H1 := by
  refine ⟨z, fun a ha => ?_, fun a => ?_⟩
  · by_cases hx : a = n
    · omega
    · simp only [mv_rp, hx, if_false] at ha
      have := h.2.1 a ha
      omega
  · by_cases hx : a = n
    · subst hx; simp only [mv_rp, if_true]; exact ha
    · simp only [mv_rp, hx, if_false]
      by_cases hs : (sh a).1 < 10
      · exact (h.2.2 a).kept (oq a (h.2.1 a hs).2)
      · exact ⟨fun h => by omega, fun h => by omega, fun h => by omega, fun h => by omega⟩
theorem mv_dv {ci : Nat} (h : ci < 7) : ∀ k, k < mv_N ci → defaultValue (mv_ty ci k) = mv_fv (mv_ty ci k) 0 none := mv_c7 (P := fun ci => ∀ k, k < mv_N ci → defaultValue (mv_ty ci k) = mv_fv (mv_ty ci k) 0 none) h (by decide +kernel) (by decide +kernel) (by decide +kernel) (by decide +kernel) (by decide +kernel) (by decide +kernel) (by decide +kernel)
theorem mv_new {ci idx : Nat} (hd : decode M.2.1 pc = .ok (.new idx, 3)) (h7 : ci < 7) (w1 : Cond.classLink M.1.cls idx (mv_Cn ci) ∈ mv_W) (w2 : Cond.instantiable (mv_Cn ci) (mv_N ci) ∈ mv_W) (w3 : Cond.initialized (mv_Cn ci) ∈ mv_W) (hac : ac + 1 ≤ rm.cells) (hsl : sl + mv_N ci ≤ rm.slots)
    (kk : mv_E l D b0 M rm Q (pc + 3) loc (.ref n :: stk) (ac + 1) (sl + mv_N ci) (n + 1) (mv_rp sh n (ci, mv_N ci)) (mv_rp I n (fun _ => 0)) (mv_rp R n (fun _ => none))) : mv_E l D b0 M rm Q pc loc stk ac sl n sh I R := by
  intro p e s m args below meth c H locs ls C L hH hS
  have hKn := C.2.2.2.2.2.1.1.1 _ _ (mv_cl h7)
  refine W.newcK C.1 C.2.1 C.2.2.2.1 (C.w _ w1) (C.w _ w2) (C.w _ w3) rfl hd hac hsl hKn.2.1 hH.1 fun H1 kC hkC e1 z1 o1 => ?_
  have hb : b0 ≤ n := by rw [← hH.1]; exact Nat.le_trans C.2.2.2.2.2.2.2.2.2 hS.1
  refine kk p e s m args below meth c H1 locs ls C L (hH.push hb z1 o1 (mv_atO (x := mv_N ci) h7 ?_)) ⟨Nat.le_trans hS.1 (by rw [hH.1, z1]; omega), fun x h1 h2 => (o1 x (by rw [← hH.1]; exact Nat.lt_of_lt_of_le h1 hS.1)).trans (hS.2.1 x h1 h2), hS.2.2⟩
  exact (u_born (mv_ty ci) C.w (mv_lays h7) hKn hkC e1 (mv_tyok h7)).to (mv_dv h7)
theorem mv_newI {k : Int32} {len : Nat} (hd : decode M.2.1 pc = .ok (.newarray .int, 2)) (w : Cond.arrayClass .int ∈ mv_W) (hk : k = nI len) (hlen : len < 100000) (hac : ac + 1 ≤ rm.cells) (hsl : sl + len ≤ rm.slots)
    (kk : mv_E l D b0 M rm Q (pc + 2) loc (.ref n :: stk) (ac + 1) (sl + len) (n + 1) (mv_rp sh n (7, len)) (mv_rp I n (fun _ => 0)) (mv_rp R n (fun _ => none))) : mv_E l D b0 M rm Q pc loc (.int k :: stk) ac sl n sh I R := by
  intro p e s m args below meth c H locs ls C L hH hS
  subst hk
  have hl2 : len < 2 ^ 31 := Nat.lt_trans hlen (by decide)
  refine va_newaK (atype := .int) C.1 C.2.1 (C.w _ w) rfl hd rfl (nI_pos hl2) (nI_clamp hl2) (Nat.le_trans (Nat.mul_le_mul_right _ (Nat.le_of_lt hlen)) (by decide)) hac hsl hH.1 fun H1 cA e1 z1 o1 hAr _ => ?_
  have hb : b0 ≤ n := by rw [← hH.1]; exact Nat.le_trans C.2.2.2.2.2.2.2.2.2 hS.1
  exact kk p e s m args below meth c H1 locs ls C L (hH.push hb z1 o1 (mv_at7 e1 hAr)) ⟨Nat.le_trans hS.1 (by rw [hH.1, z1]; omega), fun x h1 h2 => (o1 x (by rw [← hH.1]; exact Nat.lt_of_lt_of_le h1 hS.1)).trans (hS.2.1 x h1 h2), hS.2.2⟩
theorem mv_newZ {k : Int32} {len : Nat} (hd : decode M.2.1 pc = .ok (.newarray .boolean, 2)) (w : Cond.arrayClass .boolean ∈ mv_W) (hk : k = nI len) (hlen : len < 100000) (hac : ac + 1 ≤ rm.cells) (hsl : sl + len ≤ rm.slots)
    (kk : mv_E l D b0 M rm Q (pc + 2) loc (.ref n :: stk) (ac + 1) (sl + len) (n + 1) (mv_rp sh n (8, len)) (mv_rp I n (fun _ => 0)) (mv_rp R n (fun _ => none))) : mv_E l D b0 M rm Q pc loc (.int k :: stk) ac sl n sh I R := by
  intro p e s m args below meth c H locs ls C L hH hS
  subst hk
  have hl2 : len < 2 ^ 31 := Nat.lt_trans hlen (by decide)
  refine va_newaK (atype := .boolean) C.1 C.2.1 (C.w _ w) rfl hd rfl (nI_pos hl2) (nI_clamp hl2) (Nat.le_trans (Nat.mul_le_mul_right _ (Nat.le_of_lt hlen)) (by decide)) hac hsl hH.1 fun H1 cA e1 z1 o1 hAr _ => ?_
  have hb : b0 ≤ n := by rw [← hH.1]; exact Nat.le_trans C.2.2.2.2.2.2.2.2.2 hS.1
  exact kk p e s m args below meth c H1 locs ls C L (hH.push hb z1 o1 (mv_at8 e1 hAr)) ⟨Nat.le_trans hS.1 (by rw [hH.1, z1]; omega), fun x h1 h2 => (o1 x (by rw [← hH.1]; exact Nat.lt_of_lt_of_le h1 hS.1)).trans (hS.2.1 x h1 h2), hS.2.2⟩
theorem mv_newQ {k : Int32} {len idx : Nat} (hd : decode M.2.1 pc = .ok (.anewarray idx, 3)) (w1 : Cond.classLink M.1.cls idx RX3 ∈ mv_W) (hk : k = nI len) (hlen : len < 100000) (hac : ac + 1 ≤ rm.cells) (hsl : sl + len ≤ rm.slots)
    (kk : mv_E l D b0 M rm Q (pc + 3) loc (.ref n :: stk) (ac + 1) (sl + len) (n + 1) (mv_rp sh n (9, len)) (mv_rp I n (fun _ => 0)) (mv_rp R n (fun _ => none))) : mv_E l D b0 M rm Q pc loc (.int k :: stk) ac sl n sh I R := by
  intro p e s m args below meth c H locs ls C L hH hS
  subst hk
  have hl2 : len < 2 ^ 31 := Nat.lt_trans hlen (by decide)
  have hcl := nI_clamp hl2
  refine W.anew C.1 C.2.1 C.2.2.2.1 (C.w _ w1) (va_AO.use C.2.2.2.2.2.1.2.1) rfl hd rfl (nI_pos hl2) (by rw [hcl]; exact Nat.le_trans (Nat.mul_le_mul_right _ (Nat.le_of_lt hlen)) (by decide)) hac (by rw [hcl]; exact hsl) fun cA kA comp f1 f2 f3 f4 => ?_
  rw [hcl]
  have hz := hH.1
  generalize hH1 : H.push ({ cls := cA, slots := Array.replicate len .null, vm := .none } : Cell) = H1
  have z1 : H1.size = n + 1 := by rw [← hH1, Array.size_push, hz]
  have e1 : H1[n]? = some (arrV cA len (fun _ => .null)) := by rw [← hH1, ← hz, Array.getElem?_push_size, ← arrV_new]
  have o1 : ∀ q : Nat, q < n → H1[q]? = H[q]? := fun q hq => by rw [← hH1, Array.getElem?_push, if_neg (Nat.ne_of_lt (by rw [hz]; exact hq))]
  have hAr : ArrOfT s cA (.object RX3) := fun N z => ⟨(fun k h => by cases h), kA, f2, comp, f3⟩
  have hb : b0 ≤ n := by rw [← hH.1]; exact Nat.le_trans C.2.2.2.2.2.2.2.2.2 hS.1
  rw [hz]
  exact kk p e s m args below meth c H1 locs ls C L (hH.push hb z1 o1 (mv_at9 e1 hAr ⟨kA, comp, f2, f3, f4, f1⟩)) ⟨Nat.le_trans hS.1 (by rw [hH.1, z1]; omega), fun x h1 h2 => (o1 x (by rw [← hH.1]; exact Nat.lt_of_lt_of_le h1 hS.1)).trans (hS.2.1 x h1 h2), hS.2.2⟩
theorem mv_iret {x : Int32} (hd : decode M.2.1 pc = .ok (.ireturn, 1)) (hr : M.2.2.2 = some .int) (h1 : ac ≤ rm.cells) (h2 : sl ≤ rm.slots) (hq : Q (some (.int x)) n sh I R) : mv_E l D b0 M rm Q pc loc [.int x] ac sl n sh I R := by
  intro p e s m args below meth c H locs ls C L hH hS
  refine W.widen (k := rm.cells) (n := rm.slots) h1 h2 ?_
  exact W.iret C.1 C.2.1 (C.2.2.2.2.2.2.2.1.trans hr) (fun t ht hW => ⟨⟨_, n, sh, I, R, rfl, hq, by rw [ht]; exact hH.moved hW.alike⟩, hS.F ht⟩) hS.2.2 hd C.2.2.2.2.2.2.1
theorem mv_zret {x : Int32} (hd : decode M.2.1 pc = .ok (.ireturn, 1)) (hr : M.2.2.2 = some .boolean) (hx : narrow .boolean (.int x) = .int x) (h1 : ac ≤ rm.cells) (h2 : sl ≤ rm.slots) (hq : Q (some (.int x)) n sh I R) : mv_E l D b0 M rm Q pc loc [.int x] ac sl n sh I R := by
  intro p e s m args below meth c H locs ls C L hH hS
  refine W.widen (k := rm.cells) (n := rm.slots) h1 h2 ?_
  exact W.zret C.1 C.2.1 (C.2.2.2.2.2.2.2.1.trans hr) hx (fun t ht hW => ⟨⟨_, n, sh, I, R, rfl, hq, by rw [ht]; exact hH.moved hW.alike⟩, hS.F ht⟩) hS.2.2 hd C.2.2.2.2.2.2.1
theorem mv_vret (hd : decode M.2.1 pc = .ok (.return_, 1)) (hr : M.2.2.2 = none) (h1 : ac ≤ rm.cells) (h2 : sl ≤ rm.slots) (hq : Q none n sh I R) : mv_E l D b0 M rm Q pc loc [] ac sl n sh I R := by
  intro p e s m args below meth c H locs ls C L hH hS
  refine W.widen (k := rm.cells) (n := rm.slots) h1 h2 ?_
  exact W.vret C.1 C.2.1 (C.2.2.2.2.2.2.2.1.trans hr) (fun t ht hW => ⟨⟨_, n, sh, I, R, rfl, hq, by rw [ht]; exact hH.moved hW.alike⟩, hS.F ht⟩) hS.2.2 hd C.2.2.2.2.2.2.1
end MB
