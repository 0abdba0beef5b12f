/-! one world, one list of words: wrappers of the kit's rows -/
def leastS : Nat → Int32 := fun j => match j with
  | 0 => 0
  | 1 => 1
  | 2 => 1
  | 3 => 40
  | _ => 0
def greatS : Nat → Int32 := fun j => match j with
  | 0 => 2
  | 1 => 200
  | 2 => 200
  | 3 => 250
  | _ => 1
def firstS : Nat → Int32 := fun j => match j with
  | 0 => 0
  | 1 => 2
  | 2 => 2
  | 3 => 100
  | _ => 0
/-- the three static rows, as read in the heap H, apart from A -/
def sf (A : Nat → Prop) (U : State) (H : Heap) : Prop := ∃ t0 t1 t2 : Nat, va_Z RX8 "LEAST_SETTING" "[I" (.ref t0) A U H ∧ va_T .int t0 5 (fun j => .int (leastS j)) A U H ∧ va_Z RX8 "GREATEST_SETTING" "[I" (.ref t1) A U H ∧ va_T .int t1 5 (fun j => .int (greatS j)) A U H ∧ va_Z RX8 "SETTING_AT_FIRST" "[I" (.ref t2) A U H ∧ va_T .int t2 5 (fun j => .int (firstS j)) A U H
theorem sf.moved {A : Nat → Prop} {u U : State} {H : Heap} (hvm : u.vm.Alike U.vm) (h : sf A u H) : sf A U H := by
  obtain ⟨t0, t1, t2, a, b, c, d, e, f⟩ := h
  exact ⟨t0, t1, t2, va_Z.moved hvm a, va_T.moved hvm b, va_Z.moved hvm c, va_T.moved hvm d, va_Z.moved hvm e, va_T.moved hvm f⟩
theorem sf.kept {A : Nat → Prop} {U : State} {H H1 : Heap} (h : sf A U H) (hq : ∀ a : Nat, a < H.size → ¬ A a → H1[a]? = H[a]?) : sf A U H1 := by
  obtain ⟨t0, t1, t2, a, b, c, d, e, f⟩ := h
  exact ⟨t0, t1, t2, a.kept hq, b.kept hq, c.kept hq, d.kept hq, e.kept hq, f.kept hq⟩
theorem sf.narrow {A B : Nat → Prop} {U : State} {H : Heap} (h : sf A U H) (hAB : ∀ q, B q → A q) : sf B U H := by
  obtain ⟨t0, t1, t2, a, b, c, d, e, f⟩ := h
  exact ⟨t0, t1, t2, a.narrow hAB, b.narrow hAB, c.narrow hAB, d.narrow hAB, e.narrow hAB, f.narrow hAB⟩
/-- the static rows for a callee that reads, behind what was written -/
theorem sfr {A : Nat → Prop} {U : State} {H0 H : Heap} {locs : List Loc} (h : sf A U H0) (hS : va_S A H0 H locs) : sf (fun _ => False) U H := (h.kept hS.2.1).narrow (fun _ z => z.elim)
def gw (D : va_G) (cI : ClassId) (ws : va_W) (U : State) : Prop := va_P D vwCl ws U.heap ∧ va_K D vwCl [(cI, .int)] U ∧ nw U ∧ sf (fun _ => False) U U.heap
theorem gw_blind {As : List Value} {D : va_G} {cI : ClassId} {ws : va_W} : FrameBlind (va_Pc As (gw D cI ws)) := fun a U g mk q => by
  obtain ⟨q0, qP, qK, qN, qF⟩ := q
  exact ⟨q0, qP, va_K.moved (u := U) (U := U.calling g mk a) (Vm.Alike.refl U.vm) qK, nw_calling qN, sf.moved (u := U) (U := U.calling g mk a) (Vm.Alike.refl U.vm) qF⟩
def gv (D : va_G) (cI : ClassId) (sz : Nat) (ws : va_W) (U : State) : Prop := U.heap.size = sz ∧ va_P D vwCl ws U.heap ∧ va_K D vwCl [(cI, .int)] U ∧ nw U ∧ va_D (fun _ => True) ws ∧ sf (va_A ws sz) U U.heap
theorem gv_blind {As : List Value} {D : va_G} {cI : ClassId} {sz : Nat} {ws : va_W} : FrameBlind (va_Pc As (gv D cI sz ws)) := fun a U g mk q => by
  obtain ⟨q0, q1, qP, qK, qN, qD, qF⟩ := q
  exact ⟨q0, q1, qP, va_K.moved (u := U) (U := U.calling g mk a) (Vm.Alike.refl U.vm) qK, nw_calling qN, qD, sf.moved (u := U) (U := U.calling g mk a) (Vm.Alike.refl U.vm) qF⟩
/-- the world behind a method that writes -/
def gz (D : va_G) (A : Nat → Prop) (ws : va_W) (_ : Unit) (t : State) : Prop := va_P D vwCl ws t.heap ∧ va_D A ws
theorem fm_of_map {ws wc : va_W} {is : List Nat} (h : is.map (fun i => ws[i]?) = wc.map some) : is.filterMap (fun i => ws[i]?) = wc := by
  have h1 : is.filterMap (fun i => ws[i]?) = (is.map (fun i => ws[i]?)).filterMap id := by rw [List.filterMap_map]; rfl
  rw [h1, h, List.filterMap_map]
  simp
section KK
variable {p : Program} {l : Launch} {e : Env} {R : Room} {s : State} {m : MethodId} {args : Array Value} {below : List Frame} {meth : Method} {c : Code} {H : Heap} {locs : List Loc} {cells slots : Nat} {Q : State → Prop}
variable {D : va_G} {cI : ClassId} {y : MethodName} {bytes cc : ByteArray} {maxL nL n index pc : Nat} {ret : Option FieldType} {rm : Room} {own C host : String} {b : Addr} {As rest st0 : List Value} {ls : Array Slot} {Wc Wc' Ws Wr W2 : va_W} {ci : Nat} {cfs : List Value} {T : u_T} {N : Nat} {H0 : Heap} {A : Nat → Prop}
/-- what a callee's name must be -/
abbrev okV (y : MethodName) (C : String) (n : Nat) : Prop := y.cls = C ∧ y.cls ≠ "java/lang/invoke/MethodHandle" ∧ y.cls ≠ "java/lang/invoke/VarHandle" ∧ (parseMethodDescriptor y.desc).map (fun d => d.parameters.length) = some n
theorem k_preV (hK : va_K D vwCl [(cI, .int)] s) (hN : nw s) (hSF : sf (fun _ => False) s H) (hP : va_P D vwCl Wc H) (he : Wc[0]? = some (b, .inr (ci, cfs))) (hc : vwCl[ci]? = some (C, T, N)) : PreV s H C b (va_Pc (.ref b :: As) (gw D cI Wc)) As :=
  ⟨gw_blind, va_recv hK hP (ci := ci) (q0 := 0) hc he, fun U hU hW => ⟨rfl, by rw [hU]; exact hP, va_K.moved hW.alike hK, nw_warm hW hN, by rw [hU]; exact hSF.moved hW.alike⟩⟩
theorem k_preS (hK : va_K D vwCl [(cI, .int)] s) (hN : nw s) (hSF : sf (fun _ => False) s H) (hP : va_P D vwCl Wc H) : PreS s H (va_Pc As (gw D cI Wc)) As :=
  ⟨gw_blind, fun U hU hW => ⟨rfl, by rw [hU]; exact hP, va_K.moved hW.alike hK, nw_warm hW hN, by rw [hU]; exact hSF.moved hW.alike⟩⟩
theorem k_preVw (hK : va_K D vwCl [(cI, .int)] s) (hN : nw s) (hSF : sf (va_A Wc H.size) s H) (hP : va_P D vwCl Wc H) (hD : va_D A Wc) (he : Wc[0]? = some (b, .inr (ci, cfs))) (hc : vwCl[ci]? = some (C, T, N)) : PreV s H C b (va_Pc (.ref b :: As) (gv D cI H.size Wc)) As :=
  ⟨gv_blind, va_recv hK hP (ci := ci) (q0 := 0) hc he, fun U hU hW => ⟨rfl, by rw [hU], by rw [hU]; exact hP, va_K.moved hW.alike hK, nw_warm hW hN, hD.weaken (fun _ _ _ _ => trivial), by rw [hU]; exact hSF.moved hW.alike⟩⟩
/-- a call that only reads, virtual: int, long -/
theorem k_roVi {r : Int32} (S : CallFix p m c cc nL s args wsG own) (hM : Met l y (.code y bytes maxL ret :: wsG) rm (va_Pc (.ref b :: As) (gw D cI Wc)) (vp_Si (fun x => x = r)) 0 0 (fun _ => False)) (hG : GoodIn wsG (wsV own index C y (.code y bytes maxL ret :: wsG))) (hd : okV y C n) (hrm : rm.cells = 0 ∧ rm.slots = 0) (hR : rm.frames + 1 ≤ R.frames ∧ 8 + (maxL + 11) + rm.locals ≤ R.locals) (hK : va_K D vwCl [(cI, .int)] s) (hN : nw s) (hSF : sf (fun _ => False) s H) (hP : va_P D vwCl Wc H) (he : Wc[0]? = some (b, .inr (ci, cfs))) (hc : vwCl[ci]? = some (C, T, N)) (hn : As.length = n) (hls : ls.size = nL) (hst : st0 = As.reverse ++ .ref b :: rest) (hcat : (rest.map fun v => v.category).sum ≤ 8) (hf : cells ≤ R.cells ∧ slots ≤ R.slots) (hdg : decode cc pc = .ok (.invokevirtual index, 3))
    (kk : W p l e R s m args below meth c H locs cells slots Q (F0 m (pc + 3) ls (.int r :: rest))) : W p l e R s m args below meth c H locs cells slots Q (F0 m pc ls st0) := by
  subst hst
  exact vp_callSi (va_Run.run (va_runV (As := As) (rest := rest) S hM (cwV n S.2.2.2.2 hG rfl hrm.1 hrm.2 hd hR) (k_preV hK hN hSF hP he hc) rfl hn hls rfl (lv_room hcat) hdg hf)) (fun r' hr' => by subst hr'; exact kk)
theorem k_roVl {r : Int64} (S : CallFix p m c cc nL s args wsG own) (hM : Met l y (.code y bytes maxL ret :: wsG) rm (va_Pc (.ref b :: As) (gw D cI Wc)) (vp_Sl (fun x => x = r)) 0 0 (fun _ => False)) (hG : GoodIn wsG (wsV own index C y (.code y bytes maxL ret :: wsG))) (hd : okV y C n) (hrm : rm.cells = 0 ∧ rm.slots = 0) (hR : rm.frames + 1 ≤ R.frames ∧ 8 + (maxL + 11) + rm.locals ≤ R.locals) (hK : va_K D vwCl [(cI, .int)] s) (hN : nw s) (hSF : sf (fun _ => False) s H) (hP : va_P D vwCl Wc H) (he : Wc[0]? = some (b, .inr (ci, cfs))) (hc : vwCl[ci]? = some (C, T, N)) (hn : As.length = n) (hls : ls.size = nL) (hst : st0 = As.reverse ++ .ref b :: rest) (hcat : (rest.map fun v => v.category).sum ≤ 8) (hf : cells ≤ R.cells ∧ slots ≤ R.slots) (hdg : decode cc pc = .ok (.invokevirtual index, 3))
    (kk : W p l e R s m args below meth c H locs cells slots Q (F0 m (pc + 3) ls (.long r :: rest))) : W p l e R s m args below meth c H locs cells slots Q (F0 m pc ls st0) := by
  subst hst
  exact vp_callSl (va_Run.run (va_runV (As := As) (rest := rest) S hM (cwV n S.2.2.2.2 hG rfl hrm.1 hrm.2 hd hR) (k_preV hK hN hSF hP he hc) rfl hn hls rfl (lv_room hcat) hdg hf)) (fun r' hr' => by subst hr'; exact kk)
/-- .. that answers one of its references -/
theorem k_roVr {r : Nat} (S : CallFix p m c cc nL s args wsG own) (hM : Met l y (.code y bytes maxL ret :: wsG) rm (va_Pc (.ref b :: As) (gw D cI Wc)) (va_Sr (fun x => x = r) Value.ref) 0 0 (fun _ => False)) (hG : GoodIn wsG (wsV own index C y (.code y bytes maxL ret :: wsG))) (hd : okV y C n) (hrm : rm.cells = 0 ∧ rm.slots = 0) (hR : rm.frames + 1 ≤ R.frames ∧ 8 + (maxL + 11) + rm.locals ≤ R.locals) (hK : va_K D vwCl [(cI, .int)] s) (hN : nw s) (hSF : sf (fun _ => False) s H) (hP : va_P D vwCl Wc H) (he : Wc[0]? = some (b, .inr (ci, cfs))) (hc : vwCl[ci]? = some (C, T, N)) (hn : As.length = n) (hls : ls.size = nL) (hst : st0 = As.reverse ++ .ref b :: rest) (hcat : (rest.map fun v => v.category).sum ≤ 8) (hf : cells ≤ R.cells ∧ slots ≤ R.slots) (hdg : decode cc pc = .ok (.invokevirtual index, 3))
    (kk : W p l e R s m args below meth c H locs cells slots Q (F0 m (pc + 3) ls (.ref r :: rest))) : W p l e R s m args below meth c H locs cells slots Q (F0 m pc ls st0) := by
  subst hst
  exact va_csr (va_Run.run (va_runV (As := As) (rest := rest) S hM (cwV n S.2.2.2.2 hG rfl hrm.1 hrm.2 hd hR) (k_preV hK hN hSF hP he hc) rfl hn hls rfl (lv_room hcat) hdg hf)) (fun r' hr' => by subst hr'; exact kk)
/-- static, reading: by an ordinary link, and by a nest mate's -/
abbrev okS (y : MethodName) (n : Nat) : Prop := y.cls ≠ "java/lang/invoke/MethodHandle" ∧ y.cls ≠ "java/lang/invoke/VarHandle" ∧ (parseMethodDescriptor y.desc).map (fun d => d.parameters.length) = some n
theorem k_roSi {r : Int32} (S : CallFix p m c cc nL s args wsG own) (hM : Met l y (.code y bytes maxL ret :: wsG) rm (va_Pc As (gw D cI Wc)) (vp_Si (fun x => x = r)) 0 0 (fun _ => False)) (hG : GoodIn wsG (va_wsS own index y (.code y bytes maxL ret :: wsG))) (hd : okS y n) (hrm : rm.cells = 0 ∧ rm.slots = 0) (hR : rm.frames + 1 ≤ R.frames ∧ 8 + (maxL + 11) + rm.locals ≤ R.locals) (hK : va_K D vwCl [(cI, .int)] s) (hN : nw s) (hSF : sf (fun _ => False) s H) (hP : va_P D vwCl Wc H) (hn : As.length = n) (hls : ls.size = nL) (hst : st0 = As.reverse ++ rest) (hcat : (rest.map fun v => v.category).sum ≤ 8) (hf : cells ≤ R.cells ∧ slots ≤ R.slots) (hdg : decode cc pc = .ok (.invokestatic index, 3))
    (kk : W p l e R s m args below meth c H locs cells slots Q (F0 m (pc + 3) ls (.int r :: rest))) : W p l e R s m args below meth c H locs cells slots Q (F0 m pc ls st0) := by
  subst hst
  exact vp_callSi (va_Run.run (va_runS (As := As) (rest := rest) S hM (va_cwS n S.2.2.2.2 hG rfl hrm.1 hrm.2 hd hR) (k_preS hK hN hSF hP) rfl hn hls rfl (lv_room hcat) hdg hf)) (fun r' hr' => by subst hr'; exact kk)
theorem k_roSNi {r : Int32} (S : CallFix p m c cc nL s args wsG own) (hM : Met l y (.code y bytes maxL ret :: wsG) rm (va_Pc As (gw D cI Wc)) (vp_Si (fun x => x = r)) 0 0 (fun _ => False)) (hG : GoodIn wsG (.code y bytes maxL ret :: wsG)) (hl : va_Nw (.methodLinkNest own index y host) s) (hst1 : Cond.static y ∈ wsG) (hini : Cond.initialized y.cls ∈ wsG) (hd : okS y n) (hrm : rm.cells = 0 ∧ rm.slots = 0) (hR : rm.frames + 1 ≤ R.frames ∧ 8 + (maxL + 11) + rm.locals ≤ R.locals) (hK : va_K D vwCl [(cI, .int)] s) (hN : nw s) (hSF : sf (fun _ => False) s H) (hP : va_P D vwCl Wc H) (hn : As.length = n) (hls : ls.size = nL) (hst : st0 = As.reverse ++ rest) (hcat : (rest.map fun v => v.category).sum ≤ 8) (hf : cells ≤ R.cells ∧ slots ≤ R.slots) (hdg : decode cc pc = .ok (.invokestatic index, 3))
    (kk : W p l e R s m args below meth c H locs cells slots Q (F0 m (pc + 3) ls (.int r :: rest))) : W p l e R s m args below meth c H locs cells slots Q (F0 m pc ls st0) := by
  subst hst
  exact vp_callSi (va_Run.run (va_runSN (As := As) (rest := rest) S hM ⟨va_cnB n S.2.2.2.2 hG rfl hrm.1 hrm.2 hl (S.2.2.2.2 _ hini) hd hR, S.2.2.2.2 _ hst1, trivial⟩ (k_preS hK hN hSF hP) rfl hn hls rfl (lv_room hcat) hdg hf)) (fun r' hr' => by subst hr'; exact kk)
/-- behind a call that writes: the caller's cells in their order again -/
theorem k_join {H1 : Heap} (hP : va_P D vwCl Ws H) (hD : va_D A Ws) (isC isR perm : List Nat) (hC : isC.map (fun i => Ws[i]?) = Wc.map some) (hRr : isR.map (fun i => Ws[i]?) = Wr.map some) (hn1 : va_nd isR = true) (hdis : ∀ i ∈ isR, i ∉ isC) (hp : perm.map (fun i => (Wr ++ Wc')[i]?) = W2.map some) (hn2 : va_nd perm = true) (hk : ∀ q : Nat, q < H.size → ¬ va_A Wc H.size q → H1[q]? = H[q]?) (hF : ∀ q, va_A Wc H.size q → A q) (hP1 : va_P D vwCl Wc' H1) (hD1 : va_D (va_A Wc H.size) Wc') : va_P D vwCl W2 H1 ∧ va_D A W2 := by
  obtain ⟨g1, g2⟩ := va_join hP hD isC isR hC hRr hn1 hdis hk hF hP1 hD1
  exact ⟨g1.sub perm (fm_of_map hp), g2.sub perm hn2 hp⟩
theorem k_rwVi {r : Int32} (S : CallFix p m c cc nL s args wsG own) (hM : Met l y (.code y bytes maxL ret :: wsG) rm (va_Pc (.ref b :: As) (gv D cI H.size Wc)) (va_Qi (fun x (_ : Unit) => x = r) (gz D (va_A Wc H.size) Wc') (va_A Wc H.size)) 0 0 (va_A Wc H.size)) (hG : GoodIn wsG (wsV own index C y (.code y bytes maxL ret :: wsG))) (hd : okV y C n) (hrm : rm.cells = 0 ∧ rm.slots = 0) (hR : rm.frames + 1 ≤ R.frames ∧ 8 + (maxL + 11) + rm.locals ≤ R.locals) (hK : va_K D vwCl [(cI, .int)] s) (hN : nw s) (hSA : sf A s H0) (hP : va_P D vwCl Ws H) (hD : va_D A Ws) (hS : va_S A H0 H locs) (hA : ∀ q, H0.size ≤ q → A q) (isC isR perm : List Nat) (hnC : va_nd isC = true) (hC : isC.map (fun i => Ws[i]?) = Wc.map some) (hRr : isR.map (fun i => Ws[i]?) = Wr.map some) (hn1 : va_nd isR = true) (hdis : ∀ i ∈ isR, i ∉ isC) (hp : perm.map (fun i => (Wr ++ Wc')[i]?) = W2.map some) (hn2 : va_nd perm = true) (he : Wc[0]? = some (b, .inr (ci, cfs))) (hc : vwCl[ci]? = some (C, T, N)) (hn : As.length = n) (hls : ls.size = nL) (hst : st0 = As.reverse ++ .ref b :: rest) (hcat : (rest.map fun v => v.category).sum ≤ 8) (hf : cells ≤ R.cells ∧ slots ≤ R.slots) (hdg : decode cc pc = .ok (.invokevirtual index, 3))
    (kk : ∀ (H1 : Heap) (locs1 : List Loc), va_P D vwCl W2 H1 → va_D A W2 → va_S A H0 H1 locs1 → W p l e R s m args below meth c H1 locs1 cells slots Q (F0 m (pc + 3) ls (.int r :: rest))) : W p l e R s m args below meth c H locs cells slots Q (F0 m pc ls st0) := by
  subst hst
  have hF := va_free (wc := Wc) hD hS hA isC hC
  refine va_calli (va_runV (As := As) (rest := rest) S hM (cwV n S.2.2.2.2 hG rfl hrm.1 hrm.2 hd hR) (k_preVw hK hN ((hSA.kept hS.2.1).narrow hF) (hP.sub isC (fm_of_map hC)) (hD.sub isC hnC hC) he hc) rfl hn hls rfl (lv_room hcat) hdg hf) hS (fun q _ h => hF q h) hF (fun r' u t H1 locs1 ht hvm hw hB hz1 hk1 hS1 => ?_)
  subst hw
  obtain ⟨hP1, hD1⟩ := hB
  rw [ht] at hP1
  obtain ⟨g1, g2⟩ := k_join hP hD isC isR perm hC hRr hn1 hdis hp hn2 hk1 hF hP1 hD1
  exact kk H1 locs1 g1 g2 hS1
theorem k_rwVv (S : CallFix p m c cc nL s args wsG own) (hM : Met l y (.code y bytes maxL ret :: wsG) rm (va_Pc (.ref b :: As) (gv D cI H.size Wc)) (va_Qv (fun (_ : Unit) => True) (gz D (va_A Wc H.size) Wc') (va_A Wc H.size)) 0 0 (va_A Wc H.size)) (hG : GoodIn wsG (wsV own index C y (.code y bytes maxL ret :: wsG))) (hd : okV y C n) (hrm : rm.cells = 0 ∧ rm.slots = 0) (hR : rm.frames + 1 ≤ R.frames ∧ 8 + (maxL + 11) + rm.locals ≤ R.locals) (hK : va_K D vwCl [(cI, .int)] s) (hN : nw s) (hSA : sf A s H0) (hP : va_P D vwCl Ws H) (hD : va_D A Ws) (hS : va_S A H0 H locs) (hA : ∀ q, H0.size ≤ q → A q) (isC isR perm : List Nat) (hnC : va_nd isC = true) (hC : isC.map (fun i => Ws[i]?) = Wc.map some) (hRr : isR.map (fun i => Ws[i]?) = Wr.map some) (hn1 : va_nd isR = true) (hdis : ∀ i ∈ isR, i ∉ isC) (hp : perm.map (fun i => (Wr ++ Wc')[i]?) = W2.map some) (hn2 : va_nd perm = true) (he : Wc[0]? = some (b, .inr (ci, cfs))) (hc : vwCl[ci]? = some (C, T, N)) (hn : As.length = n) (hls : ls.size = nL) (hst : st0 = As.reverse ++ .ref b :: rest) (hcat : (rest.map fun v => v.category).sum ≤ 8) (hf : cells ≤ R.cells ∧ slots ≤ R.slots) (hdg : decode cc pc = .ok (.invokevirtual index, 3))
    (kk : ∀ (H1 : Heap) (locs1 : List Loc), va_P D vwCl W2 H1 → va_D A W2 → va_S A H0 H1 locs1 → W p l e R s m args below meth c H1 locs1 cells slots Q (F0 m (pc + 3) ls rest)) : W p l e R s m args below meth c H locs cells slots Q (F0 m pc ls st0) := by
  subst hst
  have hF := va_free (wc := Wc) hD hS hA isC hC
  refine va_callv (va_runV (As := As) (rest := rest) S hM (cwV n S.2.2.2.2 hG rfl hrm.1 hrm.2 hd hR) (k_preVw hK hN ((hSA.kept hS.2.1).narrow hF) (hP.sub isC (fm_of_map hC)) (hD.sub isC hnC hC) he hc) rfl hn hls rfl (lv_room hcat) hdg hf) hS (fun q _ h => hF q h) hF (fun u t H1 locs1 ht hvm hw hB hz1 hk1 hS1 => ?_)
  obtain ⟨hP1, hD1⟩ := hB
  rw [ht] at hP1
  obtain ⟨g1, g2⟩ := k_join hP hD isC isR perm hC hRr hn1 hdis hp hn2 hk1 hF hP1 hD1
  exact kk H1 locs1 g1 g2 hS1
end KK
section KI
variable {l : Launch} {y : MethodName} {cc : ByteArray} {maxL : Nat} {ret : Option FieldType} {rm : Room} {D : va_G} {cI : ClassId} {As : List Value} {Ws Ws' : va_W} {own : String} {lv : List (Nat × Value)}
/-- a method that only reads, from its entry -/
theorem k_ro {Qc : Array Value → State → Outcome → State → Prop} (hy : plainName y.cls = true) (ho : y.cls = own) (hlen : (lg_sl As).length ≤ maxL) (hlv : lv_args 0 As = lv)
    (body : ∀ (p : Program) (e : Env) (s : State) (m : MethodId) (below : List Frame) (meth : Method) (c : Code) (ls : Array Slot), CallFix p m c cc maxL s As.toArray wsG own → meth.sig.returnType = ret → meth.locks = false → va_K D vwCl [(cI, .int)] s → nw s → sf (fun _ => False) s s.heap → va_P D vwCl Ws s.heap → lv_has ls maxL lv → W p l e (headSpec (.code y cc maxL ret :: wsG) rm).room s m As.toArray below meth c s.heap [] 0 0 (MQ below Qc As.toArray s 0 0 (fun _ => False)) (F0 m 0 ls [])) : Met l y (.code y cc maxL ret :: wsG) rm (va_Pc As (gw D cI Ws)) Qc 0 0 (fun _ => False) := by
  refine Met.ofW (cc := cc) (maxL := maxL) (ret := ret) hy rfl ?_
  intro p e s m args below meth c s₁ B hml hv
  obtain ⟨rfl, hP, hK, hN, hSF⟩ := hv
  have hts := atoms_spec (ws := .code y cc maxL ret :: wsG) B.pre
  have hown : s.vm.findClass y.cls = some m.cls := findClass_of_methodNamed B.named
  have hl := lv_entry As (n := maxL) hlen
  rw [lg_entry_eq]
  subst ho
  subst hlv
  exact body p e s m below meth c _ ⟨B.exec, B.bytes, hml, hown, fun w h => hts w (List.mem_cons_of_mem _ h)⟩ B.returns B.notSynchronized hK hN hSF hP hl
/-- a method that writes, from its entry -/
theorem k_rw {Qc : (Nat → Prop) → Array Value → State → Outcome → State → Prop} {sz : Nat} (hy : plainName y.cls = true) (ho : y.cls = own) (hlen : (lg_sl As).length ≤ maxL) (hlv : lv_args 0 As = lv)
    (body : ∀ (p : Program) (e : Env) (s : State) (m : MethodId) (below : List Frame) (meth : Method) (c : Code) (ls : Array Slot) (A : Nat → Prop), CallFix p m c cc maxL s As.toArray wsG own → meth.sig.returnType = ret → meth.locks = false → va_K D vwCl [(cI, .int)] s → nw s → sf A s s.heap → va_P D vwCl Ws s.heap → va_D A Ws → va_S A s.heap s.heap [] → (∀ q, s.heap.size ≤ q → A q) → lv_has ls maxL lv → W p l e (headSpec (.code y cc maxL ret :: wsG) rm).room s m As.toArray below meth c s.heap [] 0 0 (MQ below (Qc A) As.toArray s 0 0 A) (F0 m 0 ls [])) : Met l y (.code y cc maxL ret :: wsG) rm (va_Pc As (gv D cI sz Ws)) (Qc (va_A Ws sz)) 0 0 (va_A Ws sz) := by
  refine Met.ofW (cc := cc) (maxL := maxL) (ret := ret) hy rfl ?_
  intro p e s m args below meth c s₁ B hml hv
  obtain ⟨rfl, hsz, hP, hK, hN, hD0, hSA⟩ := hv
  subst hsz
  have hts := atoms_spec (ws := .code y cc maxL ret :: wsG) B.pre
  have hown : s.vm.findClass y.cls = some m.cls := findClass_of_methodNamed B.named
  have hl := lv_entry As (n := maxL) hlen
  rw [lg_entry_eq]
  subst ho
  subst hlv
  exact body p e s m below meth c _ (va_A Ws s.heap.size) ⟨B.exec, B.bytes, hml, hown, fun w h => hts w (List.mem_cons_of_mem _ h)⟩ B.returns B.notSynchronized hK hN hSA hP (hD0.self (sz := s.heap.size)) va_S.rf (fun q h => Or.inr h) hl
end KI
section KR
variable {p : Program} {l : Launch} {e : Env} {R : Room} {s : State} {m : MethodId} {args : Array Value} {below : List Frame} {meth : Method} {c : Code} {H : Heap} {locs : List Loc} {D : va_G} {cc : ByteArray} {pc : Nat} {ls : Array Slot} {A : Nat → Prop} {Ws : va_W}
theorem k_reti {r v : Int32} (hx : p.tables.exec = Jvm.exec) (hb : c.code = cc) (hr : meth.sig.returnType = some .int) (hlocks : meth.locks = false) (hv : v = r) (hdg : decode cc pc = .ok (.ireturn, 1)) : W p l e R s m args below meth c s.heap [] 0 0 (MQ below (vp_Si (fun x => x = r)) args s 0 0 (fun _ => False)) (F0 m pc ls [.int v]) :=
  W.iret (v := v) hx hb hr (fun t ht hW => ⟨v, rfl, hv, ht⟩) (fun q h => by cases h) hdg hlocks
theorem k_retz {r v : Int32} (hx : p.tables.exec = Jvm.exec) (hb : c.code = cc) (hr : meth.sig.returnType = some .boolean) (hlocks : meth.locks = false) (hn : narrow .boolean (.int v) = .int v) (hv : v = r) (hdg : decode cc pc = .ok (.ireturn, 1)) : W p l e R s m args below meth c s.heap [] 0 0 (MQ below (vp_Si (fun x => x = r)) args s 0 0 (fun _ => False)) (F0 m pc ls [.int v]) :=
  W.zret (v := v) hx hb hr hn (fun t ht hW => ⟨v, rfl, hv, ht⟩) (fun q h => by cases h) hdg hlocks
theorem k_retl {r v : Int64} (hx : p.tables.exec = Jvm.exec) (hb : c.code = cc) (hr : meth.sig.returnType = some .long) (hlocks : meth.locks = false) (hv : v = r) (hdg : decode cc pc = .ok (.lreturn, 1)) : W p l e R s m args below meth c s.heap [] 0 0 (MQ below (vp_Sl (fun x => x = r)) args s 0 0 (fun _ => False)) (F0 m pc ls [.long v]) :=
  W.lret (v := v) hx hb hr (fun t ht hW => ⟨v, rfl, hv, ht⟩) (fun q h => by cases h) hdg hlocks
theorem k_retr {r v : Nat} {nm : String} (hx : p.tables.exec = Jvm.exec) (hb : c.code = cc) (hr : meth.sig.returnType = some (.object nm)) (hlocks : meth.locks = false) (hv : v = r) (hdg : decode cc pc = .ok (.areturn, 1)) : W p l e R s m args below meth c s.heap [] 0 0 (MQ below (va_Sr (fun x => x = r) Value.ref) args s 0 0 (fun _ => False)) (F0 m pc ls [.ref v]) :=
  W.aret (v := .ref v) hx hb hr (Or.inl ⟨_, rfl⟩) (Or.inr ⟨_, rfl⟩) (fun t ht hW => ⟨v, rfl, hv, ht⟩) (fun q h => by cases h) hdg hlocks
theorem k_wreti {r v : Int32} (hx : p.tables.exec = Jvm.exec) (hb : c.code = cc) (hr : meth.sig.returnType = some .int) (hlocks : meth.locks = false) (hv : v = r) (hP : va_P D vwCl Ws H) (hD : va_D A Ws) (hS : va_S A s.heap H locs) (hdg : decode cc pc = .ok (.ireturn, 1)) : W p l e R s m args below meth c H locs 0 0 (MQ below (va_Qi (fun x (_ : Unit) => x = r) (gz D A Ws) A) args s 0 0 A) (F0 m pc ls [.int v]) :=
  W.iret (v := v) hx hb hr (fun t ht hW => ⟨⟨v, (), rfl, hv, by rw [ht]; exact hP, hD⟩, hS.F ht⟩) hS.2.2 hdg hlocks
theorem k_wretv (hx : p.tables.exec = Jvm.exec) (hb : c.code = cc) (hr : meth.sig.returnType = none) (hlocks : meth.locks = false) (hP : va_P D vwCl Ws H) (hD : va_D A Ws) (hS : va_S A s.heap H locs) (hdg : decode cc pc = .ok (.return_, 1)) : W p l e R s m args below meth c H locs 0 0 (MQ below (va_Qv (fun (_ : Unit) => True) (gz D A Ws) A) args s 0 0 A) (F0 m pc ls []) :=
  W.vret hx hb hr (fun t ht hW => ⟨⟨(), rfl, trivial, by rw [ht]; exact hP, hD⟩, hS.F ht⟩) hS.2.2 hdg hlocks
end KR
/-! binding of answers, one to twelve parts -/
def bi1 {α β : Type} (o : Option α) (k : α → Option β) : Option β := o.bind k
theorem bd1 {α β : Type} {o : Option α} {k : α → Option β} {x : β} (h : bi1 o k = some x) : ∃ a, o = some a ∧ k a = some x := Option.bind_eq_some_iff.mp h
def bi2 {α0 α1 β : Type} (o : Option (α0 × α1)) (k : α0 → α1 → Option β) : Option β := o.bind (fun z => k (z.1) (z.2))
theorem bd2 {α0 α1 β : Type} {o : Option (α0 × α1)} {k : α0 → α1 → Option β} {x : β} (h : bi2 o k = some x) : ∃ a0 a1, o = some (a0, a1) ∧ k a0 a1 = some x := by
  obtain ⟨⟨a0, a1⟩, h1, h2⟩ := Option.bind_eq_some_iff.mp h
  exact ⟨a0, a1, h1, h2⟩
def bi3 {α0 α1 α2 β : Type} (o : Option (α0 × α1 × α2)) (k : α0 → α1 → α2 → Option β) : Option β := o.bind (fun z => k (z.1) (z.2.1) (z.2.2))
theorem bd3 {α0 α1 α2 β : Type} {o : Option (α0 × α1 × α2)} {k : α0 → α1 → α2 → Option β} {x : β} (h : bi3 o k = some x) : ∃ a0 a1 a2, o = some (a0, a1, a2) ∧ k a0 a1 a2 = some x := by
  obtain ⟨⟨a0, a1, a2⟩, h1, h2⟩ := Option.bind_eq_some_iff.mp h
  exact ⟨a0, a1, a2, h1, h2⟩
def bi4 {α0 α1 α2 α3 β : Type} (o : Option (α0 × α1 × α2 × α3)) (k : α0 → α1 → α2 → α3 → Option β) : Option β := o.bind (fun z => k (z.1) (z.2.1) (z.2.2.1) (z.2.2.2))
theorem bd4 {α0 α1 α2 α3 β : Type} {o : Option (α0 × α1 × α2 × α3)} {k : α0 → α1 → α2 → α3 → Option β} {x : β} (h : bi4 o k = some x) : ∃ a0 a1 a2 a3, o = some (a0, a1, a2, a3) ∧ k a0 a1 a2 a3 = some x := by
  obtain ⟨⟨a0, a1, a2, a3⟩, h1, h2⟩ := Option.bind_eq_some_iff.mp h
  exact ⟨a0, a1, a2, a3, h1, h2⟩
def bi5 {α0 α1 α2 α3 α4 β : Type} (o : Option (α0 × α1 × α2 × α3 × α4)) (k : α0 → α1 → α2 → α3 → α4 → Option β) : Option β := o.bind (fun z => k (z.1) (z.2.1) (z.2.2.1) (z.2.2.2.1) (z.2.2.2.2))
theorem bd5 {α0 α1 α2 α3 α4 β : Type} {o : Option (α0 × α1 × α2 × α3 × α4)} {k : α0 → α1 → α2 → α3 → α4 → Option β} {x : β} (h : bi5 o k = some x) : ∃ a0 a1 a2 a3 a4, o = some (a0, a1, a2, a3, a4) ∧ k a0 a1 a2 a3 a4 = some x := by
  obtain ⟨⟨a0, a1, a2, a3, a4⟩, h1, h2⟩ := Option.bind_eq_some_iff.mp h
  exact ⟨a0, a1, a2, a3, a4, h1, h2⟩
def bi6 {α0 α1 α2 α3 α4 α5 β : Type} (o : Option (α0 × α1 × α2 × α3 × α4 × α5)) (k : α0 → α1 → α2 → α3 → α4 → α5 → Option β) : Option β := o.bind (fun z => k (z.1) (z.2.1) (z.2.2.1) (z.2.2.2.1) (z.2.2.2.2.1) (z.2.2.2.2.2))
theorem bd6 {α0 α1 α2 α3 α4 α5 β : Type} {o : Option (α0 × α1 × α2 × α3 × α4 × α5)} {k : α0 → α1 → α2 → α3 → α4 → α5 → Option β} {x : β} (h : bi6 o k = some x) : ∃ a0 a1 a2 a3 a4 a5, o = some (a0, a1, a2, a3, a4, a5) ∧ k a0 a1 a2 a3 a4 a5 = some x := by
  obtain ⟨⟨a0, a1, a2, a3, a4, a5⟩, h1, h2⟩ := Option.bind_eq_some_iff.mp h
  exact ⟨a0, a1, a2, a3, a4, a5, h1, h2⟩
def bi7 {α0 α1 α2 α3 α4 α5 α6 β : Type} (o : Option (α0 × α1 × α2 × α3 × α4 × α5 × α6)) (k : α0 → α1 → α2 → α3 → α4 → α5 → α6 → Option β) : Option β := o.bind (fun z => k (z.1) (z.2.1) (z.2.2.1) (z.2.2.2.1) (z.2.2.2.2.1) (z.2.2.2.2.2.1) (z.2.2.2.2.2.2))
theorem bd7 {α0 α1 α2 α3 α4 α5 α6 β : Type} {o : Option (α0 × α1 × α2 × α3 × α4 × α5 × α6)} {k : α0 → α1 → α2 → α3 → α4 → α5 → α6 → Option β} {x : β} (h : bi7 o k = some x) : ∃ a0 a1 a2 a3 a4 a5 a6, o = some (a0, a1, a2, a3, a4, a5, a6) ∧ k a0 a1 a2 a3 a4 a5 a6 = some x := by
  obtain ⟨⟨a0, a1, a2, a3, a4, a5, a6⟩, h1, h2⟩ := Option.bind_eq_some_iff.mp h
  exact ⟨a0, a1, a2, a3, a4, a5, a6, h1, h2⟩
def bi8 {α0 α1 α2 α3 α4 α5 α6 α7 β : Type} (o : Option (α0 × α1 × α2 × α3 × α4 × α5 × α6 × α7)) (k : α0 → α1 → α2 → α3 → α4 → α5 → α6 → α7 → Option β) : Option β := o.bind (fun z => k (z.1) (z.2.1) (z.2.2.1) (z.2.2.2.1) (z.2.2.2.2.1) (z.2.2.2.2.2.1) (z.2.2.2.2.2.2.1) (z.2.2.2.2.2.2.2))
theorem bd8 {α0 α1 α2 α3 α4 α5 α6 α7 β : Type} {o : Option (α0 × α1 × α2 × α3 × α4 × α5 × α6 × α7)} {k : α0 → α1 → α2 → α3 → α4 → α5 → α6 → α7 → Option β} {x : β} (h : bi8 o k = some x) : ∃ a0 a1 a2 a3 a4 a5 a6 a7, o = some (a0, a1, a2, a3, a4, a5, a6, a7) ∧ k a0 a1 a2 a3 a4 a5 a6 a7 = some x := by
  obtain ⟨⟨a0, a1, a2, a3, a4, a5, a6, a7⟩, h1, h2⟩ := Option.bind_eq_some_iff.mp h
  exact ⟨a0, a1, a2, a3, a4, a5, a6, a7, h1, h2⟩
def bi9 {α0 α1 α2 α3 α4 α5 α6 α7 α8 β : Type} (o : Option (α0 × α1 × α2 × α3 × α4 × α5 × α6 × α7 × α8)) (k : α0 → α1 → α2 → α3 → α4 → α5 → α6 → α7 → α8 → Option β) : Option β := o.bind (fun z => k (z.1) (z.2.1) (z.2.2.1) (z.2.2.2.1) (z.2.2.2.2.1) (z.2.2.2.2.2.1) (z.2.2.2.2.2.2.1) (z.2.2.2.2.2.2.2.1) (z.2.2.2.2.2.2.2.2))
theorem bd9 {α0 α1 α2 α3 α4 α5 α6 α7 α8 β : Type} {o : Option (α0 × α1 × α2 × α3 × α4 × α5 × α6 × α7 × α8)} {k : α0 → α1 → α2 → α3 → α4 → α5 → α6 → α7 → α8 → Option β} {x : β} (h : bi9 o k = some x) : ∃ a0 a1 a2 a3 a4 a5 a6 a7 a8, o = some (a0, a1, a2, a3, a4, a5, a6, a7, a8) ∧ k a0 a1 a2 a3 a4 a5 a6 a7 a8 = some x := by
  obtain ⟨⟨a0, a1, a2, a3, a4, a5, a6, a7, a8⟩, h1, h2⟩ := Option.bind_eq_some_iff.mp h
  exact ⟨a0, a1, a2, a3, a4, a5, a6, a7, a8, h1, h2⟩
def bi10 {α0 α1 α2 α3 α4 α5 α6 α7 α8 α9 β : Type} (o : Option (α0 × α1 × α2 × α3 × α4 × α5 × α6 × α7 × α8 × α9)) (k : α0 → α1 → α2 → α3 → α4 → α5 → α6 → α7 → α8 → α9 → Option β) : Option β := o.bind (fun z => k (z.1) (z.2.1) (z.2.2.1) (z.2.2.2.1) (z.2.2.2.2.1) (z.2.2.2.2.2.1) (z.2.2.2.2.2.2.1) (z.2.2.2.2.2.2.2.1) (z.2.2.2.2.2.2.2.2.1) (z.2.2.2.2.2.2.2.2.2))
theorem bd10 {α0 α1 α2 α3 α4 α5 α6 α7 α8 α9 β : Type} {o : Option (α0 × α1 × α2 × α3 × α4 × α5 × α6 × α7 × α8 × α9)} {k : α0 → α1 → α2 → α3 → α4 → α5 → α6 → α7 → α8 → α9 → Option β} {x : β} (h : bi10 o k = some x) : ∃ a0 a1 a2 a3 a4 a5 a6 a7 a8 a9, o = some (a0, a1, a2, a3, a4, a5, a6, a7, a8, a9) ∧ k a0 a1 a2 a3 a4 a5 a6 a7 a8 a9 = some x := by
  obtain ⟨⟨a0, a1, a2, a3, a4, a5, a6, a7, a8, a9⟩, h1, h2⟩ := Option.bind_eq_some_iff.mp h
  exact ⟨a0, a1, a2, a3, a4, a5, a6, a7, a8, a9, h1, h2⟩
def bi11 {α0 α1 α2 α3 α4 α5 α6 α7 α8 α9 α10 β : Type} (o : Option (α0 × α1 × α2 × α3 × α4 × α5 × α6 × α7 × α8 × α9 × α10)) (k : α0 → α1 → α2 → α3 → α4 → α5 → α6 → α7 → α8 → α9 → α10 → Option β) : Option β := o.bind (fun z => k (z.1) (z.2.1) (z.2.2.1) (z.2.2.2.1) (z.2.2.2.2.1) (z.2.2.2.2.2.1) (z.2.2.2.2.2.2.1) (z.2.2.2.2.2.2.2.1) (z.2.2.2.2.2.2.2.2.1) (z.2.2.2.2.2.2.2.2.2.1) (z.2.2.2.2.2.2.2.2.2.2))
theorem bd11 {α0 α1 α2 α3 α4 α5 α6 α7 α8 α9 α10 β : Type} {o : Option (α0 × α1 × α2 × α3 × α4 × α5 × α6 × α7 × α8 × α9 × α10)} {k : α0 → α1 → α2 → α3 → α4 → α5 → α6 → α7 → α8 → α9 → α10 → Option β} {x : β} (h : bi11 o k = some x) : ∃ a0 a1 a2 a3 a4 a5 a6 a7 a8 a9 a10, o = some (a0, a1, a2, a3, a4, a5, a6, a7, a8, a9, a10) ∧ k a0 a1 a2 a3 a4 a5 a6 a7 a8 a9 a10 = some x := by
  obtain ⟨⟨a0, a1, a2, a3, a4, a5, a6, a7, a8, a9, a10⟩, h1, h2⟩ := Option.bind_eq_some_iff.mp h
  exact ⟨a0, a1, a2, a3, a4, a5, a6, a7, a8, a9, a10, h1, h2⟩
def bi12 {α0 α1 α2 α3 α4 α5 α6 α7 α8 α9 α10 α11 β : Type} (o : Option (α0 × α1 × α2 × α3 × α4 × α5 × α6 × α7 × α8 × α9 × α10 × α11)) (k : α0 → α1 → α2 → α3 → α4 → α5 → α6 → α7 → α8 → α9 → α10 → α11 → Option β) : Option β := o.bind (fun z => k (z.1) (z.2.1) (z.2.2.1) (z.2.2.2.1) (z.2.2.2.2.1) (z.2.2.2.2.2.1) (z.2.2.2.2.2.2.1) (z.2.2.2.2.2.2.2.1) (z.2.2.2.2.2.2.2.2.1) (z.2.2.2.2.2.2.2.2.2.1) (z.2.2.2.2.2.2.2.2.2.2.1) (z.2.2.2.2.2.2.2.2.2.2.2))
theorem bd12 {α0 α1 α2 α3 α4 α5 α6 α7 α8 α9 α10 α11 β : Type} {o : Option (α0 × α1 × α2 × α3 × α4 × α5 × α6 × α7 × α8 × α9 × α10 × α11)} {k : α0 → α1 → α2 → α3 → α4 → α5 → α6 → α7 → α8 → α9 → α10 → α11 → Option β} {x : β} (h : bi12 o k = some x) : ∃ a0 a1 a2 a3 a4 a5 a6 a7 a8 a9 a10 a11, o = some (a0, a1, a2, a3, a4, a5, a6, a7, a8, a9, a10, a11) ∧ k a0 a1 a2 a3 a4 a5 a6 a7 a8 a9 a10 a11 = some x := by
  obtain ⟨⟨a0, a1, a2, a3, a4, a5, a6, a7, a8, a9, a10, a11⟩, h1, h2⟩ := Option.bind_eq_some_iff.mp h
  exact ⟨a0, a1, a2, a3, a4, a5, a6, a7, a8, a9, a10, a11, h1, h2⟩
def bi13 {α0 α1 α2 α3 α4 α5 α6 α7 α8 α9 α10 α11 α12 β : Type} (o : Option (α0 × α1 × α2 × α3 × α4 × α5 × α6 × α7 × α8 × α9 × α10 × α11 × α12)) (k : α0 → α1 → α2 → α3 → α4 → α5 → α6 → α7 → α8 → α9 → α10 → α11 → α12 → Option β) : Option β := o.bind (fun z => k (z.1) (z.2.1) (z.2.2.1) (z.2.2.2.1) (z.2.2.2.2.1) (z.2.2.2.2.2.1) (z.2.2.2.2.2.2.1) (z.2.2.2.2.2.2.2.1) (z.2.2.2.2.2.2.2.2.1) (z.2.2.2.2.2.2.2.2.2.1) (z.2.2.2.2.2.2.2.2.2.2.1) (z.2.2.2.2.2.2.2.2.2.2.2.1) (z.2.2.2.2.2.2.2.2.2.2.2.2))
theorem bd13 {α0 α1 α2 α3 α4 α5 α6 α7 α8 α9 α10 α11 α12 β : Type} {o : Option (α0 × α1 × α2 × α3 × α4 × α5 × α6 × α7 × α8 × α9 × α10 × α11 × α12)} {k : α0 → α1 → α2 → α3 → α4 → α5 → α6 → α7 → α8 → α9 → α10 → α11 → α12 → Option β} {x : β} (h : bi13 o k = some x) : ∃ a0 a1 a2 a3 a4 a5 a6 a7 a8 a9 a10 a11 a12, o = some (a0, a1, a2, a3, a4, a5, a6, a7, a8, a9, a10, a11, a12) ∧ k a0 a1 a2 a3 a4 a5 a6 a7 a8 a9 a10 a11 a12 = some x := by
  obtain ⟨⟨a0, a1, a2, a3, a4, a5, a6, a7, a8, a9, a10, a11, a12⟩, h1, h2⟩ := Option.bind_eq_some_iff.mp h
  exact ⟨a0, a1, a2, a3, a4, a5, a6, a7, a8, a9, a10, a11, a12, h1, h2⟩
def bi14 {α0 α1 α2 α3 α4 α5 α6 α7 α8 α9 α10 α11 α12 α13 β : Type} (o : Option (α0 × α1 × α2 × α3 × α4 × α5 × α6 × α7 × α8 × α9 × α10 × α11 × α12 × α13)) (k : α0 → α1 → α2 → α3 → α4 → α5 → α6 → α7 → α8 → α9 → α10 → α11 → α12 → α13 → Option β) : Option β := o.bind (fun z => k (z.1) (z.2.1) (z.2.2.1) (z.2.2.2.1) (z.2.2.2.2.1) (z.2.2.2.2.2.1) (z.2.2.2.2.2.2.1) (z.2.2.2.2.2.2.2.1) (z.2.2.2.2.2.2.2.2.1) (z.2.2.2.2.2.2.2.2.2.1) (z.2.2.2.2.2.2.2.2.2.2.1) (z.2.2.2.2.2.2.2.2.2.2.2.1) (z.2.2.2.2.2.2.2.2.2.2.2.2.1) (z.2.2.2.2.2.2.2.2.2.2.2.2.2))
theorem bd14 {α0 α1 α2 α3 α4 α5 α6 α7 α8 α9 α10 α11 α12 α13 β : Type} {o : Option (α0 × α1 × α2 × α3 × α4 × α5 × α6 × α7 × α8 × α9 × α10 × α11 × α12 × α13)} {k : α0 → α1 → α2 → α3 → α4 → α5 → α6 → α7 → α8 → α9 → α10 → α11 → α12 → α13 → Option β} {x : β} (h : bi14 o k = some x) : ∃ a0 a1 a2 a3 a4 a5 a6 a7 a8 a9 a10 a11 a12 a13, o = some (a0, a1, a2, a3, a4, a5, a6, a7, a8, a9, a10, a11, a12, a13) ∧ k a0 a1 a2 a3 a4 a5 a6 a7 a8 a9 a10 a11 a12 a13 = some x := by
  obtain ⟨⟨a0, a1, a2, a3, a4, a5, a6, a7, a8, a9, a10, a11, a12, a13⟩, h1, h2⟩ := Option.bind_eq_some_iff.mp h
  exact ⟨a0, a1, a2, a3, a4, a5, a6, a7, a8, a9, a10, a11, a12, a13, h1, h2⟩
