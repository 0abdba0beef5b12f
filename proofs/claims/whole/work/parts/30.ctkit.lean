/-! constructors -/
theorem ca_eq {D : va_G} {cI cA : ClassId} {s : State} (h1 : va_K D vwCl [(cI, .int)] s) (h2 : va_K D vwCl ([(cI, .int)] ++ [(cA, .int)]) s) : cA = cI := by
  have a := va_nm_int (h1.2 0 (cI, .int) rfl).2
  have b := va_nm_int (h2.2 1 (cA, .int) rfl).2
  exact Option.some.inj (b.symm.trans a)
section KC
variable {p : Program} {l : Launch} {e : Env} {R : Room} {s : State} {m : MethodId} {args : Array Value} {below : List Frame} {meth : Method} {c : Code} {H : Heap} {locs : List Loc} {cells slots : Nat} {Q : State → Prop}
variable {D : va_G} {cI : ClassId} {y : MethodName} {bytes cc : ByteArray} {maxL nL n index pc mc ms : Nat} {rm : Room} {own host : String} {b : Addr} {As rest st0 : List Value} {ls : Array Slot} {Wc Ws : va_W} {H0 : Heap} {A : Nat → Prop} {B : State → Prop}
theorem k_preI (hK : va_K D vwCl [(cI, .int)] s) (hN : nw s) (hSF : sf (va_A Wc H.size) s H) (hP : va_P D vwCl Wc H) (hD : va_D A Wc) : PreS s H (va_Pc As (gv D cI H.size Wc)) As :=
  ⟨gv_blind, fun U hU hW => ⟨rfl, by rw [hU], by rw [hU]; exact hP, va_K.moved hW.alike hK, nw_warm hW hN, hD.weaken (fun _ _ _ _ => trivial), by rw [hU]; exact hSF.moved hW.alike⟩⟩
theorem k_ctor (S : CallFix p m c cc nL s args wsG own) (hM : Met l y (.code y bytes maxL none :: wsG) rm (va_Pc (.ref b :: As) (gv D cI H.size Wc)) (va_Qv (fun (_ : Unit) => True) (fun (_ : Unit) (t : State) => B t) (va_A Wc H.size)) mc ms (va_A Wc H.size)) (hlk : Cond.methodLink own index y ∈ wsG) (hini : Cond.initialized y.cls ∈ wsG) (him : Cond.instanceMethod y ∈ wsG) (hco : Cond.code y bytes maxL none ∈ wsG) (hd : okS y n) (hy1 : y.name = "<init>") (hrm : rm.cells = mc ∧ rm.slots = ms) (hR : rm.frames + 1 ≤ R.frames ∧ 8 + (maxL + 11) + rm.locals ≤ R.locals) (hK : va_K D vwCl [(cI, .int)] s) (hN : nw s) (hSA : sf A s H0) (hP : va_P D vwCl Ws H) (hD : va_D A Ws) (hS : va_S A H0 H locs) (isC : List Nat) (hnC : va_nd isC = true) (hC : isC.map (fun i => Ws[i]?) = Wc.map some) (hF : ∀ q, va_A Wc H.size q → A q) (hn : As.length = n) (hls : ls.size = nL) (hst : st0 = As.reverse ++ .ref b :: rest) (hcat : (rest.map fun v => v.category).sum ≤ 8) (hf : cells + mc ≤ R.cells ∧ slots + ms ≤ R.slots) (hdg : decode cc pc = .ok (.invokespecial index, 3))
    (kk : ∀ (t : State) (H1 : Heap) (locs1 : List Loc), t.heap = H1 → B t → (∀ q : Nat, q < H.size → ¬ va_A Wc H.size q → H1[q]? = H[q]?) → va_S A H0 H1 locs1 → W p l e R s m args below meth c H1 locs1 (cells + mc) (slots + ms) Q (F0 m (pc + 3) ls rest)) : W p l e R s m args below meth c H locs cells slots Q (F0 m pc ls st0) := by
  subst hst
  have hts := S.2.2.2.2
  refine va_callv (va_runI (As := As) (rest := rest) S hM (cwI n hts (good_I hco) rfl hrm.1 hrm.2 (hts _ hini) (hts _ hlk) (hts _ him) hy1 hd hR) (k_preI hK hN ((hSA.kept hS.2.1).narrow hF) (hP.sub isC (fm_of_map hC)) (hD.sub isC hnC hC)) rfl hn hls rfl (lv_room hcat) hdg hf) hS (fun q _ h => hF q h) hF (fun u t H1 locs1 ht hvm hw hB hz1 hk1 hS1 => ?_)
  exact kk t H1 locs1 ht hB hk1 hS1
theorem k_ctorN (S : CallFix p m c cc nL s args wsG own) (hM : Met l y (.code y bytes maxL none :: wsG) rm (va_Pc (.ref b :: As) (gv D cI H.size Wc)) (va_Qv (fun (_ : Unit) => True) (fun (_ : Unit) (t : State) => B t) (va_A Wc H.size)) mc ms (va_A Wc H.size)) (hlk : va_Nw (.methodLinkNest own index y host) s) (hini : Cond.initialized y.cls ∈ wsG) (him : Cond.instanceMethod y ∈ wsG) (hco : Cond.code y bytes maxL none ∈ wsG) (hd : okS y n) (hy1 : y.name = "<init>") (hrm : rm.cells = mc ∧ rm.slots = ms) (hR : rm.frames + 1 ≤ R.frames ∧ 8 + (maxL + 11) + rm.locals ≤ R.locals) (hK : va_K D vwCl [(cI, .int)] s) (hN : nw s) (hSA : sf A s H0) (hP : va_P D vwCl Ws H) (hD : va_D A Ws) (hS : va_S A H0 H locs) (isC : List Nat) (hnC : va_nd isC = true) (hC : isC.map (fun i => Ws[i]?) = Wc.map some) (hF : ∀ q, va_A Wc H.size q → A q) (hn : As.length = n) (hls : ls.size = nL) (hst : st0 = As.reverse ++ .ref b :: rest) (hcat : (rest.map fun v => v.category).sum ≤ 8) (hf : cells + mc ≤ R.cells ∧ slots + ms ≤ R.slots) (hdg : decode cc pc = .ok (.invokespecial index, 3))
    (kk : ∀ (t : State) (H1 : Heap) (locs1 : List Loc), t.heap = H1 → B t → (∀ q : Nat, q < H.size → ¬ va_A Wc H.size q → H1[q]? = H[q]?) → va_S A H0 H1 locs1 → W p l e R s m args below meth c H1 locs1 (cells + mc) (slots + ms) Q (F0 m (pc + 3) ls rest)) : W p l e R s m args below meth c H locs cells slots Q (F0 m pc ls st0) := by
  subst hst
  have hts := S.2.2.2.2
  refine va_callv (va_runIN (As := As) (rest := rest) S hM ⟨va_cnB n hts (good_I hco) rfl hrm.1 hrm.2 hlk (hts _ hini) hd hR, hy1, hts _ him⟩ (k_preI hK hN ((hSA.kept hS.2.1).narrow hF) (hP.sub isC (fm_of_map hC)) (hD.sub isC hnC hC)) rfl hn hls rfl (lv_room hcat) hdg hf) hS (fun q _ h => hF q h) hF (fun u t H1 locs1 ht hvm hw hB hz1 hk1 hS1 => ?_)
  exact kk t H1 locs1 ht hB hk1 hS1
theorem k_ctv (hx : p.tables.exec = Jvm.exec) (hb : c.code = cc) (hr : meth.sig.returnType = none) (hlocks : meth.locks = false) {BH : (Nat → Prop) → Heap → Prop} (hB : BH A H) (hS : va_S A s.heap H locs) (hdg : decode cc pc = .ok (.return_, 1)) : W p l e R s m args below meth c H locs mc ms (MQ below (va_Qv (fun (_ : Unit) => True) (fun (_ : Unit) (t : State) => BH A t.heap) A) args s mc ms A) (F0 m pc ls []) :=
  W.vret hx hb hr (fun t ht hW => ⟨⟨(), rfl, trivial, by show BH A t.heap; rw [ht]; exact hB⟩, hS.F ht⟩) hS.2.2 hdg hlocks
end KC
section KCI
variable {l : Launch} {y : MethodName} {cc : ByteArray} {maxL mc ms : Nat} {ret : Option FieldType} {rm : Room} {D : va_G} {cI : ClassId} {As : List Value} {Ws : va_W} {own : String} {lv : List (Nat × Value)}
theorem k_ct {Qc : (Nat → Prop) → Array Value → State → Outcome → State → Prop} {sz : Nat} (hy : plainName y.cls = true) (ho : y.cls = own) (hlen : (lg_sl As).length ≤ maxL) (hlv : lv_args 0 As = lv)
    (body : ∀ (p : Program) (e : Env) (s : State) (m : MethodId) (below : List Frame) (meth : Method) (c : Code) (ls : Array Slot) (A : Nat → Prop), CallFix p m c cc maxL s As.toArray wsG own → meth.sig.returnType = ret → meth.locks = false → meth.name = y.name → va_K D vwCl [(cI, .int)] s → nw s → sf A s s.heap → va_P D vwCl Ws s.heap → va_D A Ws → va_S A s.heap s.heap [] → (∀ q, s.heap.size ≤ q → A q) → lv_has ls maxL lv → W p l e (headSpec (.code y cc maxL ret :: wsG) rm).room s m As.toArray below meth c s.heap [] 0 0 (MQ below (Qc A) As.toArray s mc ms A) (F0 m 0 ls [])) : Met l y (.code y cc maxL ret :: wsG) rm (va_Pc As (gv D cI sz Ws)) (Qc (va_A Ws sz)) mc ms (va_A Ws sz) := by
  refine Met.ofW (cc := cc) (maxL := maxL) (ret := ret) hy rfl ?_
  intro p e s m args below meth c s₁ B hml hv
  obtain ⟨rfl, hsz, hP, hK, hN, hD0, hSA⟩ := hv
  subst hsz
  have hts := atoms_spec (ws := .code y cc maxL ret :: wsG) B.pre
  have hown : s.vm.findClass y.cls = some m.cls := findClass_of_methodNamed B.named
  have hl := lv_entry As (n := maxL) hlen
  rw [lg_entry_eq]
  subst ho
  subst hlv
  exact body p e s m below meth c _ (va_A Ws s.heap.size) ⟨B.exec, B.bytes, hml, hown, fun w h => hts w (List.mem_cons_of_mem _ h)⟩ B.returns B.notSynchronized (name_of_methodNamed B.named B.method).1 hK hN hSA hP (hD0.self (sz := s.heap.size)) va_S.rf (fun q h => Or.inr h) hl
end KCI
theorem dfl_X0 : ∀ j, j < 3 → defaultValue (tyX0 j) = vp_V [.null, .int 0, .int 0] j := fun j hj => by rcases (show j = 0 ∨ j = 1 ∨ j = 2 by omega) with rfl | rfl | rfl <;> rfl
theorem dfl_X1 : ∀ j, j < 2 → defaultValue (tyX1 j) = vp_V [.null, .null] j := fun j hj => by rcases (show j = 0 ∨ j = 1 by omega) with rfl | rfl <;> rfl
theorem dfl_X2 : ∀ j, j < 11 → defaultValue (tyX2 j) = vp_V [.null, .null, .null, .null, .null, .null, .int 0, .int 0, .int 0, .int 0, .int 0] j := fun j hj => by rcases (show j = 0 ∨ j = 1 ∨ j = 2 ∨ j = 3 ∨ j = 4 ∨ j = 5 ∨ j = 6 ∨ j = 7 ∨ j = 8 ∨ j = 9 ∨ j = 10 by omega) with rfl | rfl | rfl | rfl | rfl | rfl | rfl | rfl | rfl | rfl | rfl <;> rfl
theorem dfl_X3 : ∀ j, j < 5 → defaultValue (tyX3 j) = vp_V [.null, .null, .null, .null, .int 0] j := fun j hj => by rcases (show j = 0 ∨ j = 1 ∨ j = 2 ∨ j = 3 ∨ j = 4 by omega) with rfl | rfl | rfl | rfl | rfl <;> rfl
theorem dfl_X4 : ∀ j, j < 1 → defaultValue (tyX4 j) = vp_V [.null] j := fun j hj => by rcases (show j = 0 by omega) with rfl; rfl
theorem dfl_X5 : ∀ j, j < 1 → defaultValue (tyX5 j) = vp_V [.null] j := fun j hj => by rcases (show j = 0 by omega) with rfl; rfl
theorem dfl_X6 : ∀ j, j < 2 → defaultValue (tyX6 j) = vp_V [.long 0, .long 0] j := fun j hj => by rcases (show j = 0 ∨ j = 1 by omega) with rfl | rfl <;> rfl
theorem dfl_X7 : ∀ j, j < 7 → defaultValue (tyX7 j) = vp_V [.null, .null, .null, .null, .long 0, .int 0, .int 0] j := fun j hj => by rcases (show j = 0 ∨ j = 1 ∨ j = 2 ∨ j = 3 ∨ j = 4 ∨ j = 5 ∨ j = 6 by omega) with rfl | rfl | rfl | rfl | rfl | rfl | rfl <;> rfl
theorem dfl_X8 : ∀ j, j < 10 → defaultValue (tyX8 j) = vp_V [.null, .null, .null, .null, .null, .null, .null, .null, .null, .int 0] j := fun j hj => by rcases (show j = 0 ∨ j = 1 ∨ j = 2 ∨ j = 3 ∨ j = 4 ∨ j = 5 ∨ j = 6 ∨ j = 7 ∨ j = 8 ∨ j = 9 by omega) with rfl | rfl | rfl | rfl | rfl | rfl | rfl | rfl | rfl | rfl <;> rfl
theorem dfl_X9 : ∀ j, j < 14 → defaultValue (tyX9 j) = vp_V [.null, .int 0, .null, .int 0, .null, .int 0, .null, .int 0, .null, .long 0, .long 0, .long 0, .int 0, .int 0] j := fun j hj => by rcases (show j = 0 ∨ j = 1 ∨ j = 2 ∨ j = 3 ∨ j = 4 ∨ j = 5 ∨ j = 6 ∨ j = 7 ∨ j = 8 ∨ j = 9 ∨ j = 10 ∨ j = 11 ∨ j = 12 ∨ j = 13 by omega) with rfl | rfl | rfl | rfl | rfl | rfl | rfl | rfl | rfl | rfl | rfl | rfl | rfl | rfl <;> rfl
theorem dX4_init_0 : decode cX4_init 0 = .ok (.aload_n 0, 1) := by decide +kernel
theorem dX4_init_1 : decode cX4_init 1 = .ok (.invokespecial 1, 3) := by decide +kernel
theorem dX4_init_4 : decode cX4_init 4 = .ok (.aload_n 0, 1) := by decide +kernel
theorem dX4_init_5 : decode cX4_init 5 = .ok (.iconst 0, 1) := by decide +kernel
theorem dX4_init_6 : decode cX4_init 6 = .ok (.iload_n 1, 1) := by decide +kernel
theorem dX4_init_7 : decode cX4_init 7 = .ok (.invokestatic 7, 3) := by decide +kernel
theorem dX4_init_10 : decode cX4_init 10 = .ok (.newarray .int, 2) := by decide +kernel
theorem dX4_init_12 : decode cX4_init 12 = .ok (.putfield 13, 3) := by decide +kernel
theorem dX4_init_15 : decode cX4_init 15 = .ok (.return_, 1) := by decide +kernel
theorem dX0_init_0 : decode cX0_init 0 = .ok (.aload_n 0, 1) := by decide +kernel
theorem dX0_init_1 : decode cX0_init 1 = .ok (.invokespecial 1, 3) := by decide +kernel
theorem dX0_init_4 : decode cX0_init 4 = .ok (.aload_n 0, 1) := by decide +kernel
theorem dX0_init_5 : decode cX0_init 5 = .ok (.iconst 0, 1) := by decide +kernel
theorem dX0_init_6 : decode cX0_init 6 = .ok (.putfield 7, 3) := by decide +kernel
theorem dX0_init_9 : decode cX0_init 9 = .ok (.aload_n 0, 1) := by decide +kernel
theorem dX0_init_10 : decode cX0_init 10 = .ok (.iload_n 1, 1) := by decide +kernel
theorem dX0_init_11 : decode cX0_init 11 = .ok (.putfield 13, 3) := by decide +kernel
theorem dX0_init_14 : decode cX0_init 14 = .ok (.aload_n 0, 1) := by decide +kernel
theorem dX0_init_15 : decode cX0_init 15 = .ok (.new 16, 3) := by decide +kernel
theorem dX0_init_18 : decode cX0_init 18 = .ok (.dup, 1) := by decide +kernel
theorem dX0_init_19 : decode cX0_init 19 = .ok (.iload_n 1, 1) := by decide +kernel
theorem dX0_init_20 : decode cX0_init 20 = .ok (.invokespecial 18, 3) := by decide +kernel
theorem dX0_init_23 : decode cX0_init 23 = .ok (.putfield 21, 3) := by decide +kernel
theorem dX0_init_26 : decode cX0_init 26 = .ok (.return_, 1) := by decide +kernel
theorem ok_X4_init : okS yX4_init 1 := by decide +kernel
theorem ok_X0_init : okS yX0_init 1 := by decide +kernel
theorem mx_nI {N : Nat} (hN : N < 100000) : (if (0 : Int32) < nI N then nI N else 0) = nI N := by
  by_cases h : (0 : Int32) < nI N
  · rw [if_pos h]
  · rw [if_neg h]
    have h2 : ¬ 0 < N := fun q => h (by rw [← nI_0]; exact nI_lt q (by omega))
    rw [show N = 0 by omega, nI_0]
set_option maxHeartbeats 4000000 in
set_option maxRecDepth 100000 in
theorem c_X4_init (l : Launch) (D : va_G) (cI : ClassId) {sz : Nat} (q : Nat) (x1 : Int32) (N : Nat) (hN : N < 100000) (hx1 : x1 = nI N) : Met l yX4_init (.code yX4_init cX4_init 2 none :: wsG) ({ frames := 1, cells := 1, slots := N, locals := 21 }) (va_Pc [.ref q, .int x1] (gv D cI sz [(q, .inr (4, [.null]))])) (va_Qv (fun (_ : Unit) => True) (fun (_ : Unit) (t : State) => ∃ qa : Nat, va_P D vwCl [(q, .inr (4, [.ref qa])), (qa, .inl (cI, N, .inl (fun _ => 0)))] t.heap ∧ va_D (va_A [(q, .inr (4, [.null]))] sz) [(q, .inr (4, [.ref qa])), (qa, .inl (cI, N, .inl (fun _ => 0)))]) (va_A [(q, .inr (4, [.null]))] sz)) 1 N (va_A [(q, .inr (4, [.null]))] sz) := by
  subst hx1
  refine k_ct (y := yX4_init) (cc := cX4_init) (maxL := 2) (ret := none) (As := [.ref q, .int (nI N)]) (Qc := fun A => va_Qv (fun (_ : Unit) => True) (fun (_ : Unit) (t : State) => ∃ qa : Nat, va_P D vwCl [(q, .inr (4, [.ref qa])), (qa, .inl (cI, N, .inl (fun _ => 0)))] t.heap ∧ va_D A [(q, .inr (4, [.ref qa])), (qa, .inl (cI, N, .inl (fun _ => 0)))]) A) (by decide) rfl (Nat.le_of_ble_eq_true rfl) rfl ?_
  intro p e s m below meth c ls A S hret hloc hin hK hN2 hSF hP hD hS hA hl
  obtain ⟨hx, hb, hml, hown, hts⟩ := id S
  refine lv_aload_n hx hb dX4_init_0 rfl (lv_at hl 0 rfl) ?_
  refine W.objInit hx hb hown (hts _ ml_X4_1) (hts _ im_Object_init) (hts _ co_Object_init) rfl (by rw [hml]; exact hl.1) rfl dX4_init_1 (Nat.le_of_ble_eq_true rfl) (Nat.le_of_ble_eq_true rfl) ?_
  refine W.eq (g2 := F0 m 4 ls []) rfl ?_
  refine lv_aload_n hx hb dX4_init_4 rfl (lv_at hl 0 rfl) ?_
  refine lv_iconst (v := 0) hx hb dX4_init_5 (by decide) ?_
  refine lv_iload_n hx hb dX4_init_6 rfl (lv_at hl 1 rfl) ?_
  refine va_mmax hx hb (hml.trans hl.1.symm) hown (hts _ ml_X4_7) (hts _ st_Math_max) (hts _ ini_Math) (hts _ co_Math_max) (Nat.le_of_ble_eq_true rfl) (Nat.le_of_ble_eq_true rfl) (Nat.zero_le _) (Nat.zero_le _) dX4_init_7 ?_
  rw [mx_nI hN]
  refine va_newa (atype := .int) hx hb (hts _ ac_int) (ty := .int) rfl hK hP hD hS hA (n := nI N) (N' := N) (a0 := (N, .inl (fun _ => 0))) (fun cA => rfl) (nI_pos (by omega)) (nI_clamp (by omega)) (by show N * 4 ≤ _; omega) (Nat.le_of_ble_eq_true rfl) (by show 0 + N ≤ N; omega) dX4_init_10 (fun n_1 cA H hK2 hP hD hS => ?_)
  rw [ca_eq hK hK2] at hP hD
  have hP : va_P D vwCl [(q, .inr (4, [.null])), (n_1, .inl (cI, N, .inl (fun _ => 0)))] H := hP
  have hD : va_D A [(q, .inr (4, [.null])), (n_1, .inl (cI, N, .inl (fun _ => 0)))] := hD
  refine W.widen (k := 1) (n := N) (Nat.le_refl _) (by omega) ?_
  refine va_putF (D := D) (ci := 4) (v := .ref n_1) (ty := .array .int) (C := RX4) (T := TX4) (N := 1) hx hb hts inGX4 tyX4 tyX4_ok nmX4 hown hK hP hD hS 0 rfl rfl 0 (by decide) (hts _ fl_X4_13) (fun _ h9 => h9) rfl hin rfl (by decide +kernel) rfl rfl (Nat.le_of_ble_eq_true rfl) dX4_init_12 (fun H locs hP hD hS => ?_)
  have hP : va_P D vwCl [(q, .inr (4, [.ref n_1])), (n_1, .inl (cI, N, .inl (fun _ => 0)))] H := hP
  have hD : va_D A [(q, .inr (4, [.ref n_1])), (n_1, .inl (cI, N, .inl (fun _ => 0)))] := hD
  exact k_ctv (BH := fun A H => ∃ qa : Nat, va_P D vwCl [(q, .inr (4, [.ref qa])), (qa, .inl (cI, N, .inl (fun _ => 0)))] H ∧ va_D A [(q, .inr (4, [.ref qa])), (qa, .inl (cI, N, .inl (fun _ => 0)))]) hx hb hret hloc ⟨n_1, hP, hD⟩ hS dX4_init_15
set_option maxHeartbeats 4000000 in
set_option maxRecDepth 100000 in
theorem c_X0_init (l : Launch) (D : va_G) (cI : ClassId) {sz : Nat} (q : Nat) (x1 : Int32) (N : Nat) (hN : N < 100000) (hx1 : x1 = nI N) : Met l yX0_init (.code yX0_init cX0_init 2 none :: wsG) ({ frames := 2, cells := 2, slots := N + 1, locals := 42 }) (va_Pc [.ref q, .int x1] (gv D cI sz [(q, .inr (0, [.null, .int 0, .int 0]))])) (va_Qv (fun (_ : Unit) => True) (fun (_ : Unit) (t : State) => ∃ qr qa : Nat, va_P D vwCl [(q, .inr (0, [.ref qr, .int x1, .int 0])), (qr, .inr (4, [.ref qa])), (qa, .inl (cI, N, .inl (fun _ => 0)))] t.heap ∧ va_D (va_A [(q, .inr (0, [.null, .int 0, .int 0]))] sz) [(q, .inr (0, [.ref qr, .int x1, .int 0])), (qr, .inr (4, [.ref qa])), (qa, .inl (cI, N, .inl (fun _ => 0)))]) (va_A [(q, .inr (0, [.null, .int 0, .int 0]))] sz)) 2 (N + 1) (va_A [(q, .inr (0, [.null, .int 0, .int 0]))] sz) := by
  refine k_ct (y := yX0_init) (cc := cX0_init) (maxL := 2) (ret := none) (As := [.ref q, .int x1]) (Qc := fun A => va_Qv (fun (_ : Unit) => True) (fun (_ : Unit) (t : State) => ∃ qr qa : Nat, va_P D vwCl [(q, .inr (0, [.ref qr, .int x1, .int 0])), (qr, .inr (4, [.ref qa])), (qa, .inl (cI, N, .inl (fun _ => 0)))] t.heap ∧ va_D A [(q, .inr (0, [.ref qr, .int x1, .int 0])), (qr, .inr (4, [.ref qa])), (qa, .inl (cI, N, .inl (fun _ => 0)))]) A) (by decide) rfl (Nat.le_of_ble_eq_true rfl) rfl ?_
  intro p e s m below meth c ls A S hret hloc hin hK hN2 hSF hP hD hS hA hl
  obtain ⟨hx, hb, hml, hown, hts⟩ := id S
  refine lv_aload_n hx hb dX0_init_0 rfl (lv_at hl 0 rfl) ?_
  refine W.objInit hx hb hown (hts _ ml_X0_1) (hts _ im_Object_init) (hts _ co_Object_init) rfl (by rw [hml]; exact hl.1) rfl dX0_init_1 (Nat.le_of_ble_eq_true rfl) (Nat.le_of_ble_eq_true rfl) ?_
  refine W.eq (g2 := F0 m 4 ls []) rfl ?_
  refine lv_aload_n hx hb dX0_init_4 rfl (lv_at hl 0 rfl) ?_
  refine lv_iconst (v := 0) hx hb dX0_init_5 (by decide) ?_
  refine va_put (D := D) (ci := 0) (v := .int 0) (ty := .int) (C := RX0) (T := TX0) (N := 3) hx hb hts inGX0 tyX0 tyX0_ok nmX0 hown hK hP hD hS 0 rfl rfl 2 (by decide) (hts _ fl_X0_7) (fun _ h9 => h9) rfl (by decide +kernel) rfl rfl (Nat.le_of_ble_eq_true rfl) dX0_init_6 (fun H locs hP hD hS => ?_)
  have hP : va_P D vwCl [(q, .inr (0, [.null, .int 0, .int 0]))] H := hP
  have hD : va_D A [(q, .inr (0, [.null, .int 0, .int 0]))] := hD
  refine lv_aload_n hx hb dX0_init_9 rfl (lv_at hl 0 rfl) ?_
  refine lv_iload_n hx hb dX0_init_10 rfl (lv_at hl 1 rfl) ?_
  refine va_putF (D := D) (ci := 0) (v := .int x1) (ty := .int) (C := RX0) (T := TX0) (N := 3) hx hb hts inGX0 tyX0 tyX0_ok nmX0 hown hK hP hD hS 0 rfl rfl 1 (by decide) (hts _ fl_X0_13) (fun _ h9 => h9) rfl hin rfl (by decide +kernel) rfl rfl (Nat.le_of_ble_eq_true rfl) dX0_init_11 (fun H locs hP hD hS => ?_)
  have hP : va_P D vwCl [(q, .inr (0, [.null, .int x1, .int 0]))] H := hP
  have hD : va_D A [(q, .inr (0, [.null, .int x1, .int 0]))] := hD
  refine lv_aload_n hx hb dX0_init_14 rfl (lv_at hl 0 rfl) ?_
  refine va_new (ci := 4) (fs := [.null]) (C := RX4) (T := TX4) (N := 1) hx hb hts inGX4 tyX4 tyX4_ok hown (hts _ cl_X0_16) (hts _ is_X4) (hts _ ini_X4) hK hP hD hS hA rfl dfl_X4 (Nat.le_of_ble_eq_true rfl) (by show 0 + 1 ≤ N + 1; omega) dX0_init_15 (fun n_1 H hP hD hS => ?_)
  have hP : va_P D vwCl [(q, .inr (0, [.null, .int x1, .int 0])), (n_1, .inr (4, [.null]))] H := hP
  have hD : va_D A [(q, .inr (0, [.null, .int x1, .int 0])), (n_1, .inr (4, [.null]))] := hD
  refine W.widen (k := 1) (n := 1) (Nat.le_of_ble_eq_true rfl) (Nat.le_of_ble_eq_true rfl) ?_
  refine lv_dup hx hb dX0_init_18 rfl ?_
  refine lv_iload_n hx hb dX0_init_19 rfl (lv_at hl 1 rfl) ?_
  have hC : [1].map (fun i => ([(q, .inr (0, [.null, .int x1, .int 0])), (n_1, .inr (4, [.null]))] : va_W)[i]?) = ([(n_1, .inr (4, [.null]))] : va_W).map some := rfl
  have hF := va_free (wc := [(n_1, .inr (4, [.null]))]) hD hS hA [1] hC
  refine k_ctor (As := [.int x1]) (rest := [.ref n_1, .ref q]) S (c_X4_init l D cI (q := n_1) (x1 := x1) (N := N) (hN := hN) (hx1 := hx1)) ml_X0_18 ini_X4 im_X4_init co_X4_init ok_X4_init rfl ⟨rfl, rfl⟩ ⟨Nat.le_of_ble_eq_true rfl, Nat.le_of_ble_eq_true rfl⟩ hK hN2 hSF hP hD hS [1] (by decide) hC hF rfl hl.1 rfl (Nat.le_of_ble_eq_true rfl) ⟨Nat.le_of_ble_eq_true rfl, by show 1 + N ≤ N + 1; omega⟩ dX0_init_20 (fun t H1 locs ht hB hk1 hS => ?_)
  obtain ⟨n_2, hP1, hD1⟩ := hB
  rw [ht] at hP1
  obtain ⟨hP, hD⟩ := k_join (Wc' := [(n_1, .inr (4, [.ref n_2])), (n_2, .inl (cI, N, .inl (fun _ => 0)))]) (Wr := [(q, .inr (0, [.null, .int x1, .int 0]))]) (W2 := [(q, .inr (0, [.null, .int x1, .int 0])), (n_1, .inr (4, [.ref n_2])), (n_2, .inl (cI, N, .inl (fun _ => 0)))]) hP hD [1] [0] [0, 1, 2] hC rfl (by decide) (by decide) rfl (by decide) hk1 hF hP1 hD1
  generalize H1 = H at hP hS ⊢
  refine W.widen (k := 2) (n := N + 1) (Nat.le_of_ble_eq_true rfl) (by omega) ?_
  refine va_putF (D := D) (ci := 0) (v := .ref n_1) (ty := .object "CloningMachine$Row") (C := RX0) (T := TX0) (N := 3) hx hb hts inGX0 tyX0 tyX0_ok nmX0 hown hK hP hD hS 0 rfl rfl 0 (by decide) (hts _ fl_X0_21) (fun _ h9 => h9) rfl hin rfl (by decide +kernel) rfl rfl (Nat.le_of_ble_eq_true rfl) dX0_init_23 (fun H locs hP hD hS => ?_)
  have hP : va_P D vwCl [(q, .inr (0, [.ref n_1, .int x1, .int 0])), (n_1, .inr (4, [.ref n_2])), (n_2, .inl (cI, N, .inl (fun _ => 0)))] H := hP
  have hD : va_D A [(q, .inr (0, [.ref n_1, .int x1, .int 0])), (n_1, .inr (4, [.ref n_2])), (n_2, .inl (cI, N, .inl (fun _ => 0)))] := hD
  exact k_ctv (BH := fun A H => ∃ qr qa : Nat, va_P D vwCl [(q, .inr (0, [.ref qr, .int x1, .int 0])), (qr, .inr (4, [.ref qa])), (qa, .inl (cI, N, .inl (fun _ => 0)))] H ∧ va_D A [(q, .inr (0, [.ref qr, .int x1, .int 0])), (qr, .inr (4, [.ref qa])), (qa, .inl (cI, N, .inl (fun _ => 0)))]) hx hb hret hloc ⟨n_1, n_2, hP, hD⟩ hS dX0_init_26
