theorem dX4_get_0 : decode cX4_get 0 = .ok (.iload_n 1, 1) := by decide +kernel
theorem dX4_get_1 : decode cX4_get 1 = .ok (.ifCond .lt 21, 3) := by decide +kernel
theorem dX4_get_4 : decode cX4_get 4 = .ok (.iload_n 1, 1) := by decide +kernel
theorem dX4_get_5 : decode cX4_get 5 = .ok (.aload_n 0, 1) := by decide +kernel
theorem dX4_get_6 : decode cX4_get 6 = .ok (.getfield 13, 3) := by decide +kernel
theorem dX4_get_9 : decode cX4_get 9 = .ok (.arraylength, 1) := by decide +kernel
theorem dX4_get_10 : decode cX4_get 10 = .ok (.if_icmp .ge 12, 3) := by decide +kernel
theorem dX4_get_13 : decode cX4_get 13 = .ok (.aload_n 0, 1) := by decide +kernel
theorem dX4_get_14 : decode cX4_get 14 = .ok (.getfield 13, 3) := by decide +kernel
theorem dX4_get_17 : decode cX4_get 17 = .ok (.iload_n 1, 1) := by decide +kernel
theorem dX4_get_18 : decode cX4_get 18 = .ok (.iaload, 1) := by decide +kernel
theorem dX4_get_19 : decode cX4_get 19 = .ok (.goto 4, 3) := by decide +kernel
theorem dX4_get_22 : decode cX4_get 22 = .ok (.iconst 0, 1) := by decide +kernel
theorem dX4_get_23 : decode cX4_get 23 = .ok (.ireturn, 1) := by decide +kernel
def f_X4_get (n : Nat) (f : (Nat → Int32)) (x1 : Int32) : Int32 := if x1 < 0 then ((0 : Int32)) else (if (nI n) ≤ x1 then ((0 : Int32)) else (f (x1).toNatClampNeg))
set_option maxHeartbeats 4000000 in
set_option maxRecDepth 100000 in
theorem c_X4_get (l : Launch) (D : va_G) (cI : ClassId) (q : Nat) (qa : Nat) (n : Nat) (f : (Nat → Int32)) (x1 : Int32) (hn : n < 2 ^ 31) (r : Int32) (hf : f_X4_get n f x1 = r) : Met l yX4_get (.code yX4_get cX4_get 2 (some .int) :: wsG) ({ frames := 0, cells := 0, slots := 0, locals := 0 }) (va_Pc [.ref q, .int x1] (gw D cI [(q, .inr (4, [.ref qa])), (qa, .inl (cI, n, .inl f))])) (vp_Si (fun x => x = r)) 0 0 (fun _ => False) := by
  refine k_ro (by decide) rfl (Nat.le_of_ble_eq_true rfl) rfl ?_
  intro p e s m below meth c ls S hret hloc hK hN hSF hP hl
  obtain ⟨hx, hb, hml, hown, hts⟩ := id S
  unfold f_X4_get at hf
  refine lv_iload_n hx hb dX4_get_0 rfl (lv_at hl 1 rfl) ?_
  refine lv_if_lt (tgt := 22) hx hb dX4_get_1 (by decide) (fun c_1 => ?_) (fun c_1 => ?_)
  · rw [if_pos c_1] at hf
    refine lv_iconst (v := 0) hx hb dX4_get_22 (by decide) ?_
    exact k_reti hx hb hret hloc hf dX4_get_23
  · rw [if_neg c_1] at hf
    refine lv_iload_n hx hb dX4_get_4 rfl (lv_at hl 1 rfl) ?_
    refine lv_aload_n hx hb dX4_get_5 rfl (lv_at hl 0 rfl) ?_
    refine va_get (D := D) (ci := 4) (v := .ref qa) (C := RX4) (T := TX4) (N := 1) hx hb hts inGX4 hown hK hP 0 rfl rfl 0 (by decide) (hts _ fl_X4_13) (fun _ h9 => h9) rfl dX4_get_6 ?_
    refine va_alen hx hb hK hP 1 0 rfl rfl (v := nI n) rfl dX4_get_9 ?_
    refine lv_icmp_ge (tgt := 22) hx hb dX4_get_10 (by decide) (fun c_2 => ?_) (fun c_2 => ?_)
    · rw [if_pos c_2] at hf
      refine lv_iconst (v := 0) hx hb dX4_get_22 (by decide) ?_
      exact k_reti hx hb hret hloc hf dX4_get_23
    · rw [if_neg c_2] at hf
      refine lv_aload_n hx hb dX4_get_13 rfl (lv_at hl 0 rfl) ?_
      refine va_get (D := D) (ci := 4) (v := .ref qa) (C := RX4) (T := TX4) (N := 1) hx hb hts inGX4 hown hK hP 0 rfl rfl 0 (by decide) (hts _ fl_X4_13) (fun _ h9 => h9) rfl dX4_get_14 ?_
      refine lv_iload_n hx hb dX4_get_17 rfl (lv_at hl 1 rfl) ?_
      refine va_iald hx hb hK hP 1 0 rfl rfl (rowin hn c_1 c_2) dX4_get_18 ?_
      refine lv_goto (tgt := 23) hx hb dX4_get_19 (by decide) ?_
      exact k_reti hx hb hret hloc hf dX4_get_23
theorem dX4_put_0 : decode cX4_put 0 = .ok (.iload_n 1, 1) := by decide +kernel
theorem dX4_put_1 : decode cX4_put 1 = .ok (.ifCond .lt 19, 3) := by decide +kernel
theorem dX4_put_4 : decode cX4_put 4 = .ok (.iload_n 1, 1) := by decide +kernel
theorem dX4_put_5 : decode cX4_put 5 = .ok (.aload_n 0, 1) := by decide +kernel
theorem dX4_put_6 : decode cX4_put 6 = .ok (.getfield 13, 3) := by decide +kernel
theorem dX4_put_9 : decode cX4_put 9 = .ok (.arraylength, 1) := by decide +kernel
theorem dX4_put_10 : decode cX4_put 10 = .ok (.if_icmp .ge 10, 3) := by decide +kernel
theorem dX4_put_13 : decode cX4_put 13 = .ok (.aload_n 0, 1) := by decide +kernel
theorem dX4_put_14 : decode cX4_put 14 = .ok (.getfield 13, 3) := by decide +kernel
theorem dX4_put_17 : decode cX4_put 17 = .ok (.iload_n 1, 1) := by decide +kernel
theorem dX4_put_18 : decode cX4_put 18 = .ok (.iload_n 2, 1) := by decide +kernel
theorem dX4_put_19 : decode cX4_put 19 = .ok (.iastore, 1) := by decide +kernel
theorem dX4_put_20 : decode cX4_put 20 = .ok (.return_, 1) := by decide +kernel
def f_X4_put (n : Nat) (f : (Nat → Int32)) (x1 : Int32) (x2 : Int32) : (Nat → Int32) := if x1 < 0 then (f) else (if (nI n) ≤ x1 then (f) else (upd f (x1).toNatClampNeg x2))
set_option maxHeartbeats 4000000 in
set_option maxRecDepth 100000 in
theorem c_X4_put (l : Launch) (D : va_G) (cI : ClassId) {sz : Nat} (q : Nat) (qa : Nat) (n : Nat) (f : (Nat → Int32)) (x1 : Int32) (x2 : Int32) (hn : n < 2 ^ 31) (o_f : (Nat → Int32)) (hf : f_X4_put n f x1 x2 = o_f) : Met l yX4_put (.code yX4_put cX4_put 3 none :: wsG) ({ frames := 0, cells := 0, slots := 0, locals := 0 }) (va_Pc [.ref q, .int x1, .int x2] (gv D cI sz [(q, .inr (4, [.ref qa])), (qa, .inl (cI, n, .inl f))])) (va_Qv (fun (_ : Unit) => True) (gz D (va_A [(q, .inr (4, [.ref qa])), (qa, .inl (cI, n, .inl f))] sz) [(q, .inr (4, [.ref qa])), (qa, .inl (cI, n, .inl o_f))]) (va_A [(q, .inr (4, [.ref qa])), (qa, .inl (cI, n, .inl f))] sz)) 0 0 (va_A [(q, .inr (4, [.ref qa])), (qa, .inl (cI, n, .inl f))] sz) := by
  refine k_rw (y := yX4_put) (cc := cX4_put) (maxL := 3) (ret := none) (As := [.ref q, .int x1, .int x2]) (Qc := fun A => va_Qv (fun (_ : Unit) => True) (gz D A [(q, .inr (4, [.ref qa])), (qa, .inl (cI, n, .inl o_f))]) A) (by decide) rfl (Nat.le_of_ble_eq_true rfl) rfl ?_
  intro p e s m below meth c ls A S hret hloc hK hN hSF hP hD hS hA hl
  obtain ⟨hx, hb, hml, hown, hts⟩ := id S
  unfold f_X4_put at hf
  refine lv_iload_n hx hb dX4_put_0 rfl (lv_at hl 1 rfl) ?_
  refine lv_if_lt (tgt := 20) hx hb dX4_put_1 (by decide) (fun c_1 => ?_) (fun c_1 => ?_)
  · rw [if_pos c_1] at hf
    subst hf
    exact k_wretv hx hb hret hloc hP hD hS dX4_put_20
  · rw [if_neg c_1] at hf
    refine lv_iload_n hx hb dX4_put_4 rfl (lv_at hl 1 rfl) ?_
    refine lv_aload_n hx hb dX4_put_5 rfl (lv_at hl 0 rfl) ?_
    refine va_get (D := D) (ci := 4) (v := .ref qa) (C := RX4) (T := TX4) (N := 1) hx hb hts inGX4 hown hK hP 0 rfl rfl 0 (by decide) (hts _ fl_X4_13) (fun _ h9 => h9) rfl dX4_put_6 ?_
    refine va_alen hx hb hK hP 1 0 rfl rfl (v := nI n) rfl dX4_put_9 ?_
    refine lv_icmp_ge (tgt := 20) hx hb dX4_put_10 (by decide) (fun c_2 => ?_) (fun c_2 => ?_)
    · rw [if_pos c_2] at hf
      subst hf
      exact k_wretv hx hb hret hloc hP hD hS dX4_put_20
    · rw [if_neg c_2] at hf
      refine lv_aload_n hx hb dX4_put_13 rfl (lv_at hl 0 rfl) ?_
      refine va_get (D := D) (ci := 4) (v := .ref qa) (C := RX4) (T := TX4) (N := 1) hx hb hts inGX4 hown hK hP 0 rfl rfl 0 (by decide) (hts _ fl_X4_13) (fun _ h9 => h9) rfl dX4_put_14 ?_
      refine lv_iload_n hx hb dX4_put_17 rfl (lv_at hl 1 rfl) ?_
      refine lv_iload_n hx hb dX4_put_18 rfl (lv_at hl 2 rfl) ?_
      refine va_iast hx hb hK hP hD hS 1 0 rfl rfl (rowin hn c_1 c_2) dX4_put_19 (fun H locs hP hD hS => ?_)
      have hP : va_P D vwCl [(q, .inr (4, [.ref qa])), (qa, .inl (cI, n, .inl (upd f (x1).toNatClampNeg x2)))] H := hP
      have hD : va_D A [(q, .inr (4, [.ref qa])), (qa, .inl (cI, n, .inl (upd f (x1).toNatClampNeg x2)))] := hD
      subst hf
      exact k_wretv hx hb hret hloc hP hD hS dX4_put_20
theorem dX4_copyFrom_0 : decode cX4_copyFrom 0 = .ok (.iconst 0, 1) := by decide +kernel
theorem dX4_copyFrom_1 : decode cX4_copyFrom 1 = .ok (.istore_n 3, 1) := by decide +kernel
theorem dX4_copyFrom_2 : decode cX4_copyFrom 2 = .ok (.iload_n 3, 1) := by decide +kernel
theorem dX4_copyFrom_3 : decode cX4_copyFrom 3 = .ok (.iload_n 2, 1) := by decide +kernel
theorem dX4_copyFrom_4 : decode cX4_copyFrom 4 = .ok (.if_icmp .ge 19, 3) := by decide +kernel
theorem dX4_copyFrom_7 : decode cX4_copyFrom 7 = .ok (.aload_n 0, 1) := by decide +kernel
theorem dX4_copyFrom_8 : decode cX4_copyFrom 8 = .ok (.iload_n 3, 1) := by decide +kernel
theorem dX4_copyFrom_9 : decode cX4_copyFrom 9 = .ok (.aload_n 1, 1) := by decide +kernel
theorem dX4_copyFrom_10 : decode cX4_copyFrom 10 = .ok (.iload_n 3, 1) := by decide +kernel
theorem dX4_copyFrom_11 : decode cX4_copyFrom 11 = .ok (.invokevirtual 19, 3) := by decide +kernel
theorem dX4_copyFrom_14 : decode cX4_copyFrom 14 = .ok (.invokevirtual 23, 3) := by decide +kernel
theorem dX4_copyFrom_17 : decode cX4_copyFrom 17 = .ok (.iinc 3 1, 3) := by decide +kernel
theorem dX4_copyFrom_20 : decode cX4_copyFrom 20 = .ok (.goto (-18), 3) := by decide +kernel
theorem dX4_copyFrom_23 : decode cX4_copyFrom 23 = .ok (.return_, 1) := by decide +kernel
theorem ok_X4_get : okV yX4_get RX4 1 := by decide +kernel
theorem gs_X4_19 : GoodIn wsG (wsV RX4 19 RX4 yX4_get (.code yX4_get cX4_get 2 (some .int) :: wsG)) := good_V ml_X4_19 im_X4_get se_X4_get ini_X4 co_X4_get
theorem ok_X4_put : okV yX4_put RX4 2 := by decide +kernel
theorem gs_X4_23 : GoodIn wsG (wsV RX4 23 RX4 yX4_put (.code yX4_put cX4_put 3 none :: wsG)) := good_V ml_X4_23 im_X4_put se_X4_put ini_X4 co_X4_put
def st_X4_copyFrom_L2 (v2 : Int32) (f2 : (Nat → Int32)) (n : Nat) (n2 : Nat) (v3 : Int32) (f : (Nat → Int32)) : Option ((Int32 × (Nat → Int32)) ⊕ (Int32 × (Nat → Int32))) := if v2 ≤ v3 then (some (Sum.inr (v3, f))) else (some (Sum.inl (v3 + 1, (f_X4_put n f v3 (f_X4_get n2 f2 v3)))))
def f_X4_copyFrom_L2 (v2 : Int32) (f2 : (Nat → Int32)) (n : Nat) (n2 : Nat) (k : Nat) (v3 : Int32) (f : (Nat → Int32)) : Option (Int32 × (Nat → Int32)) := lpN (fun z => st_X4_copyFrom_L2 v2 f2 n n2 z.1 z.2) k (v3, f)
set_option maxHeartbeats 4000000 in
set_option maxRecDepth 100000 in
theorem L_X4_copyFrom_2 {p : Program} {l : Launch} {e : Env} {s : State} {m : MethodId} {args : Array Value} {below : List Frame} {meth : Method} {c : Code} {Q : State → Prop} {D : va_G} {cI : ClassId} {q : Nat} {g : Nat} {qa : Nat} {ga : Nat} {n : Nat} {n2 : Nat} {v2 : Int32} {f2 : (Nat → Int32)} {A : Nat → Prop} (S : CallFix p m c cX4_copyFrom 4 s args wsG RX4) (hK : va_K D vwCl [(cI, .int)] s) (hN : nw s) (hSF : sf A s s.heap) (hA : ∀ q, s.heap.size ≤ q → A q) (hn : n < 2 ^ 31) (hn2 : n2 < 2 ^ 31) : ∀ (k : Nat) (v3 : Int32) (f : (Nat → Int32)) (o_v3 : Int32) (o_f : (Nat → Int32)), f_X4_copyFrom_L2 v2 f2 n n2 k v3 f = some (o_v3, o_f) → ∀ (H : Heap) (locs : List Loc) (ls : Array Slot), va_P D vwCl [(q, .inr (4, [.ref qa])), (qa, .inl (cI, n, .inl f)), (g, .inr (4, [.ref ga])), (ga, .inl (cI, n2, .inl f2))] H → va_D A [(q, .inr (4, [.ref qa])), (qa, .inl (cI, n, .inl f)), (g, .inr (4, [.ref ga])), (ga, .inl (cI, n2, .inl f2))] → va_S A s.heap H locs → lv_has ls 4 [(0, .ref q), (1, .ref g), (2, .int v2), (3, .int v3)] → (∀ (H : Heap) (locs : List Loc) (ls : Array Slot), va_P D vwCl [(q, .inr (4, [.ref qa])), (qa, .inl (cI, n, .inl o_f)), (g, .inr (4, [.ref ga])), (ga, .inl (cI, n2, .inl f2))] H → va_D A [(q, .inr (4, [.ref qa])), (qa, .inl (cI, n, .inl o_f)), (g, .inr (4, [.ref ga])), (ga, .inl (cI, n2, .inl f2))] → va_S A s.heap H locs → lv_has ls 4 [(0, .ref q), (1, .ref g), (2, .int v2), (3, .int o_v3)] → W p l e (headSpec (.code yX4_copyFrom cX4_copyFrom 4 none :: wsG) { frames := 1, cells := 0, slots := 0, locals := 22 }).room s m args below meth c H locs 0 0 Q (F0 m 23 ls [])) → W p l e (headSpec (.code yX4_copyFrom cX4_copyFrom 4 none :: wsG) { frames := 1, cells := 0, slots := 0, locals := 22 }).room s m args below meth c H locs 0 0 Q (F0 m 2 ls []) := by
  obtain ⟨hx, hb, hml, hown, hts⟩ := id S
  intro k
  induction k with
  | zero =>
    intro v3 f o_v3 o_f hf
    cases hf
  | succ k ih =>
    intro v3 f o_v3 o_f hf H locs ls hP hD hS hl kk
    obtain ⟨z, hf, hz⟩ := lp_inv hf
    have hf : st_X4_copyFrom_L2 v2 f2 n n2 v3 f = some z := hf
    unfold st_X4_copyFrom_L2 at hf
    refine lv_iload_n hx hb dX4_copyFrom_2 rfl (lv_at hl 3 rfl) ?_
    refine lv_iload_n hx hb dX4_copyFrom_3 rfl (lv_at hl 2 rfl) ?_
    refine lv_icmp_ge (tgt := 23) hx hb dX4_copyFrom_4 (by decide) (fun c_1 => ?_) (fun c_1 => ?_)
    · rw [if_pos c_1] at hf
      have hf := Option.some.inj hf
      subst hf
      obtain ⟨e_0, e_1⟩ := Prod.mk.inj (lpC_r hz)
      subst e_0
      subst e_1
      exact kk H locs ls hP hD hS (lv_sub hl [0, 1, 2, 3] rfl)
    · rw [if_neg c_1] at hf
      refine lv_aload_n hx hb dX4_copyFrom_7 rfl (lv_at hl 0 rfl) ?_
      refine lv_iload_n hx hb dX4_copyFrom_8 rfl (lv_at hl 3 rfl) ?_
      refine lv_aload_n hx hb dX4_copyFrom_9 rfl (lv_at hl 1 rfl) ?_
      refine lv_iload_n hx hb dX4_copyFrom_10 rfl (lv_at hl 3 rfl) ?_
      refine k_roVi (As := [.int v3]) (rest := [.int v3, .ref q]) S (c_X4_get l D cI (q := g) (qa := ga) (n := n2) (f := f2) (x1 := v3) (hn := hn2) (r := (f_X4_get n2 f2 v3)) (hf := rfl)) gs_X4_19 ok_X4_get ⟨rfl, rfl⟩ ⟨Nat.le_of_ble_eq_true rfl, Nat.le_of_ble_eq_true rfl⟩ hK hN (sfr hSF hS) (hP.sub [2, 3] rfl) rfl rfl rfl hl.1 rfl (Nat.le_of_ble_eq_true rfl) ⟨Nat.zero_le _, Nat.zero_le _⟩ dX4_copyFrom_11 ?_
      refine k_rwVv (As := [.int v3, .int (f_X4_get n2 f2 v3)]) (rest := []) (Wr := [(g, .inr (4, [.ref ga])), (ga, .inl (cI, n2, .inl f2))]) (W2 := [(q, .inr (4, [.ref qa])), (qa, .inl (cI, n, .inl (f_X4_put n f v3 (f_X4_get n2 f2 v3)))), (g, .inr (4, [.ref ga])), (ga, .inl (cI, n2, .inl f2))]) S (c_X4_put l D cI (q := q) (qa := qa) (n := n) (f := f) (x1 := v3) (x2 := (f_X4_get n2 f2 v3)) (hn := hn) (o_f := (f_X4_put n f v3 (f_X4_get n2 f2 v3))) (hf := rfl)) gs_X4_23 ok_X4_put ⟨rfl, rfl⟩ ⟨Nat.le_of_ble_eq_true rfl, Nat.le_of_ble_eq_true rfl⟩ hK hN hSF hP hD hS hA [0, 1] [2, 3] [2, 3, 0, 1] (by decide) rfl rfl (by decide) (by decide) rfl (by decide) rfl rfl rfl hl.1 rfl (Nat.le_of_ble_eq_true rfl) ⟨Nat.zero_le _, Nat.zero_le _⟩ dX4_copyFrom_14 (fun H locs hP hD hS => ?_)
      refine lv_iinc (v := v3 + 1) (lv' := [(3, .int (v3 + 1)), (0, .ref q), (1, .ref g), (2, .int v2)]) hx hb dX4_copyFrom_17 hl (k := 3) rfl rfl (by decide) rfl (fun ls hl => ?_)
      refine lv_goto (tgt := 2) hx hb dX4_copyFrom_20 (by decide) ?_
      have hf := Option.some.inj hf
      subst hf
      exact ih (v3 + 1) (f_X4_put n f v3 (f_X4_get n2 f2 v3)) _ _ hz H locs ls hP hD hS (lv_sub hl [1, 2, 3, 0] rfl) kk
def f_X4_copyFrom (n : Nat) (n2 : Nat) (f : (Nat → Int32)) (f2 : (Nat → Int32)) (x2 : Int32) : Option ((Nat → Int32)) := bi2 (f_X4_copyFrom_L2 x2 f2 n n2 4096 0 f) (fun (v3_2 : Int32) (f_3 : (Nat → Int32)) => some f_3)
set_option maxHeartbeats 4000000 in
set_option maxRecDepth 100000 in
theorem c_X4_copyFrom (l : Launch) (D : va_G) (cI : ClassId) {sz : Nat} (q : Nat) (g : Nat) (qa : Nat) (ga : Nat) (n : Nat) (n2 : Nat) (f : (Nat → Int32)) (f2 : (Nat → Int32)) (x2 : Int32) (hn : n < 2 ^ 31) (hn2 : n2 < 2 ^ 31) (o_f : (Nat → Int32)) (hf : f_X4_copyFrom n n2 f f2 x2 = some o_f) : Met l yX4_copyFrom (.code yX4_copyFrom cX4_copyFrom 4 none :: wsG) ({ frames := 1, cells := 0, slots := 0, locals := 22 }) (va_Pc [.ref q, .ref g, .int x2] (gv D cI sz [(q, .inr (4, [.ref qa])), (qa, .inl (cI, n, .inl f)), (g, .inr (4, [.ref ga])), (ga, .inl (cI, n2, .inl f2))])) (va_Qv (fun (_ : Unit) => True) (gz D (va_A [(q, .inr (4, [.ref qa])), (qa, .inl (cI, n, .inl f)), (g, .inr (4, [.ref ga])), (ga, .inl (cI, n2, .inl f2))] sz) [(q, .inr (4, [.ref qa])), (qa, .inl (cI, n, .inl o_f)), (g, .inr (4, [.ref ga])), (ga, .inl (cI, n2, .inl f2))]) (va_A [(q, .inr (4, [.ref qa])), (qa, .inl (cI, n, .inl f)), (g, .inr (4, [.ref ga])), (ga, .inl (cI, n2, .inl f2))] sz)) 0 0 (va_A [(q, .inr (4, [.ref qa])), (qa, .inl (cI, n, .inl f)), (g, .inr (4, [.ref ga])), (ga, .inl (cI, n2, .inl f2))] sz) := by
  refine k_rw (y := yX4_copyFrom) (cc := cX4_copyFrom) (maxL := 4) (ret := none) (As := [.ref q, .ref g, .int x2]) (Qc := fun A => va_Qv (fun (_ : Unit) => True) (gz D A [(q, .inr (4, [.ref qa])), (qa, .inl (cI, n, .inl o_f)), (g, .inr (4, [.ref ga])), (ga, .inl (cI, n2, .inl f2))]) A) (by decide) rfl (Nat.le_of_ble_eq_true rfl) rfl ?_
  intro p e s m below meth c ls A S hret hloc hK hN hSF hP hD hS hA hl
  obtain ⟨hx, hb, hml, hown, hts⟩ := id S
  unfold f_X4_copyFrom at hf
  refine lv_iconst (v := 0) hx hb dX4_copyFrom_0 (by decide) ?_
  refine lv_istore_n (lv' := [(3, .int 0), (0, .ref q), (1, .ref g), (2, .int x2)]) hx hb dX4_copyFrom_1 rfl hl (by decide) rfl (fun ls hl => ?_)
  obtain ⟨v3_2, f_3, hc_4, hf⟩ := bd2 hf
  refine L_X4_copyFrom_2 S hK hN hSF hA hn hn2 _ 0 f v3_2 f_3 hc_4 _ _ _ hP hD hS (lv_sub hl [1, 2, 3, 0] rfl) (fun H locs ls hP hD hS hl => ?_)
  have e_0 := Option.some.inj hf
  subst e_0
  exact k_wretv hx hb hret hloc hP hD hS dX4_copyFrom_23
theorem dX8_cutQuotient_0 : decode cX8_cutQuotient 0 = .ok (.lload_n 2, 1) := by decide +kernel
theorem dX8_cutQuotient_1 : decode cX8_cutQuotient 1 = .ok (.lconst 0, 1) := by decide +kernel
theorem dX8_cutQuotient_2 : decode cX8_cutQuotient 2 = .ok (.lcmp, 1) := by decide +kernel
theorem dX8_cutQuotient_3 : decode cX8_cutQuotient 3 = .ok (.ifCond .le 10, 3) := by decide +kernel
theorem dX8_cutQuotient_6 : decode cX8_cutQuotient 6 = .ok (.lload_n 0, 1) := by decide +kernel
theorem dX8_cutQuotient_7 : decode cX8_cutQuotient 7 = .ok (.lload_n 2, 1) := by decide +kernel
theorem dX8_cutQuotient_8 : decode cX8_cutQuotient 8 = .ok (.ldiv, 1) := by decide +kernel
theorem dX8_cutQuotient_9 : decode cX8_cutQuotient 9 = .ok (.l2i, 1) := by decide +kernel
theorem dX8_cutQuotient_10 : decode cX8_cutQuotient 10 = .ok (.goto 4, 3) := by decide +kernel
theorem dX8_cutQuotient_13 : decode cX8_cutQuotient 13 = .ok (.iconst 0, 1) := by decide +kernel
theorem dX8_cutQuotient_14 : decode cX8_cutQuotient 14 = .ok (.ireturn, 1) := by decide +kernel
def f_X8_cutQuotient (x1 : Int64) (x2 : Int64) : Int32 := if (lg_cmp x2 (0 : Int64)) ≤ 0 then ((0 : Int32)) else ((x1 / x2).toInt32)
set_option maxHeartbeats 4000000 in
set_option maxRecDepth 100000 in
theorem c_X8_cutQuotient (l : Launch) (D : va_G) (cI : ClassId) (x1 : Int64) (x2 : Int64) (r : Int32) (hf : f_X8_cutQuotient x1 x2 = r) : Met l yX8_cutQuotient (.code yX8_cutQuotient cX8_cutQuotient 4 (some .int) :: wsG) ({ frames := 0, cells := 0, slots := 0, locals := 0 }) (va_Pc [.long x1, .long x2] (gw D cI [])) (vp_Si (fun x => x = r)) 0 0 (fun _ => False) := by
  refine k_ro (by decide) rfl (Nat.le_of_ble_eq_true rfl) rfl ?_
  intro p e s m below meth c ls S hret hloc hK hN hSF hP hl
  obtain ⟨hx, hb, hml, hown, hts⟩ := id S
  unfold f_X8_cutQuotient at hf
  refine lv_lload_n hx hb dX8_cutQuotient_0 rfl (lv_at hl 1 rfl) ?_
  refine lv_lconst (v := 0) hx hb dX8_cutQuotient_1 (by decide) ?_
  refine W.lcmp hx hb dX8_cutQuotient_2 ?_
  refine lv_if_le (tgt := 13) hx hb dX8_cutQuotient_3 (by decide) (fun c_1 => ?_) (fun c_1 => ?_)
  · rw [if_pos c_1] at hf
    refine lv_iconst (v := 0) hx hb dX8_cutQuotient_13 (by decide) ?_
    exact k_reti hx hb hret hloc hf dX8_cutQuotient_14
  · rw [if_neg c_1] at hf
    refine lv_lload_n hx hb dX8_cutQuotient_6 rfl (lv_at hl 0 rfl) ?_
    refine lv_lload_n hx hb dX8_cutQuotient_7 rfl (lv_at hl 1 rfl) ?_
    refine lv_ldiv hx hb dX8_cutQuotient_8 (cqnz c_1) ?_
    refine lv_l2i hx hb dX8_cutQuotient_9 rfl ?_
    refine lv_goto (tgt := 14) hx hb dX8_cutQuotient_10 (by decide) ?_
    exact k_reti hx hb hret hloc hf dX8_cutQuotient_14
theorem dX8_isByte_0 : decode cX8_isByte 0 = .ok (.iload_n 0, 1) := by decide +kernel
theorem dX8_isByte_1 : decode cX8_isByte 1 = .ok (.ifCond .lt 14, 3) := by decide +kernel
theorem dX8_isByte_4 : decode cX8_isByte 4 = .ok (.iload_n 0, 1) := by decide +kernel
theorem dX8_isByte_5 : decode cX8_isByte 5 = .ok (.sipush 255, 3) := by decide +kernel
theorem dX8_isByte_8 : decode cX8_isByte 8 = .ok (.if_icmp .gt 7, 3) := by decide +kernel
theorem dX8_isByte_11 : decode cX8_isByte 11 = .ok (.iconst 1, 1) := by decide +kernel
theorem dX8_isByte_12 : decode cX8_isByte 12 = .ok (.goto 4, 3) := by decide +kernel
theorem dX8_isByte_15 : decode cX8_isByte 15 = .ok (.iconst 0, 1) := by decide +kernel
theorem dX8_isByte_16 : decode cX8_isByte 16 = .ok (.ireturn, 1) := by decide +kernel
def f_X8_isByte (x1 : Int32) : Int32 := if x1 < 0 then ((0 : Int32)) else (if 255 < x1 then ((0 : Int32)) else ((1 : Int32)))
set_option maxHeartbeats 4000000 in
set_option maxRecDepth 100000 in
theorem c_X8_isByte (l : Launch) (D : va_G) (cI : ClassId) (x1 : Int32) (r : Int32) (hf : f_X8_isByte x1 = r) : Met l yX8_isByte (.code yX8_isByte cX8_isByte 1 (some .boolean) :: wsG) ({ frames := 0, cells := 0, slots := 0, locals := 0 }) (va_Pc [.int x1] (gw D cI [])) (vp_Si (fun x => x = r)) 0 0 (fun _ => False) := by
  refine k_ro (by decide) rfl (Nat.le_of_ble_eq_true rfl) rfl ?_
  intro p e s m below meth c ls S hret hloc hK hN hSF hP hl
  obtain ⟨hx, hb, hml, hown, hts⟩ := id S
  unfold f_X8_isByte at hf
  refine lv_iload_n hx hb dX8_isByte_0 rfl (lv_at hl 0 rfl) ?_
  refine lv_if_lt (tgt := 15) hx hb dX8_isByte_1 (by decide) (fun c_1 => ?_) (fun c_1 => ?_)
  · rw [if_pos c_1] at hf
    refine lv_iconst (v := 0) hx hb dX8_isByte_15 (by decide) ?_
    exact k_retz hx hb hret hloc rfl hf dX8_isByte_16
  · rw [if_neg c_1] at hf
    refine lv_iload_n hx hb dX8_isByte_4 rfl (lv_at hl 0 rfl) ?_
    refine lv_sipush (v := 255) hx hb dX8_isByte_5 (by decide) ?_
    refine lv_icmp_gt (tgt := 15) hx hb dX8_isByte_8 (by decide) (fun c_2 => ?_) (fun c_2 => ?_)
    · rw [if_pos c_2] at hf
      refine lv_iconst (v := 0) hx hb dX8_isByte_15 (by decide) ?_
      exact k_retz hx hb hret hloc rfl hf dX8_isByte_16
    · rw [if_neg c_2] at hf
      refine lv_iconst (v := 1) hx hb dX8_isByte_11 (by decide) ?_
      refine lv_goto (tgt := 16) hx hb dX8_isByte_12 (by decide) ?_
      exact k_retz hx hb hret hloc rfl hf dX8_isByte_16
theorem dX8_bitFromHighest_0 : decode cX8_bitFromHighest 0 = .ok (.iload_n 0, 1) := by decide +kernel
theorem dX8_bitFromHighest_1 : decode cX8_bitFromHighest 1 = .ok (.iload_n 1, 1) := by decide +kernel
theorem dX8_bitFromHighest_2 : decode cX8_bitFromHighest 2 = .ok (.iconst 1, 1) := by decide +kernel
theorem dX8_bitFromHighest_3 : decode cX8_bitFromHighest 3 = .ok (.isub, 1) := by decide +kernel
theorem dX8_bitFromHighest_4 : decode cX8_bitFromHighest 4 = .ok (.iload_n 2, 1) := by decide +kernel
theorem dX8_bitFromHighest_5 : decode cX8_bitFromHighest 5 = .ok (.isub, 1) := by decide +kernel
theorem dX8_bitFromHighest_6 : decode cX8_bitFromHighest 6 = .ok (.ishr, 1) := by decide +kernel
theorem dX8_bitFromHighest_7 : decode cX8_bitFromHighest 7 = .ok (.iconst 1, 1) := by decide +kernel
theorem dX8_bitFromHighest_8 : decode cX8_bitFromHighest 8 = .ok (.iand, 1) := by decide +kernel
theorem dX8_bitFromHighest_9 : decode cX8_bitFromHighest 9 = .ok (.ireturn, 1) := by decide +kernel
def f_X8_bitFromHighest (x1 : Int32) (x2 : Int32) (x3 : Int32) : Int32 := (x1 >>> (((x2 - 1) - x3) &&& 31)) &&& 1
set_option maxHeartbeats 4000000 in
set_option maxRecDepth 100000 in
theorem c_X8_bitFromHighest (l : Launch) (D : va_G) (cI : ClassId) (x1 : Int32) (x2 : Int32) (x3 : Int32) (r : Int32) (hf : f_X8_bitFromHighest x1 x2 x3 = r) : Met l yX8_bitFromHighest (.code yX8_bitFromHighest cX8_bitFromHighest 3 (some .int) :: wsG) ({ frames := 0, cells := 0, slots := 0, locals := 0 }) (va_Pc [.int x1, .int x2, .int x3] (gw D cI [])) (vp_Si (fun x => x = r)) 0 0 (fun _ => False) := by
  refine k_ro (by decide) rfl (Nat.le_of_ble_eq_true rfl) rfl ?_
  intro p e s m below meth c ls S hret hloc hK hN hSF hP hl
  obtain ⟨hx, hb, hml, hown, hts⟩ := id S
  unfold f_X8_bitFromHighest at hf
  refine lv_iload_n hx hb dX8_bitFromHighest_0 rfl (lv_at hl 0 rfl) ?_
  refine lv_iload_n hx hb dX8_bitFromHighest_1 rfl (lv_at hl 1 rfl) ?_
  refine lv_iconst (v := 1) hx hb dX8_bitFromHighest_2 (by decide) ?_
  refine lv_isub hx hb dX8_bitFromHighest_3 ?_
  refine lv_iload_n hx hb dX8_bitFromHighest_4 rfl (lv_at hl 2 rfl) ?_
  refine lv_isub hx hb dX8_bitFromHighest_5 ?_
  refine lv_ishr hx hb dX8_bitFromHighest_6 ?_
  refine lv_iconst (v := 1) hx hb dX8_bitFromHighest_7 (by decide) ?_
  refine lv_iand hx hb dX8_bitFromHighest_8 ?_
  exact k_reti hx hb hret hloc hf dX8_bitFromHighest_9
theorem dX2_path_0 : decode cX2_path 0 = .ok (.iconst 2, 1) := by decide +kernel
theorem dX2_path_1 : decode cX2_path 1 = .ok (.iload_n 0, 1) := by decide +kernel
theorem dX2_path_2 : decode cX2_path 2 = .ok (.imul, 1) := by decide +kernel
theorem dX2_path_3 : decode cX2_path 3 = .ok (.iload_n 1, 1) := by decide +kernel
theorem dX2_path_4 : decode cX2_path 4 = .ok (.iadd, 1) := by decide +kernel
theorem dX2_path_5 : decode cX2_path 5 = .ok (.ireturn, 1) := by decide +kernel
def f_X2_path (x1 : Int32) (x2 : Int32) : Int32 := (2 * x1) + x2
set_option maxHeartbeats 4000000 in
set_option maxRecDepth 100000 in
theorem c_X2_path (l : Launch) (D : va_G) (cI : ClassId) (x1 : Int32) (x2 : Int32) (r : Int32) (hf : f_X2_path x1 x2 = r) : Met l yX2_path (.code yX2_path cX2_path 2 (some .int) :: wsG) ({ frames := 0, cells := 0, slots := 0, locals := 0 }) (va_Pc [.int x1, .int x2] (gw D cI [])) (vp_Si (fun x => x = r)) 0 0 (fun _ => False) := by
  refine k_ro (by decide) rfl (Nat.le_of_ble_eq_true rfl) rfl ?_
  intro p e s m below meth c ls S hret hloc hK hN hSF hP hl
  obtain ⟨hx, hb, hml, hown, hts⟩ := id S
  unfold f_X2_path at hf
  refine lv_iconst (v := 2) hx hb dX2_path_0 (by decide) ?_
  refine lv_iload_n hx hb dX2_path_1 rfl (lv_at hl 0 rfl) ?_
  refine lv_imul hx hb dX2_path_2 ?_
  refine lv_iload_n hx hb dX2_path_3 rfl (lv_at hl 1 rfl) ?_
  refine lv_iadd hx hb dX2_path_4 ?_
  exact k_reti hx hb hret hloc hf dX2_path_5
theorem dX2_statesAtFirst_0 : decode cX2_statesAtFirst 0 = .ok (.iload_n 0, 1) := by decide +kernel
theorem dX2_statesAtFirst_1 : decode cX2_statesAtFirst 1 = .ok (.iconst 1, 1) := by decide +kernel
theorem dX2_statesAtFirst_2 : decode cX2_statesAtFirst 2 = .ok (.if_icmp .ne 6, 3) := by decide +kernel
theorem dX2_statesAtFirst_5 : decode cX2_statesAtFirst 5 = .ok (.bipush 15, 2) := by decide +kernel
theorem dX2_statesAtFirst_7 : decode cX2_statesAtFirst 7 = .ok (.ireturn, 1) := by decide +kernel
theorem dX2_statesAtFirst_8 : decode cX2_statesAtFirst 8 = .ok (.iload_n 0, 1) := by decide +kernel
theorem dX2_statesAtFirst_9 : decode cX2_statesAtFirst 9 = .ok (.iconst 2, 1) := by decide +kernel
theorem dX2_statesAtFirst_10 : decode cX2_statesAtFirst 10 = .ok (.if_icmp .ne 8, 3) := by decide +kernel
theorem dX2_statesAtFirst_13 : decode cX2_statesAtFirst 13 = .ok (.bipush 32, 2) := by decide +kernel
theorem dX2_statesAtFirst_15 : decode cX2_statesAtFirst 15 = .ok (.goto 4, 3) := by decide +kernel
theorem dX2_statesAtFirst_18 : decode cX2_statesAtFirst 18 = .ok (.iconst 1, 1) := by decide +kernel
theorem dX2_statesAtFirst_19 : decode cX2_statesAtFirst 19 = .ok (.ireturn, 1) := by decide +kernel
def f_X2_statesAtFirst (x1 : Int32) : Int32 := if x1 = 1 then ((15 : Int32)) else (if x1 = 2 then ((32 : Int32)) else ((1 : Int32)))
set_option maxHeartbeats 4000000 in
set_option maxRecDepth 100000 in
theorem c_X2_statesAtFirst (l : Launch) (D : va_G) (cI : ClassId) (x1 : Int32) (r : Int32) (hf : f_X2_statesAtFirst x1 = r) : Met l yX2_statesAtFirst (.code yX2_statesAtFirst cX2_statesAtFirst 1 (some .int) :: wsG) ({ frames := 0, cells := 0, slots := 0, locals := 0 }) (va_Pc [.int x1] (gw D cI [])) (vp_Si (fun x => x = r)) 0 0 (fun _ => False) := by
  refine k_ro (by decide) rfl (Nat.le_of_ble_eq_true rfl) rfl ?_
  intro p e s m below meth c ls S hret hloc hK hN hSF hP hl
  obtain ⟨hx, hb, hml, hown, hts⟩ := id S
  unfold f_X2_statesAtFirst at hf
  refine lv_iload_n hx hb dX2_statesAtFirst_0 rfl (lv_at hl 0 rfl) ?_
  refine lv_iconst (v := 1) hx hb dX2_statesAtFirst_1 (by decide) ?_
  refine lv_icmp_ne (tgt := 8) hx hb dX2_statesAtFirst_2 (by decide) (fun c_1 => ?_) (fun c_1 => ?_)
  · rw [if_neg c_1] at hf
    refine lv_iload_n hx hb dX2_statesAtFirst_8 rfl (lv_at hl 0 rfl) ?_
    refine lv_iconst (v := 2) hx hb dX2_statesAtFirst_9 (by decide) ?_
    refine lv_icmp_ne (tgt := 18) hx hb dX2_statesAtFirst_10 (by decide) (fun c_2 => ?_) (fun c_2 => ?_)
    · rw [if_neg c_2] at hf
      refine lv_iconst (v := 1) hx hb dX2_statesAtFirst_18 (by decide) ?_
      exact k_reti hx hb hret hloc hf dX2_statesAtFirst_19
    · rw [if_pos c_2] at hf
      refine lv_bipush (v := 32) hx hb dX2_statesAtFirst_13 (by decide) ?_
      refine lv_goto (tgt := 19) hx hb dX2_statesAtFirst_15 (by decide) ?_
      exact k_reti hx hb hret hloc hf dX2_statesAtFirst_19
  · rw [if_pos c_1] at hf
    refine lv_bipush (v := 15) hx hb dX2_statesAtFirst_5 (by decide) ?_
    exact k_reti hx hb hret hloc hf dX2_statesAtFirst_7
theorem dX2_nextAtFirst_0 : decode cX2_nextAtFirst 0 = .ok (.iload_n 0, 1) := by decide +kernel
theorem dX2_nextAtFirst_1 : decode cX2_nextAtFirst 1 = .ok (.iconst 1, 1) := by decide +kernel
theorem dX2_nextAtFirst_2 : decode cX2_nextAtFirst 2 = .ok (.if_icmp .ne 23, 3) := by decide +kernel
theorem dX2_nextAtFirst_5 : decode cX2_nextAtFirst 5 = .ok (.iconst 2, 1) := by decide +kernel
theorem dX2_nextAtFirst_6 : decode cX2_nextAtFirst 6 = .ok (.iload_n 1, 1) := by decide +kernel
theorem dX2_nextAtFirst_7 : decode cX2_nextAtFirst 7 = .ok (.imul, 1) := by decide +kernel
theorem dX2_nextAtFirst_8 : decode cX2_nextAtFirst 8 = .ok (.iconst 1, 1) := by decide +kernel
theorem dX2_nextAtFirst_9 : decode cX2_nextAtFirst 9 = .ok (.iadd, 1) := by decide +kernel
theorem dX2_nextAtFirst_10 : decode cX2_nextAtFirst 10 = .ok (.iload_n 2, 1) := by decide +kernel
theorem dX2_nextAtFirst_11 : decode cX2_nextAtFirst 11 = .ok (.iadd, 1) := by decide +kernel
theorem dX2_nextAtFirst_12 : decode cX2_nextAtFirst 12 = .ok (.istore_n 3, 1) := by decide +kernel
theorem dX2_nextAtFirst_13 : decode cX2_nextAtFirst 13 = .ok (.iload_n 3, 1) := by decide +kernel
theorem dX2_nextAtFirst_14 : decode cX2_nextAtFirst 14 = .ok (.bipush 15, 2) := by decide +kernel
theorem dX2_nextAtFirst_16 : decode cX2_nextAtFirst 16 = .ok (.if_icmp .ge 7, 3) := by decide +kernel
theorem dX2_nextAtFirst_19 : decode cX2_nextAtFirst 19 = .ok (.iload_n 3, 1) := by decide +kernel
theorem dX2_nextAtFirst_20 : decode cX2_nextAtFirst 20 = .ok (.goto 4, 3) := by decide +kernel
theorem dX2_nextAtFirst_23 : decode cX2_nextAtFirst 23 = .ok (.iconst 0, 1) := by decide +kernel
theorem dX2_nextAtFirst_24 : decode cX2_nextAtFirst 24 = .ok (.ireturn, 1) := by decide +kernel
theorem dX2_nextAtFirst_25 : decode cX2_nextAtFirst 25 = .ok (.iload_n 0, 1) := by decide +kernel
theorem dX2_nextAtFirst_26 : decode cX2_nextAtFirst 26 = .ok (.iconst 2, 1) := by decide +kernel
theorem dX2_nextAtFirst_27 : decode cX2_nextAtFirst 27 = .ok (.if_icmp .ne 33, 3) := by decide +kernel
theorem dX2_nextAtFirst_30 : decode cX2_nextAtFirst 30 = .ok (.iload_n 1, 1) := by decide +kernel
theorem dX2_nextAtFirst_31 : decode cX2_nextAtFirst 31 = .ok (.bipush 8, 2) := by decide +kernel
theorem dX2_nextAtFirst_33 : decode cX2_nextAtFirst 33 = .ok (.idiv, 1) := by decide +kernel
theorem dX2_nextAtFirst_34 : decode cX2_nextAtFirst 34 = .ok (.iconst 1, 1) := by decide +kernel
theorem dX2_nextAtFirst_35 : decode cX2_nextAtFirst 35 = .ok (.iadd, 1) := by decide +kernel
theorem dX2_nextAtFirst_36 : decode cX2_nextAtFirst 36 = .ok (.iconst 4, 1) := by decide +kernel
theorem dX2_nextAtFirst_37 : decode cX2_nextAtFirst 37 = .ok (.irem, 1) := by decide +kernel
theorem dX2_nextAtFirst_38 : decode cX2_nextAtFirst 38 = .ok (.istore_n 3, 1) := by decide +kernel
theorem dX2_nextAtFirst_39 : decode cX2_nextAtFirst 39 = .ok (.iconst 2, 1) := by decide +kernel
theorem dX2_nextAtFirst_40 : decode cX2_nextAtFirst 40 = .ok (.iload_n 1, 1) := by decide +kernel
theorem dX2_nextAtFirst_41 : decode cX2_nextAtFirst 41 = .ok (.bipush 8, 2) := by decide +kernel
theorem dX2_nextAtFirst_43 : decode cX2_nextAtFirst 43 = .ok (.irem, 1) := by decide +kernel
theorem dX2_nextAtFirst_44 : decode cX2_nextAtFirst 44 = .ok (.imul, 1) := by decide +kernel
theorem dX2_nextAtFirst_45 : decode cX2_nextAtFirst 45 = .ok (.iload_n 2, 1) := by decide +kernel
theorem dX2_nextAtFirst_46 : decode cX2_nextAtFirst 46 = .ok (.iadd, 1) := by decide +kernel
theorem dX2_nextAtFirst_47 : decode cX2_nextAtFirst 47 = .ok (.bipush 8, 2) := by decide +kernel
theorem dX2_nextAtFirst_49 : decode cX2_nextAtFirst 49 = .ok (.irem, 1) := by decide +kernel
theorem dX2_nextAtFirst_50 : decode cX2_nextAtFirst 50 = .ok (.istore 4, 2) := by decide +kernel
theorem dX2_nextAtFirst_52 : decode cX2_nextAtFirst 52 = .ok (.bipush 8, 2) := by decide +kernel
theorem dX2_nextAtFirst_54 : decode cX2_nextAtFirst 54 = .ok (.iload_n 3, 1) := by decide +kernel
theorem dX2_nextAtFirst_55 : decode cX2_nextAtFirst 55 = .ok (.imul, 1) := by decide +kernel
theorem dX2_nextAtFirst_56 : decode cX2_nextAtFirst 56 = .ok (.iload 4, 2) := by decide +kernel
theorem dX2_nextAtFirst_58 : decode cX2_nextAtFirst 58 = .ok (.iadd, 1) := by decide +kernel
theorem dX2_nextAtFirst_59 : decode cX2_nextAtFirst 59 = .ok (.ireturn, 1) := by decide +kernel
theorem dX2_nextAtFirst_60 : decode cX2_nextAtFirst 60 = .ok (.iconst 0, 1) := by decide +kernel
theorem dX2_nextAtFirst_61 : decode cX2_nextAtFirst 61 = .ok (.ireturn, 1) := by decide +kernel
def f_X2_nextAtFirst (x1 : Int32) (x2 : Int32) (x3 : Int32) : Int32 := if x1 = 1 then (if 15 ≤ (((2 * x2) + 1) + x3) then ((0 : Int32)) else (((2 * x2) + 1) + x3)) else (if x1 = 2 then ((8 * (((x2 / 8) + 1) - ((x2 / 8) + 1) / 4 * 4)) + (((2 * (x2 - x2 / 8 * 8)) + x3) - ((2 * (x2 - x2 / 8 * 8)) + x3) / 8 * 8)) else ((0 : Int32)))
set_option maxHeartbeats 4000000 in
set_option maxRecDepth 100000 in
theorem c_X2_nextAtFirst (l : Launch) (D : va_G) (cI : ClassId) (x1 : Int32) (x2 : Int32) (x3 : Int32) (r : Int32) (hf : f_X2_nextAtFirst x1 x2 x3 = r) : Met l yX2_nextAtFirst (.code yX2_nextAtFirst cX2_nextAtFirst 5 (some .int) :: wsG) ({ frames := 0, cells := 0, slots := 0, locals := 0 }) (va_Pc [.int x1, .int x2, .int x3] (gw D cI [])) (vp_Si (fun x => x = r)) 0 0 (fun _ => False) := by
  refine k_ro (by decide) rfl (Nat.le_of_ble_eq_true rfl) rfl ?_
  intro p e s m below meth c ls S hret hloc hK hN hSF hP hl
  obtain ⟨hx, hb, hml, hown, hts⟩ := id S
  unfold f_X2_nextAtFirst at hf
  refine lv_iload_n hx hb dX2_nextAtFirst_0 rfl (lv_at hl 0 rfl) ?_
  refine lv_iconst (v := 1) hx hb dX2_nextAtFirst_1 (by decide) ?_
  refine lv_icmp_ne (tgt := 25) hx hb dX2_nextAtFirst_2 (by decide) (fun c_1 => ?_) (fun c_1 => ?_)
  · rw [if_neg c_1] at hf
    refine lv_iload_n hx hb dX2_nextAtFirst_25 rfl (lv_at hl 0 rfl) ?_
    refine lv_iconst (v := 2) hx hb dX2_nextAtFirst_26 (by decide) ?_
    refine lv_icmp_ne (tgt := 60) hx hb dX2_nextAtFirst_27 (by decide) (fun c_2 => ?_) (fun c_2 => ?_)
    · rw [if_neg c_2] at hf
      refine lv_iconst (v := 0) hx hb dX2_nextAtFirst_60 (by decide) ?_
      exact k_reti hx hb hret hloc hf dX2_nextAtFirst_61
    · rw [if_pos c_2] at hf
      refine lv_iload_n hx hb dX2_nextAtFirst_30 rfl (lv_at hl 1 rfl) ?_
      refine lv_bipush (v := 8) hx hb dX2_nextAtFirst_31 (by decide) ?_
      refine lv_idiv hx hb dX2_nextAtFirst_33 (by decide) ?_
      refine lv_iconst (v := 1) hx hb dX2_nextAtFirst_34 (by decide) ?_
      refine lv_iadd hx hb dX2_nextAtFirst_35 ?_
      refine lv_iconst (v := 4) hx hb dX2_nextAtFirst_36 (by decide) ?_
      refine lv_irem hx hb dX2_nextAtFirst_37 (by decide) ?_
      refine lv_istore_n (lv' := [(3, .int (((x2 / 8) + 1) - ((x2 / 8) + 1) / 4 * 4)), (0, .int x1), (1, .int x2), (2, .int x3)]) hx hb dX2_nextAtFirst_38 rfl hl (by decide) rfl (fun ls hl => ?_)
      refine lv_iconst (v := 2) hx hb dX2_nextAtFirst_39 (by decide) ?_
      refine lv_iload_n hx hb dX2_nextAtFirst_40 rfl (lv_at hl 2 rfl) ?_
      refine lv_bipush (v := 8) hx hb dX2_nextAtFirst_41 (by decide) ?_
      refine lv_irem hx hb dX2_nextAtFirst_43 (by decide) ?_
      refine lv_imul hx hb dX2_nextAtFirst_44 ?_
      refine lv_iload_n hx hb dX2_nextAtFirst_45 rfl (lv_at hl 3 rfl) ?_
      refine lv_iadd hx hb dX2_nextAtFirst_46 ?_
      refine lv_bipush (v := 8) hx hb dX2_nextAtFirst_47 (by decide) ?_
      refine lv_irem hx hb dX2_nextAtFirst_49 (by decide) ?_
      refine lv_istore (lv' := [(4, .int (((2 * (x2 - x2 / 8 * 8)) + x3) - ((2 * (x2 - x2 / 8 * 8)) + x3) / 8 * 8)), (3, .int (((x2 / 8) + 1) - ((x2 / 8) + 1) / 4 * 4)), (0, .int x1), (1, .int x2), (2, .int x3)]) hx hb dX2_nextAtFirst_50 hl (by decide) rfl (fun ls hl => ?_)
      refine lv_bipush (v := 8) hx hb dX2_nextAtFirst_52 (by decide) ?_
      refine lv_iload_n hx hb dX2_nextAtFirst_54 rfl (lv_at hl 1 rfl) ?_
      refine lv_imul hx hb dX2_nextAtFirst_55 ?_
      refine lv_iload hx hb dX2_nextAtFirst_56 (lv_at hl 0 rfl) ?_
      refine lv_iadd hx hb dX2_nextAtFirst_58 ?_
      exact k_reti hx hb hret hloc hf dX2_nextAtFirst_59
  · rw [if_pos c_1] at hf
    refine lv_iconst (v := 2) hx hb dX2_nextAtFirst_5 (by decide) ?_
    refine lv_iload_n hx hb dX2_nextAtFirst_6 rfl (lv_at hl 1 rfl) ?_
    refine lv_imul hx hb dX2_nextAtFirst_7 ?_
    refine lv_iconst (v := 1) hx hb dX2_nextAtFirst_8 (by decide) ?_
    refine lv_iadd hx hb dX2_nextAtFirst_9 ?_
    refine lv_iload_n hx hb dX2_nextAtFirst_10 rfl (lv_at hl 2 rfl) ?_
    refine lv_iadd hx hb dX2_nextAtFirst_11 ?_
    refine lv_istore_n (lv' := [(3, .int (((2 * x2) + 1) + x3)), (0, .int x1), (1, .int x2), (2, .int x3)]) hx hb dX2_nextAtFirst_12 rfl hl (by decide) rfl (fun ls hl => ?_)
    refine lv_iload_n hx hb dX2_nextAtFirst_13 rfl (lv_at hl 0 rfl) ?_
    refine lv_bipush (v := 15) hx hb dX2_nextAtFirst_14 (by decide) ?_
    refine lv_icmp_ge (tgt := 23) hx hb dX2_nextAtFirst_16 (by decide) (fun c_3 => ?_) (fun c_3 => ?_)
    · rw [if_pos c_3] at hf
      refine lv_iconst (v := 0) hx hb dX2_nextAtFirst_23 (by decide) ?_
      exact k_reti hx hb hret hloc hf dX2_nextAtFirst_24
    · rw [if_neg c_3] at hf
      refine lv_iload_n hx hb dX2_nextAtFirst_19 rfl (lv_at hl 0 rfl) ?_
      refine lv_goto (tgt := 24) hx hb dX2_nextAtFirst_20 (by decide) ?_
      exact k_reti hx hb hret hloc hf dX2_nextAtFirst_24
