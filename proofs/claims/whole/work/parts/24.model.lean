theorem dX9_bit_0 : decode cX9_bit 0 = .ok (.iload_n 1, 1) := by decide +kernel
theorem dX9_bit_1 : decode cX9_bit 1 = .ok (.i2l, 1) := by decide +kernel
theorem dX9_bit_2 : decode cX9_bit 2 = .ok (.lconst 0, 1) := by decide +kernel
theorem dX9_bit_3 : decode cX9_bit 3 = .ok (.lconst 1, 1) := by decide +kernel
theorem dX9_bit_4 : decode cX9_bit 4 = .ok (.invokestatic 46, 3) := by decide +kernel
theorem dX9_bit_7 : decode cX9_bit 7 = .ok (.ifCond .ne 5, 3) := by decide +kernel
theorem dX9_bit_10 : decode cX9_bit 10 = .ok (.iconst (-1), 1) := by decide +kernel
theorem dX9_bit_11 : decode cX9_bit 11 = .ok (.ireturn, 1) := by decide +kernel
theorem dX9_bit_12 : decode cX9_bit 12 = .ok (.aload_n 0, 1) := by decide +kernel
theorem dX9_bit_13 : decode cX9_bit 13 = .ok (.iconst 0, 1) := by decide +kernel
theorem dX9_bit_14 : decode cX9_bit 14 = .ok (.iload_n 1, 1) := by decide +kernel
theorem dX9_bit_15 : decode cX9_bit 15 = .ok (.invokevirtual 91, 3) := by decide +kernel
theorem dX9_bit_18 : decode cX9_bit 18 = .ok (.aload_n 0, 1) := by decide +kernel
theorem dX9_bit_19 : decode cX9_bit 19 = .ok (.getfield 7, 3) := by decide +kernel
theorem dX9_bit_22 : decode cX9_bit 22 = .ok (.iconst 1, 1) := by decide +kernel
theorem dX9_bit_23 : decode cX9_bit 23 = .ok (.iaload, 1) := by decide +kernel
theorem dX9_bit_24 : decode cX9_bit 24 = .ok (.ireturn, 1) := by decide +kernel
def f_X9_bit (mm : (Nat → Int32)) (x1 : Int32) : Option (Int32 × (Nat → Int32)) := if (f_X9_in ((x1).toInt64) (0 : Int64) (1 : Int64)) = 0 then (some ((-1 : Int32), mm)) else (bi1 (f_X9_takes mm 0 x1) (fun (mm_2 : (Nat → Int32)) => if (1 : Int32) < 0 ∨ 5040 ≤ ((1 : Int32)).toNatClampNeg then none else (some (mm_2 ((1 : Int32)).toNatClampNeg, mm_2))))
set_option maxHeartbeats 4000000 in
set_option maxRecDepth 100000 in
theorem c_X9_bit (l : Launch) (D : va_G) (cI : ClassId) {sz : Nat} (q : Nat) (qm : Nat) (qi : Nat) (qp : Nat) (qo : Nat) (qg : Nat) (kept : Int32) (im : Int32) (pm : Int32) (om : Int32) (lo : Int64) (hi_ : Int64) (cde : Int64) (fr : Int32) (sp : Int32) (mm : (Nat → Int32)) (inp : (Nat → Int32)) (pk : (Nat → Int32)) (out : (Nat → Int32)) (gr : (Nat → Int32)) (x1 : Int32) (r : Int32) (o_mm : (Nat → Int32)) (hf : f_X9_bit mm x1 = some (r, o_mm)) : Met l yX9_bit (.code yX9_bit cX9_bit 2 (some .int) :: wsG) ({ frames := 2, cells := 0, slots := 0, locals := 55 }) (va_Pc [.ref q, .int x1] (gv D cI sz [(q, .inr (9, [.ref qm, .int kept, .ref qi, .int im, .ref qp, .int pm, .ref qo, .int om, .ref qg, .long lo, .long hi_, .long cde, .int fr, .int sp])), (qm, .inl (cI, 5040, .inl mm)), (qi, .inl (cI, 60, .inl inp)), (qp, .inl (cI, 2000, .inl pk)), (qo, .inl (cI, 60, .inl out)), (qg, .inl (cI, 6, .inl gr))])) (va_Qi (fun x (_ : Unit) => x = r) (gz D (va_A [(q, .inr (9, [.ref qm, .int kept, .ref qi, .int im, .ref qp, .int pm, .ref qo, .int om, .ref qg, .long lo, .long hi_, .long cde, .int fr, .int sp])), (qm, .inl (cI, 5040, .inl mm)), (qi, .inl (cI, 60, .inl inp)), (qp, .inl (cI, 2000, .inl pk)), (qo, .inl (cI, 60, .inl out)), (qg, .inl (cI, 6, .inl gr))] sz) [(q, .inr (9, [.ref qm, .int kept, .ref qi, .int im, .ref qp, .int pm, .ref qo, .int om, .ref qg, .long lo, .long hi_, .long cde, .int fr, .int sp])), (qm, .inl (cI, 5040, .inl o_mm)), (qi, .inl (cI, 60, .inl inp)), (qp, .inl (cI, 2000, .inl pk)), (qo, .inl (cI, 60, .inl out)), (qg, .inl (cI, 6, .inl gr))]) (va_A [(q, .inr (9, [.ref qm, .int kept, .ref qi, .int im, .ref qp, .int pm, .ref qo, .int om, .ref qg, .long lo, .long hi_, .long cde, .int fr, .int sp])), (qm, .inl (cI, 5040, .inl mm)), (qi, .inl (cI, 60, .inl inp)), (qp, .inl (cI, 2000, .inl pk)), (qo, .inl (cI, 60, .inl out)), (qg, .inl (cI, 6, .inl gr))] sz)) 0 0 (va_A [(q, .inr (9, [.ref qm, .int kept, .ref qi, .int im, .ref qp, .int pm, .ref qo, .int om, .ref qg, .long lo, .long hi_, .long cde, .int fr, .int sp])), (qm, .inl (cI, 5040, .inl mm)), (qi, .inl (cI, 60, .inl inp)), (qp, .inl (cI, 2000, .inl pk)), (qo, .inl (cI, 60, .inl out)), (qg, .inl (cI, 6, .inl gr))] sz) := by
  refine k_rw (y := yX9_bit) (cc := cX9_bit) (maxL := 2) (ret := (some .int)) (As := [.ref q, .int x1]) (Qc := fun A => va_Qi (fun x (_ : Unit) => x = r) (gz D A [(q, .inr (9, [.ref qm, .int kept, .ref qi, .int im, .ref qp, .int pm, .ref qo, .int om, .ref qg, .long lo, .long hi_, .long cde, .int fr, .int sp])), (qm, .inl (cI, 5040, .inl o_mm)), (qi, .inl (cI, 60, .inl inp)), (qp, .inl (cI, 2000, .inl pk)), (qo, .inl (cI, 60, .inl out)), (qg, .inl (cI, 6, .inl gr))]) A) (by decide) rfl (Nat.le_of_ble_eq_true rfl) rfl ?_
  intro p e s m below meth c ls A S hret hloc hK hN hSF hP hD hS hA hl
  obtain ⟨hx, hb, hml, hown, hts⟩ := id S
  unfold f_X9_bit at hf
  refine lv_iload_n hx hb dX9_bit_0 rfl (lv_at hl 1 rfl) ?_
  refine lv_i2l hx hb dX9_bit_1 rfl ?_
  refine lv_lconst (v := 0) hx hb dX9_bit_2 (by decide) ?_
  refine lv_lconst (v := 1) hx hb dX9_bit_3 (by decide) ?_
  refine k_roSi (As := [.long ((x1).toInt64), .long (0 : Int64), .long (1 : Int64)]) (rest := []) S (c_X9_in l D cI (x1 := (x1).toInt64) (x2 := (0 : Int64)) (x3 := (1 : Int64))  (r := (f_X9_in ((x1).toInt64) (0 : Int64) (1 : Int64))) (hf := rfl)) gs_X9_46 ok_X9_in ⟨rfl, rfl⟩ ⟨Nat.le_of_ble_eq_true rfl, Nat.le_of_ble_eq_true rfl⟩ hK hN (sfr hSF hS) (hP.sub [] rfl) rfl hl.1 rfl (Nat.le_of_ble_eq_true rfl) ⟨Nat.zero_le _, Nat.zero_le _⟩ dX9_bit_4 ?_
  refine lv_if_ne (tgt := 12) hx hb dX9_bit_7 (by decide) (fun c_1 => ?_) (fun c_1 => ?_)
  · rw [if_neg c_1] at hf
    refine lv_aload_n hx hb dX9_bit_12 rfl (lv_at hl 0 rfl) ?_
    refine lv_iconst (v := 0) hx hb dX9_bit_13 (by decide) ?_
    refine lv_iload_n hx hb dX9_bit_14 rfl (lv_at hl 1 rfl) ?_
    obtain ⟨mm_2, hc_3, hf⟩ := bd1 hf
    refine k_rwVv (As := [.int 0, .int x1]) (rest := []) (Wr := []) (W2 := [(q, .inr (9, [.ref qm, .int kept, .ref qi, .int im, .ref qp, .int pm, .ref qo, .int om, .ref qg, .long lo, .long hi_, .long cde, .int fr, .int sp])), (qm, .inl (cI, 5040, .inl mm_2)), (qi, .inl (cI, 60, .inl inp)), (qp, .inl (cI, 2000, .inl pk)), (qo, .inl (cI, 60, .inl out)), (qg, .inl (cI, 6, .inl gr))]) S (c_X9_takes l D cI (q := q) (qm := qm) (qi := qi) (qp := qp) (qo := qo) (qg := qg) (kept := kept) (im := im) (pm := pm) (om := om) (lo := lo) (hi_ := hi_) (cde := cde) (fr := fr) (sp := sp) (mm := mm) (inp := inp) (pk := pk) (out := out) (gr := gr) (x1 := 0) (x2 := x1)  (o_mm := mm_2) (hf := hc_3)) gs_X9_91 ok_X9_takes ⟨rfl, rfl⟩ ⟨Nat.le_of_ble_eq_true rfl, Nat.le_of_ble_eq_true rfl⟩ hK hN hSF hP hD hS hA [0, 1, 2, 3, 4, 5] [] [0, 1, 2, 3, 4, 5] (by decide) rfl rfl (by decide) (by decide) rfl (by decide) rfl rfl rfl hl.1 rfl (Nat.le_of_ble_eq_true rfl) ⟨Nat.zero_le _, Nat.zero_le _⟩ dX9_bit_15 (fun H locs hP hD hS => ?_)
    refine lv_aload_n hx hb dX9_bit_18 rfl (lv_at hl 0 rfl) ?_
    refine va_get (D := D) (ci := 9) (v := .ref qm) (C := RX9) (T := TX9) (N := 14) hx hb hts inGX9 hown hK hP 0 rfl rfl 0 (by decide) (hts _ fl_X9_7) (fun _ h9 => h9) rfl dX9_bit_19 ?_
    refine lv_iconst (v := 1) hx hb dX9_bit_22 (by decide) ?_
    have b_4 : ¬ ((1 : Int32) < 0 ∨ 5040 ≤ ((1 : Int32)).toNatClampNeg) := fun q => by rw [if_pos q] at hf; cases hf
    rw [if_neg b_4] at hf
    refine va_iald hx hb hK hP 1 0 rfl rfl b_4 dX9_bit_23 ?_
    obtain ⟨e_0, e_1⟩ := Prod.mk.inj (Option.some.inj hf)
    subst e_0
    subst e_1
    exact k_wreti hx hb hret hloc rfl hP hD hS dX9_bit_24
  · rw [if_pos c_1] at hf
    refine lv_iconst (v := (-1)) hx hb dX9_bit_10 (by decide) ?_
    obtain ⟨e_0, e_1⟩ := Prod.mk.inj (Option.some.inj hf)
    subst e_0
    subst e_1
    exact k_wreti hx hb hret hloc rfl hP hD hS dX9_bit_11
theorem dX9_take_0 : decode cX9_take 0 = .ok (.iload_n 1, 1) := by decide +kernel
theorem dX9_take_1 : decode cX9_take 1 = .ok (.i2l, 1) := by decide +kernel
theorem dX9_take_2 : decode cX9_take 2 = .ok (.lconst 0, 1) := by decide +kernel
theorem dX9_take_3 : decode cX9_take 3 = .ok (.ldc2_w 56, 3) := by decide +kernel
theorem dX9_take_6 : decode cX9_take 6 = .ok (.invokestatic 46, 3) := by decide +kernel
theorem dX9_take_9 : decode cX9_take 9 = .ok (.ifCond .ne 5, 3) := by decide +kernel
theorem dX9_take_12 : decode cX9_take 12 = .ok (.iconst (-1), 1) := by decide +kernel
theorem dX9_take_13 : decode cX9_take 13 = .ok (.ireturn, 1) := by decide +kernel
theorem dX9_take_14 : decode cX9_take 14 = .ok (.iconst 0, 1) := by decide +kernel
theorem dX9_take_15 : decode cX9_take 15 = .ok (.istore_n 2, 1) := by decide +kernel
theorem dX9_take_16 : decode cX9_take 16 = .ok (.iload_n 2, 1) := by decide +kernel
theorem dX9_take_17 : decode cX9_take 17 = .ok (.bipush 8, 2) := by decide +kernel
theorem dX9_take_19 : decode cX9_take 19 = .ok (.if_icmp .ge 23, 3) := by decide +kernel
theorem dX9_take_22 : decode cX9_take 22 = .ok (.aload_n 0, 1) := by decide +kernel
theorem dX9_take_23 : decode cX9_take 23 = .ok (.iconst 0, 1) := by decide +kernel
theorem dX9_take_24 : decode cX9_take 24 = .ok (.iload_n 1, 1) := by decide +kernel
theorem dX9_take_25 : decode cX9_take 25 = .ok (.aload_n 0, 1) := by decide +kernel
theorem dX9_take_26 : decode cX9_take 26 = .ok (.iload_n 2, 1) := by decide +kernel
theorem dX9_take_27 : decode cX9_take 27 = .ok (.invokevirtual 98, 3) := by decide +kernel
theorem dX9_take_30 : decode cX9_take 30 = .ok (.ishr, 1) := by decide +kernel
theorem dX9_take_31 : decode cX9_take 31 = .ok (.iconst 1, 1) := by decide +kernel
theorem dX9_take_32 : decode cX9_take 32 = .ok (.iand, 1) := by decide +kernel
theorem dX9_take_33 : decode cX9_take 33 = .ok (.invokevirtual 91, 3) := by decide +kernel
theorem dX9_take_36 : decode cX9_take 36 = .ok (.iinc 2 1, 3) := by decide +kernel
theorem dX9_take_39 : decode cX9_take 39 = .ok (.goto (-23), 3) := by decide +kernel
theorem dX9_take_42 : decode cX9_take 42 = .ok (.aload_n 0, 1) := by decide +kernel
theorem dX9_take_43 : decode cX9_take 43 = .ok (.getfield 7, 3) := by decide +kernel
theorem dX9_take_46 : decode cX9_take 46 = .ok (.iconst 1, 1) := by decide +kernel
theorem dX9_take_47 : decode cX9_take 47 = .ok (.iaload, 1) := by decide +kernel
theorem dX9_take_48 : decode cX9_take 48 = .ok (.ireturn, 1) := by decide +kernel
def st_X9_take_L16 (v1 : Int32) (v2 : Int32) (mm : (Nat → Int32)) : Option ((Int32 × (Nat → Int32)) ⊕ (Int32 × (Nat → Int32))) := if 8 ≤ v2 then (some (Sum.inr (v2, mm))) else (bi1 (f_X9_place mm v2) (fun (r_3 : Int32) => bi1 (f_X9_takes mm 0 ((v1 >>> (r_3 &&& 31)) &&& 1)) (fun (mm_5 : (Nat → Int32)) => some (Sum.inl (v2 + 1, mm_5)))))
def f_X9_take_L16 (v1 : Int32) (k : Nat) (v2 : Int32) (mm : (Nat → Int32)) : Option (Int32 × (Nat → Int32)) := lpN (fun z => st_X9_take_L16 v1 z.1 z.2) k (v2, mm)
set_option maxHeartbeats 4000000 in
set_option maxRecDepth 100000 in
theorem L_X9_take_16 {p : Program} {l : Launch} {e : Env} {s : State} {m : MethodId} {args : Array Value} {below : List Frame} {meth : Method} {c : Code} {Q : State → Prop} {D : va_G} {cI : ClassId} {q : Nat} {qm : Nat} {qi : Nat} {qp : Nat} {qo : Nat} {qg : Nat} {v1 : Int32} {kept : Int32} {im : Int32} {pm : Int32} {om : Int32} {lo : Int64} {hi_ : Int64} {cde : Int64} {fr : Int32} {sp : Int32} {inp : (Nat → Int32)} {pk : (Nat → Int32)} {out : (Nat → Int32)} {gr : (Nat → Int32)} {A : Nat → Prop} (S : CallFix p m c cX9_take 3 s args wsG RX9) (hK : va_K D vwCl [(cI, .int)] s) (hN : nw s) (hSF : sf A s s.heap) (hA : ∀ q, s.heap.size ≤ q → A q) : ∀ (k : Nat) (v2 : Int32) (mm : (Nat → Int32)) (o_v2 : Int32) (o_mm : (Nat → Int32)), f_X9_take_L16 v1 k v2 mm = some (o_v2, o_mm) → ∀ (H : Heap) (locs : List Loc) (ls : Array Slot), va_P D vwCl [(q, .inr (9, [.ref qm, .int kept, .ref qi, .int im, .ref qp, .int pm, .ref qo, .int om, .ref qg, .long lo, .long hi_, .long cde, .int fr, .int sp])), (qm, .inl (cI, 5040, .inl mm)), (qi, .inl (cI, 60, .inl inp)), (qp, .inl (cI, 2000, .inl pk)), (qo, .inl (cI, 60, .inl out)), (qg, .inl (cI, 6, .inl gr))] H → va_D A [(q, .inr (9, [.ref qm, .int kept, .ref qi, .int im, .ref qp, .int pm, .ref qo, .int om, .ref qg, .long lo, .long hi_, .long cde, .int fr, .int sp])), (qm, .inl (cI, 5040, .inl mm)), (qi, .inl (cI, 60, .inl inp)), (qp, .inl (cI, 2000, .inl pk)), (qo, .inl (cI, 60, .inl out)), (qg, .inl (cI, 6, .inl gr))] → va_S A s.heap H locs → lv_has ls 3 [(0, .ref q), (1, .int v1), (2, .int v2)] → (∀ (H : Heap) (locs : List Loc) (ls : Array Slot), va_P D vwCl [(q, .inr (9, [.ref qm, .int kept, .ref qi, .int im, .ref qp, .int pm, .ref qo, .int om, .ref qg, .long lo, .long hi_, .long cde, .int fr, .int sp])), (qm, .inl (cI, 5040, .inl o_mm)), (qi, .inl (cI, 60, .inl inp)), (qp, .inl (cI, 2000, .inl pk)), (qo, .inl (cI, 60, .inl out)), (qg, .inl (cI, 6, .inl gr))] H → va_D A [(q, .inr (9, [.ref qm, .int kept, .ref qi, .int im, .ref qp, .int pm, .ref qo, .int om, .ref qg, .long lo, .long hi_, .long cde, .int fr, .int sp])), (qm, .inl (cI, 5040, .inl o_mm)), (qi, .inl (cI, 60, .inl inp)), (qp, .inl (cI, 2000, .inl pk)), (qo, .inl (cI, 60, .inl out)), (qg, .inl (cI, 6, .inl gr))] → va_S A s.heap H locs → lv_has ls 3 [(0, .ref q), (1, .int v1), (2, .int o_v2)] → W p l e (headSpec (.code yX9_take cX9_take 3 (some .int) :: wsG) { frames := 2, cells := 0, slots := 0, locals := 55 }).room s m args below meth c H locs 0 0 Q (F0 m 42 ls [])) → W p l e (headSpec (.code yX9_take cX9_take 3 (some .int) :: wsG) { frames := 2, cells := 0, slots := 0, locals := 55 }).room s m args below meth c H locs 0 0 Q (F0 m 16 ls []) := by
  obtain ⟨hx, hb, hml, hown, hts⟩ := id S
  intro k
  induction k with
  | zero =>
    intro v2 mm o_v2 o_mm hf
    cases hf
  | succ k ih =>
    intro v2 mm o_v2 o_mm hf H locs ls hP hD hS hl kk
    obtain ⟨z, hf, hz⟩ := lp_inv hf
    have hf : st_X9_take_L16 v1 v2 mm = some z := hf
    unfold st_X9_take_L16 at hf
    refine lv_iload_n hx hb dX9_take_16 rfl (lv_at hl 2 rfl) ?_
    refine lv_bipush (v := 8) hx hb dX9_take_17 (by decide) ?_
    refine lv_icmp_ge (tgt := 42) hx hb dX9_take_19 (by decide) (fun c_2 => ?_) (fun c_2 => ?_)
    · rw [if_pos c_2] at hf
      have hf := Option.some.inj hf
      subst hf
      obtain ⟨e_0, e_1⟩ := Prod.mk.inj (lpC_r hz)
      subst e_0
      subst e_1
      exact kk H locs ls hP hD hS (lv_sub hl [0, 1, 2] rfl)
    · rw [if_neg c_2] at hf
      refine lv_aload_n hx hb dX9_take_22 rfl (lv_at hl 0 rfl) ?_
      refine lv_iconst (v := 0) hx hb dX9_take_23 (by decide) ?_
      refine lv_iload_n hx hb dX9_take_24 rfl (lv_at hl 1 rfl) ?_
      refine lv_aload_n hx hb dX9_take_25 rfl (lv_at hl 0 rfl) ?_
      refine lv_iload_n hx hb dX9_take_26 rfl (lv_at hl 2 rfl) ?_
      obtain ⟨r_3, hc_4, hf⟩ := bd1 hf
      refine k_roVi (As := [.int v2]) (rest := [.int v1, .int 0, .ref q]) S (c_X9_place l D cI (q := q) (qm := qm) (qi := qi) (qp := qp) (qo := qo) (qg := qg) (kept := kept) (im := im) (pm := pm) (om := om) (lo := lo) (hi_ := hi_) (cde := cde) (fr := fr) (sp := sp) (mm := mm) (inp := inp) (pk := pk) (out := out) (gr := gr) (x1 := v2)  (r := r_3) (hf := hc_4)) gs_X9_98 ok_X9_place ⟨rfl, rfl⟩ ⟨Nat.le_of_ble_eq_true rfl, Nat.le_of_ble_eq_true rfl⟩ hK hN (sfr hSF hS) hP rfl rfl rfl hl.1 rfl (Nat.le_of_ble_eq_true rfl) ⟨Nat.zero_le _, Nat.zero_le _⟩ dX9_take_27 ?_
      refine lv_ishr hx hb dX9_take_30 ?_
      refine lv_iconst (v := 1) hx hb dX9_take_31 (by decide) ?_
      refine lv_iand hx hb dX9_take_32 ?_
      obtain ⟨mm_5, hc_6, hf⟩ := bd1 hf
      refine k_rwVv (As := [.int 0, .int ((v1 >>> (r_3 &&& 31)) &&& 1)]) (rest := []) (Wr := []) (W2 := [(q, .inr (9, [.ref qm, .int kept, .ref qi, .int im, .ref qp, .int pm, .ref qo, .int om, .ref qg, .long lo, .long hi_, .long cde, .int fr, .int sp])), (qm, .inl (cI, 5040, .inl mm_5)), (qi, .inl (cI, 60, .inl inp)), (qp, .inl (cI, 2000, .inl pk)), (qo, .inl (cI, 60, .inl out)), (qg, .inl (cI, 6, .inl gr))]) S (c_X9_takes l D cI (q := q) (qm := qm) (qi := qi) (qp := qp) (qo := qo) (qg := qg) (kept := kept) (im := im) (pm := pm) (om := om) (lo := lo) (hi_ := hi_) (cde := cde) (fr := fr) (sp := sp) (mm := mm) (inp := inp) (pk := pk) (out := out) (gr := gr) (x1 := 0) (x2 := (v1 >>> (r_3 &&& 31)) &&& 1)  (o_mm := mm_5) (hf := hc_6)) gs_X9_91 ok_X9_takes ⟨rfl, rfl⟩ ⟨Nat.le_of_ble_eq_true rfl, Nat.le_of_ble_eq_true rfl⟩ hK hN hSF hP hD hS hA [0, 1, 2, 3, 4, 5] [] [0, 1, 2, 3, 4, 5] (by decide) rfl rfl (by decide) (by decide) rfl (by decide) rfl rfl rfl hl.1 rfl (Nat.le_of_ble_eq_true rfl) ⟨Nat.zero_le _, Nat.zero_le _⟩ dX9_take_33 (fun H locs hP hD hS => ?_)
      refine lv_iinc (v := v2 + 1) (lv' := [(2, .int (v2 + 1)), (0, .ref q), (1, .int v1)]) hx hb dX9_take_36 hl (k := 2) rfl rfl (by decide) rfl (fun ls hl => ?_)
      refine lv_goto (tgt := 16) hx hb dX9_take_39 (by decide) ?_
      have hf := Option.some.inj hf
      subst hf
      exact ih (v2 + 1) mm_5 _ _ hz H locs ls hP hD hS (lv_sub hl [1, 2, 0] rfl) kk
def f_X9_take (mm : (Nat → Int32)) (x1 : Int32) : Option (Int32 × (Nat → Int32)) := if (f_X9_in ((x1).toInt64) (0 : Int64) (255 : Int64)) = 0 then (some ((-1 : Int32), mm)) else (bi2 (f_X9_take_L16 x1 4096 0 mm) (fun (v2_7 : Int32) (mm_8 : (Nat → Int32)) => if (1 : Int32) < 0 ∨ 5040 ≤ ((1 : Int32)).toNatClampNeg then none else (some (mm_8 ((1 : Int32)).toNatClampNeg, mm_8))))
set_option maxHeartbeats 4000000 in
set_option maxRecDepth 100000 in
theorem c_X9_take (l : Launch) (D : va_G) (cI : ClassId) {sz : Nat} (q : Nat) (qm : Nat) (qi : Nat) (qp : Nat) (qo : Nat) (qg : Nat) (kept : Int32) (im : Int32) (pm : Int32) (om : Int32) (lo : Int64) (hi_ : Int64) (cde : Int64) (fr : Int32) (sp : Int32) (mm : (Nat → Int32)) (inp : (Nat → Int32)) (pk : (Nat → Int32)) (out : (Nat → Int32)) (gr : (Nat → Int32)) (x1 : Int32) (r : Int32) (o_mm : (Nat → Int32)) (hf : f_X9_take mm x1 = some (r, o_mm)) : Met l yX9_take (.code yX9_take cX9_take 3 (some .int) :: wsG) ({ frames := 2, cells := 0, slots := 0, locals := 55 }) (va_Pc [.ref q, .int x1] (gv D cI sz [(q, .inr (9, [.ref qm, .int kept, .ref qi, .int im, .ref qp, .int pm, .ref qo, .int om, .ref qg, .long lo, .long hi_, .long cde, .int fr, .int sp])), (qm, .inl (cI, 5040, .inl mm)), (qi, .inl (cI, 60, .inl inp)), (qp, .inl (cI, 2000, .inl pk)), (qo, .inl (cI, 60, .inl out)), (qg, .inl (cI, 6, .inl gr))])) (va_Qi (fun x (_ : Unit) => x = r) (gz D (va_A [(q, .inr (9, [.ref qm, .int kept, .ref qi, .int im, .ref qp, .int pm, .ref qo, .int om, .ref qg, .long lo, .long hi_, .long cde, .int fr, .int sp])), (qm, .inl (cI, 5040, .inl mm)), (qi, .inl (cI, 60, .inl inp)), (qp, .inl (cI, 2000, .inl pk)), (qo, .inl (cI, 60, .inl out)), (qg, .inl (cI, 6, .inl gr))] sz) [(q, .inr (9, [.ref qm, .int kept, .ref qi, .int im, .ref qp, .int pm, .ref qo, .int om, .ref qg, .long lo, .long hi_, .long cde, .int fr, .int sp])), (qm, .inl (cI, 5040, .inl o_mm)), (qi, .inl (cI, 60, .inl inp)), (qp, .inl (cI, 2000, .inl pk)), (qo, .inl (cI, 60, .inl out)), (qg, .inl (cI, 6, .inl gr))]) (va_A [(q, .inr (9, [.ref qm, .int kept, .ref qi, .int im, .ref qp, .int pm, .ref qo, .int om, .ref qg, .long lo, .long hi_, .long cde, .int fr, .int sp])), (qm, .inl (cI, 5040, .inl mm)), (qi, .inl (cI, 60, .inl inp)), (qp, .inl (cI, 2000, .inl pk)), (qo, .inl (cI, 60, .inl out)), (qg, .inl (cI, 6, .inl gr))] sz)) 0 0 (va_A [(q, .inr (9, [.ref qm, .int kept, .ref qi, .int im, .ref qp, .int pm, .ref qo, .int om, .ref qg, .long lo, .long hi_, .long cde, .int fr, .int sp])), (qm, .inl (cI, 5040, .inl mm)), (qi, .inl (cI, 60, .inl inp)), (qp, .inl (cI, 2000, .inl pk)), (qo, .inl (cI, 60, .inl out)), (qg, .inl (cI, 6, .inl gr))] sz) := by
  refine k_rw (y := yX9_take) (cc := cX9_take) (maxL := 3) (ret := (some .int)) (As := [.ref q, .int x1]) (Qc := fun A => va_Qi (fun x (_ : Unit) => x = r) (gz D A [(q, .inr (9, [.ref qm, .int kept, .ref qi, .int im, .ref qp, .int pm, .ref qo, .int om, .ref qg, .long lo, .long hi_, .long cde, .int fr, .int sp])), (qm, .inl (cI, 5040, .inl o_mm)), (qi, .inl (cI, 60, .inl inp)), (qp, .inl (cI, 2000, .inl pk)), (qo, .inl (cI, 60, .inl out)), (qg, .inl (cI, 6, .inl gr))]) A) (by decide) rfl (Nat.le_of_ble_eq_true rfl) rfl ?_
  intro p e s m below meth c ls A S hret hloc hK hN hSF hP hD hS hA hl
  obtain ⟨hx, hb, hml, hown, hts⟩ := id S
  unfold f_X9_take at hf
  refine lv_iload_n hx hb dX9_take_0 rfl (lv_at hl 1 rfl) ?_
  refine lv_i2l hx hb dX9_take_1 rfl ?_
  refine lv_lconst (v := 0) hx hb dX9_take_2 (by decide) ?_
  refine lv_ldc2 (v := (255 : Int64)) hx hb hown (hts _ ck_X9_56) dX9_take_3 ?_
  refine k_roSi (As := [.long ((x1).toInt64), .long (0 : Int64), .long (255 : Int64)]) (rest := []) S (c_X9_in l D cI (x1 := (x1).toInt64) (x2 := (0 : Int64)) (x3 := (255 : Int64))  (r := (f_X9_in ((x1).toInt64) (0 : Int64) (255 : Int64))) (hf := rfl)) gs_X9_46 ok_X9_in ⟨rfl, rfl⟩ ⟨Nat.le_of_ble_eq_true rfl, Nat.le_of_ble_eq_true rfl⟩ hK hN (sfr hSF hS) (hP.sub [] rfl) rfl hl.1 rfl (Nat.le_of_ble_eq_true rfl) ⟨Nat.zero_le _, Nat.zero_le _⟩ dX9_take_6 ?_
  refine lv_if_ne (tgt := 14) hx hb dX9_take_9 (by decide) (fun c_1 => ?_) (fun c_1 => ?_)
  · rw [if_neg c_1] at hf
    refine lv_iconst (v := 0) hx hb dX9_take_14 (by decide) ?_
    refine lv_istore_n (lv' := [(2, .int 0), (0, .ref q), (1, .int x1)]) hx hb dX9_take_15 rfl hl (by decide) rfl (fun ls hl => ?_)
    obtain ⟨v2_7, mm_8, hc_9, hf⟩ := bd2 hf
    refine L_X9_take_16 S hK hN hSF hA _ 0 mm v2_7 mm_8 hc_9 _ _ _ hP hD hS (lv_sub hl [1, 2, 0] rfl) (fun H locs ls hP hD hS hl => ?_)
    refine lv_aload_n hx hb dX9_take_42 rfl (lv_at hl 0 rfl) ?_
    refine va_get (D := D) (ci := 9) (v := .ref qm) (C := RX9) (T := TX9) (N := 14) hx hb hts inGX9 hown hK hP 0 rfl rfl 0 (by decide) (hts _ fl_X9_7) (fun _ h9 => h9) rfl dX9_take_43 ?_
    refine lv_iconst (v := 1) hx hb dX9_take_46 (by decide) ?_
    have b_10 : ¬ ((1 : Int32) < 0 ∨ 5040 ≤ ((1 : Int32)).toNatClampNeg) := fun q => by rw [if_pos q] at hf; cases hf
    rw [if_neg b_10] at hf
    refine va_iald hx hb hK hP 1 0 rfl rfl b_10 dX9_take_47 ?_
    obtain ⟨e_0, e_1⟩ := Prod.mk.inj (Option.some.inj hf)
    subst e_0
    subst e_1
    exact k_wreti hx hb hret hloc rfl hP hD hS dX9_take_48
  · rw [if_pos c_1] at hf
    refine lv_iconst (v := (-1)) hx hb dX9_take_12 (by decide) ?_
    obtain ⟨e_0, e_1⟩ := Prod.mk.inj (Option.some.inj hf)
    subst e_0
    subst e_1
    exact k_wreti hx hb hret hloc rfl hP hD hS dX9_take_13
theorem dX9_flow_0 : decode cX9_flow 0 = .ok (.iconst 0, 1) := by decide +kernel
theorem dX9_flow_1 : decode cX9_flow 1 = .ok (.istore_n 2, 1) := by decide +kernel
theorem dX9_flow_2 : decode cX9_flow 2 = .ok (.iconst 0, 1) := by decide +kernel
theorem dX9_flow_3 : decode cX9_flow 3 = .ok (.istore_n 3, 1) := by decide +kernel
theorem dX9_flow_4 : decode cX9_flow 4 = .ok (.iload_n 3, 1) := by decide +kernel
theorem dX9_flow_5 : decode cX9_flow 5 = .ok (.iconst 2, 1) := by decide +kernel
theorem dX9_flow_6 : decode cX9_flow 6 = .ok (.aload_n 0, 1) := by decide +kernel
theorem dX9_flow_7 : decode cX9_flow 7 = .ok (.getfield 7, 3) := by decide +kernel
theorem dX9_flow_10 : decode cX9_flow 10 = .ok (.iconst 0, 1) := by decide +kernel
theorem dX9_flow_11 : decode cX9_flow 11 = .ok (.iaload, 1) := by decide +kernel
theorem dX9_flow_12 : decode cX9_flow 12 = .ok (.imul, 1) := by decide +kernel
theorem dX9_flow_13 : decode cX9_flow 13 = .ok (.if_icmp .ge 39, 3) := by decide +kernel
theorem dX9_flow_16 : decode cX9_flow 16 = .ok (.iload_n 2, 1) := by decide +kernel
theorem dX9_flow_17 : decode cX9_flow 17 = .ok (.aload_n 0, 1) := by decide +kernel
theorem dX9_flow_18 : decode cX9_flow 18 = .ok (.getfield 7, 3) := by decide +kernel
theorem dX9_flow_21 : decode cX9_flow 21 = .ok (.sipush 510, 3) := by decide +kernel
theorem dX9_flow_24 : decode cX9_flow 24 = .ok (.iload_n 3, 1) := by decide +kernel
theorem dX9_flow_25 : decode cX9_flow 25 = .ok (.iadd, 1) := by decide +kernel
theorem dX9_flow_26 : decode cX9_flow 26 = .ok (.iaload, 1) := by decide +kernel
theorem dX9_flow_27 : decode cX9_flow 27 = .ok (.iload_n 1, 1) := by decide +kernel
theorem dX9_flow_28 : decode cX9_flow 28 = .ok (.if_icmp .ne 15, 3) := by decide +kernel
theorem dX9_flow_31 : decode cX9_flow 31 = .ok (.aload_n 0, 1) := by decide +kernel
theorem dX9_flow_32 : decode cX9_flow 32 = .ok (.getfield 7, 3) := by decide +kernel
theorem dX9_flow_35 : decode cX9_flow 35 = .ok (.bipush 10, 2) := by decide +kernel
theorem dX9_flow_37 : decode cX9_flow 37 = .ok (.iload_n 3, 1) := by decide +kernel
theorem dX9_flow_38 : decode cX9_flow 38 = .ok (.iadd, 1) := by decide +kernel
theorem dX9_flow_39 : decode cX9_flow 39 = .ok (.iaload, 1) := by decide +kernel
theorem dX9_flow_40 : decode cX9_flow 40 = .ok (.goto 4, 3) := by decide +kernel
theorem dX9_flow_43 : decode cX9_flow 43 = .ok (.iconst 0, 1) := by decide +kernel
theorem dX9_flow_44 : decode cX9_flow 44 = .ok (.iadd, 1) := by decide +kernel
theorem dX9_flow_45 : decode cX9_flow 45 = .ok (.istore_n 2, 1) := by decide +kernel
theorem dX9_flow_46 : decode cX9_flow 46 = .ok (.iinc 3 1, 3) := by decide +kernel
theorem dX9_flow_49 : decode cX9_flow 49 = .ok (.goto (-45), 3) := by decide +kernel
theorem dX9_flow_52 : decode cX9_flow 52 = .ok (.iload_n 2, 1) := by decide +kernel
theorem dX9_flow_53 : decode cX9_flow 53 = .ok (.ireturn, 1) := by decide +kernel
def st_X9_flow_L4 (v1 : Int32) (mm : (Nat → Int32)) (v2 : Int32) (v3 : Int32) : Option ((Int32 × Int32) ⊕ (Int32 × Int32)) := if (0 : Int32) < 0 ∨ 5040 ≤ ((0 : Int32)).toNatClampNeg then none else (if (2 * (mm ((0 : Int32)).toNatClampNeg)) ≤ v3 then (some (Sum.inr (v2, v3))) else (if (510 + v3) < 0 ∨ 5040 ≤ (510 + v3).toNatClampNeg then none else (if (mm (510 + v3).toNatClampNeg) = v1 then (if (10 + v3) < 0 ∨ 5040 ≤ (10 + v3).toNatClampNeg then none else (some (Sum.inl (v2 + (mm (10 + v3).toNatClampNeg), v3 + 1)))) else (some (Sum.inl (v2 + 0, v3 + 1))))))
def f_X9_flow_L4 (v1 : Int32) (mm : (Nat → Int32)) (k : Nat) (v2 : Int32) (v3 : Int32) : Option (Int32 × Int32) := lpN (fun z => st_X9_flow_L4 v1 mm z.1 z.2) k (v2, v3)
set_option maxHeartbeats 4000000 in
set_option maxRecDepth 100000 in
theorem L_X9_flow_4 {p : Program} {l : Launch} {e : Env} {s : State} {m : MethodId} {args : Array Value} {below : List Frame} {meth : Method} {c : Code} {Q : State → Prop} {D : va_G} {cI : ClassId} {q : Nat} {qm : Nat} {qi : Nat} {qp : Nat} {qo : Nat} {qg : Nat} {v1 : Int32} {kept : Int32} {im : Int32} {pm : Int32} {om : Int32} {lo : Int64} {hi_ : Int64} {cde : Int64} {fr : Int32} {sp : Int32} {mm : (Nat → Int32)} {inp : (Nat → Int32)} {pk : (Nat → Int32)} {out : (Nat → Int32)} {gr : (Nat → Int32)} (S : CallFix p m c cX9_flow 4 s args wsG RX9) (hK : va_K D vwCl [(cI, .int)] s) (hN : nw s) (hSF : sf (fun _ => False) s s.heap) : ∀ (k : Nat) (v2 : Int32) (v3 : Int32) (o_v2 : Int32) (o_v3 : Int32), f_X9_flow_L4 v1 mm k v2 v3 = some (o_v2, o_v3) → ∀ (ls : Array Slot), va_P D vwCl [(q, .inr (9, [.ref qm, .int kept, .ref qi, .int im, .ref qp, .int pm, .ref qo, .int om, .ref qg, .long lo, .long hi_, .long cde, .int fr, .int sp])), (qm, .inl (cI, 5040, .inl mm)), (qi, .inl (cI, 60, .inl inp)), (qp, .inl (cI, 2000, .inl pk)), (qo, .inl (cI, 60, .inl out)), (qg, .inl (cI, 6, .inl gr))] s.heap → lv_has ls 4 [(0, .ref q), (1, .int v1), (2, .int v2), (3, .int v3)] → (∀ (ls : Array Slot), lv_has ls 4 [(0, .ref q), (1, .int v1), (2, .int o_v2), (3, .int o_v3)] → W p l e (headSpec (.code yX9_flow cX9_flow 4 (some .int) :: wsG) { frames := 0, cells := 0, slots := 0, locals := 0 }).room s m args below meth c s.heap [] 0 0 Q (F0 m 52 ls [])) → W p l e (headSpec (.code yX9_flow cX9_flow 4 (some .int) :: wsG) { frames := 0, cells := 0, slots := 0, locals := 0 }).room s m args below meth c s.heap [] 0 0 Q (F0 m 4 ls []) := by
  obtain ⟨hx, hb, hml, hown, hts⟩ := id S
  intro k
  induction k with
  | zero =>
    intro v2 v3 o_v2 o_v3 hf
    cases hf
  | succ k ih =>
    intro v2 v3 o_v2 o_v3 hf ls hP hl kk
    obtain ⟨z, hf, hz⟩ := lp_inv hf
    have hf : st_X9_flow_L4 v1 mm v2 v3 = some z := hf
    unfold st_X9_flow_L4 at hf
    refine lv_iload_n hx hb dX9_flow_4 rfl (lv_at hl 3 rfl) ?_
    refine lv_iconst (v := 2) hx hb dX9_flow_5 (by decide) ?_
    refine lv_aload_n hx hb dX9_flow_6 rfl (lv_at hl 0 rfl) ?_
    refine va_get (D := D) (ci := 9) (v := .ref qm) (C := RX9) (T := TX9) (N := 14) hx hb hts inGX9 hown hK hP 0 rfl rfl 0 (by decide) (hts _ fl_X9_7) (fun _ h9 => h9) rfl dX9_flow_7 ?_
    refine lv_iconst (v := 0) hx hb dX9_flow_10 (by decide) ?_
    have b_1 : ¬ ((0 : Int32) < 0 ∨ 5040 ≤ ((0 : Int32)).toNatClampNeg) := fun q => by rw [if_pos q] at hf; cases hf
    rw [if_neg b_1] at hf
    refine va_iald hx hb hK hP 1 0 rfl rfl b_1 dX9_flow_11 ?_
    refine lv_imul hx hb dX9_flow_12 ?_
    refine lv_icmp_ge (tgt := 52) hx hb dX9_flow_13 (by decide) (fun c_2 => ?_) (fun c_2 => ?_)
    · rw [if_pos c_2] at hf
      have hf := Option.some.inj hf
      subst hf
      obtain ⟨e_0, e_1⟩ := Prod.mk.inj (lpC_r hz)
      subst e_0
      subst e_1
      exact kk ls (lv_sub hl [0, 1, 2, 3] rfl)
    · rw [if_neg c_2] at hf
      refine lv_iload_n hx hb dX9_flow_16 rfl (lv_at hl 2 rfl) ?_
      refine lv_aload_n hx hb dX9_flow_17 rfl (lv_at hl 0 rfl) ?_
      refine va_get (D := D) (ci := 9) (v := .ref qm) (C := RX9) (T := TX9) (N := 14) hx hb hts inGX9 hown hK hP 0 rfl rfl 0 (by decide) (hts _ fl_X9_7) (fun _ h9 => h9) rfl dX9_flow_18 ?_
      refine lv_sipush (v := 510) hx hb dX9_flow_21 (by decide) ?_
      refine lv_iload_n hx hb dX9_flow_24 rfl (lv_at hl 3 rfl) ?_
      refine lv_iadd hx hb dX9_flow_25 ?_
      have b_3 : ¬ ((510 + v3) < 0 ∨ 5040 ≤ (510 + v3).toNatClampNeg) := fun q => by rw [if_pos q] at hf; cases hf
      rw [if_neg b_3] at hf
      refine va_iald hx hb hK hP 1 0 rfl rfl b_3 dX9_flow_26 ?_
      refine lv_iload_n hx hb dX9_flow_27 rfl (lv_at hl 1 rfl) ?_
      refine lv_icmp_ne (tgt := 43) hx hb dX9_flow_28 (by decide) (fun c_4 => ?_) (fun c_4 => ?_)
      · rw [if_neg c_4] at hf
        refine lv_iconst (v := 0) hx hb dX9_flow_43 (by decide) ?_
        refine lv_iadd hx hb dX9_flow_44 ?_
        refine lv_istore_n (lv' := [(2, .int (v2 + 0)), (0, .ref q), (1, .int v1), (3, .int v3)]) hx hb dX9_flow_45 rfl hl (by decide) rfl (fun ls hl => ?_)
        refine lv_iinc (v := v3 + 1) (lv' := [(3, .int (v3 + 1)), (2, .int (v2 + 0)), (0, .ref q), (1, .int v1)]) hx hb dX9_flow_46 hl (k := 3) rfl rfl (by decide) rfl (fun ls hl => ?_)
        refine lv_goto (tgt := 4) hx hb dX9_flow_49 (by decide) ?_
        have hf := Option.some.inj hf
        subst hf
        exact ih (v2 + 0) (v3 + 1) _ _ hz ls hP (lv_sub hl [2, 3, 1, 0] rfl) kk
      · rw [if_pos c_4] at hf
        refine lv_aload_n hx hb dX9_flow_31 rfl (lv_at hl 0 rfl) ?_
        refine va_get (D := D) (ci := 9) (v := .ref qm) (C := RX9) (T := TX9) (N := 14) hx hb hts inGX9 hown hK hP 0 rfl rfl 0 (by decide) (hts _ fl_X9_7) (fun _ h9 => h9) rfl dX9_flow_32 ?_
        refine lv_bipush (v := 10) hx hb dX9_flow_35 (by decide) ?_
        refine lv_iload_n hx hb dX9_flow_37 rfl (lv_at hl 3 rfl) ?_
        refine lv_iadd hx hb dX9_flow_38 ?_
        have b_5 : ¬ ((10 + v3) < 0 ∨ 5040 ≤ (10 + v3).toNatClampNeg) := fun q => by rw [if_pos q] at hf; cases hf
        rw [if_neg b_5] at hf
        refine va_iald hx hb hK hP 1 0 rfl rfl b_5 dX9_flow_39 ?_
        refine lv_goto (tgt := 44) hx hb dX9_flow_40 (by decide) ?_
        refine lv_iadd hx hb dX9_flow_44 ?_
        refine lv_istore_n (lv' := [(2, .int (v2 + (mm (10 + v3).toNatClampNeg))), (0, .ref q), (1, .int v1), (3, .int v3)]) hx hb dX9_flow_45 rfl hl (by decide) rfl (fun ls hl => ?_)
        refine lv_iinc (v := v3 + 1) (lv' := [(3, .int (v3 + 1)), (2, .int (v2 + (mm (10 + v3).toNatClampNeg))), (0, .ref q), (1, .int v1)]) hx hb dX9_flow_46 hl (k := 3) rfl rfl (by decide) rfl (fun ls hl => ?_)
        refine lv_goto (tgt := 4) hx hb dX9_flow_49 (by decide) ?_
        have hf := Option.some.inj hf
        subst hf
        exact ih (v2 + (mm (10 + v3).toNatClampNeg)) (v3 + 1) _ _ hz ls hP (lv_sub hl [2, 3, 1, 0] rfl) kk
def f_X9_flow (mm : (Nat → Int32)) (x1 : Int32) : Option (Int32) := bi2 (f_X9_flow_L4 x1 mm 4096 0 0) (fun (v2_6 : Int32) (v3_7 : Int32) => some v2_6)
set_option maxHeartbeats 4000000 in
set_option maxRecDepth 100000 in
theorem c_X9_flow (l : Launch) (D : va_G) (cI : ClassId) (q : Nat) (qm : Nat) (qi : Nat) (qp : Nat) (qo : Nat) (qg : Nat) (kept : Int32) (im : Int32) (pm : Int32) (om : Int32) (lo : Int64) (hi_ : Int64) (cde : Int64) (fr : Int32) (sp : Int32) (mm : (Nat → Int32)) (inp : (Nat → Int32)) (pk : (Nat → Int32)) (out : (Nat → Int32)) (gr : (Nat → Int32)) (x1 : Int32) (r : Int32) (hf : f_X9_flow mm x1 = some r) : Met l yX9_flow (.code yX9_flow cX9_flow 4 (some .int) :: wsG) ({ frames := 0, cells := 0, slots := 0, locals := 0 }) (va_Pc [.ref q, .int x1] (gw D cI [(q, .inr (9, [.ref qm, .int kept, .ref qi, .int im, .ref qp, .int pm, .ref qo, .int om, .ref qg, .long lo, .long hi_, .long cde, .int fr, .int sp])), (qm, .inl (cI, 5040, .inl mm)), (qi, .inl (cI, 60, .inl inp)), (qp, .inl (cI, 2000, .inl pk)), (qo, .inl (cI, 60, .inl out)), (qg, .inl (cI, 6, .inl gr))])) (vp_Si (fun x => x = r)) 0 0 (fun _ => False) := by
  refine k_ro (by decide) rfl (Nat.le_of_ble_eq_true rfl) rfl ?_
  intro p e s m below meth c ls S hret hloc hK hN hSF hP hl
  obtain ⟨hx, hb, hml, hown, hts⟩ := id S
  unfold f_X9_flow at hf
  refine lv_iconst (v := 0) hx hb dX9_flow_0 (by decide) ?_
  refine lv_istore_n (lv' := [(2, .int 0), (0, .ref q), (1, .int x1)]) hx hb dX9_flow_1 rfl hl (by decide) rfl (fun ls hl => ?_)
  refine lv_iconst (v := 0) hx hb dX9_flow_2 (by decide) ?_
  refine lv_istore_n (lv' := [(3, .int 0), (2, .int 0), (0, .ref q), (1, .int x1)]) hx hb dX9_flow_3 rfl hl (by decide) rfl (fun ls hl => ?_)
  obtain ⟨v2_6, v3_7, hc_8, hf⟩ := bd2 hf
  refine L_X9_flow_4 S hK hN hSF _ 0 0 v2_6 v3_7 hc_8 _ hP (lv_sub hl [2, 3, 1, 0] rfl) (fun ls hl => ?_)
  refine lv_iload_n hx hb dX9_flow_52 rfl (lv_at hl 2 rfl) ?_
  exact k_reti hx hb hret hloc (Option.some.inj hf) dX9_flow_53
theorem dX9_line_0 : decode cX9_line 0 = .ok (.iconst 0, 1) := by decide +kernel
theorem dX9_line_1 : decode cX9_line 1 = .ok (.istore_n 2, 1) := by decide +kernel
theorem dX9_line_2 : decode cX9_line 2 = .ok (.iload_n 1, 1) := by decide +kernel
theorem dX9_line_3 : decode cX9_line 3 = .ok (.istore_n 3, 1) := by decide +kernel
theorem dX9_line_4 : decode cX9_line 4 = .ok (.aload_n 0, 1) := by decide +kernel
theorem dX9_line_5 : decode cX9_line 5 = .ok (.getfield 7, 3) := by decide +kernel
theorem dX9_line_8 : decode cX9_line 8 = .ok (.sipush 1010, 3) := by decide +kernel
theorem dX9_line_11 : decode cX9_line 11 = .ok (.iload_n 3, 1) := by decide +kernel
theorem dX9_line_12 : decode cX9_line 12 = .ok (.iadd, 1) := by decide +kernel
theorem dX9_line_13 : decode cX9_line 13 = .ok (.iaload, 1) := by decide +kernel
theorem dX9_line_14 : decode cX9_line 14 = .ok (.bipush (-4), 2) := by decide +kernel
theorem dX9_line_16 : decode cX9_line 16 = .ok (.if_icmp .eq 20, 3) := by decide +kernel
theorem dX9_line_19 : decode cX9_line 19 = .ok (.aload_n 0, 1) := by decide +kernel
theorem dX9_line_20 : decode cX9_line 20 = .ok (.getfield 7, 3) := by decide +kernel
theorem dX9_line_23 : decode cX9_line 23 = .ok (.sipush 1010, 3) := by decide +kernel
theorem dX9_line_26 : decode cX9_line 26 = .ok (.iload_n 3, 1) := by decide +kernel
theorem dX9_line_27 : decode cX9_line 27 = .ok (.iadd, 1) := by decide +kernel
theorem dX9_line_28 : decode cX9_line 28 = .ok (.iaload, 1) := by decide +kernel
theorem dX9_line_29 : decode cX9_line 29 = .ok (.istore_n 3, 1) := by decide +kernel
theorem dX9_line_30 : decode cX9_line 30 = .ok (.iinc 2 1, 3) := by decide +kernel
theorem dX9_line_33 : decode cX9_line 33 = .ok (.goto (-29), 3) := by decide +kernel
theorem dX9_line_36 : decode cX9_line 36 = .ok (.iload_n 2, 1) := by decide +kernel
theorem dX9_line_37 : decode cX9_line 37 = .ok (.ireturn, 1) := by decide +kernel
def st_X9_line_L4 (mm : (Nat → Int32)) (v2 : Int32) (v3 : Int32) : Option ((Int32 × Int32) ⊕ (Int32 × Int32)) := if (1010 + v3) < 0 ∨ 5040 ≤ (1010 + v3).toNatClampNeg then none else (if (mm (1010 + v3).toNatClampNeg) = (-4) then (some (Sum.inr (v2, v3))) else (if (1010 + v3) < 0 ∨ 5040 ≤ (1010 + v3).toNatClampNeg then none else (some (Sum.inl (v2 + 1, mm (1010 + v3).toNatClampNeg)))))
def f_X9_line_L4 (mm : (Nat → Int32)) (k : Nat) (v2 : Int32) (v3 : Int32) : Option (Int32 × Int32) := lpN (fun z => st_X9_line_L4 mm z.1 z.2) k (v2, v3)
set_option maxHeartbeats 4000000 in
set_option maxRecDepth 100000 in
theorem L_X9_line_4 {p : Program} {l : Launch} {e : Env} {s : State} {m : MethodId} {args : Array Value} {below : List Frame} {meth : Method} {c : Code} {Q : State → Prop} {D : va_G} {cI : ClassId} {q : Nat} {qm : Nat} {qi : Nat} {qp : Nat} {qo : Nat} {qg : Nat} {kept : Int32} {im : Int32} {pm : Int32} {om : Int32} {lo : Int64} {hi_ : Int64} {cde : Int64} {fr : Int32} {sp : Int32} {mm : (Nat → Int32)} {inp : (Nat → Int32)} {pk : (Nat → Int32)} {out : (Nat → Int32)} {gr : (Nat → Int32)} (S : CallFix p m c cX9_line 4 s args wsG RX9) (hK : va_K D vwCl [(cI, .int)] s) (hN : nw s) (hSF : sf (fun _ => False) s s.heap) : ∀ (k : Nat) (v2 : Int32) (v3 : Int32) (o_v2 : Int32) (o_v3 : Int32), f_X9_line_L4 mm k v2 v3 = some (o_v2, o_v3) → ∀ (ls : Array Slot), va_P D vwCl [(q, .inr (9, [.ref qm, .int kept, .ref qi, .int im, .ref qp, .int pm, .ref qo, .int om, .ref qg, .long lo, .long hi_, .long cde, .int fr, .int sp])), (qm, .inl (cI, 5040, .inl mm)), (qi, .inl (cI, 60, .inl inp)), (qp, .inl (cI, 2000, .inl pk)), (qo, .inl (cI, 60, .inl out)), (qg, .inl (cI, 6, .inl gr))] s.heap → lv_has ls 4 [(0, .ref q), (2, .int v2), (3, .int v3)] → (∀ (ls : Array Slot), lv_has ls 4 [(0, .ref q), (2, .int o_v2), (3, .int o_v3)] → W p l e (headSpec (.code yX9_line cX9_line 4 (some .int) :: wsG) { frames := 0, cells := 0, slots := 0, locals := 0 }).room s m args below meth c s.heap [] 0 0 Q (F0 m 36 ls [])) → W p l e (headSpec (.code yX9_line cX9_line 4 (some .int) :: wsG) { frames := 0, cells := 0, slots := 0, locals := 0 }).room s m args below meth c s.heap [] 0 0 Q (F0 m 4 ls []) := by
  obtain ⟨hx, hb, hml, hown, hts⟩ := id S
  intro k
  induction k with
  | zero =>
    intro v2 v3 o_v2 o_v3 hf
    cases hf
  | succ k ih =>
    intro v2 v3 o_v2 o_v3 hf ls hP hl kk
    obtain ⟨z, hf, hz⟩ := lp_inv hf
    have hf : st_X9_line_L4 mm v2 v3 = some z := hf
    unfold st_X9_line_L4 at hf
    refine lv_aload_n hx hb dX9_line_4 rfl (lv_at hl 0 rfl) ?_
    refine va_get (D := D) (ci := 9) (v := .ref qm) (C := RX9) (T := TX9) (N := 14) hx hb hts inGX9 hown hK hP 0 rfl rfl 0 (by decide) (hts _ fl_X9_7) (fun _ h9 => h9) rfl dX9_line_5 ?_
    refine lv_sipush (v := 1010) hx hb dX9_line_8 (by decide) ?_
    refine lv_iload_n hx hb dX9_line_11 rfl (lv_at hl 2 rfl) ?_
    refine lv_iadd hx hb dX9_line_12 ?_
    have b_1 : ¬ ((1010 + v3) < 0 ∨ 5040 ≤ (1010 + v3).toNatClampNeg) := fun q => by rw [if_pos q] at hf; cases hf
    rw [if_neg b_1] at hf
    refine va_iald hx hb hK hP 1 0 rfl rfl b_1 dX9_line_13 ?_
    refine lv_bipush (v := (-4)) hx hb dX9_line_14 (by decide) ?_
    refine lv_icmp_eq (tgt := 36) hx hb dX9_line_16 (by decide) (fun c_2 => ?_) (fun c_2 => ?_)
    · rw [if_pos c_2] at hf
      have hf := Option.some.inj hf
      subst hf
      obtain ⟨e_0, e_1⟩ := Prod.mk.inj (lpC_r hz)
      subst e_0
      subst e_1
      exact kk ls (lv_sub hl [0, 1, 2] rfl)
    · rw [if_neg c_2] at hf
      refine lv_aload_n hx hb dX9_line_19 rfl (lv_at hl 0 rfl) ?_
      refine va_get (D := D) (ci := 9) (v := .ref qm) (C := RX9) (T := TX9) (N := 14) hx hb hts inGX9 hown hK hP 0 rfl rfl 0 (by decide) (hts _ fl_X9_7) (fun _ h9 => h9) rfl dX9_line_20 ?_
      refine lv_sipush (v := 1010) hx hb dX9_line_23 (by decide) ?_
      refine lv_iload_n hx hb dX9_line_26 rfl (lv_at hl 2 rfl) ?_
      refine lv_iadd hx hb dX9_line_27 ?_
      have b_3 : ¬ ((1010 + v3) < 0 ∨ 5040 ≤ (1010 + v3).toNatClampNeg) := fun q => by rw [if_pos q] at hf; cases hf
      rw [if_neg b_3] at hf
      refine va_iald hx hb hK hP 1 0 rfl rfl b_3 dX9_line_28 ?_
      refine lv_istore_n (lv' := [(3, .int (mm (1010 + v3).toNatClampNeg)), (0, .ref q), (2, .int v2)]) hx hb dX9_line_29 rfl hl (by decide) rfl (fun ls hl => ?_)
      refine lv_iinc (v := v2 + 1) (lv' := [(2, .int (v2 + 1)), (3, .int (mm (1010 + v3).toNatClampNeg)), (0, .ref q)]) hx hb dX9_line_30 hl (k := 2) rfl rfl (by decide) rfl (fun ls hl => ?_)
      refine lv_goto (tgt := 4) hx hb dX9_line_33 (by decide) ?_
      have hf := Option.some.inj hf
      subst hf
      exact ih (v2 + 1) (mm (1010 + v3).toNatClampNeg) _ _ hz ls hP (lv_sub hl [2, 0, 1] rfl) kk
def f_X9_line (mm : (Nat → Int32)) (x1 : Int32) : Option (Int32) := bi2 (f_X9_line_L4 mm 4096 0 x1) (fun (v2_4 : Int32) (v3_5 : Int32) => some v2_4)
set_option maxHeartbeats 4000000 in
set_option maxRecDepth 100000 in
theorem c_X9_line (l : Launch) (D : va_G) (cI : ClassId) (q : Nat) (qm : Nat) (qi : Nat) (qp : Nat) (qo : Nat) (qg : Nat) (kept : Int32) (im : Int32) (pm : Int32) (om : Int32) (lo : Int64) (hi_ : Int64) (cde : Int64) (fr : Int32) (sp : Int32) (mm : (Nat → Int32)) (inp : (Nat → Int32)) (pk : (Nat → Int32)) (out : (Nat → Int32)) (gr : (Nat → Int32)) (x1 : Int32) (r : Int32) (hf : f_X9_line mm x1 = some r) : Met l yX9_line (.code yX9_line cX9_line 4 (some .int) :: wsG) ({ frames := 0, cells := 0, slots := 0, locals := 0 }) (va_Pc [.ref q, .int x1] (gw D cI [(q, .inr (9, [.ref qm, .int kept, .ref qi, .int im, .ref qp, .int pm, .ref qo, .int om, .ref qg, .long lo, .long hi_, .long cde, .int fr, .int sp])), (qm, .inl (cI, 5040, .inl mm)), (qi, .inl (cI, 60, .inl inp)), (qp, .inl (cI, 2000, .inl pk)), (qo, .inl (cI, 60, .inl out)), (qg, .inl (cI, 6, .inl gr))])) (vp_Si (fun x => x = r)) 0 0 (fun _ => False) := by
  refine k_ro (by decide) rfl (Nat.le_of_ble_eq_true rfl) rfl ?_
  intro p e s m below meth c ls S hret hloc hK hN hSF hP hl
  obtain ⟨hx, hb, hml, hown, hts⟩ := id S
  unfold f_X9_line at hf
  refine lv_iconst (v := 0) hx hb dX9_line_0 (by decide) ?_
  refine lv_istore_n (lv' := [(2, .int 0), (0, .ref q), (1, .int x1)]) hx hb dX9_line_1 rfl hl (by decide) rfl (fun ls hl => ?_)
  refine lv_iload_n hx hb dX9_line_2 rfl (lv_at hl 2 rfl) ?_
  refine lv_istore_n (lv' := [(3, .int x1), (2, .int 0), (0, .ref q), (1, .int x1)]) hx hb dX9_line_3 rfl hl (by decide) rfl (fun ls hl => ?_)
  obtain ⟨v2_4, v3_5, hc_6, hf⟩ := bd2 hf
  refine L_X9_line_4 S hK hN hSF _ 0 x1 v2_4 v3_5 hc_6 _ hP (lv_sub hl [2, 1, 0] rfl) (fun ls hl => ?_)
  refine lv_iload_n hx hb dX9_line_36 rfl (lv_at hl 1 rfl) ?_
  exact k_reti hx hb hret hloc (Option.some.inj hf) dX9_line_37
theorem dX9_state_0 : decode cX9_state 0 = .ok (.iload_n 1, 1) := by decide +kernel
theorem dX9_state_1 : decode cX9_state 1 = .ok (.i2l, 1) := by decide +kernel
theorem dX9_state_2 : decode cX9_state 2 = .ok (.lconst 0, 1) := by decide +kernel
theorem dX9_state_3 : decode cX9_state 3 = .ok (.aload_n 0, 1) := by decide +kernel
theorem dX9_state_4 : decode cX9_state 4 = .ok (.getfield 7, 3) := by decide +kernel
theorem dX9_state_7 : decode cX9_state 7 = .ok (.iconst 0, 1) := by decide +kernel
theorem dX9_state_8 : decode cX9_state 8 = .ok (.iaload, 1) := by decide +kernel
theorem dX9_state_9 : decode cX9_state 9 = .ok (.iconst 1, 1) := by decide +kernel
theorem dX9_state_10 : decode cX9_state 10 = .ok (.isub, 1) := by decide +kernel
theorem dX9_state_11 : decode cX9_state 11 = .ok (.i2l, 1) := by decide +kernel
theorem dX9_state_12 : decode cX9_state 12 = .ok (.invokestatic 46, 3) := by decide +kernel
theorem dX9_state_15 : decode cX9_state 15 = .ok (.ifCond .eq 15, 3) := by decide +kernel
theorem dX9_state_18 : decode cX9_state 18 = .ok (.iload_n 2, 1) := by decide +kernel
theorem dX9_state_19 : decode cX9_state 19 = .ok (.i2l, 1) := by decide +kernel
theorem dX9_state_20 : decode cX9_state 20 = .ok (.lconst 0, 1) := by decide +kernel
theorem dX9_state_21 : decode cX9_state 21 = .ok (.ldc2_w 114, 3) := by decide +kernel
theorem dX9_state_24 : decode cX9_state 24 = .ok (.invokestatic 46, 3) := by decide +kernel
theorem dX9_state_27 : decode cX9_state 27 = .ok (.ifCond .ne 5, 3) := by decide +kernel
theorem dX9_state_30 : decode cX9_state 30 = .ok (.iconst (-1), 1) := by decide +kernel
theorem dX9_state_31 : decode cX9_state 31 = .ok (.ireturn, 1) := by decide +kernel
theorem dX9_state_32 : decode cX9_state 32 = .ok (.iload_n 2, 1) := by decide +kernel
theorem dX9_state_33 : decode cX9_state 33 = .ok (.tableswitch 93 0 6 #[43, 43, 57, 57, 74, 81, 87], 43) := by decide +kernel
theorem dX9_state_76 : decode cX9_state 76 = .ok (.aload_n 0, 1) := by decide +kernel
theorem dX9_state_77 : decode cX9_state 77 = .ok (.getfield 7, 3) := by decide +kernel
theorem dX9_state_80 : decode cX9_state 80 = .ok (.bipush 10, 2) := by decide +kernel
theorem dX9_state_82 : decode cX9_state 82 = .ok (.iconst 2, 1) := by decide +kernel
theorem dX9_state_83 : decode cX9_state 83 = .ok (.iload_n 1, 1) := by decide +kernel
theorem dX9_state_84 : decode cX9_state 84 = .ok (.imul, 1) := by decide +kernel
theorem dX9_state_85 : decode cX9_state 85 = .ok (.iadd, 1) := by decide +kernel
theorem dX9_state_86 : decode cX9_state 86 = .ok (.iload_n 2, 1) := by decide +kernel
theorem dX9_state_87 : decode cX9_state 87 = .ok (.iadd, 1) := by decide +kernel
theorem dX9_state_88 : decode cX9_state 88 = .ok (.iaload, 1) := by decide +kernel
theorem dX9_state_89 : decode cX9_state 89 = .ok (.ireturn, 1) := by decide +kernel
theorem dX9_state_90 : decode cX9_state 90 = .ok (.aload_n 0, 1) := by decide +kernel
theorem dX9_state_91 : decode cX9_state 91 = .ok (.getfield 7, 3) := by decide +kernel
theorem dX9_state_94 : decode cX9_state 94 = .ok (.sipush 510, 3) := by decide +kernel
theorem dX9_state_97 : decode cX9_state 97 = .ok (.iconst 2, 1) := by decide +kernel
theorem dX9_state_98 : decode cX9_state 98 = .ok (.iload_n 1, 1) := by decide +kernel
theorem dX9_state_99 : decode cX9_state 99 = .ok (.imul, 1) := by decide +kernel
theorem dX9_state_100 : decode cX9_state 100 = .ok (.iadd, 1) := by decide +kernel
theorem dX9_state_101 : decode cX9_state 101 = .ok (.iload_n 2, 1) := by decide +kernel
theorem dX9_state_102 : decode cX9_state 102 = .ok (.iadd, 1) := by decide +kernel
theorem dX9_state_103 : decode cX9_state 103 = .ok (.iconst 2, 1) := by decide +kernel
theorem dX9_state_104 : decode cX9_state 104 = .ok (.isub, 1) := by decide +kernel
theorem dX9_state_105 : decode cX9_state 105 = .ok (.iaload, 1) := by decide +kernel
theorem dX9_state_106 : decode cX9_state 106 = .ok (.ireturn, 1) := by decide +kernel
theorem dX9_state_107 : decode cX9_state 107 = .ok (.aload_n 0, 1) := by decide +kernel
theorem dX9_state_108 : decode cX9_state 108 = .ok (.iconst 0, 1) := by decide +kernel
theorem dX9_state_109 : decode cX9_state 109 = .ok (.iload_n 1, 1) := by decide +kernel
theorem dX9_state_110 : decode cX9_state 110 = .ok (.invokevirtual 71, 3) := by decide +kernel
theorem dX9_state_113 : decode cX9_state 113 = .ok (.ireturn, 1) := by decide +kernel
theorem dX9_state_114 : decode cX9_state 114 = .ok (.aload_n 0, 1) := by decide +kernel
theorem dX9_state_115 : decode cX9_state 115 = .ok (.iload_n 1, 1) := by decide +kernel
theorem dX9_state_116 : decode cX9_state 116 = .ok (.invokevirtual 116, 3) := by decide +kernel
theorem dX9_state_119 : decode cX9_state 119 = .ok (.ireturn, 1) := by decide +kernel
theorem dX9_state_120 : decode cX9_state 120 = .ok (.aload_n 0, 1) := by decide +kernel
theorem dX9_state_121 : decode cX9_state 121 = .ok (.iload_n 1, 1) := by decide +kernel
theorem dX9_state_122 : decode cX9_state 122 = .ok (.invokevirtual 119, 3) := by decide +kernel
theorem dX9_state_125 : decode cX9_state 125 = .ok (.ireturn, 1) := by decide +kernel
theorem dX9_state_126 : decode cX9_state 126 = .ok (.aload_n 0, 1) := by decide +kernel
theorem dX9_state_127 : decode cX9_state 127 = .ok (.getfield 7, 3) := by decide +kernel
theorem dX9_state_130 : decode cX9_state 130 = .ok (.sipush 1010, 3) := by decide +kernel
theorem dX9_state_133 : decode cX9_state 133 = .ok (.iload_n 1, 1) := by decide +kernel
theorem dX9_state_134 : decode cX9_state 134 = .ok (.iadd, 1) := by decide +kernel
theorem dX9_state_135 : decode cX9_state 135 = .ok (.iaload, 1) := by decide +kernel
theorem dX9_state_136 : decode cX9_state 136 = .ok (.ireturn, 1) := by decide +kernel
theorem ok_X9_flow : okV yX9_flow RX9 1 := by decide +kernel
theorem gs_X9_116 : GoodIn wsG (wsV RX9 116 RX9 yX9_flow (.code yX9_flow cX9_flow 4 (some .int) :: wsG)) := good_V ml_X9_116 im_X9_flow se_X9_flow ini_X9 co_X9_flow
theorem ok_X9_line : okV yX9_line RX9 1 := by decide +kernel
theorem gs_X9_119 : GoodIn wsG (wsV RX9 119 RX9 yX9_line (.code yX9_line cX9_line 4 (some .int) :: wsG)) := good_V ml_X9_119 im_X9_line se_X9_line ini_X9 co_X9_line
def f_X9_state (mm : (Nat → Int32)) (x1 : Int32) (x2 : Int32) : Option (Int32) := if (0 : Int32) < 0 ∨ 5040 ≤ ((0 : Int32)).toNatClampNeg then none else (if (f_X9_in ((x1).toInt64) (0 : Int64) (((mm ((0 : Int32)).toNatClampNeg) - 1).toInt64)) = 0 then (some (-1 : Int32)) else (if (f_X9_in ((x2).toInt64) (0 : Int64) (7 : Int64)) = 0 then (some (-1 : Int32)) else ((if x2 = 0 then (if ((10 + (2 * x1)) + x2) < 0 ∨ 5040 ≤ ((10 + (2 * x1)) + x2).toNatClampNeg then none else (some (mm ((10 + (2 * x1)) + x2).toNatClampNeg))) else (if x2 = 1 then (if ((10 + (2 * x1)) + x2) < 0 ∨ 5040 ≤ ((10 + (2 * x1)) + x2).toNatClampNeg then none else (some (mm ((10 + (2 * x1)) + x2).toNatClampNeg))) else (if x2 = 2 then (if (((510 + (2 * x1)) + x2) - 2) < 0 ∨ 5040 ≤ (((510 + (2 * x1)) + x2) - 2).toNatClampNeg then none else (some (mm (((510 + (2 * x1)) + x2) - 2).toNatClampNeg))) else (if x2 = 3 then (if (((510 + (2 * x1)) + x2) - 2) < 0 ∨ 5040 ≤ (((510 + (2 * x1)) + x2) - 2).toNatClampNeg then none else (some (mm (((510 + (2 * x1)) + x2) - 2).toNatClampNeg))) else (if x2 = 4 then (bi1 (f_X9_chance mm 0 x1) (fun (r_13 : Int32) => some r_13)) else (if x2 = 5 then (bi1 (f_X9_flow mm x1) (fun (r_16 : Int32) => some r_16)) else (if x2 = 6 then (bi1 (f_X9_line mm x1) (fun (r_19 : Int32) => some r_19)) else (if (1010 + x1) < 0 ∨ 5040 ≤ (1010 + x1).toNatClampNeg then none else (some (mm (1010 + x1).toNatClampNeg)))))))))))))
set_option maxHeartbeats 4000000 in
set_option maxRecDepth 100000 in
theorem c_X9_state (l : Launch) (D : va_G) (cI : ClassId) (q : Nat) (qm : Nat) (qi : Nat) (qp : Nat) (qo : Nat) (qg : Nat) (kept : Int32) (im : Int32) (pm : Int32) (om : Int32) (lo : Int64) (hi_ : Int64) (cde : Int64) (fr : Int32) (sp : Int32) (mm : (Nat → Int32)) (inp : (Nat → Int32)) (pk : (Nat → Int32)) (out : (Nat → Int32)) (gr : (Nat → Int32)) (x1 : Int32) (x2 : Int32) (r : Int32) (hf : f_X9_state mm x1 x2 = some r) : Met l yX9_state (.code yX9_state cX9_state 3 (some .int) :: wsG) ({ frames := 2, cells := 0, slots := 0, locals := 46 }) (va_Pc [.ref q, .int x1, .int x2] (gw D cI [(q, .inr (9, [.ref qm, .int kept, .ref qi, .int im, .ref qp, .int pm, .ref qo, .int om, .ref qg, .long lo, .long hi_, .long cde, .int fr, .int sp])), (qm, .inl (cI, 5040, .inl mm)), (qi, .inl (cI, 60, .inl inp)), (qp, .inl (cI, 2000, .inl pk)), (qo, .inl (cI, 60, .inl out)), (qg, .inl (cI, 6, .inl gr))])) (vp_Si (fun x => x = r)) 0 0 (fun _ => False) := by
  refine k_ro (by decide) rfl (Nat.le_of_ble_eq_true rfl) rfl ?_
  intro p e s m below meth c ls S hret hloc hK hN hSF hP hl
  obtain ⟨hx, hb, hml, hown, hts⟩ := id S
  unfold f_X9_state at hf
  refine lv_iload_n hx hb dX9_state_0 rfl (lv_at hl 1 rfl) ?_
  refine lv_i2l hx hb dX9_state_1 rfl ?_
  refine lv_lconst (v := 0) hx hb dX9_state_2 (by decide) ?_
  refine lv_aload_n hx hb dX9_state_3 rfl (lv_at hl 0 rfl) ?_
  refine va_get (D := D) (ci := 9) (v := .ref qm) (C := RX9) (T := TX9) (N := 14) hx hb hts inGX9 hown hK hP 0 rfl rfl 0 (by decide) (hts _ fl_X9_7) (fun _ h9 => h9) rfl dX9_state_4 ?_
  refine lv_iconst (v := 0) hx hb dX9_state_7 (by decide) ?_
  have b_1 : ¬ ((0 : Int32) < 0 ∨ 5040 ≤ ((0 : Int32)).toNatClampNeg) := fun q => by rw [if_pos q] at hf; cases hf
  rw [if_neg b_1] at hf
  refine va_iald hx hb hK hP 1 0 rfl rfl b_1 dX9_state_8 ?_
  refine lv_iconst (v := 1) hx hb dX9_state_9 (by decide) ?_
  refine lv_isub hx hb dX9_state_10 ?_
  refine lv_i2l hx hb dX9_state_11 rfl ?_
  refine k_roSi (As := [.long ((x1).toInt64), .long (0 : Int64), .long (((mm ((0 : Int32)).toNatClampNeg) - 1).toInt64)]) (rest := []) S (c_X9_in l D cI (x1 := (x1).toInt64) (x2 := (0 : Int64)) (x3 := ((mm ((0 : Int32)).toNatClampNeg) - 1).toInt64)  (r := (f_X9_in ((x1).toInt64) (0 : Int64) (((mm ((0 : Int32)).toNatClampNeg) - 1).toInt64))) (hf := rfl)) gs_X9_46 ok_X9_in ⟨rfl, rfl⟩ ⟨Nat.le_of_ble_eq_true rfl, Nat.le_of_ble_eq_true rfl⟩ hK hN hSF (hP.sub [] rfl) rfl hl.1 rfl (Nat.le_of_ble_eq_true rfl) ⟨Nat.zero_le _, Nat.zero_le _⟩ dX9_state_12 ?_
  refine lv_if_eq (tgt := 30) hx hb dX9_state_15 (by decide) (fun c_2 => ?_) (fun c_2 => ?_)
  · rw [if_pos c_2] at hf
    refine lv_iconst (v := (-1)) hx hb dX9_state_30 (by decide) ?_
    exact k_reti hx hb hret hloc (Option.some.inj hf) dX9_state_31
  · rw [if_neg c_2] at hf
    refine lv_iload_n hx hb dX9_state_18 rfl (lv_at hl 2 rfl) ?_
    refine lv_i2l hx hb dX9_state_19 rfl ?_
    refine lv_lconst (v := 0) hx hb dX9_state_20 (by decide) ?_
    refine lv_ldc2 (v := (7 : Int64)) hx hb hown (hts _ ck_X9_114) dX9_state_21 ?_
    refine k_roSi (As := [.long ((x2).toInt64), .long (0 : Int64), .long (7 : Int64)]) (rest := []) S (c_X9_in l D cI (x1 := (x2).toInt64) (x2 := (0 : Int64)) (x3 := (7 : Int64))  (r := (f_X9_in ((x2).toInt64) (0 : Int64) (7 : Int64))) (hf := rfl)) gs_X9_46 ok_X9_in ⟨rfl, rfl⟩ ⟨Nat.le_of_ble_eq_true rfl, Nat.le_of_ble_eq_true rfl⟩ hK hN hSF (hP.sub [] rfl) rfl hl.1 rfl (Nat.le_of_ble_eq_true rfl) ⟨Nat.zero_le _, Nat.zero_le _⟩ dX9_state_24 ?_
    refine lv_if_ne (tgt := 32) hx hb dX9_state_27 (by decide) (fun c_3 => ?_) (fun c_3 => ?_)
    · rw [if_neg c_3] at hf
      refine lv_iload_n hx hb dX9_state_32 rfl (lv_at hl 2 rfl) ?_
      by_cases w_4 : x2 = 0
      · rw [if_pos w_4] at hf
        refine lv_tableIn (tgt := 76) hx hb dX9_state_33 (by rw [w_4]; decide) (by rw [w_4]; decide) (by rw [w_4]; rfl) (by decide) ?_
        refine lv_aload_n hx hb dX9_state_76 rfl (lv_at hl 0 rfl) ?_
        refine va_get (D := D) (ci := 9) (v := .ref qm) (C := RX9) (T := TX9) (N := 14) hx hb hts inGX9 hown hK hP 0 rfl rfl 0 (by decide) (hts _ fl_X9_7) (fun _ h9 => h9) rfl dX9_state_77 ?_
        refine lv_bipush (v := 10) hx hb dX9_state_80 (by decide) ?_
        refine lv_iconst (v := 2) hx hb dX9_state_82 (by decide) ?_
        refine lv_iload_n hx hb dX9_state_83 rfl (lv_at hl 1 rfl) ?_
        refine lv_imul hx hb dX9_state_84 ?_
        refine lv_iadd hx hb dX9_state_85 ?_
        refine lv_iload_n hx hb dX9_state_86 rfl (lv_at hl 2 rfl) ?_
        refine lv_iadd hx hb dX9_state_87 ?_
        have b_5 : ¬ (((10 + (2 * x1)) + x2) < 0 ∨ 5040 ≤ ((10 + (2 * x1)) + x2).toNatClampNeg) := fun q => by rw [if_pos q] at hf; cases hf
        rw [if_neg b_5] at hf
        refine va_iald hx hb hK hP 1 0 rfl rfl b_5 dX9_state_88 ?_
        exact k_reti hx hb hret hloc (Option.some.inj hf) dX9_state_89
      rw [if_neg w_4] at hf
      by_cases w_6 : x2 = 1
      · rw [if_pos w_6] at hf
        refine lv_tableIn (tgt := 76) hx hb dX9_state_33 (by rw [w_6]; decide) (by rw [w_6]; decide) (by rw [w_6]; rfl) (by decide) ?_
        refine lv_aload_n hx hb dX9_state_76 rfl (lv_at hl 0 rfl) ?_
        refine va_get (D := D) (ci := 9) (v := .ref qm) (C := RX9) (T := TX9) (N := 14) hx hb hts inGX9 hown hK hP 0 rfl rfl 0 (by decide) (hts _ fl_X9_7) (fun _ h9 => h9) rfl dX9_state_77 ?_
        refine lv_bipush (v := 10) hx hb dX9_state_80 (by decide) ?_
        refine lv_iconst (v := 2) hx hb dX9_state_82 (by decide) ?_
        refine lv_iload_n hx hb dX9_state_83 rfl (lv_at hl 1 rfl) ?_
        refine lv_imul hx hb dX9_state_84 ?_
        refine lv_iadd hx hb dX9_state_85 ?_
        refine lv_iload_n hx hb dX9_state_86 rfl (lv_at hl 2 rfl) ?_
        refine lv_iadd hx hb dX9_state_87 ?_
        have b_7 : ¬ (((10 + (2 * x1)) + x2) < 0 ∨ 5040 ≤ ((10 + (2 * x1)) + x2).toNatClampNeg) := fun q => by rw [if_pos q] at hf; cases hf
        rw [if_neg b_7] at hf
        refine va_iald hx hb hK hP 1 0 rfl rfl b_7 dX9_state_88 ?_
        exact k_reti hx hb hret hloc (Option.some.inj hf) dX9_state_89
      rw [if_neg w_6] at hf
      by_cases w_8 : x2 = 2
      · rw [if_pos w_8] at hf
        refine lv_tableIn (tgt := 90) hx hb dX9_state_33 (by rw [w_8]; decide) (by rw [w_8]; decide) (by rw [w_8]; rfl) (by decide) ?_
        refine lv_aload_n hx hb dX9_state_90 rfl (lv_at hl 0 rfl) ?_
        refine va_get (D := D) (ci := 9) (v := .ref qm) (C := RX9) (T := TX9) (N := 14) hx hb hts inGX9 hown hK hP 0 rfl rfl 0 (by decide) (hts _ fl_X9_7) (fun _ h9 => h9) rfl dX9_state_91 ?_
        refine lv_sipush (v := 510) hx hb dX9_state_94 (by decide) ?_
        refine lv_iconst (v := 2) hx hb dX9_state_97 (by decide) ?_
        refine lv_iload_n hx hb dX9_state_98 rfl (lv_at hl 1 rfl) ?_
        refine lv_imul hx hb dX9_state_99 ?_
        refine lv_iadd hx hb dX9_state_100 ?_
        refine lv_iload_n hx hb dX9_state_101 rfl (lv_at hl 2 rfl) ?_
        refine lv_iadd hx hb dX9_state_102 ?_
        refine lv_iconst (v := 2) hx hb dX9_state_103 (by decide) ?_
        refine lv_isub hx hb dX9_state_104 ?_
        have b_9 : ¬ ((((510 + (2 * x1)) + x2) - 2) < 0 ∨ 5040 ≤ (((510 + (2 * x1)) + x2) - 2).toNatClampNeg) := fun q => by rw [if_pos q] at hf; cases hf
        rw [if_neg b_9] at hf
        refine va_iald hx hb hK hP 1 0 rfl rfl b_9 dX9_state_105 ?_
        exact k_reti hx hb hret hloc (Option.some.inj hf) dX9_state_106
      rw [if_neg w_8] at hf
      by_cases w_10 : x2 = 3
      · rw [if_pos w_10] at hf
        refine lv_tableIn (tgt := 90) hx hb dX9_state_33 (by rw [w_10]; decide) (by rw [w_10]; decide) (by rw [w_10]; rfl) (by decide) ?_
        refine lv_aload_n hx hb dX9_state_90 rfl (lv_at hl 0 rfl) ?_
        refine va_get (D := D) (ci := 9) (v := .ref qm) (C := RX9) (T := TX9) (N := 14) hx hb hts inGX9 hown hK hP 0 rfl rfl 0 (by decide) (hts _ fl_X9_7) (fun _ h9 => h9) rfl dX9_state_91 ?_
        refine lv_sipush (v := 510) hx hb dX9_state_94 (by decide) ?_
        refine lv_iconst (v := 2) hx hb dX9_state_97 (by decide) ?_
        refine lv_iload_n hx hb dX9_state_98 rfl (lv_at hl 1 rfl) ?_
        refine lv_imul hx hb dX9_state_99 ?_
        refine lv_iadd hx hb dX9_state_100 ?_
        refine lv_iload_n hx hb dX9_state_101 rfl (lv_at hl 2 rfl) ?_
        refine lv_iadd hx hb dX9_state_102 ?_
        refine lv_iconst (v := 2) hx hb dX9_state_103 (by decide) ?_
        refine lv_isub hx hb dX9_state_104 ?_
        have b_11 : ¬ ((((510 + (2 * x1)) + x2) - 2) < 0 ∨ 5040 ≤ (((510 + (2 * x1)) + x2) - 2).toNatClampNeg) := fun q => by rw [if_pos q] at hf; cases hf
        rw [if_neg b_11] at hf
        refine va_iald hx hb hK hP 1 0 rfl rfl b_11 dX9_state_105 ?_
        exact k_reti hx hb hret hloc (Option.some.inj hf) dX9_state_106
      rw [if_neg w_10] at hf
      by_cases w_12 : x2 = 4
      · rw [if_pos w_12] at hf
        refine lv_tableIn (tgt := 107) hx hb dX9_state_33 (by rw [w_12]; decide) (by rw [w_12]; decide) (by rw [w_12]; rfl) (by decide) ?_
        refine lv_aload_n hx hb dX9_state_107 rfl (lv_at hl 0 rfl) ?_
        refine lv_iconst (v := 0) hx hb dX9_state_108 (by decide) ?_
        refine lv_iload_n hx hb dX9_state_109 rfl (lv_at hl 1 rfl) ?_
        obtain ⟨r_13, hc_14, hf⟩ := bd1 hf
        refine k_roVi (As := [.int 0, .int x1]) (rest := []) S (c_X9_chance l D cI (q := q) (qm := qm) (qi := qi) (qp := qp) (qo := qo) (qg := qg) (kept := kept) (im := im) (pm := pm) (om := om) (lo := lo) (hi_ := hi_) (cde := cde) (fr := fr) (sp := sp) (mm := mm) (inp := inp) (pk := pk) (out := out) (gr := gr) (x1 := 0) (x2 := x1)  (r := r_13) (hf := hc_14)) gs_X9_71 ok_X9_chance ⟨rfl, rfl⟩ ⟨Nat.le_of_ble_eq_true rfl, Nat.le_of_ble_eq_true rfl⟩ hK hN hSF hP rfl rfl rfl hl.1 rfl (Nat.le_of_ble_eq_true rfl) ⟨Nat.zero_le _, Nat.zero_le _⟩ dX9_state_110 ?_
        exact k_reti hx hb hret hloc (Option.some.inj hf) dX9_state_113
      rw [if_neg w_12] at hf
      by_cases w_15 : x2 = 5
      · rw [if_pos w_15] at hf
        refine lv_tableIn (tgt := 114) hx hb dX9_state_33 (by rw [w_15]; decide) (by rw [w_15]; decide) (by rw [w_15]; rfl) (by decide) ?_
        refine lv_aload_n hx hb dX9_state_114 rfl (lv_at hl 0 rfl) ?_
        refine lv_iload_n hx hb dX9_state_115 rfl (lv_at hl 1 rfl) ?_
        obtain ⟨r_16, hc_17, hf⟩ := bd1 hf
        refine k_roVi (As := [.int x1]) (rest := []) S (c_X9_flow l D cI (q := q) (qm := qm) (qi := qi) (qp := qp) (qo := qo) (qg := qg) (kept := kept) (im := im) (pm := pm) (om := om) (lo := lo) (hi_ := hi_) (cde := cde) (fr := fr) (sp := sp) (mm := mm) (inp := inp) (pk := pk) (out := out) (gr := gr) (x1 := x1)  (r := r_16) (hf := hc_17)) gs_X9_116 ok_X9_flow ⟨rfl, rfl⟩ ⟨Nat.le_of_ble_eq_true rfl, Nat.le_of_ble_eq_true rfl⟩ hK hN hSF hP rfl rfl rfl hl.1 rfl (Nat.le_of_ble_eq_true rfl) ⟨Nat.zero_le _, Nat.zero_le _⟩ dX9_state_116 ?_
        exact k_reti hx hb hret hloc (Option.some.inj hf) dX9_state_119
      rw [if_neg w_15] at hf
      by_cases w_18 : x2 = 6
      · rw [if_pos w_18] at hf
        refine lv_tableIn (tgt := 120) hx hb dX9_state_33 (by rw [w_18]; decide) (by rw [w_18]; decide) (by rw [w_18]; rfl) (by decide) ?_
        refine lv_aload_n hx hb dX9_state_120 rfl (lv_at hl 0 rfl) ?_
        refine lv_iload_n hx hb dX9_state_121 rfl (lv_at hl 1 rfl) ?_
        obtain ⟨r_19, hc_20, hf⟩ := bd1 hf
        refine k_roVi (As := [.int x1]) (rest := []) S (c_X9_line l D cI (q := q) (qm := qm) (qi := qi) (qp := qp) (qo := qo) (qg := qg) (kept := kept) (im := im) (pm := pm) (om := om) (lo := lo) (hi_ := hi_) (cde := cde) (fr := fr) (sp := sp) (mm := mm) (inp := inp) (pk := pk) (out := out) (gr := gr) (x1 := x1)  (r := r_19) (hf := hc_20)) gs_X9_119 ok_X9_line ⟨rfl, rfl⟩ ⟨Nat.le_of_ble_eq_true rfl, Nat.le_of_ble_eq_true rfl⟩ hK hN hSF hP rfl rfl rfl hl.1 rfl (Nat.le_of_ble_eq_true rfl) ⟨Nat.zero_le _, Nat.zero_le _⟩ dX9_state_122 ?_
        exact k_reti hx hb hret hloc (Option.some.inj hf) dX9_state_125
      rw [if_neg w_18] at hf
      refine lv_tableOut (tgt := 126) hx hb dX9_state_33 (tsw_7 w_4 w_6 w_8 w_10 w_12 w_15 w_18) (by decide) ?_
      refine lv_aload_n hx hb dX9_state_126 rfl (lv_at hl 0 rfl) ?_
      refine va_get (D := D) (ci := 9) (v := .ref qm) (C := RX9) (T := TX9) (N := 14) hx hb hts inGX9 hown hK hP 0 rfl rfl 0 (by decide) (hts _ fl_X9_7) (fun _ h9 => h9) rfl dX9_state_127 ?_
      refine lv_sipush (v := 1010) hx hb dX9_state_130 (by decide) ?_
      refine lv_iload_n hx hb dX9_state_133 rfl (lv_at hl 1 rfl) ?_
      refine lv_iadd hx hb dX9_state_134 ?_
      have b_21 : ¬ ((1010 + x1) < 0 ∨ 5040 ≤ (1010 + x1).toNatClampNeg) := fun q => by rw [if_pos q] at hf; cases hf
      rw [if_neg b_21] at hf
      refine va_iald hx hb hK hP 1 0 rfl rfl b_21 dX9_state_135 ?_
      exact k_reti hx hb hret hloc (Option.some.inj hf) dX9_state_136
    · rw [if_pos c_3] at hf
      refine lv_iconst (v := (-1)) hx hb dX9_state_30 (by decide) ?_
      exact k_reti hx hb hret hloc (Option.some.inj hf) dX9_state_31
theorem dX9_live_0 : decode cX9_live 0 = .ok (.iload_n 1, 1) := by decide +kernel
theorem dX9_live_1 : decode cX9_live 1 = .ok (.i2l, 1) := by decide +kernel
theorem dX9_live_2 : decode cX9_live 2 = .ok (.lconst 0, 1) := by decide +kernel
theorem dX9_live_3 : decode cX9_live 3 = .ok (.ldc2_w 114, 3) := by decide +kernel
theorem dX9_live_6 : decode cX9_live 6 = .ok (.invokestatic 46, 3) := by decide +kernel
theorem dX9_live_9 : decode cX9_live 9 = .ok (.ifCond .ne 5, 3) := by decide +kernel
theorem dX9_live_12 : decode cX9_live 12 = .ok (.iconst (-1), 1) := by decide +kernel
theorem dX9_live_13 : decode cX9_live 13 = .ok (.ireturn, 1) := by decide +kernel
theorem dX9_live_14 : decode cX9_live 14 = .ok (.iload_n 1, 1) := by decide +kernel
theorem dX9_live_15 : decode cX9_live 15 = .ok (.iconst 5, 1) := by decide +kernel
theorem dX9_live_16 : decode cX9_live 16 = .ok (.if_icmp .ge 10, 3) := by decide +kernel
theorem dX9_live_19 : decode cX9_live 19 = .ok (.aload_n 0, 1) := by decide +kernel
theorem dX9_live_20 : decode cX9_live 20 = .ok (.getfield 7, 3) := by decide +kernel
theorem dX9_live_23 : decode cX9_live 23 = .ok (.iload_n 1, 1) := by decide +kernel
theorem dX9_live_24 : decode cX9_live 24 = .ok (.iaload, 1) := by decide +kernel
theorem dX9_live_25 : decode cX9_live 25 = .ok (.ireturn, 1) := by decide +kernel
theorem dX9_live_26 : decode cX9_live 26 = .ok (.iconst 0, 1) := by decide +kernel
theorem dX9_live_27 : decode cX9_live 27 = .ok (.istore_n 2, 1) := by decide +kernel
theorem dX9_live_28 : decode cX9_live 28 = .ok (.iconst 0, 1) := by decide +kernel
theorem dX9_live_29 : decode cX9_live 29 = .ok (.istore_n 3, 1) := by decide +kernel
theorem dX9_live_30 : decode cX9_live 30 = .ok (.iconst 0, 1) := by decide +kernel
theorem dX9_live_31 : decode cX9_live 31 = .ok (.istore 4, 2) := by decide +kernel
theorem dX9_live_33 : decode cX9_live 33 = .ok (.iconst 0, 1) := by decide +kernel
theorem dX9_live_34 : decode cX9_live 34 = .ok (.istore 5, 2) := by decide +kernel
theorem dX9_live_36 : decode cX9_live 36 = .ok (.iload 5, 2) := by decide +kernel
theorem dX9_live_38 : decode cX9_live 38 = .ok (.aload_n 0, 1) := by decide +kernel
theorem dX9_live_39 : decode cX9_live 39 = .ok (.getfield 7, 3) := by decide +kernel
theorem dX9_live_42 : decode cX9_live 42 = .ok (.iconst 0, 1) := by decide +kernel
theorem dX9_live_43 : decode cX9_live 43 = .ok (.iaload, 1) := by decide +kernel
theorem dX9_live_44 : decode cX9_live 44 = .ok (.if_icmp .ge 72, 3) := by decide +kernel
theorem dX9_live_47 : decode cX9_live 47 = .ok (.iload_n 2, 1) := by decide +kernel
theorem dX9_live_48 : decode cX9_live 48 = .ok (.aload_n 0, 1) := by decide +kernel
theorem dX9_live_49 : decode cX9_live 49 = .ok (.iconst 0, 1) := by decide +kernel
theorem dX9_live_50 : decode cX9_live 50 = .ok (.iload 5, 2) := by decide +kernel
theorem dX9_live_52 : decode cX9_live 52 = .ok (.invokevirtual 32, 3) := by decide +kernel
theorem dX9_live_55 : decode cX9_live 55 = .ok (.iadd, 1) := by decide +kernel
theorem dX9_live_56 : decode cX9_live 56 = .ok (.istore_n 2, 1) := by decide +kernel
theorem dX9_live_57 : decode cX9_live 57 = .ok (.iload_n 3, 1) := by decide +kernel
theorem dX9_live_58 : decode cX9_live 58 = .ok (.iload_n 1, 1) := by decide +kernel
theorem dX9_live_59 : decode cX9_live 59 = .ok (.bipush 6, 2) := by decide +kernel
theorem dX9_live_61 : decode cX9_live 61 = .ok (.if_icmp .ne 16, 3) := by decide +kernel
theorem dX9_live_64 : decode cX9_live 64 = .ok (.aload_n 0, 1) := by decide +kernel
theorem dX9_live_65 : decode cX9_live 65 = .ok (.iload 5, 2) := by decide +kernel
theorem dX9_live_67 : decode cX9_live 67 = .ok (.invokevirtual 116, 3) := by decide +kernel
theorem dX9_live_70 : decode cX9_live 70 = .ok (.ifCond .ne 7, 3) := by decide +kernel
theorem dX9_live_73 : decode cX9_live 73 = .ok (.iconst 1, 1) := by decide +kernel
theorem dX9_live_74 : decode cX9_live 74 = .ok (.goto 4, 3) := by decide +kernel
theorem dX9_live_77 : decode cX9_live 77 = .ok (.iconst 0, 1) := by decide +kernel
theorem dX9_live_78 : decode cX9_live 78 = .ok (.iadd, 1) := by decide +kernel
theorem dX9_live_79 : decode cX9_live 79 = .ok (.istore_n 3, 1) := by decide +kernel
theorem dX9_live_80 : decode cX9_live 80 = .ok (.iload_n 1, 1) := by decide +kernel
theorem dX9_live_81 : decode cX9_live 81 = .ok (.bipush 7, 2) := by decide +kernel
theorem dX9_live_83 : decode cX9_live 83 = .ok (.if_icmp .ne 23, 3) := by decide +kernel
theorem dX9_live_86 : decode cX9_live 86 = .ok (.aload_n 0, 1) := by decide +kernel
theorem dX9_live_87 : decode cX9_live 87 = .ok (.iload 5, 2) := by decide +kernel
theorem dX9_live_89 : decode cX9_live 89 = .ok (.invokevirtual 119, 3) := by decide +kernel
theorem dX9_live_92 : decode cX9_live 92 = .ok (.iload 4, 2) := by decide +kernel
theorem dX9_live_94 : decode cX9_live 94 = .ok (.if_icmp .le 12, 3) := by decide +kernel
theorem dX9_live_97 : decode cX9_live 97 = .ok (.aload_n 0, 1) := by decide +kernel
theorem dX9_live_98 : decode cX9_live 98 = .ok (.iload 5, 2) := by decide +kernel
theorem dX9_live_100 : decode cX9_live 100 = .ok (.invokevirtual 119, 3) := by decide +kernel
theorem dX9_live_103 : decode cX9_live 103 = .ok (.goto 5, 3) := by decide +kernel
theorem dX9_live_106 : decode cX9_live 106 = .ok (.iload 4, 2) := by decide +kernel
theorem dX9_live_108 : decode cX9_live 108 = .ok (.istore 4, 2) := by decide +kernel
theorem dX9_live_110 : decode cX9_live 110 = .ok (.iinc 5 1, 3) := by decide +kernel
theorem dX9_live_113 : decode cX9_live 113 = .ok (.goto (-77), 3) := by decide +kernel
theorem dX9_live_116 : decode cX9_live 116 = .ok (.iload_n 1, 1) := by decide +kernel
theorem dX9_live_117 : decode cX9_live 117 = .ok (.iconst 5, 1) := by decide +kernel
theorem dX9_live_118 : decode cX9_live 118 = .ok (.if_icmp .ne 7, 3) := by decide +kernel
theorem dX9_live_121 : decode cX9_live 121 = .ok (.iload_n 2, 1) := by decide +kernel
theorem dX9_live_122 : decode cX9_live 122 = .ok (.goto 15, 3) := by decide +kernel
theorem dX9_live_125 : decode cX9_live 125 = .ok (.iload_n 1, 1) := by decide +kernel
theorem dX9_live_126 : decode cX9_live 126 = .ok (.bipush 6, 2) := by decide +kernel
theorem dX9_live_128 : decode cX9_live 128 = .ok (.if_icmp .ne 7, 3) := by decide +kernel
theorem dX9_live_131 : decode cX9_live 131 = .ok (.iload_n 3, 1) := by decide +kernel
theorem dX9_live_132 : decode cX9_live 132 = .ok (.goto 5, 3) := by decide +kernel
theorem dX9_live_135 : decode cX9_live 135 = .ok (.iload 4, 2) := by decide +kernel
theorem dX9_live_137 : decode cX9_live 137 = .ok (.ireturn, 1) := by decide +kernel
def st_X9_live_L36 (v1 : Int32) (mm : (Nat → Int32)) (v2 : Int32) (v3 : Int32) (v4 : Int32) (v5 : Int32) : Option ((Int32 × Int32 × Int32 × Int32) ⊕ (Int32 × Int32 × Int32 × Int32)) := if (0 : Int32) < 0 ∨ 5040 ≤ ((0 : Int32)).toNatClampNeg then none else (if (mm ((0 : Int32)).toNatClampNeg) ≤ v5 then (some (Sum.inr (v2, v3, v4, v5))) else (bi1 (f_X9_both mm 0 v5) (fun (r_5 : Int32) => if v1 = 6 then (bi1 (f_X9_flow mm v5) (fun (r_14 : Int32) => if r_14 = 0 then (if v1 = 7 then (bi1 (f_X9_line mm v5) (fun (r_24 : Int32) => if r_24 ≤ v4 then (some (Sum.inl (v2 + r_5, v3 + 1, v4, v5 + 1))) else (bi1 (f_X9_line mm v5) (fun (r_27 : Int32) => some (Sum.inl (v2 + r_5, v3 + 1, r_27, v5 + 1)))))) else (some (Sum.inl (v2 + r_5, v3 + 1, v4, v5 + 1)))) else (if v1 = 7 then (bi1 (f_X9_line mm v5) (fun (r_18 : Int32) => if r_18 ≤ v4 then (some (Sum.inl (v2 + r_5, v3 + 0, v4, v5 + 1))) else (bi1 (f_X9_line mm v5) (fun (r_21 : Int32) => some (Sum.inl (v2 + r_5, v3 + 0, r_21, v5 + 1)))))) else (some (Sum.inl (v2 + r_5, v3 + 0, v4, v5 + 1)))))) else (if v1 = 7 then (bi1 (f_X9_line mm v5) (fun (r_9 : Int32) => if r_9 ≤ v4 then (some (Sum.inl (v2 + r_5, v3 + 0, v4, v5 + 1))) else (bi1 (f_X9_line mm v5) (fun (r_12 : Int32) => some (Sum.inl (v2 + r_5, v3 + 0, r_12, v5 + 1)))))) else (some (Sum.inl (v2 + r_5, v3 + 0, v4, v5 + 1)))))))
def f_X9_live_L36 (v1 : Int32) (mm : (Nat → Int32)) (k : Nat) (v2 : Int32) (v3 : Int32) (v4 : Int32) (v5 : Int32) : Option (Int32 × Int32 × Int32 × Int32) := lpN (fun z => st_X9_live_L36 v1 mm z.1 z.2.1 z.2.2.1 z.2.2.2) k (v2, v3, v4, v5)
set_option maxHeartbeats 4000000 in
set_option maxRecDepth 100000 in
theorem L_X9_live_36 {p : Program} {l : Launch} {e : Env} {s : State} {m : MethodId} {args : Array Value} {below : List Frame} {meth : Method} {c : Code} {Q : State → Prop} {D : va_G} {cI : ClassId} {q : Nat} {qm : Nat} {qi : Nat} {qp : Nat} {qo : Nat} {qg : Nat} {v1 : Int32} {kept : Int32} {im : Int32} {pm : Int32} {om : Int32} {lo : Int64} {hi_ : Int64} {cde : Int64} {fr : Int32} {sp : Int32} {mm : (Nat → Int32)} {inp : (Nat → Int32)} {pk : (Nat → Int32)} {out : (Nat → Int32)} {gr : (Nat → Int32)} (S : CallFix p m c cX9_live 6 s args wsG RX9) (hK : va_K D vwCl [(cI, .int)] s) (hN : nw s) (hSF : sf (fun _ => False) s s.heap) : ∀ (k : Nat) (v2 : Int32) (v3 : Int32) (v4 : Int32) (v5 : Int32) (o_v2 : Int32) (o_v3 : Int32) (o_v4 : Int32) (o_v5 : Int32), f_X9_live_L36 v1 mm k v2 v3 v4 v5 = some (o_v2, o_v3, o_v4, o_v5) → ∀ (ls : Array Slot), va_P D vwCl [(q, .inr (9, [.ref qm, .int kept, .ref qi, .int im, .ref qp, .int pm, .ref qo, .int om, .ref qg, .long lo, .long hi_, .long cde, .int fr, .int sp])), (qm, .inl (cI, 5040, .inl mm)), (qi, .inl (cI, 60, .inl inp)), (qp, .inl (cI, 2000, .inl pk)), (qo, .inl (cI, 60, .inl out)), (qg, .inl (cI, 6, .inl gr))] s.heap → lv_has ls 6 [(0, .ref q), (1, .int v1), (2, .int v2), (3, .int v3), (4, .int v4), (5, .int v5)] → (∀ (ls : Array Slot), lv_has ls 6 [(0, .ref q), (1, .int v1), (2, .int o_v2), (3, .int o_v3), (4, .int o_v4), (5, .int o_v5)] → W p l e (headSpec (.code yX9_live cX9_live 6 (some .int) :: wsG) { frames := 1, cells := 0, slots := 0, locals := 25 }).room s m args below meth c s.heap [] 0 0 Q (F0 m 116 ls [])) → W p l e (headSpec (.code yX9_live cX9_live 6 (some .int) :: wsG) { frames := 1, cells := 0, slots := 0, locals := 25 }).room s m args below meth c s.heap [] 0 0 Q (F0 m 36 ls []) := by
  obtain ⟨hx, hb, hml, hown, hts⟩ := id S
  intro k
  induction k with
  | zero =>
    intro v2 v3 v4 v5 o_v2 o_v3 o_v4 o_v5 hf
    cases hf
  | succ k ih =>
    intro v2 v3 v4 v5 o_v2 o_v3 o_v4 o_v5 hf ls hP hl kk
    obtain ⟨z, hf, hz⟩ := lp_inv hf
    have hf : st_X9_live_L36 v1 mm v2 v3 v4 v5 = some z := hf
    unfold st_X9_live_L36 at hf
    refine lv_iload hx hb dX9_live_36 (lv_at hl 5 rfl) ?_
    refine lv_aload_n hx hb dX9_live_38 rfl (lv_at hl 0 rfl) ?_
    refine va_get (D := D) (ci := 9) (v := .ref qm) (C := RX9) (T := TX9) (N := 14) hx hb hts inGX9 hown hK hP 0 rfl rfl 0 (by decide) (hts _ fl_X9_7) (fun _ h9 => h9) rfl dX9_live_39 ?_
    refine lv_iconst (v := 0) hx hb dX9_live_42 (by decide) ?_
    have b_3 : ¬ ((0 : Int32) < 0 ∨ 5040 ≤ ((0 : Int32)).toNatClampNeg) := fun q => by rw [if_pos q] at hf; cases hf
    rw [if_neg b_3] at hf
    refine va_iald hx hb hK hP 1 0 rfl rfl b_3 dX9_live_43 ?_
    refine lv_icmp_ge (tgt := 116) hx hb dX9_live_44 (by decide) (fun c_4 => ?_) (fun c_4 => ?_)
    · rw [if_pos c_4] at hf
      have hf := Option.some.inj hf
      subst hf
      obtain ⟨e_0, e_r⟩ := Prod.mk.inj (lpC_r hz)
      obtain ⟨e_1, e_r⟩ := Prod.mk.inj (e_r)
      obtain ⟨e_2, e_3⟩ := Prod.mk.inj (e_r)
      subst e_0
      subst e_1
      subst e_2
      subst e_3
      exact kk ls (lv_sub hl [0, 1, 2, 3, 4, 5] rfl)
    · rw [if_neg c_4] at hf
      refine lv_iload_n hx hb dX9_live_47 rfl (lv_at hl 2 rfl) ?_
      refine lv_aload_n hx hb dX9_live_48 rfl (lv_at hl 0 rfl) ?_
      refine lv_iconst (v := 0) hx hb dX9_live_49 (by decide) ?_
      refine lv_iload hx hb dX9_live_50 (lv_at hl 5 rfl) ?_
      obtain ⟨r_5, hc_6, hf⟩ := bd1 hf
      refine k_roVi (As := [.int 0, .int v5]) (rest := [.int v2]) S (c_X9_both l D cI (q := q) (qm := qm) (qi := qi) (qp := qp) (qo := qo) (qg := qg) (kept := kept) (im := im) (pm := pm) (om := om) (lo := lo) (hi_ := hi_) (cde := cde) (fr := fr) (sp := sp) (mm := mm) (inp := inp) (pk := pk) (out := out) (gr := gr) (x1 := 0) (x2 := v5)  (r := r_5) (hf := hc_6)) gs_X9_32 ok_X9_both ⟨rfl, rfl⟩ ⟨Nat.le_of_ble_eq_true rfl, Nat.le_of_ble_eq_true rfl⟩ hK hN hSF hP rfl rfl rfl hl.1 rfl (Nat.le_of_ble_eq_true rfl) ⟨Nat.zero_le _, Nat.zero_le _⟩ dX9_live_52 ?_
      refine lv_iadd hx hb dX9_live_55 ?_
      refine lv_istore_n (lv' := [(2, .int (v2 + r_5)), (0, .ref q), (1, .int v1), (3, .int v3), (4, .int v4), (5, .int v5)]) hx hb dX9_live_56 rfl hl (by decide) rfl (fun ls hl => ?_)
      refine lv_iload_n hx hb dX9_live_57 rfl (lv_at hl 3 rfl) ?_
      refine lv_iload_n hx hb dX9_live_58 rfl (lv_at hl 2 rfl) ?_
      refine lv_bipush (v := 6) hx hb dX9_live_59 (by decide) ?_
      refine lv_icmp_ne (tgt := 77) hx hb dX9_live_61 (by decide) (fun c_7 => ?_) (fun c_7 => ?_)
      · rw [if_neg c_7] at hf
        refine lv_iconst (v := 0) hx hb dX9_live_77 (by decide) ?_
        refine lv_iadd hx hb dX9_live_78 ?_
        refine lv_istore_n (lv' := [(3, .int (v3 + 0)), (2, .int (v2 + r_5)), (0, .ref q), (1, .int v1), (4, .int v4), (5, .int v5)]) hx hb dX9_live_79 rfl hl (by decide) rfl (fun ls hl => ?_)
        refine lv_iload_n hx hb dX9_live_80 rfl (lv_at hl 3 rfl) ?_
        refine lv_bipush (v := 7) hx hb dX9_live_81 (by decide) ?_
        refine lv_icmp_ne (tgt := 106) hx hb dX9_live_83 (by decide) (fun c_8 => ?_) (fun c_8 => ?_)
        · rw [if_neg c_8] at hf
          refine lv_iload hx hb dX9_live_106 (lv_at hl 4 rfl) ?_
          refine lv_istore (lv' := [(4, .int v4), (3, .int (v3 + 0)), (2, .int (v2 + r_5)), (0, .ref q), (1, .int v1), (5, .int v5)]) hx hb dX9_live_108 hl (by decide) rfl (fun ls hl => ?_)
          refine lv_iinc (v := v5 + 1) (lv' := [(5, .int (v5 + 1)), (4, .int v4), (3, .int (v3 + 0)), (2, .int (v2 + r_5)), (0, .ref q), (1, .int v1)]) hx hb dX9_live_110 hl (k := 5) rfl rfl (by decide) rfl (fun ls hl => ?_)
          refine lv_goto (tgt := 36) hx hb dX9_live_113 (by decide) ?_
          have hf := Option.some.inj hf
          subst hf
          exact ih (v2 + r_5) (v3 + 0) v4 (v5 + 1) _ _ _ _ hz ls hP (lv_sub hl [4, 5, 3, 2, 1, 0] rfl) kk
        · rw [if_pos c_8] at hf
          refine lv_aload_n hx hb dX9_live_86 rfl (lv_at hl 2 rfl) ?_
          refine lv_iload hx hb dX9_live_87 (lv_at hl 5 rfl) ?_
          obtain ⟨r_9, hc_10, hf⟩ := bd1 hf
          refine k_roVi (As := [.int v5]) (rest := []) S (c_X9_line l D cI (q := q) (qm := qm) (qi := qi) (qp := qp) (qo := qo) (qg := qg) (kept := kept) (im := im) (pm := pm) (om := om) (lo := lo) (hi_ := hi_) (cde := cde) (fr := fr) (sp := sp) (mm := mm) (inp := inp) (pk := pk) (out := out) (gr := gr) (x1 := v5)  (r := r_9) (hf := hc_10)) gs_X9_119 ok_X9_line ⟨rfl, rfl⟩ ⟨Nat.le_of_ble_eq_true rfl, Nat.le_of_ble_eq_true rfl⟩ hK hN hSF hP rfl rfl rfl hl.1 rfl (Nat.le_of_ble_eq_true rfl) ⟨Nat.zero_le _, Nat.zero_le _⟩ dX9_live_89 ?_
          refine lv_iload hx hb dX9_live_92 (lv_at hl 4 rfl) ?_
          refine lv_icmp_le (tgt := 106) hx hb dX9_live_94 (by decide) (fun c_11 => ?_) (fun c_11 => ?_)
          · rw [if_pos c_11] at hf
            refine lv_iload hx hb dX9_live_106 (lv_at hl 4 rfl) ?_
            refine lv_istore (lv' := [(4, .int v4), (3, .int (v3 + 0)), (2, .int (v2 + r_5)), (0, .ref q), (1, .int v1), (5, .int v5)]) hx hb dX9_live_108 hl (by decide) rfl (fun ls hl => ?_)
            refine lv_iinc (v := v5 + 1) (lv' := [(5, .int (v5 + 1)), (4, .int v4), (3, .int (v3 + 0)), (2, .int (v2 + r_5)), (0, .ref q), (1, .int v1)]) hx hb dX9_live_110 hl (k := 5) rfl rfl (by decide) rfl (fun ls hl => ?_)
            refine lv_goto (tgt := 36) hx hb dX9_live_113 (by decide) ?_
            have hf := Option.some.inj hf
            subst hf
            exact ih (v2 + r_5) (v3 + 0) v4 (v5 + 1) _ _ _ _ hz ls hP (lv_sub hl [4, 5, 3, 2, 1, 0] rfl) kk
          · rw [if_neg c_11] at hf
            refine lv_aload_n hx hb dX9_live_97 rfl (lv_at hl 2 rfl) ?_
            refine lv_iload hx hb dX9_live_98 (lv_at hl 5 rfl) ?_
            obtain ⟨r_12, hc_13, hf⟩ := bd1 hf
            refine k_roVi (As := [.int v5]) (rest := []) S (c_X9_line l D cI (q := q) (qm := qm) (qi := qi) (qp := qp) (qo := qo) (qg := qg) (kept := kept) (im := im) (pm := pm) (om := om) (lo := lo) (hi_ := hi_) (cde := cde) (fr := fr) (sp := sp) (mm := mm) (inp := inp) (pk := pk) (out := out) (gr := gr) (x1 := v5)  (r := r_12) (hf := hc_13)) gs_X9_119 ok_X9_line ⟨rfl, rfl⟩ ⟨Nat.le_of_ble_eq_true rfl, Nat.le_of_ble_eq_true rfl⟩ hK hN hSF hP rfl rfl rfl hl.1 rfl (Nat.le_of_ble_eq_true rfl) ⟨Nat.zero_le _, Nat.zero_le _⟩ dX9_live_100 ?_
            refine lv_goto (tgt := 108) hx hb dX9_live_103 (by decide) ?_
            refine lv_istore (lv' := [(4, .int r_12), (3, .int (v3 + 0)), (2, .int (v2 + r_5)), (0, .ref q), (1, .int v1), (5, .int v5)]) hx hb dX9_live_108 hl (by decide) rfl (fun ls hl => ?_)
            refine lv_iinc (v := v5 + 1) (lv' := [(5, .int (v5 + 1)), (4, .int r_12), (3, .int (v3 + 0)), (2, .int (v2 + r_5)), (0, .ref q), (1, .int v1)]) hx hb dX9_live_110 hl (k := 5) rfl rfl (by decide) rfl (fun ls hl => ?_)
            refine lv_goto (tgt := 36) hx hb dX9_live_113 (by decide) ?_
            have hf := Option.some.inj hf
            subst hf
            exact ih (v2 + r_5) (v3 + 0) r_12 (v5 + 1) _ _ _ _ hz ls hP (lv_sub hl [4, 5, 3, 2, 1, 0] rfl) kk
      · rw [if_pos c_7] at hf
        refine lv_aload_n hx hb dX9_live_64 rfl (lv_at hl 1 rfl) ?_
        refine lv_iload hx hb dX9_live_65 (lv_at hl 5 rfl) ?_
        obtain ⟨r_14, hc_15, hf⟩ := bd1 hf
        refine k_roVi (As := [.int v5]) (rest := [.int v3]) S (c_X9_flow l D cI (q := q) (qm := qm) (qi := qi) (qp := qp) (qo := qo) (qg := qg) (kept := kept) (im := im) (pm := pm) (om := om) (lo := lo) (hi_ := hi_) (cde := cde) (fr := fr) (sp := sp) (mm := mm) (inp := inp) (pk := pk) (out := out) (gr := gr) (x1 := v5)  (r := r_14) (hf := hc_15)) gs_X9_116 ok_X9_flow ⟨rfl, rfl⟩ ⟨Nat.le_of_ble_eq_true rfl, Nat.le_of_ble_eq_true rfl⟩ hK hN hSF hP rfl rfl rfl hl.1 rfl (Nat.le_of_ble_eq_true rfl) ⟨Nat.zero_le _, Nat.zero_le _⟩ dX9_live_67 ?_
        refine lv_if_ne (tgt := 77) hx hb dX9_live_70 (by decide) (fun c_16 => ?_) (fun c_16 => ?_)
        · rw [if_neg c_16] at hf
          refine lv_iconst (v := 0) hx hb dX9_live_77 (by decide) ?_
          refine lv_iadd hx hb dX9_live_78 ?_
          refine lv_istore_n (lv' := [(3, .int (v3 + 0)), (2, .int (v2 + r_5)), (0, .ref q), (1, .int v1), (4, .int v4), (5, .int v5)]) hx hb dX9_live_79 rfl hl (by decide) rfl (fun ls hl => ?_)
          refine lv_iload_n hx hb dX9_live_80 rfl (lv_at hl 3 rfl) ?_
          refine lv_bipush (v := 7) hx hb dX9_live_81 (by decide) ?_
          refine lv_icmp_ne (tgt := 106) hx hb dX9_live_83 (by decide) (fun c_17 => ?_) (fun c_17 => ?_)
          · rw [if_neg c_17] at hf
            refine lv_iload hx hb dX9_live_106 (lv_at hl 4 rfl) ?_
            refine lv_istore (lv' := [(4, .int v4), (3, .int (v3 + 0)), (2, .int (v2 + r_5)), (0, .ref q), (1, .int v1), (5, .int v5)]) hx hb dX9_live_108 hl (by decide) rfl (fun ls hl => ?_)
            refine lv_iinc (v := v5 + 1) (lv' := [(5, .int (v5 + 1)), (4, .int v4), (3, .int (v3 + 0)), (2, .int (v2 + r_5)), (0, .ref q), (1, .int v1)]) hx hb dX9_live_110 hl (k := 5) rfl rfl (by decide) rfl (fun ls hl => ?_)
            refine lv_goto (tgt := 36) hx hb dX9_live_113 (by decide) ?_
            have hf := Option.some.inj hf
            subst hf
            exact ih (v2 + r_5) (v3 + 0) v4 (v5 + 1) _ _ _ _ hz ls hP (lv_sub hl [4, 5, 3, 2, 1, 0] rfl) kk
          · rw [if_pos c_17] at hf
            refine lv_aload_n hx hb dX9_live_86 rfl (lv_at hl 2 rfl) ?_
            refine lv_iload hx hb dX9_live_87 (lv_at hl 5 rfl) ?_
            obtain ⟨r_18, hc_19, hf⟩ := bd1 hf
            refine k_roVi (As := [.int v5]) (rest := []) S (c_X9_line l D cI (q := q) (qm := qm) (qi := qi) (qp := qp) (qo := qo) (qg := qg) (kept := kept) (im := im) (pm := pm) (om := om) (lo := lo) (hi_ := hi_) (cde := cde) (fr := fr) (sp := sp) (mm := mm) (inp := inp) (pk := pk) (out := out) (gr := gr) (x1 := v5)  (r := r_18) (hf := hc_19)) gs_X9_119 ok_X9_line ⟨rfl, rfl⟩ ⟨Nat.le_of_ble_eq_true rfl, Nat.le_of_ble_eq_true rfl⟩ hK hN hSF hP rfl rfl rfl hl.1 rfl (Nat.le_of_ble_eq_true rfl) ⟨Nat.zero_le _, Nat.zero_le _⟩ dX9_live_89 ?_
            refine lv_iload hx hb dX9_live_92 (lv_at hl 4 rfl) ?_
            refine lv_icmp_le (tgt := 106) hx hb dX9_live_94 (by decide) (fun c_20 => ?_) (fun c_20 => ?_)
            · rw [if_pos c_20] at hf
              refine lv_iload hx hb dX9_live_106 (lv_at hl 4 rfl) ?_
              refine lv_istore (lv' := [(4, .int v4), (3, .int (v3 + 0)), (2, .int (v2 + r_5)), (0, .ref q), (1, .int v1), (5, .int v5)]) hx hb dX9_live_108 hl (by decide) rfl (fun ls hl => ?_)
              refine lv_iinc (v := v5 + 1) (lv' := [(5, .int (v5 + 1)), (4, .int v4), (3, .int (v3 + 0)), (2, .int (v2 + r_5)), (0, .ref q), (1, .int v1)]) hx hb dX9_live_110 hl (k := 5) rfl rfl (by decide) rfl (fun ls hl => ?_)
              refine lv_goto (tgt := 36) hx hb dX9_live_113 (by decide) ?_
              have hf := Option.some.inj hf
              subst hf
              exact ih (v2 + r_5) (v3 + 0) v4 (v5 + 1) _ _ _ _ hz ls hP (lv_sub hl [4, 5, 3, 2, 1, 0] rfl) kk
            · rw [if_neg c_20] at hf
              refine lv_aload_n hx hb dX9_live_97 rfl (lv_at hl 2 rfl) ?_
              refine lv_iload hx hb dX9_live_98 (lv_at hl 5 rfl) ?_
              obtain ⟨r_21, hc_22, hf⟩ := bd1 hf
              refine k_roVi (As := [.int v5]) (rest := []) S (c_X9_line l D cI (q := q) (qm := qm) (qi := qi) (qp := qp) (qo := qo) (qg := qg) (kept := kept) (im := im) (pm := pm) (om := om) (lo := lo) (hi_ := hi_) (cde := cde) (fr := fr) (sp := sp) (mm := mm) (inp := inp) (pk := pk) (out := out) (gr := gr) (x1 := v5)  (r := r_21) (hf := hc_22)) gs_X9_119 ok_X9_line ⟨rfl, rfl⟩ ⟨Nat.le_of_ble_eq_true rfl, Nat.le_of_ble_eq_true rfl⟩ hK hN hSF hP rfl rfl rfl hl.1 rfl (Nat.le_of_ble_eq_true rfl) ⟨Nat.zero_le _, Nat.zero_le _⟩ dX9_live_100 ?_
              refine lv_goto (tgt := 108) hx hb dX9_live_103 (by decide) ?_
              refine lv_istore (lv' := [(4, .int r_21), (3, .int (v3 + 0)), (2, .int (v2 + r_5)), (0, .ref q), (1, .int v1), (5, .int v5)]) hx hb dX9_live_108 hl (by decide) rfl (fun ls hl => ?_)
              refine lv_iinc (v := v5 + 1) (lv' := [(5, .int (v5 + 1)), (4, .int r_21), (3, .int (v3 + 0)), (2, .int (v2 + r_5)), (0, .ref q), (1, .int v1)]) hx hb dX9_live_110 hl (k := 5) rfl rfl (by decide) rfl (fun ls hl => ?_)
              refine lv_goto (tgt := 36) hx hb dX9_live_113 (by decide) ?_
              have hf := Option.some.inj hf
              subst hf
              exact ih (v2 + r_5) (v3 + 0) r_21 (v5 + 1) _ _ _ _ hz ls hP (lv_sub hl [4, 5, 3, 2, 1, 0] rfl) kk
        · rw [if_pos c_16] at hf
          refine lv_iconst (v := 1) hx hb dX9_live_73 (by decide) ?_
          refine lv_goto (tgt := 78) hx hb dX9_live_74 (by decide) ?_
          refine lv_iadd hx hb dX9_live_78 ?_
          refine lv_istore_n (lv' := [(3, .int (v3 + 1)), (2, .int (v2 + r_5)), (0, .ref q), (1, .int v1), (4, .int v4), (5, .int v5)]) hx hb dX9_live_79 rfl hl (by decide) rfl (fun ls hl => ?_)
          refine lv_iload_n hx hb dX9_live_80 rfl (lv_at hl 3 rfl) ?_
          refine lv_bipush (v := 7) hx hb dX9_live_81 (by decide) ?_
          refine lv_icmp_ne (tgt := 106) hx hb dX9_live_83 (by decide) (fun c_23 => ?_) (fun c_23 => ?_)
          · rw [if_neg c_23] at hf
            refine lv_iload hx hb dX9_live_106 (lv_at hl 4 rfl) ?_
            refine lv_istore (lv' := [(4, .int v4), (3, .int (v3 + 1)), (2, .int (v2 + r_5)), (0, .ref q), (1, .int v1), (5, .int v5)]) hx hb dX9_live_108 hl (by decide) rfl (fun ls hl => ?_)
            refine lv_iinc (v := v5 + 1) (lv' := [(5, .int (v5 + 1)), (4, .int v4), (3, .int (v3 + 1)), (2, .int (v2 + r_5)), (0, .ref q), (1, .int v1)]) hx hb dX9_live_110 hl (k := 5) rfl rfl (by decide) rfl (fun ls hl => ?_)
            refine lv_goto (tgt := 36) hx hb dX9_live_113 (by decide) ?_
            have hf := Option.some.inj hf
            subst hf
            exact ih (v2 + r_5) (v3 + 1) v4 (v5 + 1) _ _ _ _ hz ls hP (lv_sub hl [4, 5, 3, 2, 1, 0] rfl) kk
          · rw [if_pos c_23] at hf
            refine lv_aload_n hx hb dX9_live_86 rfl (lv_at hl 2 rfl) ?_
            refine lv_iload hx hb dX9_live_87 (lv_at hl 5 rfl) ?_
            obtain ⟨r_24, hc_25, hf⟩ := bd1 hf
            refine k_roVi (As := [.int v5]) (rest := []) S (c_X9_line l D cI (q := q) (qm := qm) (qi := qi) (qp := qp) (qo := qo) (qg := qg) (kept := kept) (im := im) (pm := pm) (om := om) (lo := lo) (hi_ := hi_) (cde := cde) (fr := fr) (sp := sp) (mm := mm) (inp := inp) (pk := pk) (out := out) (gr := gr) (x1 := v5)  (r := r_24) (hf := hc_25)) gs_X9_119 ok_X9_line ⟨rfl, rfl⟩ ⟨Nat.le_of_ble_eq_true rfl, Nat.le_of_ble_eq_true rfl⟩ hK hN hSF hP rfl rfl rfl hl.1 rfl (Nat.le_of_ble_eq_true rfl) ⟨Nat.zero_le _, Nat.zero_le _⟩ dX9_live_89 ?_
            refine lv_iload hx hb dX9_live_92 (lv_at hl 4 rfl) ?_
            refine lv_icmp_le (tgt := 106) hx hb dX9_live_94 (by decide) (fun c_26 => ?_) (fun c_26 => ?_)
            · rw [if_pos c_26] at hf
              refine lv_iload hx hb dX9_live_106 (lv_at hl 4 rfl) ?_
              refine lv_istore (lv' := [(4, .int v4), (3, .int (v3 + 1)), (2, .int (v2 + r_5)), (0, .ref q), (1, .int v1), (5, .int v5)]) hx hb dX9_live_108 hl (by decide) rfl (fun ls hl => ?_)
              refine lv_iinc (v := v5 + 1) (lv' := [(5, .int (v5 + 1)), (4, .int v4), (3, .int (v3 + 1)), (2, .int (v2 + r_5)), (0, .ref q), (1, .int v1)]) hx hb dX9_live_110 hl (k := 5) rfl rfl (by decide) rfl (fun ls hl => ?_)
              refine lv_goto (tgt := 36) hx hb dX9_live_113 (by decide) ?_
              have hf := Option.some.inj hf
              subst hf
              exact ih (v2 + r_5) (v3 + 1) v4 (v5 + 1) _ _ _ _ hz ls hP (lv_sub hl [4, 5, 3, 2, 1, 0] rfl) kk
            · rw [if_neg c_26] at hf
              refine lv_aload_n hx hb dX9_live_97 rfl (lv_at hl 2 rfl) ?_
              refine lv_iload hx hb dX9_live_98 (lv_at hl 5 rfl) ?_
              obtain ⟨r_27, hc_28, hf⟩ := bd1 hf
              refine k_roVi (As := [.int v5]) (rest := []) S (c_X9_line l D cI (q := q) (qm := qm) (qi := qi) (qp := qp) (qo := qo) (qg := qg) (kept := kept) (im := im) (pm := pm) (om := om) (lo := lo) (hi_ := hi_) (cde := cde) (fr := fr) (sp := sp) (mm := mm) (inp := inp) (pk := pk) (out := out) (gr := gr) (x1 := v5)  (r := r_27) (hf := hc_28)) gs_X9_119 ok_X9_line ⟨rfl, rfl⟩ ⟨Nat.le_of_ble_eq_true rfl, Nat.le_of_ble_eq_true rfl⟩ hK hN hSF hP rfl rfl rfl hl.1 rfl (Nat.le_of_ble_eq_true rfl) ⟨Nat.zero_le _, Nat.zero_le _⟩ dX9_live_100 ?_
              refine lv_goto (tgt := 108) hx hb dX9_live_103 (by decide) ?_
              refine lv_istore (lv' := [(4, .int r_27), (3, .int (v3 + 1)), (2, .int (v2 + r_5)), (0, .ref q), (1, .int v1), (5, .int v5)]) hx hb dX9_live_108 hl (by decide) rfl (fun ls hl => ?_)
              refine lv_iinc (v := v5 + 1) (lv' := [(5, .int (v5 + 1)), (4, .int r_27), (3, .int (v3 + 1)), (2, .int (v2 + r_5)), (0, .ref q), (1, .int v1)]) hx hb dX9_live_110 hl (k := 5) rfl rfl (by decide) rfl (fun ls hl => ?_)
              refine lv_goto (tgt := 36) hx hb dX9_live_113 (by decide) ?_
              have hf := Option.some.inj hf
              subst hf
              exact ih (v2 + r_5) (v3 + 1) r_27 (v5 + 1) _ _ _ _ hz ls hP (lv_sub hl [4, 5, 3, 2, 1, 0] rfl) kk
def f_X9_live (mm : (Nat → Int32)) (x1 : Int32) : Option (Int32) := if (f_X9_in ((x1).toInt64) (0 : Int64) (7 : Int64)) = 0 then (some (-1 : Int32)) else (if 5 ≤ x1 then (bi4 (f_X9_live_L36 x1 mm 4096 0 0 0 0) (fun (v2_29 : Int32) (v3_30 : Int32) (v4_31 : Int32) (v5_32 : Int32) => if x1 = 5 then (some v2_29) else (if x1 = 6 then (some v3_30) else (some v4_31)))) else (if x1 < 0 ∨ 5040 ≤ (x1).toNatClampNeg then none else (some (mm (x1).toNatClampNeg))))
set_option maxHeartbeats 4000000 in
set_option maxRecDepth 100000 in
theorem c_X9_live (l : Launch) (D : va_G) (cI : ClassId) (q : Nat) (qm : Nat) (qi : Nat) (qp : Nat) (qo : Nat) (qg : Nat) (kept : Int32) (im : Int32) (pm : Int32) (om : Int32) (lo : Int64) (hi_ : Int64) (cde : Int64) (fr : Int32) (sp : Int32) (mm : (Nat → Int32)) (inp : (Nat → Int32)) (pk : (Nat → Int32)) (out : (Nat → Int32)) (gr : (Nat → Int32)) (x1 : Int32) (r : Int32) (hf : f_X9_live mm x1 = some r) : Met l yX9_live (.code yX9_live cX9_live 6 (some .int) :: wsG) ({ frames := 1, cells := 0, slots := 0, locals := 25 }) (va_Pc [.ref q, .int x1] (gw D cI [(q, .inr (9, [.ref qm, .int kept, .ref qi, .int im, .ref qp, .int pm, .ref qo, .int om, .ref qg, .long lo, .long hi_, .long cde, .int fr, .int sp])), (qm, .inl (cI, 5040, .inl mm)), (qi, .inl (cI, 60, .inl inp)), (qp, .inl (cI, 2000, .inl pk)), (qo, .inl (cI, 60, .inl out)), (qg, .inl (cI, 6, .inl gr))])) (vp_Si (fun x => x = r)) 0 0 (fun _ => False) := by
  refine k_ro (by decide) rfl (Nat.le_of_ble_eq_true rfl) rfl ?_
  intro p e s m below meth c ls S hret hloc hK hN hSF hP hl
  obtain ⟨hx, hb, hml, hown, hts⟩ := id S
  unfold f_X9_live at hf
  refine lv_iload_n hx hb dX9_live_0 rfl (lv_at hl 1 rfl) ?_
  refine lv_i2l hx hb dX9_live_1 rfl ?_
  refine lv_lconst (v := 0) hx hb dX9_live_2 (by decide) ?_
  refine lv_ldc2 (v := (7 : Int64)) hx hb hown (hts _ ck_X9_114) dX9_live_3 ?_
  refine k_roSi (As := [.long ((x1).toInt64), .long (0 : Int64), .long (7 : Int64)]) (rest := []) S (c_X9_in l D cI (x1 := (x1).toInt64) (x2 := (0 : Int64)) (x3 := (7 : Int64))  (r := (f_X9_in ((x1).toInt64) (0 : Int64) (7 : Int64))) (hf := rfl)) gs_X9_46 ok_X9_in ⟨rfl, rfl⟩ ⟨Nat.le_of_ble_eq_true rfl, Nat.le_of_ble_eq_true rfl⟩ hK hN hSF (hP.sub [] rfl) rfl hl.1 rfl (Nat.le_of_ble_eq_true rfl) ⟨Nat.zero_le _, Nat.zero_le _⟩ dX9_live_6 ?_
  refine lv_if_ne (tgt := 14) hx hb dX9_live_9 (by decide) (fun c_1 => ?_) (fun c_1 => ?_)
  · rw [if_neg c_1] at hf
    refine lv_iload_n hx hb dX9_live_14 rfl (lv_at hl 1 rfl) ?_
    refine lv_iconst (v := 5) hx hb dX9_live_15 (by decide) ?_
    refine lv_icmp_ge (tgt := 26) hx hb dX9_live_16 (by decide) (fun c_2 => ?_) (fun c_2 => ?_)
    · rw [if_pos c_2] at hf
      refine lv_iconst (v := 0) hx hb dX9_live_26 (by decide) ?_
      refine lv_istore_n (lv' := [(2, .int 0), (0, .ref q), (1, .int x1)]) hx hb dX9_live_27 rfl hl (by decide) rfl (fun ls hl => ?_)
      refine lv_iconst (v := 0) hx hb dX9_live_28 (by decide) ?_
      refine lv_istore_n (lv' := [(3, .int 0), (2, .int 0), (0, .ref q), (1, .int x1)]) hx hb dX9_live_29 rfl hl (by decide) rfl (fun ls hl => ?_)
      refine lv_iconst (v := 0) hx hb dX9_live_30 (by decide) ?_
      refine lv_istore (lv' := [(4, .int 0), (3, .int 0), (2, .int 0), (0, .ref q), (1, .int x1)]) hx hb dX9_live_31 hl (by decide) rfl (fun ls hl => ?_)
      refine lv_iconst (v := 0) hx hb dX9_live_33 (by decide) ?_
      refine lv_istore (lv' := [(5, .int 0), (4, .int 0), (3, .int 0), (2, .int 0), (0, .ref q), (1, .int x1)]) hx hb dX9_live_34 hl (by decide) rfl (fun ls hl => ?_)
      obtain ⟨v2_29, v3_30, v4_31, v5_32, hc_33, hf⟩ := bd4 hf
      refine L_X9_live_36 S hK hN hSF _ 0 0 0 0 v2_29 v3_30 v4_31 v5_32 hc_33 _ hP (lv_sub hl [4, 5, 3, 2, 1, 0] rfl) (fun ls hl => ?_)
      refine lv_iload_n hx hb dX9_live_116 rfl (lv_at hl 1 rfl) ?_
      refine lv_iconst (v := 5) hx hb dX9_live_117 (by decide) ?_
      refine lv_icmp_ne (tgt := 125) hx hb dX9_live_118 (by decide) (fun c_34 => ?_) (fun c_34 => ?_)
      · rw [if_neg c_34] at hf
        refine lv_iload_n hx hb dX9_live_125 rfl (lv_at hl 1 rfl) ?_
        refine lv_bipush (v := 6) hx hb dX9_live_126 (by decide) ?_
        refine lv_icmp_ne (tgt := 135) hx hb dX9_live_128 (by decide) (fun c_35 => ?_) (fun c_35 => ?_)
        · rw [if_neg c_35] at hf
          refine lv_iload hx hb dX9_live_135 (lv_at hl 4 rfl) ?_
          exact k_reti hx hb hret hloc (Option.some.inj hf) dX9_live_137
        · rw [if_pos c_35] at hf
          refine lv_iload_n hx hb dX9_live_131 rfl (lv_at hl 3 rfl) ?_
          refine lv_goto (tgt := 137) hx hb dX9_live_132 (by decide) ?_
          exact k_reti hx hb hret hloc (Option.some.inj hf) dX9_live_137
      · rw [if_pos c_34] at hf
        refine lv_iload_n hx hb dX9_live_121 rfl (lv_at hl 2 rfl) ?_
        refine lv_goto (tgt := 137) hx hb dX9_live_122 (by decide) ?_
        exact k_reti hx hb hret hloc (Option.some.inj hf) dX9_live_137
    · rw [if_neg c_2] at hf
      refine lv_aload_n hx hb dX9_live_19 rfl (lv_at hl 0 rfl) ?_
      refine va_get (D := D) (ci := 9) (v := .ref qm) (C := RX9) (T := TX9) (N := 14) hx hb hts inGX9 hown hK hP 0 rfl rfl 0 (by decide) (hts _ fl_X9_7) (fun _ h9 => h9) rfl dX9_live_20 ?_
      refine lv_iload_n hx hb dX9_live_23 rfl (lv_at hl 1 rfl) ?_
      have b_36 : ¬ (x1 < 0 ∨ 5040 ≤ (x1).toNatClampNeg) := fun q => by rw [if_pos q] at hf; cases hf
      rw [if_neg b_36] at hf
      refine va_iald hx hb hK hP 1 0 rfl rfl b_36 dX9_live_24 ?_
      exact k_reti hx hb hret hloc (Option.some.inj hf) dX9_live_25
  · rw [if_pos c_1] at hf
    refine lv_iconst (v := (-1)) hx hb dX9_live_12 (by decide) ?_
    exact k_reti hx hb hret hloc (Option.some.inj hf) dX9_live_13
