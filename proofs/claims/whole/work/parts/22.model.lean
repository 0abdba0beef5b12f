theorem dX9_renew_0 : decode cX9_renew 0 = .ok (.aload_n 0, 1) := by decide +kernel
theorem dX9_renew_1 : decode cX9_renew 1 = .ok (.iconst 0, 1) := by decide +kernel
theorem dX9_renew_2 : decode cX9_renew 2 = .ok (.invokevirtual 25, 3) := by decide +kernel
theorem dX9_renew_5 : decode cX9_renew 5 = .ok (.aload_n 0, 1) := by decide +kernel
theorem dX9_renew_6 : decode cX9_renew 6 = .ok (.getfield 7, 3) := by decide +kernel
theorem dX9_renew_9 : decode cX9_renew 9 = .ok (.iconst 0, 1) := by decide +kernel
theorem dX9_renew_10 : decode cX9_renew 10 = .ok (.iaload, 1) := by decide +kernel
theorem dX9_renew_11 : decode cX9_renew 11 = .ok (.ireturn, 1) := by decide +kernel
theorem ok_X9_renews : okV yX9_renews RX9 1 := by decide +kernel
theorem gs_X9_25 : GoodIn wsG (wsV RX9 25 RX9 yX9_renews (.code yX9_renews cX9_renews 2 none :: wsG)) := good_V ml_X9_25 im_X9_renews se_X9_renews ini_X9 co_X9_renews
def f_X9_renew (mm : (Nat → Int32)) : Option (Int32 × (Nat → Int32)) := bi1 (f_X9_renews mm 0) (fun (mm_1 : (Nat → Int32)) => if (0 : Int32) < 0 ∨ 5040 ≤ ((0 : Int32)).toNatClampNeg then none else (some (mm_1 ((0 : Int32)).toNatClampNeg, mm_1)))
set_option maxHeartbeats 4000000 in
set_option maxRecDepth 100000 in
theorem c_X9_renew (l : Launch) (D : va_G) (cI : ClassId) {sz : Nat} (q : Nat) (qm : Nat) (qi : Nat) (qp : Nat) (qo : Nat) (qg : Nat) (kept : Int32) (im : Int32) (pm : Int32) (om : Int32) (lo : Int64) (hi_ : Int64) (cde : Int64) (fr : Int32) (sp : Int32) (mm : (Nat → Int32)) (inp : (Nat → Int32)) (pk : (Nat → Int32)) (out : (Nat → Int32)) (gr : (Nat → Int32)) (r : Int32) (o_mm : (Nat → Int32)) (hf : f_X9_renew mm = some (r, o_mm)) : Met l yX9_renew (.code yX9_renew cX9_renew 1 (some .int) :: wsG) ({ frames := 2, cells := 0, slots := 0, locals := 48 }) (va_Pc [.ref q] (gv D cI sz [(q, .inr (9, [.ref qm, .int kept, .ref qi, .int im, .ref qp, .int pm, .ref qo, .int om, .ref qg, .long lo, .long hi_, .long cde, .int fr, .int sp])), (qm, .inl (cI, 5040, .inl mm)), (qi, .inl (cI, 60, .inl inp)), (qp, .inl (cI, 2000, .inl pk)), (qo, .inl (cI, 60, .inl out)), (qg, .inl (cI, 6, .inl gr))])) (va_Qi (fun x (_ : Unit) => x = r) (gz D (va_A [(q, .inr (9, [.ref qm, .int kept, .ref qi, .int im, .ref qp, .int pm, .ref qo, .int om, .ref qg, .long lo, .long hi_, .long cde, .int fr, .int sp])), (qm, .inl (cI, 5040, .inl mm)), (qi, .inl (cI, 60, .inl inp)), (qp, .inl (cI, 2000, .inl pk)), (qo, .inl (cI, 60, .inl out)), (qg, .inl (cI, 6, .inl gr))] sz) [(q, .inr (9, [.ref qm, .int kept, .ref qi, .int im, .ref qp, .int pm, .ref qo, .int om, .ref qg, .long lo, .long hi_, .long cde, .int fr, .int sp])), (qm, .inl (cI, 5040, .inl o_mm)), (qi, .inl (cI, 60, .inl inp)), (qp, .inl (cI, 2000, .inl pk)), (qo, .inl (cI, 60, .inl out)), (qg, .inl (cI, 6, .inl gr))]) (va_A [(q, .inr (9, [.ref qm, .int kept, .ref qi, .int im, .ref qp, .int pm, .ref qo, .int om, .ref qg, .long lo, .long hi_, .long cde, .int fr, .int sp])), (qm, .inl (cI, 5040, .inl mm)), (qi, .inl (cI, 60, .inl inp)), (qp, .inl (cI, 2000, .inl pk)), (qo, .inl (cI, 60, .inl out)), (qg, .inl (cI, 6, .inl gr))] sz)) 0 0 (va_A [(q, .inr (9, [.ref qm, .int kept, .ref qi, .int im, .ref qp, .int pm, .ref qo, .int om, .ref qg, .long lo, .long hi_, .long cde, .int fr, .int sp])), (qm, .inl (cI, 5040, .inl mm)), (qi, .inl (cI, 60, .inl inp)), (qp, .inl (cI, 2000, .inl pk)), (qo, .inl (cI, 60, .inl out)), (qg, .inl (cI, 6, .inl gr))] sz) := by
  refine k_rw (y := yX9_renew) (cc := cX9_renew) (maxL := 1) (ret := (some .int)) (As := [.ref q]) (Qc := fun A => va_Qi (fun x (_ : Unit) => x = r) (gz D A [(q, .inr (9, [.ref qm, .int kept, .ref qi, .int im, .ref qp, .int pm, .ref qo, .int om, .ref qg, .long lo, .long hi_, .long cde, .int fr, .int sp])), (qm, .inl (cI, 5040, .inl o_mm)), (qi, .inl (cI, 60, .inl inp)), (qp, .inl (cI, 2000, .inl pk)), (qo, .inl (cI, 60, .inl out)), (qg, .inl (cI, 6, .inl gr))]) A) (by decide) rfl (Nat.le_of_ble_eq_true rfl) rfl ?_
  intro p e s m below meth c ls A S hret hloc hK hN hSF hP hD hS hA hl
  obtain ⟨hx, hb, hml, hown, hts⟩ := id S
  unfold f_X9_renew at hf
  refine lv_aload_n hx hb dX9_renew_0 rfl (lv_at hl 0 rfl) ?_
  refine lv_iconst (v := 0) hx hb dX9_renew_1 (by decide) ?_
  obtain ⟨mm_1, hc_2, hf⟩ := bd1 hf
  refine k_rwVv (As := [.int 0]) (rest := []) (Wr := []) (W2 := [(q, .inr (9, [.ref qm, .int kept, .ref qi, .int im, .ref qp, .int pm, .ref qo, .int om, .ref qg, .long lo, .long hi_, .long cde, .int fr, .int sp])), (qm, .inl (cI, 5040, .inl mm_1)), (qi, .inl (cI, 60, .inl inp)), (qp, .inl (cI, 2000, .inl pk)), (qo, .inl (cI, 60, .inl out)), (qg, .inl (cI, 6, .inl gr))]) S (c_X9_renews l D cI (q := q) (qm := qm) (qi := qi) (qp := qp) (qo := qo) (qg := qg) (kept := kept) (im := im) (pm := pm) (om := om) (lo := lo) (hi_ := hi_) (cde := cde) (fr := fr) (sp := sp) (mm := mm) (inp := inp) (pk := pk) (out := out) (gr := gr) (x1 := 0)  (o_mm := mm_1) (hf := hc_2)) gs_X9_25 ok_X9_renews ⟨rfl, rfl⟩ ⟨Nat.le_of_ble_eq_true rfl, Nat.le_of_ble_eq_true rfl⟩ hK hN hSF hP hD hS hA [0, 1, 2, 3, 4, 5] [] [0, 1, 2, 3, 4, 5] (by decide) rfl rfl (by decide) (by decide) rfl (by decide) rfl rfl rfl hl.1 rfl (Nat.le_of_ble_eq_true rfl) ⟨Nat.zero_le _, Nat.zero_le _⟩ dX9_renew_2 (fun H locs hP hD hS => ?_)
  refine lv_aload_n hx hb dX9_renew_5 rfl (lv_at hl 0 rfl) ?_
  refine va_get (D := D) (ci := 9) (v := .ref qm) (C := RX9) (T := TX9) (N := 14) hx hb hts inGX9 hown hK hP 0 rfl rfl 0 (by decide) (hts _ fl_X9_7) (fun _ h9 => h9) rfl dX9_renew_6 ?_
  refine lv_iconst (v := 0) hx hb dX9_renew_9 (by decide) ?_
  have b_3 : ¬ ((0 : Int32) < 0 ∨ 5040 ≤ ((0 : Int32)).toNatClampNeg) := fun q => by rw [if_pos q] at hf; cases hf
  rw [if_neg b_3] at hf
  refine va_iald hx hb hK hP 1 0 rfl rfl b_3 dX9_renew_10 ?_
  obtain ⟨e_0, e_1⟩ := Prod.mk.inj (Option.some.inj hf)
  subst e_0
  subst e_1
  exact k_wreti hx hb hret hloc rfl hP hD hS dX9_renew_11
theorem dX9_write_0 : decode cX9_write 0 = .ok (.iload_n 1, 1) := by decide +kernel
theorem dX9_write_1 : decode cX9_write 1 = .ok (.i2l, 1) := by decide +kernel
theorem dX9_write_2 : decode cX9_write 2 = .ok (.lconst 0, 1) := by decide +kernel
theorem dX9_write_3 : decode cX9_write 3 = .ok (.ldc2_w 56, 3) := by decide +kernel
theorem dX9_write_6 : decode cX9_write 6 = .ok (.invokestatic 46, 3) := by decide +kernel
theorem dX9_write_9 : decode cX9_write 9 = .ok (.ifCond .ne 5, 3) := by decide +kernel
theorem dX9_write_12 : decode cX9_write 12 = .ok (.iconst (-1), 1) := by decide +kernel
theorem dX9_write_13 : decode cX9_write 13 = .ok (.ireturn, 1) := by decide +kernel
theorem dX9_write_14 : decode cX9_write 14 = .ok (.aload_n 0, 1) := by decide +kernel
theorem dX9_write_15 : decode cX9_write 15 = .ok (.getfield 58, 3) := by decide +kernel
theorem dX9_write_18 : decode cX9_write 18 = .ok (.bipush 60, 2) := by decide +kernel
theorem dX9_write_20 : decode cX9_write 20 = .ok (.if_icmp .ne 6, 3) := by decide +kernel
theorem dX9_write_23 : decode cX9_write 23 = .ok (.bipush (-3), 2) := by decide +kernel
theorem dX9_write_25 : decode cX9_write 25 = .ok (.ireturn, 1) := by decide +kernel
theorem dX9_write_26 : decode cX9_write 26 = .ok (.aload_n 0, 1) := by decide +kernel
theorem dX9_write_27 : decode cX9_write 27 = .ok (.getfield 13, 3) := by decide +kernel
theorem dX9_write_30 : decode cX9_write 30 = .ok (.aload_n 0, 1) := by decide +kernel
theorem dX9_write_31 : decode cX9_write 31 = .ok (.getfield 58, 3) := by decide +kernel
theorem dX9_write_34 : decode cX9_write 34 = .ok (.iload_n 1, 1) := by decide +kernel
theorem dX9_write_35 : decode cX9_write 35 = .ok (.iastore, 1) := by decide +kernel
theorem dX9_write_36 : decode cX9_write 36 = .ok (.aload_n 0, 1) := by decide +kernel
theorem dX9_write_37 : decode cX9_write 37 = .ok (.dup, 1) := by decide +kernel
theorem dX9_write_38 : decode cX9_write 38 = .ok (.getfield 58, 3) := by decide +kernel
theorem dX9_write_41 : decode cX9_write 41 = .ok (.iconst 1, 1) := by decide +kernel
theorem dX9_write_42 : decode cX9_write 42 = .ok (.iadd, 1) := by decide +kernel
theorem dX9_write_43 : decode cX9_write 43 = .ok (.putfield 58, 3) := by decide +kernel
theorem dX9_write_46 : decode cX9_write 46 = .ok (.aload_n 0, 1) := by decide +kernel
theorem dX9_write_47 : decode cX9_write 47 = .ok (.getfield 58, 3) := by decide +kernel
theorem dX9_write_50 : decode cX9_write 50 = .ok (.ireturn, 1) := by decide +kernel
theorem ok_X9_in : okS yX9_in 3 := by decide +kernel
theorem gs_X9_46 : GoodIn wsG (va_wsS RX9 46 yX9_in (.code yX9_in cX9_in 6 (some .boolean) :: wsG)) := good_S ml_X9_46 st_X9_in ini_X9 co_X9_in
def f_X9_write (im : Int32) (inp : (Nat → Int32)) (x1 : Int32) : Option (Int32 × Int32 × (Nat → Int32)) := if (f_X9_in ((x1).toInt64) (0 : Int64) (255 : Int64)) = 0 then (some ((-1 : Int32), im, inp)) else (if im = 60 then (some ((-3 : Int32), im, inp)) else (if im < 0 ∨ 60 ≤ (im).toNatClampNeg then none else (some (im + 1, im + 1, upd inp (im).toNatClampNeg x1))))
set_option maxHeartbeats 4000000 in
set_option maxRecDepth 100000 in
theorem c_X9_write (l : Launch) (D : va_G) (cI : ClassId) {sz : Nat} (q : Nat) (qm : Nat) (qi : Nat) (qp : Nat) (qo : Nat) (qg : Nat) (kept : Int32) (im : Int32) (pm : Int32) (om : Int32) (lo : Int64) (hi_ : Int64) (cde : Int64) (fr : Int32) (sp : Int32) (mm : (Nat → Int32)) (inp : (Nat → Int32)) (pk : (Nat → Int32)) (out : (Nat → Int32)) (gr : (Nat → Int32)) (x1 : Int32) (r : Int32) (o_im : Int32) (o_inp : (Nat → Int32)) (hf : f_X9_write im inp x1 = some (r, o_im, o_inp)) : Met l yX9_write (.code yX9_write cX9_write 2 (some .int) :: wsG) ({ frames := 1, cells := 0, slots := 0, locals := 25 }) (va_Pc [.ref q, .int x1] (gv D cI sz [(q, .inr (9, [.ref qm, .int kept, .ref qi, .int im, .ref qp, .int pm, .ref qo, .int om, .ref qg, .long lo, .long hi_, .long cde, .int fr, .int sp])), (qm, .inl (cI, 5040, .inl mm)), (qi, .inl (cI, 60, .inl inp)), (qp, .inl (cI, 2000, .inl pk)), (qo, .inl (cI, 60, .inl out)), (qg, .inl (cI, 6, .inl gr))])) (va_Qi (fun x (_ : Unit) => x = r) (gz D (va_A [(q, .inr (9, [.ref qm, .int kept, .ref qi, .int im, .ref qp, .int pm, .ref qo, .int om, .ref qg, .long lo, .long hi_, .long cde, .int fr, .int sp])), (qm, .inl (cI, 5040, .inl mm)), (qi, .inl (cI, 60, .inl inp)), (qp, .inl (cI, 2000, .inl pk)), (qo, .inl (cI, 60, .inl out)), (qg, .inl (cI, 6, .inl gr))] sz) [(q, .inr (9, [.ref qm, .int kept, .ref qi, .int o_im, .ref qp, .int pm, .ref qo, .int om, .ref qg, .long lo, .long hi_, .long cde, .int fr, .int sp])), (qm, .inl (cI, 5040, .inl mm)), (qi, .inl (cI, 60, .inl o_inp)), (qp, .inl (cI, 2000, .inl pk)), (qo, .inl (cI, 60, .inl out)), (qg, .inl (cI, 6, .inl gr))]) (va_A [(q, .inr (9, [.ref qm, .int kept, .ref qi, .int im, .ref qp, .int pm, .ref qo, .int om, .ref qg, .long lo, .long hi_, .long cde, .int fr, .int sp])), (qm, .inl (cI, 5040, .inl mm)), (qi, .inl (cI, 60, .inl inp)), (qp, .inl (cI, 2000, .inl pk)), (qo, .inl (cI, 60, .inl out)), (qg, .inl (cI, 6, .inl gr))] sz)) 0 0 (va_A [(q, .inr (9, [.ref qm, .int kept, .ref qi, .int im, .ref qp, .int pm, .ref qo, .int om, .ref qg, .long lo, .long hi_, .long cde, .int fr, .int sp])), (qm, .inl (cI, 5040, .inl mm)), (qi, .inl (cI, 60, .inl inp)), (qp, .inl (cI, 2000, .inl pk)), (qo, .inl (cI, 60, .inl out)), (qg, .inl (cI, 6, .inl gr))] sz) := by
  refine k_rw (y := yX9_write) (cc := cX9_write) (maxL := 2) (ret := (some .int)) (As := [.ref q, .int x1]) (Qc := fun A => va_Qi (fun x (_ : Unit) => x = r) (gz D A [(q, .inr (9, [.ref qm, .int kept, .ref qi, .int o_im, .ref qp, .int pm, .ref qo, .int om, .ref qg, .long lo, .long hi_, .long cde, .int fr, .int sp])), (qm, .inl (cI, 5040, .inl mm)), (qi, .inl (cI, 60, .inl o_inp)), (qp, .inl (cI, 2000, .inl pk)), (qo, .inl (cI, 60, .inl out)), (qg, .inl (cI, 6, .inl gr))]) A) (by decide) rfl (Nat.le_of_ble_eq_true rfl) rfl ?_
  intro p e s m below meth c ls A S hret hloc hK hN hSF hP hD hS hA hl
  obtain ⟨hx, hb, hml, hown, hts⟩ := id S
  unfold f_X9_write at hf
  refine lv_iload_n hx hb dX9_write_0 rfl (lv_at hl 1 rfl) ?_
  refine lv_i2l hx hb dX9_write_1 rfl ?_
  refine lv_lconst (v := 0) hx hb dX9_write_2 (by decide) ?_
  refine lv_ldc2 (v := (255 : Int64)) hx hb hown (hts _ ck_X9_56) dX9_write_3 ?_
  refine k_roSi (As := [.long ((x1).toInt64), .long (0 : Int64), .long (255 : Int64)]) (rest := []) S (c_X9_in l D cI (x1 := (x1).toInt64) (x2 := (0 : Int64)) (x3 := (255 : Int64))  (r := (f_X9_in ((x1).toInt64) (0 : Int64) (255 : Int64))) (hf := rfl)) gs_X9_46 ok_X9_in ⟨rfl, rfl⟩ ⟨Nat.le_of_ble_eq_true rfl, Nat.le_of_ble_eq_true rfl⟩ hK hN (sfr hSF hS) (hP.sub [] rfl) rfl hl.1 rfl (Nat.le_of_ble_eq_true rfl) ⟨Nat.zero_le _, Nat.zero_le _⟩ dX9_write_6 ?_
  refine lv_if_ne (tgt := 14) hx hb dX9_write_9 (by decide) (fun c_1 => ?_) (fun c_1 => ?_)
  · rw [if_neg c_1] at hf
    refine lv_aload_n hx hb dX9_write_14 rfl (lv_at hl 0 rfl) ?_
    refine va_get (D := D) (ci := 9) (v := .int im) (C := RX9) (T := TX9) (N := 14) hx hb hts inGX9 hown hK hP 0 rfl rfl 3 (by decide) (hts _ fl_X9_58) (fun _ h9 => h9) rfl dX9_write_15 ?_
    refine lv_bipush (v := 60) hx hb dX9_write_18 (by decide) ?_
    refine lv_icmp_ne (tgt := 26) hx hb dX9_write_20 (by decide) (fun c_2 => ?_) (fun c_2 => ?_)
    · rw [if_neg c_2] at hf
      refine lv_aload_n hx hb dX9_write_26 rfl (lv_at hl 0 rfl) ?_
      refine va_get (D := D) (ci := 9) (v := .ref qi) (C := RX9) (T := TX9) (N := 14) hx hb hts inGX9 hown hK hP 0 rfl rfl 2 (by decide) (hts _ fl_X9_13) (fun _ h9 => h9) rfl dX9_write_27 ?_
      refine lv_aload_n hx hb dX9_write_30 rfl (lv_at hl 0 rfl) ?_
      refine va_get (D := D) (ci := 9) (v := .int im) (C := RX9) (T := TX9) (N := 14) hx hb hts inGX9 hown hK hP 0 rfl rfl 3 (by decide) (hts _ fl_X9_58) (fun _ h9 => h9) rfl dX9_write_31 ?_
      refine lv_iload_n hx hb dX9_write_34 rfl (lv_at hl 1 rfl) ?_
      have b_3 : ¬ (im < 0 ∨ 60 ≤ (im).toNatClampNeg) := fun q => by rw [if_pos q] at hf; cases hf
      rw [if_neg b_3] at hf
      refine va_iast hx hb hK hP hD hS 2 0 rfl rfl b_3 dX9_write_35 (fun H locs hP hD hS => ?_)
      have hP : va_P D vwCl [(q, .inr (9, [.ref qm, .int kept, .ref qi, .int im, .ref qp, .int pm, .ref qo, .int om, .ref qg, .long lo, .long hi_, .long cde, .int fr, .int sp])), (qm, .inl (cI, 5040, .inl mm)), (qi, .inl (cI, 60, .inl (upd inp (im).toNatClampNeg x1))), (qp, .inl (cI, 2000, .inl pk)), (qo, .inl (cI, 60, .inl out)), (qg, .inl (cI, 6, .inl gr))] H := hP
      have hD : va_D A [(q, .inr (9, [.ref qm, .int kept, .ref qi, .int im, .ref qp, .int pm, .ref qo, .int om, .ref qg, .long lo, .long hi_, .long cde, .int fr, .int sp])), (qm, .inl (cI, 5040, .inl mm)), (qi, .inl (cI, 60, .inl (upd inp (im).toNatClampNeg x1))), (qp, .inl (cI, 2000, .inl pk)), (qo, .inl (cI, 60, .inl out)), (qg, .inl (cI, 6, .inl gr))] := hD
      refine lv_aload_n hx hb dX9_write_36 rfl (lv_at hl 0 rfl) ?_
      refine lv_dup hx hb dX9_write_37 rfl ?_
      refine va_get (D := D) (ci := 9) (v := .int im) (C := RX9) (T := TX9) (N := 14) hx hb hts inGX9 hown hK hP 0 rfl rfl 3 (by decide) (hts _ fl_X9_58) (fun _ h9 => h9) rfl dX9_write_38 ?_
      refine lv_iconst (v := 1) hx hb dX9_write_41 (by decide) ?_
      refine lv_iadd hx hb dX9_write_42 ?_
      refine va_put (D := D) (ci := 9) (v := .int (im + 1)) (ty := .int) (C := RX9) (T := TX9) (N := 14) hx hb hts inGX9 tyX9 tyX9_ok nmX9 hown hK hP hD hS 0 rfl rfl 3 (by decide) (hts _ fl_X9_58) (fun _ h9 => h9) rfl (by decide +kernel) rfl rfl (Nat.le_of_ble_eq_true rfl) dX9_write_43 (fun H locs hP hD hS => ?_)
      have hP : va_P D vwCl [(q, .inr (9, [.ref qm, .int kept, .ref qi, .int (im + 1), .ref qp, .int pm, .ref qo, .int om, .ref qg, .long lo, .long hi_, .long cde, .int fr, .int sp])), (qm, .inl (cI, 5040, .inl mm)), (qi, .inl (cI, 60, .inl (upd inp (im).toNatClampNeg x1))), (qp, .inl (cI, 2000, .inl pk)), (qo, .inl (cI, 60, .inl out)), (qg, .inl (cI, 6, .inl gr))] H := hP
      have hD : va_D A [(q, .inr (9, [.ref qm, .int kept, .ref qi, .int (im + 1), .ref qp, .int pm, .ref qo, .int om, .ref qg, .long lo, .long hi_, .long cde, .int fr, .int sp])), (qm, .inl (cI, 5040, .inl mm)), (qi, .inl (cI, 60, .inl (upd inp (im).toNatClampNeg x1))), (qp, .inl (cI, 2000, .inl pk)), (qo, .inl (cI, 60, .inl out)), (qg, .inl (cI, 6, .inl gr))] := hD
      refine lv_aload_n hx hb dX9_write_46 rfl (lv_at hl 0 rfl) ?_
      refine va_get (D := D) (ci := 9) (v := .int (im + 1)) (C := RX9) (T := TX9) (N := 14) hx hb hts inGX9 hown hK hP 0 rfl rfl 3 (by decide) (hts _ fl_X9_58) (fun _ h9 => h9) rfl dX9_write_47 ?_
      obtain ⟨e_0, e_r⟩ := Prod.mk.inj (Option.some.inj hf)
      obtain ⟨e_1, e_2⟩ := Prod.mk.inj (e_r)
      subst e_0
      subst e_1
      subst e_2
      exact k_wreti hx hb hret hloc rfl hP hD hS dX9_write_50
    · rw [if_pos c_2] at hf
      refine lv_bipush (v := (-3)) hx hb dX9_write_23 (by decide) ?_
      obtain ⟨e_0, e_r⟩ := Prod.mk.inj (Option.some.inj hf)
      obtain ⟨e_1, e_2⟩ := Prod.mk.inj (e_r)
      subst e_0
      subst e_1
      subst e_2
      exact k_wreti hx hb hret hloc rfl hP hD hS dX9_write_25
  · rw [if_pos c_1] at hf
    refine lv_iconst (v := (-1)) hx hb dX9_write_12 (by decide) ?_
    obtain ⟨e_0, e_r⟩ := Prod.mk.inj (Option.some.inj hf)
    obtain ⟨e_1, e_2⟩ := Prod.mk.inj (e_r)
    subst e_0
    subst e_1
    subst e_2
    exact k_wreti hx hb hret hloc rfl hP hD hS dX9_write_13
theorem dX9_wipe_0 : decode cX9_wipe 0 = .ok (.aload_n 0, 1) := by decide +kernel
theorem dX9_wipe_1 : decode cX9_wipe 1 = .ok (.getfield 58, 3) := by decide +kernel
theorem dX9_wipe_4 : decode cX9_wipe 4 = .ok (.istore_n 1, 1) := by decide +kernel
theorem dX9_wipe_5 : decode cX9_wipe 5 = .ok (.aload_n 0, 1) := by decide +kernel
theorem dX9_wipe_6 : decode cX9_wipe 6 = .ok (.iconst 0, 1) := by decide +kernel
theorem dX9_wipe_7 : decode cX9_wipe 7 = .ok (.putfield 58, 3) := by decide +kernel
theorem dX9_wipe_10 : decode cX9_wipe 10 = .ok (.iload_n 1, 1) := by decide +kernel
theorem dX9_wipe_11 : decode cX9_wipe 11 = .ok (.ireturn, 1) := by decide +kernel
def f_X9_wipe (im : Int32) : Option (Int32 × Int32) := some (im, 0)
set_option maxHeartbeats 4000000 in
set_option maxRecDepth 100000 in
theorem c_X9_wipe (l : Launch) (D : va_G) (cI : ClassId) {sz : Nat} (q : Nat) (qm : Nat) (qi : Nat) (qp : Nat) (qo : Nat) (qg : Nat) (kept : Int32) (im : Int32) (pm : Int32) (om : Int32) (lo : Int64) (hi_ : Int64) (cde : Int64) (fr : Int32) (sp : Int32) (mm : (Nat → Int32)) (inp : (Nat → Int32)) (pk : (Nat → Int32)) (out : (Nat → Int32)) (gr : (Nat → Int32)) (r : Int32) (o_im : Int32) (hf : f_X9_wipe im = some (r, o_im)) : Met l yX9_wipe (.code yX9_wipe cX9_wipe 2 (some .int) :: wsG) ({ frames := 0, cells := 0, slots := 0, locals := 0 }) (va_Pc [.ref q] (gv D cI sz [(q, .inr (9, [.ref qm, .int kept, .ref qi, .int im, .ref qp, .int pm, .ref qo, .int om, .ref qg, .long lo, .long hi_, .long cde, .int fr, .int sp])), (qm, .inl (cI, 5040, .inl mm)), (qi, .inl (cI, 60, .inl inp)), (qp, .inl (cI, 2000, .inl pk)), (qo, .inl (cI, 60, .inl out)), (qg, .inl (cI, 6, .inl gr))])) (va_Qi (fun x (_ : Unit) => x = r) (gz D (va_A [(q, .inr (9, [.ref qm, .int kept, .ref qi, .int im, .ref qp, .int pm, .ref qo, .int om, .ref qg, .long lo, .long hi_, .long cde, .int fr, .int sp])), (qm, .inl (cI, 5040, .inl mm)), (qi, .inl (cI, 60, .inl inp)), (qp, .inl (cI, 2000, .inl pk)), (qo, .inl (cI, 60, .inl out)), (qg, .inl (cI, 6, .inl gr))] sz) [(q, .inr (9, [.ref qm, .int kept, .ref qi, .int o_im, .ref qp, .int pm, .ref qo, .int om, .ref qg, .long lo, .long hi_, .long cde, .int fr, .int sp])), (qm, .inl (cI, 5040, .inl mm)), (qi, .inl (cI, 60, .inl inp)), (qp, .inl (cI, 2000, .inl pk)), (qo, .inl (cI, 60, .inl out)), (qg, .inl (cI, 6, .inl gr))]) (va_A [(q, .inr (9, [.ref qm, .int kept, .ref qi, .int im, .ref qp, .int pm, .ref qo, .int om, .ref qg, .long lo, .long hi_, .long cde, .int fr, .int sp])), (qm, .inl (cI, 5040, .inl mm)), (qi, .inl (cI, 60, .inl inp)), (qp, .inl (cI, 2000, .inl pk)), (qo, .inl (cI, 60, .inl out)), (qg, .inl (cI, 6, .inl gr))] sz)) 0 0 (va_A [(q, .inr (9, [.ref qm, .int kept, .ref qi, .int im, .ref qp, .int pm, .ref qo, .int om, .ref qg, .long lo, .long hi_, .long cde, .int fr, .int sp])), (qm, .inl (cI, 5040, .inl mm)), (qi, .inl (cI, 60, .inl inp)), (qp, .inl (cI, 2000, .inl pk)), (qo, .inl (cI, 60, .inl out)), (qg, .inl (cI, 6, .inl gr))] sz) := by
  refine k_rw (y := yX9_wipe) (cc := cX9_wipe) (maxL := 2) (ret := (some .int)) (As := [.ref q]) (Qc := fun A => va_Qi (fun x (_ : Unit) => x = r) (gz D A [(q, .inr (9, [.ref qm, .int kept, .ref qi, .int o_im, .ref qp, .int pm, .ref qo, .int om, .ref qg, .long lo, .long hi_, .long cde, .int fr, .int sp])), (qm, .inl (cI, 5040, .inl mm)), (qi, .inl (cI, 60, .inl inp)), (qp, .inl (cI, 2000, .inl pk)), (qo, .inl (cI, 60, .inl out)), (qg, .inl (cI, 6, .inl gr))]) A) (by decide) rfl (Nat.le_of_ble_eq_true rfl) rfl ?_
  intro p e s m below meth c ls A S hret hloc hK hN hSF hP hD hS hA hl
  obtain ⟨hx, hb, hml, hown, hts⟩ := id S
  unfold f_X9_wipe at hf
  refine lv_aload_n hx hb dX9_wipe_0 rfl (lv_at hl 0 rfl) ?_
  refine va_get (D := D) (ci := 9) (v := .int im) (C := RX9) (T := TX9) (N := 14) hx hb hts inGX9 hown hK hP 0 rfl rfl 3 (by decide) (hts _ fl_X9_58) (fun _ h9 => h9) rfl dX9_wipe_1 ?_
  refine lv_istore_n (lv' := [(1, .int im), (0, .ref q)]) hx hb dX9_wipe_4 rfl hl (by decide) rfl (fun ls hl => ?_)
  refine lv_aload_n hx hb dX9_wipe_5 rfl (lv_at hl 1 rfl) ?_
  refine lv_iconst (v := 0) hx hb dX9_wipe_6 (by decide) ?_
  refine va_put (D := D) (ci := 9) (v := .int 0) (ty := .int) (C := RX9) (T := TX9) (N := 14) hx hb hts inGX9 tyX9 tyX9_ok nmX9 hown hK hP hD hS 0 rfl rfl 3 (by decide) (hts _ fl_X9_58) (fun _ h9 => h9) rfl (by decide +kernel) rfl rfl (Nat.le_of_ble_eq_true rfl) dX9_wipe_7 (fun H locs hP hD hS => ?_)
  have hP : va_P D vwCl [(q, .inr (9, [.ref qm, .int kept, .ref qi, .int 0, .ref qp, .int pm, .ref qo, .int om, .ref qg, .long lo, .long hi_, .long cde, .int fr, .int sp])), (qm, .inl (cI, 5040, .inl mm)), (qi, .inl (cI, 60, .inl inp)), (qp, .inl (cI, 2000, .inl pk)), (qo, .inl (cI, 60, .inl out)), (qg, .inl (cI, 6, .inl gr))] H := hP
  have hD : va_D A [(q, .inr (9, [.ref qm, .int kept, .ref qi, .int 0, .ref qp, .int pm, .ref qo, .int om, .ref qg, .long lo, .long hi_, .long cde, .int fr, .int sp])), (qm, .inl (cI, 5040, .inl mm)), (qi, .inl (cI, 60, .inl inp)), (qp, .inl (cI, 2000, .inl pk)), (qo, .inl (cI, 60, .inl out)), (qg, .inl (cI, 6, .inl gr))] := hD
  refine lv_iload_n hx hb dX9_wipe_10 rfl (lv_at hl 0 rfl) ?_
  obtain ⟨e_0, e_1⟩ := Prod.mk.inj (Option.some.inj hf)
  subst e_0
  subst e_1
  exact k_wreti hx hb hret hloc rfl hP hD hS dX9_wipe_11
theorem dX9_place_0 : decode cX9_place 0 = .ok (.aload_n 0, 1) := by decide +kernel
theorem dX9_place_1 : decode cX9_place 1 = .ok (.getfield 7, 3) := by decide +kernel
theorem dX9_place_4 : decode cX9_place 4 = .ok (.bipush 9, 2) := by decide +kernel
theorem dX9_place_6 : decode cX9_place 6 = .ok (.iaload, 1) := by decide +kernel
theorem dX9_place_7 : decode cX9_place 7 = .ok (.ifCond .ne 10, 3) := by decide +kernel
theorem dX9_place_10 : decode cX9_place 10 = .ok (.bipush 7, 2) := by decide +kernel
theorem dX9_place_12 : decode cX9_place 12 = .ok (.iload_n 1, 1) := by decide +kernel
theorem dX9_place_13 : decode cX9_place 13 = .ok (.isub, 1) := by decide +kernel
theorem dX9_place_14 : decode cX9_place 14 = .ok (.goto 4, 3) := by decide +kernel
theorem dX9_place_17 : decode cX9_place 17 = .ok (.iload_n 1, 1) := by decide +kernel
theorem dX9_place_18 : decode cX9_place 18 = .ok (.ireturn, 1) := by decide +kernel
def f_X9_place (mm : (Nat → Int32)) (x1 : Int32) : Option (Int32) := if (9 : Int32) < 0 ∨ 5040 ≤ ((9 : Int32)).toNatClampNeg then none else (if (mm ((9 : Int32)).toNatClampNeg) = 0 then (some (7 - x1)) else (some x1))
set_option maxHeartbeats 4000000 in
set_option maxRecDepth 100000 in
theorem c_X9_place (l : Launch) (D : va_G) (cI : ClassId) (q : Nat) (qm : Nat) (qi : Nat) (qp : Nat) (qo : Nat) (qg : Nat) (kept : Int32) (im : Int32) (pm : Int32) (om : Int32) (lo : Int64) (hi_ : Int64) (cde : Int64) (fr : Int32) (sp : Int32) (mm : (Nat → Int32)) (inp : (Nat → Int32)) (pk : (Nat → Int32)) (out : (Nat → Int32)) (gr : (Nat → Int32)) (x1 : Int32) (r : Int32) (hf : f_X9_place mm x1 = some r) : Met l yX9_place (.code yX9_place cX9_place 2 (some .int) :: wsG) ({ frames := 0, cells := 0, slots := 0, locals := 0 }) (va_Pc [.ref q, .int x1] (gw D cI [(q, .inr (9, [.ref qm, .int kept, .ref qi, .int im, .ref qp, .int pm, .ref qo, .int om, .ref qg, .long lo, .long hi_, .long cde, .int fr, .int sp])), (qm, .inl (cI, 5040, .inl mm)), (qi, .inl (cI, 60, .inl inp)), (qp, .inl (cI, 2000, .inl pk)), (qo, .inl (cI, 60, .inl out)), (qg, .inl (cI, 6, .inl gr))])) (vp_Si (fun x => x = r)) 0 0 (fun _ => False) := by
  refine k_ro (by decide) rfl (Nat.le_of_ble_eq_true rfl) rfl ?_
  intro p e s m below meth c ls S hret hloc hK hN hSF hP hl
  obtain ⟨hx, hb, hml, hown, hts⟩ := id S
  unfold f_X9_place at hf
  refine lv_aload_n hx hb dX9_place_0 rfl (lv_at hl 0 rfl) ?_
  refine va_get (D := D) (ci := 9) (v := .ref qm) (C := RX9) (T := TX9) (N := 14) hx hb hts inGX9 hown hK hP 0 rfl rfl 0 (by decide) (hts _ fl_X9_7) (fun _ h9 => h9) rfl dX9_place_1 ?_
  refine lv_bipush (v := 9) hx hb dX9_place_4 (by decide) ?_
  have b_1 : ¬ ((9 : Int32) < 0 ∨ 5040 ≤ ((9 : Int32)).toNatClampNeg) := fun q => by rw [if_pos q] at hf; cases hf
  rw [if_neg b_1] at hf
  refine va_iald hx hb hK hP 1 0 rfl rfl b_1 dX9_place_6 ?_
  refine lv_if_ne (tgt := 17) hx hb dX9_place_7 (by decide) (fun c_2 => ?_) (fun c_2 => ?_)
  · rw [if_neg c_2] at hf
    refine lv_iload_n hx hb dX9_place_17 rfl (lv_at hl 1 rfl) ?_
    exact k_reti hx hb hret hloc (Option.some.inj hf) dX9_place_18
  · rw [if_pos c_2] at hf
    refine lv_bipush (v := 7) hx hb dX9_place_10 (by decide) ?_
    refine lv_iload_n hx hb dX9_place_12 rfl (lv_at hl 1 rfl) ?_
    refine lv_isub hx hb dX9_place_13 ?_
    refine lv_goto (tgt := 18) hx hb dX9_place_14 (by decide) ?_
    exact k_reti hx hb hret hloc (Option.some.inj hf) dX9_place_18
theorem dX9_begins_0 : decode cX9_begins 0 = .ok (.iconst 0, 1) := by decide +kernel
theorem dX9_begins_1 : decode cX9_begins 1 = .ok (.istore_n 1, 1) := by decide +kernel
theorem dX9_begins_2 : decode cX9_begins 2 = .ok (.iload_n 1, 1) := by decide +kernel
theorem dX9_begins_3 : decode cX9_begins 3 = .ok (.iconst 5, 1) := by decide +kernel
theorem dX9_begins_4 : decode cX9_begins 4 = .ok (.if_icmp .ge 27, 3) := by decide +kernel
theorem dX9_begins_7 : decode cX9_begins 7 = .ok (.aload_n 0, 1) := by decide +kernel
theorem dX9_begins_8 : decode cX9_begins 8 = .ok (.getfield 7, 3) := by decide +kernel
theorem dX9_begins_11 : decode cX9_begins 11 = .ok (.sipush 1265, 3) := by decide +kernel
theorem dX9_begins_14 : decode cX9_begins 14 = .ok (.iload_n 1, 1) := by decide +kernel
theorem dX9_begins_15 : decode cX9_begins 15 = .ok (.iadd, 1) := by decide +kernel
theorem dX9_begins_16 : decode cX9_begins 16 = .ok (.aload_n 0, 1) := by decide +kernel
theorem dX9_begins_17 : decode cX9_begins 17 = .ok (.getfield 7, 3) := by decide +kernel
theorem dX9_begins_20 : decode cX9_begins 20 = .ok (.iconst 5, 1) := by decide +kernel
theorem dX9_begins_21 : decode cX9_begins 21 = .ok (.iload_n 1, 1) := by decide +kernel
theorem dX9_begins_22 : decode cX9_begins 22 = .ok (.iadd, 1) := by decide +kernel
theorem dX9_begins_23 : decode cX9_begins 23 = .ok (.iaload, 1) := by decide +kernel
theorem dX9_begins_24 : decode cX9_begins 24 = .ok (.iastore, 1) := by decide +kernel
theorem dX9_begins_25 : decode cX9_begins 25 = .ok (.iinc 1 1, 3) := by decide +kernel
theorem dX9_begins_28 : decode cX9_begins 28 = .ok (.goto (-26), 3) := by decide +kernel
theorem dX9_begins_31 : decode cX9_begins 31 = .ok (.aload_n 0, 1) := by decide +kernel
theorem dX9_begins_32 : decode cX9_begins 32 = .ok (.sipush 1260, 3) := by decide +kernel
theorem dX9_begins_35 : decode cX9_begins 35 = .ok (.invokevirtual 25, 3) := by decide +kernel
theorem dX9_begins_38 : decode cX9_begins 38 = .ok (.aload_n 0, 1) := by decide +kernel
theorem dX9_begins_39 : decode cX9_begins 39 = .ok (.lconst 0, 1) := by decide +kernel
theorem dX9_begins_40 : decode cX9_begins 40 = .ok (.putfield 62, 3) := by decide +kernel
theorem dX9_begins_43 : decode cX9_begins 43 = .ok (.aload_n 0, 1) := by decide +kernel
theorem dX9_begins_44 : decode cX9_begins 44 = .ok (.ldc2_w 66, 3) := by decide +kernel
theorem dX9_begins_47 : decode cX9_begins 47 = .ok (.putfield 68, 3) := by decide +kernel
theorem dX9_begins_50 : decode cX9_begins 50 = .ok (.return_, 1) := by decide +kernel
def st_X9_begins_L2  (v1 : Int32) (mm : (Nat → Int32)) : Option ((Int32 × (Nat → Int32)) ⊕ (Int32 × (Nat → Int32))) := if 5 ≤ v1 then (some (Sum.inr (v1, mm))) else (if (5 + v1) < 0 ∨ 5040 ≤ (5 + v1).toNatClampNeg then none else (if (1265 + v1) < 0 ∨ 5040 ≤ (1265 + v1).toNatClampNeg then none else (some (Sum.inl (v1 + 1, upd mm (1265 + v1).toNatClampNeg (mm (5 + v1).toNatClampNeg))))))
def f_X9_begins_L2  (k : Nat) (v1 : Int32) (mm : (Nat → Int32)) : Option (Int32 × (Nat → Int32)) := lpN (fun z => st_X9_begins_L2  z.1 z.2) k (v1, mm)
set_option maxHeartbeats 4000000 in
set_option maxRecDepth 100000 in
theorem L_X9_begins_2 {p : Program} {l : Launch} {e : Env} {s : State} {m : MethodId} {args : Array Value} {below : List Frame} {meth : Method} {c : Code} {Q : State → Prop} {D : va_G} {cI : ClassId} {q : Nat} {qm : Nat} {qi : Nat} {qp : Nat} {qo : Nat} {qg : Nat} {kept : Int32} {im : Int32} {pm : Int32} {om : Int32} {lo : Int64} {hi_ : Int64} {cde : Int64} {fr : Int32} {sp : Int32} {inp : (Nat → Int32)} {pk : (Nat → Int32)} {out : (Nat → Int32)} {gr : (Nat → Int32)} {A : Nat → Prop} (S : CallFix p m c cX9_begins 2 s args wsG RX9) (hK : va_K D vwCl [(cI, .int)] s) (hN : nw s) (hSF : sf A s s.heap) (hA : ∀ q, s.heap.size ≤ q → A q) : ∀ (k : Nat) (v1 : Int32) (mm : (Nat → Int32)) (o_v1 : Int32) (o_mm : (Nat → Int32)), f_X9_begins_L2  k v1 mm = some (o_v1, o_mm) → ∀ (H : Heap) (locs : List Loc) (ls : Array Slot), va_P D vwCl [(q, .inr (9, [.ref qm, .int kept, .ref qi, .int im, .ref qp, .int pm, .ref qo, .int om, .ref qg, .long lo, .long hi_, .long cde, .int fr, .int sp])), (qm, .inl (cI, 5040, .inl mm)), (qi, .inl (cI, 60, .inl inp)), (qp, .inl (cI, 2000, .inl pk)), (qo, .inl (cI, 60, .inl out)), (qg, .inl (cI, 6, .inl gr))] H → va_D A [(q, .inr (9, [.ref qm, .int kept, .ref qi, .int im, .ref qp, .int pm, .ref qo, .int om, .ref qg, .long lo, .long hi_, .long cde, .int fr, .int sp])), (qm, .inl (cI, 5040, .inl mm)), (qi, .inl (cI, 60, .inl inp)), (qp, .inl (cI, 2000, .inl pk)), (qo, .inl (cI, 60, .inl out)), (qg, .inl (cI, 6, .inl gr))] → va_S A s.heap H locs → lv_has ls 2 [(0, .ref q), (1, .int v1)] → (∀ (H : Heap) (locs : List Loc) (ls : Array Slot), va_P D vwCl [(q, .inr (9, [.ref qm, .int kept, .ref qi, .int im, .ref qp, .int pm, .ref qo, .int om, .ref qg, .long lo, .long hi_, .long cde, .int fr, .int sp])), (qm, .inl (cI, 5040, .inl o_mm)), (qi, .inl (cI, 60, .inl inp)), (qp, .inl (cI, 2000, .inl pk)), (qo, .inl (cI, 60, .inl out)), (qg, .inl (cI, 6, .inl gr))] H → va_D A [(q, .inr (9, [.ref qm, .int kept, .ref qi, .int im, .ref qp, .int pm, .ref qo, .int om, .ref qg, .long lo, .long hi_, .long cde, .int fr, .int sp])), (qm, .inl (cI, 5040, .inl o_mm)), (qi, .inl (cI, 60, .inl inp)), (qp, .inl (cI, 2000, .inl pk)), (qo, .inl (cI, 60, .inl out)), (qg, .inl (cI, 6, .inl gr))] → va_S A s.heap H locs → lv_has ls 2 [(0, .ref q), (1, .int o_v1)] → W p l e (headSpec (.code yX9_begins cX9_begins 2 none :: wsG) { frames := 2, cells := 0, slots := 0, locals := 48 }).room s m args below meth c H locs 0 0 Q (F0 m 31 ls [])) → W p l e (headSpec (.code yX9_begins cX9_begins 2 none :: wsG) { frames := 2, cells := 0, slots := 0, locals := 48 }).room s m args below meth c H locs 0 0 Q (F0 m 2 ls []) := by
  obtain ⟨hx, hb, hml, hown, hts⟩ := id S
  intro k
  induction k with
  | zero =>
    intro v1 mm o_v1 o_mm hf
    cases hf
  | succ k ih =>
    intro v1 mm o_v1 o_mm hf H locs ls hP hD hS hl kk
    obtain ⟨z, hf, hz⟩ := lp_inv hf
    have hf : st_X9_begins_L2  v1 mm = some z := hf
    unfold st_X9_begins_L2 at hf
    refine lv_iload_n hx hb dX9_begins_2 rfl (lv_at hl 1 rfl) ?_
    refine lv_iconst (v := 5) hx hb dX9_begins_3 (by decide) ?_
    refine lv_icmp_ge (tgt := 31) hx hb dX9_begins_4 (by decide) (fun c_1 => ?_) (fun c_1 => ?_)
    · rw [if_pos c_1] at hf
      have hf := Option.some.inj hf
      subst hf
      obtain ⟨e_0, e_1⟩ := Prod.mk.inj (lpC_r hz)
      subst e_0
      subst e_1
      exact kk H locs ls hP hD hS (lv_sub hl [0, 1] rfl)
    · rw [if_neg c_1] at hf
      refine lv_aload_n hx hb dX9_begins_7 rfl (lv_at hl 0 rfl) ?_
      refine va_get (D := D) (ci := 9) (v := .ref qm) (C := RX9) (T := TX9) (N := 14) hx hb hts inGX9 hown hK hP 0 rfl rfl 0 (by decide) (hts _ fl_X9_7) (fun _ h9 => h9) rfl dX9_begins_8 ?_
      refine lv_sipush (v := 1265) hx hb dX9_begins_11 (by decide) ?_
      refine lv_iload_n hx hb dX9_begins_14 rfl (lv_at hl 1 rfl) ?_
      refine lv_iadd hx hb dX9_begins_15 ?_
      refine lv_aload_n hx hb dX9_begins_16 rfl (lv_at hl 0 rfl) ?_
      refine va_get (D := D) (ci := 9) (v := .ref qm) (C := RX9) (T := TX9) (N := 14) hx hb hts inGX9 hown hK hP 0 rfl rfl 0 (by decide) (hts _ fl_X9_7) (fun _ h9 => h9) rfl dX9_begins_17 ?_
      refine lv_iconst (v := 5) hx hb dX9_begins_20 (by decide) ?_
      refine lv_iload_n hx hb dX9_begins_21 rfl (lv_at hl 1 rfl) ?_
      refine lv_iadd hx hb dX9_begins_22 ?_
      have b_2 : ¬ ((5 + v1) < 0 ∨ 5040 ≤ (5 + v1).toNatClampNeg) := fun q => by rw [if_pos q] at hf; cases hf
      rw [if_neg b_2] at hf
      refine va_iald hx hb hK hP 1 0 rfl rfl b_2 dX9_begins_23 ?_
      have b_3 : ¬ ((1265 + v1) < 0 ∨ 5040 ≤ (1265 + v1).toNatClampNeg) := fun q => by rw [if_pos q] at hf; cases hf
      rw [if_neg b_3] at hf
      refine va_iast hx hb hK hP hD hS 1 0 rfl rfl b_3 dX9_begins_24 (fun H locs hP hD hS => ?_)
      have hP : va_P D vwCl [(q, .inr (9, [.ref qm, .int kept, .ref qi, .int im, .ref qp, .int pm, .ref qo, .int om, .ref qg, .long lo, .long hi_, .long cde, .int fr, .int sp])), (qm, .inl (cI, 5040, .inl (upd mm (1265 + v1).toNatClampNeg (mm (5 + v1).toNatClampNeg)))), (qi, .inl (cI, 60, .inl inp)), (qp, .inl (cI, 2000, .inl pk)), (qo, .inl (cI, 60, .inl out)), (qg, .inl (cI, 6, .inl gr))] H := hP
      have hD : va_D A [(q, .inr (9, [.ref qm, .int kept, .ref qi, .int im, .ref qp, .int pm, .ref qo, .int om, .ref qg, .long lo, .long hi_, .long cde, .int fr, .int sp])), (qm, .inl (cI, 5040, .inl (upd mm (1265 + v1).toNatClampNeg (mm (5 + v1).toNatClampNeg)))), (qi, .inl (cI, 60, .inl inp)), (qp, .inl (cI, 2000, .inl pk)), (qo, .inl (cI, 60, .inl out)), (qg, .inl (cI, 6, .inl gr))] := hD
      refine lv_iinc (v := v1 + 1) (lv' := [(1, .int (v1 + 1)), (0, .ref q)]) hx hb dX9_begins_25 hl (k := 1) rfl rfl (by decide) rfl (fun ls hl => ?_)
      refine lv_goto (tgt := 2) hx hb dX9_begins_28 (by decide) ?_
      have hf := Option.some.inj hf
      subst hf
      exact ih (v1 + 1) (upd mm (1265 + v1).toNatClampNeg (mm (5 + v1).toNatClampNeg)) _ _ hz H locs ls hP hD hS (lv_sub hl [1, 0] rfl) kk
def f_X9_begins (mm : (Nat → Int32)) : Option (Int64 × Int64 × (Nat → Int32)) := bi2 (f_X9_begins_L2 4096 0 mm) (fun (v1_4 : Int32) (mm_5 : (Nat → Int32)) => bi1 (f_X9_renews mm_5 1260) (fun (mm_7 : (Nat → Int32)) => some ((0 : Int64), (4294967295 : Int64), mm_7)))
set_option maxHeartbeats 4000000 in
set_option maxRecDepth 100000 in
theorem c_X9_begins (l : Launch) (D : va_G) (cI : ClassId) {sz : Nat} (q : Nat) (qm : Nat) (qi : Nat) (qp : Nat) (qo : Nat) (qg : Nat) (kept : Int32) (im : Int32) (pm : Int32) (om : Int32) (lo : Int64) (hi_ : Int64) (cde : Int64) (fr : Int32) (sp : Int32) (mm : (Nat → Int32)) (inp : (Nat → Int32)) (pk : (Nat → Int32)) (out : (Nat → Int32)) (gr : (Nat → Int32)) (o_lo : Int64) (o_hi_ : Int64) (o_mm : (Nat → Int32)) (hf : f_X9_begins mm = some (o_lo, o_hi_, o_mm)) : Met l yX9_begins (.code yX9_begins cX9_begins 2 none :: wsG) ({ frames := 2, cells := 0, slots := 0, locals := 48 }) (va_Pc [.ref q] (gv D cI sz [(q, .inr (9, [.ref qm, .int kept, .ref qi, .int im, .ref qp, .int pm, .ref qo, .int om, .ref qg, .long lo, .long hi_, .long cde, .int fr, .int sp])), (qm, .inl (cI, 5040, .inl mm)), (qi, .inl (cI, 60, .inl inp)), (qp, .inl (cI, 2000, .inl pk)), (qo, .inl (cI, 60, .inl out)), (qg, .inl (cI, 6, .inl gr))])) (va_Qv (fun (_ : Unit) => True) (gz D (va_A [(q, .inr (9, [.ref qm, .int kept, .ref qi, .int im, .ref qp, .int pm, .ref qo, .int om, .ref qg, .long lo, .long hi_, .long cde, .int fr, .int sp])), (qm, .inl (cI, 5040, .inl mm)), (qi, .inl (cI, 60, .inl inp)), (qp, .inl (cI, 2000, .inl pk)), (qo, .inl (cI, 60, .inl out)), (qg, .inl (cI, 6, .inl gr))] sz) [(q, .inr (9, [.ref qm, .int kept, .ref qi, .int im, .ref qp, .int pm, .ref qo, .int om, .ref qg, .long o_lo, .long o_hi_, .long cde, .int fr, .int sp])), (qm, .inl (cI, 5040, .inl o_mm)), (qi, .inl (cI, 60, .inl inp)), (qp, .inl (cI, 2000, .inl pk)), (qo, .inl (cI, 60, .inl out)), (qg, .inl (cI, 6, .inl gr))]) (va_A [(q, .inr (9, [.ref qm, .int kept, .ref qi, .int im, .ref qp, .int pm, .ref qo, .int om, .ref qg, .long lo, .long hi_, .long cde, .int fr, .int sp])), (qm, .inl (cI, 5040, .inl mm)), (qi, .inl (cI, 60, .inl inp)), (qp, .inl (cI, 2000, .inl pk)), (qo, .inl (cI, 60, .inl out)), (qg, .inl (cI, 6, .inl gr))] sz)) 0 0 (va_A [(q, .inr (9, [.ref qm, .int kept, .ref qi, .int im, .ref qp, .int pm, .ref qo, .int om, .ref qg, .long lo, .long hi_, .long cde, .int fr, .int sp])), (qm, .inl (cI, 5040, .inl mm)), (qi, .inl (cI, 60, .inl inp)), (qp, .inl (cI, 2000, .inl pk)), (qo, .inl (cI, 60, .inl out)), (qg, .inl (cI, 6, .inl gr))] sz) := by
  refine k_rw (y := yX9_begins) (cc := cX9_begins) (maxL := 2) (ret := none) (As := [.ref q]) (Qc := fun A => va_Qv (fun (_ : Unit) => True) (gz D A [(q, .inr (9, [.ref qm, .int kept, .ref qi, .int im, .ref qp, .int pm, .ref qo, .int om, .ref qg, .long o_lo, .long o_hi_, .long cde, .int fr, .int sp])), (qm, .inl (cI, 5040, .inl o_mm)), (qi, .inl (cI, 60, .inl inp)), (qp, .inl (cI, 2000, .inl pk)), (qo, .inl (cI, 60, .inl out)), (qg, .inl (cI, 6, .inl gr))]) A) (by decide) rfl (Nat.le_of_ble_eq_true rfl) rfl ?_
  intro p e s m below meth c ls A S hret hloc hK hN hSF hP hD hS hA hl
  obtain ⟨hx, hb, hml, hown, hts⟩ := id S
  unfold f_X9_begins at hf
  refine lv_iconst (v := 0) hx hb dX9_begins_0 (by decide) ?_
  refine lv_istore_n (lv' := [(1, .int 0), (0, .ref q)]) hx hb dX9_begins_1 rfl hl (by decide) rfl (fun ls hl => ?_)
  obtain ⟨v1_4, mm_5, hc_6, hf⟩ := bd2 hf
  refine L_X9_begins_2 S hK hN hSF hA _ 0 mm v1_4 mm_5 hc_6 _ _ _ hP hD hS (lv_sub hl [1, 0] rfl) (fun H locs ls hP hD hS hl => ?_)
  refine lv_aload_n hx hb dX9_begins_31 rfl (lv_at hl 0 rfl) ?_
  refine lv_sipush (v := 1260) hx hb dX9_begins_32 (by decide) ?_
  obtain ⟨mm_7, hc_8, hf⟩ := bd1 hf
  refine k_rwVv (As := [.int 1260]) (rest := []) (Wr := []) (W2 := [(q, .inr (9, [.ref qm, .int kept, .ref qi, .int im, .ref qp, .int pm, .ref qo, .int om, .ref qg, .long lo, .long hi_, .long cde, .int fr, .int sp])), (qm, .inl (cI, 5040, .inl mm_7)), (qi, .inl (cI, 60, .inl inp)), (qp, .inl (cI, 2000, .inl pk)), (qo, .inl (cI, 60, .inl out)), (qg, .inl (cI, 6, .inl gr))]) S (c_X9_renews l D cI (q := q) (qm := qm) (qi := qi) (qp := qp) (qo := qo) (qg := qg) (kept := kept) (im := im) (pm := pm) (om := om) (lo := lo) (hi_ := hi_) (cde := cde) (fr := fr) (sp := sp) (mm := mm_5) (inp := inp) (pk := pk) (out := out) (gr := gr) (x1 := 1260)  (o_mm := mm_7) (hf := hc_8)) gs_X9_25 ok_X9_renews ⟨rfl, rfl⟩ ⟨Nat.le_of_ble_eq_true rfl, Nat.le_of_ble_eq_true rfl⟩ hK hN hSF hP hD hS hA [0, 1, 2, 3, 4, 5] [] [0, 1, 2, 3, 4, 5] (by decide) rfl rfl (by decide) (by decide) rfl (by decide) rfl rfl rfl hl.1 rfl (Nat.le_of_ble_eq_true rfl) ⟨Nat.zero_le _, Nat.zero_le _⟩ dX9_begins_35 (fun H locs hP hD hS => ?_)
  refine lv_aload_n hx hb dX9_begins_38 rfl (lv_at hl 0 rfl) ?_
  refine lv_lconst (v := 0) hx hb dX9_begins_39 (by decide) ?_
  refine va_put (D := D) (ci := 9) (v := .long (0 : Int64)) (ty := .long) (C := RX9) (T := TX9) (N := 14) hx hb hts inGX9 tyX9 tyX9_ok nmX9 hown hK hP hD hS 0 rfl rfl 9 (by decide) (hts _ fl_X9_62) (fun _ h9 => h9) rfl (by decide +kernel) rfl rfl (Nat.le_of_ble_eq_true rfl) dX9_begins_40 (fun H locs hP hD hS => ?_)
  have hP : va_P D vwCl [(q, .inr (9, [.ref qm, .int kept, .ref qi, .int im, .ref qp, .int pm, .ref qo, .int om, .ref qg, .long (0 : Int64), .long hi_, .long cde, .int fr, .int sp])), (qm, .inl (cI, 5040, .inl mm_7)), (qi, .inl (cI, 60, .inl inp)), (qp, .inl (cI, 2000, .inl pk)), (qo, .inl (cI, 60, .inl out)), (qg, .inl (cI, 6, .inl gr))] H := hP
  have hD : va_D A [(q, .inr (9, [.ref qm, .int kept, .ref qi, .int im, .ref qp, .int pm, .ref qo, .int om, .ref qg, .long (0 : Int64), .long hi_, .long cde, .int fr, .int sp])), (qm, .inl (cI, 5040, .inl mm_7)), (qi, .inl (cI, 60, .inl inp)), (qp, .inl (cI, 2000, .inl pk)), (qo, .inl (cI, 60, .inl out)), (qg, .inl (cI, 6, .inl gr))] := hD
  refine lv_aload_n hx hb dX9_begins_43 rfl (lv_at hl 0 rfl) ?_
  refine lv_ldc2 (v := (4294967295 : Int64)) hx hb hown (hts _ ck_X9_66) dX9_begins_44 ?_
  refine va_put (D := D) (ci := 9) (v := .long (4294967295 : Int64)) (ty := .long) (C := RX9) (T := TX9) (N := 14) hx hb hts inGX9 tyX9 tyX9_ok nmX9 hown hK hP hD hS 0 rfl rfl 10 (by decide) (hts _ fl_X9_68) (fun _ h9 => h9) rfl (by decide +kernel) rfl rfl (Nat.le_of_ble_eq_true rfl) dX9_begins_47 (fun H locs hP hD hS => ?_)
  have hP : va_P D vwCl [(q, .inr (9, [.ref qm, .int kept, .ref qi, .int im, .ref qp, .int pm, .ref qo, .int om, .ref qg, .long (0 : Int64), .long (4294967295 : Int64), .long cde, .int fr, .int sp])), (qm, .inl (cI, 5040, .inl mm_7)), (qi, .inl (cI, 60, .inl inp)), (qp, .inl (cI, 2000, .inl pk)), (qo, .inl (cI, 60, .inl out)), (qg, .inl (cI, 6, .inl gr))] H := hP
  have hD : va_D A [(q, .inr (9, [.ref qm, .int kept, .ref qi, .int im, .ref qp, .int pm, .ref qo, .int om, .ref qg, .long (0 : Int64), .long (4294967295 : Int64), .long cde, .int fr, .int sp])), (qm, .inl (cI, 5040, .inl mm_7)), (qi, .inl (cI, 60, .inl inp)), (qp, .inl (cI, 2000, .inl pk)), (qo, .inl (cI, 60, .inl out)), (qg, .inl (cI, 6, .inl gr))] := hD
  obtain ⟨e_0, e_r⟩ := Prod.mk.inj (Option.some.inj hf)
  obtain ⟨e_1, e_2⟩ := Prod.mk.inj (e_r)
  subst e_0
  subst e_1
  subst e_2
  exact k_wretv hx hb hret hloc hP hD hS dX9_begins_50
theorem dX9_middle_0 : decode cX9_middle 0 = .ok (.aload_n 0, 1) := by decide +kernel
theorem dX9_middle_1 : decode cX9_middle 1 = .ok (.getfield 62, 3) := by decide +kernel
theorem dX9_middle_4 : decode cX9_middle 4 = .ok (.aload_n 0, 1) := by decide +kernel
theorem dX9_middle_5 : decode cX9_middle 5 = .ok (.getfield 68, 3) := by decide +kernel
theorem dX9_middle_8 : decode cX9_middle 8 = .ok (.aload_n 0, 1) := by decide +kernel
theorem dX9_middle_9 : decode cX9_middle 9 = .ok (.getfield 62, 3) := by decide +kernel
theorem dX9_middle_12 : decode cX9_middle 12 = .ok (.lsub, 1) := by decide +kernel
theorem dX9_middle_13 : decode cX9_middle 13 = .ok (.ldc2_w 42, 3) := by decide +kernel
theorem dX9_middle_16 : decode cX9_middle 16 = .ok (.ldiv, 1) := by decide +kernel
theorem dX9_middle_17 : decode cX9_middle 17 = .ok (.aload_n 0, 1) := by decide +kernel
theorem dX9_middle_18 : decode cX9_middle 18 = .ok (.sipush 1260, 3) := by decide +kernel
theorem dX9_middle_21 : decode cX9_middle 21 = .ok (.aload_n 0, 1) := by decide +kernel
theorem dX9_middle_22 : decode cX9_middle 22 = .ok (.getfield 7, 3) := by decide +kernel
theorem dX9_middle_25 : decode cX9_middle 25 = .ok (.sipush 1261, 3) := by decide +kernel
theorem dX9_middle_28 : decode cX9_middle 28 = .ok (.iaload, 1) := by decide +kernel
theorem dX9_middle_29 : decode cX9_middle 29 = .ok (.invokevirtual 71, 3) := by decide +kernel
theorem dX9_middle_32 : decode cX9_middle 32 = .ok (.i2l, 1) := by decide +kernel
theorem dX9_middle_33 : decode cX9_middle 33 = .ok (.lmul, 1) := by decide +kernel
theorem dX9_middle_34 : decode cX9_middle 34 = .ok (.ladd, 1) := by decide +kernel
theorem dX9_middle_35 : decode cX9_middle 35 = .ok (.lreturn, 1) := by decide +kernel
theorem ok_X9_chance : okV yX9_chance RX9 2 := by decide +kernel
theorem gs_X9_71 : GoodIn wsG (wsV RX9 71 RX9 yX9_chance (.code yX9_chance cX9_chance 5 (some .int) :: wsG)) := good_V ml_X9_71 im_X9_chance se_X9_chance ini_X9 co_X9_chance
def f_X9_middle (lo : Int64) (hi_ : Int64) (mm : (Nat → Int32)) : Option (Int64) := if (1261 : Int32) < 0 ∨ 5040 ≤ ((1261 : Int32)).toNatClampNeg then none else (bi1 (f_X9_chance mm 1260 (mm ((1261 : Int32)).toNatClampNeg)) (fun (r_2 : Int32) => some (lo + (((hi_ - lo) / (4096 : Int64)) * ((r_2).toInt64)))))
set_option maxHeartbeats 4000000 in
set_option maxRecDepth 100000 in
theorem c_X9_middle (l : Launch) (D : va_G) (cI : ClassId) (q : Nat) (qm : Nat) (qi : Nat) (qp : Nat) (qo : Nat) (qg : Nat) (kept : Int32) (im : Int32) (pm : Int32) (om : Int32) (lo : Int64) (hi_ : Int64) (cde : Int64) (fr : Int32) (sp : Int32) (mm : (Nat → Int32)) (inp : (Nat → Int32)) (pk : (Nat → Int32)) (out : (Nat → Int32)) (gr : (Nat → Int32)) (r : Int64) (hf : f_X9_middle lo hi_ mm = some r) : Met l yX9_middle (.code yX9_middle cX9_middle 1 (some .long) :: wsG) ({ frames := 2, cells := 0, slots := 0, locals := 46 }) (va_Pc [.ref q] (gw D cI [(q, .inr (9, [.ref qm, .int kept, .ref qi, .int im, .ref qp, .int pm, .ref qo, .int om, .ref qg, .long lo, .long hi_, .long cde, .int fr, .int sp])), (qm, .inl (cI, 5040, .inl mm)), (qi, .inl (cI, 60, .inl inp)), (qp, .inl (cI, 2000, .inl pk)), (qo, .inl (cI, 60, .inl out)), (qg, .inl (cI, 6, .inl gr))])) (vp_Sl (fun x => x = r)) 0 0 (fun _ => False) := by
  refine k_ro (by decide) rfl (Nat.le_of_ble_eq_true rfl) rfl ?_
  intro p e s m below meth c ls S hret hloc hK hN hSF hP hl
  obtain ⟨hx, hb, hml, hown, hts⟩ := id S
  unfold f_X9_middle at hf
  refine lv_aload_n hx hb dX9_middle_0 rfl (lv_at hl 0 rfl) ?_
  refine va_get (D := D) (ci := 9) (v := .long lo) (C := RX9) (T := TX9) (N := 14) hx hb hts inGX9 hown hK hP 0 rfl rfl 9 (by decide) (hts _ fl_X9_62) (fun _ h9 => h9) rfl dX9_middle_1 ?_
  refine lv_aload_n hx hb dX9_middle_4 rfl (lv_at hl 0 rfl) ?_
  refine va_get (D := D) (ci := 9) (v := .long hi_) (C := RX9) (T := TX9) (N := 14) hx hb hts inGX9 hown hK hP 0 rfl rfl 10 (by decide) (hts _ fl_X9_68) (fun _ h9 => h9) rfl dX9_middle_5 ?_
  refine lv_aload_n hx hb dX9_middle_8 rfl (lv_at hl 0 rfl) ?_
  refine va_get (D := D) (ci := 9) (v := .long lo) (C := RX9) (T := TX9) (N := 14) hx hb hts inGX9 hown hK hP 0 rfl rfl 9 (by decide) (hts _ fl_X9_62) (fun _ h9 => h9) rfl dX9_middle_9 ?_
  refine lv_lsub hx hb dX9_middle_12 ?_
  refine lv_ldc2 (v := (4096 : Int64)) hx hb hown (hts _ ck_X9_42) dX9_middle_13 ?_
  refine lv_ldiv hx hb dX9_middle_16 (by decide) ?_
  refine lv_aload_n hx hb dX9_middle_17 rfl (lv_at hl 0 rfl) ?_
  refine lv_sipush (v := 1260) hx hb dX9_middle_18 (by decide) ?_
  refine lv_aload_n hx hb dX9_middle_21 rfl (lv_at hl 0 rfl) ?_
  refine va_get (D := D) (ci := 9) (v := .ref qm) (C := RX9) (T := TX9) (N := 14) hx hb hts inGX9 hown hK hP 0 rfl rfl 0 (by decide) (hts _ fl_X9_7) (fun _ h9 => h9) rfl dX9_middle_22 ?_
  refine lv_sipush (v := 1261) hx hb dX9_middle_25 (by decide) ?_
  have b_1 : ¬ ((1261 : Int32) < 0 ∨ 5040 ≤ ((1261 : Int32)).toNatClampNeg) := fun q => by rw [if_pos q] at hf; cases hf
  rw [if_neg b_1] at hf
  refine va_iald hx hb hK hP 1 0 rfl rfl b_1 dX9_middle_28 ?_
  obtain ⟨r_2, hc_3, hf⟩ := bd1 hf
  refine k_roVi (As := [.int 1260, .int (mm ((1261 : Int32)).toNatClampNeg)]) (rest := [.long ((hi_ - lo) / (4096 : Int64)), .long lo]) S (c_X9_chance l D cI (q := q) (qm := qm) (qi := qi) (qp := qp) (qo := qo) (qg := qg) (kept := kept) (im := im) (pm := pm) (om := om) (lo := lo) (hi_ := hi_) (cde := cde) (fr := fr) (sp := sp) (mm := mm) (inp := inp) (pk := pk) (out := out) (gr := gr) (x1 := 1260) (x2 := mm ((1261 : Int32)).toNatClampNeg)  (r := r_2) (hf := hc_3)) gs_X9_71 ok_X9_chance ⟨rfl, rfl⟩ ⟨Nat.le_of_ble_eq_true rfl, Nat.le_of_ble_eq_true rfl⟩ hK hN hSF hP rfl rfl rfl hl.1 rfl (Nat.le_of_ble_eq_true rfl) ⟨Nat.zero_le _, Nat.zero_le _⟩ dX9_middle_29 ?_
  refine lv_i2l hx hb dX9_middle_32 rfl ?_
  refine lv_lmul hx hb dX9_middle_33 ?_
  refine lv_ladd hx hb dX9_middle_34 ?_
  exact k_retl hx hb hret hloc (Option.some.inj hf) dX9_middle_35
theorem dX9_narrows_0 : decode cX9_narrows 0 = .ok (.aload_n 0, 1) := by decide +kernel
theorem dX9_narrows_1 : decode cX9_narrows 1 = .ok (.invokevirtual 74, 3) := by decide +kernel
theorem dX9_narrows_4 : decode cX9_narrows 4 = .ok (.lstore_n 3, 1) := by decide +kernel
theorem dX9_narrows_5 : decode cX9_narrows 5 = .ok (.aload_n 0, 1) := by decide +kernel
theorem dX9_narrows_6 : decode cX9_narrows 6 = .ok (.iload_n 1, 1) := by decide +kernel
theorem dX9_narrows_7 : decode cX9_narrows 7 = .ok (.iconst 1, 1) := by decide +kernel
theorem dX9_narrows_8 : decode cX9_narrows 8 = .ok (.if_icmp .ne 10, 3) := by decide +kernel
theorem dX9_narrows_11 : decode cX9_narrows 11 = .ok (.aload_n 0, 1) := by decide +kernel
theorem dX9_narrows_12 : decode cX9_narrows 12 = .ok (.getfield 62, 3) := by decide +kernel
theorem dX9_narrows_15 : decode cX9_narrows 15 = .ok (.goto 6, 3) := by decide +kernel
theorem dX9_narrows_18 : decode cX9_narrows 18 = .ok (.lload_n 3, 1) := by decide +kernel
theorem dX9_narrows_19 : decode cX9_narrows 19 = .ok (.lconst 1, 1) := by decide +kernel
theorem dX9_narrows_20 : decode cX9_narrows 20 = .ok (.ladd, 1) := by decide +kernel
theorem dX9_narrows_21 : decode cX9_narrows 21 = .ok (.putfield 62, 3) := by decide +kernel
theorem dX9_narrows_24 : decode cX9_narrows 24 = .ok (.aload_n 0, 1) := by decide +kernel
theorem dX9_narrows_25 : decode cX9_narrows 25 = .ok (.iload_n 1, 1) := by decide +kernel
theorem dX9_narrows_26 : decode cX9_narrows 26 = .ok (.iconst 1, 1) := by decide +kernel
theorem dX9_narrows_27 : decode cX9_narrows 27 = .ok (.if_icmp .ne 7, 3) := by decide +kernel
theorem dX9_narrows_30 : decode cX9_narrows 30 = .ok (.lload_n 3, 1) := by decide +kernel
theorem dX9_narrows_31 : decode cX9_narrows 31 = .ok (.goto 7, 3) := by decide +kernel
theorem dX9_narrows_34 : decode cX9_narrows 34 = .ok (.aload_n 0, 1) := by decide +kernel
theorem dX9_narrows_35 : decode cX9_narrows 35 = .ok (.getfield 68, 3) := by decide +kernel
theorem dX9_narrows_38 : decode cX9_narrows 38 = .ok (.putfield 68, 3) := by decide +kernel
theorem dX9_narrows_41 : decode cX9_narrows 41 = .ok (.aload_n 0, 1) := by decide +kernel
theorem dX9_narrows_42 : decode cX9_narrows 42 = .ok (.getfield 62, 3) := by decide +kernel
theorem dX9_narrows_45 : decode cX9_narrows 45 = .ok (.ldc2_w 78, 3) := by decide +kernel
theorem dX9_narrows_48 : decode cX9_narrows 48 = .ok (.ldiv, 1) := by decide +kernel
theorem dX9_narrows_49 : decode cX9_narrows 49 = .ok (.aload_n 0, 1) := by decide +kernel
theorem dX9_narrows_50 : decode cX9_narrows 50 = .ok (.getfield 68, 3) := by decide +kernel
theorem dX9_narrows_53 : decode cX9_narrows 53 = .ok (.ldc2_w 78, 3) := by decide +kernel
theorem dX9_narrows_56 : decode cX9_narrows 56 = .ok (.ldiv, 1) := by decide +kernel
theorem dX9_narrows_57 : decode cX9_narrows 57 = .ok (.lcmp, 1) := by decide +kernel
theorem dX9_narrows_58 : decode cX9_narrows 58 = .ok (.ifCond .ne 129, 3) := by decide +kernel
theorem dX9_narrows_61 : decode cX9_narrows 61 = .ok (.iload_n 2, 1) := by decide +kernel
theorem dX9_narrows_62 : decode cX9_narrows 62 = .ok (.ifCond .eq 34, 3) := by decide +kernel
theorem dX9_narrows_65 : decode cX9_narrows 65 = .ok (.aload_n 0, 1) := by decide +kernel
theorem dX9_narrows_66 : decode cX9_narrows 66 = .ok (.getfield 16, 3) := by decide +kernel
theorem dX9_narrows_69 : decode cX9_narrows 69 = .ok (.aload_n 0, 1) := by decide +kernel
theorem dX9_narrows_70 : decode cX9_narrows 70 = .ok (.getfield 80, 3) := by decide +kernel
theorem dX9_narrows_73 : decode cX9_narrows 73 = .ok (.aload_n 0, 1) := by decide +kernel
theorem dX9_narrows_74 : decode cX9_narrows 74 = .ok (.getfield 62, 3) := by decide +kernel
theorem dX9_narrows_77 : decode cX9_narrows 77 = .ok (.ldc2_w 78, 3) := by decide +kernel
theorem dX9_narrows_80 : decode cX9_narrows 80 = .ok (.ldiv, 1) := by decide +kernel
theorem dX9_narrows_81 : decode cX9_narrows 81 = .ok (.l2i, 1) := by decide +kernel
theorem dX9_narrows_82 : decode cX9_narrows 82 = .ok (.iastore, 1) := by decide +kernel
theorem dX9_narrows_83 : decode cX9_narrows 83 = .ok (.aload_n 0, 1) := by decide +kernel
theorem dX9_narrows_84 : decode cX9_narrows 84 = .ok (.dup, 1) := by decide +kernel
theorem dX9_narrows_85 : decode cX9_narrows 85 = .ok (.getfield 80, 3) := by decide +kernel
theorem dX9_narrows_88 : decode cX9_narrows 88 = .ok (.iconst 1, 1) := by decide +kernel
theorem dX9_narrows_89 : decode cX9_narrows 89 = .ok (.iadd, 1) := by decide +kernel
theorem dX9_narrows_90 : decode cX9_narrows 90 = .ok (.putfield 80, 3) := by decide +kernel
theorem dX9_narrows_93 : decode cX9_narrows 93 = .ok (.goto 55, 3) := by decide +kernel
theorem dX9_narrows_96 : decode cX9_narrows 96 = .ok (.aload_n 0, 1) := by decide +kernel
theorem dX9_narrows_97 : decode cX9_narrows 97 = .ok (.aload_n 0, 1) := by decide +kernel
theorem dX9_narrows_98 : decode cX9_narrows 98 = .ok (.getfield 83, 3) := by decide +kernel
theorem dX9_narrows_101 : decode cX9_narrows 101 = .ok (.ldc2_w 78, 3) := by decide +kernel
theorem dX9_narrows_104 : decode cX9_narrows 104 = .ok (.lrem, 1) := by decide +kernel
theorem dX9_narrows_105 : decode cX9_narrows 105 = .ok (.ldc2_w 86, 3) := by decide +kernel
theorem dX9_narrows_108 : decode cX9_narrows 108 = .ok (.lmul, 1) := by decide +kernel
theorem dX9_narrows_109 : decode cX9_narrows 109 = .ok (.aload_n 0, 1) := by decide +kernel
theorem dX9_narrows_110 : decode cX9_narrows 110 = .ok (.getfield 88, 3) := by decide +kernel
theorem dX9_narrows_113 : decode cX9_narrows 113 = .ok (.aload_n 0, 1) := by decide +kernel
theorem dX9_narrows_114 : decode cX9_narrows 114 = .ok (.getfield 80, 3) := by decide +kernel
theorem dX9_narrows_117 : decode cX9_narrows 117 = .ok (.if_icmp .ge 15, 3) := by decide +kernel
theorem dX9_narrows_120 : decode cX9_narrows 120 = .ok (.aload_n 0, 1) := by decide +kernel
theorem dX9_narrows_121 : decode cX9_narrows 121 = .ok (.getfield 16, 3) := by decide +kernel
theorem dX9_narrows_124 : decode cX9_narrows 124 = .ok (.aload_n 0, 1) := by decide +kernel
theorem dX9_narrows_125 : decode cX9_narrows 125 = .ok (.getfield 88, 3) := by decide +kernel
theorem dX9_narrows_128 : decode cX9_narrows 128 = .ok (.iaload, 1) := by decide +kernel
theorem dX9_narrows_129 : decode cX9_narrows 129 = .ok (.goto 4, 3) := by decide +kernel
theorem dX9_narrows_132 : decode cX9_narrows 132 = .ok (.iconst 0, 1) := by decide +kernel
theorem dX9_narrows_133 : decode cX9_narrows 133 = .ok (.i2l, 1) := by decide +kernel
theorem dX9_narrows_134 : decode cX9_narrows 134 = .ok (.ladd, 1) := by decide +kernel
theorem dX9_narrows_135 : decode cX9_narrows 135 = .ok (.putfield 83, 3) := by decide +kernel
theorem dX9_narrows_138 : decode cX9_narrows 138 = .ok (.aload_n 0, 1) := by decide +kernel
theorem dX9_narrows_139 : decode cX9_narrows 139 = .ok (.dup, 1) := by decide +kernel
theorem dX9_narrows_140 : decode cX9_narrows 140 = .ok (.getfield 88, 3) := by decide +kernel
theorem dX9_narrows_143 : decode cX9_narrows 143 = .ok (.iconst 1, 1) := by decide +kernel
theorem dX9_narrows_144 : decode cX9_narrows 144 = .ok (.iadd, 1) := by decide +kernel
theorem dX9_narrows_145 : decode cX9_narrows 145 = .ok (.putfield 88, 3) := by decide +kernel
theorem dX9_narrows_148 : decode cX9_narrows 148 = .ok (.aload_n 0, 1) := by decide +kernel
theorem dX9_narrows_149 : decode cX9_narrows 149 = .ok (.aload_n 0, 1) := by decide +kernel
theorem dX9_narrows_150 : decode cX9_narrows 150 = .ok (.getfield 62, 3) := by decide +kernel
theorem dX9_narrows_153 : decode cX9_narrows 153 = .ok (.ldc2_w 78, 3) := by decide +kernel
theorem dX9_narrows_156 : decode cX9_narrows 156 = .ok (.lrem, 1) := by decide +kernel
theorem dX9_narrows_157 : decode cX9_narrows 157 = .ok (.ldc2_w 86, 3) := by decide +kernel
theorem dX9_narrows_160 : decode cX9_narrows 160 = .ok (.lmul, 1) := by decide +kernel
theorem dX9_narrows_161 : decode cX9_narrows 161 = .ok (.putfield 62, 3) := by decide +kernel
theorem dX9_narrows_164 : decode cX9_narrows 164 = .ok (.aload_n 0, 1) := by decide +kernel
theorem dX9_narrows_165 : decode cX9_narrows 165 = .ok (.aload_n 0, 1) := by decide +kernel
theorem dX9_narrows_166 : decode cX9_narrows 166 = .ok (.getfield 68, 3) := by decide +kernel
theorem dX9_narrows_169 : decode cX9_narrows 169 = .ok (.ldc2_w 78, 3) := by decide +kernel
theorem dX9_narrows_172 : decode cX9_narrows 172 = .ok (.lrem, 1) := by decide +kernel
theorem dX9_narrows_173 : decode cX9_narrows 173 = .ok (.ldc2_w 86, 3) := by decide +kernel
theorem dX9_narrows_176 : decode cX9_narrows 176 = .ok (.lmul, 1) := by decide +kernel
theorem dX9_narrows_177 : decode cX9_narrows 177 = .ok (.ldc2_w 56, 3) := by decide +kernel
theorem dX9_narrows_180 : decode cX9_narrows 180 = .ok (.ladd, 1) := by decide +kernel
theorem dX9_narrows_181 : decode cX9_narrows 181 = .ok (.putfield 68, 3) := by decide +kernel
theorem dX9_narrows_184 : decode cX9_narrows 184 = .ok (.goto (-143), 3) := by decide +kernel
theorem dX9_narrows_187 : decode cX9_narrows 187 = .ok (.aload_n 0, 1) := by decide +kernel
theorem dX9_narrows_188 : decode cX9_narrows 188 = .ok (.sipush 1260, 3) := by decide +kernel
theorem dX9_narrows_191 : decode cX9_narrows 191 = .ok (.iload_n 1, 1) := by decide +kernel
theorem dX9_narrows_192 : decode cX9_narrows 192 = .ok (.invokevirtual 91, 3) := by decide +kernel
theorem dX9_narrows_195 : decode cX9_narrows 195 = .ok (.return_, 1) := by decide +kernel
theorem ok_X9_middle : okV yX9_middle RX9 0 := by decide +kernel
theorem gs_X9_74 : GoodIn wsG (wsV RX9 74 RX9 yX9_middle (.code yX9_middle cX9_middle 1 (some .long) :: wsG)) := good_V ml_X9_74 im_X9_middle se_X9_middle ini_X9 co_X9_middle
theorem ok_X9_takes : okV yX9_takes RX9 2 := by decide +kernel
theorem gs_X9_91 : GoodIn wsG (wsV RX9 91 RX9 yX9_takes (.code yX9_takes cX9_takes 7 none :: wsG)) := good_V ml_X9_91 im_X9_takes se_X9_takes ini_X9 co_X9_takes
def st_X9_narrows_L41 (v2 : Int32) (pm : Int32) (lo : Int64) (hi_ : Int64) (cde : Int64) (fr : Int32) (pk : (Nat → Int32)) : Option ((Int32 × Int64 × Int64 × Int64 × Int32 × (Nat → Int32)) ⊕ (Int32 × Int64 × Int64 × Int64 × Int32 × (Nat → Int32))) := if (lg_cmp (lo / (16777216 : Int64)) (hi_ / (16777216 : Int64))) = 0 then (if v2 = 0 then (if pm ≤ fr then (some (Sum.inl (pm, (lo - lo / (16777216 : Int64) * (16777216 : Int64)) * (256 : Int64), ((hi_ - hi_ / (16777216 : Int64) * (16777216 : Int64)) * (256 : Int64)) + (255 : Int64), ((cde - cde / (16777216 : Int64) * (16777216 : Int64)) * (256 : Int64)) + (((0 : Int32)).toInt64), fr + 1, pk))) else (if fr < 0 ∨ 2000 ≤ (fr).toNatClampNeg then none else (some (Sum.inl (pm, (lo - lo / (16777216 : Int64) * (16777216 : Int64)) * (256 : Int64), ((hi_ - hi_ / (16777216 : Int64) * (16777216 : Int64)) * (256 : Int64)) + (255 : Int64), ((cde - cde / (16777216 : Int64) * (16777216 : Int64)) * (256 : Int64)) + ((pk (fr).toNatClampNeg).toInt64), fr + 1, pk))))) else (if pm < 0 ∨ 2000 ≤ (pm).toNatClampNeg then none else (some (Sum.inl (pm + 1, (lo - lo / (16777216 : Int64) * (16777216 : Int64)) * (256 : Int64), ((hi_ - hi_ / (16777216 : Int64) * (16777216 : Int64)) * (256 : Int64)) + (255 : Int64), cde, fr, upd pk (pm).toNatClampNeg ((lo / (16777216 : Int64)).toInt32)))))) else (some (Sum.inr (pm, lo, hi_, cde, fr, pk)))
def f_X9_narrows_L41 (v2 : Int32) (k : Nat) (pm : Int32) (lo : Int64) (hi_ : Int64) (cde : Int64) (fr : Int32) (pk : (Nat → Int32)) : Option (Int32 × Int64 × Int64 × Int64 × Int32 × (Nat → Int32)) := lpN (fun z => st_X9_narrows_L41 v2 z.1 z.2.1 z.2.2.1 z.2.2.2.1 z.2.2.2.2.1 z.2.2.2.2.2) k (pm, lo, hi_, cde, fr, pk)
set_option maxHeartbeats 4000000 in
set_option maxRecDepth 100000 in
theorem L_X9_narrows_41 {p : Program} {l : Launch} {e : Env} {s : State} {m : MethodId} {args : Array Value} {below : List Frame} {meth : Method} {c : Code} {Q : State → Prop} {D : va_G} {cI : ClassId} {q : Nat} {qm : Nat} {qi : Nat} {qp : Nat} {qo : Nat} {qg : Nat} {v1 : Int32} {v2 : Int32} {kept : Int32} {im : Int32} {om : Int32} {sp : Int32} {mm : (Nat → Int32)} {inp : (Nat → Int32)} {out : (Nat → Int32)} {gr : (Nat → Int32)} {A : Nat → Prop} (S : CallFix p m c cX9_narrows 5 s args wsG RX9) (hK : va_K D vwCl [(cI, .int)] s) (hN : nw s) (hSF : sf A s s.heap) (hA : ∀ q, s.heap.size ≤ q → A q) : ∀ (k : Nat) (pm : Int32) (lo : Int64) (hi_ : Int64) (cde : Int64) (fr : Int32) (pk : (Nat → Int32)) (o_pm : Int32) (o_lo : Int64) (o_hi_ : Int64) (o_cde : Int64) (o_fr : Int32) (o_pk : (Nat → Int32)), f_X9_narrows_L41 v2 k pm lo hi_ cde fr pk = some (o_pm, o_lo, o_hi_, o_cde, o_fr, o_pk) → ∀ (H : Heap) (locs : List Loc) (ls : Array Slot), va_P D vwCl [(q, .inr (9, [.ref qm, .int kept, .ref qi, .int im, .ref qp, .int pm, .ref qo, .int om, .ref qg, .long lo, .long hi_, .long cde, .int fr, .int sp])), (qm, .inl (cI, 5040, .inl mm)), (qi, .inl (cI, 60, .inl inp)), (qp, .inl (cI, 2000, .inl pk)), (qo, .inl (cI, 60, .inl out)), (qg, .inl (cI, 6, .inl gr))] H → va_D A [(q, .inr (9, [.ref qm, .int kept, .ref qi, .int im, .ref qp, .int pm, .ref qo, .int om, .ref qg, .long lo, .long hi_, .long cde, .int fr, .int sp])), (qm, .inl (cI, 5040, .inl mm)), (qi, .inl (cI, 60, .inl inp)), (qp, .inl (cI, 2000, .inl pk)), (qo, .inl (cI, 60, .inl out)), (qg, .inl (cI, 6, .inl gr))] → va_S A s.heap H locs → lv_has ls 5 [(0, .ref q), (1, .int v1), (2, .int v2)] → (∀ (H : Heap) (locs : List Loc) (ls : Array Slot), va_P D vwCl [(q, .inr (9, [.ref qm, .int kept, .ref qi, .int im, .ref qp, .int o_pm, .ref qo, .int om, .ref qg, .long o_lo, .long o_hi_, .long o_cde, .int o_fr, .int sp])), (qm, .inl (cI, 5040, .inl mm)), (qi, .inl (cI, 60, .inl inp)), (qp, .inl (cI, 2000, .inl o_pk)), (qo, .inl (cI, 60, .inl out)), (qg, .inl (cI, 6, .inl gr))] H → va_D A [(q, .inr (9, [.ref qm, .int kept, .ref qi, .int im, .ref qp, .int o_pm, .ref qo, .int om, .ref qg, .long o_lo, .long o_hi_, .long o_cde, .int o_fr, .int sp])), (qm, .inl (cI, 5040, .inl mm)), (qi, .inl (cI, 60, .inl inp)), (qp, .inl (cI, 2000, .inl o_pk)), (qo, .inl (cI, 60, .inl out)), (qg, .inl (cI, 6, .inl gr))] → va_S A s.heap H locs → lv_has ls 5 [(0, .ref q), (1, .int v1), (2, .int v2)] → W p l e (headSpec (.code yX9_narrows cX9_narrows 5 none :: wsG) { frames := 3, cells := 0, slots := 0, locals := 66 }).room s m args below meth c H locs 0 0 Q (F0 m 187 ls [])) → W p l e (headSpec (.code yX9_narrows cX9_narrows 5 none :: wsG) { frames := 3, cells := 0, slots := 0, locals := 66 }).room s m args below meth c H locs 0 0 Q (F0 m 41 ls []) := by
  obtain ⟨hx, hb, hml, hown, hts⟩ := id S
  intro k
  induction k with
  | zero =>
    intro pm lo hi_ cde fr pk o_pm o_lo o_hi_ o_cde o_fr o_pk hf
    cases hf
  | succ k ih =>
    intro pm lo hi_ cde fr pk o_pm o_lo o_hi_ o_cde o_fr o_pk hf H locs ls hP hD hS hl kk
    obtain ⟨z, hf, hz⟩ := lp_inv hf
    have hf : st_X9_narrows_L41 v2 pm lo hi_ cde fr pk = some z := hf
    unfold st_X9_narrows_L41 at hf
    refine lv_aload_n hx hb dX9_narrows_41 rfl (lv_at hl 0 rfl) ?_
    refine va_get (D := D) (ci := 9) (v := .long lo) (C := RX9) (T := TX9) (N := 14) hx hb hts inGX9 hown hK hP 0 rfl rfl 9 (by decide) (hts _ fl_X9_62) (fun _ h9 => h9) rfl dX9_narrows_42 ?_
    refine lv_ldc2 (v := (16777216 : Int64)) hx hb hown (hts _ ck_X9_78) dX9_narrows_45 ?_
    refine lv_ldiv hx hb dX9_narrows_48 (by decide) ?_
    refine lv_aload_n hx hb dX9_narrows_49 rfl (lv_at hl 0 rfl) ?_
    refine va_get (D := D) (ci := 9) (v := .long hi_) (C := RX9) (T := TX9) (N := 14) hx hb hts inGX9 hown hK hP 0 rfl rfl 10 (by decide) (hts _ fl_X9_68) (fun _ h9 => h9) rfl dX9_narrows_50 ?_
    refine lv_ldc2 (v := (16777216 : Int64)) hx hb hown (hts _ ck_X9_78) dX9_narrows_53 ?_
    refine lv_ldiv hx hb dX9_narrows_56 (by decide) ?_
    refine W.lcmp hx hb dX9_narrows_57 ?_
    refine lv_if_ne (tgt := 187) hx hb dX9_narrows_58 (by decide) (fun c_5 => ?_) (fun c_5 => ?_)
    · rw [if_neg c_5] at hf
      have hf := Option.some.inj hf
      subst hf
      obtain ⟨e_0, e_r⟩ := Prod.mk.inj (lpC_r hz)
      obtain ⟨e_1, e_r⟩ := Prod.mk.inj (e_r)
      obtain ⟨e_2, e_r⟩ := Prod.mk.inj (e_r)
      obtain ⟨e_3, e_r⟩ := Prod.mk.inj (e_r)
      obtain ⟨e_4, e_5⟩ := Prod.mk.inj (e_r)
      subst e_0
      subst e_1
      subst e_2
      subst e_3
      subst e_4
      subst e_5
      exact kk H locs ls hP hD hS (lv_sub hl [0, 1, 2] rfl)
    · rw [if_pos c_5] at hf
      refine lv_iload_n hx hb dX9_narrows_61 rfl (lv_at hl 2 rfl) ?_
      refine lv_if_eq (tgt := 96) hx hb dX9_narrows_62 (by decide) (fun c_6 => ?_) (fun c_6 => ?_)
      · rw [if_pos c_6] at hf
        refine lv_aload_n hx hb dX9_narrows_96 rfl (lv_at hl 0 rfl) ?_
        refine lv_aload_n hx hb dX9_narrows_97 rfl (lv_at hl 0 rfl) ?_
        refine va_get (D := D) (ci := 9) (v := .long cde) (C := RX9) (T := TX9) (N := 14) hx hb hts inGX9 hown hK hP 0 rfl rfl 11 (by decide) (hts _ fl_X9_83) (fun _ h9 => h9) rfl dX9_narrows_98 ?_
        refine lv_ldc2 (v := (16777216 : Int64)) hx hb hown (hts _ ck_X9_78) dX9_narrows_101 ?_
        refine lv_lrem hx hb dX9_narrows_104 (by decide) ?_
        refine lv_ldc2 (v := (256 : Int64)) hx hb hown (hts _ ck_X9_86) dX9_narrows_105 ?_
        refine lv_lmul hx hb dX9_narrows_108 ?_
        refine lv_aload_n hx hb dX9_narrows_109 rfl (lv_at hl 0 rfl) ?_
        refine va_get (D := D) (ci := 9) (v := .int fr) (C := RX9) (T := TX9) (N := 14) hx hb hts inGX9 hown hK hP 0 rfl rfl 12 (by decide) (hts _ fl_X9_88) (fun _ h9 => h9) rfl dX9_narrows_110 ?_
        refine lv_aload_n hx hb dX9_narrows_113 rfl (lv_at hl 0 rfl) ?_
        refine va_get (D := D) (ci := 9) (v := .int pm) (C := RX9) (T := TX9) (N := 14) hx hb hts inGX9 hown hK hP 0 rfl rfl 5 (by decide) (hts _ fl_X9_80) (fun _ h9 => h9) rfl dX9_narrows_114 ?_
        refine lv_icmp_ge (tgt := 132) hx hb dX9_narrows_117 (by decide) (fun c_7 => ?_) (fun c_7 => ?_)
        · rw [if_pos c_7] at hf
          refine lv_iconst (v := 0) hx hb dX9_narrows_132 (by decide) ?_
          refine lv_i2l hx hb dX9_narrows_133 rfl ?_
          refine lv_ladd hx hb dX9_narrows_134 ?_
          refine va_put (D := D) (ci := 9) (v := .long (((cde - cde / (16777216 : Int64) * (16777216 : Int64)) * (256 : Int64)) + (((0 : Int32)).toInt64))) (ty := .long) (C := RX9) (T := TX9) (N := 14) hx hb hts inGX9 tyX9 tyX9_ok nmX9 hown hK hP hD hS 0 rfl rfl 11 (by decide) (hts _ fl_X9_83) (fun _ h9 => h9) rfl (by decide +kernel) rfl rfl (Nat.le_of_ble_eq_true rfl) dX9_narrows_135 (fun H locs hP hD hS => ?_)
          have hP : va_P D vwCl [(q, .inr (9, [.ref qm, .int kept, .ref qi, .int im, .ref qp, .int pm, .ref qo, .int om, .ref qg, .long lo, .long hi_, .long (((cde - cde / (16777216 : Int64) * (16777216 : Int64)) * (256 : Int64)) + (((0 : Int32)).toInt64)), .int fr, .int sp])), (qm, .inl (cI, 5040, .inl mm)), (qi, .inl (cI, 60, .inl inp)), (qp, .inl (cI, 2000, .inl pk)), (qo, .inl (cI, 60, .inl out)), (qg, .inl (cI, 6, .inl gr))] H := hP
          have hD : va_D A [(q, .inr (9, [.ref qm, .int kept, .ref qi, .int im, .ref qp, .int pm, .ref qo, .int om, .ref qg, .long lo, .long hi_, .long (((cde - cde / (16777216 : Int64) * (16777216 : Int64)) * (256 : Int64)) + (((0 : Int32)).toInt64)), .int fr, .int sp])), (qm, .inl (cI, 5040, .inl mm)), (qi, .inl (cI, 60, .inl inp)), (qp, .inl (cI, 2000, .inl pk)), (qo, .inl (cI, 60, .inl out)), (qg, .inl (cI, 6, .inl gr))] := hD
          refine lv_aload_n hx hb dX9_narrows_138 rfl (lv_at hl 0 rfl) ?_
          refine lv_dup hx hb dX9_narrows_139 rfl ?_
          refine va_get (D := D) (ci := 9) (v := .int fr) (C := RX9) (T := TX9) (N := 14) hx hb hts inGX9 hown hK hP 0 rfl rfl 12 (by decide) (hts _ fl_X9_88) (fun _ h9 => h9) rfl dX9_narrows_140 ?_
          refine lv_iconst (v := 1) hx hb dX9_narrows_143 (by decide) ?_
          refine lv_iadd hx hb dX9_narrows_144 ?_
          refine va_put (D := D) (ci := 9) (v := .int (fr + 1)) (ty := .int) (C := RX9) (T := TX9) (N := 14) hx hb hts inGX9 tyX9 tyX9_ok nmX9 hown hK hP hD hS 0 rfl rfl 12 (by decide) (hts _ fl_X9_88) (fun _ h9 => h9) rfl (by decide +kernel) rfl rfl (Nat.le_of_ble_eq_true rfl) dX9_narrows_145 (fun H locs hP hD hS => ?_)
          have hP : va_P D vwCl [(q, .inr (9, [.ref qm, .int kept, .ref qi, .int im, .ref qp, .int pm, .ref qo, .int om, .ref qg, .long lo, .long hi_, .long (((cde - cde / (16777216 : Int64) * (16777216 : Int64)) * (256 : Int64)) + (((0 : Int32)).toInt64)), .int (fr + 1), .int sp])), (qm, .inl (cI, 5040, .inl mm)), (qi, .inl (cI, 60, .inl inp)), (qp, .inl (cI, 2000, .inl pk)), (qo, .inl (cI, 60, .inl out)), (qg, .inl (cI, 6, .inl gr))] H := hP
          have hD : va_D A [(q, .inr (9, [.ref qm, .int kept, .ref qi, .int im, .ref qp, .int pm, .ref qo, .int om, .ref qg, .long lo, .long hi_, .long (((cde - cde / (16777216 : Int64) * (16777216 : Int64)) * (256 : Int64)) + (((0 : Int32)).toInt64)), .int (fr + 1), .int sp])), (qm, .inl (cI, 5040, .inl mm)), (qi, .inl (cI, 60, .inl inp)), (qp, .inl (cI, 2000, .inl pk)), (qo, .inl (cI, 60, .inl out)), (qg, .inl (cI, 6, .inl gr))] := hD
          refine lv_aload_n hx hb dX9_narrows_148 rfl (lv_at hl 0 rfl) ?_
          refine lv_aload_n hx hb dX9_narrows_149 rfl (lv_at hl 0 rfl) ?_
          refine va_get (D := D) (ci := 9) (v := .long lo) (C := RX9) (T := TX9) (N := 14) hx hb hts inGX9 hown hK hP 0 rfl rfl 9 (by decide) (hts _ fl_X9_62) (fun _ h9 => h9) rfl dX9_narrows_150 ?_
          refine lv_ldc2 (v := (16777216 : Int64)) hx hb hown (hts _ ck_X9_78) dX9_narrows_153 ?_
          refine lv_lrem hx hb dX9_narrows_156 (by decide) ?_
          refine lv_ldc2 (v := (256 : Int64)) hx hb hown (hts _ ck_X9_86) dX9_narrows_157 ?_
          refine lv_lmul hx hb dX9_narrows_160 ?_
          refine va_put (D := D) (ci := 9) (v := .long ((lo - lo / (16777216 : Int64) * (16777216 : Int64)) * (256 : Int64))) (ty := .long) (C := RX9) (T := TX9) (N := 14) hx hb hts inGX9 tyX9 tyX9_ok nmX9 hown hK hP hD hS 0 rfl rfl 9 (by decide) (hts _ fl_X9_62) (fun _ h9 => h9) rfl (by decide +kernel) rfl rfl (Nat.le_of_ble_eq_true rfl) dX9_narrows_161 (fun H locs hP hD hS => ?_)
          have hP : va_P D vwCl [(q, .inr (9, [.ref qm, .int kept, .ref qi, .int im, .ref qp, .int pm, .ref qo, .int om, .ref qg, .long ((lo - lo / (16777216 : Int64) * (16777216 : Int64)) * (256 : Int64)), .long hi_, .long (((cde - cde / (16777216 : Int64) * (16777216 : Int64)) * (256 : Int64)) + (((0 : Int32)).toInt64)), .int (fr + 1), .int sp])), (qm, .inl (cI, 5040, .inl mm)), (qi, .inl (cI, 60, .inl inp)), (qp, .inl (cI, 2000, .inl pk)), (qo, .inl (cI, 60, .inl out)), (qg, .inl (cI, 6, .inl gr))] H := hP
          have hD : va_D A [(q, .inr (9, [.ref qm, .int kept, .ref qi, .int im, .ref qp, .int pm, .ref qo, .int om, .ref qg, .long ((lo - lo / (16777216 : Int64) * (16777216 : Int64)) * (256 : Int64)), .long hi_, .long (((cde - cde / (16777216 : Int64) * (16777216 : Int64)) * (256 : Int64)) + (((0 : Int32)).toInt64)), .int (fr + 1), .int sp])), (qm, .inl (cI, 5040, .inl mm)), (qi, .inl (cI, 60, .inl inp)), (qp, .inl (cI, 2000, .inl pk)), (qo, .inl (cI, 60, .inl out)), (qg, .inl (cI, 6, .inl gr))] := hD
          refine lv_aload_n hx hb dX9_narrows_164 rfl (lv_at hl 0 rfl) ?_
          refine lv_aload_n hx hb dX9_narrows_165 rfl (lv_at hl 0 rfl) ?_
          refine va_get (D := D) (ci := 9) (v := .long hi_) (C := RX9) (T := TX9) (N := 14) hx hb hts inGX9 hown hK hP 0 rfl rfl 10 (by decide) (hts _ fl_X9_68) (fun _ h9 => h9) rfl dX9_narrows_166 ?_
          refine lv_ldc2 (v := (16777216 : Int64)) hx hb hown (hts _ ck_X9_78) dX9_narrows_169 ?_
          refine lv_lrem hx hb dX9_narrows_172 (by decide) ?_
          refine lv_ldc2 (v := (256 : Int64)) hx hb hown (hts _ ck_X9_86) dX9_narrows_173 ?_
          refine lv_lmul hx hb dX9_narrows_176 ?_
          refine lv_ldc2 (v := (255 : Int64)) hx hb hown (hts _ ck_X9_56) dX9_narrows_177 ?_
          refine lv_ladd hx hb dX9_narrows_180 ?_
          refine va_put (D := D) (ci := 9) (v := .long (((hi_ - hi_ / (16777216 : Int64) * (16777216 : Int64)) * (256 : Int64)) + (255 : Int64))) (ty := .long) (C := RX9) (T := TX9) (N := 14) hx hb hts inGX9 tyX9 tyX9_ok nmX9 hown hK hP hD hS 0 rfl rfl 10 (by decide) (hts _ fl_X9_68) (fun _ h9 => h9) rfl (by decide +kernel) rfl rfl (Nat.le_of_ble_eq_true rfl) dX9_narrows_181 (fun H locs hP hD hS => ?_)
          have hP : va_P D vwCl [(q, .inr (9, [.ref qm, .int kept, .ref qi, .int im, .ref qp, .int pm, .ref qo, .int om, .ref qg, .long ((lo - lo / (16777216 : Int64) * (16777216 : Int64)) * (256 : Int64)), .long (((hi_ - hi_ / (16777216 : Int64) * (16777216 : Int64)) * (256 : Int64)) + (255 : Int64)), .long (((cde - cde / (16777216 : Int64) * (16777216 : Int64)) * (256 : Int64)) + (((0 : Int32)).toInt64)), .int (fr + 1), .int sp])), (qm, .inl (cI, 5040, .inl mm)), (qi, .inl (cI, 60, .inl inp)), (qp, .inl (cI, 2000, .inl pk)), (qo, .inl (cI, 60, .inl out)), (qg, .inl (cI, 6, .inl gr))] H := hP
          have hD : va_D A [(q, .inr (9, [.ref qm, .int kept, .ref qi, .int im, .ref qp, .int pm, .ref qo, .int om, .ref qg, .long ((lo - lo / (16777216 : Int64) * (16777216 : Int64)) * (256 : Int64)), .long (((hi_ - hi_ / (16777216 : Int64) * (16777216 : Int64)) * (256 : Int64)) + (255 : Int64)), .long (((cde - cde / (16777216 : Int64) * (16777216 : Int64)) * (256 : Int64)) + (((0 : Int32)).toInt64)), .int (fr + 1), .int sp])), (qm, .inl (cI, 5040, .inl mm)), (qi, .inl (cI, 60, .inl inp)), (qp, .inl (cI, 2000, .inl pk)), (qo, .inl (cI, 60, .inl out)), (qg, .inl (cI, 6, .inl gr))] := hD
          refine lv_goto (tgt := 41) hx hb dX9_narrows_184 (by decide) ?_
          have hf := Option.some.inj hf
          subst hf
          exact ih pm ((lo - lo / (16777216 : Int64) * (16777216 : Int64)) * (256 : Int64)) (((hi_ - hi_ / (16777216 : Int64) * (16777216 : Int64)) * (256 : Int64)) + (255 : Int64)) (((cde - cde / (16777216 : Int64) * (16777216 : Int64)) * (256 : Int64)) + (((0 : Int32)).toInt64)) (fr + 1) pk _ _ _ _ _ _ hz H locs ls hP hD hS (lv_sub hl [0, 1, 2] rfl) kk
        · rw [if_neg c_7] at hf
          refine lv_aload_n hx hb dX9_narrows_120 rfl (lv_at hl 0 rfl) ?_
          refine va_get (D := D) (ci := 9) (v := .ref qp) (C := RX9) (T := TX9) (N := 14) hx hb hts inGX9 hown hK hP 0 rfl rfl 4 (by decide) (hts _ fl_X9_16) (fun _ h9 => h9) rfl dX9_narrows_121 ?_
          refine lv_aload_n hx hb dX9_narrows_124 rfl (lv_at hl 0 rfl) ?_
          refine va_get (D := D) (ci := 9) (v := .int fr) (C := RX9) (T := TX9) (N := 14) hx hb hts inGX9 hown hK hP 0 rfl rfl 12 (by decide) (hts _ fl_X9_88) (fun _ h9 => h9) rfl dX9_narrows_125 ?_
          have b_8 : ¬ (fr < 0 ∨ 2000 ≤ (fr).toNatClampNeg) := fun q => by rw [if_pos q] at hf; cases hf
          rw [if_neg b_8] at hf
          refine va_iald hx hb hK hP 3 0 rfl rfl b_8 dX9_narrows_128 ?_
          refine lv_goto (tgt := 133) hx hb dX9_narrows_129 (by decide) ?_
          refine lv_i2l hx hb dX9_narrows_133 rfl ?_
          refine lv_ladd hx hb dX9_narrows_134 ?_
          refine va_put (D := D) (ci := 9) (v := .long (((cde - cde / (16777216 : Int64) * (16777216 : Int64)) * (256 : Int64)) + ((pk (fr).toNatClampNeg).toInt64))) (ty := .long) (C := RX9) (T := TX9) (N := 14) hx hb hts inGX9 tyX9 tyX9_ok nmX9 hown hK hP hD hS 0 rfl rfl 11 (by decide) (hts _ fl_X9_83) (fun _ h9 => h9) rfl (by decide +kernel) rfl rfl (Nat.le_of_ble_eq_true rfl) dX9_narrows_135 (fun H locs hP hD hS => ?_)
          have hP : va_P D vwCl [(q, .inr (9, [.ref qm, .int kept, .ref qi, .int im, .ref qp, .int pm, .ref qo, .int om, .ref qg, .long lo, .long hi_, .long (((cde - cde / (16777216 : Int64) * (16777216 : Int64)) * (256 : Int64)) + ((pk (fr).toNatClampNeg).toInt64)), .int fr, .int sp])), (qm, .inl (cI, 5040, .inl mm)), (qi, .inl (cI, 60, .inl inp)), (qp, .inl (cI, 2000, .inl pk)), (qo, .inl (cI, 60, .inl out)), (qg, .inl (cI, 6, .inl gr))] H := hP
          have hD : va_D A [(q, .inr (9, [.ref qm, .int kept, .ref qi, .int im, .ref qp, .int pm, .ref qo, .int om, .ref qg, .long lo, .long hi_, .long (((cde - cde / (16777216 : Int64) * (16777216 : Int64)) * (256 : Int64)) + ((pk (fr).toNatClampNeg).toInt64)), .int fr, .int sp])), (qm, .inl (cI, 5040, .inl mm)), (qi, .inl (cI, 60, .inl inp)), (qp, .inl (cI, 2000, .inl pk)), (qo, .inl (cI, 60, .inl out)), (qg, .inl (cI, 6, .inl gr))] := hD
          refine lv_aload_n hx hb dX9_narrows_138 rfl (lv_at hl 0 rfl) ?_
          refine lv_dup hx hb dX9_narrows_139 rfl ?_
          refine va_get (D := D) (ci := 9) (v := .int fr) (C := RX9) (T := TX9) (N := 14) hx hb hts inGX9 hown hK hP 0 rfl rfl 12 (by decide) (hts _ fl_X9_88) (fun _ h9 => h9) rfl dX9_narrows_140 ?_
          refine lv_iconst (v := 1) hx hb dX9_narrows_143 (by decide) ?_
          refine lv_iadd hx hb dX9_narrows_144 ?_
          refine va_put (D := D) (ci := 9) (v := .int (fr + 1)) (ty := .int) (C := RX9) (T := TX9) (N := 14) hx hb hts inGX9 tyX9 tyX9_ok nmX9 hown hK hP hD hS 0 rfl rfl 12 (by decide) (hts _ fl_X9_88) (fun _ h9 => h9) rfl (by decide +kernel) rfl rfl (Nat.le_of_ble_eq_true rfl) dX9_narrows_145 (fun H locs hP hD hS => ?_)
          have hP : va_P D vwCl [(q, .inr (9, [.ref qm, .int kept, .ref qi, .int im, .ref qp, .int pm, .ref qo, .int om, .ref qg, .long lo, .long hi_, .long (((cde - cde / (16777216 : Int64) * (16777216 : Int64)) * (256 : Int64)) + ((pk (fr).toNatClampNeg).toInt64)), .int (fr + 1), .int sp])), (qm, .inl (cI, 5040, .inl mm)), (qi, .inl (cI, 60, .inl inp)), (qp, .inl (cI, 2000, .inl pk)), (qo, .inl (cI, 60, .inl out)), (qg, .inl (cI, 6, .inl gr))] H := hP
          have hD : va_D A [(q, .inr (9, [.ref qm, .int kept, .ref qi, .int im, .ref qp, .int pm, .ref qo, .int om, .ref qg, .long lo, .long hi_, .long (((cde - cde / (16777216 : Int64) * (16777216 : Int64)) * (256 : Int64)) + ((pk (fr).toNatClampNeg).toInt64)), .int (fr + 1), .int sp])), (qm, .inl (cI, 5040, .inl mm)), (qi, .inl (cI, 60, .inl inp)), (qp, .inl (cI, 2000, .inl pk)), (qo, .inl (cI, 60, .inl out)), (qg, .inl (cI, 6, .inl gr))] := hD
          refine lv_aload_n hx hb dX9_narrows_148 rfl (lv_at hl 0 rfl) ?_
          refine lv_aload_n hx hb dX9_narrows_149 rfl (lv_at hl 0 rfl) ?_
          refine va_get (D := D) (ci := 9) (v := .long lo) (C := RX9) (T := TX9) (N := 14) hx hb hts inGX9 hown hK hP 0 rfl rfl 9 (by decide) (hts _ fl_X9_62) (fun _ h9 => h9) rfl dX9_narrows_150 ?_
          refine lv_ldc2 (v := (16777216 : Int64)) hx hb hown (hts _ ck_X9_78) dX9_narrows_153 ?_
          refine lv_lrem hx hb dX9_narrows_156 (by decide) ?_
          refine lv_ldc2 (v := (256 : Int64)) hx hb hown (hts _ ck_X9_86) dX9_narrows_157 ?_
          refine lv_lmul hx hb dX9_narrows_160 ?_
          refine va_put (D := D) (ci := 9) (v := .long ((lo - lo / (16777216 : Int64) * (16777216 : Int64)) * (256 : Int64))) (ty := .long) (C := RX9) (T := TX9) (N := 14) hx hb hts inGX9 tyX9 tyX9_ok nmX9 hown hK hP hD hS 0 rfl rfl 9 (by decide) (hts _ fl_X9_62) (fun _ h9 => h9) rfl (by decide +kernel) rfl rfl (Nat.le_of_ble_eq_true rfl) dX9_narrows_161 (fun H locs hP hD hS => ?_)
          have hP : va_P D vwCl [(q, .inr (9, [.ref qm, .int kept, .ref qi, .int im, .ref qp, .int pm, .ref qo, .int om, .ref qg, .long ((lo - lo / (16777216 : Int64) * (16777216 : Int64)) * (256 : Int64)), .long hi_, .long (((cde - cde / (16777216 : Int64) * (16777216 : Int64)) * (256 : Int64)) + ((pk (fr).toNatClampNeg).toInt64)), .int (fr + 1), .int sp])), (qm, .inl (cI, 5040, .inl mm)), (qi, .inl (cI, 60, .inl inp)), (qp, .inl (cI, 2000, .inl pk)), (qo, .inl (cI, 60, .inl out)), (qg, .inl (cI, 6, .inl gr))] H := hP
          have hD : va_D A [(q, .inr (9, [.ref qm, .int kept, .ref qi, .int im, .ref qp, .int pm, .ref qo, .int om, .ref qg, .long ((lo - lo / (16777216 : Int64) * (16777216 : Int64)) * (256 : Int64)), .long hi_, .long (((cde - cde / (16777216 : Int64) * (16777216 : Int64)) * (256 : Int64)) + ((pk (fr).toNatClampNeg).toInt64)), .int (fr + 1), .int sp])), (qm, .inl (cI, 5040, .inl mm)), (qi, .inl (cI, 60, .inl inp)), (qp, .inl (cI, 2000, .inl pk)), (qo, .inl (cI, 60, .inl out)), (qg, .inl (cI, 6, .inl gr))] := hD
          refine lv_aload_n hx hb dX9_narrows_164 rfl (lv_at hl 0 rfl) ?_
          refine lv_aload_n hx hb dX9_narrows_165 rfl (lv_at hl 0 rfl) ?_
          refine va_get (D := D) (ci := 9) (v := .long hi_) (C := RX9) (T := TX9) (N := 14) hx hb hts inGX9 hown hK hP 0 rfl rfl 10 (by decide) (hts _ fl_X9_68) (fun _ h9 => h9) rfl dX9_narrows_166 ?_
          refine lv_ldc2 (v := (16777216 : Int64)) hx hb hown (hts _ ck_X9_78) dX9_narrows_169 ?_
          refine lv_lrem hx hb dX9_narrows_172 (by decide) ?_
          refine lv_ldc2 (v := (256 : Int64)) hx hb hown (hts _ ck_X9_86) dX9_narrows_173 ?_
          refine lv_lmul hx hb dX9_narrows_176 ?_
          refine lv_ldc2 (v := (255 : Int64)) hx hb hown (hts _ ck_X9_56) dX9_narrows_177 ?_
          refine lv_ladd hx hb dX9_narrows_180 ?_
          refine va_put (D := D) (ci := 9) (v := .long (((hi_ - hi_ / (16777216 : Int64) * (16777216 : Int64)) * (256 : Int64)) + (255 : Int64))) (ty := .long) (C := RX9) (T := TX9) (N := 14) hx hb hts inGX9 tyX9 tyX9_ok nmX9 hown hK hP hD hS 0 rfl rfl 10 (by decide) (hts _ fl_X9_68) (fun _ h9 => h9) rfl (by decide +kernel) rfl rfl (Nat.le_of_ble_eq_true rfl) dX9_narrows_181 (fun H locs hP hD hS => ?_)
          have hP : va_P D vwCl [(q, .inr (9, [.ref qm, .int kept, .ref qi, .int im, .ref qp, .int pm, .ref qo, .int om, .ref qg, .long ((lo - lo / (16777216 : Int64) * (16777216 : Int64)) * (256 : Int64)), .long (((hi_ - hi_ / (16777216 : Int64) * (16777216 : Int64)) * (256 : Int64)) + (255 : Int64)), .long (((cde - cde / (16777216 : Int64) * (16777216 : Int64)) * (256 : Int64)) + ((pk (fr).toNatClampNeg).toInt64)), .int (fr + 1), .int sp])), (qm, .inl (cI, 5040, .inl mm)), (qi, .inl (cI, 60, .inl inp)), (qp, .inl (cI, 2000, .inl pk)), (qo, .inl (cI, 60, .inl out)), (qg, .inl (cI, 6, .inl gr))] H := hP
          have hD : va_D A [(q, .inr (9, [.ref qm, .int kept, .ref qi, .int im, .ref qp, .int pm, .ref qo, .int om, .ref qg, .long ((lo - lo / (16777216 : Int64) * (16777216 : Int64)) * (256 : Int64)), .long (((hi_ - hi_ / (16777216 : Int64) * (16777216 : Int64)) * (256 : Int64)) + (255 : Int64)), .long (((cde - cde / (16777216 : Int64) * (16777216 : Int64)) * (256 : Int64)) + ((pk (fr).toNatClampNeg).toInt64)), .int (fr + 1), .int sp])), (qm, .inl (cI, 5040, .inl mm)), (qi, .inl (cI, 60, .inl inp)), (qp, .inl (cI, 2000, .inl pk)), (qo, .inl (cI, 60, .inl out)), (qg, .inl (cI, 6, .inl gr))] := hD
          refine lv_goto (tgt := 41) hx hb dX9_narrows_184 (by decide) ?_
          have hf := Option.some.inj hf
          subst hf
          exact ih pm ((lo - lo / (16777216 : Int64) * (16777216 : Int64)) * (256 : Int64)) (((hi_ - hi_ / (16777216 : Int64) * (16777216 : Int64)) * (256 : Int64)) + (255 : Int64)) (((cde - cde / (16777216 : Int64) * (16777216 : Int64)) * (256 : Int64)) + ((pk (fr).toNatClampNeg).toInt64)) (fr + 1) pk _ _ _ _ _ _ hz H locs ls hP hD hS (lv_sub hl [0, 1, 2] rfl) kk
      · rw [if_neg c_6] at hf
        refine lv_aload_n hx hb dX9_narrows_65 rfl (lv_at hl 0 rfl) ?_
        refine va_get (D := D) (ci := 9) (v := .ref qp) (C := RX9) (T := TX9) (N := 14) hx hb hts inGX9 hown hK hP 0 rfl rfl 4 (by decide) (hts _ fl_X9_16) (fun _ h9 => h9) rfl dX9_narrows_66 ?_
        refine lv_aload_n hx hb dX9_narrows_69 rfl (lv_at hl 0 rfl) ?_
        refine va_get (D := D) (ci := 9) (v := .int pm) (C := RX9) (T := TX9) (N := 14) hx hb hts inGX9 hown hK hP 0 rfl rfl 5 (by decide) (hts _ fl_X9_80) (fun _ h9 => h9) rfl dX9_narrows_70 ?_
        refine lv_aload_n hx hb dX9_narrows_73 rfl (lv_at hl 0 rfl) ?_
        refine va_get (D := D) (ci := 9) (v := .long lo) (C := RX9) (T := TX9) (N := 14) hx hb hts inGX9 hown hK hP 0 rfl rfl 9 (by decide) (hts _ fl_X9_62) (fun _ h9 => h9) rfl dX9_narrows_74 ?_
        refine lv_ldc2 (v := (16777216 : Int64)) hx hb hown (hts _ ck_X9_78) dX9_narrows_77 ?_
        refine lv_ldiv hx hb dX9_narrows_80 (by decide) ?_
        refine lv_l2i hx hb dX9_narrows_81 rfl ?_
        have b_9 : ¬ (pm < 0 ∨ 2000 ≤ (pm).toNatClampNeg) := fun q => by rw [if_pos q] at hf; cases hf
        rw [if_neg b_9] at hf
        refine va_iast hx hb hK hP hD hS 3 0 rfl rfl b_9 dX9_narrows_82 (fun H locs hP hD hS => ?_)
        have hP : va_P D vwCl [(q, .inr (9, [.ref qm, .int kept, .ref qi, .int im, .ref qp, .int pm, .ref qo, .int om, .ref qg, .long lo, .long hi_, .long cde, .int fr, .int sp])), (qm, .inl (cI, 5040, .inl mm)), (qi, .inl (cI, 60, .inl inp)), (qp, .inl (cI, 2000, .inl (upd pk (pm).toNatClampNeg ((lo / (16777216 : Int64)).toInt32)))), (qo, .inl (cI, 60, .inl out)), (qg, .inl (cI, 6, .inl gr))] H := hP
        have hD : va_D A [(q, .inr (9, [.ref qm, .int kept, .ref qi, .int im, .ref qp, .int pm, .ref qo, .int om, .ref qg, .long lo, .long hi_, .long cde, .int fr, .int sp])), (qm, .inl (cI, 5040, .inl mm)), (qi, .inl (cI, 60, .inl inp)), (qp, .inl (cI, 2000, .inl (upd pk (pm).toNatClampNeg ((lo / (16777216 : Int64)).toInt32)))), (qo, .inl (cI, 60, .inl out)), (qg, .inl (cI, 6, .inl gr))] := hD
        refine lv_aload_n hx hb dX9_narrows_83 rfl (lv_at hl 0 rfl) ?_
        refine lv_dup hx hb dX9_narrows_84 rfl ?_
        refine va_get (D := D) (ci := 9) (v := .int pm) (C := RX9) (T := TX9) (N := 14) hx hb hts inGX9 hown hK hP 0 rfl rfl 5 (by decide) (hts _ fl_X9_80) (fun _ h9 => h9) rfl dX9_narrows_85 ?_
        refine lv_iconst (v := 1) hx hb dX9_narrows_88 (by decide) ?_
        refine lv_iadd hx hb dX9_narrows_89 ?_
        refine va_put (D := D) (ci := 9) (v := .int (pm + 1)) (ty := .int) (C := RX9) (T := TX9) (N := 14) hx hb hts inGX9 tyX9 tyX9_ok nmX9 hown hK hP hD hS 0 rfl rfl 5 (by decide) (hts _ fl_X9_80) (fun _ h9 => h9) rfl (by decide +kernel) rfl rfl (Nat.le_of_ble_eq_true rfl) dX9_narrows_90 (fun H locs hP hD hS => ?_)
        have hP : va_P D vwCl [(q, .inr (9, [.ref qm, .int kept, .ref qi, .int im, .ref qp, .int (pm + 1), .ref qo, .int om, .ref qg, .long lo, .long hi_, .long cde, .int fr, .int sp])), (qm, .inl (cI, 5040, .inl mm)), (qi, .inl (cI, 60, .inl inp)), (qp, .inl (cI, 2000, .inl (upd pk (pm).toNatClampNeg ((lo / (16777216 : Int64)).toInt32)))), (qo, .inl (cI, 60, .inl out)), (qg, .inl (cI, 6, .inl gr))] H := hP
        have hD : va_D A [(q, .inr (9, [.ref qm, .int kept, .ref qi, .int im, .ref qp, .int (pm + 1), .ref qo, .int om, .ref qg, .long lo, .long hi_, .long cde, .int fr, .int sp])), (qm, .inl (cI, 5040, .inl mm)), (qi, .inl (cI, 60, .inl inp)), (qp, .inl (cI, 2000, .inl (upd pk (pm).toNatClampNeg ((lo / (16777216 : Int64)).toInt32)))), (qo, .inl (cI, 60, .inl out)), (qg, .inl (cI, 6, .inl gr))] := hD
        refine lv_goto (tgt := 148) hx hb dX9_narrows_93 (by decide) ?_
        refine lv_aload_n hx hb dX9_narrows_148 rfl (lv_at hl 0 rfl) ?_
        refine lv_aload_n hx hb dX9_narrows_149 rfl (lv_at hl 0 rfl) ?_
        refine va_get (D := D) (ci := 9) (v := .long lo) (C := RX9) (T := TX9) (N := 14) hx hb hts inGX9 hown hK hP 0 rfl rfl 9 (by decide) (hts _ fl_X9_62) (fun _ h9 => h9) rfl dX9_narrows_150 ?_
        refine lv_ldc2 (v := (16777216 : Int64)) hx hb hown (hts _ ck_X9_78) dX9_narrows_153 ?_
        refine lv_lrem hx hb dX9_narrows_156 (by decide) ?_
        refine lv_ldc2 (v := (256 : Int64)) hx hb hown (hts _ ck_X9_86) dX9_narrows_157 ?_
        refine lv_lmul hx hb dX9_narrows_160 ?_
        refine va_put (D := D) (ci := 9) (v := .long ((lo - lo / (16777216 : Int64) * (16777216 : Int64)) * (256 : Int64))) (ty := .long) (C := RX9) (T := TX9) (N := 14) hx hb hts inGX9 tyX9 tyX9_ok nmX9 hown hK hP hD hS 0 rfl rfl 9 (by decide) (hts _ fl_X9_62) (fun _ h9 => h9) rfl (by decide +kernel) rfl rfl (Nat.le_of_ble_eq_true rfl) dX9_narrows_161 (fun H locs hP hD hS => ?_)
        have hP : va_P D vwCl [(q, .inr (9, [.ref qm, .int kept, .ref qi, .int im, .ref qp, .int (pm + 1), .ref qo, .int om, .ref qg, .long ((lo - lo / (16777216 : Int64) * (16777216 : Int64)) * (256 : Int64)), .long hi_, .long cde, .int fr, .int sp])), (qm, .inl (cI, 5040, .inl mm)), (qi, .inl (cI, 60, .inl inp)), (qp, .inl (cI, 2000, .inl (upd pk (pm).toNatClampNeg ((lo / (16777216 : Int64)).toInt32)))), (qo, .inl (cI, 60, .inl out)), (qg, .inl (cI, 6, .inl gr))] H := hP
        have hD : va_D A [(q, .inr (9, [.ref qm, .int kept, .ref qi, .int im, .ref qp, .int (pm + 1), .ref qo, .int om, .ref qg, .long ((lo - lo / (16777216 : Int64) * (16777216 : Int64)) * (256 : Int64)), .long hi_, .long cde, .int fr, .int sp])), (qm, .inl (cI, 5040, .inl mm)), (qi, .inl (cI, 60, .inl inp)), (qp, .inl (cI, 2000, .inl (upd pk (pm).toNatClampNeg ((lo / (16777216 : Int64)).toInt32)))), (qo, .inl (cI, 60, .inl out)), (qg, .inl (cI, 6, .inl gr))] := hD
        refine lv_aload_n hx hb dX9_narrows_164 rfl (lv_at hl 0 rfl) ?_
        refine lv_aload_n hx hb dX9_narrows_165 rfl (lv_at hl 0 rfl) ?_
        refine va_get (D := D) (ci := 9) (v := .long hi_) (C := RX9) (T := TX9) (N := 14) hx hb hts inGX9 hown hK hP 0 rfl rfl 10 (by decide) (hts _ fl_X9_68) (fun _ h9 => h9) rfl dX9_narrows_166 ?_
        refine lv_ldc2 (v := (16777216 : Int64)) hx hb hown (hts _ ck_X9_78) dX9_narrows_169 ?_
        refine lv_lrem hx hb dX9_narrows_172 (by decide) ?_
        refine lv_ldc2 (v := (256 : Int64)) hx hb hown (hts _ ck_X9_86) dX9_narrows_173 ?_
        refine lv_lmul hx hb dX9_narrows_176 ?_
        refine lv_ldc2 (v := (255 : Int64)) hx hb hown (hts _ ck_X9_56) dX9_narrows_177 ?_
        refine lv_ladd hx hb dX9_narrows_180 ?_
        refine va_put (D := D) (ci := 9) (v := .long (((hi_ - hi_ / (16777216 : Int64) * (16777216 : Int64)) * (256 : Int64)) + (255 : Int64))) (ty := .long) (C := RX9) (T := TX9) (N := 14) hx hb hts inGX9 tyX9 tyX9_ok nmX9 hown hK hP hD hS 0 rfl rfl 10 (by decide) (hts _ fl_X9_68) (fun _ h9 => h9) rfl (by decide +kernel) rfl rfl (Nat.le_of_ble_eq_true rfl) dX9_narrows_181 (fun H locs hP hD hS => ?_)
        have hP : va_P D vwCl [(q, .inr (9, [.ref qm, .int kept, .ref qi, .int im, .ref qp, .int (pm + 1), .ref qo, .int om, .ref qg, .long ((lo - lo / (16777216 : Int64) * (16777216 : Int64)) * (256 : Int64)), .long (((hi_ - hi_ / (16777216 : Int64) * (16777216 : Int64)) * (256 : Int64)) + (255 : Int64)), .long cde, .int fr, .int sp])), (qm, .inl (cI, 5040, .inl mm)), (qi, .inl (cI, 60, .inl inp)), (qp, .inl (cI, 2000, .inl (upd pk (pm).toNatClampNeg ((lo / (16777216 : Int64)).toInt32)))), (qo, .inl (cI, 60, .inl out)), (qg, .inl (cI, 6, .inl gr))] H := hP
        have hD : va_D A [(q, .inr (9, [.ref qm, .int kept, .ref qi, .int im, .ref qp, .int (pm + 1), .ref qo, .int om, .ref qg, .long ((lo - lo / (16777216 : Int64) * (16777216 : Int64)) * (256 : Int64)), .long (((hi_ - hi_ / (16777216 : Int64) * (16777216 : Int64)) * (256 : Int64)) + (255 : Int64)), .long cde, .int fr, .int sp])), (qm, .inl (cI, 5040, .inl mm)), (qi, .inl (cI, 60, .inl inp)), (qp, .inl (cI, 2000, .inl (upd pk (pm).toNatClampNeg ((lo / (16777216 : Int64)).toInt32)))), (qo, .inl (cI, 60, .inl out)), (qg, .inl (cI, 6, .inl gr))] := hD
        refine lv_goto (tgt := 41) hx hb dX9_narrows_184 (by decide) ?_
        have hf := Option.some.inj hf
        subst hf
        exact ih (pm + 1) ((lo - lo / (16777216 : Int64) * (16777216 : Int64)) * (256 : Int64)) (((hi_ - hi_ / (16777216 : Int64) * (16777216 : Int64)) * (256 : Int64)) + (255 : Int64)) cde fr (upd pk (pm).toNatClampNeg ((lo / (16777216 : Int64)).toInt32)) _ _ _ _ _ _ hz H locs ls hP hD hS (lv_sub hl [0, 1, 2] rfl) kk
def f_X9_narrows (pm : Int32) (lo : Int64) (hi_ : Int64) (cde : Int64) (fr : Int32) (mm : (Nat → Int32)) (pk : (Nat → Int32)) (x1 : Int32) (x2 : Int32) : Option (Int32 × Int64 × Int64 × Int64 × Int32 × (Nat → Int32) × (Nat → Int32)) := bi1 (f_X9_middle lo hi_ mm) (fun (r_1 : Int64) => if x1 = 1 then (bi6 (f_X9_narrows_L41 x2 4096 pm lo r_1 cde fr pk) (fun (pm_20 : Int32) (lo_21 : Int64) (hi__22 : Int64) (cde_23 : Int64) (fr_24 : Int32) (pk_25 : (Nat → Int32)) => bi1 (f_X9_takes mm 1260 x1) (fun (mm_27 : (Nat → Int32)) => some (pm_20, lo_21, hi__22, cde_23, fr_24, mm_27, pk_25)))) else (bi6 (f_X9_narrows_L41 x2 4096 pm (r_1 + (1 : Int64)) hi_ cde fr pk) (fun (pm_10 : Int32) (lo_11 : Int64) (hi__12 : Int64) (cde_13 : Int64) (fr_14 : Int32) (pk_15 : (Nat → Int32)) => bi1 (f_X9_takes mm 1260 x1) (fun (mm_17 : (Nat → Int32)) => some (pm_10, lo_11, hi__12, cde_13, fr_14, mm_17, pk_15)))))
set_option maxHeartbeats 4000000 in
set_option maxRecDepth 100000 in
theorem c_X9_narrows (l : Launch) (D : va_G) (cI : ClassId) {sz : Nat} (q : Nat) (qm : Nat) (qi : Nat) (qp : Nat) (qo : Nat) (qg : Nat) (kept : Int32) (im : Int32) (pm : Int32) (om : Int32) (lo : Int64) (hi_ : Int64) (cde : Int64) (fr : Int32) (sp : Int32) (mm : (Nat → Int32)) (inp : (Nat → Int32)) (pk : (Nat → Int32)) (out : (Nat → Int32)) (gr : (Nat → Int32)) (x1 : Int32) (x2 : Int32) (o_pm : Int32) (o_lo : Int64) (o_hi_ : Int64) (o_cde : Int64) (o_fr : Int32) (o_mm : (Nat → Int32)) (o_pk : (Nat → Int32)) (hf : f_X9_narrows pm lo hi_ cde fr mm pk x1 x2 = some (o_pm, o_lo, o_hi_, o_cde, o_fr, o_mm, o_pk)) : Met l yX9_narrows (.code yX9_narrows cX9_narrows 5 none :: wsG) ({ frames := 3, cells := 0, slots := 0, locals := 66 }) (va_Pc [.ref q, .int x1, .int x2] (gv D cI sz [(q, .inr (9, [.ref qm, .int kept, .ref qi, .int im, .ref qp, .int pm, .ref qo, .int om, .ref qg, .long lo, .long hi_, .long cde, .int fr, .int sp])), (qm, .inl (cI, 5040, .inl mm)), (qi, .inl (cI, 60, .inl inp)), (qp, .inl (cI, 2000, .inl pk)), (qo, .inl (cI, 60, .inl out)), (qg, .inl (cI, 6, .inl gr))])) (va_Qv (fun (_ : Unit) => True) (gz D (va_A [(q, .inr (9, [.ref qm, .int kept, .ref qi, .int im, .ref qp, .int pm, .ref qo, .int om, .ref qg, .long lo, .long hi_, .long cde, .int fr, .int sp])), (qm, .inl (cI, 5040, .inl mm)), (qi, .inl (cI, 60, .inl inp)), (qp, .inl (cI, 2000, .inl pk)), (qo, .inl (cI, 60, .inl out)), (qg, .inl (cI, 6, .inl gr))] sz) [(q, .inr (9, [.ref qm, .int kept, .ref qi, .int im, .ref qp, .int o_pm, .ref qo, .int om, .ref qg, .long o_lo, .long o_hi_, .long o_cde, .int o_fr, .int sp])), (qm, .inl (cI, 5040, .inl o_mm)), (qi, .inl (cI, 60, .inl inp)), (qp, .inl (cI, 2000, .inl o_pk)), (qo, .inl (cI, 60, .inl out)), (qg, .inl (cI, 6, .inl gr))]) (va_A [(q, .inr (9, [.ref qm, .int kept, .ref qi, .int im, .ref qp, .int pm, .ref qo, .int om, .ref qg, .long lo, .long hi_, .long cde, .int fr, .int sp])), (qm, .inl (cI, 5040, .inl mm)), (qi, .inl (cI, 60, .inl inp)), (qp, .inl (cI, 2000, .inl pk)), (qo, .inl (cI, 60, .inl out)), (qg, .inl (cI, 6, .inl gr))] sz)) 0 0 (va_A [(q, .inr (9, [.ref qm, .int kept, .ref qi, .int im, .ref qp, .int pm, .ref qo, .int om, .ref qg, .long lo, .long hi_, .long cde, .int fr, .int sp])), (qm, .inl (cI, 5040, .inl mm)), (qi, .inl (cI, 60, .inl inp)), (qp, .inl (cI, 2000, .inl pk)), (qo, .inl (cI, 60, .inl out)), (qg, .inl (cI, 6, .inl gr))] sz) := by
  refine k_rw (y := yX9_narrows) (cc := cX9_narrows) (maxL := 5) (ret := none) (As := [.ref q, .int x1, .int x2]) (Qc := fun A => va_Qv (fun (_ : Unit) => True) (gz D A [(q, .inr (9, [.ref qm, .int kept, .ref qi, .int im, .ref qp, .int o_pm, .ref qo, .int om, .ref qg, .long o_lo, .long o_hi_, .long o_cde, .int o_fr, .int sp])), (qm, .inl (cI, 5040, .inl o_mm)), (qi, .inl (cI, 60, .inl inp)), (qp, .inl (cI, 2000, .inl o_pk)), (qo, .inl (cI, 60, .inl out)), (qg, .inl (cI, 6, .inl gr))]) A) (by decide) rfl (Nat.le_of_ble_eq_true rfl) rfl ?_
  intro p e s m below meth c ls A S hret hloc hK hN hSF hP hD hS hA hl
  obtain ⟨hx, hb, hml, hown, hts⟩ := id S
  unfold f_X9_narrows at hf
  refine lv_aload_n hx hb dX9_narrows_0 rfl (lv_at hl 0 rfl) ?_
  obtain ⟨r_1, hc_2, hf⟩ := bd1 hf
  refine k_roVl (As := []) (rest := []) S (c_X9_middle l D cI (q := q) (qm := qm) (qi := qi) (qp := qp) (qo := qo) (qg := qg) (kept := kept) (im := im) (pm := pm) (om := om) (lo := lo) (hi_ := hi_) (cde := cde) (fr := fr) (sp := sp) (mm := mm) (inp := inp) (pk := pk) (out := out) (gr := gr)  (r := r_1) (hf := hc_2)) gs_X9_74 ok_X9_middle ⟨rfl, rfl⟩ ⟨Nat.le_of_ble_eq_true rfl, Nat.le_of_ble_eq_true rfl⟩ hK hN (sfr hSF hS) hP rfl rfl rfl hl.1 rfl (Nat.le_of_ble_eq_true rfl) ⟨Nat.zero_le _, Nat.zero_le _⟩ dX9_narrows_1 ?_
  refine lv_lstore_n (lv' := [(3, .long r_1), (0, .ref q), (1, .int x1), (2, .int x2)]) hx hb dX9_narrows_4 rfl hl (by decide) rfl (fun ls hl => ?_)
  refine lv_aload_n hx hb dX9_narrows_5 rfl (lv_at hl 1 rfl) ?_
  refine lv_iload_n hx hb dX9_narrows_6 rfl (lv_at hl 2 rfl) ?_
  refine lv_iconst (v := 1) hx hb dX9_narrows_7 (by decide) ?_
  refine lv_icmp_ne (tgt := 18) hx hb dX9_narrows_8 (by decide) (fun c_3 => ?_) (fun c_3 => ?_)
  · rw [if_neg c_3] at hf
    refine lv_lload_n hx hb dX9_narrows_18 rfl (lv_at hl 0 rfl) ?_
    refine lv_lconst (v := 1) hx hb dX9_narrows_19 (by decide) ?_
    refine lv_ladd hx hb dX9_narrows_20 ?_
    refine va_put (D := D) (ci := 9) (v := .long (r_1 + (1 : Int64))) (ty := .long) (C := RX9) (T := TX9) (N := 14) hx hb hts inGX9 tyX9 tyX9_ok nmX9 hown hK hP hD hS 0 rfl rfl 9 (by decide) (hts _ fl_X9_62) (fun _ h9 => h9) rfl (by decide +kernel) rfl rfl (Nat.le_of_ble_eq_true rfl) dX9_narrows_21 (fun H locs hP hD hS => ?_)
    have hP : va_P D vwCl [(q, .inr (9, [.ref qm, .int kept, .ref qi, .int im, .ref qp, .int pm, .ref qo, .int om, .ref qg, .long (r_1 + (1 : Int64)), .long hi_, .long cde, .int fr, .int sp])), (qm, .inl (cI, 5040, .inl mm)), (qi, .inl (cI, 60, .inl inp)), (qp, .inl (cI, 2000, .inl pk)), (qo, .inl (cI, 60, .inl out)), (qg, .inl (cI, 6, .inl gr))] H := hP
    have hD : va_D A [(q, .inr (9, [.ref qm, .int kept, .ref qi, .int im, .ref qp, .int pm, .ref qo, .int om, .ref qg, .long (r_1 + (1 : Int64)), .long hi_, .long cde, .int fr, .int sp])), (qm, .inl (cI, 5040, .inl mm)), (qi, .inl (cI, 60, .inl inp)), (qp, .inl (cI, 2000, .inl pk)), (qo, .inl (cI, 60, .inl out)), (qg, .inl (cI, 6, .inl gr))] := hD
    refine lv_aload_n hx hb dX9_narrows_24 rfl (lv_at hl 1 rfl) ?_
    refine lv_iload_n hx hb dX9_narrows_25 rfl (lv_at hl 2 rfl) ?_
    refine lv_iconst (v := 1) hx hb dX9_narrows_26 (by decide) ?_
    refine lv_icmp_ne (tgt := 34) hx hb dX9_narrows_27 (by decide) (fun c_4 => ?_) (fun c_4 => ?_)
    · refine lv_aload_n hx hb dX9_narrows_34 rfl (lv_at hl 1 rfl) ?_
      refine va_get (D := D) (ci := 9) (v := .long hi_) (C := RX9) (T := TX9) (N := 14) hx hb hts inGX9 hown hK hP 0 rfl rfl 10 (by decide) (hts _ fl_X9_68) (fun _ h9 => h9) rfl dX9_narrows_35 ?_
      refine va_put (D := D) (ci := 9) (v := .long hi_) (ty := .long) (C := RX9) (T := TX9) (N := 14) hx hb hts inGX9 tyX9 tyX9_ok nmX9 hown hK hP hD hS 0 rfl rfl 10 (by decide) (hts _ fl_X9_68) (fun _ h9 => h9) rfl (by decide +kernel) rfl rfl (Nat.le_of_ble_eq_true rfl) dX9_narrows_38 (fun H locs hP hD hS => ?_)
      have hP : va_P D vwCl [(q, .inr (9, [.ref qm, .int kept, .ref qi, .int im, .ref qp, .int pm, .ref qo, .int om, .ref qg, .long (r_1 + (1 : Int64)), .long hi_, .long cde, .int fr, .int sp])), (qm, .inl (cI, 5040, .inl mm)), (qi, .inl (cI, 60, .inl inp)), (qp, .inl (cI, 2000, .inl pk)), (qo, .inl (cI, 60, .inl out)), (qg, .inl (cI, 6, .inl gr))] H := hP
      have hD : va_D A [(q, .inr (9, [.ref qm, .int kept, .ref qi, .int im, .ref qp, .int pm, .ref qo, .int om, .ref qg, .long (r_1 + (1 : Int64)), .long hi_, .long cde, .int fr, .int sp])), (qm, .inl (cI, 5040, .inl mm)), (qi, .inl (cI, 60, .inl inp)), (qp, .inl (cI, 2000, .inl pk)), (qo, .inl (cI, 60, .inl out)), (qg, .inl (cI, 6, .inl gr))] := hD
      obtain ⟨pm_10, lo_11, hi__12, cde_13, fr_14, pk_15, hc_16, hf⟩ := bd6 hf
      refine L_X9_narrows_41 S hK hN hSF hA _ pm (r_1 + (1 : Int64)) hi_ cde fr pk pm_10 lo_11 hi__12 cde_13 fr_14 pk_15 hc_16 _ _ _ hP hD hS (lv_sub hl [1, 2, 3] rfl) (fun H locs ls hP hD hS hl => ?_)
      refine lv_aload_n hx hb dX9_narrows_187 rfl (lv_at hl 0 rfl) ?_
      refine lv_sipush (v := 1260) hx hb dX9_narrows_188 (by decide) ?_
      refine lv_iload_n hx hb dX9_narrows_191 rfl (lv_at hl 1 rfl) ?_
      obtain ⟨mm_17, hc_18, hf⟩ := bd1 hf
      refine k_rwVv (As := [.int 1260, .int x1]) (rest := []) (Wr := []) (W2 := [(q, .inr (9, [.ref qm, .int kept, .ref qi, .int im, .ref qp, .int pm_10, .ref qo, .int om, .ref qg, .long lo_11, .long hi__12, .long cde_13, .int fr_14, .int sp])), (qm, .inl (cI, 5040, .inl mm_17)), (qi, .inl (cI, 60, .inl inp)), (qp, .inl (cI, 2000, .inl pk_15)), (qo, .inl (cI, 60, .inl out)), (qg, .inl (cI, 6, .inl gr))]) S (c_X9_takes l D cI (q := q) (qm := qm) (qi := qi) (qp := qp) (qo := qo) (qg := qg) (kept := kept) (im := im) (pm := pm_10) (om := om) (lo := lo_11) (hi_ := hi__12) (cde := cde_13) (fr := fr_14) (sp := sp) (mm := mm) (inp := inp) (pk := pk_15) (out := out) (gr := gr) (x1 := 1260) (x2 := x1)  (o_mm := mm_17) (hf := hc_18)) gs_X9_91 ok_X9_takes ⟨rfl, rfl⟩ ⟨Nat.le_of_ble_eq_true rfl, Nat.le_of_ble_eq_true rfl⟩ hK hN hSF hP hD hS hA [0, 1, 2, 3, 4, 5] [] [0, 1, 2, 3, 4, 5] (by decide) rfl rfl (by decide) (by decide) rfl (by decide) rfl rfl rfl hl.1 rfl (Nat.le_of_ble_eq_true rfl) ⟨Nat.zero_le _, Nat.zero_le _⟩ dX9_narrows_192 (fun H locs hP hD hS => ?_)
      obtain ⟨e_0, e_r⟩ := Prod.mk.inj (Option.some.inj hf)
      obtain ⟨e_1, e_r⟩ := Prod.mk.inj (e_r)
      obtain ⟨e_2, e_r⟩ := Prod.mk.inj (e_r)
      obtain ⟨e_3, e_r⟩ := Prod.mk.inj (e_r)
      obtain ⟨e_4, e_r⟩ := Prod.mk.inj (e_r)
      obtain ⟨e_5, e_6⟩ := Prod.mk.inj (e_r)
      subst e_0
      subst e_1
      subst e_2
      subst e_3
      subst e_4
      subst e_5
      subst e_6
      exact k_wretv hx hb hret hloc hP hD hS dX9_narrows_195
    · exact absurd c_4 c_3
  · rw [if_pos c_3] at hf
    refine lv_aload_n hx hb dX9_narrows_11 rfl (lv_at hl 1 rfl) ?_
    refine va_get (D := D) (ci := 9) (v := .long lo) (C := RX9) (T := TX9) (N := 14) hx hb hts inGX9 hown hK hP 0 rfl rfl 9 (by decide) (hts _ fl_X9_62) (fun _ h9 => h9) rfl dX9_narrows_12 ?_
    refine lv_goto (tgt := 21) hx hb dX9_narrows_15 (by decide) ?_
    refine va_put (D := D) (ci := 9) (v := .long lo) (ty := .long) (C := RX9) (T := TX9) (N := 14) hx hb hts inGX9 tyX9 tyX9_ok nmX9 hown hK hP hD hS 0 rfl rfl 9 (by decide) (hts _ fl_X9_62) (fun _ h9 => h9) rfl (by decide +kernel) rfl rfl (Nat.le_of_ble_eq_true rfl) dX9_narrows_21 (fun H locs hP hD hS => ?_)
    have hP : va_P D vwCl [(q, .inr (9, [.ref qm, .int kept, .ref qi, .int im, .ref qp, .int pm, .ref qo, .int om, .ref qg, .long lo, .long hi_, .long cde, .int fr, .int sp])), (qm, .inl (cI, 5040, .inl mm)), (qi, .inl (cI, 60, .inl inp)), (qp, .inl (cI, 2000, .inl pk)), (qo, .inl (cI, 60, .inl out)), (qg, .inl (cI, 6, .inl gr))] H := hP
    have hD : va_D A [(q, .inr (9, [.ref qm, .int kept, .ref qi, .int im, .ref qp, .int pm, .ref qo, .int om, .ref qg, .long lo, .long hi_, .long cde, .int fr, .int sp])), (qm, .inl (cI, 5040, .inl mm)), (qi, .inl (cI, 60, .inl inp)), (qp, .inl (cI, 2000, .inl pk)), (qo, .inl (cI, 60, .inl out)), (qg, .inl (cI, 6, .inl gr))] := hD
    refine lv_aload_n hx hb dX9_narrows_24 rfl (lv_at hl 1 rfl) ?_
    refine lv_iload_n hx hb dX9_narrows_25 rfl (lv_at hl 2 rfl) ?_
    refine lv_iconst (v := 1) hx hb dX9_narrows_26 (by decide) ?_
    refine lv_icmp_ne (tgt := 34) hx hb dX9_narrows_27 (by decide) (fun c_19 => ?_) (fun c_19 => ?_)
    · exact absurd c_3 c_19
    · refine lv_lload_n hx hb dX9_narrows_30 rfl (lv_at hl 0 rfl) ?_
      refine lv_goto (tgt := 38) hx hb dX9_narrows_31 (by decide) ?_
      refine va_put (D := D) (ci := 9) (v := .long r_1) (ty := .long) (C := RX9) (T := TX9) (N := 14) hx hb hts inGX9 tyX9 tyX9_ok nmX9 hown hK hP hD hS 0 rfl rfl 10 (by decide) (hts _ fl_X9_68) (fun _ h9 => h9) rfl (by decide +kernel) rfl rfl (Nat.le_of_ble_eq_true rfl) dX9_narrows_38 (fun H locs hP hD hS => ?_)
      have hP : va_P D vwCl [(q, .inr (9, [.ref qm, .int kept, .ref qi, .int im, .ref qp, .int pm, .ref qo, .int om, .ref qg, .long lo, .long r_1, .long cde, .int fr, .int sp])), (qm, .inl (cI, 5040, .inl mm)), (qi, .inl (cI, 60, .inl inp)), (qp, .inl (cI, 2000, .inl pk)), (qo, .inl (cI, 60, .inl out)), (qg, .inl (cI, 6, .inl gr))] H := hP
      have hD : va_D A [(q, .inr (9, [.ref qm, .int kept, .ref qi, .int im, .ref qp, .int pm, .ref qo, .int om, .ref qg, .long lo, .long r_1, .long cde, .int fr, .int sp])), (qm, .inl (cI, 5040, .inl mm)), (qi, .inl (cI, 60, .inl inp)), (qp, .inl (cI, 2000, .inl pk)), (qo, .inl (cI, 60, .inl out)), (qg, .inl (cI, 6, .inl gr))] := hD
      obtain ⟨pm_20, lo_21, hi__22, cde_23, fr_24, pk_25, hc_26, hf⟩ := bd6 hf
      refine L_X9_narrows_41 S hK hN hSF hA _ pm lo r_1 cde fr pk pm_20 lo_21 hi__22 cde_23 fr_24 pk_25 hc_26 _ _ _ hP hD hS (lv_sub hl [1, 2, 3] rfl) (fun H locs ls hP hD hS hl => ?_)
      refine lv_aload_n hx hb dX9_narrows_187 rfl (lv_at hl 0 rfl) ?_
      refine lv_sipush (v := 1260) hx hb dX9_narrows_188 (by decide) ?_
      refine lv_iload_n hx hb dX9_narrows_191 rfl (lv_at hl 1 rfl) ?_
      obtain ⟨mm_27, hc_28, hf⟩ := bd1 hf
      refine k_rwVv (As := [.int 1260, .int x1]) (rest := []) (Wr := []) (W2 := [(q, .inr (9, [.ref qm, .int kept, .ref qi, .int im, .ref qp, .int pm_20, .ref qo, .int om, .ref qg, .long lo_21, .long hi__22, .long cde_23, .int fr_24, .int sp])), (qm, .inl (cI, 5040, .inl mm_27)), (qi, .inl (cI, 60, .inl inp)), (qp, .inl (cI, 2000, .inl pk_25)), (qo, .inl (cI, 60, .inl out)), (qg, .inl (cI, 6, .inl gr))]) S (c_X9_takes l D cI (q := q) (qm := qm) (qi := qi) (qp := qp) (qo := qo) (qg := qg) (kept := kept) (im := im) (pm := pm_20) (om := om) (lo := lo_21) (hi_ := hi__22) (cde := cde_23) (fr := fr_24) (sp := sp) (mm := mm) (inp := inp) (pk := pk_25) (out := out) (gr := gr) (x1 := 1260) (x2 := x1)  (o_mm := mm_27) (hf := hc_28)) gs_X9_91 ok_X9_takes ⟨rfl, rfl⟩ ⟨Nat.le_of_ble_eq_true rfl, Nat.le_of_ble_eq_true rfl⟩ hK hN hSF hP hD hS hA [0, 1, 2, 3, 4, 5] [] [0, 1, 2, 3, 4, 5] (by decide) rfl rfl (by decide) (by decide) rfl (by decide) rfl rfl rfl hl.1 rfl (Nat.le_of_ble_eq_true rfl) ⟨Nat.zero_le _, Nat.zero_le _⟩ dX9_narrows_192 (fun H locs hP hD hS => ?_)
      obtain ⟨e_0, e_r⟩ := Prod.mk.inj (Option.some.inj hf)
      obtain ⟨e_1, e_r⟩ := Prod.mk.inj (e_r)
      obtain ⟨e_2, e_r⟩ := Prod.mk.inj (e_r)
      obtain ⟨e_3, e_r⟩ := Prod.mk.inj (e_r)
      obtain ⟨e_4, e_r⟩ := Prod.mk.inj (e_r)
      obtain ⟨e_5, e_6⟩ := Prod.mk.inj (e_r)
      subst e_0
      subst e_1
      subst e_2
      subst e_3
      subst e_4
      subst e_5
      subst e_6
      exact k_wretv hx hb hret hloc hP hD hS dX9_narrows_195
theorem dX9_notes_0 : decode cX9_notes 0 = .ok (.aload_n 0, 1) := by decide +kernel
theorem dX9_notes_1 : decode cX9_notes 1 = .ok (.getfield 22, 3) := by decide +kernel
theorem dX9_notes_4 : decode cX9_notes 4 = .ok (.iconst 3, 1) := by decide +kernel
theorem dX9_notes_5 : decode cX9_notes 5 = .ok (.iload_n 1, 1) := by decide +kernel
theorem dX9_notes_6 : decode cX9_notes 6 = .ok (.imul, 1) := by decide +kernel
theorem dX9_notes_7 : decode cX9_notes 7 = .ok (.aload_n 0, 1) := by decide +kernel
theorem dX9_notes_8 : decode cX9_notes 8 = .ok (.getfield 7, 3) := by decide +kernel
theorem dX9_notes_11 : decode cX9_notes 11 = .ok (.sipush 1260, 3) := by decide +kernel
theorem dX9_notes_14 : decode cX9_notes 14 = .ok (.iaload, 1) := by decide +kernel
theorem dX9_notes_15 : decode cX9_notes 15 = .ok (.iastore, 1) := by decide +kernel
theorem dX9_notes_16 : decode cX9_notes 16 = .ok (.aload_n 0, 1) := by decide +kernel
theorem dX9_notes_17 : decode cX9_notes 17 = .ok (.getfield 22, 3) := by decide +kernel
theorem dX9_notes_20 : decode cX9_notes 20 = .ok (.iconst 3, 1) := by decide +kernel
theorem dX9_notes_21 : decode cX9_notes 21 = .ok (.iload_n 1, 1) := by decide +kernel
theorem dX9_notes_22 : decode cX9_notes 22 = .ok (.imul, 1) := by decide +kernel
theorem dX9_notes_23 : decode cX9_notes 23 = .ok (.iconst 1, 1) := by decide +kernel
theorem dX9_notes_24 : decode cX9_notes 24 = .ok (.iadd, 1) := by decide +kernel
theorem dX9_notes_25 : decode cX9_notes 25 = .ok (.aload_n 0, 1) := by decide +kernel
theorem dX9_notes_26 : decode cX9_notes 26 = .ok (.getfield 7, 3) := by decide +kernel
theorem dX9_notes_29 : decode cX9_notes 29 = .ok (.sipush 1263, 3) := by decide +kernel
theorem dX9_notes_32 : decode cX9_notes 32 = .ok (.iaload, 1) := by decide +kernel
theorem dX9_notes_33 : decode cX9_notes 33 = .ok (.iastore, 1) := by decide +kernel
theorem dX9_notes_34 : decode cX9_notes 34 = .ok (.aload_n 0, 1) := by decide +kernel
theorem dX9_notes_35 : decode cX9_notes 35 = .ok (.getfield 22, 3) := by decide +kernel
theorem dX9_notes_38 : decode cX9_notes 38 = .ok (.iconst 3, 1) := by decide +kernel
theorem dX9_notes_39 : decode cX9_notes 39 = .ok (.iload_n 1, 1) := by decide +kernel
theorem dX9_notes_40 : decode cX9_notes 40 = .ok (.imul, 1) := by decide +kernel
theorem dX9_notes_41 : decode cX9_notes 41 = .ok (.iconst 2, 1) := by decide +kernel
theorem dX9_notes_42 : decode cX9_notes 42 = .ok (.iadd, 1) := by decide +kernel
theorem dX9_notes_43 : decode cX9_notes 43 = .ok (.aload_n 0, 1) := by decide +kernel
theorem dX9_notes_44 : decode cX9_notes 44 = .ok (.getfield 7, 3) := by decide +kernel
theorem dX9_notes_47 : decode cX9_notes 47 = .ok (.sipush 1264, 3) := by decide +kernel
theorem dX9_notes_50 : decode cX9_notes 50 = .ok (.iaload, 1) := by decide +kernel
theorem dX9_notes_51 : decode cX9_notes 51 = .ok (.iastore, 1) := by decide +kernel
theorem dX9_notes_52 : decode cX9_notes 52 = .ok (.return_, 1) := by decide +kernel
def f_X9_notes (mm : (Nat → Int32)) (gr : (Nat → Int32)) (x1 : Int32) : Option ((Nat → Int32)) := if (1260 : Int32) < 0 ∨ 5040 ≤ ((1260 : Int32)).toNatClampNeg then none else (if (3 * x1) < 0 ∨ 6 ≤ (3 * x1).toNatClampNeg then none else (if (1263 : Int32) < 0 ∨ 5040 ≤ ((1263 : Int32)).toNatClampNeg then none else (if ((3 * x1) + 1) < 0 ∨ 6 ≤ ((3 * x1) + 1).toNatClampNeg then none else (if (1264 : Int32) < 0 ∨ 5040 ≤ ((1264 : Int32)).toNatClampNeg then none else (if ((3 * x1) + 2) < 0 ∨ 6 ≤ ((3 * x1) + 2).toNatClampNeg then none else (some (upd (upd (upd gr (3 * x1).toNatClampNeg (mm ((1260 : Int32)).toNatClampNeg)) ((3 * x1) + 1).toNatClampNeg (mm ((1263 : Int32)).toNatClampNeg)) ((3 * x1) + 2).toNatClampNeg (mm ((1264 : Int32)).toNatClampNeg))))))))
set_option maxHeartbeats 4000000 in
set_option maxRecDepth 100000 in
theorem c_X9_notes (l : Launch) (D : va_G) (cI : ClassId) {sz : Nat} (q : Nat) (qm : Nat) (qi : Nat) (qp : Nat) (qo : Nat) (qg : Nat) (kept : Int32) (im : Int32) (pm : Int32) (om : Int32) (lo : Int64) (hi_ : Int64) (cde : Int64) (fr : Int32) (sp : Int32) (mm : (Nat → Int32)) (inp : (Nat → Int32)) (pk : (Nat → Int32)) (out : (Nat → Int32)) (gr : (Nat → Int32)) (x1 : Int32) (o_gr : (Nat → Int32)) (hf : f_X9_notes mm gr x1 = some o_gr) : Met l yX9_notes (.code yX9_notes cX9_notes 2 none :: wsG) ({ frames := 0, cells := 0, slots := 0, locals := 0 }) (va_Pc [.ref q, .int x1] (gv D cI sz [(q, .inr (9, [.ref qm, .int kept, .ref qi, .int im, .ref qp, .int pm, .ref qo, .int om, .ref qg, .long lo, .long hi_, .long cde, .int fr, .int sp])), (qm, .inl (cI, 5040, .inl mm)), (qi, .inl (cI, 60, .inl inp)), (qp, .inl (cI, 2000, .inl pk)), (qo, .inl (cI, 60, .inl out)), (qg, .inl (cI, 6, .inl gr))])) (va_Qv (fun (_ : Unit) => True) (gz D (va_A [(q, .inr (9, [.ref qm, .int kept, .ref qi, .int im, .ref qp, .int pm, .ref qo, .int om, .ref qg, .long lo, .long hi_, .long cde, .int fr, .int sp])), (qm, .inl (cI, 5040, .inl mm)), (qi, .inl (cI, 60, .inl inp)), (qp, .inl (cI, 2000, .inl pk)), (qo, .inl (cI, 60, .inl out)), (qg, .inl (cI, 6, .inl gr))] sz) [(q, .inr (9, [.ref qm, .int kept, .ref qi, .int im, .ref qp, .int pm, .ref qo, .int om, .ref qg, .long lo, .long hi_, .long cde, .int fr, .int sp])), (qm, .inl (cI, 5040, .inl mm)), (qi, .inl (cI, 60, .inl inp)), (qp, .inl (cI, 2000, .inl pk)), (qo, .inl (cI, 60, .inl out)), (qg, .inl (cI, 6, .inl o_gr))]) (va_A [(q, .inr (9, [.ref qm, .int kept, .ref qi, .int im, .ref qp, .int pm, .ref qo, .int om, .ref qg, .long lo, .long hi_, .long cde, .int fr, .int sp])), (qm, .inl (cI, 5040, .inl mm)), (qi, .inl (cI, 60, .inl inp)), (qp, .inl (cI, 2000, .inl pk)), (qo, .inl (cI, 60, .inl out)), (qg, .inl (cI, 6, .inl gr))] sz)) 0 0 (va_A [(q, .inr (9, [.ref qm, .int kept, .ref qi, .int im, .ref qp, .int pm, .ref qo, .int om, .ref qg, .long lo, .long hi_, .long cde, .int fr, .int sp])), (qm, .inl (cI, 5040, .inl mm)), (qi, .inl (cI, 60, .inl inp)), (qp, .inl (cI, 2000, .inl pk)), (qo, .inl (cI, 60, .inl out)), (qg, .inl (cI, 6, .inl gr))] sz) := by
  refine k_rw (y := yX9_notes) (cc := cX9_notes) (maxL := 2) (ret := none) (As := [.ref q, .int x1]) (Qc := fun A => va_Qv (fun (_ : Unit) => True) (gz D A [(q, .inr (9, [.ref qm, .int kept, .ref qi, .int im, .ref qp, .int pm, .ref qo, .int om, .ref qg, .long lo, .long hi_, .long cde, .int fr, .int sp])), (qm, .inl (cI, 5040, .inl mm)), (qi, .inl (cI, 60, .inl inp)), (qp, .inl (cI, 2000, .inl pk)), (qo, .inl (cI, 60, .inl out)), (qg, .inl (cI, 6, .inl o_gr))]) A) (by decide) rfl (Nat.le_of_ble_eq_true rfl) rfl ?_
  intro p e s m below meth c ls A S hret hloc hK hN hSF hP hD hS hA hl
  obtain ⟨hx, hb, hml, hown, hts⟩ := id S
  unfold f_X9_notes at hf
  refine lv_aload_n hx hb dX9_notes_0 rfl (lv_at hl 0 rfl) ?_
  refine va_get (D := D) (ci := 9) (v := .ref qg) (C := RX9) (T := TX9) (N := 14) hx hb hts inGX9 hown hK hP 0 rfl rfl 8 (by decide) (hts _ fl_X9_22) (fun _ h9 => h9) rfl dX9_notes_1 ?_
  refine lv_iconst (v := 3) hx hb dX9_notes_4 (by decide) ?_
  refine lv_iload_n hx hb dX9_notes_5 rfl (lv_at hl 1 rfl) ?_
  refine lv_imul hx hb dX9_notes_6 ?_
  refine lv_aload_n hx hb dX9_notes_7 rfl (lv_at hl 0 rfl) ?_
  refine va_get (D := D) (ci := 9) (v := .ref qm) (C := RX9) (T := TX9) (N := 14) hx hb hts inGX9 hown hK hP 0 rfl rfl 0 (by decide) (hts _ fl_X9_7) (fun _ h9 => h9) rfl dX9_notes_8 ?_
  refine lv_sipush (v := 1260) hx hb dX9_notes_11 (by decide) ?_
  have b_1 : ¬ ((1260 : Int32) < 0 ∨ 5040 ≤ ((1260 : Int32)).toNatClampNeg) := fun q => by rw [if_pos q] at hf; cases hf
  rw [if_neg b_1] at hf
  refine va_iald hx hb hK hP 1 0 rfl rfl b_1 dX9_notes_14 ?_
  have b_2 : ¬ ((3 * x1) < 0 ∨ 6 ≤ (3 * x1).toNatClampNeg) := fun q => by rw [if_pos q] at hf; cases hf
  rw [if_neg b_2] at hf
  refine va_iast hx hb hK hP hD hS 5 0 rfl rfl b_2 dX9_notes_15 (fun H locs hP hD hS => ?_)
  have hP : va_P D vwCl [(q, .inr (9, [.ref qm, .int kept, .ref qi, .int im, .ref qp, .int pm, .ref qo, .int om, .ref qg, .long lo, .long hi_, .long cde, .int fr, .int sp])), (qm, .inl (cI, 5040, .inl mm)), (qi, .inl (cI, 60, .inl inp)), (qp, .inl (cI, 2000, .inl pk)), (qo, .inl (cI, 60, .inl out)), (qg, .inl (cI, 6, .inl (upd gr (3 * x1).toNatClampNeg (mm ((1260 : Int32)).toNatClampNeg))))] H := hP
  have hD : va_D A [(q, .inr (9, [.ref qm, .int kept, .ref qi, .int im, .ref qp, .int pm, .ref qo, .int om, .ref qg, .long lo, .long hi_, .long cde, .int fr, .int sp])), (qm, .inl (cI, 5040, .inl mm)), (qi, .inl (cI, 60, .inl inp)), (qp, .inl (cI, 2000, .inl pk)), (qo, .inl (cI, 60, .inl out)), (qg, .inl (cI, 6, .inl (upd gr (3 * x1).toNatClampNeg (mm ((1260 : Int32)).toNatClampNeg))))] := hD
  refine lv_aload_n hx hb dX9_notes_16 rfl (lv_at hl 0 rfl) ?_
  refine va_get (D := D) (ci := 9) (v := .ref qg) (C := RX9) (T := TX9) (N := 14) hx hb hts inGX9 hown hK hP 0 rfl rfl 8 (by decide) (hts _ fl_X9_22) (fun _ h9 => h9) rfl dX9_notes_17 ?_
  refine lv_iconst (v := 3) hx hb dX9_notes_20 (by decide) ?_
  refine lv_iload_n hx hb dX9_notes_21 rfl (lv_at hl 1 rfl) ?_
  refine lv_imul hx hb dX9_notes_22 ?_
  refine lv_iconst (v := 1) hx hb dX9_notes_23 (by decide) ?_
  refine lv_iadd hx hb dX9_notes_24 ?_
  refine lv_aload_n hx hb dX9_notes_25 rfl (lv_at hl 0 rfl) ?_
  refine va_get (D := D) (ci := 9) (v := .ref qm) (C := RX9) (T := TX9) (N := 14) hx hb hts inGX9 hown hK hP 0 rfl rfl 0 (by decide) (hts _ fl_X9_7) (fun _ h9 => h9) rfl dX9_notes_26 ?_
  refine lv_sipush (v := 1263) hx hb dX9_notes_29 (by decide) ?_
  have b_3 : ¬ ((1263 : Int32) < 0 ∨ 5040 ≤ ((1263 : Int32)).toNatClampNeg) := fun q => by rw [if_pos q] at hf; cases hf
  rw [if_neg b_3] at hf
  refine va_iald hx hb hK hP 1 0 rfl rfl b_3 dX9_notes_32 ?_
  have b_4 : ¬ (((3 * x1) + 1) < 0 ∨ 6 ≤ ((3 * x1) + 1).toNatClampNeg) := fun q => by rw [if_pos q] at hf; cases hf
  rw [if_neg b_4] at hf
  refine va_iast hx hb hK hP hD hS 5 0 rfl rfl b_4 dX9_notes_33 (fun H locs hP hD hS => ?_)
  have hP : va_P D vwCl [(q, .inr (9, [.ref qm, .int kept, .ref qi, .int im, .ref qp, .int pm, .ref qo, .int om, .ref qg, .long lo, .long hi_, .long cde, .int fr, .int sp])), (qm, .inl (cI, 5040, .inl mm)), (qi, .inl (cI, 60, .inl inp)), (qp, .inl (cI, 2000, .inl pk)), (qo, .inl (cI, 60, .inl out)), (qg, .inl (cI, 6, .inl (upd (upd gr (3 * x1).toNatClampNeg (mm ((1260 : Int32)).toNatClampNeg)) ((3 * x1) + 1).toNatClampNeg (mm ((1263 : Int32)).toNatClampNeg))))] H := hP
  have hD : va_D A [(q, .inr (9, [.ref qm, .int kept, .ref qi, .int im, .ref qp, .int pm, .ref qo, .int om, .ref qg, .long lo, .long hi_, .long cde, .int fr, .int sp])), (qm, .inl (cI, 5040, .inl mm)), (qi, .inl (cI, 60, .inl inp)), (qp, .inl (cI, 2000, .inl pk)), (qo, .inl (cI, 60, .inl out)), (qg, .inl (cI, 6, .inl (upd (upd gr (3 * x1).toNatClampNeg (mm ((1260 : Int32)).toNatClampNeg)) ((3 * x1) + 1).toNatClampNeg (mm ((1263 : Int32)).toNatClampNeg))))] := hD
  refine lv_aload_n hx hb dX9_notes_34 rfl (lv_at hl 0 rfl) ?_
  refine va_get (D := D) (ci := 9) (v := .ref qg) (C := RX9) (T := TX9) (N := 14) hx hb hts inGX9 hown hK hP 0 rfl rfl 8 (by decide) (hts _ fl_X9_22) (fun _ h9 => h9) rfl dX9_notes_35 ?_
  refine lv_iconst (v := 3) hx hb dX9_notes_38 (by decide) ?_
  refine lv_iload_n hx hb dX9_notes_39 rfl (lv_at hl 1 rfl) ?_
  refine lv_imul hx hb dX9_notes_40 ?_
  refine lv_iconst (v := 2) hx hb dX9_notes_41 (by decide) ?_
  refine lv_iadd hx hb dX9_notes_42 ?_
  refine lv_aload_n hx hb dX9_notes_43 rfl (lv_at hl 0 rfl) ?_
  refine va_get (D := D) (ci := 9) (v := .ref qm) (C := RX9) (T := TX9) (N := 14) hx hb hts inGX9 hown hK hP 0 rfl rfl 0 (by decide) (hts _ fl_X9_7) (fun _ h9 => h9) rfl dX9_notes_44 ?_
  refine lv_sipush (v := 1264) hx hb dX9_notes_47 (by decide) ?_
  have b_5 : ¬ ((1264 : Int32) < 0 ∨ 5040 ≤ ((1264 : Int32)).toNatClampNeg) := fun q => by rw [if_pos q] at hf; cases hf
  rw [if_neg b_5] at hf
  refine va_iald hx hb hK hP 1 0 rfl rfl b_5 dX9_notes_50 ?_
  have b_6 : ¬ (((3 * x1) + 2) < 0 ∨ 6 ≤ ((3 * x1) + 2).toNatClampNeg) := fun q => by rw [if_pos q] at hf; cases hf
  rw [if_neg b_6] at hf
  refine va_iast hx hb hK hP hD hS 5 0 rfl rfl b_6 dX9_notes_51 (fun H locs hP hD hS => ?_)
  have hP : va_P D vwCl [(q, .inr (9, [.ref qm, .int kept, .ref qi, .int im, .ref qp, .int pm, .ref qo, .int om, .ref qg, .long lo, .long hi_, .long cde, .int fr, .int sp])), (qm, .inl (cI, 5040, .inl mm)), (qi, .inl (cI, 60, .inl inp)), (qp, .inl (cI, 2000, .inl pk)), (qo, .inl (cI, 60, .inl out)), (qg, .inl (cI, 6, .inl (upd (upd (upd gr (3 * x1).toNatClampNeg (mm ((1260 : Int32)).toNatClampNeg)) ((3 * x1) + 1).toNatClampNeg (mm ((1263 : Int32)).toNatClampNeg)) ((3 * x1) + 2).toNatClampNeg (mm ((1264 : Int32)).toNatClampNeg))))] H := hP
  have hD : va_D A [(q, .inr (9, [.ref qm, .int kept, .ref qi, .int im, .ref qp, .int pm, .ref qo, .int om, .ref qg, .long lo, .long hi_, .long cde, .int fr, .int sp])), (qm, .inl (cI, 5040, .inl mm)), (qi, .inl (cI, 60, .inl inp)), (qp, .inl (cI, 2000, .inl pk)), (qo, .inl (cI, 60, .inl out)), (qg, .inl (cI, 6, .inl (upd (upd (upd gr (3 * x1).toNatClampNeg (mm ((1260 : Int32)).toNatClampNeg)) ((3 * x1) + 1).toNatClampNeg (mm ((1263 : Int32)).toNatClampNeg)) ((3 * x1) + 2).toNatClampNeg (mm ((1264 : Int32)).toNatClampNeg))))] := hD
  have e_0 := Option.some.inj hf
  subst e_0
  exact k_wretv hx hb hret hloc hP hD hS dX9_notes_52
