theorem dX9_init_0 : decode cX9_init 0 = .ok (.aload_n 0, 1) := by decide +kernel
theorem dX9_init_1 : decode cX9_init 1 = .ok (.invokespecial 1, 3) := by decide +kernel
theorem dX9_init_4 : decode cX9_init 4 = .ok (.aload_n 0, 1) := by decide +kernel
theorem dX9_init_5 : decode cX9_init 5 = .ok (.sipush 5040, 3) := by decide +kernel
theorem dX9_init_8 : decode cX9_init 8 = .ok (.newarray .int, 2) := by decide +kernel
theorem dX9_init_10 : decode cX9_init 10 = .ok (.putfield 7, 3) := by decide +kernel
theorem dX9_init_13 : decode cX9_init 13 = .ok (.aload_n 0, 1) := by decide +kernel
theorem dX9_init_14 : decode cX9_init 14 = .ok (.bipush 60, 2) := by decide +kernel
theorem dX9_init_16 : decode cX9_init 16 = .ok (.newarray .int, 2) := by decide +kernel
theorem dX9_init_18 : decode cX9_init 18 = .ok (.putfield 13, 3) := by decide +kernel
theorem dX9_init_21 : decode cX9_init 21 = .ok (.aload_n 0, 1) := by decide +kernel
theorem dX9_init_22 : decode cX9_init 22 = .ok (.sipush 2000, 3) := by decide +kernel
theorem dX9_init_25 : decode cX9_init 25 = .ok (.newarray .int, 2) := by decide +kernel
theorem dX9_init_27 : decode cX9_init 27 = .ok (.putfield 16, 3) := by decide +kernel
theorem dX9_init_30 : decode cX9_init 30 = .ok (.aload_n 0, 1) := by decide +kernel
theorem dX9_init_31 : decode cX9_init 31 = .ok (.bipush 60, 2) := by decide +kernel
theorem dX9_init_33 : decode cX9_init 33 = .ok (.newarray .int, 2) := by decide +kernel
theorem dX9_init_35 : decode cX9_init 35 = .ok (.putfield 19, 3) := by decide +kernel
theorem dX9_init_38 : decode cX9_init 38 = .ok (.aload_n 0, 1) := by decide +kernel
theorem dX9_init_39 : decode cX9_init 39 = .ok (.bipush 6, 2) := by decide +kernel
theorem dX9_init_41 : decode cX9_init 41 = .ok (.newarray .int, 2) := by decide +kernel
theorem dX9_init_43 : decode cX9_init 43 = .ok (.putfield 22, 3) := by decide +kernel
theorem dX9_init_46 : decode cX9_init 46 = .ok (.aload_n 0, 1) := by decide +kernel
theorem dX9_init_47 : decode cX9_init 47 = .ok (.getfield 7, 3) := by decide +kernel
theorem dX9_init_50 : decode cX9_init 50 = .ok (.bipush 6, 2) := by decide +kernel
theorem dX9_init_52 : decode cX9_init 52 = .ok (.iconst 2, 1) := by decide +kernel
theorem dX9_init_53 : decode cX9_init 53 = .ok (.iastore, 1) := by decide +kernel
theorem dX9_init_54 : decode cX9_init 54 = .ok (.aload_n 0, 1) := by decide +kernel
theorem dX9_init_55 : decode cX9_init 55 = .ok (.getfield 7, 3) := by decide +kernel
theorem dX9_init_58 : decode cX9_init 58 = .ok (.bipush 7, 2) := by decide +kernel
theorem dX9_init_60 : decode cX9_init 60 = .ok (.iconst 2, 1) := by decide +kernel
theorem dX9_init_61 : decode cX9_init 61 = .ok (.iastore, 1) := by decide +kernel
theorem dX9_init_62 : decode cX9_init 62 = .ok (.aload_n 0, 1) := by decide +kernel
theorem dX9_init_63 : decode cX9_init 63 = .ok (.getfield 7, 3) := by decide +kernel
theorem dX9_init_66 : decode cX9_init 66 = .ok (.bipush 8, 2) := by decide +kernel
theorem dX9_init_68 : decode cX9_init 68 = .ok (.bipush 100, 2) := by decide +kernel
theorem dX9_init_70 : decode cX9_init 70 = .ok (.iastore, 1) := by decide +kernel
theorem dX9_init_71 : decode cX9_init 71 = .ok (.aload_n 0, 1) := by decide +kernel
theorem dX9_init_72 : decode cX9_init 72 = .ok (.iconst 0, 1) := by decide +kernel
theorem dX9_init_73 : decode cX9_init 73 = .ok (.invokevirtual 25, 3) := by decide +kernel
theorem dX9_init_76 : decode cX9_init 76 = .ok (.return_, 1) := by decide +kernel
def f_X9_init  : Option ((Nat → Int32)) := bi1 (f_X9_renews (upd (upd (upd (fun _ => 0) ((6 : Int32)).toNatClampNeg 2) ((7 : Int32)).toNatClampNeg 2) ((8 : Int32)).toNatClampNeg 100) 0) (fun (t_6 : (Nat → Int32)) => some t_6)
set_option maxHeartbeats 4000000 in
set_option maxRecDepth 100000 in
theorem c_X9_init (l : Launch) (D : va_G) (cI : ClassId) {sz : Nat} (q : Nat) (o_t_6 : (Nat → Int32)) (hf : f_X9_init = some o_t_6) : Met l yX9_init (.code yX9_init cX9_init 1 none :: wsG) ({ frames := 2, cells := 5, slots := 7166, locals := 48 }) (va_Pc [.ref q] (gv D cI sz [(q, .inr (9, [.null, .int 0, .null, .int 0, .null, .int 0, .null, .int 0, .null, .long (0 : Int64), .long (0 : Int64), .long (0 : Int64), .int 0, .int 0]))])) (va_Qv (fun (_ : Unit) => True) (fun (_ : Unit) (t : State) => ∃ n_1 n_2 n_3 n_4 n_5 : Nat, va_P D vwCl [(q, .inr (9, [.ref n_1, .int 0, .ref n_2, .int 0, .ref n_3, .int 0, .ref n_4, .int 0, .ref n_5, .long (0 : Int64), .long (0 : Int64), .long (0 : Int64), .int 0, .int 0])), (n_1, .inl (cI, 5040, .inl o_t_6)), (n_2, .inl (cI, 60, .inl (fun _ => 0))), (n_3, .inl (cI, 2000, .inl (fun _ => 0))), (n_4, .inl (cI, 60, .inl (fun _ => 0))), (n_5, .inl (cI, 6, .inl (fun _ => 0)))] t.heap ∧ va_D (va_A [(q, .inr (9, [.null, .int 0, .null, .int 0, .null, .int 0, .null, .int 0, .null, .long (0 : Int64), .long (0 : Int64), .long (0 : Int64), .int 0, .int 0]))] sz) [(q, .inr (9, [.ref n_1, .int 0, .ref n_2, .int 0, .ref n_3, .int 0, .ref n_4, .int 0, .ref n_5, .long (0 : Int64), .long (0 : Int64), .long (0 : Int64), .int 0, .int 0])), (n_1, .inl (cI, 5040, .inl o_t_6)), (n_2, .inl (cI, 60, .inl (fun _ => 0))), (n_3, .inl (cI, 2000, .inl (fun _ => 0))), (n_4, .inl (cI, 60, .inl (fun _ => 0))), (n_5, .inl (cI, 6, .inl (fun _ => 0)))]) (va_A [(q, .inr (9, [.null, .int 0, .null, .int 0, .null, .int 0, .null, .int 0, .null, .long (0 : Int64), .long (0 : Int64), .long (0 : Int64), .int 0, .int 0]))] sz)) 5 7166 (va_A [(q, .inr (9, [.null, .int 0, .null, .int 0, .null, .int 0, .null, .int 0, .null, .long (0 : Int64), .long (0 : Int64), .long (0 : Int64), .int 0, .int 0]))] sz) := by
  refine k_ct (y := yX9_init) (cc := cX9_init) (maxL := 1) (ret := none) (As := [.ref q]) (Qc := fun A => va_Qv (fun (_ : Unit) => True) (fun (_ : Unit) (t : State) => ∃ n_1 n_2 n_3 n_4 n_5 : Nat, va_P D vwCl [(q, .inr (9, [.ref n_1, .int 0, .ref n_2, .int 0, .ref n_3, .int 0, .ref n_4, .int 0, .ref n_5, .long (0 : Int64), .long (0 : Int64), .long (0 : Int64), .int 0, .int 0])), (n_1, .inl (cI, 5040, .inl o_t_6)), (n_2, .inl (cI, 60, .inl (fun _ => 0))), (n_3, .inl (cI, 2000, .inl (fun _ => 0))), (n_4, .inl (cI, 60, .inl (fun _ => 0))), (n_5, .inl (cI, 6, .inl (fun _ => 0)))] t.heap ∧ va_D A [(q, .inr (9, [.ref n_1, .int 0, .ref n_2, .int 0, .ref n_3, .int 0, .ref n_4, .int 0, .ref n_5, .long (0 : Int64), .long (0 : Int64), .long (0 : Int64), .int 0, .int 0])), (n_1, .inl (cI, 5040, .inl o_t_6)), (n_2, .inl (cI, 60, .inl (fun _ => 0))), (n_3, .inl (cI, 2000, .inl (fun _ => 0))), (n_4, .inl (cI, 60, .inl (fun _ => 0))), (n_5, .inl (cI, 6, .inl (fun _ => 0)))]) A) (by decide) rfl (Nat.le_of_ble_eq_true rfl) rfl ?_
  intro p e s m below meth c ls A S hret hloc hin hK hN hSF hP hD hS hA hl
  obtain ⟨hx, hb, hml, hown, hts⟩ := id S
  unfold f_X9_init at hf
  refine lv_aload_n hx hb dX9_init_0 rfl (lv_at hl 0 rfl) ?_
  refine W.objInit hx hb hown (hts _ ml_X9_1) (hts _ im_Object_init) (hts _ co_Object_init) rfl (by rw [hml]; exact hl.1) rfl dX9_init_1 (Nat.le_of_ble_eq_true rfl) (Nat.le_of_ble_eq_true rfl) ?_
  refine W.eq (g2 := F0 m 4 ls []) rfl ?_
  refine lv_aload_n hx hb dX9_init_4 rfl (lv_at hl 0 rfl) ?_
  refine lv_sipush (v := 5040) hx hb dX9_init_5 (by decide) ?_
  refine va_newa (atype := .int) hx hb (hts _ ac_int) (ty := .int) rfl hK hP hD hS hA (n := 5040) (N' := 5040) (a0 := (5040, .inl (fun _ => 0))) (fun cA => rfl) (by decide) (by decide) (Nat.le_of_ble_eq_true rfl) (Nat.le_of_ble_eq_true rfl) (Nat.le_of_ble_eq_true rfl) dX9_init_8 (fun n_1 cA H hK2 hP hD hS => ?_)
  rw [ca_eq hK hK2] at hP hD
  have hP : va_P D vwCl [(q, .inr (9, [.null, .int 0, .null, .int 0, .null, .int 0, .null, .int 0, .null, .long (0 : Int64), .long (0 : Int64), .long (0 : Int64), .int 0, .int 0])), (n_1, .inl (cI, 5040, .inl (fun _ => 0)))] H := hP
  have hD : va_D A [(q, .inr (9, [.null, .int 0, .null, .int 0, .null, .int 0, .null, .int 0, .null, .long (0 : Int64), .long (0 : Int64), .long (0 : Int64), .int 0, .int 0])), (n_1, .inl (cI, 5040, .inl (fun _ => 0)))] := hD
  refine W.widen (k := 1) (n := 5040) (Nat.le_of_ble_eq_true rfl) (Nat.le_of_ble_eq_true rfl) ?_
  refine va_putF (D := D) (ci := 9) (v := .ref n_1) (ty := .array .int) (C := RX9) (T := TX9) (N := 14) hx hb hts inGX9 tyX9 tyX9_ok nmX9 hown hK hP hD hS 0 rfl rfl 0 (by decide) (hts _ fl_X9_7) (fun _ h9 => h9) rfl hin rfl (by decide +kernel) rfl rfl (Nat.le_of_ble_eq_true rfl) dX9_init_10 (fun H locs hP hD hS => ?_)
  have hP : va_P D vwCl [(q, .inr (9, [.ref n_1, .int 0, .null, .int 0, .null, .int 0, .null, .int 0, .null, .long (0 : Int64), .long (0 : Int64), .long (0 : Int64), .int 0, .int 0])), (n_1, .inl (cI, 5040, .inl (fun _ => 0)))] H := hP
  have hD : va_D A [(q, .inr (9, [.ref n_1, .int 0, .null, .int 0, .null, .int 0, .null, .int 0, .null, .long (0 : Int64), .long (0 : Int64), .long (0 : Int64), .int 0, .int 0])), (n_1, .inl (cI, 5040, .inl (fun _ => 0)))] := hD
  refine lv_aload_n hx hb dX9_init_13 rfl (lv_at hl 0 rfl) ?_
  refine lv_bipush (v := 60) hx hb dX9_init_14 (by decide) ?_
  refine va_newa (atype := .int) hx hb (hts _ ac_int) (ty := .int) rfl hK hP hD hS hA (n := 60) (N' := 60) (a0 := (60, .inl (fun _ => 0))) (fun cA => rfl) (by decide) (by decide) (Nat.le_of_ble_eq_true rfl) (Nat.le_of_ble_eq_true rfl) (Nat.le_of_ble_eq_true rfl) dX9_init_16 (fun n_2 cA H hK2 hP hD hS => ?_)
  rw [ca_eq hK hK2] at hP hD
  have hP : va_P D vwCl [(q, .inr (9, [.ref n_1, .int 0, .null, .int 0, .null, .int 0, .null, .int 0, .null, .long (0 : Int64), .long (0 : Int64), .long (0 : Int64), .int 0, .int 0])), (n_1, .inl (cI, 5040, .inl (fun _ => 0))), (n_2, .inl (cI, 60, .inl (fun _ => 0)))] H := hP
  have hD : va_D A [(q, .inr (9, [.ref n_1, .int 0, .null, .int 0, .null, .int 0, .null, .int 0, .null, .long (0 : Int64), .long (0 : Int64), .long (0 : Int64), .int 0, .int 0])), (n_1, .inl (cI, 5040, .inl (fun _ => 0))), (n_2, .inl (cI, 60, .inl (fun _ => 0)))] := hD
  refine W.widen (k := 2) (n := 5100) (Nat.le_of_ble_eq_true rfl) (Nat.le_of_ble_eq_true rfl) ?_
  refine va_putF (D := D) (ci := 9) (v := .ref n_2) (ty := .array .int) (C := RX9) (T := TX9) (N := 14) hx hb hts inGX9 tyX9 tyX9_ok nmX9 hown hK hP hD hS 0 rfl rfl 2 (by decide) (hts _ fl_X9_13) (fun _ h9 => h9) rfl hin rfl (by decide +kernel) rfl rfl (Nat.le_of_ble_eq_true rfl) dX9_init_18 (fun H locs hP hD hS => ?_)
  have hP : va_P D vwCl [(q, .inr (9, [.ref n_1, .int 0, .ref n_2, .int 0, .null, .int 0, .null, .int 0, .null, .long (0 : Int64), .long (0 : Int64), .long (0 : Int64), .int 0, .int 0])), (n_1, .inl (cI, 5040, .inl (fun _ => 0))), (n_2, .inl (cI, 60, .inl (fun _ => 0)))] H := hP
  have hD : va_D A [(q, .inr (9, [.ref n_1, .int 0, .ref n_2, .int 0, .null, .int 0, .null, .int 0, .null, .long (0 : Int64), .long (0 : Int64), .long (0 : Int64), .int 0, .int 0])), (n_1, .inl (cI, 5040, .inl (fun _ => 0))), (n_2, .inl (cI, 60, .inl (fun _ => 0)))] := hD
  refine lv_aload_n hx hb dX9_init_21 rfl (lv_at hl 0 rfl) ?_
  refine lv_sipush (v := 2000) hx hb dX9_init_22 (by decide) ?_
  refine va_newa (atype := .int) hx hb (hts _ ac_int) (ty := .int) rfl hK hP hD hS hA (n := 2000) (N' := 2000) (a0 := (2000, .inl (fun _ => 0))) (fun cA => rfl) (by decide) (by decide) (Nat.le_of_ble_eq_true rfl) (Nat.le_of_ble_eq_true rfl) (Nat.le_of_ble_eq_true rfl) dX9_init_25 (fun n_3 cA H hK2 hP hD hS => ?_)
  rw [ca_eq hK hK2] at hP hD
  have hP : va_P D vwCl [(q, .inr (9, [.ref n_1, .int 0, .ref n_2, .int 0, .null, .int 0, .null, .int 0, .null, .long (0 : Int64), .long (0 : Int64), .long (0 : Int64), .int 0, .int 0])), (n_1, .inl (cI, 5040, .inl (fun _ => 0))), (n_2, .inl (cI, 60, .inl (fun _ => 0))), (n_3, .inl (cI, 2000, .inl (fun _ => 0)))] H := hP
  have hD : va_D A [(q, .inr (9, [.ref n_1, .int 0, .ref n_2, .int 0, .null, .int 0, .null, .int 0, .null, .long (0 : Int64), .long (0 : Int64), .long (0 : Int64), .int 0, .int 0])), (n_1, .inl (cI, 5040, .inl (fun _ => 0))), (n_2, .inl (cI, 60, .inl (fun _ => 0))), (n_3, .inl (cI, 2000, .inl (fun _ => 0)))] := hD
  refine W.widen (k := 3) (n := 7100) (Nat.le_of_ble_eq_true rfl) (Nat.le_of_ble_eq_true rfl) ?_
  refine va_putF (D := D) (ci := 9) (v := .ref n_3) (ty := .array .int) (C := RX9) (T := TX9) (N := 14) hx hb hts inGX9 tyX9 tyX9_ok nmX9 hown hK hP hD hS 0 rfl rfl 4 (by decide) (hts _ fl_X9_16) (fun _ h9 => h9) rfl hin rfl (by decide +kernel) rfl rfl (Nat.le_of_ble_eq_true rfl) dX9_init_27 (fun H locs hP hD hS => ?_)
  have hP : va_P D vwCl [(q, .inr (9, [.ref n_1, .int 0, .ref n_2, .int 0, .ref n_3, .int 0, .null, .int 0, .null, .long (0 : Int64), .long (0 : Int64), .long (0 : Int64), .int 0, .int 0])), (n_1, .inl (cI, 5040, .inl (fun _ => 0))), (n_2, .inl (cI, 60, .inl (fun _ => 0))), (n_3, .inl (cI, 2000, .inl (fun _ => 0)))] H := hP
  have hD : va_D A [(q, .inr (9, [.ref n_1, .int 0, .ref n_2, .int 0, .ref n_3, .int 0, .null, .int 0, .null, .long (0 : Int64), .long (0 : Int64), .long (0 : Int64), .int 0, .int 0])), (n_1, .inl (cI, 5040, .inl (fun _ => 0))), (n_2, .inl (cI, 60, .inl (fun _ => 0))), (n_3, .inl (cI, 2000, .inl (fun _ => 0)))] := hD
  refine lv_aload_n hx hb dX9_init_30 rfl (lv_at hl 0 rfl) ?_
  refine lv_bipush (v := 60) hx hb dX9_init_31 (by decide) ?_
  refine va_newa (atype := .int) hx hb (hts _ ac_int) (ty := .int) rfl hK hP hD hS hA (n := 60) (N' := 60) (a0 := (60, .inl (fun _ => 0))) (fun cA => rfl) (by decide) (by decide) (Nat.le_of_ble_eq_true rfl) (Nat.le_of_ble_eq_true rfl) (Nat.le_of_ble_eq_true rfl) dX9_init_33 (fun n_4 cA H hK2 hP hD hS => ?_)
  rw [ca_eq hK hK2] at hP hD
  have hP : va_P D vwCl [(q, .inr (9, [.ref n_1, .int 0, .ref n_2, .int 0, .ref n_3, .int 0, .null, .int 0, .null, .long (0 : Int64), .long (0 : Int64), .long (0 : Int64), .int 0, .int 0])), (n_1, .inl (cI, 5040, .inl (fun _ => 0))), (n_2, .inl (cI, 60, .inl (fun _ => 0))), (n_3, .inl (cI, 2000, .inl (fun _ => 0))), (n_4, .inl (cI, 60, .inl (fun _ => 0)))] H := hP
  have hD : va_D A [(q, .inr (9, [.ref n_1, .int 0, .ref n_2, .int 0, .ref n_3, .int 0, .null, .int 0, .null, .long (0 : Int64), .long (0 : Int64), .long (0 : Int64), .int 0, .int 0])), (n_1, .inl (cI, 5040, .inl (fun _ => 0))), (n_2, .inl (cI, 60, .inl (fun _ => 0))), (n_3, .inl (cI, 2000, .inl (fun _ => 0))), (n_4, .inl (cI, 60, .inl (fun _ => 0)))] := hD
  refine W.widen (k := 4) (n := 7160) (Nat.le_of_ble_eq_true rfl) (Nat.le_of_ble_eq_true rfl) ?_
  refine va_putF (D := D) (ci := 9) (v := .ref n_4) (ty := .array .int) (C := RX9) (T := TX9) (N := 14) hx hb hts inGX9 tyX9 tyX9_ok nmX9 hown hK hP hD hS 0 rfl rfl 6 (by decide) (hts _ fl_X9_19) (fun _ h9 => h9) rfl hin rfl (by decide +kernel) rfl rfl (Nat.le_of_ble_eq_true rfl) dX9_init_35 (fun H locs hP hD hS => ?_)
  have hP : va_P D vwCl [(q, .inr (9, [.ref n_1, .int 0, .ref n_2, .int 0, .ref n_3, .int 0, .ref n_4, .int 0, .null, .long (0 : Int64), .long (0 : Int64), .long (0 : Int64), .int 0, .int 0])), (n_1, .inl (cI, 5040, .inl (fun _ => 0))), (n_2, .inl (cI, 60, .inl (fun _ => 0))), (n_3, .inl (cI, 2000, .inl (fun _ => 0))), (n_4, .inl (cI, 60, .inl (fun _ => 0)))] H := hP
  have hD : va_D A [(q, .inr (9, [.ref n_1, .int 0, .ref n_2, .int 0, .ref n_3, .int 0, .ref n_4, .int 0, .null, .long (0 : Int64), .long (0 : Int64), .long (0 : Int64), .int 0, .int 0])), (n_1, .inl (cI, 5040, .inl (fun _ => 0))), (n_2, .inl (cI, 60, .inl (fun _ => 0))), (n_3, .inl (cI, 2000, .inl (fun _ => 0))), (n_4, .inl (cI, 60, .inl (fun _ => 0)))] := hD
  refine lv_aload_n hx hb dX9_init_38 rfl (lv_at hl 0 rfl) ?_
  refine lv_bipush (v := 6) hx hb dX9_init_39 (by decide) ?_
  refine va_newa (atype := .int) hx hb (hts _ ac_int) (ty := .int) rfl hK hP hD hS hA (n := 6) (N' := 6) (a0 := (6, .inl (fun _ => 0))) (fun cA => rfl) (by decide) (by decide) (Nat.le_of_ble_eq_true rfl) (Nat.le_of_ble_eq_true rfl) (Nat.le_of_ble_eq_true rfl) dX9_init_41 (fun n_5 cA H hK2 hP hD hS => ?_)
  rw [ca_eq hK hK2] at hP hD
  have hP : va_P D vwCl [(q, .inr (9, [.ref n_1, .int 0, .ref n_2, .int 0, .ref n_3, .int 0, .ref n_4, .int 0, .null, .long (0 : Int64), .long (0 : Int64), .long (0 : Int64), .int 0, .int 0])), (n_1, .inl (cI, 5040, .inl (fun _ => 0))), (n_2, .inl (cI, 60, .inl (fun _ => 0))), (n_3, .inl (cI, 2000, .inl (fun _ => 0))), (n_4, .inl (cI, 60, .inl (fun _ => 0))), (n_5, .inl (cI, 6, .inl (fun _ => 0)))] H := hP
  have hD : va_D A [(q, .inr (9, [.ref n_1, .int 0, .ref n_2, .int 0, .ref n_3, .int 0, .ref n_4, .int 0, .null, .long (0 : Int64), .long (0 : Int64), .long (0 : Int64), .int 0, .int 0])), (n_1, .inl (cI, 5040, .inl (fun _ => 0))), (n_2, .inl (cI, 60, .inl (fun _ => 0))), (n_3, .inl (cI, 2000, .inl (fun _ => 0))), (n_4, .inl (cI, 60, .inl (fun _ => 0))), (n_5, .inl (cI, 6, .inl (fun _ => 0)))] := hD
  refine W.widen (k := 5) (n := 7166) (Nat.le_of_ble_eq_true rfl) (Nat.le_of_ble_eq_true rfl) ?_
  refine va_putF (D := D) (ci := 9) (v := .ref n_5) (ty := .array .int) (C := RX9) (T := TX9) (N := 14) hx hb hts inGX9 tyX9 tyX9_ok nmX9 hown hK hP hD hS 0 rfl rfl 8 (by decide) (hts _ fl_X9_22) (fun _ h9 => h9) rfl hin rfl (by decide +kernel) rfl rfl (Nat.le_of_ble_eq_true rfl) dX9_init_43 (fun H locs hP hD hS => ?_)
  have hP : va_P D vwCl [(q, .inr (9, [.ref n_1, .int 0, .ref n_2, .int 0, .ref n_3, .int 0, .ref n_4, .int 0, .ref n_5, .long (0 : Int64), .long (0 : Int64), .long (0 : Int64), .int 0, .int 0])), (n_1, .inl (cI, 5040, .inl (fun _ => 0))), (n_2, .inl (cI, 60, .inl (fun _ => 0))), (n_3, .inl (cI, 2000, .inl (fun _ => 0))), (n_4, .inl (cI, 60, .inl (fun _ => 0))), (n_5, .inl (cI, 6, .inl (fun _ => 0)))] H := hP
  have hD : va_D A [(q, .inr (9, [.ref n_1, .int 0, .ref n_2, .int 0, .ref n_3, .int 0, .ref n_4, .int 0, .ref n_5, .long (0 : Int64), .long (0 : Int64), .long (0 : Int64), .int 0, .int 0])), (n_1, .inl (cI, 5040, .inl (fun _ => 0))), (n_2, .inl (cI, 60, .inl (fun _ => 0))), (n_3, .inl (cI, 2000, .inl (fun _ => 0))), (n_4, .inl (cI, 60, .inl (fun _ => 0))), (n_5, .inl (cI, 6, .inl (fun _ => 0)))] := hD
  refine lv_aload_n hx hb dX9_init_46 rfl (lv_at hl 0 rfl) ?_
  refine va_get (D := D) (ci := 9) (v := .ref n_1) (C := RX9) (T := TX9) (N := 14) hx hb hts inGX9 hown hK hP 0 rfl rfl 0 (by decide) (hts _ fl_X9_7) (fun _ h9 => h9) rfl dX9_init_47 ?_
  refine lv_bipush (v := 6) hx hb dX9_init_50 (by decide) ?_
  refine lv_iconst (v := 2) hx hb dX9_init_52 (by decide) ?_
  refine va_iast hx hb hK hP hD hS 1 0 rfl rfl (show vp_in (nI 6) 5040 from vp_in_nI (by omega) (by omega)) dX9_init_53 (fun H locs hP hD hS => ?_)
  have hP : va_P D vwCl [(q, .inr (9, [.ref n_1, .int 0, .ref n_2, .int 0, .ref n_3, .int 0, .ref n_4, .int 0, .ref n_5, .long (0 : Int64), .long (0 : Int64), .long (0 : Int64), .int 0, .int 0])), (n_1, .inl (cI, 5040, .inl (upd (fun _ => 0) ((6 : Int32)).toNatClampNeg 2))), (n_2, .inl (cI, 60, .inl (fun _ => 0))), (n_3, .inl (cI, 2000, .inl (fun _ => 0))), (n_4, .inl (cI, 60, .inl (fun _ => 0))), (n_5, .inl (cI, 6, .inl (fun _ => 0)))] H := hP
  have hD : va_D A [(q, .inr (9, [.ref n_1, .int 0, .ref n_2, .int 0, .ref n_3, .int 0, .ref n_4, .int 0, .ref n_5, .long (0 : Int64), .long (0 : Int64), .long (0 : Int64), .int 0, .int 0])), (n_1, .inl (cI, 5040, .inl (upd (fun _ => 0) ((6 : Int32)).toNatClampNeg 2))), (n_2, .inl (cI, 60, .inl (fun _ => 0))), (n_3, .inl (cI, 2000, .inl (fun _ => 0))), (n_4, .inl (cI, 60, .inl (fun _ => 0))), (n_5, .inl (cI, 6, .inl (fun _ => 0)))] := hD
  refine lv_aload_n hx hb dX9_init_54 rfl (lv_at hl 0 rfl) ?_
  refine va_get (D := D) (ci := 9) (v := .ref n_1) (C := RX9) (T := TX9) (N := 14) hx hb hts inGX9 hown hK hP 0 rfl rfl 0 (by decide) (hts _ fl_X9_7) (fun _ h9 => h9) rfl dX9_init_55 ?_
  refine lv_bipush (v := 7) hx hb dX9_init_58 (by decide) ?_
  refine lv_iconst (v := 2) hx hb dX9_init_60 (by decide) ?_
  refine va_iast hx hb hK hP hD hS 1 0 rfl rfl (show vp_in (nI 7) 5040 from vp_in_nI (by omega) (by omega)) dX9_init_61 (fun H locs hP hD hS => ?_)
  have hP : va_P D vwCl [(q, .inr (9, [.ref n_1, .int 0, .ref n_2, .int 0, .ref n_3, .int 0, .ref n_4, .int 0, .ref n_5, .long (0 : Int64), .long (0 : Int64), .long (0 : Int64), .int 0, .int 0])), (n_1, .inl (cI, 5040, .inl (upd (upd (fun _ => 0) ((6 : Int32)).toNatClampNeg 2) ((7 : Int32)).toNatClampNeg 2))), (n_2, .inl (cI, 60, .inl (fun _ => 0))), (n_3, .inl (cI, 2000, .inl (fun _ => 0))), (n_4, .inl (cI, 60, .inl (fun _ => 0))), (n_5, .inl (cI, 6, .inl (fun _ => 0)))] H := hP
  have hD : va_D A [(q, .inr (9, [.ref n_1, .int 0, .ref n_2, .int 0, .ref n_3, .int 0, .ref n_4, .int 0, .ref n_5, .long (0 : Int64), .long (0 : Int64), .long (0 : Int64), .int 0, .int 0])), (n_1, .inl (cI, 5040, .inl (upd (upd (fun _ => 0) ((6 : Int32)).toNatClampNeg 2) ((7 : Int32)).toNatClampNeg 2))), (n_2, .inl (cI, 60, .inl (fun _ => 0))), (n_3, .inl (cI, 2000, .inl (fun _ => 0))), (n_4, .inl (cI, 60, .inl (fun _ => 0))), (n_5, .inl (cI, 6, .inl (fun _ => 0)))] := hD
  refine lv_aload_n hx hb dX9_init_62 rfl (lv_at hl 0 rfl) ?_
  refine va_get (D := D) (ci := 9) (v := .ref n_1) (C := RX9) (T := TX9) (N := 14) hx hb hts inGX9 hown hK hP 0 rfl rfl 0 (by decide) (hts _ fl_X9_7) (fun _ h9 => h9) rfl dX9_init_63 ?_
  refine lv_bipush (v := 8) hx hb dX9_init_66 (by decide) ?_
  refine lv_bipush (v := 100) hx hb dX9_init_68 (by decide) ?_
  refine va_iast hx hb hK hP hD hS 1 0 rfl rfl (show vp_in (nI 8) 5040 from vp_in_nI (by omega) (by omega)) dX9_init_70 (fun H locs hP hD hS => ?_)
  have hP : va_P D vwCl [(q, .inr (9, [.ref n_1, .int 0, .ref n_2, .int 0, .ref n_3, .int 0, .ref n_4, .int 0, .ref n_5, .long (0 : Int64), .long (0 : Int64), .long (0 : Int64), .int 0, .int 0])), (n_1, .inl (cI, 5040, .inl (upd (upd (upd (fun _ => 0) ((6 : Int32)).toNatClampNeg 2) ((7 : Int32)).toNatClampNeg 2) ((8 : Int32)).toNatClampNeg 100))), (n_2, .inl (cI, 60, .inl (fun _ => 0))), (n_3, .inl (cI, 2000, .inl (fun _ => 0))), (n_4, .inl (cI, 60, .inl (fun _ => 0))), (n_5, .inl (cI, 6, .inl (fun _ => 0)))] H := hP
  have hD : va_D A [(q, .inr (9, [.ref n_1, .int 0, .ref n_2, .int 0, .ref n_3, .int 0, .ref n_4, .int 0, .ref n_5, .long (0 : Int64), .long (0 : Int64), .long (0 : Int64), .int 0, .int 0])), (n_1, .inl (cI, 5040, .inl (upd (upd (upd (fun _ => 0) ((6 : Int32)).toNatClampNeg 2) ((7 : Int32)).toNatClampNeg 2) ((8 : Int32)).toNatClampNeg 100))), (n_2, .inl (cI, 60, .inl (fun _ => 0))), (n_3, .inl (cI, 2000, .inl (fun _ => 0))), (n_4, .inl (cI, 60, .inl (fun _ => 0))), (n_5, .inl (cI, 6, .inl (fun _ => 0)))] := hD
  refine lv_aload_n hx hb dX9_init_71 rfl (lv_at hl 0 rfl) ?_
  refine lv_iconst (v := 0) hx hb dX9_init_72 (by decide) ?_
  obtain ⟨t_6, hc_7, hf⟩ := bd1 hf
  refine k_rwVv (As := [.int 0]) (rest := []) (Wr := []) (W2 := [(q, .inr (9, [.ref n_1, .int 0, .ref n_2, .int 0, .ref n_3, .int 0, .ref n_4, .int 0, .ref n_5, .long (0 : Int64), .long (0 : Int64), .long (0 : Int64), .int 0, .int 0])), (n_1, .inl (cI, 5040, .inl t_6)), (n_2, .inl (cI, 60, .inl (fun _ => 0))), (n_3, .inl (cI, 2000, .inl (fun _ => 0))), (n_4, .inl (cI, 60, .inl (fun _ => 0))), (n_5, .inl (cI, 6, .inl (fun _ => 0)))]) S (c_X9_renews l D cI (q := q) (qm := n_1) (qi := n_2) (qp := n_3) (qo := n_4) (qg := n_5) (kept := 0) (im := 0) (pm := 0) (om := 0) (lo := (0 : Int64)) (hi_ := (0 : Int64)) (cde := (0 : Int64)) (fr := 0) (sp := 0) (mm := upd (upd (upd (fun _ => 0) ((6 : Int32)).toNatClampNeg 2) ((7 : Int32)).toNatClampNeg 2) ((8 : Int32)).toNatClampNeg 100) (inp := (fun _ => 0)) (pk := (fun _ => 0)) (out := (fun _ => 0)) (gr := (fun _ => 0)) (x1 := 0)  (o_mm := t_6) (hf := hc_7)) gs_X9_25 ok_X9_renews ⟨rfl, rfl⟩ ⟨Nat.le_of_ble_eq_true rfl, Nat.le_of_ble_eq_true rfl⟩ hK hN hSF hP hD hS hA [0, 1, 2, 3, 4, 5] [] [0, 1, 2, 3, 4, 5] (by decide) rfl rfl (by decide) (by decide) rfl (by decide) rfl rfl rfl hl.1 rfl (Nat.le_of_ble_eq_true rfl) ⟨Nat.le_of_ble_eq_true rfl, Nat.le_of_ble_eq_true rfl⟩ dX9_init_73 (fun H locs hP hD hS => ?_)
  have e_0 := Option.some.inj hf
  subst e_0
  exact k_ctv (BH := fun A H => ∃ n_1 n_2 n_3 n_4 n_5 : Nat, va_P D vwCl [(q, .inr (9, [.ref n_1, .int 0, .ref n_2, .int 0, .ref n_3, .int 0, .ref n_4, .int 0, .ref n_5, .long (0 : Int64), .long (0 : Int64), .long (0 : Int64), .int 0, .int 0])), (n_1, .inl (cI, 5040, .inl t_6)), (n_2, .inl (cI, 60, .inl (fun _ => 0))), (n_3, .inl (cI, 2000, .inl (fun _ => 0))), (n_4, .inl (cI, 60, .inl (fun _ => 0))), (n_5, .inl (cI, 6, .inl (fun _ => 0)))] H ∧ va_D A [(q, .inr (9, [.ref n_1, .int 0, .ref n_2, .int 0, .ref n_3, .int 0, .ref n_4, .int 0, .ref n_5, .long (0 : Int64), .long (0 : Int64), .long (0 : Int64), .int 0, .int 0])), (n_1, .inl (cI, 5040, .inl t_6)), (n_2, .inl (cI, 60, .inl (fun _ => 0))), (n_3, .inl (cI, 2000, .inl (fun _ => 0))), (n_4, .inl (cI, 60, .inl (fun _ => 0))), (n_5, .inl (cI, 6, .inl (fun _ => 0)))]) hx hb hret hloc ⟨n_1, n_2, n_3, n_4, n_5, hP, hD⟩ hS dX9_init_76
