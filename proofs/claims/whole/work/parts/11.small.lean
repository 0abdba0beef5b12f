theorem dX0_length_0 : decode cX0_length 0 = .ok (.aload_n 0, 1) := by decide +kernel
theorem dX0_length_1 : decode cX0_length 1 = .ok (.getfield 7, 3) := by decide +kernel
theorem dX0_length_4 : decode cX0_length 4 = .ok (.ireturn, 1) := by decide +kernel
def f_X0_length (len : Int32) : Int32 := len
set_option maxHeartbeats 4000000 in
set_option maxRecDepth 100000 in
theorem c_X0_length (l : Launch) (D : va_G) (cI : ClassId) (q : Nat) (qr : Nat) (qa : Nat) (n : Nat) (room : Int32) (len : Int32) (bs : (Nat → Int32)) (hn : n < 2 ^ 31) (r : Int32) (hf : f_X0_length len = r) : Met l yX0_length (.code yX0_length cX0_length 1 (some .int) :: wsG) ({ frames := 0, cells := 0, slots := 0, locals := 0 }) (va_Pc [.ref q] (gw D cI [(q, .inr (0, [.ref qr, .int room, .int len])), (qr, .inr (4, [.ref qa])), (qa, .inl (cI, n, .inl bs))])) (vp_Si (fun x => x = r)) 0 0 (fun _ => False) := by
  refine k_ro (by decide) rfl (Nat.le_of_ble_eq_true rfl) rfl ?_
  intro p e s m below meth c ls S hret hloc hK hN hSF hP hl
  obtain ⟨hx, hb, hml, hown, hts⟩ := id S
  unfold f_X0_length at hf
  refine lv_aload_n hx hb dX0_length_0 rfl (lv_at hl 0 rfl) ?_
  refine va_get (D := D) (ci := 0) (v := .int len) (C := RX0) (T := TX0) (N := 3) hx hb hts inGX0 hown hK hP 0 rfl rfl 2 (by decide) (hts _ fl_X0_7) (fun _ h9 => h9) rfl dX0_length_1 ?_
  exact k_reti hx hb hret hloc hf dX0_length_4
theorem dX0_get_0 : decode cX0_get 0 = .ok (.iload_n 1, 1) := by decide +kernel
theorem dX0_get_1 : decode cX0_get 1 = .ok (.aload_n 0, 1) := by decide +kernel
theorem dX0_get_2 : decode cX0_get 2 = .ok (.getfield 7, 3) := by decide +kernel
theorem dX0_get_5 : decode cX0_get 5 = .ok (.if_icmp .ge 14, 3) := by decide +kernel
theorem dX0_get_8 : decode cX0_get 8 = .ok (.aload_n 0, 1) := by decide +kernel
theorem dX0_get_9 : decode cX0_get 9 = .ok (.getfield 21, 3) := by decide +kernel
theorem dX0_get_12 : decode cX0_get 12 = .ok (.iload_n 1, 1) := by decide +kernel
theorem dX0_get_13 : decode cX0_get 13 = .ok (.invokevirtual 25, 3) := by decide +kernel
theorem dX0_get_16 : decode cX0_get 16 = .ok (.goto 4, 3) := by decide +kernel
theorem dX0_get_19 : decode cX0_get 19 = .ok (.iconst 0, 1) := by decide +kernel
theorem dX0_get_20 : decode cX0_get 20 = .ok (.ireturn, 1) := by decide +kernel
theorem gs_X0_25 : GoodIn wsG (wsV RX0 25 RX4 yX4_get (.code yX4_get cX4_get 2 (some .int) :: wsG)) := good_V ml_X0_25 im_X4_get se_X4_get ini_X4 co_X4_get
def f_X0_get (n : Nat) (len : Int32) (bs : (Nat → Int32)) (x1 : Int32) : Int32 := if len ≤ x1 then ((0 : Int32)) else ((f_X4_get n bs x1))
set_option maxHeartbeats 4000000 in
set_option maxRecDepth 100000 in
theorem c_X0_get (l : Launch) (D : va_G) (cI : ClassId) (q : Nat) (qr : Nat) (qa : Nat) (n : Nat) (room : Int32) (len : Int32) (bs : (Nat → Int32)) (x1 : Int32) (hn : n < 2 ^ 31) (r : Int32) (hf : f_X0_get n len bs x1 = r) : Met l yX0_get (.code yX0_get cX0_get 2 (some .int) :: wsG) ({ frames := 1, cells := 0, slots := 0, locals := 21 }) (va_Pc [.ref q, .int x1] (gw D cI [(q, .inr (0, [.ref qr, .int room, .int len])), (qr, .inr (4, [.ref qa])), (qa, .inl (cI, n, .inl bs))])) (vp_Si (fun x => x = r)) 0 0 (fun _ => False) := by
  refine k_ro (by decide) rfl (Nat.le_of_ble_eq_true rfl) rfl ?_
  intro p e s m below meth c ls S hret hloc hK hN hSF hP hl
  obtain ⟨hx, hb, hml, hown, hts⟩ := id S
  unfold f_X0_get at hf
  refine lv_iload_n hx hb dX0_get_0 rfl (lv_at hl 1 rfl) ?_
  refine lv_aload_n hx hb dX0_get_1 rfl (lv_at hl 0 rfl) ?_
  refine va_get (D := D) (ci := 0) (v := .int len) (C := RX0) (T := TX0) (N := 3) hx hb hts inGX0 hown hK hP 0 rfl rfl 2 (by decide) (hts _ fl_X0_7) (fun _ h9 => h9) rfl dX0_get_2 ?_
  refine lv_icmp_ge (tgt := 19) hx hb dX0_get_5 (by decide) (fun c_1 => ?_) (fun c_1 => ?_)
  · rw [if_pos c_1] at hf
    refine lv_iconst (v := 0) hx hb dX0_get_19 (by decide) ?_
    exact k_reti hx hb hret hloc hf dX0_get_20
  · rw [if_neg c_1] at hf
    refine lv_aload_n hx hb dX0_get_8 rfl (lv_at hl 0 rfl) ?_
    refine va_get (D := D) (ci := 0) (v := .ref qr) (C := RX0) (T := TX0) (N := 3) hx hb hts inGX0 hown hK hP 0 rfl rfl 0 (by decide) (hts _ fl_X0_21) (fun _ h9 => h9) rfl dX0_get_9 ?_
    refine lv_iload_n hx hb dX0_get_12 rfl (lv_at hl 1 rfl) ?_
    refine k_roVi (As := [.int x1]) (rest := []) S (c_X4_get l D cI (q := qr) (qa := qa) (n := n) (f := bs) (x1 := x1) (hn := hn) (r := (f_X4_get n bs x1)) (hf := rfl)) gs_X0_25 ok_X4_get ⟨rfl, rfl⟩ ⟨Nat.le_of_ble_eq_true rfl, Nat.le_of_ble_eq_true rfl⟩ hK hN hSF (hP.sub [1, 2] rfl) rfl rfl rfl hl.1 rfl (Nat.le_of_ble_eq_true rfl) ⟨Nat.zero_le _, Nat.zero_le _⟩ dX0_get_13 ?_
    refine lv_goto (tgt := 20) hx hb dX0_get_16 (by decide) ?_
    exact k_reti hx hb hret hloc hf dX0_get_20
theorem dX0_put_0 : decode cX0_put 0 = .ok (.aload_n 0, 1) := by decide +kernel
theorem dX0_put_1 : decode cX0_put 1 = .ok (.getfield 21, 3) := by decide +kernel
theorem dX0_put_4 : decode cX0_put 4 = .ok (.iload_n 1, 1) := by decide +kernel
theorem dX0_put_5 : decode cX0_put 5 = .ok (.iload_n 2, 1) := by decide +kernel
theorem dX0_put_6 : decode cX0_put 6 = .ok (.invokevirtual 29, 3) := by decide +kernel
theorem dX0_put_9 : decode cX0_put 9 = .ok (.return_, 1) := by decide +kernel
theorem gs_X0_29 : GoodIn wsG (wsV RX0 29 RX4 yX4_put (.code yX4_put cX4_put 3 none :: wsG)) := good_V ml_X0_29 im_X4_put se_X4_put ini_X4 co_X4_put
def f_X0_put (n : Nat) (bs : (Nat → Int32)) (x1 : Int32) (x2 : Int32) : (Nat → Int32) := (f_X4_put n bs x1 x2)
set_option maxHeartbeats 4000000 in
set_option maxRecDepth 100000 in
theorem c_X0_put (l : Launch) (D : va_G) (cI : ClassId) {sz : Nat} (q : Nat) (qr : Nat) (qa : Nat) (n : Nat) (room : Int32) (len : Int32) (bs : (Nat → Int32)) (x1 : Int32) (x2 : Int32) (hn : n < 2 ^ 31) (o_bs : (Nat → Int32)) (hf : f_X0_put n bs x1 x2 = o_bs) : Met l yX0_put (.code yX0_put cX0_put 3 none :: wsG) ({ frames := 1, cells := 0, slots := 0, locals := 22 }) (va_Pc [.ref q, .int x1, .int x2] (gv D cI sz [(q, .inr (0, [.ref qr, .int room, .int len])), (qr, .inr (4, [.ref qa])), (qa, .inl (cI, n, .inl bs))])) (va_Qv (fun (_ : Unit) => True) (gz D (va_A [(q, .inr (0, [.ref qr, .int room, .int len])), (qr, .inr (4, [.ref qa])), (qa, .inl (cI, n, .inl bs))] sz) [(q, .inr (0, [.ref qr, .int room, .int len])), (qr, .inr (4, [.ref qa])), (qa, .inl (cI, n, .inl o_bs))]) (va_A [(q, .inr (0, [.ref qr, .int room, .int len])), (qr, .inr (4, [.ref qa])), (qa, .inl (cI, n, .inl bs))] sz)) 0 0 (va_A [(q, .inr (0, [.ref qr, .int room, .int len])), (qr, .inr (4, [.ref qa])), (qa, .inl (cI, n, .inl bs))] sz) := by
  refine k_rw (y := yX0_put) (cc := cX0_put) (maxL := 3) (ret := none) (As := [.ref q, .int x1, .int x2]) (Qc := fun A => va_Qv (fun (_ : Unit) => True) (gz D A [(q, .inr (0, [.ref qr, .int room, .int len])), (qr, .inr (4, [.ref qa])), (qa, .inl (cI, n, .inl o_bs))]) A) (by decide) rfl (Nat.le_of_ble_eq_true rfl) rfl ?_
  intro p e s m below meth c ls A S hret hloc hK hN hSF hP hD hS hA hl
  obtain ⟨hx, hb, hml, hown, hts⟩ := id S
  unfold f_X0_put at hf
  refine lv_aload_n hx hb dX0_put_0 rfl (lv_at hl 0 rfl) ?_
  refine va_get (D := D) (ci := 0) (v := .ref qr) (C := RX0) (T := TX0) (N := 3) hx hb hts inGX0 hown hK hP 0 rfl rfl 0 (by decide) (hts _ fl_X0_21) (fun _ h9 => h9) rfl dX0_put_1 ?_
  refine lv_iload_n hx hb dX0_put_4 rfl (lv_at hl 1 rfl) ?_
  refine lv_iload_n hx hb dX0_put_5 rfl (lv_at hl 2 rfl) ?_
  refine k_rwVv (As := [.int x1, .int x2]) (rest := []) (Wr := [(q, .inr (0, [.ref qr, .int room, .int len]))]) (W2 := [(q, .inr (0, [.ref qr, .int room, .int len])), (qr, .inr (4, [.ref qa])), (qa, .inl (cI, n, .inl (f_X4_put n bs x1 x2)))]) S (c_X4_put l D cI (q := qr) (qa := qa) (n := n) (f := bs) (x1 := x1) (x2 := x2) (hn := hn) (o_f := (f_X4_put n bs x1 x2)) (hf := rfl)) gs_X0_29 ok_X4_put ⟨rfl, rfl⟩ ⟨Nat.le_of_ble_eq_true rfl, Nat.le_of_ble_eq_true rfl⟩ hK hN hSF hP hD hS hA [1, 2] [0] [0, 1, 2] (by decide) rfl rfl (by decide) (by decide) rfl (by decide) rfl rfl rfl hl.1 rfl (Nat.le_of_ble_eq_true rfl) ⟨Nat.zero_le _, Nat.zero_le _⟩ dX0_put_6 (fun H locs hP hD hS => ?_)
  subst hf
  exact k_wretv hx hb hret hloc hP hD hS dX0_put_9
theorem dX0_add_0 : decode cX0_add 0 = .ok (.aload_n 0, 1) := by decide +kernel
theorem dX0_add_1 : decode cX0_add 1 = .ok (.getfield 7, 3) := by decide +kernel
theorem dX0_add_4 : decode cX0_add 4 = .ok (.aload_n 0, 1) := by decide +kernel
theorem dX0_add_5 : decode cX0_add 5 = .ok (.getfield 13, 3) := by decide +kernel
theorem dX0_add_8 : decode cX0_add 8 = .ok (.if_icmp .ge 25, 3) := by decide +kernel
theorem dX0_add_11 : decode cX0_add 11 = .ok (.aload_n 0, 1) := by decide +kernel
theorem dX0_add_12 : decode cX0_add 12 = .ok (.getfield 21, 3) := by decide +kernel
theorem dX0_add_15 : decode cX0_add 15 = .ok (.aload_n 0, 1) := by decide +kernel
theorem dX0_add_16 : decode cX0_add 16 = .ok (.getfield 7, 3) := by decide +kernel
theorem dX0_add_19 : decode cX0_add 19 = .ok (.iload_n 1, 1) := by decide +kernel
theorem dX0_add_20 : decode cX0_add 20 = .ok (.invokevirtual 29, 3) := by decide +kernel
theorem dX0_add_23 : decode cX0_add 23 = .ok (.aload_n 0, 1) := by decide +kernel
theorem dX0_add_24 : decode cX0_add 24 = .ok (.dup, 1) := by decide +kernel
theorem dX0_add_25 : decode cX0_add 25 = .ok (.getfield 7, 3) := by decide +kernel
theorem dX0_add_28 : decode cX0_add 28 = .ok (.iconst 1, 1) := by decide +kernel
theorem dX0_add_29 : decode cX0_add 29 = .ok (.iadd, 1) := by decide +kernel
theorem dX0_add_30 : decode cX0_add 30 = .ok (.putfield 7, 3) := by decide +kernel
theorem dX0_add_33 : decode cX0_add 33 = .ok (.return_, 1) := by decide +kernel
def f_X0_add (n : Nat) (room : Int32) (len : Int32) (bs : (Nat → Int32)) (x1 : Int32) : Option (Int32 × (Nat → Int32)) := if room ≤ len then (some (len, bs)) else (some (len + 1, (f_X4_put n bs len x1)))
set_option maxHeartbeats 4000000 in
set_option maxRecDepth 100000 in
theorem c_X0_add (l : Launch) (D : va_G) (cI : ClassId) {sz : Nat} (q : Nat) (qr : Nat) (qa : Nat) (n : Nat) (room : Int32) (len : Int32) (bs : (Nat → Int32)) (x1 : Int32) (hn : n < 2 ^ 31) (o_len : Int32) (o_bs : (Nat → Int32)) (hf : f_X0_add n room len bs x1 = some (o_len, o_bs)) : Met l yX0_add (.code yX0_add cX0_add 2 none :: wsG) ({ frames := 1, cells := 0, slots := 0, locals := 22 }) (va_Pc [.ref q, .int x1] (gv D cI sz [(q, .inr (0, [.ref qr, .int room, .int len])), (qr, .inr (4, [.ref qa])), (qa, .inl (cI, n, .inl bs))])) (va_Qv (fun (_ : Unit) => True) (gz D (va_A [(q, .inr (0, [.ref qr, .int room, .int len])), (qr, .inr (4, [.ref qa])), (qa, .inl (cI, n, .inl bs))] sz) [(q, .inr (0, [.ref qr, .int room, .int o_len])), (qr, .inr (4, [.ref qa])), (qa, .inl (cI, n, .inl o_bs))]) (va_A [(q, .inr (0, [.ref qr, .int room, .int len])), (qr, .inr (4, [.ref qa])), (qa, .inl (cI, n, .inl bs))] sz)) 0 0 (va_A [(q, .inr (0, [.ref qr, .int room, .int len])), (qr, .inr (4, [.ref qa])), (qa, .inl (cI, n, .inl bs))] sz) := by
  refine k_rw (y := yX0_add) (cc := cX0_add) (maxL := 2) (ret := none) (As := [.ref q, .int x1]) (Qc := fun A => va_Qv (fun (_ : Unit) => True) (gz D A [(q, .inr (0, [.ref qr, .int room, .int o_len])), (qr, .inr (4, [.ref qa])), (qa, .inl (cI, n, .inl o_bs))]) A) (by decide) rfl (Nat.le_of_ble_eq_true rfl) rfl ?_
  intro p e s m below meth c ls A S hret hloc hK hN hSF hP hD hS hA hl
  obtain ⟨hx, hb, hml, hown, hts⟩ := id S
  unfold f_X0_add at hf
  refine lv_aload_n hx hb dX0_add_0 rfl (lv_at hl 0 rfl) ?_
  refine va_get (D := D) (ci := 0) (v := .int len) (C := RX0) (T := TX0) (N := 3) hx hb hts inGX0 hown hK hP 0 rfl rfl 2 (by decide) (hts _ fl_X0_7) (fun _ h9 => h9) rfl dX0_add_1 ?_
  refine lv_aload_n hx hb dX0_add_4 rfl (lv_at hl 0 rfl) ?_
  refine va_get (D := D) (ci := 0) (v := .int room) (C := RX0) (T := TX0) (N := 3) hx hb hts inGX0 hown hK hP 0 rfl rfl 1 (by decide) (hts _ fl_X0_13) (fun _ h9 => h9) rfl dX0_add_5 ?_
  refine lv_icmp_ge (tgt := 33) hx hb dX0_add_8 (by decide) (fun c_1 => ?_) (fun c_1 => ?_)
  · rw [if_pos c_1] at hf
    obtain ⟨e_0, e_1⟩ := Prod.mk.inj (Option.some.inj hf)
    subst e_0
    subst e_1
    exact k_wretv hx hb hret hloc hP hD hS dX0_add_33
  · rw [if_neg c_1] at hf
    refine lv_aload_n hx hb dX0_add_11 rfl (lv_at hl 0 rfl) ?_
    refine va_get (D := D) (ci := 0) (v := .ref qr) (C := RX0) (T := TX0) (N := 3) hx hb hts inGX0 hown hK hP 0 rfl rfl 0 (by decide) (hts _ fl_X0_21) (fun _ h9 => h9) rfl dX0_add_12 ?_
    refine lv_aload_n hx hb dX0_add_15 rfl (lv_at hl 0 rfl) ?_
    refine va_get (D := D) (ci := 0) (v := .int len) (C := RX0) (T := TX0) (N := 3) hx hb hts inGX0 hown hK hP 0 rfl rfl 2 (by decide) (hts _ fl_X0_7) (fun _ h9 => h9) rfl dX0_add_16 ?_
    refine lv_iload_n hx hb dX0_add_19 rfl (lv_at hl 1 rfl) ?_
    refine k_rwVv (As := [.int len, .int x1]) (rest := []) (Wr := [(q, .inr (0, [.ref qr, .int room, .int len]))]) (W2 := [(q, .inr (0, [.ref qr, .int room, .int len])), (qr, .inr (4, [.ref qa])), (qa, .inl (cI, n, .inl (f_X4_put n bs len x1)))]) S (c_X4_put l D cI (q := qr) (qa := qa) (n := n) (f := bs) (x1 := len) (x2 := x1) (hn := hn) (o_f := (f_X4_put n bs len x1)) (hf := rfl)) gs_X0_29 ok_X4_put ⟨rfl, rfl⟩ ⟨Nat.le_of_ble_eq_true rfl, Nat.le_of_ble_eq_true rfl⟩ hK hN hSF hP hD hS hA [1, 2] [0] [0, 1, 2] (by decide) rfl rfl (by decide) (by decide) rfl (by decide) rfl rfl rfl hl.1 rfl (Nat.le_of_ble_eq_true rfl) ⟨Nat.zero_le _, Nat.zero_le _⟩ dX0_add_20 (fun H locs hP hD hS => ?_)
    refine lv_aload_n hx hb dX0_add_23 rfl (lv_at hl 0 rfl) ?_
    refine lv_dup hx hb dX0_add_24 rfl ?_
    refine va_get (D := D) (ci := 0) (v := .int len) (C := RX0) (T := TX0) (N := 3) hx hb hts inGX0 hown hK hP 0 rfl rfl 2 (by decide) (hts _ fl_X0_7) (fun _ h9 => h9) rfl dX0_add_25 ?_
    refine lv_iconst (v := 1) hx hb dX0_add_28 (by decide) ?_
    refine lv_iadd hx hb dX0_add_29 ?_
    refine va_put (D := D) (ci := 0) (v := .int (len + 1)) (ty := .int) (C := RX0) (T := TX0) (N := 3) hx hb hts inGX0 tyX0 tyX0_ok nmX0 hown hK hP hD hS 0 rfl rfl 2 (by decide) (hts _ fl_X0_7) (fun _ h9 => h9) rfl (by decide +kernel) rfl rfl (Nat.le_of_ble_eq_true rfl) dX0_add_30 (fun H locs hP hD hS => ?_)
    have hP : va_P D vwCl [(q, .inr (0, [.ref qr, .int room, .int (len + 1)])), (qr, .inr (4, [.ref qa])), (qa, .inl (cI, n, .inl (f_X4_put n bs len x1)))] H := hP
    have hD : va_D A [(q, .inr (0, [.ref qr, .int room, .int (len + 1)])), (qr, .inr (4, [.ref qa])), (qa, .inl (cI, n, .inl (f_X4_put n bs len x1)))] := hD
    obtain ⟨e_0, e_1⟩ := Prod.mk.inj (Option.some.inj hf)
    subst e_0
    subst e_1
    exact k_wretv hx hb hret hloc hP hD hS dX0_add_33
theorem dX0_clear_0 : decode cX0_clear 0 = .ok (.aload_n 0, 1) := by decide +kernel
theorem dX0_clear_1 : decode cX0_clear 1 = .ok (.iconst 0, 1) := by decide +kernel
theorem dX0_clear_2 : decode cX0_clear 2 = .ok (.putfield 7, 3) := by decide +kernel
theorem dX0_clear_5 : decode cX0_clear 5 = .ok (.return_, 1) := by decide +kernel
def f_X0_clear  : Int32 := 0
set_option maxHeartbeats 4000000 in
set_option maxRecDepth 100000 in
theorem c_X0_clear (l : Launch) (D : va_G) (cI : ClassId) {sz : Nat} (q : Nat) (qr : Nat) (qa : Nat) (n : Nat) (room : Int32) (len : Int32) (bs : (Nat → Int32)) (hn : n < 2 ^ 31) (o_len : Int32) (hf : f_X0_clear = o_len) : Met l yX0_clear (.code yX0_clear cX0_clear 1 none :: wsG) ({ frames := 0, cells := 0, slots := 0, locals := 0 }) (va_Pc [.ref q] (gv D cI sz [(q, .inr (0, [.ref qr, .int room, .int len])), (qr, .inr (4, [.ref qa])), (qa, .inl (cI, n, .inl bs))])) (va_Qv (fun (_ : Unit) => True) (gz D (va_A [(q, .inr (0, [.ref qr, .int room, .int len])), (qr, .inr (4, [.ref qa])), (qa, .inl (cI, n, .inl bs))] sz) [(q, .inr (0, [.ref qr, .int room, .int o_len])), (qr, .inr (4, [.ref qa])), (qa, .inl (cI, n, .inl bs))]) (va_A [(q, .inr (0, [.ref qr, .int room, .int len])), (qr, .inr (4, [.ref qa])), (qa, .inl (cI, n, .inl bs))] sz)) 0 0 (va_A [(q, .inr (0, [.ref qr, .int room, .int len])), (qr, .inr (4, [.ref qa])), (qa, .inl (cI, n, .inl bs))] sz) := by
  refine k_rw (y := yX0_clear) (cc := cX0_clear) (maxL := 1) (ret := none) (As := [.ref q]) (Qc := fun A => va_Qv (fun (_ : Unit) => True) (gz D A [(q, .inr (0, [.ref qr, .int room, .int o_len])), (qr, .inr (4, [.ref qa])), (qa, .inl (cI, n, .inl bs))]) A) (by decide) rfl (Nat.le_of_ble_eq_true rfl) rfl ?_
  intro p e s m below meth c ls A S hret hloc hK hN hSF hP hD hS hA hl
  obtain ⟨hx, hb, hml, hown, hts⟩ := id S
  unfold f_X0_clear at hf
  refine lv_aload_n hx hb dX0_clear_0 rfl (lv_at hl 0 rfl) ?_
  refine lv_iconst (v := 0) hx hb dX0_clear_1 (by decide) ?_
  refine va_put (D := D) (ci := 0) (v := .int 0) (ty := .int) (C := RX0) (T := TX0) (N := 3) hx hb hts inGX0 tyX0 tyX0_ok nmX0 hown hK hP hD hS 0 rfl rfl 2 (by decide) (hts _ fl_X0_7) (fun _ h9 => h9) rfl (by decide +kernel) rfl rfl (Nat.le_of_ble_eq_true rfl) dX0_clear_2 (fun H locs hP hD hS => ?_)
  have hP : va_P D vwCl [(q, .inr (0, [.ref qr, .int room, .int 0])), (qr, .inr (4, [.ref qa])), (qa, .inl (cI, n, .inl bs))] H := hP
  have hD : va_D A [(q, .inr (0, [.ref qr, .int room, .int 0])), (qr, .inr (4, [.ref qa])), (qa, .inl (cI, n, .inl bs))] := hD
  subst hf
  exact k_wretv hx hb hret hloc hP hD hS dX0_clear_5
theorem dX5_allows_0 : decode cX5_allows 0 = .ok (.iload_n 0, 1) := by decide +kernel
theorem dX5_allows_1 : decode cX5_allows 1 = .ok (.ifCond .lt 41, 3) := by decide +kernel
theorem dX5_allows_4 : decode cX5_allows 4 = .ok (.iload_n 0, 1) := by decide +kernel
theorem dX5_allows_5 : decode cX5_allows 5 = .ok (.getstatic 28, 3) := by decide +kernel
theorem dX5_allows_8 : decode cX5_allows 8 = .ok (.arraylength, 1) := by decide +kernel
theorem dX5_allows_9 : decode cX5_allows 9 = .ok (.if_icmp .ge 33, 3) := by decide +kernel
theorem dX5_allows_12 : decode cX5_allows 12 = .ok (.iload_n 0, 1) := by decide +kernel
theorem dX5_allows_13 : decode cX5_allows 13 = .ok (.getstatic 31, 3) := by decide +kernel
theorem dX5_allows_16 : decode cX5_allows 16 = .ok (.arraylength, 1) := by decide +kernel
theorem dX5_allows_17 : decode cX5_allows 17 = .ok (.if_icmp .ge 25, 3) := by decide +kernel
theorem dX5_allows_20 : decode cX5_allows 20 = .ok (.iload_n 1, 1) := by decide +kernel
theorem dX5_allows_21 : decode cX5_allows 21 = .ok (.getstatic 28, 3) := by decide +kernel
theorem dX5_allows_24 : decode cX5_allows 24 = .ok (.iload_n 0, 1) := by decide +kernel
theorem dX5_allows_25 : decode cX5_allows 25 = .ok (.iaload, 1) := by decide +kernel
theorem dX5_allows_26 : decode cX5_allows 26 = .ok (.if_icmp .lt 16, 3) := by decide +kernel
theorem dX5_allows_29 : decode cX5_allows 29 = .ok (.iload_n 1, 1) := by decide +kernel
theorem dX5_allows_30 : decode cX5_allows 30 = .ok (.getstatic 31, 3) := by decide +kernel
theorem dX5_allows_33 : decode cX5_allows 33 = .ok (.iload_n 0, 1) := by decide +kernel
theorem dX5_allows_34 : decode cX5_allows 34 = .ok (.iaload, 1) := by decide +kernel
theorem dX5_allows_35 : decode cX5_allows 35 = .ok (.if_icmp .gt 7, 3) := by decide +kernel
theorem dX5_allows_38 : decode cX5_allows 38 = .ok (.iconst 1, 1) := by decide +kernel
theorem dX5_allows_39 : decode cX5_allows 39 = .ok (.goto 4, 3) := by decide +kernel
theorem dX5_allows_42 : decode cX5_allows 42 = .ok (.iconst 0, 1) := by decide +kernel
theorem dX5_allows_43 : decode cX5_allows 43 = .ok (.ireturn, 1) := by decide +kernel
def f_X5_allows (x1 : Int32) (x2 : Int32) : Int32 := if x1 < 0 then ((0 : Int32)) else (if 5 ≤ x1 then ((0 : Int32)) else (if x2 < (leastS (x1).toNatClampNeg) then ((0 : Int32)) else (if (greatS (x1).toNatClampNeg) < x2 then ((0 : Int32)) else ((1 : Int32)))))
set_option maxHeartbeats 4000000 in
set_option maxRecDepth 100000 in
theorem c_X5_allows (l : Launch) (D : va_G) (cI : ClassId) (x1 : Int32) (x2 : Int32) (r : Int32) (hf : f_X5_allows x1 x2 = r) : Met l yX5_allows (.code yX5_allows cX5_allows 2 (some .boolean) :: wsG) ({ frames := 0, cells := 0, slots := 0, locals := 0 }) (va_Pc [.int x1, .int x2] (gw D cI [])) (vp_Si (fun x => x = r)) 0 0 (fun _ => False) := by
  refine k_ro (by decide) rfl (Nat.le_of_ble_eq_true rfl) rfl ?_
  intro p e s m below meth c ls S hret hloc hK hN hSF hP hl
  obtain ⟨hx, hb, hml, hown, hts⟩ := id S
  obtain ⟨t0, t1, t2, hZLEAST_SETTING, hTLEAST_SETTING, hZGREATEST_SETTING, hTGREATEST_SETTING, hZSETTING_AT_FIRST, hTSETTING_AT_FIRST⟩ := id hSF
  unfold f_X5_allows at hf
  refine lv_iload_n hx hb dX5_allows_0 rfl (lv_at hl 0 rfl) ?_
  refine lv_if_lt (tgt := 42) hx hb dX5_allows_1 (by decide) (fun c_1 => ?_) (fun c_1 => ?_)
  · rw [if_pos c_1] at hf
    refine lv_iconst (v := 0) hx hb dX5_allows_42 (by decide) ?_
    exact k_retz hx hb hret hloc rfl hf dX5_allows_43
  · rw [if_neg c_1] at hf
    refine lv_iload_n hx hb dX5_allows_4 rfl (lv_at hl 0 rfl) ?_
    refine va_getsN hx hb hZLEAST_SETTING va_S.rf hown (va_Nw.use rfl (nf_X5_28 hN)) (fun _ h9 => h9) dX5_allows_5 ?_
    refine va_tlen hx hb hTLEAST_SETTING va_S.rf (v := 5) (by decide) dX5_allows_8 ?_
    refine lv_icmp_ge (tgt := 42) hx hb dX5_allows_9 (by decide) (fun c_2 => ?_) (fun c_2 => ?_)
    · rw [if_pos c_2] at hf
      refine lv_iconst (v := 0) hx hb dX5_allows_42 (by decide) ?_
      exact k_retz hx hb hret hloc rfl hf dX5_allows_43
    · rw [if_neg c_2] at hf
      refine lv_iload_n hx hb dX5_allows_12 rfl (lv_at hl 0 rfl) ?_
      refine va_getsN hx hb hZGREATEST_SETTING va_S.rf hown (va_Nw.use rfl (nf_X5_31 hN)) (fun _ h9 => h9) dX5_allows_13 ?_
      refine va_tlen hx hb hTGREATEST_SETTING va_S.rf (v := 5) (by decide) dX5_allows_16 ?_
      refine lv_icmp_ge (tgt := 42) hx hb dX5_allows_17 (by decide) (fun c_3 => ?_) (fun c_3 => ?_)
      · exact absurd c_3 c_2
      · refine lv_iload_n hx hb dX5_allows_20 rfl (lv_at hl 1 rfl) ?_
        refine va_getsN hx hb hZLEAST_SETTING va_S.rf hown (va_Nw.use rfl (nf_X5_28 hN)) (fun _ h9 => h9) dX5_allows_21 ?_
        refine lv_iload_n hx hb dX5_allows_24 rfl (lv_at hl 0 rfl) ?_
        refine va_ti hx hb hTLEAST_SETTING va_S.rf (rowin (n := 5) (by decide) c_1 c_2) (v := .int (leastS (x1).toNatClampNeg)) rfl dX5_allows_25 ?_
        refine lv_icmp_lt (tgt := 42) hx hb dX5_allows_26 (by decide) (fun c_4 => ?_) (fun c_4 => ?_)
        · rw [if_pos c_4] at hf
          refine lv_iconst (v := 0) hx hb dX5_allows_42 (by decide) ?_
          exact k_retz hx hb hret hloc rfl hf dX5_allows_43
        · rw [if_neg c_4] at hf
          refine lv_iload_n hx hb dX5_allows_29 rfl (lv_at hl 1 rfl) ?_
          refine va_getsN hx hb hZGREATEST_SETTING va_S.rf hown (va_Nw.use rfl (nf_X5_31 hN)) (fun _ h9 => h9) dX5_allows_30 ?_
          refine lv_iload_n hx hb dX5_allows_33 rfl (lv_at hl 0 rfl) ?_
          refine va_ti hx hb hTGREATEST_SETTING va_S.rf (rowin (n := 5) (by decide) c_1 c_2) (v := .int (greatS (x1).toNatClampNeg)) rfl dX5_allows_34 ?_
          refine lv_icmp_gt (tgt := 42) hx hb dX5_allows_35 (by decide) (fun c_5 => ?_) (fun c_5 => ?_)
          · rw [if_pos c_5] at hf
            refine lv_iconst (v := 0) hx hb dX5_allows_42 (by decide) ?_
            exact k_retz hx hb hret hloc rfl hf dX5_allows_43
          · rw [if_neg c_5] at hf
            refine lv_iconst (v := 1) hx hb dX5_allows_38 (by decide) ?_
            refine lv_goto (tgt := 43) hx hb dX5_allows_39 (by decide) ?_
            exact k_retz hx hb hret hloc rfl hf dX5_allows_43
theorem dX5_get_0 : decode cX5_get 0 = .ok (.aload_n 0, 1) := by decide +kernel
theorem dX5_get_1 : decode cX5_get 1 = .ok (.getfield 18, 3) := by decide +kernel
theorem dX5_get_4 : decode cX5_get 4 = .ok (.iload_n 1, 1) := by decide +kernel
theorem dX5_get_5 : decode cX5_get 5 = .ok (.invokevirtual 34, 3) := by decide +kernel
theorem dX5_get_8 : decode cX5_get 8 = .ok (.ireturn, 1) := by decide +kernel
theorem gs_X5_34 : GoodIn wsG (wsV RX5 34 RX4 yX4_get (.code yX4_get cX4_get 2 (some .int) :: wsG)) := good_V ml_X5_34 im_X4_get se_X4_get ini_X4 co_X4_get
def f_X5_get (sv : (Nat → Int32)) (x1 : Int32) : Int32 := (f_X4_get 5 sv x1)
set_option maxHeartbeats 4000000 in
set_option maxRecDepth 100000 in
theorem c_X5_get (l : Launch) (D : va_G) (cI : ClassId) (q : Nat) (qr : Nat) (qa : Nat) (sv : (Nat → Int32)) (x1 : Int32) (r : Int32) (hf : f_X5_get sv x1 = r) : Met l yX5_get (.code yX5_get cX5_get 2 (some .int) :: wsG) ({ frames := 1, cells := 0, slots := 0, locals := 21 }) (va_Pc [.ref q, .int x1] (gw D cI [(q, .inr (5, [.ref qr])), (qr, .inr (4, [.ref qa])), (qa, .inl (cI, 5, .inl sv))])) (vp_Si (fun x => x = r)) 0 0 (fun _ => False) := by
  refine k_ro (by decide) rfl (Nat.le_of_ble_eq_true rfl) rfl ?_
  intro p e s m below meth c ls S hret hloc hK hN hSF hP hl
  obtain ⟨hx, hb, hml, hown, hts⟩ := id S
  unfold f_X5_get at hf
  refine lv_aload_n hx hb dX5_get_0 rfl (lv_at hl 0 rfl) ?_
  refine va_get (D := D) (ci := 5) (v := .ref qr) (C := RX5) (T := TX5) (N := 1) hx hb hts inGX5 hown hK hP 0 rfl rfl 0 (by decide) (hts _ fl_X5_18) (fun _ h9 => h9) rfl dX5_get_1 ?_
  refine lv_iload_n hx hb dX5_get_4 rfl (lv_at hl 1 rfl) ?_
  refine k_roVi (As := [.int x1]) (rest := []) S (c_X4_get l D cI (q := qr) (qa := qa) (n := 5) (f := sv) (x1 := x1) (hn := by decide) (r := (f_X4_get 5 sv x1)) (hf := rfl)) gs_X5_34 ok_X4_get ⟨rfl, rfl⟩ ⟨Nat.le_of_ble_eq_true rfl, Nat.le_of_ble_eq_true rfl⟩ hK hN hSF (hP.sub [1, 2] rfl) rfl rfl rfl hl.1 rfl (Nat.le_of_ble_eq_true rfl) ⟨Nat.zero_le _, Nat.zero_le _⟩ dX5_get_5 ?_
  exact k_reti hx hb hret hloc hf dX5_get_8
theorem dX5_tell_0 : decode cX5_tell 0 = .ok (.aload_n 0, 1) := by decide +kernel
theorem dX5_tell_1 : decode cX5_tell 1 = .ok (.getfield 18, 3) := by decide +kernel
theorem dX5_tell_4 : decode cX5_tell 4 = .ok (.iload_n 1, 1) := by decide +kernel
theorem dX5_tell_5 : decode cX5_tell 5 = .ok (.iload_n 2, 1) := by decide +kernel
theorem dX5_tell_6 : decode cX5_tell 6 = .ok (.invokevirtual 24, 3) := by decide +kernel
theorem dX5_tell_9 : decode cX5_tell 9 = .ok (.return_, 1) := by decide +kernel
theorem gs_X5_24 : GoodIn wsG (wsV RX5 24 RX4 yX4_put (.code yX4_put cX4_put 3 none :: wsG)) := good_V ml_X5_24 im_X4_put se_X4_put ini_X4 co_X4_put
def f_X5_tell (sv : (Nat → Int32)) (x1 : Int32) (x2 : Int32) : (Nat → Int32) := (f_X4_put 5 sv x1 x2)
set_option maxHeartbeats 4000000 in
set_option maxRecDepth 100000 in
theorem c_X5_tell (l : Launch) (D : va_G) (cI : ClassId) {sz : Nat} (q : Nat) (qr : Nat) (qa : Nat) (sv : (Nat → Int32)) (x1 : Int32) (x2 : Int32) (o_sv : (Nat → Int32)) (hf : f_X5_tell sv x1 x2 = o_sv) : Met l yX5_tell (.code yX5_tell cX5_tell 3 none :: wsG) ({ frames := 1, cells := 0, slots := 0, locals := 22 }) (va_Pc [.ref q, .int x1, .int x2] (gv D cI sz [(q, .inr (5, [.ref qr])), (qr, .inr (4, [.ref qa])), (qa, .inl (cI, 5, .inl sv))])) (va_Qv (fun (_ : Unit) => True) (gz D (va_A [(q, .inr (5, [.ref qr])), (qr, .inr (4, [.ref qa])), (qa, .inl (cI, 5, .inl sv))] sz) [(q, .inr (5, [.ref qr])), (qr, .inr (4, [.ref qa])), (qa, .inl (cI, 5, .inl o_sv))]) (va_A [(q, .inr (5, [.ref qr])), (qr, .inr (4, [.ref qa])), (qa, .inl (cI, 5, .inl sv))] sz)) 0 0 (va_A [(q, .inr (5, [.ref qr])), (qr, .inr (4, [.ref qa])), (qa, .inl (cI, 5, .inl sv))] sz) := by
  refine k_rw (y := yX5_tell) (cc := cX5_tell) (maxL := 3) (ret := none) (As := [.ref q, .int x1, .int x2]) (Qc := fun A => va_Qv (fun (_ : Unit) => True) (gz D A [(q, .inr (5, [.ref qr])), (qr, .inr (4, [.ref qa])), (qa, .inl (cI, 5, .inl o_sv))]) A) (by decide) rfl (Nat.le_of_ble_eq_true rfl) rfl ?_
  intro p e s m below meth c ls A S hret hloc hK hN hSF hP hD hS hA hl
  obtain ⟨hx, hb, hml, hown, hts⟩ := id S
  unfold f_X5_tell at hf
  refine lv_aload_n hx hb dX5_tell_0 rfl (lv_at hl 0 rfl) ?_
  refine va_get (D := D) (ci := 5) (v := .ref qr) (C := RX5) (T := TX5) (N := 1) hx hb hts inGX5 hown hK hP 0 rfl rfl 0 (by decide) (hts _ fl_X5_18) (fun _ h9 => h9) rfl dX5_tell_1 ?_
  refine lv_iload_n hx hb dX5_tell_4 rfl (lv_at hl 1 rfl) ?_
  refine lv_iload_n hx hb dX5_tell_5 rfl (lv_at hl 2 rfl) ?_
  refine k_rwVv (As := [.int x1, .int x2]) (rest := []) (Wr := [(q, .inr (5, [.ref qr]))]) (W2 := [(q, .inr (5, [.ref qr])), (qr, .inr (4, [.ref qa])), (qa, .inl (cI, 5, .inl (f_X4_put 5 sv x1 x2)))]) S (c_X4_put l D cI (q := qr) (qa := qa) (n := 5) (f := sv) (x1 := x1) (x2 := x2) (hn := by decide) (o_f := (f_X4_put 5 sv x1 x2)) (hf := rfl)) gs_X5_24 ok_X4_put ⟨rfl, rfl⟩ ⟨Nat.le_of_ble_eq_true rfl, Nat.le_of_ble_eq_true rfl⟩ hK hN hSF hP hD hS hA [1, 2] [0] [0, 1, 2] (by decide) rfl rfl (by decide) (by decide) rfl (by decide) rfl rfl rfl hl.1 rfl (Nat.le_of_ble_eq_true rfl) ⟨Nat.zero_le _, Nat.zero_le _⟩ dX5_tell_6 (fun H locs hP hD hS => ?_)
  subst hf
  exact k_wretv hx hb hret hloc hP hD hS dX5_tell_9
theorem dX5_copyFrom_0 : decode cX5_copyFrom 0 = .ok (.aload_n 0, 1) := by decide +kernel
theorem dX5_copyFrom_1 : decode cX5_copyFrom 1 = .ok (.getfield 18, 3) := by decide +kernel
theorem dX5_copyFrom_4 : decode cX5_copyFrom 4 = .ok (.aload_n 1, 1) := by decide +kernel
theorem dX5_copyFrom_5 : decode cX5_copyFrom 5 = .ok (.getfield 18, 3) := by decide +kernel
theorem dX5_copyFrom_8 : decode cX5_copyFrom 8 = .ok (.getstatic 11, 3) := by decide +kernel
theorem dX5_copyFrom_11 : decode cX5_copyFrom 11 = .ok (.arraylength, 1) := by decide +kernel
theorem dX5_copyFrom_12 : decode cX5_copyFrom 12 = .ok (.invokevirtual 38, 3) := by decide +kernel
theorem dX5_copyFrom_15 : decode cX5_copyFrom 15 = .ok (.return_, 1) := by decide +kernel
theorem ok_X4_copyFrom : okV yX4_copyFrom RX4 2 := by decide +kernel
theorem gs_X5_38 : GoodIn wsG (wsV RX5 38 RX4 yX4_copyFrom (.code yX4_copyFrom cX4_copyFrom 4 none :: wsG)) := good_V ml_X5_38 im_X4_copyFrom se_X4_copyFrom ini_X4 co_X4_copyFrom
def f_X5_copyFrom (sv : (Nat → Int32)) (w_sv : (Nat → Int32)) : Option ((Nat → Int32)) := bi1 (f_X4_copyFrom 5 5 sv w_sv 5) (fun (sv_1 : (Nat → Int32)) => some sv_1)
set_option maxHeartbeats 4000000 in
set_option maxRecDepth 100000 in
theorem c_X5_copyFrom (l : Launch) (D : va_G) (cI : ClassId) {sz : Nat} (q : Nat) (g : Nat) (qr : Nat) (qa : Nat) (gr : Nat) (ga : Nat) (sv : (Nat → Int32)) (w_sv : (Nat → Int32)) (o_sv : (Nat → Int32)) (hf : f_X5_copyFrom sv w_sv = some o_sv) : Met l yX5_copyFrom (.code yX5_copyFrom cX5_copyFrom 2 none :: wsG) ({ frames := 2, cells := 0, slots := 0, locals := 45 }) (va_Pc [.ref q, .ref g] (gv D cI sz [(q, .inr (5, [.ref qr])), (qr, .inr (4, [.ref qa])), (qa, .inl (cI, 5, .inl sv)), (g, .inr (5, [.ref gr])), (gr, .inr (4, [.ref ga])), (ga, .inl (cI, 5, .inl w_sv))])) (va_Qv (fun (_ : Unit) => True) (gz D (va_A [(q, .inr (5, [.ref qr])), (qr, .inr (4, [.ref qa])), (qa, .inl (cI, 5, .inl sv)), (g, .inr (5, [.ref gr])), (gr, .inr (4, [.ref ga])), (ga, .inl (cI, 5, .inl w_sv))] sz) [(q, .inr (5, [.ref qr])), (qr, .inr (4, [.ref qa])), (qa, .inl (cI, 5, .inl o_sv)), (g, .inr (5, [.ref gr])), (gr, .inr (4, [.ref ga])), (ga, .inl (cI, 5, .inl w_sv))]) (va_A [(q, .inr (5, [.ref qr])), (qr, .inr (4, [.ref qa])), (qa, .inl (cI, 5, .inl sv)), (g, .inr (5, [.ref gr])), (gr, .inr (4, [.ref ga])), (ga, .inl (cI, 5, .inl w_sv))] sz)) 0 0 (va_A [(q, .inr (5, [.ref qr])), (qr, .inr (4, [.ref qa])), (qa, .inl (cI, 5, .inl sv)), (g, .inr (5, [.ref gr])), (gr, .inr (4, [.ref ga])), (ga, .inl (cI, 5, .inl w_sv))] sz) := by
  refine k_rw (y := yX5_copyFrom) (cc := cX5_copyFrom) (maxL := 2) (ret := none) (As := [.ref q, .ref g]) (Qc := fun A => va_Qv (fun (_ : Unit) => True) (gz D A [(q, .inr (5, [.ref qr])), (qr, .inr (4, [.ref qa])), (qa, .inl (cI, 5, .inl o_sv)), (g, .inr (5, [.ref gr])), (gr, .inr (4, [.ref ga])), (ga, .inl (cI, 5, .inl w_sv))]) A) (by decide) rfl (Nat.le_of_ble_eq_true rfl) rfl ?_
  intro p e s m below meth c ls A S hret hloc hK hN hSF hP hD hS hA hl
  obtain ⟨hx, hb, hml, hown, hts⟩ := id S
  obtain ⟨t0, t1, t2, hZLEAST_SETTING, hTLEAST_SETTING, hZGREATEST_SETTING, hTGREATEST_SETTING, hZSETTING_AT_FIRST, hTSETTING_AT_FIRST⟩ := id hSF
  unfold f_X5_copyFrom at hf
  refine lv_aload_n hx hb dX5_copyFrom_0 rfl (lv_at hl 0 rfl) ?_
  refine va_get (D := D) (ci := 5) (v := .ref qr) (C := RX5) (T := TX5) (N := 1) hx hb hts inGX5 hown hK hP 0 rfl rfl 0 (by decide) (hts _ fl_X5_18) (fun _ h9 => h9) rfl dX5_copyFrom_1 ?_
  refine lv_aload_n hx hb dX5_copyFrom_4 rfl (lv_at hl 1 rfl) ?_
  refine va_get (D := D) (ci := 5) (v := .ref gr) (C := RX5) (T := TX5) (N := 1) hx hb hts inGX5 hown hK hP 3 rfl rfl 0 (by decide) (hts _ fl_X5_18) (fun _ h9 => h9) rfl dX5_copyFrom_5 ?_
  refine va_getsN hx hb hZSETTING_AT_FIRST hS hown (va_Nw.use rfl (nf_X5_11 hN)) (fun _ h9 => h9) dX5_copyFrom_8 ?_
  refine va_tlen hx hb hTSETTING_AT_FIRST hS (v := 5) (by decide) dX5_copyFrom_11 ?_
  obtain ⟨sv_1, hc_2, hf⟩ := bd1 hf
  refine k_rwVv (As := [.ref gr, .int 5]) (rest := []) (Wr := [(q, .inr (5, [.ref qr])), (g, .inr (5, [.ref gr]))]) (W2 := [(q, .inr (5, [.ref qr])), (qr, .inr (4, [.ref qa])), (qa, .inl (cI, 5, .inl sv_1)), (g, .inr (5, [.ref gr])), (gr, .inr (4, [.ref ga])), (ga, .inl (cI, 5, .inl w_sv))]) S (c_X4_copyFrom l D cI (q := qr) (g := gr) (qa := qa) (ga := ga) (n := 5) (n2 := 5) (f := sv) (f2 := w_sv) (x2 := 5) (hn := by decide) (hn2 := by decide) (o_f := sv_1) (hf := hc_2)) gs_X5_38 ok_X4_copyFrom ⟨rfl, rfl⟩ ⟨Nat.le_of_ble_eq_true rfl, Nat.le_of_ble_eq_true rfl⟩ hK hN hSF hP hD hS hA [1, 2, 4, 5] [0, 3] [0, 2, 3, 1, 4, 5] (by decide) rfl rfl (by decide) (by decide) rfl (by decide) rfl rfl rfl hl.1 rfl (Nat.le_of_ble_eq_true rfl) ⟨Nat.zero_le _, Nat.zero_le _⟩ dX5_copyFrom_12 (fun H locs hP hD hS => ?_)
  have e_0 := Option.some.inj hf
  subst e_0
  exact k_wretv hx hb hret hloc hP hD hS dX5_copyFrom_15
theorem dX5_turned_0 : decode cX5_turned 0 = .ok (.aload_n 0, 1) := by decide +kernel
theorem dX5_turned_1 : decode cX5_turned 1 = .ok (.iconst 4, 1) := by decide +kernel
theorem dX5_turned_2 : decode cX5_turned 2 = .ok (.invokevirtual 42, 3) := by decide +kernel
theorem dX5_turned_5 : decode cX5_turned 5 = .ok (.ifCond .ne 5, 3) := by decide +kernel
theorem dX5_turned_8 : decode cX5_turned 8 = .ok (.iload_n 1, 1) := by decide +kernel
theorem dX5_turned_9 : decode cX5_turned 9 = .ok (.ireturn, 1) := by decide +kernel
theorem dX5_turned_10 : decode cX5_turned 10 = .ok (.iconst 0, 1) := by decide +kernel
theorem dX5_turned_11 : decode cX5_turned 11 = .ok (.istore_n 2, 1) := by decide +kernel
theorem dX5_turned_12 : decode cX5_turned 12 = .ok (.iconst 0, 1) := by decide +kernel
theorem dX5_turned_13 : decode cX5_turned 13 = .ok (.istore_n 3, 1) := by decide +kernel
theorem dX5_turned_14 : decode cX5_turned 14 = .ok (.iload_n 3, 1) := by decide +kernel
theorem dX5_turned_15 : decode cX5_turned 15 = .ok (.bipush 8, 2) := by decide +kernel
theorem dX5_turned_17 : decode cX5_turned 17 = .ok (.if_icmp .ge 19, 3) := by decide +kernel
theorem dX5_turned_20 : decode cX5_turned 20 = .ok (.iconst 2, 1) := by decide +kernel
theorem dX5_turned_21 : decode cX5_turned 21 = .ok (.iload_n 2, 1) := by decide +kernel
theorem dX5_turned_22 : decode cX5_turned 22 = .ok (.imul, 1) := by decide +kernel
theorem dX5_turned_23 : decode cX5_turned 23 = .ok (.iload_n 1, 1) := by decide +kernel
theorem dX5_turned_24 : decode cX5_turned 24 = .ok (.iload_n 3, 1) := by decide +kernel
theorem dX5_turned_25 : decode cX5_turned 25 = .ok (.ishr, 1) := by decide +kernel
theorem dX5_turned_26 : decode cX5_turned 26 = .ok (.iconst 1, 1) := by decide +kernel
theorem dX5_turned_27 : decode cX5_turned 27 = .ok (.iand, 1) := by decide +kernel
theorem dX5_turned_28 : decode cX5_turned 28 = .ok (.iadd, 1) := by decide +kernel
theorem dX5_turned_29 : decode cX5_turned 29 = .ok (.istore_n 2, 1) := by decide +kernel
theorem dX5_turned_30 : decode cX5_turned 30 = .ok (.iinc 3 1, 3) := by decide +kernel
theorem dX5_turned_33 : decode cX5_turned 33 = .ok (.goto (-19), 3) := by decide +kernel
theorem dX5_turned_36 : decode cX5_turned 36 = .ok (.iload_n 2, 1) := by decide +kernel
theorem dX5_turned_37 : decode cX5_turned 37 = .ok (.ireturn, 1) := by decide +kernel
theorem ok_X5_get : okV yX5_get RX5 1 := by decide +kernel
theorem gs_X5_42 : GoodIn wsG (wsV RX5 42 RX5 yX5_get (.code yX5_get cX5_get 2 (some .int) :: wsG)) := good_V ml_X5_42 im_X5_get se_X5_get ini_X5 co_X5_get
def st_X5_turned_L14 (v1 : Int32) (v2 : Int32) (v3 : Int32) : Option ((Int32 × Int32) ⊕ (Int32 × Int32)) := if 8 ≤ v3 then (some (Sum.inr (v2, v3))) else (some (Sum.inl ((2 * v2) + ((v1 >>> (v3 &&& 31)) &&& 1), v3 + 1)))
def f_X5_turned_L14 (v1 : Int32) (k : Nat) (v2 : Int32) (v3 : Int32) : Option (Int32 × Int32) := lpN (fun z => st_X5_turned_L14 v1 z.1 z.2) k (v2, v3)
set_option maxHeartbeats 4000000 in
set_option maxRecDepth 100000 in
theorem L_X5_turned_14 {p : Program} {l : Launch} {e : Env} {s : State} {m : MethodId} {args : Array Value} {below : List Frame} {meth : Method} {c : Code} {Q : State → Prop} {D : va_G} {cI : ClassId} {q : Nat} {qr : Nat} {qa : Nat} {v1 : Int32} {sv : (Nat → Int32)} (S : CallFix p m c cX5_turned 4 s args wsG RX5) (hK : va_K D vwCl [(cI, .int)] s) (hN : nw s) (hSF : sf (fun _ => False) s s.heap) : ∀ (k : Nat) (v2 : Int32) (v3 : Int32) (o_v2 : Int32) (o_v3 : Int32), f_X5_turned_L14 v1 k v2 v3 = some (o_v2, o_v3) → ∀ (ls : Array Slot), va_P D vwCl [(q, .inr (5, [.ref qr])), (qr, .inr (4, [.ref qa])), (qa, .inl (cI, 5, .inl sv))] s.heap → lv_has ls 4 [(1, .int v1), (2, .int v2), (3, .int v3)] → (∀ (ls : Array Slot), lv_has ls 4 [(1, .int v1), (2, .int o_v2), (3, .int o_v3)] → W p l e (headSpec (.code yX5_turned cX5_turned 4 (some .int) :: wsG) { frames := 2, cells := 0, slots := 0, locals := 42 }).room s m args below meth c s.heap [] 0 0 Q (F0 m 36 ls [])) → W p l e (headSpec (.code yX5_turned cX5_turned 4 (some .int) :: wsG) { frames := 2, cells := 0, slots := 0, locals := 42 }).room s m args below meth c s.heap [] 0 0 Q (F0 m 14 ls []) := by
  obtain ⟨hx, hb, hml, hown, hts⟩ := id S
  intro k
  induction k with
  | zero =>
    intro v2 v3 o_v2 o_v3 hf
    cases hf
  | succ k ih =>
    intro v2 v3 o_v2 o_v3 hf ls hP hl kk
    obtain ⟨z, hf, hz⟩ := lp_inv hf
    have hf : st_X5_turned_L14 v1 v2 v3 = some z := hf
    unfold st_X5_turned_L14 at hf
    refine lv_iload_n hx hb dX5_turned_14 rfl (lv_at hl 2 rfl) ?_
    refine lv_bipush (v := 8) hx hb dX5_turned_15 (by decide) ?_
    refine lv_icmp_ge (tgt := 36) hx hb dX5_turned_17 (by decide) (fun c_2 => ?_) (fun c_2 => ?_)
    · rw [if_pos c_2] at hf
      have hf := Option.some.inj hf
      subst hf
      obtain ⟨e_0, e_1⟩ := Prod.mk.inj (lpC_r hz)
      subst e_0
      subst e_1
      exact kk ls (lv_sub hl [0, 1, 2] rfl)
    · rw [if_neg c_2] at hf
      refine lv_iconst (v := 2) hx hb dX5_turned_20 (by decide) ?_
      refine lv_iload_n hx hb dX5_turned_21 rfl (lv_at hl 1 rfl) ?_
      refine lv_imul hx hb dX5_turned_22 ?_
      refine lv_iload_n hx hb dX5_turned_23 rfl (lv_at hl 0 rfl) ?_
      refine lv_iload_n hx hb dX5_turned_24 rfl (lv_at hl 2 rfl) ?_
      refine lv_ishr hx hb dX5_turned_25 ?_
      refine lv_iconst (v := 1) hx hb dX5_turned_26 (by decide) ?_
      refine lv_iand hx hb dX5_turned_27 ?_
      refine lv_iadd hx hb dX5_turned_28 ?_
      refine lv_istore_n (lv' := [(2, .int ((2 * v2) + ((v1 >>> (v3 &&& 31)) &&& 1))), (1, .int v1), (3, .int v3)]) hx hb dX5_turned_29 rfl hl (by decide) rfl (fun ls hl => ?_)
      refine lv_iinc (v := v3 + 1) (lv' := [(3, .int (v3 + 1)), (2, .int ((2 * v2) + ((v1 >>> (v3 &&& 31)) &&& 1))), (1, .int v1)]) hx hb dX5_turned_30 hl (k := 2) rfl rfl (by decide) rfl (fun ls hl => ?_)
      refine lv_goto (tgt := 14) hx hb dX5_turned_33 (by decide) ?_
      have hf := Option.some.inj hf
      subst hf
      exact ih ((2 * v2) + ((v1 >>> (v3 &&& 31)) &&& 1)) (v3 + 1) _ _ hz ls hP (lv_sub hl [2, 1, 0] rfl) kk
def f_X5_turned (sv : (Nat → Int32)) (x1 : Int32) : Option (Int32) := if (f_X5_get sv 4) = 0 then (some x1) else (bi2 (f_X5_turned_L14 x1 4096 0 0) (fun (v2_3 : Int32) (v3_4 : Int32) => some v2_3))
set_option maxHeartbeats 4000000 in
set_option maxRecDepth 100000 in
theorem c_X5_turned (l : Launch) (D : va_G) (cI : ClassId) (q : Nat) (qr : Nat) (qa : Nat) (sv : (Nat → Int32)) (x1 : Int32) (r : Int32) (hf : f_X5_turned sv x1 = some r) : Met l yX5_turned (.code yX5_turned cX5_turned 4 (some .int) :: wsG) ({ frames := 2, cells := 0, slots := 0, locals := 42 }) (va_Pc [.ref q, .int x1] (gw D cI [(q, .inr (5, [.ref qr])), (qr, .inr (4, [.ref qa])), (qa, .inl (cI, 5, .inl sv))])) (vp_Si (fun x => x = r)) 0 0 (fun _ => False) := by
  refine k_ro (by decide) rfl (Nat.le_of_ble_eq_true rfl) rfl ?_
  intro p e s m below meth c ls S hret hloc hK hN hSF hP hl
  obtain ⟨hx, hb, hml, hown, hts⟩ := id S
  unfold f_X5_turned at hf
  refine lv_aload_n hx hb dX5_turned_0 rfl (lv_at hl 0 rfl) ?_
  refine lv_iconst (v := 4) hx hb dX5_turned_1 (by decide) ?_
  refine k_roVi (As := [.int 4]) (rest := []) S (c_X5_get l D cI (q := q) (qr := qr) (qa := qa) (sv := sv) (x1 := 4)  (r := (f_X5_get sv 4)) (hf := rfl)) gs_X5_42 ok_X5_get ⟨rfl, rfl⟩ ⟨Nat.le_of_ble_eq_true rfl, Nat.le_of_ble_eq_true rfl⟩ hK hN hSF hP rfl rfl rfl hl.1 rfl (Nat.le_of_ble_eq_true rfl) ⟨Nat.zero_le _, Nat.zero_le _⟩ dX5_turned_2 ?_
  refine lv_if_ne (tgt := 10) hx hb dX5_turned_5 (by decide) (fun c_1 => ?_) (fun c_1 => ?_)
  · rw [if_neg c_1] at hf
    refine lv_iconst (v := 0) hx hb dX5_turned_10 (by decide) ?_
    refine lv_istore_n (lv' := [(2, .int 0), (0, .ref q), (1, .int x1)]) hx hb dX5_turned_11 rfl hl (by decide) rfl (fun ls hl => ?_)
    refine lv_iconst (v := 0) hx hb dX5_turned_12 (by decide) ?_
    refine lv_istore_n (lv' := [(3, .int 0), (2, .int 0), (0, .ref q), (1, .int x1)]) hx hb dX5_turned_13 rfl hl (by decide) rfl (fun ls hl => ?_)
    obtain ⟨v2_3, v3_4, hc_5, hf⟩ := bd2 hf
    refine L_X5_turned_14 S hK hN hSF _ 0 0 v2_3 v3_4 hc_5 _ hP (lv_sub hl [3, 1, 0] rfl) (fun ls hl => ?_)
    refine lv_iload_n hx hb dX5_turned_36 rfl (lv_at hl 1 rfl) ?_
    exact k_reti hx hb hret hloc (Option.some.inj hf) dX5_turned_37
  · rw [if_pos c_1] at hf
    refine lv_iload_n hx hb dX5_turned_8 rfl (lv_at hl 1 rfl) ?_
    exact k_reti hx hb hret hloc (Option.some.inj hf) dX5_turned_9
theorem dX6_open_0 : decode cX6_open 0 = .ok (.aload_n 0, 1) := by decide +kernel
theorem dX6_open_1 : decode cX6_open 1 = .ok (.lconst 0, 1) := by decide +kernel
theorem dX6_open_2 : decode cX6_open 2 = .ok (.putfield 9, 3) := by decide +kernel
theorem dX6_open_5 : decode cX6_open 5 = .ok (.aload_n 0, 1) := by decide +kernel
theorem dX6_open_6 : decode cX6_open 6 = .ok (.ldc2_w 15, 3) := by decide +kernel
theorem dX6_open_9 : decode cX6_open 9 = .ok (.putfield 17, 3) := by decide +kernel
theorem dX6_open_12 : decode cX6_open 12 = .ok (.return_, 1) := by decide +kernel
def f_X6_open  : Option (Int64 × Int64) := some ((0 : Int64), (4294967295 : Int64))
set_option maxHeartbeats 4000000 in
set_option maxRecDepth 100000 in
theorem c_X6_open (l : Launch) (D : va_G) (cI : ClassId) {sz : Nat} (q : Nat) (lo : Int64) (hi : Int64) (o_lo : Int64) (o_hi : Int64) (hf : f_X6_open = some (o_lo, o_hi)) : Met l yX6_open (.code yX6_open cX6_open 1 none :: wsG) ({ frames := 0, cells := 0, slots := 0, locals := 0 }) (va_Pc [.ref q] (gv D cI sz [(q, .inr (6, [.long lo, .long hi]))])) (va_Qv (fun (_ : Unit) => True) (gz D (va_A [(q, .inr (6, [.long lo, .long hi]))] sz) [(q, .inr (6, [.long o_lo, .long o_hi]))]) (va_A [(q, .inr (6, [.long lo, .long hi]))] sz)) 0 0 (va_A [(q, .inr (6, [.long lo, .long hi]))] sz) := by
  refine k_rw (y := yX6_open) (cc := cX6_open) (maxL := 1) (ret := none) (As := [.ref q]) (Qc := fun A => va_Qv (fun (_ : Unit) => True) (gz D A [(q, .inr (6, [.long o_lo, .long o_hi]))]) A) (by decide) rfl (Nat.le_of_ble_eq_true rfl) rfl ?_
  intro p e s m below meth c ls A S hret hloc hK hN hSF hP hD hS hA hl
  obtain ⟨hx, hb, hml, hown, hts⟩ := id S
  unfold f_X6_open at hf
  refine lv_aload_n hx hb dX6_open_0 rfl (lv_at hl 0 rfl) ?_
  refine lv_lconst (v := 0) hx hb dX6_open_1 (by decide) ?_
  refine va_put (D := D) (ci := 6) (v := .long (0 : Int64)) (ty := .long) (C := RX6) (T := TX6) (N := 2) hx hb hts inGX6 tyX6 tyX6_ok nmX6 hown hK hP hD hS 0 rfl rfl 0 (by decide) (hts _ fl_X6_9) (fun _ h9 => h9) rfl (by decide +kernel) rfl rfl (Nat.le_of_ble_eq_true rfl) dX6_open_2 (fun H locs hP hD hS => ?_)
  have hP : va_P D vwCl [(q, .inr (6, [.long (0 : Int64), .long hi]))] H := hP
  have hD : va_D A [(q, .inr (6, [.long (0 : Int64), .long hi]))] := hD
  refine lv_aload_n hx hb dX6_open_5 rfl (lv_at hl 0 rfl) ?_
  refine lv_ldc2 (v := (4294967295 : Int64)) hx hb hown (hts _ ck_X6_15) dX6_open_6 ?_
  refine va_put (D := D) (ci := 6) (v := .long (4294967295 : Int64)) (ty := .long) (C := RX6) (T := TX6) (N := 2) hx hb hts inGX6 tyX6 tyX6_ok nmX6 hown hK hP hD hS 0 rfl rfl 1 (by decide) (hts _ fl_X6_17) (fun _ h9 => h9) rfl (by decide +kernel) rfl rfl (Nat.le_of_ble_eq_true rfl) dX6_open_9 (fun H locs hP hD hS => ?_)
  have hP : va_P D vwCl [(q, .inr (6, [.long (0 : Int64), .long (4294967295 : Int64)]))] H := hP
  have hD : va_D A [(q, .inr (6, [.long (0 : Int64), .long (4294967295 : Int64)]))] := hD
  obtain ⟨e_0, e_1⟩ := Prod.mk.inj (Option.some.inj hf)
  subst e_0
  subst e_1
  exact k_wretv hx hb hret hloc hP hD hS dX6_open_12
theorem dX6_middle_0 : decode cX6_middle 0 = .ok (.aload_n 0, 1) := by decide +kernel
theorem dX6_middle_1 : decode cX6_middle 1 = .ok (.getfield 9, 3) := by decide +kernel
theorem dX6_middle_4 : decode cX6_middle 4 = .ok (.aload_n 0, 1) := by decide +kernel
theorem dX6_middle_5 : decode cX6_middle 5 = .ok (.getfield 17, 3) := by decide +kernel
theorem dX6_middle_8 : decode cX6_middle 8 = .ok (.aload_n 0, 1) := by decide +kernel
theorem dX6_middle_9 : decode cX6_middle 9 = .ok (.getfield 9, 3) := by decide +kernel
theorem dX6_middle_12 : decode cX6_middle 12 = .ok (.lsub, 1) := by decide +kernel
theorem dX6_middle_13 : decode cX6_middle 13 = .ok (.ldc2_w 20, 3) := by decide +kernel
theorem dX6_middle_16 : decode cX6_middle 16 = .ok (.ldiv, 1) := by decide +kernel
theorem dX6_middle_17 : decode cX6_middle 17 = .ok (.iload_n 1, 1) := by decide +kernel
theorem dX6_middle_18 : decode cX6_middle 18 = .ok (.i2l, 1) := by decide +kernel
theorem dX6_middle_19 : decode cX6_middle 19 = .ok (.lmul, 1) := by decide +kernel
theorem dX6_middle_20 : decode cX6_middle 20 = .ok (.ladd, 1) := by decide +kernel
theorem dX6_middle_21 : decode cX6_middle 21 = .ok (.lreturn, 1) := by decide +kernel
def f_X6_middle (lo : Int64) (hi : Int64) (x1 : Int32) : Int64 := lo + (((hi - lo) / (4096 : Int64)) * ((x1).toInt64))
set_option maxHeartbeats 4000000 in
set_option maxRecDepth 100000 in
theorem c_X6_middle (l : Launch) (D : va_G) (cI : ClassId) (q : Nat) (lo : Int64) (hi : Int64) (x1 : Int32) (r : Int64) (hf : f_X6_middle lo hi x1 = r) : Met l yX6_middle (.code yX6_middle cX6_middle 2 (some .long) :: wsG) ({ frames := 0, cells := 0, slots := 0, locals := 0 }) (va_Pc [.ref q, .int x1] (gw D cI [(q, .inr (6, [.long lo, .long hi]))])) (vp_Sl (fun x => x = r)) 0 0 (fun _ => False) := by
  refine k_ro (by decide) rfl (Nat.le_of_ble_eq_true rfl) rfl ?_
  intro p e s m below meth c ls S hret hloc hK hN hSF hP hl
  obtain ⟨hx, hb, hml, hown, hts⟩ := id S
  unfold f_X6_middle at hf
  refine lv_aload_n hx hb dX6_middle_0 rfl (lv_at hl 0 rfl) ?_
  refine va_get (D := D) (ci := 6) (v := .long lo) (C := RX6) (T := TX6) (N := 2) hx hb hts inGX6 hown hK hP 0 rfl rfl 0 (by decide) (hts _ fl_X6_9) (fun _ h9 => h9) rfl dX6_middle_1 ?_
  refine lv_aload_n hx hb dX6_middle_4 rfl (lv_at hl 0 rfl) ?_
  refine va_get (D := D) (ci := 6) (v := .long hi) (C := RX6) (T := TX6) (N := 2) hx hb hts inGX6 hown hK hP 0 rfl rfl 1 (by decide) (hts _ fl_X6_17) (fun _ h9 => h9) rfl dX6_middle_5 ?_
  refine lv_aload_n hx hb dX6_middle_8 rfl (lv_at hl 0 rfl) ?_
  refine va_get (D := D) (ci := 6) (v := .long lo) (C := RX6) (T := TX6) (N := 2) hx hb hts inGX6 hown hK hP 0 rfl rfl 0 (by decide) (hts _ fl_X6_9) (fun _ h9 => h9) rfl dX6_middle_9 ?_
  refine lv_lsub hx hb dX6_middle_12 ?_
  refine lv_ldc2 (v := (4096 : Int64)) hx hb hown (hts _ ck_X6_20) dX6_middle_13 ?_
  refine lv_ldiv hx hb dX6_middle_16 (by decide) ?_
  refine lv_iload_n hx hb dX6_middle_17 rfl (lv_at hl 1 rfl) ?_
  refine lv_i2l hx hb dX6_middle_18 rfl ?_
  refine lv_lmul hx hb dX6_middle_19 ?_
  refine lv_ladd hx hb dX6_middle_20 ?_
  exact k_retl hx hb hret hloc hf dX6_middle_21
theorem dX6_narrow_0 : decode cX6_narrow 0 = .ok (.iload_n 1, 1) := by decide +kernel
theorem dX6_narrow_1 : decode cX6_narrow 1 = .ok (.iconst 1, 1) := by decide +kernel
theorem dX6_narrow_2 : decode cX6_narrow 2 = .ok (.if_icmp .ne 11, 3) := by decide +kernel
theorem dX6_narrow_5 : decode cX6_narrow 5 = .ok (.aload_n 0, 1) := by decide +kernel
theorem dX6_narrow_6 : decode cX6_narrow 6 = .ok (.lload_n 2, 1) := by decide +kernel
theorem dX6_narrow_7 : decode cX6_narrow 7 = .ok (.putfield 17, 3) := by decide +kernel
theorem dX6_narrow_10 : decode cX6_narrow 10 = .ok (.goto 10, 3) := by decide +kernel
theorem dX6_narrow_13 : decode cX6_narrow 13 = .ok (.aload_n 0, 1) := by decide +kernel
theorem dX6_narrow_14 : decode cX6_narrow 14 = .ok (.lload_n 2, 1) := by decide +kernel
theorem dX6_narrow_15 : decode cX6_narrow 15 = .ok (.lconst 1, 1) := by decide +kernel
theorem dX6_narrow_16 : decode cX6_narrow 16 = .ok (.ladd, 1) := by decide +kernel
theorem dX6_narrow_17 : decode cX6_narrow 17 = .ok (.putfield 9, 3) := by decide +kernel
theorem dX6_narrow_20 : decode cX6_narrow 20 = .ok (.return_, 1) := by decide +kernel
def f_X6_narrow (lo : Int64) (hi : Int64) (x1 : Int32) (x2 : Int64) : Option (Int64 × Int64) := if x1 = 1 then (some (lo, x2)) else (some (x2 + (1 : Int64), hi))
set_option maxHeartbeats 4000000 in
set_option maxRecDepth 100000 in
theorem c_X6_narrow (l : Launch) (D : va_G) (cI : ClassId) {sz : Nat} (q : Nat) (lo : Int64) (hi : Int64) (x1 : Int32) (x2 : Int64) (o_lo : Int64) (o_hi : Int64) (hf : f_X6_narrow lo hi x1 x2 = some (o_lo, o_hi)) : Met l yX6_narrow (.code yX6_narrow cX6_narrow 4 none :: wsG) ({ frames := 0, cells := 0, slots := 0, locals := 0 }) (va_Pc [.ref q, .int x1, .long x2] (gv D cI sz [(q, .inr (6, [.long lo, .long hi]))])) (va_Qv (fun (_ : Unit) => True) (gz D (va_A [(q, .inr (6, [.long lo, .long hi]))] sz) [(q, .inr (6, [.long o_lo, .long o_hi]))]) (va_A [(q, .inr (6, [.long lo, .long hi]))] sz)) 0 0 (va_A [(q, .inr (6, [.long lo, .long hi]))] sz) := by
  refine k_rw (y := yX6_narrow) (cc := cX6_narrow) (maxL := 4) (ret := none) (As := [.ref q, .int x1, .long x2]) (Qc := fun A => va_Qv (fun (_ : Unit) => True) (gz D A [(q, .inr (6, [.long o_lo, .long o_hi]))]) A) (by decide) rfl (Nat.le_of_ble_eq_true rfl) rfl ?_
  intro p e s m below meth c ls A S hret hloc hK hN hSF hP hD hS hA hl
  obtain ⟨hx, hb, hml, hown, hts⟩ := id S
  unfold f_X6_narrow at hf
  refine lv_iload_n hx hb dX6_narrow_0 rfl (lv_at hl 1 rfl) ?_
  refine lv_iconst (v := 1) hx hb dX6_narrow_1 (by decide) ?_
  refine lv_icmp_ne (tgt := 13) hx hb dX6_narrow_2 (by decide) (fun c_1 => ?_) (fun c_1 => ?_)
  · rw [if_neg c_1] at hf
    refine lv_aload_n hx hb dX6_narrow_13 rfl (lv_at hl 0 rfl) ?_
    refine lv_lload_n hx hb dX6_narrow_14 rfl (lv_at hl 2 rfl) ?_
    refine lv_lconst (v := 1) hx hb dX6_narrow_15 (by decide) ?_
    refine lv_ladd hx hb dX6_narrow_16 ?_
    refine va_put (D := D) (ci := 6) (v := .long (x2 + (1 : Int64))) (ty := .long) (C := RX6) (T := TX6) (N := 2) hx hb hts inGX6 tyX6 tyX6_ok nmX6 hown hK hP hD hS 0 rfl rfl 0 (by decide) (hts _ fl_X6_9) (fun _ h9 => h9) rfl (by decide +kernel) rfl rfl (Nat.le_of_ble_eq_true rfl) dX6_narrow_17 (fun H locs hP hD hS => ?_)
    have hP : va_P D vwCl [(q, .inr (6, [.long (x2 + (1 : Int64)), .long hi]))] H := hP
    have hD : va_D A [(q, .inr (6, [.long (x2 + (1 : Int64)), .long hi]))] := hD
    obtain ⟨e_0, e_1⟩ := Prod.mk.inj (Option.some.inj hf)
    subst e_0
    subst e_1
    exact k_wretv hx hb hret hloc hP hD hS dX6_narrow_20
  · rw [if_pos c_1] at hf
    refine lv_aload_n hx hb dX6_narrow_5 rfl (lv_at hl 0 rfl) ?_
    refine lv_lload_n hx hb dX6_narrow_6 rfl (lv_at hl 2 rfl) ?_
    refine va_put (D := D) (ci := 6) (v := .long x2) (ty := .long) (C := RX6) (T := TX6) (N := 2) hx hb hts inGX6 tyX6 tyX6_ok nmX6 hown hK hP hD hS 0 rfl rfl 1 (by decide) (hts _ fl_X6_17) (fun _ h9 => h9) rfl (by decide +kernel) rfl rfl (Nat.le_of_ble_eq_true rfl) dX6_narrow_7 (fun H locs hP hD hS => ?_)
    have hP : va_P D vwCl [(q, .inr (6, [.long lo, .long x2]))] H := hP
    have hD : va_D A [(q, .inr (6, [.long lo, .long x2]))] := hD
    refine lv_goto (tgt := 20) hx hb dX6_narrow_10 (by decide) ?_
    obtain ⟨e_0, e_1⟩ := Prod.mk.inj (Option.some.inj hf)
    subst e_0
    subst e_1
    exact k_wretv hx hb hret hloc hP hD hS dX6_narrow_20
theorem dX6_topIsSettled_0 : decode cX6_topIsSettled 0 = .ok (.aload_n 0, 1) := by decide +kernel
theorem dX6_topIsSettled_1 : decode cX6_topIsSettled 1 = .ok (.getfield 9, 3) := by decide +kernel
theorem dX6_topIsSettled_4 : decode cX6_topIsSettled 4 = .ok (.ldc2_w 22, 3) := by decide +kernel
theorem dX6_topIsSettled_7 : decode cX6_topIsSettled 7 = .ok (.ldiv, 1) := by decide +kernel
theorem dX6_topIsSettled_8 : decode cX6_topIsSettled 8 = .ok (.aload_n 0, 1) := by decide +kernel
theorem dX6_topIsSettled_9 : decode cX6_topIsSettled 9 = .ok (.getfield 17, 3) := by decide +kernel
theorem dX6_topIsSettled_12 : decode cX6_topIsSettled 12 = .ok (.ldc2_w 22, 3) := by decide +kernel
theorem dX6_topIsSettled_15 : decode cX6_topIsSettled 15 = .ok (.ldiv, 1) := by decide +kernel
theorem dX6_topIsSettled_16 : decode cX6_topIsSettled 16 = .ok (.lcmp, 1) := by decide +kernel
theorem dX6_topIsSettled_17 : decode cX6_topIsSettled 17 = .ok (.ifCond .ne 7, 3) := by decide +kernel
theorem dX6_topIsSettled_20 : decode cX6_topIsSettled 20 = .ok (.iconst 1, 1) := by decide +kernel
theorem dX6_topIsSettled_21 : decode cX6_topIsSettled 21 = .ok (.goto 4, 3) := by decide +kernel
theorem dX6_topIsSettled_24 : decode cX6_topIsSettled 24 = .ok (.iconst 0, 1) := by decide +kernel
theorem dX6_topIsSettled_25 : decode cX6_topIsSettled 25 = .ok (.ireturn, 1) := by decide +kernel
def f_X6_topIsSettled (lo : Int64) (hi : Int64) : Int32 := if (lg_cmp (lo / (16777216 : Int64)) (hi / (16777216 : Int64))) = 0 then ((1 : Int32)) else ((0 : Int32))
set_option maxHeartbeats 4000000 in
set_option maxRecDepth 100000 in
theorem c_X6_topIsSettled (l : Launch) (D : va_G) (cI : ClassId) (q : Nat) (lo : Int64) (hi : Int64) (r : Int32) (hf : f_X6_topIsSettled lo hi = r) : Met l yX6_topIsSettled (.code yX6_topIsSettled cX6_topIsSettled 1 (some .boolean) :: wsG) ({ frames := 0, cells := 0, slots := 0, locals := 0 }) (va_Pc [.ref q] (gw D cI [(q, .inr (6, [.long lo, .long hi]))])) (vp_Si (fun x => x = r)) 0 0 (fun _ => False) := by
  refine k_ro (by decide) rfl (Nat.le_of_ble_eq_true rfl) rfl ?_
  intro p e s m below meth c ls S hret hloc hK hN hSF hP hl
  obtain ⟨hx, hb, hml, hown, hts⟩ := id S
  unfold f_X6_topIsSettled at hf
  refine lv_aload_n hx hb dX6_topIsSettled_0 rfl (lv_at hl 0 rfl) ?_
  refine va_get (D := D) (ci := 6) (v := .long lo) (C := RX6) (T := TX6) (N := 2) hx hb hts inGX6 hown hK hP 0 rfl rfl 0 (by decide) (hts _ fl_X6_9) (fun _ h9 => h9) rfl dX6_topIsSettled_1 ?_
  refine lv_ldc2 (v := (16777216 : Int64)) hx hb hown (hts _ ck_X6_22) dX6_topIsSettled_4 ?_
  refine lv_ldiv hx hb dX6_topIsSettled_7 (by decide) ?_
  refine lv_aload_n hx hb dX6_topIsSettled_8 rfl (lv_at hl 0 rfl) ?_
  refine va_get (D := D) (ci := 6) (v := .long hi) (C := RX6) (T := TX6) (N := 2) hx hb hts inGX6 hown hK hP 0 rfl rfl 1 (by decide) (hts _ fl_X6_17) (fun _ h9 => h9) rfl dX6_topIsSettled_9 ?_
  refine lv_ldc2 (v := (16777216 : Int64)) hx hb hown (hts _ ck_X6_22) dX6_topIsSettled_12 ?_
  refine lv_ldiv hx hb dX6_topIsSettled_15 (by decide) ?_
  refine W.lcmp hx hb dX6_topIsSettled_16 ?_
  refine lv_if_ne (tgt := 24) hx hb dX6_topIsSettled_17 (by decide) (fun c_1 => ?_) (fun c_1 => ?_)
  · rw [if_neg c_1] at hf
    refine lv_iconst (v := 0) hx hb dX6_topIsSettled_24 (by decide) ?_
    exact k_retz hx hb hret hloc rfl hf dX6_topIsSettled_25
  · rw [if_pos c_1] at hf
    refine lv_iconst (v := 1) hx hb dX6_topIsSettled_20 (by decide) ?_
    refine lv_goto (tgt := 25) hx hb dX6_topIsSettled_21 (by decide) ?_
    exact k_retz hx hb hret hloc rfl hf dX6_topIsSettled_25
theorem dX6_topOfLow_0 : decode cX6_topOfLow 0 = .ok (.aload_n 0, 1) := by decide +kernel
theorem dX6_topOfLow_1 : decode cX6_topOfLow 1 = .ok (.getfield 9, 3) := by decide +kernel
theorem dX6_topOfLow_4 : decode cX6_topOfLow 4 = .ok (.ldc2_w 22, 3) := by decide +kernel
theorem dX6_topOfLow_7 : decode cX6_topOfLow 7 = .ok (.ldiv, 1) := by decide +kernel
theorem dX6_topOfLow_8 : decode cX6_topOfLow 8 = .ok (.l2i, 1) := by decide +kernel
theorem dX6_topOfLow_9 : decode cX6_topOfLow 9 = .ok (.ireturn, 1) := by decide +kernel
def f_X6_topOfLow (lo : Int64) : Int32 := (lo / (16777216 : Int64)).toInt32
set_option maxHeartbeats 4000000 in
set_option maxRecDepth 100000 in
theorem c_X6_topOfLow (l : Launch) (D : va_G) (cI : ClassId) (q : Nat) (lo : Int64) (hi : Int64) (r : Int32) (hf : f_X6_topOfLow lo = r) : Met l yX6_topOfLow (.code yX6_topOfLow cX6_topOfLow 1 (some .int) :: wsG) ({ frames := 0, cells := 0, slots := 0, locals := 0 }) (va_Pc [.ref q] (gw D cI [(q, .inr (6, [.long lo, .long hi]))])) (vp_Si (fun x => x = r)) 0 0 (fun _ => False) := by
  refine k_ro (by decide) rfl (Nat.le_of_ble_eq_true rfl) rfl ?_
  intro p e s m below meth c ls S hret hloc hK hN hSF hP hl
  obtain ⟨hx, hb, hml, hown, hts⟩ := id S
  unfold f_X6_topOfLow at hf
  refine lv_aload_n hx hb dX6_topOfLow_0 rfl (lv_at hl 0 rfl) ?_
  refine va_get (D := D) (ci := 6) (v := .long lo) (C := RX6) (T := TX6) (N := 2) hx hb hts inGX6 hown hK hP 0 rfl rfl 0 (by decide) (hts _ fl_X6_9) (fun _ h9 => h9) rfl dX6_topOfLow_1 ?_
  refine lv_ldc2 (v := (16777216 : Int64)) hx hb hown (hts _ ck_X6_22) dX6_topOfLow_4 ?_
  refine lv_ldiv hx hb dX6_topOfLow_7 (by decide) ?_
  refine lv_l2i hx hb dX6_topOfLow_8 rfl ?_
  exact k_reti hx hb hret hloc hf dX6_topOfLow_9
theorem dX6_loseTop_0 : decode cX6_loseTop 0 = .ok (.aload_n 0, 1) := by decide +kernel
theorem dX6_loseTop_1 : decode cX6_loseTop 1 = .ok (.aload_n 0, 1) := by decide +kernel
theorem dX6_loseTop_2 : decode cX6_loseTop 2 = .ok (.getfield 9, 3) := by decide +kernel
theorem dX6_loseTop_5 : decode cX6_loseTop 5 = .ok (.ldc2_w 24, 3) := by decide +kernel
theorem dX6_loseTop_8 : decode cX6_loseTop 8 = .ok (.lmul, 1) := by decide +kernel
theorem dX6_loseTop_9 : decode cX6_loseTop 9 = .ok (.ldc2_w 26, 3) := by decide +kernel
theorem dX6_loseTop_12 : decode cX6_loseTop 12 = .ok (.lrem, 1) := by decide +kernel
theorem dX6_loseTop_13 : decode cX6_loseTop 13 = .ok (.putfield 9, 3) := by decide +kernel
theorem dX6_loseTop_16 : decode cX6_loseTop 16 = .ok (.aload_n 0, 1) := by decide +kernel
theorem dX6_loseTop_17 : decode cX6_loseTop 17 = .ok (.aload_n 0, 1) := by decide +kernel
theorem dX6_loseTop_18 : decode cX6_loseTop 18 = .ok (.getfield 17, 3) := by decide +kernel
theorem dX6_loseTop_21 : decode cX6_loseTop 21 = .ok (.ldc2_w 24, 3) := by decide +kernel
theorem dX6_loseTop_24 : decode cX6_loseTop 24 = .ok (.lmul, 1) := by decide +kernel
theorem dX6_loseTop_25 : decode cX6_loseTop 25 = .ok (.ldc2_w 28, 3) := by decide +kernel
theorem dX6_loseTop_28 : decode cX6_loseTop 28 = .ok (.ladd, 1) := by decide +kernel
theorem dX6_loseTop_29 : decode cX6_loseTop 29 = .ok (.ldc2_w 26, 3) := by decide +kernel
theorem dX6_loseTop_32 : decode cX6_loseTop 32 = .ok (.lrem, 1) := by decide +kernel
theorem dX6_loseTop_33 : decode cX6_loseTop 33 = .ok (.putfield 17, 3) := by decide +kernel
theorem dX6_loseTop_36 : decode cX6_loseTop 36 = .ok (.return_, 1) := by decide +kernel
def f_X6_loseTop (lo : Int64) (hi : Int64) : Option (Int64 × Int64) := some ((lo * (256 : Int64)) - (lo * (256 : Int64)) / (4294967296 : Int64) * (4294967296 : Int64), ((hi * (256 : Int64)) + (255 : Int64)) - ((hi * (256 : Int64)) + (255 : Int64)) / (4294967296 : Int64) * (4294967296 : Int64))
set_option maxHeartbeats 4000000 in
set_option maxRecDepth 100000 in
theorem c_X6_loseTop (l : Launch) (D : va_G) (cI : ClassId) {sz : Nat} (q : Nat) (lo : Int64) (hi : Int64) (o_lo : Int64) (o_hi : Int64) (hf : f_X6_loseTop lo hi = some (o_lo, o_hi)) : Met l yX6_loseTop (.code yX6_loseTop cX6_loseTop 1 none :: wsG) ({ frames := 0, cells := 0, slots := 0, locals := 0 }) (va_Pc [.ref q] (gv D cI sz [(q, .inr (6, [.long lo, .long hi]))])) (va_Qv (fun (_ : Unit) => True) (gz D (va_A [(q, .inr (6, [.long lo, .long hi]))] sz) [(q, .inr (6, [.long o_lo, .long o_hi]))]) (va_A [(q, .inr (6, [.long lo, .long hi]))] sz)) 0 0 (va_A [(q, .inr (6, [.long lo, .long hi]))] sz) := by
  refine k_rw (y := yX6_loseTop) (cc := cX6_loseTop) (maxL := 1) (ret := none) (As := [.ref q]) (Qc := fun A => va_Qv (fun (_ : Unit) => True) (gz D A [(q, .inr (6, [.long o_lo, .long o_hi]))]) A) (by decide) rfl (Nat.le_of_ble_eq_true rfl) rfl ?_
  intro p e s m below meth c ls A S hret hloc hK hN hSF hP hD hS hA hl
  obtain ⟨hx, hb, hml, hown, hts⟩ := id S
  unfold f_X6_loseTop at hf
  refine lv_aload_n hx hb dX6_loseTop_0 rfl (lv_at hl 0 rfl) ?_
  refine lv_aload_n hx hb dX6_loseTop_1 rfl (lv_at hl 0 rfl) ?_
  refine va_get (D := D) (ci := 6) (v := .long lo) (C := RX6) (T := TX6) (N := 2) hx hb hts inGX6 hown hK hP 0 rfl rfl 0 (by decide) (hts _ fl_X6_9) (fun _ h9 => h9) rfl dX6_loseTop_2 ?_
  refine lv_ldc2 (v := (256 : Int64)) hx hb hown (hts _ ck_X6_24) dX6_loseTop_5 ?_
  refine lv_lmul hx hb dX6_loseTop_8 ?_
  refine lv_ldc2 (v := (4294967296 : Int64)) hx hb hown (hts _ ck_X6_26) dX6_loseTop_9 ?_
  refine lv_lrem hx hb dX6_loseTop_12 (by decide) ?_
  refine va_put (D := D) (ci := 6) (v := .long ((lo * (256 : Int64)) - (lo * (256 : Int64)) / (4294967296 : Int64) * (4294967296 : Int64))) (ty := .long) (C := RX6) (T := TX6) (N := 2) hx hb hts inGX6 tyX6 tyX6_ok nmX6 hown hK hP hD hS 0 rfl rfl 0 (by decide) (hts _ fl_X6_9) (fun _ h9 => h9) rfl (by decide +kernel) rfl rfl (Nat.le_of_ble_eq_true rfl) dX6_loseTop_13 (fun H locs hP hD hS => ?_)
  have hP : va_P D vwCl [(q, .inr (6, [.long ((lo * (256 : Int64)) - (lo * (256 : Int64)) / (4294967296 : Int64) * (4294967296 : Int64)), .long hi]))] H := hP
  have hD : va_D A [(q, .inr (6, [.long ((lo * (256 : Int64)) - (lo * (256 : Int64)) / (4294967296 : Int64) * (4294967296 : Int64)), .long hi]))] := hD
  refine lv_aload_n hx hb dX6_loseTop_16 rfl (lv_at hl 0 rfl) ?_
  refine lv_aload_n hx hb dX6_loseTop_17 rfl (lv_at hl 0 rfl) ?_
  refine va_get (D := D) (ci := 6) (v := .long hi) (C := RX6) (T := TX6) (N := 2) hx hb hts inGX6 hown hK hP 0 rfl rfl 1 (by decide) (hts _ fl_X6_17) (fun _ h9 => h9) rfl dX6_loseTop_18 ?_
  refine lv_ldc2 (v := (256 : Int64)) hx hb hown (hts _ ck_X6_24) dX6_loseTop_21 ?_
  refine lv_lmul hx hb dX6_loseTop_24 ?_
  refine lv_ldc2 (v := (255 : Int64)) hx hb hown (hts _ ck_X6_28) dX6_loseTop_25 ?_
  refine lv_ladd hx hb dX6_loseTop_28 ?_
  refine lv_ldc2 (v := (4294967296 : Int64)) hx hb hown (hts _ ck_X6_26) dX6_loseTop_29 ?_
  refine lv_lrem hx hb dX6_loseTop_32 (by decide) ?_
  refine va_put (D := D) (ci := 6) (v := .long (((hi * (256 : Int64)) + (255 : Int64)) - ((hi * (256 : Int64)) + (255 : Int64)) / (4294967296 : Int64) * (4294967296 : Int64))) (ty := .long) (C := RX6) (T := TX6) (N := 2) hx hb hts inGX6 tyX6 tyX6_ok nmX6 hown hK hP hD hS 0 rfl rfl 1 (by decide) (hts _ fl_X6_17) (fun _ h9 => h9) rfl (by decide +kernel) rfl rfl (Nat.le_of_ble_eq_true rfl) dX6_loseTop_33 (fun H locs hP hD hS => ?_)
  have hP : va_P D vwCl [(q, .inr (6, [.long ((lo * (256 : Int64)) - (lo * (256 : Int64)) / (4294967296 : Int64) * (4294967296 : Int64)), .long (((hi * (256 : Int64)) + (255 : Int64)) - ((hi * (256 : Int64)) + (255 : Int64)) / (4294967296 : Int64) * (4294967296 : Int64))]))] H := hP
  have hD : va_D A [(q, .inr (6, [.long ((lo * (256 : Int64)) - (lo * (256 : Int64)) / (4294967296 : Int64) * (4294967296 : Int64)), .long (((hi * (256 : Int64)) + (255 : Int64)) - ((hi * (256 : Int64)) + (255 : Int64)) / (4294967296 : Int64) * (4294967296 : Int64))]))] := hD
  obtain ⟨e_0, e_1⟩ := Prod.mk.inj (Option.some.inj hf)
  subst e_0
  subst e_1
  exact k_wretv hx hb hret hloc hP hD hS dX6_loseTop_36
