theorem dX8_keptPlace_0 : decode cX8_keptPlace 0 = .ok (.iload_n 1, 1) := by decide +kernel
theorem dX8_keptPlace_1 : decode cX8_keptPlace 1 = .ok (.ifCond .ne 10, 3) := by decide +kernel
theorem dX8_keptPlace_4 : decode cX8_keptPlace 4 = .ok (.aload_n 0, 1) := by decide +kernel
theorem dX8_keptPlace_5 : decode cX8_keptPlace 5 = .ok (.getfield 59, 3) := by decide +kernel
theorem dX8_keptPlace_8 : decode cX8_keptPlace 8 = .ok (.goto 7, 3) := by decide +kernel
theorem dX8_keptPlace_11 : decode cX8_keptPlace 11 = .ok (.aload_n 0, 1) := by decide +kernel
theorem dX8_keptPlace_12 : decode cX8_keptPlace 12 = .ok (.getfield 63, 3) := by decide +kernel
theorem dX8_keptPlace_15 : decode cX8_keptPlace 15 = .ok (.areturn, 1) := by decide +kernel
def f_X8_keptPlace (q1 : Nat) (q2 : Nat) (x1 : Int32) : Nat := if x1 = 0 then (q1) else (q2)
set_option maxHeartbeats 4000000 in
set_option maxRecDepth 100000 in
theorem c_X8_keptPlace (l : Launch) (D : va_G) (cI : ClassId) (q : Nat) (qs : Nat) (qr : Nat) (qi : Nat) (qp : Nat) (qu : Nat) (qk : Nat) (qq : Nat) (q1 : Nat) (q2 : Nat) (kn : Int32) (x1 : Int32) (r : Nat) (hf : f_X8_keptPlace q1 q2 x1 = r) : Met l yX8_keptPlace (.code yX8_keptPlace cX8_keptPlace 2 (some (.object "CloningMachine$Kept")) :: wsG) ({ frames := 0, cells := 0, slots := 0, locals := 0 }) (va_Pc [.ref q, .int x1] (gw D cI [(q, .inr (8, [.ref qs, .ref qr, .ref qi, .ref qp, .ref qu, .ref qk, .ref qq, .ref q1, .ref q2, .int kn]))])) (va_Sr (fun x => x = r) Value.ref) 0 0 (fun _ => False) := by
  refine k_ro (by decide) rfl (Nat.le_of_ble_eq_true rfl) rfl ?_
  intro p e s m below meth c ls S hret hloc hK hN hSF hP hl
  obtain ⟨hx, hb, hml, hown, hts⟩ := id S
  unfold f_X8_keptPlace at hf
  refine lv_iload_n hx hb dX8_keptPlace_0 rfl (lv_at hl 1 rfl) ?_
  refine lv_if_ne (tgt := 11) hx hb dX8_keptPlace_1 (by decide) (fun c_1 => ?_) (fun c_1 => ?_)
  · rw [if_neg c_1] at hf
    refine lv_aload_n hx hb dX8_keptPlace_11 rfl (lv_at hl 0 rfl) ?_
    refine va_get (D := D) (ci := 8) (v := .ref q2) (C := RX8) (T := TX8) (N := 10) hx hb hts inGX8 hown hK hP 0 rfl rfl 8 (by decide) (hts _ fl_X8_63) (fun _ h9 => h9) rfl dX8_keptPlace_12 ?_
    exact k_retr hx hb hret hloc hf dX8_keptPlace_15
  · rw [if_pos c_1] at hf
    refine lv_aload_n hx hb dX8_keptPlace_4 rfl (lv_at hl 0 rfl) ?_
    refine va_get (D := D) (ci := 8) (v := .ref q1) (C := RX8) (T := TX8) (N := 10) hx hb hts inGX8 hown hK hP 0 rfl rfl 7 (by decide) (hts _ fl_X8_59) (fun _ h9 => h9) rfl dX8_keptPlace_5 ?_
    refine lv_goto (tgt := 15) hx hb dX8_keptPlace_8 (by decide) ?_
    exact k_retr hx hb hret hloc hf dX8_keptPlace_15
theorem dX8_costOfByte_0 : decode cX8_costOfByte 0 = .ok (.aload_n 0, 1) := by decide +kernel
theorem dX8_costOfByte_1 : decode cX8_costOfByte 1 = .ok (.getfield 21, 3) := by decide +kernel
theorem dX8_costOfByte_4 : decode cX8_costOfByte 4 = .ok (.aload_n 0, 1) := by decide +kernel
theorem dX8_costOfByte_5 : decode cX8_costOfByte 5 = .ok (.getfield 12, 3) := by decide +kernel
theorem dX8_costOfByte_8 : decode cX8_costOfByte 8 = .ok (.iload_n 1, 1) := by decide +kernel
theorem dX8_costOfByte_9 : decode cX8_costOfByte 9 = .ok (.invokevirtual 149, 3) := by decide +kernel
theorem dX8_costOfByte_12 : decode cX8_costOfByte 12 = .ok (.bipush 8, 2) := by decide +kernel
theorem dX8_costOfByte_14 : decode cX8_costOfByte 14 = .ok (.bipush 8, 2) := by decide +kernel
theorem dX8_costOfByte_16 : decode cX8_costOfByte 16 = .ok (.invokevirtual 190, 3) := by decide +kernel
theorem dX8_costOfByte_19 : decode cX8_costOfByte 19 = .ok (.ireturn, 1) := by decide +kernel
theorem gs_X8_149 : GoodIn wsG (wsV RX8 149 RX5 yX5_turned (.code yX5_turned cX5_turned 4 (some .int) :: wsG)) := good_V ml_X8_149 im_X5_turned se_X5_turned ini_X5 co_X5_turned
theorem ok_X2_costOf : okV yX2_costOf RX2 3 := by decide +kernel
theorem gs_X8_190 : GoodIn wsG (wsV RX8 190 RX2 yX2_costOf (.code yX2_costOf cX2_costOf 9 (some .int) :: wsG)) := good_V ml_X8_190 im_X2_costOf se_X2_costOf ini_X2 co_X2_costOf
def f_X8_costOfByte (s_sv : (Nat → Int32)) (r_he : Int32) (r_cn : (Nat → Int32)) (r_nx : (Nat → Int32)) (x1 : Int32) : Option (Int32) := bi1 (f_X5_turned s_sv x1) (fun (r_1 : Int32) => bi1 (f_X2_costOf r_he r_cn r_nx r_1 8 8) (fun (r_3 : Int32) => some r_3))
set_option maxHeartbeats 4000000 in
set_option maxRecDepth 100000 in
theorem c_X8_costOfByte (l : Launch) (D : va_G) (cI : ClassId) (q : Nat) (qs : Nat) (qr : Nat) (qi : Nat) (qp : Nat) (qu : Nat) (qk : Nat) (qq : Nat) (q1 : Nat) (q2 : Nat) (qsr : Nat) (qsa : Nat) (qrc : Nat) (qrn : Nat) (qro : Nat) (qrl : Nat) (qrf : Nat) (qrca : Nat) (qrna : Nat) (qroa : Nat) (qrla : Nat) (qrfa : Nat) (kn : Int32) (s_sv : (Nat → Int32)) (r_st : Int32) (r_he : Int32) (r_ta : Int32) (r_cl : Int32) (r_dr : Int32) (r_cn : (Nat → Int32)) (r_nx : (Nat → Int32)) (r_og : (Nat → Int32)) (r_li : (Nat → Int32)) (r_fl : (Nat → Int32)) (x1 : Int32) (r : Int32) (hf : f_X8_costOfByte s_sv r_he r_cn r_nx x1 = some r) : Met l yX8_costOfByte (.code yX8_costOfByte cX8_costOfByte 2 (some .int) :: wsG) ({ frames := 5, cells := 0, slots := 0, locals := 116 }) (va_Pc [.ref q, .int x1] (gw D cI [(q, .inr (8, [.ref qs, .ref qr, .ref qi, .ref qp, .ref qu, .ref qk, .ref qq, .ref q1, .ref q2, .int kn])), (qs, .inr (5, [.ref qsr])), (qsr, .inr (4, [.ref qsa])), (qsa, .inl (cI, 5, .inl s_sv)), (qr, .inr (2, [.ref qs, .ref qrc, .ref qrn, .ref qro, .ref qrl, .ref qrf, .int r_st, .int r_he, .int r_ta, .int r_cl, .int r_dr])), (qrc, .inr (4, [.ref qrca])), (qrca, .inl (cI, 500, .inl r_cn)), (qrn, .inr (4, [.ref qrna])), (qrna, .inl (cI, 500, .inl r_nx)), (qro, .inr (4, [.ref qroa])), (qroa, .inl (cI, 250, .inl r_og)), (qrl, .inr (4, [.ref qrla])), (qrla, .inl (cI, 250, .inl r_li)), (qrf, .inr (4, [.ref qrfa])), (qrfa, .inl (cI, 250, .inl r_fl))])) (vp_Si (fun x => x = r)) 0 0 (fun _ => False) := by
  refine k_ro (by decide) rfl (Nat.le_of_ble_eq_true rfl) rfl ?_
  intro p e s m below meth c ls S hret hloc hK hN hSF hP hl
  obtain ⟨hx, hb, hml, hown, hts⟩ := id S
  unfold f_X8_costOfByte at hf
  refine lv_aload_n hx hb dX8_costOfByte_0 rfl (lv_at hl 0 rfl) ?_
  refine va_get (D := D) (ci := 8) (v := .ref qr) (C := RX8) (T := TX8) (N := 10) hx hb hts inGX8 hown hK hP 0 rfl rfl 1 (by decide) (hts _ fl_X8_21) (fun _ h9 => h9) rfl dX8_costOfByte_1 ?_
  refine lv_aload_n hx hb dX8_costOfByte_4 rfl (lv_at hl 0 rfl) ?_
  refine va_get (D := D) (ci := 8) (v := .ref qs) (C := RX8) (T := TX8) (N := 10) hx hb hts inGX8 hown hK hP 0 rfl rfl 0 (by decide) (hts _ fl_X8_12) (fun _ h9 => h9) rfl dX8_costOfByte_5 ?_
  refine lv_iload_n hx hb dX8_costOfByte_8 rfl (lv_at hl 1 rfl) ?_
  obtain ⟨r_1, hc_2, hf⟩ := bd1 hf
  refine k_roVi (As := [.int x1]) (rest := [.ref qr]) S (c_X5_turned l D cI (q := qs) (qr := qsr) (qa := qsa) (sv := s_sv) (x1 := x1)  (r := r_1) (hf := hc_2)) gs_X8_149 ok_X5_turned ⟨rfl, rfl⟩ ⟨Nat.le_of_ble_eq_true rfl, Nat.le_of_ble_eq_true rfl⟩ hK hN hSF (hP.sub [1, 2, 3] rfl) rfl rfl rfl hl.1 rfl (Nat.le_of_ble_eq_true rfl) ⟨Nat.zero_le _, Nat.zero_le _⟩ dX8_costOfByte_9 ?_
  refine lv_bipush (v := 8) hx hb dX8_costOfByte_12 (by decide) ?_
  refine lv_bipush (v := 8) hx hb dX8_costOfByte_14 (by decide) ?_
  obtain ⟨r_3, hc_4, hf⟩ := bd1 hf
  refine k_roVi (As := [.int r_1, .int 8, .int 8]) (rest := []) S (c_X2_costOf l D cI (q := qr) (qs := qs) (qc := qrc) (qn := qrn) (qo := qro) (ql := qrl) (qf := qrf) (qca := qrca) (qna := qrna) (qoa := qroa) (qla := qrla) (qfa := qrfa) (qsr := qsr) (qsa := qsa) (st := r_st) (he := r_he) (ta := r_ta) (cl := r_cl) (dr := r_dr) (cn := r_cn) (nx := r_nx) (og := r_og) (li := r_li) (fl := r_fl) (sv := s_sv) (x1 := r_1) (x2 := 8) (x3 := 8)  (r := r_3) (hf := hc_4)) gs_X8_190 ok_X2_costOf ⟨rfl, rfl⟩ ⟨Nat.le_of_ble_eq_true rfl, Nat.le_of_ble_eq_true rfl⟩ hK hN hSF (hP.sub [4, 5, 6, 7, 8, 9, 10, 11, 12, 13, 14, 1, 2, 3] rfl) rfl rfl rfl hl.1 rfl (Nat.le_of_ble_eq_true rfl) ⟨Nat.zero_le _, Nat.zero_le _⟩ dX8_costOfByte_16 ?_
  exact k_reti hx hb hret hloc (Option.some.inj hf) dX8_costOfByte_19
theorem dX8_set_0 : decode cX8_set 0 = .ok (.iload_n 1, 1) := by decide +kernel
theorem dX8_set_1 : decode cX8_set 1 = .ok (.iload_n 2, 1) := by decide +kernel
theorem dX8_set_2 : decode cX8_set 2 = .ok (.invokestatic 70, 3) := by decide +kernel
theorem dX8_set_5 : decode cX8_set 5 = .ok (.ifCond .ne 5, 3) := by decide +kernel
theorem dX8_set_8 : decode cX8_set 8 = .ok (.iconst (-1), 1) := by decide +kernel
theorem dX8_set_9 : decode cX8_set 9 = .ok (.ireturn, 1) := by decide +kernel
theorem dX8_set_10 : decode cX8_set 10 = .ok (.aload_n 0, 1) := by decide +kernel
theorem dX8_set_11 : decode cX8_set 11 = .ok (.getfield 12, 3) := by decide +kernel
theorem dX8_set_14 : decode cX8_set 14 = .ok (.iload_n 1, 1) := by decide +kernel
theorem dX8_set_15 : decode cX8_set 15 = .ok (.invokevirtual 74, 3) := by decide +kernel
theorem dX8_set_18 : decode cX8_set 18 = .ok (.istore_n 3, 1) := by decide +kernel
theorem dX8_set_19 : decode cX8_set 19 = .ok (.iload_n 3, 1) := by decide +kernel
theorem dX8_set_20 : decode cX8_set 20 = .ok (.iload_n 2, 1) := by decide +kernel
theorem dX8_set_21 : decode cX8_set 21 = .ok (.if_icmp .ne 6, 3) := by decide +kernel
theorem dX8_set_24 : decode cX8_set 24 = .ok (.bipush (-2), 2) := by decide +kernel
theorem dX8_set_26 : decode cX8_set 26 = .ok (.ireturn, 1) := by decide +kernel
theorem dX8_set_27 : decode cX8_set 27 = .ok (.aload_n 0, 1) := by decide +kernel
theorem dX8_set_28 : decode cX8_set 28 = .ok (.getfield 12, 3) := by decide +kernel
theorem dX8_set_31 : decode cX8_set 31 = .ok (.iload_n 1, 1) := by decide +kernel
theorem dX8_set_32 : decode cX8_set 32 = .ok (.iload_n 2, 1) := by decide +kernel
theorem dX8_set_33 : decode cX8_set 33 = .ok (.invokevirtual 78, 3) := by decide +kernel
theorem dX8_set_36 : decode cX8_set 36 = .ok (.aload_n 0, 1) := by decide +kernel
theorem dX8_set_37 : decode cX8_set 37 = .ok (.getfield 21, 3) := by decide +kernel
theorem dX8_set_40 : decode cX8_set 40 = .ok (.invokevirtual 82, 3) := by decide +kernel
theorem dX8_set_43 : decode cX8_set 43 = .ok (.iload_n 3, 1) := by decide +kernel
theorem dX8_set_44 : decode cX8_set 44 = .ok (.ireturn, 1) := by decide +kernel
theorem ok_X5_allows : okS yX5_allows 2 := by decide +kernel
theorem gs_X8_70 : GoodIn wsG (va_wsS RX8 70 yX5_allows (.code yX5_allows cX5_allows 2 (some .boolean) :: wsG)) := good_S ml_X8_70 st_X5_allows ini_X5 co_X5_allows
theorem gs_X8_74 : GoodIn wsG (wsV RX8 74 RX5 yX5_get (.code yX5_get cX5_get 2 (some .int) :: wsG)) := good_V ml_X8_74 im_X5_get se_X5_get ini_X5 co_X5_get
theorem ok_X5_tell : okV yX5_tell RX5 2 := by decide +kernel
theorem gs_X8_78 : GoodIn wsG (wsV RX8 78 RX5 yX5_tell (.code yX5_tell cX5_tell 3 none :: wsG)) := good_V ml_X8_78 im_X5_tell se_X5_tell ini_X5 co_X5_tell
theorem gs_X8_82 : GoodIn wsG (wsV RX8 82 RX2 yX2_begin (.code yX2_begin cX2_begin 1 none :: wsG)) := good_V ml_X8_82 im_X2_begin se_X2_begin ini_X2 co_X2_begin
def f_X8_set (s_sv : (Nat → Int32)) (r_st : Int32) (r_he : Int32) (r_ta : Int32) (r_cl : Int32) (r_dr : Int32) (r_cn : (Nat → Int32)) (r_nx : (Nat → Int32)) (r_og : (Nat → Int32)) (r_li : (Nat → Int32)) (x1 : Int32) (x2 : Int32) : Option (Int32 × (Nat → Int32) × Int32 × Int32 × Int32 × Int32 × Int32 × (Nat → Int32) × (Nat → Int32) × (Nat → Int32) × (Nat → Int32)) := if (f_X5_allows x1 x2) = 0 then (some ((-1 : Int32), s_sv, r_st, r_he, r_ta, r_cl, r_dr, r_cn, r_nx, r_og, r_li)) else (if (f_X5_get s_sv x1) = x2 then (some ((-2 : Int32), s_sv, r_st, r_he, r_ta, r_cl, r_dr, r_cn, r_nx, r_og, r_li)) else (bi9 (f_X2_begin r_cn r_nx r_og r_li (f_X5_tell s_sv x1 x2)) (fun (r_st_3 : Int32) (r_he_4 : Int32) (r_ta_5 : Int32) (r_cl_6 : Int32) (r_dr_7 : Int32) (r_cn_8 : (Nat → Int32)) (r_nx_9 : (Nat → Int32)) (r_og_10 : (Nat → Int32)) (r_li_11 : (Nat → Int32)) => some ((f_X5_get s_sv x1), (f_X5_tell s_sv x1 x2), r_st_3, r_he_4, r_ta_5, r_cl_6, r_dr_7, r_cn_8, r_nx_9, r_og_10, r_li_11))))
set_option maxHeartbeats 4000000 in
set_option maxRecDepth 100000 in
theorem c_X8_set (l : Launch) (D : va_G) (cI : ClassId) {sz : Nat} (q : Nat) (qs : Nat) (qr : Nat) (qi : Nat) (qp : Nat) (qu : Nat) (qk : Nat) (qq : Nat) (q1 : Nat) (q2 : Nat) (qsr : Nat) (qsa : Nat) (qrc : Nat) (qrn : Nat) (qro : Nat) (qrl : Nat) (qrf : Nat) (qrca : Nat) (qrna : Nat) (qroa : Nat) (qrla : Nat) (qrfa : Nat) (kn : Int32) (s_sv : (Nat → Int32)) (r_st : Int32) (r_he : Int32) (r_ta : Int32) (r_cl : Int32) (r_dr : Int32) (r_cn : (Nat → Int32)) (r_nx : (Nat → Int32)) (r_og : (Nat → Int32)) (r_li : (Nat → Int32)) (r_fl : (Nat → Int32)) (x1 : Int32) (x2 : Int32) (r : Int32) (o_s_sv : (Nat → Int32)) (o_r_st : Int32) (o_r_he : Int32) (o_r_ta : Int32) (o_r_cl : Int32) (o_r_dr : Int32) (o_r_cn : (Nat → Int32)) (o_r_nx : (Nat → Int32)) (o_r_og : (Nat → Int32)) (o_r_li : (Nat → Int32)) (hf : f_X8_set s_sv r_st r_he r_ta r_cl r_dr r_cn r_nx r_og r_li x1 x2 = some (r, o_s_sv, o_r_st, o_r_he, o_r_ta, o_r_cl, o_r_dr, o_r_cn, o_r_nx, o_r_og, o_r_li)) : Met l yX8_set (.code yX8_set cX8_set 4 (some .int) :: wsG) ({ frames := 4, cells := 0, slots := 0, locals := 85 }) (va_Pc [.ref q, .int x1, .int x2] (gv D cI sz [(q, .inr (8, [.ref qs, .ref qr, .ref qi, .ref qp, .ref qu, .ref qk, .ref qq, .ref q1, .ref q2, .int kn])), (qs, .inr (5, [.ref qsr])), (qsr, .inr (4, [.ref qsa])), (qsa, .inl (cI, 5, .inl s_sv)), (qr, .inr (2, [.ref qs, .ref qrc, .ref qrn, .ref qro, .ref qrl, .ref qrf, .int r_st, .int r_he, .int r_ta, .int r_cl, .int r_dr])), (qrc, .inr (4, [.ref qrca])), (qrca, .inl (cI, 500, .inl r_cn)), (qrn, .inr (4, [.ref qrna])), (qrna, .inl (cI, 500, .inl r_nx)), (qro, .inr (4, [.ref qroa])), (qroa, .inl (cI, 250, .inl r_og)), (qrl, .inr (4, [.ref qrla])), (qrla, .inl (cI, 250, .inl r_li)), (qrf, .inr (4, [.ref qrfa])), (qrfa, .inl (cI, 250, .inl r_fl))])) (va_Qi (fun x (_ : Unit) => x = r) (gz D (va_A [(q, .inr (8, [.ref qs, .ref qr, .ref qi, .ref qp, .ref qu, .ref qk, .ref qq, .ref q1, .ref q2, .int kn])), (qs, .inr (5, [.ref qsr])), (qsr, .inr (4, [.ref qsa])), (qsa, .inl (cI, 5, .inl s_sv)), (qr, .inr (2, [.ref qs, .ref qrc, .ref qrn, .ref qro, .ref qrl, .ref qrf, .int r_st, .int r_he, .int r_ta, .int r_cl, .int r_dr])), (qrc, .inr (4, [.ref qrca])), (qrca, .inl (cI, 500, .inl r_cn)), (qrn, .inr (4, [.ref qrna])), (qrna, .inl (cI, 500, .inl r_nx)), (qro, .inr (4, [.ref qroa])), (qroa, .inl (cI, 250, .inl r_og)), (qrl, .inr (4, [.ref qrla])), (qrla, .inl (cI, 250, .inl r_li)), (qrf, .inr (4, [.ref qrfa])), (qrfa, .inl (cI, 250, .inl r_fl))] sz) [(q, .inr (8, [.ref qs, .ref qr, .ref qi, .ref qp, .ref qu, .ref qk, .ref qq, .ref q1, .ref q2, .int kn])), (qs, .inr (5, [.ref qsr])), (qsr, .inr (4, [.ref qsa])), (qsa, .inl (cI, 5, .inl o_s_sv)), (qr, .inr (2, [.ref qs, .ref qrc, .ref qrn, .ref qro, .ref qrl, .ref qrf, .int o_r_st, .int o_r_he, .int o_r_ta, .int o_r_cl, .int o_r_dr])), (qrc, .inr (4, [.ref qrca])), (qrca, .inl (cI, 500, .inl o_r_cn)), (qrn, .inr (4, [.ref qrna])), (qrna, .inl (cI, 500, .inl o_r_nx)), (qro, .inr (4, [.ref qroa])), (qroa, .inl (cI, 250, .inl o_r_og)), (qrl, .inr (4, [.ref qrla])), (qrla, .inl (cI, 250, .inl o_r_li)), (qrf, .inr (4, [.ref qrfa])), (qrfa, .inl (cI, 250, .inl r_fl))]) (va_A [(q, .inr (8, [.ref qs, .ref qr, .ref qi, .ref qp, .ref qu, .ref qk, .ref qq, .ref q1, .ref q2, .int kn])), (qs, .inr (5, [.ref qsr])), (qsr, .inr (4, [.ref qsa])), (qsa, .inl (cI, 5, .inl s_sv)), (qr, .inr (2, [.ref qs, .ref qrc, .ref qrn, .ref qro, .ref qrl, .ref qrf, .int r_st, .int r_he, .int r_ta, .int r_cl, .int r_dr])), (qrc, .inr (4, [.ref qrca])), (qrca, .inl (cI, 500, .inl r_cn)), (qrn, .inr (4, [.ref qrna])), (qrna, .inl (cI, 500, .inl r_nx)), (qro, .inr (4, [.ref qroa])), (qroa, .inl (cI, 250, .inl r_og)), (qrl, .inr (4, [.ref qrla])), (qrla, .inl (cI, 250, .inl r_li)), (qrf, .inr (4, [.ref qrfa])), (qrfa, .inl (cI, 250, .inl r_fl))] sz)) 0 0 (va_A [(q, .inr (8, [.ref qs, .ref qr, .ref qi, .ref qp, .ref qu, .ref qk, .ref qq, .ref q1, .ref q2, .int kn])), (qs, .inr (5, [.ref qsr])), (qsr, .inr (4, [.ref qsa])), (qsa, .inl (cI, 5, .inl s_sv)), (qr, .inr (2, [.ref qs, .ref qrc, .ref qrn, .ref qro, .ref qrl, .ref qrf, .int r_st, .int r_he, .int r_ta, .int r_cl, .int r_dr])), (qrc, .inr (4, [.ref qrca])), (qrca, .inl (cI, 500, .inl r_cn)), (qrn, .inr (4, [.ref qrna])), (qrna, .inl (cI, 500, .inl r_nx)), (qro, .inr (4, [.ref qroa])), (qroa, .inl (cI, 250, .inl r_og)), (qrl, .inr (4, [.ref qrla])), (qrla, .inl (cI, 250, .inl r_li)), (qrf, .inr (4, [.ref qrfa])), (qrfa, .inl (cI, 250, .inl r_fl))] sz) := by
  refine k_rw (y := yX8_set) (cc := cX8_set) (maxL := 4) (ret := (some .int)) (As := [.ref q, .int x1, .int x2]) (Qc := fun A => va_Qi (fun x (_ : Unit) => x = r) (gz D A [(q, .inr (8, [.ref qs, .ref qr, .ref qi, .ref qp, .ref qu, .ref qk, .ref qq, .ref q1, .ref q2, .int kn])), (qs, .inr (5, [.ref qsr])), (qsr, .inr (4, [.ref qsa])), (qsa, .inl (cI, 5, .inl o_s_sv)), (qr, .inr (2, [.ref qs, .ref qrc, .ref qrn, .ref qro, .ref qrl, .ref qrf, .int o_r_st, .int o_r_he, .int o_r_ta, .int o_r_cl, .int o_r_dr])), (qrc, .inr (4, [.ref qrca])), (qrca, .inl (cI, 500, .inl o_r_cn)), (qrn, .inr (4, [.ref qrna])), (qrna, .inl (cI, 500, .inl o_r_nx)), (qro, .inr (4, [.ref qroa])), (qroa, .inl (cI, 250, .inl o_r_og)), (qrl, .inr (4, [.ref qrla])), (qrla, .inl (cI, 250, .inl o_r_li)), (qrf, .inr (4, [.ref qrfa])), (qrfa, .inl (cI, 250, .inl r_fl))]) A) (by decide) rfl (Nat.le_of_ble_eq_true rfl) rfl ?_
  intro p e s m below meth c ls A S hret hloc hK hN hSF hP hD hS hA hl
  obtain ⟨hx, hb, hml, hown, hts⟩ := id S
  unfold f_X8_set at hf
  refine lv_iload_n hx hb dX8_set_0 rfl (lv_at hl 1 rfl) ?_
  refine lv_iload_n hx hb dX8_set_1 rfl (lv_at hl 2 rfl) ?_
  refine k_roSi (As := [.int x1, .int x2]) (rest := []) S (c_X5_allows l D cI (x1 := x1) (x2 := x2)  (r := (f_X5_allows x1 x2)) (hf := rfl)) gs_X8_70 ok_X5_allows ⟨rfl, rfl⟩ ⟨Nat.le_of_ble_eq_true rfl, Nat.le_of_ble_eq_true rfl⟩ hK hN (sfr hSF hS) (hP.sub [] rfl) rfl hl.1 rfl (Nat.le_of_ble_eq_true rfl) ⟨Nat.zero_le _, Nat.zero_le _⟩ dX8_set_2 ?_
  refine lv_if_ne (tgt := 10) hx hb dX8_set_5 (by decide) (fun c_1 => ?_) (fun c_1 => ?_)
  · rw [if_neg c_1] at hf
    refine lv_aload_n hx hb dX8_set_10 rfl (lv_at hl 0 rfl) ?_
    refine va_get (D := D) (ci := 8) (v := .ref qs) (C := RX8) (T := TX8) (N := 10) hx hb hts inGX8 hown hK hP 0 rfl rfl 0 (by decide) (hts _ fl_X8_12) (fun _ h9 => h9) rfl dX8_set_11 ?_
    refine lv_iload_n hx hb dX8_set_14 rfl (lv_at hl 1 rfl) ?_
    refine k_roVi (As := [.int x1]) (rest := []) S (c_X5_get l D cI (q := qs) (qr := qsr) (qa := qsa) (sv := s_sv) (x1 := x1)  (r := (f_X5_get s_sv x1)) (hf := rfl)) gs_X8_74 ok_X5_get ⟨rfl, rfl⟩ ⟨Nat.le_of_ble_eq_true rfl, Nat.le_of_ble_eq_true rfl⟩ hK hN (sfr hSF hS) (hP.sub [1, 2, 3] rfl) rfl rfl rfl hl.1 rfl (Nat.le_of_ble_eq_true rfl) ⟨Nat.zero_le _, Nat.zero_le _⟩ dX8_set_15 ?_
    refine lv_istore_n (lv' := [(3, .int (f_X5_get s_sv x1)), (0, .ref q), (1, .int x1), (2, .int x2)]) hx hb dX8_set_18 rfl hl (by decide) rfl (fun ls hl => ?_)
    refine lv_iload_n hx hb dX8_set_19 rfl (lv_at hl 0 rfl) ?_
    refine lv_iload_n hx hb dX8_set_20 rfl (lv_at hl 3 rfl) ?_
    refine lv_icmp_ne (tgt := 27) hx hb dX8_set_21 (by decide) (fun c_2 => ?_) (fun c_2 => ?_)
    · rw [if_neg c_2] at hf
      refine lv_aload_n hx hb dX8_set_27 rfl (lv_at hl 1 rfl) ?_
      refine va_get (D := D) (ci := 8) (v := .ref qs) (C := RX8) (T := TX8) (N := 10) hx hb hts inGX8 hown hK hP 0 rfl rfl 0 (by decide) (hts _ fl_X8_12) (fun _ h9 => h9) rfl dX8_set_28 ?_
      refine lv_iload_n hx hb dX8_set_31 rfl (lv_at hl 2 rfl) ?_
      refine lv_iload_n hx hb dX8_set_32 rfl (lv_at hl 3 rfl) ?_
      refine k_rwVv (As := [.int x1, .int x2]) (rest := []) (Wr := [(q, .inr (8, [.ref qs, .ref qr, .ref qi, .ref qp, .ref qu, .ref qk, .ref qq, .ref q1, .ref q2, .int kn])), (qr, .inr (2, [.ref qs, .ref qrc, .ref qrn, .ref qro, .ref qrl, .ref qrf, .int r_st, .int r_he, .int r_ta, .int r_cl, .int r_dr])), (qrc, .inr (4, [.ref qrca])), (qrca, .inl (cI, 500, .inl r_cn)), (qrn, .inr (4, [.ref qrna])), (qrna, .inl (cI, 500, .inl r_nx)), (qro, .inr (4, [.ref qroa])), (qroa, .inl (cI, 250, .inl r_og)), (qrl, .inr (4, [.ref qrla])), (qrla, .inl (cI, 250, .inl r_li)), (qrf, .inr (4, [.ref qrfa])), (qrfa, .inl (cI, 250, .inl r_fl))]) (W2 := [(q, .inr (8, [.ref qs, .ref qr, .ref qi, .ref qp, .ref qu, .ref qk, .ref qq, .ref q1, .ref q2, .int kn])), (qs, .inr (5, [.ref qsr])), (qsr, .inr (4, [.ref qsa])), (qsa, .inl (cI, 5, .inl (f_X5_tell s_sv x1 x2))), (qr, .inr (2, [.ref qs, .ref qrc, .ref qrn, .ref qro, .ref qrl, .ref qrf, .int r_st, .int r_he, .int r_ta, .int r_cl, .int r_dr])), (qrc, .inr (4, [.ref qrca])), (qrca, .inl (cI, 500, .inl r_cn)), (qrn, .inr (4, [.ref qrna])), (qrna, .inl (cI, 500, .inl r_nx)), (qro, .inr (4, [.ref qroa])), (qroa, .inl (cI, 250, .inl r_og)), (qrl, .inr (4, [.ref qrla])), (qrla, .inl (cI, 250, .inl r_li)), (qrf, .inr (4, [.ref qrfa])), (qrfa, .inl (cI, 250, .inl r_fl))]) S (c_X5_tell l D cI (q := qs) (qr := qsr) (qa := qsa) (sv := s_sv) (x1 := x1) (x2 := x2)  (o_sv := (f_X5_tell s_sv x1 x2)) (hf := rfl)) gs_X8_78 ok_X5_tell ⟨rfl, rfl⟩ ⟨Nat.le_of_ble_eq_true rfl, Nat.le_of_ble_eq_true rfl⟩ hK hN hSF hP hD hS hA [1, 2, 3] [0, 4, 5, 6, 7, 8, 9, 10, 11, 12, 13, 14] [0, 12, 13, 14, 1, 2, 3, 4, 5, 6, 7, 8, 9, 10, 11] (by decide) rfl rfl (by decide) (by decide) rfl (by decide) rfl rfl rfl hl.1 rfl (Nat.le_of_ble_eq_true rfl) ⟨Nat.zero_le _, Nat.zero_le _⟩ dX8_set_33 (fun H locs hP hD hS => ?_)
      refine lv_aload_n hx hb dX8_set_36 rfl (lv_at hl 1 rfl) ?_
      refine va_get (D := D) (ci := 8) (v := .ref qr) (C := RX8) (T := TX8) (N := 10) hx hb hts inGX8 hown hK hP 0 rfl rfl 1 (by decide) (hts _ fl_X8_21) (fun _ h9 => h9) rfl dX8_set_37 ?_
      obtain ⟨r_st_3, r_he_4, r_ta_5, r_cl_6, r_dr_7, r_cn_8, r_nx_9, r_og_10, r_li_11, hc_12, hf⟩ := bd9 hf
      refine k_rwVv (As := []) (rest := []) (Wr := [(q, .inr (8, [.ref qs, .ref qr, .ref qi, .ref qp, .ref qu, .ref qk, .ref qq, .ref q1, .ref q2, .int kn]))]) (W2 := [(q, .inr (8, [.ref qs, .ref qr, .ref qi, .ref qp, .ref qu, .ref qk, .ref qq, .ref q1, .ref q2, .int kn])), (qs, .inr (5, [.ref qsr])), (qsr, .inr (4, [.ref qsa])), (qsa, .inl (cI, 5, .inl (f_X5_tell s_sv x1 x2))), (qr, .inr (2, [.ref qs, .ref qrc, .ref qrn, .ref qro, .ref qrl, .ref qrf, .int r_st_3, .int r_he_4, .int r_ta_5, .int r_cl_6, .int r_dr_7])), (qrc, .inr (4, [.ref qrca])), (qrca, .inl (cI, 500, .inl r_cn_8)), (qrn, .inr (4, [.ref qrna])), (qrna, .inl (cI, 500, .inl r_nx_9)), (qro, .inr (4, [.ref qroa])), (qroa, .inl (cI, 250, .inl r_og_10)), (qrl, .inr (4, [.ref qrla])), (qrla, .inl (cI, 250, .inl r_li_11)), (qrf, .inr (4, [.ref qrfa])), (qrfa, .inl (cI, 250, .inl r_fl))]) S (c_X2_begin l D cI (q := qr) (qs := qs) (qc := qrc) (qn := qrn) (qo := qro) (ql := qrl) (qf := qrf) (qca := qrca) (qna := qrna) (qoa := qroa) (qla := qrla) (qfa := qrfa) (qsr := qsr) (qsa := qsa) (st := r_st) (he := r_he) (ta := r_ta) (cl := r_cl) (dr := r_dr) (cn := r_cn) (nx := r_nx) (og := r_og) (li := r_li) (fl := r_fl) (sv := (f_X5_tell s_sv x1 x2))  (o_st := r_st_3) (o_he := r_he_4) (o_ta := r_ta_5) (o_cl := r_cl_6) (o_dr := r_dr_7) (o_cn := r_cn_8) (o_nx := r_nx_9) (o_og := r_og_10) (o_li := r_li_11) (hf := hc_12)) gs_X8_82 ok_X2_begin ⟨rfl, rfl⟩ ⟨Nat.le_of_ble_eq_true rfl, Nat.le_of_ble_eq_true rfl⟩ hK hN hSF hP hD hS hA [4, 5, 6, 7, 8, 9, 10, 11, 12, 13, 14, 1, 2, 3] [0] [0, 12, 13, 14, 1, 2, 3, 4, 5, 6, 7, 8, 9, 10, 11] (by decide) rfl rfl (by decide) (by decide) rfl (by decide) rfl rfl rfl hl.1 rfl (Nat.le_of_ble_eq_true rfl) ⟨Nat.zero_le _, Nat.zero_le _⟩ dX8_set_40 (fun H locs hP hD hS => ?_)
      refine lv_iload_n hx hb dX8_set_43 rfl (lv_at hl 0 rfl) ?_
      obtain ⟨e_0, e_r⟩ := Prod.mk.inj (Option.some.inj hf)
      obtain ⟨e_1, e_r⟩ := Prod.mk.inj (e_r)
      obtain ⟨e_2, e_r⟩ := Prod.mk.inj (e_r)
      obtain ⟨e_3, e_r⟩ := Prod.mk.inj (e_r)
      obtain ⟨e_4, e_r⟩ := Prod.mk.inj (e_r)
      obtain ⟨e_5, e_r⟩ := Prod.mk.inj (e_r)
      obtain ⟨e_6, e_r⟩ := Prod.mk.inj (e_r)
      obtain ⟨e_7, e_r⟩ := Prod.mk.inj (e_r)
      obtain ⟨e_8, e_r⟩ := Prod.mk.inj (e_r)
      obtain ⟨e_9, e_10⟩ := Prod.mk.inj (e_r)
      subst e_0
      subst e_1
      subst e_2
      subst e_3
      subst e_4
      subst e_5
      subst e_6
      subst e_7
      subst e_8
      subst e_9
      subst e_10
      exact k_wreti hx hb hret hloc rfl hP hD hS dX8_set_44
    · rw [if_pos c_2] at hf
      refine lv_bipush (v := (-2)) hx hb dX8_set_24 (by decide) ?_
      obtain ⟨e_0, e_r⟩ := Prod.mk.inj (Option.some.inj hf)
      obtain ⟨e_1, e_r⟩ := Prod.mk.inj (e_r)
      obtain ⟨e_2, e_r⟩ := Prod.mk.inj (e_r)
      obtain ⟨e_3, e_r⟩ := Prod.mk.inj (e_r)
      obtain ⟨e_4, e_r⟩ := Prod.mk.inj (e_r)
      obtain ⟨e_5, e_r⟩ := Prod.mk.inj (e_r)
      obtain ⟨e_6, e_r⟩ := Prod.mk.inj (e_r)
      obtain ⟨e_7, e_r⟩ := Prod.mk.inj (e_r)
      obtain ⟨e_8, e_r⟩ := Prod.mk.inj (e_r)
      obtain ⟨e_9, e_10⟩ := Prod.mk.inj (e_r)
      subst e_0
      subst e_1
      subst e_2
      subst e_3
      subst e_4
      subst e_5
      subst e_6
      subst e_7
      subst e_8
      subst e_9
      subst e_10
      exact k_wreti hx hb hret hloc rfl hP hD hS dX8_set_26
  · rw [if_pos c_1] at hf
    refine lv_iconst (v := (-1)) hx hb dX8_set_8 (by decide) ?_
    obtain ⟨e_0, e_r⟩ := Prod.mk.inj (Option.some.inj hf)
    obtain ⟨e_1, e_r⟩ := Prod.mk.inj (e_r)
    obtain ⟨e_2, e_r⟩ := Prod.mk.inj (e_r)
    obtain ⟨e_3, e_r⟩ := Prod.mk.inj (e_r)
    obtain ⟨e_4, e_r⟩ := Prod.mk.inj (e_r)
    obtain ⟨e_5, e_r⟩ := Prod.mk.inj (e_r)
    obtain ⟨e_6, e_r⟩ := Prod.mk.inj (e_r)
    obtain ⟨e_7, e_r⟩ := Prod.mk.inj (e_r)
    obtain ⟨e_8, e_r⟩ := Prod.mk.inj (e_r)
    obtain ⟨e_9, e_10⟩ := Prod.mk.inj (e_r)
    subst e_0
    subst e_1
    subst e_2
    subst e_3
    subst e_4
    subst e_5
    subst e_6
    subst e_7
    subst e_8
    subst e_9
    subst e_10
    exact k_wreti hx hb hret hloc rfl hP hD hS dX8_set_9
theorem dX8_renew_0 : decode cX8_renew 0 = .ok (.aload_n 0, 1) := by decide +kernel
theorem dX8_renew_1 : decode cX8_renew 1 = .ok (.getfield 21, 3) := by decide +kernel
theorem dX8_renew_4 : decode cX8_renew 4 = .ok (.invokevirtual 82, 3) := by decide +kernel
theorem dX8_renew_7 : decode cX8_renew 7 = .ok (.aload_n 0, 1) := by decide +kernel
theorem dX8_renew_8 : decode cX8_renew 8 = .ok (.getfield 21, 3) := by decide +kernel
theorem dX8_renew_11 : decode cX8_renew 11 = .ok (.getfield 85, 3) := by decide +kernel
theorem dX8_renew_14 : decode cX8_renew 14 = .ok (.ireturn, 1) := by decide +kernel
def f_X8_renew (s_sv : (Nat → Int32)) (r_cn : (Nat → Int32)) (r_nx : (Nat → Int32)) (r_og : (Nat → Int32)) (r_li : (Nat → Int32)) : Option (Int32 × Int32 × Int32 × Int32 × Int32 × Int32 × (Nat → Int32) × (Nat → Int32) × (Nat → Int32) × (Nat → Int32)) := bi9 (f_X2_begin r_cn r_nx r_og r_li s_sv) (fun (r_st_1 : Int32) (r_he_2 : Int32) (r_ta_3 : Int32) (r_cl_4 : Int32) (r_dr_5 : Int32) (r_cn_6 : (Nat → Int32)) (r_nx_7 : (Nat → Int32)) (r_og_8 : (Nat → Int32)) (r_li_9 : (Nat → Int32)) => some (r_st_1, r_st_1, r_he_2, r_ta_3, r_cl_4, r_dr_5, r_cn_6, r_nx_7, r_og_8, r_li_9))
set_option maxHeartbeats 4000000 in
set_option maxRecDepth 100000 in
theorem c_X8_renew (l : Launch) (D : va_G) (cI : ClassId) {sz : Nat} (q : Nat) (qs : Nat) (qr : Nat) (qi : Nat) (qp : Nat) (qu : Nat) (qk : Nat) (qq : Nat) (q1 : Nat) (q2 : Nat) (qsr : Nat) (qsa : Nat) (qrc : Nat) (qrn : Nat) (qro : Nat) (qrl : Nat) (qrf : Nat) (qrca : Nat) (qrna : Nat) (qroa : Nat) (qrla : Nat) (qrfa : Nat) (kn : Int32) (s_sv : (Nat → Int32)) (r_st : Int32) (r_he : Int32) (r_ta : Int32) (r_cl : Int32) (r_dr : Int32) (r_cn : (Nat → Int32)) (r_nx : (Nat → Int32)) (r_og : (Nat → Int32)) (r_li : (Nat → Int32)) (r_fl : (Nat → Int32)) (r : Int32) (o_r_st : Int32) (o_r_he : Int32) (o_r_ta : Int32) (o_r_cl : Int32) (o_r_dr : Int32) (o_r_cn : (Nat → Int32)) (o_r_nx : (Nat → Int32)) (o_r_og : (Nat → Int32)) (o_r_li : (Nat → Int32)) (hf : f_X8_renew s_sv r_cn r_nx r_og r_li = some (r, o_r_st, o_r_he, o_r_ta, o_r_cl, o_r_dr, o_r_cn, o_r_nx, o_r_og, o_r_li)) : Met l yX8_renew (.code yX8_renew cX8_renew 1 (some .int) :: wsG) ({ frames := 4, cells := 0, slots := 0, locals := 85 }) (va_Pc [.ref q] (gv D cI sz [(q, .inr (8, [.ref qs, .ref qr, .ref qi, .ref qp, .ref qu, .ref qk, .ref qq, .ref q1, .ref q2, .int kn])), (qs, .inr (5, [.ref qsr])), (qsr, .inr (4, [.ref qsa])), (qsa, .inl (cI, 5, .inl s_sv)), (qr, .inr (2, [.ref qs, .ref qrc, .ref qrn, .ref qro, .ref qrl, .ref qrf, .int r_st, .int r_he, .int r_ta, .int r_cl, .int r_dr])), (qrc, .inr (4, [.ref qrca])), (qrca, .inl (cI, 500, .inl r_cn)), (qrn, .inr (4, [.ref qrna])), (qrna, .inl (cI, 500, .inl r_nx)), (qro, .inr (4, [.ref qroa])), (qroa, .inl (cI, 250, .inl r_og)), (qrl, .inr (4, [.ref qrla])), (qrla, .inl (cI, 250, .inl r_li)), (qrf, .inr (4, [.ref qrfa])), (qrfa, .inl (cI, 250, .inl r_fl))])) (va_Qi (fun x (_ : Unit) => x = r) (gz D (va_A [(q, .inr (8, [.ref qs, .ref qr, .ref qi, .ref qp, .ref qu, .ref qk, .ref qq, .ref q1, .ref q2, .int kn])), (qs, .inr (5, [.ref qsr])), (qsr, .inr (4, [.ref qsa])), (qsa, .inl (cI, 5, .inl s_sv)), (qr, .inr (2, [.ref qs, .ref qrc, .ref qrn, .ref qro, .ref qrl, .ref qrf, .int r_st, .int r_he, .int r_ta, .int r_cl, .int r_dr])), (qrc, .inr (4, [.ref qrca])), (qrca, .inl (cI, 500, .inl r_cn)), (qrn, .inr (4, [.ref qrna])), (qrna, .inl (cI, 500, .inl r_nx)), (qro, .inr (4, [.ref qroa])), (qroa, .inl (cI, 250, .inl r_og)), (qrl, .inr (4, [.ref qrla])), (qrla, .inl (cI, 250, .inl r_li)), (qrf, .inr (4, [.ref qrfa])), (qrfa, .inl (cI, 250, .inl r_fl))] sz) [(q, .inr (8, [.ref qs, .ref qr, .ref qi, .ref qp, .ref qu, .ref qk, .ref qq, .ref q1, .ref q2, .int kn])), (qs, .inr (5, [.ref qsr])), (qsr, .inr (4, [.ref qsa])), (qsa, .inl (cI, 5, .inl s_sv)), (qr, .inr (2, [.ref qs, .ref qrc, .ref qrn, .ref qro, .ref qrl, .ref qrf, .int o_r_st, .int o_r_he, .int o_r_ta, .int o_r_cl, .int o_r_dr])), (qrc, .inr (4, [.ref qrca])), (qrca, .inl (cI, 500, .inl o_r_cn)), (qrn, .inr (4, [.ref qrna])), (qrna, .inl (cI, 500, .inl o_r_nx)), (qro, .inr (4, [.ref qroa])), (qroa, .inl (cI, 250, .inl o_r_og)), (qrl, .inr (4, [.ref qrla])), (qrla, .inl (cI, 250, .inl o_r_li)), (qrf, .inr (4, [.ref qrfa])), (qrfa, .inl (cI, 250, .inl r_fl))]) (va_A [(q, .inr (8, [.ref qs, .ref qr, .ref qi, .ref qp, .ref qu, .ref qk, .ref qq, .ref q1, .ref q2, .int kn])), (qs, .inr (5, [.ref qsr])), (qsr, .inr (4, [.ref qsa])), (qsa, .inl (cI, 5, .inl s_sv)), (qr, .inr (2, [.ref qs, .ref qrc, .ref qrn, .ref qro, .ref qrl, .ref qrf, .int r_st, .int r_he, .int r_ta, .int r_cl, .int r_dr])), (qrc, .inr (4, [.ref qrca])), (qrca, .inl (cI, 500, .inl r_cn)), (qrn, .inr (4, [.ref qrna])), (qrna, .inl (cI, 500, .inl r_nx)), (qro, .inr (4, [.ref qroa])), (qroa, .inl (cI, 250, .inl r_og)), (qrl, .inr (4, [.ref qrla])), (qrla, .inl (cI, 250, .inl r_li)), (qrf, .inr (4, [.ref qrfa])), (qrfa, .inl (cI, 250, .inl r_fl))] sz)) 0 0 (va_A [(q, .inr (8, [.ref qs, .ref qr, .ref qi, .ref qp, .ref qu, .ref qk, .ref qq, .ref q1, .ref q2, .int kn])), (qs, .inr (5, [.ref qsr])), (qsr, .inr (4, [.ref qsa])), (qsa, .inl (cI, 5, .inl s_sv)), (qr, .inr (2, [.ref qs, .ref qrc, .ref qrn, .ref qro, .ref qrl, .ref qrf, .int r_st, .int r_he, .int r_ta, .int r_cl, .int r_dr])), (qrc, .inr (4, [.ref qrca])), (qrca, .inl (cI, 500, .inl r_cn)), (qrn, .inr (4, [.ref qrna])), (qrna, .inl (cI, 500, .inl r_nx)), (qro, .inr (4, [.ref qroa])), (qroa, .inl (cI, 250, .inl r_og)), (qrl, .inr (4, [.ref qrla])), (qrla, .inl (cI, 250, .inl r_li)), (qrf, .inr (4, [.ref qrfa])), (qrfa, .inl (cI, 250, .inl r_fl))] sz) := by
  refine k_rw (y := yX8_renew) (cc := cX8_renew) (maxL := 1) (ret := (some .int)) (As := [.ref q]) (Qc := fun A => va_Qi (fun x (_ : Unit) => x = r) (gz D A [(q, .inr (8, [.ref qs, .ref qr, .ref qi, .ref qp, .ref qu, .ref qk, .ref qq, .ref q1, .ref q2, .int kn])), (qs, .inr (5, [.ref qsr])), (qsr, .inr (4, [.ref qsa])), (qsa, .inl (cI, 5, .inl s_sv)), (qr, .inr (2, [.ref qs, .ref qrc, .ref qrn, .ref qro, .ref qrl, .ref qrf, .int o_r_st, .int o_r_he, .int o_r_ta, .int o_r_cl, .int o_r_dr])), (qrc, .inr (4, [.ref qrca])), (qrca, .inl (cI, 500, .inl o_r_cn)), (qrn, .inr (4, [.ref qrna])), (qrna, .inl (cI, 500, .inl o_r_nx)), (qro, .inr (4, [.ref qroa])), (qroa, .inl (cI, 250, .inl o_r_og)), (qrl, .inr (4, [.ref qrla])), (qrla, .inl (cI, 250, .inl o_r_li)), (qrf, .inr (4, [.ref qrfa])), (qrfa, .inl (cI, 250, .inl r_fl))]) A) (by decide) rfl (Nat.le_of_ble_eq_true rfl) rfl ?_
  intro p e s m below meth c ls A S hret hloc hK hN hSF hP hD hS hA hl
  obtain ⟨hx, hb, hml, hown, hts⟩ := id S
  unfold f_X8_renew at hf
  refine lv_aload_n hx hb dX8_renew_0 rfl (lv_at hl 0 rfl) ?_
  refine va_get (D := D) (ci := 8) (v := .ref qr) (C := RX8) (T := TX8) (N := 10) hx hb hts inGX8 hown hK hP 0 rfl rfl 1 (by decide) (hts _ fl_X8_21) (fun _ h9 => h9) rfl dX8_renew_1 ?_
  obtain ⟨r_st_1, r_he_2, r_ta_3, r_cl_4, r_dr_5, r_cn_6, r_nx_7, r_og_8, r_li_9, hc_10, hf⟩ := bd9 hf
  refine k_rwVv (As := []) (rest := []) (Wr := [(q, .inr (8, [.ref qs, .ref qr, .ref qi, .ref qp, .ref qu, .ref qk, .ref qq, .ref q1, .ref q2, .int kn]))]) (W2 := [(q, .inr (8, [.ref qs, .ref qr, .ref qi, .ref qp, .ref qu, .ref qk, .ref qq, .ref q1, .ref q2, .int kn])), (qs, .inr (5, [.ref qsr])), (qsr, .inr (4, [.ref qsa])), (qsa, .inl (cI, 5, .inl s_sv)), (qr, .inr (2, [.ref qs, .ref qrc, .ref qrn, .ref qro, .ref qrl, .ref qrf, .int r_st_1, .int r_he_2, .int r_ta_3, .int r_cl_4, .int r_dr_5])), (qrc, .inr (4, [.ref qrca])), (qrca, .inl (cI, 500, .inl r_cn_6)), (qrn, .inr (4, [.ref qrna])), (qrna, .inl (cI, 500, .inl r_nx_7)), (qro, .inr (4, [.ref qroa])), (qroa, .inl (cI, 250, .inl r_og_8)), (qrl, .inr (4, [.ref qrla])), (qrla, .inl (cI, 250, .inl r_li_9)), (qrf, .inr (4, [.ref qrfa])), (qrfa, .inl (cI, 250, .inl r_fl))]) S (c_X2_begin l D cI (q := qr) (qs := qs) (qc := qrc) (qn := qrn) (qo := qro) (ql := qrl) (qf := qrf) (qca := qrca) (qna := qrna) (qoa := qroa) (qla := qrla) (qfa := qrfa) (qsr := qsr) (qsa := qsa) (st := r_st) (he := r_he) (ta := r_ta) (cl := r_cl) (dr := r_dr) (cn := r_cn) (nx := r_nx) (og := r_og) (li := r_li) (fl := r_fl) (sv := s_sv)  (o_st := r_st_1) (o_he := r_he_2) (o_ta := r_ta_3) (o_cl := r_cl_4) (o_dr := r_dr_5) (o_cn := r_cn_6) (o_nx := r_nx_7) (o_og := r_og_8) (o_li := r_li_9) (hf := hc_10)) gs_X8_82 ok_X2_begin ⟨rfl, rfl⟩ ⟨Nat.le_of_ble_eq_true rfl, Nat.le_of_ble_eq_true rfl⟩ hK hN hSF hP hD hS hA [4, 5, 6, 7, 8, 9, 10, 11, 12, 13, 14, 1, 2, 3] [0] [0, 12, 13, 14, 1, 2, 3, 4, 5, 6, 7, 8, 9, 10, 11] (by decide) rfl rfl (by decide) (by decide) rfl (by decide) rfl rfl rfl hl.1 rfl (Nat.le_of_ble_eq_true rfl) ⟨Nat.zero_le _, Nat.zero_le _⟩ dX8_renew_4 (fun H locs hP hD hS => ?_)
  refine lv_aload_n hx hb dX8_renew_7 rfl (lv_at hl 0 rfl) ?_
  refine va_get (D := D) (ci := 8) (v := .ref qr) (C := RX8) (T := TX8) (N := 10) hx hb hts inGX8 hown hK hP 0 rfl rfl 1 (by decide) (hts _ fl_X8_21) (fun _ h9 => h9) rfl dX8_renew_8 ?_
  refine va_getN (D := D) (ci := 2) (v := .int r_st_1) (C := RX2) (T := TX2) (N := 11) hx hb hts inGX2 hown hK hP 4 rfl rfl 6 (by decide) (va_Nw.use rfl (nf_X8_85 hN)) (fun _ h9 => h9) rfl dX8_renew_11 ?_
  obtain ⟨e_0, e_r⟩ := Prod.mk.inj (Option.some.inj hf)
  obtain ⟨e_1, e_r⟩ := Prod.mk.inj (e_r)
  obtain ⟨e_2, e_r⟩ := Prod.mk.inj (e_r)
  obtain ⟨e_3, e_r⟩ := Prod.mk.inj (e_r)
  obtain ⟨e_4, e_r⟩ := Prod.mk.inj (e_r)
  obtain ⟨e_5, e_r⟩ := Prod.mk.inj (e_r)
  obtain ⟨e_6, e_r⟩ := Prod.mk.inj (e_r)
  obtain ⟨e_7, e_r⟩ := Prod.mk.inj (e_r)
  obtain ⟨e_8, e_9⟩ := Prod.mk.inj (e_r)
  subst e_0
  subst e_1
  subst e_2
  subst e_3
  subst e_4
  subst e_5
  subst e_6
  subst e_7
  subst e_8
  subst e_9
  exact k_wreti hx hb hret hloc rfl hP hD hS dX8_renew_14
theorem dX8_write_0 : decode cX8_write 0 = .ok (.iload_n 1, 1) := by decide +kernel
theorem dX8_write_1 : decode cX8_write 1 = .ok (.invokestatic 88, 3) := by decide +kernel
theorem dX8_write_4 : decode cX8_write 4 = .ok (.ifCond .ne 5, 3) := by decide +kernel
theorem dX8_write_7 : decode cX8_write 7 = .ok (.iconst (-1), 1) := by decide +kernel
theorem dX8_write_8 : decode cX8_write 8 = .ok (.ireturn, 1) := by decide +kernel
theorem dX8_write_9 : decode cX8_write 9 = .ok (.aload_n 0, 1) := by decide +kernel
theorem dX8_write_10 : decode cX8_write 10 = .ok (.getfield 30, 3) := by decide +kernel
theorem dX8_write_13 : decode cX8_write 13 = .ok (.invokevirtual 92, 3) := by decide +kernel
theorem dX8_write_16 : decode cX8_write 16 = .ok (.bipush 60, 2) := by decide +kernel
theorem dX8_write_18 : decode cX8_write 18 = .ok (.if_icmp .lt 6, 3) := by decide +kernel
theorem dX8_write_21 : decode cX8_write 21 = .ok (.bipush (-3), 2) := by decide +kernel
theorem dX8_write_23 : decode cX8_write 23 = .ok (.ireturn, 1) := by decide +kernel
theorem dX8_write_24 : decode cX8_write 24 = .ok (.aload_n 0, 1) := by decide +kernel
theorem dX8_write_25 : decode cX8_write 25 = .ok (.getfield 30, 3) := by decide +kernel
theorem dX8_write_28 : decode cX8_write 28 = .ok (.iload_n 1, 1) := by decide +kernel
theorem dX8_write_29 : decode cX8_write 29 = .ok (.invokevirtual 96, 3) := by decide +kernel
theorem dX8_write_32 : decode cX8_write 32 = .ok (.aload_n 0, 1) := by decide +kernel
theorem dX8_write_33 : decode cX8_write 33 = .ok (.getfield 30, 3) := by decide +kernel
theorem dX8_write_36 : decode cX8_write 36 = .ok (.invokevirtual 92, 3) := by decide +kernel
theorem dX8_write_39 : decode cX8_write 39 = .ok (.ireturn, 1) := by decide +kernel
theorem ok_X8_isByte : okS yX8_isByte 1 := by decide +kernel
theorem gs_X8_88 : GoodIn wsG (va_wsS RX8 88 yX8_isByte (.code yX8_isByte cX8_isByte 1 (some .boolean) :: wsG)) := good_S ml_X8_88 st_X8_isByte ini_X8 co_X8_isByte
theorem gs_X8_92 : GoodIn wsG (wsV RX8 92 RX0 yX0_length (.code yX0_length cX0_length 1 (some .int) :: wsG)) := good_V ml_X8_92 im_X0_length se_X0_length ini_X0 co_X0_length
theorem gs_X8_96 : GoodIn wsG (wsV RX8 96 RX0 yX0_add (.code yX0_add cX0_add 2 none :: wsG)) := good_V ml_X8_96 im_X0_add se_X0_add ini_X0 co_X0_add
def f_X8_write (i_room : Int32) (i_len : Int32) (i_bs : (Nat → Int32)) (x1 : Int32) : Option (Int32 × Int32 × (Nat → Int32)) := if (f_X8_isByte x1) = 0 then (some ((-1 : Int32), i_len, i_bs)) else (if (f_X0_length i_len) < 60 then (bi2 (f_X0_add 60 i_room i_len i_bs x1) (fun (i_len_3 : Int32) (i_bs_4 : (Nat → Int32)) => some ((f_X0_length i_len_3), i_len_3, i_bs_4))) else (some ((-3 : Int32), i_len, i_bs)))
set_option maxHeartbeats 4000000 in
set_option maxRecDepth 100000 in
theorem c_X8_write (l : Launch) (D : va_G) (cI : ClassId) {sz : Nat} (q : Nat) (qs : Nat) (qr : Nat) (qi : Nat) (qp : Nat) (qu : Nat) (qk : Nat) (qq : Nat) (q1 : Nat) (q2 : Nat) (qir : Nat) (qia : Nat) (kn : Int32) (i_room : Int32) (i_len : Int32) (i_bs : (Nat → Int32)) (x1 : Int32) (r : Int32) (o_i_len : Int32) (o_i_bs : (Nat → Int32)) (hf : f_X8_write i_room i_len i_bs x1 = some (r, o_i_len, o_i_bs)) : Met l yX8_write (.code yX8_write cX8_write 2 (some .int) :: wsG) ({ frames := 2, cells := 0, slots := 0, locals := 43 }) (va_Pc [.ref q, .int x1] (gv D cI sz [(q, .inr (8, [.ref qs, .ref qr, .ref qi, .ref qp, .ref qu, .ref qk, .ref qq, .ref q1, .ref q2, .int kn])), (qi, .inr (0, [.ref qir, .int i_room, .int i_len])), (qir, .inr (4, [.ref qia])), (qia, .inl (cI, 60, .inl i_bs))])) (va_Qi (fun x (_ : Unit) => x = r) (gz D (va_A [(q, .inr (8, [.ref qs, .ref qr, .ref qi, .ref qp, .ref qu, .ref qk, .ref qq, .ref q1, .ref q2, .int kn])), (qi, .inr (0, [.ref qir, .int i_room, .int i_len])), (qir, .inr (4, [.ref qia])), (qia, .inl (cI, 60, .inl i_bs))] sz) [(q, .inr (8, [.ref qs, .ref qr, .ref qi, .ref qp, .ref qu, .ref qk, .ref qq, .ref q1, .ref q2, .int kn])), (qi, .inr (0, [.ref qir, .int i_room, .int o_i_len])), (qir, .inr (4, [.ref qia])), (qia, .inl (cI, 60, .inl o_i_bs))]) (va_A [(q, .inr (8, [.ref qs, .ref qr, .ref qi, .ref qp, .ref qu, .ref qk, .ref qq, .ref q1, .ref q2, .int kn])), (qi, .inr (0, [.ref qir, .int i_room, .int i_len])), (qir, .inr (4, [.ref qia])), (qia, .inl (cI, 60, .inl i_bs))] sz)) 0 0 (va_A [(q, .inr (8, [.ref qs, .ref qr, .ref qi, .ref qp, .ref qu, .ref qk, .ref qq, .ref q1, .ref q2, .int kn])), (qi, .inr (0, [.ref qir, .int i_room, .int i_len])), (qir, .inr (4, [.ref qia])), (qia, .inl (cI, 60, .inl i_bs))] sz) := by
  refine k_rw (y := yX8_write) (cc := cX8_write) (maxL := 2) (ret := (some .int)) (As := [.ref q, .int x1]) (Qc := fun A => va_Qi (fun x (_ : Unit) => x = r) (gz D A [(q, .inr (8, [.ref qs, .ref qr, .ref qi, .ref qp, .ref qu, .ref qk, .ref qq, .ref q1, .ref q2, .int kn])), (qi, .inr (0, [.ref qir, .int i_room, .int o_i_len])), (qir, .inr (4, [.ref qia])), (qia, .inl (cI, 60, .inl o_i_bs))]) A) (by decide) rfl (Nat.le_of_ble_eq_true rfl) rfl ?_
  intro p e s m below meth c ls A S hret hloc hK hN hSF hP hD hS hA hl
  obtain ⟨hx, hb, hml, hown, hts⟩ := id S
  unfold f_X8_write at hf
  refine lv_iload_n hx hb dX8_write_0 rfl (lv_at hl 1 rfl) ?_
  refine k_roSi (As := [.int x1]) (rest := []) S (c_X8_isByte l D cI (x1 := x1)  (r := (f_X8_isByte x1)) (hf := rfl)) gs_X8_88 ok_X8_isByte ⟨rfl, rfl⟩ ⟨Nat.le_of_ble_eq_true rfl, Nat.le_of_ble_eq_true rfl⟩ hK hN (sfr hSF hS) (hP.sub [] rfl) rfl hl.1 rfl (Nat.le_of_ble_eq_true rfl) ⟨Nat.zero_le _, Nat.zero_le _⟩ dX8_write_1 ?_
  refine lv_if_ne (tgt := 9) hx hb dX8_write_4 (by decide) (fun c_1 => ?_) (fun c_1 => ?_)
  · rw [if_neg c_1] at hf
    refine lv_aload_n hx hb dX8_write_9 rfl (lv_at hl 0 rfl) ?_
    refine va_get (D := D) (ci := 8) (v := .ref qi) (C := RX8) (T := TX8) (N := 10) hx hb hts inGX8 hown hK hP 0 rfl rfl 2 (by decide) (hts _ fl_X8_30) (fun _ h9 => h9) rfl dX8_write_10 ?_
    refine k_roVi (As := []) (rest := []) S (c_X0_length l D cI (q := qi) (qr := qir) (qa := qia) (n := 60) (room := i_room) (len := i_len) (bs := i_bs) (hn := by decide) (r := (f_X0_length i_len)) (hf := rfl)) gs_X8_92 ok_X0_length ⟨rfl, rfl⟩ ⟨Nat.le_of_ble_eq_true rfl, Nat.le_of_ble_eq_true rfl⟩ hK hN (sfr hSF hS) (hP.sub [1, 2, 3] rfl) rfl rfl rfl hl.1 rfl (Nat.le_of_ble_eq_true rfl) ⟨Nat.zero_le _, Nat.zero_le _⟩ dX8_write_13 ?_
    refine lv_bipush (v := 60) hx hb dX8_write_16 (by decide) ?_
    refine lv_icmp_lt (tgt := 24) hx hb dX8_write_18 (by decide) (fun c_2 => ?_) (fun c_2 => ?_)
    · rw [if_pos c_2] at hf
      refine lv_aload_n hx hb dX8_write_24 rfl (lv_at hl 0 rfl) ?_
      refine va_get (D := D) (ci := 8) (v := .ref qi) (C := RX8) (T := TX8) (N := 10) hx hb hts inGX8 hown hK hP 0 rfl rfl 2 (by decide) (hts _ fl_X8_30) (fun _ h9 => h9) rfl dX8_write_25 ?_
      refine lv_iload_n hx hb dX8_write_28 rfl (lv_at hl 1 rfl) ?_
      obtain ⟨i_len_3, i_bs_4, hc_5, hf⟩ := bd2 hf
      refine k_rwVv (As := [.int x1]) (rest := []) (Wr := [(q, .inr (8, [.ref qs, .ref qr, .ref qi, .ref qp, .ref qu, .ref qk, .ref qq, .ref q1, .ref q2, .int kn]))]) (W2 := [(q, .inr (8, [.ref qs, .ref qr, .ref qi, .ref qp, .ref qu, .ref qk, .ref qq, .ref q1, .ref q2, .int kn])), (qi, .inr (0, [.ref qir, .int i_room, .int i_len_3])), (qir, .inr (4, [.ref qia])), (qia, .inl (cI, 60, .inl i_bs_4))]) S (c_X0_add l D cI (q := qi) (qr := qir) (qa := qia) (n := 60) (room := i_room) (len := i_len) (bs := i_bs) (x1 := x1) (hn := by decide) (o_len := i_len_3) (o_bs := i_bs_4) (hf := hc_5)) gs_X8_96 ok_X0_add ⟨rfl, rfl⟩ ⟨Nat.le_of_ble_eq_true rfl, Nat.le_of_ble_eq_true rfl⟩ hK hN hSF hP hD hS hA [1, 2, 3] [0] [0, 1, 2, 3] (by decide) rfl rfl (by decide) (by decide) rfl (by decide) rfl rfl rfl hl.1 rfl (Nat.le_of_ble_eq_true rfl) ⟨Nat.zero_le _, Nat.zero_le _⟩ dX8_write_29 (fun H locs hP hD hS => ?_)
      refine lv_aload_n hx hb dX8_write_32 rfl (lv_at hl 0 rfl) ?_
      refine va_get (D := D) (ci := 8) (v := .ref qi) (C := RX8) (T := TX8) (N := 10) hx hb hts inGX8 hown hK hP 0 rfl rfl 2 (by decide) (hts _ fl_X8_30) (fun _ h9 => h9) rfl dX8_write_33 ?_
      refine k_roVi (As := []) (rest := []) S (c_X0_length l D cI (q := qi) (qr := qir) (qa := qia) (n := 60) (room := i_room) (len := i_len_3) (bs := i_bs_4) (hn := by decide) (r := (f_X0_length i_len_3)) (hf := rfl)) gs_X8_92 ok_X0_length ⟨rfl, rfl⟩ ⟨Nat.le_of_ble_eq_true rfl, Nat.le_of_ble_eq_true rfl⟩ hK hN (sfr hSF hS) (hP.sub [1, 2, 3] rfl) rfl rfl rfl hl.1 rfl (Nat.le_of_ble_eq_true rfl) ⟨Nat.zero_le _, Nat.zero_le _⟩ dX8_write_36 ?_
      obtain ⟨e_0, e_r⟩ := Prod.mk.inj (Option.some.inj hf)
      obtain ⟨e_1, e_2⟩ := Prod.mk.inj (e_r)
      subst e_0
      subst e_1
      subst e_2
      exact k_wreti hx hb hret hloc rfl hP hD hS dX8_write_39
    · rw [if_neg c_2] at hf
      refine lv_bipush (v := (-3)) hx hb dX8_write_21 (by decide) ?_
      obtain ⟨e_0, e_r⟩ := Prod.mk.inj (Option.some.inj hf)
      obtain ⟨e_1, e_2⟩ := Prod.mk.inj (e_r)
      subst e_0
      subst e_1
      subst e_2
      exact k_wreti hx hb hret hloc rfl hP hD hS dX8_write_23
  · rw [if_pos c_1] at hf
    refine lv_iconst (v := (-1)) hx hb dX8_write_7 (by decide) ?_
    obtain ⟨e_0, e_r⟩ := Prod.mk.inj (Option.some.inj hf)
    obtain ⟨e_1, e_2⟩ := Prod.mk.inj (e_r)
    subst e_0
    subst e_1
    subst e_2
    exact k_wreti hx hb hret hloc rfl hP hD hS dX8_write_8
theorem dX8_wipe_0 : decode cX8_wipe 0 = .ok (.aload_n 0, 1) := by decide +kernel
theorem dX8_wipe_1 : decode cX8_wipe 1 = .ok (.getfield 30, 3) := by decide +kernel
theorem dX8_wipe_4 : decode cX8_wipe 4 = .ok (.invokevirtual 92, 3) := by decide +kernel
theorem dX8_wipe_7 : decode cX8_wipe 7 = .ok (.istore_n 1, 1) := by decide +kernel
theorem dX8_wipe_8 : decode cX8_wipe 8 = .ok (.aload_n 0, 1) := by decide +kernel
theorem dX8_wipe_9 : decode cX8_wipe 9 = .ok (.getfield 30, 3) := by decide +kernel
theorem dX8_wipe_12 : decode cX8_wipe 12 = .ok (.invokevirtual 99, 3) := by decide +kernel
theorem dX8_wipe_15 : decode cX8_wipe 15 = .ok (.iload_n 1, 1) := by decide +kernel
theorem dX8_wipe_16 : decode cX8_wipe 16 = .ok (.ireturn, 1) := by decide +kernel
theorem gs_X8_99 : GoodIn wsG (wsV RX8 99 RX0 yX0_clear (.code yX0_clear cX0_clear 1 none :: wsG)) := good_V ml_X8_99 im_X0_clear se_X0_clear ini_X0 co_X0_clear
def f_X8_wipe (i_len : Int32) : Option (Int32 × Int32) := some ((f_X0_length i_len), f_X0_clear)
set_option maxHeartbeats 4000000 in
set_option maxRecDepth 100000 in
theorem c_X8_wipe (l : Launch) (D : va_G) (cI : ClassId) {sz : Nat} (q : Nat) (qs : Nat) (qr : Nat) (qi : Nat) (qp : Nat) (qu : Nat) (qk : Nat) (qq : Nat) (q1 : Nat) (q2 : Nat) (qir : Nat) (qia : Nat) (kn : Int32) (i_room : Int32) (i_len : Int32) (i_bs : (Nat → Int32)) (r : Int32) (o_i_len : Int32) (hf : f_X8_wipe i_len = some (r, o_i_len)) : Met l yX8_wipe (.code yX8_wipe cX8_wipe 2 (some .int) :: wsG) ({ frames := 1, cells := 0, slots := 0, locals := 20 }) (va_Pc [.ref q] (gv D cI sz [(q, .inr (8, [.ref qs, .ref qr, .ref qi, .ref qp, .ref qu, .ref qk, .ref qq, .ref q1, .ref q2, .int kn])), (qi, .inr (0, [.ref qir, .int i_room, .int i_len])), (qir, .inr (4, [.ref qia])), (qia, .inl (cI, 60, .inl i_bs))])) (va_Qi (fun x (_ : Unit) => x = r) (gz D (va_A [(q, .inr (8, [.ref qs, .ref qr, .ref qi, .ref qp, .ref qu, .ref qk, .ref qq, .ref q1, .ref q2, .int kn])), (qi, .inr (0, [.ref qir, .int i_room, .int i_len])), (qir, .inr (4, [.ref qia])), (qia, .inl (cI, 60, .inl i_bs))] sz) [(q, .inr (8, [.ref qs, .ref qr, .ref qi, .ref qp, .ref qu, .ref qk, .ref qq, .ref q1, .ref q2, .int kn])), (qi, .inr (0, [.ref qir, .int i_room, .int o_i_len])), (qir, .inr (4, [.ref qia])), (qia, .inl (cI, 60, .inl i_bs))]) (va_A [(q, .inr (8, [.ref qs, .ref qr, .ref qi, .ref qp, .ref qu, .ref qk, .ref qq, .ref q1, .ref q2, .int kn])), (qi, .inr (0, [.ref qir, .int i_room, .int i_len])), (qir, .inr (4, [.ref qia])), (qia, .inl (cI, 60, .inl i_bs))] sz)) 0 0 (va_A [(q, .inr (8, [.ref qs, .ref qr, .ref qi, .ref qp, .ref qu, .ref qk, .ref qq, .ref q1, .ref q2, .int kn])), (qi, .inr (0, [.ref qir, .int i_room, .int i_len])), (qir, .inr (4, [.ref qia])), (qia, .inl (cI, 60, .inl i_bs))] sz) := by
  refine k_rw (y := yX8_wipe) (cc := cX8_wipe) (maxL := 2) (ret := (some .int)) (As := [.ref q]) (Qc := fun A => va_Qi (fun x (_ : Unit) => x = r) (gz D A [(q, .inr (8, [.ref qs, .ref qr, .ref qi, .ref qp, .ref qu, .ref qk, .ref qq, .ref q1, .ref q2, .int kn])), (qi, .inr (0, [.ref qir, .int i_room, .int o_i_len])), (qir, .inr (4, [.ref qia])), (qia, .inl (cI, 60, .inl i_bs))]) A) (by decide) rfl (Nat.le_of_ble_eq_true rfl) rfl ?_
  intro p e s m below meth c ls A S hret hloc hK hN hSF hP hD hS hA hl
  obtain ⟨hx, hb, hml, hown, hts⟩ := id S
  unfold f_X8_wipe at hf
  refine lv_aload_n hx hb dX8_wipe_0 rfl (lv_at hl 0 rfl) ?_
  refine va_get (D := D) (ci := 8) (v := .ref qi) (C := RX8) (T := TX8) (N := 10) hx hb hts inGX8 hown hK hP 0 rfl rfl 2 (by decide) (hts _ fl_X8_30) (fun _ h9 => h9) rfl dX8_wipe_1 ?_
  refine k_roVi (As := []) (rest := []) S (c_X0_length l D cI (q := qi) (qr := qir) (qa := qia) (n := 60) (room := i_room) (len := i_len) (bs := i_bs) (hn := by decide) (r := (f_X0_length i_len)) (hf := rfl)) gs_X8_92 ok_X0_length ⟨rfl, rfl⟩ ⟨Nat.le_of_ble_eq_true rfl, Nat.le_of_ble_eq_true rfl⟩ hK hN (sfr hSF hS) (hP.sub [1, 2, 3] rfl) rfl rfl rfl hl.1 rfl (Nat.le_of_ble_eq_true rfl) ⟨Nat.zero_le _, Nat.zero_le _⟩ dX8_wipe_4 ?_
  refine lv_istore_n (lv' := [(1, .int (f_X0_length i_len)), (0, .ref q)]) hx hb dX8_wipe_7 rfl hl (by decide) rfl (fun ls hl => ?_)
  refine lv_aload_n hx hb dX8_wipe_8 rfl (lv_at hl 1 rfl) ?_
  refine va_get (D := D) (ci := 8) (v := .ref qi) (C := RX8) (T := TX8) (N := 10) hx hb hts inGX8 hown hK hP 0 rfl rfl 2 (by decide) (hts _ fl_X8_30) (fun _ h9 => h9) rfl dX8_wipe_9 ?_
  refine k_rwVv (As := []) (rest := []) (Wr := [(q, .inr (8, [.ref qs, .ref qr, .ref qi, .ref qp, .ref qu, .ref qk, .ref qq, .ref q1, .ref q2, .int kn]))]) (W2 := [(q, .inr (8, [.ref qs, .ref qr, .ref qi, .ref qp, .ref qu, .ref qk, .ref qq, .ref q1, .ref q2, .int kn])), (qi, .inr (0, [.ref qir, .int i_room, .int f_X0_clear])), (qir, .inr (4, [.ref qia])), (qia, .inl (cI, 60, .inl i_bs))]) S (c_X0_clear l D cI (q := qi) (qr := qir) (qa := qia) (n := 60) (room := i_room) (len := i_len) (bs := i_bs) (hn := by decide) (o_len := f_X0_clear) (hf := rfl)) gs_X8_99 ok_X0_clear ⟨rfl, rfl⟩ ⟨Nat.le_of_ble_eq_true rfl, Nat.le_of_ble_eq_true rfl⟩ hK hN hSF hP hD hS hA [1, 2, 3] [0] [0, 1, 2, 3] (by decide) rfl rfl (by decide) (by decide) rfl (by decide) rfl rfl rfl hl.1 rfl (Nat.le_of_ble_eq_true rfl) ⟨Nat.zero_le _, Nat.zero_le _⟩ dX8_wipe_12 (fun H locs hP hD hS => ?_)
  refine lv_iload_n hx hb dX8_wipe_15 rfl (lv_at hl 0 rfl) ?_
  obtain ⟨e_0, e_1⟩ := Prod.mk.inj (Option.some.inj hf)
  subst e_0
  subst e_1
  exact k_wreti hx hb hret hloc rfl hP hD hS dX8_wipe_16
theorem dX8_spoil_0 : decode cX8_spoil 0 = .ok (.iload_n 1, 1) := by decide +kernel
theorem dX8_spoil_1 : decode cX8_spoil 1 = .ok (.ifCond .lt 10, 3) := by decide +kernel
theorem dX8_spoil_4 : decode cX8_spoil 4 = .ok (.iload_n 2, 1) := by decide +kernel
theorem dX8_spoil_5 : decode cX8_spoil 5 = .ok (.invokestatic 88, 3) := by decide +kernel
theorem dX8_spoil_8 : decode cX8_spoil 8 = .ok (.ifCond .ne 5, 3) := by decide +kernel
theorem dX8_spoil_11 : decode cX8_spoil 11 = .ok (.iconst (-1), 1) := by decide +kernel
theorem dX8_spoil_12 : decode cX8_spoil 12 = .ok (.ireturn, 1) := by decide +kernel
theorem dX8_spoil_13 : decode cX8_spoil 13 = .ok (.iload_n 1, 1) := by decide +kernel
theorem dX8_spoil_14 : decode cX8_spoil 14 = .ok (.aload_n 0, 1) := by decide +kernel
theorem dX8_spoil_15 : decode cX8_spoil 15 = .ok (.getfield 34, 3) := by decide +kernel
theorem dX8_spoil_18 : decode cX8_spoil 18 = .ok (.invokevirtual 92, 3) := by decide +kernel
theorem dX8_spoil_21 : decode cX8_spoil 21 = .ok (.if_icmp .lt 6, 3) := by decide +kernel
theorem dX8_spoil_24 : decode cX8_spoil 24 = .ok (.bipush (-4), 2) := by decide +kernel
theorem dX8_spoil_26 : decode cX8_spoil 26 = .ok (.ireturn, 1) := by decide +kernel
theorem dX8_spoil_27 : decode cX8_spoil 27 = .ok (.aload_n 0, 1) := by decide +kernel
theorem dX8_spoil_28 : decode cX8_spoil 28 = .ok (.getfield 34, 3) := by decide +kernel
theorem dX8_spoil_31 : decode cX8_spoil 31 = .ok (.iload_n 1, 1) := by decide +kernel
theorem dX8_spoil_32 : decode cX8_spoil 32 = .ok (.invokevirtual 105, 3) := by decide +kernel
theorem dX8_spoil_35 : decode cX8_spoil 35 = .ok (.istore_n 3, 1) := by decide +kernel
theorem dX8_spoil_36 : decode cX8_spoil 36 = .ok (.iload_n 3, 1) := by decide +kernel
theorem dX8_spoil_37 : decode cX8_spoil 37 = .ok (.iload_n 2, 1) := by decide +kernel
theorem dX8_spoil_38 : decode cX8_spoil 38 = .ok (.if_icmp .ne 6, 3) := by decide +kernel
theorem dX8_spoil_41 : decode cX8_spoil 41 = .ok (.bipush (-2), 2) := by decide +kernel
theorem dX8_spoil_43 : decode cX8_spoil 43 = .ok (.ireturn, 1) := by decide +kernel
theorem dX8_spoil_44 : decode cX8_spoil 44 = .ok (.aload_n 0, 1) := by decide +kernel
theorem dX8_spoil_45 : decode cX8_spoil 45 = .ok (.getfield 34, 3) := by decide +kernel
theorem dX8_spoil_48 : decode cX8_spoil 48 = .ok (.iload_n 1, 1) := by decide +kernel
theorem dX8_spoil_49 : decode cX8_spoil 49 = .ok (.iload_n 2, 1) := by decide +kernel
theorem dX8_spoil_50 : decode cX8_spoil 50 = .ok (.invokevirtual 119, 3) := by decide +kernel
theorem dX8_spoil_53 : decode cX8_spoil 53 = .ok (.iload_n 3, 1) := by decide +kernel
theorem dX8_spoil_54 : decode cX8_spoil 54 = .ok (.ireturn, 1) := by decide +kernel
theorem gs_X8_105 : GoodIn wsG (wsV RX8 105 RX0 yX0_get (.code yX0_get cX0_get 2 (some .int) :: wsG)) := good_V ml_X8_105 im_X0_get se_X0_get ini_X0 co_X0_get
theorem ok_X0_put : okV yX0_put RX0 2 := by decide +kernel
theorem gs_X8_119 : GoodIn wsG (wsV RX8 119 RX0 yX0_put (.code yX0_put cX0_put 3 none :: wsG)) := good_V ml_X8_119 im_X0_put se_X0_put ini_X0 co_X0_put
def f_X8_spoil (p_len : Int32) (p_bs : (Nat → Int32)) (x1 : Int32) (x2 : Int32) : Option (Int32 × (Nat → Int32)) := if x1 < 0 then (some ((-1 : Int32), p_bs)) else (if (f_X8_isByte x2) = 0 then (some ((-1 : Int32), p_bs)) else (if x1 < (f_X0_length p_len) then (if (f_X0_get 1924 p_len p_bs x1) = x2 then (some ((-2 : Int32), p_bs)) else (some ((f_X0_get 1924 p_len p_bs x1), (f_X0_put 1924 p_bs x1 x2)))) else (some ((-4 : Int32), p_bs))))
set_option maxHeartbeats 4000000 in
set_option maxRecDepth 100000 in
theorem c_X8_spoil (l : Launch) (D : va_G) (cI : ClassId) {sz : Nat} (q : Nat) (qs : Nat) (qr : Nat) (qi : Nat) (qp : Nat) (qu : Nat) (qk : Nat) (qq : Nat) (q1 : Nat) (q2 : Nat) (qpr : Nat) (qpa : Nat) (kn : Int32) (p_room : Int32) (p_len : Int32) (p_bs : (Nat → Int32)) (x1 : Int32) (x2 : Int32) (r : Int32) (o_p_bs : (Nat → Int32)) (hf : f_X8_spoil p_len p_bs x1 x2 = some (r, o_p_bs)) : Met l yX8_spoil (.code yX8_spoil cX8_spoil 4 (some .int) :: wsG) ({ frames := 2, cells := 0, slots := 0, locals := 44 }) (va_Pc [.ref q, .int x1, .int x2] (gv D cI sz [(q, .inr (8, [.ref qs, .ref qr, .ref qi, .ref qp, .ref qu, .ref qk, .ref qq, .ref q1, .ref q2, .int kn])), (qp, .inr (0, [.ref qpr, .int p_room, .int p_len])), (qpr, .inr (4, [.ref qpa])), (qpa, .inl (cI, 1924, .inl p_bs))])) (va_Qi (fun x (_ : Unit) => x = r) (gz D (va_A [(q, .inr (8, [.ref qs, .ref qr, .ref qi, .ref qp, .ref qu, .ref qk, .ref qq, .ref q1, .ref q2, .int kn])), (qp, .inr (0, [.ref qpr, .int p_room, .int p_len])), (qpr, .inr (4, [.ref qpa])), (qpa, .inl (cI, 1924, .inl p_bs))] sz) [(q, .inr (8, [.ref qs, .ref qr, .ref qi, .ref qp, .ref qu, .ref qk, .ref qq, .ref q1, .ref q2, .int kn])), (qp, .inr (0, [.ref qpr, .int p_room, .int p_len])), (qpr, .inr (4, [.ref qpa])), (qpa, .inl (cI, 1924, .inl o_p_bs))]) (va_A [(q, .inr (8, [.ref qs, .ref qr, .ref qi, .ref qp, .ref qu, .ref qk, .ref qq, .ref q1, .ref q2, .int kn])), (qp, .inr (0, [.ref qpr, .int p_room, .int p_len])), (qpr, .inr (4, [.ref qpa])), (qpa, .inl (cI, 1924, .inl p_bs))] sz)) 0 0 (va_A [(q, .inr (8, [.ref qs, .ref qr, .ref qi, .ref qp, .ref qu, .ref qk, .ref qq, .ref q1, .ref q2, .int kn])), (qp, .inr (0, [.ref qpr, .int p_room, .int p_len])), (qpr, .inr (4, [.ref qpa])), (qpa, .inl (cI, 1924, .inl p_bs))] sz) := by
  refine k_rw (y := yX8_spoil) (cc := cX8_spoil) (maxL := 4) (ret := (some .int)) (As := [.ref q, .int x1, .int x2]) (Qc := fun A => va_Qi (fun x (_ : Unit) => x = r) (gz D A [(q, .inr (8, [.ref qs, .ref qr, .ref qi, .ref qp, .ref qu, .ref qk, .ref qq, .ref q1, .ref q2, .int kn])), (qp, .inr (0, [.ref qpr, .int p_room, .int p_len])), (qpr, .inr (4, [.ref qpa])), (qpa, .inl (cI, 1924, .inl o_p_bs))]) A) (by decide) rfl (Nat.le_of_ble_eq_true rfl) rfl ?_
  intro p e s m below meth c ls A S hret hloc hK hN hSF hP hD hS hA hl
  obtain ⟨hx, hb, hml, hown, hts⟩ := id S
  unfold f_X8_spoil at hf
  refine lv_iload_n hx hb dX8_spoil_0 rfl (lv_at hl 1 rfl) ?_
  refine lv_if_lt (tgt := 11) hx hb dX8_spoil_1 (by decide) (fun c_1 => ?_) (fun c_1 => ?_)
  · rw [if_pos c_1] at hf
    refine lv_iconst (v := (-1)) hx hb dX8_spoil_11 (by decide) ?_
    obtain ⟨e_0, e_1⟩ := Prod.mk.inj (Option.some.inj hf)
    subst e_0
    subst e_1
    exact k_wreti hx hb hret hloc rfl hP hD hS dX8_spoil_12
  · rw [if_neg c_1] at hf
    refine lv_iload_n hx hb dX8_spoil_4 rfl (lv_at hl 2 rfl) ?_
    refine k_roSi (As := [.int x2]) (rest := []) S (c_X8_isByte l D cI (x1 := x2)  (r := (f_X8_isByte x2)) (hf := rfl)) gs_X8_88 ok_X8_isByte ⟨rfl, rfl⟩ ⟨Nat.le_of_ble_eq_true rfl, Nat.le_of_ble_eq_true rfl⟩ hK hN (sfr hSF hS) (hP.sub [] rfl) rfl hl.1 rfl (Nat.le_of_ble_eq_true rfl) ⟨Nat.zero_le _, Nat.zero_le _⟩ dX8_spoil_5 ?_
    refine lv_if_ne (tgt := 13) hx hb dX8_spoil_8 (by decide) (fun c_2 => ?_) (fun c_2 => ?_)
    · rw [if_neg c_2] at hf
      refine lv_iload_n hx hb dX8_spoil_13 rfl (lv_at hl 1 rfl) ?_
      refine lv_aload_n hx hb dX8_spoil_14 rfl (lv_at hl 0 rfl) ?_
      refine va_get (D := D) (ci := 8) (v := .ref qp) (C := RX8) (T := TX8) (N := 10) hx hb hts inGX8 hown hK hP 0 rfl rfl 3 (by decide) (hts _ fl_X8_34) (fun _ h9 => h9) rfl dX8_spoil_15 ?_
      refine k_roVi (As := []) (rest := [.int x1]) S (c_X0_length l D cI (q := qp) (qr := qpr) (qa := qpa) (n := 1924) (room := p_room) (len := p_len) (bs := p_bs) (hn := by decide) (r := (f_X0_length p_len)) (hf := rfl)) gs_X8_92 ok_X0_length ⟨rfl, rfl⟩ ⟨Nat.le_of_ble_eq_true rfl, Nat.le_of_ble_eq_true rfl⟩ hK hN (sfr hSF hS) (hP.sub [1, 2, 3] rfl) rfl rfl rfl hl.1 rfl (Nat.le_of_ble_eq_true rfl) ⟨Nat.zero_le _, Nat.zero_le _⟩ dX8_spoil_18 ?_
      refine lv_icmp_lt (tgt := 27) hx hb dX8_spoil_21 (by decide) (fun c_3 => ?_) (fun c_3 => ?_)
      · rw [if_pos c_3] at hf
        refine lv_aload_n hx hb dX8_spoil_27 rfl (lv_at hl 0 rfl) ?_
        refine va_get (D := D) (ci := 8) (v := .ref qp) (C := RX8) (T := TX8) (N := 10) hx hb hts inGX8 hown hK hP 0 rfl rfl 3 (by decide) (hts _ fl_X8_34) (fun _ h9 => h9) rfl dX8_spoil_28 ?_
        refine lv_iload_n hx hb dX8_spoil_31 rfl (lv_at hl 1 rfl) ?_
        refine k_roVi (As := [.int x1]) (rest := []) S (c_X0_get l D cI (q := qp) (qr := qpr) (qa := qpa) (n := 1924) (room := p_room) (len := p_len) (bs := p_bs) (x1 := x1) (hn := by decide) (r := (f_X0_get 1924 p_len p_bs x1)) (hf := rfl)) gs_X8_105 ok_X0_get ⟨rfl, rfl⟩ ⟨Nat.le_of_ble_eq_true rfl, Nat.le_of_ble_eq_true rfl⟩ hK hN (sfr hSF hS) (hP.sub [1, 2, 3] rfl) rfl rfl rfl hl.1 rfl (Nat.le_of_ble_eq_true rfl) ⟨Nat.zero_le _, Nat.zero_le _⟩ dX8_spoil_32 ?_
        refine lv_istore_n (lv' := [(3, .int (f_X0_get 1924 p_len p_bs x1)), (0, .ref q), (1, .int x1), (2, .int x2)]) hx hb dX8_spoil_35 rfl hl (by decide) rfl (fun ls hl => ?_)
        refine lv_iload_n hx hb dX8_spoil_36 rfl (lv_at hl 0 rfl) ?_
        refine lv_iload_n hx hb dX8_spoil_37 rfl (lv_at hl 3 rfl) ?_
        refine lv_icmp_ne (tgt := 44) hx hb dX8_spoil_38 (by decide) (fun c_4 => ?_) (fun c_4 => ?_)
        · rw [if_neg c_4] at hf
          refine lv_aload_n hx hb dX8_spoil_44 rfl (lv_at hl 1 rfl) ?_
          refine va_get (D := D) (ci := 8) (v := .ref qp) (C := RX8) (T := TX8) (N := 10) hx hb hts inGX8 hown hK hP 0 rfl rfl 3 (by decide) (hts _ fl_X8_34) (fun _ h9 => h9) rfl dX8_spoil_45 ?_
          refine lv_iload_n hx hb dX8_spoil_48 rfl (lv_at hl 2 rfl) ?_
          refine lv_iload_n hx hb dX8_spoil_49 rfl (lv_at hl 3 rfl) ?_
          refine k_rwVv (As := [.int x1, .int x2]) (rest := []) (Wr := [(q, .inr (8, [.ref qs, .ref qr, .ref qi, .ref qp, .ref qu, .ref qk, .ref qq, .ref q1, .ref q2, .int kn]))]) (W2 := [(q, .inr (8, [.ref qs, .ref qr, .ref qi, .ref qp, .ref qu, .ref qk, .ref qq, .ref q1, .ref q2, .int kn])), (qp, .inr (0, [.ref qpr, .int p_room, .int p_len])), (qpr, .inr (4, [.ref qpa])), (qpa, .inl (cI, 1924, .inl (f_X0_put 1924 p_bs x1 x2)))]) S (c_X0_put l D cI (q := qp) (qr := qpr) (qa := qpa) (n := 1924) (room := p_room) (len := p_len) (bs := p_bs) (x1 := x1) (x2 := x2) (hn := by decide) (o_bs := (f_X0_put 1924 p_bs x1 x2)) (hf := rfl)) gs_X8_119 ok_X0_put ⟨rfl, rfl⟩ ⟨Nat.le_of_ble_eq_true rfl, Nat.le_of_ble_eq_true rfl⟩ hK hN hSF hP hD hS hA [1, 2, 3] [0] [0, 1, 2, 3] (by decide) rfl rfl (by decide) (by decide) rfl (by decide) rfl rfl rfl hl.1 rfl (Nat.le_of_ble_eq_true rfl) ⟨Nat.zero_le _, Nat.zero_le _⟩ dX8_spoil_50 (fun H locs hP hD hS => ?_)
          refine lv_iload_n hx hb dX8_spoil_53 rfl (lv_at hl 0 rfl) ?_
          obtain ⟨e_0, e_1⟩ := Prod.mk.inj (Option.some.inj hf)
          subst e_0
          subst e_1
          exact k_wreti hx hb hret hloc rfl hP hD hS dX8_spoil_54
        · rw [if_pos c_4] at hf
          refine lv_bipush (v := (-2)) hx hb dX8_spoil_41 (by decide) ?_
          obtain ⟨e_0, e_1⟩ := Prod.mk.inj (Option.some.inj hf)
          subst e_0
          subst e_1
          exact k_wreti hx hb hret hloc rfl hP hD hS dX8_spoil_43
      · rw [if_neg c_3] at hf
        refine lv_bipush (v := (-4)) hx hb dX8_spoil_24 (by decide) ?_
        obtain ⟨e_0, e_1⟩ := Prod.mk.inj (Option.some.inj hf)
        subst e_0
        subst e_1
        exact k_wreti hx hb hret hloc rfl hP hD hS dX8_spoil_26
    · rw [if_pos c_2] at hf
      refine lv_iconst (v := (-1)) hx hb dX8_spoil_11 (by decide) ?_
      obtain ⟨e_0, e_1⟩ := Prod.mk.inj (Option.some.inj hf)
      subst e_0
      subst e_1
      exact k_wreti hx hb hret hloc rfl hP hD hS dX8_spoil_12
theorem dX8_at_0 : decode cX8_at 0 = .ok (.iload_n 1, 1) := by decide +kernel
theorem dX8_at_1 : decode cX8_at 1 = .ok (.ifCond .lt 12, 3) := by decide +kernel
theorem dX8_at_4 : decode cX8_at 4 = .ok (.iload_n 1, 1) := by decide +kernel
theorem dX8_at_5 : decode cX8_at 5 = .ok (.iconst 2, 1) := by decide +kernel
theorem dX8_at_6 : decode cX8_at 6 = .ok (.if_icmp .gt 7, 3) := by decide +kernel
theorem dX8_at_9 : decode cX8_at 9 = .ok (.iload_n 2, 1) := by decide +kernel
theorem dX8_at_10 : decode cX8_at 10 = .ok (.ifCond .ge 5, 3) := by decide +kernel
theorem dX8_at_13 : decode cX8_at 13 = .ok (.iconst (-1), 1) := by decide +kernel
theorem dX8_at_14 : decode cX8_at 14 = .ok (.ireturn, 1) := by decide +kernel
theorem dX8_at_15 : decode cX8_at 15 = .ok (.iload_n 1, 1) := by decide +kernel
theorem dX8_at_16 : decode cX8_at 16 = .ok (.ifCond .ne 10, 3) := by decide +kernel
theorem dX8_at_19 : decode cX8_at 19 = .ok (.aload_n 0, 1) := by decide +kernel
theorem dX8_at_20 : decode cX8_at 20 = .ok (.getfield 30, 3) := by decide +kernel
theorem dX8_at_23 : decode cX8_at 23 = .ok (.goto 19, 3) := by decide +kernel
theorem dX8_at_26 : decode cX8_at 26 = .ok (.iload_n 1, 1) := by decide +kernel
theorem dX8_at_27 : decode cX8_at 27 = .ok (.iconst 1, 1) := by decide +kernel
theorem dX8_at_28 : decode cX8_at 28 = .ok (.if_icmp .ne 10, 3) := by decide +kernel
theorem dX8_at_31 : decode cX8_at 31 = .ok (.aload_n 0, 1) := by decide +kernel
theorem dX8_at_32 : decode cX8_at 32 = .ok (.getfield 34, 3) := by decide +kernel
theorem dX8_at_35 : decode cX8_at 35 = .ok (.goto 7, 3) := by decide +kernel
theorem dX8_at_38 : decode cX8_at 38 = .ok (.aload_n 0, 1) := by decide +kernel
theorem dX8_at_39 : decode cX8_at 39 = .ok (.getfield 37, 3) := by decide +kernel
theorem dX8_at_42 : decode cX8_at 42 = .ok (.astore_n 3, 1) := by decide +kernel
theorem dX8_at_43 : decode cX8_at 43 = .ok (.iload_n 2, 1) := by decide +kernel
theorem dX8_at_44 : decode cX8_at 44 = .ok (.aload_n 3, 1) := by decide +kernel
theorem dX8_at_45 : decode cX8_at 45 = .ok (.invokevirtual 92, 3) := by decide +kernel
theorem dX8_at_48 : decode cX8_at 48 = .ok (.if_icmp .ge 11, 3) := by decide +kernel
theorem dX8_at_51 : decode cX8_at 51 = .ok (.aload_n 3, 1) := by decide +kernel
theorem dX8_at_52 : decode cX8_at 52 = .ok (.iload_n 2, 1) := by decide +kernel
theorem dX8_at_53 : decode cX8_at 53 = .ok (.invokevirtual 105, 3) := by decide +kernel
theorem dX8_at_56 : decode cX8_at 56 = .ok (.goto 5, 3) := by decide +kernel
theorem dX8_at_59 : decode cX8_at 59 = .ok (.bipush (-4), 2) := by decide +kernel
theorem dX8_at_61 : decode cX8_at 61 = .ok (.ireturn, 1) := by decide +kernel
def f_X8_at (i_len : Int32) (i_bs : (Nat → Int32)) (p_len : Int32) (p_bs : (Nat → Int32)) (u_len : Int32) (u_bs : (Nat → Int32)) (x1 : Int32) (x2 : Int32) : Int32 := if x1 < 0 then ((-1 : Int32)) else (if 2 < x1 then ((-1 : Int32)) else (if 0 ≤ x2 then (if x1 = 0 then (if (f_X0_length i_len) ≤ x2 then ((-4 : Int32)) else ((f_X0_get 60 i_len i_bs x2))) else (if x1 = 1 then (if (f_X0_length p_len) ≤ x2 then ((-4 : Int32)) else ((f_X0_get 1924 p_len p_bs x2))) else (if (f_X0_length u_len) ≤ x2 then ((-4 : Int32)) else ((f_X0_get 60 u_len u_bs x2))))) else ((-1 : Int32))))
set_option maxHeartbeats 4000000 in
set_option maxRecDepth 100000 in
theorem c_X8_at (l : Launch) (D : va_G) (cI : ClassId) (q : Nat) (qs : Nat) (qr : Nat) (qi : Nat) (qp : Nat) (qu : Nat) (qk : Nat) (qq : Nat) (q1 : Nat) (q2 : Nat) (qir : Nat) (qia : Nat) (qpr : Nat) (qpa : Nat) (qur : Nat) (qua : Nat) (kn : Int32) (i_room : Int32) (i_len : Int32) (i_bs : (Nat → Int32)) (p_room : Int32) (p_len : Int32) (p_bs : (Nat → Int32)) (u_room : Int32) (u_len : Int32) (u_bs : (Nat → Int32)) (x1 : Int32) (x2 : Int32) (r : Int32) (hf : f_X8_at i_len i_bs p_len p_bs u_len u_bs x1 x2 = r) : Met l yX8_at (.code yX8_at cX8_at 4 (some .int) :: wsG) ({ frames := 2, cells := 0, slots := 0, locals := 42 }) (va_Pc [.ref q, .int x1, .int x2] (gw D cI [(q, .inr (8, [.ref qs, .ref qr, .ref qi, .ref qp, .ref qu, .ref qk, .ref qq, .ref q1, .ref q2, .int kn])), (qi, .inr (0, [.ref qir, .int i_room, .int i_len])), (qir, .inr (4, [.ref qia])), (qia, .inl (cI, 60, .inl i_bs)), (qp, .inr (0, [.ref qpr, .int p_room, .int p_len])), (qpr, .inr (4, [.ref qpa])), (qpa, .inl (cI, 1924, .inl p_bs)), (qu, .inr (0, [.ref qur, .int u_room, .int u_len])), (qur, .inr (4, [.ref qua])), (qua, .inl (cI, 60, .inl u_bs))])) (vp_Si (fun x => x = r)) 0 0 (fun _ => False) := by
  refine k_ro (by decide) rfl (Nat.le_of_ble_eq_true rfl) rfl ?_
  intro p e s m below meth c ls S hret hloc hK hN hSF hP hl
  obtain ⟨hx, hb, hml, hown, hts⟩ := id S
  unfold f_X8_at at hf
  refine lv_iload_n hx hb dX8_at_0 rfl (lv_at hl 1 rfl) ?_
  refine lv_if_lt (tgt := 13) hx hb dX8_at_1 (by decide) (fun c_1 => ?_) (fun c_1 => ?_)
  · rw [if_pos c_1] at hf
    refine lv_iconst (v := (-1)) hx hb dX8_at_13 (by decide) ?_
    exact k_reti hx hb hret hloc hf dX8_at_14
  · rw [if_neg c_1] at hf
    refine lv_iload_n hx hb dX8_at_4 rfl (lv_at hl 1 rfl) ?_
    refine lv_iconst (v := 2) hx hb dX8_at_5 (by decide) ?_
    refine lv_icmp_gt (tgt := 13) hx hb dX8_at_6 (by decide) (fun c_2 => ?_) (fun c_2 => ?_)
    · rw [if_pos c_2] at hf
      refine lv_iconst (v := (-1)) hx hb dX8_at_13 (by decide) ?_
      exact k_reti hx hb hret hloc hf dX8_at_14
    · rw [if_neg c_2] at hf
      refine lv_iload_n hx hb dX8_at_9 rfl (lv_at hl 2 rfl) ?_
      refine lv_if_ge (tgt := 15) hx hb dX8_at_10 (by decide) (fun c_3 => ?_) (fun c_3 => ?_)
      · rw [if_pos c_3] at hf
        refine lv_iload_n hx hb dX8_at_15 rfl (lv_at hl 1 rfl) ?_
        refine lv_if_ne (tgt := 26) hx hb dX8_at_16 (by decide) (fun c_4 => ?_) (fun c_4 => ?_)
        · rw [if_neg c_4] at hf
          refine lv_iload_n hx hb dX8_at_26 rfl (lv_at hl 1 rfl) ?_
          refine lv_iconst (v := 1) hx hb dX8_at_27 (by decide) ?_
          refine lv_icmp_ne (tgt := 38) hx hb dX8_at_28 (by decide) (fun c_5 => ?_) (fun c_5 => ?_)
          · rw [if_neg c_5] at hf
            refine lv_aload_n hx hb dX8_at_38 rfl (lv_at hl 0 rfl) ?_
            refine va_get (D := D) (ci := 8) (v := .ref qu) (C := RX8) (T := TX8) (N := 10) hx hb hts inGX8 hown hK hP 0 rfl rfl 4 (by decide) (hts _ fl_X8_37) (fun _ h9 => h9) rfl dX8_at_39 ?_
            refine lv_astore_n (lv' := [(3, .ref qu), (0, .ref q), (1, .int x1), (2, .int x2)]) hx hb dX8_at_42 rfl hl (by decide) rfl (fun ls hl => ?_)
            refine lv_iload_n hx hb dX8_at_43 rfl (lv_at hl 3 rfl) ?_
            refine lv_aload_n hx hb dX8_at_44 rfl (lv_at hl 0 rfl) ?_
            refine k_roVi (As := []) (rest := [.int x2]) S (c_X0_length l D cI (q := qu) (qr := qur) (qa := qua) (n := 60) (room := u_room) (len := u_len) (bs := u_bs) (hn := by decide) (r := (f_X0_length u_len)) (hf := rfl)) gs_X8_92 ok_X0_length ⟨rfl, rfl⟩ ⟨Nat.le_of_ble_eq_true rfl, Nat.le_of_ble_eq_true rfl⟩ hK hN hSF (hP.sub [7, 8, 9] rfl) rfl rfl rfl hl.1 rfl (Nat.le_of_ble_eq_true rfl) ⟨Nat.zero_le _, Nat.zero_le _⟩ dX8_at_45 ?_
            refine lv_icmp_ge (tgt := 59) hx hb dX8_at_48 (by decide) (fun c_6 => ?_) (fun c_6 => ?_)
            · rw [if_pos c_6] at hf
              refine lv_bipush (v := (-4)) hx hb dX8_at_59 (by decide) ?_
              exact k_reti hx hb hret hloc hf dX8_at_61
            · rw [if_neg c_6] at hf
              refine lv_aload_n hx hb dX8_at_51 rfl (lv_at hl 0 rfl) ?_
              refine lv_iload_n hx hb dX8_at_52 rfl (lv_at hl 3 rfl) ?_
              refine k_roVi (As := [.int x2]) (rest := []) S (c_X0_get l D cI (q := qu) (qr := qur) (qa := qua) (n := 60) (room := u_room) (len := u_len) (bs := u_bs) (x1 := x2) (hn := by decide) (r := (f_X0_get 60 u_len u_bs x2)) (hf := rfl)) gs_X8_105 ok_X0_get ⟨rfl, rfl⟩ ⟨Nat.le_of_ble_eq_true rfl, Nat.le_of_ble_eq_true rfl⟩ hK hN hSF (hP.sub [7, 8, 9] rfl) rfl rfl rfl hl.1 rfl (Nat.le_of_ble_eq_true rfl) ⟨Nat.zero_le _, Nat.zero_le _⟩ dX8_at_53 ?_
              refine lv_goto (tgt := 61) hx hb dX8_at_56 (by decide) ?_
              exact k_reti hx hb hret hloc hf dX8_at_61
          · rw [if_pos c_5] at hf
            refine lv_aload_n hx hb dX8_at_31 rfl (lv_at hl 0 rfl) ?_
            refine va_get (D := D) (ci := 8) (v := .ref qp) (C := RX8) (T := TX8) (N := 10) hx hb hts inGX8 hown hK hP 0 rfl rfl 3 (by decide) (hts _ fl_X8_34) (fun _ h9 => h9) rfl dX8_at_32 ?_
            refine lv_goto (tgt := 42) hx hb dX8_at_35 (by decide) ?_
            refine lv_astore_n (lv' := [(3, .ref qp), (0, .ref q), (1, .int x1), (2, .int x2)]) hx hb dX8_at_42 rfl hl (by decide) rfl (fun ls hl => ?_)
            refine lv_iload_n hx hb dX8_at_43 rfl (lv_at hl 3 rfl) ?_
            refine lv_aload_n hx hb dX8_at_44 rfl (lv_at hl 0 rfl) ?_
            refine k_roVi (As := []) (rest := [.int x2]) S (c_X0_length l D cI (q := qp) (qr := qpr) (qa := qpa) (n := 1924) (room := p_room) (len := p_len) (bs := p_bs) (hn := by decide) (r := (f_X0_length p_len)) (hf := rfl)) gs_X8_92 ok_X0_length ⟨rfl, rfl⟩ ⟨Nat.le_of_ble_eq_true rfl, Nat.le_of_ble_eq_true rfl⟩ hK hN hSF (hP.sub [4, 5, 6] rfl) rfl rfl rfl hl.1 rfl (Nat.le_of_ble_eq_true rfl) ⟨Nat.zero_le _, Nat.zero_le _⟩ dX8_at_45 ?_
            refine lv_icmp_ge (tgt := 59) hx hb dX8_at_48 (by decide) (fun c_7 => ?_) (fun c_7 => ?_)
            · rw [if_pos c_7] at hf
              refine lv_bipush (v := (-4)) hx hb dX8_at_59 (by decide) ?_
              exact k_reti hx hb hret hloc hf dX8_at_61
            · rw [if_neg c_7] at hf
              refine lv_aload_n hx hb dX8_at_51 rfl (lv_at hl 0 rfl) ?_
              refine lv_iload_n hx hb dX8_at_52 rfl (lv_at hl 3 rfl) ?_
              refine k_roVi (As := [.int x2]) (rest := []) S (c_X0_get l D cI (q := qp) (qr := qpr) (qa := qpa) (n := 1924) (room := p_room) (len := p_len) (bs := p_bs) (x1 := x2) (hn := by decide) (r := (f_X0_get 1924 p_len p_bs x2)) (hf := rfl)) gs_X8_105 ok_X0_get ⟨rfl, rfl⟩ ⟨Nat.le_of_ble_eq_true rfl, Nat.le_of_ble_eq_true rfl⟩ hK hN hSF (hP.sub [4, 5, 6] rfl) rfl rfl rfl hl.1 rfl (Nat.le_of_ble_eq_true rfl) ⟨Nat.zero_le _, Nat.zero_le _⟩ dX8_at_53 ?_
              refine lv_goto (tgt := 61) hx hb dX8_at_56 (by decide) ?_
              exact k_reti hx hb hret hloc hf dX8_at_61
        · rw [if_pos c_4] at hf
          refine lv_aload_n hx hb dX8_at_19 rfl (lv_at hl 0 rfl) ?_
          refine va_get (D := D) (ci := 8) (v := .ref qi) (C := RX8) (T := TX8) (N := 10) hx hb hts inGX8 hown hK hP 0 rfl rfl 2 (by decide) (hts _ fl_X8_30) (fun _ h9 => h9) rfl dX8_at_20 ?_
          refine lv_goto (tgt := 42) hx hb dX8_at_23 (by decide) ?_
          refine lv_astore_n (lv' := [(3, .ref qi), (0, .ref q), (1, .int x1), (2, .int x2)]) hx hb dX8_at_42 rfl hl (by decide) rfl (fun ls hl => ?_)
          refine lv_iload_n hx hb dX8_at_43 rfl (lv_at hl 3 rfl) ?_
          refine lv_aload_n hx hb dX8_at_44 rfl (lv_at hl 0 rfl) ?_
          refine k_roVi (As := []) (rest := [.int x2]) S (c_X0_length l D cI (q := qi) (qr := qir) (qa := qia) (n := 60) (room := i_room) (len := i_len) (bs := i_bs) (hn := by decide) (r := (f_X0_length i_len)) (hf := rfl)) gs_X8_92 ok_X0_length ⟨rfl, rfl⟩ ⟨Nat.le_of_ble_eq_true rfl, Nat.le_of_ble_eq_true rfl⟩ hK hN hSF (hP.sub [1, 2, 3] rfl) rfl rfl rfl hl.1 rfl (Nat.le_of_ble_eq_true rfl) ⟨Nat.zero_le _, Nat.zero_le _⟩ dX8_at_45 ?_
          refine lv_icmp_ge (tgt := 59) hx hb dX8_at_48 (by decide) (fun c_8 => ?_) (fun c_8 => ?_)
          · rw [if_pos c_8] at hf
            refine lv_bipush (v := (-4)) hx hb dX8_at_59 (by decide) ?_
            exact k_reti hx hb hret hloc hf dX8_at_61
          · rw [if_neg c_8] at hf
            refine lv_aload_n hx hb dX8_at_51 rfl (lv_at hl 0 rfl) ?_
            refine lv_iload_n hx hb dX8_at_52 rfl (lv_at hl 3 rfl) ?_
            refine k_roVi (As := [.int x2]) (rest := []) S (c_X0_get l D cI (q := qi) (qr := qir) (qa := qia) (n := 60) (room := i_room) (len := i_len) (bs := i_bs) (x1 := x2) (hn := by decide) (r := (f_X0_get 60 i_len i_bs x2)) (hf := rfl)) gs_X8_105 ok_X0_get ⟨rfl, rfl⟩ ⟨Nat.le_of_ble_eq_true rfl, Nat.le_of_ble_eq_true rfl⟩ hK hN hSF (hP.sub [1, 2, 3] rfl) rfl rfl rfl hl.1 rfl (Nat.le_of_ble_eq_true rfl) ⟨Nat.zero_le _, Nat.zero_le _⟩ dX8_at_53 ?_
            refine lv_goto (tgt := 61) hx hb dX8_at_56 (by decide) ?_
            exact k_reti hx hb hret hloc hf dX8_at_61
      · rw [if_neg c_3] at hf
        refine lv_iconst (v := (-1)) hx hb dX8_at_13 (by decide) ?_
        exact k_reti hx hb hret hloc hf dX8_at_14
theorem dX8_alike_0 : decode cX8_alike 0 = .ok (.aload_n 0, 1) := by decide +kernel
theorem dX8_alike_1 : decode cX8_alike 1 = .ok (.getfield 30, 3) := by decide +kernel
theorem dX8_alike_4 : decode cX8_alike 4 = .ok (.invokevirtual 92, 3) := by decide +kernel
theorem dX8_alike_7 : decode cX8_alike 7 = .ok (.aload_n 0, 1) := by decide +kernel
theorem dX8_alike_8 : decode cX8_alike 8 = .ok (.getfield 37, 3) := by decide +kernel
theorem dX8_alike_11 : decode cX8_alike 11 = .ok (.invokevirtual 92, 3) := by decide +kernel
theorem dX8_alike_14 : decode cX8_alike 14 = .ok (.invokestatic 122, 3) := by decide +kernel
theorem dX8_alike_17 : decode cX8_alike 17 = .ok (.istore_n 1, 1) := by decide +kernel
theorem dX8_alike_18 : decode cX8_alike 18 = .ok (.iconst 0, 1) := by decide +kernel
theorem dX8_alike_19 : decode cX8_alike 19 = .ok (.istore_n 2, 1) := by decide +kernel
theorem dX8_alike_20 : decode cX8_alike 20 = .ok (.iload_n 2, 1) := by decide +kernel
theorem dX8_alike_21 : decode cX8_alike 21 = .ok (.iload_n 1, 1) := by decide +kernel
theorem dX8_alike_22 : decode cX8_alike 22 = .ok (.if_icmp .ge 28, 3) := by decide +kernel
theorem dX8_alike_25 : decode cX8_alike 25 = .ok (.aload_n 0, 1) := by decide +kernel
theorem dX8_alike_26 : decode cX8_alike 26 = .ok (.getfield 30, 3) := by decide +kernel
theorem dX8_alike_29 : decode cX8_alike 29 = .ok (.iload_n 2, 1) := by decide +kernel
theorem dX8_alike_30 : decode cX8_alike 30 = .ok (.invokevirtual 105, 3) := by decide +kernel
theorem dX8_alike_33 : decode cX8_alike 33 = .ok (.aload_n 0, 1) := by decide +kernel
theorem dX8_alike_34 : decode cX8_alike 34 = .ok (.getfield 37, 3) := by decide +kernel
theorem dX8_alike_37 : decode cX8_alike 37 = .ok (.iload_n 2, 1) := by decide +kernel
theorem dX8_alike_38 : decode cX8_alike 38 = .ok (.invokevirtual 105, 3) := by decide +kernel
theorem dX8_alike_41 : decode cX8_alike 41 = .ok (.if_icmp .ne 9, 3) := by decide +kernel
theorem dX8_alike_44 : decode cX8_alike 44 = .ok (.iinc 2 1, 3) := by decide +kernel
theorem dX8_alike_47 : decode cX8_alike 47 = .ok (.goto (-27), 3) := by decide +kernel
theorem dX8_alike_50 : decode cX8_alike 50 = .ok (.iload_n 2, 1) := by decide +kernel
theorem dX8_alike_51 : decode cX8_alike 51 = .ok (.ireturn, 1) := by decide +kernel
def st_X8_alike_L20 (v1 : Int32) (i_len : Int32) (i_bs : (Nat → Int32)) (u_len : Int32) (u_bs : (Nat → Int32)) (v2 : Int32) : Option ((Int32) ⊕ (Int32)) := if v1 ≤ v2 then (some (Sum.inr v2)) else (if (f_X0_get 60 i_len i_bs v2) = (f_X0_get 60 u_len u_bs v2) then (some (Sum.inl (v2 + 1))) else (some (Sum.inr v2)))
def f_X8_alike_L20 (v1 : Int32) (i_len : Int32) (i_bs : (Nat → Int32)) (u_len : Int32) (u_bs : (Nat → Int32)) (k : Nat) (v2 : Int32) : Option (Int32) := lpN (fun z => st_X8_alike_L20 v1 i_len i_bs u_len u_bs z) k v2
set_option maxHeartbeats 4000000 in
set_option maxRecDepth 100000 in
theorem L_X8_alike_20 {p : Program} {l : Launch} {e : Env} {s : State} {m : MethodId} {args : Array Value} {below : List Frame} {meth : Method} {c : Code} {Q : State → Prop} {D : va_G} {cI : ClassId} {q : Nat} {qs : Nat} {qr : Nat} {qi : Nat} {qp : Nat} {qu : Nat} {qk : Nat} {qq : Nat} {q1 : Nat} {q2 : Nat} {qir : Nat} {qia : Nat} {qur : Nat} {qua : Nat} {v1 : Int32} {kn : Int32} {i_room : Int32} {i_len : Int32} {i_bs : (Nat → Int32)} {u_room : Int32} {u_len : Int32} {u_bs : (Nat → Int32)} (S : CallFix p m c cX8_alike 3 s args wsG RX8) (hK : va_K D vwCl [(cI, .int)] s) (hN : nw s) (hSF : sf (fun _ => False) s s.heap) : ∀ (k : Nat) (v2 : Int32) (o_v2 : Int32), f_X8_alike_L20 v1 i_len i_bs u_len u_bs k v2 = some o_v2 → ∀ (ls : Array Slot), va_P D vwCl [(q, .inr (8, [.ref qs, .ref qr, .ref qi, .ref qp, .ref qu, .ref qk, .ref qq, .ref q1, .ref q2, .int kn])), (qi, .inr (0, [.ref qir, .int i_room, .int i_len])), (qir, .inr (4, [.ref qia])), (qia, .inl (cI, 60, .inl i_bs)), (qu, .inr (0, [.ref qur, .int u_room, .int u_len])), (qur, .inr (4, [.ref qua])), (qua, .inl (cI, 60, .inl u_bs))] s.heap → lv_has ls 3 [(0, .ref q), (1, .int v1), (2, .int v2)] → (∀ (ls : Array Slot), lv_has ls 3 [(0, .ref q), (1, .int v1), (2, .int o_v2)] → W p l e (headSpec (.code yX8_alike cX8_alike 3 (some .int) :: wsG) { frames := 2, cells := 0, slots := 0, locals := 42 }).room s m args below meth c s.heap [] 0 0 Q (F0 m 50 ls [])) → W p l e (headSpec (.code yX8_alike cX8_alike 3 (some .int) :: wsG) { frames := 2, cells := 0, slots := 0, locals := 42 }).room s m args below meth c s.heap [] 0 0 Q (F0 m 20 ls []) := by
  obtain ⟨hx, hb, hml, hown, hts⟩ := id S
  intro k
  induction k with
  | zero =>
    intro v2 o_v2 hf
    cases hf
  | succ k ih =>
    intro v2 o_v2 hf ls hP hl kk
    obtain ⟨z, hf, hz⟩ := lp_inv hf
    have hf : st_X8_alike_L20 v1 i_len i_bs u_len u_bs v2 = some z := hf
    unfold st_X8_alike_L20 at hf
    refine lv_iload_n hx hb dX8_alike_20 rfl (lv_at hl 2 rfl) ?_
    refine lv_iload_n hx hb dX8_alike_21 rfl (lv_at hl 1 rfl) ?_
    refine lv_icmp_ge (tgt := 50) hx hb dX8_alike_22 (by decide) (fun c_1 => ?_) (fun c_1 => ?_)
    · rw [if_pos c_1] at hf
      have hf := Option.some.inj hf
      subst hf
      have e_0 := lpC_r hz
      subst e_0
      exact kk ls (lv_sub hl [0, 1, 2] rfl)
    · rw [if_neg c_1] at hf
      refine lv_aload_n hx hb dX8_alike_25 rfl (lv_at hl 0 rfl) ?_
      refine va_get (D := D) (ci := 8) (v := .ref qi) (C := RX8) (T := TX8) (N := 10) hx hb hts inGX8 hown hK hP 0 rfl rfl 2 (by decide) (hts _ fl_X8_30) (fun _ h9 => h9) rfl dX8_alike_26 ?_
      refine lv_iload_n hx hb dX8_alike_29 rfl (lv_at hl 2 rfl) ?_
      refine k_roVi (As := [.int v2]) (rest := []) S (c_X0_get l D cI (q := qi) (qr := qir) (qa := qia) (n := 60) (room := i_room) (len := i_len) (bs := i_bs) (x1 := v2) (hn := by decide) (r := (f_X0_get 60 i_len i_bs v2)) (hf := rfl)) gs_X8_105 ok_X0_get ⟨rfl, rfl⟩ ⟨Nat.le_of_ble_eq_true rfl, Nat.le_of_ble_eq_true rfl⟩ hK hN hSF (hP.sub [1, 2, 3] rfl) rfl rfl rfl hl.1 rfl (Nat.le_of_ble_eq_true rfl) ⟨Nat.zero_le _, Nat.zero_le _⟩ dX8_alike_30 ?_
      refine lv_aload_n hx hb dX8_alike_33 rfl (lv_at hl 0 rfl) ?_
      refine va_get (D := D) (ci := 8) (v := .ref qu) (C := RX8) (T := TX8) (N := 10) hx hb hts inGX8 hown hK hP 0 rfl rfl 4 (by decide) (hts _ fl_X8_37) (fun _ h9 => h9) rfl dX8_alike_34 ?_
      refine lv_iload_n hx hb dX8_alike_37 rfl (lv_at hl 2 rfl) ?_
      refine k_roVi (As := [.int v2]) (rest := [.int (f_X0_get 60 i_len i_bs v2)]) S (c_X0_get l D cI (q := qu) (qr := qur) (qa := qua) (n := 60) (room := u_room) (len := u_len) (bs := u_bs) (x1 := v2) (hn := by decide) (r := (f_X0_get 60 u_len u_bs v2)) (hf := rfl)) gs_X8_105 ok_X0_get ⟨rfl, rfl⟩ ⟨Nat.le_of_ble_eq_true rfl, Nat.le_of_ble_eq_true rfl⟩ hK hN hSF (hP.sub [4, 5, 6] rfl) rfl rfl rfl hl.1 rfl (Nat.le_of_ble_eq_true rfl) ⟨Nat.zero_le _, Nat.zero_le _⟩ dX8_alike_38 ?_
      refine lv_icmp_ne (tgt := 50) hx hb dX8_alike_41 (by decide) (fun c_2 => ?_) (fun c_2 => ?_)
      · rw [if_neg c_2] at hf
        have hf := Option.some.inj hf
        subst hf
        have e_0 := lpC_r hz
        subst e_0
        exact kk ls (lv_sub hl [0, 1, 2] rfl)
      · rw [if_pos c_2] at hf
        refine lv_iinc (v := v2 + 1) (lv' := [(2, .int (v2 + 1)), (0, .ref q), (1, .int v1)]) hx hb dX8_alike_44 hl (k := 2) rfl rfl (by decide) rfl (fun ls hl => ?_)
        refine lv_goto (tgt := 20) hx hb dX8_alike_47 (by decide) ?_
        have hf := Option.some.inj hf
        subst hf
        exact ih (v2 + 1) _ hz ls hP (lv_sub hl [1, 2, 0] rfl) kk
def f_X8_alike (i_len : Int32) (i_bs : (Nat → Int32)) (u_len : Int32) (u_bs : (Nat → Int32)) : Option (Int32) := bi1 (f_X8_alike_L20 (if (f_X0_length u_len) < (f_X0_length i_len) then (f_X0_length u_len) else (f_X0_length i_len)) i_len i_bs u_len u_bs 4096 0) (fun (v2_3 : Int32) => some v2_3)
set_option maxHeartbeats 4000000 in
set_option maxRecDepth 100000 in
theorem c_X8_alike (l : Launch) (D : va_G) (cI : ClassId) (q : Nat) (qs : Nat) (qr : Nat) (qi : Nat) (qp : Nat) (qu : Nat) (qk : Nat) (qq : Nat) (q1 : Nat) (q2 : Nat) (qir : Nat) (qia : Nat) (qur : Nat) (qua : Nat) (kn : Int32) (i_room : Int32) (i_len : Int32) (i_bs : (Nat → Int32)) (u_room : Int32) (u_len : Int32) (u_bs : (Nat → Int32)) (r : Int32) (hf : f_X8_alike i_len i_bs u_len u_bs = some r) : Met l yX8_alike (.code yX8_alike cX8_alike 3 (some .int) :: wsG) ({ frames := 2, cells := 0, slots := 0, locals := 42 }) (va_Pc [.ref q] (gw D cI [(q, .inr (8, [.ref qs, .ref qr, .ref qi, .ref qp, .ref qu, .ref qk, .ref qq, .ref q1, .ref q2, .int kn])), (qi, .inr (0, [.ref qir, .int i_room, .int i_len])), (qir, .inr (4, [.ref qia])), (qia, .inl (cI, 60, .inl i_bs)), (qu, .inr (0, [.ref qur, .int u_room, .int u_len])), (qur, .inr (4, [.ref qua])), (qua, .inl (cI, 60, .inl u_bs))])) (vp_Si (fun x => x = r)) 0 0 (fun _ => False) := by
  refine k_ro (by decide) rfl (Nat.le_of_ble_eq_true rfl) rfl ?_
  intro p e s m below meth c ls S hret hloc hK hN hSF hP hl
  obtain ⟨hx, hb, hml, hown, hts⟩ := id S
  unfold f_X8_alike at hf
  refine lv_aload_n hx hb dX8_alike_0 rfl (lv_at hl 0 rfl) ?_
  refine va_get (D := D) (ci := 8) (v := .ref qi) (C := RX8) (T := TX8) (N := 10) hx hb hts inGX8 hown hK hP 0 rfl rfl 2 (by decide) (hts _ fl_X8_30) (fun _ h9 => h9) rfl dX8_alike_1 ?_
  refine k_roVi (As := []) (rest := []) S (c_X0_length l D cI (q := qi) (qr := qir) (qa := qia) (n := 60) (room := i_room) (len := i_len) (bs := i_bs) (hn := by decide) (r := (f_X0_length i_len)) (hf := rfl)) gs_X8_92 ok_X0_length ⟨rfl, rfl⟩ ⟨Nat.le_of_ble_eq_true rfl, Nat.le_of_ble_eq_true rfl⟩ hK hN hSF (hP.sub [1, 2, 3] rfl) rfl rfl rfl hl.1 rfl (Nat.le_of_ble_eq_true rfl) ⟨Nat.zero_le _, Nat.zero_le _⟩ dX8_alike_4 ?_
  refine lv_aload_n hx hb dX8_alike_7 rfl (lv_at hl 0 rfl) ?_
  refine va_get (D := D) (ci := 8) (v := .ref qu) (C := RX8) (T := TX8) (N := 10) hx hb hts inGX8 hown hK hP 0 rfl rfl 4 (by decide) (hts _ fl_X8_37) (fun _ h9 => h9) rfl dX8_alike_8 ?_
  refine k_roVi (As := []) (rest := [.int (f_X0_length i_len)]) S (c_X0_length l D cI (q := qu) (qr := qur) (qa := qua) (n := 60) (room := u_room) (len := u_len) (bs := u_bs) (hn := by decide) (r := (f_X0_length u_len)) (hf := rfl)) gs_X8_92 ok_X0_length ⟨rfl, rfl⟩ ⟨Nat.le_of_ble_eq_true rfl, Nat.le_of_ble_eq_true rfl⟩ hK hN hSF (hP.sub [4, 5, 6] rfl) rfl rfl rfl hl.1 rfl (Nat.le_of_ble_eq_true rfl) ⟨Nat.zero_le _, Nat.zero_le _⟩ dX8_alike_11 ?_
  refine va_mmin hx hb (hml.trans hl.1.symm) hown (hts _ ml_X8_122) (hts _ st_Math_min) (hts _ ini_Math) (hts _ co_Math_min) (Nat.le_of_ble_eq_true rfl) (Nat.le_of_ble_eq_true rfl) (Nat.zero_le _) (Nat.zero_le _) dX8_alike_14 ?_
  refine lv_istore_n (lv' := [(1, .int (if (f_X0_length u_len) < (f_X0_length i_len) then (f_X0_length u_len) else (f_X0_length i_len))), (0, .ref q)]) hx hb dX8_alike_17 rfl hl (by decide) rfl (fun ls hl => ?_)
  refine lv_iconst (v := 0) hx hb dX8_alike_18 (by decide) ?_
  refine lv_istore_n (lv' := [(2, .int 0), (1, .int (if (f_X0_length u_len) < (f_X0_length i_len) then (f_X0_length u_len) else (f_X0_length i_len))), (0, .ref q)]) hx hb dX8_alike_19 rfl hl (by decide) rfl (fun ls hl => ?_)
  obtain ⟨v2_3, hc_4, hf⟩ := bd1 hf
  refine L_X8_alike_20 S hK hN hSF _ 0 v2_3 hc_4 _ hP (lv_sub hl [2, 1, 0] rfl) (fun ls hl => ?_)
  refine lv_iload_n hx hb dX8_alike_50 rfl (lv_at hl 2 rfl) ?_
  exact k_reti hx hb hret hloc (Option.some.inj hf) dX8_alike_51
theorem dX8_grew_0 : decode cX8_grew 0 = .ok (.iload_n 1, 1) := by decide +kernel
theorem dX8_grew_1 : decode cX8_grew 1 = .ok (.ifCond .lt 17, 3) := by decide +kernel
theorem dX8_grew_4 : decode cX8_grew 4 = .ok (.iload_n 1, 1) := by decide +kernel
theorem dX8_grew_5 : decode cX8_grew 5 = .ok (.iconst 1, 1) := by decide +kernel
theorem dX8_grew_6 : decode cX8_grew 6 = .ok (.if_icmp .gt 12, 3) := by decide +kernel
theorem dX8_grew_9 : decode cX8_grew 9 = .ok (.iload_n 2, 1) := by decide +kernel
theorem dX8_grew_10 : decode cX8_grew 10 = .ok (.ifCond .lt 8, 3) := by decide +kernel
theorem dX8_grew_13 : decode cX8_grew 13 = .ok (.iload_n 2, 1) := by decide +kernel
theorem dX8_grew_14 : decode cX8_grew 14 = .ok (.iconst 2, 1) := by decide +kernel
theorem dX8_grew_15 : decode cX8_grew 15 = .ok (.if_icmp .le 5, 3) := by decide +kernel
theorem dX8_grew_18 : decode cX8_grew 18 = .ok (.iconst (-1), 1) := by decide +kernel
theorem dX8_grew_19 : decode cX8_grew 19 = .ok (.ireturn, 1) := by decide +kernel
theorem dX8_grew_20 : decode cX8_grew 20 = .ok (.iload_n 1, 1) := by decide +kernel
theorem dX8_grew_21 : decode cX8_grew 21 = .ok (.ifCond .ne 13, 3) := by decide +kernel
theorem dX8_grew_24 : decode cX8_grew 24 = .ok (.aload_n 0, 1) := by decide +kernel
theorem dX8_grew_25 : decode cX8_grew 25 = .ok (.getfield 45, 3) := by decide +kernel
theorem dX8_grew_28 : decode cX8_grew 28 = .ok (.getfield 128, 3) := by decide +kernel
theorem dX8_grew_31 : decode cX8_grew 31 = .ok (.goto 10, 3) := by decide +kernel
theorem dX8_grew_34 : decode cX8_grew 34 = .ok (.aload_n 0, 1) := by decide +kernel
theorem dX8_grew_35 : decode cX8_grew 35 = .ok (.getfield 52, 3) := by decide +kernel
theorem dX8_grew_38 : decode cX8_grew 38 = .ok (.getfield 132, 3) := by decide +kernel
theorem dX8_grew_41 : decode cX8_grew 41 = .ok (.istore_n 3, 1) := by decide +kernel
theorem dX8_grew_42 : decode cX8_grew 42 = .ok (.iload_n 3, 1) := by decide +kernel
theorem dX8_grew_43 : decode cX8_grew 43 = .ok (.ifCond .ne 6, 3) := by decide +kernel
theorem dX8_grew_46 : decode cX8_grew 46 = .ok (.bipush (-4), 2) := by decide +kernel
theorem dX8_grew_48 : decode cX8_grew 48 = .ok (.ireturn, 1) := by decide +kernel
theorem dX8_grew_49 : decode cX8_grew 49 = .ok (.iload_n 1, 1) := by decide +kernel
theorem dX8_grew_50 : decode cX8_grew 50 = .ok (.ifCond .ne 13, 3) := by decide +kernel
theorem dX8_grew_53 : decode cX8_grew 53 = .ok (.aload_n 0, 1) := by decide +kernel
theorem dX8_grew_54 : decode cX8_grew 54 = .ok (.getfield 45, 3) := by decide +kernel
theorem dX8_grew_57 : decode cX8_grew 57 = .ok (.getfield 133, 3) := by decide +kernel
theorem dX8_grew_60 : decode cX8_grew 60 = .ok (.goto 10, 3) := by decide +kernel
theorem dX8_grew_63 : decode cX8_grew 63 = .ok (.aload_n 0, 1) := by decide +kernel
theorem dX8_grew_64 : decode cX8_grew 64 = .ok (.getfield 52, 3) := by decide +kernel
theorem dX8_grew_67 : decode cX8_grew 67 = .ok (.getfield 136, 3) := by decide +kernel
theorem dX8_grew_70 : decode cX8_grew 70 = .ok (.astore 4, 2) := by decide +kernel
theorem dX8_grew_72 : decode cX8_grew 72 = .ok (.iload_n 2, 1) := by decide +kernel
theorem dX8_grew_73 : decode cX8_grew 73 = .ok (.ifCond .ne 11, 3) := by decide +kernel
theorem dX8_grew_76 : decode cX8_grew 76 = .ok (.aload 4, 2) := by decide +kernel
theorem dX8_grew_78 : decode cX8_grew 78 = .ok (.getfield 85, 3) := by decide +kernel
theorem dX8_grew_81 : decode cX8_grew 81 = .ok (.goto 21, 3) := by decide +kernel
theorem dX8_grew_84 : decode cX8_grew 84 = .ok (.iload_n 2, 1) := by decide +kernel
theorem dX8_grew_85 : decode cX8_grew 85 = .ok (.iconst 1, 1) := by decide +kernel
theorem dX8_grew_86 : decode cX8_grew 86 = .ok (.if_icmp .ne 11, 3) := by decide +kernel
theorem dX8_grew_89 : decode cX8_grew 89 = .ok (.aload 4, 2) := by decide +kernel
theorem dX8_grew_91 : decode cX8_grew 91 = .ok (.getfield 137, 3) := by decide +kernel
theorem dX8_grew_94 : decode cX8_grew 94 = .ok (.goto 8, 3) := by decide +kernel
theorem dX8_grew_97 : decode cX8_grew 97 = .ok (.aload 4, 2) := by decide +kernel
theorem dX8_grew_99 : decode cX8_grew 99 = .ok (.getfield 140, 3) := by decide +kernel
theorem dX8_grew_102 : decode cX8_grew 102 = .ok (.ireturn, 1) := by decide +kernel
def f_X8_grew (k_used : Int32) (k_st : Int32) (k_cl : Int32) (k_dr : Int32) (q_used : Int32) (q_st : Int32) (q_cl : Int32) (q_dr : Int32) (x1 : Int32) (x2 : Int32) : Int32 := if x1 < 0 then ((-1 : Int32)) else (if 1 < x1 then ((-1 : Int32)) else (if x2 < 0 then ((-1 : Int32)) else (if x2 ≤ 2 then (if x1 = 0 then (if k_used = 0 then ((-4 : Int32)) else (if x2 = 0 then (k_st) else (if x2 = 1 then (k_cl) else (k_dr)))) else (if q_used = 0 then ((-4 : Int32)) else (if x2 = 0 then (q_st) else (if x2 = 1 then (q_cl) else (q_dr))))) else ((-1 : Int32)))))
set_option maxHeartbeats 4000000 in
set_option maxRecDepth 100000 in
theorem c_X8_grew (l : Launch) (D : va_G) (cI : ClassId) (q : Nat) (qs : Nat) (qr : Nat) (qi : Nat) (qp : Nat) (qu : Nat) (qk : Nat) (qq : Nat) (q1 : Nat) (q2 : Nat) (qkm : Nat) (qkp : Nat) (qkmc : Nat) (qkmn : Nat) (qkmo : Nat) (qkml : Nat) (qkmf : Nat) (qkmca : Nat) (qkmna : Nat) (qkmoa : Nat) (qkmla : Nat) (qkmfa : Nat) (qqm : Nat) (qqp : Nat) (qqmc : Nat) (qqmn : Nat) (qqmo : Nat) (qqml : Nat) (qqmf : Nat) (qqmca : Nat) (qqmna : Nat) (qqmoa : Nat) (qqmla : Nat) (qqmfa : Nat) (kn : Int32) (k_used : Int32) (k_st : Int32) (k_he : Int32) (k_ta : Int32) (k_cl : Int32) (k_dr : Int32) (k_cn : (Nat → Int32)) (k_nx : (Nat → Int32)) (k_og : (Nat → Int32)) (k_li : (Nat → Int32)) (k_fl : (Nat → Int32)) (q_cde : Int64) (q_pul : Int32) (q_used : Int32) (q_st : Int32) (q_he : Int32) (q_ta : Int32) (q_cl : Int32) (q_dr : Int32) (q_cn : (Nat → Int32)) (q_nx : (Nat → Int32)) (q_og : (Nat → Int32)) (q_li : (Nat → Int32)) (q_fl : (Nat → Int32)) (x1 : Int32) (x2 : Int32) (r : Int32) (hf : f_X8_grew k_used k_st k_cl k_dr q_used q_st q_cl q_dr x1 x2 = r) : Met l yX8_grew (.code yX8_grew cX8_grew 5 (some .int) :: wsG) ({ frames := 0, cells := 0, slots := 0, locals := 0 }) (va_Pc [.ref q, .int x1, .int x2] (gw D cI [(q, .inr (8, [.ref qs, .ref qr, .ref qi, .ref qp, .ref qu, .ref qk, .ref qq, .ref q1, .ref q2, .int kn])), (qk, .inr (3, [.ref qs, .ref qkm, .ref qkp, .ref qp, .int k_used])), (qkm, .inr (2, [.ref qs, .ref qkmc, .ref qkmn, .ref qkmo, .ref qkml, .ref qkmf, .int k_st, .int k_he, .int k_ta, .int k_cl, .int k_dr])), (qkmc, .inr (4, [.ref qkmca])), (qkmca, .inl (cI, 500, .inl k_cn)), (qkmn, .inr (4, [.ref qkmna])), (qkmna, .inl (cI, 500, .inl k_nx)), (qkmo, .inr (4, [.ref qkmoa])), (qkmoa, .inl (cI, 250, .inl k_og)), (qkml, .inr (4, [.ref qkmla])), (qkmla, .inl (cI, 250, .inl k_li)), (qkmf, .inr (4, [.ref qkmfa])), (qkmfa, .inl (cI, 250, .inl k_fl)), (qq, .inr (7, [.ref qs, .ref qqm, .ref qqp, .ref qp, .long q_cde, .int q_pul, .int q_used])), (qqm, .inr (2, [.ref qs, .ref qqmc, .ref qqmn, .ref qqmo, .ref qqml, .ref qqmf, .int q_st, .int q_he, .int q_ta, .int q_cl, .int q_dr])), (qqmc, .inr (4, [.ref qqmca])), (qqmca, .inl (cI, 500, .inl q_cn)), (qqmn, .inr (4, [.ref qqmna])), (qqmna, .inl (cI, 500, .inl q_nx)), (qqmo, .inr (4, [.ref qqmoa])), (qqmoa, .inl (cI, 250, .inl q_og)), (qqml, .inr (4, [.ref qqmla])), (qqmla, .inl (cI, 250, .inl q_li)), (qqmf, .inr (4, [.ref qqmfa])), (qqmfa, .inl (cI, 250, .inl q_fl))])) (vp_Si (fun x => x = r)) 0 0 (fun _ => False) := by
  refine k_ro (by decide) rfl (Nat.le_of_ble_eq_true rfl) rfl ?_
  intro p e s m below meth c ls S hret hloc hK hN hSF hP hl
  obtain ⟨hx, hb, hml, hown, hts⟩ := id S
  unfold f_X8_grew at hf
  refine lv_iload_n hx hb dX8_grew_0 rfl (lv_at hl 1 rfl) ?_
  refine lv_if_lt (tgt := 18) hx hb dX8_grew_1 (by decide) (fun c_1 => ?_) (fun c_1 => ?_)
  · rw [if_pos c_1] at hf
    refine lv_iconst (v := (-1)) hx hb dX8_grew_18 (by decide) ?_
    exact k_reti hx hb hret hloc hf dX8_grew_19
  · rw [if_neg c_1] at hf
    refine lv_iload_n hx hb dX8_grew_4 rfl (lv_at hl 1 rfl) ?_
    refine lv_iconst (v := 1) hx hb dX8_grew_5 (by decide) ?_
    refine lv_icmp_gt (tgt := 18) hx hb dX8_grew_6 (by decide) (fun c_2 => ?_) (fun c_2 => ?_)
    · rw [if_pos c_2] at hf
      refine lv_iconst (v := (-1)) hx hb dX8_grew_18 (by decide) ?_
      exact k_reti hx hb hret hloc hf dX8_grew_19
    · rw [if_neg c_2] at hf
      refine lv_iload_n hx hb dX8_grew_9 rfl (lv_at hl 2 rfl) ?_
      refine lv_if_lt (tgt := 18) hx hb dX8_grew_10 (by decide) (fun c_3 => ?_) (fun c_3 => ?_)
      · rw [if_pos c_3] at hf
        refine lv_iconst (v := (-1)) hx hb dX8_grew_18 (by decide) ?_
        exact k_reti hx hb hret hloc hf dX8_grew_19
      · rw [if_neg c_3] at hf
        refine lv_iload_n hx hb dX8_grew_13 rfl (lv_at hl 2 rfl) ?_
        refine lv_iconst (v := 2) hx hb dX8_grew_14 (by decide) ?_
        refine lv_icmp_le (tgt := 20) hx hb dX8_grew_15 (by decide) (fun c_4 => ?_) (fun c_4 => ?_)
        · rw [if_pos c_4] at hf
          refine lv_iload_n hx hb dX8_grew_20 rfl (lv_at hl 1 rfl) ?_
          refine lv_if_ne (tgt := 34) hx hb dX8_grew_21 (by decide) (fun c_5 => ?_) (fun c_5 => ?_)
          · rw [if_neg c_5] at hf
            refine lv_aload_n hx hb dX8_grew_34 rfl (lv_at hl 0 rfl) ?_
            refine va_get (D := D) (ci := 8) (v := .ref qq) (C := RX8) (T := TX8) (N := 10) hx hb hts inGX8 hown hK hP 0 rfl rfl 6 (by decide) (hts _ fl_X8_52) (fun _ h9 => h9) rfl dX8_grew_35 ?_
            refine va_getN (D := D) (ci := 7) (v := .int q_used) (C := RX7) (T := TX7) (N := 7) hx hb hts inGX7 hown hK hP 13 rfl rfl 6 (by decide) (va_Nw.use rfl (nf_X8_132 hN)) (fun _ h9 => h9) rfl dX8_grew_38 ?_
            refine lv_istore_n (lv' := [(3, .int q_used), (0, .ref q), (1, .int x1), (2, .int x2)]) hx hb dX8_grew_41 rfl hl (by decide) rfl (fun ls hl => ?_)
            refine lv_iload_n hx hb dX8_grew_42 rfl (lv_at hl 0 rfl) ?_
            refine lv_if_ne (tgt := 49) hx hb dX8_grew_43 (by decide) (fun c_6 => ?_) (fun c_6 => ?_)
            · rw [if_neg c_6] at hf
              refine lv_iload_n hx hb dX8_grew_49 rfl (lv_at hl 2 rfl) ?_
              refine lv_if_ne (tgt := 63) hx hb dX8_grew_50 (by decide) (fun c_7 => ?_) (fun c_7 => ?_)
              · refine lv_aload_n hx hb dX8_grew_63 rfl (lv_at hl 1 rfl) ?_
                refine va_get (D := D) (ci := 8) (v := .ref qq) (C := RX8) (T := TX8) (N := 10) hx hb hts inGX8 hown hK hP 0 rfl rfl 6 (by decide) (hts _ fl_X8_52) (fun _ h9 => h9) rfl dX8_grew_64 ?_
                refine va_getN (D := D) (ci := 7) (v := .ref qqm) (C := RX7) (T := TX7) (N := 7) hx hb hts inGX7 hown hK hP 13 rfl rfl 1 (by decide) (va_Nw.use rfl (nf_X8_136 hN)) (fun _ h9 => h9) rfl dX8_grew_67 ?_
                refine lv_astore (lv' := [(4, .ref qqm), (3, .int q_used), (0, .ref q), (1, .int x1), (2, .int x2)]) hx hb dX8_grew_70 hl (by decide) rfl (fun ls hl => ?_)
                refine lv_iload_n hx hb dX8_grew_72 rfl (lv_at hl 4 rfl) ?_
                refine lv_if_ne (tgt := 84) hx hb dX8_grew_73 (by decide) (fun c_8 => ?_) (fun c_8 => ?_)
                · rw [if_neg c_8] at hf
                  refine lv_iload_n hx hb dX8_grew_84 rfl (lv_at hl 4 rfl) ?_
                  refine lv_iconst (v := 1) hx hb dX8_grew_85 (by decide) ?_
                  refine lv_icmp_ne (tgt := 97) hx hb dX8_grew_86 (by decide) (fun c_9 => ?_) (fun c_9 => ?_)
                  · rw [if_neg c_9] at hf
                    refine lv_aload hx hb dX8_grew_97 (lv_at hl 0 rfl) ?_
                    refine va_getN (D := D) (ci := 2) (v := .int q_dr) (C := RX2) (T := TX2) (N := 11) hx hb hts inGX2 hown hK hP 14 rfl rfl 10 (by decide) (va_Nw.use rfl (nf_X8_140 hN)) (fun _ h9 => h9) rfl dX8_grew_99 ?_
                    exact k_reti hx hb hret hloc hf dX8_grew_102
                  · rw [if_pos c_9] at hf
                    refine lv_aload hx hb dX8_grew_89 (lv_at hl 0 rfl) ?_
                    refine va_getN (D := D) (ci := 2) (v := .int q_cl) (C := RX2) (T := TX2) (N := 11) hx hb hts inGX2 hown hK hP 14 rfl rfl 9 (by decide) (va_Nw.use rfl (nf_X8_137 hN)) (fun _ h9 => h9) rfl dX8_grew_91 ?_
                    refine lv_goto (tgt := 102) hx hb dX8_grew_94 (by decide) ?_
                    exact k_reti hx hb hret hloc hf dX8_grew_102
                · rw [if_pos c_8] at hf
                  refine lv_aload hx hb dX8_grew_76 (lv_at hl 0 rfl) ?_
                  refine va_getN (D := D) (ci := 2) (v := .int q_st) (C := RX2) (T := TX2) (N := 11) hx hb hts inGX2 hown hK hP 14 rfl rfl 6 (by decide) (va_Nw.use rfl (nf_X8_85 hN)) (fun _ h9 => h9) rfl dX8_grew_78 ?_
                  refine lv_goto (tgt := 102) hx hb dX8_grew_81 (by decide) ?_
                  exact k_reti hx hb hret hloc hf dX8_grew_102
              · exact absurd c_7 c_5
            · rw [if_pos c_6] at hf
              refine lv_bipush (v := (-4)) hx hb dX8_grew_46 (by decide) ?_
              exact k_reti hx hb hret hloc hf dX8_grew_48
          · rw [if_pos c_5] at hf
            refine lv_aload_n hx hb dX8_grew_24 rfl (lv_at hl 0 rfl) ?_
            refine va_get (D := D) (ci := 8) (v := .ref qk) (C := RX8) (T := TX8) (N := 10) hx hb hts inGX8 hown hK hP 0 rfl rfl 5 (by decide) (hts _ fl_X8_45) (fun _ h9 => h9) rfl dX8_grew_25 ?_
            refine va_getN (D := D) (ci := 3) (v := .int k_used) (C := RX3) (T := TX3) (N := 5) hx hb hts inGX3 hown hK hP 1 rfl rfl 4 (by decide) (va_Nw.use rfl (nf_X8_128 hN)) (fun _ h9 => h9) rfl dX8_grew_28 ?_
            refine lv_goto (tgt := 41) hx hb dX8_grew_31 (by decide) ?_
            refine lv_istore_n (lv' := [(3, .int k_used), (0, .ref q), (1, .int x1), (2, .int x2)]) hx hb dX8_grew_41 rfl hl (by decide) rfl (fun ls hl => ?_)
            refine lv_iload_n hx hb dX8_grew_42 rfl (lv_at hl 0 rfl) ?_
            refine lv_if_ne (tgt := 49) hx hb dX8_grew_43 (by decide) (fun c_10 => ?_) (fun c_10 => ?_)
            · rw [if_neg c_10] at hf
              refine lv_iload_n hx hb dX8_grew_49 rfl (lv_at hl 2 rfl) ?_
              refine lv_if_ne (tgt := 63) hx hb dX8_grew_50 (by decide) (fun c_11 => ?_) (fun c_11 => ?_)
              · exact absurd c_5 c_11
              · refine lv_aload_n hx hb dX8_grew_53 rfl (lv_at hl 1 rfl) ?_
                refine va_get (D := D) (ci := 8) (v := .ref qk) (C := RX8) (T := TX8) (N := 10) hx hb hts inGX8 hown hK hP 0 rfl rfl 5 (by decide) (hts _ fl_X8_45) (fun _ h9 => h9) rfl dX8_grew_54 ?_
                refine va_getN (D := D) (ci := 3) (v := .ref qkm) (C := RX3) (T := TX3) (N := 5) hx hb hts inGX3 hown hK hP 1 rfl rfl 1 (by decide) (va_Nw.use rfl (nf_X8_133 hN)) (fun _ h9 => h9) rfl dX8_grew_57 ?_
                refine lv_goto (tgt := 70) hx hb dX8_grew_60 (by decide) ?_
                refine lv_astore (lv' := [(4, .ref qkm), (3, .int k_used), (0, .ref q), (1, .int x1), (2, .int x2)]) hx hb dX8_grew_70 hl (by decide) rfl (fun ls hl => ?_)
                refine lv_iload_n hx hb dX8_grew_72 rfl (lv_at hl 4 rfl) ?_
                refine lv_if_ne (tgt := 84) hx hb dX8_grew_73 (by decide) (fun c_12 => ?_) (fun c_12 => ?_)
                · rw [if_neg c_12] at hf
                  refine lv_iload_n hx hb dX8_grew_84 rfl (lv_at hl 4 rfl) ?_
                  refine lv_iconst (v := 1) hx hb dX8_grew_85 (by decide) ?_
                  refine lv_icmp_ne (tgt := 97) hx hb dX8_grew_86 (by decide) (fun c_13 => ?_) (fun c_13 => ?_)
                  · rw [if_neg c_13] at hf
                    refine lv_aload hx hb dX8_grew_97 (lv_at hl 0 rfl) ?_
                    refine va_getN (D := D) (ci := 2) (v := .int k_dr) (C := RX2) (T := TX2) (N := 11) hx hb hts inGX2 hown hK hP 2 rfl rfl 10 (by decide) (va_Nw.use rfl (nf_X8_140 hN)) (fun _ h9 => h9) rfl dX8_grew_99 ?_
                    exact k_reti hx hb hret hloc hf dX8_grew_102
                  · rw [if_pos c_13] at hf
                    refine lv_aload hx hb dX8_grew_89 (lv_at hl 0 rfl) ?_
                    refine va_getN (D := D) (ci := 2) (v := .int k_cl) (C := RX2) (T := TX2) (N := 11) hx hb hts inGX2 hown hK hP 2 rfl rfl 9 (by decide) (va_Nw.use rfl (nf_X8_137 hN)) (fun _ h9 => h9) rfl dX8_grew_91 ?_
                    refine lv_goto (tgt := 102) hx hb dX8_grew_94 (by decide) ?_
                    exact k_reti hx hb hret hloc hf dX8_grew_102
                · rw [if_pos c_12] at hf
                  refine lv_aload hx hb dX8_grew_76 (lv_at hl 0 rfl) ?_
                  refine va_getN (D := D) (ci := 2) (v := .int k_st) (C := RX2) (T := TX2) (N := 11) hx hb hts inGX2 hown hK hP 2 rfl rfl 6 (by decide) (va_Nw.use rfl (nf_X8_85 hN)) (fun _ h9 => h9) rfl dX8_grew_78 ?_
                  refine lv_goto (tgt := 102) hx hb dX8_grew_81 (by decide) ?_
                  exact k_reti hx hb hret hloc hf dX8_grew_102
            · rw [if_pos c_10] at hf
              refine lv_bipush (v := (-4)) hx hb dX8_grew_46 (by decide) ?_
              exact k_reti hx hb hret hloc hf dX8_grew_48
        · rw [if_neg c_4] at hf
          refine lv_iconst (v := (-1)) hx hb dX8_grew_18 (by decide) ?_
          exact k_reti hx hb hret hloc hf dX8_grew_19
theorem dX8_bit_0 : decode cX8_bit 0 = .ok (.iload_n 1, 1) := by decide +kernel
theorem dX8_bit_1 : decode cX8_bit 1 = .ok (.ifCond .lt 8, 3) := by decide +kernel
theorem dX8_bit_4 : decode cX8_bit 4 = .ok (.iload_n 1, 1) := by decide +kernel
theorem dX8_bit_5 : decode cX8_bit 5 = .ok (.iconst 1, 1) := by decide +kernel
theorem dX8_bit_6 : decode cX8_bit 6 = .ok (.if_icmp .le 5, 3) := by decide +kernel
theorem dX8_bit_9 : decode cX8_bit 9 = .ok (.iconst (-1), 1) := by decide +kernel
theorem dX8_bit_10 : decode cX8_bit 10 = .ok (.ireturn, 1) := by decide +kernel
theorem dX8_bit_11 : decode cX8_bit 11 = .ok (.aload_n 0, 1) := by decide +kernel
theorem dX8_bit_12 : decode cX8_bit 12 = .ok (.getfield 21, 3) := by decide +kernel
theorem dX8_bit_15 : decode cX8_bit 15 = .ok (.iload_n 1, 1) := by decide +kernel
theorem dX8_bit_16 : decode cX8_bit 16 = .ok (.invokevirtual 143, 3) := by decide +kernel
theorem dX8_bit_19 : decode cX8_bit 19 = .ok (.aload_n 0, 1) := by decide +kernel
theorem dX8_bit_20 : decode cX8_bit 20 = .ok (.getfield 21, 3) := by decide +kernel
theorem dX8_bit_23 : decode cX8_bit 23 = .ok (.getfield 146, 3) := by decide +kernel
theorem dX8_bit_26 : decode cX8_bit 26 = .ok (.ireturn, 1) := by decide +kernel
theorem gs_X8_143 : GoodIn wsG (wsV RX8 143 RX2 yX2_feed (.code yX2_feed cX2_feed 6 none :: wsG)) := good_V ml_X8_143 im_X2_feed se_X2_feed ini_X2 co_X2_feed
def f_X8_bit (s_sv : (Nat → Int32)) (r_st : Int32) (r_he : Int32) (r_ta : Int32) (r_cl : Int32) (r_dr : Int32) (r_cn : (Nat → Int32)) (r_nx : (Nat → Int32)) (r_og : (Nat → Int32)) (r_li : (Nat → Int32)) (x1 : Int32) : Option (Int32 × Int32 × Int32 × Int32 × Int32 × Int32 × (Nat → Int32) × (Nat → Int32) × (Nat → Int32) × (Nat → Int32)) := if x1 < 0 then (some ((-1 : Int32), r_st, r_he, r_ta, r_cl, r_dr, r_cn, r_nx, r_og, r_li)) else (if x1 ≤ 1 then (bi9 (f_X2_feed r_st r_he r_ta r_cl r_dr r_cn r_nx r_og r_li s_sv x1) (fun (r_st_3 : Int32) (r_he_4 : Int32) (r_ta_5 : Int32) (r_cl_6 : Int32) (r_dr_7 : Int32) (r_cn_8 : (Nat → Int32)) (r_nx_9 : (Nat → Int32)) (r_og_10 : (Nat → Int32)) (r_li_11 : (Nat → Int32)) => some (r_he_4, r_st_3, r_he_4, r_ta_5, r_cl_6, r_dr_7, r_cn_8, r_nx_9, r_og_10, r_li_11))) else (some ((-1 : Int32), r_st, r_he, r_ta, r_cl, r_dr, r_cn, r_nx, r_og, r_li)))
set_option maxHeartbeats 4000000 in
set_option maxRecDepth 100000 in
theorem c_X8_bit (l : Launch) (D : va_G) (cI : ClassId) {sz : Nat} (q : Nat) (qs : Nat) (qr : Nat) (qi : Nat) (qp : Nat) (qu : Nat) (qk : Nat) (qq : Nat) (q1 : Nat) (q2 : Nat) (qsr : Nat) (qsa : Nat) (qrc : Nat) (qrn : Nat) (qro : Nat) (qrl : Nat) (qrf : Nat) (qrca : Nat) (qrna : Nat) (qroa : Nat) (qrla : Nat) (qrfa : Nat) (kn : Int32) (s_sv : (Nat → Int32)) (r_st : Int32) (r_he : Int32) (r_ta : Int32) (r_cl : Int32) (r_dr : Int32) (r_cn : (Nat → Int32)) (r_nx : (Nat → Int32)) (r_og : (Nat → Int32)) (r_li : (Nat → Int32)) (r_fl : (Nat → Int32)) (x1 : Int32) (r : Int32) (o_r_st : Int32) (o_r_he : Int32) (o_r_ta : Int32) (o_r_cl : Int32) (o_r_dr : Int32) (o_r_cn : (Nat → Int32)) (o_r_nx : (Nat → Int32)) (o_r_og : (Nat → Int32)) (o_r_li : (Nat → Int32)) (hf : f_X8_bit s_sv r_st r_he r_ta r_cl r_dr r_cn r_nx r_og r_li x1 = some (r, o_r_st, o_r_he, o_r_ta, o_r_cl, o_r_dr, o_r_cn, o_r_nx, o_r_og, o_r_li)) : Met l yX8_bit (.code yX8_bit cX8_bit 2 (some .int) :: wsG) ({ frames := 4, cells := 0, slots := 0, locals := 90 }) (va_Pc [.ref q, .int x1] (gv D cI sz [(q, .inr (8, [.ref qs, .ref qr, .ref qi, .ref qp, .ref qu, .ref qk, .ref qq, .ref q1, .ref q2, .int kn])), (qs, .inr (5, [.ref qsr])), (qsr, .inr (4, [.ref qsa])), (qsa, .inl (cI, 5, .inl s_sv)), (qr, .inr (2, [.ref qs, .ref qrc, .ref qrn, .ref qro, .ref qrl, .ref qrf, .int r_st, .int r_he, .int r_ta, .int r_cl, .int r_dr])), (qrc, .inr (4, [.ref qrca])), (qrca, .inl (cI, 500, .inl r_cn)), (qrn, .inr (4, [.ref qrna])), (qrna, .inl (cI, 500, .inl r_nx)), (qro, .inr (4, [.ref qroa])), (qroa, .inl (cI, 250, .inl r_og)), (qrl, .inr (4, [.ref qrla])), (qrla, .inl (cI, 250, .inl r_li)), (qrf, .inr (4, [.ref qrfa])), (qrfa, .inl (cI, 250, .inl r_fl))])) (va_Qi (fun x (_ : Unit) => x = r) (gz D (va_A [(q, .inr (8, [.ref qs, .ref qr, .ref qi, .ref qp, .ref qu, .ref qk, .ref qq, .ref q1, .ref q2, .int kn])), (qs, .inr (5, [.ref qsr])), (qsr, .inr (4, [.ref qsa])), (qsa, .inl (cI, 5, .inl s_sv)), (qr, .inr (2, [.ref qs, .ref qrc, .ref qrn, .ref qro, .ref qrl, .ref qrf, .int r_st, .int r_he, .int r_ta, .int r_cl, .int r_dr])), (qrc, .inr (4, [.ref qrca])), (qrca, .inl (cI, 500, .inl r_cn)), (qrn, .inr (4, [.ref qrna])), (qrna, .inl (cI, 500, .inl r_nx)), (qro, .inr (4, [.ref qroa])), (qroa, .inl (cI, 250, .inl r_og)), (qrl, .inr (4, [.ref qrla])), (qrla, .inl (cI, 250, .inl r_li)), (qrf, .inr (4, [.ref qrfa])), (qrfa, .inl (cI, 250, .inl r_fl))] sz) [(q, .inr (8, [.ref qs, .ref qr, .ref qi, .ref qp, .ref qu, .ref qk, .ref qq, .ref q1, .ref q2, .int kn])), (qs, .inr (5, [.ref qsr])), (qsr, .inr (4, [.ref qsa])), (qsa, .inl (cI, 5, .inl s_sv)), (qr, .inr (2, [.ref qs, .ref qrc, .ref qrn, .ref qro, .ref qrl, .ref qrf, .int o_r_st, .int o_r_he, .int o_r_ta, .int o_r_cl, .int o_r_dr])), (qrc, .inr (4, [.ref qrca])), (qrca, .inl (cI, 500, .inl o_r_cn)), (qrn, .inr (4, [.ref qrna])), (qrna, .inl (cI, 500, .inl o_r_nx)), (qro, .inr (4, [.ref qroa])), (qroa, .inl (cI, 250, .inl o_r_og)), (qrl, .inr (4, [.ref qrla])), (qrla, .inl (cI, 250, .inl o_r_li)), (qrf, .inr (4, [.ref qrfa])), (qrfa, .inl (cI, 250, .inl r_fl))]) (va_A [(q, .inr (8, [.ref qs, .ref qr, .ref qi, .ref qp, .ref qu, .ref qk, .ref qq, .ref q1, .ref q2, .int kn])), (qs, .inr (5, [.ref qsr])), (qsr, .inr (4, [.ref qsa])), (qsa, .inl (cI, 5, .inl s_sv)), (qr, .inr (2, [.ref qs, .ref qrc, .ref qrn, .ref qro, .ref qrl, .ref qrf, .int r_st, .int r_he, .int r_ta, .int r_cl, .int r_dr])), (qrc, .inr (4, [.ref qrca])), (qrca, .inl (cI, 500, .inl r_cn)), (qrn, .inr (4, [.ref qrna])), (qrna, .inl (cI, 500, .inl r_nx)), (qro, .inr (4, [.ref qroa])), (qroa, .inl (cI, 250, .inl r_og)), (qrl, .inr (4, [.ref qrla])), (qrla, .inl (cI, 250, .inl r_li)), (qrf, .inr (4, [.ref qrfa])), (qrfa, .inl (cI, 250, .inl r_fl))] sz)) 0 0 (va_A [(q, .inr (8, [.ref qs, .ref qr, .ref qi, .ref qp, .ref qu, .ref qk, .ref qq, .ref q1, .ref q2, .int kn])), (qs, .inr (5, [.ref qsr])), (qsr, .inr (4, [.ref qsa])), (qsa, .inl (cI, 5, .inl s_sv)), (qr, .inr (2, [.ref qs, .ref qrc, .ref qrn, .ref qro, .ref qrl, .ref qrf, .int r_st, .int r_he, .int r_ta, .int r_cl, .int r_dr])), (qrc, .inr (4, [.ref qrca])), (qrca, .inl (cI, 500, .inl r_cn)), (qrn, .inr (4, [.ref qrna])), (qrna, .inl (cI, 500, .inl r_nx)), (qro, .inr (4, [.ref qroa])), (qroa, .inl (cI, 250, .inl r_og)), (qrl, .inr (4, [.ref qrla])), (qrla, .inl (cI, 250, .inl r_li)), (qrf, .inr (4, [.ref qrfa])), (qrfa, .inl (cI, 250, .inl r_fl))] sz) := by
  refine k_rw (y := yX8_bit) (cc := cX8_bit) (maxL := 2) (ret := (some .int)) (As := [.ref q, .int x1]) (Qc := fun A => va_Qi (fun x (_ : Unit) => x = r) (gz D A [(q, .inr (8, [.ref qs, .ref qr, .ref qi, .ref qp, .ref qu, .ref qk, .ref qq, .ref q1, .ref q2, .int kn])), (qs, .inr (5, [.ref qsr])), (qsr, .inr (4, [.ref qsa])), (qsa, .inl (cI, 5, .inl s_sv)), (qr, .inr (2, [.ref qs, .ref qrc, .ref qrn, .ref qro, .ref qrl, .ref qrf, .int o_r_st, .int o_r_he, .int o_r_ta, .int o_r_cl, .int o_r_dr])), (qrc, .inr (4, [.ref qrca])), (qrca, .inl (cI, 500, .inl o_r_cn)), (qrn, .inr (4, [.ref qrna])), (qrna, .inl (cI, 500, .inl o_r_nx)), (qro, .inr (4, [.ref qroa])), (qroa, .inl (cI, 250, .inl o_r_og)), (qrl, .inr (4, [.ref qrla])), (qrla, .inl (cI, 250, .inl o_r_li)), (qrf, .inr (4, [.ref qrfa])), (qrfa, .inl (cI, 250, .inl r_fl))]) A) (by decide) rfl (Nat.le_of_ble_eq_true rfl) rfl ?_
  intro p e s m below meth c ls A S hret hloc hK hN hSF hP hD hS hA hl
  obtain ⟨hx, hb, hml, hown, hts⟩ := id S
  unfold f_X8_bit at hf
  refine lv_iload_n hx hb dX8_bit_0 rfl (lv_at hl 1 rfl) ?_
  refine lv_if_lt (tgt := 9) hx hb dX8_bit_1 (by decide) (fun c_1 => ?_) (fun c_1 => ?_)
  · rw [if_pos c_1] at hf
    refine lv_iconst (v := (-1)) hx hb dX8_bit_9 (by decide) ?_
    obtain ⟨e_0, e_r⟩ := Prod.mk.inj (Option.some.inj hf)
    obtain ⟨e_1, e_r⟩ := Prod.mk.inj (e_r)
    obtain ⟨e_2, e_r⟩ := Prod.mk.inj (e_r)
    obtain ⟨e_3, e_r⟩ := Prod.mk.inj (e_r)
    obtain ⟨e_4, e_r⟩ := Prod.mk.inj (e_r)
    obtain ⟨e_5, e_r⟩ := Prod.mk.inj (e_r)
    obtain ⟨e_6, e_r⟩ := Prod.mk.inj (e_r)
    obtain ⟨e_7, e_r⟩ := Prod.mk.inj (e_r)
    obtain ⟨e_8, e_9⟩ := Prod.mk.inj (e_r)
    subst e_0
    subst e_1
    subst e_2
    subst e_3
    subst e_4
    subst e_5
    subst e_6
    subst e_7
    subst e_8
    subst e_9
    exact k_wreti hx hb hret hloc rfl hP hD hS dX8_bit_10
  · rw [if_neg c_1] at hf
    refine lv_iload_n hx hb dX8_bit_4 rfl (lv_at hl 1 rfl) ?_
    refine lv_iconst (v := 1) hx hb dX8_bit_5 (by decide) ?_
    refine lv_icmp_le (tgt := 11) hx hb dX8_bit_6 (by decide) (fun c_2 => ?_) (fun c_2 => ?_)
    · rw [if_pos c_2] at hf
      refine lv_aload_n hx hb dX8_bit_11 rfl (lv_at hl 0 rfl) ?_
      refine va_get (D := D) (ci := 8) (v := .ref qr) (C := RX8) (T := TX8) (N := 10) hx hb hts inGX8 hown hK hP 0 rfl rfl 1 (by decide) (hts _ fl_X8_21) (fun _ h9 => h9) rfl dX8_bit_12 ?_
      refine lv_iload_n hx hb dX8_bit_15 rfl (lv_at hl 1 rfl) ?_
      obtain ⟨r_st_3, r_he_4, r_ta_5, r_cl_6, r_dr_7, r_cn_8, r_nx_9, r_og_10, r_li_11, hc_12, hf⟩ := bd9 hf
      refine k_rwVv (As := [.int x1]) (rest := []) (Wr := [(q, .inr (8, [.ref qs, .ref qr, .ref qi, .ref qp, .ref qu, .ref qk, .ref qq, .ref q1, .ref q2, .int kn]))]) (W2 := [(q, .inr (8, [.ref qs, .ref qr, .ref qi, .ref qp, .ref qu, .ref qk, .ref qq, .ref q1, .ref q2, .int kn])), (qs, .inr (5, [.ref qsr])), (qsr, .inr (4, [.ref qsa])), (qsa, .inl (cI, 5, .inl s_sv)), (qr, .inr (2, [.ref qs, .ref qrc, .ref qrn, .ref qro, .ref qrl, .ref qrf, .int r_st_3, .int r_he_4, .int r_ta_5, .int r_cl_6, .int r_dr_7])), (qrc, .inr (4, [.ref qrca])), (qrca, .inl (cI, 500, .inl r_cn_8)), (qrn, .inr (4, [.ref qrna])), (qrna, .inl (cI, 500, .inl r_nx_9)), (qro, .inr (4, [.ref qroa])), (qroa, .inl (cI, 250, .inl r_og_10)), (qrl, .inr (4, [.ref qrla])), (qrla, .inl (cI, 250, .inl r_li_11)), (qrf, .inr (4, [.ref qrfa])), (qrfa, .inl (cI, 250, .inl r_fl))]) S (c_X2_feed l D cI (q := qr) (qs := qs) (qc := qrc) (qn := qrn) (qo := qro) (ql := qrl) (qf := qrf) (qca := qrca) (qna := qrna) (qoa := qroa) (qla := qrla) (qfa := qrfa) (qsr := qsr) (qsa := qsa) (st := r_st) (he := r_he) (ta := r_ta) (cl := r_cl) (dr := r_dr) (cn := r_cn) (nx := r_nx) (og := r_og) (li := r_li) (fl := r_fl) (sv := s_sv) (x1 := x1)  (o_st := r_st_3) (o_he := r_he_4) (o_ta := r_ta_5) (o_cl := r_cl_6) (o_dr := r_dr_7) (o_cn := r_cn_8) (o_nx := r_nx_9) (o_og := r_og_10) (o_li := r_li_11) (hf := hc_12)) gs_X8_143 ok_X2_feed ⟨rfl, rfl⟩ ⟨Nat.le_of_ble_eq_true rfl, Nat.le_of_ble_eq_true rfl⟩ hK hN hSF hP hD hS hA [4, 5, 6, 7, 8, 9, 10, 11, 12, 13, 14, 1, 2, 3] [0] [0, 12, 13, 14, 1, 2, 3, 4, 5, 6, 7, 8, 9, 10, 11] (by decide) rfl rfl (by decide) (by decide) rfl (by decide) rfl rfl rfl hl.1 rfl (Nat.le_of_ble_eq_true rfl) ⟨Nat.zero_le _, Nat.zero_le _⟩ dX8_bit_16 (fun H locs hP hD hS => ?_)
      refine lv_aload_n hx hb dX8_bit_19 rfl (lv_at hl 0 rfl) ?_
      refine va_get (D := D) (ci := 8) (v := .ref qr) (C := RX8) (T := TX8) (N := 10) hx hb hts inGX8 hown hK hP 0 rfl rfl 1 (by decide) (hts _ fl_X8_21) (fun _ h9 => h9) rfl dX8_bit_20 ?_
      refine va_getN (D := D) (ci := 2) (v := .int r_he_4) (C := RX2) (T := TX2) (N := 11) hx hb hts inGX2 hown hK hP 4 rfl rfl 7 (by decide) (va_Nw.use rfl (nf_X8_146 hN)) (fun _ h9 => h9) rfl dX8_bit_23 ?_
      obtain ⟨e_0, e_r⟩ := Prod.mk.inj (Option.some.inj hf)
      obtain ⟨e_1, e_r⟩ := Prod.mk.inj (e_r)
      obtain ⟨e_2, e_r⟩ := Prod.mk.inj (e_r)
      obtain ⟨e_3, e_r⟩ := Prod.mk.inj (e_r)
      obtain ⟨e_4, e_r⟩ := Prod.mk.inj (e_r)
      obtain ⟨e_5, e_r⟩ := Prod.mk.inj (e_r)
      obtain ⟨e_6, e_r⟩ := Prod.mk.inj (e_r)
      obtain ⟨e_7, e_r⟩ := Prod.mk.inj (e_r)
      obtain ⟨e_8, e_9⟩ := Prod.mk.inj (e_r)
      subst e_0
      subst e_1
      subst e_2
      subst e_3
      subst e_4
      subst e_5
      subst e_6
      subst e_7
      subst e_8
      subst e_9
      exact k_wreti hx hb hret hloc rfl hP hD hS dX8_bit_26
    · rw [if_neg c_2] at hf
      refine lv_iconst (v := (-1)) hx hb dX8_bit_9 (by decide) ?_
      obtain ⟨e_0, e_r⟩ := Prod.mk.inj (Option.some.inj hf)
      obtain ⟨e_1, e_r⟩ := Prod.mk.inj (e_r)
      obtain ⟨e_2, e_r⟩ := Prod.mk.inj (e_r)
      obtain ⟨e_3, e_r⟩ := Prod.mk.inj (e_r)
      obtain ⟨e_4, e_r⟩ := Prod.mk.inj (e_r)
      obtain ⟨e_5, e_r⟩ := Prod.mk.inj (e_r)
      obtain ⟨e_6, e_r⟩ := Prod.mk.inj (e_r)
      obtain ⟨e_7, e_r⟩ := Prod.mk.inj (e_r)
      obtain ⟨e_8, e_9⟩ := Prod.mk.inj (e_r)
      subst e_0
      subst e_1
      subst e_2
      subst e_3
      subst e_4
      subst e_5
      subst e_6
      subst e_7
      subst e_8
      subst e_9
      exact k_wreti hx hb hret hloc rfl hP hD hS dX8_bit_10
theorem dX8_take_0 : decode cX8_take 0 = .ok (.iload_n 1, 1) := by decide +kernel
theorem dX8_take_1 : decode cX8_take 1 = .ok (.invokestatic 88, 3) := by decide +kernel
theorem dX8_take_4 : decode cX8_take 4 = .ok (.ifCond .ne 5, 3) := by decide +kernel
theorem dX8_take_7 : decode cX8_take 7 = .ok (.iconst (-1), 1) := by decide +kernel
theorem dX8_take_8 : decode cX8_take 8 = .ok (.ireturn, 1) := by decide +kernel
theorem dX8_take_9 : decode cX8_take 9 = .ok (.aload_n 0, 1) := by decide +kernel
theorem dX8_take_10 : decode cX8_take 10 = .ok (.getfield 12, 3) := by decide +kernel
theorem dX8_take_13 : decode cX8_take 13 = .ok (.iload_n 1, 1) := by decide +kernel
theorem dX8_take_14 : decode cX8_take 14 = .ok (.invokevirtual 149, 3) := by decide +kernel
theorem dX8_take_17 : decode cX8_take 17 = .ok (.istore_n 2, 1) := by decide +kernel
theorem dX8_take_18 : decode cX8_take 18 = .ok (.iconst 0, 1) := by decide +kernel
theorem dX8_take_19 : decode cX8_take 19 = .ok (.istore_n 3, 1) := by decide +kernel
theorem dX8_take_20 : decode cX8_take 20 = .ok (.iload_n 3, 1) := by decide +kernel
theorem dX8_take_21 : decode cX8_take 21 = .ok (.bipush 8, 2) := by decide +kernel
theorem dX8_take_23 : decode cX8_take 23 = .ok (.if_icmp .ge 23, 3) := by decide +kernel
theorem dX8_take_26 : decode cX8_take 26 = .ok (.aload_n 0, 1) := by decide +kernel
theorem dX8_take_27 : decode cX8_take 27 = .ok (.getfield 21, 3) := by decide +kernel
theorem dX8_take_30 : decode cX8_take 30 = .ok (.iload_n 2, 1) := by decide +kernel
theorem dX8_take_31 : decode cX8_take 31 = .ok (.bipush 8, 2) := by decide +kernel
theorem dX8_take_33 : decode cX8_take 33 = .ok (.iload_n 3, 1) := by decide +kernel
theorem dX8_take_34 : decode cX8_take 34 = .ok (.invokestatic 152, 3) := by decide +kernel
theorem dX8_take_37 : decode cX8_take 37 = .ok (.invokevirtual 143, 3) := by decide +kernel
theorem dX8_take_40 : decode cX8_take 40 = .ok (.iinc 3 1, 3) := by decide +kernel
theorem dX8_take_43 : decode cX8_take 43 = .ok (.goto (-23), 3) := by decide +kernel
theorem dX8_take_46 : decode cX8_take 46 = .ok (.aload_n 0, 1) := by decide +kernel
theorem dX8_take_47 : decode cX8_take 47 = .ok (.getfield 21, 3) := by decide +kernel
theorem dX8_take_50 : decode cX8_take 50 = .ok (.getfield 146, 3) := by decide +kernel
theorem dX8_take_53 : decode cX8_take 53 = .ok (.ireturn, 1) := by decide +kernel
theorem gs_X8_152 : GoodIn wsG (va_wsS RX8 152 yX8_bitFromHighest (.code yX8_bitFromHighest cX8_bitFromHighest 3 (some .int) :: wsG)) := good_S ml_X8_152 st_X8_bitFromHighest ini_X8 co_X8_bitFromHighest
def st_X8_take_L20 (v2 : Int32) (s_sv : (Nat → Int32)) (v3 : Int32) (r_st : Int32) (r_he : Int32) (r_ta : Int32) (r_cl : Int32) (r_dr : Int32) (r_cn : (Nat → Int32)) (r_nx : (Nat → Int32)) (r_og : (Nat → Int32)) (r_li : (Nat → Int32)) : Option ((Int32 × Int32 × Int32 × Int32 × Int32 × Int32 × (Nat → Int32) × (Nat → Int32) × (Nat → Int32) × (Nat → Int32)) ⊕ (Int32 × Int32 × Int32 × Int32 × Int32 × Int32 × (Nat → Int32) × (Nat → Int32) × (Nat → Int32) × (Nat → Int32))) := if 8 ≤ v3 then (some (Sum.inr (v3, r_st, r_he, r_ta, r_cl, r_dr, r_cn, r_nx, r_og, r_li))) else (bi9 (f_X2_feed r_st r_he r_ta r_cl r_dr r_cn r_nx r_og r_li s_sv (f_X8_bitFromHighest v2 8 v3)) (fun (r_st_5 : Int32) (r_he_6 : Int32) (r_ta_7 : Int32) (r_cl_8 : Int32) (r_dr_9 : Int32) (r_cn_10 : (Nat → Int32)) (r_nx_11 : (Nat → Int32)) (r_og_12 : (Nat → Int32)) (r_li_13 : (Nat → Int32)) => some (Sum.inl (v3 + 1, r_st_5, r_he_6, r_ta_7, r_cl_8, r_dr_9, r_cn_10, r_nx_11, r_og_12, r_li_13))))
def f_X8_take_L20 (v2 : Int32) (s_sv : (Nat → Int32)) (k : Nat) (v3 : Int32) (r_st : Int32) (r_he : Int32) (r_ta : Int32) (r_cl : Int32) (r_dr : Int32) (r_cn : (Nat → Int32)) (r_nx : (Nat → Int32)) (r_og : (Nat → Int32)) (r_li : (Nat → Int32)) : Option (Int32 × Int32 × Int32 × Int32 × Int32 × Int32 × (Nat → Int32) × (Nat → Int32) × (Nat → Int32) × (Nat → Int32)) := lpN (fun z => st_X8_take_L20 v2 s_sv z.1 z.2.1 z.2.2.1 z.2.2.2.1 z.2.2.2.2.1 z.2.2.2.2.2.1 z.2.2.2.2.2.2.1 z.2.2.2.2.2.2.2.1 z.2.2.2.2.2.2.2.2.1 z.2.2.2.2.2.2.2.2.2) k (v3, r_st, r_he, r_ta, r_cl, r_dr, r_cn, r_nx, r_og, r_li)
set_option maxHeartbeats 4000000 in
set_option maxRecDepth 100000 in
theorem L_X8_take_20 {p : Program} {l : Launch} {e : Env} {s : State} {m : MethodId} {args : Array Value} {below : List Frame} {meth : Method} {c : Code} {Q : State → Prop} {D : va_G} {cI : ClassId} {q : Nat} {qs : Nat} {qr : Nat} {qi : Nat} {qp : Nat} {qu : Nat} {qk : Nat} {qq : Nat} {q1 : Nat} {q2 : Nat} {qsr : Nat} {qsa : Nat} {qrc : Nat} {qrn : Nat} {qro : Nat} {qrl : Nat} {qrf : Nat} {qrca : Nat} {qrna : Nat} {qroa : Nat} {qrla : Nat} {qrfa : Nat} {v2 : Int32} {kn : Int32} {s_sv : (Nat → Int32)} {r_fl : (Nat → Int32)} {A : Nat → Prop} (S : CallFix p m c cX8_take 4 s args wsG RX8) (hK : va_K D vwCl [(cI, .int)] s) (hN : nw s) (hSF : sf A s s.heap) (hA : ∀ q, s.heap.size ≤ q → A q) : ∀ (k : Nat) (v3 : Int32) (r_st : Int32) (r_he : Int32) (r_ta : Int32) (r_cl : Int32) (r_dr : Int32) (r_cn : (Nat → Int32)) (r_nx : (Nat → Int32)) (r_og : (Nat → Int32)) (r_li : (Nat → Int32)) (o_v3 : Int32) (o_r_st : Int32) (o_r_he : Int32) (o_r_ta : Int32) (o_r_cl : Int32) (o_r_dr : Int32) (o_r_cn : (Nat → Int32)) (o_r_nx : (Nat → Int32)) (o_r_og : (Nat → Int32)) (o_r_li : (Nat → Int32)), f_X8_take_L20 v2 s_sv k v3 r_st r_he r_ta r_cl r_dr r_cn r_nx r_og r_li = some (o_v3, o_r_st, o_r_he, o_r_ta, o_r_cl, o_r_dr, o_r_cn, o_r_nx, o_r_og, o_r_li) → ∀ (H : Heap) (locs : List Loc) (ls : Array Slot), va_P D vwCl [(q, .inr (8, [.ref qs, .ref qr, .ref qi, .ref qp, .ref qu, .ref qk, .ref qq, .ref q1, .ref q2, .int kn])), (qs, .inr (5, [.ref qsr])), (qsr, .inr (4, [.ref qsa])), (qsa, .inl (cI, 5, .inl s_sv)), (qr, .inr (2, [.ref qs, .ref qrc, .ref qrn, .ref qro, .ref qrl, .ref qrf, .int r_st, .int r_he, .int r_ta, .int r_cl, .int r_dr])), (qrc, .inr (4, [.ref qrca])), (qrca, .inl (cI, 500, .inl r_cn)), (qrn, .inr (4, [.ref qrna])), (qrna, .inl (cI, 500, .inl r_nx)), (qro, .inr (4, [.ref qroa])), (qroa, .inl (cI, 250, .inl r_og)), (qrl, .inr (4, [.ref qrla])), (qrla, .inl (cI, 250, .inl r_li)), (qrf, .inr (4, [.ref qrfa])), (qrfa, .inl (cI, 250, .inl r_fl))] H → va_D A [(q, .inr (8, [.ref qs, .ref qr, .ref qi, .ref qp, .ref qu, .ref qk, .ref qq, .ref q1, .ref q2, .int kn])), (qs, .inr (5, [.ref qsr])), (qsr, .inr (4, [.ref qsa])), (qsa, .inl (cI, 5, .inl s_sv)), (qr, .inr (2, [.ref qs, .ref qrc, .ref qrn, .ref qro, .ref qrl, .ref qrf, .int r_st, .int r_he, .int r_ta, .int r_cl, .int r_dr])), (qrc, .inr (4, [.ref qrca])), (qrca, .inl (cI, 500, .inl r_cn)), (qrn, .inr (4, [.ref qrna])), (qrna, .inl (cI, 500, .inl r_nx)), (qro, .inr (4, [.ref qroa])), (qroa, .inl (cI, 250, .inl r_og)), (qrl, .inr (4, [.ref qrla])), (qrla, .inl (cI, 250, .inl r_li)), (qrf, .inr (4, [.ref qrfa])), (qrfa, .inl (cI, 250, .inl r_fl))] → va_S A s.heap H locs → lv_has ls 4 [(0, .ref q), (2, .int v2), (3, .int v3)] → (∀ (H : Heap) (locs : List Loc) (ls : Array Slot), va_P D vwCl [(q, .inr (8, [.ref qs, .ref qr, .ref qi, .ref qp, .ref qu, .ref qk, .ref qq, .ref q1, .ref q2, .int kn])), (qs, .inr (5, [.ref qsr])), (qsr, .inr (4, [.ref qsa])), (qsa, .inl (cI, 5, .inl s_sv)), (qr, .inr (2, [.ref qs, .ref qrc, .ref qrn, .ref qro, .ref qrl, .ref qrf, .int o_r_st, .int o_r_he, .int o_r_ta, .int o_r_cl, .int o_r_dr])), (qrc, .inr (4, [.ref qrca])), (qrca, .inl (cI, 500, .inl o_r_cn)), (qrn, .inr (4, [.ref qrna])), (qrna, .inl (cI, 500, .inl o_r_nx)), (qro, .inr (4, [.ref qroa])), (qroa, .inl (cI, 250, .inl o_r_og)), (qrl, .inr (4, [.ref qrla])), (qrla, .inl (cI, 250, .inl o_r_li)), (qrf, .inr (4, [.ref qrfa])), (qrfa, .inl (cI, 250, .inl r_fl))] H → va_D A [(q, .inr (8, [.ref qs, .ref qr, .ref qi, .ref qp, .ref qu, .ref qk, .ref qq, .ref q1, .ref q2, .int kn])), (qs, .inr (5, [.ref qsr])), (qsr, .inr (4, [.ref qsa])), (qsa, .inl (cI, 5, .inl s_sv)), (qr, .inr (2, [.ref qs, .ref qrc, .ref qrn, .ref qro, .ref qrl, .ref qrf, .int o_r_st, .int o_r_he, .int o_r_ta, .int o_r_cl, .int o_r_dr])), (qrc, .inr (4, [.ref qrca])), (qrca, .inl (cI, 500, .inl o_r_cn)), (qrn, .inr (4, [.ref qrna])), (qrna, .inl (cI, 500, .inl o_r_nx)), (qro, .inr (4, [.ref qroa])), (qroa, .inl (cI, 250, .inl o_r_og)), (qrl, .inr (4, [.ref qrla])), (qrla, .inl (cI, 250, .inl o_r_li)), (qrf, .inr (4, [.ref qrfa])), (qrfa, .inl (cI, 250, .inl r_fl))] → va_S A s.heap H locs → lv_has ls 4 [(0, .ref q), (2, .int v2), (3, .int o_v3)] → W p l e (headSpec (.code yX8_take cX8_take 4 (some .int) :: wsG) { frames := 4, cells := 0, slots := 0, locals := 90 }).room s m args below meth c H locs 0 0 Q (F0 m 46 ls [])) → W p l e (headSpec (.code yX8_take cX8_take 4 (some .int) :: wsG) { frames := 4, cells := 0, slots := 0, locals := 90 }).room s m args below meth c H locs 0 0 Q (F0 m 20 ls []) := by
  obtain ⟨hx, hb, hml, hown, hts⟩ := id S
  intro k
  induction k with
  | zero =>
    intro v3 r_st r_he r_ta r_cl r_dr r_cn r_nx r_og r_li o_v3 o_r_st o_r_he o_r_ta o_r_cl o_r_dr o_r_cn o_r_nx o_r_og o_r_li hf
    cases hf
  | succ k ih =>
    intro v3 r_st r_he r_ta r_cl r_dr r_cn r_nx r_og r_li o_v3 o_r_st o_r_he o_r_ta o_r_cl o_r_dr o_r_cn o_r_nx o_r_og o_r_li hf H locs ls hP hD hS hl kk
    obtain ⟨z, hf, hz⟩ := lp_inv hf
    have hf : st_X8_take_L20 v2 s_sv v3 r_st r_he r_ta r_cl r_dr r_cn r_nx r_og r_li = some z := hf
    unfold st_X8_take_L20 at hf
    refine lv_iload_n hx hb dX8_take_20 rfl (lv_at hl 2 rfl) ?_
    refine lv_bipush (v := 8) hx hb dX8_take_21 (by decide) ?_
    refine lv_icmp_ge (tgt := 46) hx hb dX8_take_23 (by decide) (fun c_4 => ?_) (fun c_4 => ?_)
    · rw [if_pos c_4] at hf
      have hf := Option.some.inj hf
      subst hf
      obtain ⟨e_0, e_r⟩ := Prod.mk.inj (lpC_r hz)
      obtain ⟨e_1, e_r⟩ := Prod.mk.inj (e_r)
      obtain ⟨e_2, e_r⟩ := Prod.mk.inj (e_r)
      obtain ⟨e_3, e_r⟩ := Prod.mk.inj (e_r)
      obtain ⟨e_4, e_r⟩ := Prod.mk.inj (e_r)
      obtain ⟨e_5, e_r⟩ := Prod.mk.inj (e_r)
      obtain ⟨e_6, e_r⟩ := Prod.mk.inj (e_r)
      obtain ⟨e_7, e_r⟩ := Prod.mk.inj (e_r)
      obtain ⟨e_8, e_9⟩ := Prod.mk.inj (e_r)
      subst e_0
      subst e_1
      subst e_2
      subst e_3
      subst e_4
      subst e_5
      subst e_6
      subst e_7
      subst e_8
      subst e_9
      exact kk H locs ls hP hD hS (lv_sub hl [0, 1, 2] rfl)
    · rw [if_neg c_4] at hf
      refine lv_aload_n hx hb dX8_take_26 rfl (lv_at hl 0 rfl) ?_
      refine va_get (D := D) (ci := 8) (v := .ref qr) (C := RX8) (T := TX8) (N := 10) hx hb hts inGX8 hown hK hP 0 rfl rfl 1 (by decide) (hts _ fl_X8_21) (fun _ h9 => h9) rfl dX8_take_27 ?_
      refine lv_iload_n hx hb dX8_take_30 rfl (lv_at hl 1 rfl) ?_
      refine lv_bipush (v := 8) hx hb dX8_take_31 (by decide) ?_
      refine lv_iload_n hx hb dX8_take_33 rfl (lv_at hl 2 rfl) ?_
      refine k_roSi (As := [.int v2, .int 8, .int v3]) (rest := [.ref qr]) S (c_X8_bitFromHighest l D cI (x1 := v2) (x2 := 8) (x3 := v3)  (r := (f_X8_bitFromHighest v2 8 v3)) (hf := rfl)) gs_X8_152 ok_X8_bitFromHighest ⟨rfl, rfl⟩ ⟨Nat.le_of_ble_eq_true rfl, Nat.le_of_ble_eq_true rfl⟩ hK hN (sfr hSF hS) (hP.sub [] rfl) rfl hl.1 rfl (Nat.le_of_ble_eq_true rfl) ⟨Nat.zero_le _, Nat.zero_le _⟩ dX8_take_34 ?_
      obtain ⟨r_st_5, r_he_6, r_ta_7, r_cl_8, r_dr_9, r_cn_10, r_nx_11, r_og_12, r_li_13, hc_14, hf⟩ := bd9 hf
      refine k_rwVv (As := [.int (f_X8_bitFromHighest v2 8 v3)]) (rest := []) (Wr := [(q, .inr (8, [.ref qs, .ref qr, .ref qi, .ref qp, .ref qu, .ref qk, .ref qq, .ref q1, .ref q2, .int kn]))]) (W2 := [(q, .inr (8, [.ref qs, .ref qr, .ref qi, .ref qp, .ref qu, .ref qk, .ref qq, .ref q1, .ref q2, .int kn])), (qs, .inr (5, [.ref qsr])), (qsr, .inr (4, [.ref qsa])), (qsa, .inl (cI, 5, .inl s_sv)), (qr, .inr (2, [.ref qs, .ref qrc, .ref qrn, .ref qro, .ref qrl, .ref qrf, .int r_st_5, .int r_he_6, .int r_ta_7, .int r_cl_8, .int r_dr_9])), (qrc, .inr (4, [.ref qrca])), (qrca, .inl (cI, 500, .inl r_cn_10)), (qrn, .inr (4, [.ref qrna])), (qrna, .inl (cI, 500, .inl r_nx_11)), (qro, .inr (4, [.ref qroa])), (qroa, .inl (cI, 250, .inl r_og_12)), (qrl, .inr (4, [.ref qrla])), (qrla, .inl (cI, 250, .inl r_li_13)), (qrf, .inr (4, [.ref qrfa])), (qrfa, .inl (cI, 250, .inl r_fl))]) S (c_X2_feed l D cI (q := qr) (qs := qs) (qc := qrc) (qn := qrn) (qo := qro) (ql := qrl) (qf := qrf) (qca := qrca) (qna := qrna) (qoa := qroa) (qla := qrla) (qfa := qrfa) (qsr := qsr) (qsa := qsa) (st := r_st) (he := r_he) (ta := r_ta) (cl := r_cl) (dr := r_dr) (cn := r_cn) (nx := r_nx) (og := r_og) (li := r_li) (fl := r_fl) (sv := s_sv) (x1 := (f_X8_bitFromHighest v2 8 v3))  (o_st := r_st_5) (o_he := r_he_6) (o_ta := r_ta_7) (o_cl := r_cl_8) (o_dr := r_dr_9) (o_cn := r_cn_10) (o_nx := r_nx_11) (o_og := r_og_12) (o_li := r_li_13) (hf := hc_14)) gs_X8_143 ok_X2_feed ⟨rfl, rfl⟩ ⟨Nat.le_of_ble_eq_true rfl, Nat.le_of_ble_eq_true rfl⟩ hK hN hSF hP hD hS hA [4, 5, 6, 7, 8, 9, 10, 11, 12, 13, 14, 1, 2, 3] [0] [0, 12, 13, 14, 1, 2, 3, 4, 5, 6, 7, 8, 9, 10, 11] (by decide) rfl rfl (by decide) (by decide) rfl (by decide) rfl rfl rfl hl.1 rfl (Nat.le_of_ble_eq_true rfl) ⟨Nat.zero_le _, Nat.zero_le _⟩ dX8_take_37 (fun H locs hP hD hS => ?_)
      refine lv_iinc (v := v3 + 1) (lv' := [(3, .int (v3 + 1)), (0, .ref q), (2, .int v2)]) hx hb dX8_take_40 hl (k := 2) rfl rfl (by decide) rfl (fun ls hl => ?_)
      refine lv_goto (tgt := 20) hx hb dX8_take_43 (by decide) ?_
      have hf := Option.some.inj hf
      subst hf
      exact ih (v3 + 1) r_st_5 r_he_6 r_ta_7 r_cl_8 r_dr_9 r_cn_10 r_nx_11 r_og_12 r_li_13 _ _ _ _ _ _ _ _ _ _ hz H locs ls hP hD hS (lv_sub hl [1, 2, 0] rfl) kk
def f_X8_take (s_sv : (Nat → Int32)) (r_st : Int32) (r_he : Int32) (r_ta : Int32) (r_cl : Int32) (r_dr : Int32) (r_cn : (Nat → Int32)) (r_nx : (Nat → Int32)) (r_og : (Nat → Int32)) (r_li : (Nat → Int32)) (x1 : Int32) : Option (Int32 × Int32 × Int32 × Int32 × Int32 × Int32 × (Nat → Int32) × (Nat → Int32) × (Nat → Int32) × (Nat → Int32)) := if (f_X8_isByte x1) = 0 then (some ((-1 : Int32), r_st, r_he, r_ta, r_cl, r_dr, r_cn, r_nx, r_og, r_li)) else (bi1 (f_X5_turned s_sv x1) (fun (r_2 : Int32) => bi10 (f_X8_take_L20 r_2 s_sv 4096 0 r_st r_he r_ta r_cl r_dr r_cn r_nx r_og r_li) (fun (v3_15 : Int32) (r_st_16 : Int32) (r_he_17 : Int32) (r_ta_18 : Int32) (r_cl_19 : Int32) (r_dr_20 : Int32) (r_cn_21 : (Nat → Int32)) (r_nx_22 : (Nat → Int32)) (r_og_23 : (Nat → Int32)) (r_li_24 : (Nat → Int32)) => some (r_he_17, r_st_16, r_he_17, r_ta_18, r_cl_19, r_dr_20, r_cn_21, r_nx_22, r_og_23, r_li_24))))
set_option maxHeartbeats 4000000 in
set_option maxRecDepth 100000 in
theorem c_X8_take (l : Launch) (D : va_G) (cI : ClassId) {sz : Nat} (q : Nat) (qs : Nat) (qr : Nat) (qi : Nat) (qp : Nat) (qu : Nat) (qk : Nat) (qq : Nat) (q1 : Nat) (q2 : Nat) (qsr : Nat) (qsa : Nat) (qrc : Nat) (qrn : Nat) (qro : Nat) (qrl : Nat) (qrf : Nat) (qrca : Nat) (qrna : Nat) (qroa : Nat) (qrla : Nat) (qrfa : Nat) (kn : Int32) (s_sv : (Nat → Int32)) (r_st : Int32) (r_he : Int32) (r_ta : Int32) (r_cl : Int32) (r_dr : Int32) (r_cn : (Nat → Int32)) (r_nx : (Nat → Int32)) (r_og : (Nat → Int32)) (r_li : (Nat → Int32)) (r_fl : (Nat → Int32)) (x1 : Int32) (r : Int32) (o_r_st : Int32) (o_r_he : Int32) (o_r_ta : Int32) (o_r_cl : Int32) (o_r_dr : Int32) (o_r_cn : (Nat → Int32)) (o_r_nx : (Nat → Int32)) (o_r_og : (Nat → Int32)) (o_r_li : (Nat → Int32)) (hf : f_X8_take s_sv r_st r_he r_ta r_cl r_dr r_cn r_nx r_og r_li x1 = some (r, o_r_st, o_r_he, o_r_ta, o_r_cl, o_r_dr, o_r_cn, o_r_nx, o_r_og, o_r_li)) : Met l yX8_take (.code yX8_take cX8_take 4 (some .int) :: wsG) ({ frames := 4, cells := 0, slots := 0, locals := 90 }) (va_Pc [.ref q, .int x1] (gv D cI sz [(q, .inr (8, [.ref qs, .ref qr, .ref qi, .ref qp, .ref qu, .ref qk, .ref qq, .ref q1, .ref q2, .int kn])), (qs, .inr (5, [.ref qsr])), (qsr, .inr (4, [.ref qsa])), (qsa, .inl (cI, 5, .inl s_sv)), (qr, .inr (2, [.ref qs, .ref qrc, .ref qrn, .ref qro, .ref qrl, .ref qrf, .int r_st, .int r_he, .int r_ta, .int r_cl, .int r_dr])), (qrc, .inr (4, [.ref qrca])), (qrca, .inl (cI, 500, .inl r_cn)), (qrn, .inr (4, [.ref qrna])), (qrna, .inl (cI, 500, .inl r_nx)), (qro, .inr (4, [.ref qroa])), (qroa, .inl (cI, 250, .inl r_og)), (qrl, .inr (4, [.ref qrla])), (qrla, .inl (cI, 250, .inl r_li)), (qrf, .inr (4, [.ref qrfa])), (qrfa, .inl (cI, 250, .inl r_fl))])) (va_Qi (fun x (_ : Unit) => x = r) (gz D (va_A [(q, .inr (8, [.ref qs, .ref qr, .ref qi, .ref qp, .ref qu, .ref qk, .ref qq, .ref q1, .ref q2, .int kn])), (qs, .inr (5, [.ref qsr])), (qsr, .inr (4, [.ref qsa])), (qsa, .inl (cI, 5, .inl s_sv)), (qr, .inr (2, [.ref qs, .ref qrc, .ref qrn, .ref qro, .ref qrl, .ref qrf, .int r_st, .int r_he, .int r_ta, .int r_cl, .int r_dr])), (qrc, .inr (4, [.ref qrca])), (qrca, .inl (cI, 500, .inl r_cn)), (qrn, .inr (4, [.ref qrna])), (qrna, .inl (cI, 500, .inl r_nx)), (qro, .inr (4, [.ref qroa])), (qroa, .inl (cI, 250, .inl r_og)), (qrl, .inr (4, [.ref qrla])), (qrla, .inl (cI, 250, .inl r_li)), (qrf, .inr (4, [.ref qrfa])), (qrfa, .inl (cI, 250, .inl r_fl))] sz) [(q, .inr (8, [.ref qs, .ref qr, .ref qi, .ref qp, .ref qu, .ref qk, .ref qq, .ref q1, .ref q2, .int kn])), (qs, .inr (5, [.ref qsr])), (qsr, .inr (4, [.ref qsa])), (qsa, .inl (cI, 5, .inl s_sv)), (qr, .inr (2, [.ref qs, .ref qrc, .ref qrn, .ref qro, .ref qrl, .ref qrf, .int o_r_st, .int o_r_he, .int o_r_ta, .int o_r_cl, .int o_r_dr])), (qrc, .inr (4, [.ref qrca])), (qrca, .inl (cI, 500, .inl o_r_cn)), (qrn, .inr (4, [.ref qrna])), (qrna, .inl (cI, 500, .inl o_r_nx)), (qro, .inr (4, [.ref qroa])), (qroa, .inl (cI, 250, .inl o_r_og)), (qrl, .inr (4, [.ref qrla])), (qrla, .inl (cI, 250, .inl o_r_li)), (qrf, .inr (4, [.ref qrfa])), (qrfa, .inl (cI, 250, .inl r_fl))]) (va_A [(q, .inr (8, [.ref qs, .ref qr, .ref qi, .ref qp, .ref qu, .ref qk, .ref qq, .ref q1, .ref q2, .int kn])), (qs, .inr (5, [.ref qsr])), (qsr, .inr (4, [.ref qsa])), (qsa, .inl (cI, 5, .inl s_sv)), (qr, .inr (2, [.ref qs, .ref qrc, .ref qrn, .ref qro, .ref qrl, .ref qrf, .int r_st, .int r_he, .int r_ta, .int r_cl, .int r_dr])), (qrc, .inr (4, [.ref qrca])), (qrca, .inl (cI, 500, .inl r_cn)), (qrn, .inr (4, [.ref qrna])), (qrna, .inl (cI, 500, .inl r_nx)), (qro, .inr (4, [.ref qroa])), (qroa, .inl (cI, 250, .inl r_og)), (qrl, .inr (4, [.ref qrla])), (qrla, .inl (cI, 250, .inl r_li)), (qrf, .inr (4, [.ref qrfa])), (qrfa, .inl (cI, 250, .inl r_fl))] sz)) 0 0 (va_A [(q, .inr (8, [.ref qs, .ref qr, .ref qi, .ref qp, .ref qu, .ref qk, .ref qq, .ref q1, .ref q2, .int kn])), (qs, .inr (5, [.ref qsr])), (qsr, .inr (4, [.ref qsa])), (qsa, .inl (cI, 5, .inl s_sv)), (qr, .inr (2, [.ref qs, .ref qrc, .ref qrn, .ref qro, .ref qrl, .ref qrf, .int r_st, .int r_he, .int r_ta, .int r_cl, .int r_dr])), (qrc, .inr (4, [.ref qrca])), (qrca, .inl (cI, 500, .inl r_cn)), (qrn, .inr (4, [.ref qrna])), (qrna, .inl (cI, 500, .inl r_nx)), (qro, .inr (4, [.ref qroa])), (qroa, .inl (cI, 250, .inl r_og)), (qrl, .inr (4, [.ref qrla])), (qrla, .inl (cI, 250, .inl r_li)), (qrf, .inr (4, [.ref qrfa])), (qrfa, .inl (cI, 250, .inl r_fl))] sz) := by
  refine k_rw (y := yX8_take) (cc := cX8_take) (maxL := 4) (ret := (some .int)) (As := [.ref q, .int x1]) (Qc := fun A => va_Qi (fun x (_ : Unit) => x = r) (gz D A [(q, .inr (8, [.ref qs, .ref qr, .ref qi, .ref qp, .ref qu, .ref qk, .ref qq, .ref q1, .ref q2, .int kn])), (qs, .inr (5, [.ref qsr])), (qsr, .inr (4, [.ref qsa])), (qsa, .inl (cI, 5, .inl s_sv)), (qr, .inr (2, [.ref qs, .ref qrc, .ref qrn, .ref qro, .ref qrl, .ref qrf, .int o_r_st, .int o_r_he, .int o_r_ta, .int o_r_cl, .int o_r_dr])), (qrc, .inr (4, [.ref qrca])), (qrca, .inl (cI, 500, .inl o_r_cn)), (qrn, .inr (4, [.ref qrna])), (qrna, .inl (cI, 500, .inl o_r_nx)), (qro, .inr (4, [.ref qroa])), (qroa, .inl (cI, 250, .inl o_r_og)), (qrl, .inr (4, [.ref qrla])), (qrla, .inl (cI, 250, .inl o_r_li)), (qrf, .inr (4, [.ref qrfa])), (qrfa, .inl (cI, 250, .inl r_fl))]) A) (by decide) rfl (Nat.le_of_ble_eq_true rfl) rfl ?_
  intro p e s m below meth c ls A S hret hloc hK hN hSF hP hD hS hA hl
  obtain ⟨hx, hb, hml, hown, hts⟩ := id S
  unfold f_X8_take at hf
  refine lv_iload_n hx hb dX8_take_0 rfl (lv_at hl 1 rfl) ?_
  refine k_roSi (As := [.int x1]) (rest := []) S (c_X8_isByte l D cI (x1 := x1)  (r := (f_X8_isByte x1)) (hf := rfl)) gs_X8_88 ok_X8_isByte ⟨rfl, rfl⟩ ⟨Nat.le_of_ble_eq_true rfl, Nat.le_of_ble_eq_true rfl⟩ hK hN (sfr hSF hS) (hP.sub [] rfl) rfl hl.1 rfl (Nat.le_of_ble_eq_true rfl) ⟨Nat.zero_le _, Nat.zero_le _⟩ dX8_take_1 ?_
  refine lv_if_ne (tgt := 9) hx hb dX8_take_4 (by decide) (fun c_1 => ?_) (fun c_1 => ?_)
  · rw [if_neg c_1] at hf
    refine lv_aload_n hx hb dX8_take_9 rfl (lv_at hl 0 rfl) ?_
    refine va_get (D := D) (ci := 8) (v := .ref qs) (C := RX8) (T := TX8) (N := 10) hx hb hts inGX8 hown hK hP 0 rfl rfl 0 (by decide) (hts _ fl_X8_12) (fun _ h9 => h9) rfl dX8_take_10 ?_
    refine lv_iload_n hx hb dX8_take_13 rfl (lv_at hl 1 rfl) ?_
    obtain ⟨r_2, hc_3, hf⟩ := bd1 hf
    refine k_roVi (As := [.int x1]) (rest := []) S (c_X5_turned l D cI (q := qs) (qr := qsr) (qa := qsa) (sv := s_sv) (x1 := x1)  (r := r_2) (hf := hc_3)) gs_X8_149 ok_X5_turned ⟨rfl, rfl⟩ ⟨Nat.le_of_ble_eq_true rfl, Nat.le_of_ble_eq_true rfl⟩ hK hN (sfr hSF hS) (hP.sub [1, 2, 3] rfl) rfl rfl rfl hl.1 rfl (Nat.le_of_ble_eq_true rfl) ⟨Nat.zero_le _, Nat.zero_le _⟩ dX8_take_14 ?_
    refine lv_istore_n (lv' := [(2, .int r_2), (0, .ref q), (1, .int x1)]) hx hb dX8_take_17 rfl hl (by decide) rfl (fun ls hl => ?_)
    refine lv_iconst (v := 0) hx hb dX8_take_18 (by decide) ?_
    refine lv_istore_n (lv' := [(3, .int 0), (2, .int r_2), (0, .ref q), (1, .int x1)]) hx hb dX8_take_19 rfl hl (by decide) rfl (fun ls hl => ?_)
    obtain ⟨v3_15, r_st_16, r_he_17, r_ta_18, r_cl_19, r_dr_20, r_cn_21, r_nx_22, r_og_23, r_li_24, hc_25, hf⟩ := bd10 hf
    refine L_X8_take_20 S hK hN hSF hA _ 0 r_st r_he r_ta r_cl r_dr r_cn r_nx r_og r_li v3_15 r_st_16 r_he_17 r_ta_18 r_cl_19 r_dr_20 r_cn_21 r_nx_22 r_og_23 r_li_24 hc_25 _ _ _ hP hD hS (lv_sub hl [2, 1, 0] rfl) (fun H locs ls hP hD hS hl => ?_)
    refine lv_aload_n hx hb dX8_take_46 rfl (lv_at hl 0 rfl) ?_
    refine va_get (D := D) (ci := 8) (v := .ref qr) (C := RX8) (T := TX8) (N := 10) hx hb hts inGX8 hown hK hP 0 rfl rfl 1 (by decide) (hts _ fl_X8_21) (fun _ h9 => h9) rfl dX8_take_47 ?_
    refine va_getN (D := D) (ci := 2) (v := .int r_he_17) (C := RX2) (T := TX2) (N := 11) hx hb hts inGX2 hown hK hP 4 rfl rfl 7 (by decide) (va_Nw.use rfl (nf_X8_146 hN)) (fun _ h9 => h9) rfl dX8_take_50 ?_
    obtain ⟨e_0, e_r⟩ := Prod.mk.inj (Option.some.inj hf)
    obtain ⟨e_1, e_r⟩ := Prod.mk.inj (e_r)
    obtain ⟨e_2, e_r⟩ := Prod.mk.inj (e_r)
    obtain ⟨e_3, e_r⟩ := Prod.mk.inj (e_r)
    obtain ⟨e_4, e_r⟩ := Prod.mk.inj (e_r)
    obtain ⟨e_5, e_r⟩ := Prod.mk.inj (e_r)
    obtain ⟨e_6, e_r⟩ := Prod.mk.inj (e_r)
    obtain ⟨e_7, e_r⟩ := Prod.mk.inj (e_r)
    obtain ⟨e_8, e_9⟩ := Prod.mk.inj (e_r)
    subst e_0
    subst e_1
    subst e_2
    subst e_3
    subst e_4
    subst e_5
    subst e_6
    subst e_7
    subst e_8
    subst e_9
    exact k_wreti hx hb hret hloc rfl hP hD hS dX8_take_53
  · rw [if_pos c_1] at hf
    refine lv_iconst (v := (-1)) hx hb dX8_take_7 (by decide) ?_
    obtain ⟨e_0, e_r⟩ := Prod.mk.inj (Option.some.inj hf)
    obtain ⟨e_1, e_r⟩ := Prod.mk.inj (e_r)
    obtain ⟨e_2, e_r⟩ := Prod.mk.inj (e_r)
    obtain ⟨e_3, e_r⟩ := Prod.mk.inj (e_r)
    obtain ⟨e_4, e_r⟩ := Prod.mk.inj (e_r)
    obtain ⟨e_5, e_r⟩ := Prod.mk.inj (e_r)
    obtain ⟨e_6, e_r⟩ := Prod.mk.inj (e_r)
    obtain ⟨e_7, e_r⟩ := Prod.mk.inj (e_r)
    obtain ⟨e_8, e_9⟩ := Prod.mk.inj (e_r)
    subst e_0
    subst e_1
    subst e_2
    subst e_3
    subst e_4
    subst e_5
    subst e_6
    subst e_7
    subst e_8
    subst e_9
    exact k_wreti hx hb hret hloc rfl hP hD hS dX8_take_8
