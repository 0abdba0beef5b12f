theorem dX8_state_0 : decode cX8_state 0 = .ok (.iload_n 1, 1) := by decide +kernel
theorem dX8_state_1 : decode cX8_state 1 = .ok (.ifCond .lt 14, 3) := by decide +kernel
theorem dX8_state_4 : decode cX8_state 4 = .ok (.iload_n 1, 1) := by decide +kernel
theorem dX8_state_5 : decode cX8_state 5 = .ok (.aload_n 0, 1) := by decide +kernel
theorem dX8_state_6 : decode cX8_state 6 = .ok (.getfield 21, 3) := by decide +kernel
theorem dX8_state_9 : decode cX8_state 9 = .ok (.getfield 85, 3) := by decide +kernel
theorem dX8_state_12 : decode cX8_state 12 = .ok (.if_icmp .lt 5, 3) := by decide +kernel
theorem dX8_state_15 : decode cX8_state 15 = .ok (.iconst (-1), 1) := by decide +kernel
theorem dX8_state_16 : decode cX8_state 16 = .ok (.ireturn, 1) := by decide +kernel
theorem dX8_state_17 : decode cX8_state 17 = .ok (.iload_n 2, 1) := by decide +kernel
theorem dX8_state_18 : decode cX8_state 18 = .ok (.tableswitch 104 0 7 #[46, 46, 56, 56, 68, 77, 86, 95], 46) := by decide +kernel
theorem dX8_state_64 : decode cX8_state 64 = .ok (.aload_n 0, 1) := by decide +kernel
theorem dX8_state_65 : decode cX8_state 65 = .ok (.getfield 21, 3) := by decide +kernel
theorem dX8_state_68 : decode cX8_state 68 = .ok (.iload_n 1, 1) := by decide +kernel
theorem dX8_state_69 : decode cX8_state 69 = .ok (.iload_n 2, 1) := by decide +kernel
theorem dX8_state_70 : decode cX8_state 70 = .ok (.invokevirtual 156, 3) := by decide +kernel
theorem dX8_state_73 : decode cX8_state 73 = .ok (.ireturn, 1) := by decide +kernel
theorem dX8_state_74 : decode cX8_state 74 = .ok (.aload_n 0, 1) := by decide +kernel
theorem dX8_state_75 : decode cX8_state 75 = .ok (.getfield 21, 3) := by decide +kernel
theorem dX8_state_78 : decode cX8_state 78 = .ok (.iload_n 1, 1) := by decide +kernel
theorem dX8_state_79 : decode cX8_state 79 = .ok (.iload_n 2, 1) := by decide +kernel
theorem dX8_state_80 : decode cX8_state 80 = .ok (.iconst 2, 1) := by decide +kernel
theorem dX8_state_81 : decode cX8_state 81 = .ok (.isub, 1) := by decide +kernel
theorem dX8_state_82 : decode cX8_state 82 = .ok (.invokevirtual 159, 3) := by decide +kernel
theorem dX8_state_85 : decode cX8_state 85 = .ok (.ireturn, 1) := by decide +kernel
theorem dX8_state_86 : decode cX8_state 86 = .ok (.aload_n 0, 1) := by decide +kernel
theorem dX8_state_87 : decode cX8_state 87 = .ok (.getfield 21, 3) := by decide +kernel
theorem dX8_state_90 : decode cX8_state 90 = .ok (.iload_n 1, 1) := by decide +kernel
theorem dX8_state_91 : decode cX8_state 91 = .ok (.invokevirtual 162, 3) := by decide +kernel
theorem dX8_state_94 : decode cX8_state 94 = .ok (.ireturn, 1) := by decide +kernel
theorem dX8_state_95 : decode cX8_state 95 = .ok (.aload_n 0, 1) := by decide +kernel
theorem dX8_state_96 : decode cX8_state 96 = .ok (.getfield 21, 3) := by decide +kernel
theorem dX8_state_99 : decode cX8_state 99 = .ok (.iload_n 1, 1) := by decide +kernel
theorem dX8_state_100 : decode cX8_state 100 = .ok (.invokevirtual 165, 3) := by decide +kernel
theorem dX8_state_103 : decode cX8_state 103 = .ok (.ireturn, 1) := by decide +kernel
theorem dX8_state_104 : decode cX8_state 104 = .ok (.aload_n 0, 1) := by decide +kernel
theorem dX8_state_105 : decode cX8_state 105 = .ok (.getfield 21, 3) := by decide +kernel
theorem dX8_state_108 : decode cX8_state 108 = .ok (.iload_n 1, 1) := by decide +kernel
theorem dX8_state_109 : decode cX8_state 109 = .ok (.invokevirtual 168, 3) := by decide +kernel
theorem dX8_state_112 : decode cX8_state 112 = .ok (.ireturn, 1) := by decide +kernel
theorem dX8_state_113 : decode cX8_state 113 = .ok (.aload_n 0, 1) := by decide +kernel
theorem dX8_state_114 : decode cX8_state 114 = .ok (.getfield 21, 3) := by decide +kernel
theorem dX8_state_117 : decode cX8_state 117 = .ok (.iload_n 1, 1) := by decide +kernel
theorem dX8_state_118 : decode cX8_state 118 = .ok (.invokevirtual 171, 3) := by decide +kernel
theorem dX8_state_121 : decode cX8_state 121 = .ok (.ireturn, 1) := by decide +kernel
theorem dX8_state_122 : decode cX8_state 122 = .ok (.iconst (-1), 1) := by decide +kernel
theorem dX8_state_123 : decode cX8_state 123 = .ok (.ireturn, 1) := by decide +kernel
theorem gs_X8_156 : GoodIn wsG (wsV RX8 156 RX2 yX2_countBy (.code yX2_countBy cX2_countBy 3 (some .int) :: wsG)) := good_V ml_X8_156 im_X2_countBy se_X2_countBy ini_X2 co_X2_countBy
theorem gs_X8_159 : GoodIn wsG (wsV RX8 159 RX2 yX2_nextBy (.code yX2_nextBy cX2_nextBy 3 (some .int) :: wsG)) := good_V ml_X8_159 im_X2_nextBy se_X2_nextBy ini_X2 co_X2_nextBy
theorem gs_X8_162 : GoodIn wsG (wsV RX8 162 RX2 yX2_chance (.code yX2_chance cX2_chance 5 (some .int) :: wsG)) := good_V ml_X8_162 im_X2_chance se_X2_chance ini_X2 co_X2_chance
theorem ok_X2_flowInto : okV yX2_flowInto RX2 1 := by decide +kernel
theorem gs_X8_165 : GoodIn wsG (wsV RX8 165 RX2 yX2_flowInto (.code yX2_flowInto cX2_flowInto 2 (some .int) :: wsG)) := good_V ml_X8_165 im_X2_flowInto se_X2_flowInto ini_X2 co_X2_flowInto
theorem ok_X2_lineOf : okV yX2_lineOf RX2 1 := by decide +kernel
theorem gs_X8_168 : GoodIn wsG (wsV RX8 168 RX2 yX2_lineOf (.code yX2_lineOf cX2_lineOf 2 (some .int) :: wsG)) := good_V ml_X8_168 im_X2_lineOf se_X2_lineOf ini_X2 co_X2_lineOf
theorem ok_X2_originOf : okV yX2_originOf RX2 1 := by decide +kernel
theorem gs_X8_171 : GoodIn wsG (wsV RX8 171 RX2 yX2_originOf (.code yX2_originOf cX2_originOf 2 (some .int) :: wsG)) := good_V ml_X8_171 im_X2_originOf se_X2_originOf ini_X2 co_X2_originOf
def f_X8_state (r_st : Int32) (r_cn : (Nat → Int32)) (r_nx : (Nat → Int32)) (r_og : (Nat → Int32)) (r_li : (Nat → Int32)) (r_fl : (Nat → Int32)) (x1 : Int32) (x2 : Int32) : Option (Int32 × (Nat → Int32)) := if x1 < 0 then (some ((-1 : Int32), r_fl)) else (if x1 < r_st then ((if x2 = 0 then (some ((f_X2_countBy r_cn x1 x2), r_fl)) else (if x2 = 1 then (some ((f_X2_countBy r_cn x1 x2), r_fl)) else (if x2 = 2 then (some ((f_X2_nextBy r_nx x1 (x2 - 2)), r_fl)) else (if x2 = 3 then (some ((f_X2_nextBy r_nx x1 (x2 - 2)), r_fl)) else (if x2 = 4 then (some ((f_X2_chance r_cn x1), r_fl)) else (if x2 = 5 then (bi2 (f_X2_flowInto r_st r_cn r_nx r_fl x1) (fun (r_9 : Int32) (r_fl_10 : (Nat → Int32)) => some (r_9, r_fl_10))) else (if x2 = 6 then (some ((f_X2_lineOf r_li x1), r_fl)) else (if x2 = 7 then (some ((f_X2_originOf r_og x1), r_fl)) else (some ((-1 : Int32), r_fl))))))))))) else (some ((-1 : Int32), r_fl)))
set_option maxHeartbeats 4000000 in
set_option maxRecDepth 100000 in
theorem c_X8_state (l : Launch) (D : va_G) (cI : ClassId) {sz : Nat} (q : Nat) (qs : Nat) (qr : Nat) (qi : Nat) (qp : Nat) (qu : Nat) (qk : Nat) (qq : Nat) (q1 : Nat) (q2 : Nat) (qsr : Nat) (qsa : Nat) (qrc : Nat) (qrn : Nat) (qro : Nat) (qrl : Nat) (qrf : Nat) (qrca : Nat) (qrna : Nat) (qroa : Nat) (qrla : Nat) (qrfa : Nat) (kn : Int32) (s_sv : (Nat → Int32)) (r_st : Int32) (r_he : Int32) (r_ta : Int32) (r_cl : Int32) (r_dr : Int32) (r_cn : (Nat → Int32)) (r_nx : (Nat → Int32)) (r_og : (Nat → Int32)) (r_li : (Nat → Int32)) (r_fl : (Nat → Int32)) (x1 : Int32) (x2 : Int32) (r : Int32) (o_r_fl : (Nat → Int32)) (hf : f_X8_state r_st r_cn r_nx r_og r_li r_fl x1 x2 = some (r, o_r_fl)) : Met l yX8_state (.code yX8_state cX8_state 3 (some .int) :: wsG) ({ frames := 4, cells := 0, slots := 0, locals := 88 }) (va_Pc [.ref q, .int x1, .int x2] (gv D cI sz [(q, .inr (8, [.ref qs, .ref qr, .ref qi, .ref qp, .ref qu, .ref qk, .ref qq, .ref q1, .ref q2, .int kn])), (qs, .inr (5, [.ref qsr])), (qsr, .inr (4, [.ref qsa])), (qsa, .inl (cI, 5, .inl s_sv)), (qr, .inr (2, [.ref qs, .ref qrc, .ref qrn, .ref qro, .ref qrl, .ref qrf, .int r_st, .int r_he, .int r_ta, .int r_cl, .int r_dr])), (qrc, .inr (4, [.ref qrca])), (qrca, .inl (cI, 500, .inl r_cn)), (qrn, .inr (4, [.ref qrna])), (qrna, .inl (cI, 500, .inl r_nx)), (qro, .inr (4, [.ref qroa])), (qroa, .inl (cI, 250, .inl r_og)), (qrl, .inr (4, [.ref qrla])), (qrla, .inl (cI, 250, .inl r_li)), (qrf, .inr (4, [.ref qrfa])), (qrfa, .inl (cI, 250, .inl r_fl))])) (va_Qi (fun x (_ : Unit) => x = r) (gz D (va_A [(q, .inr (8, [.ref qs, .ref qr, .ref qi, .ref qp, .ref qu, .ref qk, .ref qq, .ref q1, .ref q2, .int kn])), (qs, .inr (5, [.ref qsr])), (qsr, .inr (4, [.ref qsa])), (qsa, .inl (cI, 5, .inl s_sv)), (qr, .inr (2, [.ref qs, .ref qrc, .ref qrn, .ref qro, .ref qrl, .ref qrf, .int r_st, .int r_he, .int r_ta, .int r_cl, .int r_dr])), (qrc, .inr (4, [.ref qrca])), (qrca, .inl (cI, 500, .inl r_cn)), (qrn, .inr (4, [.ref qrna])), (qrna, .inl (cI, 500, .inl r_nx)), (qro, .inr (4, [.ref qroa])), (qroa, .inl (cI, 250, .inl r_og)), (qrl, .inr (4, [.ref qrla])), (qrla, .inl (cI, 250, .inl r_li)), (qrf, .inr (4, [.ref qrfa])), (qrfa, .inl (cI, 250, .inl r_fl))] sz) [(q, .inr (8, [.ref qs, .ref qr, .ref qi, .ref qp, .ref qu, .ref qk, .ref qq, .ref q1, .ref q2, .int kn])), (qs, .inr (5, [.ref qsr])), (qsr, .inr (4, [.ref qsa])), (qsa, .inl (cI, 5, .inl s_sv)), (qr, .inr (2, [.ref qs, .ref qrc, .ref qrn, .ref qro, .ref qrl, .ref qrf, .int r_st, .int r_he, .int r_ta, .int r_cl, .int r_dr])), (qrc, .inr (4, [.ref qrca])), (qrca, .inl (cI, 500, .inl r_cn)), (qrn, .inr (4, [.ref qrna])), (qrna, .inl (cI, 500, .inl r_nx)), (qro, .inr (4, [.ref qroa])), (qroa, .inl (cI, 250, .inl r_og)), (qrl, .inr (4, [.ref qrla])), (qrla, .inl (cI, 250, .inl r_li)), (qrf, .inr (4, [.ref qrfa])), (qrfa, .inl (cI, 250, .inl o_r_fl))]) (va_A [(q, .inr (8, [.ref qs, .ref qr, .ref qi, .ref qp, .ref qu, .ref qk, .ref qq, .ref q1, .ref q2, .int kn])), (qs, .inr (5, [.ref qsr])), (qsr, .inr (4, [.ref qsa])), (qsa, .inl (cI, 5, .inl s_sv)), (qr, .inr (2, [.ref qs, .ref qrc, .ref qrn, .ref qro, .ref qrl, .ref qrf, .int r_st, .int r_he, .int r_ta, .int r_cl, .int r_dr])), (qrc, .inr (4, [.ref qrca])), (qrca, .inl (cI, 500, .inl r_cn)), (qrn, .inr (4, [.ref qrna])), (qrna, .inl (cI, 500, .inl r_nx)), (qro, .inr (4, [.ref qroa])), (qroa, .inl (cI, 250, .inl r_og)), (qrl, .inr (4, [.ref qrla])), (qrla, .inl (cI, 250, .inl r_li)), (qrf, .inr (4, [.ref qrfa])), (qrfa, .inl (cI, 250, .inl r_fl))] sz)) 0 0 (va_A [(q, .inr (8, [.ref qs, .ref qr, .ref qi, .ref qp, .ref qu, .ref qk, .ref qq, .ref q1, .ref q2, .int kn])), (qs, .inr (5, [.ref qsr])), (qsr, .inr (4, [.ref qsa])), (qsa, .inl (cI, 5, .inl s_sv)), (qr, .inr (2, [.ref qs, .ref qrc, .ref qrn, .ref qro, .ref qrl, .ref qrf, .int r_st, .int r_he, .int r_ta, .int r_cl, .int r_dr])), (qrc, .inr (4, [.ref qrca])), (qrca, .inl (cI, 500, .inl r_cn)), (qrn, .inr (4, [.ref qrna])), (qrna, .inl (cI, 500, .inl r_nx)), (qro, .inr (4, [.ref qroa])), (qroa, .inl (cI, 250, .inl r_og)), (qrl, .inr (4, [.ref qrla])), (qrla, .inl (cI, 250, .inl r_li)), (qrf, .inr (4, [.ref qrfa])), (qrfa, .inl (cI, 250, .inl r_fl))] sz) := by
  refine k_rw (y := yX8_state) (cc := cX8_state) (maxL := 3) (ret := (some .int)) (As := [.ref q, .int x1, .int x2]) (Qc := fun A => va_Qi (fun x (_ : Unit) => x = r) (gz D A [(q, .inr (8, [.ref qs, .ref qr, .ref qi, .ref qp, .ref qu, .ref qk, .ref qq, .ref q1, .ref q2, .int kn])), (qs, .inr (5, [.ref qsr])), (qsr, .inr (4, [.ref qsa])), (qsa, .inl (cI, 5, .inl s_sv)), (qr, .inr (2, [.ref qs, .ref qrc, .ref qrn, .ref qro, .ref qrl, .ref qrf, .int r_st, .int r_he, .int r_ta, .int r_cl, .int r_dr])), (qrc, .inr (4, [.ref qrca])), (qrca, .inl (cI, 500, .inl r_cn)), (qrn, .inr (4, [.ref qrna])), (qrna, .inl (cI, 500, .inl r_nx)), (qro, .inr (4, [.ref qroa])), (qroa, .inl (cI, 250, .inl r_og)), (qrl, .inr (4, [.ref qrla])), (qrla, .inl (cI, 250, .inl r_li)), (qrf, .inr (4, [.ref qrfa])), (qrfa, .inl (cI, 250, .inl o_r_fl))]) A) (by decide) rfl (Nat.le_of_ble_eq_true rfl) rfl ?_
  intro p e s m below meth c ls A S hret hloc hK hN hSF hP hD hS hA hl
  obtain ⟨hx, hb, hml, hown, hts⟩ := id S
  unfold f_X8_state at hf
  refine lv_iload_n hx hb dX8_state_0 rfl (lv_at hl 1 rfl) ?_
  refine lv_if_lt (tgt := 15) hx hb dX8_state_1 (by decide) (fun c_1 => ?_) (fun c_1 => ?_)
  · rw [if_pos c_1] at hf
    refine lv_iconst (v := (-1)) hx hb dX8_state_15 (by decide) ?_
    obtain ⟨e_0, e_1⟩ := Prod.mk.inj (Option.some.inj hf)
    subst e_0
    subst e_1
    exact k_wreti hx hb hret hloc rfl hP hD hS dX8_state_16
  · rw [if_neg c_1] at hf
    refine lv_iload_n hx hb dX8_state_4 rfl (lv_at hl 1 rfl) ?_
    refine lv_aload_n hx hb dX8_state_5 rfl (lv_at hl 0 rfl) ?_
    refine va_get (D := D) (ci := 8) (v := .ref qr) (C := RX8) (T := TX8) (N := 10) hx hb hts inGX8 hown hK hP 0 rfl rfl 1 (by decide) (hts _ fl_X8_21) (fun _ h9 => h9) rfl dX8_state_6 ?_
    refine va_getN (D := D) (ci := 2) (v := .int r_st) (C := RX2) (T := TX2) (N := 11) hx hb hts inGX2 hown hK hP 4 rfl rfl 6 (by decide) (va_Nw.use rfl (nf_X8_85 hN)) (fun _ h9 => h9) rfl dX8_state_9 ?_
    refine lv_icmp_lt (tgt := 17) hx hb dX8_state_12 (by decide) (fun c_2 => ?_) (fun c_2 => ?_)
    · rw [if_pos c_2] at hf
      refine lv_iload_n hx hb dX8_state_17 rfl (lv_at hl 2 rfl) ?_
      by_cases w_3 : x2 = 0
      · rw [if_pos w_3] at hf
        refine lv_tableIn (tgt := 64) hx hb dX8_state_18 (by rw [w_3]; decide) (by rw [w_3]; decide) (by rw [w_3]; rfl) (by decide) ?_
        refine lv_aload_n hx hb dX8_state_64 rfl (lv_at hl 0 rfl) ?_
        refine va_get (D := D) (ci := 8) (v := .ref qr) (C := RX8) (T := TX8) (N := 10) hx hb hts inGX8 hown hK hP 0 rfl rfl 1 (by decide) (hts _ fl_X8_21) (fun _ h9 => h9) rfl dX8_state_65 ?_
        refine lv_iload_n hx hb dX8_state_68 rfl (lv_at hl 1 rfl) ?_
        refine lv_iload_n hx hb dX8_state_69 rfl (lv_at hl 2 rfl) ?_
        refine k_roVi (As := [.int x1, .int x2]) (rest := []) S (c_X2_countBy l D cI (q := qr) (qs := qs) (qc := qrc) (qn := qrn) (qo := qro) (ql := qrl) (qf := qrf) (qca := qrca) (qna := qrna) (qoa := qroa) (qla := qrla) (qfa := qrfa) (qsr := qsr) (qsa := qsa) (st := r_st) (he := r_he) (ta := r_ta) (cl := r_cl) (dr := r_dr) (cn := r_cn) (nx := r_nx) (og := r_og) (li := r_li) (fl := r_fl) (sv := s_sv) (x1 := x1) (x2 := x2)  (r := (f_X2_countBy r_cn x1 x2)) (hf := rfl)) gs_X8_156 ok_X2_countBy ⟨rfl, rfl⟩ ⟨Nat.le_of_ble_eq_true rfl, Nat.le_of_ble_eq_true rfl⟩ hK hN (sfr hSF hS) (hP.sub [4, 5, 6, 7, 8, 9, 10, 11, 12, 13, 14, 1, 2, 3] rfl) rfl rfl rfl hl.1 rfl (Nat.le_of_ble_eq_true rfl) ⟨Nat.zero_le _, Nat.zero_le _⟩ dX8_state_70 ?_
        obtain ⟨e_0, e_1⟩ := Prod.mk.inj (Option.some.inj hf)
        subst e_0
        subst e_1
        exact k_wreti hx hb hret hloc rfl hP hD hS dX8_state_73
      rw [if_neg w_3] at hf
      by_cases w_4 : x2 = 1
      · rw [if_pos w_4] at hf
        refine lv_tableIn (tgt := 64) hx hb dX8_state_18 (by rw [w_4]; decide) (by rw [w_4]; decide) (by rw [w_4]; rfl) (by decide) ?_
        refine lv_aload_n hx hb dX8_state_64 rfl (lv_at hl 0 rfl) ?_
        refine va_get (D := D) (ci := 8) (v := .ref qr) (C := RX8) (T := TX8) (N := 10) hx hb hts inGX8 hown hK hP 0 rfl rfl 1 (by decide) (hts _ fl_X8_21) (fun _ h9 => h9) rfl dX8_state_65 ?_
        refine lv_iload_n hx hb dX8_state_68 rfl (lv_at hl 1 rfl) ?_
        refine lv_iload_n hx hb dX8_state_69 rfl (lv_at hl 2 rfl) ?_
        refine k_roVi (As := [.int x1, .int x2]) (rest := []) S (c_X2_countBy l D cI (q := qr) (qs := qs) (qc := qrc) (qn := qrn) (qo := qro) (ql := qrl) (qf := qrf) (qca := qrca) (qna := qrna) (qoa := qroa) (qla := qrla) (qfa := qrfa) (qsr := qsr) (qsa := qsa) (st := r_st) (he := r_he) (ta := r_ta) (cl := r_cl) (dr := r_dr) (cn := r_cn) (nx := r_nx) (og := r_og) (li := r_li) (fl := r_fl) (sv := s_sv) (x1 := x1) (x2 := x2)  (r := (f_X2_countBy r_cn x1 x2)) (hf := rfl)) gs_X8_156 ok_X2_countBy ⟨rfl, rfl⟩ ⟨Nat.le_of_ble_eq_true rfl, Nat.le_of_ble_eq_true rfl⟩ hK hN (sfr hSF hS) (hP.sub [4, 5, 6, 7, 8, 9, 10, 11, 12, 13, 14, 1, 2, 3] rfl) rfl rfl rfl hl.1 rfl (Nat.le_of_ble_eq_true rfl) ⟨Nat.zero_le _, Nat.zero_le _⟩ dX8_state_70 ?_
        obtain ⟨e_0, e_1⟩ := Prod.mk.inj (Option.some.inj hf)
        subst e_0
        subst e_1
        exact k_wreti hx hb hret hloc rfl hP hD hS dX8_state_73
      rw [if_neg w_4] at hf
      by_cases w_5 : x2 = 2
      · rw [if_pos w_5] at hf
        refine lv_tableIn (tgt := 74) hx hb dX8_state_18 (by rw [w_5]; decide) (by rw [w_5]; decide) (by rw [w_5]; rfl) (by decide) ?_
        refine lv_aload_n hx hb dX8_state_74 rfl (lv_at hl 0 rfl) ?_
        refine va_get (D := D) (ci := 8) (v := .ref qr) (C := RX8) (T := TX8) (N := 10) hx hb hts inGX8 hown hK hP 0 rfl rfl 1 (by decide) (hts _ fl_X8_21) (fun _ h9 => h9) rfl dX8_state_75 ?_
        refine lv_iload_n hx hb dX8_state_78 rfl (lv_at hl 1 rfl) ?_
        refine lv_iload_n hx hb dX8_state_79 rfl (lv_at hl 2 rfl) ?_
        refine lv_iconst (v := 2) hx hb dX8_state_80 (by decide) ?_
        refine lv_isub hx hb dX8_state_81 ?_
        refine k_roVi (As := [.int x1, .int (x2 - 2)]) (rest := []) S (c_X2_nextBy l D cI (q := qr) (qs := qs) (qc := qrc) (qn := qrn) (qo := qro) (ql := qrl) (qf := qrf) (qca := qrca) (qna := qrna) (qoa := qroa) (qla := qrla) (qfa := qrfa) (qsr := qsr) (qsa := qsa) (st := r_st) (he := r_he) (ta := r_ta) (cl := r_cl) (dr := r_dr) (cn := r_cn) (nx := r_nx) (og := r_og) (li := r_li) (fl := r_fl) (sv := s_sv) (x1 := x1) (x2 := x2 - 2)  (r := (f_X2_nextBy r_nx x1 (x2 - 2))) (hf := rfl)) gs_X8_159 ok_X2_nextBy ⟨rfl, rfl⟩ ⟨Nat.le_of_ble_eq_true rfl, Nat.le_of_ble_eq_true rfl⟩ hK hN (sfr hSF hS) (hP.sub [4, 5, 6, 7, 8, 9, 10, 11, 12, 13, 14, 1, 2, 3] rfl) rfl rfl rfl hl.1 rfl (Nat.le_of_ble_eq_true rfl) ⟨Nat.zero_le _, Nat.zero_le _⟩ dX8_state_82 ?_
        obtain ⟨e_0, e_1⟩ := Prod.mk.inj (Option.some.inj hf)
        subst e_0
        subst e_1
        exact k_wreti hx hb hret hloc rfl hP hD hS dX8_state_85
      rw [if_neg w_5] at hf
      by_cases w_6 : x2 = 3
      · rw [if_pos w_6] at hf
        refine lv_tableIn (tgt := 74) hx hb dX8_state_18 (by rw [w_6]; decide) (by rw [w_6]; decide) (by rw [w_6]; rfl) (by decide) ?_
        refine lv_aload_n hx hb dX8_state_74 rfl (lv_at hl 0 rfl) ?_
        refine va_get (D := D) (ci := 8) (v := .ref qr) (C := RX8) (T := TX8) (N := 10) hx hb hts inGX8 hown hK hP 0 rfl rfl 1 (by decide) (hts _ fl_X8_21) (fun _ h9 => h9) rfl dX8_state_75 ?_
        refine lv_iload_n hx hb dX8_state_78 rfl (lv_at hl 1 rfl) ?_
        refine lv_iload_n hx hb dX8_state_79 rfl (lv_at hl 2 rfl) ?_
        refine lv_iconst (v := 2) hx hb dX8_state_80 (by decide) ?_
        refine lv_isub hx hb dX8_state_81 ?_
        refine k_roVi (As := [.int x1, .int (x2 - 2)]) (rest := []) S (c_X2_nextBy l D cI (q := qr) (qs := qs) (qc := qrc) (qn := qrn) (qo := qro) (ql := qrl) (qf := qrf) (qca := qrca) (qna := qrna) (qoa := qroa) (qla := qrla) (qfa := qrfa) (qsr := qsr) (qsa := qsa) (st := r_st) (he := r_he) (ta := r_ta) (cl := r_cl) (dr := r_dr) (cn := r_cn) (nx := r_nx) (og := r_og) (li := r_li) (fl := r_fl) (sv := s_sv) (x1 := x1) (x2 := x2 - 2)  (r := (f_X2_nextBy r_nx x1 (x2 - 2))) (hf := rfl)) gs_X8_159 ok_X2_nextBy ⟨rfl, rfl⟩ ⟨Nat.le_of_ble_eq_true rfl, Nat.le_of_ble_eq_true rfl⟩ hK hN (sfr hSF hS) (hP.sub [4, 5, 6, 7, 8, 9, 10, 11, 12, 13, 14, 1, 2, 3] rfl) rfl rfl rfl hl.1 rfl (Nat.le_of_ble_eq_true rfl) ⟨Nat.zero_le _, Nat.zero_le _⟩ dX8_state_82 ?_
        obtain ⟨e_0, e_1⟩ := Prod.mk.inj (Option.some.inj hf)
        subst e_0
        subst e_1
        exact k_wreti hx hb hret hloc rfl hP hD hS dX8_state_85
      rw [if_neg w_6] at hf
      by_cases w_7 : x2 = 4
      · rw [if_pos w_7] at hf
        refine lv_tableIn (tgt := 86) hx hb dX8_state_18 (by rw [w_7]; decide) (by rw [w_7]; decide) (by rw [w_7]; rfl) (by decide) ?_
        refine lv_aload_n hx hb dX8_state_86 rfl (lv_at hl 0 rfl) ?_
        refine va_get (D := D) (ci := 8) (v := .ref qr) (C := RX8) (T := TX8) (N := 10) hx hb hts inGX8 hown hK hP 0 rfl rfl 1 (by decide) (hts _ fl_X8_21) (fun _ h9 => h9) rfl dX8_state_87 ?_
        refine lv_iload_n hx hb dX8_state_90 rfl (lv_at hl 1 rfl) ?_
        refine k_roVi (As := [.int x1]) (rest := []) S (c_X2_chance l D cI (q := qr) (qs := qs) (qc := qrc) (qn := qrn) (qo := qro) (ql := qrl) (qf := qrf) (qca := qrca) (qna := qrna) (qoa := qroa) (qla := qrla) (qfa := qrfa) (qsr := qsr) (qsa := qsa) (st := r_st) (he := r_he) (ta := r_ta) (cl := r_cl) (dr := r_dr) (cn := r_cn) (nx := r_nx) (og := r_og) (li := r_li) (fl := r_fl) (sv := s_sv) (x1 := x1)  (r := (f_X2_chance r_cn x1)) (hf := rfl)) gs_X8_162 ok_X2_chance ⟨rfl, rfl⟩ ⟨Nat.le_of_ble_eq_true rfl, Nat.le_of_ble_eq_true rfl⟩ hK hN (sfr hSF hS) (hP.sub [4, 5, 6, 7, 8, 9, 10, 11, 12, 13, 14, 1, 2, 3] rfl) rfl rfl rfl hl.1 rfl (Nat.le_of_ble_eq_true rfl) ⟨Nat.zero_le _, Nat.zero_le _⟩ dX8_state_91 ?_
        obtain ⟨e_0, e_1⟩ := Prod.mk.inj (Option.some.inj hf)
        subst e_0
        subst e_1
        exact k_wreti hx hb hret hloc rfl hP hD hS dX8_state_94
      rw [if_neg w_7] at hf
      by_cases w_8 : x2 = 5
      · rw [if_pos w_8] at hf
        refine lv_tableIn (tgt := 95) hx hb dX8_state_18 (by rw [w_8]; decide) (by rw [w_8]; decide) (by rw [w_8]; rfl) (by decide) ?_
        refine lv_aload_n hx hb dX8_state_95 rfl (lv_at hl 0 rfl) ?_
        refine va_get (D := D) (ci := 8) (v := .ref qr) (C := RX8) (T := TX8) (N := 10) hx hb hts inGX8 hown hK hP 0 rfl rfl 1 (by decide) (hts _ fl_X8_21) (fun _ h9 => h9) rfl dX8_state_96 ?_
        refine lv_iload_n hx hb dX8_state_99 rfl (lv_at hl 1 rfl) ?_
        obtain ⟨r_9, r_fl_10, hc_11, hf⟩ := bd2 hf
        refine k_rwVi (As := [.int x1]) (rest := []) (Wr := [(q, .inr (8, [.ref qs, .ref qr, .ref qi, .ref qp, .ref qu, .ref qk, .ref qq, .ref q1, .ref q2, .int kn]))]) (W2 := [(q, .inr (8, [.ref qs, .ref qr, .ref qi, .ref qp, .ref qu, .ref qk, .ref qq, .ref q1, .ref q2, .int kn])), (qs, .inr (5, [.ref qsr])), (qsr, .inr (4, [.ref qsa])), (qsa, .inl (cI, 5, .inl s_sv)), (qr, .inr (2, [.ref qs, .ref qrc, .ref qrn, .ref qro, .ref qrl, .ref qrf, .int r_st, .int r_he, .int r_ta, .int r_cl, .int r_dr])), (qrc, .inr (4, [.ref qrca])), (qrca, .inl (cI, 500, .inl r_cn)), (qrn, .inr (4, [.ref qrna])), (qrna, .inl (cI, 500, .inl r_nx)), (qro, .inr (4, [.ref qroa])), (qroa, .inl (cI, 250, .inl r_og)), (qrl, .inr (4, [.ref qrla])), (qrla, .inl (cI, 250, .inl r_li)), (qrf, .inr (4, [.ref qrfa])), (qrfa, .inl (cI, 250, .inl r_fl_10))]) S (c_X2_flowInto l D cI (q := qr) (qs := qs) (qc := qrc) (qn := qrn) (qo := qro) (ql := qrl) (qf := qrf) (qca := qrca) (qna := qrna) (qoa := qroa) (qla := qrla) (qfa := qrfa) (qsr := qsr) (qsa := qsa) (st := r_st) (he := r_he) (ta := r_ta) (cl := r_cl) (dr := r_dr) (cn := r_cn) (nx := r_nx) (og := r_og) (li := r_li) (fl := r_fl) (sv := s_sv) (x1 := x1)  (r := r_9) (o_fl := r_fl_10) (hf := hc_11)) gs_X8_165 ok_X2_flowInto ⟨rfl, rfl⟩ ⟨Nat.le_of_ble_eq_true rfl, Nat.le_of_ble_eq_true rfl⟩ hK hN hSF hP hD hS hA [4, 5, 6, 7, 8, 9, 10, 11, 12, 13, 14, 1, 2, 3] [0] [0, 12, 13, 14, 1, 2, 3, 4, 5, 6, 7, 8, 9, 10, 11] (by decide) rfl rfl (by decide) (by decide) rfl (by decide) rfl rfl rfl hl.1 rfl (Nat.le_of_ble_eq_true rfl) ⟨Nat.zero_le _, Nat.zero_le _⟩ dX8_state_100 (fun H locs hP hD hS => ?_)
        obtain ⟨e_0, e_1⟩ := Prod.mk.inj (Option.some.inj hf)
        subst e_0
        subst e_1
        exact k_wreti hx hb hret hloc rfl hP hD hS dX8_state_103
      rw [if_neg w_8] at hf
      by_cases w_12 : x2 = 6
      · rw [if_pos w_12] at hf
        refine lv_tableIn (tgt := 104) hx hb dX8_state_18 (by rw [w_12]; decide) (by rw [w_12]; decide) (by rw [w_12]; rfl) (by decide) ?_
        refine lv_aload_n hx hb dX8_state_104 rfl (lv_at hl 0 rfl) ?_
        refine va_get (D := D) (ci := 8) (v := .ref qr) (C := RX8) (T := TX8) (N := 10) hx hb hts inGX8 hown hK hP 0 rfl rfl 1 (by decide) (hts _ fl_X8_21) (fun _ h9 => h9) rfl dX8_state_105 ?_
        refine lv_iload_n hx hb dX8_state_108 rfl (lv_at hl 1 rfl) ?_
        refine k_roVi (As := [.int x1]) (rest := []) S (c_X2_lineOf l D cI (q := qr) (qs := qs) (qc := qrc) (qn := qrn) (qo := qro) (ql := qrl) (qf := qrf) (qca := qrca) (qna := qrna) (qoa := qroa) (qla := qrla) (qfa := qrfa) (qsr := qsr) (qsa := qsa) (st := r_st) (he := r_he) (ta := r_ta) (cl := r_cl) (dr := r_dr) (cn := r_cn) (nx := r_nx) (og := r_og) (li := r_li) (fl := r_fl) (sv := s_sv) (x1 := x1)  (r := (f_X2_lineOf r_li x1)) (hf := rfl)) gs_X8_168 ok_X2_lineOf ⟨rfl, rfl⟩ ⟨Nat.le_of_ble_eq_true rfl, Nat.le_of_ble_eq_true rfl⟩ hK hN (sfr hSF hS) (hP.sub [4, 5, 6, 7, 8, 9, 10, 11, 12, 13, 14, 1, 2, 3] rfl) rfl rfl rfl hl.1 rfl (Nat.le_of_ble_eq_true rfl) ⟨Nat.zero_le _, Nat.zero_le _⟩ dX8_state_109 ?_
        obtain ⟨e_0, e_1⟩ := Prod.mk.inj (Option.some.inj hf)
        subst e_0
        subst e_1
        exact k_wreti hx hb hret hloc rfl hP hD hS dX8_state_112
      rw [if_neg w_12] at hf
      by_cases w_13 : x2 = 7
      · rw [if_pos w_13] at hf
        refine lv_tableIn (tgt := 113) hx hb dX8_state_18 (by rw [w_13]; decide) (by rw [w_13]; decide) (by rw [w_13]; rfl) (by decide) ?_
        refine lv_aload_n hx hb dX8_state_113 rfl (lv_at hl 0 rfl) ?_
        refine va_get (D := D) (ci := 8) (v := .ref qr) (C := RX8) (T := TX8) (N := 10) hx hb hts inGX8 hown hK hP 0 rfl rfl 1 (by decide) (hts _ fl_X8_21) (fun _ h9 => h9) rfl dX8_state_114 ?_
        refine lv_iload_n hx hb dX8_state_117 rfl (lv_at hl 1 rfl) ?_
        refine k_roVi (As := [.int x1]) (rest := []) S (c_X2_originOf l D cI (q := qr) (qs := qs) (qc := qrc) (qn := qrn) (qo := qro) (ql := qrl) (qf := qrf) (qca := qrca) (qna := qrna) (qoa := qroa) (qla := qrla) (qfa := qrfa) (qsr := qsr) (qsa := qsa) (st := r_st) (he := r_he) (ta := r_ta) (cl := r_cl) (dr := r_dr) (cn := r_cn) (nx := r_nx) (og := r_og) (li := r_li) (fl := r_fl) (sv := s_sv) (x1 := x1)  (r := (f_X2_originOf r_og x1)) (hf := rfl)) gs_X8_171 ok_X2_originOf ⟨rfl, rfl⟩ ⟨Nat.le_of_ble_eq_true rfl, Nat.le_of_ble_eq_true rfl⟩ hK hN (sfr hSF hS) (hP.sub [4, 5, 6, 7, 8, 9, 10, 11, 12, 13, 14, 1, 2, 3] rfl) rfl rfl rfl hl.1 rfl (Nat.le_of_ble_eq_true rfl) ⟨Nat.zero_le _, Nat.zero_le _⟩ dX8_state_118 ?_
        obtain ⟨e_0, e_1⟩ := Prod.mk.inj (Option.some.inj hf)
        subst e_0
        subst e_1
        exact k_wreti hx hb hret hloc rfl hP hD hS dX8_state_121
      rw [if_neg w_13] at hf
      refine lv_tableOut (tgt := 122) hx hb dX8_state_18 (tsw_8 w_3 w_4 w_5 w_6 w_7 w_8 w_12 w_13) (by decide) ?_
      refine lv_iconst (v := (-1)) hx hb dX8_state_122 (by decide) ?_
      obtain ⟨e_0, e_1⟩ := Prod.mk.inj (Option.some.inj hf)
      subst e_0
      subst e_1
      exact k_wreti hx hb hret hloc rfl hP hD hS dX8_state_123
    · rw [if_neg c_2] at hf
      refine lv_iconst (v := (-1)) hx hb dX8_state_15 (by decide) ?_
      obtain ⟨e_0, e_1⟩ := Prod.mk.inj (Option.some.inj hf)
      subst e_0
      subst e_1
      exact k_wreti hx hb hret hloc rfl hP hD hS dX8_state_16
theorem dX8_live_0 : decode cX8_live 0 = .ok (.iload_n 1, 1) := by decide +kernel
theorem dX8_live_1 : decode cX8_live 1 = .ok (.tableswitch 111 0 7 #[47, 55, 63, 71, 79, 87, 95, 103], 47) := by decide +kernel
theorem dX8_live_48 : decode cX8_live 48 = .ok (.aload_n 0, 1) := by decide +kernel
theorem dX8_live_49 : decode cX8_live 49 = .ok (.getfield 21, 3) := by decide +kernel
theorem dX8_live_52 : decode cX8_live 52 = .ok (.getfield 85, 3) := by decide +kernel
theorem dX8_live_55 : decode cX8_live 55 = .ok (.ireturn, 1) := by decide +kernel
theorem dX8_live_56 : decode cX8_live 56 = .ok (.aload_n 0, 1) := by decide +kernel
theorem dX8_live_57 : decode cX8_live 57 = .ok (.getfield 21, 3) := by decide +kernel
theorem dX8_live_60 : decode cX8_live 60 = .ok (.getfield 146, 3) := by decide +kernel
theorem dX8_live_63 : decode cX8_live 63 = .ok (.ireturn, 1) := by decide +kernel
theorem dX8_live_64 : decode cX8_live 64 = .ok (.aload_n 0, 1) := by decide +kernel
theorem dX8_live_65 : decode cX8_live 65 = .ok (.getfield 21, 3) := by decide +kernel
theorem dX8_live_68 : decode cX8_live 68 = .ok (.getfield 174, 3) := by decide +kernel
theorem dX8_live_71 : decode cX8_live 71 = .ok (.ireturn, 1) := by decide +kernel
theorem dX8_live_72 : decode cX8_live 72 = .ok (.aload_n 0, 1) := by decide +kernel
theorem dX8_live_73 : decode cX8_live 73 = .ok (.getfield 21, 3) := by decide +kernel
theorem dX8_live_76 : decode cX8_live 76 = .ok (.getfield 137, 3) := by decide +kernel
theorem dX8_live_79 : decode cX8_live 79 = .ok (.ireturn, 1) := by decide +kernel
theorem dX8_live_80 : decode cX8_live 80 = .ok (.aload_n 0, 1) := by decide +kernel
theorem dX8_live_81 : decode cX8_live 81 = .ok (.getfield 21, 3) := by decide +kernel
theorem dX8_live_84 : decode cX8_live 84 = .ok (.getfield 140, 3) := by decide +kernel
theorem dX8_live_87 : decode cX8_live 87 = .ok (.ireturn, 1) := by decide +kernel
theorem dX8_live_88 : decode cX8_live 88 = .ok (.aload_n 0, 1) := by decide +kernel
theorem dX8_live_89 : decode cX8_live 89 = .ok (.getfield 21, 3) := by decide +kernel
theorem dX8_live_92 : decode cX8_live 92 = .ok (.invokevirtual 177, 3) := by decide +kernel
theorem dX8_live_95 : decode cX8_live 95 = .ok (.ireturn, 1) := by decide +kernel
theorem dX8_live_96 : decode cX8_live 96 = .ok (.aload_n 0, 1) := by decide +kernel
theorem dX8_live_97 : decode cX8_live 97 = .ok (.getfield 21, 3) := by decide +kernel
theorem dX8_live_100 : decode cX8_live 100 = .ok (.invokevirtual 180, 3) := by decide +kernel
theorem dX8_live_103 : decode cX8_live 103 = .ok (.ireturn, 1) := by decide +kernel
theorem dX8_live_104 : decode cX8_live 104 = .ok (.aload_n 0, 1) := by decide +kernel
theorem dX8_live_105 : decode cX8_live 105 = .ok (.getfield 21, 3) := by decide +kernel
theorem dX8_live_108 : decode cX8_live 108 = .ok (.invokevirtual 183, 3) := by decide +kernel
theorem dX8_live_111 : decode cX8_live 111 = .ok (.ireturn, 1) := by decide +kernel
theorem dX8_live_112 : decode cX8_live 112 = .ok (.iconst (-1), 1) := by decide +kernel
theorem dX8_live_113 : decode cX8_live 113 = .ok (.ireturn, 1) := by decide +kernel
theorem ok_X2_allCounts : okV yX2_allCounts RX2 0 := by decide +kernel
theorem gs_X8_177 : GoodIn wsG (wsV RX8 177 RX2 yX2_allCounts (.code yX2_allCounts cX2_allCounts 3 (some .int) :: wsG)) := good_V ml_X8_177 im_X2_allCounts se_X2_allCounts ini_X2 co_X2_allCounts
theorem ok_X2_statesWithoutFlow : okV yX2_statesWithoutFlow RX2 0 := by decide +kernel
theorem gs_X8_180 : GoodIn wsG (wsV RX8 180 RX2 yX2_statesWithoutFlow (.code yX2_statesWithoutFlow cX2_statesWithoutFlow 3 (some .int) :: wsG)) := good_V ml_X8_180 im_X2_statesWithoutFlow se_X2_statesWithoutFlow ini_X2 co_X2_statesWithoutFlow
theorem ok_X2_longestLine : okV yX2_longestLine RX2 0 := by decide +kernel
theorem gs_X8_183 : GoodIn wsG (wsV RX8 183 RX2 yX2_longestLine (.code yX2_longestLine cX2_longestLine 3 (some .int) :: wsG)) := good_V ml_X8_183 im_X2_longestLine se_X2_longestLine ini_X2 co_X2_longestLine
def f_X8_live (r_st : Int32) (r_he : Int32) (r_ta : Int32) (r_cl : Int32) (r_dr : Int32) (r_cn : (Nat → Int32)) (r_nx : (Nat → Int32)) (r_li : (Nat → Int32)) (r_fl : (Nat → Int32)) (x1 : Int32) : Option (Int32 × (Nat → Int32)) := (if x1 = 0 then (some (r_st, r_fl)) else (if x1 = 1 then (some (r_he, r_fl)) else (if x1 = 2 then (some (r_ta, r_fl)) else (if x1 = 3 then (some (r_cl, r_fl)) else (if x1 = 4 then (some (r_dr, r_fl)) else (if x1 = 5 then (bi1 (f_X2_allCounts r_st r_cn) (fun (r_7 : Int32) => some (r_7, r_fl))) else (if x1 = 6 then (bi2 (f_X2_statesWithoutFlow r_st r_cn r_nx r_fl) (fun (r_10 : Int32) (r_fl_11 : (Nat → Int32)) => some (r_10, r_fl_11))) else (if x1 = 7 then (bi1 (f_X2_longestLine r_st r_li) (fun (r_14 : Int32) => some (r_14, r_fl))) else (some ((-1 : Int32), r_fl))))))))))
set_option maxHeartbeats 4000000 in
set_option maxRecDepth 100000 in
theorem c_X8_live (l : Launch) (D : va_G) (cI : ClassId) {sz : Nat} (q : Nat) (qs : Nat) (qr : Nat) (qi : Nat) (qp : Nat) (qu : Nat) (qk : Nat) (qq : Nat) (q1 : Nat) (q2 : Nat) (qsr : Nat) (qsa : Nat) (qrc : Nat) (qrn : Nat) (qro : Nat) (qrl : Nat) (qrf : Nat) (qrca : Nat) (qrna : Nat) (qroa : Nat) (qrla : Nat) (qrfa : Nat) (kn : Int32) (s_sv : (Nat → Int32)) (r_st : Int32) (r_he : Int32) (r_ta : Int32) (r_cl : Int32) (r_dr : Int32) (r_cn : (Nat → Int32)) (r_nx : (Nat → Int32)) (r_og : (Nat → Int32)) (r_li : (Nat → Int32)) (r_fl : (Nat → Int32)) (x1 : Int32) (r : Int32) (o_r_fl : (Nat → Int32)) (hf : f_X8_live r_st r_he r_ta r_cl r_dr r_cn r_nx r_li r_fl x1 = some (r, o_r_fl)) : Met l yX8_live (.code yX8_live cX8_live 2 (some .int) :: wsG) ({ frames := 4, cells := 0, slots := 0, locals := 86 }) (va_Pc [.ref q, .int x1] (gv D cI sz [(q, .inr (8, [.ref qs, .ref qr, .ref qi, .ref qp, .ref qu, .ref qk, .ref qq, .ref q1, .ref q2, .int kn])), (qs, .inr (5, [.ref qsr])), (qsr, .inr (4, [.ref qsa])), (qsa, .inl (cI, 5, .inl s_sv)), (qr, .inr (2, [.ref qs, .ref qrc, .ref qrn, .ref qro, .ref qrl, .ref qrf, .int r_st, .int r_he, .int r_ta, .int r_cl, .int r_dr])), (qrc, .inr (4, [.ref qrca])), (qrca, .inl (cI, 500, .inl r_cn)), (qrn, .inr (4, [.ref qrna])), (qrna, .inl (cI, 500, .inl r_nx)), (qro, .inr (4, [.ref qroa])), (qroa, .inl (cI, 250, .inl r_og)), (qrl, .inr (4, [.ref qrla])), (qrla, .inl (cI, 250, .inl r_li)), (qrf, .inr (4, [.ref qrfa])), (qrfa, .inl (cI, 250, .inl r_fl))])) (va_Qi (fun x (_ : Unit) => x = r) (gz D (va_A [(q, .inr (8, [.ref qs, .ref qr, .ref qi, .ref qp, .ref qu, .ref qk, .ref qq, .ref q1, .ref q2, .int kn])), (qs, .inr (5, [.ref qsr])), (qsr, .inr (4, [.ref qsa])), (qsa, .inl (cI, 5, .inl s_sv)), (qr, .inr (2, [.ref qs, .ref qrc, .ref qrn, .ref qro, .ref qrl, .ref qrf, .int r_st, .int r_he, .int r_ta, .int r_cl, .int r_dr])), (qrc, .inr (4, [.ref qrca])), (qrca, .inl (cI, 500, .inl r_cn)), (qrn, .inr (4, [.ref qrna])), (qrna, .inl (cI, 500, .inl r_nx)), (qro, .inr (4, [.ref qroa])), (qroa, .inl (cI, 250, .inl r_og)), (qrl, .inr (4, [.ref qrla])), (qrla, .inl (cI, 250, .inl r_li)), (qrf, .inr (4, [.ref qrfa])), (qrfa, .inl (cI, 250, .inl r_fl))] sz) [(q, .inr (8, [.ref qs, .ref qr, .ref qi, .ref qp, .ref qu, .ref qk, .ref qq, .ref q1, .ref q2, .int kn])), (qs, .inr (5, [.ref qsr])), (qsr, .inr (4, [.ref qsa])), (qsa, .inl (cI, 5, .inl s_sv)), (qr, .inr (2, [.ref qs, .ref qrc, .ref qrn, .ref qro, .ref qrl, .ref qrf, .int r_st, .int r_he, .int r_ta, .int r_cl, .int r_dr])), (qrc, .inr (4, [.ref qrca])), (qrca, .inl (cI, 500, .inl r_cn)), (qrn, .inr (4, [.ref qrna])), (qrna, .inl (cI, 500, .inl r_nx)), (qro, .inr (4, [.ref qroa])), (qroa, .inl (cI, 250, .inl r_og)), (qrl, .inr (4, [.ref qrla])), (qrla, .inl (cI, 250, .inl r_li)), (qrf, .inr (4, [.ref qrfa])), (qrfa, .inl (cI, 250, .inl o_r_fl))]) (va_A [(q, .inr (8, [.ref qs, .ref qr, .ref qi, .ref qp, .ref qu, .ref qk, .ref qq, .ref q1, .ref q2, .int kn])), (qs, .inr (5, [.ref qsr])), (qsr, .inr (4, [.ref qsa])), (qsa, .inl (cI, 5, .inl s_sv)), (qr, .inr (2, [.ref qs, .ref qrc, .ref qrn, .ref qro, .ref qrl, .ref qrf, .int r_st, .int r_he, .int r_ta, .int r_cl, .int r_dr])), (qrc, .inr (4, [.ref qrca])), (qrca, .inl (cI, 500, .inl r_cn)), (qrn, .inr (4, [.ref qrna])), (qrna, .inl (cI, 500, .inl r_nx)), (qro, .inr (4, [.ref qroa])), (qroa, .inl (cI, 250, .inl r_og)), (qrl, .inr (4, [.ref qrla])), (qrla, .inl (cI, 250, .inl r_li)), (qrf, .inr (4, [.ref qrfa])), (qrfa, .inl (cI, 250, .inl r_fl))] sz)) 0 0 (va_A [(q, .inr (8, [.ref qs, .ref qr, .ref qi, .ref qp, .ref qu, .ref qk, .ref qq, .ref q1, .ref q2, .int kn])), (qs, .inr (5, [.ref qsr])), (qsr, .inr (4, [.ref qsa])), (qsa, .inl (cI, 5, .inl s_sv)), (qr, .inr (2, [.ref qs, .ref qrc, .ref qrn, .ref qro, .ref qrl, .ref qrf, .int r_st, .int r_he, .int r_ta, .int r_cl, .int r_dr])), (qrc, .inr (4, [.ref qrca])), (qrca, .inl (cI, 500, .inl r_cn)), (qrn, .inr (4, [.ref qrna])), (qrna, .inl (cI, 500, .inl r_nx)), (qro, .inr (4, [.ref qroa])), (qroa, .inl (cI, 250, .inl r_og)), (qrl, .inr (4, [.ref qrla])), (qrla, .inl (cI, 250, .inl r_li)), (qrf, .inr (4, [.ref qrfa])), (qrfa, .inl (cI, 250, .inl r_fl))] sz) := by
  refine k_rw (y := yX8_live) (cc := cX8_live) (maxL := 2) (ret := (some .int)) (As := [.ref q, .int x1]) (Qc := fun A => va_Qi (fun x (_ : Unit) => x = r) (gz D A [(q, .inr (8, [.ref qs, .ref qr, .ref qi, .ref qp, .ref qu, .ref qk, .ref qq, .ref q1, .ref q2, .int kn])), (qs, .inr (5, [.ref qsr])), (qsr, .inr (4, [.ref qsa])), (qsa, .inl (cI, 5, .inl s_sv)), (qr, .inr (2, [.ref qs, .ref qrc, .ref qrn, .ref qro, .ref qrl, .ref qrf, .int r_st, .int r_he, .int r_ta, .int r_cl, .int r_dr])), (qrc, .inr (4, [.ref qrca])), (qrca, .inl (cI, 500, .inl r_cn)), (qrn, .inr (4, [.ref qrna])), (qrna, .inl (cI, 500, .inl r_nx)), (qro, .inr (4, [.ref qroa])), (qroa, .inl (cI, 250, .inl r_og)), (qrl, .inr (4, [.ref qrla])), (qrla, .inl (cI, 250, .inl r_li)), (qrf, .inr (4, [.ref qrfa])), (qrfa, .inl (cI, 250, .inl o_r_fl))]) A) (by decide) rfl (Nat.le_of_ble_eq_true rfl) rfl ?_
  intro p e s m below meth c ls A S hret hloc hK hN hSF hP hD hS hA hl
  obtain ⟨hx, hb, hml, hown, hts⟩ := id S
  unfold f_X8_live at hf
  refine lv_iload_n hx hb dX8_live_0 rfl (lv_at hl 1 rfl) ?_
  by_cases w_1 : x1 = 0
  · rw [if_pos w_1] at hf
    refine lv_tableIn (tgt := 48) hx hb dX8_live_1 (by rw [w_1]; decide) (by rw [w_1]; decide) (by rw [w_1]; rfl) (by decide) ?_
    refine lv_aload_n hx hb dX8_live_48 rfl (lv_at hl 0 rfl) ?_
    refine va_get (D := D) (ci := 8) (v := .ref qr) (C := RX8) (T := TX8) (N := 10) hx hb hts inGX8 hown hK hP 0 rfl rfl 1 (by decide) (hts _ fl_X8_21) (fun _ h9 => h9) rfl dX8_live_49 ?_
    refine va_getN (D := D) (ci := 2) (v := .int r_st) (C := RX2) (T := TX2) (N := 11) hx hb hts inGX2 hown hK hP 4 rfl rfl 6 (by decide) (va_Nw.use rfl (nf_X8_85 hN)) (fun _ h9 => h9) rfl dX8_live_52 ?_
    obtain ⟨e_0, e_1⟩ := Prod.mk.inj (Option.some.inj hf)
    subst e_0
    subst e_1
    exact k_wreti hx hb hret hloc rfl hP hD hS dX8_live_55
  rw [if_neg w_1] at hf
  by_cases w_2 : x1 = 1
  · rw [if_pos w_2] at hf
    refine lv_tableIn (tgt := 56) hx hb dX8_live_1 (by rw [w_2]; decide) (by rw [w_2]; decide) (by rw [w_2]; rfl) (by decide) ?_
    refine lv_aload_n hx hb dX8_live_56 rfl (lv_at hl 0 rfl) ?_
    refine va_get (D := D) (ci := 8) (v := .ref qr) (C := RX8) (T := TX8) (N := 10) hx hb hts inGX8 hown hK hP 0 rfl rfl 1 (by decide) (hts _ fl_X8_21) (fun _ h9 => h9) rfl dX8_live_57 ?_
    refine va_getN (D := D) (ci := 2) (v := .int r_he) (C := RX2) (T := TX2) (N := 11) hx hb hts inGX2 hown hK hP 4 rfl rfl 7 (by decide) (va_Nw.use rfl (nf_X8_146 hN)) (fun _ h9 => h9) rfl dX8_live_60 ?_
    obtain ⟨e_0, e_1⟩ := Prod.mk.inj (Option.some.inj hf)
    subst e_0
    subst e_1
    exact k_wreti hx hb hret hloc rfl hP hD hS dX8_live_63
  rw [if_neg w_2] at hf
  by_cases w_3 : x1 = 2
  · rw [if_pos w_3] at hf
    refine lv_tableIn (tgt := 64) hx hb dX8_live_1 (by rw [w_3]; decide) (by rw [w_3]; decide) (by rw [w_3]; rfl) (by decide) ?_
    refine lv_aload_n hx hb dX8_live_64 rfl (lv_at hl 0 rfl) ?_
    refine va_get (D := D) (ci := 8) (v := .ref qr) (C := RX8) (T := TX8) (N := 10) hx hb hts inGX8 hown hK hP 0 rfl rfl 1 (by decide) (hts _ fl_X8_21) (fun _ h9 => h9) rfl dX8_live_65 ?_
    refine va_getN (D := D) (ci := 2) (v := .int r_ta) (C := RX2) (T := TX2) (N := 11) hx hb hts inGX2 hown hK hP 4 rfl rfl 8 (by decide) (va_Nw.use rfl (nf_X8_174 hN)) (fun _ h9 => h9) rfl dX8_live_68 ?_
    obtain ⟨e_0, e_1⟩ := Prod.mk.inj (Option.some.inj hf)
    subst e_0
    subst e_1
    exact k_wreti hx hb hret hloc rfl hP hD hS dX8_live_71
  rw [if_neg w_3] at hf
  by_cases w_4 : x1 = 3
  · rw [if_pos w_4] at hf
    refine lv_tableIn (tgt := 72) hx hb dX8_live_1 (by rw [w_4]; decide) (by rw [w_4]; decide) (by rw [w_4]; rfl) (by decide) ?_
    refine lv_aload_n hx hb dX8_live_72 rfl (lv_at hl 0 rfl) ?_
    refine va_get (D := D) (ci := 8) (v := .ref qr) (C := RX8) (T := TX8) (N := 10) hx hb hts inGX8 hown hK hP 0 rfl rfl 1 (by decide) (hts _ fl_X8_21) (fun _ h9 => h9) rfl dX8_live_73 ?_
    refine va_getN (D := D) (ci := 2) (v := .int r_cl) (C := RX2) (T := TX2) (N := 11) hx hb hts inGX2 hown hK hP 4 rfl rfl 9 (by decide) (va_Nw.use rfl (nf_X8_137 hN)) (fun _ h9 => h9) rfl dX8_live_76 ?_
    obtain ⟨e_0, e_1⟩ := Prod.mk.inj (Option.some.inj hf)
    subst e_0
    subst e_1
    exact k_wreti hx hb hret hloc rfl hP hD hS dX8_live_79
  rw [if_neg w_4] at hf
  by_cases w_5 : x1 = 4
  · rw [if_pos w_5] at hf
    refine lv_tableIn (tgt := 80) hx hb dX8_live_1 (by rw [w_5]; decide) (by rw [w_5]; decide) (by rw [w_5]; rfl) (by decide) ?_
    refine lv_aload_n hx hb dX8_live_80 rfl (lv_at hl 0 rfl) ?_
    refine va_get (D := D) (ci := 8) (v := .ref qr) (C := RX8) (T := TX8) (N := 10) hx hb hts inGX8 hown hK hP 0 rfl rfl 1 (by decide) (hts _ fl_X8_21) (fun _ h9 => h9) rfl dX8_live_81 ?_
    refine va_getN (D := D) (ci := 2) (v := .int r_dr) (C := RX2) (T := TX2) (N := 11) hx hb hts inGX2 hown hK hP 4 rfl rfl 10 (by decide) (va_Nw.use rfl (nf_X8_140 hN)) (fun _ h9 => h9) rfl dX8_live_84 ?_
    obtain ⟨e_0, e_1⟩ := Prod.mk.inj (Option.some.inj hf)
    subst e_0
    subst e_1
    exact k_wreti hx hb hret hloc rfl hP hD hS dX8_live_87
  rw [if_neg w_5] at hf
  by_cases w_6 : x1 = 5
  · rw [if_pos w_6] at hf
    refine lv_tableIn (tgt := 88) hx hb dX8_live_1 (by rw [w_6]; decide) (by rw [w_6]; decide) (by rw [w_6]; rfl) (by decide) ?_
    refine lv_aload_n hx hb dX8_live_88 rfl (lv_at hl 0 rfl) ?_
    refine va_get (D := D) (ci := 8) (v := .ref qr) (C := RX8) (T := TX8) (N := 10) hx hb hts inGX8 hown hK hP 0 rfl rfl 1 (by decide) (hts _ fl_X8_21) (fun _ h9 => h9) rfl dX8_live_89 ?_
    obtain ⟨r_7, hc_8, hf⟩ := bd1 hf
    refine k_roVi (As := []) (rest := []) S (c_X2_allCounts l D cI (q := qr) (qs := qs) (qc := qrc) (qn := qrn) (qo := qro) (ql := qrl) (qf := qrf) (qca := qrca) (qna := qrna) (qoa := qroa) (qla := qrla) (qfa := qrfa) (qsr := qsr) (qsa := qsa) (st := r_st) (he := r_he) (ta := r_ta) (cl := r_cl) (dr := r_dr) (cn := r_cn) (nx := r_nx) (og := r_og) (li := r_li) (fl := r_fl) (sv := s_sv)  (r := r_7) (hf := hc_8)) gs_X8_177 ok_X2_allCounts ⟨rfl, rfl⟩ ⟨Nat.le_of_ble_eq_true rfl, Nat.le_of_ble_eq_true rfl⟩ hK hN (sfr hSF hS) (hP.sub [4, 5, 6, 7, 8, 9, 10, 11, 12, 13, 14, 1, 2, 3] rfl) rfl rfl rfl hl.1 rfl (Nat.le_of_ble_eq_true rfl) ⟨Nat.zero_le _, Nat.zero_le _⟩ dX8_live_92 ?_
    obtain ⟨e_0, e_1⟩ := Prod.mk.inj (Option.some.inj hf)
    subst e_0
    subst e_1
    exact k_wreti hx hb hret hloc rfl hP hD hS dX8_live_95
  rw [if_neg w_6] at hf
  by_cases w_9 : x1 = 6
  · rw [if_pos w_9] at hf
    refine lv_tableIn (tgt := 96) hx hb dX8_live_1 (by rw [w_9]; decide) (by rw [w_9]; decide) (by rw [w_9]; rfl) (by decide) ?_
    refine lv_aload_n hx hb dX8_live_96 rfl (lv_at hl 0 rfl) ?_
    refine va_get (D := D) (ci := 8) (v := .ref qr) (C := RX8) (T := TX8) (N := 10) hx hb hts inGX8 hown hK hP 0 rfl rfl 1 (by decide) (hts _ fl_X8_21) (fun _ h9 => h9) rfl dX8_live_97 ?_
    obtain ⟨r_10, r_fl_11, hc_12, hf⟩ := bd2 hf
    refine k_rwVi (As := []) (rest := []) (Wr := [(q, .inr (8, [.ref qs, .ref qr, .ref qi, .ref qp, .ref qu, .ref qk, .ref qq, .ref q1, .ref q2, .int kn]))]) (W2 := [(q, .inr (8, [.ref qs, .ref qr, .ref qi, .ref qp, .ref qu, .ref qk, .ref qq, .ref q1, .ref q2, .int kn])), (qs, .inr (5, [.ref qsr])), (qsr, .inr (4, [.ref qsa])), (qsa, .inl (cI, 5, .inl s_sv)), (qr, .inr (2, [.ref qs, .ref qrc, .ref qrn, .ref qro, .ref qrl, .ref qrf, .int r_st, .int r_he, .int r_ta, .int r_cl, .int r_dr])), (qrc, .inr (4, [.ref qrca])), (qrca, .inl (cI, 500, .inl r_cn)), (qrn, .inr (4, [.ref qrna])), (qrna, .inl (cI, 500, .inl r_nx)), (qro, .inr (4, [.ref qroa])), (qroa, .inl (cI, 250, .inl r_og)), (qrl, .inr (4, [.ref qrla])), (qrla, .inl (cI, 250, .inl r_li)), (qrf, .inr (4, [.ref qrfa])), (qrfa, .inl (cI, 250, .inl r_fl_11))]) S (c_X2_statesWithoutFlow l D cI (q := qr) (qs := qs) (qc := qrc) (qn := qrn) (qo := qro) (ql := qrl) (qf := qrf) (qca := qrca) (qna := qrna) (qoa := qroa) (qla := qrla) (qfa := qrfa) (qsr := qsr) (qsa := qsa) (st := r_st) (he := r_he) (ta := r_ta) (cl := r_cl) (dr := r_dr) (cn := r_cn) (nx := r_nx) (og := r_og) (li := r_li) (fl := r_fl) (sv := s_sv)  (r := r_10) (o_fl := r_fl_11) (hf := hc_12)) gs_X8_180 ok_X2_statesWithoutFlow ⟨rfl, rfl⟩ ⟨Nat.le_of_ble_eq_true rfl, Nat.le_of_ble_eq_true rfl⟩ hK hN hSF hP hD hS hA [4, 5, 6, 7, 8, 9, 10, 11, 12, 13, 14, 1, 2, 3] [0] [0, 12, 13, 14, 1, 2, 3, 4, 5, 6, 7, 8, 9, 10, 11] (by decide) rfl rfl (by decide) (by decide) rfl (by decide) rfl rfl rfl hl.1 rfl (Nat.le_of_ble_eq_true rfl) ⟨Nat.zero_le _, Nat.zero_le _⟩ dX8_live_100 (fun H locs hP hD hS => ?_)
    obtain ⟨e_0, e_1⟩ := Prod.mk.inj (Option.some.inj hf)
    subst e_0
    subst e_1
    exact k_wreti hx hb hret hloc rfl hP hD hS dX8_live_103
  rw [if_neg w_9] at hf
  by_cases w_13 : x1 = 7
  · rw [if_pos w_13] at hf
    refine lv_tableIn (tgt := 104) hx hb dX8_live_1 (by rw [w_13]; decide) (by rw [w_13]; decide) (by rw [w_13]; rfl) (by decide) ?_
    refine lv_aload_n hx hb dX8_live_104 rfl (lv_at hl 0 rfl) ?_
    refine va_get (D := D) (ci := 8) (v := .ref qr) (C := RX8) (T := TX8) (N := 10) hx hb hts inGX8 hown hK hP 0 rfl rfl 1 (by decide) (hts _ fl_X8_21) (fun _ h9 => h9) rfl dX8_live_105 ?_
    obtain ⟨r_14, hc_15, hf⟩ := bd1 hf
    refine k_roVi (As := []) (rest := []) S (c_X2_longestLine l D cI (q := qr) (qs := qs) (qc := qrc) (qn := qrn) (qo := qro) (ql := qrl) (qf := qrf) (qca := qrca) (qna := qrna) (qoa := qroa) (qla := qrla) (qfa := qrfa) (qsr := qsr) (qsa := qsa) (st := r_st) (he := r_he) (ta := r_ta) (cl := r_cl) (dr := r_dr) (cn := r_cn) (nx := r_nx) (og := r_og) (li := r_li) (fl := r_fl) (sv := s_sv)  (r := r_14) (hf := hc_15)) gs_X8_183 ok_X2_longestLine ⟨rfl, rfl⟩ ⟨Nat.le_of_ble_eq_true rfl, Nat.le_of_ble_eq_true rfl⟩ hK hN (sfr hSF hS) (hP.sub [4, 5, 6, 7, 8, 9, 10, 11, 12, 13, 14, 1, 2, 3] rfl) rfl rfl rfl hl.1 rfl (Nat.le_of_ble_eq_true rfl) ⟨Nat.zero_le _, Nat.zero_le _⟩ dX8_live_108 ?_
    obtain ⟨e_0, e_1⟩ := Prod.mk.inj (Option.some.inj hf)
    subst e_0
    subst e_1
    exact k_wreti hx hb hret hloc rfl hP hD hS dX8_live_111
  rw [if_neg w_13] at hf
  refine lv_tableOut (tgt := 112) hx hb dX8_live_1 (tsw_8 w_1 w_2 w_3 w_4 w_5 w_6 w_9 w_13) (by decide) ?_
  refine lv_iconst (v := (-1)) hx hb dX8_live_112 (by decide) ?_
  obtain ⟨e_0, e_1⟩ := Prod.mk.inj (Option.some.inj hf)
  subst e_0
  subst e_1
  exact k_wreti hx hb hret hloc rfl hP hD hS dX8_live_113
theorem dX8_likely_0 : decode cX8_likely 0 = .ok (.iload_n 1, 1) := by decide +kernel
theorem dX8_likely_1 : decode cX8_likely 1 = .ok (.ifCond .lt 9, 3) := by decide +kernel
theorem dX8_likely_4 : decode cX8_likely 4 = .ok (.iload_n 1, 1) := by decide +kernel
theorem dX8_likely_5 : decode cX8_likely 5 = .ok (.bipush 64, 2) := by decide +kernel
theorem dX8_likely_7 : decode cX8_likely 7 = .ok (.if_icmp .le 5, 3) := by decide +kernel
theorem dX8_likely_10 : decode cX8_likely 10 = .ok (.iconst (-1), 1) := by decide +kernel
theorem dX8_likely_11 : decode cX8_likely 11 = .ok (.ireturn, 1) := by decide +kernel
theorem dX8_likely_12 : decode cX8_likely 12 = .ok (.aload_n 0, 1) := by decide +kernel
theorem dX8_likely_13 : decode cX8_likely 13 = .ok (.getfield 21, 3) := by decide +kernel
theorem dX8_likely_16 : decode cX8_likely 16 = .ok (.getfield 146, 3) := by decide +kernel
theorem dX8_likely_19 : decode cX8_likely 19 = .ok (.istore_n 2, 1) := by decide +kernel
theorem dX8_likely_20 : decode cX8_likely 20 = .ok (.iconst 0, 1) := by decide +kernel
theorem dX8_likely_21 : decode cX8_likely 21 = .ok (.istore_n 3, 1) := by decide +kernel
theorem dX8_likely_22 : decode cX8_likely 22 = .ok (.iload_n 3, 1) := by decide +kernel
theorem dX8_likely_23 : decode cX8_likely 23 = .ok (.iload_n 1, 1) := by decide +kernel
theorem dX8_likely_24 : decode cX8_likely 24 = .ok (.if_icmp .ge 26, 3) := by decide +kernel
theorem dX8_likely_27 : decode cX8_likely 27 = .ok (.aload_n 0, 1) := by decide +kernel
theorem dX8_likely_28 : decode cX8_likely 28 = .ok (.getfield 21, 3) := by decide +kernel
theorem dX8_likely_31 : decode cX8_likely 31 = .ok (.iload_n 2, 1) := by decide +kernel
theorem dX8_likely_32 : decode cX8_likely 32 = .ok (.aload_n 0, 1) := by decide +kernel
theorem dX8_likely_33 : decode cX8_likely 33 = .ok (.getfield 21, 3) := by decide +kernel
theorem dX8_likely_36 : decode cX8_likely 36 = .ok (.iload_n 2, 1) := by decide +kernel
theorem dX8_likely_37 : decode cX8_likely 37 = .ok (.invokevirtual 186, 3) := by decide +kernel
theorem dX8_likely_40 : decode cX8_likely 40 = .ok (.invokevirtual 159, 3) := by decide +kernel
theorem dX8_likely_43 : decode cX8_likely 43 = .ok (.istore_n 2, 1) := by decide +kernel
theorem dX8_likely_44 : decode cX8_likely 44 = .ok (.iinc 3 1, 3) := by decide +kernel
theorem dX8_likely_47 : decode cX8_likely 47 = .ok (.goto (-25), 3) := by decide +kernel
theorem dX8_likely_50 : decode cX8_likely 50 = .ok (.iload_n 2, 1) := by decide +kernel
theorem dX8_likely_51 : decode cX8_likely 51 = .ok (.ireturn, 1) := by decide +kernel
theorem ok_X2_likelyBit : okV yX2_likelyBit RX2 1 := by decide +kernel
theorem gs_X8_186 : GoodIn wsG (wsV RX8 186 RX2 yX2_likelyBit (.code yX2_likelyBit cX2_likelyBit 2 (some .int) :: wsG)) := good_V ml_X8_186 im_X2_likelyBit se_X2_likelyBit ini_X2 co_X2_likelyBit
def st_X8_likely_L22 (v1 : Int32) (r_cn : (Nat → Int32)) (r_nx : (Nat → Int32)) (v2 : Int32) (v3 : Int32) : Option ((Int32 × Int32) ⊕ (Int32 × Int32)) := if v1 ≤ v3 then (some (Sum.inr (v2, v3))) else (some (Sum.inl ((f_X2_nextBy r_nx v2 (f_X2_likelyBit r_cn v2)), v3 + 1)))
def f_X8_likely_L22 (v1 : Int32) (r_cn : (Nat → Int32)) (r_nx : (Nat → Int32)) (k : Nat) (v2 : Int32) (v3 : Int32) : Option (Int32 × Int32) := lpN (fun z => st_X8_likely_L22 v1 r_cn r_nx z.1 z.2) k (v2, v3)
set_option maxHeartbeats 4000000 in
set_option maxRecDepth 100000 in
theorem L_X8_likely_22 {p : Program} {l : Launch} {e : Env} {s : State} {m : MethodId} {args : Array Value} {below : List Frame} {meth : Method} {c : Code} {Q : State → Prop} {D : va_G} {cI : ClassId} {q : Nat} {qs : Nat} {qr : Nat} {qi : Nat} {qp : Nat} {qu : Nat} {qk : Nat} {qq : Nat} {q1 : Nat} {q2 : Nat} {qsr : Nat} {qsa : Nat} {qrc : Nat} {qrn : Nat} {qro : Nat} {qrl : Nat} {qrf : Nat} {qrca : Nat} {qrna : Nat} {qroa : Nat} {qrla : Nat} {qrfa : Nat} {v1 : Int32} {kn : Int32} {s_sv : (Nat → Int32)} {r_st : Int32} {r_he : Int32} {r_ta : Int32} {r_cl : Int32} {r_dr : Int32} {r_cn : (Nat → Int32)} {r_nx : (Nat → Int32)} {r_og : (Nat → Int32)} {r_li : (Nat → Int32)} {r_fl : (Nat → Int32)} (S : CallFix p m c cX8_likely 4 s args wsG RX8) (hK : va_K D vwCl [(cI, .int)] s) (hN : nw s) (hSF : sf (fun _ => False) s s.heap) : ∀ (k : Nat) (v2 : Int32) (v3 : Int32) (o_v2 : Int32) (o_v3 : Int32), f_X8_likely_L22 v1 r_cn r_nx k v2 v3 = some (o_v2, o_v3) → ∀ (ls : Array Slot), va_P D vwCl [(q, .inr (8, [.ref qs, .ref qr, .ref qi, .ref qp, .ref qu, .ref qk, .ref qq, .ref q1, .ref q2, .int kn])), (qs, .inr (5, [.ref qsr])), (qsr, .inr (4, [.ref qsa])), (qsa, .inl (cI, 5, .inl s_sv)), (qr, .inr (2, [.ref qs, .ref qrc, .ref qrn, .ref qro, .ref qrl, .ref qrf, .int r_st, .int r_he, .int r_ta, .int r_cl, .int r_dr])), (qrc, .inr (4, [.ref qrca])), (qrca, .inl (cI, 500, .inl r_cn)), (qrn, .inr (4, [.ref qrna])), (qrna, .inl (cI, 500, .inl r_nx)), (qro, .inr (4, [.ref qroa])), (qroa, .inl (cI, 250, .inl r_og)), (qrl, .inr (4, [.ref qrla])), (qrla, .inl (cI, 250, .inl r_li)), (qrf, .inr (4, [.ref qrfa])), (qrfa, .inl (cI, 250, .inl r_fl))] s.heap → lv_has ls 4 [(0, .ref q), (1, .int v1), (2, .int v2), (3, .int v3)] → (∀ (ls : Array Slot), lv_has ls 4 [(0, .ref q), (1, .int v1), (2, .int o_v2), (3, .int o_v3)] → W p l e (headSpec (.code yX8_likely cX8_likely 4 (some .int) :: wsG) { frames := 3, cells := 0, slots := 0, locals := 64 }).room s m args below meth c s.heap [] 0 0 Q (F0 m 50 ls [])) → W p l e (headSpec (.code yX8_likely cX8_likely 4 (some .int) :: wsG) { frames := 3, cells := 0, slots := 0, locals := 64 }).room s m args below meth c s.heap [] 0 0 Q (F0 m 22 ls []) := by
  obtain ⟨hx, hb, hml, hown, hts⟩ := id S
  intro k
  induction k with
  | zero =>
    intro v2 v3 o_v2 o_v3 hf
    cases hf
  | succ k ih =>
    intro v2 v3 o_v2 o_v3 hf ls hP hl kk
    obtain ⟨z, hf, hz⟩ := lp_inv hf
    have hf : st_X8_likely_L22 v1 r_cn r_nx v2 v3 = some z := hf
    unfold st_X8_likely_L22 at hf
    refine lv_iload_n hx hb dX8_likely_22 rfl (lv_at hl 3 rfl) ?_
    refine lv_iload_n hx hb dX8_likely_23 rfl (lv_at hl 1 rfl) ?_
    refine lv_icmp_ge (tgt := 50) hx hb dX8_likely_24 (by decide) (fun c_3 => ?_) (fun c_3 => ?_)
    · rw [if_pos c_3] at hf
      have hf := Option.some.inj hf
      subst hf
      obtain ⟨e_0, e_1⟩ := Prod.mk.inj (lpC_r hz)
      subst e_0
      subst e_1
      exact kk ls (lv_sub hl [0, 1, 2, 3] rfl)
    · rw [if_neg c_3] at hf
      refine lv_aload_n hx hb dX8_likely_27 rfl (lv_at hl 0 rfl) ?_
      refine va_get (D := D) (ci := 8) (v := .ref qr) (C := RX8) (T := TX8) (N := 10) hx hb hts inGX8 hown hK hP 0 rfl rfl 1 (by decide) (hts _ fl_X8_21) (fun _ h9 => h9) rfl dX8_likely_28 ?_
      refine lv_iload_n hx hb dX8_likely_31 rfl (lv_at hl 2 rfl) ?_
      refine lv_aload_n hx hb dX8_likely_32 rfl (lv_at hl 0 rfl) ?_
      refine va_get (D := D) (ci := 8) (v := .ref qr) (C := RX8) (T := TX8) (N := 10) hx hb hts inGX8 hown hK hP 0 rfl rfl 1 (by decide) (hts _ fl_X8_21) (fun _ h9 => h9) rfl dX8_likely_33 ?_
      refine lv_iload_n hx hb dX8_likely_36 rfl (lv_at hl 2 rfl) ?_
      refine k_roVi (As := [.int v2]) (rest := [.int v2, .ref qr]) S (c_X2_likelyBit l D cI (q := qr) (qs := qs) (qc := qrc) (qn := qrn) (qo := qro) (ql := qrl) (qf := qrf) (qca := qrca) (qna := qrna) (qoa := qroa) (qla := qrla) (qfa := qrfa) (qsr := qsr) (qsa := qsa) (st := r_st) (he := r_he) (ta := r_ta) (cl := r_cl) (dr := r_dr) (cn := r_cn) (nx := r_nx) (og := r_og) (li := r_li) (fl := r_fl) (sv := s_sv) (x1 := v2)  (r := (f_X2_likelyBit r_cn v2)) (hf := rfl)) gs_X8_186 ok_X2_likelyBit ⟨rfl, rfl⟩ ⟨Nat.le_of_ble_eq_true rfl, Nat.le_of_ble_eq_true rfl⟩ hK hN hSF (hP.sub [4, 5, 6, 7, 8, 9, 10, 11, 12, 13, 14, 1, 2, 3] rfl) rfl rfl rfl hl.1 rfl (Nat.le_of_ble_eq_true rfl) ⟨Nat.zero_le _, Nat.zero_le _⟩ dX8_likely_37 ?_
      refine k_roVi (As := [.int v2, .int (f_X2_likelyBit r_cn v2)]) (rest := []) S (c_X2_nextBy l D cI (q := qr) (qs := qs) (qc := qrc) (qn := qrn) (qo := qro) (ql := qrl) (qf := qrf) (qca := qrca) (qna := qrna) (qoa := qroa) (qla := qrla) (qfa := qrfa) (qsr := qsr) (qsa := qsa) (st := r_st) (he := r_he) (ta := r_ta) (cl := r_cl) (dr := r_dr) (cn := r_cn) (nx := r_nx) (og := r_og) (li := r_li) (fl := r_fl) (sv := s_sv) (x1 := v2) (x2 := (f_X2_likelyBit r_cn v2))  (r := (f_X2_nextBy r_nx v2 (f_X2_likelyBit r_cn v2))) (hf := rfl)) gs_X8_159 ok_X2_nextBy ⟨rfl, rfl⟩ ⟨Nat.le_of_ble_eq_true rfl, Nat.le_of_ble_eq_true rfl⟩ hK hN hSF (hP.sub [4, 5, 6, 7, 8, 9, 10, 11, 12, 13, 14, 1, 2, 3] rfl) rfl rfl rfl hl.1 rfl (Nat.le_of_ble_eq_true rfl) ⟨Nat.zero_le _, Nat.zero_le _⟩ dX8_likely_40 ?_
      refine lv_istore_n (lv' := [(2, .int (f_X2_nextBy r_nx v2 (f_X2_likelyBit r_cn v2))), (0, .ref q), (1, .int v1), (3, .int v3)]) hx hb dX8_likely_43 rfl hl (by decide) rfl (fun ls hl => ?_)
      refine lv_iinc (v := v3 + 1) (lv' := [(3, .int (v3 + 1)), (2, .int (f_X2_nextBy r_nx v2 (f_X2_likelyBit r_cn v2))), (0, .ref q), (1, .int v1)]) hx hb dX8_likely_44 hl (k := 3) rfl rfl (by decide) rfl (fun ls hl => ?_)
      refine lv_goto (tgt := 22) hx hb dX8_likely_47 (by decide) ?_
      have hf := Option.some.inj hf
      subst hf
      exact ih (f_X2_nextBy r_nx v2 (f_X2_likelyBit r_cn v2)) (v3 + 1) _ _ hz ls hP (lv_sub hl [2, 3, 1, 0] rfl) kk
def f_X8_likely (r_he : Int32) (r_cn : (Nat → Int32)) (r_nx : (Nat → Int32)) (x1 : Int32) : Option (Int32) := if x1 < 0 then (some (-1 : Int32)) else (if x1 ≤ 64 then (bi2 (f_X8_likely_L22 x1 r_cn r_nx 4096 r_he 0) (fun (v2_4 : Int32) (v3_5 : Int32) => some v2_4)) else (some (-1 : Int32)))
set_option maxHeartbeats 4000000 in
set_option maxRecDepth 100000 in
theorem c_X8_likely (l : Launch) (D : va_G) (cI : ClassId) (q : Nat) (qs : Nat) (qr : Nat) (qi : Nat) (qp : Nat) (qu : Nat) (qk : Nat) (qq : Nat) (q1 : Nat) (q2 : Nat) (qsr : Nat) (qsa : Nat) (qrc : Nat) (qrn : Nat) (qro : Nat) (qrl : Nat) (qrf : Nat) (qrca : Nat) (qrna : Nat) (qroa : Nat) (qrla : Nat) (qrfa : Nat) (kn : Int32) (s_sv : (Nat → Int32)) (r_st : Int32) (r_he : Int32) (r_ta : Int32) (r_cl : Int32) (r_dr : Int32) (r_cn : (Nat → Int32)) (r_nx : (Nat → Int32)) (r_og : (Nat → Int32)) (r_li : (Nat → Int32)) (r_fl : (Nat → Int32)) (x1 : Int32) (r : Int32) (hf : f_X8_likely r_he r_cn r_nx x1 = some r) : Met l yX8_likely (.code yX8_likely cX8_likely 4 (some .int) :: wsG) ({ frames := 3, cells := 0, slots := 0, locals := 64 }) (va_Pc [.ref q, .int x1] (gw D cI [(q, .inr (8, [.ref qs, .ref qr, .ref qi, .ref qp, .ref qu, .ref qk, .ref qq, .ref q1, .ref q2, .int kn])), (qs, .inr (5, [.ref qsr])), (qsr, .inr (4, [.ref qsa])), (qsa, .inl (cI, 5, .inl s_sv)), (qr, .inr (2, [.ref qs, .ref qrc, .ref qrn, .ref qro, .ref qrl, .ref qrf, .int r_st, .int r_he, .int r_ta, .int r_cl, .int r_dr])), (qrc, .inr (4, [.ref qrca])), (qrca, .inl (cI, 500, .inl r_cn)), (qrn, .inr (4, [.ref qrna])), (qrna, .inl (cI, 500, .inl r_nx)), (qro, .inr (4, [.ref qroa])), (qroa, .inl (cI, 250, .inl r_og)), (qrl, .inr (4, [.ref qrla])), (qrla, .inl (cI, 250, .inl r_li)), (qrf, .inr (4, [.ref qrfa])), (qrfa, .inl (cI, 250, .inl r_fl))])) (vp_Si (fun x => x = r)) 0 0 (fun _ => False) := by
  refine k_ro (by decide) rfl (Nat.le_of_ble_eq_true rfl) rfl ?_
  intro p e s m below meth c ls S hret hloc hK hN hSF hP hl
  obtain ⟨hx, hb, hml, hown, hts⟩ := id S
  unfold f_X8_likely at hf
  refine lv_iload_n hx hb dX8_likely_0 rfl (lv_at hl 1 rfl) ?_
  refine lv_if_lt (tgt := 10) hx hb dX8_likely_1 (by decide) (fun c_1 => ?_) (fun c_1 => ?_)
  · rw [if_pos c_1] at hf
    refine lv_iconst (v := (-1)) hx hb dX8_likely_10 (by decide) ?_
    exact k_reti hx hb hret hloc (Option.some.inj hf) dX8_likely_11
  · rw [if_neg c_1] at hf
    refine lv_iload_n hx hb dX8_likely_4 rfl (lv_at hl 1 rfl) ?_
    refine lv_bipush (v := 64) hx hb dX8_likely_5 (by decide) ?_
    refine lv_icmp_le (tgt := 12) hx hb dX8_likely_7 (by decide) (fun c_2 => ?_) (fun c_2 => ?_)
    · rw [if_pos c_2] at hf
      refine lv_aload_n hx hb dX8_likely_12 rfl (lv_at hl 0 rfl) ?_
      refine va_get (D := D) (ci := 8) (v := .ref qr) (C := RX8) (T := TX8) (N := 10) hx hb hts inGX8 hown hK hP 0 rfl rfl 1 (by decide) (hts _ fl_X8_21) (fun _ h9 => h9) rfl dX8_likely_13 ?_
      refine va_getN (D := D) (ci := 2) (v := .int r_he) (C := RX2) (T := TX2) (N := 11) hx hb hts inGX2 hown hK hP 4 rfl rfl 7 (by decide) (va_Nw.use rfl (nf_X8_146 hN)) (fun _ h9 => h9) rfl dX8_likely_16 ?_
      refine lv_istore_n (lv' := [(2, .int r_he), (0, .ref q), (1, .int x1)]) hx hb dX8_likely_19 rfl hl (by decide) rfl (fun ls hl => ?_)
      refine lv_iconst (v := 0) hx hb dX8_likely_20 (by decide) ?_
      refine lv_istore_n (lv' := [(3, .int 0), (2, .int r_he), (0, .ref q), (1, .int x1)]) hx hb dX8_likely_21 rfl hl (by decide) rfl (fun ls hl => ?_)
      obtain ⟨v2_4, v3_5, hc_6, hf⟩ := bd2 hf
      refine L_X8_likely_22 S hK hN hSF _ r_he 0 v2_4 v3_5 hc_6 _ hP (lv_sub hl [2, 3, 1, 0] rfl) (fun ls hl => ?_)
      refine lv_iload_n hx hb dX8_likely_50 rfl (lv_at hl 2 rfl) ?_
      exact k_reti hx hb hret hloc (Option.some.inj hf) dX8_likely_51
    · rw [if_neg c_2] at hf
      refine lv_iconst (v := (-1)) hx hb dX8_likely_10 (by decide) ?_
      exact k_reti hx hb hret hloc (Option.some.inj hf) dX8_likely_11
theorem dX8_guess_0 : decode cX8_guess 0 = .ok (.aload_n 0, 1) := by decide +kernel
theorem dX8_guess_1 : decode cX8_guess 1 = .ok (.getfield 21, 3) := by decide +kernel
theorem dX8_guess_4 : decode cX8_guess 4 = .ok (.getfield 146, 3) := by decide +kernel
theorem dX8_guess_7 : decode cX8_guess 7 = .ok (.istore_n 1, 1) := by decide +kernel
theorem dX8_guess_8 : decode cX8_guess 8 = .ok (.iconst 0, 1) := by decide +kernel
theorem dX8_guess_9 : decode cX8_guess 9 = .ok (.istore_n 2, 1) := by decide +kernel
theorem dX8_guess_10 : decode cX8_guess 10 = .ok (.iconst 0, 1) := by decide +kernel
theorem dX8_guess_11 : decode cX8_guess 11 = .ok (.istore_n 3, 1) := by decide +kernel
theorem dX8_guess_12 : decode cX8_guess 12 = .ok (.iload_n 3, 1) := by decide +kernel
theorem dX8_guess_13 : decode cX8_guess 13 = .ok (.bipush 8, 2) := by decide +kernel
theorem dX8_guess_15 : decode cX8_guess 15 = .ok (.if_icmp .ge 37, 3) := by decide +kernel
theorem dX8_guess_18 : decode cX8_guess 18 = .ok (.aload_n 0, 1) := by decide +kernel
theorem dX8_guess_19 : decode cX8_guess 19 = .ok (.getfield 21, 3) := by decide +kernel
theorem dX8_guess_22 : decode cX8_guess 22 = .ok (.iload_n 1, 1) := by decide +kernel
theorem dX8_guess_23 : decode cX8_guess 23 = .ok (.invokevirtual 186, 3) := by decide +kernel
theorem dX8_guess_26 : decode cX8_guess 26 = .ok (.istore 4, 2) := by decide +kernel
theorem dX8_guess_28 : decode cX8_guess 28 = .ok (.iconst 2, 1) := by decide +kernel
theorem dX8_guess_29 : decode cX8_guess 29 = .ok (.iload_n 2, 1) := by decide +kernel
theorem dX8_guess_30 : decode cX8_guess 30 = .ok (.imul, 1) := by decide +kernel
theorem dX8_guess_31 : decode cX8_guess 31 = .ok (.iload 4, 2) := by decide +kernel
theorem dX8_guess_33 : decode cX8_guess 33 = .ok (.iadd, 1) := by decide +kernel
theorem dX8_guess_34 : decode cX8_guess 34 = .ok (.istore_n 2, 1) := by decide +kernel
theorem dX8_guess_35 : decode cX8_guess 35 = .ok (.aload_n 0, 1) := by decide +kernel
theorem dX8_guess_36 : decode cX8_guess 36 = .ok (.getfield 21, 3) := by decide +kernel
theorem dX8_guess_39 : decode cX8_guess 39 = .ok (.iload_n 1, 1) := by decide +kernel
theorem dX8_guess_40 : decode cX8_guess 40 = .ok (.iload 4, 2) := by decide +kernel
theorem dX8_guess_42 : decode cX8_guess 42 = .ok (.invokevirtual 159, 3) := by decide +kernel
theorem dX8_guess_45 : decode cX8_guess 45 = .ok (.istore_n 1, 1) := by decide +kernel
theorem dX8_guess_46 : decode cX8_guess 46 = .ok (.iinc 3 1, 3) := by decide +kernel
theorem dX8_guess_49 : decode cX8_guess 49 = .ok (.goto (-37), 3) := by decide +kernel
theorem dX8_guess_52 : decode cX8_guess 52 = .ok (.aload_n 0, 1) := by decide +kernel
theorem dX8_guess_53 : decode cX8_guess 53 = .ok (.getfield 12, 3) := by decide +kernel
theorem dX8_guess_56 : decode cX8_guess 56 = .ok (.iload_n 2, 1) := by decide +kernel
theorem dX8_guess_57 : decode cX8_guess 57 = .ok (.invokevirtual 149, 3) := by decide +kernel
theorem dX8_guess_60 : decode cX8_guess 60 = .ok (.ireturn, 1) := by decide +kernel
def st_X8_guess_L12 (r_cn : (Nat → Int32)) (r_nx : (Nat → Int32)) (v1 : Int32) (v2 : Int32) (v3 : Int32) : Option ((Int32 × Int32 × Int32) ⊕ (Int32 × Int32 × Int32)) := if 8 ≤ v3 then (some (Sum.inr (v1, v2, v3))) else (some (Sum.inl ((f_X2_nextBy r_nx v1 (f_X2_likelyBit r_cn v1)), (2 * v2) + (f_X2_likelyBit r_cn v1), v3 + 1)))
def f_X8_guess_L12 (r_cn : (Nat → Int32)) (r_nx : (Nat → Int32)) (k : Nat) (v1 : Int32) (v2 : Int32) (v3 : Int32) : Option (Int32 × Int32 × Int32) := lpN (fun z => st_X8_guess_L12 r_cn r_nx z.1 z.2.1 z.2.2) k (v1, v2, v3)
set_option maxHeartbeats 4000000 in
set_option maxRecDepth 100000 in
theorem L_X8_guess_12 {p : Program} {l : Launch} {e : Env} {s : State} {m : MethodId} {args : Array Value} {below : List Frame} {meth : Method} {c : Code} {Q : State → Prop} {D : va_G} {cI : ClassId} {q : Nat} {qs : Nat} {qr : Nat} {qi : Nat} {qp : Nat} {qu : Nat} {qk : Nat} {qq : Nat} {q1 : Nat} {q2 : Nat} {qsr : Nat} {qsa : Nat} {qrc : Nat} {qrn : Nat} {qro : Nat} {qrl : Nat} {qrf : Nat} {qrca : Nat} {qrna : Nat} {qroa : Nat} {qrla : Nat} {qrfa : Nat} {kn : Int32} {s_sv : (Nat → Int32)} {r_st : Int32} {r_he : Int32} {r_ta : Int32} {r_cl : Int32} {r_dr : Int32} {r_cn : (Nat → Int32)} {r_nx : (Nat → Int32)} {r_og : (Nat → Int32)} {r_li : (Nat → Int32)} {r_fl : (Nat → Int32)} (S : CallFix p m c cX8_guess 5 s args wsG RX8) (hK : va_K D vwCl [(cI, .int)] s) (hN : nw s) (hSF : sf (fun _ => False) s s.heap) : ∀ (k : Nat) (v1 : Int32) (v2 : Int32) (v3 : Int32) (o_v1 : Int32) (o_v2 : Int32) (o_v3 : Int32), f_X8_guess_L12 r_cn r_nx k v1 v2 v3 = some (o_v1, o_v2, o_v3) → ∀ (ls : Array Slot), va_P D vwCl [(q, .inr (8, [.ref qs, .ref qr, .ref qi, .ref qp, .ref qu, .ref qk, .ref qq, .ref q1, .ref q2, .int kn])), (qs, .inr (5, [.ref qsr])), (qsr, .inr (4, [.ref qsa])), (qsa, .inl (cI, 5, .inl s_sv)), (qr, .inr (2, [.ref qs, .ref qrc, .ref qrn, .ref qro, .ref qrl, .ref qrf, .int r_st, .int r_he, .int r_ta, .int r_cl, .int r_dr])), (qrc, .inr (4, [.ref qrca])), (qrca, .inl (cI, 500, .inl r_cn)), (qrn, .inr (4, [.ref qrna])), (qrna, .inl (cI, 500, .inl r_nx)), (qro, .inr (4, [.ref qroa])), (qroa, .inl (cI, 250, .inl r_og)), (qrl, .inr (4, [.ref qrla])), (qrla, .inl (cI, 250, .inl r_li)), (qrf, .inr (4, [.ref qrfa])), (qrfa, .inl (cI, 250, .inl r_fl))] s.heap → lv_has ls 5 [(0, .ref q), (1, .int v1), (2, .int v2), (3, .int v3)] → (∀ (ls : Array Slot), lv_has ls 5 [(0, .ref q), (1, .int o_v1), (2, .int o_v2), (3, .int o_v3)] → W p l e (headSpec (.code yX8_guess cX8_guess 5 (some .int) :: wsG) { frames := 3, cells := 0, slots := 0, locals := 65 }).room s m args below meth c s.heap [] 0 0 Q (F0 m 52 ls [])) → W p l e (headSpec (.code yX8_guess cX8_guess 5 (some .int) :: wsG) { frames := 3, cells := 0, slots := 0, locals := 65 }).room s m args below meth c s.heap [] 0 0 Q (F0 m 12 ls []) := by
  obtain ⟨hx, hb, hml, hown, hts⟩ := id S
  intro k
  induction k with
  | zero =>
    intro v1 v2 v3 o_v1 o_v2 o_v3 hf
    cases hf
  | succ k ih =>
    intro v1 v2 v3 o_v1 o_v2 o_v3 hf ls hP hl kk
    obtain ⟨z, hf, hz⟩ := lp_inv hf
    have hf : st_X8_guess_L12 r_cn r_nx v1 v2 v3 = some z := hf
    unfold st_X8_guess_L12 at hf
    refine lv_iload_n hx hb dX8_guess_12 rfl (lv_at hl 3 rfl) ?_
    refine lv_bipush (v := 8) hx hb dX8_guess_13 (by decide) ?_
    refine lv_icmp_ge (tgt := 52) hx hb dX8_guess_15 (by decide) (fun c_1 => ?_) (fun c_1 => ?_)
    · rw [if_pos c_1] at hf
      have hf := Option.some.inj hf
      subst hf
      obtain ⟨e_0, e_r⟩ := Prod.mk.inj (lpC_r hz)
      obtain ⟨e_1, e_2⟩ := Prod.mk.inj (e_r)
      subst e_0
      subst e_1
      subst e_2
      exact kk ls (lv_sub hl [0, 1, 2, 3] rfl)
    · rw [if_neg c_1] at hf
      refine lv_aload_n hx hb dX8_guess_18 rfl (lv_at hl 0 rfl) ?_
      refine va_get (D := D) (ci := 8) (v := .ref qr) (C := RX8) (T := TX8) (N := 10) hx hb hts inGX8 hown hK hP 0 rfl rfl 1 (by decide) (hts _ fl_X8_21) (fun _ h9 => h9) rfl dX8_guess_19 ?_
      refine lv_iload_n hx hb dX8_guess_22 rfl (lv_at hl 1 rfl) ?_
      refine k_roVi (As := [.int v1]) (rest := []) S (c_X2_likelyBit l D cI (q := qr) (qs := qs) (qc := qrc) (qn := qrn) (qo := qro) (ql := qrl) (qf := qrf) (qca := qrca) (qna := qrna) (qoa := qroa) (qla := qrla) (qfa := qrfa) (qsr := qsr) (qsa := qsa) (st := r_st) (he := r_he) (ta := r_ta) (cl := r_cl) (dr := r_dr) (cn := r_cn) (nx := r_nx) (og := r_og) (li := r_li) (fl := r_fl) (sv := s_sv) (x1 := v1)  (r := (f_X2_likelyBit r_cn v1)) (hf := rfl)) gs_X8_186 ok_X2_likelyBit ⟨rfl, rfl⟩ ⟨Nat.le_of_ble_eq_true rfl, Nat.le_of_ble_eq_true rfl⟩ hK hN hSF (hP.sub [4, 5, 6, 7, 8, 9, 10, 11, 12, 13, 14, 1, 2, 3] rfl) rfl rfl rfl hl.1 rfl (Nat.le_of_ble_eq_true rfl) ⟨Nat.zero_le _, Nat.zero_le _⟩ dX8_guess_23 ?_
      refine lv_istore (lv' := [(4, .int (f_X2_likelyBit r_cn v1)), (0, .ref q), (1, .int v1), (2, .int v2), (3, .int v3)]) hx hb dX8_guess_26 hl (by decide) rfl (fun ls hl => ?_)
      refine lv_iconst (v := 2) hx hb dX8_guess_28 (by decide) ?_
      refine lv_iload_n hx hb dX8_guess_29 rfl (lv_at hl 3 rfl) ?_
      refine lv_imul hx hb dX8_guess_30 ?_
      refine lv_iload hx hb dX8_guess_31 (lv_at hl 0 rfl) ?_
      refine lv_iadd hx hb dX8_guess_33 ?_
      refine lv_istore_n (lv' := [(2, .int ((2 * v2) + (f_X2_likelyBit r_cn v1))), (4, .int (f_X2_likelyBit r_cn v1)), (0, .ref q), (1, .int v1), (3, .int v3)]) hx hb dX8_guess_34 rfl hl (by decide) rfl (fun ls hl => ?_)
      refine lv_aload_n hx hb dX8_guess_35 rfl (lv_at hl 2 rfl) ?_
      refine va_get (D := D) (ci := 8) (v := .ref qr) (C := RX8) (T := TX8) (N := 10) hx hb hts inGX8 hown hK hP 0 rfl rfl 1 (by decide) (hts _ fl_X8_21) (fun _ h9 => h9) rfl dX8_guess_36 ?_
      refine lv_iload_n hx hb dX8_guess_39 rfl (lv_at hl 3 rfl) ?_
      refine lv_iload hx hb dX8_guess_40 (lv_at hl 1 rfl) ?_
      refine k_roVi (As := [.int v1, .int (f_X2_likelyBit r_cn v1)]) (rest := []) S (c_X2_nextBy l D cI (q := qr) (qs := qs) (qc := qrc) (qn := qrn) (qo := qro) (ql := qrl) (qf := qrf) (qca := qrca) (qna := qrna) (qoa := qroa) (qla := qrla) (qfa := qrfa) (qsr := qsr) (qsa := qsa) (st := r_st) (he := r_he) (ta := r_ta) (cl := r_cl) (dr := r_dr) (cn := r_cn) (nx := r_nx) (og := r_og) (li := r_li) (fl := r_fl) (sv := s_sv) (x1 := v1) (x2 := (f_X2_likelyBit r_cn v1))  (r := (f_X2_nextBy r_nx v1 (f_X2_likelyBit r_cn v1))) (hf := rfl)) gs_X8_159 ok_X2_nextBy ⟨rfl, rfl⟩ ⟨Nat.le_of_ble_eq_true rfl, Nat.le_of_ble_eq_true rfl⟩ hK hN hSF (hP.sub [4, 5, 6, 7, 8, 9, 10, 11, 12, 13, 14, 1, 2, 3] rfl) rfl rfl rfl hl.1 rfl (Nat.le_of_ble_eq_true rfl) ⟨Nat.zero_le _, Nat.zero_le _⟩ dX8_guess_42 ?_
      refine lv_istore_n (lv' := [(1, .int (f_X2_nextBy r_nx v1 (f_X2_likelyBit r_cn v1))), (2, .int ((2 * v2) + (f_X2_likelyBit r_cn v1))), (4, .int (f_X2_likelyBit r_cn v1)), (0, .ref q), (3, .int v3)]) hx hb dX8_guess_45 rfl hl (by decide) rfl (fun ls hl => ?_)
      refine lv_iinc (v := v3 + 1) (lv' := [(3, .int (v3 + 1)), (1, .int (f_X2_nextBy r_nx v1 (f_X2_likelyBit r_cn v1))), (2, .int ((2 * v2) + (f_X2_likelyBit r_cn v1))), (4, .int (f_X2_likelyBit r_cn v1)), (0, .ref q)]) hx hb dX8_guess_46 hl (k := 4) rfl rfl (by decide) rfl (fun ls hl => ?_)
      refine lv_goto (tgt := 12) hx hb dX8_guess_49 (by decide) ?_
      have hf := Option.some.inj hf
      subst hf
      exact ih (f_X2_nextBy r_nx v1 (f_X2_likelyBit r_cn v1)) ((2 * v2) + (f_X2_likelyBit r_cn v1)) (v3 + 1) _ _ _ hz ls hP (lv_sub hl [4, 1, 2, 0] rfl) kk
def f_X8_guess (s_sv : (Nat → Int32)) (r_he : Int32) (r_cn : (Nat → Int32)) (r_nx : (Nat → Int32)) : Option (Int32) := bi3 (f_X8_guess_L12 r_cn r_nx 4096 r_he 0 0) (fun (v1_2 : Int32) (v2_3 : Int32) (v3_4 : Int32) => bi1 (f_X5_turned s_sv v2_3) (fun (r_6 : Int32) => some r_6))
set_option maxHeartbeats 4000000 in
set_option maxRecDepth 100000 in
theorem c_X8_guess (l : Launch) (D : va_G) (cI : ClassId) (q : Nat) (qs : Nat) (qr : Nat) (qi : Nat) (qp : Nat) (qu : Nat) (qk : Nat) (qq : Nat) (q1 : Nat) (q2 : Nat) (qsr : Nat) (qsa : Nat) (qrc : Nat) (qrn : Nat) (qro : Nat) (qrl : Nat) (qrf : Nat) (qrca : Nat) (qrna : Nat) (qroa : Nat) (qrla : Nat) (qrfa : Nat) (kn : Int32) (s_sv : (Nat → Int32)) (r_st : Int32) (r_he : Int32) (r_ta : Int32) (r_cl : Int32) (r_dr : Int32) (r_cn : (Nat → Int32)) (r_nx : (Nat → Int32)) (r_og : (Nat → Int32)) (r_li : (Nat → Int32)) (r_fl : (Nat → Int32)) (r : Int32) (hf : f_X8_guess s_sv r_he r_cn r_nx = some r) : Met l yX8_guess (.code yX8_guess cX8_guess 5 (some .int) :: wsG) ({ frames := 3, cells := 0, slots := 0, locals := 65 }) (va_Pc [.ref q] (gw D cI [(q, .inr (8, [.ref qs, .ref qr, .ref qi, .ref qp, .ref qu, .ref qk, .ref qq, .ref q1, .ref q2, .int kn])), (qs, .inr (5, [.ref qsr])), (qsr, .inr (4, [.ref qsa])), (qsa, .inl (cI, 5, .inl s_sv)), (qr, .inr (2, [.ref qs, .ref qrc, .ref qrn, .ref qro, .ref qrl, .ref qrf, .int r_st, .int r_he, .int r_ta, .int r_cl, .int r_dr])), (qrc, .inr (4, [.ref qrca])), (qrca, .inl (cI, 500, .inl r_cn)), (qrn, .inr (4, [.ref qrna])), (qrna, .inl (cI, 500, .inl r_nx)), (qro, .inr (4, [.ref qroa])), (qroa, .inl (cI, 250, .inl r_og)), (qrl, .inr (4, [.ref qrla])), (qrla, .inl (cI, 250, .inl r_li)), (qrf, .inr (4, [.ref qrfa])), (qrfa, .inl (cI, 250, .inl r_fl))])) (vp_Si (fun x => x = r)) 0 0 (fun _ => False) := by
  refine k_ro (by decide) rfl (Nat.le_of_ble_eq_true rfl) rfl ?_
  intro p e s m below meth c ls S hret hloc hK hN hSF hP hl
  obtain ⟨hx, hb, hml, hown, hts⟩ := id S
  unfold f_X8_guess at hf
  refine lv_aload_n hx hb dX8_guess_0 rfl (lv_at hl 0 rfl) ?_
  refine va_get (D := D) (ci := 8) (v := .ref qr) (C := RX8) (T := TX8) (N := 10) hx hb hts inGX8 hown hK hP 0 rfl rfl 1 (by decide) (hts _ fl_X8_21) (fun _ h9 => h9) rfl dX8_guess_1 ?_
  refine va_getN (D := D) (ci := 2) (v := .int r_he) (C := RX2) (T := TX2) (N := 11) hx hb hts inGX2 hown hK hP 4 rfl rfl 7 (by decide) (va_Nw.use rfl (nf_X8_146 hN)) (fun _ h9 => h9) rfl dX8_guess_4 ?_
  refine lv_istore_n (lv' := [(1, .int r_he), (0, .ref q)]) hx hb dX8_guess_7 rfl hl (by decide) rfl (fun ls hl => ?_)
  refine lv_iconst (v := 0) hx hb dX8_guess_8 (by decide) ?_
  refine lv_istore_n (lv' := [(2, .int 0), (1, .int r_he), (0, .ref q)]) hx hb dX8_guess_9 rfl hl (by decide) rfl (fun ls hl => ?_)
  refine lv_iconst (v := 0) hx hb dX8_guess_10 (by decide) ?_
  refine lv_istore_n (lv' := [(3, .int 0), (2, .int 0), (1, .int r_he), (0, .ref q)]) hx hb dX8_guess_11 rfl hl (by decide) rfl (fun ls hl => ?_)
  obtain ⟨v1_2, v2_3, v3_4, hc_5, hf⟩ := bd3 hf
  refine L_X8_guess_12 S hK hN hSF _ r_he 0 0 v1_2 v2_3 v3_4 hc_5 _ hP (lv_sub hl [3, 2, 1, 0] rfl) (fun ls hl => ?_)
  refine lv_aload_n hx hb dX8_guess_52 rfl (lv_at hl 0 rfl) ?_
  refine va_get (D := D) (ci := 8) (v := .ref qs) (C := RX8) (T := TX8) (N := 10) hx hb hts inGX8 hown hK hP 0 rfl rfl 0 (by decide) (hts _ fl_X8_12) (fun _ h9 => h9) rfl dX8_guess_53 ?_
  refine lv_iload_n hx hb dX8_guess_56 rfl (lv_at hl 2 rfl) ?_
  obtain ⟨r_6, hc_7, hf⟩ := bd1 hf
  refine k_roVi (As := [.int v2_3]) (rest := []) S (c_X5_turned l D cI (q := qs) (qr := qsr) (qa := qsa) (sv := s_sv) (x1 := v2_3)  (r := r_6) (hf := hc_7)) gs_X8_149 ok_X5_turned ⟨rfl, rfl⟩ ⟨Nat.le_of_ble_eq_true rfl, Nat.le_of_ble_eq_true rfl⟩ hK hN hSF (hP.sub [1, 2, 3] rfl) rfl rfl rfl hl.1 rfl (Nat.le_of_ble_eq_true rfl) ⟨Nat.zero_le _, Nat.zero_le _⟩ dX8_guess_57 ?_
  exact k_reti hx hb hret hloc (Option.some.inj hf) dX8_guess_60
theorem dX8_cost_0 : decode cX8_cost 0 = .ok (.iload_n 1, 1) := by decide +kernel
theorem dX8_cost_1 : decode cX8_cost 1 = .ok (.ifCond .lt 20, 3) := by decide +kernel
theorem dX8_cost_4 : decode cX8_cost 4 = .ok (.iload_n 1, 1) := by decide +kernel
theorem dX8_cost_5 : decode cX8_cost 5 = .ok (.ldc 189, 2) := by decide +kernel
theorem dX8_cost_7 : decode cX8_cost 7 = .ok (.if_icmp .gt 14, 3) := by decide +kernel
theorem dX8_cost_10 : decode cX8_cost 10 = .ok (.iload_n 2, 1) := by decide +kernel
theorem dX8_cost_11 : decode cX8_cost 11 = .ok (.iconst 1, 1) := by decide +kernel
theorem dX8_cost_12 : decode cX8_cost 12 = .ok (.if_icmp .lt 9, 3) := by decide +kernel
theorem dX8_cost_15 : decode cX8_cost 15 = .ok (.iload_n 2, 1) := by decide +kernel
theorem dX8_cost_16 : decode cX8_cost 16 = .ok (.bipush 16, 2) := by decide +kernel
theorem dX8_cost_18 : decode cX8_cost 18 = .ok (.if_icmp .le 5, 3) := by decide +kernel
theorem dX8_cost_21 : decode cX8_cost 21 = .ok (.iconst (-1), 1) := by decide +kernel
theorem dX8_cost_22 : decode cX8_cost 22 = .ok (.ireturn, 1) := by decide +kernel
theorem dX8_cost_23 : decode cX8_cost 23 = .ok (.aload_n 0, 1) := by decide +kernel
theorem dX8_cost_24 : decode cX8_cost 24 = .ok (.getfield 21, 3) := by decide +kernel
theorem dX8_cost_27 : decode cX8_cost 27 = .ok (.iload_n 1, 1) := by decide +kernel
theorem dX8_cost_28 : decode cX8_cost 28 = .ok (.bipush 16, 2) := by decide +kernel
theorem dX8_cost_30 : decode cX8_cost 30 = .ok (.iload_n 2, 1) := by decide +kernel
theorem dX8_cost_31 : decode cX8_cost 31 = .ok (.invokevirtual 190, 3) := by decide +kernel
theorem dX8_cost_34 : decode cX8_cost 34 = .ok (.ireturn, 1) := by decide +kernel
def f_X8_cost (r_he : Int32) (r_cn : (Nat → Int32)) (r_nx : (Nat → Int32)) (x1 : Int32) (x2 : Int32) : Option (Int32) := if x1 < 0 then (some (-1 : Int32)) else (if 65535 < x1 then (some (-1 : Int32)) else (if x2 < 1 then (some (-1 : Int32)) else (if x2 ≤ 16 then (bi1 (f_X2_costOf r_he r_cn r_nx x1 16 x2) (fun (r_5 : Int32) => some r_5)) else (some (-1 : Int32)))))
set_option maxHeartbeats 4000000 in
set_option maxRecDepth 100000 in
theorem c_X8_cost (l : Launch) (D : va_G) (cI : ClassId) (q : Nat) (qs : Nat) (qr : Nat) (qi : Nat) (qp : Nat) (qu : Nat) (qk : Nat) (qq : Nat) (q1 : Nat) (q2 : Nat) (qsr : Nat) (qsa : Nat) (qrc : Nat) (qrn : Nat) (qro : Nat) (qrl : Nat) (qrf : Nat) (qrca : Nat) (qrna : Nat) (qroa : Nat) (qrla : Nat) (qrfa : Nat) (kn : Int32) (s_sv : (Nat → Int32)) (r_st : Int32) (r_he : Int32) (r_ta : Int32) (r_cl : Int32) (r_dr : Int32) (r_cn : (Nat → Int32)) (r_nx : (Nat → Int32)) (r_og : (Nat → Int32)) (r_li : (Nat → Int32)) (r_fl : (Nat → Int32)) (x1 : Int32) (x2 : Int32) (r : Int32) (hf : f_X8_cost r_he r_cn r_nx x1 x2 = some r) : Met l yX8_cost (.code yX8_cost cX8_cost 3 (some .int) :: wsG) ({ frames := 5, cells := 0, slots := 0, locals := 116 }) (va_Pc [.ref q, .int x1, .int x2] (gw D cI [(q, .inr (8, [.ref qs, .ref qr, .ref qi, .ref qp, .ref qu, .ref qk, .ref qq, .ref q1, .ref q2, .int kn])), (qs, .inr (5, [.ref qsr])), (qsr, .inr (4, [.ref qsa])), (qsa, .inl (cI, 5, .inl s_sv)), (qr, .inr (2, [.ref qs, .ref qrc, .ref qrn, .ref qro, .ref qrl, .ref qrf, .int r_st, .int r_he, .int r_ta, .int r_cl, .int r_dr])), (qrc, .inr (4, [.ref qrca])), (qrca, .inl (cI, 500, .inl r_cn)), (qrn, .inr (4, [.ref qrna])), (qrna, .inl (cI, 500, .inl r_nx)), (qro, .inr (4, [.ref qroa])), (qroa, .inl (cI, 250, .inl r_og)), (qrl, .inr (4, [.ref qrla])), (qrla, .inl (cI, 250, .inl r_li)), (qrf, .inr (4, [.ref qrfa])), (qrfa, .inl (cI, 250, .inl r_fl))])) (vp_Si (fun x => x = r)) 0 0 (fun _ => False) := by
  refine k_ro (by decide) rfl (Nat.le_of_ble_eq_true rfl) rfl ?_
  intro p e s m below meth c ls S hret hloc hK hN hSF hP hl
  obtain ⟨hx, hb, hml, hown, hts⟩ := id S
  unfold f_X8_cost at hf
  refine lv_iload_n hx hb dX8_cost_0 rfl (lv_at hl 1 rfl) ?_
  refine lv_if_lt (tgt := 21) hx hb dX8_cost_1 (by decide) (fun c_1 => ?_) (fun c_1 => ?_)
  · rw [if_pos c_1] at hf
    refine lv_iconst (v := (-1)) hx hb dX8_cost_21 (by decide) ?_
    exact k_reti hx hb hret hloc (Option.some.inj hf) dX8_cost_22
  · rw [if_neg c_1] at hf
    refine lv_iload_n hx hb dX8_cost_4 rfl (lv_at hl 1 rfl) ?_
    refine lv_ldc (v := 65535) hx hb hown (hts _ ck_X8_189) dX8_cost_5 ?_
    refine lv_icmp_gt (tgt := 21) hx hb dX8_cost_7 (by decide) (fun c_2 => ?_) (fun c_2 => ?_)
    · rw [if_pos c_2] at hf
      refine lv_iconst (v := (-1)) hx hb dX8_cost_21 (by decide) ?_
      exact k_reti hx hb hret hloc (Option.some.inj hf) dX8_cost_22
    · rw [if_neg c_2] at hf
      refine lv_iload_n hx hb dX8_cost_10 rfl (lv_at hl 2 rfl) ?_
      refine lv_iconst (v := 1) hx hb dX8_cost_11 (by decide) ?_
      refine lv_icmp_lt (tgt := 21) hx hb dX8_cost_12 (by decide) (fun c_3 => ?_) (fun c_3 => ?_)
      · rw [if_pos c_3] at hf
        refine lv_iconst (v := (-1)) hx hb dX8_cost_21 (by decide) ?_
        exact k_reti hx hb hret hloc (Option.some.inj hf) dX8_cost_22
      · rw [if_neg c_3] at hf
        refine lv_iload_n hx hb dX8_cost_15 rfl (lv_at hl 2 rfl) ?_
        refine lv_bipush (v := 16) hx hb dX8_cost_16 (by decide) ?_
        refine lv_icmp_le (tgt := 23) hx hb dX8_cost_18 (by decide) (fun c_4 => ?_) (fun c_4 => ?_)
        · rw [if_pos c_4] at hf
          refine lv_aload_n hx hb dX8_cost_23 rfl (lv_at hl 0 rfl) ?_
          refine va_get (D := D) (ci := 8) (v := .ref qr) (C := RX8) (T := TX8) (N := 10) hx hb hts inGX8 hown hK hP 0 rfl rfl 1 (by decide) (hts _ fl_X8_21) (fun _ h9 => h9) rfl dX8_cost_24 ?_
          refine lv_iload_n hx hb dX8_cost_27 rfl (lv_at hl 1 rfl) ?_
          refine lv_bipush (v := 16) hx hb dX8_cost_28 (by decide) ?_
          refine lv_iload_n hx hb dX8_cost_30 rfl (lv_at hl 2 rfl) ?_
          obtain ⟨r_5, hc_6, hf⟩ := bd1 hf
          refine k_roVi (As := [.int x1, .int 16, .int x2]) (rest := []) S (c_X2_costOf l D cI (q := qr) (qs := qs) (qc := qrc) (qn := qrn) (qo := qro) (ql := qrl) (qf := qrf) (qca := qrca) (qna := qrna) (qoa := qroa) (qla := qrla) (qfa := qrfa) (qsr := qsr) (qsa := qsa) (st := r_st) (he := r_he) (ta := r_ta) (cl := r_cl) (dr := r_dr) (cn := r_cn) (nx := r_nx) (og := r_og) (li := r_li) (fl := r_fl) (sv := s_sv) (x1 := x1) (x2 := 16) (x3 := x2)  (r := r_5) (hf := hc_6)) gs_X8_190 ok_X2_costOf ⟨rfl, rfl⟩ ⟨Nat.le_of_ble_eq_true rfl, Nat.le_of_ble_eq_true rfl⟩ hK hN hSF (hP.sub [4, 5, 6, 7, 8, 9, 10, 11, 12, 13, 14, 1, 2, 3] rfl) rfl rfl rfl hl.1 rfl (Nat.le_of_ble_eq_true rfl) ⟨Nat.zero_le _, Nat.zero_le _⟩ dX8_cost_31 ?_
          exact k_reti hx hb hret hloc (Option.some.inj hf) dX8_cost_34
        · rw [if_neg c_4] at hf
          refine lv_iconst (v := (-1)) hx hb dX8_cost_21 (by decide) ?_
          exact k_reti hx hb hret hloc (Option.some.inj hf) dX8_cost_22
theorem dX8_cheapest_0 : decode cX8_cheapest 0 = .ok (.iload_n 1, 1) := by decide +kernel
theorem dX8_cheapest_1 : decode cX8_cheapest 1 = .ok (.ifCond .lt 8, 3) := by decide +kernel
theorem dX8_cheapest_4 : decode cX8_cheapest 4 = .ok (.iload_n 1, 1) := by decide +kernel
theorem dX8_cheapest_5 : decode cX8_cheapest 5 = .ok (.iconst 1, 1) := by decide +kernel
theorem dX8_cheapest_6 : decode cX8_cheapest 6 = .ok (.if_icmp .le 5, 3) := by decide +kernel
theorem dX8_cheapest_9 : decode cX8_cheapest 9 = .ok (.iconst (-1), 1) := by decide +kernel
theorem dX8_cheapest_10 : decode cX8_cheapest 10 = .ok (.ireturn, 1) := by decide +kernel
theorem dX8_cheapest_11 : decode cX8_cheapest 11 = .ok (.iconst 0, 1) := by decide +kernel
theorem dX8_cheapest_12 : decode cX8_cheapest 12 = .ok (.istore_n 2, 1) := by decide +kernel
theorem dX8_cheapest_13 : decode cX8_cheapest 13 = .ok (.aload_n 0, 1) := by decide +kernel
theorem dX8_cheapest_14 : decode cX8_cheapest 14 = .ok (.iconst 0, 1) := by decide +kernel
theorem dX8_cheapest_15 : decode cX8_cheapest 15 = .ok (.invokevirtual 193, 3) := by decide +kernel
theorem dX8_cheapest_18 : decode cX8_cheapest 18 = .ok (.istore_n 3, 1) := by decide +kernel
theorem dX8_cheapest_19 : decode cX8_cheapest 19 = .ok (.iconst 1, 1) := by decide +kernel
theorem dX8_cheapest_20 : decode cX8_cheapest 20 = .ok (.istore 4, 2) := by decide +kernel
theorem dX8_cheapest_22 : decode cX8_cheapest 22 = .ok (.iload 4, 2) := by decide +kernel
theorem dX8_cheapest_24 : decode cX8_cheapest 24 = .ok (.sipush 255, 3) := by decide +kernel
theorem dX8_cheapest_27 : decode cX8_cheapest 27 = .ok (.if_icmp .gt 29, 3) := by decide +kernel
theorem dX8_cheapest_30 : decode cX8_cheapest 30 = .ok (.aload_n 0, 1) := by decide +kernel
theorem dX8_cheapest_31 : decode cX8_cheapest 31 = .ok (.iload 4, 2) := by decide +kernel
theorem dX8_cheapest_33 : decode cX8_cheapest 33 = .ok (.invokevirtual 193, 3) := by decide +kernel
theorem dX8_cheapest_36 : decode cX8_cheapest 36 = .ok (.istore 5, 2) := by decide +kernel
theorem dX8_cheapest_38 : decode cX8_cheapest 38 = .ok (.iload 5, 2) := by decide +kernel
theorem dX8_cheapest_40 : decode cX8_cheapest 40 = .ok (.iload_n 3, 1) := by decide +kernel
theorem dX8_cheapest_41 : decode cX8_cheapest 41 = .ok (.if_icmp .ge 9, 3) := by decide +kernel
theorem dX8_cheapest_44 : decode cX8_cheapest 44 = .ok (.iload 4, 2) := by decide +kernel
theorem dX8_cheapest_46 : decode cX8_cheapest 46 = .ok (.istore_n 2, 1) := by decide +kernel
theorem dX8_cheapest_47 : decode cX8_cheapest 47 = .ok (.iload 5, 2) := by decide +kernel
theorem dX8_cheapest_49 : decode cX8_cheapest 49 = .ok (.istore_n 3, 1) := by decide +kernel
theorem dX8_cheapest_50 : decode cX8_cheapest 50 = .ok (.iinc 4 1, 3) := by decide +kernel
theorem dX8_cheapest_53 : decode cX8_cheapest 53 = .ok (.goto (-31), 3) := by decide +kernel
theorem dX8_cheapest_56 : decode cX8_cheapest 56 = .ok (.iload_n 1, 1) := by decide +kernel
theorem dX8_cheapest_57 : decode cX8_cheapest 57 = .ok (.ifCond .ne 7, 3) := by decide +kernel
theorem dX8_cheapest_60 : decode cX8_cheapest 60 = .ok (.iload_n 2, 1) := by decide +kernel
theorem dX8_cheapest_61 : decode cX8_cheapest 61 = .ok (.goto 4, 3) := by decide +kernel
theorem dX8_cheapest_64 : decode cX8_cheapest 64 = .ok (.iload_n 3, 1) := by decide +kernel
theorem dX8_cheapest_65 : decode cX8_cheapest 65 = .ok (.ireturn, 1) := by decide +kernel
theorem ok_X8_costOfByte : okV yX8_costOfByte RX8 1 := by decide +kernel
theorem gs_X8_193 : GoodIn wsG (wsV RX8 193 RX8 yX8_costOfByte (.code yX8_costOfByte cX8_costOfByte 2 (some .int) :: wsG)) := good_V ml_X8_193 im_X8_costOfByte se_X8_costOfByte ini_X8 co_X8_costOfByte
def st_X8_cheapest_L22 (s_sv : (Nat → Int32)) (r_he : Int32) (r_cn : (Nat → Int32)) (r_nx : (Nat → Int32)) (v2 : Int32) (v3 : Int32) (v4 : Int32) : Option ((Int32 × Int32 × Int32) ⊕ (Int32 × Int32 × Int32)) := if 255 < v4 then (some (Sum.inr (v2, v3, v4))) else (bi1 (f_X8_costOfByte s_sv r_he r_cn r_nx v4) (fun (r_6 : Int32) => if v3 ≤ r_6 then (some (Sum.inl (v2, v3, v4 + 1))) else (some (Sum.inl (v4, r_6, v4 + 1)))))
def f_X8_cheapest_L22 (s_sv : (Nat → Int32)) (r_he : Int32) (r_cn : (Nat → Int32)) (r_nx : (Nat → Int32)) (k : Nat) (v2 : Int32) (v3 : Int32) (v4 : Int32) : Option (Int32 × Int32 × Int32) := lpN (fun z => st_X8_cheapest_L22 s_sv r_he r_cn r_nx z.1 z.2.1 z.2.2) k (v2, v3, v4)
set_option maxHeartbeats 4000000 in
set_option maxRecDepth 100000 in
theorem L_X8_cheapest_22 {p : Program} {l : Launch} {e : Env} {s : State} {m : MethodId} {args : Array Value} {below : List Frame} {meth : Method} {c : Code} {Q : State → Prop} {D : va_G} {cI : ClassId} {q : Nat} {qs : Nat} {qr : Nat} {qi : Nat} {qp : Nat} {qu : Nat} {qk : Nat} {qq : Nat} {q1 : Nat} {q2 : Nat} {qsr : Nat} {qsa : Nat} {qrc : Nat} {qrn : Nat} {qro : Nat} {qrl : Nat} {qrf : Nat} {qrca : Nat} {qrna : Nat} {qroa : Nat} {qrla : Nat} {qrfa : Nat} {v1 : Int32} {kn : Int32} {s_sv : (Nat → Int32)} {r_st : Int32} {r_he : Int32} {r_ta : Int32} {r_cl : Int32} {r_dr : Int32} {r_cn : (Nat → Int32)} {r_nx : (Nat → Int32)} {r_og : (Nat → Int32)} {r_li : (Nat → Int32)} {r_fl : (Nat → Int32)} (S : CallFix p m c cX8_cheapest 6 s args wsG RX8) (hK : va_K D vwCl [(cI, .int)] s) (hN : nw s) (hSF : sf (fun _ => False) s s.heap) : ∀ (k : Nat) (v2 : Int32) (v3 : Int32) (v4 : Int32) (o_v2 : Int32) (o_v3 : Int32) (o_v4 : Int32), f_X8_cheapest_L22 s_sv r_he r_cn r_nx k v2 v3 v4 = some (o_v2, o_v3, o_v4) → ∀ (ls : Array Slot), va_P D vwCl [(q, .inr (8, [.ref qs, .ref qr, .ref qi, .ref qp, .ref qu, .ref qk, .ref qq, .ref q1, .ref q2, .int kn])), (qs, .inr (5, [.ref qsr])), (qsr, .inr (4, [.ref qsa])), (qsa, .inl (cI, 5, .inl s_sv)), (qr, .inr (2, [.ref qs, .ref qrc, .ref qrn, .ref qro, .ref qrl, .ref qrf, .int r_st, .int r_he, .int r_ta, .int r_cl, .int r_dr])), (qrc, .inr (4, [.ref qrca])), (qrca, .inl (cI, 500, .inl r_cn)), (qrn, .inr (4, [.ref qrna])), (qrna, .inl (cI, 500, .inl r_nx)), (qro, .inr (4, [.ref qroa])), (qroa, .inl (cI, 250, .inl r_og)), (qrl, .inr (4, [.ref qrla])), (qrla, .inl (cI, 250, .inl r_li)), (qrf, .inr (4, [.ref qrfa])), (qrfa, .inl (cI, 250, .inl r_fl))] s.heap → lv_has ls 6 [(0, .ref q), (1, .int v1), (2, .int v2), (3, .int v3), (4, .int v4)] → (∀ (ls : Array Slot), lv_has ls 6 [(0, .ref q), (1, .int v1), (2, .int o_v2), (3, .int o_v3), (4, .int o_v4)] → W p l e (headSpec (.code yX8_cheapest cX8_cheapest 6 (some .int) :: wsG) { frames := 6, cells := 0, slots := 0, locals := 137 }).room s m args below meth c s.heap [] 0 0 Q (F0 m 56 ls [])) → W p l e (headSpec (.code yX8_cheapest cX8_cheapest 6 (some .int) :: wsG) { frames := 6, cells := 0, slots := 0, locals := 137 }).room s m args below meth c s.heap [] 0 0 Q (F0 m 22 ls []) := by
  obtain ⟨hx, hb, hml, hown, hts⟩ := id S
  intro k
  induction k with
  | zero =>
    intro v2 v3 v4 o_v2 o_v3 o_v4 hf
    cases hf
  | succ k ih =>
    intro v2 v3 v4 o_v2 o_v3 o_v4 hf ls hP hl kk
    obtain ⟨z, hf, hz⟩ := lp_inv hf
    have hf : st_X8_cheapest_L22 s_sv r_he r_cn r_nx v2 v3 v4 = some z := hf
    unfold st_X8_cheapest_L22 at hf
    refine lv_iload hx hb dX8_cheapest_22 (lv_at hl 4 rfl) ?_
    refine lv_sipush (v := 255) hx hb dX8_cheapest_24 (by decide) ?_
    refine lv_icmp_gt (tgt := 56) hx hb dX8_cheapest_27 (by decide) (fun c_5 => ?_) (fun c_5 => ?_)
    · rw [if_pos c_5] at hf
      have hf := Option.some.inj hf
      subst hf
      obtain ⟨e_0, e_r⟩ := Prod.mk.inj (lpC_r hz)
      obtain ⟨e_1, e_2⟩ := Prod.mk.inj (e_r)
      subst e_0
      subst e_1
      subst e_2
      exact kk ls (lv_sub hl [0, 1, 2, 3, 4] rfl)
    · rw [if_neg c_5] at hf
      refine lv_aload_n hx hb dX8_cheapest_30 rfl (lv_at hl 0 rfl) ?_
      refine lv_iload hx hb dX8_cheapest_31 (lv_at hl 4 rfl) ?_
      obtain ⟨r_6, hc_7, hf⟩ := bd1 hf
      refine k_roVi (As := [.int v4]) (rest := []) S (c_X8_costOfByte l D cI (q := q) (qs := qs) (qr := qr) (qi := qi) (qp := qp) (qu := qu) (qk := qk) (qq := qq) (q1 := q1) (q2 := q2) (qsr := qsr) (qsa := qsa) (qrc := qrc) (qrn := qrn) (qro := qro) (qrl := qrl) (qrf := qrf) (qrca := qrca) (qrna := qrna) (qroa := qroa) (qrla := qrla) (qrfa := qrfa) (kn := kn) (s_sv := s_sv) (r_st := r_st) (r_he := r_he) (r_ta := r_ta) (r_cl := r_cl) (r_dr := r_dr) (r_cn := r_cn) (r_nx := r_nx) (r_og := r_og) (r_li := r_li) (r_fl := r_fl) (x1 := v4)  (r := r_6) (hf := hc_7)) gs_X8_193 ok_X8_costOfByte ⟨rfl, rfl⟩ ⟨Nat.le_of_ble_eq_true rfl, Nat.le_of_ble_eq_true rfl⟩ hK hN hSF hP rfl rfl rfl hl.1 rfl (Nat.le_of_ble_eq_true rfl) ⟨Nat.zero_le _, Nat.zero_le _⟩ dX8_cheapest_33 ?_
      refine lv_istore (lv' := [(5, .int r_6), (0, .ref q), (1, .int v1), (2, .int v2), (3, .int v3), (4, .int v4)]) hx hb dX8_cheapest_36 hl (by decide) rfl (fun ls hl => ?_)
      refine lv_iload hx hb dX8_cheapest_38 (lv_at hl 0 rfl) ?_
      refine lv_iload_n hx hb dX8_cheapest_40 rfl (lv_at hl 4 rfl) ?_
      refine lv_icmp_ge (tgt := 50) hx hb dX8_cheapest_41 (by decide) (fun c_8 => ?_) (fun c_8 => ?_)
      · rw [if_pos c_8] at hf
        refine lv_iinc (v := v4 + 1) (lv' := [(4, .int (v4 + 1)), (5, .int r_6), (0, .ref q), (1, .int v1), (2, .int v2), (3, .int v3)]) hx hb dX8_cheapest_50 hl (k := 5) rfl rfl (by decide) rfl (fun ls hl => ?_)
        refine lv_goto (tgt := 22) hx hb dX8_cheapest_53 (by decide) ?_
        have hf := Option.some.inj hf
        subst hf
        exact ih v2 v3 (v4 + 1) _ _ _ hz ls hP (lv_sub hl [2, 3, 4, 5, 0] rfl) kk
      · rw [if_neg c_8] at hf
        refine lv_iload hx hb dX8_cheapest_44 (lv_at hl 5 rfl) ?_
        refine lv_istore_n (lv' := [(2, .int v4), (5, .int r_6), (0, .ref q), (1, .int v1), (3, .int v3), (4, .int v4)]) hx hb dX8_cheapest_46 rfl hl (by decide) rfl (fun ls hl => ?_)
        refine lv_iload hx hb dX8_cheapest_47 (lv_at hl 1 rfl) ?_
        refine lv_istore_n (lv' := [(3, .int r_6), (2, .int v4), (5, .int r_6), (0, .ref q), (1, .int v1), (4, .int v4)]) hx hb dX8_cheapest_49 rfl hl (by decide) rfl (fun ls hl => ?_)
        refine lv_iinc (v := v4 + 1) (lv' := [(4, .int (v4 + 1)), (3, .int r_6), (2, .int v4), (5, .int r_6), (0, .ref q), (1, .int v1)]) hx hb dX8_cheapest_50 hl (k := 5) rfl rfl (by decide) rfl (fun ls hl => ?_)
        refine lv_goto (tgt := 22) hx hb dX8_cheapest_53 (by decide) ?_
        have hf := Option.some.inj hf
        subst hf
        exact ih v4 r_6 (v4 + 1) _ _ _ hz ls hP (lv_sub hl [4, 5, 2, 1, 0] rfl) kk
def f_X8_cheapest (s_sv : (Nat → Int32)) (r_he : Int32) (r_cn : (Nat → Int32)) (r_nx : (Nat → Int32)) (x1 : Int32) : Option (Int32) := if x1 < 0 then (some (-1 : Int32)) else (if x1 ≤ 1 then (bi1 (f_X8_costOfByte s_sv r_he r_cn r_nx 0) (fun (r_3 : Int32) => bi3 (f_X8_cheapest_L22 s_sv r_he r_cn r_nx 4096 0 r_3 1) (fun (v2_9 : Int32) (v3_10 : Int32) (v4_11 : Int32) => if x1 = 0 then (some v2_9) else (some v3_10)))) else (some (-1 : Int32)))
set_option maxHeartbeats 4000000 in
set_option maxRecDepth 100000 in
theorem c_X8_cheapest (l : Launch) (D : va_G) (cI : ClassId) (q : Nat) (qs : Nat) (qr : Nat) (qi : Nat) (qp : Nat) (qu : Nat) (qk : Nat) (qq : Nat) (q1 : Nat) (q2 : Nat) (qsr : Nat) (qsa : Nat) (qrc : Nat) (qrn : Nat) (qro : Nat) (qrl : Nat) (qrf : Nat) (qrca : Nat) (qrna : Nat) (qroa : Nat) (qrla : Nat) (qrfa : Nat) (kn : Int32) (s_sv : (Nat → Int32)) (r_st : Int32) (r_he : Int32) (r_ta : Int32) (r_cl : Int32) (r_dr : Int32) (r_cn : (Nat → Int32)) (r_nx : (Nat → Int32)) (r_og : (Nat → Int32)) (r_li : (Nat → Int32)) (r_fl : (Nat → Int32)) (x1 : Int32) (r : Int32) (hf : f_X8_cheapest s_sv r_he r_cn r_nx x1 = some r) : Met l yX8_cheapest (.code yX8_cheapest cX8_cheapest 6 (some .int) :: wsG) ({ frames := 6, cells := 0, slots := 0, locals := 137 }) (va_Pc [.ref q, .int x1] (gw D cI [(q, .inr (8, [.ref qs, .ref qr, .ref qi, .ref qp, .ref qu, .ref qk, .ref qq, .ref q1, .ref q2, .int kn])), (qs, .inr (5, [.ref qsr])), (qsr, .inr (4, [.ref qsa])), (qsa, .inl (cI, 5, .inl s_sv)), (qr, .inr (2, [.ref qs, .ref qrc, .ref qrn, .ref qro, .ref qrl, .ref qrf, .int r_st, .int r_he, .int r_ta, .int r_cl, .int r_dr])), (qrc, .inr (4, [.ref qrca])), (qrca, .inl (cI, 500, .inl r_cn)), (qrn, .inr (4, [.ref qrna])), (qrna, .inl (cI, 500, .inl r_nx)), (qro, .inr (4, [.ref qroa])), (qroa, .inl (cI, 250, .inl r_og)), (qrl, .inr (4, [.ref qrla])), (qrla, .inl (cI, 250, .inl r_li)), (qrf, .inr (4, [.ref qrfa])), (qrfa, .inl (cI, 250, .inl r_fl))])) (vp_Si (fun x => x = r)) 0 0 (fun _ => False) := by
  refine k_ro (by decide) rfl (Nat.le_of_ble_eq_true rfl) rfl ?_
  intro p e s m below meth c ls S hret hloc hK hN hSF hP hl
  obtain ⟨hx, hb, hml, hown, hts⟩ := id S
  unfold f_X8_cheapest at hf
  refine lv_iload_n hx hb dX8_cheapest_0 rfl (lv_at hl 1 rfl) ?_
  refine lv_if_lt (tgt := 9) hx hb dX8_cheapest_1 (by decide) (fun c_1 => ?_) (fun c_1 => ?_)
  · rw [if_pos c_1] at hf
    refine lv_iconst (v := (-1)) hx hb dX8_cheapest_9 (by decide) ?_
    exact k_reti hx hb hret hloc (Option.some.inj hf) dX8_cheapest_10
  · rw [if_neg c_1] at hf
    refine lv_iload_n hx hb dX8_cheapest_4 rfl (lv_at hl 1 rfl) ?_
    refine lv_iconst (v := 1) hx hb dX8_cheapest_5 (by decide) ?_
    refine lv_icmp_le (tgt := 11) hx hb dX8_cheapest_6 (by decide) (fun c_2 => ?_) (fun c_2 => ?_)
    · rw [if_pos c_2] at hf
      refine lv_iconst (v := 0) hx hb dX8_cheapest_11 (by decide) ?_
      refine lv_istore_n (lv' := [(2, .int 0), (0, .ref q), (1, .int x1)]) hx hb dX8_cheapest_12 rfl hl (by decide) rfl (fun ls hl => ?_)
      refine lv_aload_n hx hb dX8_cheapest_13 rfl (lv_at hl 1 rfl) ?_
      refine lv_iconst (v := 0) hx hb dX8_cheapest_14 (by decide) ?_
      obtain ⟨r_3, hc_4, hf⟩ := bd1 hf
      refine k_roVi (As := [.int 0]) (rest := []) S (c_X8_costOfByte l D cI (q := q) (qs := qs) (qr := qr) (qi := qi) (qp := qp) (qu := qu) (qk := qk) (qq := qq) (q1 := q1) (q2 := q2) (qsr := qsr) (qsa := qsa) (qrc := qrc) (qrn := qrn) (qro := qro) (qrl := qrl) (qrf := qrf) (qrca := qrca) (qrna := qrna) (qroa := qroa) (qrla := qrla) (qrfa := qrfa) (kn := kn) (s_sv := s_sv) (r_st := r_st) (r_he := r_he) (r_ta := r_ta) (r_cl := r_cl) (r_dr := r_dr) (r_cn := r_cn) (r_nx := r_nx) (r_og := r_og) (r_li := r_li) (r_fl := r_fl) (x1 := 0)  (r := r_3) (hf := hc_4)) gs_X8_193 ok_X8_costOfByte ⟨rfl, rfl⟩ ⟨Nat.le_of_ble_eq_true rfl, Nat.le_of_ble_eq_true rfl⟩ hK hN hSF hP rfl rfl rfl hl.1 rfl (Nat.le_of_ble_eq_true rfl) ⟨Nat.zero_le _, Nat.zero_le _⟩ dX8_cheapest_15 ?_
      refine lv_istore_n (lv' := [(3, .int r_3), (2, .int 0), (0, .ref q), (1, .int x1)]) hx hb dX8_cheapest_18 rfl hl (by decide) rfl (fun ls hl => ?_)
      refine lv_iconst (v := 1) hx hb dX8_cheapest_19 (by decide) ?_
      refine lv_istore (lv' := [(4, .int 1), (3, .int r_3), (2, .int 0), (0, .ref q), (1, .int x1)]) hx hb dX8_cheapest_20 hl (by decide) rfl (fun ls hl => ?_)
      obtain ⟨v2_9, v3_10, v4_11, hc_12, hf⟩ := bd3 hf
      refine L_X8_cheapest_22 S hK hN hSF _ 0 r_3 1 v2_9 v3_10 v4_11 hc_12 _ hP (lv_sub hl [3, 4, 2, 1, 0] rfl) (fun ls hl => ?_)
      refine lv_iload_n hx hb dX8_cheapest_56 rfl (lv_at hl 1 rfl) ?_
      refine lv_if_ne (tgt := 64) hx hb dX8_cheapest_57 (by decide) (fun c_13 => ?_) (fun c_13 => ?_)
      · rw [if_neg c_13] at hf
        refine lv_iload_n hx hb dX8_cheapest_64 rfl (lv_at hl 3 rfl) ?_
        exact k_reti hx hb hret hloc (Option.some.inj hf) dX8_cheapest_65
      · rw [if_pos c_13] at hf
        refine lv_iload_n hx hb dX8_cheapest_60 rfl (lv_at hl 2 rfl) ?_
        refine lv_goto (tgt := 65) hx hb dX8_cheapest_61 (by decide) ?_
        exact k_reti hx hb hret hloc (Option.some.inj hf) dX8_cheapest_65
    · rw [if_neg c_2] at hf
      refine lv_iconst (v := (-1)) hx hb dX8_cheapest_9 (by decide) ?_
      exact k_reti hx hb hret hloc (Option.some.inj hf) dX8_cheapest_10
theorem dX8_count_0 : decode cX8_count 0 = .ok (.iload_n 1, 1) := by decide +kernel
theorem dX8_count_1 : decode cX8_count 1 = .ok (.tableswitch 89 0 8 #[51, 51, 51, 51, 51, 60, 68, 76, 84], 51) := by decide +kernel
theorem dX8_count_52 : decode cX8_count 52 = .ok (.aload_n 0, 1) := by decide +kernel
theorem dX8_count_53 : decode cX8_count 53 = .ok (.getfield 12, 3) := by decide +kernel
theorem dX8_count_56 : decode cX8_count 56 = .ok (.iload_n 1, 1) := by decide +kernel
theorem dX8_count_57 : decode cX8_count 57 = .ok (.invokevirtual 74, 3) := by decide +kernel
theorem dX8_count_60 : decode cX8_count 60 = .ok (.ireturn, 1) := by decide +kernel
theorem dX8_count_61 : decode cX8_count 61 = .ok (.aload_n 0, 1) := by decide +kernel
theorem dX8_count_62 : decode cX8_count 62 = .ok (.getfield 30, 3) := by decide +kernel
theorem dX8_count_65 : decode cX8_count 65 = .ok (.invokevirtual 92, 3) := by decide +kernel
theorem dX8_count_68 : decode cX8_count 68 = .ok (.ireturn, 1) := by decide +kernel
theorem dX8_count_69 : decode cX8_count 69 = .ok (.aload_n 0, 1) := by decide +kernel
theorem dX8_count_70 : decode cX8_count 70 = .ok (.getfield 34, 3) := by decide +kernel
theorem dX8_count_73 : decode cX8_count 73 = .ok (.invokevirtual 92, 3) := by decide +kernel
theorem dX8_count_76 : decode cX8_count 76 = .ok (.ireturn, 1) := by decide +kernel
theorem dX8_count_77 : decode cX8_count 77 = .ok (.aload_n 0, 1) := by decide +kernel
theorem dX8_count_78 : decode cX8_count 78 = .ok (.getfield 37, 3) := by decide +kernel
theorem dX8_count_81 : decode cX8_count 81 = .ok (.invokevirtual 92, 3) := by decide +kernel
theorem dX8_count_84 : decode cX8_count 84 = .ok (.ireturn, 1) := by decide +kernel
theorem dX8_count_85 : decode cX8_count 85 = .ok (.aload_n 0, 1) := by decide +kernel
theorem dX8_count_86 : decode cX8_count 86 = .ok (.getfield 66, 3) := by decide +kernel
theorem dX8_count_89 : decode cX8_count 89 = .ok (.ireturn, 1) := by decide +kernel
theorem dX8_count_90 : decode cX8_count 90 = .ok (.iconst (-1), 1) := by decide +kernel
theorem dX8_count_91 : decode cX8_count 91 = .ok (.ireturn, 1) := by decide +kernel
def f_X8_count (kn : Int32) (s_sv : (Nat → Int32)) (i_len : Int32) (p_len : Int32) (u_len : Int32) (x1 : Int32) : Int32 := (if x1 = 0 then ((f_X5_get s_sv x1)) else (if x1 = 1 then ((f_X5_get s_sv x1)) else (if x1 = 2 then ((f_X5_get s_sv x1)) else (if x1 = 3 then ((f_X5_get s_sv x1)) else (if x1 = 4 then ((f_X5_get s_sv x1)) else (if x1 = 5 then ((f_X0_length i_len)) else (if x1 = 6 then ((f_X0_length p_len)) else (if x1 = 7 then ((f_X0_length u_len)) else (if x1 = 8 then (kn) else ((-1 : Int32)))))))))))
set_option maxHeartbeats 4000000 in
set_option maxRecDepth 100000 in
theorem c_X8_count (l : Launch) (D : va_G) (cI : ClassId) (q : Nat) (qs : Nat) (qr : Nat) (qi : Nat) (qp : Nat) (qu : Nat) (qk : Nat) (qq : Nat) (q1 : Nat) (q2 : Nat) (qsr : Nat) (qsa : Nat) (qir : Nat) (qia : Nat) (qpr : Nat) (qpa : Nat) (qur : Nat) (qua : Nat) (kn : Int32) (s_sv : (Nat → Int32)) (i_room : Int32) (i_len : Int32) (i_bs : (Nat → Int32)) (p_room : Int32) (p_len : Int32) (p_bs : (Nat → Int32)) (u_room : Int32) (u_len : Int32) (u_bs : (Nat → Int32)) (x1 : Int32) (r : Int32) (hf : f_X8_count kn s_sv i_len p_len u_len x1 = r) : Met l yX8_count (.code yX8_count cX8_count 2 (some .int) :: wsG) ({ frames := 2, cells := 0, slots := 0, locals := 42 }) (va_Pc [.ref q, .int x1] (gw D cI [(q, .inr (8, [.ref qs, .ref qr, .ref qi, .ref qp, .ref qu, .ref qk, .ref qq, .ref q1, .ref q2, .int kn])), (qs, .inr (5, [.ref qsr])), (qsr, .inr (4, [.ref qsa])), (qsa, .inl (cI, 5, .inl s_sv)), (qi, .inr (0, [.ref qir, .int i_room, .int i_len])), (qir, .inr (4, [.ref qia])), (qia, .inl (cI, 60, .inl i_bs)), (qp, .inr (0, [.ref qpr, .int p_room, .int p_len])), (qpr, .inr (4, [.ref qpa])), (qpa, .inl (cI, 1924, .inl p_bs)), (qu, .inr (0, [.ref qur, .int u_room, .int u_len])), (qur, .inr (4, [.ref qua])), (qua, .inl (cI, 60, .inl u_bs))])) (vp_Si (fun x => x = r)) 0 0 (fun _ => False) := by
  refine k_ro (by decide) rfl (Nat.le_of_ble_eq_true rfl) rfl ?_
  intro p e s m below meth c ls S hret hloc hK hN hSF hP hl
  obtain ⟨hx, hb, hml, hown, hts⟩ := id S
  unfold f_X8_count at hf
  refine lv_iload_n hx hb dX8_count_0 rfl (lv_at hl 1 rfl) ?_
  by_cases w_1 : x1 = 0
  · rw [if_pos w_1] at hf
    refine lv_tableIn (tgt := 52) hx hb dX8_count_1 (by rw [w_1]; decide) (by rw [w_1]; decide) (by rw [w_1]; rfl) (by decide) ?_
    refine lv_aload_n hx hb dX8_count_52 rfl (lv_at hl 0 rfl) ?_
    refine va_get (D := D) (ci := 8) (v := .ref qs) (C := RX8) (T := TX8) (N := 10) hx hb hts inGX8 hown hK hP 0 rfl rfl 0 (by decide) (hts _ fl_X8_12) (fun _ h9 => h9) rfl dX8_count_53 ?_
    refine lv_iload_n hx hb dX8_count_56 rfl (lv_at hl 1 rfl) ?_
    refine k_roVi (As := [.int x1]) (rest := []) S (c_X5_get l D cI (q := qs) (qr := qsr) (qa := qsa) (sv := s_sv) (x1 := x1)  (r := (f_X5_get s_sv x1)) (hf := rfl)) gs_X8_74 ok_X5_get ⟨rfl, rfl⟩ ⟨Nat.le_of_ble_eq_true rfl, Nat.le_of_ble_eq_true rfl⟩ hK hN hSF (hP.sub [1, 2, 3] rfl) rfl rfl rfl hl.1 rfl (Nat.le_of_ble_eq_true rfl) ⟨Nat.zero_le _, Nat.zero_le _⟩ dX8_count_57 ?_
    exact k_reti hx hb hret hloc hf dX8_count_60
  rw [if_neg w_1] at hf
  by_cases w_2 : x1 = 1
  · rw [if_pos w_2] at hf
    refine lv_tableIn (tgt := 52) hx hb dX8_count_1 (by rw [w_2]; decide) (by rw [w_2]; decide) (by rw [w_2]; rfl) (by decide) ?_
    refine lv_aload_n hx hb dX8_count_52 rfl (lv_at hl 0 rfl) ?_
    refine va_get (D := D) (ci := 8) (v := .ref qs) (C := RX8) (T := TX8) (N := 10) hx hb hts inGX8 hown hK hP 0 rfl rfl 0 (by decide) (hts _ fl_X8_12) (fun _ h9 => h9) rfl dX8_count_53 ?_
    refine lv_iload_n hx hb dX8_count_56 rfl (lv_at hl 1 rfl) ?_
    refine k_roVi (As := [.int x1]) (rest := []) S (c_X5_get l D cI (q := qs) (qr := qsr) (qa := qsa) (sv := s_sv) (x1 := x1)  (r := (f_X5_get s_sv x1)) (hf := rfl)) gs_X8_74 ok_X5_get ⟨rfl, rfl⟩ ⟨Nat.le_of_ble_eq_true rfl, Nat.le_of_ble_eq_true rfl⟩ hK hN hSF (hP.sub [1, 2, 3] rfl) rfl rfl rfl hl.1 rfl (Nat.le_of_ble_eq_true rfl) ⟨Nat.zero_le _, Nat.zero_le _⟩ dX8_count_57 ?_
    exact k_reti hx hb hret hloc hf dX8_count_60
  rw [if_neg w_2] at hf
  by_cases w_3 : x1 = 2
  · rw [if_pos w_3] at hf
    refine lv_tableIn (tgt := 52) hx hb dX8_count_1 (by rw [w_3]; decide) (by rw [w_3]; decide) (by rw [w_3]; rfl) (by decide) ?_
    refine lv_aload_n hx hb dX8_count_52 rfl (lv_at hl 0 rfl) ?_
    refine va_get (D := D) (ci := 8) (v := .ref qs) (C := RX8) (T := TX8) (N := 10) hx hb hts inGX8 hown hK hP 0 rfl rfl 0 (by decide) (hts _ fl_X8_12) (fun _ h9 => h9) rfl dX8_count_53 ?_
    refine lv_iload_n hx hb dX8_count_56 rfl (lv_at hl 1 rfl) ?_
    refine k_roVi (As := [.int x1]) (rest := []) S (c_X5_get l D cI (q := qs) (qr := qsr) (qa := qsa) (sv := s_sv) (x1 := x1)  (r := (f_X5_get s_sv x1)) (hf := rfl)) gs_X8_74 ok_X5_get ⟨rfl, rfl⟩ ⟨Nat.le_of_ble_eq_true rfl, Nat.le_of_ble_eq_true rfl⟩ hK hN hSF (hP.sub [1, 2, 3] rfl) rfl rfl rfl hl.1 rfl (Nat.le_of_ble_eq_true rfl) ⟨Nat.zero_le _, Nat.zero_le _⟩ dX8_count_57 ?_
    exact k_reti hx hb hret hloc hf dX8_count_60
  rw [if_neg w_3] at hf
  by_cases w_4 : x1 = 3
  · rw [if_pos w_4] at hf
    refine lv_tableIn (tgt := 52) hx hb dX8_count_1 (by rw [w_4]; decide) (by rw [w_4]; decide) (by rw [w_4]; rfl) (by decide) ?_
    refine lv_aload_n hx hb dX8_count_52 rfl (lv_at hl 0 rfl) ?_
    refine va_get (D := D) (ci := 8) (v := .ref qs) (C := RX8) (T := TX8) (N := 10) hx hb hts inGX8 hown hK hP 0 rfl rfl 0 (by decide) (hts _ fl_X8_12) (fun _ h9 => h9) rfl dX8_count_53 ?_
    refine lv_iload_n hx hb dX8_count_56 rfl (lv_at hl 1 rfl) ?_
    refine k_roVi (As := [.int x1]) (rest := []) S (c_X5_get l D cI (q := qs) (qr := qsr) (qa := qsa) (sv := s_sv) (x1 := x1)  (r := (f_X5_get s_sv x1)) (hf := rfl)) gs_X8_74 ok_X5_get ⟨rfl, rfl⟩ ⟨Nat.le_of_ble_eq_true rfl, Nat.le_of_ble_eq_true rfl⟩ hK hN hSF (hP.sub [1, 2, 3] rfl) rfl rfl rfl hl.1 rfl (Nat.le_of_ble_eq_true rfl) ⟨Nat.zero_le _, Nat.zero_le _⟩ dX8_count_57 ?_
    exact k_reti hx hb hret hloc hf dX8_count_60
  rw [if_neg w_4] at hf
  by_cases w_5 : x1 = 4
  · rw [if_pos w_5] at hf
    refine lv_tableIn (tgt := 52) hx hb dX8_count_1 (by rw [w_5]; decide) (by rw [w_5]; decide) (by rw [w_5]; rfl) (by decide) ?_
    refine lv_aload_n hx hb dX8_count_52 rfl (lv_at hl 0 rfl) ?_
    refine va_get (D := D) (ci := 8) (v := .ref qs) (C := RX8) (T := TX8) (N := 10) hx hb hts inGX8 hown hK hP 0 rfl rfl 0 (by decide) (hts _ fl_X8_12) (fun _ h9 => h9) rfl dX8_count_53 ?_
    refine lv_iload_n hx hb dX8_count_56 rfl (lv_at hl 1 rfl) ?_
    refine k_roVi (As := [.int x1]) (rest := []) S (c_X5_get l D cI (q := qs) (qr := qsr) (qa := qsa) (sv := s_sv) (x1 := x1)  (r := (f_X5_get s_sv x1)) (hf := rfl)) gs_X8_74 ok_X5_get ⟨rfl, rfl⟩ ⟨Nat.le_of_ble_eq_true rfl, Nat.le_of_ble_eq_true rfl⟩ hK hN hSF (hP.sub [1, 2, 3] rfl) rfl rfl rfl hl.1 rfl (Nat.le_of_ble_eq_true rfl) ⟨Nat.zero_le _, Nat.zero_le _⟩ dX8_count_57 ?_
    exact k_reti hx hb hret hloc hf dX8_count_60
  rw [if_neg w_5] at hf
  by_cases w_6 : x1 = 5
  · rw [if_pos w_6] at hf
    refine lv_tableIn (tgt := 61) hx hb dX8_count_1 (by rw [w_6]; decide) (by rw [w_6]; decide) (by rw [w_6]; rfl) (by decide) ?_
    refine lv_aload_n hx hb dX8_count_61 rfl (lv_at hl 0 rfl) ?_
    refine va_get (D := D) (ci := 8) (v := .ref qi) (C := RX8) (T := TX8) (N := 10) hx hb hts inGX8 hown hK hP 0 rfl rfl 2 (by decide) (hts _ fl_X8_30) (fun _ h9 => h9) rfl dX8_count_62 ?_
    refine k_roVi (As := []) (rest := []) S (c_X0_length l D cI (q := qi) (qr := qir) (qa := qia) (n := 60) (room := i_room) (len := i_len) (bs := i_bs) (hn := by decide) (r := (f_X0_length i_len)) (hf := rfl)) gs_X8_92 ok_X0_length ⟨rfl, rfl⟩ ⟨Nat.le_of_ble_eq_true rfl, Nat.le_of_ble_eq_true rfl⟩ hK hN hSF (hP.sub [4, 5, 6] rfl) rfl rfl rfl hl.1 rfl (Nat.le_of_ble_eq_true rfl) ⟨Nat.zero_le _, Nat.zero_le _⟩ dX8_count_65 ?_
    exact k_reti hx hb hret hloc hf dX8_count_68
  rw [if_neg w_6] at hf
  by_cases w_7 : x1 = 6
  · rw [if_pos w_7] at hf
    refine lv_tableIn (tgt := 69) hx hb dX8_count_1 (by rw [w_7]; decide) (by rw [w_7]; decide) (by rw [w_7]; rfl) (by decide) ?_
    refine lv_aload_n hx hb dX8_count_69 rfl (lv_at hl 0 rfl) ?_
    refine va_get (D := D) (ci := 8) (v := .ref qp) (C := RX8) (T := TX8) (N := 10) hx hb hts inGX8 hown hK hP 0 rfl rfl 3 (by decide) (hts _ fl_X8_34) (fun _ h9 => h9) rfl dX8_count_70 ?_
    refine k_roVi (As := []) (rest := []) S (c_X0_length l D cI (q := qp) (qr := qpr) (qa := qpa) (n := 1924) (room := p_room) (len := p_len) (bs := p_bs) (hn := by decide) (r := (f_X0_length p_len)) (hf := rfl)) gs_X8_92 ok_X0_length ⟨rfl, rfl⟩ ⟨Nat.le_of_ble_eq_true rfl, Nat.le_of_ble_eq_true rfl⟩ hK hN hSF (hP.sub [7, 8, 9] rfl) rfl rfl rfl hl.1 rfl (Nat.le_of_ble_eq_true rfl) ⟨Nat.zero_le _, Nat.zero_le _⟩ dX8_count_73 ?_
    exact k_reti hx hb hret hloc hf dX8_count_76
  rw [if_neg w_7] at hf
  by_cases w_8 : x1 = 7
  · rw [if_pos w_8] at hf
    refine lv_tableIn (tgt := 77) hx hb dX8_count_1 (by rw [w_8]; decide) (by rw [w_8]; decide) (by rw [w_8]; rfl) (by decide) ?_
    refine lv_aload_n hx hb dX8_count_77 rfl (lv_at hl 0 rfl) ?_
    refine va_get (D := D) (ci := 8) (v := .ref qu) (C := RX8) (T := TX8) (N := 10) hx hb hts inGX8 hown hK hP 0 rfl rfl 4 (by decide) (hts _ fl_X8_37) (fun _ h9 => h9) rfl dX8_count_78 ?_
    refine k_roVi (As := []) (rest := []) S (c_X0_length l D cI (q := qu) (qr := qur) (qa := qua) (n := 60) (room := u_room) (len := u_len) (bs := u_bs) (hn := by decide) (r := (f_X0_length u_len)) (hf := rfl)) gs_X8_92 ok_X0_length ⟨rfl, rfl⟩ ⟨Nat.le_of_ble_eq_true rfl, Nat.le_of_ble_eq_true rfl⟩ hK hN hSF (hP.sub [10, 11, 12] rfl) rfl rfl rfl hl.1 rfl (Nat.le_of_ble_eq_true rfl) ⟨Nat.zero_le _, Nat.zero_le _⟩ dX8_count_81 ?_
    exact k_reti hx hb hret hloc hf dX8_count_84
  rw [if_neg w_8] at hf
  by_cases w_9 : x1 = 8
  · rw [if_pos w_9] at hf
    refine lv_tableIn (tgt := 85) hx hb dX8_count_1 (by rw [w_9]; decide) (by rw [w_9]; decide) (by rw [w_9]; rfl) (by decide) ?_
    refine lv_aload_n hx hb dX8_count_85 rfl (lv_at hl 0 rfl) ?_
    refine va_get (D := D) (ci := 8) (v := .int kn) (C := RX8) (T := TX8) (N := 10) hx hb hts inGX8 hown hK hP 0 rfl rfl 9 (by decide) (hts _ fl_X8_66) (fun _ h9 => h9) rfl dX8_count_86 ?_
    exact k_reti hx hb hret hloc hf dX8_count_89
  rw [if_neg w_9] at hf
  refine lv_tableOut (tgt := 90) hx hb dX8_count_1 (tsw_9 w_1 w_2 w_3 w_4 w_5 w_6 w_7 w_8 w_9) (by decide) ?_
  refine lv_iconst (v := (-1)) hx hb dX8_count_90 (by decide) ?_
  exact k_reti hx hb hret hloc hf dX8_count_91
