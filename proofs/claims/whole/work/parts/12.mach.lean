theorem dX2_countBy_0 : decode cX2_countBy 0 = .ok (.aload_n 0, 1) := by decide +kernel
theorem dX2_countBy_1 : decode cX2_countBy 1 = .ok (.getfield 14, 3) := by decide +kernel
theorem dX2_countBy_4 : decode cX2_countBy 4 = .ok (.iload_n 1, 1) := by decide +kernel
theorem dX2_countBy_5 : decode cX2_countBy 5 = .ok (.iload_n 2, 1) := by decide +kernel
theorem dX2_countBy_6 : decode cX2_countBy 6 = .ok (.invokestatic 67, 3) := by decide +kernel
theorem dX2_countBy_9 : decode cX2_countBy 9 = .ok (.invokevirtual 79, 3) := by decide +kernel
theorem dX2_countBy_12 : decode cX2_countBy 12 = .ok (.ireturn, 1) := by decide +kernel
theorem ok_X2_path : okS yX2_path 2 := by decide +kernel
theorem gs_X2_67 : GoodIn wsG (va_wsS RX2 67 yX2_path (.code yX2_path cX2_path 2 (some .int) :: wsG)) := good_S ml_X2_67 st_X2_path ini_X2 co_X2_path
theorem gs_X2_79 : GoodIn wsG (wsV RX2 79 RX4 yX4_get (.code yX4_get cX4_get 2 (some .int) :: wsG)) := good_V ml_X2_79 im_X4_get se_X4_get ini_X4 co_X4_get
def f_X2_countBy (cn : (Nat → Int32)) (x1 : Int32) (x2 : Int32) : Int32 := (f_X4_get 500 cn (f_X2_path x1 x2))
set_option maxHeartbeats 4000000 in
set_option maxRecDepth 100000 in
theorem c_X2_countBy (l : Launch) (D : va_G) (cI : ClassId) (q : Nat) (qs : Nat) (qc : Nat) (qn : Nat) (qo : Nat) (ql : Nat) (qf : Nat) (qca : Nat) (qna : Nat) (qoa : Nat) (qla : Nat) (qfa : Nat) (qsr : Nat) (qsa : Nat) (st : Int32) (he : Int32) (ta : Int32) (cl : Int32) (dr : Int32) (cn : (Nat → Int32)) (nx : (Nat → Int32)) (og : (Nat → Int32)) (li : (Nat → Int32)) (fl : (Nat → Int32)) (sv : (Nat → Int32)) (x1 : Int32) (x2 : Int32) (r : Int32) (hf : f_X2_countBy cn x1 x2 = r) : Met l yX2_countBy (.code yX2_countBy cX2_countBy 3 (some .int) :: wsG) ({ frames := 1, cells := 0, slots := 0, locals := 21 }) (va_Pc [.ref q, .int x1, .int x2] (gw D cI [(q, .inr (2, [.ref qs, .ref qc, .ref qn, .ref qo, .ref ql, .ref qf, .int st, .int he, .int ta, .int cl, .int dr])), (qc, .inr (4, [.ref qca])), (qca, .inl (cI, 500, .inl cn)), (qn, .inr (4, [.ref qna])), (qna, .inl (cI, 500, .inl nx)), (qo, .inr (4, [.ref qoa])), (qoa, .inl (cI, 250, .inl og)), (ql, .inr (4, [.ref qla])), (qla, .inl (cI, 250, .inl li)), (qf, .inr (4, [.ref qfa])), (qfa, .inl (cI, 250, .inl fl)), (qs, .inr (5, [.ref qsr])), (qsr, .inr (4, [.ref qsa])), (qsa, .inl (cI, 5, .inl sv))])) (vp_Si (fun x => x = r)) 0 0 (fun _ => False) := by
  refine k_ro (by decide) rfl (Nat.le_of_ble_eq_true rfl) rfl ?_
  intro p e s m below meth c ls S hret hloc hK hN hSF hP hl
  obtain ⟨hx, hb, hml, hown, hts⟩ := id S
  unfold f_X2_countBy at hf
  refine lv_aload_n hx hb dX2_countBy_0 rfl (lv_at hl 0 rfl) ?_
  refine va_get (D := D) (ci := 2) (v := .ref qc) (C := RX2) (T := TX2) (N := 11) hx hb hts inGX2 hown hK hP 0 rfl rfl 1 (by decide) (hts _ fl_X2_14) (fun _ h9 => h9) rfl dX2_countBy_1 ?_
  refine lv_iload_n hx hb dX2_countBy_4 rfl (lv_at hl 1 rfl) ?_
  refine lv_iload_n hx hb dX2_countBy_5 rfl (lv_at hl 2 rfl) ?_
  refine k_roSi (As := [.int x1, .int x2]) (rest := [.ref qc]) S (c_X2_path l D cI (x1 := x1) (x2 := x2)  (r := (f_X2_path x1 x2)) (hf := rfl)) gs_X2_67 ok_X2_path ⟨rfl, rfl⟩ ⟨Nat.le_of_ble_eq_true rfl, Nat.le_of_ble_eq_true rfl⟩ hK hN hSF (hP.sub [] rfl) rfl hl.1 rfl (Nat.le_of_ble_eq_true rfl) ⟨Nat.zero_le _, Nat.zero_le _⟩ dX2_countBy_6 ?_
  refine k_roVi (As := [.int (f_X2_path x1 x2)]) (rest := []) S (c_X4_get l D cI (q := qc) (qa := qca) (n := 500) (f := cn) (x1 := (f_X2_path x1 x2)) (hn := by decide) (r := (f_X4_get 500 cn (f_X2_path x1 x2))) (hf := rfl)) gs_X2_79 ok_X4_get ⟨rfl, rfl⟩ ⟨Nat.le_of_ble_eq_true rfl, Nat.le_of_ble_eq_true rfl⟩ hK hN hSF (hP.sub [1, 2] rfl) rfl rfl rfl hl.1 rfl (Nat.le_of_ble_eq_true rfl) ⟨Nat.zero_le _, Nat.zero_le _⟩ dX2_countBy_9 ?_
  exact k_reti hx hb hret hloc hf dX2_countBy_12
theorem dX2_nextBy_0 : decode cX2_nextBy 0 = .ok (.aload_n 0, 1) := by decide +kernel
theorem dX2_nextBy_1 : decode cX2_nextBy 1 = .ok (.getfield 20, 3) := by decide +kernel
theorem dX2_nextBy_4 : decode cX2_nextBy 4 = .ok (.iload_n 1, 1) := by decide +kernel
theorem dX2_nextBy_5 : decode cX2_nextBy 5 = .ok (.iload_n 2, 1) := by decide +kernel
theorem dX2_nextBy_6 : decode cX2_nextBy 6 = .ok (.invokestatic 67, 3) := by decide +kernel
theorem dX2_nextBy_9 : decode cX2_nextBy 9 = .ok (.invokevirtual 79, 3) := by decide +kernel
theorem dX2_nextBy_12 : decode cX2_nextBy 12 = .ok (.ireturn, 1) := by decide +kernel
def f_X2_nextBy (nx : (Nat → Int32)) (x1 : Int32) (x2 : Int32) : Int32 := (f_X4_get 500 nx (f_X2_path x1 x2))
set_option maxHeartbeats 4000000 in
set_option maxRecDepth 100000 in
theorem c_X2_nextBy (l : Launch) (D : va_G) (cI : ClassId) (q : Nat) (qs : Nat) (qc : Nat) (qn : Nat) (qo : Nat) (ql : Nat) (qf : Nat) (qca : Nat) (qna : Nat) (qoa : Nat) (qla : Nat) (qfa : Nat) (qsr : Nat) (qsa : Nat) (st : Int32) (he : Int32) (ta : Int32) (cl : Int32) (dr : Int32) (cn : (Nat → Int32)) (nx : (Nat → Int32)) (og : (Nat → Int32)) (li : (Nat → Int32)) (fl : (Nat → Int32)) (sv : (Nat → Int32)) (x1 : Int32) (x2 : Int32) (r : Int32) (hf : f_X2_nextBy nx x1 x2 = r) : Met l yX2_nextBy (.code yX2_nextBy cX2_nextBy 3 (some .int) :: wsG) ({ frames := 1, cells := 0, slots := 0, locals := 21 }) (va_Pc [.ref q, .int x1, .int x2] (gw D cI [(q, .inr (2, [.ref qs, .ref qc, .ref qn, .ref qo, .ref ql, .ref qf, .int st, .int he, .int ta, .int cl, .int dr])), (qc, .inr (4, [.ref qca])), (qca, .inl (cI, 500, .inl cn)), (qn, .inr (4, [.ref qna])), (qna, .inl (cI, 500, .inl nx)), (qo, .inr (4, [.ref qoa])), (qoa, .inl (cI, 250, .inl og)), (ql, .inr (4, [.ref qla])), (qla, .inl (cI, 250, .inl li)), (qf, .inr (4, [.ref qfa])), (qfa, .inl (cI, 250, .inl fl)), (qs, .inr (5, [.ref qsr])), (qsr, .inr (4, [.ref qsa])), (qsa, .inl (cI, 5, .inl sv))])) (vp_Si (fun x => x = r)) 0 0 (fun _ => False) := by
  refine k_ro (by decide) rfl (Nat.le_of_ble_eq_true rfl) rfl ?_
  intro p e s m below meth c ls S hret hloc hK hN hSF hP hl
  obtain ⟨hx, hb, hml, hown, hts⟩ := id S
  unfold f_X2_nextBy at hf
  refine lv_aload_n hx hb dX2_nextBy_0 rfl (lv_at hl 0 rfl) ?_
  refine va_get (D := D) (ci := 2) (v := .ref qn) (C := RX2) (T := TX2) (N := 11) hx hb hts inGX2 hown hK hP 0 rfl rfl 2 (by decide) (hts _ fl_X2_20) (fun _ h9 => h9) rfl dX2_nextBy_1 ?_
  refine lv_iload_n hx hb dX2_nextBy_4 rfl (lv_at hl 1 rfl) ?_
  refine lv_iload_n hx hb dX2_nextBy_5 rfl (lv_at hl 2 rfl) ?_
  refine k_roSi (As := [.int x1, .int x2]) (rest := [.ref qn]) S (c_X2_path l D cI (x1 := x1) (x2 := x2)  (r := (f_X2_path x1 x2)) (hf := rfl)) gs_X2_67 ok_X2_path ⟨rfl, rfl⟩ ⟨Nat.le_of_ble_eq_true rfl, Nat.le_of_ble_eq_true rfl⟩ hK hN hSF (hP.sub [] rfl) rfl hl.1 rfl (Nat.le_of_ble_eq_true rfl) ⟨Nat.zero_le _, Nat.zero_le _⟩ dX2_nextBy_6 ?_
  refine k_roVi (As := [.int (f_X2_path x1 x2)]) (rest := []) S (c_X4_get l D cI (q := qn) (qa := qna) (n := 500) (f := nx) (x1 := (f_X2_path x1 x2)) (hn := by decide) (r := (f_X4_get 500 nx (f_X2_path x1 x2))) (hf := rfl)) gs_X2_79 ok_X4_get ⟨rfl, rfl⟩ ⟨Nat.le_of_ble_eq_true rfl, Nat.le_of_ble_eq_true rfl⟩ hK hN hSF (hP.sub [3, 4] rfl) rfl rfl rfl hl.1 rfl (Nat.le_of_ble_eq_true rfl) ⟨Nat.zero_le _, Nat.zero_le _⟩ dX2_nextBy_9 ?_
  exact k_reti hx hb hret hloc hf dX2_nextBy_12
theorem dX2_lineOf_0 : decode cX2_lineOf 0 = .ok (.aload_n 0, 1) := by decide +kernel
theorem dX2_lineOf_1 : decode cX2_lineOf 1 = .ok (.getfield 26, 3) := by decide +kernel
theorem dX2_lineOf_4 : decode cX2_lineOf 4 = .ok (.iload_n 1, 1) := by decide +kernel
theorem dX2_lineOf_5 : decode cX2_lineOf 5 = .ok (.invokevirtual 79, 3) := by decide +kernel
theorem dX2_lineOf_8 : decode cX2_lineOf 8 = .ok (.ireturn, 1) := by decide +kernel
def f_X2_lineOf (li : (Nat → Int32)) (x1 : Int32) : Int32 := (f_X4_get 250 li x1)
set_option maxHeartbeats 4000000 in
set_option maxRecDepth 100000 in
theorem c_X2_lineOf (l : Launch) (D : va_G) (cI : ClassId) (q : Nat) (qs : Nat) (qc : Nat) (qn : Nat) (qo : Nat) (ql : Nat) (qf : Nat) (qca : Nat) (qna : Nat) (qoa : Nat) (qla : Nat) (qfa : Nat) (qsr : Nat) (qsa : Nat) (st : Int32) (he : Int32) (ta : Int32) (cl : Int32) (dr : Int32) (cn : (Nat → Int32)) (nx : (Nat → Int32)) (og : (Nat → Int32)) (li : (Nat → Int32)) (fl : (Nat → Int32)) (sv : (Nat → Int32)) (x1 : Int32) (r : Int32) (hf : f_X2_lineOf li x1 = r) : Met l yX2_lineOf (.code yX2_lineOf cX2_lineOf 2 (some .int) :: wsG) ({ frames := 1, cells := 0, slots := 0, locals := 21 }) (va_Pc [.ref q, .int x1] (gw D cI [(q, .inr (2, [.ref qs, .ref qc, .ref qn, .ref qo, .ref ql, .ref qf, .int st, .int he, .int ta, .int cl, .int dr])), (qc, .inr (4, [.ref qca])), (qca, .inl (cI, 500, .inl cn)), (qn, .inr (4, [.ref qna])), (qna, .inl (cI, 500, .inl nx)), (qo, .inr (4, [.ref qoa])), (qoa, .inl (cI, 250, .inl og)), (ql, .inr (4, [.ref qla])), (qla, .inl (cI, 250, .inl li)), (qf, .inr (4, [.ref qfa])), (qfa, .inl (cI, 250, .inl fl)), (qs, .inr (5, [.ref qsr])), (qsr, .inr (4, [.ref qsa])), (qsa, .inl (cI, 5, .inl sv))])) (vp_Si (fun x => x = r)) 0 0 (fun _ => False) := by
  refine k_ro (by decide) rfl (Nat.le_of_ble_eq_true rfl) rfl ?_
  intro p e s m below meth c ls S hret hloc hK hN hSF hP hl
  obtain ⟨hx, hb, hml, hown, hts⟩ := id S
  unfold f_X2_lineOf at hf
  refine lv_aload_n hx hb dX2_lineOf_0 rfl (lv_at hl 0 rfl) ?_
  refine va_get (D := D) (ci := 2) (v := .ref ql) (C := RX2) (T := TX2) (N := 11) hx hb hts inGX2 hown hK hP 0 rfl rfl 4 (by decide) (hts _ fl_X2_26) (fun _ h9 => h9) rfl dX2_lineOf_1 ?_
  refine lv_iload_n hx hb dX2_lineOf_4 rfl (lv_at hl 1 rfl) ?_
  refine k_roVi (As := [.int x1]) (rest := []) S (c_X4_get l D cI (q := ql) (qa := qla) (n := 250) (f := li) (x1 := x1) (hn := by decide) (r := (f_X4_get 250 li x1)) (hf := rfl)) gs_X2_79 ok_X4_get ⟨rfl, rfl⟩ ⟨Nat.le_of_ble_eq_true rfl, Nat.le_of_ble_eq_true rfl⟩ hK hN hSF (hP.sub [7, 8] rfl) rfl rfl rfl hl.1 rfl (Nat.le_of_ble_eq_true rfl) ⟨Nat.zero_le _, Nat.zero_le _⟩ dX2_lineOf_5 ?_
  exact k_reti hx hb hret hloc hf dX2_lineOf_8
theorem dX2_originOf_0 : decode cX2_originOf 0 = .ok (.aload_n 0, 1) := by decide +kernel
theorem dX2_originOf_1 : decode cX2_originOf 1 = .ok (.getfield 23, 3) := by decide +kernel
theorem dX2_originOf_4 : decode cX2_originOf 4 = .ok (.iload_n 1, 1) := by decide +kernel
theorem dX2_originOf_5 : decode cX2_originOf 5 = .ok (.invokevirtual 79, 3) := by decide +kernel
theorem dX2_originOf_8 : decode cX2_originOf 8 = .ok (.ireturn, 1) := by decide +kernel
def f_X2_originOf (og : (Nat → Int32)) (x1 : Int32) : Int32 := (f_X4_get 250 og x1)
set_option maxHeartbeats 4000000 in
set_option maxRecDepth 100000 in
theorem c_X2_originOf (l : Launch) (D : va_G) (cI : ClassId) (q : Nat) (qs : Nat) (qc : Nat) (qn : Nat) (qo : Nat) (ql : Nat) (qf : Nat) (qca : Nat) (qna : Nat) (qoa : Nat) (qla : Nat) (qfa : Nat) (qsr : Nat) (qsa : Nat) (st : Int32) (he : Int32) (ta : Int32) (cl : Int32) (dr : Int32) (cn : (Nat → Int32)) (nx : (Nat → Int32)) (og : (Nat → Int32)) (li : (Nat → Int32)) (fl : (Nat → Int32)) (sv : (Nat → Int32)) (x1 : Int32) (r : Int32) (hf : f_X2_originOf og x1 = r) : Met l yX2_originOf (.code yX2_originOf cX2_originOf 2 (some .int) :: wsG) ({ frames := 1, cells := 0, slots := 0, locals := 21 }) (va_Pc [.ref q, .int x1] (gw D cI [(q, .inr (2, [.ref qs, .ref qc, .ref qn, .ref qo, .ref ql, .ref qf, .int st, .int he, .int ta, .int cl, .int dr])), (qc, .inr (4, [.ref qca])), (qca, .inl (cI, 500, .inl cn)), (qn, .inr (4, [.ref qna])), (qna, .inl (cI, 500, .inl nx)), (qo, .inr (4, [.ref qoa])), (qoa, .inl (cI, 250, .inl og)), (ql, .inr (4, [.ref qla])), (qla, .inl (cI, 250, .inl li)), (qf, .inr (4, [.ref qfa])), (qfa, .inl (cI, 250, .inl fl)), (qs, .inr (5, [.ref qsr])), (qsr, .inr (4, [.ref qsa])), (qsa, .inl (cI, 5, .inl sv))])) (vp_Si (fun x => x = r)) 0 0 (fun _ => False) := by
  refine k_ro (by decide) rfl (Nat.le_of_ble_eq_true rfl) rfl ?_
  intro p e s m below meth c ls S hret hloc hK hN hSF hP hl
  obtain ⟨hx, hb, hml, hown, hts⟩ := id S
  unfold f_X2_originOf at hf
  refine lv_aload_n hx hb dX2_originOf_0 rfl (lv_at hl 0 rfl) ?_
  refine va_get (D := D) (ci := 2) (v := .ref qo) (C := RX2) (T := TX2) (N := 11) hx hb hts inGX2 hown hK hP 0 rfl rfl 3 (by decide) (hts _ fl_X2_23) (fun _ h9 => h9) rfl dX2_originOf_1 ?_
  refine lv_iload_n hx hb dX2_originOf_4 rfl (lv_at hl 1 rfl) ?_
  refine k_roVi (As := [.int x1]) (rest := []) S (c_X4_get l D cI (q := qo) (qa := qoa) (n := 250) (f := og) (x1 := x1) (hn := by decide) (r := (f_X4_get 250 og x1)) (hf := rfl)) gs_X2_79 ok_X4_get ⟨rfl, rfl⟩ ⟨Nat.le_of_ble_eq_true rfl, Nat.le_of_ble_eq_true rfl⟩ hK hN hSF (hP.sub [5, 6] rfl) rfl rfl rfl hl.1 rfl (Nat.le_of_ble_eq_true rfl) ⟨Nat.zero_le _, Nat.zero_le _⟩ dX2_originOf_5 ?_
  exact k_reti hx hb hret hloc hf dX2_originOf_8
theorem dX2_bothCounts_0 : decode cX2_bothCounts 0 = .ok (.aload_n 0, 1) := by decide +kernel
theorem dX2_bothCounts_1 : decode cX2_bothCounts 1 = .ok (.iload_n 1, 1) := by decide +kernel
theorem dX2_bothCounts_2 : decode cX2_bothCounts 2 = .ok (.iconst 0, 1) := by decide +kernel
theorem dX2_bothCounts_3 : decode cX2_bothCounts 3 = .ok (.invokevirtual 90, 3) := by decide +kernel
theorem dX2_bothCounts_6 : decode cX2_bothCounts 6 = .ok (.aload_n 0, 1) := by decide +kernel
theorem dX2_bothCounts_7 : decode cX2_bothCounts 7 = .ok (.iload_n 1, 1) := by decide +kernel
theorem dX2_bothCounts_8 : decode cX2_bothCounts 8 = .ok (.iconst 1, 1) := by decide +kernel
theorem dX2_bothCounts_9 : decode cX2_bothCounts 9 = .ok (.invokevirtual 90, 3) := by decide +kernel
theorem dX2_bothCounts_12 : decode cX2_bothCounts 12 = .ok (.iadd, 1) := by decide +kernel
theorem dX2_bothCounts_13 : decode cX2_bothCounts 13 = .ok (.ireturn, 1) := by decide +kernel
theorem ok_X2_countBy : okV yX2_countBy RX2 2 := by decide +kernel
theorem gs_X2_90 : GoodIn wsG (wsV RX2 90 RX2 yX2_countBy (.code yX2_countBy cX2_countBy 3 (some .int) :: wsG)) := good_V ml_X2_90 im_X2_countBy se_X2_countBy ini_X2 co_X2_countBy
def f_X2_bothCounts (cn : (Nat → Int32)) (x1 : Int32) : Int32 := (f_X2_countBy cn x1 0) + (f_X2_countBy cn x1 1)
set_option maxHeartbeats 4000000 in
set_option maxRecDepth 100000 in
theorem c_X2_bothCounts (l : Launch) (D : va_G) (cI : ClassId) (q : Nat) (qs : Nat) (qc : Nat) (qn : Nat) (qo : Nat) (ql : Nat) (qf : Nat) (qca : Nat) (qna : Nat) (qoa : Nat) (qla : Nat) (qfa : Nat) (qsr : Nat) (qsa : Nat) (st : Int32) (he : Int32) (ta : Int32) (cl : Int32) (dr : Int32) (cn : (Nat → Int32)) (nx : (Nat → Int32)) (og : (Nat → Int32)) (li : (Nat → Int32)) (fl : (Nat → Int32)) (sv : (Nat → Int32)) (x1 : Int32) (r : Int32) (hf : f_X2_bothCounts cn x1 = r) : Met l yX2_bothCounts (.code yX2_bothCounts cX2_bothCounts 2 (some .int) :: wsG) ({ frames := 2, cells := 0, slots := 0, locals := 43 }) (va_Pc [.ref q, .int x1] (gw D cI [(q, .inr (2, [.ref qs, .ref qc, .ref qn, .ref qo, .ref ql, .ref qf, .int st, .int he, .int ta, .int cl, .int dr])), (qc, .inr (4, [.ref qca])), (qca, .inl (cI, 500, .inl cn)), (qn, .inr (4, [.ref qna])), (qna, .inl (cI, 500, .inl nx)), (qo, .inr (4, [.ref qoa])), (qoa, .inl (cI, 250, .inl og)), (ql, .inr (4, [.ref qla])), (qla, .inl (cI, 250, .inl li)), (qf, .inr (4, [.ref qfa])), (qfa, .inl (cI, 250, .inl fl)), (qs, .inr (5, [.ref qsr])), (qsr, .inr (4, [.ref qsa])), (qsa, .inl (cI, 5, .inl sv))])) (vp_Si (fun x => x = r)) 0 0 (fun _ => False) := by
  refine k_ro (by decide) rfl (Nat.le_of_ble_eq_true rfl) rfl ?_
  intro p e s m below meth c ls S hret hloc hK hN hSF hP hl
  obtain ⟨hx, hb, hml, hown, hts⟩ := id S
  unfold f_X2_bothCounts at hf
  refine lv_aload_n hx hb dX2_bothCounts_0 rfl (lv_at hl 0 rfl) ?_
  refine lv_iload_n hx hb dX2_bothCounts_1 rfl (lv_at hl 1 rfl) ?_
  refine lv_iconst (v := 0) hx hb dX2_bothCounts_2 (by decide) ?_
  refine k_roVi (As := [.int x1, .int 0]) (rest := []) S (c_X2_countBy l D cI (q := q) (qs := qs) (qc := qc) (qn := qn) (qo := qo) (ql := ql) (qf := qf) (qca := qca) (qna := qna) (qoa := qoa) (qla := qla) (qfa := qfa) (qsr := qsr) (qsa := qsa) (st := st) (he := he) (ta := ta) (cl := cl) (dr := dr) (cn := cn) (nx := nx) (og := og) (li := li) (fl := fl) (sv := sv) (x1 := x1) (x2 := 0)  (r := (f_X2_countBy cn x1 0)) (hf := rfl)) gs_X2_90 ok_X2_countBy ⟨rfl, rfl⟩ ⟨Nat.le_of_ble_eq_true rfl, Nat.le_of_ble_eq_true rfl⟩ hK hN hSF hP rfl rfl rfl hl.1 rfl (Nat.le_of_ble_eq_true rfl) ⟨Nat.zero_le _, Nat.zero_le _⟩ dX2_bothCounts_3 ?_
  refine lv_aload_n hx hb dX2_bothCounts_6 rfl (lv_at hl 0 rfl) ?_
  refine lv_iload_n hx hb dX2_bothCounts_7 rfl (lv_at hl 1 rfl) ?_
  refine lv_iconst (v := 1) hx hb dX2_bothCounts_8 (by decide) ?_
  refine k_roVi (As := [.int x1, .int 1]) (rest := [.int (f_X2_countBy cn x1 0)]) S (c_X2_countBy l D cI (q := q) (qs := qs) (qc := qc) (qn := qn) (qo := qo) (ql := ql) (qf := qf) (qca := qca) (qna := qna) (qoa := qoa) (qla := qla) (qfa := qfa) (qsr := qsr) (qsa := qsa) (st := st) (he := he) (ta := ta) (cl := cl) (dr := dr) (cn := cn) (nx := nx) (og := og) (li := li) (fl := fl) (sv := sv) (x1 := x1) (x2 := 1)  (r := (f_X2_countBy cn x1 1)) (hf := rfl)) gs_X2_90 ok_X2_countBy ⟨rfl, rfl⟩ ⟨Nat.le_of_ble_eq_true rfl, Nat.le_of_ble_eq_true rfl⟩ hK hN hSF hP rfl rfl rfl hl.1 rfl (Nat.le_of_ble_eq_true rfl) ⟨Nat.zero_le _, Nat.zero_le _⟩ dX2_bothCounts_9 ?_
  refine lv_iadd hx hb dX2_bothCounts_12 ?_
  exact k_reti hx hb hret hloc hf dX2_bothCounts_13
theorem dX2_chance_0 : decode cX2_chance 0 = .ok (.ldc2_w 93, 3) := by decide +kernel
theorem dX2_chance_3 : decode cX2_chance 3 = .ok (.aload_n 0, 1) := by decide +kernel
theorem dX2_chance_4 : decode cX2_chance 4 = .ok (.iload_n 1, 1) := by decide +kernel
theorem dX2_chance_5 : decode cX2_chance 5 = .ok (.iconst 1, 1) := by decide +kernel
theorem dX2_chance_6 : decode cX2_chance 6 = .ok (.invokevirtual 90, 3) := by decide +kernel
theorem dX2_chance_9 : decode cX2_chance 9 = .ok (.i2l, 1) := by decide +kernel
theorem dX2_chance_10 : decode cX2_chance 10 = .ok (.lmul, 1) := by decide +kernel
theorem dX2_chance_11 : decode cX2_chance 11 = .ok (.lconst 1, 1) := by decide +kernel
theorem dX2_chance_12 : decode cX2_chance 12 = .ok (.ladd, 1) := by decide +kernel
theorem dX2_chance_13 : decode cX2_chance 13 = .ok (.ldc2_w 95, 3) := by decide +kernel
theorem dX2_chance_16 : decode cX2_chance 16 = .ok (.lmul, 1) := by decide +kernel
theorem dX2_chance_17 : decode cX2_chance 17 = .ok (.lstore_n 2, 1) := by decide +kernel
theorem dX2_chance_18 : decode cX2_chance 18 = .ok (.lload_n 2, 1) := by decide +kernel
theorem dX2_chance_19 : decode cX2_chance 19 = .ok (.ldc2_w 93, 3) := by decide +kernel
theorem dX2_chance_22 : decode cX2_chance 22 = .ok (.aload_n 0, 1) := by decide +kernel
theorem dX2_chance_23 : decode cX2_chance 23 = .ok (.iload_n 1, 1) := by decide +kernel
theorem dX2_chance_24 : decode cX2_chance 24 = .ok (.invokevirtual 80, 3) := by decide +kernel
theorem dX2_chance_27 : decode cX2_chance 27 = .ok (.i2l, 1) := by decide +kernel
theorem dX2_chance_28 : decode cX2_chance 28 = .ok (.lmul, 1) := by decide +kernel
theorem dX2_chance_29 : decode cX2_chance 29 = .ok (.ldc2_w 93, 3) := by decide +kernel
theorem dX2_chance_32 : decode cX2_chance 32 = .ok (.ladd, 1) := by decide +kernel
theorem dX2_chance_33 : decode cX2_chance 33 = .ok (.invokestatic 86, 3) := by decide +kernel
theorem dX2_chance_36 : decode cX2_chance 36 = .ok (.istore 4, 2) := by decide +kernel
theorem dX2_chance_38 : decode cX2_chance 38 = .ok (.iconst 1, 1) := by decide +kernel
theorem dX2_chance_39 : decode cX2_chance 39 = .ok (.sipush 4095, 3) := by decide +kernel
theorem dX2_chance_42 : decode cX2_chance 42 = .ok (.iload 4, 2) := by decide +kernel
theorem dX2_chance_44 : decode cX2_chance 44 = .ok (.invokestatic 97, 3) := by decide +kernel
theorem dX2_chance_47 : decode cX2_chance 47 = .ok (.invokestatic 102, 3) := by decide +kernel
theorem dX2_chance_50 : decode cX2_chance 50 = .ok (.ireturn, 1) := by decide +kernel
theorem ok_X2_bothCounts : okV yX2_bothCounts RX2 1 := by decide +kernel
theorem gs_X2_80 : GoodIn wsG (wsV RX2 80 RX2 yX2_bothCounts (.code yX2_bothCounts cX2_bothCounts 2 (some .int) :: wsG)) := good_V ml_X2_80 im_X2_bothCounts se_X2_bothCounts ini_X2 co_X2_bothCounts
theorem ok_X8_cutQuotient : okS yX8_cutQuotient 2 := by decide +kernel
def f_X2_chance (cn : (Nat → Int32)) (x1 : Int32) : Int32 := (if 1 < (if (f_X8_cutQuotient ((((2 : Int64) * (((f_X2_countBy cn x1 1)).toInt64)) + (1 : Int64)) * (4096 : Int64)) (((2 : Int64) * (((f_X2_bothCounts cn x1)).toInt64)) + (2 : Int64))) < 4095 then (f_X8_cutQuotient ((((2 : Int64) * (((f_X2_countBy cn x1 1)).toInt64)) + (1 : Int64)) * (4096 : Int64)) (((2 : Int64) * (((f_X2_bothCounts cn x1)).toInt64)) + (2 : Int64))) else 4095) then (if (f_X8_cutQuotient ((((2 : Int64) * (((f_X2_countBy cn x1 1)).toInt64)) + (1 : Int64)) * (4096 : Int64)) (((2 : Int64) * (((f_X2_bothCounts cn x1)).toInt64)) + (2 : Int64))) < 4095 then (f_X8_cutQuotient ((((2 : Int64) * (((f_X2_countBy cn x1 1)).toInt64)) + (1 : Int64)) * (4096 : Int64)) (((2 : Int64) * (((f_X2_bothCounts cn x1)).toInt64)) + (2 : Int64))) else 4095) else 1)
set_option maxHeartbeats 4000000 in
set_option maxRecDepth 100000 in
theorem c_X2_chance (l : Launch) (D : va_G) (cI : ClassId) (q : Nat) (qs : Nat) (qc : Nat) (qn : Nat) (qo : Nat) (ql : Nat) (qf : Nat) (qca : Nat) (qna : Nat) (qoa : Nat) (qla : Nat) (qfa : Nat) (qsr : Nat) (qsa : Nat) (st : Int32) (he : Int32) (ta : Int32) (cl : Int32) (dr : Int32) (cn : (Nat → Int32)) (nx : (Nat → Int32)) (og : (Nat → Int32)) (li : (Nat → Int32)) (fl : (Nat → Int32)) (sv : (Nat → Int32)) (x1 : Int32) (r : Int32) (hf : f_X2_chance cn x1 = r) : Met l yX2_chance (.code yX2_chance cX2_chance 5 (some .int) :: wsG) ({ frames := 3, cells := 0, slots := 0, locals := 64 }) (va_Pc [.ref q, .int x1] (gw D cI [(q, .inr (2, [.ref qs, .ref qc, .ref qn, .ref qo, .ref ql, .ref qf, .int st, .int he, .int ta, .int cl, .int dr])), (qc, .inr (4, [.ref qca])), (qca, .inl (cI, 500, .inl cn)), (qn, .inr (4, [.ref qna])), (qna, .inl (cI, 500, .inl nx)), (qo, .inr (4, [.ref qoa])), (qoa, .inl (cI, 250, .inl og)), (ql, .inr (4, [.ref qla])), (qla, .inl (cI, 250, .inl li)), (qf, .inr (4, [.ref qfa])), (qfa, .inl (cI, 250, .inl fl)), (qs, .inr (5, [.ref qsr])), (qsr, .inr (4, [.ref qsa])), (qsa, .inl (cI, 5, .inl sv))])) (vp_Si (fun x => x = r)) 0 0 (fun _ => False) := by
  refine k_ro (by decide) rfl (Nat.le_of_ble_eq_true rfl) rfl ?_
  intro p e s m below meth c ls S hret hloc hK hN hSF hP hl
  obtain ⟨hx, hb, hml, hown, hts⟩ := id S
  unfold f_X2_chance at hf
  refine lv_ldc2 (v := (2 : Int64)) hx hb hown (hts _ ck_X2_93) dX2_chance_0 ?_
  refine lv_aload_n hx hb dX2_chance_3 rfl (lv_at hl 0 rfl) ?_
  refine lv_iload_n hx hb dX2_chance_4 rfl (lv_at hl 1 rfl) ?_
  refine lv_iconst (v := 1) hx hb dX2_chance_5 (by decide) ?_
  refine k_roVi (As := [.int x1, .int 1]) (rest := [.long (2 : Int64)]) S (c_X2_countBy l D cI (q := q) (qs := qs) (qc := qc) (qn := qn) (qo := qo) (ql := ql) (qf := qf) (qca := qca) (qna := qna) (qoa := qoa) (qla := qla) (qfa := qfa) (qsr := qsr) (qsa := qsa) (st := st) (he := he) (ta := ta) (cl := cl) (dr := dr) (cn := cn) (nx := nx) (og := og) (li := li) (fl := fl) (sv := sv) (x1 := x1) (x2 := 1)  (r := (f_X2_countBy cn x1 1)) (hf := rfl)) gs_X2_90 ok_X2_countBy ⟨rfl, rfl⟩ ⟨Nat.le_of_ble_eq_true rfl, Nat.le_of_ble_eq_true rfl⟩ hK hN hSF hP rfl rfl rfl hl.1 rfl (Nat.le_of_ble_eq_true rfl) ⟨Nat.zero_le _, Nat.zero_le _⟩ dX2_chance_6 ?_
  refine lv_i2l hx hb dX2_chance_9 rfl ?_
  refine lv_lmul hx hb dX2_chance_10 ?_
  refine lv_lconst (v := 1) hx hb dX2_chance_11 (by decide) ?_
  refine lv_ladd hx hb dX2_chance_12 ?_
  refine lv_ldc2 (v := (4096 : Int64)) hx hb hown (hts _ ck_X2_95) dX2_chance_13 ?_
  refine lv_lmul hx hb dX2_chance_16 ?_
  refine lv_lstore_n (lv' := [(2, .long ((((2 : Int64) * (((f_X2_countBy cn x1 1)).toInt64)) + (1 : Int64)) * (4096 : Int64))), (0, .ref q), (1, .int x1)]) hx hb dX2_chance_17 rfl hl (by decide) rfl (fun ls hl => ?_)
  refine lv_lload_n hx hb dX2_chance_18 rfl (lv_at hl 0 rfl) ?_
  refine lv_ldc2 (v := (2 : Int64)) hx hb hown (hts _ ck_X2_93) dX2_chance_19 ?_
  refine lv_aload_n hx hb dX2_chance_22 rfl (lv_at hl 1 rfl) ?_
  refine lv_iload_n hx hb dX2_chance_23 rfl (lv_at hl 2 rfl) ?_
  refine k_roVi (As := [.int x1]) (rest := [.long (2 : Int64), .long ((((2 : Int64) * (((f_X2_countBy cn x1 1)).toInt64)) + (1 : Int64)) * (4096 : Int64))]) S (c_X2_bothCounts l D cI (q := q) (qs := qs) (qc := qc) (qn := qn) (qo := qo) (ql := ql) (qf := qf) (qca := qca) (qna := qna) (qoa := qoa) (qla := qla) (qfa := qfa) (qsr := qsr) (qsa := qsa) (st := st) (he := he) (ta := ta) (cl := cl) (dr := dr) (cn := cn) (nx := nx) (og := og) (li := li) (fl := fl) (sv := sv) (x1 := x1)  (r := (f_X2_bothCounts cn x1)) (hf := rfl)) gs_X2_80 ok_X2_bothCounts ⟨rfl, rfl⟩ ⟨Nat.le_of_ble_eq_true rfl, Nat.le_of_ble_eq_true rfl⟩ hK hN hSF hP rfl rfl rfl hl.1 rfl (Nat.le_of_ble_eq_true rfl) ⟨Nat.zero_le _, Nat.zero_le _⟩ dX2_chance_24 ?_
  refine lv_i2l hx hb dX2_chance_27 rfl ?_
  refine lv_lmul hx hb dX2_chance_28 ?_
  refine lv_ldc2 (v := (2 : Int64)) hx hb hown (hts _ ck_X2_93) dX2_chance_29 ?_
  refine lv_ladd hx hb dX2_chance_32 ?_
  refine k_roSNi (As := [.long ((((2 : Int64) * (((f_X2_countBy cn x1 1)).toInt64)) + (1 : Int64)) * (4096 : Int64)), .long (((2 : Int64) * (((f_X2_bothCounts cn x1)).toInt64)) + (2 : Int64))]) (rest := []) S (c_X8_cutQuotient l D cI (x1 := (((2 : Int64) * (((f_X2_countBy cn x1 1)).toInt64)) + (1 : Int64)) * (4096 : Int64)) (x2 := ((2 : Int64) * (((f_X2_bothCounts cn x1)).toInt64)) + (2 : Int64))  (r := (f_X8_cutQuotient ((((2 : Int64) * (((f_X2_countBy cn x1 1)).toInt64)) + (1 : Int64)) * (4096 : Int64)) (((2 : Int64) * (((f_X2_bothCounts cn x1)).toInt64)) + (2 : Int64)))) (hf := rfl)) (good_I co_X8_cutQuotient) (nm_X2_86 hN) st_X8_cutQuotient ini_X8 ok_X8_cutQuotient ⟨rfl, rfl⟩ ⟨Nat.le_of_ble_eq_true rfl, Nat.le_of_ble_eq_true rfl⟩ hK hN hSF (hP.sub [] rfl) rfl hl.1 rfl (Nat.le_of_ble_eq_true rfl) ⟨Nat.zero_le _, Nat.zero_le _⟩ dX2_chance_33 ?_
  refine lv_istore (lv' := [(4, .int (f_X8_cutQuotient ((((2 : Int64) * (((f_X2_countBy cn x1 1)).toInt64)) + (1 : Int64)) * (4096 : Int64)) (((2 : Int64) * (((f_X2_bothCounts cn x1)).toInt64)) + (2 : Int64)))), (2, .long ((((2 : Int64) * (((f_X2_countBy cn x1 1)).toInt64)) + (1 : Int64)) * (4096 : Int64))), (0, .ref q), (1, .int x1)]) hx hb dX2_chance_36 hl (by decide) rfl (fun ls hl => ?_)
  refine lv_iconst (v := 1) hx hb dX2_chance_38 (by decide) ?_
  refine lv_sipush (v := 4095) hx hb dX2_chance_39 (by decide) ?_
  refine lv_iload hx hb dX2_chance_42 (lv_at hl 0 rfl) ?_
  refine va_mmin hx hb (hml.trans hl.1.symm) hown (hts _ ml_X2_97) (hts _ st_Math_min) (hts _ ini_Math) (hts _ co_Math_min) (Nat.le_of_ble_eq_true rfl) (Nat.le_of_ble_eq_true rfl) (Nat.zero_le _) (Nat.zero_le _) dX2_chance_44 ?_
  refine va_mmax hx hb (hml.trans hl.1.symm) hown (hts _ ml_X2_102) (hts _ st_Math_max) (hts _ ini_Math) (hts _ co_Math_max) (Nat.le_of_ble_eq_true rfl) (Nat.le_of_ble_eq_true rfl) (Nat.zero_le _) (Nat.zero_le _) dX2_chance_47 ?_
  exact k_reti hx hb hret hloc hf dX2_chance_50
theorem dX2_likelyBit_0 : decode cX2_likelyBit 0 = .ok (.aload_n 0, 1) := by decide +kernel
theorem dX2_likelyBit_1 : decode cX2_likelyBit 1 = .ok (.iload_n 1, 1) := by decide +kernel
theorem dX2_likelyBit_2 : decode cX2_likelyBit 2 = .ok (.iconst 1, 1) := by decide +kernel
theorem dX2_likelyBit_3 : decode cX2_likelyBit 3 = .ok (.invokevirtual 90, 3) := by decide +kernel
theorem dX2_likelyBit_6 : decode cX2_likelyBit 6 = .ok (.aload_n 0, 1) := by decide +kernel
theorem dX2_likelyBit_7 : decode cX2_likelyBit 7 = .ok (.iload_n 1, 1) := by decide +kernel
theorem dX2_likelyBit_8 : decode cX2_likelyBit 8 = .ok (.iconst 0, 1) := by decide +kernel
theorem dX2_likelyBit_9 : decode cX2_likelyBit 9 = .ok (.invokevirtual 90, 3) := by decide +kernel
theorem dX2_likelyBit_12 : decode cX2_likelyBit 12 = .ok (.if_icmp .le 7, 3) := by decide +kernel
theorem dX2_likelyBit_15 : decode cX2_likelyBit 15 = .ok (.iconst 1, 1) := by decide +kernel
theorem dX2_likelyBit_16 : decode cX2_likelyBit 16 = .ok (.goto 4, 3) := by decide +kernel
theorem dX2_likelyBit_19 : decode cX2_likelyBit 19 = .ok (.iconst 0, 1) := by decide +kernel
theorem dX2_likelyBit_20 : decode cX2_likelyBit 20 = .ok (.ireturn, 1) := by decide +kernel
def f_X2_likelyBit (cn : (Nat → Int32)) (x1 : Int32) : Int32 := if (f_X2_countBy cn x1 1) ≤ (f_X2_countBy cn x1 0) then ((0 : Int32)) else ((1 : Int32))
set_option maxHeartbeats 4000000 in
set_option maxRecDepth 100000 in
theorem c_X2_likelyBit (l : Launch) (D : va_G) (cI : ClassId) (q : Nat) (qs : Nat) (qc : Nat) (qn : Nat) (qo : Nat) (ql : Nat) (qf : Nat) (qca : Nat) (qna : Nat) (qoa : Nat) (qla : Nat) (qfa : Nat) (qsr : Nat) (qsa : Nat) (st : Int32) (he : Int32) (ta : Int32) (cl : Int32) (dr : Int32) (cn : (Nat → Int32)) (nx : (Nat → Int32)) (og : (Nat → Int32)) (li : (Nat → Int32)) (fl : (Nat → Int32)) (sv : (Nat → Int32)) (x1 : Int32) (r : Int32) (hf : f_X2_likelyBit cn x1 = r) : Met l yX2_likelyBit (.code yX2_likelyBit cX2_likelyBit 2 (some .int) :: wsG) ({ frames := 2, cells := 0, slots := 0, locals := 43 }) (va_Pc [.ref q, .int x1] (gw D cI [(q, .inr (2, [.ref qs, .ref qc, .ref qn, .ref qo, .ref ql, .ref qf, .int st, .int he, .int ta, .int cl, .int dr])), (qc, .inr (4, [.ref qca])), (qca, .inl (cI, 500, .inl cn)), (qn, .inr (4, [.ref qna])), (qna, .inl (cI, 500, .inl nx)), (qo, .inr (4, [.ref qoa])), (qoa, .inl (cI, 250, .inl og)), (ql, .inr (4, [.ref qla])), (qla, .inl (cI, 250, .inl li)), (qf, .inr (4, [.ref qfa])), (qfa, .inl (cI, 250, .inl fl)), (qs, .inr (5, [.ref qsr])), (qsr, .inr (4, [.ref qsa])), (qsa, .inl (cI, 5, .inl sv))])) (vp_Si (fun x => x = r)) 0 0 (fun _ => False) := by
  refine k_ro (by decide) rfl (Nat.le_of_ble_eq_true rfl) rfl ?_
  intro p e s m below meth c ls S hret hloc hK hN hSF hP hl
  obtain ⟨hx, hb, hml, hown, hts⟩ := id S
  unfold f_X2_likelyBit at hf
  refine lv_aload_n hx hb dX2_likelyBit_0 rfl (lv_at hl 0 rfl) ?_
  refine lv_iload_n hx hb dX2_likelyBit_1 rfl (lv_at hl 1 rfl) ?_
  refine lv_iconst (v := 1) hx hb dX2_likelyBit_2 (by decide) ?_
  refine k_roVi (As := [.int x1, .int 1]) (rest := []) S (c_X2_countBy l D cI (q := q) (qs := qs) (qc := qc) (qn := qn) (qo := qo) (ql := ql) (qf := qf) (qca := qca) (qna := qna) (qoa := qoa) (qla := qla) (qfa := qfa) (qsr := qsr) (qsa := qsa) (st := st) (he := he) (ta := ta) (cl := cl) (dr := dr) (cn := cn) (nx := nx) (og := og) (li := li) (fl := fl) (sv := sv) (x1 := x1) (x2 := 1)  (r := (f_X2_countBy cn x1 1)) (hf := rfl)) gs_X2_90 ok_X2_countBy ⟨rfl, rfl⟩ ⟨Nat.le_of_ble_eq_true rfl, Nat.le_of_ble_eq_true rfl⟩ hK hN hSF hP rfl rfl rfl hl.1 rfl (Nat.le_of_ble_eq_true rfl) ⟨Nat.zero_le _, Nat.zero_le _⟩ dX2_likelyBit_3 ?_
  refine lv_aload_n hx hb dX2_likelyBit_6 rfl (lv_at hl 0 rfl) ?_
  refine lv_iload_n hx hb dX2_likelyBit_7 rfl (lv_at hl 1 rfl) ?_
  refine lv_iconst (v := 0) hx hb dX2_likelyBit_8 (by decide) ?_
  refine k_roVi (As := [.int x1, .int 0]) (rest := [.int (f_X2_countBy cn x1 1)]) S (c_X2_countBy l D cI (q := q) (qs := qs) (qc := qc) (qn := qn) (qo := qo) (ql := ql) (qf := qf) (qca := qca) (qna := qna) (qoa := qoa) (qla := qla) (qfa := qfa) (qsr := qsr) (qsa := qsa) (st := st) (he := he) (ta := ta) (cl := cl) (dr := dr) (cn := cn) (nx := nx) (og := og) (li := li) (fl := fl) (sv := sv) (x1 := x1) (x2 := 0)  (r := (f_X2_countBy cn x1 0)) (hf := rfl)) gs_X2_90 ok_X2_countBy ⟨rfl, rfl⟩ ⟨Nat.le_of_ble_eq_true rfl, Nat.le_of_ble_eq_true rfl⟩ hK hN hSF hP rfl rfl rfl hl.1 rfl (Nat.le_of_ble_eq_true rfl) ⟨Nat.zero_le _, Nat.zero_le _⟩ dX2_likelyBit_9 ?_
  refine lv_icmp_le (tgt := 19) hx hb dX2_likelyBit_12 (by decide) (fun c_1 => ?_) (fun c_1 => ?_)
  · rw [if_pos c_1] at hf
    refine lv_iconst (v := 0) hx hb dX2_likelyBit_19 (by decide) ?_
    exact k_reti hx hb hret hloc hf dX2_likelyBit_20
  · rw [if_neg c_1] at hf
    refine lv_iconst (v := 1) hx hb dX2_likelyBit_15 (by decide) ?_
    refine lv_goto (tgt := 20) hx hb dX2_likelyBit_16 (by decide) ?_
    exact k_reti hx hb hret hloc hf dX2_likelyBit_20
theorem dX2_costOf_0 : decode cX2_costOf 0 = .ok (.aload_n 0, 1) := by decide +kernel
theorem dX2_costOf_1 : decode cX2_costOf 1 = .ok (.getfield 64, 3) := by decide +kernel
theorem dX2_costOf_4 : decode cX2_costOf 4 = .ok (.istore 4, 2) := by decide +kernel
theorem dX2_costOf_6 : decode cX2_costOf 6 = .ok (.iconst 0, 1) := by decide +kernel
theorem dX2_costOf_7 : decode cX2_costOf 7 = .ok (.istore 5, 2) := by decide +kernel
theorem dX2_costOf_9 : decode cX2_costOf 9 = .ok (.iconst 0, 1) := by decide +kernel
theorem dX2_costOf_10 : decode cX2_costOf 10 = .ok (.istore 6, 2) := by decide +kernel
theorem dX2_costOf_12 : decode cX2_costOf 12 = .ok (.iload 6, 2) := by decide +kernel
theorem dX2_costOf_14 : decode cX2_costOf 14 = .ok (.iload_n 3, 1) := by decide +kernel
theorem dX2_costOf_15 : decode cX2_costOf 15 = .ok (.if_icmp .ge 58, 3) := by decide +kernel
theorem dX2_costOf_18 : decode cX2_costOf 18 = .ok (.iload_n 1, 1) := by decide +kernel
theorem dX2_costOf_19 : decode cX2_costOf 19 = .ok (.iload_n 2, 1) := by decide +kernel
theorem dX2_costOf_20 : decode cX2_costOf 20 = .ok (.iload 6, 2) := by decide +kernel
theorem dX2_costOf_22 : decode cX2_costOf 22 = .ok (.invokestatic 105, 3) := by decide +kernel
theorem dX2_costOf_25 : decode cX2_costOf 25 = .ok (.istore 7, 2) := by decide +kernel
theorem dX2_costOf_27 : decode cX2_costOf 27 = .ok (.aload_n 0, 1) := by decide +kernel
theorem dX2_costOf_28 : decode cX2_costOf 28 = .ok (.iload 4, 2) := by decide +kernel
theorem dX2_costOf_30 : decode cX2_costOf 30 = .ok (.invokevirtual 108, 3) := by decide +kernel
theorem dX2_costOf_33 : decode cX2_costOf 33 = .ok (.istore 8, 2) := by decide +kernel
theorem dX2_costOf_35 : decode cX2_costOf 35 = .ok (.iload 5, 2) := by decide +kernel
theorem dX2_costOf_37 : decode cX2_costOf 37 = .ok (.iload 7, 2) := by decide +kernel
theorem dX2_costOf_39 : decode cX2_costOf 39 = .ok (.iconst 1, 1) := by decide +kernel
theorem dX2_costOf_40 : decode cX2_costOf 40 = .ok (.if_icmp .ne 12, 3) := by decide +kernel
theorem dX2_costOf_43 : decode cX2_costOf 43 = .ok (.sipush 4096, 3) := by decide +kernel
theorem dX2_costOf_46 : decode cX2_costOf 46 = .ok (.iload 8, 2) := by decide +kernel
theorem dX2_costOf_48 : decode cX2_costOf 48 = .ok (.isub, 1) := by decide +kernel
theorem dX2_costOf_49 : decode cX2_costOf 49 = .ok (.goto 5, 3) := by decide +kernel
theorem dX2_costOf_52 : decode cX2_costOf 52 = .ok (.iload 8, 2) := by decide +kernel
theorem dX2_costOf_54 : decode cX2_costOf 54 = .ok (.iadd, 1) := by decide +kernel
theorem dX2_costOf_55 : decode cX2_costOf 55 = .ok (.istore 5, 2) := by decide +kernel
theorem dX2_costOf_57 : decode cX2_costOf 57 = .ok (.aload_n 0, 1) := by decide +kernel
theorem dX2_costOf_58 : decode cX2_costOf 58 = .ok (.iload 4, 2) := by decide +kernel
theorem dX2_costOf_60 : decode cX2_costOf 60 = .ok (.iload 7, 2) := by decide +kernel
theorem dX2_costOf_62 : decode cX2_costOf 62 = .ok (.invokevirtual 111, 3) := by decide +kernel
theorem dX2_costOf_65 : decode cX2_costOf 65 = .ok (.istore 4, 2) := by decide +kernel
theorem dX2_costOf_67 : decode cX2_costOf 67 = .ok (.iinc 6 1, 3) := by decide +kernel
theorem dX2_costOf_70 : decode cX2_costOf 70 = .ok (.goto (-58), 3) := by decide +kernel
theorem dX2_costOf_73 : decode cX2_costOf 73 = .ok (.iload 5, 2) := by decide +kernel
theorem dX2_costOf_75 : decode cX2_costOf 75 = .ok (.ireturn, 1) := by decide +kernel
theorem ok_X8_bitFromHighest : okS yX8_bitFromHighest 3 := by decide +kernel
theorem ok_X2_chance : okV yX2_chance RX2 1 := by decide +kernel
theorem gs_X2_108 : GoodIn wsG (wsV RX2 108 RX2 yX2_chance (.code yX2_chance cX2_chance 5 (some .int) :: wsG)) := good_V ml_X2_108 im_X2_chance se_X2_chance ini_X2 co_X2_chance
theorem ok_X2_nextBy : okV yX2_nextBy RX2 2 := by decide +kernel
theorem gs_X2_111 : GoodIn wsG (wsV RX2 111 RX2 yX2_nextBy (.code yX2_nextBy cX2_nextBy 3 (some .int) :: wsG)) := good_V ml_X2_111 im_X2_nextBy se_X2_nextBy ini_X2 co_X2_nextBy
def st_X2_costOf_L12 (v1 : Int32) (v2 : Int32) (v3 : Int32) (cn : (Nat → Int32)) (nx : (Nat → Int32)) (v4 : Int32) (v5 : Int32) (v6 : Int32) : Option ((Int32 × Int32 × Int32) ⊕ (Int32 × Int32 × Int32)) := if v3 ≤ v6 then (some (Sum.inr (v4, v5, v6))) else (if (f_X8_bitFromHighest v1 v2 v6) = 1 then (some (Sum.inl ((f_X2_nextBy nx v4 (f_X8_bitFromHighest v1 v2 v6)), v5 + (4096 - (f_X2_chance cn v4)), v6 + 1))) else (some (Sum.inl ((f_X2_nextBy nx v4 (f_X8_bitFromHighest v1 v2 v6)), v5 + (f_X2_chance cn v4), v6 + 1))))
def f_X2_costOf_L12 (v1 : Int32) (v2 : Int32) (v3 : Int32) (cn : (Nat → Int32)) (nx : (Nat → Int32)) (k : Nat) (v4 : Int32) (v5 : Int32) (v6 : Int32) : Option (Int32 × Int32 × Int32) := lpN (fun z => st_X2_costOf_L12 v1 v2 v3 cn nx z.1 z.2.1 z.2.2) k (v4, v5, v6)
set_option maxHeartbeats 4000000 in
set_option maxRecDepth 100000 in
theorem L_X2_costOf_12 {p : Program} {l : Launch} {e : Env} {s : State} {m : MethodId} {args : Array Value} {below : List Frame} {meth : Method} {c : Code} {Q : State → Prop} {D : va_G} {cI : ClassId} {q : Nat} {qs : Nat} {qc : Nat} {qn : Nat} {qo : Nat} {ql : Nat} {qf : Nat} {qca : Nat} {qna : Nat} {qoa : Nat} {qla : Nat} {qfa : Nat} {qsr : Nat} {qsa : Nat} {v1 : Int32} {v2 : Int32} {v3 : Int32} {st : Int32} {he : Int32} {ta : Int32} {cl : Int32} {dr : Int32} {cn : (Nat → Int32)} {nx : (Nat → Int32)} {og : (Nat → Int32)} {li : (Nat → Int32)} {fl : (Nat → Int32)} {sv : (Nat → Int32)} (S : CallFix p m c cX2_costOf 9 s args wsG RX2) (hK : va_K D vwCl [(cI, .int)] s) (hN : nw s) (hSF : sf (fun _ => False) s s.heap) : ∀ (k : Nat) (v4 : Int32) (v5 : Int32) (v6 : Int32) (o_v4 : Int32) (o_v5 : Int32) (o_v6 : Int32), f_X2_costOf_L12 v1 v2 v3 cn nx k v4 v5 v6 = some (o_v4, o_v5, o_v6) → ∀ (ls : Array Slot), va_P D vwCl [(q, .inr (2, [.ref qs, .ref qc, .ref qn, .ref qo, .ref ql, .ref qf, .int st, .int he, .int ta, .int cl, .int dr])), (qc, .inr (4, [.ref qca])), (qca, .inl (cI, 500, .inl cn)), (qn, .inr (4, [.ref qna])), (qna, .inl (cI, 500, .inl nx)), (qo, .inr (4, [.ref qoa])), (qoa, .inl (cI, 250, .inl og)), (ql, .inr (4, [.ref qla])), (qla, .inl (cI, 250, .inl li)), (qf, .inr (4, [.ref qfa])), (qfa, .inl (cI, 250, .inl fl)), (qs, .inr (5, [.ref qsr])), (qsr, .inr (4, [.ref qsa])), (qsa, .inl (cI, 5, .inl sv))] s.heap → lv_has ls 9 [(0, .ref q), (1, .int v1), (2, .int v2), (3, .int v3), (4, .int v4), (5, .int v5), (6, .int v6)] → (∀ (ls : Array Slot), lv_has ls 9 [(0, .ref q), (1, .int v1), (2, .int v2), (3, .int v3), (4, .int o_v4), (5, .int o_v5), (6, .int o_v6)] → W p l e (headSpec (.code yX2_costOf cX2_costOf 9 (some .int) :: wsG) { frames := 4, cells := 0, slots := 0, locals := 88 }).room s m args below meth c s.heap [] 0 0 Q (F0 m 73 ls [])) → W p l e (headSpec (.code yX2_costOf cX2_costOf 9 (some .int) :: wsG) { frames := 4, cells := 0, slots := 0, locals := 88 }).room s m args below meth c s.heap [] 0 0 Q (F0 m 12 ls []) := by
  obtain ⟨hx, hb, hml, hown, hts⟩ := id S
  intro k
  induction k with
  | zero =>
    intro v4 v5 v6 o_v4 o_v5 o_v6 hf
    cases hf
  | succ k ih =>
    intro v4 v5 v6 o_v4 o_v5 o_v6 hf ls hP hl kk
    obtain ⟨z, hf, hz⟩ := lp_inv hf
    have hf : st_X2_costOf_L12 v1 v2 v3 cn nx v4 v5 v6 = some z := hf
    unfold st_X2_costOf_L12 at hf
    refine lv_iload hx hb dX2_costOf_12 (lv_at hl 6 rfl) ?_
    refine lv_iload_n hx hb dX2_costOf_14 rfl (lv_at hl 3 rfl) ?_
    refine lv_icmp_ge (tgt := 73) hx hb dX2_costOf_15 (by decide) (fun c_1 => ?_) (fun c_1 => ?_)
    · rw [if_pos c_1] at hf
      have hf := Option.some.inj hf
      subst hf
      obtain ⟨e_0, e_r⟩ := Prod.mk.inj (lpC_r hz)
      obtain ⟨e_1, e_2⟩ := Prod.mk.inj (e_r)
      subst e_0
      subst e_1
      subst e_2
      exact kk ls (lv_sub hl [0, 1, 2, 3, 4, 5, 6] rfl)
    · rw [if_neg c_1] at hf
      refine lv_iload_n hx hb dX2_costOf_18 rfl (lv_at hl 1 rfl) ?_
      refine lv_iload_n hx hb dX2_costOf_19 rfl (lv_at hl 2 rfl) ?_
      refine lv_iload hx hb dX2_costOf_20 (lv_at hl 6 rfl) ?_
      refine k_roSNi (As := [.int v1, .int v2, .int v6]) (rest := []) S (c_X8_bitFromHighest l D cI (x1 := v1) (x2 := v2) (x3 := v6)  (r := (f_X8_bitFromHighest v1 v2 v6)) (hf := rfl)) (good_I co_X8_bitFromHighest) (nm_X2_105 hN) st_X8_bitFromHighest ini_X8 ok_X8_bitFromHighest ⟨rfl, rfl⟩ ⟨Nat.le_of_ble_eq_true rfl, Nat.le_of_ble_eq_true rfl⟩ hK hN hSF (hP.sub [] rfl) rfl hl.1 rfl (Nat.le_of_ble_eq_true rfl) ⟨Nat.zero_le _, Nat.zero_le _⟩ dX2_costOf_22 ?_
      refine lv_istore (lv' := [(7, .int (f_X8_bitFromHighest v1 v2 v6)), (0, .ref q), (1, .int v1), (2, .int v2), (3, .int v3), (4, .int v4), (5, .int v5), (6, .int v6)]) hx hb dX2_costOf_25 hl (by decide) rfl (fun ls hl => ?_)
      refine lv_aload_n hx hb dX2_costOf_27 rfl (lv_at hl 1 rfl) ?_
      refine lv_iload hx hb dX2_costOf_28 (lv_at hl 5 rfl) ?_
      refine k_roVi (As := [.int v4]) (rest := []) S (c_X2_chance l D cI (q := q) (qs := qs) (qc := qc) (qn := qn) (qo := qo) (ql := ql) (qf := qf) (qca := qca) (qna := qna) (qoa := qoa) (qla := qla) (qfa := qfa) (qsr := qsr) (qsa := qsa) (st := st) (he := he) (ta := ta) (cl := cl) (dr := dr) (cn := cn) (nx := nx) (og := og) (li := li) (fl := fl) (sv := sv) (x1 := v4)  (r := (f_X2_chance cn v4)) (hf := rfl)) gs_X2_108 ok_X2_chance ⟨rfl, rfl⟩ ⟨Nat.le_of_ble_eq_true rfl, Nat.le_of_ble_eq_true rfl⟩ hK hN hSF hP rfl rfl rfl hl.1 rfl (Nat.le_of_ble_eq_true rfl) ⟨Nat.zero_le _, Nat.zero_le _⟩ dX2_costOf_30 ?_
      refine lv_istore (lv' := [(8, .int (f_X2_chance cn v4)), (7, .int (f_X8_bitFromHighest v1 v2 v6)), (0, .ref q), (1, .int v1), (2, .int v2), (3, .int v3), (4, .int v4), (5, .int v5), (6, .int v6)]) hx hb dX2_costOf_33 hl (by decide) rfl (fun ls hl => ?_)
      refine lv_iload hx hb dX2_costOf_35 (lv_at hl 7 rfl) ?_
      refine lv_iload hx hb dX2_costOf_37 (lv_at hl 1 rfl) ?_
      refine lv_iconst (v := 1) hx hb dX2_costOf_39 (by decide) ?_
      refine lv_icmp_ne (tgt := 52) hx hb dX2_costOf_40 (by decide) (fun c_2 => ?_) (fun c_2 => ?_)
      · rw [if_neg c_2] at hf
        refine lv_iload hx hb dX2_costOf_52 (lv_at hl 0 rfl) ?_
        refine lv_iadd hx hb dX2_costOf_54 ?_
        refine lv_istore (lv' := [(5, .int (v5 + (f_X2_chance cn v4))), (8, .int (f_X2_chance cn v4)), (7, .int (f_X8_bitFromHighest v1 v2 v6)), (0, .ref q), (1, .int v1), (2, .int v2), (3, .int v3), (4, .int v4), (6, .int v6)]) hx hb dX2_costOf_55 hl (by decide) rfl (fun ls hl => ?_)
        refine lv_aload_n hx hb dX2_costOf_57 rfl (lv_at hl 3 rfl) ?_
        refine lv_iload hx hb dX2_costOf_58 (lv_at hl 7 rfl) ?_
        refine lv_iload hx hb dX2_costOf_60 (lv_at hl 2 rfl) ?_
        refine k_roVi (As := [.int v4, .int (f_X8_bitFromHighest v1 v2 v6)]) (rest := []) S (c_X2_nextBy l D cI (q := q) (qs := qs) (qc := qc) (qn := qn) (qo := qo) (ql := ql) (qf := qf) (qca := qca) (qna := qna) (qoa := qoa) (qla := qla) (qfa := qfa) (qsr := qsr) (qsa := qsa) (st := st) (he := he) (ta := ta) (cl := cl) (dr := dr) (cn := cn) (nx := nx) (og := og) (li := li) (fl := fl) (sv := sv) (x1 := v4) (x2 := (f_X8_bitFromHighest v1 v2 v6))  (r := (f_X2_nextBy nx v4 (f_X8_bitFromHighest v1 v2 v6))) (hf := rfl)) gs_X2_111 ok_X2_nextBy ⟨rfl, rfl⟩ ⟨Nat.le_of_ble_eq_true rfl, Nat.le_of_ble_eq_true rfl⟩ hK hN hSF hP rfl rfl rfl hl.1 rfl (Nat.le_of_ble_eq_true rfl) ⟨Nat.zero_le _, Nat.zero_le _⟩ dX2_costOf_62 ?_
        refine lv_istore (lv' := [(4, .int (f_X2_nextBy nx v4 (f_X8_bitFromHighest v1 v2 v6))), (5, .int (v5 + (f_X2_chance cn v4))), (8, .int (f_X2_chance cn v4)), (7, .int (f_X8_bitFromHighest v1 v2 v6)), (0, .ref q), (1, .int v1), (2, .int v2), (3, .int v3), (6, .int v6)]) hx hb dX2_costOf_65 hl (by decide) rfl (fun ls hl => ?_)
        refine lv_iinc (v := v6 + 1) (lv' := [(6, .int (v6 + 1)), (4, .int (f_X2_nextBy nx v4 (f_X8_bitFromHighest v1 v2 v6))), (5, .int (v5 + (f_X2_chance cn v4))), (8, .int (f_X2_chance cn v4)), (7, .int (f_X8_bitFromHighest v1 v2 v6)), (0, .ref q), (1, .int v1), (2, .int v2), (3, .int v3)]) hx hb dX2_costOf_67 hl (k := 8) rfl rfl (by decide) rfl (fun ls hl => ?_)
        refine lv_goto (tgt := 12) hx hb dX2_costOf_70 (by decide) ?_
        have hf := Option.some.inj hf
        subst hf
        exact ih (f_X2_nextBy nx v4 (f_X8_bitFromHighest v1 v2 v6)) (v5 + (f_X2_chance cn v4)) (v6 + 1) _ _ _ hz ls hP (lv_sub hl [5, 6, 7, 8, 1, 2, 0] rfl) kk
      · rw [if_pos c_2] at hf
        refine lv_sipush (v := 4096) hx hb dX2_costOf_43 (by decide) ?_
        refine lv_iload hx hb dX2_costOf_46 (lv_at hl 0 rfl) ?_
        refine lv_isub hx hb dX2_costOf_48 ?_
        refine lv_goto (tgt := 54) hx hb dX2_costOf_49 (by decide) ?_
        refine lv_iadd hx hb dX2_costOf_54 ?_
        refine lv_istore (lv' := [(5, .int (v5 + (4096 - (f_X2_chance cn v4)))), (8, .int (f_X2_chance cn v4)), (7, .int (f_X8_bitFromHighest v1 v2 v6)), (0, .ref q), (1, .int v1), (2, .int v2), (3, .int v3), (4, .int v4), (6, .int v6)]) hx hb dX2_costOf_55 hl (by decide) rfl (fun ls hl => ?_)
        refine lv_aload_n hx hb dX2_costOf_57 rfl (lv_at hl 3 rfl) ?_
        refine lv_iload hx hb dX2_costOf_58 (lv_at hl 7 rfl) ?_
        refine lv_iload hx hb dX2_costOf_60 (lv_at hl 2 rfl) ?_
        refine k_roVi (As := [.int v4, .int (f_X8_bitFromHighest v1 v2 v6)]) (rest := []) S (c_X2_nextBy l D cI (q := q) (qs := qs) (qc := qc) (qn := qn) (qo := qo) (ql := ql) (qf := qf) (qca := qca) (qna := qna) (qoa := qoa) (qla := qla) (qfa := qfa) (qsr := qsr) (qsa := qsa) (st := st) (he := he) (ta := ta) (cl := cl) (dr := dr) (cn := cn) (nx := nx) (og := og) (li := li) (fl := fl) (sv := sv) (x1 := v4) (x2 := (f_X8_bitFromHighest v1 v2 v6))  (r := (f_X2_nextBy nx v4 (f_X8_bitFromHighest v1 v2 v6))) (hf := rfl)) gs_X2_111 ok_X2_nextBy ⟨rfl, rfl⟩ ⟨Nat.le_of_ble_eq_true rfl, Nat.le_of_ble_eq_true rfl⟩ hK hN hSF hP rfl rfl rfl hl.1 rfl (Nat.le_of_ble_eq_true rfl) ⟨Nat.zero_le _, Nat.zero_le _⟩ dX2_costOf_62 ?_
        refine lv_istore (lv' := [(4, .int (f_X2_nextBy nx v4 (f_X8_bitFromHighest v1 v2 v6))), (5, .int (v5 + (4096 - (f_X2_chance cn v4)))), (8, .int (f_X2_chance cn v4)), (7, .int (f_X8_bitFromHighest v1 v2 v6)), (0, .ref q), (1, .int v1), (2, .int v2), (3, .int v3), (6, .int v6)]) hx hb dX2_costOf_65 hl (by decide) rfl (fun ls hl => ?_)
        refine lv_iinc (v := v6 + 1) (lv' := [(6, .int (v6 + 1)), (4, .int (f_X2_nextBy nx v4 (f_X8_bitFromHighest v1 v2 v6))), (5, .int (v5 + (4096 - (f_X2_chance cn v4)))), (8, .int (f_X2_chance cn v4)), (7, .int (f_X8_bitFromHighest v1 v2 v6)), (0, .ref q), (1, .int v1), (2, .int v2), (3, .int v3)]) hx hb dX2_costOf_67 hl (k := 8) rfl rfl (by decide) rfl (fun ls hl => ?_)
        refine lv_goto (tgt := 12) hx hb dX2_costOf_70 (by decide) ?_
        have hf := Option.some.inj hf
        subst hf
        exact ih (f_X2_nextBy nx v4 (f_X8_bitFromHighest v1 v2 v6)) (v5 + (4096 - (f_X2_chance cn v4))) (v6 + 1) _ _ _ hz ls hP (lv_sub hl [5, 6, 7, 8, 1, 2, 0] rfl) kk
def f_X2_costOf (he : Int32) (cn : (Nat → Int32)) (nx : (Nat → Int32)) (x1 : Int32) (x2 : Int32) (x3 : Int32) : Option (Int32) := bi3 (f_X2_costOf_L12 x1 x2 x3 cn nx 4096 he 0 0) (fun (v4_3 : Int32) (v5_4 : Int32) (v6_5 : Int32) => some v5_4)
set_option maxHeartbeats 4000000 in
set_option maxRecDepth 100000 in
theorem c_X2_costOf (l : Launch) (D : va_G) (cI : ClassId) (q : Nat) (qs : Nat) (qc : Nat) (qn : Nat) (qo : Nat) (ql : Nat) (qf : Nat) (qca : Nat) (qna : Nat) (qoa : Nat) (qla : Nat) (qfa : Nat) (qsr : Nat) (qsa : Nat) (st : Int32) (he : Int32) (ta : Int32) (cl : Int32) (dr : Int32) (cn : (Nat → Int32)) (nx : (Nat → Int32)) (og : (Nat → Int32)) (li : (Nat → Int32)) (fl : (Nat → Int32)) (sv : (Nat → Int32)) (x1 : Int32) (x2 : Int32) (x3 : Int32) (r : Int32) (hf : f_X2_costOf he cn nx x1 x2 x3 = some r) : Met l yX2_costOf (.code yX2_costOf cX2_costOf 9 (some .int) :: wsG) ({ frames := 4, cells := 0, slots := 0, locals := 88 }) (va_Pc [.ref q, .int x1, .int x2, .int x3] (gw D cI [(q, .inr (2, [.ref qs, .ref qc, .ref qn, .ref qo, .ref ql, .ref qf, .int st, .int he, .int ta, .int cl, .int dr])), (qc, .inr (4, [.ref qca])), (qca, .inl (cI, 500, .inl cn)), (qn, .inr (4, [.ref qna])), (qna, .inl (cI, 500, .inl nx)), (qo, .inr (4, [.ref qoa])), (qoa, .inl (cI, 250, .inl og)), (ql, .inr (4, [.ref qla])), (qla, .inl (cI, 250, .inl li)), (qf, .inr (4, [.ref qfa])), (qfa, .inl (cI, 250, .inl fl)), (qs, .inr (5, [.ref qsr])), (qsr, .inr (4, [.ref qsa])), (qsa, .inl (cI, 5, .inl sv))])) (vp_Si (fun x => x = r)) 0 0 (fun _ => False) := by
  refine k_ro (by decide) rfl (Nat.le_of_ble_eq_true rfl) rfl ?_
  intro p e s m below meth c ls S hret hloc hK hN hSF hP hl
  obtain ⟨hx, hb, hml, hown, hts⟩ := id S
  unfold f_X2_costOf at hf
  refine lv_aload_n hx hb dX2_costOf_0 rfl (lv_at hl 0 rfl) ?_
  refine va_get (D := D) (ci := 2) (v := .int he) (C := RX2) (T := TX2) (N := 11) hx hb hts inGX2 hown hK hP 0 rfl rfl 7 (by decide) (hts _ fl_X2_64) (fun _ h9 => h9) rfl dX2_costOf_1 ?_
  refine lv_istore (lv' := [(4, .int he), (0, .ref q), (1, .int x1), (2, .int x2), (3, .int x3)]) hx hb dX2_costOf_4 hl (by decide) rfl (fun ls hl => ?_)
  refine lv_iconst (v := 0) hx hb dX2_costOf_6 (by decide) ?_
  refine lv_istore (lv' := [(5, .int 0), (4, .int he), (0, .ref q), (1, .int x1), (2, .int x2), (3, .int x3)]) hx hb dX2_costOf_7 hl (by decide) rfl (fun ls hl => ?_)
  refine lv_iconst (v := 0) hx hb dX2_costOf_9 (by decide) ?_
  refine lv_istore (lv' := [(6, .int 0), (5, .int 0), (4, .int he), (0, .ref q), (1, .int x1), (2, .int x2), (3, .int x3)]) hx hb dX2_costOf_10 hl (by decide) rfl (fun ls hl => ?_)
  obtain ⟨v4_3, v5_4, v6_5, hc_6, hf⟩ := bd3 hf
  refine L_X2_costOf_12 S hK hN hSF _ he 0 0 v4_3 v5_4 v6_5 hc_6 _ hP (lv_sub hl [3, 4, 5, 6, 2, 1, 0] rfl) (fun ls hl => ?_)
  refine lv_iload hx hb dX2_costOf_73 (lv_at hl 5 rfl) ?_
  exact k_reti hx hb hret hloc (Option.some.inj hf) dX2_costOf_75
