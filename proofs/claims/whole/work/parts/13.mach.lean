theorem dX2_shapeAnew_0 : decode cX2_shapeAnew 0 = .ok (.aload_n 0, 1) := by decide +kernel
theorem dX2_shapeAnew_1 : decode cX2_shapeAnew 1 = .ok (.getfield 32, 3) := by decide +kernel
theorem dX2_shapeAnew_4 : decode cX2_shapeAnew 4 = .ok (.iconst 0, 1) := by decide +kernel
theorem dX2_shapeAnew_5 : decode cX2_shapeAnew 5 = .ok (.invokevirtual 52, 3) := by decide +kernel
theorem dX2_shapeAnew_8 : decode cX2_shapeAnew 8 = .ok (.istore_n 1, 1) := by decide +kernel
theorem dX2_shapeAnew_9 : decode cX2_shapeAnew 9 = .ok (.aload_n 0, 1) := by decide +kernel
theorem dX2_shapeAnew_10 : decode cX2_shapeAnew 10 = .ok (.iload_n 1, 1) := by decide +kernel
theorem dX2_shapeAnew_11 : decode cX2_shapeAnew 11 = .ok (.invokestatic 58, 3) := by decide +kernel
theorem dX2_shapeAnew_14 : decode cX2_shapeAnew 14 = .ok (.putfield 61, 3) := by decide +kernel
theorem dX2_shapeAnew_17 : decode cX2_shapeAnew 17 = .ok (.aload_n 0, 1) := by decide +kernel
theorem dX2_shapeAnew_18 : decode cX2_shapeAnew 18 = .ok (.iconst 0, 1) := by decide +kernel
theorem dX2_shapeAnew_19 : decode cX2_shapeAnew 19 = .ok (.putfield 64, 3) := by decide +kernel
theorem dX2_shapeAnew_22 : decode cX2_shapeAnew 22 = .ok (.iconst 0, 1) := by decide +kernel
theorem dX2_shapeAnew_23 : decode cX2_shapeAnew 23 = .ok (.istore_n 2, 1) := by decide +kernel
theorem dX2_shapeAnew_24 : decode cX2_shapeAnew 24 = .ok (.iload_n 2, 1) := by decide +kernel
theorem dX2_shapeAnew_25 : decode cX2_shapeAnew 25 = .ok (.aload_n 0, 1) := by decide +kernel
theorem dX2_shapeAnew_26 : decode cX2_shapeAnew 26 = .ok (.getfield 61, 3) := by decide +kernel
theorem dX2_shapeAnew_29 : decode cX2_shapeAnew 29 = .ok (.if_icmp .ge 72, 3) := by decide +kernel
theorem dX2_shapeAnew_32 : decode cX2_shapeAnew 32 = .ok (.iconst 0, 1) := by decide +kernel
theorem dX2_shapeAnew_33 : decode cX2_shapeAnew 33 = .ok (.istore_n 3, 1) := by decide +kernel
theorem dX2_shapeAnew_34 : decode cX2_shapeAnew 34 = .ok (.iload_n 3, 1) := by decide +kernel
theorem dX2_shapeAnew_35 : decode cX2_shapeAnew 35 = .ok (.iconst 2, 1) := by decide +kernel
theorem dX2_shapeAnew_36 : decode cX2_shapeAnew 36 = .ok (.if_icmp .ge 40, 3) := by decide +kernel
theorem dX2_shapeAnew_39 : decode cX2_shapeAnew 39 = .ok (.aload_n 0, 1) := by decide +kernel
theorem dX2_shapeAnew_40 : decode cX2_shapeAnew 40 = .ok (.getfield 14, 3) := by decide +kernel
theorem dX2_shapeAnew_43 : decode cX2_shapeAnew 43 = .ok (.iload_n 2, 1) := by decide +kernel
theorem dX2_shapeAnew_44 : decode cX2_shapeAnew 44 = .ok (.iload_n 3, 1) := by decide +kernel
theorem dX2_shapeAnew_45 : decode cX2_shapeAnew 45 = .ok (.invokestatic 67, 3) := by decide +kernel
theorem dX2_shapeAnew_48 : decode cX2_shapeAnew 48 = .ok (.iconst 1, 1) := by decide +kernel
theorem dX2_shapeAnew_49 : decode cX2_shapeAnew 49 = .ok (.invokevirtual 71, 3) := by decide +kernel
theorem dX2_shapeAnew_52 : decode cX2_shapeAnew 52 = .ok (.aload_n 0, 1) := by decide +kernel
theorem dX2_shapeAnew_53 : decode cX2_shapeAnew 53 = .ok (.getfield 20, 3) := by decide +kernel
theorem dX2_shapeAnew_56 : decode cX2_shapeAnew 56 = .ok (.iload_n 2, 1) := by decide +kernel
theorem dX2_shapeAnew_57 : decode cX2_shapeAnew 57 = .ok (.iload_n 3, 1) := by decide +kernel
theorem dX2_shapeAnew_58 : decode cX2_shapeAnew 58 = .ok (.invokestatic 67, 3) := by decide +kernel
theorem dX2_shapeAnew_61 : decode cX2_shapeAnew 61 = .ok (.iload_n 1, 1) := by decide +kernel
theorem dX2_shapeAnew_62 : decode cX2_shapeAnew 62 = .ok (.iload_n 2, 1) := by decide +kernel
theorem dX2_shapeAnew_63 : decode cX2_shapeAnew 63 = .ok (.iload_n 3, 1) := by decide +kernel
theorem dX2_shapeAnew_64 : decode cX2_shapeAnew 64 = .ok (.invokestatic 75, 3) := by decide +kernel
theorem dX2_shapeAnew_67 : decode cX2_shapeAnew 67 = .ok (.invokevirtual 71, 3) := by decide +kernel
theorem dX2_shapeAnew_70 : decode cX2_shapeAnew 70 = .ok (.iinc 3 1, 3) := by decide +kernel
theorem dX2_shapeAnew_73 : decode cX2_shapeAnew 73 = .ok (.goto (-39), 3) := by decide +kernel
theorem dX2_shapeAnew_76 : decode cX2_shapeAnew 76 = .ok (.aload_n 0, 1) := by decide +kernel
theorem dX2_shapeAnew_77 : decode cX2_shapeAnew 77 = .ok (.getfield 23, 3) := by decide +kernel
theorem dX2_shapeAnew_80 : decode cX2_shapeAnew 80 = .ok (.iload_n 2, 1) := by decide +kernel
theorem dX2_shapeAnew_81 : decode cX2_shapeAnew 81 = .ok (.bipush (-4), 2) := by decide +kernel
theorem dX2_shapeAnew_83 : decode cX2_shapeAnew 83 = .ok (.invokevirtual 71, 3) := by decide +kernel
theorem dX2_shapeAnew_86 : decode cX2_shapeAnew 86 = .ok (.aload_n 0, 1) := by decide +kernel
theorem dX2_shapeAnew_87 : decode cX2_shapeAnew 87 = .ok (.getfield 26, 3) := by decide +kernel
theorem dX2_shapeAnew_90 : decode cX2_shapeAnew 90 = .ok (.iload_n 2, 1) := by decide +kernel
theorem dX2_shapeAnew_91 : decode cX2_shapeAnew 91 = .ok (.iconst 0, 1) := by decide +kernel
theorem dX2_shapeAnew_92 : decode cX2_shapeAnew 92 = .ok (.invokevirtual 71, 3) := by decide +kernel
theorem dX2_shapeAnew_95 : decode cX2_shapeAnew 95 = .ok (.iinc 2 1, 3) := by decide +kernel
theorem dX2_shapeAnew_98 : decode cX2_shapeAnew 98 = .ok (.goto (-74), 3) := by decide +kernel
theorem dX2_shapeAnew_101 : decode cX2_shapeAnew 101 = .ok (.return_, 1) := by decide +kernel
theorem gs_X2_52 : GoodIn wsG (wsV RX2 52 RX5 yX5_get (.code yX5_get cX5_get 2 (some .int) :: wsG)) := good_V ml_X2_52 im_X5_get se_X5_get ini_X5 co_X5_get
theorem ok_X2_statesAtFirst : okS yX2_statesAtFirst 1 := by decide +kernel
theorem gs_X2_58 : GoodIn wsG (va_wsS RX2 58 yX2_statesAtFirst (.code yX2_statesAtFirst cX2_statesAtFirst 1 (some .int) :: wsG)) := good_S ml_X2_58 st_X2_statesAtFirst ini_X2 co_X2_statesAtFirst
theorem gs_X2_71 : GoodIn wsG (wsV RX2 71 RX4 yX4_put (.code yX4_put cX4_put 3 none :: wsG)) := good_V ml_X2_71 im_X4_put se_X4_put ini_X4 co_X4_put
theorem ok_X2_nextAtFirst : okS yX2_nextAtFirst 3 := by decide +kernel
theorem gs_X2_75 : GoodIn wsG (va_wsS RX2 75 yX2_nextAtFirst (.code yX2_nextAtFirst cX2_nextAtFirst 5 (some .int) :: wsG)) := good_S ml_X2_75 st_X2_nextAtFirst ini_X2 co_X2_nextAtFirst
def st_X2_shapeAnew_L34 (v1 : Int32) (v2 : Int32) (v3 : Int32) (cn : (Nat → Int32)) (nx : (Nat → Int32)) : Option ((Int32 × (Nat → Int32) × (Nat → Int32)) ⊕ (Int32 × (Nat → Int32) × (Nat → Int32))) := if 2 ≤ v3 then (some (Sum.inr (v3, cn, nx))) else (some (Sum.inl (v3 + 1, (f_X4_put 500 cn (f_X2_path v2 v3) 1), (f_X4_put 500 nx (f_X2_path v2 v3) (f_X2_nextAtFirst v1 v2 v3)))))
def f_X2_shapeAnew_L34 (v1 : Int32) (v2 : Int32) (k : Nat) (v3 : Int32) (cn : (Nat → Int32)) (nx : (Nat → Int32)) : Option (Int32 × (Nat → Int32) × (Nat → Int32)) := lpN (fun z => st_X2_shapeAnew_L34 v1 v2 z.1 z.2.1 z.2.2) k (v3, cn, nx)
set_option maxHeartbeats 4000000 in
set_option maxRecDepth 100000 in
theorem L_X2_shapeAnew_34 {p : Program} {l : Launch} {e : Env} {s : State} {m : MethodId} {args : Array Value} {below : List Frame} {meth : Method} {c : Code} {Q : State → Prop} {D : va_G} {cI : ClassId} {q : Nat} {qs : Nat} {qc : Nat} {qn : Nat} {qo : Nat} {ql : Nat} {qf : Nat} {qca : Nat} {qna : Nat} {qoa : Nat} {qla : Nat} {qfa : Nat} {qsr : Nat} {qsa : Nat} {v1 : Int32} {v2 : Int32} {st : Int32} {he : Int32} {ta : Int32} {cl : Int32} {dr : Int32} {og : (Nat → Int32)} {li : (Nat → Int32)} {fl : (Nat → Int32)} {sv : (Nat → Int32)} {A : Nat → Prop} (S : CallFix p m c cX2_shapeAnew 4 s args wsG RX2) (hK : va_K D vwCl [(cI, .int)] s) (hN : nw s) (hSF : sf A s s.heap) (hA : ∀ q, s.heap.size ≤ q → A q) : ∀ (k : Nat) (v3 : Int32) (cn : (Nat → Int32)) (nx : (Nat → Int32)) (o_v3 : Int32) (o_cn : (Nat → Int32)) (o_nx : (Nat → Int32)), f_X2_shapeAnew_L34 v1 v2 k v3 cn nx = some (o_v3, o_cn, o_nx) → ∀ (H : Heap) (locs : List Loc) (ls : Array Slot), va_P D vwCl [(q, .inr (2, [.ref qs, .ref qc, .ref qn, .ref qo, .ref ql, .ref qf, .int st, .int he, .int ta, .int cl, .int dr])), (qc, .inr (4, [.ref qca])), (qca, .inl (cI, 500, .inl cn)), (qn, .inr (4, [.ref qna])), (qna, .inl (cI, 500, .inl nx)), (qo, .inr (4, [.ref qoa])), (qoa, .inl (cI, 250, .inl og)), (ql, .inr (4, [.ref qla])), (qla, .inl (cI, 250, .inl li)), (qf, .inr (4, [.ref qfa])), (qfa, .inl (cI, 250, .inl fl)), (qs, .inr (5, [.ref qsr])), (qsr, .inr (4, [.ref qsa])), (qsa, .inl (cI, 5, .inl sv))] H → va_D A [(q, .inr (2, [.ref qs, .ref qc, .ref qn, .ref qo, .ref ql, .ref qf, .int st, .int he, .int ta, .int cl, .int dr])), (qc, .inr (4, [.ref qca])), (qca, .inl (cI, 500, .inl cn)), (qn, .inr (4, [.ref qna])), (qna, .inl (cI, 500, .inl nx)), (qo, .inr (4, [.ref qoa])), (qoa, .inl (cI, 250, .inl og)), (ql, .inr (4, [.ref qla])), (qla, .inl (cI, 250, .inl li)), (qf, .inr (4, [.ref qfa])), (qfa, .inl (cI, 250, .inl fl)), (qs, .inr (5, [.ref qsr])), (qsr, .inr (4, [.ref qsa])), (qsa, .inl (cI, 5, .inl sv))] → va_S A s.heap H locs → lv_has ls 4 [(0, .ref q), (1, .int v1), (2, .int v2), (3, .int v3)] → (∀ (H : Heap) (locs : List Loc) (ls : Array Slot), va_P D vwCl [(q, .inr (2, [.ref qs, .ref qc, .ref qn, .ref qo, .ref ql, .ref qf, .int st, .int he, .int ta, .int cl, .int dr])), (qc, .inr (4, [.ref qca])), (qca, .inl (cI, 500, .inl o_cn)), (qn, .inr (4, [.ref qna])), (qna, .inl (cI, 500, .inl o_nx)), (qo, .inr (4, [.ref qoa])), (qoa, .inl (cI, 250, .inl og)), (ql, .inr (4, [.ref qla])), (qla, .inl (cI, 250, .inl li)), (qf, .inr (4, [.ref qfa])), (qfa, .inl (cI, 250, .inl fl)), (qs, .inr (5, [.ref qsr])), (qsr, .inr (4, [.ref qsa])), (qsa, .inl (cI, 5, .inl sv))] H → va_D A [(q, .inr (2, [.ref qs, .ref qc, .ref qn, .ref qo, .ref ql, .ref qf, .int st, .int he, .int ta, .int cl, .int dr])), (qc, .inr (4, [.ref qca])), (qca, .inl (cI, 500, .inl o_cn)), (qn, .inr (4, [.ref qna])), (qna, .inl (cI, 500, .inl o_nx)), (qo, .inr (4, [.ref qoa])), (qoa, .inl (cI, 250, .inl og)), (ql, .inr (4, [.ref qla])), (qla, .inl (cI, 250, .inl li)), (qf, .inr (4, [.ref qfa])), (qfa, .inl (cI, 250, .inl fl)), (qs, .inr (5, [.ref qsr])), (qsr, .inr (4, [.ref qsa])), (qsa, .inl (cI, 5, .inl sv))] → va_S A s.heap H locs → lv_has ls 4 [(0, .ref q), (1, .int v1), (2, .int v2), (3, .int o_v3)] → W p l e (headSpec (.code yX2_shapeAnew cX2_shapeAnew 4 none :: wsG) { frames := 2, cells := 0, slots := 0, locals := 42 }).room s m args below meth c H locs 0 0 Q (F0 m 76 ls [])) → W p l e (headSpec (.code yX2_shapeAnew cX2_shapeAnew 4 none :: wsG) { frames := 2, cells := 0, slots := 0, locals := 42 }).room s m args below meth c H locs 0 0 Q (F0 m 34 ls []) := by
  obtain ⟨hx, hb, hml, hown, hts⟩ := id S
  intro k
  induction k with
  | zero =>
    intro v3 cn nx o_v3 o_cn o_nx hf
    cases hf
  | succ k ih =>
    intro v3 cn nx o_v3 o_cn o_nx hf H locs ls hP hD hS hl kk
    obtain ⟨z, hf, hz⟩ := lp_inv hf
    have hf : st_X2_shapeAnew_L34 v1 v2 v3 cn nx = some z := hf
    unfold st_X2_shapeAnew_L34 at hf
    refine lv_iload_n hx hb dX2_shapeAnew_34 rfl (lv_at hl 3 rfl) ?_
    refine lv_iconst (v := 2) hx hb dX2_shapeAnew_35 (by decide) ?_
    refine lv_icmp_ge (tgt := 76) hx hb dX2_shapeAnew_36 (by decide) (fun c_2 => ?_) (fun c_2 => ?_)
    · rw [if_pos c_2] at hf
      have hf := Option.some.inj hf
      subst hf
      obtain ⟨e_0, e_r⟩ := Prod.mk.inj (lpC_r hz)
      obtain ⟨e_1, e_2⟩ := Prod.mk.inj (e_r)
      subst e_0
      subst e_1
      subst e_2
      exact kk H locs ls hP hD hS (lv_sub hl [0, 1, 2, 3] rfl)
    · rw [if_neg c_2] at hf
      refine lv_aload_n hx hb dX2_shapeAnew_39 rfl (lv_at hl 0 rfl) ?_
      refine va_get (D := D) (ci := 2) (v := .ref qc) (C := RX2) (T := TX2) (N := 11) hx hb hts inGX2 hown hK hP 0 rfl rfl 1 (by decide) (hts _ fl_X2_14) (fun _ h9 => h9) rfl dX2_shapeAnew_40 ?_
      refine lv_iload_n hx hb dX2_shapeAnew_43 rfl (lv_at hl 2 rfl) ?_
      refine lv_iload_n hx hb dX2_shapeAnew_44 rfl (lv_at hl 3 rfl) ?_
      refine k_roSi (As := [.int v2, .int v3]) (rest := [.ref qc]) S (c_X2_path l D cI (x1 := v2) (x2 := v3)  (r := (f_X2_path v2 v3)) (hf := rfl)) gs_X2_67 ok_X2_path ⟨rfl, rfl⟩ ⟨Nat.le_of_ble_eq_true rfl, Nat.le_of_ble_eq_true rfl⟩ hK hN (sfr hSF hS) (hP.sub [] rfl) rfl hl.1 rfl (Nat.le_of_ble_eq_true rfl) ⟨Nat.zero_le _, Nat.zero_le _⟩ dX2_shapeAnew_45 ?_
      refine lv_iconst (v := 1) hx hb dX2_shapeAnew_48 (by decide) ?_
      refine k_rwVv (As := [.int (f_X2_path v2 v3), .int 1]) (rest := []) (Wr := [(q, .inr (2, [.ref qs, .ref qc, .ref qn, .ref qo, .ref ql, .ref qf, .int st, .int he, .int ta, .int cl, .int dr])), (qn, .inr (4, [.ref qna])), (qna, .inl (cI, 500, .inl nx)), (qo, .inr (4, [.ref qoa])), (qoa, .inl (cI, 250, .inl og)), (ql, .inr (4, [.ref qla])), (qla, .inl (cI, 250, .inl li)), (qf, .inr (4, [.ref qfa])), (qfa, .inl (cI, 250, .inl fl)), (qs, .inr (5, [.ref qsr])), (qsr, .inr (4, [.ref qsa])), (qsa, .inl (cI, 5, .inl sv))]) (W2 := [(q, .inr (2, [.ref qs, .ref qc, .ref qn, .ref qo, .ref ql, .ref qf, .int st, .int he, .int ta, .int cl, .int dr])), (qc, .inr (4, [.ref qca])), (qca, .inl (cI, 500, .inl (f_X4_put 500 cn (f_X2_path v2 v3) 1))), (qn, .inr (4, [.ref qna])), (qna, .inl (cI, 500, .inl nx)), (qo, .inr (4, [.ref qoa])), (qoa, .inl (cI, 250, .inl og)), (ql, .inr (4, [.ref qla])), (qla, .inl (cI, 250, .inl li)), (qf, .inr (4, [.ref qfa])), (qfa, .inl (cI, 250, .inl fl)), (qs, .inr (5, [.ref qsr])), (qsr, .inr (4, [.ref qsa])), (qsa, .inl (cI, 5, .inl sv))]) S (c_X4_put l D cI (q := qc) (qa := qca) (n := 500) (f := cn) (x1 := (f_X2_path v2 v3)) (x2 := 1) (hn := by decide) (o_f := (f_X4_put 500 cn (f_X2_path v2 v3) 1)) (hf := rfl)) gs_X2_71 ok_X4_put ⟨rfl, rfl⟩ ⟨Nat.le_of_ble_eq_true rfl, Nat.le_of_ble_eq_true rfl⟩ hK hN hSF hP hD hS hA [1, 2] [0, 3, 4, 5, 6, 7, 8, 9, 10, 11, 12, 13] [0, 12, 13, 1, 2, 3, 4, 5, 6, 7, 8, 9, 10, 11] (by decide) rfl rfl (by decide) (by decide) rfl (by decide) rfl rfl rfl hl.1 rfl (Nat.le_of_ble_eq_true rfl) ⟨Nat.zero_le _, Nat.zero_le _⟩ dX2_shapeAnew_49 (fun H locs hP hD hS => ?_)
      refine lv_aload_n hx hb dX2_shapeAnew_52 rfl (lv_at hl 0 rfl) ?_
      refine va_get (D := D) (ci := 2) (v := .ref qn) (C := RX2) (T := TX2) (N := 11) hx hb hts inGX2 hown hK hP 0 rfl rfl 2 (by decide) (hts _ fl_X2_20) (fun _ h9 => h9) rfl dX2_shapeAnew_53 ?_
      refine lv_iload_n hx hb dX2_shapeAnew_56 rfl (lv_at hl 2 rfl) ?_
      refine lv_iload_n hx hb dX2_shapeAnew_57 rfl (lv_at hl 3 rfl) ?_
      refine k_roSi (As := [.int v2, .int v3]) (rest := [.ref qn]) S (c_X2_path l D cI (x1 := v2) (x2 := v3)  (r := (f_X2_path v2 v3)) (hf := rfl)) gs_X2_67 ok_X2_path ⟨rfl, rfl⟩ ⟨Nat.le_of_ble_eq_true rfl, Nat.le_of_ble_eq_true rfl⟩ hK hN (sfr hSF hS) (hP.sub [] rfl) rfl hl.1 rfl (Nat.le_of_ble_eq_true rfl) ⟨Nat.zero_le _, Nat.zero_le _⟩ dX2_shapeAnew_58 ?_
      refine lv_iload_n hx hb dX2_shapeAnew_61 rfl (lv_at hl 1 rfl) ?_
      refine lv_iload_n hx hb dX2_shapeAnew_62 rfl (lv_at hl 2 rfl) ?_
      refine lv_iload_n hx hb dX2_shapeAnew_63 rfl (lv_at hl 3 rfl) ?_
      refine k_roSi (As := [.int v1, .int v2, .int v3]) (rest := [.int (f_X2_path v2 v3), .ref qn]) S (c_X2_nextAtFirst l D cI (x1 := v1) (x2 := v2) (x3 := v3)  (r := (f_X2_nextAtFirst v1 v2 v3)) (hf := rfl)) gs_X2_75 ok_X2_nextAtFirst ⟨rfl, rfl⟩ ⟨Nat.le_of_ble_eq_true rfl, Nat.le_of_ble_eq_true rfl⟩ hK hN (sfr hSF hS) (hP.sub [] rfl) rfl hl.1 rfl (Nat.le_of_ble_eq_true rfl) ⟨Nat.zero_le _, Nat.zero_le _⟩ dX2_shapeAnew_64 ?_
      refine k_rwVv (As := [.int (f_X2_path v2 v3), .int (f_X2_nextAtFirst v1 v2 v3)]) (rest := []) (Wr := [(q, .inr (2, [.ref qs, .ref qc, .ref qn, .ref qo, .ref ql, .ref qf, .int st, .int he, .int ta, .int cl, .int dr])), (qc, .inr (4, [.ref qca])), (qca, .inl (cI, 500, .inl (f_X4_put 500 cn (f_X2_path v2 v3) 1))), (qo, .inr (4, [.ref qoa])), (qoa, .inl (cI, 250, .inl og)), (ql, .inr (4, [.ref qla])), (qla, .inl (cI, 250, .inl li)), (qf, .inr (4, [.ref qfa])), (qfa, .inl (cI, 250, .inl fl)), (qs, .inr (5, [.ref qsr])), (qsr, .inr (4, [.ref qsa])), (qsa, .inl (cI, 5, .inl sv))]) (W2 := [(q, .inr (2, [.ref qs, .ref qc, .ref qn, .ref qo, .ref ql, .ref qf, .int st, .int he, .int ta, .int cl, .int dr])), (qc, .inr (4, [.ref qca])), (qca, .inl (cI, 500, .inl (f_X4_put 500 cn (f_X2_path v2 v3) 1))), (qn, .inr (4, [.ref qna])), (qna, .inl (cI, 500, .inl (f_X4_put 500 nx (f_X2_path v2 v3) (f_X2_nextAtFirst v1 v2 v3)))), (qo, .inr (4, [.ref qoa])), (qoa, .inl (cI, 250, .inl og)), (ql, .inr (4, [.ref qla])), (qla, .inl (cI, 250, .inl li)), (qf, .inr (4, [.ref qfa])), (qfa, .inl (cI, 250, .inl fl)), (qs, .inr (5, [.ref qsr])), (qsr, .inr (4, [.ref qsa])), (qsa, .inl (cI, 5, .inl sv))]) S (c_X4_put l D cI (q := qn) (qa := qna) (n := 500) (f := nx) (x1 := (f_X2_path v2 v3)) (x2 := (f_X2_nextAtFirst v1 v2 v3)) (hn := by decide) (o_f := (f_X4_put 500 nx (f_X2_path v2 v3) (f_X2_nextAtFirst v1 v2 v3))) (hf := rfl)) gs_X2_71 ok_X4_put ⟨rfl, rfl⟩ ⟨Nat.le_of_ble_eq_true rfl, Nat.le_of_ble_eq_true rfl⟩ hK hN hSF hP hD hS hA [3, 4] [0, 1, 2, 5, 6, 7, 8, 9, 10, 11, 12, 13] [0, 1, 2, 12, 13, 3, 4, 5, 6, 7, 8, 9, 10, 11] (by decide) rfl rfl (by decide) (by decide) rfl (by decide) rfl rfl rfl hl.1 rfl (Nat.le_of_ble_eq_true rfl) ⟨Nat.zero_le _, Nat.zero_le _⟩ dX2_shapeAnew_67 (fun H locs hP hD hS => ?_)
      refine lv_iinc (v := v3 + 1) (lv' := [(3, .int (v3 + 1)), (0, .ref q), (1, .int v1), (2, .int v2)]) hx hb dX2_shapeAnew_70 hl (k := 3) rfl rfl (by decide) rfl (fun ls hl => ?_)
      refine lv_goto (tgt := 34) hx hb dX2_shapeAnew_73 (by decide) ?_
      have hf := Option.some.inj hf
      subst hf
      exact ih (v3 + 1) (f_X4_put 500 cn (f_X2_path v2 v3) 1) (f_X4_put 500 nx (f_X2_path v2 v3) (f_X2_nextAtFirst v1 v2 v3)) _ _ _ hz H locs ls hP hD hS (lv_sub hl [1, 2, 3, 0] rfl) kk
def st_X2_shapeAnew_L24 (v1 : Int32) (st : Int32) (v2 : Int32) (cn : (Nat → Int32)) (nx : (Nat → Int32)) (og : (Nat → Int32)) (li : (Nat → Int32)) : Option ((Int32 × (Nat → Int32) × (Nat → Int32) × (Nat → Int32) × (Nat → Int32)) ⊕ (Int32 × (Nat → Int32) × (Nat → Int32) × (Nat → Int32) × (Nat → Int32))) := if st ≤ v2 then (some (Sum.inr (v2, cn, nx, og, li))) else (bi3 (f_X2_shapeAnew_L34 v1 v2 4096 0 cn nx) (fun (v3_3 : Int32) (cn_4 : (Nat → Int32)) (nx_5 : (Nat → Int32)) => some (Sum.inl (v2 + 1, cn_4, nx_5, (f_X4_put 250 og v2 (-4)), (f_X4_put 250 li v2 0)))))
def f_X2_shapeAnew_L24 (v1 : Int32) (st : Int32) (k : Nat) (v2 : Int32) (cn : (Nat → Int32)) (nx : (Nat → Int32)) (og : (Nat → Int32)) (li : (Nat → Int32)) : Option (Int32 × (Nat → Int32) × (Nat → Int32) × (Nat → Int32) × (Nat → Int32)) := lpN (fun z => st_X2_shapeAnew_L24 v1 st z.1 z.2.1 z.2.2.1 z.2.2.2.1 z.2.2.2.2) k (v2, cn, nx, og, li)
set_option maxHeartbeats 4000000 in
set_option maxRecDepth 100000 in
theorem L_X2_shapeAnew_24 {p : Program} {l : Launch} {e : Env} {s : State} {m : MethodId} {args : Array Value} {below : List Frame} {meth : Method} {c : Code} {Q : State → Prop} {D : va_G} {cI : ClassId} {q : Nat} {qs : Nat} {qc : Nat} {qn : Nat} {qo : Nat} {ql : Nat} {qf : Nat} {qca : Nat} {qna : Nat} {qoa : Nat} {qla : Nat} {qfa : Nat} {qsr : Nat} {qsa : Nat} {v1 : Int32} {st : Int32} {he : Int32} {ta : Int32} {cl : Int32} {dr : Int32} {fl : (Nat → Int32)} {sv : (Nat → Int32)} {A : Nat → Prop} (S : CallFix p m c cX2_shapeAnew 4 s args wsG RX2) (hK : va_K D vwCl [(cI, .int)] s) (hN : nw s) (hSF : sf A s s.heap) (hA : ∀ q, s.heap.size ≤ q → A q) : ∀ (k : Nat) (v2 : Int32) (cn : (Nat → Int32)) (nx : (Nat → Int32)) (og : (Nat → Int32)) (li : (Nat → Int32)) (o_v2 : Int32) (o_cn : (Nat → Int32)) (o_nx : (Nat → Int32)) (o_og : (Nat → Int32)) (o_li : (Nat → Int32)), f_X2_shapeAnew_L24 v1 st k v2 cn nx og li = some (o_v2, o_cn, o_nx, o_og, o_li) → ∀ (H : Heap) (locs : List Loc) (ls : Array Slot), va_P D vwCl [(q, .inr (2, [.ref qs, .ref qc, .ref qn, .ref qo, .ref ql, .ref qf, .int st, .int he, .int ta, .int cl, .int dr])), (qc, .inr (4, [.ref qca])), (qca, .inl (cI, 500, .inl cn)), (qn, .inr (4, [.ref qna])), (qna, .inl (cI, 500, .inl nx)), (qo, .inr (4, [.ref qoa])), (qoa, .inl (cI, 250, .inl og)), (ql, .inr (4, [.ref qla])), (qla, .inl (cI, 250, .inl li)), (qf, .inr (4, [.ref qfa])), (qfa, .inl (cI, 250, .inl fl)), (qs, .inr (5, [.ref qsr])), (qsr, .inr (4, [.ref qsa])), (qsa, .inl (cI, 5, .inl sv))] H → va_D A [(q, .inr (2, [.ref qs, .ref qc, .ref qn, .ref qo, .ref ql, .ref qf, .int st, .int he, .int ta, .int cl, .int dr])), (qc, .inr (4, [.ref qca])), (qca, .inl (cI, 500, .inl cn)), (qn, .inr (4, [.ref qna])), (qna, .inl (cI, 500, .inl nx)), (qo, .inr (4, [.ref qoa])), (qoa, .inl (cI, 250, .inl og)), (ql, .inr (4, [.ref qla])), (qla, .inl (cI, 250, .inl li)), (qf, .inr (4, [.ref qfa])), (qfa, .inl (cI, 250, .inl fl)), (qs, .inr (5, [.ref qsr])), (qsr, .inr (4, [.ref qsa])), (qsa, .inl (cI, 5, .inl sv))] → va_S A s.heap H locs → lv_has ls 4 [(0, .ref q), (1, .int v1), (2, .int v2)] → (∀ (H : Heap) (locs : List Loc) (ls : Array Slot), va_P D vwCl [(q, .inr (2, [.ref qs, .ref qc, .ref qn, .ref qo, .ref ql, .ref qf, .int st, .int he, .int ta, .int cl, .int dr])), (qc, .inr (4, [.ref qca])), (qca, .inl (cI, 500, .inl o_cn)), (qn, .inr (4, [.ref qna])), (qna, .inl (cI, 500, .inl o_nx)), (qo, .inr (4, [.ref qoa])), (qoa, .inl (cI, 250, .inl o_og)), (ql, .inr (4, [.ref qla])), (qla, .inl (cI, 250, .inl o_li)), (qf, .inr (4, [.ref qfa])), (qfa, .inl (cI, 250, .inl fl)), (qs, .inr (5, [.ref qsr])), (qsr, .inr (4, [.ref qsa])), (qsa, .inl (cI, 5, .inl sv))] H → va_D A [(q, .inr (2, [.ref qs, .ref qc, .ref qn, .ref qo, .ref ql, .ref qf, .int st, .int he, .int ta, .int cl, .int dr])), (qc, .inr (4, [.ref qca])), (qca, .inl (cI, 500, .inl o_cn)), (qn, .inr (4, [.ref qna])), (qna, .inl (cI, 500, .inl o_nx)), (qo, .inr (4, [.ref qoa])), (qoa, .inl (cI, 250, .inl o_og)), (ql, .inr (4, [.ref qla])), (qla, .inl (cI, 250, .inl o_li)), (qf, .inr (4, [.ref qfa])), (qfa, .inl (cI, 250, .inl fl)), (qs, .inr (5, [.ref qsr])), (qsr, .inr (4, [.ref qsa])), (qsa, .inl (cI, 5, .inl sv))] → va_S A s.heap H locs → lv_has ls 4 [(0, .ref q), (1, .int v1), (2, .int o_v2)] → W p l e (headSpec (.code yX2_shapeAnew cX2_shapeAnew 4 none :: wsG) { frames := 2, cells := 0, slots := 0, locals := 42 }).room s m args below meth c H locs 0 0 Q (F0 m 101 ls [])) → W p l e (headSpec (.code yX2_shapeAnew cX2_shapeAnew 4 none :: wsG) { frames := 2, cells := 0, slots := 0, locals := 42 }).room s m args below meth c H locs 0 0 Q (F0 m 24 ls []) := by
  obtain ⟨hx, hb, hml, hown, hts⟩ := id S
  intro k
  induction k with
  | zero =>
    intro v2 cn nx og li o_v2 o_cn o_nx o_og o_li hf
    cases hf
  | succ k ih =>
    intro v2 cn nx og li o_v2 o_cn o_nx o_og o_li hf H locs ls hP hD hS hl kk
    obtain ⟨z, hf, hz⟩ := lp_inv hf
    have hf : st_X2_shapeAnew_L24 v1 st v2 cn nx og li = some z := hf
    unfold st_X2_shapeAnew_L24 at hf
    refine lv_iload_n hx hb dX2_shapeAnew_24 rfl (lv_at hl 2 rfl) ?_
    refine lv_aload_n hx hb dX2_shapeAnew_25 rfl (lv_at hl 0 rfl) ?_
    refine va_get (D := D) (ci := 2) (v := .int st) (C := RX2) (T := TX2) (N := 11) hx hb hts inGX2 hown hK hP 0 rfl rfl 6 (by decide) (hts _ fl_X2_61) (fun _ h9 => h9) rfl dX2_shapeAnew_26 ?_
    refine lv_icmp_ge (tgt := 101) hx hb dX2_shapeAnew_29 (by decide) (fun c_1 => ?_) (fun c_1 => ?_)
    · rw [if_pos c_1] at hf
      have hf := Option.some.inj hf
      subst hf
      obtain ⟨e_0, e_r⟩ := Prod.mk.inj (lpC_r hz)
      obtain ⟨e_1, e_r⟩ := Prod.mk.inj (e_r)
      obtain ⟨e_2, e_r⟩ := Prod.mk.inj (e_r)
      obtain ⟨e_3, e_4⟩ := Prod.mk.inj (e_r)
      subst e_0
      subst e_1
      subst e_2
      subst e_3
      subst e_4
      exact kk H locs ls hP hD hS (lv_sub hl [0, 1, 2] rfl)
    · rw [if_neg c_1] at hf
      refine lv_iconst (v := 0) hx hb dX2_shapeAnew_32 (by decide) ?_
      refine lv_istore_n (lv' := [(3, .int 0), (0, .ref q), (1, .int v1), (2, .int v2)]) hx hb dX2_shapeAnew_33 rfl hl (by decide) rfl (fun ls hl => ?_)
      obtain ⟨v3_3, cn_4, nx_5, hc_6, hf⟩ := bd3 hf
      refine L_X2_shapeAnew_34 S hK hN hSF hA _ 0 cn nx v3_3 cn_4 nx_5 hc_6 _ _ _ hP hD hS (lv_sub hl [1, 2, 3, 0] rfl) (fun H locs ls hP hD hS hl => ?_)
      refine lv_aload_n hx hb dX2_shapeAnew_76 rfl (lv_at hl 0 rfl) ?_
      refine va_get (D := D) (ci := 2) (v := .ref qo) (C := RX2) (T := TX2) (N := 11) hx hb hts inGX2 hown hK hP 0 rfl rfl 3 (by decide) (hts _ fl_X2_23) (fun _ h9 => h9) rfl dX2_shapeAnew_77 ?_
      refine lv_iload_n hx hb dX2_shapeAnew_80 rfl (lv_at hl 2 rfl) ?_
      refine lv_bipush (v := (-4)) hx hb dX2_shapeAnew_81 (by decide) ?_
      refine k_rwVv (As := [.int v2, .int (-4)]) (rest := []) (Wr := [(q, .inr (2, [.ref qs, .ref qc, .ref qn, .ref qo, .ref ql, .ref qf, .int st, .int he, .int ta, .int cl, .int dr])), (qc, .inr (4, [.ref qca])), (qca, .inl (cI, 500, .inl cn_4)), (qn, .inr (4, [.ref qna])), (qna, .inl (cI, 500, .inl nx_5)), (ql, .inr (4, [.ref qla])), (qla, .inl (cI, 250, .inl li)), (qf, .inr (4, [.ref qfa])), (qfa, .inl (cI, 250, .inl fl)), (qs, .inr (5, [.ref qsr])), (qsr, .inr (4, [.ref qsa])), (qsa, .inl (cI, 5, .inl sv))]) (W2 := [(q, .inr (2, [.ref qs, .ref qc, .ref qn, .ref qo, .ref ql, .ref qf, .int st, .int he, .int ta, .int cl, .int dr])), (qc, .inr (4, [.ref qca])), (qca, .inl (cI, 500, .inl cn_4)), (qn, .inr (4, [.ref qna])), (qna, .inl (cI, 500, .inl nx_5)), (qo, .inr (4, [.ref qoa])), (qoa, .inl (cI, 250, .inl (f_X4_put 250 og v2 (-4)))), (ql, .inr (4, [.ref qla])), (qla, .inl (cI, 250, .inl li)), (qf, .inr (4, [.ref qfa])), (qfa, .inl (cI, 250, .inl fl)), (qs, .inr (5, [.ref qsr])), (qsr, .inr (4, [.ref qsa])), (qsa, .inl (cI, 5, .inl sv))]) S (c_X4_put l D cI (q := qo) (qa := qoa) (n := 250) (f := og) (x1 := v2) (x2 := (-4)) (hn := by decide) (o_f := (f_X4_put 250 og v2 (-4))) (hf := rfl)) gs_X2_71 ok_X4_put ⟨rfl, rfl⟩ ⟨Nat.le_of_ble_eq_true rfl, Nat.le_of_ble_eq_true rfl⟩ hK hN hSF hP hD hS hA [5, 6] [0, 1, 2, 3, 4, 7, 8, 9, 10, 11, 12, 13] [0, 1, 2, 3, 4, 12, 13, 5, 6, 7, 8, 9, 10, 11] (by decide) rfl rfl (by decide) (by decide) rfl (by decide) rfl rfl rfl hl.1 rfl (Nat.le_of_ble_eq_true rfl) ⟨Nat.zero_le _, Nat.zero_le _⟩ dX2_shapeAnew_83 (fun H locs hP hD hS => ?_)
      refine lv_aload_n hx hb dX2_shapeAnew_86 rfl (lv_at hl 0 rfl) ?_
      refine va_get (D := D) (ci := 2) (v := .ref ql) (C := RX2) (T := TX2) (N := 11) hx hb hts inGX2 hown hK hP 0 rfl rfl 4 (by decide) (hts _ fl_X2_26) (fun _ h9 => h9) rfl dX2_shapeAnew_87 ?_
      refine lv_iload_n hx hb dX2_shapeAnew_90 rfl (lv_at hl 2 rfl) ?_
      refine lv_iconst (v := 0) hx hb dX2_shapeAnew_91 (by decide) ?_
      refine k_rwVv (As := [.int v2, .int 0]) (rest := []) (Wr := [(q, .inr (2, [.ref qs, .ref qc, .ref qn, .ref qo, .ref ql, .ref qf, .int st, .int he, .int ta, .int cl, .int dr])), (qc, .inr (4, [.ref qca])), (qca, .inl (cI, 500, .inl cn_4)), (qn, .inr (4, [.ref qna])), (qna, .inl (cI, 500, .inl nx_5)), (qo, .inr (4, [.ref qoa])), (qoa, .inl (cI, 250, .inl (f_X4_put 250 og v2 (-4)))), (qf, .inr (4, [.ref qfa])), (qfa, .inl (cI, 250, .inl fl)), (qs, .inr (5, [.ref qsr])), (qsr, .inr (4, [.ref qsa])), (qsa, .inl (cI, 5, .inl sv))]) (W2 := [(q, .inr (2, [.ref qs, .ref qc, .ref qn, .ref qo, .ref ql, .ref qf, .int st, .int he, .int ta, .int cl, .int dr])), (qc, .inr (4, [.ref qca])), (qca, .inl (cI, 500, .inl cn_4)), (qn, .inr (4, [.ref qna])), (qna, .inl (cI, 500, .inl nx_5)), (qo, .inr (4, [.ref qoa])), (qoa, .inl (cI, 250, .inl (f_X4_put 250 og v2 (-4)))), (ql, .inr (4, [.ref qla])), (qla, .inl (cI, 250, .inl (f_X4_put 250 li v2 0))), (qf, .inr (4, [.ref qfa])), (qfa, .inl (cI, 250, .inl fl)), (qs, .inr (5, [.ref qsr])), (qsr, .inr (4, [.ref qsa])), (qsa, .inl (cI, 5, .inl sv))]) S (c_X4_put l D cI (q := ql) (qa := qla) (n := 250) (f := li) (x1 := v2) (x2 := 0) (hn := by decide) (o_f := (f_X4_put 250 li v2 0)) (hf := rfl)) gs_X2_71 ok_X4_put ⟨rfl, rfl⟩ ⟨Nat.le_of_ble_eq_true rfl, Nat.le_of_ble_eq_true rfl⟩ hK hN hSF hP hD hS hA [7, 8] [0, 1, 2, 3, 4, 5, 6, 9, 10, 11, 12, 13] [0, 1, 2, 3, 4, 5, 6, 12, 13, 7, 8, 9, 10, 11] (by decide) rfl rfl (by decide) (by decide) rfl (by decide) rfl rfl rfl hl.1 rfl (Nat.le_of_ble_eq_true rfl) ⟨Nat.zero_le _, Nat.zero_le _⟩ dX2_shapeAnew_92 (fun H locs hP hD hS => ?_)
      refine lv_iinc (v := v2 + 1) (lv' := [(2, .int (v2 + 1)), (0, .ref q), (1, .int v1), (3, .int v3_3)]) hx hb dX2_shapeAnew_95 hl (k := 2) rfl rfl (by decide) rfl (fun ls hl => ?_)
      refine lv_goto (tgt := 24) hx hb dX2_shapeAnew_98 (by decide) ?_
      have hf := Option.some.inj hf
      subst hf
      exact ih (v2 + 1) cn_4 nx_5 (f_X4_put 250 og v2 (-4)) (f_X4_put 250 li v2 0) _ _ _ _ _ hz H locs ls hP hD hS (lv_sub hl [1, 2, 0] rfl) kk
def f_X2_shapeAnew (cn : (Nat → Int32)) (nx : (Nat → Int32)) (og : (Nat → Int32)) (li : (Nat → Int32)) (sv : (Nat → Int32)) : Option (Int32 × Int32 × (Nat → Int32) × (Nat → Int32) × (Nat → Int32) × (Nat → Int32)) := bi5 (f_X2_shapeAnew_L24 (f_X5_get sv 0) (f_X2_statesAtFirst (f_X5_get sv 0)) 4096 0 cn nx og li) (fun (v2_7 : Int32) (cn_8 : (Nat → Int32)) (nx_9 : (Nat → Int32)) (og_10 : (Nat → Int32)) (li_11 : (Nat → Int32)) => some ((f_X2_statesAtFirst (f_X5_get sv 0)), 0, cn_8, nx_9, og_10, li_11))
set_option maxHeartbeats 4000000 in
set_option maxRecDepth 100000 in
theorem c_X2_shapeAnew (l : Launch) (D : va_G) (cI : ClassId) {sz : Nat} (q : Nat) (qs : Nat) (qc : Nat) (qn : Nat) (qo : Nat) (ql : Nat) (qf : Nat) (qca : Nat) (qna : Nat) (qoa : Nat) (qla : Nat) (qfa : Nat) (qsr : Nat) (qsa : Nat) (st : Int32) (he : Int32) (ta : Int32) (cl : Int32) (dr : Int32) (cn : (Nat → Int32)) (nx : (Nat → Int32)) (og : (Nat → Int32)) (li : (Nat → Int32)) (fl : (Nat → Int32)) (sv : (Nat → Int32)) (o_st : Int32) (o_he : Int32) (o_cn : (Nat → Int32)) (o_nx : (Nat → Int32)) (o_og : (Nat → Int32)) (o_li : (Nat → Int32)) (hf : f_X2_shapeAnew cn nx og li sv = some (o_st, o_he, o_cn, o_nx, o_og, o_li)) : Met l yX2_shapeAnew (.code yX2_shapeAnew cX2_shapeAnew 4 none :: wsG) ({ frames := 2, cells := 0, slots := 0, locals := 42 }) (va_Pc [.ref q] (gv D cI sz [(q, .inr (2, [.ref qs, .ref qc, .ref qn, .ref qo, .ref ql, .ref qf, .int st, .int he, .int ta, .int cl, .int dr])), (qc, .inr (4, [.ref qca])), (qca, .inl (cI, 500, .inl cn)), (qn, .inr (4, [.ref qna])), (qna, .inl (cI, 500, .inl nx)), (qo, .inr (4, [.ref qoa])), (qoa, .inl (cI, 250, .inl og)), (ql, .inr (4, [.ref qla])), (qla, .inl (cI, 250, .inl li)), (qf, .inr (4, [.ref qfa])), (qfa, .inl (cI, 250, .inl fl)), (qs, .inr (5, [.ref qsr])), (qsr, .inr (4, [.ref qsa])), (qsa, .inl (cI, 5, .inl sv))])) (va_Qv (fun (_ : Unit) => True) (gz D (va_A [(q, .inr (2, [.ref qs, .ref qc, .ref qn, .ref qo, .ref ql, .ref qf, .int st, .int he, .int ta, .int cl, .int dr])), (qc, .inr (4, [.ref qca])), (qca, .inl (cI, 500, .inl cn)), (qn, .inr (4, [.ref qna])), (qna, .inl (cI, 500, .inl nx)), (qo, .inr (4, [.ref qoa])), (qoa, .inl (cI, 250, .inl og)), (ql, .inr (4, [.ref qla])), (qla, .inl (cI, 250, .inl li)), (qf, .inr (4, [.ref qfa])), (qfa, .inl (cI, 250, .inl fl)), (qs, .inr (5, [.ref qsr])), (qsr, .inr (4, [.ref qsa])), (qsa, .inl (cI, 5, .inl sv))] sz) [(q, .inr (2, [.ref qs, .ref qc, .ref qn, .ref qo, .ref ql, .ref qf, .int o_st, .int o_he, .int ta, .int cl, .int dr])), (qc, .inr (4, [.ref qca])), (qca, .inl (cI, 500, .inl o_cn)), (qn, .inr (4, [.ref qna])), (qna, .inl (cI, 500, .inl o_nx)), (qo, .inr (4, [.ref qoa])), (qoa, .inl (cI, 250, .inl o_og)), (ql, .inr (4, [.ref qla])), (qla, .inl (cI, 250, .inl o_li)), (qf, .inr (4, [.ref qfa])), (qfa, .inl (cI, 250, .inl fl)), (qs, .inr (5, [.ref qsr])), (qsr, .inr (4, [.ref qsa])), (qsa, .inl (cI, 5, .inl sv))]) (va_A [(q, .inr (2, [.ref qs, .ref qc, .ref qn, .ref qo, .ref ql, .ref qf, .int st, .int he, .int ta, .int cl, .int dr])), (qc, .inr (4, [.ref qca])), (qca, .inl (cI, 500, .inl cn)), (qn, .inr (4, [.ref qna])), (qna, .inl (cI, 500, .inl nx)), (qo, .inr (4, [.ref qoa])), (qoa, .inl (cI, 250, .inl og)), (ql, .inr (4, [.ref qla])), (qla, .inl (cI, 250, .inl li)), (qf, .inr (4, [.ref qfa])), (qfa, .inl (cI, 250, .inl fl)), (qs, .inr (5, [.ref qsr])), (qsr, .inr (4, [.ref qsa])), (qsa, .inl (cI, 5, .inl sv))] sz)) 0 0 (va_A [(q, .inr (2, [.ref qs, .ref qc, .ref qn, .ref qo, .ref ql, .ref qf, .int st, .int he, .int ta, .int cl, .int dr])), (qc, .inr (4, [.ref qca])), (qca, .inl (cI, 500, .inl cn)), (qn, .inr (4, [.ref qna])), (qna, .inl (cI, 500, .inl nx)), (qo, .inr (4, [.ref qoa])), (qoa, .inl (cI, 250, .inl og)), (ql, .inr (4, [.ref qla])), (qla, .inl (cI, 250, .inl li)), (qf, .inr (4, [.ref qfa])), (qfa, .inl (cI, 250, .inl fl)), (qs, .inr (5, [.ref qsr])), (qsr, .inr (4, [.ref qsa])), (qsa, .inl (cI, 5, .inl sv))] sz) := by
  refine k_rw (y := yX2_shapeAnew) (cc := cX2_shapeAnew) (maxL := 4) (ret := none) (As := [.ref q]) (Qc := fun A => va_Qv (fun (_ : Unit) => True) (gz D A [(q, .inr (2, [.ref qs, .ref qc, .ref qn, .ref qo, .ref ql, .ref qf, .int o_st, .int o_he, .int ta, .int cl, .int dr])), (qc, .inr (4, [.ref qca])), (qca, .inl (cI, 500, .inl o_cn)), (qn, .inr (4, [.ref qna])), (qna, .inl (cI, 500, .inl o_nx)), (qo, .inr (4, [.ref qoa])), (qoa, .inl (cI, 250, .inl o_og)), (ql, .inr (4, [.ref qla])), (qla, .inl (cI, 250, .inl o_li)), (qf, .inr (4, [.ref qfa])), (qfa, .inl (cI, 250, .inl fl)), (qs, .inr (5, [.ref qsr])), (qsr, .inr (4, [.ref qsa])), (qsa, .inl (cI, 5, .inl sv))]) A) (by decide) rfl (Nat.le_of_ble_eq_true rfl) rfl ?_
  intro p e s m below meth c ls A S hret hloc hK hN hSF hP hD hS hA hl
  obtain ⟨hx, hb, hml, hown, hts⟩ := id S
  unfold f_X2_shapeAnew at hf
  refine lv_aload_n hx hb dX2_shapeAnew_0 rfl (lv_at hl 0 rfl) ?_
  refine va_get (D := D) (ci := 2) (v := .ref qs) (C := RX2) (T := TX2) (N := 11) hx hb hts inGX2 hown hK hP 0 rfl rfl 0 (by decide) (hts _ fl_X2_32) (fun _ h9 => h9) rfl dX2_shapeAnew_1 ?_
  refine lv_iconst (v := 0) hx hb dX2_shapeAnew_4 (by decide) ?_
  refine k_roVi (As := [.int 0]) (rest := []) S (c_X5_get l D cI (q := qs) (qr := qsr) (qa := qsa) (sv := sv) (x1 := 0)  (r := (f_X5_get sv 0)) (hf := rfl)) gs_X2_52 ok_X5_get ⟨rfl, rfl⟩ ⟨Nat.le_of_ble_eq_true rfl, Nat.le_of_ble_eq_true rfl⟩ hK hN (sfr hSF hS) (hP.sub [11, 12, 13] rfl) rfl rfl rfl hl.1 rfl (Nat.le_of_ble_eq_true rfl) ⟨Nat.zero_le _, Nat.zero_le _⟩ dX2_shapeAnew_5 ?_
  refine lv_istore_n (lv' := [(1, .int (f_X5_get sv 0)), (0, .ref q)]) hx hb dX2_shapeAnew_8 rfl hl (by decide) rfl (fun ls hl => ?_)
  refine lv_aload_n hx hb dX2_shapeAnew_9 rfl (lv_at hl 1 rfl) ?_
  refine lv_iload_n hx hb dX2_shapeAnew_10 rfl (lv_at hl 0 rfl) ?_
  refine k_roSi (As := [.int (f_X5_get sv 0)]) (rest := [.ref q]) S (c_X2_statesAtFirst l D cI (x1 := (f_X5_get sv 0))  (r := (f_X2_statesAtFirst (f_X5_get sv 0))) (hf := rfl)) gs_X2_58 ok_X2_statesAtFirst ⟨rfl, rfl⟩ ⟨Nat.le_of_ble_eq_true rfl, Nat.le_of_ble_eq_true rfl⟩ hK hN (sfr hSF hS) (hP.sub [] rfl) rfl hl.1 rfl (Nat.le_of_ble_eq_true rfl) ⟨Nat.zero_le _, Nat.zero_le _⟩ dX2_shapeAnew_11 ?_
  refine va_put (D := D) (ci := 2) (v := .int (f_X2_statesAtFirst (f_X5_get sv 0))) (ty := .int) (C := RX2) (T := TX2) (N := 11) hx hb hts inGX2 tyX2 tyX2_ok nmX2 hown hK hP hD hS 0 rfl rfl 6 (by decide) (hts _ fl_X2_61) (fun _ h9 => h9) rfl (by decide +kernel) rfl rfl (Nat.le_of_ble_eq_true rfl) dX2_shapeAnew_14 (fun H locs hP hD hS => ?_)
  have hP : va_P D vwCl [(q, .inr (2, [.ref qs, .ref qc, .ref qn, .ref qo, .ref ql, .ref qf, .int (f_X2_statesAtFirst (f_X5_get sv 0)), .int he, .int ta, .int cl, .int dr])), (qc, .inr (4, [.ref qca])), (qca, .inl (cI, 500, .inl cn)), (qn, .inr (4, [.ref qna])), (qna, .inl (cI, 500, .inl nx)), (qo, .inr (4, [.ref qoa])), (qoa, .inl (cI, 250, .inl og)), (ql, .inr (4, [.ref qla])), (qla, .inl (cI, 250, .inl li)), (qf, .inr (4, [.ref qfa])), (qfa, .inl (cI, 250, .inl fl)), (qs, .inr (5, [.ref qsr])), (qsr, .inr (4, [.ref qsa])), (qsa, .inl (cI, 5, .inl sv))] H := hP
  have hD : va_D A [(q, .inr (2, [.ref qs, .ref qc, .ref qn, .ref qo, .ref ql, .ref qf, .int (f_X2_statesAtFirst (f_X5_get sv 0)), .int he, .int ta, .int cl, .int dr])), (qc, .inr (4, [.ref qca])), (qca, .inl (cI, 500, .inl cn)), (qn, .inr (4, [.ref qna])), (qna, .inl (cI, 500, .inl nx)), (qo, .inr (4, [.ref qoa])), (qoa, .inl (cI, 250, .inl og)), (ql, .inr (4, [.ref qla])), (qla, .inl (cI, 250, .inl li)), (qf, .inr (4, [.ref qfa])), (qfa, .inl (cI, 250, .inl fl)), (qs, .inr (5, [.ref qsr])), (qsr, .inr (4, [.ref qsa])), (qsa, .inl (cI, 5, .inl sv))] := hD
  refine lv_aload_n hx hb dX2_shapeAnew_17 rfl (lv_at hl 1 rfl) ?_
  refine lv_iconst (v := 0) hx hb dX2_shapeAnew_18 (by decide) ?_
  refine va_put (D := D) (ci := 2) (v := .int 0) (ty := .int) (C := RX2) (T := TX2) (N := 11) hx hb hts inGX2 tyX2 tyX2_ok nmX2 hown hK hP hD hS 0 rfl rfl 7 (by decide) (hts _ fl_X2_64) (fun _ h9 => h9) rfl (by decide +kernel) rfl rfl (Nat.le_of_ble_eq_true rfl) dX2_shapeAnew_19 (fun H locs hP hD hS => ?_)
  have hP : va_P D vwCl [(q, .inr (2, [.ref qs, .ref qc, .ref qn, .ref qo, .ref ql, .ref qf, .int (f_X2_statesAtFirst (f_X5_get sv 0)), .int 0, .int ta, .int cl, .int dr])), (qc, .inr (4, [.ref qca])), (qca, .inl (cI, 500, .inl cn)), (qn, .inr (4, [.ref qna])), (qna, .inl (cI, 500, .inl nx)), (qo, .inr (4, [.ref qoa])), (qoa, .inl (cI, 250, .inl og)), (ql, .inr (4, [.ref qla])), (qla, .inl (cI, 250, .inl li)), (qf, .inr (4, [.ref qfa])), (qfa, .inl (cI, 250, .inl fl)), (qs, .inr (5, [.ref qsr])), (qsr, .inr (4, [.ref qsa])), (qsa, .inl (cI, 5, .inl sv))] H := hP
  have hD : va_D A [(q, .inr (2, [.ref qs, .ref qc, .ref qn, .ref qo, .ref ql, .ref qf, .int (f_X2_statesAtFirst (f_X5_get sv 0)), .int 0, .int ta, .int cl, .int dr])), (qc, .inr (4, [.ref qca])), (qca, .inl (cI, 500, .inl cn)), (qn, .inr (4, [.ref qna])), (qna, .inl (cI, 500, .inl nx)), (qo, .inr (4, [.ref qoa])), (qoa, .inl (cI, 250, .inl og)), (ql, .inr (4, [.ref qla])), (qla, .inl (cI, 250, .inl li)), (qf, .inr (4, [.ref qfa])), (qfa, .inl (cI, 250, .inl fl)), (qs, .inr (5, [.ref qsr])), (qsr, .inr (4, [.ref qsa])), (qsa, .inl (cI, 5, .inl sv))] := hD
  refine lv_iconst (v := 0) hx hb dX2_shapeAnew_22 (by decide) ?_
  refine lv_istore_n (lv' := [(2, .int 0), (1, .int (f_X5_get sv 0)), (0, .ref q)]) hx hb dX2_shapeAnew_23 rfl hl (by decide) rfl (fun ls hl => ?_)
  obtain ⟨v2_7, cn_8, nx_9, og_10, li_11, hc_12, hf⟩ := bd5 hf
  refine L_X2_shapeAnew_24 S hK hN hSF hA _ 0 cn nx og li v2_7 cn_8 nx_9 og_10 li_11 hc_12 _ _ _ hP hD hS (lv_sub hl [2, 1, 0] rfl) (fun H locs ls hP hD hS hl => ?_)
  obtain ⟨e_0, e_r⟩ := Prod.mk.inj (Option.some.inj hf)
  obtain ⟨e_1, e_r⟩ := Prod.mk.inj (e_r)
  obtain ⟨e_2, e_r⟩ := Prod.mk.inj (e_r)
  obtain ⟨e_3, e_r⟩ := Prod.mk.inj (e_r)
  obtain ⟨e_4, e_5⟩ := Prod.mk.inj (e_r)
  subst e_0
  subst e_1
  subst e_2
  subst e_3
  subst e_4
  subst e_5
  exact k_wretv hx hb hret hloc hP hD hS dX2_shapeAnew_101
theorem dX2_begin_0 : decode cX2_begin 0 = .ok (.aload_n 0, 1) := by decide +kernel
theorem dX2_begin_1 : decode cX2_begin 1 = .ok (.iconst 0, 1) := by decide +kernel
theorem dX2_begin_2 : decode cX2_begin 2 = .ok (.putfield 39, 3) := by decide +kernel
theorem dX2_begin_5 : decode cX2_begin 5 = .ok (.aload_n 0, 1) := by decide +kernel
theorem dX2_begin_6 : decode cX2_begin 6 = .ok (.iconst 0, 1) := by decide +kernel
theorem dX2_begin_7 : decode cX2_begin 7 = .ok (.putfield 43, 3) := by decide +kernel
theorem dX2_begin_10 : decode cX2_begin 10 = .ok (.aload_n 0, 1) := by decide +kernel
theorem dX2_begin_11 : decode cX2_begin 11 = .ok (.iconst 0, 1) := by decide +kernel
theorem dX2_begin_12 : decode cX2_begin 12 = .ok (.putfield 46, 3) := by decide +kernel
theorem dX2_begin_15 : decode cX2_begin 15 = .ok (.aload_n 0, 1) := by decide +kernel
theorem dX2_begin_16 : decode cX2_begin 16 = .ok (.invokevirtual 49, 3) := by decide +kernel
theorem dX2_begin_19 : decode cX2_begin 19 = .ok (.return_, 1) := by decide +kernel
theorem ok_X2_shapeAnew : okV yX2_shapeAnew RX2 0 := by decide +kernel
theorem gs_X2_49 : GoodIn wsG (wsV RX2 49 RX2 yX2_shapeAnew (.code yX2_shapeAnew cX2_shapeAnew 4 none :: wsG)) := good_V ml_X2_49 im_X2_shapeAnew se_X2_shapeAnew ini_X2 co_X2_shapeAnew
def f_X2_begin (cn : (Nat → Int32)) (nx : (Nat → Int32)) (og : (Nat → Int32)) (li : (Nat → Int32)) (sv : (Nat → Int32)) : Option (Int32 × Int32 × Int32 × Int32 × Int32 × (Nat → Int32) × (Nat → Int32) × (Nat → Int32) × (Nat → Int32)) := bi6 (f_X2_shapeAnew cn nx og li sv) (fun (st_1 : Int32) (he_2 : Int32) (cn_3 : (Nat → Int32)) (nx_4 : (Nat → Int32)) (og_5 : (Nat → Int32)) (li_6 : (Nat → Int32)) => some (st_1, he_2, 0, 0, 0, cn_3, nx_4, og_5, li_6))
set_option maxHeartbeats 4000000 in
set_option maxRecDepth 100000 in
theorem c_X2_begin (l : Launch) (D : va_G) (cI : ClassId) {sz : Nat} (q : Nat) (qs : Nat) (qc : Nat) (qn : Nat) (qo : Nat) (ql : Nat) (qf : Nat) (qca : Nat) (qna : Nat) (qoa : Nat) (qla : Nat) (qfa : Nat) (qsr : Nat) (qsa : Nat) (st : Int32) (he : Int32) (ta : Int32) (cl : Int32) (dr : Int32) (cn : (Nat → Int32)) (nx : (Nat → Int32)) (og : (Nat → Int32)) (li : (Nat → Int32)) (fl : (Nat → Int32)) (sv : (Nat → Int32)) (o_st : Int32) (o_he : Int32) (o_ta : Int32) (o_cl : Int32) (o_dr : Int32) (o_cn : (Nat → Int32)) (o_nx : (Nat → Int32)) (o_og : (Nat → Int32)) (o_li : (Nat → Int32)) (hf : f_X2_begin cn nx og li sv = some (o_st, o_he, o_ta, o_cl, o_dr, o_cn, o_nx, o_og, o_li)) : Met l yX2_begin (.code yX2_begin cX2_begin 1 none :: wsG) ({ frames := 3, cells := 0, slots := 0, locals := 65 }) (va_Pc [.ref q] (gv D cI sz [(q, .inr (2, [.ref qs, .ref qc, .ref qn, .ref qo, .ref ql, .ref qf, .int st, .int he, .int ta, .int cl, .int dr])), (qc, .inr (4, [.ref qca])), (qca, .inl (cI, 500, .inl cn)), (qn, .inr (4, [.ref qna])), (qna, .inl (cI, 500, .inl nx)), (qo, .inr (4, [.ref qoa])), (qoa, .inl (cI, 250, .inl og)), (ql, .inr (4, [.ref qla])), (qla, .inl (cI, 250, .inl li)), (qf, .inr (4, [.ref qfa])), (qfa, .inl (cI, 250, .inl fl)), (qs, .inr (5, [.ref qsr])), (qsr, .inr (4, [.ref qsa])), (qsa, .inl (cI, 5, .inl sv))])) (va_Qv (fun (_ : Unit) => True) (gz D (va_A [(q, .inr (2, [.ref qs, .ref qc, .ref qn, .ref qo, .ref ql, .ref qf, .int st, .int he, .int ta, .int cl, .int dr])), (qc, .inr (4, [.ref qca])), (qca, .inl (cI, 500, .inl cn)), (qn, .inr (4, [.ref qna])), (qna, .inl (cI, 500, .inl nx)), (qo, .inr (4, [.ref qoa])), (qoa, .inl (cI, 250, .inl og)), (ql, .inr (4, [.ref qla])), (qla, .inl (cI, 250, .inl li)), (qf, .inr (4, [.ref qfa])), (qfa, .inl (cI, 250, .inl fl)), (qs, .inr (5, [.ref qsr])), (qsr, .inr (4, [.ref qsa])), (qsa, .inl (cI, 5, .inl sv))] sz) [(q, .inr (2, [.ref qs, .ref qc, .ref qn, .ref qo, .ref ql, .ref qf, .int o_st, .int o_he, .int o_ta, .int o_cl, .int o_dr])), (qc, .inr (4, [.ref qca])), (qca, .inl (cI, 500, .inl o_cn)), (qn, .inr (4, [.ref qna])), (qna, .inl (cI, 500, .inl o_nx)), (qo, .inr (4, [.ref qoa])), (qoa, .inl (cI, 250, .inl o_og)), (ql, .inr (4, [.ref qla])), (qla, .inl (cI, 250, .inl o_li)), (qf, .inr (4, [.ref qfa])), (qfa, .inl (cI, 250, .inl fl)), (qs, .inr (5, [.ref qsr])), (qsr, .inr (4, [.ref qsa])), (qsa, .inl (cI, 5, .inl sv))]) (va_A [(q, .inr (2, [.ref qs, .ref qc, .ref qn, .ref qo, .ref ql, .ref qf, .int st, .int he, .int ta, .int cl, .int dr])), (qc, .inr (4, [.ref qca])), (qca, .inl (cI, 500, .inl cn)), (qn, .inr (4, [.ref qna])), (qna, .inl (cI, 500, .inl nx)), (qo, .inr (4, [.ref qoa])), (qoa, .inl (cI, 250, .inl og)), (ql, .inr (4, [.ref qla])), (qla, .inl (cI, 250, .inl li)), (qf, .inr (4, [.ref qfa])), (qfa, .inl (cI, 250, .inl fl)), (qs, .inr (5, [.ref qsr])), (qsr, .inr (4, [.ref qsa])), (qsa, .inl (cI, 5, .inl sv))] sz)) 0 0 (va_A [(q, .inr (2, [.ref qs, .ref qc, .ref qn, .ref qo, .ref ql, .ref qf, .int st, .int he, .int ta, .int cl, .int dr])), (qc, .inr (4, [.ref qca])), (qca, .inl (cI, 500, .inl cn)), (qn, .inr (4, [.ref qna])), (qna, .inl (cI, 500, .inl nx)), (qo, .inr (4, [.ref qoa])), (qoa, .inl (cI, 250, .inl og)), (ql, .inr (4, [.ref qla])), (qla, .inl (cI, 250, .inl li)), (qf, .inr (4, [.ref qfa])), (qfa, .inl (cI, 250, .inl fl)), (qs, .inr (5, [.ref qsr])), (qsr, .inr (4, [.ref qsa])), (qsa, .inl (cI, 5, .inl sv))] sz) := by
  refine k_rw (y := yX2_begin) (cc := cX2_begin) (maxL := 1) (ret := none) (As := [.ref q]) (Qc := fun A => va_Qv (fun (_ : Unit) => True) (gz D A [(q, .inr (2, [.ref qs, .ref qc, .ref qn, .ref qo, .ref ql, .ref qf, .int o_st, .int o_he, .int o_ta, .int o_cl, .int o_dr])), (qc, .inr (4, [.ref qca])), (qca, .inl (cI, 500, .inl o_cn)), (qn, .inr (4, [.ref qna])), (qna, .inl (cI, 500, .inl o_nx)), (qo, .inr (4, [.ref qoa])), (qoa, .inl (cI, 250, .inl o_og)), (ql, .inr (4, [.ref qla])), (qla, .inl (cI, 250, .inl o_li)), (qf, .inr (4, [.ref qfa])), (qfa, .inl (cI, 250, .inl fl)), (qs, .inr (5, [.ref qsr])), (qsr, .inr (4, [.ref qsa])), (qsa, .inl (cI, 5, .inl sv))]) A) (by decide) rfl (Nat.le_of_ble_eq_true rfl) rfl ?_
  intro p e s m below meth c ls A S hret hloc hK hN hSF hP hD hS hA hl
  obtain ⟨hx, hb, hml, hown, hts⟩ := id S
  unfold f_X2_begin at hf
  refine lv_aload_n hx hb dX2_begin_0 rfl (lv_at hl 0 rfl) ?_
  refine lv_iconst (v := 0) hx hb dX2_begin_1 (by decide) ?_
  refine va_put (D := D) (ci := 2) (v := .int 0) (ty := .int) (C := RX2) (T := TX2) (N := 11) hx hb hts inGX2 tyX2 tyX2_ok nmX2 hown hK hP hD hS 0 rfl rfl 8 (by decide) (hts _ fl_X2_39) (fun _ h9 => h9) rfl (by decide +kernel) rfl rfl (Nat.le_of_ble_eq_true rfl) dX2_begin_2 (fun H locs hP hD hS => ?_)
  have hP : va_P D vwCl [(q, .inr (2, [.ref qs, .ref qc, .ref qn, .ref qo, .ref ql, .ref qf, .int st, .int he, .int 0, .int cl, .int dr])), (qc, .inr (4, [.ref qca])), (qca, .inl (cI, 500, .inl cn)), (qn, .inr (4, [.ref qna])), (qna, .inl (cI, 500, .inl nx)), (qo, .inr (4, [.ref qoa])), (qoa, .inl (cI, 250, .inl og)), (ql, .inr (4, [.ref qla])), (qla, .inl (cI, 250, .inl li)), (qf, .inr (4, [.ref qfa])), (qfa, .inl (cI, 250, .inl fl)), (qs, .inr (5, [.ref qsr])), (qsr, .inr (4, [.ref qsa])), (qsa, .inl (cI, 5, .inl sv))] H := hP
  have hD : va_D A [(q, .inr (2, [.ref qs, .ref qc, .ref qn, .ref qo, .ref ql, .ref qf, .int st, .int he, .int 0, .int cl, .int dr])), (qc, .inr (4, [.ref qca])), (qca, .inl (cI, 500, .inl cn)), (qn, .inr (4, [.ref qna])), (qna, .inl (cI, 500, .inl nx)), (qo, .inr (4, [.ref qoa])), (qoa, .inl (cI, 250, .inl og)), (ql, .inr (4, [.ref qla])), (qla, .inl (cI, 250, .inl li)), (qf, .inr (4, [.ref qfa])), (qfa, .inl (cI, 250, .inl fl)), (qs, .inr (5, [.ref qsr])), (qsr, .inr (4, [.ref qsa])), (qsa, .inl (cI, 5, .inl sv))] := hD
  refine lv_aload_n hx hb dX2_begin_5 rfl (lv_at hl 0 rfl) ?_
  refine lv_iconst (v := 0) hx hb dX2_begin_6 (by decide) ?_
  refine va_put (D := D) (ci := 2) (v := .int 0) (ty := .int) (C := RX2) (T := TX2) (N := 11) hx hb hts inGX2 tyX2 tyX2_ok nmX2 hown hK hP hD hS 0 rfl rfl 9 (by decide) (hts _ fl_X2_43) (fun _ h9 => h9) rfl (by decide +kernel) rfl rfl (Nat.le_of_ble_eq_true rfl) dX2_begin_7 (fun H locs hP hD hS => ?_)
  have hP : va_P D vwCl [(q, .inr (2, [.ref qs, .ref qc, .ref qn, .ref qo, .ref ql, .ref qf, .int st, .int he, .int 0, .int 0, .int dr])), (qc, .inr (4, [.ref qca])), (qca, .inl (cI, 500, .inl cn)), (qn, .inr (4, [.ref qna])), (qna, .inl (cI, 500, .inl nx)), (qo, .inr (4, [.ref qoa])), (qoa, .inl (cI, 250, .inl og)), (ql, .inr (4, [.ref qla])), (qla, .inl (cI, 250, .inl li)), (qf, .inr (4, [.ref qfa])), (qfa, .inl (cI, 250, .inl fl)), (qs, .inr (5, [.ref qsr])), (qsr, .inr (4, [.ref qsa])), (qsa, .inl (cI, 5, .inl sv))] H := hP
  have hD : va_D A [(q, .inr (2, [.ref qs, .ref qc, .ref qn, .ref qo, .ref ql, .ref qf, .int st, .int he, .int 0, .int 0, .int dr])), (qc, .inr (4, [.ref qca])), (qca, .inl (cI, 500, .inl cn)), (qn, .inr (4, [.ref qna])), (qna, .inl (cI, 500, .inl nx)), (qo, .inr (4, [.ref qoa])), (qoa, .inl (cI, 250, .inl og)), (ql, .inr (4, [.ref qla])), (qla, .inl (cI, 250, .inl li)), (qf, .inr (4, [.ref qfa])), (qfa, .inl (cI, 250, .inl fl)), (qs, .inr (5, [.ref qsr])), (qsr, .inr (4, [.ref qsa])), (qsa, .inl (cI, 5, .inl sv))] := hD
  refine lv_aload_n hx hb dX2_begin_10 rfl (lv_at hl 0 rfl) ?_
  refine lv_iconst (v := 0) hx hb dX2_begin_11 (by decide) ?_
  refine va_put (D := D) (ci := 2) (v := .int 0) (ty := .int) (C := RX2) (T := TX2) (N := 11) hx hb hts inGX2 tyX2 tyX2_ok nmX2 hown hK hP hD hS 0 rfl rfl 10 (by decide) (hts _ fl_X2_46) (fun _ h9 => h9) rfl (by decide +kernel) rfl rfl (Nat.le_of_ble_eq_true rfl) dX2_begin_12 (fun H locs hP hD hS => ?_)
  have hP : va_P D vwCl [(q, .inr (2, [.ref qs, .ref qc, .ref qn, .ref qo, .ref ql, .ref qf, .int st, .int he, .int 0, .int 0, .int 0])), (qc, .inr (4, [.ref qca])), (qca, .inl (cI, 500, .inl cn)), (qn, .inr (4, [.ref qna])), (qna, .inl (cI, 500, .inl nx)), (qo, .inr (4, [.ref qoa])), (qoa, .inl (cI, 250, .inl og)), (ql, .inr (4, [.ref qla])), (qla, .inl (cI, 250, .inl li)), (qf, .inr (4, [.ref qfa])), (qfa, .inl (cI, 250, .inl fl)), (qs, .inr (5, [.ref qsr])), (qsr, .inr (4, [.ref qsa])), (qsa, .inl (cI, 5, .inl sv))] H := hP
  have hD : va_D A [(q, .inr (2, [.ref qs, .ref qc, .ref qn, .ref qo, .ref ql, .ref qf, .int st, .int he, .int 0, .int 0, .int 0])), (qc, .inr (4, [.ref qca])), (qca, .inl (cI, 500, .inl cn)), (qn, .inr (4, [.ref qna])), (qna, .inl (cI, 500, .inl nx)), (qo, .inr (4, [.ref qoa])), (qoa, .inl (cI, 250, .inl og)), (ql, .inr (4, [.ref qla])), (qla, .inl (cI, 250, .inl li)), (qf, .inr (4, [.ref qfa])), (qfa, .inl (cI, 250, .inl fl)), (qs, .inr (5, [.ref qsr])), (qsr, .inr (4, [.ref qsa])), (qsa, .inl (cI, 5, .inl sv))] := hD
  refine lv_aload_n hx hb dX2_begin_15 rfl (lv_at hl 0 rfl) ?_
  obtain ⟨st_1, he_2, cn_3, nx_4, og_5, li_6, hc_7, hf⟩ := bd6 hf
  refine k_rwVv (As := []) (rest := []) (Wr := []) (W2 := [(q, .inr (2, [.ref qs, .ref qc, .ref qn, .ref qo, .ref ql, .ref qf, .int st_1, .int he_2, .int 0, .int 0, .int 0])), (qc, .inr (4, [.ref qca])), (qca, .inl (cI, 500, .inl cn_3)), (qn, .inr (4, [.ref qna])), (qna, .inl (cI, 500, .inl nx_4)), (qo, .inr (4, [.ref qoa])), (qoa, .inl (cI, 250, .inl og_5)), (ql, .inr (4, [.ref qla])), (qla, .inl (cI, 250, .inl li_6)), (qf, .inr (4, [.ref qfa])), (qfa, .inl (cI, 250, .inl fl)), (qs, .inr (5, [.ref qsr])), (qsr, .inr (4, [.ref qsa])), (qsa, .inl (cI, 5, .inl sv))]) S (c_X2_shapeAnew l D cI (q := q) (qs := qs) (qc := qc) (qn := qn) (qo := qo) (ql := ql) (qf := qf) (qca := qca) (qna := qna) (qoa := qoa) (qla := qla) (qfa := qfa) (qsr := qsr) (qsa := qsa) (st := st) (he := he) (ta := 0) (cl := 0) (dr := 0) (cn := cn) (nx := nx) (og := og) (li := li) (fl := fl) (sv := sv)  (o_st := st_1) (o_he := he_2) (o_cn := cn_3) (o_nx := nx_4) (o_og := og_5) (o_li := li_6) (hf := hc_7)) gs_X2_49 ok_X2_shapeAnew ⟨rfl, rfl⟩ ⟨Nat.le_of_ble_eq_true rfl, Nat.le_of_ble_eq_true rfl⟩ hK hN hSF hP hD hS hA [0, 1, 2, 3, 4, 5, 6, 7, 8, 9, 10, 11, 12, 13] [] [0, 1, 2, 3, 4, 5, 6, 7, 8, 9, 10, 11, 12, 13] (by decide) rfl rfl (by decide) (by decide) rfl (by decide) rfl rfl rfl hl.1 rfl (Nat.le_of_ble_eq_true rfl) ⟨Nat.zero_le _, Nat.zero_le _⟩ dX2_begin_16 (fun H locs hP hD hS => ?_)
  obtain ⟨e_0, e_r⟩ := Prod.mk.inj (Option.some.inj hf)
  obtain ⟨e_1, e_r⟩ := Prod.mk.inj (e_r)
  obtain ⟨e_2, e_r⟩ := Prod.mk.inj (e_r)
  obtain ⟨e_3, e_r⟩ := Prod.mk.inj (e_r)
  obtain ⟨e_4, e_r⟩ := Prod.mk.inj (e_r)
  obtain ⟨e_5, e_r⟩ := Prod.mk.inj (e_r)
  obtain ⟨e_6, e_r⟩ := Prod.mk.inj (e_r)
  obtain ⟨e_7, e_8⟩ := Prod.mk.inj (e_r)
  subst e_0
  subst e_1
  subst e_2
  subst e_3
  subst e_4
  subst e_5
  subst e_6
  subst e_7
  subst e_8
  exact k_wretv hx hb hret hloc hP hD hS dX2_begin_19
theorem dX2_cloneFrom_0 : decode cX2_cloneFrom 0 = .ok (.aload_n 0, 1) := by decide +kernel
theorem dX2_cloneFrom_1 : decode cX2_cloneFrom 1 = .ok (.getfield 61, 3) := by decide +kernel
theorem dX2_cloneFrom_4 : decode cX2_cloneFrom 4 = .ok (.istore 4, 2) := by decide +kernel
theorem dX2_cloneFrom_6 : decode cX2_cloneFrom 6 = .ok (.iconst 0, 1) := by decide +kernel
theorem dX2_cloneFrom_7 : decode cX2_cloneFrom 7 = .ok (.istore 5, 2) := by decide +kernel
theorem dX2_cloneFrom_9 : decode cX2_cloneFrom 9 = .ok (.iload 5, 2) := by decide +kernel
theorem dX2_cloneFrom_11 : decode cX2_cloneFrom 11 = .ok (.iconst 2, 1) := by decide +kernel
theorem dX2_cloneFrom_12 : decode cX2_cloneFrom 12 = .ok (.if_icmp .ge 96, 3) := by decide +kernel
theorem dX2_cloneFrom_15 : decode cX2_cloneFrom 15 = .ok (.iload_n 1, 1) := by decide +kernel
theorem dX2_cloneFrom_16 : decode cX2_cloneFrom 16 = .ok (.iload 5, 2) := by decide +kernel
theorem dX2_cloneFrom_18 : decode cX2_cloneFrom 18 = .ok (.invokestatic 67, 3) := by decide +kernel
theorem dX2_cloneFrom_21 : decode cX2_cloneFrom 21 = .ok (.istore 6, 2) := by decide +kernel
theorem dX2_cloneFrom_23 : decode cX2_cloneFrom 23 = .ok (.iload 4, 2) := by decide +kernel
theorem dX2_cloneFrom_25 : decode cX2_cloneFrom 25 = .ok (.iload 5, 2) := by decide +kernel
theorem dX2_cloneFrom_27 : decode cX2_cloneFrom 27 = .ok (.invokestatic 67, 3) := by decide +kernel
theorem dX2_cloneFrom_30 : decode cX2_cloneFrom 30 = .ok (.istore 7, 2) := by decide +kernel
theorem dX2_cloneFrom_32 : decode cX2_cloneFrom 32 = .ok (.aload_n 0, 1) := by decide +kernel
theorem dX2_cloneFrom_33 : decode cX2_cloneFrom 33 = .ok (.getfield 14, 3) := by decide +kernel
theorem dX2_cloneFrom_36 : decode cX2_cloneFrom 36 = .ok (.iload 6, 2) := by decide +kernel
theorem dX2_cloneFrom_38 : decode cX2_cloneFrom 38 = .ok (.invokevirtual 79, 3) := by decide +kernel
theorem dX2_cloneFrom_41 : decode cX2_cloneFrom 41 = .ok (.i2l, 1) := by decide +kernel
theorem dX2_cloneFrom_42 : decode cX2_cloneFrom 42 = .ok (.iload_n 2, 1) := by decide +kernel
theorem dX2_cloneFrom_43 : decode cX2_cloneFrom 43 = .ok (.i2l, 1) := by decide +kernel
theorem dX2_cloneFrom_44 : decode cX2_cloneFrom 44 = .ok (.lmul, 1) := by decide +kernel
theorem dX2_cloneFrom_45 : decode cX2_cloneFrom 45 = .ok (.iload_n 3, 1) := by decide +kernel
theorem dX2_cloneFrom_46 : decode cX2_cloneFrom 46 = .ok (.i2l, 1) := by decide +kernel
theorem dX2_cloneFrom_47 : decode cX2_cloneFrom 47 = .ok (.invokestatic 86, 3) := by decide +kernel
theorem dX2_cloneFrom_50 : decode cX2_cloneFrom 50 = .ok (.istore 8, 2) := by decide +kernel
theorem dX2_cloneFrom_52 : decode cX2_cloneFrom 52 = .ok (.aload_n 0, 1) := by decide +kernel
theorem dX2_cloneFrom_53 : decode cX2_cloneFrom 53 = .ok (.getfield 14, 3) := by decide +kernel
theorem dX2_cloneFrom_56 : decode cX2_cloneFrom 56 = .ok (.iload 7, 2) := by decide +kernel
theorem dX2_cloneFrom_58 : decode cX2_cloneFrom 58 = .ok (.iload 8, 2) := by decide +kernel
theorem dX2_cloneFrom_60 : decode cX2_cloneFrom 60 = .ok (.invokevirtual 71, 3) := by decide +kernel
theorem dX2_cloneFrom_63 : decode cX2_cloneFrom 63 = .ok (.aload_n 0, 1) := by decide +kernel
theorem dX2_cloneFrom_64 : decode cX2_cloneFrom 64 = .ok (.getfield 14, 3) := by decide +kernel
theorem dX2_cloneFrom_67 : decode cX2_cloneFrom 67 = .ok (.iload 6, 2) := by decide +kernel
theorem dX2_cloneFrom_69 : decode cX2_cloneFrom 69 = .ok (.aload_n 0, 1) := by decide +kernel
theorem dX2_cloneFrom_70 : decode cX2_cloneFrom 70 = .ok (.getfield 14, 3) := by decide +kernel
theorem dX2_cloneFrom_73 : decode cX2_cloneFrom 73 = .ok (.iload 6, 2) := by decide +kernel
theorem dX2_cloneFrom_75 : decode cX2_cloneFrom 75 = .ok (.invokevirtual 79, 3) := by decide +kernel
theorem dX2_cloneFrom_78 : decode cX2_cloneFrom 78 = .ok (.iload 8, 2) := by decide +kernel
theorem dX2_cloneFrom_80 : decode cX2_cloneFrom 80 = .ok (.isub, 1) := by decide +kernel
theorem dX2_cloneFrom_81 : decode cX2_cloneFrom 81 = .ok (.invokevirtual 71, 3) := by decide +kernel
theorem dX2_cloneFrom_84 : decode cX2_cloneFrom 84 = .ok (.aload_n 0, 1) := by decide +kernel
theorem dX2_cloneFrom_85 : decode cX2_cloneFrom 85 = .ok (.getfield 20, 3) := by decide +kernel
theorem dX2_cloneFrom_88 : decode cX2_cloneFrom 88 = .ok (.iload 7, 2) := by decide +kernel
theorem dX2_cloneFrom_90 : decode cX2_cloneFrom 90 = .ok (.aload_n 0, 1) := by decide +kernel
theorem dX2_cloneFrom_91 : decode cX2_cloneFrom 91 = .ok (.getfield 20, 3) := by decide +kernel
theorem dX2_cloneFrom_94 : decode cX2_cloneFrom 94 = .ok (.iload 6, 2) := by decide +kernel
theorem dX2_cloneFrom_96 : decode cX2_cloneFrom 96 = .ok (.invokevirtual 79, 3) := by decide +kernel
theorem dX2_cloneFrom_99 : decode cX2_cloneFrom 99 = .ok (.invokevirtual 71, 3) := by decide +kernel
theorem dX2_cloneFrom_102 : decode cX2_cloneFrom 102 = .ok (.iinc 5 1, 3) := by decide +kernel
theorem dX2_cloneFrom_105 : decode cX2_cloneFrom 105 = .ok (.goto (-96), 3) := by decide +kernel
theorem dX2_cloneFrom_108 : decode cX2_cloneFrom 108 = .ok (.aload_n 0, 1) := by decide +kernel
theorem dX2_cloneFrom_109 : decode cX2_cloneFrom 109 = .ok (.getfield 23, 3) := by decide +kernel
theorem dX2_cloneFrom_112 : decode cX2_cloneFrom 112 = .ok (.iload 4, 2) := by decide +kernel
theorem dX2_cloneFrom_114 : decode cX2_cloneFrom 114 = .ok (.iload_n 1, 1) := by decide +kernel
theorem dX2_cloneFrom_115 : decode cX2_cloneFrom 115 = .ok (.invokevirtual 71, 3) := by decide +kernel
theorem dX2_cloneFrom_118 : decode cX2_cloneFrom 118 = .ok (.aload_n 0, 1) := by decide +kernel
theorem dX2_cloneFrom_119 : decode cX2_cloneFrom 119 = .ok (.getfield 26, 3) := by decide +kernel
theorem dX2_cloneFrom_122 : decode cX2_cloneFrom 122 = .ok (.iload 4, 2) := by decide +kernel
theorem dX2_cloneFrom_124 : decode cX2_cloneFrom 124 = .ok (.aload_n 0, 1) := by decide +kernel
theorem dX2_cloneFrom_125 : decode cX2_cloneFrom 125 = .ok (.getfield 26, 3) := by decide +kernel
theorem dX2_cloneFrom_128 : decode cX2_cloneFrom 128 = .ok (.iload_n 1, 1) := by decide +kernel
theorem dX2_cloneFrom_129 : decode cX2_cloneFrom 129 = .ok (.invokevirtual 79, 3) := by decide +kernel
theorem dX2_cloneFrom_132 : decode cX2_cloneFrom 132 = .ok (.iconst 1, 1) := by decide +kernel
theorem dX2_cloneFrom_133 : decode cX2_cloneFrom 133 = .ok (.iadd, 1) := by decide +kernel
theorem dX2_cloneFrom_134 : decode cX2_cloneFrom 134 = .ok (.invokevirtual 71, 3) := by decide +kernel
theorem dX2_cloneFrom_137 : decode cX2_cloneFrom 137 = .ok (.aload_n 0, 1) := by decide +kernel
theorem dX2_cloneFrom_138 : decode cX2_cloneFrom 138 = .ok (.dup, 1) := by decide +kernel
theorem dX2_cloneFrom_139 : decode cX2_cloneFrom 139 = .ok (.getfield 61, 3) := by decide +kernel
theorem dX2_cloneFrom_142 : decode cX2_cloneFrom 142 = .ok (.iconst 1, 1) := by decide +kernel
theorem dX2_cloneFrom_143 : decode cX2_cloneFrom 143 = .ok (.iadd, 1) := by decide +kernel
theorem dX2_cloneFrom_144 : decode cX2_cloneFrom 144 = .ok (.putfield 61, 3) := by decide +kernel
theorem dX2_cloneFrom_147 : decode cX2_cloneFrom 147 = .ok (.aload_n 0, 1) := by decide +kernel
theorem dX2_cloneFrom_148 : decode cX2_cloneFrom 148 = .ok (.dup, 1) := by decide +kernel
theorem dX2_cloneFrom_149 : decode cX2_cloneFrom 149 = .ok (.getfield 43, 3) := by decide +kernel
theorem dX2_cloneFrom_152 : decode cX2_cloneFrom 152 = .ok (.iconst 1, 1) := by decide +kernel
theorem dX2_cloneFrom_153 : decode cX2_cloneFrom 153 = .ok (.iadd, 1) := by decide +kernel
theorem dX2_cloneFrom_154 : decode cX2_cloneFrom 154 = .ok (.putfield 43, 3) := by decide +kernel
theorem dX2_cloneFrom_157 : decode cX2_cloneFrom 157 = .ok (.iload 4, 2) := by decide +kernel
theorem dX2_cloneFrom_159 : decode cX2_cloneFrom 159 = .ok (.ireturn, 1) := by decide +kernel
def st_X2_cloneFrom_L9 (v1 : Int32) (v2 : Int32) (v3 : Int32) (v4 : Int32) (v5 : Int32) (cn : (Nat → Int32)) (nx : (Nat → Int32)) : Option ((Int32 × (Nat → Int32) × (Nat → Int32)) ⊕ (Int32 × (Nat → Int32) × (Nat → Int32))) := if 2 ≤ v5 then (some (Sum.inr (v5, cn, nx))) else (some (Sum.inl (v5 + 1, (f_X4_put 500 (f_X4_put 500 cn (f_X2_path v4 v5) (f_X8_cutQuotient ((((f_X4_get 500 cn (f_X2_path v1 v5))).toInt64) * ((v2).toInt64)) ((v3).toInt64))) (f_X2_path v1 v5) ((f_X4_get 500 (f_X4_put 500 cn (f_X2_path v4 v5) (f_X8_cutQuotient ((((f_X4_get 500 cn (f_X2_path v1 v5))).toInt64) * ((v2).toInt64)) ((v3).toInt64))) (f_X2_path v1 v5)) - (f_X8_cutQuotient ((((f_X4_get 500 cn (f_X2_path v1 v5))).toInt64) * ((v2).toInt64)) ((v3).toInt64)))), (f_X4_put 500 nx (f_X2_path v4 v5) (f_X4_get 500 nx (f_X2_path v1 v5))))))
def f_X2_cloneFrom_L9 (v1 : Int32) (v2 : Int32) (v3 : Int32) (v4 : Int32) (k : Nat) (v5 : Int32) (cn : (Nat → Int32)) (nx : (Nat → Int32)) : Option (Int32 × (Nat → Int32) × (Nat → Int32)) := lpN (fun z => st_X2_cloneFrom_L9 v1 v2 v3 v4 z.1 z.2.1 z.2.2) k (v5, cn, nx)
set_option maxHeartbeats 4000000 in
set_option maxRecDepth 100000 in
theorem L_X2_cloneFrom_9 {p : Program} {l : Launch} {e : Env} {s : State} {m : MethodId} {args : Array Value} {below : List Frame} {meth : Method} {c : Code} {Q : State → Prop} {D : va_G} {cI : ClassId} {q : Nat} {qs : Nat} {qc : Nat} {qn : Nat} {qo : Nat} {ql : Nat} {qf : Nat} {qca : Nat} {qna : Nat} {qoa : Nat} {qla : Nat} {qfa : Nat} {qsr : Nat} {qsa : Nat} {v1 : Int32} {v2 : Int32} {v3 : Int32} {v4 : Int32} {st : Int32} {he : Int32} {ta : Int32} {cl : Int32} {dr : Int32} {og : (Nat → Int32)} {li : (Nat → Int32)} {fl : (Nat → Int32)} {sv : (Nat → Int32)} {A : Nat → Prop} (S : CallFix p m c cX2_cloneFrom 9 s args wsG RX2) (hK : va_K D vwCl [(cI, .int)] s) (hN : nw s) (hSF : sf A s s.heap) (hA : ∀ q, s.heap.size ≤ q → A q) : ∀ (k : Nat) (v5 : Int32) (cn : (Nat → Int32)) (nx : (Nat → Int32)) (o_v5 : Int32) (o_cn : (Nat → Int32)) (o_nx : (Nat → Int32)), f_X2_cloneFrom_L9 v1 v2 v3 v4 k v5 cn nx = some (o_v5, o_cn, o_nx) → ∀ (H : Heap) (locs : List Loc) (ls : Array Slot), va_P D vwCl [(q, .inr (2, [.ref qs, .ref qc, .ref qn, .ref qo, .ref ql, .ref qf, .int st, .int he, .int ta, .int cl, .int dr])), (qc, .inr (4, [.ref qca])), (qca, .inl (cI, 500, .inl cn)), (qn, .inr (4, [.ref qna])), (qna, .inl (cI, 500, .inl nx)), (qo, .inr (4, [.ref qoa])), (qoa, .inl (cI, 250, .inl og)), (ql, .inr (4, [.ref qla])), (qla, .inl (cI, 250, .inl li)), (qf, .inr (4, [.ref qfa])), (qfa, .inl (cI, 250, .inl fl)), (qs, .inr (5, [.ref qsr])), (qsr, .inr (4, [.ref qsa])), (qsa, .inl (cI, 5, .inl sv))] H → va_D A [(q, .inr (2, [.ref qs, .ref qc, .ref qn, .ref qo, .ref ql, .ref qf, .int st, .int he, .int ta, .int cl, .int dr])), (qc, .inr (4, [.ref qca])), (qca, .inl (cI, 500, .inl cn)), (qn, .inr (4, [.ref qna])), (qna, .inl (cI, 500, .inl nx)), (qo, .inr (4, [.ref qoa])), (qoa, .inl (cI, 250, .inl og)), (ql, .inr (4, [.ref qla])), (qla, .inl (cI, 250, .inl li)), (qf, .inr (4, [.ref qfa])), (qfa, .inl (cI, 250, .inl fl)), (qs, .inr (5, [.ref qsr])), (qsr, .inr (4, [.ref qsa])), (qsa, .inl (cI, 5, .inl sv))] → va_S A s.heap H locs → lv_has ls 9 [(0, .ref q), (1, .int v1), (2, .int v2), (3, .int v3), (4, .int v4), (5, .int v5)] → (∀ (H : Heap) (locs : List Loc) (ls : Array Slot), va_P D vwCl [(q, .inr (2, [.ref qs, .ref qc, .ref qn, .ref qo, .ref ql, .ref qf, .int st, .int he, .int ta, .int cl, .int dr])), (qc, .inr (4, [.ref qca])), (qca, .inl (cI, 500, .inl o_cn)), (qn, .inr (4, [.ref qna])), (qna, .inl (cI, 500, .inl o_nx)), (qo, .inr (4, [.ref qoa])), (qoa, .inl (cI, 250, .inl og)), (ql, .inr (4, [.ref qla])), (qla, .inl (cI, 250, .inl li)), (qf, .inr (4, [.ref qfa])), (qfa, .inl (cI, 250, .inl fl)), (qs, .inr (5, [.ref qsr])), (qsr, .inr (4, [.ref qsa])), (qsa, .inl (cI, 5, .inl sv))] H → va_D A [(q, .inr (2, [.ref qs, .ref qc, .ref qn, .ref qo, .ref ql, .ref qf, .int st, .int he, .int ta, .int cl, .int dr])), (qc, .inr (4, [.ref qca])), (qca, .inl (cI, 500, .inl o_cn)), (qn, .inr (4, [.ref qna])), (qna, .inl (cI, 500, .inl o_nx)), (qo, .inr (4, [.ref qoa])), (qoa, .inl (cI, 250, .inl og)), (ql, .inr (4, [.ref qla])), (qla, .inl (cI, 250, .inl li)), (qf, .inr (4, [.ref qfa])), (qfa, .inl (cI, 250, .inl fl)), (qs, .inr (5, [.ref qsr])), (qsr, .inr (4, [.ref qsa])), (qsa, .inl (cI, 5, .inl sv))] → va_S A s.heap H locs → lv_has ls 9 [(0, .ref q), (1, .int v1), (2, .int v2), (3, .int v3), (4, .int v4), (5, .int o_v5)] → W p l e (headSpec (.code yX2_cloneFrom cX2_cloneFrom 9 (some .int) :: wsG) { frames := 1, cells := 0, slots := 0, locals := 23 }).room s m args below meth c H locs 0 0 Q (F0 m 108 ls [])) → W p l e (headSpec (.code yX2_cloneFrom cX2_cloneFrom 9 (some .int) :: wsG) { frames := 1, cells := 0, slots := 0, locals := 23 }).room s m args below meth c H locs 0 0 Q (F0 m 9 ls []) := by
  obtain ⟨hx, hb, hml, hown, hts⟩ := id S
  intro k
  induction k with
  | zero =>
    intro v5 cn nx o_v5 o_cn o_nx hf
    cases hf
  | succ k ih =>
    intro v5 cn nx o_v5 o_cn o_nx hf H locs ls hP hD hS hl kk
    obtain ⟨z, hf, hz⟩ := lp_inv hf
    have hf : st_X2_cloneFrom_L9 v1 v2 v3 v4 v5 cn nx = some z := hf
    unfold st_X2_cloneFrom_L9 at hf
    refine lv_iload hx hb dX2_cloneFrom_9 (lv_at hl 5 rfl) ?_
    refine lv_iconst (v := 2) hx hb dX2_cloneFrom_11 (by decide) ?_
    refine lv_icmp_ge (tgt := 108) hx hb dX2_cloneFrom_12 (by decide) (fun c_1 => ?_) (fun c_1 => ?_)
    · rw [if_pos c_1] at hf
      have hf := Option.some.inj hf
      subst hf
      obtain ⟨e_0, e_r⟩ := Prod.mk.inj (lpC_r hz)
      obtain ⟨e_1, e_2⟩ := Prod.mk.inj (e_r)
      subst e_0
      subst e_1
      subst e_2
      exact kk H locs ls hP hD hS (lv_sub hl [0, 1, 2, 3, 4, 5] rfl)
    · rw [if_neg c_1] at hf
      refine lv_iload_n hx hb dX2_cloneFrom_15 rfl (lv_at hl 1 rfl) ?_
      refine lv_iload hx hb dX2_cloneFrom_16 (lv_at hl 5 rfl) ?_
      refine k_roSi (As := [.int v1, .int v5]) (rest := []) S (c_X2_path l D cI (x1 := v1) (x2 := v5)  (r := (f_X2_path v1 v5)) (hf := rfl)) gs_X2_67 ok_X2_path ⟨rfl, rfl⟩ ⟨Nat.le_of_ble_eq_true rfl, Nat.le_of_ble_eq_true rfl⟩ hK hN (sfr hSF hS) (hP.sub [] rfl) rfl hl.1 rfl (Nat.le_of_ble_eq_true rfl) ⟨Nat.zero_le _, Nat.zero_le _⟩ dX2_cloneFrom_18 ?_
      refine lv_istore (lv' := [(6, .int (f_X2_path v1 v5)), (0, .ref q), (1, .int v1), (2, .int v2), (3, .int v3), (4, .int v4), (5, .int v5)]) hx hb dX2_cloneFrom_21 hl (by decide) rfl (fun ls hl => ?_)
      refine lv_iload hx hb dX2_cloneFrom_23 (lv_at hl 5 rfl) ?_
      refine lv_iload hx hb dX2_cloneFrom_25 (lv_at hl 6 rfl) ?_
      refine k_roSi (As := [.int v4, .int v5]) (rest := []) S (c_X2_path l D cI (x1 := v4) (x2 := v5)  (r := (f_X2_path v4 v5)) (hf := rfl)) gs_X2_67 ok_X2_path ⟨rfl, rfl⟩ ⟨Nat.le_of_ble_eq_true rfl, Nat.le_of_ble_eq_true rfl⟩ hK hN (sfr hSF hS) (hP.sub [] rfl) rfl hl.1 rfl (Nat.le_of_ble_eq_true rfl) ⟨Nat.zero_le _, Nat.zero_le _⟩ dX2_cloneFrom_27 ?_
      refine lv_istore (lv' := [(7, .int (f_X2_path v4 v5)), (6, .int (f_X2_path v1 v5)), (0, .ref q), (1, .int v1), (2, .int v2), (3, .int v3), (4, .int v4), (5, .int v5)]) hx hb dX2_cloneFrom_30 hl (by decide) rfl (fun ls hl => ?_)
      refine lv_aload_n hx hb dX2_cloneFrom_32 rfl (lv_at hl 2 rfl) ?_
      refine va_get (D := D) (ci := 2) (v := .ref qc) (C := RX2) (T := TX2) (N := 11) hx hb hts inGX2 hown hK hP 0 rfl rfl 1 (by decide) (hts _ fl_X2_14) (fun _ h9 => h9) rfl dX2_cloneFrom_33 ?_
      refine lv_iload hx hb dX2_cloneFrom_36 (lv_at hl 1 rfl) ?_
      refine k_roVi (As := [.int (f_X2_path v1 v5)]) (rest := []) S (c_X4_get l D cI (q := qc) (qa := qca) (n := 500) (f := cn) (x1 := (f_X2_path v1 v5)) (hn := by decide) (r := (f_X4_get 500 cn (f_X2_path v1 v5))) (hf := rfl)) gs_X2_79 ok_X4_get ⟨rfl, rfl⟩ ⟨Nat.le_of_ble_eq_true rfl, Nat.le_of_ble_eq_true rfl⟩ hK hN (sfr hSF hS) (hP.sub [1, 2] rfl) rfl rfl rfl hl.1 rfl (Nat.le_of_ble_eq_true rfl) ⟨Nat.zero_le _, Nat.zero_le _⟩ dX2_cloneFrom_38 ?_
      refine lv_i2l hx hb dX2_cloneFrom_41 rfl ?_
      refine lv_iload_n hx hb dX2_cloneFrom_42 rfl (lv_at hl 4 rfl) ?_
      refine lv_i2l hx hb dX2_cloneFrom_43 rfl ?_
      refine lv_lmul hx hb dX2_cloneFrom_44 ?_
      refine lv_iload_n hx hb dX2_cloneFrom_45 rfl (lv_at hl 5 rfl) ?_
      refine lv_i2l hx hb dX2_cloneFrom_46 rfl ?_
      refine k_roSNi (As := [.long ((((f_X4_get 500 cn (f_X2_path v1 v5))).toInt64) * ((v2).toInt64)), .long ((v3).toInt64)]) (rest := []) S (c_X8_cutQuotient l D cI (x1 := (((f_X4_get 500 cn (f_X2_path v1 v5))).toInt64) * ((v2).toInt64)) (x2 := (v3).toInt64)  (r := (f_X8_cutQuotient ((((f_X4_get 500 cn (f_X2_path v1 v5))).toInt64) * ((v2).toInt64)) ((v3).toInt64))) (hf := rfl)) (good_I co_X8_cutQuotient) (nm_X2_86 hN) st_X8_cutQuotient ini_X8 ok_X8_cutQuotient ⟨rfl, rfl⟩ ⟨Nat.le_of_ble_eq_true rfl, Nat.le_of_ble_eq_true rfl⟩ hK hN (sfr hSF hS) (hP.sub [] rfl) rfl hl.1 rfl (Nat.le_of_ble_eq_true rfl) ⟨Nat.zero_le _, Nat.zero_le _⟩ dX2_cloneFrom_47 ?_
      refine lv_istore (lv' := [(8, .int (f_X8_cutQuotient ((((f_X4_get 500 cn (f_X2_path v1 v5))).toInt64) * ((v2).toInt64)) ((v3).toInt64))), (7, .int (f_X2_path v4 v5)), (6, .int (f_X2_path v1 v5)), (0, .ref q), (1, .int v1), (2, .int v2), (3, .int v3), (4, .int v4), (5, .int v5)]) hx hb dX2_cloneFrom_50 hl (by decide) rfl (fun ls hl => ?_)
      refine lv_aload_n hx hb dX2_cloneFrom_52 rfl (lv_at hl 3 rfl) ?_
      refine va_get (D := D) (ci := 2) (v := .ref qc) (C := RX2) (T := TX2) (N := 11) hx hb hts inGX2 hown hK hP 0 rfl rfl 1 (by decide) (hts _ fl_X2_14) (fun _ h9 => h9) rfl dX2_cloneFrom_53 ?_
      refine lv_iload hx hb dX2_cloneFrom_56 (lv_at hl 1 rfl) ?_
      refine lv_iload hx hb dX2_cloneFrom_58 (lv_at hl 0 rfl) ?_
      refine k_rwVv (As := [.int (f_X2_path v4 v5), .int (f_X8_cutQuotient ((((f_X4_get 500 cn (f_X2_path v1 v5))).toInt64) * ((v2).toInt64)) ((v3).toInt64))]) (rest := []) (Wr := [(q, .inr (2, [.ref qs, .ref qc, .ref qn, .ref qo, .ref ql, .ref qf, .int st, .int he, .int ta, .int cl, .int dr])), (qn, .inr (4, [.ref qna])), (qna, .inl (cI, 500, .inl nx)), (qo, .inr (4, [.ref qoa])), (qoa, .inl (cI, 250, .inl og)), (ql, .inr (4, [.ref qla])), (qla, .inl (cI, 250, .inl li)), (qf, .inr (4, [.ref qfa])), (qfa, .inl (cI, 250, .inl fl)), (qs, .inr (5, [.ref qsr])), (qsr, .inr (4, [.ref qsa])), (qsa, .inl (cI, 5, .inl sv))]) (W2 := [(q, .inr (2, [.ref qs, .ref qc, .ref qn, .ref qo, .ref ql, .ref qf, .int st, .int he, .int ta, .int cl, .int dr])), (qc, .inr (4, [.ref qca])), (qca, .inl (cI, 500, .inl (f_X4_put 500 cn (f_X2_path v4 v5) (f_X8_cutQuotient ((((f_X4_get 500 cn (f_X2_path v1 v5))).toInt64) * ((v2).toInt64)) ((v3).toInt64))))), (qn, .inr (4, [.ref qna])), (qna, .inl (cI, 500, .inl nx)), (qo, .inr (4, [.ref qoa])), (qoa, .inl (cI, 250, .inl og)), (ql, .inr (4, [.ref qla])), (qla, .inl (cI, 250, .inl li)), (qf, .inr (4, [.ref qfa])), (qfa, .inl (cI, 250, .inl fl)), (qs, .inr (5, [.ref qsr])), (qsr, .inr (4, [.ref qsa])), (qsa, .inl (cI, 5, .inl sv))]) S (c_X4_put l D cI (q := qc) (qa := qca) (n := 500) (f := cn) (x1 := (f_X2_path v4 v5)) (x2 := (f_X8_cutQuotient ((((f_X4_get 500 cn (f_X2_path v1 v5))).toInt64) * ((v2).toInt64)) ((v3).toInt64))) (hn := by decide) (o_f := (f_X4_put 500 cn (f_X2_path v4 v5) (f_X8_cutQuotient ((((f_X4_get 500 cn (f_X2_path v1 v5))).toInt64) * ((v2).toInt64)) ((v3).toInt64)))) (hf := rfl)) gs_X2_71 ok_X4_put ⟨rfl, rfl⟩ ⟨Nat.le_of_ble_eq_true rfl, Nat.le_of_ble_eq_true rfl⟩ hK hN hSF hP hD hS hA [1, 2] [0, 3, 4, 5, 6, 7, 8, 9, 10, 11, 12, 13] [0, 12, 13, 1, 2, 3, 4, 5, 6, 7, 8, 9, 10, 11] (by decide) rfl rfl (by decide) (by decide) rfl (by decide) rfl rfl rfl hl.1 rfl (Nat.le_of_ble_eq_true rfl) ⟨Nat.zero_le _, Nat.zero_le _⟩ dX2_cloneFrom_60 (fun H locs hP hD hS => ?_)
      refine lv_aload_n hx hb dX2_cloneFrom_63 rfl (lv_at hl 3 rfl) ?_
      refine va_get (D := D) (ci := 2) (v := .ref qc) (C := RX2) (T := TX2) (N := 11) hx hb hts inGX2 hown hK hP 0 rfl rfl 1 (by decide) (hts _ fl_X2_14) (fun _ h9 => h9) rfl dX2_cloneFrom_64 ?_
      refine lv_iload hx hb dX2_cloneFrom_67 (lv_at hl 2 rfl) ?_
      refine lv_aload_n hx hb dX2_cloneFrom_69 rfl (lv_at hl 3 rfl) ?_
      refine va_get (D := D) (ci := 2) (v := .ref qc) (C := RX2) (T := TX2) (N := 11) hx hb hts inGX2 hown hK hP 0 rfl rfl 1 (by decide) (hts _ fl_X2_14) (fun _ h9 => h9) rfl dX2_cloneFrom_70 ?_
      refine lv_iload hx hb dX2_cloneFrom_73 (lv_at hl 2 rfl) ?_
      refine k_roVi (As := [.int (f_X2_path v1 v5)]) (rest := [.int (f_X2_path v1 v5), .ref qc]) S (c_X4_get l D cI (q := qc) (qa := qca) (n := 500) (f := (f_X4_put 500 cn (f_X2_path v4 v5) (f_X8_cutQuotient ((((f_X4_get 500 cn (f_X2_path v1 v5))).toInt64) * ((v2).toInt64)) ((v3).toInt64)))) (x1 := (f_X2_path v1 v5)) (hn := by decide) (r := (f_X4_get 500 (f_X4_put 500 cn (f_X2_path v4 v5) (f_X8_cutQuotient ((((f_X4_get 500 cn (f_X2_path v1 v5))).toInt64) * ((v2).toInt64)) ((v3).toInt64))) (f_X2_path v1 v5))) (hf := rfl)) gs_X2_79 ok_X4_get ⟨rfl, rfl⟩ ⟨Nat.le_of_ble_eq_true rfl, Nat.le_of_ble_eq_true rfl⟩ hK hN (sfr hSF hS) (hP.sub [1, 2] rfl) rfl rfl rfl hl.1 rfl (Nat.le_of_ble_eq_true rfl) ⟨Nat.zero_le _, Nat.zero_le _⟩ dX2_cloneFrom_75 ?_
      refine lv_iload hx hb dX2_cloneFrom_78 (lv_at hl 0 rfl) ?_
      refine lv_isub hx hb dX2_cloneFrom_80 ?_
      refine k_rwVv (As := [.int (f_X2_path v1 v5), .int ((f_X4_get 500 (f_X4_put 500 cn (f_X2_path v4 v5) (f_X8_cutQuotient ((((f_X4_get 500 cn (f_X2_path v1 v5))).toInt64) * ((v2).toInt64)) ((v3).toInt64))) (f_X2_path v1 v5)) - (f_X8_cutQuotient ((((f_X4_get 500 cn (f_X2_path v1 v5))).toInt64) * ((v2).toInt64)) ((v3).toInt64)))]) (rest := []) (Wr := [(q, .inr (2, [.ref qs, .ref qc, .ref qn, .ref qo, .ref ql, .ref qf, .int st, .int he, .int ta, .int cl, .int dr])), (qn, .inr (4, [.ref qna])), (qna, .inl (cI, 500, .inl nx)), (qo, .inr (4, [.ref qoa])), (qoa, .inl (cI, 250, .inl og)), (ql, .inr (4, [.ref qla])), (qla, .inl (cI, 250, .inl li)), (qf, .inr (4, [.ref qfa])), (qfa, .inl (cI, 250, .inl fl)), (qs, .inr (5, [.ref qsr])), (qsr, .inr (4, [.ref qsa])), (qsa, .inl (cI, 5, .inl sv))]) (W2 := [(q, .inr (2, [.ref qs, .ref qc, .ref qn, .ref qo, .ref ql, .ref qf, .int st, .int he, .int ta, .int cl, .int dr])), (qc, .inr (4, [.ref qca])), (qca, .inl (cI, 500, .inl (f_X4_put 500 (f_X4_put 500 cn (f_X2_path v4 v5) (f_X8_cutQuotient ((((f_X4_get 500 cn (f_X2_path v1 v5))).toInt64) * ((v2).toInt64)) ((v3).toInt64))) (f_X2_path v1 v5) ((f_X4_get 500 (f_X4_put 500 cn (f_X2_path v4 v5) (f_X8_cutQuotient ((((f_X4_get 500 cn (f_X2_path v1 v5))).toInt64) * ((v2).toInt64)) ((v3).toInt64))) (f_X2_path v1 v5)) - (f_X8_cutQuotient ((((f_X4_get 500 cn (f_X2_path v1 v5))).toInt64) * ((v2).toInt64)) ((v3).toInt64)))))), (qn, .inr (4, [.ref qna])), (qna, .inl (cI, 500, .inl nx)), (qo, .inr (4, [.ref qoa])), (qoa, .inl (cI, 250, .inl og)), (ql, .inr (4, [.ref qla])), (qla, .inl (cI, 250, .inl li)), (qf, .inr (4, [.ref qfa])), (qfa, .inl (cI, 250, .inl fl)), (qs, .inr (5, [.ref qsr])), (qsr, .inr (4, [.ref qsa])), (qsa, .inl (cI, 5, .inl sv))]) S (c_X4_put l D cI (q := qc) (qa := qca) (n := 500) (f := (f_X4_put 500 cn (f_X2_path v4 v5) (f_X8_cutQuotient ((((f_X4_get 500 cn (f_X2_path v1 v5))).toInt64) * ((v2).toInt64)) ((v3).toInt64)))) (x1 := (f_X2_path v1 v5)) (x2 := (f_X4_get 500 (f_X4_put 500 cn (f_X2_path v4 v5) (f_X8_cutQuotient ((((f_X4_get 500 cn (f_X2_path v1 v5))).toInt64) * ((v2).toInt64)) ((v3).toInt64))) (f_X2_path v1 v5)) - (f_X8_cutQuotient ((((f_X4_get 500 cn (f_X2_path v1 v5))).toInt64) * ((v2).toInt64)) ((v3).toInt64))) (hn := by decide) (o_f := (f_X4_put 500 (f_X4_put 500 cn (f_X2_path v4 v5) (f_X8_cutQuotient ((((f_X4_get 500 cn (f_X2_path v1 v5))).toInt64) * ((v2).toInt64)) ((v3).toInt64))) (f_X2_path v1 v5) ((f_X4_get 500 (f_X4_put 500 cn (f_X2_path v4 v5) (f_X8_cutQuotient ((((f_X4_get 500 cn (f_X2_path v1 v5))).toInt64) * ((v2).toInt64)) ((v3).toInt64))) (f_X2_path v1 v5)) - (f_X8_cutQuotient ((((f_X4_get 500 cn (f_X2_path v1 v5))).toInt64) * ((v2).toInt64)) ((v3).toInt64))))) (hf := rfl)) gs_X2_71 ok_X4_put ⟨rfl, rfl⟩ ⟨Nat.le_of_ble_eq_true rfl, Nat.le_of_ble_eq_true rfl⟩ hK hN hSF hP hD hS hA [1, 2] [0, 3, 4, 5, 6, 7, 8, 9, 10, 11, 12, 13] [0, 12, 13, 1, 2, 3, 4, 5, 6, 7, 8, 9, 10, 11] (by decide) rfl rfl (by decide) (by decide) rfl (by decide) rfl rfl rfl hl.1 rfl (Nat.le_of_ble_eq_true rfl) ⟨Nat.zero_le _, Nat.zero_le _⟩ dX2_cloneFrom_81 (fun H locs hP hD hS => ?_)
      refine lv_aload_n hx hb dX2_cloneFrom_84 rfl (lv_at hl 3 rfl) ?_
      refine va_get (D := D) (ci := 2) (v := .ref qn) (C := RX2) (T := TX2) (N := 11) hx hb hts inGX2 hown hK hP 0 rfl rfl 2 (by decide) (hts _ fl_X2_20) (fun _ h9 => h9) rfl dX2_cloneFrom_85 ?_
      refine lv_iload hx hb dX2_cloneFrom_88 (lv_at hl 1 rfl) ?_
      refine lv_aload_n hx hb dX2_cloneFrom_90 rfl (lv_at hl 3 rfl) ?_
      refine va_get (D := D) (ci := 2) (v := .ref qn) (C := RX2) (T := TX2) (N := 11) hx hb hts inGX2 hown hK hP 0 rfl rfl 2 (by decide) (hts _ fl_X2_20) (fun _ h9 => h9) rfl dX2_cloneFrom_91 ?_
      refine lv_iload hx hb dX2_cloneFrom_94 (lv_at hl 2 rfl) ?_
      refine k_roVi (As := [.int (f_X2_path v1 v5)]) (rest := [.int (f_X2_path v4 v5), .ref qn]) S (c_X4_get l D cI (q := qn) (qa := qna) (n := 500) (f := nx) (x1 := (f_X2_path v1 v5)) (hn := by decide) (r := (f_X4_get 500 nx (f_X2_path v1 v5))) (hf := rfl)) gs_X2_79 ok_X4_get ⟨rfl, rfl⟩ ⟨Nat.le_of_ble_eq_true rfl, Nat.le_of_ble_eq_true rfl⟩ hK hN (sfr hSF hS) (hP.sub [3, 4] rfl) rfl rfl rfl hl.1 rfl (Nat.le_of_ble_eq_true rfl) ⟨Nat.zero_le _, Nat.zero_le _⟩ dX2_cloneFrom_96 ?_
      refine k_rwVv (As := [.int (f_X2_path v4 v5), .int (f_X4_get 500 nx (f_X2_path v1 v5))]) (rest := []) (Wr := [(q, .inr (2, [.ref qs, .ref qc, .ref qn, .ref qo, .ref ql, .ref qf, .int st, .int he, .int ta, .int cl, .int dr])), (qc, .inr (4, [.ref qca])), (qca, .inl (cI, 500, .inl (f_X4_put 500 (f_X4_put 500 cn (f_X2_path v4 v5) (f_X8_cutQuotient ((((f_X4_get 500 cn (f_X2_path v1 v5))).toInt64) * ((v2).toInt64)) ((v3).toInt64))) (f_X2_path v1 v5) ((f_X4_get 500 (f_X4_put 500 cn (f_X2_path v4 v5) (f_X8_cutQuotient ((((f_X4_get 500 cn (f_X2_path v1 v5))).toInt64) * ((v2).toInt64)) ((v3).toInt64))) (f_X2_path v1 v5)) - (f_X8_cutQuotient ((((f_X4_get 500 cn (f_X2_path v1 v5))).toInt64) * ((v2).toInt64)) ((v3).toInt64)))))), (qo, .inr (4, [.ref qoa])), (qoa, .inl (cI, 250, .inl og)), (ql, .inr (4, [.ref qla])), (qla, .inl (cI, 250, .inl li)), (qf, .inr (4, [.ref qfa])), (qfa, .inl (cI, 250, .inl fl)), (qs, .inr (5, [.ref qsr])), (qsr, .inr (4, [.ref qsa])), (qsa, .inl (cI, 5, .inl sv))]) (W2 := [(q, .inr (2, [.ref qs, .ref qc, .ref qn, .ref qo, .ref ql, .ref qf, .int st, .int he, .int ta, .int cl, .int dr])), (qc, .inr (4, [.ref qca])), (qca, .inl (cI, 500, .inl (f_X4_put 500 (f_X4_put 500 cn (f_X2_path v4 v5) (f_X8_cutQuotient ((((f_X4_get 500 cn (f_X2_path v1 v5))).toInt64) * ((v2).toInt64)) ((v3).toInt64))) (f_X2_path v1 v5) ((f_X4_get 500 (f_X4_put 500 cn (f_X2_path v4 v5) (f_X8_cutQuotient ((((f_X4_get 500 cn (f_X2_path v1 v5))).toInt64) * ((v2).toInt64)) ((v3).toInt64))) (f_X2_path v1 v5)) - (f_X8_cutQuotient ((((f_X4_get 500 cn (f_X2_path v1 v5))).toInt64) * ((v2).toInt64)) ((v3).toInt64)))))), (qn, .inr (4, [.ref qna])), (qna, .inl (cI, 500, .inl (f_X4_put 500 nx (f_X2_path v4 v5) (f_X4_get 500 nx (f_X2_path v1 v5))))), (qo, .inr (4, [.ref qoa])), (qoa, .inl (cI, 250, .inl og)), (ql, .inr (4, [.ref qla])), (qla, .inl (cI, 250, .inl li)), (qf, .inr (4, [.ref qfa])), (qfa, .inl (cI, 250, .inl fl)), (qs, .inr (5, [.ref qsr])), (qsr, .inr (4, [.ref qsa])), (qsa, .inl (cI, 5, .inl sv))]) S (c_X4_put l D cI (q := qn) (qa := qna) (n := 500) (f := nx) (x1 := (f_X2_path v4 v5)) (x2 := (f_X4_get 500 nx (f_X2_path v1 v5))) (hn := by decide) (o_f := (f_X4_put 500 nx (f_X2_path v4 v5) (f_X4_get 500 nx (f_X2_path v1 v5)))) (hf := rfl)) gs_X2_71 ok_X4_put ⟨rfl, rfl⟩ ⟨Nat.le_of_ble_eq_true rfl, Nat.le_of_ble_eq_true rfl⟩ hK hN hSF hP hD hS hA [3, 4] [0, 1, 2, 5, 6, 7, 8, 9, 10, 11, 12, 13] [0, 1, 2, 12, 13, 3, 4, 5, 6, 7, 8, 9, 10, 11] (by decide) rfl rfl (by decide) (by decide) rfl (by decide) rfl rfl rfl hl.1 rfl (Nat.le_of_ble_eq_true rfl) ⟨Nat.zero_le _, Nat.zero_le _⟩ dX2_cloneFrom_99 (fun H locs hP hD hS => ?_)
      refine lv_iinc (v := v5 + 1) (lv' := [(5, .int (v5 + 1)), (8, .int (f_X8_cutQuotient ((((f_X4_get 500 cn (f_X2_path v1 v5))).toInt64) * ((v2).toInt64)) ((v3).toInt64))), (7, .int (f_X2_path v4 v5)), (6, .int (f_X2_path v1 v5)), (0, .ref q), (1, .int v1), (2, .int v2), (3, .int v3), (4, .int v4)]) hx hb dX2_cloneFrom_102 hl (k := 8) rfl rfl (by decide) rfl (fun ls hl => ?_)
      refine lv_goto (tgt := 9) hx hb dX2_cloneFrom_105 (by decide) ?_
      have hf := Option.some.inj hf
      subst hf
      exact ih (v5 + 1) (f_X4_put 500 (f_X4_put 500 cn (f_X2_path v4 v5) (f_X8_cutQuotient ((((f_X4_get 500 cn (f_X2_path v1 v5))).toInt64) * ((v2).toInt64)) ((v3).toInt64))) (f_X2_path v1 v5) ((f_X4_get 500 (f_X4_put 500 cn (f_X2_path v4 v5) (f_X8_cutQuotient ((((f_X4_get 500 cn (f_X2_path v1 v5))).toInt64) * ((v2).toInt64)) ((v3).toInt64))) (f_X2_path v1 v5)) - (f_X8_cutQuotient ((((f_X4_get 500 cn (f_X2_path v1 v5))).toInt64) * ((v2).toInt64)) ((v3).toInt64)))) (f_X4_put 500 nx (f_X2_path v4 v5) (f_X4_get 500 nx (f_X2_path v1 v5))) _ _ _ hz H locs ls hP hD hS (lv_sub hl [4, 5, 6, 7, 8, 0] rfl) kk
def f_X2_cloneFrom (st : Int32) (cl : Int32) (cn : (Nat → Int32)) (nx : (Nat → Int32)) (og : (Nat → Int32)) (li : (Nat → Int32)) (x1 : Int32) (x2 : Int32) (x3 : Int32) : Option (Int32 × Int32 × Int32 × (Nat → Int32) × (Nat → Int32) × (Nat → Int32) × (Nat → Int32)) := bi3 (f_X2_cloneFrom_L9 x1 x2 x3 st 4096 0 cn nx) (fun (v5_2 : Int32) (cn_3 : (Nat → Int32)) (nx_4 : (Nat → Int32)) => some (st, st + 1, cl + 1, cn_3, nx_4, (f_X4_put 250 og st x1), (f_X4_put 250 li st ((f_X4_get 250 li x1) + 1))))
set_option maxHeartbeats 4000000 in
set_option maxRecDepth 100000 in
theorem c_X2_cloneFrom (l : Launch) (D : va_G) (cI : ClassId) {sz : Nat} (q : Nat) (qs : Nat) (qc : Nat) (qn : Nat) (qo : Nat) (ql : Nat) (qf : Nat) (qca : Nat) (qna : Nat) (qoa : Nat) (qla : Nat) (qfa : Nat) (qsr : Nat) (qsa : Nat) (st : Int32) (he : Int32) (ta : Int32) (cl : Int32) (dr : Int32) (cn : (Nat → Int32)) (nx : (Nat → Int32)) (og : (Nat → Int32)) (li : (Nat → Int32)) (fl : (Nat → Int32)) (sv : (Nat → Int32)) (x1 : Int32) (x2 : Int32) (x3 : Int32) (r : Int32) (o_st : Int32) (o_cl : Int32) (o_cn : (Nat → Int32)) (o_nx : (Nat → Int32)) (o_og : (Nat → Int32)) (o_li : (Nat → Int32)) (hf : f_X2_cloneFrom st cl cn nx og li x1 x2 x3 = some (r, o_st, o_cl, o_cn, o_nx, o_og, o_li)) : Met l yX2_cloneFrom (.code yX2_cloneFrom cX2_cloneFrom 9 (some .int) :: wsG) ({ frames := 1, cells := 0, slots := 0, locals := 23 }) (va_Pc [.ref q, .int x1, .int x2, .int x3] (gv D cI sz [(q, .inr (2, [.ref qs, .ref qc, .ref qn, .ref qo, .ref ql, .ref qf, .int st, .int he, .int ta, .int cl, .int dr])), (qc, .inr (4, [.ref qca])), (qca, .inl (cI, 500, .inl cn)), (qn, .inr (4, [.ref qna])), (qna, .inl (cI, 500, .inl nx)), (qo, .inr (4, [.ref qoa])), (qoa, .inl (cI, 250, .inl og)), (ql, .inr (4, [.ref qla])), (qla, .inl (cI, 250, .inl li)), (qf, .inr (4, [.ref qfa])), (qfa, .inl (cI, 250, .inl fl)), (qs, .inr (5, [.ref qsr])), (qsr, .inr (4, [.ref qsa])), (qsa, .inl (cI, 5, .inl sv))])) (va_Qi (fun x (_ : Unit) => x = r) (gz D (va_A [(q, .inr (2, [.ref qs, .ref qc, .ref qn, .ref qo, .ref ql, .ref qf, .int st, .int he, .int ta, .int cl, .int dr])), (qc, .inr (4, [.ref qca])), (qca, .inl (cI, 500, .inl cn)), (qn, .inr (4, [.ref qna])), (qna, .inl (cI, 500, .inl nx)), (qo, .inr (4, [.ref qoa])), (qoa, .inl (cI, 250, .inl og)), (ql, .inr (4, [.ref qla])), (qla, .inl (cI, 250, .inl li)), (qf, .inr (4, [.ref qfa])), (qfa, .inl (cI, 250, .inl fl)), (qs, .inr (5, [.ref qsr])), (qsr, .inr (4, [.ref qsa])), (qsa, .inl (cI, 5, .inl sv))] sz) [(q, .inr (2, [.ref qs, .ref qc, .ref qn, .ref qo, .ref ql, .ref qf, .int o_st, .int he, .int ta, .int o_cl, .int dr])), (qc, .inr (4, [.ref qca])), (qca, .inl (cI, 500, .inl o_cn)), (qn, .inr (4, [.ref qna])), (qna, .inl (cI, 500, .inl o_nx)), (qo, .inr (4, [.ref qoa])), (qoa, .inl (cI, 250, .inl o_og)), (ql, .inr (4, [.ref qla])), (qla, .inl (cI, 250, .inl o_li)), (qf, .inr (4, [.ref qfa])), (qfa, .inl (cI, 250, .inl fl)), (qs, .inr (5, [.ref qsr])), (qsr, .inr (4, [.ref qsa])), (qsa, .inl (cI, 5, .inl sv))]) (va_A [(q, .inr (2, [.ref qs, .ref qc, .ref qn, .ref qo, .ref ql, .ref qf, .int st, .int he, .int ta, .int cl, .int dr])), (qc, .inr (4, [.ref qca])), (qca, .inl (cI, 500, .inl cn)), (qn, .inr (4, [.ref qna])), (qna, .inl (cI, 500, .inl nx)), (qo, .inr (4, [.ref qoa])), (qoa, .inl (cI, 250, .inl og)), (ql, .inr (4, [.ref qla])), (qla, .inl (cI, 250, .inl li)), (qf, .inr (4, [.ref qfa])), (qfa, .inl (cI, 250, .inl fl)), (qs, .inr (5, [.ref qsr])), (qsr, .inr (4, [.ref qsa])), (qsa, .inl (cI, 5, .inl sv))] sz)) 0 0 (va_A [(q, .inr (2, [.ref qs, .ref qc, .ref qn, .ref qo, .ref ql, .ref qf, .int st, .int he, .int ta, .int cl, .int dr])), (qc, .inr (4, [.ref qca])), (qca, .inl (cI, 500, .inl cn)), (qn, .inr (4, [.ref qna])), (qna, .inl (cI, 500, .inl nx)), (qo, .inr (4, [.ref qoa])), (qoa, .inl (cI, 250, .inl og)), (ql, .inr (4, [.ref qla])), (qla, .inl (cI, 250, .inl li)), (qf, .inr (4, [.ref qfa])), (qfa, .inl (cI, 250, .inl fl)), (qs, .inr (5, [.ref qsr])), (qsr, .inr (4, [.ref qsa])), (qsa, .inl (cI, 5, .inl sv))] sz) := by
  refine k_rw (y := yX2_cloneFrom) (cc := cX2_cloneFrom) (maxL := 9) (ret := (some .int)) (As := [.ref q, .int x1, .int x2, .int x3]) (Qc := fun A => va_Qi (fun x (_ : Unit) => x = r) (gz D A [(q, .inr (2, [.ref qs, .ref qc, .ref qn, .ref qo, .ref ql, .ref qf, .int o_st, .int he, .int ta, .int o_cl, .int dr])), (qc, .inr (4, [.ref qca])), (qca, .inl (cI, 500, .inl o_cn)), (qn, .inr (4, [.ref qna])), (qna, .inl (cI, 500, .inl o_nx)), (qo, .inr (4, [.ref qoa])), (qoa, .inl (cI, 250, .inl o_og)), (ql, .inr (4, [.ref qla])), (qla, .inl (cI, 250, .inl o_li)), (qf, .inr (4, [.ref qfa])), (qfa, .inl (cI, 250, .inl fl)), (qs, .inr (5, [.ref qsr])), (qsr, .inr (4, [.ref qsa])), (qsa, .inl (cI, 5, .inl sv))]) A) (by decide) rfl (Nat.le_of_ble_eq_true rfl) rfl ?_
  intro p e s m below meth c ls A S hret hloc hK hN hSF hP hD hS hA hl
  obtain ⟨hx, hb, hml, hown, hts⟩ := id S
  unfold f_X2_cloneFrom at hf
  refine lv_aload_n hx hb dX2_cloneFrom_0 rfl (lv_at hl 0 rfl) ?_
  refine va_get (D := D) (ci := 2) (v := .int st) (C := RX2) (T := TX2) (N := 11) hx hb hts inGX2 hown hK hP 0 rfl rfl 6 (by decide) (hts _ fl_X2_61) (fun _ h9 => h9) rfl dX2_cloneFrom_1 ?_
  refine lv_istore (lv' := [(4, .int st), (0, .ref q), (1, .int x1), (2, .int x2), (3, .int x3)]) hx hb dX2_cloneFrom_4 hl (by decide) rfl (fun ls hl => ?_)
  refine lv_iconst (v := 0) hx hb dX2_cloneFrom_6 (by decide) ?_
  refine lv_istore (lv' := [(5, .int 0), (4, .int st), (0, .ref q), (1, .int x1), (2, .int x2), (3, .int x3)]) hx hb dX2_cloneFrom_7 hl (by decide) rfl (fun ls hl => ?_)
  obtain ⟨v5_2, cn_3, nx_4, hc_5, hf⟩ := bd3 hf
  refine L_X2_cloneFrom_9 S hK hN hSF hA _ 0 cn nx v5_2 cn_3 nx_4 hc_5 _ _ _ hP hD hS (lv_sub hl [2, 3, 4, 5, 1, 0] rfl) (fun H locs ls hP hD hS hl => ?_)
  refine lv_aload_n hx hb dX2_cloneFrom_108 rfl (lv_at hl 0 rfl) ?_
  refine va_get (D := D) (ci := 2) (v := .ref qo) (C := RX2) (T := TX2) (N := 11) hx hb hts inGX2 hown hK hP 0 rfl rfl 3 (by decide) (hts _ fl_X2_23) (fun _ h9 => h9) rfl dX2_cloneFrom_109 ?_
  refine lv_iload hx hb dX2_cloneFrom_112 (lv_at hl 4 rfl) ?_
  refine lv_iload_n hx hb dX2_cloneFrom_114 rfl (lv_at hl 1 rfl) ?_
  refine k_rwVv (As := [.int st, .int x1]) (rest := []) (Wr := [(q, .inr (2, [.ref qs, .ref qc, .ref qn, .ref qo, .ref ql, .ref qf, .int st, .int he, .int ta, .int cl, .int dr])), (qc, .inr (4, [.ref qca])), (qca, .inl (cI, 500, .inl cn_3)), (qn, .inr (4, [.ref qna])), (qna, .inl (cI, 500, .inl nx_4)), (ql, .inr (4, [.ref qla])), (qla, .inl (cI, 250, .inl li)), (qf, .inr (4, [.ref qfa])), (qfa, .inl (cI, 250, .inl fl)), (qs, .inr (5, [.ref qsr])), (qsr, .inr (4, [.ref qsa])), (qsa, .inl (cI, 5, .inl sv))]) (W2 := [(q, .inr (2, [.ref qs, .ref qc, .ref qn, .ref qo, .ref ql, .ref qf, .int st, .int he, .int ta, .int cl, .int dr])), (qc, .inr (4, [.ref qca])), (qca, .inl (cI, 500, .inl cn_3)), (qn, .inr (4, [.ref qna])), (qna, .inl (cI, 500, .inl nx_4)), (qo, .inr (4, [.ref qoa])), (qoa, .inl (cI, 250, .inl (f_X4_put 250 og st x1))), (ql, .inr (4, [.ref qla])), (qla, .inl (cI, 250, .inl li)), (qf, .inr (4, [.ref qfa])), (qfa, .inl (cI, 250, .inl fl)), (qs, .inr (5, [.ref qsr])), (qsr, .inr (4, [.ref qsa])), (qsa, .inl (cI, 5, .inl sv))]) S (c_X4_put l D cI (q := qo) (qa := qoa) (n := 250) (f := og) (x1 := st) (x2 := x1) (hn := by decide) (o_f := (f_X4_put 250 og st x1)) (hf := rfl)) gs_X2_71 ok_X4_put ⟨rfl, rfl⟩ ⟨Nat.le_of_ble_eq_true rfl, Nat.le_of_ble_eq_true rfl⟩ hK hN hSF hP hD hS hA [5, 6] [0, 1, 2, 3, 4, 7, 8, 9, 10, 11, 12, 13] [0, 1, 2, 3, 4, 12, 13, 5, 6, 7, 8, 9, 10, 11] (by decide) rfl rfl (by decide) (by decide) rfl (by decide) rfl rfl rfl hl.1 rfl (Nat.le_of_ble_eq_true rfl) ⟨Nat.zero_le _, Nat.zero_le _⟩ dX2_cloneFrom_115 (fun H locs hP hD hS => ?_)
  refine lv_aload_n hx hb dX2_cloneFrom_118 rfl (lv_at hl 0 rfl) ?_
  refine va_get (D := D) (ci := 2) (v := .ref ql) (C := RX2) (T := TX2) (N := 11) hx hb hts inGX2 hown hK hP 0 rfl rfl 4 (by decide) (hts _ fl_X2_26) (fun _ h9 => h9) rfl dX2_cloneFrom_119 ?_
  refine lv_iload hx hb dX2_cloneFrom_122 (lv_at hl 4 rfl) ?_
  refine lv_aload_n hx hb dX2_cloneFrom_124 rfl (lv_at hl 0 rfl) ?_
  refine va_get (D := D) (ci := 2) (v := .ref ql) (C := RX2) (T := TX2) (N := 11) hx hb hts inGX2 hown hK hP 0 rfl rfl 4 (by decide) (hts _ fl_X2_26) (fun _ h9 => h9) rfl dX2_cloneFrom_125 ?_
  refine lv_iload_n hx hb dX2_cloneFrom_128 rfl (lv_at hl 1 rfl) ?_
  refine k_roVi (As := [.int x1]) (rest := [.int st, .ref ql]) S (c_X4_get l D cI (q := ql) (qa := qla) (n := 250) (f := li) (x1 := x1) (hn := by decide) (r := (f_X4_get 250 li x1)) (hf := rfl)) gs_X2_79 ok_X4_get ⟨rfl, rfl⟩ ⟨Nat.le_of_ble_eq_true rfl, Nat.le_of_ble_eq_true rfl⟩ hK hN (sfr hSF hS) (hP.sub [7, 8] rfl) rfl rfl rfl hl.1 rfl (Nat.le_of_ble_eq_true rfl) ⟨Nat.zero_le _, Nat.zero_le _⟩ dX2_cloneFrom_129 ?_
  refine lv_iconst (v := 1) hx hb dX2_cloneFrom_132 (by decide) ?_
  refine lv_iadd hx hb dX2_cloneFrom_133 ?_
  refine k_rwVv (As := [.int st, .int ((f_X4_get 250 li x1) + 1)]) (rest := []) (Wr := [(q, .inr (2, [.ref qs, .ref qc, .ref qn, .ref qo, .ref ql, .ref qf, .int st, .int he, .int ta, .int cl, .int dr])), (qc, .inr (4, [.ref qca])), (qca, .inl (cI, 500, .inl cn_3)), (qn, .inr (4, [.ref qna])), (qna, .inl (cI, 500, .inl nx_4)), (qo, .inr (4, [.ref qoa])), (qoa, .inl (cI, 250, .inl (f_X4_put 250 og st x1))), (qf, .inr (4, [.ref qfa])), (qfa, .inl (cI, 250, .inl fl)), (qs, .inr (5, [.ref qsr])), (qsr, .inr (4, [.ref qsa])), (qsa, .inl (cI, 5, .inl sv))]) (W2 := [(q, .inr (2, [.ref qs, .ref qc, .ref qn, .ref qo, .ref ql, .ref qf, .int st, .int he, .int ta, .int cl, .int dr])), (qc, .inr (4, [.ref qca])), (qca, .inl (cI, 500, .inl cn_3)), (qn, .inr (4, [.ref qna])), (qna, .inl (cI, 500, .inl nx_4)), (qo, .inr (4, [.ref qoa])), (qoa, .inl (cI, 250, .inl (f_X4_put 250 og st x1))), (ql, .inr (4, [.ref qla])), (qla, .inl (cI, 250, .inl (f_X4_put 250 li st ((f_X4_get 250 li x1) + 1)))), (qf, .inr (4, [.ref qfa])), (qfa, .inl (cI, 250, .inl fl)), (qs, .inr (5, [.ref qsr])), (qsr, .inr (4, [.ref qsa])), (qsa, .inl (cI, 5, .inl sv))]) S (c_X4_put l D cI (q := ql) (qa := qla) (n := 250) (f := li) (x1 := st) (x2 := (f_X4_get 250 li x1) + 1) (hn := by decide) (o_f := (f_X4_put 250 li st ((f_X4_get 250 li x1) + 1))) (hf := rfl)) gs_X2_71 ok_X4_put ⟨rfl, rfl⟩ ⟨Nat.le_of_ble_eq_true rfl, Nat.le_of_ble_eq_true rfl⟩ hK hN hSF hP hD hS hA [7, 8] [0, 1, 2, 3, 4, 5, 6, 9, 10, 11, 12, 13] [0, 1, 2, 3, 4, 5, 6, 12, 13, 7, 8, 9, 10, 11] (by decide) rfl rfl (by decide) (by decide) rfl (by decide) rfl rfl rfl hl.1 rfl (Nat.le_of_ble_eq_true rfl) ⟨Nat.zero_le _, Nat.zero_le _⟩ dX2_cloneFrom_134 (fun H locs hP hD hS => ?_)
  refine lv_aload_n hx hb dX2_cloneFrom_137 rfl (lv_at hl 0 rfl) ?_
  refine lv_dup hx hb dX2_cloneFrom_138 rfl ?_
  refine va_get (D := D) (ci := 2) (v := .int st) (C := RX2) (T := TX2) (N := 11) hx hb hts inGX2 hown hK hP 0 rfl rfl 6 (by decide) (hts _ fl_X2_61) (fun _ h9 => h9) rfl dX2_cloneFrom_139 ?_
  refine lv_iconst (v := 1) hx hb dX2_cloneFrom_142 (by decide) ?_
  refine lv_iadd hx hb dX2_cloneFrom_143 ?_
  refine va_put (D := D) (ci := 2) (v := .int (st + 1)) (ty := .int) (C := RX2) (T := TX2) (N := 11) hx hb hts inGX2 tyX2 tyX2_ok nmX2 hown hK hP hD hS 0 rfl rfl 6 (by decide) (hts _ fl_X2_61) (fun _ h9 => h9) rfl (by decide +kernel) rfl rfl (Nat.le_of_ble_eq_true rfl) dX2_cloneFrom_144 (fun H locs hP hD hS => ?_)
  have hP : va_P D vwCl [(q, .inr (2, [.ref qs, .ref qc, .ref qn, .ref qo, .ref ql, .ref qf, .int (st + 1), .int he, .int ta, .int cl, .int dr])), (qc, .inr (4, [.ref qca])), (qca, .inl (cI, 500, .inl cn_3)), (qn, .inr (4, [.ref qna])), (qna, .inl (cI, 500, .inl nx_4)), (qo, .inr (4, [.ref qoa])), (qoa, .inl (cI, 250, .inl (f_X4_put 250 og st x1))), (ql, .inr (4, [.ref qla])), (qla, .inl (cI, 250, .inl (f_X4_put 250 li st ((f_X4_get 250 li x1) + 1)))), (qf, .inr (4, [.ref qfa])), (qfa, .inl (cI, 250, .inl fl)), (qs, .inr (5, [.ref qsr])), (qsr, .inr (4, [.ref qsa])), (qsa, .inl (cI, 5, .inl sv))] H := hP
  have hD : va_D A [(q, .inr (2, [.ref qs, .ref qc, .ref qn, .ref qo, .ref ql, .ref qf, .int (st + 1), .int he, .int ta, .int cl, .int dr])), (qc, .inr (4, [.ref qca])), (qca, .inl (cI, 500, .inl cn_3)), (qn, .inr (4, [.ref qna])), (qna, .inl (cI, 500, .inl nx_4)), (qo, .inr (4, [.ref qoa])), (qoa, .inl (cI, 250, .inl (f_X4_put 250 og st x1))), (ql, .inr (4, [.ref qla])), (qla, .inl (cI, 250, .inl (f_X4_put 250 li st ((f_X4_get 250 li x1) + 1)))), (qf, .inr (4, [.ref qfa])), (qfa, .inl (cI, 250, .inl fl)), (qs, .inr (5, [.ref qsr])), (qsr, .inr (4, [.ref qsa])), (qsa, .inl (cI, 5, .inl sv))] := hD
  refine lv_aload_n hx hb dX2_cloneFrom_147 rfl (lv_at hl 0 rfl) ?_
  refine lv_dup hx hb dX2_cloneFrom_148 rfl ?_
  refine va_get (D := D) (ci := 2) (v := .int cl) (C := RX2) (T := TX2) (N := 11) hx hb hts inGX2 hown hK hP 0 rfl rfl 9 (by decide) (hts _ fl_X2_43) (fun _ h9 => h9) rfl dX2_cloneFrom_149 ?_
  refine lv_iconst (v := 1) hx hb dX2_cloneFrom_152 (by decide) ?_
  refine lv_iadd hx hb dX2_cloneFrom_153 ?_
  refine va_put (D := D) (ci := 2) (v := .int (cl + 1)) (ty := .int) (C := RX2) (T := TX2) (N := 11) hx hb hts inGX2 tyX2 tyX2_ok nmX2 hown hK hP hD hS 0 rfl rfl 9 (by decide) (hts _ fl_X2_43) (fun _ h9 => h9) rfl (by decide +kernel) rfl rfl (Nat.le_of_ble_eq_true rfl) dX2_cloneFrom_154 (fun H locs hP hD hS => ?_)
  have hP : va_P D vwCl [(q, .inr (2, [.ref qs, .ref qc, .ref qn, .ref qo, .ref ql, .ref qf, .int (st + 1), .int he, .int ta, .int (cl + 1), .int dr])), (qc, .inr (4, [.ref qca])), (qca, .inl (cI, 500, .inl cn_3)), (qn, .inr (4, [.ref qna])), (qna, .inl (cI, 500, .inl nx_4)), (qo, .inr (4, [.ref qoa])), (qoa, .inl (cI, 250, .inl (f_X4_put 250 og st x1))), (ql, .inr (4, [.ref qla])), (qla, .inl (cI, 250, .inl (f_X4_put 250 li st ((f_X4_get 250 li x1) + 1)))), (qf, .inr (4, [.ref qfa])), (qfa, .inl (cI, 250, .inl fl)), (qs, .inr (5, [.ref qsr])), (qsr, .inr (4, [.ref qsa])), (qsa, .inl (cI, 5, .inl sv))] H := hP
  have hD : va_D A [(q, .inr (2, [.ref qs, .ref qc, .ref qn, .ref qo, .ref ql, .ref qf, .int (st + 1), .int he, .int ta, .int (cl + 1), .int dr])), (qc, .inr (4, [.ref qca])), (qca, .inl (cI, 500, .inl cn_3)), (qn, .inr (4, [.ref qna])), (qna, .inl (cI, 500, .inl nx_4)), (qo, .inr (4, [.ref qoa])), (qoa, .inl (cI, 250, .inl (f_X4_put 250 og st x1))), (ql, .inr (4, [.ref qla])), (qla, .inl (cI, 250, .inl (f_X4_put 250 li st ((f_X4_get 250 li x1) + 1)))), (qf, .inr (4, [.ref qfa])), (qfa, .inl (cI, 250, .inl fl)), (qs, .inr (5, [.ref qsr])), (qsr, .inr (4, [.ref qsa])), (qsa, .inl (cI, 5, .inl sv))] := hD
  refine lv_iload hx hb dX2_cloneFrom_157 (lv_at hl 4 rfl) ?_
  obtain ⟨e_0, e_r⟩ := Prod.mk.inj (Option.some.inj hf)
  obtain ⟨e_1, e_r⟩ := Prod.mk.inj (e_r)
  obtain ⟨e_2, e_r⟩ := Prod.mk.inj (e_r)
  obtain ⟨e_3, e_r⟩ := Prod.mk.inj (e_r)
  obtain ⟨e_4, e_r⟩ := Prod.mk.inj (e_r)
  obtain ⟨e_5, e_6⟩ := Prod.mk.inj (e_r)
  subst e_0
  subst e_1
  subst e_2
  subst e_3
  subst e_4
  subst e_5
  subst e_6
  exact k_wreti hx hb hret hloc rfl hP hD hS dX2_cloneFrom_159
theorem dX2_feed_0 : decode cX2_feed 0 = .ok (.aload_n 0, 1) := by decide +kernel
theorem dX2_feed_1 : decode cX2_feed 1 = .ok (.dup, 1) := by decide +kernel
theorem dX2_feed_2 : decode cX2_feed 2 = .ok (.getfield 39, 3) := by decide +kernel
theorem dX2_feed_5 : decode cX2_feed 5 = .ok (.iconst 1, 1) := by decide +kernel
theorem dX2_feed_6 : decode cX2_feed 6 = .ok (.iadd, 1) := by decide +kernel
theorem dX2_feed_7 : decode cX2_feed 7 = .ok (.putfield 39, 3) := by decide +kernel
theorem dX2_feed_10 : decode cX2_feed 10 = .ok (.aload_n 0, 1) := by decide +kernel
theorem dX2_feed_11 : decode cX2_feed 11 = .ok (.getfield 64, 3) := by decide +kernel
theorem dX2_feed_14 : decode cX2_feed 14 = .ok (.iload_n 1, 1) := by decide +kernel
theorem dX2_feed_15 : decode cX2_feed 15 = .ok (.invokestatic 67, 3) := by decide +kernel
theorem dX2_feed_18 : decode cX2_feed 18 = .ok (.istore_n 2, 1) := by decide +kernel
theorem dX2_feed_19 : decode cX2_feed 19 = .ok (.aload_n 0, 1) := by decide +kernel
theorem dX2_feed_20 : decode cX2_feed 20 = .ok (.getfield 14, 3) := by decide +kernel
theorem dX2_feed_23 : decode cX2_feed 23 = .ok (.iload_n 2, 1) := by decide +kernel
theorem dX2_feed_24 : decode cX2_feed 24 = .ok (.invokevirtual 79, 3) := by decide +kernel
theorem dX2_feed_27 : decode cX2_feed 27 = .ok (.istore_n 3, 1) := by decide +kernel
theorem dX2_feed_28 : decode cX2_feed 28 = .ok (.aload_n 0, 1) := by decide +kernel
theorem dX2_feed_29 : decode cX2_feed 29 = .ok (.getfield 20, 3) := by decide +kernel
theorem dX2_feed_32 : decode cX2_feed 32 = .ok (.iload_n 2, 1) := by decide +kernel
theorem dX2_feed_33 : decode cX2_feed 33 = .ok (.invokevirtual 79, 3) := by decide +kernel
theorem dX2_feed_36 : decode cX2_feed 36 = .ok (.istore 4, 2) := by decide +kernel
theorem dX2_feed_38 : decode cX2_feed 38 = .ok (.aload_n 0, 1) := by decide +kernel
theorem dX2_feed_39 : decode cX2_feed 39 = .ok (.iload 4, 2) := by decide +kernel
theorem dX2_feed_41 : decode cX2_feed 41 = .ok (.invokevirtual 80, 3) := by decide +kernel
theorem dX2_feed_44 : decode cX2_feed 44 = .ok (.istore 5, 2) := by decide +kernel
theorem dX2_feed_46 : decode cX2_feed 46 = .ok (.iload_n 3, 1) := by decide +kernel
theorem dX2_feed_47 : decode cX2_feed 47 = .ok (.aload_n 0, 1) := by decide +kernel
theorem dX2_feed_48 : decode cX2_feed 48 = .ok (.getfield 32, 3) := by decide +kernel
theorem dX2_feed_51 : decode cX2_feed 51 = .ok (.iconst 1, 1) := by decide +kernel
theorem dX2_feed_52 : decode cX2_feed 52 = .ok (.invokevirtual 52, 3) := by decide +kernel
theorem dX2_feed_55 : decode cX2_feed 55 = .ok (.if_icmp .le 65, 3) := by decide +kernel
theorem dX2_feed_58 : decode cX2_feed 58 = .ok (.iload 5, 2) := by decide +kernel
theorem dX2_feed_60 : decode cX2_feed 60 = .ok (.iload_n 3, 1) := by decide +kernel
theorem dX2_feed_61 : decode cX2_feed 61 = .ok (.isub, 1) := by decide +kernel
theorem dX2_feed_62 : decode cX2_feed 62 = .ok (.aload_n 0, 1) := by decide +kernel
theorem dX2_feed_63 : decode cX2_feed 63 = .ok (.getfield 32, 3) := by decide +kernel
theorem dX2_feed_66 : decode cX2_feed 66 = .ok (.iconst 2, 1) := by decide +kernel
theorem dX2_feed_67 : decode cX2_feed 67 = .ok (.invokevirtual 52, 3) := by decide +kernel
theorem dX2_feed_70 : decode cX2_feed 70 = .ok (.if_icmp .le 50, 3) := by decide +kernel
theorem dX2_feed_73 : decode cX2_feed 73 = .ok (.aload_n 0, 1) := by decide +kernel
theorem dX2_feed_74 : decode cX2_feed 74 = .ok (.getfield 61, 3) := by decide +kernel
theorem dX2_feed_77 : decode cX2_feed 77 = .ok (.aload_n 0, 1) := by decide +kernel
theorem dX2_feed_78 : decode cX2_feed 78 = .ok (.getfield 32, 3) := by decide +kernel
theorem dX2_feed_81 : decode cX2_feed 81 = .ok (.iconst 3, 1) := by decide +kernel
theorem dX2_feed_82 : decode cX2_feed 82 = .ok (.invokevirtual 52, 3) := by decide +kernel
theorem dX2_feed_85 : decode cX2_feed 85 = .ok (.if_icmp .lt 18, 3) := by decide +kernel
theorem dX2_feed_88 : decode cX2_feed 88 = .ok (.aload_n 0, 1) := by decide +kernel
theorem dX2_feed_89 : decode cX2_feed 89 = .ok (.dup, 1) := by decide +kernel
theorem dX2_feed_90 : decode cX2_feed 90 = .ok (.getfield 46, 3) := by decide +kernel
theorem dX2_feed_93 : decode cX2_feed 93 = .ok (.iconst 1, 1) := by decide +kernel
theorem dX2_feed_94 : decode cX2_feed 94 = .ok (.iadd, 1) := by decide +kernel
theorem dX2_feed_95 : decode cX2_feed 95 = .ok (.putfield 46, 3) := by decide +kernel
theorem dX2_feed_98 : decode cX2_feed 98 = .ok (.aload_n 0, 1) := by decide +kernel
theorem dX2_feed_99 : decode cX2_feed 99 = .ok (.invokevirtual 49, 3) := by decide +kernel
theorem dX2_feed_102 : decode cX2_feed 102 = .ok (.return_, 1) := by decide +kernel
theorem dX2_feed_103 : decode cX2_feed 103 = .ok (.aload_n 0, 1) := by decide +kernel
theorem dX2_feed_104 : decode cX2_feed 104 = .ok (.getfield 20, 3) := by decide +kernel
theorem dX2_feed_107 : decode cX2_feed 107 = .ok (.iload_n 2, 1) := by decide +kernel
theorem dX2_feed_108 : decode cX2_feed 108 = .ok (.aload_n 0, 1) := by decide +kernel
theorem dX2_feed_109 : decode cX2_feed 109 = .ok (.iload 4, 2) := by decide +kernel
theorem dX2_feed_111 : decode cX2_feed 111 = .ok (.iload_n 3, 1) := by decide +kernel
theorem dX2_feed_112 : decode cX2_feed 112 = .ok (.iload 5, 2) := by decide +kernel
theorem dX2_feed_114 : decode cX2_feed 114 = .ok (.invokevirtual 83, 3) := by decide +kernel
theorem dX2_feed_117 : decode cX2_feed 117 = .ok (.invokevirtual 71, 3) := by decide +kernel
theorem dX2_feed_120 : decode cX2_feed 120 = .ok (.aload_n 0, 1) := by decide +kernel
theorem dX2_feed_121 : decode cX2_feed 121 = .ok (.getfield 14, 3) := by decide +kernel
theorem dX2_feed_124 : decode cX2_feed 124 = .ok (.iload_n 2, 1) := by decide +kernel
theorem dX2_feed_125 : decode cX2_feed 125 = .ok (.aload_n 0, 1) := by decide +kernel
theorem dX2_feed_126 : decode cX2_feed 126 = .ok (.getfield 14, 3) := by decide +kernel
theorem dX2_feed_129 : decode cX2_feed 129 = .ok (.iload_n 2, 1) := by decide +kernel
theorem dX2_feed_130 : decode cX2_feed 130 = .ok (.invokevirtual 79, 3) := by decide +kernel
theorem dX2_feed_133 : decode cX2_feed 133 = .ok (.iconst 1, 1) := by decide +kernel
theorem dX2_feed_134 : decode cX2_feed 134 = .ok (.iadd, 1) := by decide +kernel
theorem dX2_feed_135 : decode cX2_feed 135 = .ok (.invokevirtual 71, 3) := by decide +kernel
theorem dX2_feed_138 : decode cX2_feed 138 = .ok (.aload_n 0, 1) := by decide +kernel
theorem dX2_feed_139 : decode cX2_feed 139 = .ok (.aload_n 0, 1) := by decide +kernel
theorem dX2_feed_140 : decode cX2_feed 140 = .ok (.getfield 20, 3) := by decide +kernel
theorem dX2_feed_143 : decode cX2_feed 143 = .ok (.iload_n 2, 1) := by decide +kernel
theorem dX2_feed_144 : decode cX2_feed 144 = .ok (.invokevirtual 79, 3) := by decide +kernel
theorem dX2_feed_147 : decode cX2_feed 147 = .ok (.putfield 64, 3) := by decide +kernel
theorem dX2_feed_150 : decode cX2_feed 150 = .ok (.return_, 1) := by decide +kernel
theorem ok_X2_cloneFrom : okV yX2_cloneFrom RX2 3 := by decide +kernel
theorem gs_X2_83 : GoodIn wsG (wsV RX2 83 RX2 yX2_cloneFrom (.code yX2_cloneFrom cX2_cloneFrom 9 (some .int) :: wsG)) := good_V ml_X2_83 im_X2_cloneFrom se_X2_cloneFrom ini_X2 co_X2_cloneFrom
def f_X2_feed (st : Int32) (he : Int32) (ta : Int32) (cl : Int32) (dr : Int32) (cn : (Nat → Int32)) (nx : (Nat → Int32)) (og : (Nat → Int32)) (li : (Nat → Int32)) (sv : (Nat → Int32)) (x1 : Int32) : Option (Int32 × Int32 × Int32 × Int32 × Int32 × (Nat → Int32) × (Nat → Int32) × (Nat → Int32) × (Nat → Int32)) := if (f_X4_get 500 cn (f_X2_path he x1)) ≤ (f_X5_get sv 1) then (some (st, (f_X4_get 500 nx (f_X2_path he x1)), ta + 1, cl, dr, (f_X4_put 500 cn (f_X2_path he x1) ((f_X4_get 500 cn (f_X2_path he x1)) + 1)), nx, og, li)) else (if ((f_X2_bothCounts cn (f_X4_get 500 nx (f_X2_path he x1))) - (f_X4_get 500 cn (f_X2_path he x1))) ≤ (f_X5_get sv 2) then (some (st, (f_X4_get 500 nx (f_X2_path he x1)), ta + 1, cl, dr, (f_X4_put 500 cn (f_X2_path he x1) ((f_X4_get 500 cn (f_X2_path he x1)) + 1)), nx, og, li)) else (if st < (f_X5_get sv 3) then (bi7 (f_X2_cloneFrom st cl cn nx og li (f_X4_get 500 nx (f_X2_path he x1)) (f_X4_get 500 cn (f_X2_path he x1)) (f_X2_bothCounts cn (f_X4_get 500 nx (f_X2_path he x1)))) (fun (r_4 : Int32) (st_5 : Int32) (cl_6 : Int32) (cn_7 : (Nat → Int32)) (nx_8 : (Nat → Int32)) (og_9 : (Nat → Int32)) (li_10 : (Nat → Int32)) => some (st_5, (f_X4_get 500 (f_X4_put 500 nx_8 (f_X2_path he x1) r_4) (f_X2_path he x1)), ta + 1, cl_6, dr, (f_X4_put 500 cn_7 (f_X2_path he x1) ((f_X4_get 500 cn_7 (f_X2_path he x1)) + 1)), (f_X4_put 500 nx_8 (f_X2_path he x1) r_4), og_9, li_10))) else (bi6 (f_X2_shapeAnew cn nx og li sv) (fun (st_12 : Int32) (he_13 : Int32) (cn_14 : (Nat → Int32)) (nx_15 : (Nat → Int32)) (og_16 : (Nat → Int32)) (li_17 : (Nat → Int32)) => some (st_12, he_13, ta + 1, cl, dr + 1, cn_14, nx_15, og_16, li_17)))))
set_option maxHeartbeats 4000000 in
set_option maxRecDepth 100000 in
theorem c_X2_feed (l : Launch) (D : va_G) (cI : ClassId) {sz : Nat} (q : Nat) (qs : Nat) (qc : Nat) (qn : Nat) (qo : Nat) (ql : Nat) (qf : Nat) (qca : Nat) (qna : Nat) (qoa : Nat) (qla : Nat) (qfa : Nat) (qsr : Nat) (qsa : Nat) (st : Int32) (he : Int32) (ta : Int32) (cl : Int32) (dr : Int32) (cn : (Nat → Int32)) (nx : (Nat → Int32)) (og : (Nat → Int32)) (li : (Nat → Int32)) (fl : (Nat → Int32)) (sv : (Nat → Int32)) (x1 : Int32) (o_st : Int32) (o_he : Int32) (o_ta : Int32) (o_cl : Int32) (o_dr : Int32) (o_cn : (Nat → Int32)) (o_nx : (Nat → Int32)) (o_og : (Nat → Int32)) (o_li : (Nat → Int32)) (hf : f_X2_feed st he ta cl dr cn nx og li sv x1 = some (o_st, o_he, o_ta, o_cl, o_dr, o_cn, o_nx, o_og, o_li)) : Met l yX2_feed (.code yX2_feed cX2_feed 6 none :: wsG) ({ frames := 3, cells := 0, slots := 0, locals := 65 }) (va_Pc [.ref q, .int x1] (gv D cI sz [(q, .inr (2, [.ref qs, .ref qc, .ref qn, .ref qo, .ref ql, .ref qf, .int st, .int he, .int ta, .int cl, .int dr])), (qc, .inr (4, [.ref qca])), (qca, .inl (cI, 500, .inl cn)), (qn, .inr (4, [.ref qna])), (qna, .inl (cI, 500, .inl nx)), (qo, .inr (4, [.ref qoa])), (qoa, .inl (cI, 250, .inl og)), (ql, .inr (4, [.ref qla])), (qla, .inl (cI, 250, .inl li)), (qf, .inr (4, [.ref qfa])), (qfa, .inl (cI, 250, .inl fl)), (qs, .inr (5, [.ref qsr])), (qsr, .inr (4, [.ref qsa])), (qsa, .inl (cI, 5, .inl sv))])) (va_Qv (fun (_ : Unit) => True) (gz D (va_A [(q, .inr (2, [.ref qs, .ref qc, .ref qn, .ref qo, .ref ql, .ref qf, .int st, .int he, .int ta, .int cl, .int dr])), (qc, .inr (4, [.ref qca])), (qca, .inl (cI, 500, .inl cn)), (qn, .inr (4, [.ref qna])), (qna, .inl (cI, 500, .inl nx)), (qo, .inr (4, [.ref qoa])), (qoa, .inl (cI, 250, .inl og)), (ql, .inr (4, [.ref qla])), (qla, .inl (cI, 250, .inl li)), (qf, .inr (4, [.ref qfa])), (qfa, .inl (cI, 250, .inl fl)), (qs, .inr (5, [.ref qsr])), (qsr, .inr (4, [.ref qsa])), (qsa, .inl (cI, 5, .inl sv))] sz) [(q, .inr (2, [.ref qs, .ref qc, .ref qn, .ref qo, .ref ql, .ref qf, .int o_st, .int o_he, .int o_ta, .int o_cl, .int o_dr])), (qc, .inr (4, [.ref qca])), (qca, .inl (cI, 500, .inl o_cn)), (qn, .inr (4, [.ref qna])), (qna, .inl (cI, 500, .inl o_nx)), (qo, .inr (4, [.ref qoa])), (qoa, .inl (cI, 250, .inl o_og)), (ql, .inr (4, [.ref qla])), (qla, .inl (cI, 250, .inl o_li)), (qf, .inr (4, [.ref qfa])), (qfa, .inl (cI, 250, .inl fl)), (qs, .inr (5, [.ref qsr])), (qsr, .inr (4, [.ref qsa])), (qsa, .inl (cI, 5, .inl sv))]) (va_A [(q, .inr (2, [.ref qs, .ref qc, .ref qn, .ref qo, .ref ql, .ref qf, .int st, .int he, .int ta, .int cl, .int dr])), (qc, .inr (4, [.ref qca])), (qca, .inl (cI, 500, .inl cn)), (qn, .inr (4, [.ref qna])), (qna, .inl (cI, 500, .inl nx)), (qo, .inr (4, [.ref qoa])), (qoa, .inl (cI, 250, .inl og)), (ql, .inr (4, [.ref qla])), (qla, .inl (cI, 250, .inl li)), (qf, .inr (4, [.ref qfa])), (qfa, .inl (cI, 250, .inl fl)), (qs, .inr (5, [.ref qsr])), (qsr, .inr (4, [.ref qsa])), (qsa, .inl (cI, 5, .inl sv))] sz)) 0 0 (va_A [(q, .inr (2, [.ref qs, .ref qc, .ref qn, .ref qo, .ref ql, .ref qf, .int st, .int he, .int ta, .int cl, .int dr])), (qc, .inr (4, [.ref qca])), (qca, .inl (cI, 500, .inl cn)), (qn, .inr (4, [.ref qna])), (qna, .inl (cI, 500, .inl nx)), (qo, .inr (4, [.ref qoa])), (qoa, .inl (cI, 250, .inl og)), (ql, .inr (4, [.ref qla])), (qla, .inl (cI, 250, .inl li)), (qf, .inr (4, [.ref qfa])), (qfa, .inl (cI, 250, .inl fl)), (qs, .inr (5, [.ref qsr])), (qsr, .inr (4, [.ref qsa])), (qsa, .inl (cI, 5, .inl sv))] sz) := by
  refine k_rw (y := yX2_feed) (cc := cX2_feed) (maxL := 6) (ret := none) (As := [.ref q, .int x1]) (Qc := fun A => va_Qv (fun (_ : Unit) => True) (gz D A [(q, .inr (2, [.ref qs, .ref qc, .ref qn, .ref qo, .ref ql, .ref qf, .int o_st, .int o_he, .int o_ta, .int o_cl, .int o_dr])), (qc, .inr (4, [.ref qca])), (qca, .inl (cI, 500, .inl o_cn)), (qn, .inr (4, [.ref qna])), (qna, .inl (cI, 500, .inl o_nx)), (qo, .inr (4, [.ref qoa])), (qoa, .inl (cI, 250, .inl o_og)), (ql, .inr (4, [.ref qla])), (qla, .inl (cI, 250, .inl o_li)), (qf, .inr (4, [.ref qfa])), (qfa, .inl (cI, 250, .inl fl)), (qs, .inr (5, [.ref qsr])), (qsr, .inr (4, [.ref qsa])), (qsa, .inl (cI, 5, .inl sv))]) A) (by decide) rfl (Nat.le_of_ble_eq_true rfl) rfl ?_
  intro p e s m below meth c ls A S hret hloc hK hN hSF hP hD hS hA hl
  obtain ⟨hx, hb, hml, hown, hts⟩ := id S
  unfold f_X2_feed at hf
  refine lv_aload_n hx hb dX2_feed_0 rfl (lv_at hl 0 rfl) ?_
  refine lv_dup hx hb dX2_feed_1 rfl ?_
  refine va_get (D := D) (ci := 2) (v := .int ta) (C := RX2) (T := TX2) (N := 11) hx hb hts inGX2 hown hK hP 0 rfl rfl 8 (by decide) (hts _ fl_X2_39) (fun _ h9 => h9) rfl dX2_feed_2 ?_
  refine lv_iconst (v := 1) hx hb dX2_feed_5 (by decide) ?_
  refine lv_iadd hx hb dX2_feed_6 ?_
  refine va_put (D := D) (ci := 2) (v := .int (ta + 1)) (ty := .int) (C := RX2) (T := TX2) (N := 11) hx hb hts inGX2 tyX2 tyX2_ok nmX2 hown hK hP hD hS 0 rfl rfl 8 (by decide) (hts _ fl_X2_39) (fun _ h9 => h9) rfl (by decide +kernel) rfl rfl (Nat.le_of_ble_eq_true rfl) dX2_feed_7 (fun H locs hP hD hS => ?_)
  have hP : va_P D vwCl [(q, .inr (2, [.ref qs, .ref qc, .ref qn, .ref qo, .ref ql, .ref qf, .int st, .int he, .int (ta + 1), .int cl, .int dr])), (qc, .inr (4, [.ref qca])), (qca, .inl (cI, 500, .inl cn)), (qn, .inr (4, [.ref qna])), (qna, .inl (cI, 500, .inl nx)), (qo, .inr (4, [.ref qoa])), (qoa, .inl (cI, 250, .inl og)), (ql, .inr (4, [.ref qla])), (qla, .inl (cI, 250, .inl li)), (qf, .inr (4, [.ref qfa])), (qfa, .inl (cI, 250, .inl fl)), (qs, .inr (5, [.ref qsr])), (qsr, .inr (4, [.ref qsa])), (qsa, .inl (cI, 5, .inl sv))] H := hP
  have hD : va_D A [(q, .inr (2, [.ref qs, .ref qc, .ref qn, .ref qo, .ref ql, .ref qf, .int st, .int he, .int (ta + 1), .int cl, .int dr])), (qc, .inr (4, [.ref qca])), (qca, .inl (cI, 500, .inl cn)), (qn, .inr (4, [.ref qna])), (qna, .inl (cI, 500, .inl nx)), (qo, .inr (4, [.ref qoa])), (qoa, .inl (cI, 250, .inl og)), (ql, .inr (4, [.ref qla])), (qla, .inl (cI, 250, .inl li)), (qf, .inr (4, [.ref qfa])), (qfa, .inl (cI, 250, .inl fl)), (qs, .inr (5, [.ref qsr])), (qsr, .inr (4, [.ref qsa])), (qsa, .inl (cI, 5, .inl sv))] := hD
  refine lv_aload_n hx hb dX2_feed_10 rfl (lv_at hl 0 rfl) ?_
  refine va_get (D := D) (ci := 2) (v := .int he) (C := RX2) (T := TX2) (N := 11) hx hb hts inGX2 hown hK hP 0 rfl rfl 7 (by decide) (hts _ fl_X2_64) (fun _ h9 => h9) rfl dX2_feed_11 ?_
  refine lv_iload_n hx hb dX2_feed_14 rfl (lv_at hl 1 rfl) ?_
  refine k_roSi (As := [.int he, .int x1]) (rest := []) S (c_X2_path l D cI (x1 := he) (x2 := x1)  (r := (f_X2_path he x1)) (hf := rfl)) gs_X2_67 ok_X2_path ⟨rfl, rfl⟩ ⟨Nat.le_of_ble_eq_true rfl, Nat.le_of_ble_eq_true rfl⟩ hK hN (sfr hSF hS) (hP.sub [] rfl) rfl hl.1 rfl (Nat.le_of_ble_eq_true rfl) ⟨Nat.zero_le _, Nat.zero_le _⟩ dX2_feed_15 ?_
  refine lv_istore_n (lv' := [(2, .int (f_X2_path he x1)), (0, .ref q), (1, .int x1)]) hx hb dX2_feed_18 rfl hl (by decide) rfl (fun ls hl => ?_)
  refine lv_aload_n hx hb dX2_feed_19 rfl (lv_at hl 1 rfl) ?_
  refine va_get (D := D) (ci := 2) (v := .ref qc) (C := RX2) (T := TX2) (N := 11) hx hb hts inGX2 hown hK hP 0 rfl rfl 1 (by decide) (hts _ fl_X2_14) (fun _ h9 => h9) rfl dX2_feed_20 ?_
  refine lv_iload_n hx hb dX2_feed_23 rfl (lv_at hl 0 rfl) ?_
  refine k_roVi (As := [.int (f_X2_path he x1)]) (rest := []) S (c_X4_get l D cI (q := qc) (qa := qca) (n := 500) (f := cn) (x1 := (f_X2_path he x1)) (hn := by decide) (r := (f_X4_get 500 cn (f_X2_path he x1))) (hf := rfl)) gs_X2_79 ok_X4_get ⟨rfl, rfl⟩ ⟨Nat.le_of_ble_eq_true rfl, Nat.le_of_ble_eq_true rfl⟩ hK hN (sfr hSF hS) (hP.sub [1, 2] rfl) rfl rfl rfl hl.1 rfl (Nat.le_of_ble_eq_true rfl) ⟨Nat.zero_le _, Nat.zero_le _⟩ dX2_feed_24 ?_
  refine lv_istore_n (lv' := [(3, .int (f_X4_get 500 cn (f_X2_path he x1))), (2, .int (f_X2_path he x1)), (0, .ref q), (1, .int x1)]) hx hb dX2_feed_27 rfl hl (by decide) rfl (fun ls hl => ?_)
  refine lv_aload_n hx hb dX2_feed_28 rfl (lv_at hl 2 rfl) ?_
  refine va_get (D := D) (ci := 2) (v := .ref qn) (C := RX2) (T := TX2) (N := 11) hx hb hts inGX2 hown hK hP 0 rfl rfl 2 (by decide) (hts _ fl_X2_20) (fun _ h9 => h9) rfl dX2_feed_29 ?_
  refine lv_iload_n hx hb dX2_feed_32 rfl (lv_at hl 1 rfl) ?_
  refine k_roVi (As := [.int (f_X2_path he x1)]) (rest := []) S (c_X4_get l D cI (q := qn) (qa := qna) (n := 500) (f := nx) (x1 := (f_X2_path he x1)) (hn := by decide) (r := (f_X4_get 500 nx (f_X2_path he x1))) (hf := rfl)) gs_X2_79 ok_X4_get ⟨rfl, rfl⟩ ⟨Nat.le_of_ble_eq_true rfl, Nat.le_of_ble_eq_true rfl⟩ hK hN (sfr hSF hS) (hP.sub [3, 4] rfl) rfl rfl rfl hl.1 rfl (Nat.le_of_ble_eq_true rfl) ⟨Nat.zero_le _, Nat.zero_le _⟩ dX2_feed_33 ?_
  refine lv_istore (lv' := [(4, .int (f_X4_get 500 nx (f_X2_path he x1))), (3, .int (f_X4_get 500 cn (f_X2_path he x1))), (2, .int (f_X2_path he x1)), (0, .ref q), (1, .int x1)]) hx hb dX2_feed_36 hl (by decide) rfl (fun ls hl => ?_)
  refine lv_aload_n hx hb dX2_feed_38 rfl (lv_at hl 3 rfl) ?_
  refine lv_iload hx hb dX2_feed_39 (lv_at hl 0 rfl) ?_
  refine k_roVi (As := [.int (f_X4_get 500 nx (f_X2_path he x1))]) (rest := []) S (c_X2_bothCounts l D cI (q := q) (qs := qs) (qc := qc) (qn := qn) (qo := qo) (ql := ql) (qf := qf) (qca := qca) (qna := qna) (qoa := qoa) (qla := qla) (qfa := qfa) (qsr := qsr) (qsa := qsa) (st := st) (he := he) (ta := ta + 1) (cl := cl) (dr := dr) (cn := cn) (nx := nx) (og := og) (li := li) (fl := fl) (sv := sv) (x1 := (f_X4_get 500 nx (f_X2_path he x1)))  (r := (f_X2_bothCounts cn (f_X4_get 500 nx (f_X2_path he x1)))) (hf := rfl)) gs_X2_80 ok_X2_bothCounts ⟨rfl, rfl⟩ ⟨Nat.le_of_ble_eq_true rfl, Nat.le_of_ble_eq_true rfl⟩ hK hN (sfr hSF hS) hP rfl rfl rfl hl.1 rfl (Nat.le_of_ble_eq_true rfl) ⟨Nat.zero_le _, Nat.zero_le _⟩ dX2_feed_41 ?_
  refine lv_istore (lv' := [(5, .int (f_X2_bothCounts cn (f_X4_get 500 nx (f_X2_path he x1)))), (4, .int (f_X4_get 500 nx (f_X2_path he x1))), (3, .int (f_X4_get 500 cn (f_X2_path he x1))), (2, .int (f_X2_path he x1)), (0, .ref q), (1, .int x1)]) hx hb dX2_feed_44 hl (by decide) rfl (fun ls hl => ?_)
  refine lv_iload_n hx hb dX2_feed_46 rfl (lv_at hl 2 rfl) ?_
  refine lv_aload_n hx hb dX2_feed_47 rfl (lv_at hl 4 rfl) ?_
  refine va_get (D := D) (ci := 2) (v := .ref qs) (C := RX2) (T := TX2) (N := 11) hx hb hts inGX2 hown hK hP 0 rfl rfl 0 (by decide) (hts _ fl_X2_32) (fun _ h9 => h9) rfl dX2_feed_48 ?_
  refine lv_iconst (v := 1) hx hb dX2_feed_51 (by decide) ?_
  refine k_roVi (As := [.int 1]) (rest := [.int (f_X4_get 500 cn (f_X2_path he x1))]) S (c_X5_get l D cI (q := qs) (qr := qsr) (qa := qsa) (sv := sv) (x1 := 1)  (r := (f_X5_get sv 1)) (hf := rfl)) gs_X2_52 ok_X5_get ⟨rfl, rfl⟩ ⟨Nat.le_of_ble_eq_true rfl, Nat.le_of_ble_eq_true rfl⟩ hK hN (sfr hSF hS) (hP.sub [11, 12, 13] rfl) rfl rfl rfl hl.1 rfl (Nat.le_of_ble_eq_true rfl) ⟨Nat.zero_le _, Nat.zero_le _⟩ dX2_feed_52 ?_
  refine lv_icmp_le (tgt := 120) hx hb dX2_feed_55 (by decide) (fun c_1 => ?_) (fun c_1 => ?_)
  · rw [if_pos c_1] at hf
    refine lv_aload_n hx hb dX2_feed_120 rfl (lv_at hl 4 rfl) ?_
    refine va_get (D := D) (ci := 2) (v := .ref qc) (C := RX2) (T := TX2) (N := 11) hx hb hts inGX2 hown hK hP 0 rfl rfl 1 (by decide) (hts _ fl_X2_14) (fun _ h9 => h9) rfl dX2_feed_121 ?_
    refine lv_iload_n hx hb dX2_feed_124 rfl (lv_at hl 3 rfl) ?_
    refine lv_aload_n hx hb dX2_feed_125 rfl (lv_at hl 4 rfl) ?_
    refine va_get (D := D) (ci := 2) (v := .ref qc) (C := RX2) (T := TX2) (N := 11) hx hb hts inGX2 hown hK hP 0 rfl rfl 1 (by decide) (hts _ fl_X2_14) (fun _ h9 => h9) rfl dX2_feed_126 ?_
    refine lv_iload_n hx hb dX2_feed_129 rfl (lv_at hl 3 rfl) ?_
    refine k_roVi (As := [.int (f_X2_path he x1)]) (rest := [.int (f_X2_path he x1), .ref qc]) S (c_X4_get l D cI (q := qc) (qa := qca) (n := 500) (f := cn) (x1 := (f_X2_path he x1)) (hn := by decide) (r := (f_X4_get 500 cn (f_X2_path he x1))) (hf := rfl)) gs_X2_79 ok_X4_get ⟨rfl, rfl⟩ ⟨Nat.le_of_ble_eq_true rfl, Nat.le_of_ble_eq_true rfl⟩ hK hN (sfr hSF hS) (hP.sub [1, 2] rfl) rfl rfl rfl hl.1 rfl (Nat.le_of_ble_eq_true rfl) ⟨Nat.zero_le _, Nat.zero_le _⟩ dX2_feed_130 ?_
    refine lv_iconst (v := 1) hx hb dX2_feed_133 (by decide) ?_
    refine lv_iadd hx hb dX2_feed_134 ?_
    refine k_rwVv (As := [.int (f_X2_path he x1), .int ((f_X4_get 500 cn (f_X2_path he x1)) + 1)]) (rest := []) (Wr := [(q, .inr (2, [.ref qs, .ref qc, .ref qn, .ref qo, .ref ql, .ref qf, .int st, .int he, .int (ta + 1), .int cl, .int dr])), (qn, .inr (4, [.ref qna])), (qna, .inl (cI, 500, .inl nx)), (qo, .inr (4, [.ref qoa])), (qoa, .inl (cI, 250, .inl og)), (ql, .inr (4, [.ref qla])), (qla, .inl (cI, 250, .inl li)), (qf, .inr (4, [.ref qfa])), (qfa, .inl (cI, 250, .inl fl)), (qs, .inr (5, [.ref qsr])), (qsr, .inr (4, [.ref qsa])), (qsa, .inl (cI, 5, .inl sv))]) (W2 := [(q, .inr (2, [.ref qs, .ref qc, .ref qn, .ref qo, .ref ql, .ref qf, .int st, .int he, .int (ta + 1), .int cl, .int dr])), (qc, .inr (4, [.ref qca])), (qca, .inl (cI, 500, .inl (f_X4_put 500 cn (f_X2_path he x1) ((f_X4_get 500 cn (f_X2_path he x1)) + 1)))), (qn, .inr (4, [.ref qna])), (qna, .inl (cI, 500, .inl nx)), (qo, .inr (4, [.ref qoa])), (qoa, .inl (cI, 250, .inl og)), (ql, .inr (4, [.ref qla])), (qla, .inl (cI, 250, .inl li)), (qf, .inr (4, [.ref qfa])), (qfa, .inl (cI, 250, .inl fl)), (qs, .inr (5, [.ref qsr])), (qsr, .inr (4, [.ref qsa])), (qsa, .inl (cI, 5, .inl sv))]) S (c_X4_put l D cI (q := qc) (qa := qca) (n := 500) (f := cn) (x1 := (f_X2_path he x1)) (x2 := (f_X4_get 500 cn (f_X2_path he x1)) + 1) (hn := by decide) (o_f := (f_X4_put 500 cn (f_X2_path he x1) ((f_X4_get 500 cn (f_X2_path he x1)) + 1))) (hf := rfl)) gs_X2_71 ok_X4_put ⟨rfl, rfl⟩ ⟨Nat.le_of_ble_eq_true rfl, Nat.le_of_ble_eq_true rfl⟩ hK hN hSF hP hD hS hA [1, 2] [0, 3, 4, 5, 6, 7, 8, 9, 10, 11, 12, 13] [0, 12, 13, 1, 2, 3, 4, 5, 6, 7, 8, 9, 10, 11] (by decide) rfl rfl (by decide) (by decide) rfl (by decide) rfl rfl rfl hl.1 rfl (Nat.le_of_ble_eq_true rfl) ⟨Nat.zero_le _, Nat.zero_le _⟩ dX2_feed_135 (fun H locs hP hD hS => ?_)
    refine lv_aload_n hx hb dX2_feed_138 rfl (lv_at hl 4 rfl) ?_
    refine lv_aload_n hx hb dX2_feed_139 rfl (lv_at hl 4 rfl) ?_
    refine va_get (D := D) (ci := 2) (v := .ref qn) (C := RX2) (T := TX2) (N := 11) hx hb hts inGX2 hown hK hP 0 rfl rfl 2 (by decide) (hts _ fl_X2_20) (fun _ h9 => h9) rfl dX2_feed_140 ?_
    refine lv_iload_n hx hb dX2_feed_143 rfl (lv_at hl 3 rfl) ?_
    refine k_roVi (As := [.int (f_X2_path he x1)]) (rest := [.ref q]) S (c_X4_get l D cI (q := qn) (qa := qna) (n := 500) (f := nx) (x1 := (f_X2_path he x1)) (hn := by decide) (r := (f_X4_get 500 nx (f_X2_path he x1))) (hf := rfl)) gs_X2_79 ok_X4_get ⟨rfl, rfl⟩ ⟨Nat.le_of_ble_eq_true rfl, Nat.le_of_ble_eq_true rfl⟩ hK hN (sfr hSF hS) (hP.sub [3, 4] rfl) rfl rfl rfl hl.1 rfl (Nat.le_of_ble_eq_true rfl) ⟨Nat.zero_le _, Nat.zero_le _⟩ dX2_feed_144 ?_
    refine va_put (D := D) (ci := 2) (v := .int (f_X4_get 500 nx (f_X2_path he x1))) (ty := .int) (C := RX2) (T := TX2) (N := 11) hx hb hts inGX2 tyX2 tyX2_ok nmX2 hown hK hP hD hS 0 rfl rfl 7 (by decide) (hts _ fl_X2_64) (fun _ h9 => h9) rfl (by decide +kernel) rfl rfl (Nat.le_of_ble_eq_true rfl) dX2_feed_147 (fun H locs hP hD hS => ?_)
    have hP : va_P D vwCl [(q, .inr (2, [.ref qs, .ref qc, .ref qn, .ref qo, .ref ql, .ref qf, .int st, .int (f_X4_get 500 nx (f_X2_path he x1)), .int (ta + 1), .int cl, .int dr])), (qc, .inr (4, [.ref qca])), (qca, .inl (cI, 500, .inl (f_X4_put 500 cn (f_X2_path he x1) ((f_X4_get 500 cn (f_X2_path he x1)) + 1)))), (qn, .inr (4, [.ref qna])), (qna, .inl (cI, 500, .inl nx)), (qo, .inr (4, [.ref qoa])), (qoa, .inl (cI, 250, .inl og)), (ql, .inr (4, [.ref qla])), (qla, .inl (cI, 250, .inl li)), (qf, .inr (4, [.ref qfa])), (qfa, .inl (cI, 250, .inl fl)), (qs, .inr (5, [.ref qsr])), (qsr, .inr (4, [.ref qsa])), (qsa, .inl (cI, 5, .inl sv))] H := hP
    have hD : va_D A [(q, .inr (2, [.ref qs, .ref qc, .ref qn, .ref qo, .ref ql, .ref qf, .int st, .int (f_X4_get 500 nx (f_X2_path he x1)), .int (ta + 1), .int cl, .int dr])), (qc, .inr (4, [.ref qca])), (qca, .inl (cI, 500, .inl (f_X4_put 500 cn (f_X2_path he x1) ((f_X4_get 500 cn (f_X2_path he x1)) + 1)))), (qn, .inr (4, [.ref qna])), (qna, .inl (cI, 500, .inl nx)), (qo, .inr (4, [.ref qoa])), (qoa, .inl (cI, 250, .inl og)), (ql, .inr (4, [.ref qla])), (qla, .inl (cI, 250, .inl li)), (qf, .inr (4, [.ref qfa])), (qfa, .inl (cI, 250, .inl fl)), (qs, .inr (5, [.ref qsr])), (qsr, .inr (4, [.ref qsa])), (qsa, .inl (cI, 5, .inl sv))] := hD
    obtain ⟨e_0, e_r⟩ := Prod.mk.inj (Option.some.inj hf)
    obtain ⟨e_1, e_r⟩ := Prod.mk.inj (e_r)
    obtain ⟨e_2, e_r⟩ := Prod.mk.inj (e_r)
    obtain ⟨e_3, e_r⟩ := Prod.mk.inj (e_r)
    obtain ⟨e_4, e_r⟩ := Prod.mk.inj (e_r)
    obtain ⟨e_5, e_r⟩ := Prod.mk.inj (e_r)
    obtain ⟨e_6, e_r⟩ := Prod.mk.inj (e_r)
    obtain ⟨e_7, e_8⟩ := Prod.mk.inj (e_r)
    subst e_0
    subst e_1
    subst e_2
    subst e_3
    subst e_4
    subst e_5
    subst e_6
    subst e_7
    subst e_8
    exact k_wretv hx hb hret hloc hP hD hS dX2_feed_150
  · rw [if_neg c_1] at hf
    refine lv_iload hx hb dX2_feed_58 (lv_at hl 0 rfl) ?_
    refine lv_iload_n hx hb dX2_feed_60 rfl (lv_at hl 2 rfl) ?_
    refine lv_isub hx hb dX2_feed_61 ?_
    refine lv_aload_n hx hb dX2_feed_62 rfl (lv_at hl 4 rfl) ?_
    refine va_get (D := D) (ci := 2) (v := .ref qs) (C := RX2) (T := TX2) (N := 11) hx hb hts inGX2 hown hK hP 0 rfl rfl 0 (by decide) (hts _ fl_X2_32) (fun _ h9 => h9) rfl dX2_feed_63 ?_
    refine lv_iconst (v := 2) hx hb dX2_feed_66 (by decide) ?_
    refine k_roVi (As := [.int 2]) (rest := [.int ((f_X2_bothCounts cn (f_X4_get 500 nx (f_X2_path he x1))) - (f_X4_get 500 cn (f_X2_path he x1)))]) S (c_X5_get l D cI (q := qs) (qr := qsr) (qa := qsa) (sv := sv) (x1 := 2)  (r := (f_X5_get sv 2)) (hf := rfl)) gs_X2_52 ok_X5_get ⟨rfl, rfl⟩ ⟨Nat.le_of_ble_eq_true rfl, Nat.le_of_ble_eq_true rfl⟩ hK hN (sfr hSF hS) (hP.sub [11, 12, 13] rfl) rfl rfl rfl hl.1 rfl (Nat.le_of_ble_eq_true rfl) ⟨Nat.zero_le _, Nat.zero_le _⟩ dX2_feed_67 ?_
    refine lv_icmp_le (tgt := 120) hx hb dX2_feed_70 (by decide) (fun c_2 => ?_) (fun c_2 => ?_)
    · rw [if_pos c_2] at hf
      refine lv_aload_n hx hb dX2_feed_120 rfl (lv_at hl 4 rfl) ?_
      refine va_get (D := D) (ci := 2) (v := .ref qc) (C := RX2) (T := TX2) (N := 11) hx hb hts inGX2 hown hK hP 0 rfl rfl 1 (by decide) (hts _ fl_X2_14) (fun _ h9 => h9) rfl dX2_feed_121 ?_
      refine lv_iload_n hx hb dX2_feed_124 rfl (lv_at hl 3 rfl) ?_
      refine lv_aload_n hx hb dX2_feed_125 rfl (lv_at hl 4 rfl) ?_
      refine va_get (D := D) (ci := 2) (v := .ref qc) (C := RX2) (T := TX2) (N := 11) hx hb hts inGX2 hown hK hP 0 rfl rfl 1 (by decide) (hts _ fl_X2_14) (fun _ h9 => h9) rfl dX2_feed_126 ?_
      refine lv_iload_n hx hb dX2_feed_129 rfl (lv_at hl 3 rfl) ?_
      refine k_roVi (As := [.int (f_X2_path he x1)]) (rest := [.int (f_X2_path he x1), .ref qc]) S (c_X4_get l D cI (q := qc) (qa := qca) (n := 500) (f := cn) (x1 := (f_X2_path he x1)) (hn := by decide) (r := (f_X4_get 500 cn (f_X2_path he x1))) (hf := rfl)) gs_X2_79 ok_X4_get ⟨rfl, rfl⟩ ⟨Nat.le_of_ble_eq_true rfl, Nat.le_of_ble_eq_true rfl⟩ hK hN (sfr hSF hS) (hP.sub [1, 2] rfl) rfl rfl rfl hl.1 rfl (Nat.le_of_ble_eq_true rfl) ⟨Nat.zero_le _, Nat.zero_le _⟩ dX2_feed_130 ?_
      refine lv_iconst (v := 1) hx hb dX2_feed_133 (by decide) ?_
      refine lv_iadd hx hb dX2_feed_134 ?_
      refine k_rwVv (As := [.int (f_X2_path he x1), .int ((f_X4_get 500 cn (f_X2_path he x1)) + 1)]) (rest := []) (Wr := [(q, .inr (2, [.ref qs, .ref qc, .ref qn, .ref qo, .ref ql, .ref qf, .int st, .int he, .int (ta + 1), .int cl, .int dr])), (qn, .inr (4, [.ref qna])), (qna, .inl (cI, 500, .inl nx)), (qo, .inr (4, [.ref qoa])), (qoa, .inl (cI, 250, .inl og)), (ql, .inr (4, [.ref qla])), (qla, .inl (cI, 250, .inl li)), (qf, .inr (4, [.ref qfa])), (qfa, .inl (cI, 250, .inl fl)), (qs, .inr (5, [.ref qsr])), (qsr, .inr (4, [.ref qsa])), (qsa, .inl (cI, 5, .inl sv))]) (W2 := [(q, .inr (2, [.ref qs, .ref qc, .ref qn, .ref qo, .ref ql, .ref qf, .int st, .int he, .int (ta + 1), .int cl, .int dr])), (qc, .inr (4, [.ref qca])), (qca, .inl (cI, 500, .inl (f_X4_put 500 cn (f_X2_path he x1) ((f_X4_get 500 cn (f_X2_path he x1)) + 1)))), (qn, .inr (4, [.ref qna])), (qna, .inl (cI, 500, .inl nx)), (qo, .inr (4, [.ref qoa])), (qoa, .inl (cI, 250, .inl og)), (ql, .inr (4, [.ref qla])), (qla, .inl (cI, 250, .inl li)), (qf, .inr (4, [.ref qfa])), (qfa, .inl (cI, 250, .inl fl)), (qs, .inr (5, [.ref qsr])), (qsr, .inr (4, [.ref qsa])), (qsa, .inl (cI, 5, .inl sv))]) S (c_X4_put l D cI (q := qc) (qa := qca) (n := 500) (f := cn) (x1 := (f_X2_path he x1)) (x2 := (f_X4_get 500 cn (f_X2_path he x1)) + 1) (hn := by decide) (o_f := (f_X4_put 500 cn (f_X2_path he x1) ((f_X4_get 500 cn (f_X2_path he x1)) + 1))) (hf := rfl)) gs_X2_71 ok_X4_put ⟨rfl, rfl⟩ ⟨Nat.le_of_ble_eq_true rfl, Nat.le_of_ble_eq_true rfl⟩ hK hN hSF hP hD hS hA [1, 2] [0, 3, 4, 5, 6, 7, 8, 9, 10, 11, 12, 13] [0, 12, 13, 1, 2, 3, 4, 5, 6, 7, 8, 9, 10, 11] (by decide) rfl rfl (by decide) (by decide) rfl (by decide) rfl rfl rfl hl.1 rfl (Nat.le_of_ble_eq_true rfl) ⟨Nat.zero_le _, Nat.zero_le _⟩ dX2_feed_135 (fun H locs hP hD hS => ?_)
      refine lv_aload_n hx hb dX2_feed_138 rfl (lv_at hl 4 rfl) ?_
      refine lv_aload_n hx hb dX2_feed_139 rfl (lv_at hl 4 rfl) ?_
      refine va_get (D := D) (ci := 2) (v := .ref qn) (C := RX2) (T := TX2) (N := 11) hx hb hts inGX2 hown hK hP 0 rfl rfl 2 (by decide) (hts _ fl_X2_20) (fun _ h9 => h9) rfl dX2_feed_140 ?_
      refine lv_iload_n hx hb dX2_feed_143 rfl (lv_at hl 3 rfl) ?_
      refine k_roVi (As := [.int (f_X2_path he x1)]) (rest := [.ref q]) S (c_X4_get l D cI (q := qn) (qa := qna) (n := 500) (f := nx) (x1 := (f_X2_path he x1)) (hn := by decide) (r := (f_X4_get 500 nx (f_X2_path he x1))) (hf := rfl)) gs_X2_79 ok_X4_get ⟨rfl, rfl⟩ ⟨Nat.le_of_ble_eq_true rfl, Nat.le_of_ble_eq_true rfl⟩ hK hN (sfr hSF hS) (hP.sub [3, 4] rfl) rfl rfl rfl hl.1 rfl (Nat.le_of_ble_eq_true rfl) ⟨Nat.zero_le _, Nat.zero_le _⟩ dX2_feed_144 ?_
      refine va_put (D := D) (ci := 2) (v := .int (f_X4_get 500 nx (f_X2_path he x1))) (ty := .int) (C := RX2) (T := TX2) (N := 11) hx hb hts inGX2 tyX2 tyX2_ok nmX2 hown hK hP hD hS 0 rfl rfl 7 (by decide) (hts _ fl_X2_64) (fun _ h9 => h9) rfl (by decide +kernel) rfl rfl (Nat.le_of_ble_eq_true rfl) dX2_feed_147 (fun H locs hP hD hS => ?_)
      have hP : va_P D vwCl [(q, .inr (2, [.ref qs, .ref qc, .ref qn, .ref qo, .ref ql, .ref qf, .int st, .int (f_X4_get 500 nx (f_X2_path he x1)), .int (ta + 1), .int cl, .int dr])), (qc, .inr (4, [.ref qca])), (qca, .inl (cI, 500, .inl (f_X4_put 500 cn (f_X2_path he x1) ((f_X4_get 500 cn (f_X2_path he x1)) + 1)))), (qn, .inr (4, [.ref qna])), (qna, .inl (cI, 500, .inl nx)), (qo, .inr (4, [.ref qoa])), (qoa, .inl (cI, 250, .inl og)), (ql, .inr (4, [.ref qla])), (qla, .inl (cI, 250, .inl li)), (qf, .inr (4, [.ref qfa])), (qfa, .inl (cI, 250, .inl fl)), (qs, .inr (5, [.ref qsr])), (qsr, .inr (4, [.ref qsa])), (qsa, .inl (cI, 5, .inl sv))] H := hP
      have hD : va_D A [(q, .inr (2, [.ref qs, .ref qc, .ref qn, .ref qo, .ref ql, .ref qf, .int st, .int (f_X4_get 500 nx (f_X2_path he x1)), .int (ta + 1), .int cl, .int dr])), (qc, .inr (4, [.ref qca])), (qca, .inl (cI, 500, .inl (f_X4_put 500 cn (f_X2_path he x1) ((f_X4_get 500 cn (f_X2_path he x1)) + 1)))), (qn, .inr (4, [.ref qna])), (qna, .inl (cI, 500, .inl nx)), (qo, .inr (4, [.ref qoa])), (qoa, .inl (cI, 250, .inl og)), (ql, .inr (4, [.ref qla])), (qla, .inl (cI, 250, .inl li)), (qf, .inr (4, [.ref qfa])), (qfa, .inl (cI, 250, .inl fl)), (qs, .inr (5, [.ref qsr])), (qsr, .inr (4, [.ref qsa])), (qsa, .inl (cI, 5, .inl sv))] := hD
      obtain ⟨e_0, e_r⟩ := Prod.mk.inj (Option.some.inj hf)
      obtain ⟨e_1, e_r⟩ := Prod.mk.inj (e_r)
      obtain ⟨e_2, e_r⟩ := Prod.mk.inj (e_r)
      obtain ⟨e_3, e_r⟩ := Prod.mk.inj (e_r)
      obtain ⟨e_4, e_r⟩ := Prod.mk.inj (e_r)
      obtain ⟨e_5, e_r⟩ := Prod.mk.inj (e_r)
      obtain ⟨e_6, e_r⟩ := Prod.mk.inj (e_r)
      obtain ⟨e_7, e_8⟩ := Prod.mk.inj (e_r)
      subst e_0
      subst e_1
      subst e_2
      subst e_3
      subst e_4
      subst e_5
      subst e_6
      subst e_7
      subst e_8
      exact k_wretv hx hb hret hloc hP hD hS dX2_feed_150
    · rw [if_neg c_2] at hf
      refine lv_aload_n hx hb dX2_feed_73 rfl (lv_at hl 4 rfl) ?_
      refine va_get (D := D) (ci := 2) (v := .int st) (C := RX2) (T := TX2) (N := 11) hx hb hts inGX2 hown hK hP 0 rfl rfl 6 (by decide) (hts _ fl_X2_61) (fun _ h9 => h9) rfl dX2_feed_74 ?_
      refine lv_aload_n hx hb dX2_feed_77 rfl (lv_at hl 4 rfl) ?_
      refine va_get (D := D) (ci := 2) (v := .ref qs) (C := RX2) (T := TX2) (N := 11) hx hb hts inGX2 hown hK hP 0 rfl rfl 0 (by decide) (hts _ fl_X2_32) (fun _ h9 => h9) rfl dX2_feed_78 ?_
      refine lv_iconst (v := 3) hx hb dX2_feed_81 (by decide) ?_
      refine k_roVi (As := [.int 3]) (rest := [.int st]) S (c_X5_get l D cI (q := qs) (qr := qsr) (qa := qsa) (sv := sv) (x1 := 3)  (r := (f_X5_get sv 3)) (hf := rfl)) gs_X2_52 ok_X5_get ⟨rfl, rfl⟩ ⟨Nat.le_of_ble_eq_true rfl, Nat.le_of_ble_eq_true rfl⟩ hK hN (sfr hSF hS) (hP.sub [11, 12, 13] rfl) rfl rfl rfl hl.1 rfl (Nat.le_of_ble_eq_true rfl) ⟨Nat.zero_le _, Nat.zero_le _⟩ dX2_feed_82 ?_
      refine lv_icmp_lt (tgt := 103) hx hb dX2_feed_85 (by decide) (fun c_3 => ?_) (fun c_3 => ?_)
      · rw [if_pos c_3] at hf
        refine lv_aload_n hx hb dX2_feed_103 rfl (lv_at hl 4 rfl) ?_
        refine va_get (D := D) (ci := 2) (v := .ref qn) (C := RX2) (T := TX2) (N := 11) hx hb hts inGX2 hown hK hP 0 rfl rfl 2 (by decide) (hts _ fl_X2_20) (fun _ h9 => h9) rfl dX2_feed_104 ?_
        refine lv_iload_n hx hb dX2_feed_107 rfl (lv_at hl 3 rfl) ?_
        refine lv_aload_n hx hb dX2_feed_108 rfl (lv_at hl 4 rfl) ?_
        refine lv_iload hx hb dX2_feed_109 (lv_at hl 1 rfl) ?_
        refine lv_iload_n hx hb dX2_feed_111 rfl (lv_at hl 2 rfl) ?_
        refine lv_iload hx hb dX2_feed_112 (lv_at hl 0 rfl) ?_
        obtain ⟨r_4, st_5, cl_6, cn_7, nx_8, og_9, li_10, hc_11, hf⟩ := bd7 hf
        refine k_rwVi (As := [.int (f_X4_get 500 nx (f_X2_path he x1)), .int (f_X4_get 500 cn (f_X2_path he x1)), .int (f_X2_bothCounts cn (f_X4_get 500 nx (f_X2_path he x1)))]) (rest := [.int (f_X2_path he x1), .ref qn]) (Wr := []) (W2 := [(q, .inr (2, [.ref qs, .ref qc, .ref qn, .ref qo, .ref ql, .ref qf, .int st_5, .int he, .int (ta + 1), .int cl_6, .int dr])), (qc, .inr (4, [.ref qca])), (qca, .inl (cI, 500, .inl cn_7)), (qn, .inr (4, [.ref qna])), (qna, .inl (cI, 500, .inl nx_8)), (qo, .inr (4, [.ref qoa])), (qoa, .inl (cI, 250, .inl og_9)), (ql, .inr (4, [.ref qla])), (qla, .inl (cI, 250, .inl li_10)), (qf, .inr (4, [.ref qfa])), (qfa, .inl (cI, 250, .inl fl)), (qs, .inr (5, [.ref qsr])), (qsr, .inr (4, [.ref qsa])), (qsa, .inl (cI, 5, .inl sv))]) S (c_X2_cloneFrom l D cI (q := q) (qs := qs) (qc := qc) (qn := qn) (qo := qo) (ql := ql) (qf := qf) (qca := qca) (qna := qna) (qoa := qoa) (qla := qla) (qfa := qfa) (qsr := qsr) (qsa := qsa) (st := st) (he := he) (ta := ta + 1) (cl := cl) (dr := dr) (cn := cn) (nx := nx) (og := og) (li := li) (fl := fl) (sv := sv) (x1 := (f_X4_get 500 nx (f_X2_path he x1))) (x2 := (f_X4_get 500 cn (f_X2_path he x1))) (x3 := (f_X2_bothCounts cn (f_X4_get 500 nx (f_X2_path he x1))))  (r := r_4) (o_st := st_5) (o_cl := cl_6) (o_cn := cn_7) (o_nx := nx_8) (o_og := og_9) (o_li := li_10) (hf := hc_11)) gs_X2_83 ok_X2_cloneFrom ⟨rfl, rfl⟩ ⟨Nat.le_of_ble_eq_true rfl, Nat.le_of_ble_eq_true rfl⟩ hK hN hSF hP hD hS hA [0, 1, 2, 3, 4, 5, 6, 7, 8, 9, 10, 11, 12, 13] [] [0, 1, 2, 3, 4, 5, 6, 7, 8, 9, 10, 11, 12, 13] (by decide) rfl rfl (by decide) (by decide) rfl (by decide) rfl rfl rfl hl.1 rfl (Nat.le_of_ble_eq_true rfl) ⟨Nat.zero_le _, Nat.zero_le _⟩ dX2_feed_114 (fun H locs hP hD hS => ?_)
        refine k_rwVv (As := [.int (f_X2_path he x1), .int r_4]) (rest := []) (Wr := [(q, .inr (2, [.ref qs, .ref qc, .ref qn, .ref qo, .ref ql, .ref qf, .int st_5, .int he, .int (ta + 1), .int cl_6, .int dr])), (qc, .inr (4, [.ref qca])), (qca, .inl (cI, 500, .inl cn_7)), (qo, .inr (4, [.ref qoa])), (qoa, .inl (cI, 250, .inl og_9)), (ql, .inr (4, [.ref qla])), (qla, .inl (cI, 250, .inl li_10)), (qf, .inr (4, [.ref qfa])), (qfa, .inl (cI, 250, .inl fl)), (qs, .inr (5, [.ref qsr])), (qsr, .inr (4, [.ref qsa])), (qsa, .inl (cI, 5, .inl sv))]) (W2 := [(q, .inr (2, [.ref qs, .ref qc, .ref qn, .ref qo, .ref ql, .ref qf, .int st_5, .int he, .int (ta + 1), .int cl_6, .int dr])), (qc, .inr (4, [.ref qca])), (qca, .inl (cI, 500, .inl cn_7)), (qn, .inr (4, [.ref qna])), (qna, .inl (cI, 500, .inl (f_X4_put 500 nx_8 (f_X2_path he x1) r_4))), (qo, .inr (4, [.ref qoa])), (qoa, .inl (cI, 250, .inl og_9)), (ql, .inr (4, [.ref qla])), (qla, .inl (cI, 250, .inl li_10)), (qf, .inr (4, [.ref qfa])), (qfa, .inl (cI, 250, .inl fl)), (qs, .inr (5, [.ref qsr])), (qsr, .inr (4, [.ref qsa])), (qsa, .inl (cI, 5, .inl sv))]) S (c_X4_put l D cI (q := qn) (qa := qna) (n := 500) (f := nx_8) (x1 := (f_X2_path he x1)) (x2 := r_4) (hn := by decide) (o_f := (f_X4_put 500 nx_8 (f_X2_path he x1) r_4)) (hf := rfl)) gs_X2_71 ok_X4_put ⟨rfl, rfl⟩ ⟨Nat.le_of_ble_eq_true rfl, Nat.le_of_ble_eq_true rfl⟩ hK hN hSF hP hD hS hA [3, 4] [0, 1, 2, 5, 6, 7, 8, 9, 10, 11, 12, 13] [0, 1, 2, 12, 13, 3, 4, 5, 6, 7, 8, 9, 10, 11] (by decide) rfl rfl (by decide) (by decide) rfl (by decide) rfl rfl rfl hl.1 rfl (Nat.le_of_ble_eq_true rfl) ⟨Nat.zero_le _, Nat.zero_le _⟩ dX2_feed_117 (fun H locs hP hD hS => ?_)
        refine lv_aload_n hx hb dX2_feed_120 rfl (lv_at hl 4 rfl) ?_
        refine va_get (D := D) (ci := 2) (v := .ref qc) (C := RX2) (T := TX2) (N := 11) hx hb hts inGX2 hown hK hP 0 rfl rfl 1 (by decide) (hts _ fl_X2_14) (fun _ h9 => h9) rfl dX2_feed_121 ?_
        refine lv_iload_n hx hb dX2_feed_124 rfl (lv_at hl 3 rfl) ?_
        refine lv_aload_n hx hb dX2_feed_125 rfl (lv_at hl 4 rfl) ?_
        refine va_get (D := D) (ci := 2) (v := .ref qc) (C := RX2) (T := TX2) (N := 11) hx hb hts inGX2 hown hK hP 0 rfl rfl 1 (by decide) (hts _ fl_X2_14) (fun _ h9 => h9) rfl dX2_feed_126 ?_
        refine lv_iload_n hx hb dX2_feed_129 rfl (lv_at hl 3 rfl) ?_
        refine k_roVi (As := [.int (f_X2_path he x1)]) (rest := [.int (f_X2_path he x1), .ref qc]) S (c_X4_get l D cI (q := qc) (qa := qca) (n := 500) (f := cn_7) (x1 := (f_X2_path he x1)) (hn := by decide) (r := (f_X4_get 500 cn_7 (f_X2_path he x1))) (hf := rfl)) gs_X2_79 ok_X4_get ⟨rfl, rfl⟩ ⟨Nat.le_of_ble_eq_true rfl, Nat.le_of_ble_eq_true rfl⟩ hK hN (sfr hSF hS) (hP.sub [1, 2] rfl) rfl rfl rfl hl.1 rfl (Nat.le_of_ble_eq_true rfl) ⟨Nat.zero_le _, Nat.zero_le _⟩ dX2_feed_130 ?_
        refine lv_iconst (v := 1) hx hb dX2_feed_133 (by decide) ?_
        refine lv_iadd hx hb dX2_feed_134 ?_
        refine k_rwVv (As := [.int (f_X2_path he x1), .int ((f_X4_get 500 cn_7 (f_X2_path he x1)) + 1)]) (rest := []) (Wr := [(q, .inr (2, [.ref qs, .ref qc, .ref qn, .ref qo, .ref ql, .ref qf, .int st_5, .int he, .int (ta + 1), .int cl_6, .int dr])), (qn, .inr (4, [.ref qna])), (qna, .inl (cI, 500, .inl (f_X4_put 500 nx_8 (f_X2_path he x1) r_4))), (qo, .inr (4, [.ref qoa])), (qoa, .inl (cI, 250, .inl og_9)), (ql, .inr (4, [.ref qla])), (qla, .inl (cI, 250, .inl li_10)), (qf, .inr (4, [.ref qfa])), (qfa, .inl (cI, 250, .inl fl)), (qs, .inr (5, [.ref qsr])), (qsr, .inr (4, [.ref qsa])), (qsa, .inl (cI, 5, .inl sv))]) (W2 := [(q, .inr (2, [.ref qs, .ref qc, .ref qn, .ref qo, .ref ql, .ref qf, .int st_5, .int he, .int (ta + 1), .int cl_6, .int dr])), (qc, .inr (4, [.ref qca])), (qca, .inl (cI, 500, .inl (f_X4_put 500 cn_7 (f_X2_path he x1) ((f_X4_get 500 cn_7 (f_X2_path he x1)) + 1)))), (qn, .inr (4, [.ref qna])), (qna, .inl (cI, 500, .inl (f_X4_put 500 nx_8 (f_X2_path he x1) r_4))), (qo, .inr (4, [.ref qoa])), (qoa, .inl (cI, 250, .inl og_9)), (ql, .inr (4, [.ref qla])), (qla, .inl (cI, 250, .inl li_10)), (qf, .inr (4, [.ref qfa])), (qfa, .inl (cI, 250, .inl fl)), (qs, .inr (5, [.ref qsr])), (qsr, .inr (4, [.ref qsa])), (qsa, .inl (cI, 5, .inl sv))]) S (c_X4_put l D cI (q := qc) (qa := qca) (n := 500) (f := cn_7) (x1 := (f_X2_path he x1)) (x2 := (f_X4_get 500 cn_7 (f_X2_path he x1)) + 1) (hn := by decide) (o_f := (f_X4_put 500 cn_7 (f_X2_path he x1) ((f_X4_get 500 cn_7 (f_X2_path he x1)) + 1))) (hf := rfl)) gs_X2_71 ok_X4_put ⟨rfl, rfl⟩ ⟨Nat.le_of_ble_eq_true rfl, Nat.le_of_ble_eq_true rfl⟩ hK hN hSF hP hD hS hA [1, 2] [0, 3, 4, 5, 6, 7, 8, 9, 10, 11, 12, 13] [0, 12, 13, 1, 2, 3, 4, 5, 6, 7, 8, 9, 10, 11] (by decide) rfl rfl (by decide) (by decide) rfl (by decide) rfl rfl rfl hl.1 rfl (Nat.le_of_ble_eq_true rfl) ⟨Nat.zero_le _, Nat.zero_le _⟩ dX2_feed_135 (fun H locs hP hD hS => ?_)
        refine lv_aload_n hx hb dX2_feed_138 rfl (lv_at hl 4 rfl) ?_
        refine lv_aload_n hx hb dX2_feed_139 rfl (lv_at hl 4 rfl) ?_
        refine va_get (D := D) (ci := 2) (v := .ref qn) (C := RX2) (T := TX2) (N := 11) hx hb hts inGX2 hown hK hP 0 rfl rfl 2 (by decide) (hts _ fl_X2_20) (fun _ h9 => h9) rfl dX2_feed_140 ?_
        refine lv_iload_n hx hb dX2_feed_143 rfl (lv_at hl 3 rfl) ?_
        refine k_roVi (As := [.int (f_X2_path he x1)]) (rest := [.ref q]) S (c_X4_get l D cI (q := qn) (qa := qna) (n := 500) (f := (f_X4_put 500 nx_8 (f_X2_path he x1) r_4)) (x1 := (f_X2_path he x1)) (hn := by decide) (r := (f_X4_get 500 (f_X4_put 500 nx_8 (f_X2_path he x1) r_4) (f_X2_path he x1))) (hf := rfl)) gs_X2_79 ok_X4_get ⟨rfl, rfl⟩ ⟨Nat.le_of_ble_eq_true rfl, Nat.le_of_ble_eq_true rfl⟩ hK hN (sfr hSF hS) (hP.sub [3, 4] rfl) rfl rfl rfl hl.1 rfl (Nat.le_of_ble_eq_true rfl) ⟨Nat.zero_le _, Nat.zero_le _⟩ dX2_feed_144 ?_
        refine va_put (D := D) (ci := 2) (v := .int (f_X4_get 500 (f_X4_put 500 nx_8 (f_X2_path he x1) r_4) (f_X2_path he x1))) (ty := .int) (C := RX2) (T := TX2) (N := 11) hx hb hts inGX2 tyX2 tyX2_ok nmX2 hown hK hP hD hS 0 rfl rfl 7 (by decide) (hts _ fl_X2_64) (fun _ h9 => h9) rfl (by decide +kernel) rfl rfl (Nat.le_of_ble_eq_true rfl) dX2_feed_147 (fun H locs hP hD hS => ?_)
        have hP : va_P D vwCl [(q, .inr (2, [.ref qs, .ref qc, .ref qn, .ref qo, .ref ql, .ref qf, .int st_5, .int (f_X4_get 500 (f_X4_put 500 nx_8 (f_X2_path he x1) r_4) (f_X2_path he x1)), .int (ta + 1), .int cl_6, .int dr])), (qc, .inr (4, [.ref qca])), (qca, .inl (cI, 500, .inl (f_X4_put 500 cn_7 (f_X2_path he x1) ((f_X4_get 500 cn_7 (f_X2_path he x1)) + 1)))), (qn, .inr (4, [.ref qna])), (qna, .inl (cI, 500, .inl (f_X4_put 500 nx_8 (f_X2_path he x1) r_4))), (qo, .inr (4, [.ref qoa])), (qoa, .inl (cI, 250, .inl og_9)), (ql, .inr (4, [.ref qla])), (qla, .inl (cI, 250, .inl li_10)), (qf, .inr (4, [.ref qfa])), (qfa, .inl (cI, 250, .inl fl)), (qs, .inr (5, [.ref qsr])), (qsr, .inr (4, [.ref qsa])), (qsa, .inl (cI, 5, .inl sv))] H := hP
        have hD : va_D A [(q, .inr (2, [.ref qs, .ref qc, .ref qn, .ref qo, .ref ql, .ref qf, .int st_5, .int (f_X4_get 500 (f_X4_put 500 nx_8 (f_X2_path he x1) r_4) (f_X2_path he x1)), .int (ta + 1), .int cl_6, .int dr])), (qc, .inr (4, [.ref qca])), (qca, .inl (cI, 500, .inl (f_X4_put 500 cn_7 (f_X2_path he x1) ((f_X4_get 500 cn_7 (f_X2_path he x1)) + 1)))), (qn, .inr (4, [.ref qna])), (qna, .inl (cI, 500, .inl (f_X4_put 500 nx_8 (f_X2_path he x1) r_4))), (qo, .inr (4, [.ref qoa])), (qoa, .inl (cI, 250, .inl og_9)), (ql, .inr (4, [.ref qla])), (qla, .inl (cI, 250, .inl li_10)), (qf, .inr (4, [.ref qfa])), (qfa, .inl (cI, 250, .inl fl)), (qs, .inr (5, [.ref qsr])), (qsr, .inr (4, [.ref qsa])), (qsa, .inl (cI, 5, .inl sv))] := hD
        obtain ⟨e_0, e_r⟩ := Prod.mk.inj (Option.some.inj hf)
        obtain ⟨e_1, e_r⟩ := Prod.mk.inj (e_r)
        obtain ⟨e_2, e_r⟩ := Prod.mk.inj (e_r)
        obtain ⟨e_3, e_r⟩ := Prod.mk.inj (e_r)
        obtain ⟨e_4, e_r⟩ := Prod.mk.inj (e_r)
        obtain ⟨e_5, e_r⟩ := Prod.mk.inj (e_r)
        obtain ⟨e_6, e_r⟩ := Prod.mk.inj (e_r)
        obtain ⟨e_7, e_8⟩ := Prod.mk.inj (e_r)
        subst e_0
        subst e_1
        subst e_2
        subst e_3
        subst e_4
        subst e_5
        subst e_6
        subst e_7
        subst e_8
        exact k_wretv hx hb hret hloc hP hD hS dX2_feed_150
      · rw [if_neg c_3] at hf
        refine lv_aload_n hx hb dX2_feed_88 rfl (lv_at hl 4 rfl) ?_
        refine lv_dup hx hb dX2_feed_89 rfl ?_
        refine va_get (D := D) (ci := 2) (v := .int dr) (C := RX2) (T := TX2) (N := 11) hx hb hts inGX2 hown hK hP 0 rfl rfl 10 (by decide) (hts _ fl_X2_46) (fun _ h9 => h9) rfl dX2_feed_90 ?_
        refine lv_iconst (v := 1) hx hb dX2_feed_93 (by decide) ?_
        refine lv_iadd hx hb dX2_feed_94 ?_
        refine va_put (D := D) (ci := 2) (v := .int (dr + 1)) (ty := .int) (C := RX2) (T := TX2) (N := 11) hx hb hts inGX2 tyX2 tyX2_ok nmX2 hown hK hP hD hS 0 rfl rfl 10 (by decide) (hts _ fl_X2_46) (fun _ h9 => h9) rfl (by decide +kernel) rfl rfl (Nat.le_of_ble_eq_true rfl) dX2_feed_95 (fun H locs hP hD hS => ?_)
        have hP : va_P D vwCl [(q, .inr (2, [.ref qs, .ref qc, .ref qn, .ref qo, .ref ql, .ref qf, .int st, .int he, .int (ta + 1), .int cl, .int (dr + 1)])), (qc, .inr (4, [.ref qca])), (qca, .inl (cI, 500, .inl cn)), (qn, .inr (4, [.ref qna])), (qna, .inl (cI, 500, .inl nx)), (qo, .inr (4, [.ref qoa])), (qoa, .inl (cI, 250, .inl og)), (ql, .inr (4, [.ref qla])), (qla, .inl (cI, 250, .inl li)), (qf, .inr (4, [.ref qfa])), (qfa, .inl (cI, 250, .inl fl)), (qs, .inr (5, [.ref qsr])), (qsr, .inr (4, [.ref qsa])), (qsa, .inl (cI, 5, .inl sv))] H := hP
        have hD : va_D A [(q, .inr (2, [.ref qs, .ref qc, .ref qn, .ref qo, .ref ql, .ref qf, .int st, .int he, .int (ta + 1), .int cl, .int (dr + 1)])), (qc, .inr (4, [.ref qca])), (qca, .inl (cI, 500, .inl cn)), (qn, .inr (4, [.ref qna])), (qna, .inl (cI, 500, .inl nx)), (qo, .inr (4, [.ref qoa])), (qoa, .inl (cI, 250, .inl og)), (ql, .inr (4, [.ref qla])), (qla, .inl (cI, 250, .inl li)), (qf, .inr (4, [.ref qfa])), (qfa, .inl (cI, 250, .inl fl)), (qs, .inr (5, [.ref qsr])), (qsr, .inr (4, [.ref qsa])), (qsa, .inl (cI, 5, .inl sv))] := hD
        refine lv_aload_n hx hb dX2_feed_98 rfl (lv_at hl 4 rfl) ?_
        obtain ⟨st_12, he_13, cn_14, nx_15, og_16, li_17, hc_18, hf⟩ := bd6 hf
        refine k_rwVv (As := []) (rest := []) (Wr := []) (W2 := [(q, .inr (2, [.ref qs, .ref qc, .ref qn, .ref qo, .ref ql, .ref qf, .int st_12, .int he_13, .int (ta + 1), .int cl, .int (dr + 1)])), (qc, .inr (4, [.ref qca])), (qca, .inl (cI, 500, .inl cn_14)), (qn, .inr (4, [.ref qna])), (qna, .inl (cI, 500, .inl nx_15)), (qo, .inr (4, [.ref qoa])), (qoa, .inl (cI, 250, .inl og_16)), (ql, .inr (4, [.ref qla])), (qla, .inl (cI, 250, .inl li_17)), (qf, .inr (4, [.ref qfa])), (qfa, .inl (cI, 250, .inl fl)), (qs, .inr (5, [.ref qsr])), (qsr, .inr (4, [.ref qsa])), (qsa, .inl (cI, 5, .inl sv))]) S (c_X2_shapeAnew l D cI (q := q) (qs := qs) (qc := qc) (qn := qn) (qo := qo) (ql := ql) (qf := qf) (qca := qca) (qna := qna) (qoa := qoa) (qla := qla) (qfa := qfa) (qsr := qsr) (qsa := qsa) (st := st) (he := he) (ta := ta + 1) (cl := cl) (dr := dr + 1) (cn := cn) (nx := nx) (og := og) (li := li) (fl := fl) (sv := sv)  (o_st := st_12) (o_he := he_13) (o_cn := cn_14) (o_nx := nx_15) (o_og := og_16) (o_li := li_17) (hf := hc_18)) gs_X2_49 ok_X2_shapeAnew ⟨rfl, rfl⟩ ⟨Nat.le_of_ble_eq_true rfl, Nat.le_of_ble_eq_true rfl⟩ hK hN hSF hP hD hS hA [0, 1, 2, 3, 4, 5, 6, 7, 8, 9, 10, 11, 12, 13] [] [0, 1, 2, 3, 4, 5, 6, 7, 8, 9, 10, 11, 12, 13] (by decide) rfl rfl (by decide) (by decide) rfl (by decide) rfl rfl rfl hl.1 rfl (Nat.le_of_ble_eq_true rfl) ⟨Nat.zero_le _, Nat.zero_le _⟩ dX2_feed_99 (fun H locs hP hD hS => ?_)
        obtain ⟨e_0, e_r⟩ := Prod.mk.inj (Option.some.inj hf)
        obtain ⟨e_1, e_r⟩ := Prod.mk.inj (e_r)
        obtain ⟨e_2, e_r⟩ := Prod.mk.inj (e_r)
        obtain ⟨e_3, e_r⟩ := Prod.mk.inj (e_r)
        obtain ⟨e_4, e_r⟩ := Prod.mk.inj (e_r)
        obtain ⟨e_5, e_r⟩ := Prod.mk.inj (e_r)
        obtain ⟨e_6, e_r⟩ := Prod.mk.inj (e_r)
        obtain ⟨e_7, e_8⟩ := Prod.mk.inj (e_r)
        subst e_0
        subst e_1
        subst e_2
        subst e_3
        subst e_4
        subst e_5
        subst e_6
        subst e_7
        subst e_8
        exact k_wretv hx hb hret hloc hP hD hS dX2_feed_102
