theorem dX2_reckonFlows_0 : decode cX2_reckonFlows 0 = .ok (.iconst 0, 1) := by decide +kernel
theorem dX2_reckonFlows_1 : decode cX2_reckonFlows 1 = .ok (.istore_n 1, 1) := by decide +kernel
theorem dX2_reckonFlows_2 : decode cX2_reckonFlows 2 = .ok (.iload_n 1, 1) := by decide +kernel
theorem dX2_reckonFlows_3 : decode cX2_reckonFlows 3 = .ok (.aload_n 0, 1) := by decide +kernel
theorem dX2_reckonFlows_4 : decode cX2_reckonFlows 4 = .ok (.getfield 61, 3) := by decide +kernel
theorem dX2_reckonFlows_7 : decode cX2_reckonFlows 7 = .ok (.if_icmp .ge 18, 3) := by decide +kernel
theorem dX2_reckonFlows_10 : decode cX2_reckonFlows 10 = .ok (.aload_n 0, 1) := by decide +kernel
theorem dX2_reckonFlows_11 : decode cX2_reckonFlows 11 = .ok (.getfield 29, 3) := by decide +kernel
theorem dX2_reckonFlows_14 : decode cX2_reckonFlows 14 = .ok (.iload_n 1, 1) := by decide +kernel
theorem dX2_reckonFlows_15 : decode cX2_reckonFlows 15 = .ok (.iconst 0, 1) := by decide +kernel
theorem dX2_reckonFlows_16 : decode cX2_reckonFlows 16 = .ok (.invokevirtual 71, 3) := by decide +kernel
theorem dX2_reckonFlows_19 : decode cX2_reckonFlows 19 = .ok (.iinc 1 1, 3) := by decide +kernel
theorem dX2_reckonFlows_22 : decode cX2_reckonFlows 22 = .ok (.goto (-20), 3) := by decide +kernel
theorem dX2_reckonFlows_25 : decode cX2_reckonFlows 25 = .ok (.iconst 0, 1) := by decide +kernel
theorem dX2_reckonFlows_26 : decode cX2_reckonFlows 26 = .ok (.istore_n 1, 1) := by decide +kernel
theorem dX2_reckonFlows_27 : decode cX2_reckonFlows 27 = .ok (.iload_n 1, 1) := by decide +kernel
theorem dX2_reckonFlows_28 : decode cX2_reckonFlows 28 = .ok (.iconst 2, 1) := by decide +kernel
theorem dX2_reckonFlows_29 : decode cX2_reckonFlows 29 = .ok (.aload_n 0, 1) := by decide +kernel
theorem dX2_reckonFlows_30 : decode cX2_reckonFlows 30 = .ok (.getfield 61, 3) := by decide +kernel
theorem dX2_reckonFlows_33 : decode cX2_reckonFlows 33 = .ok (.imul, 1) := by decide +kernel
theorem dX2_reckonFlows_34 : decode cX2_reckonFlows 34 = .ok (.if_icmp .ge 43, 3) := by decide +kernel
theorem dX2_reckonFlows_37 : decode cX2_reckonFlows 37 = .ok (.aload_n 0, 1) := by decide +kernel
theorem dX2_reckonFlows_38 : decode cX2_reckonFlows 38 = .ok (.getfield 20, 3) := by decide +kernel
theorem dX2_reckonFlows_41 : decode cX2_reckonFlows 41 = .ok (.iload_n 1, 1) := by decide +kernel
theorem dX2_reckonFlows_42 : decode cX2_reckonFlows 42 = .ok (.invokevirtual 79, 3) := by decide +kernel
theorem dX2_reckonFlows_45 : decode cX2_reckonFlows 45 = .ok (.istore_n 2, 1) := by decide +kernel
theorem dX2_reckonFlows_46 : decode cX2_reckonFlows 46 = .ok (.aload_n 0, 1) := by decide +kernel
theorem dX2_reckonFlows_47 : decode cX2_reckonFlows 47 = .ok (.getfield 29, 3) := by decide +kernel
theorem dX2_reckonFlows_50 : decode cX2_reckonFlows 50 = .ok (.iload_n 2, 1) := by decide +kernel
theorem dX2_reckonFlows_51 : decode cX2_reckonFlows 51 = .ok (.aload_n 0, 1) := by decide +kernel
theorem dX2_reckonFlows_52 : decode cX2_reckonFlows 52 = .ok (.getfield 29, 3) := by decide +kernel
theorem dX2_reckonFlows_55 : decode cX2_reckonFlows 55 = .ok (.iload_n 2, 1) := by decide +kernel
theorem dX2_reckonFlows_56 : decode cX2_reckonFlows 56 = .ok (.invokevirtual 79, 3) := by decide +kernel
theorem dX2_reckonFlows_59 : decode cX2_reckonFlows 59 = .ok (.aload_n 0, 1) := by decide +kernel
theorem dX2_reckonFlows_60 : decode cX2_reckonFlows 60 = .ok (.getfield 14, 3) := by decide +kernel
theorem dX2_reckonFlows_63 : decode cX2_reckonFlows 63 = .ok (.iload_n 1, 1) := by decide +kernel
theorem dX2_reckonFlows_64 : decode cX2_reckonFlows 64 = .ok (.invokevirtual 79, 3) := by decide +kernel
theorem dX2_reckonFlows_67 : decode cX2_reckonFlows 67 = .ok (.iadd, 1) := by decide +kernel
theorem dX2_reckonFlows_68 : decode cX2_reckonFlows 68 = .ok (.invokevirtual 71, 3) := by decide +kernel
theorem dX2_reckonFlows_71 : decode cX2_reckonFlows 71 = .ok (.iinc 1 1, 3) := by decide +kernel
theorem dX2_reckonFlows_74 : decode cX2_reckonFlows 74 = .ok (.goto (-47), 3) := by decide +kernel
theorem dX2_reckonFlows_77 : decode cX2_reckonFlows 77 = .ok (.return_, 1) := by decide +kernel
def st_X2_reckonFlows_L2 (st : Int32) (v1 : Int32) (fl : (Nat → Int32)) : Option ((Int32 × (Nat → Int32)) ⊕ (Int32 × (Nat → Int32))) := if st ≤ v1 then (some (Sum.inr (v1, fl))) else (some (Sum.inl (v1 + 1, (f_X4_put 250 fl v1 0))))
def f_X2_reckonFlows_L2 (st : Int32) (k : Nat) (v1 : Int32) (fl : (Nat → Int32)) : Option (Int32 × (Nat → Int32)) := lpN (fun z => st_X2_reckonFlows_L2 st z.1 z.2) k (v1, fl)
set_option maxHeartbeats 4000000 in
set_option maxRecDepth 100000 in
theorem L_X2_reckonFlows_2 {p : Program} {l : Launch} {e : Env} {s : State} {m : MethodId} {args : Array Value} {below : List Frame} {meth : Method} {c : Code} {Q : State → Prop} {D : va_G} {cI : ClassId} {q : Nat} {qs : Nat} {qc : Nat} {qn : Nat} {qo : Nat} {ql : Nat} {qf : Nat} {qca : Nat} {qna : Nat} {qoa : Nat} {qla : Nat} {qfa : Nat} {qsr : Nat} {qsa : Nat} {st : Int32} {he : Int32} {ta : Int32} {cl : Int32} {dr : Int32} {cn : (Nat → Int32)} {nx : (Nat → Int32)} {og : (Nat → Int32)} {li : (Nat → Int32)} {sv : (Nat → Int32)} {A : Nat → Prop} (S : CallFix p m c cX2_reckonFlows 3 s args wsG RX2) (hK : va_K D vwCl [(cI, .int)] s) (hN : nw s) (hSF : sf A s s.heap) (hA : ∀ q, s.heap.size ≤ q → A q) : ∀ (k : Nat) (v1 : Int32) (fl : (Nat → Int32)) (o_v1 : Int32) (o_fl : (Nat → Int32)), f_X2_reckonFlows_L2 st k v1 fl = some (o_v1, o_fl) → ∀ (H : Heap) (locs : List Loc) (ls : Array Slot), va_P D vwCl [(q, .inr (2, [.ref qs, .ref qc, .ref qn, .ref qo, .ref ql, .ref qf, .int st, .int he, .int ta, .int cl, .int dr])), (qc, .inr (4, [.ref qca])), (qca, .inl (cI, 500, .inl cn)), (qn, .inr (4, [.ref qna])), (qna, .inl (cI, 500, .inl nx)), (qo, .inr (4, [.ref qoa])), (qoa, .inl (cI, 250, .inl og)), (ql, .inr (4, [.ref qla])), (qla, .inl (cI, 250, .inl li)), (qf, .inr (4, [.ref qfa])), (qfa, .inl (cI, 250, .inl fl)), (qs, .inr (5, [.ref qsr])), (qsr, .inr (4, [.ref qsa])), (qsa, .inl (cI, 5, .inl sv))] H → va_D A [(q, .inr (2, [.ref qs, .ref qc, .ref qn, .ref qo, .ref ql, .ref qf, .int st, .int he, .int ta, .int cl, .int dr])), (qc, .inr (4, [.ref qca])), (qca, .inl (cI, 500, .inl cn)), (qn, .inr (4, [.ref qna])), (qna, .inl (cI, 500, .inl nx)), (qo, .inr (4, [.ref qoa])), (qoa, .inl (cI, 250, .inl og)), (ql, .inr (4, [.ref qla])), (qla, .inl (cI, 250, .inl li)), (qf, .inr (4, [.ref qfa])), (qfa, .inl (cI, 250, .inl fl)), (qs, .inr (5, [.ref qsr])), (qsr, .inr (4, [.ref qsa])), (qsa, .inl (cI, 5, .inl sv))] → va_S A s.heap H locs → lv_has ls 3 [(0, .ref q), (1, .int v1)] → (∀ (H : Heap) (locs : List Loc) (ls : Array Slot), va_P D vwCl [(q, .inr (2, [.ref qs, .ref qc, .ref qn, .ref qo, .ref ql, .ref qf, .int st, .int he, .int ta, .int cl, .int dr])), (qc, .inr (4, [.ref qca])), (qca, .inl (cI, 500, .inl cn)), (qn, .inr (4, [.ref qna])), (qna, .inl (cI, 500, .inl nx)), (qo, .inr (4, [.ref qoa])), (qoa, .inl (cI, 250, .inl og)), (ql, .inr (4, [.ref qla])), (qla, .inl (cI, 250, .inl li)), (qf, .inr (4, [.ref qfa])), (qfa, .inl (cI, 250, .inl o_fl)), (qs, .inr (5, [.ref qsr])), (qsr, .inr (4, [.ref qsa])), (qsa, .inl (cI, 5, .inl sv))] H → va_D A [(q, .inr (2, [.ref qs, .ref qc, .ref qn, .ref qo, .ref ql, .ref qf, .int st, .int he, .int ta, .int cl, .int dr])), (qc, .inr (4, [.ref qca])), (qca, .inl (cI, 500, .inl cn)), (qn, .inr (4, [.ref qna])), (qna, .inl (cI, 500, .inl nx)), (qo, .inr (4, [.ref qoa])), (qoa, .inl (cI, 250, .inl og)), (ql, .inr (4, [.ref qla])), (qla, .inl (cI, 250, .inl li)), (qf, .inr (4, [.ref qfa])), (qfa, .inl (cI, 250, .inl o_fl)), (qs, .inr (5, [.ref qsr])), (qsr, .inr (4, [.ref qsa])), (qsa, .inl (cI, 5, .inl sv))] → va_S A s.heap H locs → lv_has ls 3 [(0, .ref q), (1, .int o_v1)] → W p l e (headSpec (.code yX2_reckonFlows cX2_reckonFlows 3 none :: wsG) { frames := 1, cells := 0, slots := 0, locals := 22 }).room s m args below meth c H locs 0 0 Q (F0 m 25 ls [])) → W p l e (headSpec (.code yX2_reckonFlows cX2_reckonFlows 3 none :: wsG) { frames := 1, cells := 0, slots := 0, locals := 22 }).room s m args below meth c H locs 0 0 Q (F0 m 2 ls []) := by
  obtain ⟨hx, hb, hml, hown, hts⟩ := id S
  intro k
  induction k with
  | zero =>
    intro v1 fl o_v1 o_fl hf
    cases hf
  | succ k ih =>
    intro v1 fl o_v1 o_fl hf H locs ls hP hD hS hl kk
    obtain ⟨z, hf, hz⟩ := lp_inv hf
    have hf : st_X2_reckonFlows_L2 st v1 fl = some z := hf
    unfold st_X2_reckonFlows_L2 at hf
    refine lv_iload_n hx hb dX2_reckonFlows_2 rfl (lv_at hl 1 rfl) ?_
    refine lv_aload_n hx hb dX2_reckonFlows_3 rfl (lv_at hl 0 rfl) ?_
    refine va_get (D := D) (ci := 2) (v := .int st) (C := RX2) (T := TX2) (N := 11) hx hb hts inGX2 hown hK hP 0 rfl rfl 6 (by decide) (hts _ fl_X2_61) (fun _ h9 => h9) rfl dX2_reckonFlows_4 ?_
    refine lv_icmp_ge (tgt := 25) hx hb dX2_reckonFlows_7 (by decide) (fun c_1 => ?_) (fun c_1 => ?_)
    · rw [if_pos c_1] at hf
      have hf := Option.some.inj hf
      subst hf
      obtain ⟨e_0, e_1⟩ := Prod.mk.inj (lpC_r hz)
      subst e_0
      subst e_1
      exact kk H locs ls hP hD hS (lv_sub hl [0, 1] rfl)
    · rw [if_neg c_1] at hf
      refine lv_aload_n hx hb dX2_reckonFlows_10 rfl (lv_at hl 0 rfl) ?_
      refine va_get (D := D) (ci := 2) (v := .ref qf) (C := RX2) (T := TX2) (N := 11) hx hb hts inGX2 hown hK hP 0 rfl rfl 5 (by decide) (hts _ fl_X2_29) (fun _ h9 => h9) rfl dX2_reckonFlows_11 ?_
      refine lv_iload_n hx hb dX2_reckonFlows_14 rfl (lv_at hl 1 rfl) ?_
      refine lv_iconst (v := 0) hx hb dX2_reckonFlows_15 (by decide) ?_
      refine k_rwVv (As := [.int v1, .int 0]) (rest := []) (Wr := [(q, .inr (2, [.ref qs, .ref qc, .ref qn, .ref qo, .ref ql, .ref qf, .int st, .int he, .int ta, .int cl, .int dr])), (qc, .inr (4, [.ref qca])), (qca, .inl (cI, 500, .inl cn)), (qn, .inr (4, [.ref qna])), (qna, .inl (cI, 500, .inl nx)), (qo, .inr (4, [.ref qoa])), (qoa, .inl (cI, 250, .inl og)), (ql, .inr (4, [.ref qla])), (qla, .inl (cI, 250, .inl li)), (qs, .inr (5, [.ref qsr])), (qsr, .inr (4, [.ref qsa])), (qsa, .inl (cI, 5, .inl sv))]) (W2 := [(q, .inr (2, [.ref qs, .ref qc, .ref qn, .ref qo, .ref ql, .ref qf, .int st, .int he, .int ta, .int cl, .int dr])), (qc, .inr (4, [.ref qca])), (qca, .inl (cI, 500, .inl cn)), (qn, .inr (4, [.ref qna])), (qna, .inl (cI, 500, .inl nx)), (qo, .inr (4, [.ref qoa])), (qoa, .inl (cI, 250, .inl og)), (ql, .inr (4, [.ref qla])), (qla, .inl (cI, 250, .inl li)), (qf, .inr (4, [.ref qfa])), (qfa, .inl (cI, 250, .inl (f_X4_put 250 fl v1 0))), (qs, .inr (5, [.ref qsr])), (qsr, .inr (4, [.ref qsa])), (qsa, .inl (cI, 5, .inl sv))]) S (c_X4_put l D cI (q := qf) (qa := qfa) (n := 250) (f := fl) (x1 := v1) (x2 := 0) (hn := by decide) (o_f := (f_X4_put 250 fl v1 0)) (hf := rfl)) gs_X2_71 ok_X4_put ⟨rfl, rfl⟩ ⟨Nat.le_of_ble_eq_true rfl, Nat.le_of_ble_eq_true rfl⟩ hK hN hSF hP hD hS hA [9, 10] [0, 1, 2, 3, 4, 5, 6, 7, 8, 11, 12, 13] [0, 1, 2, 3, 4, 5, 6, 7, 8, 12, 13, 9, 10, 11] (by decide) rfl rfl (by decide) (by decide) rfl (by decide) rfl rfl rfl hl.1 rfl (Nat.le_of_ble_eq_true rfl) ⟨Nat.zero_le _, Nat.zero_le _⟩ dX2_reckonFlows_16 (fun H locs hP hD hS => ?_)
      refine lv_iinc (v := v1 + 1) (lv' := [(1, .int (v1 + 1)), (0, .ref q)]) hx hb dX2_reckonFlows_19 hl (k := 1) rfl rfl (by decide) rfl (fun ls hl => ?_)
      refine lv_goto (tgt := 2) hx hb dX2_reckonFlows_22 (by decide) ?_
      have hf := Option.some.inj hf
      subst hf
      exact ih (v1 + 1) (f_X4_put 250 fl v1 0) _ _ hz H locs ls hP hD hS (lv_sub hl [1, 0] rfl) kk
def st_X2_reckonFlows_L27 (st : Int32) (cn : (Nat → Int32)) (nx : (Nat → Int32)) (v1 : Int32) (fl : (Nat → Int32)) : Option ((Int32 × (Nat → Int32)) ⊕ (Int32 × (Nat → Int32))) := if (2 * st) ≤ v1 then (some (Sum.inr (v1, fl))) else (some (Sum.inl (v1 + 1, (f_X4_put 250 fl (f_X4_get 500 nx v1) ((f_X4_get 250 fl (f_X4_get 500 nx v1)) + (f_X4_get 500 cn v1))))))
def f_X2_reckonFlows_L27 (st : Int32) (cn : (Nat → Int32)) (nx : (Nat → Int32)) (k : Nat) (v1 : Int32) (fl : (Nat → Int32)) : Option (Int32 × (Nat → Int32)) := lpN (fun z => st_X2_reckonFlows_L27 st cn nx z.1 z.2) k (v1, fl)
set_option maxHeartbeats 4000000 in
set_option maxRecDepth 100000 in
theorem L_X2_reckonFlows_27 {p : Program} {l : Launch} {e : Env} {s : State} {m : MethodId} {args : Array Value} {below : List Frame} {meth : Method} {c : Code} {Q : State → Prop} {D : va_G} {cI : ClassId} {q : Nat} {qs : Nat} {qc : Nat} {qn : Nat} {qo : Nat} {ql : Nat} {qf : Nat} {qca : Nat} {qna : Nat} {qoa : Nat} {qla : Nat} {qfa : Nat} {qsr : Nat} {qsa : Nat} {st : Int32} {he : Int32} {ta : Int32} {cl : Int32} {dr : Int32} {cn : (Nat → Int32)} {nx : (Nat → Int32)} {og : (Nat → Int32)} {li : (Nat → Int32)} {sv : (Nat → Int32)} {A : Nat → Prop} (S : CallFix p m c cX2_reckonFlows 3 s args wsG RX2) (hK : va_K D vwCl [(cI, .int)] s) (hN : nw s) (hSF : sf A s s.heap) (hA : ∀ q, s.heap.size ≤ q → A q) : ∀ (k : Nat) (v1 : Int32) (fl : (Nat → Int32)) (o_v1 : Int32) (o_fl : (Nat → Int32)), f_X2_reckonFlows_L27 st cn nx k v1 fl = some (o_v1, o_fl) → ∀ (H : Heap) (locs : List Loc) (ls : Array Slot), va_P D vwCl [(q, .inr (2, [.ref qs, .ref qc, .ref qn, .ref qo, .ref ql, .ref qf, .int st, .int he, .int ta, .int cl, .int dr])), (qc, .inr (4, [.ref qca])), (qca, .inl (cI, 500, .inl cn)), (qn, .inr (4, [.ref qna])), (qna, .inl (cI, 500, .inl nx)), (qo, .inr (4, [.ref qoa])), (qoa, .inl (cI, 250, .inl og)), (ql, .inr (4, [.ref qla])), (qla, .inl (cI, 250, .inl li)), (qf, .inr (4, [.ref qfa])), (qfa, .inl (cI, 250, .inl fl)), (qs, .inr (5, [.ref qsr])), (qsr, .inr (4, [.ref qsa])), (qsa, .inl (cI, 5, .inl sv))] H → va_D A [(q, .inr (2, [.ref qs, .ref qc, .ref qn, .ref qo, .ref ql, .ref qf, .int st, .int he, .int ta, .int cl, .int dr])), (qc, .inr (4, [.ref qca])), (qca, .inl (cI, 500, .inl cn)), (qn, .inr (4, [.ref qna])), (qna, .inl (cI, 500, .inl nx)), (qo, .inr (4, [.ref qoa])), (qoa, .inl (cI, 250, .inl og)), (ql, .inr (4, [.ref qla])), (qla, .inl (cI, 250, .inl li)), (qf, .inr (4, [.ref qfa])), (qfa, .inl (cI, 250, .inl fl)), (qs, .inr (5, [.ref qsr])), (qsr, .inr (4, [.ref qsa])), (qsa, .inl (cI, 5, .inl sv))] → va_S A s.heap H locs → lv_has ls 3 [(0, .ref q), (1, .int v1)] → (∀ (H : Heap) (locs : List Loc) (ls : Array Slot), va_P D vwCl [(q, .inr (2, [.ref qs, .ref qc, .ref qn, .ref qo, .ref ql, .ref qf, .int st, .int he, .int ta, .int cl, .int dr])), (qc, .inr (4, [.ref qca])), (qca, .inl (cI, 500, .inl cn)), (qn, .inr (4, [.ref qna])), (qna, .inl (cI, 500, .inl nx)), (qo, .inr (4, [.ref qoa])), (qoa, .inl (cI, 250, .inl og)), (ql, .inr (4, [.ref qla])), (qla, .inl (cI, 250, .inl li)), (qf, .inr (4, [.ref qfa])), (qfa, .inl (cI, 250, .inl o_fl)), (qs, .inr (5, [.ref qsr])), (qsr, .inr (4, [.ref qsa])), (qsa, .inl (cI, 5, .inl sv))] H → va_D A [(q, .inr (2, [.ref qs, .ref qc, .ref qn, .ref qo, .ref ql, .ref qf, .int st, .int he, .int ta, .int cl, .int dr])), (qc, .inr (4, [.ref qca])), (qca, .inl (cI, 500, .inl cn)), (qn, .inr (4, [.ref qna])), (qna, .inl (cI, 500, .inl nx)), (qo, .inr (4, [.ref qoa])), (qoa, .inl (cI, 250, .inl og)), (ql, .inr (4, [.ref qla])), (qla, .inl (cI, 250, .inl li)), (qf, .inr (4, [.ref qfa])), (qfa, .inl (cI, 250, .inl o_fl)), (qs, .inr (5, [.ref qsr])), (qsr, .inr (4, [.ref qsa])), (qsa, .inl (cI, 5, .inl sv))] → va_S A s.heap H locs → lv_has ls 3 [(0, .ref q), (1, .int o_v1)] → W p l e (headSpec (.code yX2_reckonFlows cX2_reckonFlows 3 none :: wsG) { frames := 1, cells := 0, slots := 0, locals := 22 }).room s m args below meth c H locs 0 0 Q (F0 m 77 ls [])) → W p l e (headSpec (.code yX2_reckonFlows cX2_reckonFlows 3 none :: wsG) { frames := 1, cells := 0, slots := 0, locals := 22 }).room s m args below meth c H locs 0 0 Q (F0 m 27 ls []) := by
  obtain ⟨hx, hb, hml, hown, hts⟩ := id S
  intro k
  induction k with
  | zero =>
    intro v1 fl o_v1 o_fl hf
    cases hf
  | succ k ih =>
    intro v1 fl o_v1 o_fl hf H locs ls hP hD hS hl kk
    obtain ⟨z, hf, hz⟩ := lp_inv hf
    have hf : st_X2_reckonFlows_L27 st cn nx v1 fl = some z := hf
    unfold st_X2_reckonFlows_L27 at hf
    refine lv_iload_n hx hb dX2_reckonFlows_27 rfl (lv_at hl 1 rfl) ?_
    refine lv_iconst (v := 2) hx hb dX2_reckonFlows_28 (by decide) ?_
    refine lv_aload_n hx hb dX2_reckonFlows_29 rfl (lv_at hl 0 rfl) ?_
    refine va_get (D := D) (ci := 2) (v := .int st) (C := RX2) (T := TX2) (N := 11) hx hb hts inGX2 hown hK hP 0 rfl rfl 6 (by decide) (hts _ fl_X2_61) (fun _ h9 => h9) rfl dX2_reckonFlows_30 ?_
    refine lv_imul hx hb dX2_reckonFlows_33 ?_
    refine lv_icmp_ge (tgt := 77) hx hb dX2_reckonFlows_34 (by decide) (fun c_5 => ?_) (fun c_5 => ?_)
    · rw [if_pos c_5] at hf
      have hf := Option.some.inj hf
      subst hf
      obtain ⟨e_0, e_1⟩ := Prod.mk.inj (lpC_r hz)
      subst e_0
      subst e_1
      exact kk H locs ls hP hD hS (lv_sub hl [0, 1] rfl)
    · rw [if_neg c_5] at hf
      refine lv_aload_n hx hb dX2_reckonFlows_37 rfl (lv_at hl 0 rfl) ?_
      refine va_get (D := D) (ci := 2) (v := .ref qn) (C := RX2) (T := TX2) (N := 11) hx hb hts inGX2 hown hK hP 0 rfl rfl 2 (by decide) (hts _ fl_X2_20) (fun _ h9 => h9) rfl dX2_reckonFlows_38 ?_
      refine lv_iload_n hx hb dX2_reckonFlows_41 rfl (lv_at hl 1 rfl) ?_
      refine k_roVi (As := [.int v1]) (rest := []) S (c_X4_get l D cI (q := qn) (qa := qna) (n := 500) (f := nx) (x1 := v1) (hn := by decide) (r := (f_X4_get 500 nx v1)) (hf := rfl)) gs_X2_79 ok_X4_get ⟨rfl, rfl⟩ ⟨Nat.le_of_ble_eq_true rfl, Nat.le_of_ble_eq_true rfl⟩ hK hN (sfr hSF hS) (hP.sub [3, 4] rfl) rfl rfl rfl hl.1 rfl (Nat.le_of_ble_eq_true rfl) ⟨Nat.zero_le _, Nat.zero_le _⟩ dX2_reckonFlows_42 ?_
      refine lv_istore_n (lv' := [(2, .int (f_X4_get 500 nx v1)), (0, .ref q), (1, .int v1)]) hx hb dX2_reckonFlows_45 rfl hl (by decide) rfl (fun ls hl => ?_)
      refine lv_aload_n hx hb dX2_reckonFlows_46 rfl (lv_at hl 1 rfl) ?_
      refine va_get (D := D) (ci := 2) (v := .ref qf) (C := RX2) (T := TX2) (N := 11) hx hb hts inGX2 hown hK hP 0 rfl rfl 5 (by decide) (hts _ fl_X2_29) (fun _ h9 => h9) rfl dX2_reckonFlows_47 ?_
      refine lv_iload_n hx hb dX2_reckonFlows_50 rfl (lv_at hl 0 rfl) ?_
      refine lv_aload_n hx hb dX2_reckonFlows_51 rfl (lv_at hl 1 rfl) ?_
      refine va_get (D := D) (ci := 2) (v := .ref qf) (C := RX2) (T := TX2) (N := 11) hx hb hts inGX2 hown hK hP 0 rfl rfl 5 (by decide) (hts _ fl_X2_29) (fun _ h9 => h9) rfl dX2_reckonFlows_52 ?_
      refine lv_iload_n hx hb dX2_reckonFlows_55 rfl (lv_at hl 0 rfl) ?_
      refine k_roVi (As := [.int (f_X4_get 500 nx v1)]) (rest := [.int (f_X4_get 500 nx v1), .ref qf]) S (c_X4_get l D cI (q := qf) (qa := qfa) (n := 250) (f := fl) (x1 := (f_X4_get 500 nx v1)) (hn := by decide) (r := (f_X4_get 250 fl (f_X4_get 500 nx v1))) (hf := rfl)) gs_X2_79 ok_X4_get ⟨rfl, rfl⟩ ⟨Nat.le_of_ble_eq_true rfl, Nat.le_of_ble_eq_true rfl⟩ hK hN (sfr hSF hS) (hP.sub [9, 10] rfl) rfl rfl rfl hl.1 rfl (Nat.le_of_ble_eq_true rfl) ⟨Nat.zero_le _, Nat.zero_le _⟩ dX2_reckonFlows_56 ?_
      refine lv_aload_n hx hb dX2_reckonFlows_59 rfl (lv_at hl 1 rfl) ?_
      refine va_get (D := D) (ci := 2) (v := .ref qc) (C := RX2) (T := TX2) (N := 11) hx hb hts inGX2 hown hK hP 0 rfl rfl 1 (by decide) (hts _ fl_X2_14) (fun _ h9 => h9) rfl dX2_reckonFlows_60 ?_
      refine lv_iload_n hx hb dX2_reckonFlows_63 rfl (lv_at hl 2 rfl) ?_
      refine k_roVi (As := [.int v1]) (rest := [.int (f_X4_get 250 fl (f_X4_get 500 nx v1)), .int (f_X4_get 500 nx v1), .ref qf]) S (c_X4_get l D cI (q := qc) (qa := qca) (n := 500) (f := cn) (x1 := v1) (hn := by decide) (r := (f_X4_get 500 cn v1)) (hf := rfl)) gs_X2_79 ok_X4_get ⟨rfl, rfl⟩ ⟨Nat.le_of_ble_eq_true rfl, Nat.le_of_ble_eq_true rfl⟩ hK hN (sfr hSF hS) (hP.sub [1, 2] rfl) rfl rfl rfl hl.1 rfl (Nat.le_of_ble_eq_true rfl) ⟨Nat.zero_le _, Nat.zero_le _⟩ dX2_reckonFlows_64 ?_
      refine lv_iadd hx hb dX2_reckonFlows_67 ?_
      refine k_rwVv (As := [.int (f_X4_get 500 nx v1), .int ((f_X4_get 250 fl (f_X4_get 500 nx v1)) + (f_X4_get 500 cn v1))]) (rest := []) (Wr := [(q, .inr (2, [.ref qs, .ref qc, .ref qn, .ref qo, .ref ql, .ref qf, .int st, .int he, .int ta, .int cl, .int dr])), (qc, .inr (4, [.ref qca])), (qca, .inl (cI, 500, .inl cn)), (qn, .inr (4, [.ref qna])), (qna, .inl (cI, 500, .inl nx)), (qo, .inr (4, [.ref qoa])), (qoa, .inl (cI, 250, .inl og)), (ql, .inr (4, [.ref qla])), (qla, .inl (cI, 250, .inl li)), (qs, .inr (5, [.ref qsr])), (qsr, .inr (4, [.ref qsa])), (qsa, .inl (cI, 5, .inl sv))]) (W2 := [(q, .inr (2, [.ref qs, .ref qc, .ref qn, .ref qo, .ref ql, .ref qf, .int st, .int he, .int ta, .int cl, .int dr])), (qc, .inr (4, [.ref qca])), (qca, .inl (cI, 500, .inl cn)), (qn, .inr (4, [.ref qna])), (qna, .inl (cI, 500, .inl nx)), (qo, .inr (4, [.ref qoa])), (qoa, .inl (cI, 250, .inl og)), (ql, .inr (4, [.ref qla])), (qla, .inl (cI, 250, .inl li)), (qf, .inr (4, [.ref qfa])), (qfa, .inl (cI, 250, .inl (f_X4_put 250 fl (f_X4_get 500 nx v1) ((f_X4_get 250 fl (f_X4_get 500 nx v1)) + (f_X4_get 500 cn v1))))), (qs, .inr (5, [.ref qsr])), (qsr, .inr (4, [.ref qsa])), (qsa, .inl (cI, 5, .inl sv))]) S (c_X4_put l D cI (q := qf) (qa := qfa) (n := 250) (f := fl) (x1 := (f_X4_get 500 nx v1)) (x2 := (f_X4_get 250 fl (f_X4_get 500 nx v1)) + (f_X4_get 500 cn v1)) (hn := by decide) (o_f := (f_X4_put 250 fl (f_X4_get 500 nx v1) ((f_X4_get 250 fl (f_X4_get 500 nx v1)) + (f_X4_get 500 cn v1)))) (hf := rfl)) gs_X2_71 ok_X4_put ⟨rfl, rfl⟩ ⟨Nat.le_of_ble_eq_true rfl, Nat.le_of_ble_eq_true rfl⟩ hK hN hSF hP hD hS hA [9, 10] [0, 1, 2, 3, 4, 5, 6, 7, 8, 11, 12, 13] [0, 1, 2, 3, 4, 5, 6, 7, 8, 12, 13, 9, 10, 11] (by decide) rfl rfl (by decide) (by decide) rfl (by decide) rfl rfl rfl hl.1 rfl (Nat.le_of_ble_eq_true rfl) ⟨Nat.zero_le _, Nat.zero_le _⟩ dX2_reckonFlows_68 (fun H locs hP hD hS => ?_)
      refine lv_iinc (v := v1 + 1) (lv' := [(1, .int (v1 + 1)), (2, .int (f_X4_get 500 nx v1)), (0, .ref q)]) hx hb dX2_reckonFlows_71 hl (k := 2) rfl rfl (by decide) rfl (fun ls hl => ?_)
      refine lv_goto (tgt := 27) hx hb dX2_reckonFlows_74 (by decide) ?_
      have hf := Option.some.inj hf
      subst hf
      exact ih (v1 + 1) (f_X4_put 250 fl (f_X4_get 500 nx v1) ((f_X4_get 250 fl (f_X4_get 500 nx v1)) + (f_X4_get 500 cn v1))) _ _ hz H locs ls hP hD hS (lv_sub hl [2, 0] rfl) kk
def f_X2_reckonFlows (st : Int32) (cn : (Nat → Int32)) (nx : (Nat → Int32)) (fl : (Nat → Int32)) : Option ((Nat → Int32)) := bi2 (f_X2_reckonFlows_L2 st 4096 0 fl) (fun (v1_2 : Int32) (fl_3 : (Nat → Int32)) => bi2 (f_X2_reckonFlows_L27 st cn nx 4096 0 fl_3) (fun (v1_6 : Int32) (fl_7 : (Nat → Int32)) => some fl_7))
set_option maxHeartbeats 4000000 in
set_option maxRecDepth 100000 in
theorem c_X2_reckonFlows (l : Launch) (D : va_G) (cI : ClassId) {sz : Nat} (q : Nat) (qs : Nat) (qc : Nat) (qn : Nat) (qo : Nat) (ql : Nat) (qf : Nat) (qca : Nat) (qna : Nat) (qoa : Nat) (qla : Nat) (qfa : Nat) (qsr : Nat) (qsa : Nat) (st : Int32) (he : Int32) (ta : Int32) (cl : Int32) (dr : Int32) (cn : (Nat → Int32)) (nx : (Nat → Int32)) (og : (Nat → Int32)) (li : (Nat → Int32)) (fl : (Nat → Int32)) (sv : (Nat → Int32)) (o_fl : (Nat → Int32)) (hf : f_X2_reckonFlows st cn nx fl = some o_fl) : Met l yX2_reckonFlows (.code yX2_reckonFlows cX2_reckonFlows 3 none :: wsG) ({ frames := 1, cells := 0, slots := 0, locals := 22 }) (va_Pc [.ref q] (gv D cI sz [(q, .inr (2, [.ref qs, .ref qc, .ref qn, .ref qo, .ref ql, .ref qf, .int st, .int he, .int ta, .int cl, .int dr])), (qc, .inr (4, [.ref qca])), (qca, .inl (cI, 500, .inl cn)), (qn, .inr (4, [.ref qna])), (qna, .inl (cI, 500, .inl nx)), (qo, .inr (4, [.ref qoa])), (qoa, .inl (cI, 250, .inl og)), (ql, .inr (4, [.ref qla])), (qla, .inl (cI, 250, .inl li)), (qf, .inr (4, [.ref qfa])), (qfa, .inl (cI, 250, .inl fl)), (qs, .inr (5, [.ref qsr])), (qsr, .inr (4, [.ref qsa])), (qsa, .inl (cI, 5, .inl sv))])) (va_Qv (fun (_ : Unit) => True) (gz D (va_A [(q, .inr (2, [.ref qs, .ref qc, .ref qn, .ref qo, .ref ql, .ref qf, .int st, .int he, .int ta, .int cl, .int dr])), (qc, .inr (4, [.ref qca])), (qca, .inl (cI, 500, .inl cn)), (qn, .inr (4, [.ref qna])), (qna, .inl (cI, 500, .inl nx)), (qo, .inr (4, [.ref qoa])), (qoa, .inl (cI, 250, .inl og)), (ql, .inr (4, [.ref qla])), (qla, .inl (cI, 250, .inl li)), (qf, .inr (4, [.ref qfa])), (qfa, .inl (cI, 250, .inl fl)), (qs, .inr (5, [.ref qsr])), (qsr, .inr (4, [.ref qsa])), (qsa, .inl (cI, 5, .inl sv))] sz) [(q, .inr (2, [.ref qs, .ref qc, .ref qn, .ref qo, .ref ql, .ref qf, .int st, .int he, .int ta, .int cl, .int dr])), (qc, .inr (4, [.ref qca])), (qca, .inl (cI, 500, .inl cn)), (qn, .inr (4, [.ref qna])), (qna, .inl (cI, 500, .inl nx)), (qo, .inr (4, [.ref qoa])), (qoa, .inl (cI, 250, .inl og)), (ql, .inr (4, [.ref qla])), (qla, .inl (cI, 250, .inl li)), (qf, .inr (4, [.ref qfa])), (qfa, .inl (cI, 250, .inl o_fl)), (qs, .inr (5, [.ref qsr])), (qsr, .inr (4, [.ref qsa])), (qsa, .inl (cI, 5, .inl sv))]) (va_A [(q, .inr (2, [.ref qs, .ref qc, .ref qn, .ref qo, .ref ql, .ref qf, .int st, .int he, .int ta, .int cl, .int dr])), (qc, .inr (4, [.ref qca])), (qca, .inl (cI, 500, .inl cn)), (qn, .inr (4, [.ref qna])), (qna, .inl (cI, 500, .inl nx)), (qo, .inr (4, [.ref qoa])), (qoa, .inl (cI, 250, .inl og)), (ql, .inr (4, [.ref qla])), (qla, .inl (cI, 250, .inl li)), (qf, .inr (4, [.ref qfa])), (qfa, .inl (cI, 250, .inl fl)), (qs, .inr (5, [.ref qsr])), (qsr, .inr (4, [.ref qsa])), (qsa, .inl (cI, 5, .inl sv))] sz)) 0 0 (va_A [(q, .inr (2, [.ref qs, .ref qc, .ref qn, .ref qo, .ref ql, .ref qf, .int st, .int he, .int ta, .int cl, .int dr])), (qc, .inr (4, [.ref qca])), (qca, .inl (cI, 500, .inl cn)), (qn, .inr (4, [.ref qna])), (qna, .inl (cI, 500, .inl nx)), (qo, .inr (4, [.ref qoa])), (qoa, .inl (cI, 250, .inl og)), (ql, .inr (4, [.ref qla])), (qla, .inl (cI, 250, .inl li)), (qf, .inr (4, [.ref qfa])), (qfa, .inl (cI, 250, .inl fl)), (qs, .inr (5, [.ref qsr])), (qsr, .inr (4, [.ref qsa])), (qsa, .inl (cI, 5, .inl sv))] sz) := by
  refine k_rw (y := yX2_reckonFlows) (cc := cX2_reckonFlows) (maxL := 3) (ret := none) (As := [.ref q]) (Qc := fun A => va_Qv (fun (_ : Unit) => True) (gz D A [(q, .inr (2, [.ref qs, .ref qc, .ref qn, .ref qo, .ref ql, .ref qf, .int st, .int he, .int ta, .int cl, .int dr])), (qc, .inr (4, [.ref qca])), (qca, .inl (cI, 500, .inl cn)), (qn, .inr (4, [.ref qna])), (qna, .inl (cI, 500, .inl nx)), (qo, .inr (4, [.ref qoa])), (qoa, .inl (cI, 250, .inl og)), (ql, .inr (4, [.ref qla])), (qla, .inl (cI, 250, .inl li)), (qf, .inr (4, [.ref qfa])), (qfa, .inl (cI, 250, .inl o_fl)), (qs, .inr (5, [.ref qsr])), (qsr, .inr (4, [.ref qsa])), (qsa, .inl (cI, 5, .inl sv))]) A) (by decide) rfl (Nat.le_of_ble_eq_true rfl) rfl ?_
  intro p e s m below meth c ls A S hret hloc hK hN hSF hP hD hS hA hl
  obtain ⟨hx, hb, hml, hown, hts⟩ := id S
  unfold f_X2_reckonFlows at hf
  refine lv_iconst (v := 0) hx hb dX2_reckonFlows_0 (by decide) ?_
  refine lv_istore_n (lv' := [(1, .int 0), (0, .ref q)]) hx hb dX2_reckonFlows_1 rfl hl (by decide) rfl (fun ls hl => ?_)
  obtain ⟨v1_2, fl_3, hc_4, hf⟩ := bd2 hf
  refine L_X2_reckonFlows_2 S hK hN hSF hA _ 0 fl v1_2 fl_3 hc_4 _ _ _ hP hD hS (lv_sub hl [1, 0] rfl) (fun H locs ls hP hD hS hl => ?_)
  refine lv_iconst (v := 0) hx hb dX2_reckonFlows_25 (by decide) ?_
  refine lv_istore_n (lv' := [(1, .int 0), (0, .ref q)]) hx hb dX2_reckonFlows_26 rfl hl (by decide) rfl (fun ls hl => ?_)
  obtain ⟨v1_6, fl_7, hc_8, hf⟩ := bd2 hf
  refine L_X2_reckonFlows_27 S hK hN hSF hA _ 0 fl_3 v1_6 fl_7 hc_8 _ _ _ hP hD hS (lv_sub hl [1, 0] rfl) (fun H locs ls hP hD hS hl => ?_)
  have e_0 := Option.some.inj hf
  subst e_0
  exact k_wretv hx hb hret hloc hP hD hS dX2_reckonFlows_77
theorem dX2_flowInto_0 : decode cX2_flowInto 0 = .ok (.aload_n 0, 1) := by decide +kernel
theorem dX2_flowInto_1 : decode cX2_flowInto 1 = .ok (.invokevirtual 114, 3) := by decide +kernel
theorem dX2_flowInto_4 : decode cX2_flowInto 4 = .ok (.aload_n 0, 1) := by decide +kernel
theorem dX2_flowInto_5 : decode cX2_flowInto 5 = .ok (.getfield 29, 3) := by decide +kernel
theorem dX2_flowInto_8 : decode cX2_flowInto 8 = .ok (.iload_n 1, 1) := by decide +kernel
theorem dX2_flowInto_9 : decode cX2_flowInto 9 = .ok (.invokevirtual 79, 3) := by decide +kernel
theorem dX2_flowInto_12 : decode cX2_flowInto 12 = .ok (.ireturn, 1) := by decide +kernel
theorem ok_X2_reckonFlows : okV yX2_reckonFlows RX2 0 := by decide +kernel
theorem gs_X2_114 : GoodIn wsG (wsV RX2 114 RX2 yX2_reckonFlows (.code yX2_reckonFlows cX2_reckonFlows 3 none :: wsG)) := good_V ml_X2_114 im_X2_reckonFlows se_X2_reckonFlows ini_X2 co_X2_reckonFlows
def f_X2_flowInto (st : Int32) (cn : (Nat → Int32)) (nx : (Nat → Int32)) (fl : (Nat → Int32)) (x1 : Int32) : Option (Int32 × (Nat → Int32)) := bi1 (f_X2_reckonFlows st cn nx fl) (fun (fl_1 : (Nat → Int32)) => some ((f_X4_get 250 fl_1 x1), fl_1))
set_option maxHeartbeats 4000000 in
set_option maxRecDepth 100000 in
theorem c_X2_flowInto (l : Launch) (D : va_G) (cI : ClassId) {sz : Nat} (q : Nat) (qs : Nat) (qc : Nat) (qn : Nat) (qo : Nat) (ql : Nat) (qf : Nat) (qca : Nat) (qna : Nat) (qoa : Nat) (qla : Nat) (qfa : Nat) (qsr : Nat) (qsa : Nat) (st : Int32) (he : Int32) (ta : Int32) (cl : Int32) (dr : Int32) (cn : (Nat → Int32)) (nx : (Nat → Int32)) (og : (Nat → Int32)) (li : (Nat → Int32)) (fl : (Nat → Int32)) (sv : (Nat → Int32)) (x1 : Int32) (r : Int32) (o_fl : (Nat → Int32)) (hf : f_X2_flowInto st cn nx fl x1 = some (r, o_fl)) : Met l yX2_flowInto (.code yX2_flowInto cX2_flowInto 2 (some .int) :: wsG) ({ frames := 2, cells := 0, slots := 0, locals := 44 }) (va_Pc [.ref q, .int x1] (gv D cI sz [(q, .inr (2, [.ref qs, .ref qc, .ref qn, .ref qo, .ref ql, .ref qf, .int st, .int he, .int ta, .int cl, .int dr])), (qc, .inr (4, [.ref qca])), (qca, .inl (cI, 500, .inl cn)), (qn, .inr (4, [.ref qna])), (qna, .inl (cI, 500, .inl nx)), (qo, .inr (4, [.ref qoa])), (qoa, .inl (cI, 250, .inl og)), (ql, .inr (4, [.ref qla])), (qla, .inl (cI, 250, .inl li)), (qf, .inr (4, [.ref qfa])), (qfa, .inl (cI, 250, .inl fl)), (qs, .inr (5, [.ref qsr])), (qsr, .inr (4, [.ref qsa])), (qsa, .inl (cI, 5, .inl sv))])) (va_Qi (fun x (_ : Unit) => x = r) (gz D (va_A [(q, .inr (2, [.ref qs, .ref qc, .ref qn, .ref qo, .ref ql, .ref qf, .int st, .int he, .int ta, .int cl, .int dr])), (qc, .inr (4, [.ref qca])), (qca, .inl (cI, 500, .inl cn)), (qn, .inr (4, [.ref qna])), (qna, .inl (cI, 500, .inl nx)), (qo, .inr (4, [.ref qoa])), (qoa, .inl (cI, 250, .inl og)), (ql, .inr (4, [.ref qla])), (qla, .inl (cI, 250, .inl li)), (qf, .inr (4, [.ref qfa])), (qfa, .inl (cI, 250, .inl fl)), (qs, .inr (5, [.ref qsr])), (qsr, .inr (4, [.ref qsa])), (qsa, .inl (cI, 5, .inl sv))] sz) [(q, .inr (2, [.ref qs, .ref qc, .ref qn, .ref qo, .ref ql, .ref qf, .int st, .int he, .int ta, .int cl, .int dr])), (qc, .inr (4, [.ref qca])), (qca, .inl (cI, 500, .inl cn)), (qn, .inr (4, [.ref qna])), (qna, .inl (cI, 500, .inl nx)), (qo, .inr (4, [.ref qoa])), (qoa, .inl (cI, 250, .inl og)), (ql, .inr (4, [.ref qla])), (qla, .inl (cI, 250, .inl li)), (qf, .inr (4, [.ref qfa])), (qfa, .inl (cI, 250, .inl o_fl)), (qs, .inr (5, [.ref qsr])), (qsr, .inr (4, [.ref qsa])), (qsa, .inl (cI, 5, .inl sv))]) (va_A [(q, .inr (2, [.ref qs, .ref qc, .ref qn, .ref qo, .ref ql, .ref qf, .int st, .int he, .int ta, .int cl, .int dr])), (qc, .inr (4, [.ref qca])), (qca, .inl (cI, 500, .inl cn)), (qn, .inr (4, [.ref qna])), (qna, .inl (cI, 500, .inl nx)), (qo, .inr (4, [.ref qoa])), (qoa, .inl (cI, 250, .inl og)), (ql, .inr (4, [.ref qla])), (qla, .inl (cI, 250, .inl li)), (qf, .inr (4, [.ref qfa])), (qfa, .inl (cI, 250, .inl fl)), (qs, .inr (5, [.ref qsr])), (qsr, .inr (4, [.ref qsa])), (qsa, .inl (cI, 5, .inl sv))] sz)) 0 0 (va_A [(q, .inr (2, [.ref qs, .ref qc, .ref qn, .ref qo, .ref ql, .ref qf, .int st, .int he, .int ta, .int cl, .int dr])), (qc, .inr (4, [.ref qca])), (qca, .inl (cI, 500, .inl cn)), (qn, .inr (4, [.ref qna])), (qna, .inl (cI, 500, .inl nx)), (qo, .inr (4, [.ref qoa])), (qoa, .inl (cI, 250, .inl og)), (ql, .inr (4, [.ref qla])), (qla, .inl (cI, 250, .inl li)), (qf, .inr (4, [.ref qfa])), (qfa, .inl (cI, 250, .inl fl)), (qs, .inr (5, [.ref qsr])), (qsr, .inr (4, [.ref qsa])), (qsa, .inl (cI, 5, .inl sv))] sz) := by
  refine k_rw (y := yX2_flowInto) (cc := cX2_flowInto) (maxL := 2) (ret := (some .int)) (As := [.ref q, .int x1]) (Qc := fun A => va_Qi (fun x (_ : Unit) => x = r) (gz D A [(q, .inr (2, [.ref qs, .ref qc, .ref qn, .ref qo, .ref ql, .ref qf, .int st, .int he, .int ta, .int cl, .int dr])), (qc, .inr (4, [.ref qca])), (qca, .inl (cI, 500, .inl cn)), (qn, .inr (4, [.ref qna])), (qna, .inl (cI, 500, .inl nx)), (qo, .inr (4, [.ref qoa])), (qoa, .inl (cI, 250, .inl og)), (ql, .inr (4, [.ref qla])), (qla, .inl (cI, 250, .inl li)), (qf, .inr (4, [.ref qfa])), (qfa, .inl (cI, 250, .inl o_fl)), (qs, .inr (5, [.ref qsr])), (qsr, .inr (4, [.ref qsa])), (qsa, .inl (cI, 5, .inl sv))]) A) (by decide) rfl (Nat.le_of_ble_eq_true rfl) rfl ?_
  intro p e s m below meth c ls A S hret hloc hK hN hSF hP hD hS hA hl
  obtain ⟨hx, hb, hml, hown, hts⟩ := id S
  unfold f_X2_flowInto at hf
  refine lv_aload_n hx hb dX2_flowInto_0 rfl (lv_at hl 0 rfl) ?_
  obtain ⟨fl_1, hc_2, hf⟩ := bd1 hf
  refine k_rwVv (As := []) (rest := []) (Wr := []) (W2 := [(q, .inr (2, [.ref qs, .ref qc, .ref qn, .ref qo, .ref ql, .ref qf, .int st, .int he, .int ta, .int cl, .int dr])), (qc, .inr (4, [.ref qca])), (qca, .inl (cI, 500, .inl cn)), (qn, .inr (4, [.ref qna])), (qna, .inl (cI, 500, .inl nx)), (qo, .inr (4, [.ref qoa])), (qoa, .inl (cI, 250, .inl og)), (ql, .inr (4, [.ref qla])), (qla, .inl (cI, 250, .inl li)), (qf, .inr (4, [.ref qfa])), (qfa, .inl (cI, 250, .inl fl_1)), (qs, .inr (5, [.ref qsr])), (qsr, .inr (4, [.ref qsa])), (qsa, .inl (cI, 5, .inl sv))]) S (c_X2_reckonFlows l D cI (q := q) (qs := qs) (qc := qc) (qn := qn) (qo := qo) (ql := ql) (qf := qf) (qca := qca) (qna := qna) (qoa := qoa) (qla := qla) (qfa := qfa) (qsr := qsr) (qsa := qsa) (st := st) (he := he) (ta := ta) (cl := cl) (dr := dr) (cn := cn) (nx := nx) (og := og) (li := li) (fl := fl) (sv := sv)  (o_fl := fl_1) (hf := hc_2)) gs_X2_114 ok_X2_reckonFlows ⟨rfl, rfl⟩ ⟨Nat.le_of_ble_eq_true rfl, Nat.le_of_ble_eq_true rfl⟩ hK hN hSF hP hD hS hA [0, 1, 2, 3, 4, 5, 6, 7, 8, 9, 10, 11, 12, 13] [] [0, 1, 2, 3, 4, 5, 6, 7, 8, 9, 10, 11, 12, 13] (by decide) rfl rfl (by decide) (by decide) rfl (by decide) rfl rfl rfl hl.1 rfl (Nat.le_of_ble_eq_true rfl) ⟨Nat.zero_le _, Nat.zero_le _⟩ dX2_flowInto_1 (fun H locs hP hD hS => ?_)
  refine lv_aload_n hx hb dX2_flowInto_4 rfl (lv_at hl 0 rfl) ?_
  refine va_get (D := D) (ci := 2) (v := .ref qf) (C := RX2) (T := TX2) (N := 11) hx hb hts inGX2 hown hK hP 0 rfl rfl 5 (by decide) (hts _ fl_X2_29) (fun _ h9 => h9) rfl dX2_flowInto_5 ?_
  refine lv_iload_n hx hb dX2_flowInto_8 rfl (lv_at hl 1 rfl) ?_
  refine k_roVi (As := [.int x1]) (rest := []) S (c_X4_get l D cI (q := qf) (qa := qfa) (n := 250) (f := fl_1) (x1 := x1) (hn := by decide) (r := (f_X4_get 250 fl_1 x1)) (hf := rfl)) gs_X2_79 ok_X4_get ⟨rfl, rfl⟩ ⟨Nat.le_of_ble_eq_true rfl, Nat.le_of_ble_eq_true rfl⟩ hK hN (sfr hSF hS) (hP.sub [9, 10] rfl) rfl rfl rfl hl.1 rfl (Nat.le_of_ble_eq_true rfl) ⟨Nat.zero_le _, Nat.zero_le _⟩ dX2_flowInto_9 ?_
  obtain ⟨e_0, e_1⟩ := Prod.mk.inj (Option.some.inj hf)
  subst e_0
  subst e_1
  exact k_wreti hx hb hret hloc rfl hP hD hS dX2_flowInto_12
theorem dX2_statesWithoutFlow_0 : decode cX2_statesWithoutFlow 0 = .ok (.aload_n 0, 1) := by decide +kernel
theorem dX2_statesWithoutFlow_1 : decode cX2_statesWithoutFlow 1 = .ok (.invokevirtual 114, 3) := by decide +kernel
theorem dX2_statesWithoutFlow_4 : decode cX2_statesWithoutFlow 4 = .ok (.iconst 0, 1) := by decide +kernel
theorem dX2_statesWithoutFlow_5 : decode cX2_statesWithoutFlow 5 = .ok (.istore_n 1, 1) := by decide +kernel
theorem dX2_statesWithoutFlow_6 : decode cX2_statesWithoutFlow 6 = .ok (.iconst 0, 1) := by decide +kernel
theorem dX2_statesWithoutFlow_7 : decode cX2_statesWithoutFlow 7 = .ok (.istore_n 2, 1) := by decide +kernel
theorem dX2_statesWithoutFlow_8 : decode cX2_statesWithoutFlow 8 = .ok (.iload_n 2, 1) := by decide +kernel
theorem dX2_statesWithoutFlow_9 : decode cX2_statesWithoutFlow 9 = .ok (.aload_n 0, 1) := by decide +kernel
theorem dX2_statesWithoutFlow_10 : decode cX2_statesWithoutFlow 10 = .ok (.getfield 61, 3) := by decide +kernel
theorem dX2_statesWithoutFlow_13 : decode cX2_statesWithoutFlow 13 = .ok (.if_icmp .ge 23, 3) := by decide +kernel
theorem dX2_statesWithoutFlow_16 : decode cX2_statesWithoutFlow 16 = .ok (.aload_n 0, 1) := by decide +kernel
theorem dX2_statesWithoutFlow_17 : decode cX2_statesWithoutFlow 17 = .ok (.getfield 29, 3) := by decide +kernel
theorem dX2_statesWithoutFlow_20 : decode cX2_statesWithoutFlow 20 = .ok (.iload_n 2, 1) := by decide +kernel
theorem dX2_statesWithoutFlow_21 : decode cX2_statesWithoutFlow 21 = .ok (.invokevirtual 79, 3) := by decide +kernel
theorem dX2_statesWithoutFlow_24 : decode cX2_statesWithoutFlow 24 = .ok (.ifCond .ne 6, 3) := by decide +kernel
theorem dX2_statesWithoutFlow_27 : decode cX2_statesWithoutFlow 27 = .ok (.iinc 1 1, 3) := by decide +kernel
theorem dX2_statesWithoutFlow_30 : decode cX2_statesWithoutFlow 30 = .ok (.iinc 2 1, 3) := by decide +kernel
theorem dX2_statesWithoutFlow_33 : decode cX2_statesWithoutFlow 33 = .ok (.goto (-25), 3) := by decide +kernel
theorem dX2_statesWithoutFlow_36 : decode cX2_statesWithoutFlow 36 = .ok (.iload_n 1, 1) := by decide +kernel
theorem dX2_statesWithoutFlow_37 : decode cX2_statesWithoutFlow 37 = .ok (.ireturn, 1) := by decide +kernel
def st_X2_statesWithoutFlow_L8 (st : Int32) (fl : (Nat → Int32)) (v1 : Int32) (v2 : Int32) : Option ((Int32 × Int32) ⊕ (Int32 × Int32)) := if st ≤ v2 then (some (Sum.inr (v1, v2))) else (if (f_X4_get 250 fl v2) = 0 then (some (Sum.inl (v1 + 1, v2 + 1))) else (some (Sum.inl (v1, v2 + 1))))
def f_X2_statesWithoutFlow_L8 (st : Int32) (fl : (Nat → Int32)) (k : Nat) (v1 : Int32) (v2 : Int32) : Option (Int32 × Int32) := lpN (fun z => st_X2_statesWithoutFlow_L8 st fl z.1 z.2) k (v1, v2)
set_option maxHeartbeats 4000000 in
set_option maxRecDepth 100000 in
theorem L_X2_statesWithoutFlow_8 {p : Program} {l : Launch} {e : Env} {s : State} {m : MethodId} {args : Array Value} {below : List Frame} {meth : Method} {c : Code} {Q : State → Prop} {D : va_G} {cI : ClassId} {q : Nat} {qs : Nat} {qc : Nat} {qn : Nat} {qo : Nat} {ql : Nat} {qf : Nat} {qca : Nat} {qna : Nat} {qoa : Nat} {qla : Nat} {qfa : Nat} {qsr : Nat} {qsa : Nat} {st : Int32} {he : Int32} {ta : Int32} {cl : Int32} {dr : Int32} {cn : (Nat → Int32)} {nx : (Nat → Int32)} {og : (Nat → Int32)} {li : (Nat → Int32)} {fl : (Nat → Int32)} {sv : (Nat → Int32)} {A : Nat → Prop} (S : CallFix p m c cX2_statesWithoutFlow 3 s args wsG RX2) (hK : va_K D vwCl [(cI, .int)] s) (hN : nw s) (hSF : sf A s s.heap) (hA : ∀ q, s.heap.size ≤ q → A q) : ∀ (k : Nat) (v1 : Int32) (v2 : Int32) (o_v1 : Int32) (o_v2 : Int32), f_X2_statesWithoutFlow_L8 st fl k v1 v2 = some (o_v1, o_v2) → ∀ (H : Heap) (locs : List Loc) (ls : Array Slot), va_P D vwCl [(q, .inr (2, [.ref qs, .ref qc, .ref qn, .ref qo, .ref ql, .ref qf, .int st, .int he, .int ta, .int cl, .int dr])), (qc, .inr (4, [.ref qca])), (qca, .inl (cI, 500, .inl cn)), (qn, .inr (4, [.ref qna])), (qna, .inl (cI, 500, .inl nx)), (qo, .inr (4, [.ref qoa])), (qoa, .inl (cI, 250, .inl og)), (ql, .inr (4, [.ref qla])), (qla, .inl (cI, 250, .inl li)), (qf, .inr (4, [.ref qfa])), (qfa, .inl (cI, 250, .inl fl)), (qs, .inr (5, [.ref qsr])), (qsr, .inr (4, [.ref qsa])), (qsa, .inl (cI, 5, .inl sv))] H → va_D A [(q, .inr (2, [.ref qs, .ref qc, .ref qn, .ref qo, .ref ql, .ref qf, .int st, .int he, .int ta, .int cl, .int dr])), (qc, .inr (4, [.ref qca])), (qca, .inl (cI, 500, .inl cn)), (qn, .inr (4, [.ref qna])), (qna, .inl (cI, 500, .inl nx)), (qo, .inr (4, [.ref qoa])), (qoa, .inl (cI, 250, .inl og)), (ql, .inr (4, [.ref qla])), (qla, .inl (cI, 250, .inl li)), (qf, .inr (4, [.ref qfa])), (qfa, .inl (cI, 250, .inl fl)), (qs, .inr (5, [.ref qsr])), (qsr, .inr (4, [.ref qsa])), (qsa, .inl (cI, 5, .inl sv))] → va_S A s.heap H locs → lv_has ls 3 [(0, .ref q), (1, .int v1), (2, .int v2)] → (∀ (H : Heap) (locs : List Loc) (ls : Array Slot), va_P D vwCl [(q, .inr (2, [.ref qs, .ref qc, .ref qn, .ref qo, .ref ql, .ref qf, .int st, .int he, .int ta, .int cl, .int dr])), (qc, .inr (4, [.ref qca])), (qca, .inl (cI, 500, .inl cn)), (qn, .inr (4, [.ref qna])), (qna, .inl (cI, 500, .inl nx)), (qo, .inr (4, [.ref qoa])), (qoa, .inl (cI, 250, .inl og)), (ql, .inr (4, [.ref qla])), (qla, .inl (cI, 250, .inl li)), (qf, .inr (4, [.ref qfa])), (qfa, .inl (cI, 250, .inl fl)), (qs, .inr (5, [.ref qsr])), (qsr, .inr (4, [.ref qsa])), (qsa, .inl (cI, 5, .inl sv))] H → va_D A [(q, .inr (2, [.ref qs, .ref qc, .ref qn, .ref qo, .ref ql, .ref qf, .int st, .int he, .int ta, .int cl, .int dr])), (qc, .inr (4, [.ref qca])), (qca, .inl (cI, 500, .inl cn)), (qn, .inr (4, [.ref qna])), (qna, .inl (cI, 500, .inl nx)), (qo, .inr (4, [.ref qoa])), (qoa, .inl (cI, 250, .inl og)), (ql, .inr (4, [.ref qla])), (qla, .inl (cI, 250, .inl li)), (qf, .inr (4, [.ref qfa])), (qfa, .inl (cI, 250, .inl fl)), (qs, .inr (5, [.ref qsr])), (qsr, .inr (4, [.ref qsa])), (qsa, .inl (cI, 5, .inl sv))] → va_S A s.heap H locs → lv_has ls 3 [(0, .ref q), (1, .int o_v1), (2, .int o_v2)] → W p l e (headSpec (.code yX2_statesWithoutFlow cX2_statesWithoutFlow 3 (some .int) :: wsG) { frames := 2, cells := 0, slots := 0, locals := 44 }).room s m args below meth c H locs 0 0 Q (F0 m 36 ls [])) → W p l e (headSpec (.code yX2_statesWithoutFlow cX2_statesWithoutFlow 3 (some .int) :: wsG) { frames := 2, cells := 0, slots := 0, locals := 44 }).room s m args below meth c H locs 0 0 Q (F0 m 8 ls []) := by
  obtain ⟨hx, hb, hml, hown, hts⟩ := id S
  intro k
  induction k with
  | zero =>
    intro v1 v2 o_v1 o_v2 hf
    cases hf
  | succ k ih =>
    intro v1 v2 o_v1 o_v2 hf H locs ls hP hD hS hl kk
    obtain ⟨z, hf, hz⟩ := lp_inv hf
    have hf : st_X2_statesWithoutFlow_L8 st fl v1 v2 = some z := hf
    unfold st_X2_statesWithoutFlow_L8 at hf
    refine lv_iload_n hx hb dX2_statesWithoutFlow_8 rfl (lv_at hl 2 rfl) ?_
    refine lv_aload_n hx hb dX2_statesWithoutFlow_9 rfl (lv_at hl 0 rfl) ?_
    refine va_get (D := D) (ci := 2) (v := .int st) (C := RX2) (T := TX2) (N := 11) hx hb hts inGX2 hown hK hP 0 rfl rfl 6 (by decide) (hts _ fl_X2_61) (fun _ h9 => h9) rfl dX2_statesWithoutFlow_10 ?_
    refine lv_icmp_ge (tgt := 36) hx hb dX2_statesWithoutFlow_13 (by decide) (fun c_3 => ?_) (fun c_3 => ?_)
    · rw [if_pos c_3] at hf
      have hf := Option.some.inj hf
      subst hf
      obtain ⟨e_0, e_1⟩ := Prod.mk.inj (lpC_r hz)
      subst e_0
      subst e_1
      exact kk H locs ls hP hD hS (lv_sub hl [0, 1, 2] rfl)
    · rw [if_neg c_3] at hf
      refine lv_aload_n hx hb dX2_statesWithoutFlow_16 rfl (lv_at hl 0 rfl) ?_
      refine va_get (D := D) (ci := 2) (v := .ref qf) (C := RX2) (T := TX2) (N := 11) hx hb hts inGX2 hown hK hP 0 rfl rfl 5 (by decide) (hts _ fl_X2_29) (fun _ h9 => h9) rfl dX2_statesWithoutFlow_17 ?_
      refine lv_iload_n hx hb dX2_statesWithoutFlow_20 rfl (lv_at hl 2 rfl) ?_
      refine k_roVi (As := [.int v2]) (rest := []) S (c_X4_get l D cI (q := qf) (qa := qfa) (n := 250) (f := fl) (x1 := v2) (hn := by decide) (r := (f_X4_get 250 fl v2)) (hf := rfl)) gs_X2_79 ok_X4_get ⟨rfl, rfl⟩ ⟨Nat.le_of_ble_eq_true rfl, Nat.le_of_ble_eq_true rfl⟩ hK hN (sfr hSF hS) (hP.sub [9, 10] rfl) rfl rfl rfl hl.1 rfl (Nat.le_of_ble_eq_true rfl) ⟨Nat.zero_le _, Nat.zero_le _⟩ dX2_statesWithoutFlow_21 ?_
      refine lv_if_ne (tgt := 30) hx hb dX2_statesWithoutFlow_24 (by decide) (fun c_4 => ?_) (fun c_4 => ?_)
      · rw [if_neg c_4] at hf
        refine lv_iinc (v := v2 + 1) (lv' := [(2, .int (v2 + 1)), (0, .ref q), (1, .int v1)]) hx hb dX2_statesWithoutFlow_30 hl (k := 2) rfl rfl (by decide) rfl (fun ls hl => ?_)
        refine lv_goto (tgt := 8) hx hb dX2_statesWithoutFlow_33 (by decide) ?_
        have hf := Option.some.inj hf
        subst hf
        exact ih v1 (v2 + 1) _ _ hz H locs ls hP hD hS (lv_sub hl [1, 2, 0] rfl) kk
      · rw [if_pos c_4] at hf
        refine lv_iinc (v := v1 + 1) (lv' := [(1, .int (v1 + 1)), (0, .ref q), (2, .int v2)]) hx hb dX2_statesWithoutFlow_27 hl (k := 1) rfl rfl (by decide) rfl (fun ls hl => ?_)
        refine lv_iinc (v := v2 + 1) (lv' := [(2, .int (v2 + 1)), (1, .int (v1 + 1)), (0, .ref q)]) hx hb dX2_statesWithoutFlow_30 hl (k := 2) rfl rfl (by decide) rfl (fun ls hl => ?_)
        refine lv_goto (tgt := 8) hx hb dX2_statesWithoutFlow_33 (by decide) ?_
        have hf := Option.some.inj hf
        subst hf
        exact ih (v1 + 1) (v2 + 1) _ _ hz H locs ls hP hD hS (lv_sub hl [2, 1, 0] rfl) kk
def f_X2_statesWithoutFlow (st : Int32) (cn : (Nat → Int32)) (nx : (Nat → Int32)) (fl : (Nat → Int32)) : Option (Int32 × (Nat → Int32)) := bi1 (f_X2_reckonFlows st cn nx fl) (fun (fl_1 : (Nat → Int32)) => bi2 (f_X2_statesWithoutFlow_L8 st fl_1 4096 0 0) (fun (v1_5 : Int32) (v2_6 : Int32) => some (v1_5, fl_1)))
set_option maxHeartbeats 4000000 in
set_option maxRecDepth 100000 in
theorem c_X2_statesWithoutFlow (l : Launch) (D : va_G) (cI : ClassId) {sz : Nat} (q : Nat) (qs : Nat) (qc : Nat) (qn : Nat) (qo : Nat) (ql : Nat) (qf : Nat) (qca : Nat) (qna : Nat) (qoa : Nat) (qla : Nat) (qfa : Nat) (qsr : Nat) (qsa : Nat) (st : Int32) (he : Int32) (ta : Int32) (cl : Int32) (dr : Int32) (cn : (Nat → Int32)) (nx : (Nat → Int32)) (og : (Nat → Int32)) (li : (Nat → Int32)) (fl : (Nat → Int32)) (sv : (Nat → Int32)) (r : Int32) (o_fl : (Nat → Int32)) (hf : f_X2_statesWithoutFlow st cn nx fl = some (r, o_fl)) : Met l yX2_statesWithoutFlow (.code yX2_statesWithoutFlow cX2_statesWithoutFlow 3 (some .int) :: wsG) ({ frames := 2, cells := 0, slots := 0, locals := 44 }) (va_Pc [.ref q] (gv D cI sz [(q, .inr (2, [.ref qs, .ref qc, .ref qn, .ref qo, .ref ql, .ref qf, .int st, .int he, .int ta, .int cl, .int dr])), (qc, .inr (4, [.ref qca])), (qca, .inl (cI, 500, .inl cn)), (qn, .inr (4, [.ref qna])), (qna, .inl (cI, 500, .inl nx)), (qo, .inr (4, [.ref qoa])), (qoa, .inl (cI, 250, .inl og)), (ql, .inr (4, [.ref qla])), (qla, .inl (cI, 250, .inl li)), (qf, .inr (4, [.ref qfa])), (qfa, .inl (cI, 250, .inl fl)), (qs, .inr (5, [.ref qsr])), (qsr, .inr (4, [.ref qsa])), (qsa, .inl (cI, 5, .inl sv))])) (va_Qi (fun x (_ : Unit) => x = r) (gz D (va_A [(q, .inr (2, [.ref qs, .ref qc, .ref qn, .ref qo, .ref ql, .ref qf, .int st, .int he, .int ta, .int cl, .int dr])), (qc, .inr (4, [.ref qca])), (qca, .inl (cI, 500, .inl cn)), (qn, .inr (4, [.ref qna])), (qna, .inl (cI, 500, .inl nx)), (qo, .inr (4, [.ref qoa])), (qoa, .inl (cI, 250, .inl og)), (ql, .inr (4, [.ref qla])), (qla, .inl (cI, 250, .inl li)), (qf, .inr (4, [.ref qfa])), (qfa, .inl (cI, 250, .inl fl)), (qs, .inr (5, [.ref qsr])), (qsr, .inr (4, [.ref qsa])), (qsa, .inl (cI, 5, .inl sv))] sz) [(q, .inr (2, [.ref qs, .ref qc, .ref qn, .ref qo, .ref ql, .ref qf, .int st, .int he, .int ta, .int cl, .int dr])), (qc, .inr (4, [.ref qca])), (qca, .inl (cI, 500, .inl cn)), (qn, .inr (4, [.ref qna])), (qna, .inl (cI, 500, .inl nx)), (qo, .inr (4, [.ref qoa])), (qoa, .inl (cI, 250, .inl og)), (ql, .inr (4, [.ref qla])), (qla, .inl (cI, 250, .inl li)), (qf, .inr (4, [.ref qfa])), (qfa, .inl (cI, 250, .inl o_fl)), (qs, .inr (5, [.ref qsr])), (qsr, .inr (4, [.ref qsa])), (qsa, .inl (cI, 5, .inl sv))]) (va_A [(q, .inr (2, [.ref qs, .ref qc, .ref qn, .ref qo, .ref ql, .ref qf, .int st, .int he, .int ta, .int cl, .int dr])), (qc, .inr (4, [.ref qca])), (qca, .inl (cI, 500, .inl cn)), (qn, .inr (4, [.ref qna])), (qna, .inl (cI, 500, .inl nx)), (qo, .inr (4, [.ref qoa])), (qoa, .inl (cI, 250, .inl og)), (ql, .inr (4, [.ref qla])), (qla, .inl (cI, 250, .inl li)), (qf, .inr (4, [.ref qfa])), (qfa, .inl (cI, 250, .inl fl)), (qs, .inr (5, [.ref qsr])), (qsr, .inr (4, [.ref qsa])), (qsa, .inl (cI, 5, .inl sv))] sz)) 0 0 (va_A [(q, .inr (2, [.ref qs, .ref qc, .ref qn, .ref qo, .ref ql, .ref qf, .int st, .int he, .int ta, .int cl, .int dr])), (qc, .inr (4, [.ref qca])), (qca, .inl (cI, 500, .inl cn)), (qn, .inr (4, [.ref qna])), (qna, .inl (cI, 500, .inl nx)), (qo, .inr (4, [.ref qoa])), (qoa, .inl (cI, 250, .inl og)), (ql, .inr (4, [.ref qla])), (qla, .inl (cI, 250, .inl li)), (qf, .inr (4, [.ref qfa])), (qfa, .inl (cI, 250, .inl fl)), (qs, .inr (5, [.ref qsr])), (qsr, .inr (4, [.ref qsa])), (qsa, .inl (cI, 5, .inl sv))] sz) := by
  refine k_rw (y := yX2_statesWithoutFlow) (cc := cX2_statesWithoutFlow) (maxL := 3) (ret := (some .int)) (As := [.ref q]) (Qc := fun A => va_Qi (fun x (_ : Unit) => x = r) (gz D A [(q, .inr (2, [.ref qs, .ref qc, .ref qn, .ref qo, .ref ql, .ref qf, .int st, .int he, .int ta, .int cl, .int dr])), (qc, .inr (4, [.ref qca])), (qca, .inl (cI, 500, .inl cn)), (qn, .inr (4, [.ref qna])), (qna, .inl (cI, 500, .inl nx)), (qo, .inr (4, [.ref qoa])), (qoa, .inl (cI, 250, .inl og)), (ql, .inr (4, [.ref qla])), (qla, .inl (cI, 250, .inl li)), (qf, .inr (4, [.ref qfa])), (qfa, .inl (cI, 250, .inl o_fl)), (qs, .inr (5, [.ref qsr])), (qsr, .inr (4, [.ref qsa])), (qsa, .inl (cI, 5, .inl sv))]) A) (by decide) rfl (Nat.le_of_ble_eq_true rfl) rfl ?_
  intro p e s m below meth c ls A S hret hloc hK hN hSF hP hD hS hA hl
  obtain ⟨hx, hb, hml, hown, hts⟩ := id S
  unfold f_X2_statesWithoutFlow at hf
  refine lv_aload_n hx hb dX2_statesWithoutFlow_0 rfl (lv_at hl 0 rfl) ?_
  obtain ⟨fl_1, hc_2, hf⟩ := bd1 hf
  refine k_rwVv (As := []) (rest := []) (Wr := []) (W2 := [(q, .inr (2, [.ref qs, .ref qc, .ref qn, .ref qo, .ref ql, .ref qf, .int st, .int he, .int ta, .int cl, .int dr])), (qc, .inr (4, [.ref qca])), (qca, .inl (cI, 500, .inl cn)), (qn, .inr (4, [.ref qna])), (qna, .inl (cI, 500, .inl nx)), (qo, .inr (4, [.ref qoa])), (qoa, .inl (cI, 250, .inl og)), (ql, .inr (4, [.ref qla])), (qla, .inl (cI, 250, .inl li)), (qf, .inr (4, [.ref qfa])), (qfa, .inl (cI, 250, .inl fl_1)), (qs, .inr (5, [.ref qsr])), (qsr, .inr (4, [.ref qsa])), (qsa, .inl (cI, 5, .inl sv))]) S (c_X2_reckonFlows l D cI (q := q) (qs := qs) (qc := qc) (qn := qn) (qo := qo) (ql := ql) (qf := qf) (qca := qca) (qna := qna) (qoa := qoa) (qla := qla) (qfa := qfa) (qsr := qsr) (qsa := qsa) (st := st) (he := he) (ta := ta) (cl := cl) (dr := dr) (cn := cn) (nx := nx) (og := og) (li := li) (fl := fl) (sv := sv)  (o_fl := fl_1) (hf := hc_2)) gs_X2_114 ok_X2_reckonFlows ⟨rfl, rfl⟩ ⟨Nat.le_of_ble_eq_true rfl, Nat.le_of_ble_eq_true rfl⟩ hK hN hSF hP hD hS hA [0, 1, 2, 3, 4, 5, 6, 7, 8, 9, 10, 11, 12, 13] [] [0, 1, 2, 3, 4, 5, 6, 7, 8, 9, 10, 11, 12, 13] (by decide) rfl rfl (by decide) (by decide) rfl (by decide) rfl rfl rfl hl.1 rfl (Nat.le_of_ble_eq_true rfl) ⟨Nat.zero_le _, Nat.zero_le _⟩ dX2_statesWithoutFlow_1 (fun H locs hP hD hS => ?_)
  refine lv_iconst (v := 0) hx hb dX2_statesWithoutFlow_4 (by decide) ?_
  refine lv_istore_n (lv' := [(1, .int 0), (0, .ref q)]) hx hb dX2_statesWithoutFlow_5 rfl hl (by decide) rfl (fun ls hl => ?_)
  refine lv_iconst (v := 0) hx hb dX2_statesWithoutFlow_6 (by decide) ?_
  refine lv_istore_n (lv' := [(2, .int 0), (1, .int 0), (0, .ref q)]) hx hb dX2_statesWithoutFlow_7 rfl hl (by decide) rfl (fun ls hl => ?_)
  obtain ⟨v1_5, v2_6, hc_7, hf⟩ := bd2 hf
  refine L_X2_statesWithoutFlow_8 S hK hN hSF hA _ 0 0 v1_5 v2_6 hc_7 _ _ _ hP hD hS (lv_sub hl [2, 1, 0] rfl) (fun H locs ls hP hD hS hl => ?_)
  refine lv_iload_n hx hb dX2_statesWithoutFlow_36 rfl (lv_at hl 1 rfl) ?_
  obtain ⟨e_0, e_1⟩ := Prod.mk.inj (Option.some.inj hf)
  subst e_0
  subst e_1
  exact k_wreti hx hb hret hloc rfl hP hD hS dX2_statesWithoutFlow_37
theorem dX2_allCounts_0 : decode cX2_allCounts 0 = .ok (.iconst 0, 1) := by decide +kernel
theorem dX2_allCounts_1 : decode cX2_allCounts 1 = .ok (.istore_n 1, 1) := by decide +kernel
theorem dX2_allCounts_2 : decode cX2_allCounts 2 = .ok (.iconst 0, 1) := by decide +kernel
theorem dX2_allCounts_3 : decode cX2_allCounts 3 = .ok (.istore_n 2, 1) := by decide +kernel
theorem dX2_allCounts_4 : decode cX2_allCounts 4 = .ok (.iload_n 2, 1) := by decide +kernel
theorem dX2_allCounts_5 : decode cX2_allCounts 5 = .ok (.aload_n 0, 1) := by decide +kernel
theorem dX2_allCounts_6 : decode cX2_allCounts 6 = .ok (.getfield 61, 3) := by decide +kernel
theorem dX2_allCounts_9 : decode cX2_allCounts 9 = .ok (.if_icmp .ge 17, 3) := by decide +kernel
theorem dX2_allCounts_12 : decode cX2_allCounts 12 = .ok (.iload_n 1, 1) := by decide +kernel
theorem dX2_allCounts_13 : decode cX2_allCounts 13 = .ok (.aload_n 0, 1) := by decide +kernel
theorem dX2_allCounts_14 : decode cX2_allCounts 14 = .ok (.iload_n 2, 1) := by decide +kernel
theorem dX2_allCounts_15 : decode cX2_allCounts 15 = .ok (.invokevirtual 80, 3) := by decide +kernel
theorem dX2_allCounts_18 : decode cX2_allCounts 18 = .ok (.iadd, 1) := by decide +kernel
theorem dX2_allCounts_19 : decode cX2_allCounts 19 = .ok (.istore_n 1, 1) := by decide +kernel
theorem dX2_allCounts_20 : decode cX2_allCounts 20 = .ok (.iinc 2 1, 3) := by decide +kernel
theorem dX2_allCounts_23 : decode cX2_allCounts 23 = .ok (.goto (-19), 3) := by decide +kernel
theorem dX2_allCounts_26 : decode cX2_allCounts 26 = .ok (.iload_n 1, 1) := by decide +kernel
theorem dX2_allCounts_27 : decode cX2_allCounts 27 = .ok (.ireturn, 1) := by decide +kernel
def st_X2_allCounts_L4 (st : Int32) (cn : (Nat → Int32)) (v1 : Int32) (v2 : Int32) : Option ((Int32 × Int32) ⊕ (Int32 × Int32)) := if st ≤ v2 then (some (Sum.inr (v1, v2))) else (some (Sum.inl (v1 + (f_X2_bothCounts cn v2), v2 + 1)))
def f_X2_allCounts_L4 (st : Int32) (cn : (Nat → Int32)) (k : Nat) (v1 : Int32) (v2 : Int32) : Option (Int32 × Int32) := lpN (fun z => st_X2_allCounts_L4 st cn z.1 z.2) k (v1, v2)
set_option maxHeartbeats 4000000 in
set_option maxRecDepth 100000 in
theorem L_X2_allCounts_4 {p : Program} {l : Launch} {e : Env} {s : State} {m : MethodId} {args : Array Value} {below : List Frame} {meth : Method} {c : Code} {Q : State → Prop} {D : va_G} {cI : ClassId} {q : Nat} {qs : Nat} {qc : Nat} {qn : Nat} {qo : Nat} {ql : Nat} {qf : Nat} {qca : Nat} {qna : Nat} {qoa : Nat} {qla : Nat} {qfa : Nat} {qsr : Nat} {qsa : Nat} {st : Int32} {he : Int32} {ta : Int32} {cl : Int32} {dr : Int32} {cn : (Nat → Int32)} {nx : (Nat → Int32)} {og : (Nat → Int32)} {li : (Nat → Int32)} {fl : (Nat → Int32)} {sv : (Nat → Int32)} (S : CallFix p m c cX2_allCounts 3 s args wsG RX2) (hK : va_K D vwCl [(cI, .int)] s) (hN : nw s) (hSF : sf (fun _ => False) s s.heap) : ∀ (k : Nat) (v1 : Int32) (v2 : Int32) (o_v1 : Int32) (o_v2 : Int32), f_X2_allCounts_L4 st cn k v1 v2 = some (o_v1, o_v2) → ∀ (ls : Array Slot), va_P D vwCl [(q, .inr (2, [.ref qs, .ref qc, .ref qn, .ref qo, .ref ql, .ref qf, .int st, .int he, .int ta, .int cl, .int dr])), (qc, .inr (4, [.ref qca])), (qca, .inl (cI, 500, .inl cn)), (qn, .inr (4, [.ref qna])), (qna, .inl (cI, 500, .inl nx)), (qo, .inr (4, [.ref qoa])), (qoa, .inl (cI, 250, .inl og)), (ql, .inr (4, [.ref qla])), (qla, .inl (cI, 250, .inl li)), (qf, .inr (4, [.ref qfa])), (qfa, .inl (cI, 250, .inl fl)), (qs, .inr (5, [.ref qsr])), (qsr, .inr (4, [.ref qsa])), (qsa, .inl (cI, 5, .inl sv))] s.heap → lv_has ls 3 [(0, .ref q), (1, .int v1), (2, .int v2)] → (∀ (ls : Array Slot), lv_has ls 3 [(0, .ref q), (1, .int o_v1), (2, .int o_v2)] → W p l e (headSpec (.code yX2_allCounts cX2_allCounts 3 (some .int) :: wsG) { frames := 3, cells := 0, slots := 0, locals := 64 }).room s m args below meth c s.heap [] 0 0 Q (F0 m 26 ls [])) → W p l e (headSpec (.code yX2_allCounts cX2_allCounts 3 (some .int) :: wsG) { frames := 3, cells := 0, slots := 0, locals := 64 }).room s m args below meth c s.heap [] 0 0 Q (F0 m 4 ls []) := by
  obtain ⟨hx, hb, hml, hown, hts⟩ := id S
  intro k
  induction k with
  | zero =>
    intro v1 v2 o_v1 o_v2 hf
    cases hf
  | succ k ih =>
    intro v1 v2 o_v1 o_v2 hf ls hP hl kk
    obtain ⟨z, hf, hz⟩ := lp_inv hf
    have hf : st_X2_allCounts_L4 st cn v1 v2 = some z := hf
    unfold st_X2_allCounts_L4 at hf
    refine lv_iload_n hx hb dX2_allCounts_4 rfl (lv_at hl 2 rfl) ?_
    refine lv_aload_n hx hb dX2_allCounts_5 rfl (lv_at hl 0 rfl) ?_
    refine va_get (D := D) (ci := 2) (v := .int st) (C := RX2) (T := TX2) (N := 11) hx hb hts inGX2 hown hK hP 0 rfl rfl 6 (by decide) (hts _ fl_X2_61) (fun _ h9 => h9) rfl dX2_allCounts_6 ?_
    refine lv_icmp_ge (tgt := 26) hx hb dX2_allCounts_9 (by decide) (fun c_1 => ?_) (fun c_1 => ?_)
    · rw [if_pos c_1] at hf
      have hf := Option.some.inj hf
      subst hf
      obtain ⟨e_0, e_1⟩ := Prod.mk.inj (lpC_r hz)
      subst e_0
      subst e_1
      exact kk ls (lv_sub hl [0, 1, 2] rfl)
    · rw [if_neg c_1] at hf
      refine lv_iload_n hx hb dX2_allCounts_12 rfl (lv_at hl 1 rfl) ?_
      refine lv_aload_n hx hb dX2_allCounts_13 rfl (lv_at hl 0 rfl) ?_
      refine lv_iload_n hx hb dX2_allCounts_14 rfl (lv_at hl 2 rfl) ?_
      refine k_roVi (As := [.int v2]) (rest := [.int v1]) S (c_X2_bothCounts l D cI (q := q) (qs := qs) (qc := qc) (qn := qn) (qo := qo) (ql := ql) (qf := qf) (qca := qca) (qna := qna) (qoa := qoa) (qla := qla) (qfa := qfa) (qsr := qsr) (qsa := qsa) (st := st) (he := he) (ta := ta) (cl := cl) (dr := dr) (cn := cn) (nx := nx) (og := og) (li := li) (fl := fl) (sv := sv) (x1 := v2)  (r := (f_X2_bothCounts cn v2)) (hf := rfl)) gs_X2_80 ok_X2_bothCounts ⟨rfl, rfl⟩ ⟨Nat.le_of_ble_eq_true rfl, Nat.le_of_ble_eq_true rfl⟩ hK hN hSF hP rfl rfl rfl hl.1 rfl (Nat.le_of_ble_eq_true rfl) ⟨Nat.zero_le _, Nat.zero_le _⟩ dX2_allCounts_15 ?_
      refine lv_iadd hx hb dX2_allCounts_18 ?_
      refine lv_istore_n (lv' := [(1, .int (v1 + (f_X2_bothCounts cn v2))), (0, .ref q), (2, .int v2)]) hx hb dX2_allCounts_19 rfl hl (by decide) rfl (fun ls hl => ?_)
      refine lv_iinc (v := v2 + 1) (lv' := [(2, .int (v2 + 1)), (1, .int (v1 + (f_X2_bothCounts cn v2))), (0, .ref q)]) hx hb dX2_allCounts_20 hl (k := 2) rfl rfl (by decide) rfl (fun ls hl => ?_)
      refine lv_goto (tgt := 4) hx hb dX2_allCounts_23 (by decide) ?_
      have hf := Option.some.inj hf
      subst hf
      exact ih (v1 + (f_X2_bothCounts cn v2)) (v2 + 1) _ _ hz ls hP (lv_sub hl [2, 1, 0] rfl) kk
def f_X2_allCounts (st : Int32) (cn : (Nat → Int32)) : Option (Int32) := bi2 (f_X2_allCounts_L4 st cn 4096 0 0) (fun (v1_2 : Int32) (v2_3 : Int32) => some v1_2)
set_option maxHeartbeats 4000000 in
set_option maxRecDepth 100000 in
theorem c_X2_allCounts (l : Launch) (D : va_G) (cI : ClassId) (q : Nat) (qs : Nat) (qc : Nat) (qn : Nat) (qo : Nat) (ql : Nat) (qf : Nat) (qca : Nat) (qna : Nat) (qoa : Nat) (qla : Nat) (qfa : Nat) (qsr : Nat) (qsa : Nat) (st : Int32) (he : Int32) (ta : Int32) (cl : Int32) (dr : Int32) (cn : (Nat → Int32)) (nx : (Nat → Int32)) (og : (Nat → Int32)) (li : (Nat → Int32)) (fl : (Nat → Int32)) (sv : (Nat → Int32)) (r : Int32) (hf : f_X2_allCounts st cn = some r) : Met l yX2_allCounts (.code yX2_allCounts cX2_allCounts 3 (some .int) :: wsG) ({ frames := 3, cells := 0, slots := 0, locals := 64 }) (va_Pc [.ref q] (gw D cI [(q, .inr (2, [.ref qs, .ref qc, .ref qn, .ref qo, .ref ql, .ref qf, .int st, .int he, .int ta, .int cl, .int dr])), (qc, .inr (4, [.ref qca])), (qca, .inl (cI, 500, .inl cn)), (qn, .inr (4, [.ref qna])), (qna, .inl (cI, 500, .inl nx)), (qo, .inr (4, [.ref qoa])), (qoa, .inl (cI, 250, .inl og)), (ql, .inr (4, [.ref qla])), (qla, .inl (cI, 250, .inl li)), (qf, .inr (4, [.ref qfa])), (qfa, .inl (cI, 250, .inl fl)), (qs, .inr (5, [.ref qsr])), (qsr, .inr (4, [.ref qsa])), (qsa, .inl (cI, 5, .inl sv))])) (vp_Si (fun x => x = r)) 0 0 (fun _ => False) := by
  refine k_ro (by decide) rfl (Nat.le_of_ble_eq_true rfl) rfl ?_
  intro p e s m below meth c ls S hret hloc hK hN hSF hP hl
  obtain ⟨hx, hb, hml, hown, hts⟩ := id S
  unfold f_X2_allCounts at hf
  refine lv_iconst (v := 0) hx hb dX2_allCounts_0 (by decide) ?_
  refine lv_istore_n (lv' := [(1, .int 0), (0, .ref q)]) hx hb dX2_allCounts_1 rfl hl (by decide) rfl (fun ls hl => ?_)
  refine lv_iconst (v := 0) hx hb dX2_allCounts_2 (by decide) ?_
  refine lv_istore_n (lv' := [(2, .int 0), (1, .int 0), (0, .ref q)]) hx hb dX2_allCounts_3 rfl hl (by decide) rfl (fun ls hl => ?_)
  obtain ⟨v1_2, v2_3, hc_4, hf⟩ := bd2 hf
  refine L_X2_allCounts_4 S hK hN hSF _ 0 0 v1_2 v2_3 hc_4 _ hP (lv_sub hl [2, 1, 0] rfl) (fun ls hl => ?_)
  refine lv_iload_n hx hb dX2_allCounts_26 rfl (lv_at hl 1 rfl) ?_
  exact k_reti hx hb hret hloc (Option.some.inj hf) dX2_allCounts_27
theorem dX2_longestLine_0 : decode cX2_longestLine 0 = .ok (.iconst 0, 1) := by decide +kernel
theorem dX2_longestLine_1 : decode cX2_longestLine 1 = .ok (.istore_n 1, 1) := by decide +kernel
theorem dX2_longestLine_2 : decode cX2_longestLine 2 = .ok (.iconst 0, 1) := by decide +kernel
theorem dX2_longestLine_3 : decode cX2_longestLine 3 = .ok (.istore_n 2, 1) := by decide +kernel
theorem dX2_longestLine_4 : decode cX2_longestLine 4 = .ok (.iload_n 2, 1) := by decide +kernel
theorem dX2_longestLine_5 : decode cX2_longestLine 5 = .ok (.aload_n 0, 1) := by decide +kernel
theorem dX2_longestLine_6 : decode cX2_longestLine 6 = .ok (.getfield 61, 3) := by decide +kernel
theorem dX2_longestLine_9 : decode cX2_longestLine 9 = .ok (.if_icmp .ge 22, 3) := by decide +kernel
theorem dX2_longestLine_12 : decode cX2_longestLine 12 = .ok (.iload_n 1, 1) := by decide +kernel
theorem dX2_longestLine_13 : decode cX2_longestLine 13 = .ok (.aload_n 0, 1) := by decide +kernel
theorem dX2_longestLine_14 : decode cX2_longestLine 14 = .ok (.getfield 26, 3) := by decide +kernel
theorem dX2_longestLine_17 : decode cX2_longestLine 17 = .ok (.iload_n 2, 1) := by decide +kernel
theorem dX2_longestLine_18 : decode cX2_longestLine 18 = .ok (.invokevirtual 79, 3) := by decide +kernel
theorem dX2_longestLine_21 : decode cX2_longestLine 21 = .ok (.invokestatic 102, 3) := by decide +kernel
theorem dX2_longestLine_24 : decode cX2_longestLine 24 = .ok (.istore_n 1, 1) := by decide +kernel
theorem dX2_longestLine_25 : decode cX2_longestLine 25 = .ok (.iinc 2 1, 3) := by decide +kernel
theorem dX2_longestLine_28 : decode cX2_longestLine 28 = .ok (.goto (-24), 3) := by decide +kernel
theorem dX2_longestLine_31 : decode cX2_longestLine 31 = .ok (.iload_n 1, 1) := by decide +kernel
theorem dX2_longestLine_32 : decode cX2_longestLine 32 = .ok (.ireturn, 1) := by decide +kernel
def st_X2_longestLine_L4 (st : Int32) (li : (Nat → Int32)) (v1 : Int32) (v2 : Int32) : Option ((Int32 × Int32) ⊕ (Int32 × Int32)) := if st ≤ v2 then (some (Sum.inr (v1, v2))) else (some (Sum.inl ((if v1 < (f_X4_get 250 li v2) then (f_X4_get 250 li v2) else v1), v2 + 1)))
def f_X2_longestLine_L4 (st : Int32) (li : (Nat → Int32)) (k : Nat) (v1 : Int32) (v2 : Int32) : Option (Int32 × Int32) := lpN (fun z => st_X2_longestLine_L4 st li z.1 z.2) k (v1, v2)
set_option maxHeartbeats 4000000 in
set_option maxRecDepth 100000 in
theorem L_X2_longestLine_4 {p : Program} {l : Launch} {e : Env} {s : State} {m : MethodId} {args : Array Value} {below : List Frame} {meth : Method} {c : Code} {Q : State → Prop} {D : va_G} {cI : ClassId} {q : Nat} {qs : Nat} {qc : Nat} {qn : Nat} {qo : Nat} {ql : Nat} {qf : Nat} {qca : Nat} {qna : Nat} {qoa : Nat} {qla : Nat} {qfa : Nat} {qsr : Nat} {qsa : Nat} {st : Int32} {he : Int32} {ta : Int32} {cl : Int32} {dr : Int32} {cn : (Nat → Int32)} {nx : (Nat → Int32)} {og : (Nat → Int32)} {li : (Nat → Int32)} {fl : (Nat → Int32)} {sv : (Nat → Int32)} (S : CallFix p m c cX2_longestLine 3 s args wsG RX2) (hK : va_K D vwCl [(cI, .int)] s) (hN : nw s) (hSF : sf (fun _ => False) s s.heap) : ∀ (k : Nat) (v1 : Int32) (v2 : Int32) (o_v1 : Int32) (o_v2 : Int32), f_X2_longestLine_L4 st li k v1 v2 = some (o_v1, o_v2) → ∀ (ls : Array Slot), va_P D vwCl [(q, .inr (2, [.ref qs, .ref qc, .ref qn, .ref qo, .ref ql, .ref qf, .int st, .int he, .int ta, .int cl, .int dr])), (qc, .inr (4, [.ref qca])), (qca, .inl (cI, 500, .inl cn)), (qn, .inr (4, [.ref qna])), (qna, .inl (cI, 500, .inl nx)), (qo, .inr (4, [.ref qoa])), (qoa, .inl (cI, 250, .inl og)), (ql, .inr (4, [.ref qla])), (qla, .inl (cI, 250, .inl li)), (qf, .inr (4, [.ref qfa])), (qfa, .inl (cI, 250, .inl fl)), (qs, .inr (5, [.ref qsr])), (qsr, .inr (4, [.ref qsa])), (qsa, .inl (cI, 5, .inl sv))] s.heap → lv_has ls 3 [(0, .ref q), (1, .int v1), (2, .int v2)] → (∀ (ls : Array Slot), lv_has ls 3 [(0, .ref q), (1, .int o_v1), (2, .int o_v2)] → W p l e (headSpec (.code yX2_longestLine cX2_longestLine 3 (some .int) :: wsG) { frames := 1, cells := 0, slots := 0, locals := 21 }).room s m args below meth c s.heap [] 0 0 Q (F0 m 31 ls [])) → W p l e (headSpec (.code yX2_longestLine cX2_longestLine 3 (some .int) :: wsG) { frames := 1, cells := 0, slots := 0, locals := 21 }).room s m args below meth c s.heap [] 0 0 Q (F0 m 4 ls []) := by
  obtain ⟨hx, hb, hml, hown, hts⟩ := id S
  intro k
  induction k with
  | zero =>
    intro v1 v2 o_v1 o_v2 hf
    cases hf
  | succ k ih =>
    intro v1 v2 o_v1 o_v2 hf ls hP hl kk
    obtain ⟨z, hf, hz⟩ := lp_inv hf
    have hf : st_X2_longestLine_L4 st li v1 v2 = some z := hf
    unfold st_X2_longestLine_L4 at hf
    refine lv_iload_n hx hb dX2_longestLine_4 rfl (lv_at hl 2 rfl) ?_
    refine lv_aload_n hx hb dX2_longestLine_5 rfl (lv_at hl 0 rfl) ?_
    refine va_get (D := D) (ci := 2) (v := .int st) (C := RX2) (T := TX2) (N := 11) hx hb hts inGX2 hown hK hP 0 rfl rfl 6 (by decide) (hts _ fl_X2_61) (fun _ h9 => h9) rfl dX2_longestLine_6 ?_
    refine lv_icmp_ge (tgt := 31) hx hb dX2_longestLine_9 (by decide) (fun c_1 => ?_) (fun c_1 => ?_)
    · rw [if_pos c_1] at hf
      have hf := Option.some.inj hf
      subst hf
      obtain ⟨e_0, e_1⟩ := Prod.mk.inj (lpC_r hz)
      subst e_0
      subst e_1
      exact kk ls (lv_sub hl [0, 1, 2] rfl)
    · rw [if_neg c_1] at hf
      refine lv_iload_n hx hb dX2_longestLine_12 rfl (lv_at hl 1 rfl) ?_
      refine lv_aload_n hx hb dX2_longestLine_13 rfl (lv_at hl 0 rfl) ?_
      refine va_get (D := D) (ci := 2) (v := .ref ql) (C := RX2) (T := TX2) (N := 11) hx hb hts inGX2 hown hK hP 0 rfl rfl 4 (by decide) (hts _ fl_X2_26) (fun _ h9 => h9) rfl dX2_longestLine_14 ?_
      refine lv_iload_n hx hb dX2_longestLine_17 rfl (lv_at hl 2 rfl) ?_
      refine k_roVi (As := [.int v2]) (rest := [.int v1]) S (c_X4_get l D cI (q := ql) (qa := qla) (n := 250) (f := li) (x1 := v2) (hn := by decide) (r := (f_X4_get 250 li v2)) (hf := rfl)) gs_X2_79 ok_X4_get ⟨rfl, rfl⟩ ⟨Nat.le_of_ble_eq_true rfl, Nat.le_of_ble_eq_true rfl⟩ hK hN hSF (hP.sub [7, 8] rfl) rfl rfl rfl hl.1 rfl (Nat.le_of_ble_eq_true rfl) ⟨Nat.zero_le _, Nat.zero_le _⟩ dX2_longestLine_18 ?_
      refine va_mmax hx hb (hml.trans hl.1.symm) hown (hts _ ml_X2_102) (hts _ st_Math_max) (hts _ ini_Math) (hts _ co_Math_max) (Nat.le_of_ble_eq_true rfl) (Nat.le_of_ble_eq_true rfl) (Nat.zero_le _) (Nat.zero_le _) dX2_longestLine_21 ?_
      refine lv_istore_n (lv' := [(1, .int (if v1 < (f_X4_get 250 li v2) then (f_X4_get 250 li v2) else v1)), (0, .ref q), (2, .int v2)]) hx hb dX2_longestLine_24 rfl hl (by decide) rfl (fun ls hl => ?_)
      refine lv_iinc (v := v2 + 1) (lv' := [(2, .int (v2 + 1)), (1, .int (if v1 < (f_X4_get 250 li v2) then (f_X4_get 250 li v2) else v1)), (0, .ref q)]) hx hb dX2_longestLine_25 hl (k := 2) rfl rfl (by decide) rfl (fun ls hl => ?_)
      refine lv_goto (tgt := 4) hx hb dX2_longestLine_28 (by decide) ?_
      have hf := Option.some.inj hf
      subst hf
      exact ih (if v1 < (f_X4_get 250 li v2) then (f_X4_get 250 li v2) else v1) (v2 + 1) _ _ hz ls hP (lv_sub hl [2, 1, 0] rfl) kk
def f_X2_longestLine (st : Int32) (li : (Nat → Int32)) : Option (Int32) := bi2 (f_X2_longestLine_L4 st li 4096 0 0) (fun (v1_2 : Int32) (v2_3 : Int32) => some v1_2)
set_option maxHeartbeats 4000000 in
set_option maxRecDepth 100000 in
theorem c_X2_longestLine (l : Launch) (D : va_G) (cI : ClassId) (q : Nat) (qs : Nat) (qc : Nat) (qn : Nat) (qo : Nat) (ql : Nat) (qf : Nat) (qca : Nat) (qna : Nat) (qoa : Nat) (qla : Nat) (qfa : Nat) (qsr : Nat) (qsa : Nat) (st : Int32) (he : Int32) (ta : Int32) (cl : Int32) (dr : Int32) (cn : (Nat → Int32)) (nx : (Nat → Int32)) (og : (Nat → Int32)) (li : (Nat → Int32)) (fl : (Nat → Int32)) (sv : (Nat → Int32)) (r : Int32) (hf : f_X2_longestLine st li = some r) : Met l yX2_longestLine (.code yX2_longestLine cX2_longestLine 3 (some .int) :: wsG) ({ frames := 1, cells := 0, slots := 0, locals := 21 }) (va_Pc [.ref q] (gw D cI [(q, .inr (2, [.ref qs, .ref qc, .ref qn, .ref qo, .ref ql, .ref qf, .int st, .int he, .int ta, .int cl, .int dr])), (qc, .inr (4, [.ref qca])), (qca, .inl (cI, 500, .inl cn)), (qn, .inr (4, [.ref qna])), (qna, .inl (cI, 500, .inl nx)), (qo, .inr (4, [.ref qoa])), (qoa, .inl (cI, 250, .inl og)), (ql, .inr (4, [.ref qla])), (qla, .inl (cI, 250, .inl li)), (qf, .inr (4, [.ref qfa])), (qfa, .inl (cI, 250, .inl fl)), (qs, .inr (5, [.ref qsr])), (qsr, .inr (4, [.ref qsa])), (qsa, .inl (cI, 5, .inl sv))])) (vp_Si (fun x => x = r)) 0 0 (fun _ => False) := by
  refine k_ro (by decide) rfl (Nat.le_of_ble_eq_true rfl) rfl ?_
  intro p e s m below meth c ls S hret hloc hK hN hSF hP hl
  obtain ⟨hx, hb, hml, hown, hts⟩ := id S
  unfold f_X2_longestLine at hf
  refine lv_iconst (v := 0) hx hb dX2_longestLine_0 (by decide) ?_
  refine lv_istore_n (lv' := [(1, .int 0), (0, .ref q)]) hx hb dX2_longestLine_1 rfl hl (by decide) rfl (fun ls hl => ?_)
  refine lv_iconst (v := 0) hx hb dX2_longestLine_2 (by decide) ?_
  refine lv_istore_n (lv' := [(2, .int 0), (1, .int 0), (0, .ref q)]) hx hb dX2_longestLine_3 rfl hl (by decide) rfl (fun ls hl => ?_)
  obtain ⟨v1_2, v2_3, hc_4, hf⟩ := bd2 hf
  refine L_X2_longestLine_4 S hK hN hSF _ 0 0 v1_2 v2_3 hc_4 _ hP (lv_sub hl [2, 1, 0] rfl) (fun ls hl => ?_)
  refine lv_iload_n hx hb dX2_longestLine_31 rfl (lv_at hl 1 rfl) ?_
  exact k_reti hx hb hret hloc (Option.some.inj hf) dX2_longestLine_32
theorem dX2_copyFrom_0 : decode cX2_copyFrom 0 = .ok (.aload_n 0, 1) := by decide +kernel
theorem dX2_copyFrom_1 : decode cX2_copyFrom 1 = .ok (.aload_n 1, 1) := by decide +kernel
theorem dX2_copyFrom_2 : decode cX2_copyFrom 2 = .ok (.getfield 61, 3) := by decide +kernel
theorem dX2_copyFrom_5 : decode cX2_copyFrom 5 = .ok (.putfield 61, 3) := by decide +kernel
theorem dX2_copyFrom_8 : decode cX2_copyFrom 8 = .ok (.aload_n 0, 1) := by decide +kernel
theorem dX2_copyFrom_9 : decode cX2_copyFrom 9 = .ok (.aload_n 1, 1) := by decide +kernel
theorem dX2_copyFrom_10 : decode cX2_copyFrom 10 = .ok (.getfield 64, 3) := by decide +kernel
theorem dX2_copyFrom_13 : decode cX2_copyFrom 13 = .ok (.putfield 64, 3) := by decide +kernel
theorem dX2_copyFrom_16 : decode cX2_copyFrom 16 = .ok (.aload_n 0, 1) := by decide +kernel
theorem dX2_copyFrom_17 : decode cX2_copyFrom 17 = .ok (.aload_n 1, 1) := by decide +kernel
theorem dX2_copyFrom_18 : decode cX2_copyFrom 18 = .ok (.getfield 39, 3) := by decide +kernel
theorem dX2_copyFrom_21 : decode cX2_copyFrom 21 = .ok (.putfield 39, 3) := by decide +kernel
theorem dX2_copyFrom_24 : decode cX2_copyFrom 24 = .ok (.aload_n 0, 1) := by decide +kernel
theorem dX2_copyFrom_25 : decode cX2_copyFrom 25 = .ok (.aload_n 1, 1) := by decide +kernel
theorem dX2_copyFrom_26 : decode cX2_copyFrom 26 = .ok (.getfield 43, 3) := by decide +kernel
theorem dX2_copyFrom_29 : decode cX2_copyFrom 29 = .ok (.putfield 43, 3) := by decide +kernel
theorem dX2_copyFrom_32 : decode cX2_copyFrom 32 = .ok (.aload_n 0, 1) := by decide +kernel
theorem dX2_copyFrom_33 : decode cX2_copyFrom 33 = .ok (.aload_n 1, 1) := by decide +kernel
theorem dX2_copyFrom_34 : decode cX2_copyFrom 34 = .ok (.getfield 46, 3) := by decide +kernel
theorem dX2_copyFrom_37 : decode cX2_copyFrom 37 = .ok (.putfield 46, 3) := by decide +kernel
theorem dX2_copyFrom_40 : decode cX2_copyFrom 40 = .ok (.aload_n 0, 1) := by decide +kernel
theorem dX2_copyFrom_41 : decode cX2_copyFrom 41 = .ok (.getfield 14, 3) := by decide +kernel
theorem dX2_copyFrom_44 : decode cX2_copyFrom 44 = .ok (.aload_n 1, 1) := by decide +kernel
theorem dX2_copyFrom_45 : decode cX2_copyFrom 45 = .ok (.getfield 14, 3) := by decide +kernel
theorem dX2_copyFrom_48 : decode cX2_copyFrom 48 = .ok (.iconst 2, 1) := by decide +kernel
theorem dX2_copyFrom_49 : decode cX2_copyFrom 49 = .ok (.aload_n 0, 1) := by decide +kernel
theorem dX2_copyFrom_50 : decode cX2_copyFrom 50 = .ok (.getfield 61, 3) := by decide +kernel
theorem dX2_copyFrom_53 : decode cX2_copyFrom 53 = .ok (.imul, 1) := by decide +kernel
theorem dX2_copyFrom_54 : decode cX2_copyFrom 54 = .ok (.invokevirtual 117, 3) := by decide +kernel
theorem dX2_copyFrom_57 : decode cX2_copyFrom 57 = .ok (.aload_n 0, 1) := by decide +kernel
theorem dX2_copyFrom_58 : decode cX2_copyFrom 58 = .ok (.getfield 20, 3) := by decide +kernel
theorem dX2_copyFrom_61 : decode cX2_copyFrom 61 = .ok (.aload_n 1, 1) := by decide +kernel
theorem dX2_copyFrom_62 : decode cX2_copyFrom 62 = .ok (.getfield 20, 3) := by decide +kernel
theorem dX2_copyFrom_65 : decode cX2_copyFrom 65 = .ok (.iconst 2, 1) := by decide +kernel
theorem dX2_copyFrom_66 : decode cX2_copyFrom 66 = .ok (.aload_n 0, 1) := by decide +kernel
theorem dX2_copyFrom_67 : decode cX2_copyFrom 67 = .ok (.getfield 61, 3) := by decide +kernel
theorem dX2_copyFrom_70 : decode cX2_copyFrom 70 = .ok (.imul, 1) := by decide +kernel
theorem dX2_copyFrom_71 : decode cX2_copyFrom 71 = .ok (.invokevirtual 117, 3) := by decide +kernel
theorem dX2_copyFrom_74 : decode cX2_copyFrom 74 = .ok (.aload_n 0, 1) := by decide +kernel
theorem dX2_copyFrom_75 : decode cX2_copyFrom 75 = .ok (.getfield 23, 3) := by decide +kernel
theorem dX2_copyFrom_78 : decode cX2_copyFrom 78 = .ok (.aload_n 1, 1) := by decide +kernel
theorem dX2_copyFrom_79 : decode cX2_copyFrom 79 = .ok (.getfield 23, 3) := by decide +kernel
theorem dX2_copyFrom_82 : decode cX2_copyFrom 82 = .ok (.aload_n 0, 1) := by decide +kernel
theorem dX2_copyFrom_83 : decode cX2_copyFrom 83 = .ok (.getfield 61, 3) := by decide +kernel
theorem dX2_copyFrom_86 : decode cX2_copyFrom 86 = .ok (.invokevirtual 117, 3) := by decide +kernel
theorem dX2_copyFrom_89 : decode cX2_copyFrom 89 = .ok (.aload_n 0, 1) := by decide +kernel
theorem dX2_copyFrom_90 : decode cX2_copyFrom 90 = .ok (.getfield 26, 3) := by decide +kernel
theorem dX2_copyFrom_93 : decode cX2_copyFrom 93 = .ok (.aload_n 1, 1) := by decide +kernel
theorem dX2_copyFrom_94 : decode cX2_copyFrom 94 = .ok (.getfield 26, 3) := by decide +kernel
theorem dX2_copyFrom_97 : decode cX2_copyFrom 97 = .ok (.aload_n 0, 1) := by decide +kernel
theorem dX2_copyFrom_98 : decode cX2_copyFrom 98 = .ok (.getfield 61, 3) := by decide +kernel
theorem dX2_copyFrom_101 : decode cX2_copyFrom 101 = .ok (.invokevirtual 117, 3) := by decide +kernel
theorem dX2_copyFrom_104 : decode cX2_copyFrom 104 = .ok (.return_, 1) := by decide +kernel
theorem gs_X2_117 : GoodIn wsG (wsV RX2 117 RX4 yX4_copyFrom (.code yX4_copyFrom cX4_copyFrom 4 none :: wsG)) := good_V ml_X2_117 im_X4_copyFrom se_X4_copyFrom ini_X4 co_X4_copyFrom
def f_X2_copyFrom (cn : (Nat → Int32)) (nx : (Nat → Int32)) (og : (Nat → Int32)) (li : (Nat → Int32)) (w_st : Int32) (w_he : Int32) (w_ta : Int32) (w_cl : Int32) (w_dr : Int32) (w_cn : (Nat → Int32)) (w_nx : (Nat → Int32)) (w_og : (Nat → Int32)) (w_li : (Nat → Int32)) : Option (Int32 × Int32 × Int32 × Int32 × Int32 × (Nat → Int32) × (Nat → Int32) × (Nat → Int32) × (Nat → Int32)) := bi1 (f_X4_copyFrom 500 500 cn w_cn (2 * w_st)) (fun (cn_1 : (Nat → Int32)) => bi1 (f_X4_copyFrom 500 500 nx w_nx (2 * w_st)) (fun (nx_3 : (Nat → Int32)) => bi1 (f_X4_copyFrom 250 250 og w_og w_st) (fun (og_5 : (Nat → Int32)) => bi1 (f_X4_copyFrom 250 250 li w_li w_st) (fun (li_7 : (Nat → Int32)) => some (w_st, w_he, w_ta, w_cl, w_dr, cn_1, nx_3, og_5, li_7)))))
set_option maxHeartbeats 4000000 in
set_option maxRecDepth 100000 in
theorem c_X2_copyFrom (l : Launch) (D : va_G) (cI : ClassId) {sz : Nat} (q : Nat) (g : Nat) (qs : Nat) (qc : Nat) (qn : Nat) (qo : Nat) (ql : Nat) (qf : Nat) (qca : Nat) (qna : Nat) (qoa : Nat) (qla : Nat) (qfa : Nat) (gs : Nat) (gc : Nat) (gn : Nat) (go : Nat) (gl : Nat) (gf : Nat) (gca : Nat) (gna : Nat) (goa : Nat) (gla : Nat) (gfa : Nat) (st : Int32) (he : Int32) (ta : Int32) (cl : Int32) (dr : Int32) (cn : (Nat → Int32)) (nx : (Nat → Int32)) (og : (Nat → Int32)) (li : (Nat → Int32)) (fl : (Nat → Int32)) (w_st : Int32) (w_he : Int32) (w_ta : Int32) (w_cl : Int32) (w_dr : Int32) (w_cn : (Nat → Int32)) (w_nx : (Nat → Int32)) (w_og : (Nat → Int32)) (w_li : (Nat → Int32)) (w_fl : (Nat → Int32)) (o_st : Int32) (o_he : Int32) (o_ta : Int32) (o_cl : Int32) (o_dr : Int32) (o_cn : (Nat → Int32)) (o_nx : (Nat → Int32)) (o_og : (Nat → Int32)) (o_li : (Nat → Int32)) (hf : f_X2_copyFrom cn nx og li w_st w_he w_ta w_cl w_dr w_cn w_nx w_og w_li = some (o_st, o_he, o_ta, o_cl, o_dr, o_cn, o_nx, o_og, o_li)) : Met l yX2_copyFrom (.code yX2_copyFrom cX2_copyFrom 2 none :: wsG) ({ frames := 2, cells := 0, slots := 0, locals := 45 }) (va_Pc [.ref q, .ref g] (gv D cI sz [(q, .inr (2, [.ref qs, .ref qc, .ref qn, .ref qo, .ref ql, .ref qf, .int st, .int he, .int ta, .int cl, .int dr])), (qc, .inr (4, [.ref qca])), (qca, .inl (cI, 500, .inl cn)), (qn, .inr (4, [.ref qna])), (qna, .inl (cI, 500, .inl nx)), (qo, .inr (4, [.ref qoa])), (qoa, .inl (cI, 250, .inl og)), (ql, .inr (4, [.ref qla])), (qla, .inl (cI, 250, .inl li)), (qf, .inr (4, [.ref qfa])), (qfa, .inl (cI, 250, .inl fl)), (g, .inr (2, [.ref gs, .ref gc, .ref gn, .ref go, .ref gl, .ref gf, .int w_st, .int w_he, .int w_ta, .int w_cl, .int w_dr])), (gc, .inr (4, [.ref gca])), (gca, .inl (cI, 500, .inl w_cn)), (gn, .inr (4, [.ref gna])), (gna, .inl (cI, 500, .inl w_nx)), (go, .inr (4, [.ref goa])), (goa, .inl (cI, 250, .inl w_og)), (gl, .inr (4, [.ref gla])), (gla, .inl (cI, 250, .inl w_li)), (gf, .inr (4, [.ref gfa])), (gfa, .inl (cI, 250, .inl w_fl))])) (va_Qv (fun (_ : Unit) => True) (gz D (va_A [(q, .inr (2, [.ref qs, .ref qc, .ref qn, .ref qo, .ref ql, .ref qf, .int st, .int he, .int ta, .int cl, .int dr])), (qc, .inr (4, [.ref qca])), (qca, .inl (cI, 500, .inl cn)), (qn, .inr (4, [.ref qna])), (qna, .inl (cI, 500, .inl nx)), (qo, .inr (4, [.ref qoa])), (qoa, .inl (cI, 250, .inl og)), (ql, .inr (4, [.ref qla])), (qla, .inl (cI, 250, .inl li)), (qf, .inr (4, [.ref qfa])), (qfa, .inl (cI, 250, .inl fl)), (g, .inr (2, [.ref gs, .ref gc, .ref gn, .ref go, .ref gl, .ref gf, .int w_st, .int w_he, .int w_ta, .int w_cl, .int w_dr])), (gc, .inr (4, [.ref gca])), (gca, .inl (cI, 500, .inl w_cn)), (gn, .inr (4, [.ref gna])), (gna, .inl (cI, 500, .inl w_nx)), (go, .inr (4, [.ref goa])), (goa, .inl (cI, 250, .inl w_og)), (gl, .inr (4, [.ref gla])), (gla, .inl (cI, 250, .inl w_li)), (gf, .inr (4, [.ref gfa])), (gfa, .inl (cI, 250, .inl w_fl))] sz) [(q, .inr (2, [.ref qs, .ref qc, .ref qn, .ref qo, .ref ql, .ref qf, .int o_st, .int o_he, .int o_ta, .int o_cl, .int o_dr])), (qc, .inr (4, [.ref qca])), (qca, .inl (cI, 500, .inl o_cn)), (qn, .inr (4, [.ref qna])), (qna, .inl (cI, 500, .inl o_nx)), (qo, .inr (4, [.ref qoa])), (qoa, .inl (cI, 250, .inl o_og)), (ql, .inr (4, [.ref qla])), (qla, .inl (cI, 250, .inl o_li)), (qf, .inr (4, [.ref qfa])), (qfa, .inl (cI, 250, .inl fl)), (g, .inr (2, [.ref gs, .ref gc, .ref gn, .ref go, .ref gl, .ref gf, .int w_st, .int w_he, .int w_ta, .int w_cl, .int w_dr])), (gc, .inr (4, [.ref gca])), (gca, .inl (cI, 500, .inl w_cn)), (gn, .inr (4, [.ref gna])), (gna, .inl (cI, 500, .inl w_nx)), (go, .inr (4, [.ref goa])), (goa, .inl (cI, 250, .inl w_og)), (gl, .inr (4, [.ref gla])), (gla, .inl (cI, 250, .inl w_li)), (gf, .inr (4, [.ref gfa])), (gfa, .inl (cI, 250, .inl w_fl))]) (va_A [(q, .inr (2, [.ref qs, .ref qc, .ref qn, .ref qo, .ref ql, .ref qf, .int st, .int he, .int ta, .int cl, .int dr])), (qc, .inr (4, [.ref qca])), (qca, .inl (cI, 500, .inl cn)), (qn, .inr (4, [.ref qna])), (qna, .inl (cI, 500, .inl nx)), (qo, .inr (4, [.ref qoa])), (qoa, .inl (cI, 250, .inl og)), (ql, .inr (4, [.ref qla])), (qla, .inl (cI, 250, .inl li)), (qf, .inr (4, [.ref qfa])), (qfa, .inl (cI, 250, .inl fl)), (g, .inr (2, [.ref gs, .ref gc, .ref gn, .ref go, .ref gl, .ref gf, .int w_st, .int w_he, .int w_ta, .int w_cl, .int w_dr])), (gc, .inr (4, [.ref gca])), (gca, .inl (cI, 500, .inl w_cn)), (gn, .inr (4, [.ref gna])), (gna, .inl (cI, 500, .inl w_nx)), (go, .inr (4, [.ref goa])), (goa, .inl (cI, 250, .inl w_og)), (gl, .inr (4, [.ref gla])), (gla, .inl (cI, 250, .inl w_li)), (gf, .inr (4, [.ref gfa])), (gfa, .inl (cI, 250, .inl w_fl))] sz)) 0 0 (va_A [(q, .inr (2, [.ref qs, .ref qc, .ref qn, .ref qo, .ref ql, .ref qf, .int st, .int he, .int ta, .int cl, .int dr])), (qc, .inr (4, [.ref qca])), (qca, .inl (cI, 500, .inl cn)), (qn, .inr (4, [.ref qna])), (qna, .inl (cI, 500, .inl nx)), (qo, .inr (4, [.ref qoa])), (qoa, .inl (cI, 250, .inl og)), (ql, .inr (4, [.ref qla])), (qla, .inl (cI, 250, .inl li)), (qf, .inr (4, [.ref qfa])), (qfa, .inl (cI, 250, .inl fl)), (g, .inr (2, [.ref gs, .ref gc, .ref gn, .ref go, .ref gl, .ref gf, .int w_st, .int w_he, .int w_ta, .int w_cl, .int w_dr])), (gc, .inr (4, [.ref gca])), (gca, .inl (cI, 500, .inl w_cn)), (gn, .inr (4, [.ref gna])), (gna, .inl (cI, 500, .inl w_nx)), (go, .inr (4, [.ref goa])), (goa, .inl (cI, 250, .inl w_og)), (gl, .inr (4, [.ref gla])), (gla, .inl (cI, 250, .inl w_li)), (gf, .inr (4, [.ref gfa])), (gfa, .inl (cI, 250, .inl w_fl))] sz) := by
  refine k_rw (y := yX2_copyFrom) (cc := cX2_copyFrom) (maxL := 2) (ret := none) (As := [.ref q, .ref g]) (Qc := fun A => va_Qv (fun (_ : Unit) => True) (gz D A [(q, .inr (2, [.ref qs, .ref qc, .ref qn, .ref qo, .ref ql, .ref qf, .int o_st, .int o_he, .int o_ta, .int o_cl, .int o_dr])), (qc, .inr (4, [.ref qca])), (qca, .inl (cI, 500, .inl o_cn)), (qn, .inr (4, [.ref qna])), (qna, .inl (cI, 500, .inl o_nx)), (qo, .inr (4, [.ref qoa])), (qoa, .inl (cI, 250, .inl o_og)), (ql, .inr (4, [.ref qla])), (qla, .inl (cI, 250, .inl o_li)), (qf, .inr (4, [.ref qfa])), (qfa, .inl (cI, 250, .inl fl)), (g, .inr (2, [.ref gs, .ref gc, .ref gn, .ref go, .ref gl, .ref gf, .int w_st, .int w_he, .int w_ta, .int w_cl, .int w_dr])), (gc, .inr (4, [.ref gca])), (gca, .inl (cI, 500, .inl w_cn)), (gn, .inr (4, [.ref gna])), (gna, .inl (cI, 500, .inl w_nx)), (go, .inr (4, [.ref goa])), (goa, .inl (cI, 250, .inl w_og)), (gl, .inr (4, [.ref gla])), (gla, .inl (cI, 250, .inl w_li)), (gf, .inr (4, [.ref gfa])), (gfa, .inl (cI, 250, .inl w_fl))]) A) (by decide) rfl (Nat.le_of_ble_eq_true rfl) rfl ?_
  intro p e s m below meth c ls A S hret hloc hK hN hSF hP hD hS hA hl
  obtain ⟨hx, hb, hml, hown, hts⟩ := id S
  unfold f_X2_copyFrom at hf
  refine lv_aload_n hx hb dX2_copyFrom_0 rfl (lv_at hl 0 rfl) ?_
  refine lv_aload_n hx hb dX2_copyFrom_1 rfl (lv_at hl 1 rfl) ?_
  refine va_get (D := D) (ci := 2) (v := .int w_st) (C := RX2) (T := TX2) (N := 11) hx hb hts inGX2 hown hK hP 11 rfl rfl 6 (by decide) (hts _ fl_X2_61) (fun _ h9 => h9) rfl dX2_copyFrom_2 ?_
  refine va_put (D := D) (ci := 2) (v := .int w_st) (ty := .int) (C := RX2) (T := TX2) (N := 11) hx hb hts inGX2 tyX2 tyX2_ok nmX2 hown hK hP hD hS 0 rfl rfl 6 (by decide) (hts _ fl_X2_61) (fun _ h9 => h9) rfl (by decide +kernel) rfl rfl (Nat.le_of_ble_eq_true rfl) dX2_copyFrom_5 (fun H locs hP hD hS => ?_)
  have hP : va_P D vwCl [(q, .inr (2, [.ref qs, .ref qc, .ref qn, .ref qo, .ref ql, .ref qf, .int w_st, .int he, .int ta, .int cl, .int dr])), (qc, .inr (4, [.ref qca])), (qca, .inl (cI, 500, .inl cn)), (qn, .inr (4, [.ref qna])), (qna, .inl (cI, 500, .inl nx)), (qo, .inr (4, [.ref qoa])), (qoa, .inl (cI, 250, .inl og)), (ql, .inr (4, [.ref qla])), (qla, .inl (cI, 250, .inl li)), (qf, .inr (4, [.ref qfa])), (qfa, .inl (cI, 250, .inl fl)), (g, .inr (2, [.ref gs, .ref gc, .ref gn, .ref go, .ref gl, .ref gf, .int w_st, .int w_he, .int w_ta, .int w_cl, .int w_dr])), (gc, .inr (4, [.ref gca])), (gca, .inl (cI, 500, .inl w_cn)), (gn, .inr (4, [.ref gna])), (gna, .inl (cI, 500, .inl w_nx)), (go, .inr (4, [.ref goa])), (goa, .inl (cI, 250, .inl w_og)), (gl, .inr (4, [.ref gla])), (gla, .inl (cI, 250, .inl w_li)), (gf, .inr (4, [.ref gfa])), (gfa, .inl (cI, 250, .inl w_fl))] H := hP
  have hD : va_D A [(q, .inr (2, [.ref qs, .ref qc, .ref qn, .ref qo, .ref ql, .ref qf, .int w_st, .int he, .int ta, .int cl, .int dr])), (qc, .inr (4, [.ref qca])), (qca, .inl (cI, 500, .inl cn)), (qn, .inr (4, [.ref qna])), (qna, .inl (cI, 500, .inl nx)), (qo, .inr (4, [.ref qoa])), (qoa, .inl (cI, 250, .inl og)), (ql, .inr (4, [.ref qla])), (qla, .inl (cI, 250, .inl li)), (qf, .inr (4, [.ref qfa])), (qfa, .inl (cI, 250, .inl fl)), (g, .inr (2, [.ref gs, .ref gc, .ref gn, .ref go, .ref gl, .ref gf, .int w_st, .int w_he, .int w_ta, .int w_cl, .int w_dr])), (gc, .inr (4, [.ref gca])), (gca, .inl (cI, 500, .inl w_cn)), (gn, .inr (4, [.ref gna])), (gna, .inl (cI, 500, .inl w_nx)), (go, .inr (4, [.ref goa])), (goa, .inl (cI, 250, .inl w_og)), (gl, .inr (4, [.ref gla])), (gla, .inl (cI, 250, .inl w_li)), (gf, .inr (4, [.ref gfa])), (gfa, .inl (cI, 250, .inl w_fl))] := hD
  refine lv_aload_n hx hb dX2_copyFrom_8 rfl (lv_at hl 0 rfl) ?_
  refine lv_aload_n hx hb dX2_copyFrom_9 rfl (lv_at hl 1 rfl) ?_
  refine va_get (D := D) (ci := 2) (v := .int w_he) (C := RX2) (T := TX2) (N := 11) hx hb hts inGX2 hown hK hP 11 rfl rfl 7 (by decide) (hts _ fl_X2_64) (fun _ h9 => h9) rfl dX2_copyFrom_10 ?_
  refine va_put (D := D) (ci := 2) (v := .int w_he) (ty := .int) (C := RX2) (T := TX2) (N := 11) hx hb hts inGX2 tyX2 tyX2_ok nmX2 hown hK hP hD hS 0 rfl rfl 7 (by decide) (hts _ fl_X2_64) (fun _ h9 => h9) rfl (by decide +kernel) rfl rfl (Nat.le_of_ble_eq_true rfl) dX2_copyFrom_13 (fun H locs hP hD hS => ?_)
  have hP : va_P D vwCl [(q, .inr (2, [.ref qs, .ref qc, .ref qn, .ref qo, .ref ql, .ref qf, .int w_st, .int w_he, .int ta, .int cl, .int dr])), (qc, .inr (4, [.ref qca])), (qca, .inl (cI, 500, .inl cn)), (qn, .inr (4, [.ref qna])), (qna, .inl (cI, 500, .inl nx)), (qo, .inr (4, [.ref qoa])), (qoa, .inl (cI, 250, .inl og)), (ql, .inr (4, [.ref qla])), (qla, .inl (cI, 250, .inl li)), (qf, .inr (4, [.ref qfa])), (qfa, .inl (cI, 250, .inl fl)), (g, .inr (2, [.ref gs, .ref gc, .ref gn, .ref go, .ref gl, .ref gf, .int w_st, .int w_he, .int w_ta, .int w_cl, .int w_dr])), (gc, .inr (4, [.ref gca])), (gca, .inl (cI, 500, .inl w_cn)), (gn, .inr (4, [.ref gna])), (gna, .inl (cI, 500, .inl w_nx)), (go, .inr (4, [.ref goa])), (goa, .inl (cI, 250, .inl w_og)), (gl, .inr (4, [.ref gla])), (gla, .inl (cI, 250, .inl w_li)), (gf, .inr (4, [.ref gfa])), (gfa, .inl (cI, 250, .inl w_fl))] H := hP
  have hD : va_D A [(q, .inr (2, [.ref qs, .ref qc, .ref qn, .ref qo, .ref ql, .ref qf, .int w_st, .int w_he, .int ta, .int cl, .int dr])), (qc, .inr (4, [.ref qca])), (qca, .inl (cI, 500, .inl cn)), (qn, .inr (4, [.ref qna])), (qna, .inl (cI, 500, .inl nx)), (qo, .inr (4, [.ref qoa])), (qoa, .inl (cI, 250, .inl og)), (ql, .inr (4, [.ref qla])), (qla, .inl (cI, 250, .inl li)), (qf, .inr (4, [.ref qfa])), (qfa, .inl (cI, 250, .inl fl)), (g, .inr (2, [.ref gs, .ref gc, .ref gn, .ref go, .ref gl, .ref gf, .int w_st, .int w_he, .int w_ta, .int w_cl, .int w_dr])), (gc, .inr (4, [.ref gca])), (gca, .inl (cI, 500, .inl w_cn)), (gn, .inr (4, [.ref gna])), (gna, .inl (cI, 500, .inl w_nx)), (go, .inr (4, [.ref goa])), (goa, .inl (cI, 250, .inl w_og)), (gl, .inr (4, [.ref gla])), (gla, .inl (cI, 250, .inl w_li)), (gf, .inr (4, [.ref gfa])), (gfa, .inl (cI, 250, .inl w_fl))] := hD
  refine lv_aload_n hx hb dX2_copyFrom_16 rfl (lv_at hl 0 rfl) ?_
  refine lv_aload_n hx hb dX2_copyFrom_17 rfl (lv_at hl 1 rfl) ?_
  refine va_get (D := D) (ci := 2) (v := .int w_ta) (C := RX2) (T := TX2) (N := 11) hx hb hts inGX2 hown hK hP 11 rfl rfl 8 (by decide) (hts _ fl_X2_39) (fun _ h9 => h9) rfl dX2_copyFrom_18 ?_
  refine va_put (D := D) (ci := 2) (v := .int w_ta) (ty := .int) (C := RX2) (T := TX2) (N := 11) hx hb hts inGX2 tyX2 tyX2_ok nmX2 hown hK hP hD hS 0 rfl rfl 8 (by decide) (hts _ fl_X2_39) (fun _ h9 => h9) rfl (by decide +kernel) rfl rfl (Nat.le_of_ble_eq_true rfl) dX2_copyFrom_21 (fun H locs hP hD hS => ?_)
  have hP : va_P D vwCl [(q, .inr (2, [.ref qs, .ref qc, .ref qn, .ref qo, .ref ql, .ref qf, .int w_st, .int w_he, .int w_ta, .int cl, .int dr])), (qc, .inr (4, [.ref qca])), (qca, .inl (cI, 500, .inl cn)), (qn, .inr (4, [.ref qna])), (qna, .inl (cI, 500, .inl nx)), (qo, .inr (4, [.ref qoa])), (qoa, .inl (cI, 250, .inl og)), (ql, .inr (4, [.ref qla])), (qla, .inl (cI, 250, .inl li)), (qf, .inr (4, [.ref qfa])), (qfa, .inl (cI, 250, .inl fl)), (g, .inr (2, [.ref gs, .ref gc, .ref gn, .ref go, .ref gl, .ref gf, .int w_st, .int w_he, .int w_ta, .int w_cl, .int w_dr])), (gc, .inr (4, [.ref gca])), (gca, .inl (cI, 500, .inl w_cn)), (gn, .inr (4, [.ref gna])), (gna, .inl (cI, 500, .inl w_nx)), (go, .inr (4, [.ref goa])), (goa, .inl (cI, 250, .inl w_og)), (gl, .inr (4, [.ref gla])), (gla, .inl (cI, 250, .inl w_li)), (gf, .inr (4, [.ref gfa])), (gfa, .inl (cI, 250, .inl w_fl))] H := hP
  have hD : va_D A [(q, .inr (2, [.ref qs, .ref qc, .ref qn, .ref qo, .ref ql, .ref qf, .int w_st, .int w_he, .int w_ta, .int cl, .int dr])), (qc, .inr (4, [.ref qca])), (qca, .inl (cI, 500, .inl cn)), (qn, .inr (4, [.ref qna])), (qna, .inl (cI, 500, .inl nx)), (qo, .inr (4, [.ref qoa])), (qoa, .inl (cI, 250, .inl og)), (ql, .inr (4, [.ref qla])), (qla, .inl (cI, 250, .inl li)), (qf, .inr (4, [.ref qfa])), (qfa, .inl (cI, 250, .inl fl)), (g, .inr (2, [.ref gs, .ref gc, .ref gn, .ref go, .ref gl, .ref gf, .int w_st, .int w_he, .int w_ta, .int w_cl, .int w_dr])), (gc, .inr (4, [.ref gca])), (gca, .inl (cI, 500, .inl w_cn)), (gn, .inr (4, [.ref gna])), (gna, .inl (cI, 500, .inl w_nx)), (go, .inr (4, [.ref goa])), (goa, .inl (cI, 250, .inl w_og)), (gl, .inr (4, [.ref gla])), (gla, .inl (cI, 250, .inl w_li)), (gf, .inr (4, [.ref gfa])), (gfa, .inl (cI, 250, .inl w_fl))] := hD
  refine lv_aload_n hx hb dX2_copyFrom_24 rfl (lv_at hl 0 rfl) ?_
  refine lv_aload_n hx hb dX2_copyFrom_25 rfl (lv_at hl 1 rfl) ?_
  refine va_get (D := D) (ci := 2) (v := .int w_cl) (C := RX2) (T := TX2) (N := 11) hx hb hts inGX2 hown hK hP 11 rfl rfl 9 (by decide) (hts _ fl_X2_43) (fun _ h9 => h9) rfl dX2_copyFrom_26 ?_
  refine va_put (D := D) (ci := 2) (v := .int w_cl) (ty := .int) (C := RX2) (T := TX2) (N := 11) hx hb hts inGX2 tyX2 tyX2_ok nmX2 hown hK hP hD hS 0 rfl rfl 9 (by decide) (hts _ fl_X2_43) (fun _ h9 => h9) rfl (by decide +kernel) rfl rfl (Nat.le_of_ble_eq_true rfl) dX2_copyFrom_29 (fun H locs hP hD hS => ?_)
  have hP : va_P D vwCl [(q, .inr (2, [.ref qs, .ref qc, .ref qn, .ref qo, .ref ql, .ref qf, .int w_st, .int w_he, .int w_ta, .int w_cl, .int dr])), (qc, .inr (4, [.ref qca])), (qca, .inl (cI, 500, .inl cn)), (qn, .inr (4, [.ref qna])), (qna, .inl (cI, 500, .inl nx)), (qo, .inr (4, [.ref qoa])), (qoa, .inl (cI, 250, .inl og)), (ql, .inr (4, [.ref qla])), (qla, .inl (cI, 250, .inl li)), (qf, .inr (4, [.ref qfa])), (qfa, .inl (cI, 250, .inl fl)), (g, .inr (2, [.ref gs, .ref gc, .ref gn, .ref go, .ref gl, .ref gf, .int w_st, .int w_he, .int w_ta, .int w_cl, .int w_dr])), (gc, .inr (4, [.ref gca])), (gca, .inl (cI, 500, .inl w_cn)), (gn, .inr (4, [.ref gna])), (gna, .inl (cI, 500, .inl w_nx)), (go, .inr (4, [.ref goa])), (goa, .inl (cI, 250, .inl w_og)), (gl, .inr (4, [.ref gla])), (gla, .inl (cI, 250, .inl w_li)), (gf, .inr (4, [.ref gfa])), (gfa, .inl (cI, 250, .inl w_fl))] H := hP
  have hD : va_D A [(q, .inr (2, [.ref qs, .ref qc, .ref qn, .ref qo, .ref ql, .ref qf, .int w_st, .int w_he, .int w_ta, .int w_cl, .int dr])), (qc, .inr (4, [.ref qca])), (qca, .inl (cI, 500, .inl cn)), (qn, .inr (4, [.ref qna])), (qna, .inl (cI, 500, .inl nx)), (qo, .inr (4, [.ref qoa])), (qoa, .inl (cI, 250, .inl og)), (ql, .inr (4, [.ref qla])), (qla, .inl (cI, 250, .inl li)), (qf, .inr (4, [.ref qfa])), (qfa, .inl (cI, 250, .inl fl)), (g, .inr (2, [.ref gs, .ref gc, .ref gn, .ref go, .ref gl, .ref gf, .int w_st, .int w_he, .int w_ta, .int w_cl, .int w_dr])), (gc, .inr (4, [.ref gca])), (gca, .inl (cI, 500, .inl w_cn)), (gn, .inr (4, [.ref gna])), (gna, .inl (cI, 500, .inl w_nx)), (go, .inr (4, [.ref goa])), (goa, .inl (cI, 250, .inl w_og)), (gl, .inr (4, [.ref gla])), (gla, .inl (cI, 250, .inl w_li)), (gf, .inr (4, [.ref gfa])), (gfa, .inl (cI, 250, .inl w_fl))] := hD
  refine lv_aload_n hx hb dX2_copyFrom_32 rfl (lv_at hl 0 rfl) ?_
  refine lv_aload_n hx hb dX2_copyFrom_33 rfl (lv_at hl 1 rfl) ?_
  refine va_get (D := D) (ci := 2) (v := .int w_dr) (C := RX2) (T := TX2) (N := 11) hx hb hts inGX2 hown hK hP 11 rfl rfl 10 (by decide) (hts _ fl_X2_46) (fun _ h9 => h9) rfl dX2_copyFrom_34 ?_
  refine va_put (D := D) (ci := 2) (v := .int w_dr) (ty := .int) (C := RX2) (T := TX2) (N := 11) hx hb hts inGX2 tyX2 tyX2_ok nmX2 hown hK hP hD hS 0 rfl rfl 10 (by decide) (hts _ fl_X2_46) (fun _ h9 => h9) rfl (by decide +kernel) rfl rfl (Nat.le_of_ble_eq_true rfl) dX2_copyFrom_37 (fun H locs hP hD hS => ?_)
  have hP : va_P D vwCl [(q, .inr (2, [.ref qs, .ref qc, .ref qn, .ref qo, .ref ql, .ref qf, .int w_st, .int w_he, .int w_ta, .int w_cl, .int w_dr])), (qc, .inr (4, [.ref qca])), (qca, .inl (cI, 500, .inl cn)), (qn, .inr (4, [.ref qna])), (qna, .inl (cI, 500, .inl nx)), (qo, .inr (4, [.ref qoa])), (qoa, .inl (cI, 250, .inl og)), (ql, .inr (4, [.ref qla])), (qla, .inl (cI, 250, .inl li)), (qf, .inr (4, [.ref qfa])), (qfa, .inl (cI, 250, .inl fl)), (g, .inr (2, [.ref gs, .ref gc, .ref gn, .ref go, .ref gl, .ref gf, .int w_st, .int w_he, .int w_ta, .int w_cl, .int w_dr])), (gc, .inr (4, [.ref gca])), (gca, .inl (cI, 500, .inl w_cn)), (gn, .inr (4, [.ref gna])), (gna, .inl (cI, 500, .inl w_nx)), (go, .inr (4, [.ref goa])), (goa, .inl (cI, 250, .inl w_og)), (gl, .inr (4, [.ref gla])), (gla, .inl (cI, 250, .inl w_li)), (gf, .inr (4, [.ref gfa])), (gfa, .inl (cI, 250, .inl w_fl))] H := hP
  have hD : va_D A [(q, .inr (2, [.ref qs, .ref qc, .ref qn, .ref qo, .ref ql, .ref qf, .int w_st, .int w_he, .int w_ta, .int w_cl, .int w_dr])), (qc, .inr (4, [.ref qca])), (qca, .inl (cI, 500, .inl cn)), (qn, .inr (4, [.ref qna])), (qna, .inl (cI, 500, .inl nx)), (qo, .inr (4, [.ref qoa])), (qoa, .inl (cI, 250, .inl og)), (ql, .inr (4, [.ref qla])), (qla, .inl (cI, 250, .inl li)), (qf, .inr (4, [.ref qfa])), (qfa, .inl (cI, 250, .inl fl)), (g, .inr (2, [.ref gs, .ref gc, .ref gn, .ref go, .ref gl, .ref gf, .int w_st, .int w_he, .int w_ta, .int w_cl, .int w_dr])), (gc, .inr (4, [.ref gca])), (gca, .inl (cI, 500, .inl w_cn)), (gn, .inr (4, [.ref gna])), (gna, .inl (cI, 500, .inl w_nx)), (go, .inr (4, [.ref goa])), (goa, .inl (cI, 250, .inl w_og)), (gl, .inr (4, [.ref gla])), (gla, .inl (cI, 250, .inl w_li)), (gf, .inr (4, [.ref gfa])), (gfa, .inl (cI, 250, .inl w_fl))] := hD
  refine lv_aload_n hx hb dX2_copyFrom_40 rfl (lv_at hl 0 rfl) ?_
  refine va_get (D := D) (ci := 2) (v := .ref qc) (C := RX2) (T := TX2) (N := 11) hx hb hts inGX2 hown hK hP 0 rfl rfl 1 (by decide) (hts _ fl_X2_14) (fun _ h9 => h9) rfl dX2_copyFrom_41 ?_
  refine lv_aload_n hx hb dX2_copyFrom_44 rfl (lv_at hl 1 rfl) ?_
  refine va_get (D := D) (ci := 2) (v := .ref gc) (C := RX2) (T := TX2) (N := 11) hx hb hts inGX2 hown hK hP 11 rfl rfl 1 (by decide) (hts _ fl_X2_14) (fun _ h9 => h9) rfl dX2_copyFrom_45 ?_
  refine lv_iconst (v := 2) hx hb dX2_copyFrom_48 (by decide) ?_
  refine lv_aload_n hx hb dX2_copyFrom_49 rfl (lv_at hl 0 rfl) ?_
  refine va_get (D := D) (ci := 2) (v := .int w_st) (C := RX2) (T := TX2) (N := 11) hx hb hts inGX2 hown hK hP 0 rfl rfl 6 (by decide) (hts _ fl_X2_61) (fun _ h9 => h9) rfl dX2_copyFrom_50 ?_
  refine lv_imul hx hb dX2_copyFrom_53 ?_
  obtain ⟨cn_1, hc_2, hf⟩ := bd1 hf
  refine k_rwVv (As := [.ref gc, .int (2 * w_st)]) (rest := []) (Wr := [(q, .inr (2, [.ref qs, .ref qc, .ref qn, .ref qo, .ref ql, .ref qf, .int w_st, .int w_he, .int w_ta, .int w_cl, .int w_dr])), (qn, .inr (4, [.ref qna])), (qna, .inl (cI, 500, .inl nx)), (qo, .inr (4, [.ref qoa])), (qoa, .inl (cI, 250, .inl og)), (ql, .inr (4, [.ref qla])), (qla, .inl (cI, 250, .inl li)), (qf, .inr (4, [.ref qfa])), (qfa, .inl (cI, 250, .inl fl)), (g, .inr (2, [.ref gs, .ref gc, .ref gn, .ref go, .ref gl, .ref gf, .int w_st, .int w_he, .int w_ta, .int w_cl, .int w_dr])), (gn, .inr (4, [.ref gna])), (gna, .inl (cI, 500, .inl w_nx)), (go, .inr (4, [.ref goa])), (goa, .inl (cI, 250, .inl w_og)), (gl, .inr (4, [.ref gla])), (gla, .inl (cI, 250, .inl w_li)), (gf, .inr (4, [.ref gfa])), (gfa, .inl (cI, 250, .inl w_fl))]) (W2 := [(q, .inr (2, [.ref qs, .ref qc, .ref qn, .ref qo, .ref ql, .ref qf, .int w_st, .int w_he, .int w_ta, .int w_cl, .int w_dr])), (qc, .inr (4, [.ref qca])), (qca, .inl (cI, 500, .inl cn_1)), (qn, .inr (4, [.ref qna])), (qna, .inl (cI, 500, .inl nx)), (qo, .inr (4, [.ref qoa])), (qoa, .inl (cI, 250, .inl og)), (ql, .inr (4, [.ref qla])), (qla, .inl (cI, 250, .inl li)), (qf, .inr (4, [.ref qfa])), (qfa, .inl (cI, 250, .inl fl)), (g, .inr (2, [.ref gs, .ref gc, .ref gn, .ref go, .ref gl, .ref gf, .int w_st, .int w_he, .int w_ta, .int w_cl, .int w_dr])), (gc, .inr (4, [.ref gca])), (gca, .inl (cI, 500, .inl w_cn)), (gn, .inr (4, [.ref gna])), (gna, .inl (cI, 500, .inl w_nx)), (go, .inr (4, [.ref goa])), (goa, .inl (cI, 250, .inl w_og)), (gl, .inr (4, [.ref gla])), (gla, .inl (cI, 250, .inl w_li)), (gf, .inr (4, [.ref gfa])), (gfa, .inl (cI, 250, .inl w_fl))]) S (c_X4_copyFrom l D cI (q := qc) (g := gc) (qa := qca) (ga := gca) (n := 500) (n2 := 500) (f := cn) (f2 := w_cn) (x2 := 2 * w_st) (hn := by decide) (hn2 := by decide) (o_f := cn_1) (hf := hc_2)) gs_X2_117 ok_X4_copyFrom ⟨rfl, rfl⟩ ⟨Nat.le_of_ble_eq_true rfl, Nat.le_of_ble_eq_true rfl⟩ hK hN hSF hP hD hS hA [1, 2, 12, 13] [0, 3, 4, 5, 6, 7, 8, 9, 10, 11, 14, 15, 16, 17, 18, 19, 20, 21] [0, 18, 19, 1, 2, 3, 4, 5, 6, 7, 8, 9, 20, 21, 10, 11, 12, 13, 14, 15, 16, 17] (by decide) rfl rfl (by decide) (by decide) rfl (by decide) rfl rfl rfl hl.1 rfl (Nat.le_of_ble_eq_true rfl) ⟨Nat.zero_le _, Nat.zero_le _⟩ dX2_copyFrom_54 (fun H locs hP hD hS => ?_)
  refine lv_aload_n hx hb dX2_copyFrom_57 rfl (lv_at hl 0 rfl) ?_
  refine va_get (D := D) (ci := 2) (v := .ref qn) (C := RX2) (T := TX2) (N := 11) hx hb hts inGX2 hown hK hP 0 rfl rfl 2 (by decide) (hts _ fl_X2_20) (fun _ h9 => h9) rfl dX2_copyFrom_58 ?_
  refine lv_aload_n hx hb dX2_copyFrom_61 rfl (lv_at hl 1 rfl) ?_
  refine va_get (D := D) (ci := 2) (v := .ref gn) (C := RX2) (T := TX2) (N := 11) hx hb hts inGX2 hown hK hP 11 rfl rfl 2 (by decide) (hts _ fl_X2_20) (fun _ h9 => h9) rfl dX2_copyFrom_62 ?_
  refine lv_iconst (v := 2) hx hb dX2_copyFrom_65 (by decide) ?_
  refine lv_aload_n hx hb dX2_copyFrom_66 rfl (lv_at hl 0 rfl) ?_
  refine va_get (D := D) (ci := 2) (v := .int w_st) (C := RX2) (T := TX2) (N := 11) hx hb hts inGX2 hown hK hP 0 rfl rfl 6 (by decide) (hts _ fl_X2_61) (fun _ h9 => h9) rfl dX2_copyFrom_67 ?_
  refine lv_imul hx hb dX2_copyFrom_70 ?_
  obtain ⟨nx_3, hc_4, hf⟩ := bd1 hf
  refine k_rwVv (As := [.ref gn, .int (2 * w_st)]) (rest := []) (Wr := [(q, .inr (2, [.ref qs, .ref qc, .ref qn, .ref qo, .ref ql, .ref qf, .int w_st, .int w_he, .int w_ta, .int w_cl, .int w_dr])), (qc, .inr (4, [.ref qca])), (qca, .inl (cI, 500, .inl cn_1)), (qo, .inr (4, [.ref qoa])), (qoa, .inl (cI, 250, .inl og)), (ql, .inr (4, [.ref qla])), (qla, .inl (cI, 250, .inl li)), (qf, .inr (4, [.ref qfa])), (qfa, .inl (cI, 250, .inl fl)), (g, .inr (2, [.ref gs, .ref gc, .ref gn, .ref go, .ref gl, .ref gf, .int w_st, .int w_he, .int w_ta, .int w_cl, .int w_dr])), (gc, .inr (4, [.ref gca])), (gca, .inl (cI, 500, .inl w_cn)), (go, .inr (4, [.ref goa])), (goa, .inl (cI, 250, .inl w_og)), (gl, .inr (4, [.ref gla])), (gla, .inl (cI, 250, .inl w_li)), (gf, .inr (4, [.ref gfa])), (gfa, .inl (cI, 250, .inl w_fl))]) (W2 := [(q, .inr (2, [.ref qs, .ref qc, .ref qn, .ref qo, .ref ql, .ref qf, .int w_st, .int w_he, .int w_ta, .int w_cl, .int w_dr])), (qc, .inr (4, [.ref qca])), (qca, .inl (cI, 500, .inl cn_1)), (qn, .inr (4, [.ref qna])), (qna, .inl (cI, 500, .inl nx_3)), (qo, .inr (4, [.ref qoa])), (qoa, .inl (cI, 250, .inl og)), (ql, .inr (4, [.ref qla])), (qla, .inl (cI, 250, .inl li)), (qf, .inr (4, [.ref qfa])), (qfa, .inl (cI, 250, .inl fl)), (g, .inr (2, [.ref gs, .ref gc, .ref gn, .ref go, .ref gl, .ref gf, .int w_st, .int w_he, .int w_ta, .int w_cl, .int w_dr])), (gc, .inr (4, [.ref gca])), (gca, .inl (cI, 500, .inl w_cn)), (gn, .inr (4, [.ref gna])), (gna, .inl (cI, 500, .inl w_nx)), (go, .inr (4, [.ref goa])), (goa, .inl (cI, 250, .inl w_og)), (gl, .inr (4, [.ref gla])), (gla, .inl (cI, 250, .inl w_li)), (gf, .inr (4, [.ref gfa])), (gfa, .inl (cI, 250, .inl w_fl))]) S (c_X4_copyFrom l D cI (q := qn) (g := gn) (qa := qna) (ga := gna) (n := 500) (n2 := 500) (f := nx) (f2 := w_nx) (x2 := 2 * w_st) (hn := by decide) (hn2 := by decide) (o_f := nx_3) (hf := hc_4)) gs_X2_117 ok_X4_copyFrom ⟨rfl, rfl⟩ ⟨Nat.le_of_ble_eq_true rfl, Nat.le_of_ble_eq_true rfl⟩ hK hN hSF hP hD hS hA [3, 4, 14, 15] [0, 1, 2, 5, 6, 7, 8, 9, 10, 11, 12, 13, 16, 17, 18, 19, 20, 21] [0, 1, 2, 18, 19, 3, 4, 5, 6, 7, 8, 9, 10, 11, 20, 21, 12, 13, 14, 15, 16, 17] (by decide) rfl rfl (by decide) (by decide) rfl (by decide) rfl rfl rfl hl.1 rfl (Nat.le_of_ble_eq_true rfl) ⟨Nat.zero_le _, Nat.zero_le _⟩ dX2_copyFrom_71 (fun H locs hP hD hS => ?_)
  refine lv_aload_n hx hb dX2_copyFrom_74 rfl (lv_at hl 0 rfl) ?_
  refine va_get (D := D) (ci := 2) (v := .ref qo) (C := RX2) (T := TX2) (N := 11) hx hb hts inGX2 hown hK hP 0 rfl rfl 3 (by decide) (hts _ fl_X2_23) (fun _ h9 => h9) rfl dX2_copyFrom_75 ?_
  refine lv_aload_n hx hb dX2_copyFrom_78 rfl (lv_at hl 1 rfl) ?_
  refine va_get (D := D) (ci := 2) (v := .ref go) (C := RX2) (T := TX2) (N := 11) hx hb hts inGX2 hown hK hP 11 rfl rfl 3 (by decide) (hts _ fl_X2_23) (fun _ h9 => h9) rfl dX2_copyFrom_79 ?_
  refine lv_aload_n hx hb dX2_copyFrom_82 rfl (lv_at hl 0 rfl) ?_
  refine va_get (D := D) (ci := 2) (v := .int w_st) (C := RX2) (T := TX2) (N := 11) hx hb hts inGX2 hown hK hP 0 rfl rfl 6 (by decide) (hts _ fl_X2_61) (fun _ h9 => h9) rfl dX2_copyFrom_83 ?_
  obtain ⟨og_5, hc_6, hf⟩ := bd1 hf
  refine k_rwVv (As := [.ref go, .int w_st]) (rest := []) (Wr := [(q, .inr (2, [.ref qs, .ref qc, .ref qn, .ref qo, .ref ql, .ref qf, .int w_st, .int w_he, .int w_ta, .int w_cl, .int w_dr])), (qc, .inr (4, [.ref qca])), (qca, .inl (cI, 500, .inl cn_1)), (qn, .inr (4, [.ref qna])), (qna, .inl (cI, 500, .inl nx_3)), (ql, .inr (4, [.ref qla])), (qla, .inl (cI, 250, .inl li)), (qf, .inr (4, [.ref qfa])), (qfa, .inl (cI, 250, .inl fl)), (g, .inr (2, [.ref gs, .ref gc, .ref gn, .ref go, .ref gl, .ref gf, .int w_st, .int w_he, .int w_ta, .int w_cl, .int w_dr])), (gc, .inr (4, [.ref gca])), (gca, .inl (cI, 500, .inl w_cn)), (gn, .inr (4, [.ref gna])), (gna, .inl (cI, 500, .inl w_nx)), (gl, .inr (4, [.ref gla])), (gla, .inl (cI, 250, .inl w_li)), (gf, .inr (4, [.ref gfa])), (gfa, .inl (cI, 250, .inl w_fl))]) (W2 := [(q, .inr (2, [.ref qs, .ref qc, .ref qn, .ref qo, .ref ql, .ref qf, .int w_st, .int w_he, .int w_ta, .int w_cl, .int w_dr])), (qc, .inr (4, [.ref qca])), (qca, .inl (cI, 500, .inl cn_1)), (qn, .inr (4, [.ref qna])), (qna, .inl (cI, 500, .inl nx_3)), (qo, .inr (4, [.ref qoa])), (qoa, .inl (cI, 250, .inl og_5)), (ql, .inr (4, [.ref qla])), (qla, .inl (cI, 250, .inl li)), (qf, .inr (4, [.ref qfa])), (qfa, .inl (cI, 250, .inl fl)), (g, .inr (2, [.ref gs, .ref gc, .ref gn, .ref go, .ref gl, .ref gf, .int w_st, .int w_he, .int w_ta, .int w_cl, .int w_dr])), (gc, .inr (4, [.ref gca])), (gca, .inl (cI, 500, .inl w_cn)), (gn, .inr (4, [.ref gna])), (gna, .inl (cI, 500, .inl w_nx)), (go, .inr (4, [.ref goa])), (goa, .inl (cI, 250, .inl w_og)), (gl, .inr (4, [.ref gla])), (gla, .inl (cI, 250, .inl w_li)), (gf, .inr (4, [.ref gfa])), (gfa, .inl (cI, 250, .inl w_fl))]) S (c_X4_copyFrom l D cI (q := qo) (g := go) (qa := qoa) (ga := goa) (n := 250) (n2 := 250) (f := og) (f2 := w_og) (x2 := w_st) (hn := by decide) (hn2 := by decide) (o_f := og_5) (hf := hc_6)) gs_X2_117 ok_X4_copyFrom ⟨rfl, rfl⟩ ⟨Nat.le_of_ble_eq_true rfl, Nat.le_of_ble_eq_true rfl⟩ hK hN hSF hP hD hS hA [5, 6, 16, 17] [0, 1, 2, 3, 4, 7, 8, 9, 10, 11, 12, 13, 14, 15, 18, 19, 20, 21] [0, 1, 2, 3, 4, 18, 19, 5, 6, 7, 8, 9, 10, 11, 12, 13, 20, 21, 14, 15, 16, 17] (by decide) rfl rfl (by decide) (by decide) rfl (by decide) rfl rfl rfl hl.1 rfl (Nat.le_of_ble_eq_true rfl) ⟨Nat.zero_le _, Nat.zero_le _⟩ dX2_copyFrom_86 (fun H locs hP hD hS => ?_)
  refine lv_aload_n hx hb dX2_copyFrom_89 rfl (lv_at hl 0 rfl) ?_
  refine va_get (D := D) (ci := 2) (v := .ref ql) (C := RX2) (T := TX2) (N := 11) hx hb hts inGX2 hown hK hP 0 rfl rfl 4 (by decide) (hts _ fl_X2_26) (fun _ h9 => h9) rfl dX2_copyFrom_90 ?_
  refine lv_aload_n hx hb dX2_copyFrom_93 rfl (lv_at hl 1 rfl) ?_
  refine va_get (D := D) (ci := 2) (v := .ref gl) (C := RX2) (T := TX2) (N := 11) hx hb hts inGX2 hown hK hP 11 rfl rfl 4 (by decide) (hts _ fl_X2_26) (fun _ h9 => h9) rfl dX2_copyFrom_94 ?_
  refine lv_aload_n hx hb dX2_copyFrom_97 rfl (lv_at hl 0 rfl) ?_
  refine va_get (D := D) (ci := 2) (v := .int w_st) (C := RX2) (T := TX2) (N := 11) hx hb hts inGX2 hown hK hP 0 rfl rfl 6 (by decide) (hts _ fl_X2_61) (fun _ h9 => h9) rfl dX2_copyFrom_98 ?_
  obtain ⟨li_7, hc_8, hf⟩ := bd1 hf
  refine k_rwVv (As := [.ref gl, .int w_st]) (rest := []) (Wr := [(q, .inr (2, [.ref qs, .ref qc, .ref qn, .ref qo, .ref ql, .ref qf, .int w_st, .int w_he, .int w_ta, .int w_cl, .int w_dr])), (qc, .inr (4, [.ref qca])), (qca, .inl (cI, 500, .inl cn_1)), (qn, .inr (4, [.ref qna])), (qna, .inl (cI, 500, .inl nx_3)), (qo, .inr (4, [.ref qoa])), (qoa, .inl (cI, 250, .inl og_5)), (qf, .inr (4, [.ref qfa])), (qfa, .inl (cI, 250, .inl fl)), (g, .inr (2, [.ref gs, .ref gc, .ref gn, .ref go, .ref gl, .ref gf, .int w_st, .int w_he, .int w_ta, .int w_cl, .int w_dr])), (gc, .inr (4, [.ref gca])), (gca, .inl (cI, 500, .inl w_cn)), (gn, .inr (4, [.ref gna])), (gna, .inl (cI, 500, .inl w_nx)), (go, .inr (4, [.ref goa])), (goa, .inl (cI, 250, .inl w_og)), (gf, .inr (4, [.ref gfa])), (gfa, .inl (cI, 250, .inl w_fl))]) (W2 := [(q, .inr (2, [.ref qs, .ref qc, .ref qn, .ref qo, .ref ql, .ref qf, .int w_st, .int w_he, .int w_ta, .int w_cl, .int w_dr])), (qc, .inr (4, [.ref qca])), (qca, .inl (cI, 500, .inl cn_1)), (qn, .inr (4, [.ref qna])), (qna, .inl (cI, 500, .inl nx_3)), (qo, .inr (4, [.ref qoa])), (qoa, .inl (cI, 250, .inl og_5)), (ql, .inr (4, [.ref qla])), (qla, .inl (cI, 250, .inl li_7)), (qf, .inr (4, [.ref qfa])), (qfa, .inl (cI, 250, .inl fl)), (g, .inr (2, [.ref gs, .ref gc, .ref gn, .ref go, .ref gl, .ref gf, .int w_st, .int w_he, .int w_ta, .int w_cl, .int w_dr])), (gc, .inr (4, [.ref gca])), (gca, .inl (cI, 500, .inl w_cn)), (gn, .inr (4, [.ref gna])), (gna, .inl (cI, 500, .inl w_nx)), (go, .inr (4, [.ref goa])), (goa, .inl (cI, 250, .inl w_og)), (gl, .inr (4, [.ref gla])), (gla, .inl (cI, 250, .inl w_li)), (gf, .inr (4, [.ref gfa])), (gfa, .inl (cI, 250, .inl w_fl))]) S (c_X4_copyFrom l D cI (q := ql) (g := gl) (qa := qla) (ga := gla) (n := 250) (n2 := 250) (f := li) (f2 := w_li) (x2 := w_st) (hn := by decide) (hn2 := by decide) (o_f := li_7) (hf := hc_8)) gs_X2_117 ok_X4_copyFrom ⟨rfl, rfl⟩ ⟨Nat.le_of_ble_eq_true rfl, Nat.le_of_ble_eq_true rfl⟩ hK hN hSF hP hD hS hA [7, 8, 18, 19] [0, 1, 2, 3, 4, 5, 6, 9, 10, 11, 12, 13, 14, 15, 16, 17, 20, 21] [0, 1, 2, 3, 4, 5, 6, 18, 19, 7, 8, 9, 10, 11, 12, 13, 14, 15, 20, 21, 16, 17] (by decide) rfl rfl (by decide) (by decide) rfl (by decide) rfl rfl rfl hl.1 rfl (Nat.le_of_ble_eq_true rfl) ⟨Nat.zero_le _, Nat.zero_le _⟩ dX2_copyFrom_101 (fun H locs hP hD hS => ?_)
  obtain ⟨e_0, e_r⟩ := Prod.mk.inj (Option.some.inj hf)
  obtain ⟨e_1, e_r⟩ := Prod.mk.inj (e_r)
  obtain ⟨e_2, e_r⟩ := Prod.mk.inj (e_r)
  obtain ⟨e_3, e_r⟩ := Prod.mk.inj (e_r)
  obtain ⟨e_4, e_r⟩ := Prod.mk.inj (e_r)
  obtain ⟨e_5, e_r⟩ := Prod.mk.inj (e_r)
  obtain ⟨e_6, e_r⟩ := Prod.mk.inj (e_r)
  obtain ⟨e_7, e_8⟩ := Prod.mk.inj (e_r)
  subst e_0
  subst e_1
  subst e_2
  subst e_3
  subst e_4
  subst e_5
  subst e_6
  subst e_7
  subst e_8
  exact k_wretv hx hb hret hloc hP hD hS dX2_copyFrom_104
