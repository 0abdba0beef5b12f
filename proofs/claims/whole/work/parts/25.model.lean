theorem dX9_likelyBit_0 : decode cX9_likelyBit 0 = .ok (.aload_n 0, 1) := by decide +kernel
theorem dX9_likelyBit_1 : decode cX9_likelyBit 1 = .ok (.getfield 7, 3) := by decide +kernel
theorem dX9_likelyBit_4 : decode cX9_likelyBit 4 = .ok (.bipush 10, 2) := by decide +kernel
theorem dX9_likelyBit_6 : decode cX9_likelyBit 6 = .ok (.iconst 2, 1) := by decide +kernel
theorem dX9_likelyBit_7 : decode cX9_likelyBit 7 = .ok (.iload_n 1, 1) := by decide +kernel
theorem dX9_likelyBit_8 : decode cX9_likelyBit 8 = .ok (.imul, 1) := by decide +kernel
theorem dX9_likelyBit_9 : decode cX9_likelyBit 9 = .ok (.iadd, 1) := by decide +kernel
theorem dX9_likelyBit_10 : decode cX9_likelyBit 10 = .ok (.iconst 1, 1) := by decide +kernel
theorem dX9_likelyBit_11 : decode cX9_likelyBit 11 = .ok (.iadd, 1) := by decide +kernel
theorem dX9_likelyBit_12 : decode cX9_likelyBit 12 = .ok (.iaload, 1) := by decide +kernel
theorem dX9_likelyBit_13 : decode cX9_likelyBit 13 = .ok (.aload_n 0, 1) := by decide +kernel
theorem dX9_likelyBit_14 : decode cX9_likelyBit 14 = .ok (.getfield 7, 3) := by decide +kernel
theorem dX9_likelyBit_17 : decode cX9_likelyBit 17 = .ok (.bipush 10, 2) := by decide +kernel
theorem dX9_likelyBit_19 : decode cX9_likelyBit 19 = .ok (.iconst 2, 1) := by decide +kernel
theorem dX9_likelyBit_20 : decode cX9_likelyBit 20 = .ok (.iload_n 1, 1) := by decide +kernel
theorem dX9_likelyBit_21 : decode cX9_likelyBit 21 = .ok (.imul, 1) := by decide +kernel
theorem dX9_likelyBit_22 : decode cX9_likelyBit 22 = .ok (.iadd, 1) := by decide +kernel
theorem dX9_likelyBit_23 : decode cX9_likelyBit 23 = .ok (.iaload, 1) := by decide +kernel
theorem dX9_likelyBit_24 : decode cX9_likelyBit 24 = .ok (.if_icmp .le 7, 3) := by decide +kernel
theorem dX9_likelyBit_27 : decode cX9_likelyBit 27 = .ok (.iconst 1, 1) := by decide +kernel
theorem dX9_likelyBit_28 : decode cX9_likelyBit 28 = .ok (.goto 4, 3) := by decide +kernel
theorem dX9_likelyBit_31 : decode cX9_likelyBit 31 = .ok (.iconst 0, 1) := by decide +kernel
theorem dX9_likelyBit_32 : decode cX9_likelyBit 32 = .ok (.ireturn, 1) := by decide +kernel
def f_X9_likelyBit (mm : (Nat → Int32)) (x1 : Int32) : Option (Int32) := if ((10 + (2 * x1)) + 1) < 0 ∨ 5040 ≤ ((10 + (2 * x1)) + 1).toNatClampNeg then none else (if (10 + (2 * x1)) < 0 ∨ 5040 ≤ (10 + (2 * x1)).toNatClampNeg then none else (if (mm ((10 + (2 * x1)) + 1).toNatClampNeg) ≤ (mm (10 + (2 * x1)).toNatClampNeg) then (some (0 : Int32)) else (some (1 : Int32))))
set_option maxHeartbeats 4000000 in
set_option maxRecDepth 100000 in
theorem c_X9_likelyBit (l : Launch) (D : va_G) (cI : ClassId) (q : Nat) (qm : Nat) (qi : Nat) (qp : Nat) (qo : Nat) (qg : Nat) (kept : Int32) (im : Int32) (pm : Int32) (om : Int32) (lo : Int64) (hi_ : Int64) (cde : Int64) (fr : Int32) (sp : Int32) (mm : (Nat → Int32)) (inp : (Nat → Int32)) (pk : (Nat → Int32)) (out : (Nat → Int32)) (gr : (Nat → Int32)) (x1 : Int32) (r : Int32) (hf : f_X9_likelyBit mm x1 = some r) : Met l yX9_likelyBit (.code yX9_likelyBit cX9_likelyBit 2 (some .int) :: wsG) ({ frames := 0, cells := 0, slots := 0, locals := 0 }) (va_Pc [.ref q, .int x1] (gw D cI [(q, .inr (9, [.ref qm, .int kept, .ref qi, .int im, .ref qp, .int pm, .ref qo, .int om, .ref qg, .long lo, .long hi_, .long cde, .int fr, .int sp])), (qm, .inl (cI, 5040, .inl mm)), (qi, .inl (cI, 60, .inl inp)), (qp, .inl (cI, 2000, .inl pk)), (qo, .inl (cI, 60, .inl out)), (qg, .inl (cI, 6, .inl gr))])) (vp_Si (fun x => x = r)) 0 0 (fun _ => False) := by
  refine k_ro (by decide) rfl (Nat.le_of_ble_eq_true rfl) rfl ?_
  intro p e s m below meth c ls S hret hloc hK hN hSF hP hl
  obtain ⟨hx, hb, hml, hown, hts⟩ := id S
  unfold f_X9_likelyBit at hf
  refine lv_aload_n hx hb dX9_likelyBit_0 rfl (lv_at hl 0 rfl) ?_
  refine va_get (D := D) (ci := 9) (v := .ref qm) (C := RX9) (T := TX9) (N := 14) hx hb hts inGX9 hown hK hP 0 rfl rfl 0 (by decide) (hts _ fl_X9_7) (fun _ h9 => h9) rfl dX9_likelyBit_1 ?_
  refine lv_bipush (v := 10) hx hb dX9_likelyBit_4 (by decide) ?_
  refine lv_iconst (v := 2) hx hb dX9_likelyBit_6 (by decide) ?_
  refine lv_iload_n hx hb dX9_likelyBit_7 rfl (lv_at hl 1 rfl) ?_
  refine lv_imul hx hb dX9_likelyBit_8 ?_
  refine lv_iadd hx hb dX9_likelyBit_9 ?_
  refine lv_iconst (v := 1) hx hb dX9_likelyBit_10 (by decide) ?_
  refine lv_iadd hx hb dX9_likelyBit_11 ?_
  have b_1 : ¬ (((10 + (2 * x1)) + 1) < 0 ∨ 5040 ≤ ((10 + (2 * x1)) + 1).toNatClampNeg) := fun q => by rw [if_pos q] at hf; cases hf
  rw [if_neg b_1] at hf
  refine va_iald hx hb hK hP 1 0 rfl rfl b_1 dX9_likelyBit_12 ?_
  refine lv_aload_n hx hb dX9_likelyBit_13 rfl (lv_at hl 0 rfl) ?_
  refine va_get (D := D) (ci := 9) (v := .ref qm) (C := RX9) (T := TX9) (N := 14) hx hb hts inGX9 hown hK hP 0 rfl rfl 0 (by decide) (hts _ fl_X9_7) (fun _ h9 => h9) rfl dX9_likelyBit_14 ?_
  refine lv_bipush (v := 10) hx hb dX9_likelyBit_17 (by decide) ?_
  refine lv_iconst (v := 2) hx hb dX9_likelyBit_19 (by decide) ?_
  refine lv_iload_n hx hb dX9_likelyBit_20 rfl (lv_at hl 1 rfl) ?_
  refine lv_imul hx hb dX9_likelyBit_21 ?_
  refine lv_iadd hx hb dX9_likelyBit_22 ?_
  have b_2 : ¬ ((10 + (2 * x1)) < 0 ∨ 5040 ≤ (10 + (2 * x1)).toNatClampNeg) := fun q => by rw [if_pos q] at hf; cases hf
  rw [if_neg b_2] at hf
  refine va_iald hx hb hK hP 1 0 rfl rfl b_2 dX9_likelyBit_23 ?_
  refine lv_icmp_le (tgt := 31) hx hb dX9_likelyBit_24 (by decide) (fun c_3 => ?_) (fun c_3 => ?_)
  · rw [if_pos c_3] at hf
    refine lv_iconst (v := 0) hx hb dX9_likelyBit_31 (by decide) ?_
    exact k_reti hx hb hret hloc (Option.some.inj hf) dX9_likelyBit_32
  · rw [if_neg c_3] at hf
    refine lv_iconst (v := 1) hx hb dX9_likelyBit_27 (by decide) ?_
    refine lv_goto (tgt := 32) hx hb dX9_likelyBit_28 (by decide) ?_
    exact k_reti hx hb hret hloc (Option.some.inj hf) dX9_likelyBit_32
theorem dX9_likely_0 : decode cX9_likely 0 = .ok (.iload_n 1, 1) := by decide +kernel
theorem dX9_likely_1 : decode cX9_likely 1 = .ok (.i2l, 1) := by decide +kernel
theorem dX9_likely_2 : decode cX9_likely 2 = .ok (.lconst 0, 1) := by decide +kernel
theorem dX9_likely_3 : decode cX9_likely 3 = .ok (.ldc2_w 122, 3) := by decide +kernel
theorem dX9_likely_6 : decode cX9_likely 6 = .ok (.invokestatic 46, 3) := by decide +kernel
theorem dX9_likely_9 : decode cX9_likely 9 = .ok (.ifCond .ne 5, 3) := by decide +kernel
theorem dX9_likely_12 : decode cX9_likely 12 = .ok (.iconst (-1), 1) := by decide +kernel
theorem dX9_likely_13 : decode cX9_likely 13 = .ok (.ireturn, 1) := by decide +kernel
theorem dX9_likely_14 : decode cX9_likely 14 = .ok (.aload_n 0, 1) := by decide +kernel
theorem dX9_likely_15 : decode cX9_likely 15 = .ok (.getfield 7, 3) := by decide +kernel
theorem dX9_likely_18 : decode cX9_likely 18 = .ok (.iconst 1, 1) := by decide +kernel
theorem dX9_likely_19 : decode cX9_likely 19 = .ok (.iaload, 1) := by decide +kernel
theorem dX9_likely_20 : decode cX9_likely 20 = .ok (.istore_n 2, 1) := by decide +kernel
theorem dX9_likely_21 : decode cX9_likely 21 = .ok (.iconst 0, 1) := by decide +kernel
theorem dX9_likely_22 : decode cX9_likely 22 = .ok (.istore_n 3, 1) := by decide +kernel
theorem dX9_likely_23 : decode cX9_likely 23 = .ok (.iload_n 3, 1) := by decide +kernel
theorem dX9_likely_24 : decode cX9_likely 24 = .ok (.iload_n 1, 1) := by decide +kernel
theorem dX9_likely_25 : decode cX9_likely 25 = .ok (.if_icmp .ge 28, 3) := by decide +kernel
theorem dX9_likely_28 : decode cX9_likely 28 = .ok (.aload_n 0, 1) := by decide +kernel
theorem dX9_likely_29 : decode cX9_likely 29 = .ok (.getfield 7, 3) := by decide +kernel
theorem dX9_likely_32 : decode cX9_likely 32 = .ok (.sipush 510, 3) := by decide +kernel
theorem dX9_likely_35 : decode cX9_likely 35 = .ok (.iconst 2, 1) := by decide +kernel
theorem dX9_likely_36 : decode cX9_likely 36 = .ok (.iload_n 2, 1) := by decide +kernel
theorem dX9_likely_37 : decode cX9_likely 37 = .ok (.imul, 1) := by decide +kernel
theorem dX9_likely_38 : decode cX9_likely 38 = .ok (.iadd, 1) := by decide +kernel
theorem dX9_likely_39 : decode cX9_likely 39 = .ok (.aload_n 0, 1) := by decide +kernel
theorem dX9_likely_40 : decode cX9_likely 40 = .ok (.iload_n 2, 1) := by decide +kernel
theorem dX9_likely_41 : decode cX9_likely 41 = .ok (.invokevirtual 124, 3) := by decide +kernel
theorem dX9_likely_44 : decode cX9_likely 44 = .ok (.iadd, 1) := by decide +kernel
theorem dX9_likely_45 : decode cX9_likely 45 = .ok (.iaload, 1) := by decide +kernel
theorem dX9_likely_46 : decode cX9_likely 46 = .ok (.istore_n 2, 1) := by decide +kernel
theorem dX9_likely_47 : decode cX9_likely 47 = .ok (.iinc 3 1, 3) := by decide +kernel
theorem dX9_likely_50 : decode cX9_likely 50 = .ok (.goto (-27), 3) := by decide +kernel
theorem dX9_likely_53 : decode cX9_likely 53 = .ok (.iload_n 2, 1) := by decide +kernel
theorem dX9_likely_54 : decode cX9_likely 54 = .ok (.ireturn, 1) := by decide +kernel
theorem ok_X9_likelyBit : okV yX9_likelyBit RX9 1 := by decide +kernel
theorem gs_X9_124 : GoodIn wsG (wsV RX9 124 RX9 yX9_likelyBit (.code yX9_likelyBit cX9_likelyBit 2 (some .int) :: wsG)) := good_V ml_X9_124 im_X9_likelyBit se_X9_likelyBit ini_X9 co_X9_likelyBit
def st_X9_likely_L23 (v1 : Int32) (mm : (Nat → Int32)) (v2 : Int32) (v3 : Int32) : Option ((Int32 × Int32) ⊕ (Int32 × Int32)) := if v1 ≤ v3 then (some (Sum.inr (v2, v3))) else (bi1 (f_X9_likelyBit mm v2) (fun (r_4 : Int32) => if ((510 + (2 * v2)) + r_4) < 0 ∨ 5040 ≤ ((510 + (2 * v2)) + r_4).toNatClampNeg then none else (some (Sum.inl (mm ((510 + (2 * v2)) + r_4).toNatClampNeg, v3 + 1)))))
def f_X9_likely_L23 (v1 : Int32) (mm : (Nat → Int32)) (k : Nat) (v2 : Int32) (v3 : Int32) : Option (Int32 × Int32) := lpN (fun z => st_X9_likely_L23 v1 mm z.1 z.2) k (v2, v3)
set_option maxHeartbeats 4000000 in
set_option maxRecDepth 100000 in
theorem L_X9_likely_23 {p : Program} {l : Launch} {e : Env} {s : State} {m : MethodId} {args : Array Value} {below : List Frame} {meth : Method} {c : Code} {Q : State → Prop} {D : va_G} {cI : ClassId} {q : Nat} {qm : Nat} {qi : Nat} {qp : Nat} {qo : Nat} {qg : Nat} {v1 : Int32} {kept : Int32} {im : Int32} {pm : Int32} {om : Int32} {lo : Int64} {hi_ : Int64} {cde : Int64} {fr : Int32} {sp : Int32} {mm : (Nat → Int32)} {inp : (Nat → Int32)} {pk : (Nat → Int32)} {out : (Nat → Int32)} {gr : (Nat → Int32)} (S : CallFix p m c cX9_likely 4 s args wsG RX9) (hK : va_K D vwCl [(cI, .int)] s) (hN : nw s) (hSF : sf (fun _ => False) s s.heap) : ∀ (k : Nat) (v2 : Int32) (v3 : Int32) (o_v2 : Int32) (o_v3 : Int32), f_X9_likely_L23 v1 mm k v2 v3 = some (o_v2, o_v3) → ∀ (ls : Array Slot), va_P D vwCl [(q, .inr (9, [.ref qm, .int kept, .ref qi, .int im, .ref qp, .int pm, .ref qo, .int om, .ref qg, .long lo, .long hi_, .long cde, .int fr, .int sp])), (qm, .inl (cI, 5040, .inl mm)), (qi, .inl (cI, 60, .inl inp)), (qp, .inl (cI, 2000, .inl pk)), (qo, .inl (cI, 60, .inl out)), (qg, .inl (cI, 6, .inl gr))] s.heap → lv_has ls 4 [(0, .ref q), (1, .int v1), (2, .int v2), (3, .int v3)] → (∀ (ls : Array Slot), lv_has ls 4 [(0, .ref q), (1, .int v1), (2, .int o_v2), (3, .int o_v3)] → W p l e (headSpec (.code yX9_likely cX9_likely 4 (some .int) :: wsG) { frames := 1, cells := 0, slots := 0, locals := 25 }).room s m args below meth c s.heap [] 0 0 Q (F0 m 53 ls [])) → W p l e (headSpec (.code yX9_likely cX9_likely 4 (some .int) :: wsG) { frames := 1, cells := 0, slots := 0, locals := 25 }).room s m args below meth c s.heap [] 0 0 Q (F0 m 23 ls []) := by
  obtain ⟨hx, hb, hml, hown, hts⟩ := id S
  intro k
  induction k with
  | zero =>
    intro v2 v3 o_v2 o_v3 hf
    cases hf
  | succ k ih =>
    intro v2 v3 o_v2 o_v3 hf ls hP hl kk
    obtain ⟨z, hf, hz⟩ := lp_inv hf
    have hf : st_X9_likely_L23 v1 mm v2 v3 = some z := hf
    unfold st_X9_likely_L23 at hf
    refine lv_iload_n hx hb dX9_likely_23 rfl (lv_at hl 3 rfl) ?_
    refine lv_iload_n hx hb dX9_likely_24 rfl (lv_at hl 1 rfl) ?_
    refine lv_icmp_ge (tgt := 53) hx hb dX9_likely_25 (by decide) (fun c_3 => ?_) (fun c_3 => ?_)
    · rw [if_pos c_3] at hf
      have hf := Option.some.inj hf
      subst hf
      obtain ⟨e_0, e_1⟩ := Prod.mk.inj (lpC_r hz)
      subst e_0
      subst e_1
      exact kk ls (lv_sub hl [0, 1, 2, 3] rfl)
    · rw [if_neg c_3] at hf
      refine lv_aload_n hx hb dX9_likely_28 rfl (lv_at hl 0 rfl) ?_
      refine va_get (D := D) (ci := 9) (v := .ref qm) (C := RX9) (T := TX9) (N := 14) hx hb hts inGX9 hown hK hP 0 rfl rfl 0 (by decide) (hts _ fl_X9_7) (fun _ h9 => h9) rfl dX9_likely_29 ?_
      refine lv_sipush (v := 510) hx hb dX9_likely_32 (by decide) ?_
      refine lv_iconst (v := 2) hx hb dX9_likely_35 (by decide) ?_
      refine lv_iload_n hx hb dX9_likely_36 rfl (lv_at hl 2 rfl) ?_
      refine lv_imul hx hb dX9_likely_37 ?_
      refine lv_iadd hx hb dX9_likely_38 ?_
      refine lv_aload_n hx hb dX9_likely_39 rfl (lv_at hl 0 rfl) ?_
      refine lv_iload_n hx hb dX9_likely_40 rfl (lv_at hl 2 rfl) ?_
      obtain ⟨r_4, hc_5, hf⟩ := bd1 hf
      refine k_roVi (As := [.int v2]) (rest := [.int (510 + (2 * v2)), .ref qm]) S (c_X9_likelyBit l D cI (q := q) (qm := qm) (qi := qi) (qp := qp) (qo := qo) (qg := qg) (kept := kept) (im := im) (pm := pm) (om := om) (lo := lo) (hi_ := hi_) (cde := cde) (fr := fr) (sp := sp) (mm := mm) (inp := inp) (pk := pk) (out := out) (gr := gr) (x1 := v2)  (r := r_4) (hf := hc_5)) gs_X9_124 ok_X9_likelyBit ⟨rfl, rfl⟩ ⟨Nat.le_of_ble_eq_true rfl, Nat.le_of_ble_eq_true rfl⟩ hK hN hSF hP rfl rfl rfl hl.1 rfl (Nat.le_of_ble_eq_true rfl) ⟨Nat.zero_le _, Nat.zero_le _⟩ dX9_likely_41 ?_
      refine lv_iadd hx hb dX9_likely_44 ?_
      have b_6 : ¬ (((510 + (2 * v2)) + r_4) < 0 ∨ 5040 ≤ ((510 + (2 * v2)) + r_4).toNatClampNeg) := fun q => by rw [if_pos q] at hf; cases hf
      rw [if_neg b_6] at hf
      refine va_iald hx hb hK hP 1 0 rfl rfl b_6 dX9_likely_45 ?_
      refine lv_istore_n (lv' := [(2, .int (mm ((510 + (2 * v2)) + r_4).toNatClampNeg)), (0, .ref q), (1, .int v1), (3, .int v3)]) hx hb dX9_likely_46 rfl hl (by decide) rfl (fun ls hl => ?_)
      refine lv_iinc (v := v3 + 1) (lv' := [(3, .int (v3 + 1)), (2, .int (mm ((510 + (2 * v2)) + r_4).toNatClampNeg)), (0, .ref q), (1, .int v1)]) hx hb dX9_likely_47 hl (k := 3) rfl rfl (by decide) rfl (fun ls hl => ?_)
      refine lv_goto (tgt := 23) hx hb dX9_likely_50 (by decide) ?_
      have hf := Option.some.inj hf
      subst hf
      exact ih (mm ((510 + (2 * v2)) + r_4).toNatClampNeg) (v3 + 1) _ _ hz ls hP (lv_sub hl [2, 3, 1, 0] rfl) kk
def f_X9_likely (mm : (Nat → Int32)) (x1 : Int32) : Option (Int32) := if (f_X9_in ((x1).toInt64) (0 : Int64) (64 : Int64)) = 0 then (some (-1 : Int32)) else (if (1 : Int32) < 0 ∨ 5040 ≤ ((1 : Int32)).toNatClampNeg then none else (bi2 (f_X9_likely_L23 x1 mm 4096 (mm ((1 : Int32)).toNatClampNeg) 0) (fun (v2_7 : Int32) (v3_8 : Int32) => some v2_7)))
set_option maxHeartbeats 4000000 in
set_option maxRecDepth 100000 in
theorem c_X9_likely (l : Launch) (D : va_G) (cI : ClassId) (q : Nat) (qm : Nat) (qi : Nat) (qp : Nat) (qo : Nat) (qg : Nat) (kept : Int32) (im : Int32) (pm : Int32) (om : Int32) (lo : Int64) (hi_ : Int64) (cde : Int64) (fr : Int32) (sp : Int32) (mm : (Nat → Int32)) (inp : (Nat → Int32)) (pk : (Nat → Int32)) (out : (Nat → Int32)) (gr : (Nat → Int32)) (x1 : Int32) (r : Int32) (hf : f_X9_likely mm x1 = some r) : Met l yX9_likely (.code yX9_likely cX9_likely 4 (some .int) :: wsG) ({ frames := 1, cells := 0, slots := 0, locals := 25 }) (va_Pc [.ref q, .int x1] (gw D cI [(q, .inr (9, [.ref qm, .int kept, .ref qi, .int im, .ref qp, .int pm, .ref qo, .int om, .ref qg, .long lo, .long hi_, .long cde, .int fr, .int sp])), (qm, .inl (cI, 5040, .inl mm)), (qi, .inl (cI, 60, .inl inp)), (qp, .inl (cI, 2000, .inl pk)), (qo, .inl (cI, 60, .inl out)), (qg, .inl (cI, 6, .inl gr))])) (vp_Si (fun x => x = r)) 0 0 (fun _ => False) := by
  refine k_ro (by decide) rfl (Nat.le_of_ble_eq_true rfl) rfl ?_
  intro p e s m below meth c ls S hret hloc hK hN hSF hP hl
  obtain ⟨hx, hb, hml, hown, hts⟩ := id S
  unfold f_X9_likely at hf
  refine lv_iload_n hx hb dX9_likely_0 rfl (lv_at hl 1 rfl) ?_
  refine lv_i2l hx hb dX9_likely_1 rfl ?_
  refine lv_lconst (v := 0) hx hb dX9_likely_2 (by decide) ?_
  refine lv_ldc2 (v := (64 : Int64)) hx hb hown (hts _ ck_X9_122) dX9_likely_3 ?_
  refine k_roSi (As := [.long ((x1).toInt64), .long (0 : Int64), .long (64 : Int64)]) (rest := []) S (c_X9_in l D cI (x1 := (x1).toInt64) (x2 := (0 : Int64)) (x3 := (64 : Int64))  (r := (f_X9_in ((x1).toInt64) (0 : Int64) (64 : Int64))) (hf := rfl)) gs_X9_46 ok_X9_in ⟨rfl, rfl⟩ ⟨Nat.le_of_ble_eq_true rfl, Nat.le_of_ble_eq_true rfl⟩ hK hN hSF (hP.sub [] rfl) rfl hl.1 rfl (Nat.le_of_ble_eq_true rfl) ⟨Nat.zero_le _, Nat.zero_le _⟩ dX9_likely_6 ?_
  refine lv_if_ne (tgt := 14) hx hb dX9_likely_9 (by decide) (fun c_1 => ?_) (fun c_1 => ?_)
  · rw [if_neg c_1] at hf
    refine lv_aload_n hx hb dX9_likely_14 rfl (lv_at hl 0 rfl) ?_
    refine va_get (D := D) (ci := 9) (v := .ref qm) (C := RX9) (T := TX9) (N := 14) hx hb hts inGX9 hown hK hP 0 rfl rfl 0 (by decide) (hts _ fl_X9_7) (fun _ h9 => h9) rfl dX9_likely_15 ?_
    refine lv_iconst (v := 1) hx hb dX9_likely_18 (by decide) ?_
    have b_2 : ¬ ((1 : Int32) < 0 ∨ 5040 ≤ ((1 : Int32)).toNatClampNeg) := fun q => by rw [if_pos q] at hf; cases hf
    rw [if_neg b_2] at hf
    refine va_iald hx hb hK hP 1 0 rfl rfl b_2 dX9_likely_19 ?_
    refine lv_istore_n (lv' := [(2, .int (mm ((1 : Int32)).toNatClampNeg)), (0, .ref q), (1, .int x1)]) hx hb dX9_likely_20 rfl hl (by decide) rfl (fun ls hl => ?_)
    refine lv_iconst (v := 0) hx hb dX9_likely_21 (by decide) ?_
    refine lv_istore_n (lv' := [(3, .int 0), (2, .int (mm ((1 : Int32)).toNatClampNeg)), (0, .ref q), (1, .int x1)]) hx hb dX9_likely_22 rfl hl (by decide) rfl (fun ls hl => ?_)
    obtain ⟨v2_7, v3_8, hc_9, hf⟩ := bd2 hf
    refine L_X9_likely_23 S hK hN hSF _ (mm ((1 : Int32)).toNatClampNeg) 0 v2_7 v3_8 hc_9 _ hP (lv_sub hl [2, 3, 1, 0] rfl) (fun ls hl => ?_)
    refine lv_iload_n hx hb dX9_likely_53 rfl (lv_at hl 2 rfl) ?_
    exact k_reti hx hb hret hloc (Option.some.inj hf) dX9_likely_54
  · rw [if_pos c_1] at hf
    refine lv_iconst (v := (-1)) hx hb dX9_likely_12 (by decide) ?_
    exact k_reti hx hb hret hloc (Option.some.inj hf) dX9_likely_13
theorem dX9_guess_0 : decode cX9_guess 0 = .ok (.aload_n 0, 1) := by decide +kernel
theorem dX9_guess_1 : decode cX9_guess 1 = .ok (.getfield 7, 3) := by decide +kernel
theorem dX9_guess_4 : decode cX9_guess 4 = .ok (.iconst 1, 1) := by decide +kernel
theorem dX9_guess_5 : decode cX9_guess 5 = .ok (.iaload, 1) := by decide +kernel
theorem dX9_guess_6 : decode cX9_guess 6 = .ok (.istore_n 1, 1) := by decide +kernel
theorem dX9_guess_7 : decode cX9_guess 7 = .ok (.iconst 0, 1) := by decide +kernel
theorem dX9_guess_8 : decode cX9_guess 8 = .ok (.istore_n 2, 1) := by decide +kernel
theorem dX9_guess_9 : decode cX9_guess 9 = .ok (.iconst 0, 1) := by decide +kernel
theorem dX9_guess_10 : decode cX9_guess 10 = .ok (.istore_n 3, 1) := by decide +kernel
theorem dX9_guess_11 : decode cX9_guess 11 = .ok (.iload_n 3, 1) := by decide +kernel
theorem dX9_guess_12 : decode cX9_guess 12 = .ok (.bipush 8, 2) := by decide +kernel
theorem dX9_guess_14 : decode cX9_guess 14 = .ok (.if_icmp .ge 43, 3) := by decide +kernel
theorem dX9_guess_17 : decode cX9_guess 17 = .ok (.aload_n 0, 1) := by decide +kernel
theorem dX9_guess_18 : decode cX9_guess 18 = .ok (.iload_n 1, 1) := by decide +kernel
theorem dX9_guess_19 : decode cX9_guess 19 = .ok (.invokevirtual 124, 3) := by decide +kernel
theorem dX9_guess_22 : decode cX9_guess 22 = .ok (.istore 4, 2) := by decide +kernel
theorem dX9_guess_24 : decode cX9_guess 24 = .ok (.iload_n 2, 1) := by decide +kernel
theorem dX9_guess_25 : decode cX9_guess 25 = .ok (.iload 4, 2) := by decide +kernel
theorem dX9_guess_27 : decode cX9_guess 27 = .ok (.aload_n 0, 1) := by decide +kernel
theorem dX9_guess_28 : decode cX9_guess 28 = .ok (.iload_n 3, 1) := by decide +kernel
theorem dX9_guess_29 : decode cX9_guess 29 = .ok (.invokevirtual 98, 3) := by decide +kernel
theorem dX9_guess_32 : decode cX9_guess 32 = .ok (.ishl, 1) := by decide +kernel
theorem dX9_guess_33 : decode cX9_guess 33 = .ok (.ior, 1) := by decide +kernel
theorem dX9_guess_34 : decode cX9_guess 34 = .ok (.istore_n 2, 1) := by decide +kernel
theorem dX9_guess_35 : decode cX9_guess 35 = .ok (.aload_n 0, 1) := by decide +kernel
theorem dX9_guess_36 : decode cX9_guess 36 = .ok (.getfield 7, 3) := by decide +kernel
theorem dX9_guess_39 : decode cX9_guess 39 = .ok (.sipush 510, 3) := by decide +kernel
theorem dX9_guess_42 : decode cX9_guess 42 = .ok (.iconst 2, 1) := by decide +kernel
theorem dX9_guess_43 : decode cX9_guess 43 = .ok (.iload_n 1, 1) := by decide +kernel
theorem dX9_guess_44 : decode cX9_guess 44 = .ok (.imul, 1) := by decide +kernel
theorem dX9_guess_45 : decode cX9_guess 45 = .ok (.iadd, 1) := by decide +kernel
theorem dX9_guess_46 : decode cX9_guess 46 = .ok (.iload 4, 2) := by decide +kernel
theorem dX9_guess_48 : decode cX9_guess 48 = .ok (.iadd, 1) := by decide +kernel
theorem dX9_guess_49 : decode cX9_guess 49 = .ok (.iaload, 1) := by decide +kernel
theorem dX9_guess_50 : decode cX9_guess 50 = .ok (.istore_n 1, 1) := by decide +kernel
theorem dX9_guess_51 : decode cX9_guess 51 = .ok (.iinc 3 1, 3) := by decide +kernel
theorem dX9_guess_54 : decode cX9_guess 54 = .ok (.goto (-43), 3) := by decide +kernel
theorem dX9_guess_57 : decode cX9_guess 57 = .ok (.iload_n 2, 1) := by decide +kernel
theorem dX9_guess_58 : decode cX9_guess 58 = .ok (.ireturn, 1) := by decide +kernel
def st_X9_guess_L11 (mm : (Nat → Int32)) (v1 : Int32) (v2 : Int32) (v3 : Int32) : Option ((Int32 × Int32 × Int32) ⊕ (Int32 × Int32 × Int32)) := if 8 ≤ v3 then (some (Sum.inr (v1, v2, v3))) else (bi1 (f_X9_likelyBit mm v1) (fun (r_3 : Int32) => bi1 (f_X9_place mm v3) (fun (r_5 : Int32) => if ((510 + (2 * v1)) + r_3) < 0 ∨ 5040 ≤ ((510 + (2 * v1)) + r_3).toNatClampNeg then none else (some (Sum.inl (mm ((510 + (2 * v1)) + r_3).toNatClampNeg, v2 ||| (r_3 <<< (r_5 &&& 31)), v3 + 1))))))
def f_X9_guess_L11 (mm : (Nat → Int32)) (k : Nat) (v1 : Int32) (v2 : Int32) (v3 : Int32) : Option (Int32 × Int32 × Int32) := lpN (fun z => st_X9_guess_L11 mm z.1 z.2.1 z.2.2) k (v1, v2, v3)
set_option maxHeartbeats 4000000 in
set_option maxRecDepth 100000 in
theorem L_X9_guess_11 {p : Program} {l : Launch} {e : Env} {s : State} {m : MethodId} {args : Array Value} {below : List Frame} {meth : Method} {c : Code} {Q : State → Prop} {D : va_G} {cI : ClassId} {q : Nat} {qm : Nat} {qi : Nat} {qp : Nat} {qo : Nat} {qg : Nat} {kept : Int32} {im : Int32} {pm : Int32} {om : Int32} {lo : Int64} {hi_ : Int64} {cde : Int64} {fr : Int32} {sp : Int32} {mm : (Nat → Int32)} {inp : (Nat → Int32)} {pk : (Nat → Int32)} {out : (Nat → Int32)} {gr : (Nat → Int32)} (S : CallFix p m c cX9_guess 5 s args wsG RX9) (hK : va_K D vwCl [(cI, .int)] s) (hN : nw s) (hSF : sf (fun _ => False) s s.heap) : ∀ (k : Nat) (v1 : Int32) (v2 : Int32) (v3 : Int32) (o_v1 : Int32) (o_v2 : Int32) (o_v3 : Int32), f_X9_guess_L11 mm k v1 v2 v3 = some (o_v1, o_v2, o_v3) → ∀ (ls : Array Slot), va_P D vwCl [(q, .inr (9, [.ref qm, .int kept, .ref qi, .int im, .ref qp, .int pm, .ref qo, .int om, .ref qg, .long lo, .long hi_, .long cde, .int fr, .int sp])), (qm, .inl (cI, 5040, .inl mm)), (qi, .inl (cI, 60, .inl inp)), (qp, .inl (cI, 2000, .inl pk)), (qo, .inl (cI, 60, .inl out)), (qg, .inl (cI, 6, .inl gr))] s.heap → lv_has ls 5 [(0, .ref q), (1, .int v1), (2, .int v2), (3, .int v3)] → (∀ (ls : Array Slot), lv_has ls 5 [(0, .ref q), (1, .int o_v1), (2, .int o_v2), (3, .int o_v3)] → W p l e (headSpec (.code yX9_guess cX9_guess 5 (some .int) :: wsG) { frames := 1, cells := 0, slots := 0, locals := 21 }).room s m args below meth c s.heap [] 0 0 Q (F0 m 57 ls [])) → W p l e (headSpec (.code yX9_guess cX9_guess 5 (some .int) :: wsG) { frames := 1, cells := 0, slots := 0, locals := 21 }).room s m args below meth c s.heap [] 0 0 Q (F0 m 11 ls []) := by
  obtain ⟨hx, hb, hml, hown, hts⟩ := id S
  intro k
  induction k with
  | zero =>
    intro v1 v2 v3 o_v1 o_v2 o_v3 hf
    cases hf
  | succ k ih =>
    intro v1 v2 v3 o_v1 o_v2 o_v3 hf ls hP hl kk
    obtain ⟨z, hf, hz⟩ := lp_inv hf
    have hf : st_X9_guess_L11 mm v1 v2 v3 = some z := hf
    unfold st_X9_guess_L11 at hf
    refine lv_iload_n hx hb dX9_guess_11 rfl (lv_at hl 3 rfl) ?_
    refine lv_bipush (v := 8) hx hb dX9_guess_12 (by decide) ?_
    refine lv_icmp_ge (tgt := 57) hx hb dX9_guess_14 (by decide) (fun c_2 => ?_) (fun c_2 => ?_)
    · rw [if_pos c_2] at hf
      have hf := Option.some.inj hf
      subst hf
      obtain ⟨e_0, e_r⟩ := Prod.mk.inj (lpC_r hz)
      obtain ⟨e_1, e_2⟩ := Prod.mk.inj (e_r)
      subst e_0
      subst e_1
      subst e_2
      exact kk ls (lv_sub hl [0, 1, 2, 3] rfl)
    · rw [if_neg c_2] at hf
      refine lv_aload_n hx hb dX9_guess_17 rfl (lv_at hl 0 rfl) ?_
      refine lv_iload_n hx hb dX9_guess_18 rfl (lv_at hl 1 rfl) ?_
      obtain ⟨r_3, hc_4, hf⟩ := bd1 hf
      refine k_roVi (As := [.int v1]) (rest := []) S (c_X9_likelyBit l D cI (q := q) (qm := qm) (qi := qi) (qp := qp) (qo := qo) (qg := qg) (kept := kept) (im := im) (pm := pm) (om := om) (lo := lo) (hi_ := hi_) (cde := cde) (fr := fr) (sp := sp) (mm := mm) (inp := inp) (pk := pk) (out := out) (gr := gr) (x1 := v1)  (r := r_3) (hf := hc_4)) gs_X9_124 ok_X9_likelyBit ⟨rfl, rfl⟩ ⟨Nat.le_of_ble_eq_true rfl, Nat.le_of_ble_eq_true rfl⟩ hK hN hSF hP rfl rfl rfl hl.1 rfl (Nat.le_of_ble_eq_true rfl) ⟨Nat.zero_le _, Nat.zero_le _⟩ dX9_guess_19 ?_
      refine lv_istore (lv' := [(4, .int r_3), (0, .ref q), (1, .int v1), (2, .int v2), (3, .int v3)]) hx hb dX9_guess_22 hl (by decide) rfl (fun ls hl => ?_)
      refine lv_iload_n hx hb dX9_guess_24 rfl (lv_at hl 3 rfl) ?_
      refine lv_iload hx hb dX9_guess_25 (lv_at hl 0 rfl) ?_
      refine lv_aload_n hx hb dX9_guess_27 rfl (lv_at hl 1 rfl) ?_
      refine lv_iload_n hx hb dX9_guess_28 rfl (lv_at hl 4 rfl) ?_
      obtain ⟨r_5, hc_6, hf⟩ := bd1 hf
      refine k_roVi (As := [.int v3]) (rest := [.int r_3, .int v2]) S (c_X9_place l D cI (q := q) (qm := qm) (qi := qi) (qp := qp) (qo := qo) (qg := qg) (kept := kept) (im := im) (pm := pm) (om := om) (lo := lo) (hi_ := hi_) (cde := cde) (fr := fr) (sp := sp) (mm := mm) (inp := inp) (pk := pk) (out := out) (gr := gr) (x1 := v3)  (r := r_5) (hf := hc_6)) gs_X9_98 ok_X9_place ⟨rfl, rfl⟩ ⟨Nat.le_of_ble_eq_true rfl, Nat.le_of_ble_eq_true rfl⟩ hK hN hSF hP rfl rfl rfl hl.1 rfl (Nat.le_of_ble_eq_true rfl) ⟨Nat.zero_le _, Nat.zero_le _⟩ dX9_guess_29 ?_
      refine lv_ishl hx hb dX9_guess_32 ?_
      refine lv_ior hx hb dX9_guess_33 ?_
      refine lv_istore_n (lv' := [(2, .int (v2 ||| (r_3 <<< (r_5 &&& 31)))), (4, .int r_3), (0, .ref q), (1, .int v1), (3, .int v3)]) hx hb dX9_guess_34 rfl hl (by decide) rfl (fun ls hl => ?_)
      refine lv_aload_n hx hb dX9_guess_35 rfl (lv_at hl 2 rfl) ?_
      refine va_get (D := D) (ci := 9) (v := .ref qm) (C := RX9) (T := TX9) (N := 14) hx hb hts inGX9 hown hK hP 0 rfl rfl 0 (by decide) (hts _ fl_X9_7) (fun _ h9 => h9) rfl dX9_guess_36 ?_
      refine lv_sipush (v := 510) hx hb dX9_guess_39 (by decide) ?_
      refine lv_iconst (v := 2) hx hb dX9_guess_42 (by decide) ?_
      refine lv_iload_n hx hb dX9_guess_43 rfl (lv_at hl 3 rfl) ?_
      refine lv_imul hx hb dX9_guess_44 ?_
      refine lv_iadd hx hb dX9_guess_45 ?_
      refine lv_iload hx hb dX9_guess_46 (lv_at hl 1 rfl) ?_
      refine lv_iadd hx hb dX9_guess_48 ?_
      have b_7 : ¬ (((510 + (2 * v1)) + r_3) < 0 ∨ 5040 ≤ ((510 + (2 * v1)) + r_3).toNatClampNeg) := fun q => by rw [if_pos q] at hf; cases hf
      rw [if_neg b_7] at hf
      refine va_iald hx hb hK hP 1 0 rfl rfl b_7 dX9_guess_49 ?_
      refine lv_istore_n (lv' := [(1, .int (mm ((510 + (2 * v1)) + r_3).toNatClampNeg)), (2, .int (v2 ||| (r_3 <<< (r_5 &&& 31)))), (4, .int r_3), (0, .ref q), (3, .int v3)]) hx hb dX9_guess_50 rfl hl (by decide) rfl (fun ls hl => ?_)
      refine lv_iinc (v := v3 + 1) (lv' := [(3, .int (v3 + 1)), (1, .int (mm ((510 + (2 * v1)) + r_3).toNatClampNeg)), (2, .int (v2 ||| (r_3 <<< (r_5 &&& 31)))), (4, .int r_3), (0, .ref q)]) hx hb dX9_guess_51 hl (k := 4) rfl rfl (by decide) rfl (fun ls hl => ?_)
      refine lv_goto (tgt := 11) hx hb dX9_guess_54 (by decide) ?_
      have hf := Option.some.inj hf
      subst hf
      exact ih (mm ((510 + (2 * v1)) + r_3).toNatClampNeg) (v2 ||| (r_3 <<< (r_5 &&& 31))) (v3 + 1) _ _ _ hz ls hP (lv_sub hl [4, 1, 2, 0] rfl) kk
def f_X9_guess (mm : (Nat → Int32)) : Option (Int32) := if (1 : Int32) < 0 ∨ 5040 ≤ ((1 : Int32)).toNatClampNeg then none else (bi3 (f_X9_guess_L11 mm 4096 (mm ((1 : Int32)).toNatClampNeg) 0 0) (fun (v1_8 : Int32) (v2_9 : Int32) (v3_10 : Int32) => some v2_9))
set_option maxHeartbeats 4000000 in
set_option maxRecDepth 100000 in
theorem c_X9_guess (l : Launch) (D : va_G) (cI : ClassId) (q : Nat) (qm : Nat) (qi : Nat) (qp : Nat) (qo : Nat) (qg : Nat) (kept : Int32) (im : Int32) (pm : Int32) (om : Int32) (lo : Int64) (hi_ : Int64) (cde : Int64) (fr : Int32) (sp : Int32) (mm : (Nat → Int32)) (inp : (Nat → Int32)) (pk : (Nat → Int32)) (out : (Nat → Int32)) (gr : (Nat → Int32)) (r : Int32) (hf : f_X9_guess mm = some r) : Met l yX9_guess (.code yX9_guess cX9_guess 5 (some .int) :: wsG) ({ frames := 1, cells := 0, slots := 0, locals := 21 }) (va_Pc [.ref q] (gw D cI [(q, .inr (9, [.ref qm, .int kept, .ref qi, .int im, .ref qp, .int pm, .ref qo, .int om, .ref qg, .long lo, .long hi_, .long cde, .int fr, .int sp])), (qm, .inl (cI, 5040, .inl mm)), (qi, .inl (cI, 60, .inl inp)), (qp, .inl (cI, 2000, .inl pk)), (qo, .inl (cI, 60, .inl out)), (qg, .inl (cI, 6, .inl gr))])) (vp_Si (fun x => x = r)) 0 0 (fun _ => False) := by
  refine k_ro (by decide) rfl (Nat.le_of_ble_eq_true rfl) rfl ?_
  intro p e s m below meth c ls S hret hloc hK hN hSF hP hl
  obtain ⟨hx, hb, hml, hown, hts⟩ := id S
  unfold f_X9_guess at hf
  refine lv_aload_n hx hb dX9_guess_0 rfl (lv_at hl 0 rfl) ?_
  refine va_get (D := D) (ci := 9) (v := .ref qm) (C := RX9) (T := TX9) (N := 14) hx hb hts inGX9 hown hK hP 0 rfl rfl 0 (by decide) (hts _ fl_X9_7) (fun _ h9 => h9) rfl dX9_guess_1 ?_
  refine lv_iconst (v := 1) hx hb dX9_guess_4 (by decide) ?_
  have b_1 : ¬ ((1 : Int32) < 0 ∨ 5040 ≤ ((1 : Int32)).toNatClampNeg) := fun q => by rw [if_pos q] at hf; cases hf
  rw [if_neg b_1] at hf
  refine va_iald hx hb hK hP 1 0 rfl rfl b_1 dX9_guess_5 ?_
  refine lv_istore_n (lv' := [(1, .int (mm ((1 : Int32)).toNatClampNeg)), (0, .ref q)]) hx hb dX9_guess_6 rfl hl (by decide) rfl (fun ls hl => ?_)
  refine lv_iconst (v := 0) hx hb dX9_guess_7 (by decide) ?_
  refine lv_istore_n (lv' := [(2, .int 0), (1, .int (mm ((1 : Int32)).toNatClampNeg)), (0, .ref q)]) hx hb dX9_guess_8 rfl hl (by decide) rfl (fun ls hl => ?_)
  refine lv_iconst (v := 0) hx hb dX9_guess_9 (by decide) ?_
  refine lv_istore_n (lv' := [(3, .int 0), (2, .int 0), (1, .int (mm ((1 : Int32)).toNatClampNeg)), (0, .ref q)]) hx hb dX9_guess_10 rfl hl (by decide) rfl (fun ls hl => ?_)
  obtain ⟨v1_8, v2_9, v3_10, hc_11, hf⟩ := bd3 hf
  refine L_X9_guess_11 S hK hN hSF _ (mm ((1 : Int32)).toNatClampNeg) 0 0 v1_8 v2_9 v3_10 hc_11 _ hP (lv_sub hl [3, 2, 1, 0] rfl) (fun ls hl => ?_)
  refine lv_iload_n hx hb dX9_guess_57 rfl (lv_at hl 2 rfl) ?_
  exact k_reti hx hb hret hloc (Option.some.inj hf) dX9_guess_58
theorem dX9_costOf_0 : decode cX9_costOf 0 = .ok (.aload_n 0, 1) := by decide +kernel
theorem dX9_costOf_1 : decode cX9_costOf 1 = .ok (.iconst 0, 1) := by decide +kernel
theorem dX9_costOf_2 : decode cX9_costOf 2 = .ok (.aload_n 0, 1) := by decide +kernel
theorem dX9_costOf_3 : decode cX9_costOf 3 = .ok (.getfield 127, 3) := by decide +kernel
theorem dX9_costOf_6 : decode cX9_costOf 6 = .ok (.invokevirtual 71, 3) := by decide +kernel
theorem dX9_costOf_9 : decode cX9_costOf 9 = .ok (.istore_n 2, 1) := by decide +kernel
theorem dX9_costOf_10 : decode cX9_costOf 10 = .ok (.aload_n 0, 1) := by decide +kernel
theorem dX9_costOf_11 : decode cX9_costOf 11 = .ok (.aload_n 0, 1) := by decide +kernel
theorem dX9_costOf_12 : decode cX9_costOf 12 = .ok (.getfield 7, 3) := by decide +kernel
theorem dX9_costOf_15 : decode cX9_costOf 15 = .ok (.sipush 510, 3) := by decide +kernel
theorem dX9_costOf_18 : decode cX9_costOf 18 = .ok (.iconst 2, 1) := by decide +kernel
theorem dX9_costOf_19 : decode cX9_costOf 19 = .ok (.aload_n 0, 1) := by decide +kernel
theorem dX9_costOf_20 : decode cX9_costOf 20 = .ok (.getfield 127, 3) := by decide +kernel
theorem dX9_costOf_23 : decode cX9_costOf 23 = .ok (.imul, 1) := by decide +kernel
theorem dX9_costOf_24 : decode cX9_costOf 24 = .ok (.iadd, 1) := by decide +kernel
theorem dX9_costOf_25 : decode cX9_costOf 25 = .ok (.iload_n 1, 1) := by decide +kernel
theorem dX9_costOf_26 : decode cX9_costOf 26 = .ok (.iadd, 1) := by decide +kernel
theorem dX9_costOf_27 : decode cX9_costOf 27 = .ok (.iaload, 1) := by decide +kernel
theorem dX9_costOf_28 : decode cX9_costOf 28 = .ok (.putfield 127, 3) := by decide +kernel
theorem dX9_costOf_31 : decode cX9_costOf 31 = .ok (.iload_n 1, 1) := by decide +kernel
theorem dX9_costOf_32 : decode cX9_costOf 32 = .ok (.iconst 1, 1) := by decide +kernel
theorem dX9_costOf_33 : decode cX9_costOf 33 = .ok (.if_icmp .ne 11, 3) := by decide +kernel
theorem dX9_costOf_36 : decode cX9_costOf 36 = .ok (.sipush 4096, 3) := by decide +kernel
theorem dX9_costOf_39 : decode cX9_costOf 39 = .ok (.iload_n 2, 1) := by decide +kernel
theorem dX9_costOf_40 : decode cX9_costOf 40 = .ok (.isub, 1) := by decide +kernel
theorem dX9_costOf_41 : decode cX9_costOf 41 = .ok (.goto 4, 3) := by decide +kernel
theorem dX9_costOf_44 : decode cX9_costOf 44 = .ok (.iload_n 2, 1) := by decide +kernel
theorem dX9_costOf_45 : decode cX9_costOf 45 = .ok (.ireturn, 1) := by decide +kernel
def f_X9_costOf (sp : Int32) (mm : (Nat → Int32)) (x1 : Int32) : Option (Int32 × Int32) := bi1 (f_X9_chance mm 0 sp) (fun (r_1 : Int32) => if ((510 + (2 * sp)) + x1) < 0 ∨ 5040 ≤ ((510 + (2 * sp)) + x1).toNatClampNeg then none else (if x1 = 1 then (some (4096 - r_1, mm ((510 + (2 * sp)) + x1).toNatClampNeg)) else (some (r_1, mm ((510 + (2 * sp)) + x1).toNatClampNeg))))
set_option maxHeartbeats 4000000 in
set_option maxRecDepth 100000 in
theorem c_X9_costOf (l : Launch) (D : va_G) (cI : ClassId) {sz : Nat} (q : Nat) (qm : Nat) (qi : Nat) (qp : Nat) (qo : Nat) (qg : Nat) (kept : Int32) (im : Int32) (pm : Int32) (om : Int32) (lo : Int64) (hi_ : Int64) (cde : Int64) (fr : Int32) (sp : Int32) (mm : (Nat → Int32)) (inp : (Nat → Int32)) (pk : (Nat → Int32)) (out : (Nat → Int32)) (gr : (Nat → Int32)) (x1 : Int32) (r : Int32) (o_sp : Int32) (hf : f_X9_costOf sp mm x1 = some (r, o_sp)) : Met l yX9_costOf (.code yX9_costOf cX9_costOf 3 (some .int) :: wsG) ({ frames := 2, cells := 0, slots := 0, locals := 46 }) (va_Pc [.ref q, .int x1] (gv D cI sz [(q, .inr (9, [.ref qm, .int kept, .ref qi, .int im, .ref qp, .int pm, .ref qo, .int om, .ref qg, .long lo, .long hi_, .long cde, .int fr, .int sp])), (qm, .inl (cI, 5040, .inl mm)), (qi, .inl (cI, 60, .inl inp)), (qp, .inl (cI, 2000, .inl pk)), (qo, .inl (cI, 60, .inl out)), (qg, .inl (cI, 6, .inl gr))])) (va_Qi (fun x (_ : Unit) => x = r) (gz D (va_A [(q, .inr (9, [.ref qm, .int kept, .ref qi, .int im, .ref qp, .int pm, .ref qo, .int om, .ref qg, .long lo, .long hi_, .long cde, .int fr, .int sp])), (qm, .inl (cI, 5040, .inl mm)), (qi, .inl (cI, 60, .inl inp)), (qp, .inl (cI, 2000, .inl pk)), (qo, .inl (cI, 60, .inl out)), (qg, .inl (cI, 6, .inl gr))] sz) [(q, .inr (9, [.ref qm, .int kept, .ref qi, .int im, .ref qp, .int pm, .ref qo, .int om, .ref qg, .long lo, .long hi_, .long cde, .int fr, .int o_sp])), (qm, .inl (cI, 5040, .inl mm)), (qi, .inl (cI, 60, .inl inp)), (qp, .inl (cI, 2000, .inl pk)), (qo, .inl (cI, 60, .inl out)), (qg, .inl (cI, 6, .inl gr))]) (va_A [(q, .inr (9, [.ref qm, .int kept, .ref qi, .int im, .ref qp, .int pm, .ref qo, .int om, .ref qg, .long lo, .long hi_, .long cde, .int fr, .int sp])), (qm, .inl (cI, 5040, .inl mm)), (qi, .inl (cI, 60, .inl inp)), (qp, .inl (cI, 2000, .inl pk)), (qo, .inl (cI, 60, .inl out)), (qg, .inl (cI, 6, .inl gr))] sz)) 0 0 (va_A [(q, .inr (9, [.ref qm, .int kept, .ref qi, .int im, .ref qp, .int pm, .ref qo, .int om, .ref qg, .long lo, .long hi_, .long cde, .int fr, .int sp])), (qm, .inl (cI, 5040, .inl mm)), (qi, .inl (cI, 60, .inl inp)), (qp, .inl (cI, 2000, .inl pk)), (qo, .inl (cI, 60, .inl out)), (qg, .inl (cI, 6, .inl gr))] sz) := by
  refine k_rw (y := yX9_costOf) (cc := cX9_costOf) (maxL := 3) (ret := (some .int)) (As := [.ref q, .int x1]) (Qc := fun A => va_Qi (fun x (_ : Unit) => x = r) (gz D A [(q, .inr (9, [.ref qm, .int kept, .ref qi, .int im, .ref qp, .int pm, .ref qo, .int om, .ref qg, .long lo, .long hi_, .long cde, .int fr, .int o_sp])), (qm, .inl (cI, 5040, .inl mm)), (qi, .inl (cI, 60, .inl inp)), (qp, .inl (cI, 2000, .inl pk)), (qo, .inl (cI, 60, .inl out)), (qg, .inl (cI, 6, .inl gr))]) A) (by decide) rfl (Nat.le_of_ble_eq_true rfl) rfl ?_
  intro p e s m below meth c ls A S hret hloc hK hN hSF hP hD hS hA hl
  obtain ⟨hx, hb, hml, hown, hts⟩ := id S
  unfold f_X9_costOf at hf
  refine lv_aload_n hx hb dX9_costOf_0 rfl (lv_at hl 0 rfl) ?_
  refine lv_iconst (v := 0) hx hb dX9_costOf_1 (by decide) ?_
  refine lv_aload_n hx hb dX9_costOf_2 rfl (lv_at hl 0 rfl) ?_
  refine va_get (D := D) (ci := 9) (v := .int sp) (C := RX9) (T := TX9) (N := 14) hx hb hts inGX9 hown hK hP 0 rfl rfl 13 (by decide) (hts _ fl_X9_127) (fun _ h9 => h9) rfl dX9_costOf_3 ?_
  obtain ⟨r_1, hc_2, hf⟩ := bd1 hf
  refine k_roVi (As := [.int 0, .int sp]) (rest := []) S (c_X9_chance l D cI (q := q) (qm := qm) (qi := qi) (qp := qp) (qo := qo) (qg := qg) (kept := kept) (im := im) (pm := pm) (om := om) (lo := lo) (hi_ := hi_) (cde := cde) (fr := fr) (sp := sp) (mm := mm) (inp := inp) (pk := pk) (out := out) (gr := gr) (x1 := 0) (x2 := sp)  (r := r_1) (hf := hc_2)) gs_X9_71 ok_X9_chance ⟨rfl, rfl⟩ ⟨Nat.le_of_ble_eq_true rfl, Nat.le_of_ble_eq_true rfl⟩ hK hN (sfr hSF hS) hP rfl rfl rfl hl.1 rfl (Nat.le_of_ble_eq_true rfl) ⟨Nat.zero_le _, Nat.zero_le _⟩ dX9_costOf_6 ?_
  refine lv_istore_n (lv' := [(2, .int r_1), (0, .ref q), (1, .int x1)]) hx hb dX9_costOf_9 rfl hl (by decide) rfl (fun ls hl => ?_)
  refine lv_aload_n hx hb dX9_costOf_10 rfl (lv_at hl 1 rfl) ?_
  refine lv_aload_n hx hb dX9_costOf_11 rfl (lv_at hl 1 rfl) ?_
  refine va_get (D := D) (ci := 9) (v := .ref qm) (C := RX9) (T := TX9) (N := 14) hx hb hts inGX9 hown hK hP 0 rfl rfl 0 (by decide) (hts _ fl_X9_7) (fun _ h9 => h9) rfl dX9_costOf_12 ?_
  refine lv_sipush (v := 510) hx hb dX9_costOf_15 (by decide) ?_
  refine lv_iconst (v := 2) hx hb dX9_costOf_18 (by decide) ?_
  refine lv_aload_n hx hb dX9_costOf_19 rfl (lv_at hl 1 rfl) ?_
  refine va_get (D := D) (ci := 9) (v := .int sp) (C := RX9) (T := TX9) (N := 14) hx hb hts inGX9 hown hK hP 0 rfl rfl 13 (by decide) (hts _ fl_X9_127) (fun _ h9 => h9) rfl dX9_costOf_20 ?_
  refine lv_imul hx hb dX9_costOf_23 ?_
  refine lv_iadd hx hb dX9_costOf_24 ?_
  refine lv_iload_n hx hb dX9_costOf_25 rfl (lv_at hl 2 rfl) ?_
  refine lv_iadd hx hb dX9_costOf_26 ?_
  have b_3 : ¬ (((510 + (2 * sp)) + x1) < 0 ∨ 5040 ≤ ((510 + (2 * sp)) + x1).toNatClampNeg) := fun q => by rw [if_pos q] at hf; cases hf
  rw [if_neg b_3] at hf
  refine va_iald hx hb hK hP 1 0 rfl rfl b_3 dX9_costOf_27 ?_
  refine va_put (D := D) (ci := 9) (v := .int (mm ((510 + (2 * sp)) + x1).toNatClampNeg)) (ty := .int) (C := RX9) (T := TX9) (N := 14) hx hb hts inGX9 tyX9 tyX9_ok nmX9 hown hK hP hD hS 0 rfl rfl 13 (by decide) (hts _ fl_X9_127) (fun _ h9 => h9) rfl (by decide +kernel) rfl rfl (Nat.le_of_ble_eq_true rfl) dX9_costOf_28 (fun H locs hP hD hS => ?_)
  have hP : va_P D vwCl [(q, .inr (9, [.ref qm, .int kept, .ref qi, .int im, .ref qp, .int pm, .ref qo, .int om, .ref qg, .long lo, .long hi_, .long cde, .int fr, .int (mm ((510 + (2 * sp)) + x1).toNatClampNeg)])), (qm, .inl (cI, 5040, .inl mm)), (qi, .inl (cI, 60, .inl inp)), (qp, .inl (cI, 2000, .inl pk)), (qo, .inl (cI, 60, .inl out)), (qg, .inl (cI, 6, .inl gr))] H := hP
  have hD : va_D A [(q, .inr (9, [.ref qm, .int kept, .ref qi, .int im, .ref qp, .int pm, .ref qo, .int om, .ref qg, .long lo, .long hi_, .long cde, .int fr, .int (mm ((510 + (2 * sp)) + x1).toNatClampNeg)])), (qm, .inl (cI, 5040, .inl mm)), (qi, .inl (cI, 60, .inl inp)), (qp, .inl (cI, 2000, .inl pk)), (qo, .inl (cI, 60, .inl out)), (qg, .inl (cI, 6, .inl gr))] := hD
  refine lv_iload_n hx hb dX9_costOf_31 rfl (lv_at hl 2 rfl) ?_
  refine lv_iconst (v := 1) hx hb dX9_costOf_32 (by decide) ?_
  refine lv_icmp_ne (tgt := 44) hx hb dX9_costOf_33 (by decide) (fun c_4 => ?_) (fun c_4 => ?_)
  · rw [if_neg c_4] at hf
    refine lv_iload_n hx hb dX9_costOf_44 rfl (lv_at hl 0 rfl) ?_
    obtain ⟨e_0, e_1⟩ := Prod.mk.inj (Option.some.inj hf)
    subst e_0
    subst e_1
    exact k_wreti hx hb hret hloc rfl hP hD hS dX9_costOf_45
  · rw [if_pos c_4] at hf
    refine lv_sipush (v := 4096) hx hb dX9_costOf_36 (by decide) ?_
    refine lv_iload_n hx hb dX9_costOf_39 rfl (lv_at hl 0 rfl) ?_
    refine lv_isub hx hb dX9_costOf_40 ?_
    refine lv_goto (tgt := 45) hx hb dX9_costOf_41 (by decide) ?_
    obtain ⟨e_0, e_1⟩ := Prod.mk.inj (Option.some.inj hf)
    subst e_0
    subst e_1
    exact k_wreti hx hb hret hloc rfl hP hD hS dX9_costOf_45
theorem dX9_cost_0 : decode cX9_cost 0 = .ok (.iload_n 1, 1) := by decide +kernel
theorem dX9_cost_1 : decode cX9_cost 1 = .ok (.i2l, 1) := by decide +kernel
theorem dX9_cost_2 : decode cX9_cost 2 = .ok (.lconst 0, 1) := by decide +kernel
theorem dX9_cost_3 : decode cX9_cost 3 = .ok (.ldc2_w 130, 3) := by decide +kernel
theorem dX9_cost_6 : decode cX9_cost 6 = .ok (.invokestatic 46, 3) := by decide +kernel
theorem dX9_cost_9 : decode cX9_cost 9 = .ok (.ifCond .eq 15, 3) := by decide +kernel
theorem dX9_cost_12 : decode cX9_cost 12 = .ok (.iload_n 2, 1) := by decide +kernel
theorem dX9_cost_13 : decode cX9_cost 13 = .ok (.i2l, 1) := by decide +kernel
theorem dX9_cost_14 : decode cX9_cost 14 = .ok (.lconst 1, 1) := by decide +kernel
theorem dX9_cost_15 : decode cX9_cost 15 = .ok (.ldc2_w 132, 3) := by decide +kernel
theorem dX9_cost_18 : decode cX9_cost 18 = .ok (.invokestatic 46, 3) := by decide +kernel
theorem dX9_cost_21 : decode cX9_cost 21 = .ok (.ifCond .ne 5, 3) := by decide +kernel
theorem dX9_cost_24 : decode cX9_cost 24 = .ok (.iconst (-1), 1) := by decide +kernel
theorem dX9_cost_25 : decode cX9_cost 25 = .ok (.ireturn, 1) := by decide +kernel
theorem dX9_cost_26 : decode cX9_cost 26 = .ok (.iconst 0, 1) := by decide +kernel
theorem dX9_cost_27 : decode cX9_cost 27 = .ok (.istore_n 3, 1) := by decide +kernel
theorem dX9_cost_28 : decode cX9_cost 28 = .ok (.aload_n 0, 1) := by decide +kernel
theorem dX9_cost_29 : decode cX9_cost 29 = .ok (.aload_n 0, 1) := by decide +kernel
theorem dX9_cost_30 : decode cX9_cost 30 = .ok (.getfield 7, 3) := by decide +kernel
theorem dX9_cost_33 : decode cX9_cost 33 = .ok (.iconst 1, 1) := by decide +kernel
theorem dX9_cost_34 : decode cX9_cost 34 = .ok (.iaload, 1) := by decide +kernel
theorem dX9_cost_35 : decode cX9_cost 35 = .ok (.putfield 127, 3) := by decide +kernel
theorem dX9_cost_38 : decode cX9_cost 38 = .ok (.iconst 0, 1) := by decide +kernel
theorem dX9_cost_39 : decode cX9_cost 39 = .ok (.istore 4, 2) := by decide +kernel
theorem dX9_cost_41 : decode cX9_cost 41 = .ok (.iload 4, 2) := by decide +kernel
theorem dX9_cost_43 : decode cX9_cost 43 = .ok (.iload_n 2, 1) := by decide +kernel
theorem dX9_cost_44 : decode cX9_cost 44 = .ok (.if_icmp .ge 29, 3) := by decide +kernel
theorem dX9_cost_47 : decode cX9_cost 47 = .ok (.aload_n 0, 1) := by decide +kernel
theorem dX9_cost_48 : decode cX9_cost 48 = .ok (.iload_n 1, 1) := by decide +kernel
theorem dX9_cost_49 : decode cX9_cost 49 = .ok (.bipush 15, 2) := by decide +kernel
theorem dX9_cost_51 : decode cX9_cost 51 = .ok (.iload 4, 2) := by decide +kernel
theorem dX9_cost_53 : decode cX9_cost 53 = .ok (.isub, 1) := by decide +kernel
theorem dX9_cost_54 : decode cX9_cost 54 = .ok (.ishr, 1) := by decide +kernel
theorem dX9_cost_55 : decode cX9_cost 55 = .ok (.iconst 1, 1) := by decide +kernel
theorem dX9_cost_56 : decode cX9_cost 56 = .ok (.iand, 1) := by decide +kernel
theorem dX9_cost_57 : decode cX9_cost 57 = .ok (.invokevirtual 134, 3) := by decide +kernel
theorem dX9_cost_60 : decode cX9_cost 60 = .ok (.istore 5, 2) := by decide +kernel
theorem dX9_cost_62 : decode cX9_cost 62 = .ok (.iload_n 3, 1) := by decide +kernel
theorem dX9_cost_63 : decode cX9_cost 63 = .ok (.iload 5, 2) := by decide +kernel
theorem dX9_cost_65 : decode cX9_cost 65 = .ok (.iadd, 1) := by decide +kernel
theorem dX9_cost_66 : decode cX9_cost 66 = .ok (.istore_n 3, 1) := by decide +kernel
theorem dX9_cost_67 : decode cX9_cost 67 = .ok (.iinc 4 1, 3) := by decide +kernel
theorem dX9_cost_70 : decode cX9_cost 70 = .ok (.goto (-29), 3) := by decide +kernel
theorem dX9_cost_73 : decode cX9_cost 73 = .ok (.iload_n 3, 1) := by decide +kernel
theorem dX9_cost_74 : decode cX9_cost 74 = .ok (.ireturn, 1) := by decide +kernel
theorem ok_X9_costOf : okV yX9_costOf RX9 1 := by decide +kernel
theorem gs_X9_134 : GoodIn wsG (wsV RX9 134 RX9 yX9_costOf (.code yX9_costOf cX9_costOf 3 (some .int) :: wsG)) := good_V ml_X9_134 im_X9_costOf se_X9_costOf ini_X9 co_X9_costOf
def st_X9_cost_L41 (v1 : Int32) (v2 : Int32) (mm : (Nat → Int32)) (v3 : Int32) (v4 : Int32) (sp : Int32) : Option ((Int32 × Int32 × Int32) ⊕ (Int32 × Int32 × Int32)) := if v2 ≤ v4 then (some (Sum.inr (v3, v4, sp))) else (bi2 (f_X9_costOf sp mm ((v1 >>> ((15 - v4) &&& 31)) &&& 1)) (fun (r_5 : Int32) (sp_6 : Int32) => some (Sum.inl (v3 + r_5, v4 + 1, sp_6))))
def f_X9_cost_L41 (v1 : Int32) (v2 : Int32) (mm : (Nat → Int32)) (k : Nat) (v3 : Int32) (v4 : Int32) (sp : Int32) : Option (Int32 × Int32 × Int32) := lpN (fun z => st_X9_cost_L41 v1 v2 mm z.1 z.2.1 z.2.2) k (v3, v4, sp)
set_option maxHeartbeats 4000000 in
set_option maxRecDepth 100000 in
theorem L_X9_cost_41 {p : Program} {l : Launch} {e : Env} {s : State} {m : MethodId} {args : Array Value} {below : List Frame} {meth : Method} {c : Code} {Q : State → Prop} {D : va_G} {cI : ClassId} {q : Nat} {qm : Nat} {qi : Nat} {qp : Nat} {qo : Nat} {qg : Nat} {v1 : Int32} {v2 : Int32} {kept : Int32} {im : Int32} {pm : Int32} {om : Int32} {lo : Int64} {hi_ : Int64} {cde : Int64} {fr : Int32} {mm : (Nat → Int32)} {inp : (Nat → Int32)} {pk : (Nat → Int32)} {out : (Nat → Int32)} {gr : (Nat → Int32)} {A : Nat → Prop} (S : CallFix p m c cX9_cost 6 s args wsG RX9) (hK : va_K D vwCl [(cI, .int)] s) (hN : nw s) (hSF : sf A s s.heap) (hA : ∀ q, s.heap.size ≤ q → A q) : ∀ (k : Nat) (v3 : Int32) (v4 : Int32) (sp : Int32) (o_v3 : Int32) (o_v4 : Int32) (o_sp : Int32), f_X9_cost_L41 v1 v2 mm k v3 v4 sp = some (o_v3, o_v4, o_sp) → ∀ (H : Heap) (locs : List Loc) (ls : Array Slot), va_P D vwCl [(q, .inr (9, [.ref qm, .int kept, .ref qi, .int im, .ref qp, .int pm, .ref qo, .int om, .ref qg, .long lo, .long hi_, .long cde, .int fr, .int sp])), (qm, .inl (cI, 5040, .inl mm)), (qi, .inl (cI, 60, .inl inp)), (qp, .inl (cI, 2000, .inl pk)), (qo, .inl (cI, 60, .inl out)), (qg, .inl (cI, 6, .inl gr))] H → va_D A [(q, .inr (9, [.ref qm, .int kept, .ref qi, .int im, .ref qp, .int pm, .ref qo, .int om, .ref qg, .long lo, .long hi_, .long cde, .int fr, .int sp])), (qm, .inl (cI, 5040, .inl mm)), (qi, .inl (cI, 60, .inl inp)), (qp, .inl (cI, 2000, .inl pk)), (qo, .inl (cI, 60, .inl out)), (qg, .inl (cI, 6, .inl gr))] → va_S A s.heap H locs → lv_has ls 6 [(0, .ref q), (1, .int v1), (2, .int v2), (3, .int v3), (4, .int v4)] → (∀ (H : Heap) (locs : List Loc) (ls : Array Slot), va_P D vwCl [(q, .inr (9, [.ref qm, .int kept, .ref qi, .int im, .ref qp, .int pm, .ref qo, .int om, .ref qg, .long lo, .long hi_, .long cde, .int fr, .int o_sp])), (qm, .inl (cI, 5040, .inl mm)), (qi, .inl (cI, 60, .inl inp)), (qp, .inl (cI, 2000, .inl pk)), (qo, .inl (cI, 60, .inl out)), (qg, .inl (cI, 6, .inl gr))] H → va_D A [(q, .inr (9, [.ref qm, .int kept, .ref qi, .int im, .ref qp, .int pm, .ref qo, .int om, .ref qg, .long lo, .long hi_, .long cde, .int fr, .int o_sp])), (qm, .inl (cI, 5040, .inl mm)), (qi, .inl (cI, 60, .inl inp)), (qp, .inl (cI, 2000, .inl pk)), (qo, .inl (cI, 60, .inl out)), (qg, .inl (cI, 6, .inl gr))] → va_S A s.heap H locs → lv_has ls 6 [(0, .ref q), (1, .int v1), (2, .int v2), (3, .int o_v3), (4, .int o_v4)] → W p l e (headSpec (.code yX9_cost cX9_cost 6 (some .int) :: wsG) { frames := 3, cells := 0, slots := 0, locals := 68 }).room s m args below meth c H locs 0 0 Q (F0 m 73 ls [])) → W p l e (headSpec (.code yX9_cost cX9_cost 6 (some .int) :: wsG) { frames := 3, cells := 0, slots := 0, locals := 68 }).room s m args below meth c H locs 0 0 Q (F0 m 41 ls []) := by
  obtain ⟨hx, hb, hml, hown, hts⟩ := id S
  intro k
  induction k with
  | zero =>
    intro v3 v4 sp o_v3 o_v4 o_sp hf
    cases hf
  | succ k ih =>
    intro v3 v4 sp o_v3 o_v4 o_sp hf H locs ls hP hD hS hl kk
    obtain ⟨z, hf, hz⟩ := lp_inv hf
    have hf : st_X9_cost_L41 v1 v2 mm v3 v4 sp = some z := hf
    unfold st_X9_cost_L41 at hf
    refine lv_iload hx hb dX9_cost_41 (lv_at hl 4 rfl) ?_
    refine lv_iload_n hx hb dX9_cost_43 rfl (lv_at hl 2 rfl) ?_
    refine lv_icmp_ge (tgt := 73) hx hb dX9_cost_44 (by decide) (fun c_4 => ?_) (fun c_4 => ?_)
    · rw [if_pos c_4] at hf
      have hf := Option.some.inj hf
      subst hf
      obtain ⟨e_0, e_r⟩ := Prod.mk.inj (lpC_r hz)
      obtain ⟨e_1, e_2⟩ := Prod.mk.inj (e_r)
      subst e_0
      subst e_1
      subst e_2
      exact kk H locs ls hP hD hS (lv_sub hl [0, 1, 2, 3, 4] rfl)
    · rw [if_neg c_4] at hf
      refine lv_aload_n hx hb dX9_cost_47 rfl (lv_at hl 0 rfl) ?_
      refine lv_iload_n hx hb dX9_cost_48 rfl (lv_at hl 1 rfl) ?_
      refine lv_bipush (v := 15) hx hb dX9_cost_49 (by decide) ?_
      refine lv_iload hx hb dX9_cost_51 (lv_at hl 4 rfl) ?_
      refine lv_isub hx hb dX9_cost_53 ?_
      refine lv_ishr hx hb dX9_cost_54 ?_
      refine lv_iconst (v := 1) hx hb dX9_cost_55 (by decide) ?_
      refine lv_iand hx hb dX9_cost_56 ?_
      obtain ⟨r_5, sp_6, hc_7, hf⟩ := bd2 hf
      refine k_rwVi (As := [.int ((v1 >>> ((15 - v4) &&& 31)) &&& 1)]) (rest := []) (Wr := []) (W2 := [(q, .inr (9, [.ref qm, .int kept, .ref qi, .int im, .ref qp, .int pm, .ref qo, .int om, .ref qg, .long lo, .long hi_, .long cde, .int fr, .int sp_6])), (qm, .inl (cI, 5040, .inl mm)), (qi, .inl (cI, 60, .inl inp)), (qp, .inl (cI, 2000, .inl pk)), (qo, .inl (cI, 60, .inl out)), (qg, .inl (cI, 6, .inl gr))]) S (c_X9_costOf l D cI (q := q) (qm := qm) (qi := qi) (qp := qp) (qo := qo) (qg := qg) (kept := kept) (im := im) (pm := pm) (om := om) (lo := lo) (hi_ := hi_) (cde := cde) (fr := fr) (sp := sp) (mm := mm) (inp := inp) (pk := pk) (out := out) (gr := gr) (x1 := (v1 >>> ((15 - v4) &&& 31)) &&& 1)  (r := r_5) (o_sp := sp_6) (hf := hc_7)) gs_X9_134 ok_X9_costOf ⟨rfl, rfl⟩ ⟨Nat.le_of_ble_eq_true rfl, Nat.le_of_ble_eq_true rfl⟩ hK hN hSF hP hD hS hA [0, 1, 2, 3, 4, 5] [] [0, 1, 2, 3, 4, 5] (by decide) rfl rfl (by decide) (by decide) rfl (by decide) rfl rfl rfl hl.1 rfl (Nat.le_of_ble_eq_true rfl) ⟨Nat.zero_le _, Nat.zero_le _⟩ dX9_cost_57 (fun H locs hP hD hS => ?_)
      refine lv_istore (lv' := [(5, .int r_5), (0, .ref q), (1, .int v1), (2, .int v2), (3, .int v3), (4, .int v4)]) hx hb dX9_cost_60 hl (by decide) rfl (fun ls hl => ?_)
      refine lv_iload_n hx hb dX9_cost_62 rfl (lv_at hl 4 rfl) ?_
      refine lv_iload hx hb dX9_cost_63 (lv_at hl 0 rfl) ?_
      refine lv_iadd hx hb dX9_cost_65 ?_
      refine lv_istore_n (lv' := [(3, .int (v3 + r_5)), (5, .int r_5), (0, .ref q), (1, .int v1), (2, .int v2), (4, .int v4)]) hx hb dX9_cost_66 rfl hl (by decide) rfl (fun ls hl => ?_)
      refine lv_iinc (v := v4 + 1) (lv' := [(4, .int (v4 + 1)), (3, .int (v3 + r_5)), (5, .int r_5), (0, .ref q), (1, .int v1), (2, .int v2)]) hx hb dX9_cost_67 hl (k := 5) rfl rfl (by decide) rfl (fun ls hl => ?_)
      refine lv_goto (tgt := 41) hx hb dX9_cost_70 (by decide) ?_
      have hf := Option.some.inj hf
      subst hf
      exact ih (v3 + r_5) (v4 + 1) sp_6 _ _ _ hz H locs ls hP hD hS (lv_sub hl [3, 4, 5, 1, 0] rfl) kk
def f_X9_cost (sp : Int32) (mm : (Nat → Int32)) (x1 : Int32) (x2 : Int32) : Option (Int32 × Int32) := if (f_X9_in ((x1).toInt64) (0 : Int64) (65535 : Int64)) = 0 then (some ((-1 : Int32), sp)) else (if (f_X9_in ((x2).toInt64) (1 : Int64) (16 : Int64)) = 0 then (some ((-1 : Int32), sp)) else (if (1 : Int32) < 0 ∨ 5040 ≤ ((1 : Int32)).toNatClampNeg then none else (bi3 (f_X9_cost_L41 x1 x2 mm 4096 0 0 (mm ((1 : Int32)).toNatClampNeg)) (fun (v3_8 : Int32) (v4_9 : Int32) (sp_10 : Int32) => some (v3_8, sp_10)))))
set_option maxHeartbeats 4000000 in
set_option maxRecDepth 100000 in
theorem c_X9_cost (l : Launch) (D : va_G) (cI : ClassId) {sz : Nat} (q : Nat) (qm : Nat) (qi : Nat) (qp : Nat) (qo : Nat) (qg : Nat) (kept : Int32) (im : Int32) (pm : Int32) (om : Int32) (lo : Int64) (hi_ : Int64) (cde : Int64) (fr : Int32) (sp : Int32) (mm : (Nat → Int32)) (inp : (Nat → Int32)) (pk : (Nat → Int32)) (out : (Nat → Int32)) (gr : (Nat → Int32)) (x1 : Int32) (x2 : Int32) (r : Int32) (o_sp : Int32) (hf : f_X9_cost sp mm x1 x2 = some (r, o_sp)) : Met l yX9_cost (.code yX9_cost cX9_cost 6 (some .int) :: wsG) ({ frames := 3, cells := 0, slots := 0, locals := 68 }) (va_Pc [.ref q, .int x1, .int x2] (gv D cI sz [(q, .inr (9, [.ref qm, .int kept, .ref qi, .int im, .ref qp, .int pm, .ref qo, .int om, .ref qg, .long lo, .long hi_, .long cde, .int fr, .int sp])), (qm, .inl (cI, 5040, .inl mm)), (qi, .inl (cI, 60, .inl inp)), (qp, .inl (cI, 2000, .inl pk)), (qo, .inl (cI, 60, .inl out)), (qg, .inl (cI, 6, .inl gr))])) (va_Qi (fun x (_ : Unit) => x = r) (gz D (va_A [(q, .inr (9, [.ref qm, .int kept, .ref qi, .int im, .ref qp, .int pm, .ref qo, .int om, .ref qg, .long lo, .long hi_, .long cde, .int fr, .int sp])), (qm, .inl (cI, 5040, .inl mm)), (qi, .inl (cI, 60, .inl inp)), (qp, .inl (cI, 2000, .inl pk)), (qo, .inl (cI, 60, .inl out)), (qg, .inl (cI, 6, .inl gr))] sz) [(q, .inr (9, [.ref qm, .int kept, .ref qi, .int im, .ref qp, .int pm, .ref qo, .int om, .ref qg, .long lo, .long hi_, .long cde, .int fr, .int o_sp])), (qm, .inl (cI, 5040, .inl mm)), (qi, .inl (cI, 60, .inl inp)), (qp, .inl (cI, 2000, .inl pk)), (qo, .inl (cI, 60, .inl out)), (qg, .inl (cI, 6, .inl gr))]) (va_A [(q, .inr (9, [.ref qm, .int kept, .ref qi, .int im, .ref qp, .int pm, .ref qo, .int om, .ref qg, .long lo, .long hi_, .long cde, .int fr, .int sp])), (qm, .inl (cI, 5040, .inl mm)), (qi, .inl (cI, 60, .inl inp)), (qp, .inl (cI, 2000, .inl pk)), (qo, .inl (cI, 60, .inl out)), (qg, .inl (cI, 6, .inl gr))] sz)) 0 0 (va_A [(q, .inr (9, [.ref qm, .int kept, .ref qi, .int im, .ref qp, .int pm, .ref qo, .int om, .ref qg, .long lo, .long hi_, .long cde, .int fr, .int sp])), (qm, .inl (cI, 5040, .inl mm)), (qi, .inl (cI, 60, .inl inp)), (qp, .inl (cI, 2000, .inl pk)), (qo, .inl (cI, 60, .inl out)), (qg, .inl (cI, 6, .inl gr))] sz) := by
  refine k_rw (y := yX9_cost) (cc := cX9_cost) (maxL := 6) (ret := (some .int)) (As := [.ref q, .int x1, .int x2]) (Qc := fun A => va_Qi (fun x (_ : Unit) => x = r) (gz D A [(q, .inr (9, [.ref qm, .int kept, .ref qi, .int im, .ref qp, .int pm, .ref qo, .int om, .ref qg, .long lo, .long hi_, .long cde, .int fr, .int o_sp])), (qm, .inl (cI, 5040, .inl mm)), (qi, .inl (cI, 60, .inl inp)), (qp, .inl (cI, 2000, .inl pk)), (qo, .inl (cI, 60, .inl out)), (qg, .inl (cI, 6, .inl gr))]) A) (by decide) rfl (Nat.le_of_ble_eq_true rfl) rfl ?_
  intro p e s m below meth c ls A S hret hloc hK hN hSF hP hD hS hA hl
  obtain ⟨hx, hb, hml, hown, hts⟩ := id S
  unfold f_X9_cost at hf
  refine lv_iload_n hx hb dX9_cost_0 rfl (lv_at hl 1 rfl) ?_
  refine lv_i2l hx hb dX9_cost_1 rfl ?_
  refine lv_lconst (v := 0) hx hb dX9_cost_2 (by decide) ?_
  refine lv_ldc2 (v := (65535 : Int64)) hx hb hown (hts _ ck_X9_130) dX9_cost_3 ?_
  refine k_roSi (As := [.long ((x1).toInt64), .long (0 : Int64), .long (65535 : Int64)]) (rest := []) S (c_X9_in l D cI (x1 := (x1).toInt64) (x2 := (0 : Int64)) (x3 := (65535 : Int64))  (r := (f_X9_in ((x1).toInt64) (0 : Int64) (65535 : Int64))) (hf := rfl)) gs_X9_46 ok_X9_in ⟨rfl, rfl⟩ ⟨Nat.le_of_ble_eq_true rfl, Nat.le_of_ble_eq_true rfl⟩ hK hN (sfr hSF hS) (hP.sub [] rfl) rfl hl.1 rfl (Nat.le_of_ble_eq_true rfl) ⟨Nat.zero_le _, Nat.zero_le _⟩ dX9_cost_6 ?_
  refine lv_if_eq (tgt := 24) hx hb dX9_cost_9 (by decide) (fun c_1 => ?_) (fun c_1 => ?_)
  · rw [if_pos c_1] at hf
    refine lv_iconst (v := (-1)) hx hb dX9_cost_24 (by decide) ?_
    obtain ⟨e_0, e_1⟩ := Prod.mk.inj (Option.some.inj hf)
    subst e_0
    subst e_1
    exact k_wreti hx hb hret hloc rfl hP hD hS dX9_cost_25
  · rw [if_neg c_1] at hf
    refine lv_iload_n hx hb dX9_cost_12 rfl (lv_at hl 2 rfl) ?_
    refine lv_i2l hx hb dX9_cost_13 rfl ?_
    refine lv_lconst (v := 1) hx hb dX9_cost_14 (by decide) ?_
    refine lv_ldc2 (v := (16 : Int64)) hx hb hown (hts _ ck_X9_132) dX9_cost_15 ?_
    refine k_roSi (As := [.long ((x2).toInt64), .long (1 : Int64), .long (16 : Int64)]) (rest := []) S (c_X9_in l D cI (x1 := (x2).toInt64) (x2 := (1 : Int64)) (x3 := (16 : Int64))  (r := (f_X9_in ((x2).toInt64) (1 : Int64) (16 : Int64))) (hf := rfl)) gs_X9_46 ok_X9_in ⟨rfl, rfl⟩ ⟨Nat.le_of_ble_eq_true rfl, Nat.le_of_ble_eq_true rfl⟩ hK hN (sfr hSF hS) (hP.sub [] rfl) rfl hl.1 rfl (Nat.le_of_ble_eq_true rfl) ⟨Nat.zero_le _, Nat.zero_le _⟩ dX9_cost_18 ?_
    refine lv_if_ne (tgt := 26) hx hb dX9_cost_21 (by decide) (fun c_2 => ?_) (fun c_2 => ?_)
    · rw [if_neg c_2] at hf
      refine lv_iconst (v := 0) hx hb dX9_cost_26 (by decide) ?_
      refine lv_istore_n (lv' := [(3, .int 0), (0, .ref q), (1, .int x1), (2, .int x2)]) hx hb dX9_cost_27 rfl hl (by decide) rfl (fun ls hl => ?_)
      refine lv_aload_n hx hb dX9_cost_28 rfl (lv_at hl 1 rfl) ?_
      refine lv_aload_n hx hb dX9_cost_29 rfl (lv_at hl 1 rfl) ?_
      refine va_get (D := D) (ci := 9) (v := .ref qm) (C := RX9) (T := TX9) (N := 14) hx hb hts inGX9 hown hK hP 0 rfl rfl 0 (by decide) (hts _ fl_X9_7) (fun _ h9 => h9) rfl dX9_cost_30 ?_
      refine lv_iconst (v := 1) hx hb dX9_cost_33 (by decide) ?_
      have b_3 : ¬ ((1 : Int32) < 0 ∨ 5040 ≤ ((1 : Int32)).toNatClampNeg) := fun q => by rw [if_pos q] at hf; cases hf
      rw [if_neg b_3] at hf
      refine va_iald hx hb hK hP 1 0 rfl rfl b_3 dX9_cost_34 ?_
      refine va_put (D := D) (ci := 9) (v := .int (mm ((1 : Int32)).toNatClampNeg)) (ty := .int) (C := RX9) (T := TX9) (N := 14) hx hb hts inGX9 tyX9 tyX9_ok nmX9 hown hK hP hD hS 0 rfl rfl 13 (by decide) (hts _ fl_X9_127) (fun _ h9 => h9) rfl (by decide +kernel) rfl rfl (Nat.le_of_ble_eq_true rfl) dX9_cost_35 (fun H locs hP hD hS => ?_)
      have hP : va_P D vwCl [(q, .inr (9, [.ref qm, .int kept, .ref qi, .int im, .ref qp, .int pm, .ref qo, .int om, .ref qg, .long lo, .long hi_, .long cde, .int fr, .int (mm ((1 : Int32)).toNatClampNeg)])), (qm, .inl (cI, 5040, .inl mm)), (qi, .inl (cI, 60, .inl inp)), (qp, .inl (cI, 2000, .inl pk)), (qo, .inl (cI, 60, .inl out)), (qg, .inl (cI, 6, .inl gr))] H := hP
      have hD : va_D A [(q, .inr (9, [.ref qm, .int kept, .ref qi, .int im, .ref qp, .int pm, .ref qo, .int om, .ref qg, .long lo, .long hi_, .long cde, .int fr, .int (mm ((1 : Int32)).toNatClampNeg)])), (qm, .inl (cI, 5040, .inl mm)), (qi, .inl (cI, 60, .inl inp)), (qp, .inl (cI, 2000, .inl pk)), (qo, .inl (cI, 60, .inl out)), (qg, .inl (cI, 6, .inl gr))] := hD
      refine lv_iconst (v := 0) hx hb dX9_cost_38 (by decide) ?_
      refine lv_istore (lv' := [(4, .int 0), (3, .int 0), (0, .ref q), (1, .int x1), (2, .int x2)]) hx hb dX9_cost_39 hl (by decide) rfl (fun ls hl => ?_)
      obtain ⟨v3_8, v4_9, sp_10, hc_11, hf⟩ := bd3 hf
      refine L_X9_cost_41 S hK hN hSF hA _ 0 0 (mm ((1 : Int32)).toNatClampNeg) v3_8 v4_9 sp_10 hc_11 _ _ _ hP hD hS (lv_sub hl [2, 3, 4, 1, 0] rfl) (fun H locs ls hP hD hS hl => ?_)
      refine lv_iload_n hx hb dX9_cost_73 rfl (lv_at hl 3 rfl) ?_
      obtain ⟨e_0, e_1⟩ := Prod.mk.inj (Option.some.inj hf)
      subst e_0
      subst e_1
      exact k_wreti hx hb hret hloc rfl hP hD hS dX9_cost_74
    · rw [if_pos c_2] at hf
      refine lv_iconst (v := (-1)) hx hb dX9_cost_24 (by decide) ?_
      obtain ⟨e_0, e_1⟩ := Prod.mk.inj (Option.some.inj hf)
      subst e_0
      subst e_1
      exact k_wreti hx hb hret hloc rfl hP hD hS dX9_cost_25
theorem dX9_cheapest_0 : decode cX9_cheapest 0 = .ok (.iload_n 1, 1) := by decide +kernel
theorem dX9_cheapest_1 : decode cX9_cheapest 1 = .ok (.i2l, 1) := by decide +kernel
theorem dX9_cheapest_2 : decode cX9_cheapest 2 = .ok (.lconst 0, 1) := by decide +kernel
theorem dX9_cheapest_3 : decode cX9_cheapest 3 = .ok (.lconst 1, 1) := by decide +kernel
theorem dX9_cheapest_4 : decode cX9_cheapest 4 = .ok (.invokestatic 46, 3) := by decide +kernel
theorem dX9_cheapest_7 : decode cX9_cheapest 7 = .ok (.ifCond .ne 5, 3) := by decide +kernel
theorem dX9_cheapest_10 : decode cX9_cheapest 10 = .ok (.iconst (-1), 1) := by decide +kernel
theorem dX9_cheapest_11 : decode cX9_cheapest 11 = .ok (.ireturn, 1) := by decide +kernel
theorem dX9_cheapest_12 : decode cX9_cheapest 12 = .ok (.iconst 0, 1) := by decide +kernel
theorem dX9_cheapest_13 : decode cX9_cheapest 13 = .ok (.istore_n 2, 1) := by decide +kernel
theorem dX9_cheapest_14 : decode cX9_cheapest 14 = .ok (.ldc 137, 2) := by decide +kernel
theorem dX9_cheapest_16 : decode cX9_cheapest 16 = .ok (.istore_n 3, 1) := by decide +kernel
theorem dX9_cheapest_17 : decode cX9_cheapest 17 = .ok (.iconst 0, 1) := by decide +kernel
theorem dX9_cheapest_18 : decode cX9_cheapest 18 = .ok (.istore 4, 2) := by decide +kernel
theorem dX9_cheapest_20 : decode cX9_cheapest 20 = .ok (.iload 4, 2) := by decide +kernel
theorem dX9_cheapest_22 : decode cX9_cheapest 22 = .ok (.sipush 256, 3) := by decide +kernel
theorem dX9_cheapest_25 : decode cX9_cheapest 25 = .ok (.if_icmp .ge 88, 3) := by decide +kernel
theorem dX9_cheapest_28 : decode cX9_cheapest 28 = .ok (.iconst 0, 1) := by decide +kernel
theorem dX9_cheapest_29 : decode cX9_cheapest 29 = .ok (.istore 5, 2) := by decide +kernel
theorem dX9_cheapest_31 : decode cX9_cheapest 31 = .ok (.aload_n 0, 1) := by decide +kernel
theorem dX9_cheapest_32 : decode cX9_cheapest 32 = .ok (.aload_n 0, 1) := by decide +kernel
theorem dX9_cheapest_33 : decode cX9_cheapest 33 = .ok (.getfield 7, 3) := by decide +kernel
theorem dX9_cheapest_36 : decode cX9_cheapest 36 = .ok (.iconst 1, 1) := by decide +kernel
theorem dX9_cheapest_37 : decode cX9_cheapest 37 = .ok (.iaload, 1) := by decide +kernel
theorem dX9_cheapest_38 : decode cX9_cheapest 38 = .ok (.putfield 127, 3) := by decide +kernel
theorem dX9_cheapest_41 : decode cX9_cheapest 41 = .ok (.iconst 0, 1) := by decide +kernel
theorem dX9_cheapest_42 : decode cX9_cheapest 42 = .ok (.istore 6, 2) := by decide +kernel
theorem dX9_cheapest_44 : decode cX9_cheapest 44 = .ok (.iload 6, 2) := by decide +kernel
theorem dX9_cheapest_46 : decode cX9_cheapest 46 = .ok (.bipush 8, 2) := by decide +kernel
theorem dX9_cheapest_48 : decode cX9_cheapest 48 = .ok (.if_icmp .ge 33, 3) := by decide +kernel
theorem dX9_cheapest_51 : decode cX9_cheapest 51 = .ok (.aload_n 0, 1) := by decide +kernel
theorem dX9_cheapest_52 : decode cX9_cheapest 52 = .ok (.iload 4, 2) := by decide +kernel
theorem dX9_cheapest_54 : decode cX9_cheapest 54 = .ok (.aload_n 0, 1) := by decide +kernel
theorem dX9_cheapest_55 : decode cX9_cheapest 55 = .ok (.iload 6, 2) := by decide +kernel
theorem dX9_cheapest_57 : decode cX9_cheapest 57 = .ok (.invokevirtual 98, 3) := by decide +kernel
theorem dX9_cheapest_60 : decode cX9_cheapest 60 = .ok (.ishr, 1) := by decide +kernel
theorem dX9_cheapest_61 : decode cX9_cheapest 61 = .ok (.iconst 1, 1) := by decide +kernel
theorem dX9_cheapest_62 : decode cX9_cheapest 62 = .ok (.iand, 1) := by decide +kernel
theorem dX9_cheapest_63 : decode cX9_cheapest 63 = .ok (.invokevirtual 134, 3) := by decide +kernel
theorem dX9_cheapest_66 : decode cX9_cheapest 66 = .ok (.istore 7, 2) := by decide +kernel
theorem dX9_cheapest_68 : decode cX9_cheapest 68 = .ok (.iload 5, 2) := by decide +kernel
theorem dX9_cheapest_70 : decode cX9_cheapest 70 = .ok (.iload 7, 2) := by decide +kernel
theorem dX9_cheapest_72 : decode cX9_cheapest 72 = .ok (.iadd, 1) := by decide +kernel
theorem dX9_cheapest_73 : decode cX9_cheapest 73 = .ok (.istore 5, 2) := by decide +kernel
theorem dX9_cheapest_75 : decode cX9_cheapest 75 = .ok (.iinc 6 1, 3) := by decide +kernel
theorem dX9_cheapest_78 : decode cX9_cheapest 78 = .ok (.goto (-34), 3) := by decide +kernel
theorem dX9_cheapest_81 : decode cX9_cheapest 81 = .ok (.iload 5, 2) := by decide +kernel
theorem dX9_cheapest_83 : decode cX9_cheapest 83 = .ok (.iload_n 3, 1) := by decide +kernel
theorem dX9_cheapest_84 : decode cX9_cheapest 84 = .ok (.if_icmp .ge 8, 3) := by decide +kernel
theorem dX9_cheapest_87 : decode cX9_cheapest 87 = .ok (.iload 4, 2) := by decide +kernel
theorem dX9_cheapest_89 : decode cX9_cheapest 89 = .ok (.goto 4, 3) := by decide +kernel
theorem dX9_cheapest_92 : decode cX9_cheapest 92 = .ok (.iload_n 2, 1) := by decide +kernel
theorem dX9_cheapest_93 : decode cX9_cheapest 93 = .ok (.istore_n 2, 1) := by decide +kernel
theorem dX9_cheapest_94 : decode cX9_cheapest 94 = .ok (.iload 5, 2) := by decide +kernel
theorem dX9_cheapest_96 : decode cX9_cheapest 96 = .ok (.iload_n 3, 1) := by decide +kernel
theorem dX9_cheapest_97 : decode cX9_cheapest 97 = .ok (.if_icmp .ge 8, 3) := by decide +kernel
theorem dX9_cheapest_100 : decode cX9_cheapest 100 = .ok (.iload 5, 2) := by decide +kernel
theorem dX9_cheapest_102 : decode cX9_cheapest 102 = .ok (.goto 4, 3) := by decide +kernel
theorem dX9_cheapest_105 : decode cX9_cheapest 105 = .ok (.iload_n 3, 1) := by decide +kernel
theorem dX9_cheapest_106 : decode cX9_cheapest 106 = .ok (.istore_n 3, 1) := by decide +kernel
theorem dX9_cheapest_107 : decode cX9_cheapest 107 = .ok (.iinc 4 1, 3) := by decide +kernel
theorem dX9_cheapest_110 : decode cX9_cheapest 110 = .ok (.goto (-90), 3) := by decide +kernel
theorem dX9_cheapest_113 : decode cX9_cheapest 113 = .ok (.iload_n 1, 1) := by decide +kernel
theorem dX9_cheapest_114 : decode cX9_cheapest 114 = .ok (.ifCond .ne 7, 3) := by decide +kernel
theorem dX9_cheapest_117 : decode cX9_cheapest 117 = .ok (.iload_n 2, 1) := by decide +kernel
theorem dX9_cheapest_118 : decode cX9_cheapest 118 = .ok (.goto 4, 3) := by decide +kernel
theorem dX9_cheapest_121 : decode cX9_cheapest 121 = .ok (.iload_n 3, 1) := by decide +kernel
theorem dX9_cheapest_122 : decode cX9_cheapest 122 = .ok (.ireturn, 1) := by decide +kernel
def st_X9_cheapest_L44 (v4 : Int32) (mm : (Nat → Int32)) (v5 : Int32) (v6 : Int32) (sp : Int32) : Option ((Int32 × Int32 × Int32) ⊕ (Int32 × Int32 × Int32)) := if 8 ≤ v6 then (some (Sum.inr (v5, v6, sp))) else (bi1 (f_X9_place mm v6) (fun (r_5 : Int32) => bi2 (f_X9_costOf sp mm ((v4 >>> (r_5 &&& 31)) &&& 1)) (fun (r_7 : Int32) (sp_8 : Int32) => some (Sum.inl (v5 + r_7, v6 + 1, sp_8)))))
def f_X9_cheapest_L44 (v4 : Int32) (mm : (Nat → Int32)) (k : Nat) (v5 : Int32) (v6 : Int32) (sp : Int32) : Option (Int32 × Int32 × Int32) := lpN (fun z => st_X9_cheapest_L44 v4 mm z.1 z.2.1 z.2.2) k (v5, v6, sp)
set_option maxHeartbeats 4000000 in
set_option maxRecDepth 100000 in
theorem L_X9_cheapest_44 {p : Program} {l : Launch} {e : Env} {s : State} {m : MethodId} {args : Array Value} {below : List Frame} {meth : Method} {c : Code} {Q : State → Prop} {D : va_G} {cI : ClassId} {q : Nat} {qm : Nat} {qi : Nat} {qp : Nat} {qo : Nat} {qg : Nat} {v1 : Int32} {v2 : Int32} {v3 : Int32} {v4 : Int32} {kept : Int32} {im : Int32} {pm : Int32} {om : Int32} {lo : Int64} {hi_ : Int64} {cde : Int64} {fr : Int32} {mm : (Nat → Int32)} {inp : (Nat → Int32)} {pk : (Nat → Int32)} {out : (Nat → Int32)} {gr : (Nat → Int32)} {A : Nat → Prop} (S : CallFix p m c cX9_cheapest 8 s args wsG RX9) (hK : va_K D vwCl [(cI, .int)] s) (hN : nw s) (hSF : sf A s s.heap) (hA : ∀ q, s.heap.size ≤ q → A q) : ∀ (k : Nat) (v5 : Int32) (v6 : Int32) (sp : Int32) (o_v5 : Int32) (o_v6 : Int32) (o_sp : Int32), f_X9_cheapest_L44 v4 mm k v5 v6 sp = some (o_v5, o_v6, o_sp) → ∀ (H : Heap) (locs : List Loc) (ls : Array Slot), va_P D vwCl [(q, .inr (9, [.ref qm, .int kept, .ref qi, .int im, .ref qp, .int pm, .ref qo, .int om, .ref qg, .long lo, .long hi_, .long cde, .int fr, .int sp])), (qm, .inl (cI, 5040, .inl mm)), (qi, .inl (cI, 60, .inl inp)), (qp, .inl (cI, 2000, .inl pk)), (qo, .inl (cI, 60, .inl out)), (qg, .inl (cI, 6, .inl gr))] H → va_D A [(q, .inr (9, [.ref qm, .int kept, .ref qi, .int im, .ref qp, .int pm, .ref qo, .int om, .ref qg, .long lo, .long hi_, .long cde, .int fr, .int sp])), (qm, .inl (cI, 5040, .inl mm)), (qi, .inl (cI, 60, .inl inp)), (qp, .inl (cI, 2000, .inl pk)), (qo, .inl (cI, 60, .inl out)), (qg, .inl (cI, 6, .inl gr))] → va_S A s.heap H locs → lv_has ls 8 [(0, .ref q), (1, .int v1), (2, .int v2), (3, .int v3), (4, .int v4), (5, .int v5), (6, .int v6)] → (∀ (H : Heap) (locs : List Loc) (ls : Array Slot), va_P D vwCl [(q, .inr (9, [.ref qm, .int kept, .ref qi, .int im, .ref qp, .int pm, .ref qo, .int om, .ref qg, .long lo, .long hi_, .long cde, .int fr, .int o_sp])), (qm, .inl (cI, 5040, .inl mm)), (qi, .inl (cI, 60, .inl inp)), (qp, .inl (cI, 2000, .inl pk)), (qo, .inl (cI, 60, .inl out)), (qg, .inl (cI, 6, .inl gr))] H → va_D A [(q, .inr (9, [.ref qm, .int kept, .ref qi, .int im, .ref qp, .int pm, .ref qo, .int om, .ref qg, .long lo, .long hi_, .long cde, .int fr, .int o_sp])), (qm, .inl (cI, 5040, .inl mm)), (qi, .inl (cI, 60, .inl inp)), (qp, .inl (cI, 2000, .inl pk)), (qo, .inl (cI, 60, .inl out)), (qg, .inl (cI, 6, .inl gr))] → va_S A s.heap H locs → lv_has ls 8 [(0, .ref q), (1, .int v1), (2, .int v2), (3, .int v3), (4, .int v4), (5, .int o_v5), (6, .int o_v6)] → W p l e (headSpec (.code yX9_cheapest cX9_cheapest 8 (some .int) :: wsG) { frames := 3, cells := 0, slots := 0, locals := 68 }).room s m args below meth c H locs 0 0 Q (F0 m 81 ls [])) → W p l e (headSpec (.code yX9_cheapest cX9_cheapest 8 (some .int) :: wsG) { frames := 3, cells := 0, slots := 0, locals := 68 }).room s m args below meth c H locs 0 0 Q (F0 m 44 ls []) := by
  obtain ⟨hx, hb, hml, hown, hts⟩ := id S
  intro k
  induction k with
  | zero =>
    intro v5 v6 sp o_v5 o_v6 o_sp hf
    cases hf
  | succ k ih =>
    intro v5 v6 sp o_v5 o_v6 o_sp hf H locs ls hP hD hS hl kk
    obtain ⟨z, hf, hz⟩ := lp_inv hf
    have hf : st_X9_cheapest_L44 v4 mm v5 v6 sp = some z := hf
    unfold st_X9_cheapest_L44 at hf
    refine lv_iload hx hb dX9_cheapest_44 (lv_at hl 6 rfl) ?_
    refine lv_bipush (v := 8) hx hb dX9_cheapest_46 (by decide) ?_
    refine lv_icmp_ge (tgt := 81) hx hb dX9_cheapest_48 (by decide) (fun c_4 => ?_) (fun c_4 => ?_)
    · rw [if_pos c_4] at hf
      have hf := Option.some.inj hf
      subst hf
      obtain ⟨e_0, e_r⟩ := Prod.mk.inj (lpC_r hz)
      obtain ⟨e_1, e_2⟩ := Prod.mk.inj (e_r)
      subst e_0
      subst e_1
      subst e_2
      exact kk H locs ls hP hD hS (lv_sub hl [0, 1, 2, 3, 4, 5, 6] rfl)
    · rw [if_neg c_4] at hf
      refine lv_aload_n hx hb dX9_cheapest_51 rfl (lv_at hl 0 rfl) ?_
      refine lv_iload hx hb dX9_cheapest_52 (lv_at hl 4 rfl) ?_
      refine lv_aload_n hx hb dX9_cheapest_54 rfl (lv_at hl 0 rfl) ?_
      refine lv_iload hx hb dX9_cheapest_55 (lv_at hl 6 rfl) ?_
      obtain ⟨r_5, hc_6, hf⟩ := bd1 hf
      refine k_roVi (As := [.int v6]) (rest := [.int v4, .ref q]) S (c_X9_place l D cI (q := q) (qm := qm) (qi := qi) (qp := qp) (qo := qo) (qg := qg) (kept := kept) (im := im) (pm := pm) (om := om) (lo := lo) (hi_ := hi_) (cde := cde) (fr := fr) (sp := sp) (mm := mm) (inp := inp) (pk := pk) (out := out) (gr := gr) (x1 := v6)  (r := r_5) (hf := hc_6)) gs_X9_98 ok_X9_place ⟨rfl, rfl⟩ ⟨Nat.le_of_ble_eq_true rfl, Nat.le_of_ble_eq_true rfl⟩ hK hN (sfr hSF hS) hP rfl rfl rfl hl.1 rfl (Nat.le_of_ble_eq_true rfl) ⟨Nat.zero_le _, Nat.zero_le _⟩ dX9_cheapest_57 ?_
      refine lv_ishr hx hb dX9_cheapest_60 ?_
      refine lv_iconst (v := 1) hx hb dX9_cheapest_61 (by decide) ?_
      refine lv_iand hx hb dX9_cheapest_62 ?_
      obtain ⟨r_7, sp_8, hc_9, hf⟩ := bd2 hf
      refine k_rwVi (As := [.int ((v4 >>> (r_5 &&& 31)) &&& 1)]) (rest := []) (Wr := []) (W2 := [(q, .inr (9, [.ref qm, .int kept, .ref qi, .int im, .ref qp, .int pm, .ref qo, .int om, .ref qg, .long lo, .long hi_, .long cde, .int fr, .int sp_8])), (qm, .inl (cI, 5040, .inl mm)), (qi, .inl (cI, 60, .inl inp)), (qp, .inl (cI, 2000, .inl pk)), (qo, .inl (cI, 60, .inl out)), (qg, .inl (cI, 6, .inl gr))]) S (c_X9_costOf l D cI (q := q) (qm := qm) (qi := qi) (qp := qp) (qo := qo) (qg := qg) (kept := kept) (im := im) (pm := pm) (om := om) (lo := lo) (hi_ := hi_) (cde := cde) (fr := fr) (sp := sp) (mm := mm) (inp := inp) (pk := pk) (out := out) (gr := gr) (x1 := (v4 >>> (r_5 &&& 31)) &&& 1)  (r := r_7) (o_sp := sp_8) (hf := hc_9)) gs_X9_134 ok_X9_costOf ⟨rfl, rfl⟩ ⟨Nat.le_of_ble_eq_true rfl, Nat.le_of_ble_eq_true rfl⟩ hK hN hSF hP hD hS hA [0, 1, 2, 3, 4, 5] [] [0, 1, 2, 3, 4, 5] (by decide) rfl rfl (by decide) (by decide) rfl (by decide) rfl rfl rfl hl.1 rfl (Nat.le_of_ble_eq_true rfl) ⟨Nat.zero_le _, Nat.zero_le _⟩ dX9_cheapest_63 (fun H locs hP hD hS => ?_)
      refine lv_istore (lv' := [(7, .int r_7), (0, .ref q), (1, .int v1), (2, .int v2), (3, .int v3), (4, .int v4), (5, .int v5), (6, .int v6)]) hx hb dX9_cheapest_66 hl (by decide) rfl (fun ls hl => ?_)
      refine lv_iload hx hb dX9_cheapest_68 (lv_at hl 6 rfl) ?_
      refine lv_iload hx hb dX9_cheapest_70 (lv_at hl 0 rfl) ?_
      refine lv_iadd hx hb dX9_cheapest_72 ?_
      refine lv_istore (lv' := [(5, .int (v5 + r_7)), (7, .int r_7), (0, .ref q), (1, .int v1), (2, .int v2), (3, .int v3), (4, .int v4), (6, .int v6)]) hx hb dX9_cheapest_73 hl (by decide) rfl (fun ls hl => ?_)
      refine lv_iinc (v := v6 + 1) (lv' := [(6, .int (v6 + 1)), (5, .int (v5 + r_7)), (7, .int r_7), (0, .ref q), (1, .int v1), (2, .int v2), (3, .int v3), (4, .int v4)]) hx hb dX9_cheapest_75 hl (k := 7) rfl rfl (by decide) rfl (fun ls hl => ?_)
      refine lv_goto (tgt := 44) hx hb dX9_cheapest_78 (by decide) ?_
      have hf := Option.some.inj hf
      subst hf
      exact ih (v5 + r_7) (v6 + 1) sp_8 _ _ _ hz H locs ls hP hD hS (lv_sub hl [3, 4, 5, 6, 7, 1, 0] rfl) kk
def st_X9_cheapest_L20 (mm : (Nat → Int32)) (v2 : Int32) (v3 : Int32) (v4 : Int32) (sp : Int32) : Option ((Int32 × Int32 × Int32 × Int32) ⊕ (Int32 × Int32 × Int32 × Int32)) := if 256 ≤ v4 then (some (Sum.inr (v2, v3, v4, sp))) else (if (1 : Int32) < 0 ∨ 5040 ≤ ((1 : Int32)).toNatClampNeg then none else (bi3 (f_X9_cheapest_L44 v4 mm 4096 0 0 (mm ((1 : Int32)).toNatClampNeg)) (fun (v5_10 : Int32) (v6_11 : Int32) (sp_12 : Int32) => if v3 ≤ v5_10 then (some (Sum.inl (v2, v3, v4 + 1, sp_12))) else (some (Sum.inl (v4, v5_10, v4 + 1, sp_12))))))
def f_X9_cheapest_L20 (mm : (Nat → Int32)) (k : Nat) (v2 : Int32) (v3 : Int32) (v4 : Int32) (sp : Int32) : Option (Int32 × Int32 × Int32 × Int32) := lpN (fun z => st_X9_cheapest_L20 mm z.1 z.2.1 z.2.2.1 z.2.2.2) k (v2, v3, v4, sp)
set_option maxHeartbeats 4000000 in
set_option maxRecDepth 100000 in
theorem L_X9_cheapest_20 {p : Program} {l : Launch} {e : Env} {s : State} {m : MethodId} {args : Array Value} {below : List Frame} {meth : Method} {c : Code} {Q : State → Prop} {D : va_G} {cI : ClassId} {q : Nat} {qm : Nat} {qi : Nat} {qp : Nat} {qo : Nat} {qg : Nat} {v1 : Int32} {kept : Int32} {im : Int32} {pm : Int32} {om : Int32} {lo : Int64} {hi_ : Int64} {cde : Int64} {fr : Int32} {mm : (Nat → Int32)} {inp : (Nat → Int32)} {pk : (Nat → Int32)} {out : (Nat → Int32)} {gr : (Nat → Int32)} {A : Nat → Prop} (S : CallFix p m c cX9_cheapest 8 s args wsG RX9) (hK : va_K D vwCl [(cI, .int)] s) (hN : nw s) (hSF : sf A s s.heap) (hA : ∀ q, s.heap.size ≤ q → A q) : ∀ (k : Nat) (v2 : Int32) (v3 : Int32) (v4 : Int32) (sp : Int32) (o_v2 : Int32) (o_v3 : Int32) (o_v4 : Int32) (o_sp : Int32), f_X9_cheapest_L20 mm k v2 v3 v4 sp = some (o_v2, o_v3, o_v4, o_sp) → ∀ (H : Heap) (locs : List Loc) (ls : Array Slot), va_P D vwCl [(q, .inr (9, [.ref qm, .int kept, .ref qi, .int im, .ref qp, .int pm, .ref qo, .int om, .ref qg, .long lo, .long hi_, .long cde, .int fr, .int sp])), (qm, .inl (cI, 5040, .inl mm)), (qi, .inl (cI, 60, .inl inp)), (qp, .inl (cI, 2000, .inl pk)), (qo, .inl (cI, 60, .inl out)), (qg, .inl (cI, 6, .inl gr))] H → va_D A [(q, .inr (9, [.ref qm, .int kept, .ref qi, .int im, .ref qp, .int pm, .ref qo, .int om, .ref qg, .long lo, .long hi_, .long cde, .int fr, .int sp])), (qm, .inl (cI, 5040, .inl mm)), (qi, .inl (cI, 60, .inl inp)), (qp, .inl (cI, 2000, .inl pk)), (qo, .inl (cI, 60, .inl out)), (qg, .inl (cI, 6, .inl gr))] → va_S A s.heap H locs → lv_has ls 8 [(0, .ref q), (1, .int v1), (2, .int v2), (3, .int v3), (4, .int v4)] → (∀ (H : Heap) (locs : List Loc) (ls : Array Slot), va_P D vwCl [(q, .inr (9, [.ref qm, .int kept, .ref qi, .int im, .ref qp, .int pm, .ref qo, .int om, .ref qg, .long lo, .long hi_, .long cde, .int fr, .int o_sp])), (qm, .inl (cI, 5040, .inl mm)), (qi, .inl (cI, 60, .inl inp)), (qp, .inl (cI, 2000, .inl pk)), (qo, .inl (cI, 60, .inl out)), (qg, .inl (cI, 6, .inl gr))] H → va_D A [(q, .inr (9, [.ref qm, .int kept, .ref qi, .int im, .ref qp, .int pm, .ref qo, .int om, .ref qg, .long lo, .long hi_, .long cde, .int fr, .int o_sp])), (qm, .inl (cI, 5040, .inl mm)), (qi, .inl (cI, 60, .inl inp)), (qp, .inl (cI, 2000, .inl pk)), (qo, .inl (cI, 60, .inl out)), (qg, .inl (cI, 6, .inl gr))] → va_S A s.heap H locs → lv_has ls 8 [(0, .ref q), (1, .int v1), (2, .int o_v2), (3, .int o_v3), (4, .int o_v4)] → W p l e (headSpec (.code yX9_cheapest cX9_cheapest 8 (some .int) :: wsG) { frames := 3, cells := 0, slots := 0, locals := 68 }).room s m args below meth c H locs 0 0 Q (F0 m 113 ls [])) → W p l e (headSpec (.code yX9_cheapest cX9_cheapest 8 (some .int) :: wsG) { frames := 3, cells := 0, slots := 0, locals := 68 }).room s m args below meth c H locs 0 0 Q (F0 m 20 ls []) := by
  obtain ⟨hx, hb, hml, hown, hts⟩ := id S
  intro k
  induction k with
  | zero =>
    intro v2 v3 v4 sp o_v2 o_v3 o_v4 o_sp hf
    cases hf
  | succ k ih =>
    intro v2 v3 v4 sp o_v2 o_v3 o_v4 o_sp hf H locs ls hP hD hS hl kk
    obtain ⟨z, hf, hz⟩ := lp_inv hf
    have hf : st_X9_cheapest_L20 mm v2 v3 v4 sp = some z := hf
    unfold st_X9_cheapest_L20 at hf
    refine lv_iload hx hb dX9_cheapest_20 (lv_at hl 4 rfl) ?_
    refine lv_sipush (v := 256) hx hb dX9_cheapest_22 (by decide) ?_
    refine lv_icmp_ge (tgt := 113) hx hb dX9_cheapest_25 (by decide) (fun c_2 => ?_) (fun c_2 => ?_)
    · rw [if_pos c_2] at hf
      have hf := Option.some.inj hf
      subst hf
      obtain ⟨e_0, e_r⟩ := Prod.mk.inj (lpC_r hz)
      obtain ⟨e_1, e_r⟩ := Prod.mk.inj (e_r)
      obtain ⟨e_2, e_3⟩ := Prod.mk.inj (e_r)
      subst e_0
      subst e_1
      subst e_2
      subst e_3
      exact kk H locs ls hP hD hS (lv_sub hl [0, 1, 2, 3, 4] rfl)
    · rw [if_neg c_2] at hf
      refine lv_iconst (v := 0) hx hb dX9_cheapest_28 (by decide) ?_
      refine lv_istore (lv' := [(5, .int 0), (0, .ref q), (1, .int v1), (2, .int v2), (3, .int v3), (4, .int v4)]) hx hb dX9_cheapest_29 hl (by decide) rfl (fun ls hl => ?_)
      refine lv_aload_n hx hb dX9_cheapest_31 rfl (lv_at hl 1 rfl) ?_
      refine lv_aload_n hx hb dX9_cheapest_32 rfl (lv_at hl 1 rfl) ?_
      refine va_get (D := D) (ci := 9) (v := .ref qm) (C := RX9) (T := TX9) (N := 14) hx hb hts inGX9 hown hK hP 0 rfl rfl 0 (by decide) (hts _ fl_X9_7) (fun _ h9 => h9) rfl dX9_cheapest_33 ?_
      refine lv_iconst (v := 1) hx hb dX9_cheapest_36 (by decide) ?_
      have b_3 : ¬ ((1 : Int32) < 0 ∨ 5040 ≤ ((1 : Int32)).toNatClampNeg) := fun q => by rw [if_pos q] at hf; cases hf
      rw [if_neg b_3] at hf
      refine va_iald hx hb hK hP 1 0 rfl rfl b_3 dX9_cheapest_37 ?_
      refine va_put (D := D) (ci := 9) (v := .int (mm ((1 : Int32)).toNatClampNeg)) (ty := .int) (C := RX9) (T := TX9) (N := 14) hx hb hts inGX9 tyX9 tyX9_ok nmX9 hown hK hP hD hS 0 rfl rfl 13 (by decide) (hts _ fl_X9_127) (fun _ h9 => h9) rfl (by decide +kernel) rfl rfl (Nat.le_of_ble_eq_true rfl) dX9_cheapest_38 (fun H locs hP hD hS => ?_)
      have hP : va_P D vwCl [(q, .inr (9, [.ref qm, .int kept, .ref qi, .int im, .ref qp, .int pm, .ref qo, .int om, .ref qg, .long lo, .long hi_, .long cde, .int fr, .int (mm ((1 : Int32)).toNatClampNeg)])), (qm, .inl (cI, 5040, .inl mm)), (qi, .inl (cI, 60, .inl inp)), (qp, .inl (cI, 2000, .inl pk)), (qo, .inl (cI, 60, .inl out)), (qg, .inl (cI, 6, .inl gr))] H := hP
      have hD : va_D A [(q, .inr (9, [.ref qm, .int kept, .ref qi, .int im, .ref qp, .int pm, .ref qo, .int om, .ref qg, .long lo, .long hi_, .long cde, .int fr, .int (mm ((1 : Int32)).toNatClampNeg)])), (qm, .inl (cI, 5040, .inl mm)), (qi, .inl (cI, 60, .inl inp)), (qp, .inl (cI, 2000, .inl pk)), (qo, .inl (cI, 60, .inl out)), (qg, .inl (cI, 6, .inl gr))] := hD
      refine lv_iconst (v := 0) hx hb dX9_cheapest_41 (by decide) ?_
      refine lv_istore (lv' := [(6, .int 0), (5, .int 0), (0, .ref q), (1, .int v1), (2, .int v2), (3, .int v3), (4, .int v4)]) hx hb dX9_cheapest_42 hl (by decide) rfl (fun ls hl => ?_)
      obtain ⟨v5_10, v6_11, sp_12, hc_13, hf⟩ := bd3 hf
      refine L_X9_cheapest_44 S hK hN hSF hA _ 0 0 (mm ((1 : Int32)).toNatClampNeg) v5_10 v6_11 sp_12 hc_13 _ _ _ hP hD hS (lv_sub hl [2, 3, 4, 5, 6, 1, 0] rfl) (fun H locs ls hP hD hS hl => ?_)
      refine lv_iload hx hb dX9_cheapest_81 (lv_at hl 5 rfl) ?_
      refine lv_iload_n hx hb dX9_cheapest_83 rfl (lv_at hl 3 rfl) ?_
      refine lv_icmp_ge (tgt := 92) hx hb dX9_cheapest_84 (by decide) (fun c_14 => ?_) (fun c_14 => ?_)
      · rw [if_pos c_14] at hf
        refine lv_iload_n hx hb dX9_cheapest_92 rfl (lv_at hl 2 rfl) ?_
        refine lv_istore_n (lv' := [(2, .int v2), (0, .ref q), (1, .int v1), (3, .int v3), (4, .int v4), (5, .int v5_10), (6, .int v6_11)]) hx hb dX9_cheapest_93 rfl hl (by decide) rfl (fun ls hl => ?_)
        refine lv_iload hx hb dX9_cheapest_94 (lv_at hl 5 rfl) ?_
        refine lv_iload_n hx hb dX9_cheapest_96 rfl (lv_at hl 3 rfl) ?_
        refine lv_icmp_ge (tgt := 105) hx hb dX9_cheapest_97 (by decide) (fun c_15 => ?_) (fun c_15 => ?_)
        · refine lv_iload_n hx hb dX9_cheapest_105 rfl (lv_at hl 3 rfl) ?_
          refine lv_istore_n (lv' := [(3, .int v3), (2, .int v2), (0, .ref q), (1, .int v1), (4, .int v4), (5, .int v5_10), (6, .int v6_11)]) hx hb dX9_cheapest_106 rfl hl (by decide) rfl (fun ls hl => ?_)
          refine lv_iinc (v := v4 + 1) (lv' := [(4, .int (v4 + 1)), (3, .int v3), (2, .int v2), (0, .ref q), (1, .int v1), (5, .int v5_10), (6, .int v6_11)]) hx hb dX9_cheapest_107 hl (k := 4) rfl rfl (by decide) rfl (fun ls hl => ?_)
          refine lv_goto (tgt := 20) hx hb dX9_cheapest_110 (by decide) ?_
          have hf := Option.some.inj hf
          subst hf
          exact ih v2 v3 (v4 + 1) sp_12 _ _ _ _ hz H locs ls hP hD hS (lv_sub hl [3, 4, 2, 1, 0] rfl) kk
        · exact absurd c_14 c_15
      · rw [if_neg c_14] at hf
        refine lv_iload hx hb dX9_cheapest_87 (lv_at hl 4 rfl) ?_
        refine lv_goto (tgt := 93) hx hb dX9_cheapest_89 (by decide) ?_
        refine lv_istore_n (lv' := [(2, .int v4), (0, .ref q), (1, .int v1), (3, .int v3), (4, .int v4), (5, .int v5_10), (6, .int v6_11)]) hx hb dX9_cheapest_93 rfl hl (by decide) rfl (fun ls hl => ?_)
        refine lv_iload hx hb dX9_cheapest_94 (lv_at hl 5 rfl) ?_
        refine lv_iload_n hx hb dX9_cheapest_96 rfl (lv_at hl 3 rfl) ?_
        refine lv_icmp_ge (tgt := 105) hx hb dX9_cheapest_97 (by decide) (fun c_16 => ?_) (fun c_16 => ?_)
        · exact absurd c_16 c_14
        · refine lv_iload hx hb dX9_cheapest_100 (lv_at hl 5 rfl) ?_
          refine lv_goto (tgt := 106) hx hb dX9_cheapest_102 (by decide) ?_
          refine lv_istore_n (lv' := [(3, .int v5_10), (2, .int v4), (0, .ref q), (1, .int v1), (4, .int v4), (5, .int v5_10), (6, .int v6_11)]) hx hb dX9_cheapest_106 rfl hl (by decide) rfl (fun ls hl => ?_)
          refine lv_iinc (v := v4 + 1) (lv' := [(4, .int (v4 + 1)), (3, .int v5_10), (2, .int v4), (0, .ref q), (1, .int v1), (5, .int v5_10), (6, .int v6_11)]) hx hb dX9_cheapest_107 hl (k := 4) rfl rfl (by decide) rfl (fun ls hl => ?_)
          refine lv_goto (tgt := 20) hx hb dX9_cheapest_110 (by decide) ?_
          have hf := Option.some.inj hf
          subst hf
          exact ih v4 v5_10 (v4 + 1) sp_12 _ _ _ _ hz H locs ls hP hD hS (lv_sub hl [3, 4, 2, 1, 0] rfl) kk
def f_X9_cheapest (sp : Int32) (mm : (Nat → Int32)) (x1 : Int32) : Option (Int32 × Int32) := if (f_X9_in ((x1).toInt64) (0 : Int64) (1 : Int64)) = 0 then (some ((-1 : Int32), sp)) else (bi4 (f_X9_cheapest_L20 mm 4096 0 1000000 0 sp) (fun (v2_17 : Int32) (v3_18 : Int32) (v4_19 : Int32) (sp_20 : Int32) => if x1 = 0 then (some (v2_17, sp_20)) else (some (v3_18, sp_20))))
set_option maxHeartbeats 4000000 in
set_option maxRecDepth 100000 in
theorem c_X9_cheapest (l : Launch) (D : va_G) (cI : ClassId) {sz : Nat} (q : Nat) (qm : Nat) (qi : Nat) (qp : Nat) (qo : Nat) (qg : Nat) (kept : Int32) (im : Int32) (pm : Int32) (om : Int32) (lo : Int64) (hi_ : Int64) (cde : Int64) (fr : Int32) (sp : Int32) (mm : (Nat → Int32)) (inp : (Nat → Int32)) (pk : (Nat → Int32)) (out : (Nat → Int32)) (gr : (Nat → Int32)) (x1 : Int32) (r : Int32) (o_sp : Int32) (hf : f_X9_cheapest sp mm x1 = some (r, o_sp)) : Met l yX9_cheapest (.code yX9_cheapest cX9_cheapest 8 (some .int) :: wsG) ({ frames := 3, cells := 0, slots := 0, locals := 68 }) (va_Pc [.ref q, .int x1] (gv D cI sz [(q, .inr (9, [.ref qm, .int kept, .ref qi, .int im, .ref qp, .int pm, .ref qo, .int om, .ref qg, .long lo, .long hi_, .long cde, .int fr, .int sp])), (qm, .inl (cI, 5040, .inl mm)), (qi, .inl (cI, 60, .inl inp)), (qp, .inl (cI, 2000, .inl pk)), (qo, .inl (cI, 60, .inl out)), (qg, .inl (cI, 6, .inl gr))])) (va_Qi (fun x (_ : Unit) => x = r) (gz D (va_A [(q, .inr (9, [.ref qm, .int kept, .ref qi, .int im, .ref qp, .int pm, .ref qo, .int om, .ref qg, .long lo, .long hi_, .long cde, .int fr, .int sp])), (qm, .inl (cI, 5040, .inl mm)), (qi, .inl (cI, 60, .inl inp)), (qp, .inl (cI, 2000, .inl pk)), (qo, .inl (cI, 60, .inl out)), (qg, .inl (cI, 6, .inl gr))] sz) [(q, .inr (9, [.ref qm, .int kept, .ref qi, .int im, .ref qp, .int pm, .ref qo, .int om, .ref qg, .long lo, .long hi_, .long cde, .int fr, .int o_sp])), (qm, .inl (cI, 5040, .inl mm)), (qi, .inl (cI, 60, .inl inp)), (qp, .inl (cI, 2000, .inl pk)), (qo, .inl (cI, 60, .inl out)), (qg, .inl (cI, 6, .inl gr))]) (va_A [(q, .inr (9, [.ref qm, .int kept, .ref qi, .int im, .ref qp, .int pm, .ref qo, .int om, .ref qg, .long lo, .long hi_, .long cde, .int fr, .int sp])), (qm, .inl (cI, 5040, .inl mm)), (qi, .inl (cI, 60, .inl inp)), (qp, .inl (cI, 2000, .inl pk)), (qo, .inl (cI, 60, .inl out)), (qg, .inl (cI, 6, .inl gr))] sz)) 0 0 (va_A [(q, .inr (9, [.ref qm, .int kept, .ref qi, .int im, .ref qp, .int pm, .ref qo, .int om, .ref qg, .long lo, .long hi_, .long cde, .int fr, .int sp])), (qm, .inl (cI, 5040, .inl mm)), (qi, .inl (cI, 60, .inl inp)), (qp, .inl (cI, 2000, .inl pk)), (qo, .inl (cI, 60, .inl out)), (qg, .inl (cI, 6, .inl gr))] sz) := by
  refine k_rw (y := yX9_cheapest) (cc := cX9_cheapest) (maxL := 8) (ret := (some .int)) (As := [.ref q, .int x1]) (Qc := fun A => va_Qi (fun x (_ : Unit) => x = r) (gz D A [(q, .inr (9, [.ref qm, .int kept, .ref qi, .int im, .ref qp, .int pm, .ref qo, .int om, .ref qg, .long lo, .long hi_, .long cde, .int fr, .int o_sp])), (qm, .inl (cI, 5040, .inl mm)), (qi, .inl (cI, 60, .inl inp)), (qp, .inl (cI, 2000, .inl pk)), (qo, .inl (cI, 60, .inl out)), (qg, .inl (cI, 6, .inl gr))]) A) (by decide) rfl (Nat.le_of_ble_eq_true rfl) rfl ?_
  intro p e s m below meth c ls A S hret hloc hK hN hSF hP hD hS hA hl
  obtain ⟨hx, hb, hml, hown, hts⟩ := id S
  unfold f_X9_cheapest at hf
  refine lv_iload_n hx hb dX9_cheapest_0 rfl (lv_at hl 1 rfl) ?_
  refine lv_i2l hx hb dX9_cheapest_1 rfl ?_
  refine lv_lconst (v := 0) hx hb dX9_cheapest_2 (by decide) ?_
  refine lv_lconst (v := 1) hx hb dX9_cheapest_3 (by decide) ?_
  refine k_roSi (As := [.long ((x1).toInt64), .long (0 : Int64), .long (1 : Int64)]) (rest := []) S (c_X9_in l D cI (x1 := (x1).toInt64) (x2 := (0 : Int64)) (x3 := (1 : Int64))  (r := (f_X9_in ((x1).toInt64) (0 : Int64) (1 : Int64))) (hf := rfl)) gs_X9_46 ok_X9_in ⟨rfl, rfl⟩ ⟨Nat.le_of_ble_eq_true rfl, Nat.le_of_ble_eq_true rfl⟩ hK hN (sfr hSF hS) (hP.sub [] rfl) rfl hl.1 rfl (Nat.le_of_ble_eq_true rfl) ⟨Nat.zero_le _, Nat.zero_le _⟩ dX9_cheapest_4 ?_
  refine lv_if_ne (tgt := 12) hx hb dX9_cheapest_7 (by decide) (fun c_1 => ?_) (fun c_1 => ?_)
  · rw [if_neg c_1] at hf
    refine lv_iconst (v := 0) hx hb dX9_cheapest_12 (by decide) ?_
    refine lv_istore_n (lv' := [(2, .int 0), (0, .ref q), (1, .int x1)]) hx hb dX9_cheapest_13 rfl hl (by decide) rfl (fun ls hl => ?_)
    refine lv_ldc (v := 1000000) hx hb hown (hts _ ck_X9_137) dX9_cheapest_14 ?_
    refine lv_istore_n (lv' := [(3, .int 1000000), (2, .int 0), (0, .ref q), (1, .int x1)]) hx hb dX9_cheapest_16 rfl hl (by decide) rfl (fun ls hl => ?_)
    refine lv_iconst (v := 0) hx hb dX9_cheapest_17 (by decide) ?_
    refine lv_istore (lv' := [(4, .int 0), (3, .int 1000000), (2, .int 0), (0, .ref q), (1, .int x1)]) hx hb dX9_cheapest_18 hl (by decide) rfl (fun ls hl => ?_)
    obtain ⟨v2_17, v3_18, v4_19, sp_20, hc_21, hf⟩ := bd4 hf
    refine L_X9_cheapest_20 S hK hN hSF hA _ 0 1000000 0 sp v2_17 v3_18 v4_19 sp_20 hc_21 _ _ _ hP hD hS (lv_sub hl [3, 4, 2, 1, 0] rfl) (fun H locs ls hP hD hS hl => ?_)
    refine lv_iload_n hx hb dX9_cheapest_113 rfl (lv_at hl 1 rfl) ?_
    refine lv_if_ne (tgt := 121) hx hb dX9_cheapest_114 (by decide) (fun c_22 => ?_) (fun c_22 => ?_)
    · rw [if_neg c_22] at hf
      refine lv_iload_n hx hb dX9_cheapest_121 rfl (lv_at hl 3 rfl) ?_
      obtain ⟨e_0, e_1⟩ := Prod.mk.inj (Option.some.inj hf)
      subst e_0
      subst e_1
      exact k_wreti hx hb hret hloc rfl hP hD hS dX9_cheapest_122
    · rw [if_pos c_22] at hf
      refine lv_iload_n hx hb dX9_cheapest_117 rfl (lv_at hl 2 rfl) ?_
      refine lv_goto (tgt := 122) hx hb dX9_cheapest_118 (by decide) ?_
      obtain ⟨e_0, e_1⟩ := Prod.mk.inj (Option.some.inj hf)
      subst e_0
      subst e_1
      exact k_wreti hx hb hret hloc rfl hP hD hS dX9_cheapest_122
  · rw [if_pos c_1] at hf
    refine lv_iconst (v := (-1)) hx hb dX9_cheapest_10 (by decide) ?_
    obtain ⟨e_0, e_1⟩ := Prod.mk.inj (Option.some.inj hf)
    subst e_0
    subst e_1
    exact k_wreti hx hb hret hloc rfl hP hD hS dX9_cheapest_11
theorem dX9_keep_0 : decode cX9_keep 0 = .ok (.aload_n 0, 1) := by decide +kernel
theorem dX9_keep_1 : decode cX9_keep 1 = .ok (.getfield 138, 3) := by decide +kernel
theorem dX9_keep_4 : decode cX9_keep 4 = .ok (.iconst 2, 1) := by decide +kernel
theorem dX9_keep_5 : decode cX9_keep 5 = .ok (.if_icmp .ne 6, 3) := by decide +kernel
theorem dX9_keep_8 : decode cX9_keep 8 = .ok (.bipush (-3), 2) := by decide +kernel
theorem dX9_keep_10 : decode cX9_keep 10 = .ok (.ireturn, 1) := by decide +kernel
theorem dX9_keep_11 : decode cX9_keep 11 = .ok (.iconst 0, 1) := by decide +kernel
theorem dX9_keep_12 : decode cX9_keep 12 = .ok (.istore_n 1, 1) := by decide +kernel
theorem dX9_keep_13 : decode cX9_keep 13 = .ok (.iload_n 1, 1) := by decide +kernel
theorem dX9_keep_14 : decode cX9_keep 14 = .ok (.sipush 1260, 3) := by decide +kernel
theorem dX9_keep_17 : decode cX9_keep 17 = .ok (.if_icmp .ge 34, 3) := by decide +kernel
theorem dX9_keep_20 : decode cX9_keep 20 = .ok (.aload_n 0, 1) := by decide +kernel
theorem dX9_keep_21 : decode cX9_keep 21 = .ok (.getfield 7, 3) := by decide +kernel
theorem dX9_keep_24 : decode cX9_keep 24 = .ok (.sipush 2520, 3) := by decide +kernel
theorem dX9_keep_27 : decode cX9_keep 27 = .ok (.sipush 1260, 3) := by decide +kernel
theorem dX9_keep_30 : decode cX9_keep 30 = .ok (.aload_n 0, 1) := by decide +kernel
theorem dX9_keep_31 : decode cX9_keep 31 = .ok (.getfield 138, 3) := by decide +kernel
theorem dX9_keep_34 : decode cX9_keep 34 = .ok (.imul, 1) := by decide +kernel
theorem dX9_keep_35 : decode cX9_keep 35 = .ok (.iadd, 1) := by decide +kernel
theorem dX9_keep_36 : decode cX9_keep 36 = .ok (.iload_n 1, 1) := by decide +kernel
theorem dX9_keep_37 : decode cX9_keep 37 = .ok (.iadd, 1) := by decide +kernel
theorem dX9_keep_38 : decode cX9_keep 38 = .ok (.aload_n 0, 1) := by decide +kernel
theorem dX9_keep_39 : decode cX9_keep 39 = .ok (.getfield 7, 3) := by decide +kernel
theorem dX9_keep_42 : decode cX9_keep 42 = .ok (.iload_n 1, 1) := by decide +kernel
theorem dX9_keep_43 : decode cX9_keep 43 = .ok (.iaload, 1) := by decide +kernel
theorem dX9_keep_44 : decode cX9_keep 44 = .ok (.iastore, 1) := by decide +kernel
theorem dX9_keep_45 : decode cX9_keep 45 = .ok (.iinc 1 1, 3) := by decide +kernel
theorem dX9_keep_48 : decode cX9_keep 48 = .ok (.goto (-35), 3) := by decide +kernel
theorem dX9_keep_51 : decode cX9_keep 51 = .ok (.aload_n 0, 1) := by decide +kernel
theorem dX9_keep_52 : decode cX9_keep 52 = .ok (.dup, 1) := by decide +kernel
theorem dX9_keep_53 : decode cX9_keep 53 = .ok (.getfield 138, 3) := by decide +kernel
theorem dX9_keep_56 : decode cX9_keep 56 = .ok (.iconst 1, 1) := by decide +kernel
theorem dX9_keep_57 : decode cX9_keep 57 = .ok (.iadd, 1) := by decide +kernel
theorem dX9_keep_58 : decode cX9_keep 58 = .ok (.putfield 138, 3) := by decide +kernel
theorem dX9_keep_61 : decode cX9_keep 61 = .ok (.aload_n 0, 1) := by decide +kernel
theorem dX9_keep_62 : decode cX9_keep 62 = .ok (.getfield 138, 3) := by decide +kernel
theorem dX9_keep_65 : decode cX9_keep 65 = .ok (.ireturn, 1) := by decide +kernel
def st_X9_keep_L13 (kept : Int32) (v1 : Int32) (mm : (Nat → Int32)) : Option ((Int32 × (Nat → Int32)) ⊕ (Int32 × (Nat → Int32))) := if 1260 ≤ v1 then (some (Sum.inr (v1, mm))) else (if v1 < 0 ∨ 5040 ≤ (v1).toNatClampNeg then none else (if ((2520 + (1260 * kept)) + v1) < 0 ∨ 5040 ≤ ((2520 + (1260 * kept)) + v1).toNatClampNeg then none else (some (Sum.inl (v1 + 1, upd mm ((2520 + (1260 * kept)) + v1).toNatClampNeg (mm (v1).toNatClampNeg))))))
def f_X9_keep_L13 (kept : Int32) (k : Nat) (v1 : Int32) (mm : (Nat → Int32)) : Option (Int32 × (Nat → Int32)) := lpN (fun z => st_X9_keep_L13 kept z.1 z.2) k (v1, mm)
set_option maxHeartbeats 4000000 in
set_option maxRecDepth 100000 in
theorem L_X9_keep_13 {p : Program} {l : Launch} {e : Env} {s : State} {m : MethodId} {args : Array Value} {below : List Frame} {meth : Method} {c : Code} {Q : State → Prop} {D : va_G} {cI : ClassId} {q : Nat} {qm : Nat} {qi : Nat} {qp : Nat} {qo : Nat} {qg : Nat} {kept : Int32} {im : Int32} {pm : Int32} {om : Int32} {lo : Int64} {hi_ : Int64} {cde : Int64} {fr : Int32} {sp : Int32} {inp : (Nat → Int32)} {pk : (Nat → Int32)} {out : (Nat → Int32)} {gr : (Nat → Int32)} {A : Nat → Prop} (S : CallFix p m c cX9_keep 2 s args wsG RX9) (hK : va_K D vwCl [(cI, .int)] s) (hN : nw s) (hSF : sf A s s.heap) (hA : ∀ q, s.heap.size ≤ q → A q) : ∀ (k : Nat) (v1 : Int32) (mm : (Nat → Int32)) (o_v1 : Int32) (o_mm : (Nat → Int32)), f_X9_keep_L13 kept k v1 mm = some (o_v1, o_mm) → ∀ (H : Heap) (locs : List Loc) (ls : Array Slot), va_P D vwCl [(q, .inr (9, [.ref qm, .int kept, .ref qi, .int im, .ref qp, .int pm, .ref qo, .int om, .ref qg, .long lo, .long hi_, .long cde, .int fr, .int sp])), (qm, .inl (cI, 5040, .inl mm)), (qi, .inl (cI, 60, .inl inp)), (qp, .inl (cI, 2000, .inl pk)), (qo, .inl (cI, 60, .inl out)), (qg, .inl (cI, 6, .inl gr))] H → va_D A [(q, .inr (9, [.ref qm, .int kept, .ref qi, .int im, .ref qp, .int pm, .ref qo, .int om, .ref qg, .long lo, .long hi_, .long cde, .int fr, .int sp])), (qm, .inl (cI, 5040, .inl mm)), (qi, .inl (cI, 60, .inl inp)), (qp, .inl (cI, 2000, .inl pk)), (qo, .inl (cI, 60, .inl out)), (qg, .inl (cI, 6, .inl gr))] → va_S A s.heap H locs → lv_has ls 2 [(0, .ref q), (1, .int v1)] → (∀ (H : Heap) (locs : List Loc) (ls : Array Slot), va_P D vwCl [(q, .inr (9, [.ref qm, .int kept, .ref qi, .int im, .ref qp, .int pm, .ref qo, .int om, .ref qg, .long lo, .long hi_, .long cde, .int fr, .int sp])), (qm, .inl (cI, 5040, .inl o_mm)), (qi, .inl (cI, 60, .inl inp)), (qp, .inl (cI, 2000, .inl pk)), (qo, .inl (cI, 60, .inl out)), (qg, .inl (cI, 6, .inl gr))] H → va_D A [(q, .inr (9, [.ref qm, .int kept, .ref qi, .int im, .ref qp, .int pm, .ref qo, .int om, .ref qg, .long lo, .long hi_, .long cde, .int fr, .int sp])), (qm, .inl (cI, 5040, .inl o_mm)), (qi, .inl (cI, 60, .inl inp)), (qp, .inl (cI, 2000, .inl pk)), (qo, .inl (cI, 60, .inl out)), (qg, .inl (cI, 6, .inl gr))] → va_S A s.heap H locs → lv_has ls 2 [(0, .ref q), (1, .int o_v1)] → W p l e (headSpec (.code yX9_keep cX9_keep 2 (some .int) :: wsG) { frames := 0, cells := 0, slots := 0, locals := 0 }).room s m args below meth c H locs 0 0 Q (F0 m 51 ls [])) → W p l e (headSpec (.code yX9_keep cX9_keep 2 (some .int) :: wsG) { frames := 0, cells := 0, slots := 0, locals := 0 }).room s m args below meth c H locs 0 0 Q (F0 m 13 ls []) := by
  obtain ⟨hx, hb, hml, hown, hts⟩ := id S
  intro k
  induction k with
  | zero =>
    intro v1 mm o_v1 o_mm hf
    cases hf
  | succ k ih =>
    intro v1 mm o_v1 o_mm hf H locs ls hP hD hS hl kk
    obtain ⟨z, hf, hz⟩ := lp_inv hf
    have hf : st_X9_keep_L13 kept v1 mm = some z := hf
    unfold st_X9_keep_L13 at hf
    refine lv_iload_n hx hb dX9_keep_13 rfl (lv_at hl 1 rfl) ?_
    refine lv_sipush (v := 1260) hx hb dX9_keep_14 (by decide) ?_
    refine lv_icmp_ge (tgt := 51) hx hb dX9_keep_17 (by decide) (fun c_2 => ?_) (fun c_2 => ?_)
    · rw [if_pos c_2] at hf
      have hf := Option.some.inj hf
      subst hf
      obtain ⟨e_0, e_1⟩ := Prod.mk.inj (lpC_r hz)
      subst e_0
      subst e_1
      exact kk H locs ls hP hD hS (lv_sub hl [0, 1] rfl)
    · rw [if_neg c_2] at hf
      refine lv_aload_n hx hb dX9_keep_20 rfl (lv_at hl 0 rfl) ?_
      refine va_get (D := D) (ci := 9) (v := .ref qm) (C := RX9) (T := TX9) (N := 14) hx hb hts inGX9 hown hK hP 0 rfl rfl 0 (by decide) (hts _ fl_X9_7) (fun _ h9 => h9) rfl dX9_keep_21 ?_
      refine lv_sipush (v := 2520) hx hb dX9_keep_24 (by decide) ?_
      refine lv_sipush (v := 1260) hx hb dX9_keep_27 (by decide) ?_
      refine lv_aload_n hx hb dX9_keep_30 rfl (lv_at hl 0 rfl) ?_
      refine va_get (D := D) (ci := 9) (v := .int kept) (C := RX9) (T := TX9) (N := 14) hx hb hts inGX9 hown hK hP 0 rfl rfl 1 (by decide) (hts _ fl_X9_138) (fun _ h9 => h9) rfl dX9_keep_31 ?_
      refine lv_imul hx hb dX9_keep_34 ?_
      refine lv_iadd hx hb dX9_keep_35 ?_
      refine lv_iload_n hx hb dX9_keep_36 rfl (lv_at hl 1 rfl) ?_
      refine lv_iadd hx hb dX9_keep_37 ?_
      refine lv_aload_n hx hb dX9_keep_38 rfl (lv_at hl 0 rfl) ?_
      refine va_get (D := D) (ci := 9) (v := .ref qm) (C := RX9) (T := TX9) (N := 14) hx hb hts inGX9 hown hK hP 0 rfl rfl 0 (by decide) (hts _ fl_X9_7) (fun _ h9 => h9) rfl dX9_keep_39 ?_
      refine lv_iload_n hx hb dX9_keep_42 rfl (lv_at hl 1 rfl) ?_
      have b_3 : ¬ (v1 < 0 ∨ 5040 ≤ (v1).toNatClampNeg) := fun q => by rw [if_pos q] at hf; cases hf
      rw [if_neg b_3] at hf
      refine va_iald hx hb hK hP 1 0 rfl rfl b_3 dX9_keep_43 ?_
      have b_4 : ¬ (((2520 + (1260 * kept)) + v1) < 0 ∨ 5040 ≤ ((2520 + (1260 * kept)) + v1).toNatClampNeg) := fun q => by rw [if_pos q] at hf; cases hf
      rw [if_neg b_4] at hf
      refine va_iast hx hb hK hP hD hS 1 0 rfl rfl b_4 dX9_keep_44 (fun H locs hP hD hS => ?_)
      have hP : va_P D vwCl [(q, .inr (9, [.ref qm, .int kept, .ref qi, .int im, .ref qp, .int pm, .ref qo, .int om, .ref qg, .long lo, .long hi_, .long cde, .int fr, .int sp])), (qm, .inl (cI, 5040, .inl (upd mm ((2520 + (1260 * kept)) + v1).toNatClampNeg (mm (v1).toNatClampNeg)))), (qi, .inl (cI, 60, .inl inp)), (qp, .inl (cI, 2000, .inl pk)), (qo, .inl (cI, 60, .inl out)), (qg, .inl (cI, 6, .inl gr))] H := hP
      have hD : va_D A [(q, .inr (9, [.ref qm, .int kept, .ref qi, .int im, .ref qp, .int pm, .ref qo, .int om, .ref qg, .long lo, .long hi_, .long cde, .int fr, .int sp])), (qm, .inl (cI, 5040, .inl (upd mm ((2520 + (1260 * kept)) + v1).toNatClampNeg (mm (v1).toNatClampNeg)))), (qi, .inl (cI, 60, .inl inp)), (qp, .inl (cI, 2000, .inl pk)), (qo, .inl (cI, 60, .inl out)), (qg, .inl (cI, 6, .inl gr))] := hD
      refine lv_iinc (v := v1 + 1) (lv' := [(1, .int (v1 + 1)), (0, .ref q)]) hx hb dX9_keep_45 hl (k := 1) rfl rfl (by decide) rfl (fun ls hl => ?_)
      refine lv_goto (tgt := 13) hx hb dX9_keep_48 (by decide) ?_
      have hf := Option.some.inj hf
      subst hf
      exact ih (v1 + 1) (upd mm ((2520 + (1260 * kept)) + v1).toNatClampNeg (mm (v1).toNatClampNeg)) _ _ hz H locs ls hP hD hS (lv_sub hl [1, 0] rfl) kk
def f_X9_keep (kept : Int32) (mm : (Nat → Int32)) : Option (Int32 × Int32 × (Nat → Int32)) := if kept = 2 then (some ((-3 : Int32), kept, mm)) else (bi2 (f_X9_keep_L13 kept 4096 0 mm) (fun (v1_5 : Int32) (mm_6 : (Nat → Int32)) => some (kept + 1, kept + 1, mm_6)))
set_option maxHeartbeats 4000000 in
set_option maxRecDepth 100000 in
theorem c_X9_keep (l : Launch) (D : va_G) (cI : ClassId) {sz : Nat} (q : Nat) (qm : Nat) (qi : Nat) (qp : Nat) (qo : Nat) (qg : Nat) (kept : Int32) (im : Int32) (pm : Int32) (om : Int32) (lo : Int64) (hi_ : Int64) (cde : Int64) (fr : Int32) (sp : Int32) (mm : (Nat → Int32)) (inp : (Nat → Int32)) (pk : (Nat → Int32)) (out : (Nat → Int32)) (gr : (Nat → Int32)) (r : Int32) (o_kept : Int32) (o_mm : (Nat → Int32)) (hf : f_X9_keep kept mm = some (r, o_kept, o_mm)) : Met l yX9_keep (.code yX9_keep cX9_keep 2 (some .int) :: wsG) ({ frames := 0, cells := 0, slots := 0, locals := 0 }) (va_Pc [.ref q] (gv D cI sz [(q, .inr (9, [.ref qm, .int kept, .ref qi, .int im, .ref qp, .int pm, .ref qo, .int om, .ref qg, .long lo, .long hi_, .long cde, .int fr, .int sp])), (qm, .inl (cI, 5040, .inl mm)), (qi, .inl (cI, 60, .inl inp)), (qp, .inl (cI, 2000, .inl pk)), (qo, .inl (cI, 60, .inl out)), (qg, .inl (cI, 6, .inl gr))])) (va_Qi (fun x (_ : Unit) => x = r) (gz D (va_A [(q, .inr (9, [.ref qm, .int kept, .ref qi, .int im, .ref qp, .int pm, .ref qo, .int om, .ref qg, .long lo, .long hi_, .long cde, .int fr, .int sp])), (qm, .inl (cI, 5040, .inl mm)), (qi, .inl (cI, 60, .inl inp)), (qp, .inl (cI, 2000, .inl pk)), (qo, .inl (cI, 60, .inl out)), (qg, .inl (cI, 6, .inl gr))] sz) [(q, .inr (9, [.ref qm, .int o_kept, .ref qi, .int im, .ref qp, .int pm, .ref qo, .int om, .ref qg, .long lo, .long hi_, .long cde, .int fr, .int sp])), (qm, .inl (cI, 5040, .inl o_mm)), (qi, .inl (cI, 60, .inl inp)), (qp, .inl (cI, 2000, .inl pk)), (qo, .inl (cI, 60, .inl out)), (qg, .inl (cI, 6, .inl gr))]) (va_A [(q, .inr (9, [.ref qm, .int kept, .ref qi, .int im, .ref qp, .int pm, .ref qo, .int om, .ref qg, .long lo, .long hi_, .long cde, .int fr, .int sp])), (qm, .inl (cI, 5040, .inl mm)), (qi, .inl (cI, 60, .inl inp)), (qp, .inl (cI, 2000, .inl pk)), (qo, .inl (cI, 60, .inl out)), (qg, .inl (cI, 6, .inl gr))] sz)) 0 0 (va_A [(q, .inr (9, [.ref qm, .int kept, .ref qi, .int im, .ref qp, .int pm, .ref qo, .int om, .ref qg, .long lo, .long hi_, .long cde, .int fr, .int sp])), (qm, .inl (cI, 5040, .inl mm)), (qi, .inl (cI, 60, .inl inp)), (qp, .inl (cI, 2000, .inl pk)), (qo, .inl (cI, 60, .inl out)), (qg, .inl (cI, 6, .inl gr))] sz) := by
  refine k_rw (y := yX9_keep) (cc := cX9_keep) (maxL := 2) (ret := (some .int)) (As := [.ref q]) (Qc := fun A => va_Qi (fun x (_ : Unit) => x = r) (gz D A [(q, .inr (9, [.ref qm, .int o_kept, .ref qi, .int im, .ref qp, .int pm, .ref qo, .int om, .ref qg, .long lo, .long hi_, .long cde, .int fr, .int sp])), (qm, .inl (cI, 5040, .inl o_mm)), (qi, .inl (cI, 60, .inl inp)), (qp, .inl (cI, 2000, .inl pk)), (qo, .inl (cI, 60, .inl out)), (qg, .inl (cI, 6, .inl gr))]) A) (by decide) rfl (Nat.le_of_ble_eq_true rfl) rfl ?_
  intro p e s m below meth c ls A S hret hloc hK hN hSF hP hD hS hA hl
  obtain ⟨hx, hb, hml, hown, hts⟩ := id S
  unfold f_X9_keep at hf
  refine lv_aload_n hx hb dX9_keep_0 rfl (lv_at hl 0 rfl) ?_
  refine va_get (D := D) (ci := 9) (v := .int kept) (C := RX9) (T := TX9) (N := 14) hx hb hts inGX9 hown hK hP 0 rfl rfl 1 (by decide) (hts _ fl_X9_138) (fun _ h9 => h9) rfl dX9_keep_1 ?_
  refine lv_iconst (v := 2) hx hb dX9_keep_4 (by decide) ?_
  refine lv_icmp_ne (tgt := 11) hx hb dX9_keep_5 (by decide) (fun c_1 => ?_) (fun c_1 => ?_)
  · rw [if_neg c_1] at hf
    refine lv_iconst (v := 0) hx hb dX9_keep_11 (by decide) ?_
    refine lv_istore_n (lv' := [(1, .int 0), (0, .ref q)]) hx hb dX9_keep_12 rfl hl (by decide) rfl (fun ls hl => ?_)
    obtain ⟨v1_5, mm_6, hc_7, hf⟩ := bd2 hf
    refine L_X9_keep_13 S hK hN hSF hA _ 0 mm v1_5 mm_6 hc_7 _ _ _ hP hD hS (lv_sub hl [1, 0] rfl) (fun H locs ls hP hD hS hl => ?_)
    refine lv_aload_n hx hb dX9_keep_51 rfl (lv_at hl 0 rfl) ?_
    refine lv_dup hx hb dX9_keep_52 rfl ?_
    refine va_get (D := D) (ci := 9) (v := .int kept) (C := RX9) (T := TX9) (N := 14) hx hb hts inGX9 hown hK hP 0 rfl rfl 1 (by decide) (hts _ fl_X9_138) (fun _ h9 => h9) rfl dX9_keep_53 ?_
    refine lv_iconst (v := 1) hx hb dX9_keep_56 (by decide) ?_
    refine lv_iadd hx hb dX9_keep_57 ?_
    refine va_put (D := D) (ci := 9) (v := .int (kept + 1)) (ty := .int) (C := RX9) (T := TX9) (N := 14) hx hb hts inGX9 tyX9 tyX9_ok nmX9 hown hK hP hD hS 0 rfl rfl 1 (by decide) (hts _ fl_X9_138) (fun _ h9 => h9) rfl (by decide +kernel) rfl rfl (Nat.le_of_ble_eq_true rfl) dX9_keep_58 (fun H locs hP hD hS => ?_)
    have hP : va_P D vwCl [(q, .inr (9, [.ref qm, .int (kept + 1), .ref qi, .int im, .ref qp, .int pm, .ref qo, .int om, .ref qg, .long lo, .long hi_, .long cde, .int fr, .int sp])), (qm, .inl (cI, 5040, .inl mm_6)), (qi, .inl (cI, 60, .inl inp)), (qp, .inl (cI, 2000, .inl pk)), (qo, .inl (cI, 60, .inl out)), (qg, .inl (cI, 6, .inl gr))] H := hP
    have hD : va_D A [(q, .inr (9, [.ref qm, .int (kept + 1), .ref qi, .int im, .ref qp, .int pm, .ref qo, .int om, .ref qg, .long lo, .long hi_, .long cde, .int fr, .int sp])), (qm, .inl (cI, 5040, .inl mm_6)), (qi, .inl (cI, 60, .inl inp)), (qp, .inl (cI, 2000, .inl pk)), (qo, .inl (cI, 60, .inl out)), (qg, .inl (cI, 6, .inl gr))] := hD
    refine lv_aload_n hx hb dX9_keep_61 rfl (lv_at hl 0 rfl) ?_
    refine va_get (D := D) (ci := 9) (v := .int (kept + 1)) (C := RX9) (T := TX9) (N := 14) hx hb hts inGX9 hown hK hP 0 rfl rfl 1 (by decide) (hts _ fl_X9_138) (fun _ h9 => h9) rfl dX9_keep_62 ?_
    obtain ⟨e_0, e_r⟩ := Prod.mk.inj (Option.some.inj hf)
    obtain ⟨e_1, e_2⟩ := Prod.mk.inj (e_r)
    subst e_0
    subst e_1
    subst e_2
    exact k_wreti hx hb hret hloc rfl hP hD hS dX9_keep_65
  · rw [if_pos c_1] at hf
    refine lv_bipush (v := (-3)) hx hb dX9_keep_8 (by decide) ?_
    obtain ⟨e_0, e_r⟩ := Prod.mk.inj (Option.some.inj hf)
    obtain ⟨e_1, e_2⟩ := Prod.mk.inj (e_r)
    subst e_0
    subst e_1
    subst e_2
    exact k_wreti hx hb hret hloc rfl hP hD hS dX9_keep_10
theorem dX9_back_0 : decode cX9_back 0 = .ok (.aload_n 0, 1) := by decide +kernel
theorem dX9_back_1 : decode cX9_back 1 = .ok (.getfield 138, 3) := by decide +kernel
theorem dX9_back_4 : decode cX9_back 4 = .ok (.ifCond .ne 6, 3) := by decide +kernel
theorem dX9_back_7 : decode cX9_back 7 = .ok (.bipush (-2), 2) := by decide +kernel
theorem dX9_back_9 : decode cX9_back 9 = .ok (.ireturn, 1) := by decide +kernel
theorem dX9_back_10 : decode cX9_back 10 = .ok (.aload_n 0, 1) := by decide +kernel
theorem dX9_back_11 : decode cX9_back 11 = .ok (.dup, 1) := by decide +kernel
theorem dX9_back_12 : decode cX9_back 12 = .ok (.getfield 138, 3) := by decide +kernel
theorem dX9_back_15 : decode cX9_back 15 = .ok (.iconst 1, 1) := by decide +kernel
theorem dX9_back_16 : decode cX9_back 16 = .ok (.isub, 1) := by decide +kernel
theorem dX9_back_17 : decode cX9_back 17 = .ok (.putfield 138, 3) := by decide +kernel
theorem dX9_back_20 : decode cX9_back 20 = .ok (.iconst 0, 1) := by decide +kernel
theorem dX9_back_21 : decode cX9_back 21 = .ok (.istore_n 1, 1) := by decide +kernel
theorem dX9_back_22 : decode cX9_back 22 = .ok (.iload_n 1, 1) := by decide +kernel
theorem dX9_back_23 : decode cX9_back 23 = .ok (.sipush 1260, 3) := by decide +kernel
theorem dX9_back_26 : decode cX9_back 26 = .ok (.if_icmp .ge 34, 3) := by decide +kernel
theorem dX9_back_29 : decode cX9_back 29 = .ok (.aload_n 0, 1) := by decide +kernel
theorem dX9_back_30 : decode cX9_back 30 = .ok (.getfield 7, 3) := by decide +kernel
theorem dX9_back_33 : decode cX9_back 33 = .ok (.iload_n 1, 1) := by decide +kernel
theorem dX9_back_34 : decode cX9_back 34 = .ok (.aload_n 0, 1) := by decide +kernel
theorem dX9_back_35 : decode cX9_back 35 = .ok (.getfield 7, 3) := by decide +kernel
theorem dX9_back_38 : decode cX9_back 38 = .ok (.sipush 2520, 3) := by decide +kernel
theorem dX9_back_41 : decode cX9_back 41 = .ok (.sipush 1260, 3) := by decide +kernel
theorem dX9_back_44 : decode cX9_back 44 = .ok (.aload_n 0, 1) := by decide +kernel
theorem dX9_back_45 : decode cX9_back 45 = .ok (.getfield 138, 3) := by decide +kernel
theorem dX9_back_48 : decode cX9_back 48 = .ok (.imul, 1) := by decide +kernel
theorem dX9_back_49 : decode cX9_back 49 = .ok (.iadd, 1) := by decide +kernel
theorem dX9_back_50 : decode cX9_back 50 = .ok (.iload_n 1, 1) := by decide +kernel
theorem dX9_back_51 : decode cX9_back 51 = .ok (.iadd, 1) := by decide +kernel
theorem dX9_back_52 : decode cX9_back 52 = .ok (.iaload, 1) := by decide +kernel
theorem dX9_back_53 : decode cX9_back 53 = .ok (.iastore, 1) := by decide +kernel
theorem dX9_back_54 : decode cX9_back 54 = .ok (.iinc 1 1, 3) := by decide +kernel
theorem dX9_back_57 : decode cX9_back 57 = .ok (.goto (-35), 3) := by decide +kernel
theorem dX9_back_60 : decode cX9_back 60 = .ok (.aload_n 0, 1) := by decide +kernel
theorem dX9_back_61 : decode cX9_back 61 = .ok (.getfield 138, 3) := by decide +kernel
theorem dX9_back_64 : decode cX9_back 64 = .ok (.ireturn, 1) := by decide +kernel
def st_X9_back_L22 (kept : Int32) (v1 : Int32) (mm : (Nat → Int32)) : Option ((Int32 × (Nat → Int32)) ⊕ (Int32 × (Nat → Int32))) := if 1260 ≤ v1 then (some (Sum.inr (v1, mm))) else (if ((2520 + (1260 * kept)) + v1) < 0 ∨ 5040 ≤ ((2520 + (1260 * kept)) + v1).toNatClampNeg then none else (if v1 < 0 ∨ 5040 ≤ (v1).toNatClampNeg then none else (some (Sum.inl (v1 + 1, upd mm (v1).toNatClampNeg (mm ((2520 + (1260 * kept)) + v1).toNatClampNeg))))))
def f_X9_back_L22 (kept : Int32) (k : Nat) (v1 : Int32) (mm : (Nat → Int32)) : Option (Int32 × (Nat → Int32)) := lpN (fun z => st_X9_back_L22 kept z.1 z.2) k (v1, mm)
set_option maxHeartbeats 4000000 in
set_option maxRecDepth 100000 in
theorem L_X9_back_22 {p : Program} {l : Launch} {e : Env} {s : State} {m : MethodId} {args : Array Value} {below : List Frame} {meth : Method} {c : Code} {Q : State → Prop} {D : va_G} {cI : ClassId} {q : Nat} {qm : Nat} {qi : Nat} {qp : Nat} {qo : Nat} {qg : Nat} {kept : Int32} {im : Int32} {pm : Int32} {om : Int32} {lo : Int64} {hi_ : Int64} {cde : Int64} {fr : Int32} {sp : Int32} {inp : (Nat → Int32)} {pk : (Nat → Int32)} {out : (Nat → Int32)} {gr : (Nat → Int32)} {A : Nat → Prop} (S : CallFix p m c cX9_back 2 s args wsG RX9) (hK : va_K D vwCl [(cI, .int)] s) (hN : nw s) (hSF : sf A s s.heap) (hA : ∀ q, s.heap.size ≤ q → A q) : ∀ (k : Nat) (v1 : Int32) (mm : (Nat → Int32)) (o_v1 : Int32) (o_mm : (Nat → Int32)), f_X9_back_L22 kept k v1 mm = some (o_v1, o_mm) → ∀ (H : Heap) (locs : List Loc) (ls : Array Slot), va_P D vwCl [(q, .inr (9, [.ref qm, .int kept, .ref qi, .int im, .ref qp, .int pm, .ref qo, .int om, .ref qg, .long lo, .long hi_, .long cde, .int fr, .int sp])), (qm, .inl (cI, 5040, .inl mm)), (qi, .inl (cI, 60, .inl inp)), (qp, .inl (cI, 2000, .inl pk)), (qo, .inl (cI, 60, .inl out)), (qg, .inl (cI, 6, .inl gr))] H → va_D A [(q, .inr (9, [.ref qm, .int kept, .ref qi, .int im, .ref qp, .int pm, .ref qo, .int om, .ref qg, .long lo, .long hi_, .long cde, .int fr, .int sp])), (qm, .inl (cI, 5040, .inl mm)), (qi, .inl (cI, 60, .inl inp)), (qp, .inl (cI, 2000, .inl pk)), (qo, .inl (cI, 60, .inl out)), (qg, .inl (cI, 6, .inl gr))] → va_S A s.heap H locs → lv_has ls 2 [(0, .ref q), (1, .int v1)] → (∀ (H : Heap) (locs : List Loc) (ls : Array Slot), va_P D vwCl [(q, .inr (9, [.ref qm, .int kept, .ref qi, .int im, .ref qp, .int pm, .ref qo, .int om, .ref qg, .long lo, .long hi_, .long cde, .int fr, .int sp])), (qm, .inl (cI, 5040, .inl o_mm)), (qi, .inl (cI, 60, .inl inp)), (qp, .inl (cI, 2000, .inl pk)), (qo, .inl (cI, 60, .inl out)), (qg, .inl (cI, 6, .inl gr))] H → va_D A [(q, .inr (9, [.ref qm, .int kept, .ref qi, .int im, .ref qp, .int pm, .ref qo, .int om, .ref qg, .long lo, .long hi_, .long cde, .int fr, .int sp])), (qm, .inl (cI, 5040, .inl o_mm)), (qi, .inl (cI, 60, .inl inp)), (qp, .inl (cI, 2000, .inl pk)), (qo, .inl (cI, 60, .inl out)), (qg, .inl (cI, 6, .inl gr))] → va_S A s.heap H locs → lv_has ls 2 [(0, .ref q), (1, .int o_v1)] → W p l e (headSpec (.code yX9_back cX9_back 2 (some .int) :: wsG) { frames := 0, cells := 0, slots := 0, locals := 0 }).room s m args below meth c H locs 0 0 Q (F0 m 60 ls [])) → W p l e (headSpec (.code yX9_back cX9_back 2 (some .int) :: wsG) { frames := 0, cells := 0, slots := 0, locals := 0 }).room s m args below meth c H locs 0 0 Q (F0 m 22 ls []) := by
  obtain ⟨hx, hb, hml, hown, hts⟩ := id S
  intro k
  induction k with
  | zero =>
    intro v1 mm o_v1 o_mm hf
    cases hf
  | succ k ih =>
    intro v1 mm o_v1 o_mm hf H locs ls hP hD hS hl kk
    obtain ⟨z, hf, hz⟩ := lp_inv hf
    have hf : st_X9_back_L22 kept v1 mm = some z := hf
    unfold st_X9_back_L22 at hf
    refine lv_iload_n hx hb dX9_back_22 rfl (lv_at hl 1 rfl) ?_
    refine lv_sipush (v := 1260) hx hb dX9_back_23 (by decide) ?_
    refine lv_icmp_ge (tgt := 60) hx hb dX9_back_26 (by decide) (fun c_2 => ?_) (fun c_2 => ?_)
    · rw [if_pos c_2] at hf
      have hf := Option.some.inj hf
      subst hf
      obtain ⟨e_0, e_1⟩ := Prod.mk.inj (lpC_r hz)
      subst e_0
      subst e_1
      exact kk H locs ls hP hD hS (lv_sub hl [0, 1] rfl)
    · rw [if_neg c_2] at hf
      refine lv_aload_n hx hb dX9_back_29 rfl (lv_at hl 0 rfl) ?_
      refine va_get (D := D) (ci := 9) (v := .ref qm) (C := RX9) (T := TX9) (N := 14) hx hb hts inGX9 hown hK hP 0 rfl rfl 0 (by decide) (hts _ fl_X9_7) (fun _ h9 => h9) rfl dX9_back_30 ?_
      refine lv_iload_n hx hb dX9_back_33 rfl (lv_at hl 1 rfl) ?_
      refine lv_aload_n hx hb dX9_back_34 rfl (lv_at hl 0 rfl) ?_
      refine va_get (D := D) (ci := 9) (v := .ref qm) (C := RX9) (T := TX9) (N := 14) hx hb hts inGX9 hown hK hP 0 rfl rfl 0 (by decide) (hts _ fl_X9_7) (fun _ h9 => h9) rfl dX9_back_35 ?_
      refine lv_sipush (v := 2520) hx hb dX9_back_38 (by decide) ?_
      refine lv_sipush (v := 1260) hx hb dX9_back_41 (by decide) ?_
      refine lv_aload_n hx hb dX9_back_44 rfl (lv_at hl 0 rfl) ?_
      refine va_get (D := D) (ci := 9) (v := .int kept) (C := RX9) (T := TX9) (N := 14) hx hb hts inGX9 hown hK hP 0 rfl rfl 1 (by decide) (hts _ fl_X9_138) (fun _ h9 => h9) rfl dX9_back_45 ?_
      refine lv_imul hx hb dX9_back_48 ?_
      refine lv_iadd hx hb dX9_back_49 ?_
      refine lv_iload_n hx hb dX9_back_50 rfl (lv_at hl 1 rfl) ?_
      refine lv_iadd hx hb dX9_back_51 ?_
      have b_3 : ¬ (((2520 + (1260 * kept)) + v1) < 0 ∨ 5040 ≤ ((2520 + (1260 * kept)) + v1).toNatClampNeg) := fun q => by rw [if_pos q] at hf; cases hf
      rw [if_neg b_3] at hf
      refine va_iald hx hb hK hP 1 0 rfl rfl b_3 dX9_back_52 ?_
      have b_4 : ¬ (v1 < 0 ∨ 5040 ≤ (v1).toNatClampNeg) := fun q => by rw [if_pos q] at hf; cases hf
      rw [if_neg b_4] at hf
      refine va_iast hx hb hK hP hD hS 1 0 rfl rfl b_4 dX9_back_53 (fun H locs hP hD hS => ?_)
      have hP : va_P D vwCl [(q, .inr (9, [.ref qm, .int kept, .ref qi, .int im, .ref qp, .int pm, .ref qo, .int om, .ref qg, .long lo, .long hi_, .long cde, .int fr, .int sp])), (qm, .inl (cI, 5040, .inl (upd mm (v1).toNatClampNeg (mm ((2520 + (1260 * kept)) + v1).toNatClampNeg)))), (qi, .inl (cI, 60, .inl inp)), (qp, .inl (cI, 2000, .inl pk)), (qo, .inl (cI, 60, .inl out)), (qg, .inl (cI, 6, .inl gr))] H := hP
      have hD : va_D A [(q, .inr (9, [.ref qm, .int kept, .ref qi, .int im, .ref qp, .int pm, .ref qo, .int om, .ref qg, .long lo, .long hi_, .long cde, .int fr, .int sp])), (qm, .inl (cI, 5040, .inl (upd mm (v1).toNatClampNeg (mm ((2520 + (1260 * kept)) + v1).toNatClampNeg)))), (qi, .inl (cI, 60, .inl inp)), (qp, .inl (cI, 2000, .inl pk)), (qo, .inl (cI, 60, .inl out)), (qg, .inl (cI, 6, .inl gr))] := hD
      refine lv_iinc (v := v1 + 1) (lv' := [(1, .int (v1 + 1)), (0, .ref q)]) hx hb dX9_back_54 hl (k := 1) rfl rfl (by decide) rfl (fun ls hl => ?_)
      refine lv_goto (tgt := 22) hx hb dX9_back_57 (by decide) ?_
      have hf := Option.some.inj hf
      subst hf
      exact ih (v1 + 1) (upd mm (v1).toNatClampNeg (mm ((2520 + (1260 * kept)) + v1).toNatClampNeg)) _ _ hz H locs ls hP hD hS (lv_sub hl [1, 0] rfl) kk
def f_X9_back (kept : Int32) (mm : (Nat → Int32)) : Option (Int32 × Int32 × (Nat → Int32)) := if kept = 0 then (some ((-2 : Int32), kept, mm)) else (bi2 (f_X9_back_L22 (kept - 1) 4096 0 mm) (fun (v1_5 : Int32) (mm_6 : (Nat → Int32)) => some (kept - 1, kept - 1, mm_6)))
set_option maxHeartbeats 4000000 in
set_option maxRecDepth 100000 in
theorem c_X9_back (l : Launch) (D : va_G) (cI : ClassId) {sz : Nat} (q : Nat) (qm : Nat) (qi : Nat) (qp : Nat) (qo : Nat) (qg : Nat) (kept : Int32) (im : Int32) (pm : Int32) (om : Int32) (lo : Int64) (hi_ : Int64) (cde : Int64) (fr : Int32) (sp : Int32) (mm : (Nat → Int32)) (inp : (Nat → Int32)) (pk : (Nat → Int32)) (out : (Nat → Int32)) (gr : (Nat → Int32)) (r : Int32) (o_kept : Int32) (o_mm : (Nat → Int32)) (hf : f_X9_back kept mm = some (r, o_kept, o_mm)) : Met l yX9_back (.code yX9_back cX9_back 2 (some .int) :: wsG) ({ frames := 0, cells := 0, slots := 0, locals := 0 }) (va_Pc [.ref q] (gv D cI sz [(q, .inr (9, [.ref qm, .int kept, .ref qi, .int im, .ref qp, .int pm, .ref qo, .int om, .ref qg, .long lo, .long hi_, .long cde, .int fr, .int sp])), (qm, .inl (cI, 5040, .inl mm)), (qi, .inl (cI, 60, .inl inp)), (qp, .inl (cI, 2000, .inl pk)), (qo, .inl (cI, 60, .inl out)), (qg, .inl (cI, 6, .inl gr))])) (va_Qi (fun x (_ : Unit) => x = r) (gz D (va_A [(q, .inr (9, [.ref qm, .int kept, .ref qi, .int im, .ref qp, .int pm, .ref qo, .int om, .ref qg, .long lo, .long hi_, .long cde, .int fr, .int sp])), (qm, .inl (cI, 5040, .inl mm)), (qi, .inl (cI, 60, .inl inp)), (qp, .inl (cI, 2000, .inl pk)), (qo, .inl (cI, 60, .inl out)), (qg, .inl (cI, 6, .inl gr))] sz) [(q, .inr (9, [.ref qm, .int o_kept, .ref qi, .int im, .ref qp, .int pm, .ref qo, .int om, .ref qg, .long lo, .long hi_, .long cde, .int fr, .int sp])), (qm, .inl (cI, 5040, .inl o_mm)), (qi, .inl (cI, 60, .inl inp)), (qp, .inl (cI, 2000, .inl pk)), (qo, .inl (cI, 60, .inl out)), (qg, .inl (cI, 6, .inl gr))]) (va_A [(q, .inr (9, [.ref qm, .int kept, .ref qi, .int im, .ref qp, .int pm, .ref qo, .int om, .ref qg, .long lo, .long hi_, .long cde, .int fr, .int sp])), (qm, .inl (cI, 5040, .inl mm)), (qi, .inl (cI, 60, .inl inp)), (qp, .inl (cI, 2000, .inl pk)), (qo, .inl (cI, 60, .inl out)), (qg, .inl (cI, 6, .inl gr))] sz)) 0 0 (va_A [(q, .inr (9, [.ref qm, .int kept, .ref qi, .int im, .ref qp, .int pm, .ref qo, .int om, .ref qg, .long lo, .long hi_, .long cde, .int fr, .int sp])), (qm, .inl (cI, 5040, .inl mm)), (qi, .inl (cI, 60, .inl inp)), (qp, .inl (cI, 2000, .inl pk)), (qo, .inl (cI, 60, .inl out)), (qg, .inl (cI, 6, .inl gr))] sz) := by
  refine k_rw (y := yX9_back) (cc := cX9_back) (maxL := 2) (ret := (some .int)) (As := [.ref q]) (Qc := fun A => va_Qi (fun x (_ : Unit) => x = r) (gz D A [(q, .inr (9, [.ref qm, .int o_kept, .ref qi, .int im, .ref qp, .int pm, .ref qo, .int om, .ref qg, .long lo, .long hi_, .long cde, .int fr, .int sp])), (qm, .inl (cI, 5040, .inl o_mm)), (qi, .inl (cI, 60, .inl inp)), (qp, .inl (cI, 2000, .inl pk)), (qo, .inl (cI, 60, .inl out)), (qg, .inl (cI, 6, .inl gr))]) A) (by decide) rfl (Nat.le_of_ble_eq_true rfl) rfl ?_
  intro p e s m below meth c ls A S hret hloc hK hN hSF hP hD hS hA hl
  obtain ⟨hx, hb, hml, hown, hts⟩ := id S
  unfold f_X9_back at hf
  refine lv_aload_n hx hb dX9_back_0 rfl (lv_at hl 0 rfl) ?_
  refine va_get (D := D) (ci := 9) (v := .int kept) (C := RX9) (T := TX9) (N := 14) hx hb hts inGX9 hown hK hP 0 rfl rfl 1 (by decide) (hts _ fl_X9_138) (fun _ h9 => h9) rfl dX9_back_1 ?_
  refine lv_if_ne (tgt := 10) hx hb dX9_back_4 (by decide) (fun c_1 => ?_) (fun c_1 => ?_)
  · rw [if_neg c_1] at hf
    refine lv_aload_n hx hb dX9_back_10 rfl (lv_at hl 0 rfl) ?_
    refine lv_dup hx hb dX9_back_11 rfl ?_
    refine va_get (D := D) (ci := 9) (v := .int kept) (C := RX9) (T := TX9) (N := 14) hx hb hts inGX9 hown hK hP 0 rfl rfl 1 (by decide) (hts _ fl_X9_138) (fun _ h9 => h9) rfl dX9_back_12 ?_
    refine lv_iconst (v := 1) hx hb dX9_back_15 (by decide) ?_
    refine lv_isub hx hb dX9_back_16 ?_
    refine va_put (D := D) (ci := 9) (v := .int (kept - 1)) (ty := .int) (C := RX9) (T := TX9) (N := 14) hx hb hts inGX9 tyX9 tyX9_ok nmX9 hown hK hP hD hS 0 rfl rfl 1 (by decide) (hts _ fl_X9_138) (fun _ h9 => h9) rfl (by decide +kernel) rfl rfl (Nat.le_of_ble_eq_true rfl) dX9_back_17 (fun H locs hP hD hS => ?_)
    have hP : va_P D vwCl [(q, .inr (9, [.ref qm, .int (kept - 1), .ref qi, .int im, .ref qp, .int pm, .ref qo, .int om, .ref qg, .long lo, .long hi_, .long cde, .int fr, .int sp])), (qm, .inl (cI, 5040, .inl mm)), (qi, .inl (cI, 60, .inl inp)), (qp, .inl (cI, 2000, .inl pk)), (qo, .inl (cI, 60, .inl out)), (qg, .inl (cI, 6, .inl gr))] H := hP
    have hD : va_D A [(q, .inr (9, [.ref qm, .int (kept - 1), .ref qi, .int im, .ref qp, .int pm, .ref qo, .int om, .ref qg, .long lo, .long hi_, .long cde, .int fr, .int sp])), (qm, .inl (cI, 5040, .inl mm)), (qi, .inl (cI, 60, .inl inp)), (qp, .inl (cI, 2000, .inl pk)), (qo, .inl (cI, 60, .inl out)), (qg, .inl (cI, 6, .inl gr))] := hD
    refine lv_iconst (v := 0) hx hb dX9_back_20 (by decide) ?_
    refine lv_istore_n (lv' := [(1, .int 0), (0, .ref q)]) hx hb dX9_back_21 rfl hl (by decide) rfl (fun ls hl => ?_)
    obtain ⟨v1_5, mm_6, hc_7, hf⟩ := bd2 hf
    refine L_X9_back_22 S hK hN hSF hA _ 0 mm v1_5 mm_6 hc_7 _ _ _ hP hD hS (lv_sub hl [1, 0] rfl) (fun H locs ls hP hD hS hl => ?_)
    refine lv_aload_n hx hb dX9_back_60 rfl (lv_at hl 0 rfl) ?_
    refine va_get (D := D) (ci := 9) (v := .int (kept - 1)) (C := RX9) (T := TX9) (N := 14) hx hb hts inGX9 hown hK hP 0 rfl rfl 1 (by decide) (hts _ fl_X9_138) (fun _ h9 => h9) rfl dX9_back_61 ?_
    obtain ⟨e_0, e_r⟩ := Prod.mk.inj (Option.some.inj hf)
    obtain ⟨e_1, e_2⟩ := Prod.mk.inj (e_r)
    subst e_0
    subst e_1
    subst e_2
    exact k_wreti hx hb hret hloc rfl hP hD hS dX9_back_64
  · rw [if_pos c_1] at hf
    refine lv_bipush (v := (-2)) hx hb dX9_back_7 (by decide) ?_
    obtain ⟨e_0, e_r⟩ := Prod.mk.inj (Option.some.inj hf)
    obtain ⟨e_1, e_2⟩ := Prod.mk.inj (e_r)
    subst e_0
    subst e_1
    subst e_2
    exact k_wreti hx hb hret hloc rfl hP hD hS dX9_back_9
theorem dX9_count_0 : decode cX9_count 0 = .ok (.iload_n 1, 1) := by decide +kernel
theorem dX9_count_1 : decode cX9_count 1 = .ok (.tableswitch 80 0 8 #[51, 51, 51, 51, 51, 60, 65, 70, 75], 51) := by decide +kernel
theorem dX9_count_52 : decode cX9_count 52 = .ok (.aload_n 0, 1) := by decide +kernel
theorem dX9_count_53 : decode cX9_count 53 = .ok (.getfield 7, 3) := by decide +kernel
theorem dX9_count_56 : decode cX9_count 56 = .ok (.iconst 5, 1) := by decide +kernel
theorem dX9_count_57 : decode cX9_count 57 = .ok (.iload_n 1, 1) := by decide +kernel
theorem dX9_count_58 : decode cX9_count 58 = .ok (.iadd, 1) := by decide +kernel
theorem dX9_count_59 : decode cX9_count 59 = .ok (.iaload, 1) := by decide +kernel
theorem dX9_count_60 : decode cX9_count 60 = .ok (.ireturn, 1) := by decide +kernel
theorem dX9_count_61 : decode cX9_count 61 = .ok (.aload_n 0, 1) := by decide +kernel
theorem dX9_count_62 : decode cX9_count 62 = .ok (.getfield 58, 3) := by decide +kernel
theorem dX9_count_65 : decode cX9_count 65 = .ok (.ireturn, 1) := by decide +kernel
theorem dX9_count_66 : decode cX9_count 66 = .ok (.aload_n 0, 1) := by decide +kernel
theorem dX9_count_67 : decode cX9_count 67 = .ok (.getfield 80, 3) := by decide +kernel
theorem dX9_count_70 : decode cX9_count 70 = .ok (.ireturn, 1) := by decide +kernel
theorem dX9_count_71 : decode cX9_count 71 = .ok (.aload_n 0, 1) := by decide +kernel
theorem dX9_count_72 : decode cX9_count 72 = .ok (.getfield 111, 3) := by decide +kernel
theorem dX9_count_75 : decode cX9_count 75 = .ok (.ireturn, 1) := by decide +kernel
theorem dX9_count_76 : decode cX9_count 76 = .ok (.aload_n 0, 1) := by decide +kernel
theorem dX9_count_77 : decode cX9_count 77 = .ok (.getfield 138, 3) := by decide +kernel
theorem dX9_count_80 : decode cX9_count 80 = .ok (.ireturn, 1) := by decide +kernel
theorem dX9_count_81 : decode cX9_count 81 = .ok (.iconst (-1), 1) := by decide +kernel
theorem dX9_count_82 : decode cX9_count 82 = .ok (.ireturn, 1) := by decide +kernel
def f_X9_count (kept : Int32) (im : Int32) (pm : Int32) (om : Int32) (mm : (Nat → Int32)) (x1 : Int32) : Option (Int32) := (if x1 = 0 then (if (5 + x1) < 0 ∨ 5040 ≤ (5 + x1).toNatClampNeg then none else (some (mm (5 + x1).toNatClampNeg))) else (if x1 = 1 then (if (5 + x1) < 0 ∨ 5040 ≤ (5 + x1).toNatClampNeg then none else (some (mm (5 + x1).toNatClampNeg))) else (if x1 = 2 then (if (5 + x1) < 0 ∨ 5040 ≤ (5 + x1).toNatClampNeg then none else (some (mm (5 + x1).toNatClampNeg))) else (if x1 = 3 then (if (5 + x1) < 0 ∨ 5040 ≤ (5 + x1).toNatClampNeg then none else (some (mm (5 + x1).toNatClampNeg))) else (if x1 = 4 then (if (5 + x1) < 0 ∨ 5040 ≤ (5 + x1).toNatClampNeg then none else (some (mm (5 + x1).toNatClampNeg))) else (if x1 = 5 then (some im) else (if x1 = 6 then (some pm) else (if x1 = 7 then (some om) else (if x1 = 8 then (some kept) else (some (-1 : Int32)))))))))))
set_option maxHeartbeats 4000000 in
set_option maxRecDepth 100000 in
theorem c_X9_count (l : Launch) (D : va_G) (cI : ClassId) (q : Nat) (qm : Nat) (qi : Nat) (qp : Nat) (qo : Nat) (qg : Nat) (kept : Int32) (im : Int32) (pm : Int32) (om : Int32) (lo : Int64) (hi_ : Int64) (cde : Int64) (fr : Int32) (sp : Int32) (mm : (Nat → Int32)) (inp : (Nat → Int32)) (pk : (Nat → Int32)) (out : (Nat → Int32)) (gr : (Nat → Int32)) (x1 : Int32) (r : Int32) (hf : f_X9_count kept im pm om mm x1 = some r) : Met l yX9_count (.code yX9_count cX9_count 2 (some .int) :: wsG) ({ frames := 0, cells := 0, slots := 0, locals := 0 }) (va_Pc [.ref q, .int x1] (gw D cI [(q, .inr (9, [.ref qm, .int kept, .ref qi, .int im, .ref qp, .int pm, .ref qo, .int om, .ref qg, .long lo, .long hi_, .long cde, .int fr, .int sp])), (qm, .inl (cI, 5040, .inl mm)), (qi, .inl (cI, 60, .inl inp)), (qp, .inl (cI, 2000, .inl pk)), (qo, .inl (cI, 60, .inl out)), (qg, .inl (cI, 6, .inl gr))])) (vp_Si (fun x => x = r)) 0 0 (fun _ => False) := by
  refine k_ro (by decide) rfl (Nat.le_of_ble_eq_true rfl) rfl ?_
  intro p e s m below meth c ls S hret hloc hK hN hSF hP hl
  obtain ⟨hx, hb, hml, hown, hts⟩ := id S
  unfold f_X9_count at hf
  refine lv_iload_n hx hb dX9_count_0 rfl (lv_at hl 1 rfl) ?_
  by_cases w_1 : x1 = 0
  · rw [if_pos w_1] at hf
    refine lv_tableIn (tgt := 52) hx hb dX9_count_1 (by rw [w_1]; decide) (by rw [w_1]; decide) (by rw [w_1]; rfl) (by decide) ?_
    refine lv_aload_n hx hb dX9_count_52 rfl (lv_at hl 0 rfl) ?_
    refine va_get (D := D) (ci := 9) (v := .ref qm) (C := RX9) (T := TX9) (N := 14) hx hb hts inGX9 hown hK hP 0 rfl rfl 0 (by decide) (hts _ fl_X9_7) (fun _ h9 => h9) rfl dX9_count_53 ?_
    refine lv_iconst (v := 5) hx hb dX9_count_56 (by decide) ?_
    refine lv_iload_n hx hb dX9_count_57 rfl (lv_at hl 1 rfl) ?_
    refine lv_iadd hx hb dX9_count_58 ?_
    have b_2 : ¬ ((5 + x1) < 0 ∨ 5040 ≤ (5 + x1).toNatClampNeg) := fun q => by rw [if_pos q] at hf; cases hf
    rw [if_neg b_2] at hf
    refine va_iald hx hb hK hP 1 0 rfl rfl b_2 dX9_count_59 ?_
    exact k_reti hx hb hret hloc (Option.some.inj hf) dX9_count_60
  rw [if_neg w_1] at hf
  by_cases w_3 : x1 = 1
  · rw [if_pos w_3] at hf
    refine lv_tableIn (tgt := 52) hx hb dX9_count_1 (by rw [w_3]; decide) (by rw [w_3]; decide) (by rw [w_3]; rfl) (by decide) ?_
    refine lv_aload_n hx hb dX9_count_52 rfl (lv_at hl 0 rfl) ?_
    refine va_get (D := D) (ci := 9) (v := .ref qm) (C := RX9) (T := TX9) (N := 14) hx hb hts inGX9 hown hK hP 0 rfl rfl 0 (by decide) (hts _ fl_X9_7) (fun _ h9 => h9) rfl dX9_count_53 ?_
    refine lv_iconst (v := 5) hx hb dX9_count_56 (by decide) ?_
    refine lv_iload_n hx hb dX9_count_57 rfl (lv_at hl 1 rfl) ?_
    refine lv_iadd hx hb dX9_count_58 ?_
    have b_4 : ¬ ((5 + x1) < 0 ∨ 5040 ≤ (5 + x1).toNatClampNeg) := fun q => by rw [if_pos q] at hf; cases hf
    rw [if_neg b_4] at hf
    refine va_iald hx hb hK hP 1 0 rfl rfl b_4 dX9_count_59 ?_
    exact k_reti hx hb hret hloc (Option.some.inj hf) dX9_count_60
  rw [if_neg w_3] at hf
  by_cases w_5 : x1 = 2
  · rw [if_pos w_5] at hf
    refine lv_tableIn (tgt := 52) hx hb dX9_count_1 (by rw [w_5]; decide) (by rw [w_5]; decide) (by rw [w_5]; rfl) (by decide) ?_
    refine lv_aload_n hx hb dX9_count_52 rfl (lv_at hl 0 rfl) ?_
    refine va_get (D := D) (ci := 9) (v := .ref qm) (C := RX9) (T := TX9) (N := 14) hx hb hts inGX9 hown hK hP 0 rfl rfl 0 (by decide) (hts _ fl_X9_7) (fun _ h9 => h9) rfl dX9_count_53 ?_
    refine lv_iconst (v := 5) hx hb dX9_count_56 (by decide) ?_
    refine lv_iload_n hx hb dX9_count_57 rfl (lv_at hl 1 rfl) ?_
    refine lv_iadd hx hb dX9_count_58 ?_
    have b_6 : ¬ ((5 + x1) < 0 ∨ 5040 ≤ (5 + x1).toNatClampNeg) := fun q => by rw [if_pos q] at hf; cases hf
    rw [if_neg b_6] at hf
    refine va_iald hx hb hK hP 1 0 rfl rfl b_6 dX9_count_59 ?_
    exact k_reti hx hb hret hloc (Option.some.inj hf) dX9_count_60
  rw [if_neg w_5] at hf
  by_cases w_7 : x1 = 3
  · rw [if_pos w_7] at hf
    refine lv_tableIn (tgt := 52) hx hb dX9_count_1 (by rw [w_7]; decide) (by rw [w_7]; decide) (by rw [w_7]; rfl) (by decide) ?_
    refine lv_aload_n hx hb dX9_count_52 rfl (lv_at hl 0 rfl) ?_
    refine va_get (D := D) (ci := 9) (v := .ref qm) (C := RX9) (T := TX9) (N := 14) hx hb hts inGX9 hown hK hP 0 rfl rfl 0 (by decide) (hts _ fl_X9_7) (fun _ h9 => h9) rfl dX9_count_53 ?_
    refine lv_iconst (v := 5) hx hb dX9_count_56 (by decide) ?_
    refine lv_iload_n hx hb dX9_count_57 rfl (lv_at hl 1 rfl) ?_
    refine lv_iadd hx hb dX9_count_58 ?_
    have b_8 : ¬ ((5 + x1) < 0 ∨ 5040 ≤ (5 + x1).toNatClampNeg) := fun q => by rw [if_pos q] at hf; cases hf
    rw [if_neg b_8] at hf
    refine va_iald hx hb hK hP 1 0 rfl rfl b_8 dX9_count_59 ?_
    exact k_reti hx hb hret hloc (Option.some.inj hf) dX9_count_60
  rw [if_neg w_7] at hf
  by_cases w_9 : x1 = 4
  · rw [if_pos w_9] at hf
    refine lv_tableIn (tgt := 52) hx hb dX9_count_1 (by rw [w_9]; decide) (by rw [w_9]; decide) (by rw [w_9]; rfl) (by decide) ?_
    refine lv_aload_n hx hb dX9_count_52 rfl (lv_at hl 0 rfl) ?_
    refine va_get (D := D) (ci := 9) (v := .ref qm) (C := RX9) (T := TX9) (N := 14) hx hb hts inGX9 hown hK hP 0 rfl rfl 0 (by decide) (hts _ fl_X9_7) (fun _ h9 => h9) rfl dX9_count_53 ?_
    refine lv_iconst (v := 5) hx hb dX9_count_56 (by decide) ?_
    refine lv_iload_n hx hb dX9_count_57 rfl (lv_at hl 1 rfl) ?_
    refine lv_iadd hx hb dX9_count_58 ?_
    have b_10 : ¬ ((5 + x1) < 0 ∨ 5040 ≤ (5 + x1).toNatClampNeg) := fun q => by rw [if_pos q] at hf; cases hf
    rw [if_neg b_10] at hf
    refine va_iald hx hb hK hP 1 0 rfl rfl b_10 dX9_count_59 ?_
    exact k_reti hx hb hret hloc (Option.some.inj hf) dX9_count_60
  rw [if_neg w_9] at hf
  by_cases w_11 : x1 = 5
  · rw [if_pos w_11] at hf
    refine lv_tableIn (tgt := 61) hx hb dX9_count_1 (by rw [w_11]; decide) (by rw [w_11]; decide) (by rw [w_11]; rfl) (by decide) ?_
    refine lv_aload_n hx hb dX9_count_61 rfl (lv_at hl 0 rfl) ?_
    refine va_get (D := D) (ci := 9) (v := .int im) (C := RX9) (T := TX9) (N := 14) hx hb hts inGX9 hown hK hP 0 rfl rfl 3 (by decide) (hts _ fl_X9_58) (fun _ h9 => h9) rfl dX9_count_62 ?_
    exact k_reti hx hb hret hloc (Option.some.inj hf) dX9_count_65
  rw [if_neg w_11] at hf
  by_cases w_12 : x1 = 6
  · rw [if_pos w_12] at hf
    refine lv_tableIn (tgt := 66) hx hb dX9_count_1 (by rw [w_12]; decide) (by rw [w_12]; decide) (by rw [w_12]; rfl) (by decide) ?_
    refine lv_aload_n hx hb dX9_count_66 rfl (lv_at hl 0 rfl) ?_
    refine va_get (D := D) (ci := 9) (v := .int pm) (C := RX9) (T := TX9) (N := 14) hx hb hts inGX9 hown hK hP 0 rfl rfl 5 (by decide) (hts _ fl_X9_80) (fun _ h9 => h9) rfl dX9_count_67 ?_
    exact k_reti hx hb hret hloc (Option.some.inj hf) dX9_count_70
  rw [if_neg w_12] at hf
  by_cases w_13 : x1 = 7
  · rw [if_pos w_13] at hf
    refine lv_tableIn (tgt := 71) hx hb dX9_count_1 (by rw [w_13]; decide) (by rw [w_13]; decide) (by rw [w_13]; rfl) (by decide) ?_
    refine lv_aload_n hx hb dX9_count_71 rfl (lv_at hl 0 rfl) ?_
    refine va_get (D := D) (ci := 9) (v := .int om) (C := RX9) (T := TX9) (N := 14) hx hb hts inGX9 hown hK hP 0 rfl rfl 7 (by decide) (hts _ fl_X9_111) (fun _ h9 => h9) rfl dX9_count_72 ?_
    exact k_reti hx hb hret hloc (Option.some.inj hf) dX9_count_75
  rw [if_neg w_13] at hf
  by_cases w_14 : x1 = 8
  · rw [if_pos w_14] at hf
    refine lv_tableIn (tgt := 76) hx hb dX9_count_1 (by rw [w_14]; decide) (by rw [w_14]; decide) (by rw [w_14]; rfl) (by decide) ?_
    refine lv_aload_n hx hb dX9_count_76 rfl (lv_at hl 0 rfl) ?_
    refine va_get (D := D) (ci := 9) (v := .int kept) (C := RX9) (T := TX9) (N := 14) hx hb hts inGX9 hown hK hP 0 rfl rfl 1 (by decide) (hts _ fl_X9_138) (fun _ h9 => h9) rfl dX9_count_77 ?_
    exact k_reti hx hb hret hloc (Option.some.inj hf) dX9_count_80
  rw [if_neg w_14] at hf
  refine lv_tableOut (tgt := 81) hx hb dX9_count_1 (tsw_9 w_1 w_3 w_5 w_7 w_9 w_11 w_12 w_13 w_14) (by decide) ?_
  refine lv_iconst (v := (-1)) hx hb dX9_count_81 (by decide) ?_
  exact k_reti hx hb hret hloc (Option.some.inj hf) dX9_count_82
theorem dX9_set_0 : decode cX9_set 0 = .ok (.iload_n 1, 1) := by decide +kernel
theorem dX9_set_1 : decode cX9_set 1 = .ok (.ifCond .ne 15, 3) := by decide +kernel
theorem dX9_set_4 : decode cX9_set 4 = .ok (.iload_n 2, 1) := by decide +kernel
theorem dX9_set_5 : decode cX9_set 5 = .ok (.i2l, 1) := by decide +kernel
theorem dX9_set_6 : decode cX9_set 6 = .ok (.lconst 0, 1) := by decide +kernel
theorem dX9_set_7 : decode cX9_set 7 = .ok (.ldc2_w 40, 3) := by decide +kernel
theorem dX9_set_10 : decode cX9_set 10 = .ok (.invokestatic 46, 3) := by decide +kernel
theorem dX9_set_13 : decode cX9_set 13 = .ok (.goto 64, 3) := by decide +kernel
theorem dX9_set_16 : decode cX9_set 16 = .ok (.iload_n 1, 1) := by decide +kernel
theorem dX9_set_17 : decode cX9_set 17 = .ok (.iconst 1, 1) := by decide +kernel
theorem dX9_set_18 : decode cX9_set 18 = .ok (.if_icmp .eq 8, 3) := by decide +kernel
theorem dX9_set_21 : decode cX9_set 21 = .ok (.iload_n 1, 1) := by decide +kernel
theorem dX9_set_22 : decode cX9_set 22 = .ok (.iconst 2, 1) := by decide +kernel
theorem dX9_set_23 : decode cX9_set 23 = .ok (.if_icmp .ne 15, 3) := by decide +kernel
theorem dX9_set_26 : decode cX9_set 26 = .ok (.iload_n 2, 1) := by decide +kernel
theorem dX9_set_27 : decode cX9_set 27 = .ok (.i2l, 1) := by decide +kernel
theorem dX9_set_28 : decode cX9_set 28 = .ok (.lconst 1, 1) := by decide +kernel
theorem dX9_set_29 : decode cX9_set 29 = .ok (.ldc2_w 50, 3) := by decide +kernel
theorem dX9_set_32 : decode cX9_set 32 = .ok (.invokestatic 46, 3) := by decide +kernel
theorem dX9_set_35 : decode cX9_set 35 = .ok (.goto 42, 3) := by decide +kernel
theorem dX9_set_38 : decode cX9_set 38 = .ok (.iload_n 1, 1) := by decide +kernel
theorem dX9_set_39 : decode cX9_set 39 = .ok (.iconst 3, 1) := by decide +kernel
theorem dX9_set_40 : decode cX9_set 40 = .ok (.if_icmp .ne 17, 3) := by decide +kernel
theorem dX9_set_43 : decode cX9_set 43 = .ok (.iload_n 2, 1) := by decide +kernel
theorem dX9_set_44 : decode cX9_set 44 = .ok (.i2l, 1) := by decide +kernel
theorem dX9_set_45 : decode cX9_set 45 = .ok (.ldc2_w 52, 3) := by decide +kernel
theorem dX9_set_48 : decode cX9_set 48 = .ok (.ldc2_w 54, 3) := by decide +kernel
theorem dX9_set_51 : decode cX9_set 51 = .ok (.invokestatic 46, 3) := by decide +kernel
theorem dX9_set_54 : decode cX9_set 54 = .ok (.goto 23, 3) := by decide +kernel
theorem dX9_set_57 : decode cX9_set 57 = .ok (.iload_n 1, 1) := by decide +kernel
theorem dX9_set_58 : decode cX9_set 58 = .ok (.iconst 4, 1) := by decide +kernel
theorem dX9_set_59 : decode cX9_set 59 = .ok (.if_icmp .ne 17, 3) := by decide +kernel
theorem dX9_set_62 : decode cX9_set 62 = .ok (.iload_n 2, 1) := by decide +kernel
theorem dX9_set_63 : decode cX9_set 63 = .ok (.i2l, 1) := by decide +kernel
theorem dX9_set_64 : decode cX9_set 64 = .ok (.lconst 0, 1) := by decide +kernel
theorem dX9_set_65 : decode cX9_set 65 = .ok (.lconst 1, 1) := by decide +kernel
theorem dX9_set_66 : decode cX9_set 66 = .ok (.invokestatic 46, 3) := by decide +kernel
theorem dX9_set_69 : decode cX9_set 69 = .ok (.ifCond .eq 7, 3) := by decide +kernel
theorem dX9_set_72 : decode cX9_set 72 = .ok (.iconst 1, 1) := by decide +kernel
theorem dX9_set_73 : decode cX9_set 73 = .ok (.goto 4, 3) := by decide +kernel
theorem dX9_set_76 : decode cX9_set 76 = .ok (.iconst 0, 1) := by decide +kernel
theorem dX9_set_77 : decode cX9_set 77 = .ok (.istore_n 3, 1) := by decide +kernel
theorem dX9_set_78 : decode cX9_set 78 = .ok (.iload_n 3, 1) := by decide +kernel
theorem dX9_set_79 : decode cX9_set 79 = .ok (.ifCond .ne 5, 3) := by decide +kernel
theorem dX9_set_82 : decode cX9_set 82 = .ok (.iconst (-1), 1) := by decide +kernel
theorem dX9_set_83 : decode cX9_set 83 = .ok (.ireturn, 1) := by decide +kernel
theorem dX9_set_84 : decode cX9_set 84 = .ok (.aload_n 0, 1) := by decide +kernel
theorem dX9_set_85 : decode cX9_set 85 = .ok (.getfield 7, 3) := by decide +kernel
theorem dX9_set_88 : decode cX9_set 88 = .ok (.iconst 5, 1) := by decide +kernel
theorem dX9_set_89 : decode cX9_set 89 = .ok (.iload_n 1, 1) := by decide +kernel
theorem dX9_set_90 : decode cX9_set 90 = .ok (.iadd, 1) := by decide +kernel
theorem dX9_set_91 : decode cX9_set 91 = .ok (.iaload, 1) := by decide +kernel
theorem dX9_set_92 : decode cX9_set 92 = .ok (.istore 4, 2) := by decide +kernel
theorem dX9_set_94 : decode cX9_set 94 = .ok (.iload 4, 2) := by decide +kernel
theorem dX9_set_96 : decode cX9_set 96 = .ok (.iload_n 2, 1) := by decide +kernel
theorem dX9_set_97 : decode cX9_set 97 = .ok (.if_icmp .ne 6, 3) := by decide +kernel
theorem dX9_set_100 : decode cX9_set 100 = .ok (.bipush (-2), 2) := by decide +kernel
theorem dX9_set_102 : decode cX9_set 102 = .ok (.ireturn, 1) := by decide +kernel
theorem dX9_set_103 : decode cX9_set 103 = .ok (.aload_n 0, 1) := by decide +kernel
theorem dX9_set_104 : decode cX9_set 104 = .ok (.getfield 7, 3) := by decide +kernel
theorem dX9_set_107 : decode cX9_set 107 = .ok (.iconst 5, 1) := by decide +kernel
theorem dX9_set_108 : decode cX9_set 108 = .ok (.iload_n 1, 1) := by decide +kernel
theorem dX9_set_109 : decode cX9_set 109 = .ok (.iadd, 1) := by decide +kernel
theorem dX9_set_110 : decode cX9_set 110 = .ok (.iload_n 2, 1) := by decide +kernel
theorem dX9_set_111 : decode cX9_set 111 = .ok (.iastore, 1) := by decide +kernel
theorem dX9_set_112 : decode cX9_set 112 = .ok (.aload_n 0, 1) := by decide +kernel
theorem dX9_set_113 : decode cX9_set 113 = .ok (.iconst 0, 1) := by decide +kernel
theorem dX9_set_114 : decode cX9_set 114 = .ok (.invokevirtual 25, 3) := by decide +kernel
theorem dX9_set_117 : decode cX9_set 117 = .ok (.iload 4, 2) := by decide +kernel
theorem dX9_set_119 : decode cX9_set 119 = .ok (.ireturn, 1) := by decide +kernel
def f_X9_set (mm : (Nat → Int32)) (x1 : Int32) (x2 : Int32) : Option (Int32 × (Nat → Int32)) := if x1 = 0 then (if (f_X9_in ((x2).toInt64) (0 : Int64) (2 : Int64)) = 0 then (some ((-1 : Int32), mm)) else (if (5 + x1) < 0 ∨ 5040 ≤ (5 + x1).toNatClampNeg then none else (if (mm (5 + x1).toNatClampNeg) = x2 then (some ((-2 : Int32), mm)) else (if (5 + x1) < 0 ∨ 5040 ≤ (5 + x1).toNatClampNeg then none else (bi1 (f_X9_renews (upd mm (5 + x1).toNatClampNeg x2) 0) (fun (t_47 : (Nat → Int32)) => some (mm (5 + x1).toNatClampNeg, t_47))))))) else (if x1 = 1 then (if (f_X9_in ((x2).toInt64) (1 : Int64) (200 : Int64)) = 0 then (some ((-1 : Int32), mm)) else (if (5 + x1) < 0 ∨ 5040 ≤ (5 + x1).toNatClampNeg then none else (if (mm (5 + x1).toNatClampNeg) = x2 then (some ((-2 : Int32), mm)) else (if (5 + x1) < 0 ∨ 5040 ≤ (5 + x1).toNatClampNeg then none else (bi1 (f_X9_renews (upd mm (5 + x1).toNatClampNeg x2) 0) (fun (t_7 : (Nat → Int32)) => some (mm (5 + x1).toNatClampNeg, t_7))))))) else (if x1 = 2 then (if (f_X9_in ((x2).toInt64) (1 : Int64) (200 : Int64)) = 0 then (some ((-1 : Int32), mm)) else (if (5 + x1) < 0 ∨ 5040 ≤ (5 + x1).toNatClampNeg then none else (if (mm (5 + x1).toNatClampNeg) = x2 then (some ((-2 : Int32), mm)) else (if (5 + x1) < 0 ∨ 5040 ≤ (5 + x1).toNatClampNeg then none else (bi1 (f_X9_renews (upd mm (5 + x1).toNatClampNeg x2) 0) (fun (t_41 : (Nat → Int32)) => some (mm (5 + x1).toNatClampNeg, t_41))))))) else (if x1 = 3 then (if (f_X9_in ((x2).toInt64) (40 : Int64) (250 : Int64)) = 0 then (some ((-1 : Int32), mm)) else (if (5 + x1) < 0 ∨ 5040 ≤ (5 + x1).toNatClampNeg then none else (if (mm (5 + x1).toNatClampNeg) = x2 then (some ((-2 : Int32), mm)) else (if (5 + x1) < 0 ∨ 5040 ≤ (5 + x1).toNatClampNeg then none else (bi1 (f_X9_renews (upd mm (5 + x1).toNatClampNeg x2) 0) (fun (t_35 : (Nat → Int32)) => some (mm (5 + x1).toNatClampNeg, t_35))))))) else (if x1 = 4 then (if (f_X9_in ((x2).toInt64) (0 : Int64) (1 : Int64)) = 0 then (if (0 : Int32) = 0 then (some ((-1 : Int32), mm)) else (if (5 + x1) < 0 ∨ 5040 ≤ (5 + x1).toNatClampNeg then none else (if (mm (5 + x1).toNatClampNeg) = x2 then (some ((-2 : Int32), mm)) else (if (5 + x1) < 0 ∨ 5040 ≤ (5 + x1).toNatClampNeg then none else (bi1 (f_X9_renews (upd mm (5 + x1).toNatClampNeg x2) 0) (fun (t_23 : (Nat → Int32)) => some (mm (5 + x1).toNatClampNeg, t_23))))))) else (if (1 : Int32) = 0 then (some ((-1 : Int32), mm)) else (if (5 + x1) < 0 ∨ 5040 ≤ (5 + x1).toNatClampNeg then none else (if (mm (5 + x1).toNatClampNeg) = x2 then (some ((-2 : Int32), mm)) else (if (5 + x1) < 0 ∨ 5040 ≤ (5 + x1).toNatClampNeg then none else (bi1 (f_X9_renews (upd mm (5 + x1).toNatClampNeg x2) 0) (fun (t_29 : (Nat → Int32)) => some (mm (5 + x1).toNatClampNeg, t_29)))))))) else (if (0 : Int32) = 0 then (some ((-1 : Int32), mm)) else (if (5 + x1) < 0 ∨ 5040 ≤ (5 + x1).toNatClampNeg then none else (if (mm (5 + x1).toNatClampNeg) = x2 then (some ((-2 : Int32), mm)) else (if (5 + x1) < 0 ∨ 5040 ≤ (5 + x1).toNatClampNeg then none else (bi1 (f_X9_renews (upd mm (5 + x1).toNatClampNeg x2) 0) (fun (t_16 : (Nat → Int32)) => some (mm (5 + x1).toNatClampNeg, t_16)))))))))))
set_option maxHeartbeats 4000000 in
set_option maxRecDepth 100000 in
theorem c_X9_set (l : Launch) (D : va_G) (cI : ClassId) {sz : Nat} (q : Nat) (qm : Nat) (qi : Nat) (qp : Nat) (qo : Nat) (qg : Nat) (kept : Int32) (im : Int32) (pm : Int32) (om : Int32) (lo : Int64) (hi_ : Int64) (cde : Int64) (fr : Int32) (sp : Int32) (mm : (Nat → Int32)) (inp : (Nat → Int32)) (pk : (Nat → Int32)) (out : (Nat → Int32)) (gr : (Nat → Int32)) (x1 : Int32) (x2 : Int32) (r : Int32) (o_mm : (Nat → Int32)) (hf : f_X9_set mm x1 x2 = some (r, o_mm)) : Met l yX9_set (.code yX9_set cX9_set 5 (some .int) :: wsG) ({ frames := 2, cells := 0, slots := 0, locals := 48 }) (va_Pc [.ref q, .int x1, .int x2] (gv D cI sz [(q, .inr (9, [.ref qm, .int kept, .ref qi, .int im, .ref qp, .int pm, .ref qo, .int om, .ref qg, .long lo, .long hi_, .long cde, .int fr, .int sp])), (qm, .inl (cI, 5040, .inl mm)), (qi, .inl (cI, 60, .inl inp)), (qp, .inl (cI, 2000, .inl pk)), (qo, .inl (cI, 60, .inl out)), (qg, .inl (cI, 6, .inl gr))])) (va_Qi (fun x (_ : Unit) => x = r) (gz D (va_A [(q, .inr (9, [.ref qm, .int kept, .ref qi, .int im, .ref qp, .int pm, .ref qo, .int om, .ref qg, .long lo, .long hi_, .long cde, .int fr, .int sp])), (qm, .inl (cI, 5040, .inl mm)), (qi, .inl (cI, 60, .inl inp)), (qp, .inl (cI, 2000, .inl pk)), (qo, .inl (cI, 60, .inl out)), (qg, .inl (cI, 6, .inl gr))] sz) [(q, .inr (9, [.ref qm, .int kept, .ref qi, .int im, .ref qp, .int pm, .ref qo, .int om, .ref qg, .long lo, .long hi_, .long cde, .int fr, .int sp])), (qm, .inl (cI, 5040, .inl o_mm)), (qi, .inl (cI, 60, .inl inp)), (qp, .inl (cI, 2000, .inl pk)), (qo, .inl (cI, 60, .inl out)), (qg, .inl (cI, 6, .inl gr))]) (va_A [(q, .inr (9, [.ref qm, .int kept, .ref qi, .int im, .ref qp, .int pm, .ref qo, .int om, .ref qg, .long lo, .long hi_, .long cde, .int fr, .int sp])), (qm, .inl (cI, 5040, .inl mm)), (qi, .inl (cI, 60, .inl inp)), (qp, .inl (cI, 2000, .inl pk)), (qo, .inl (cI, 60, .inl out)), (qg, .inl (cI, 6, .inl gr))] sz)) 0 0 (va_A [(q, .inr (9, [.ref qm, .int kept, .ref qi, .int im, .ref qp, .int pm, .ref qo, .int om, .ref qg, .long lo, .long hi_, .long cde, .int fr, .int sp])), (qm, .inl (cI, 5040, .inl mm)), (qi, .inl (cI, 60, .inl inp)), (qp, .inl (cI, 2000, .inl pk)), (qo, .inl (cI, 60, .inl out)), (qg, .inl (cI, 6, .inl gr))] sz) := by
  refine k_rw (y := yX9_set) (cc := cX9_set) (maxL := 5) (ret := (some .int)) (As := [.ref q, .int x1, .int x2]) (Qc := fun A => va_Qi (fun x (_ : Unit) => x = r) (gz D A [(q, .inr (9, [.ref qm, .int kept, .ref qi, .int im, .ref qp, .int pm, .ref qo, .int om, .ref qg, .long lo, .long hi_, .long cde, .int fr, .int sp])), (qm, .inl (cI, 5040, .inl o_mm)), (qi, .inl (cI, 60, .inl inp)), (qp, .inl (cI, 2000, .inl pk)), (qo, .inl (cI, 60, .inl out)), (qg, .inl (cI, 6, .inl gr))]) A) (by decide) rfl (Nat.le_of_ble_eq_true rfl) rfl ?_
  intro p e s m below meth c ls A S hret hloc hK hN hSF hP hD hS hA hl
  obtain ⟨hx, hb, hml, hown, hts⟩ := id S
  unfold f_X9_set at hf
  refine lv_iload_n hx hb dX9_set_0 rfl (lv_at hl 1 rfl) ?_
  refine lv_if_ne (tgt := 16) hx hb dX9_set_1 (by decide) (fun c_1 => ?_) (fun c_1 => ?_)
  · rw [if_neg c_1] at hf
    refine lv_iload_n hx hb dX9_set_16 rfl (lv_at hl 1 rfl) ?_
    refine lv_iconst (v := 1) hx hb dX9_set_17 (by decide) ?_
    refine lv_icmp_eq (tgt := 26) hx hb dX9_set_18 (by decide) (fun c_2 => ?_) (fun c_2 => ?_)
    · rw [if_pos c_2] at hf
      refine lv_iload_n hx hb dX9_set_26 rfl (lv_at hl 2 rfl) ?_
      refine lv_i2l hx hb dX9_set_27 rfl ?_
      refine lv_lconst (v := 1) hx hb dX9_set_28 (by decide) ?_
      refine lv_ldc2 (v := (200 : Int64)) hx hb hown (hts _ ck_X9_50) dX9_set_29 ?_
      refine k_roSi (As := [.long ((x2).toInt64), .long (1 : Int64), .long (200 : Int64)]) (rest := []) S (c_X9_in l D cI (x1 := (x2).toInt64) (x2 := (1 : Int64)) (x3 := (200 : Int64))  (r := (f_X9_in ((x2).toInt64) (1 : Int64) (200 : Int64))) (hf := rfl)) gs_X9_46 ok_X9_in ⟨rfl, rfl⟩ ⟨Nat.le_of_ble_eq_true rfl, Nat.le_of_ble_eq_true rfl⟩ hK hN (sfr hSF hS) (hP.sub [] rfl) rfl hl.1 rfl (Nat.le_of_ble_eq_true rfl) ⟨Nat.zero_le _, Nat.zero_le _⟩ dX9_set_32 ?_
      refine lv_goto (tgt := 77) hx hb dX9_set_35 (by decide) ?_
      refine lv_istore_n (lv' := [(3, .int (f_X9_in ((x2).toInt64) (1 : Int64) (200 : Int64))), (0, .ref q), (1, .int x1), (2, .int x2)]) hx hb dX9_set_77 rfl hl (by decide) rfl (fun ls hl => ?_)
      refine lv_iload_n hx hb dX9_set_78 rfl (lv_at hl 0 rfl) ?_
      refine lv_if_ne (tgt := 84) hx hb dX9_set_79 (by decide) (fun c_3 => ?_) (fun c_3 => ?_)
      · rw [if_neg c_3] at hf
        refine lv_aload_n hx hb dX9_set_84 rfl (lv_at hl 1 rfl) ?_
        refine va_get (D := D) (ci := 9) (v := .ref qm) (C := RX9) (T := TX9) (N := 14) hx hb hts inGX9 hown hK hP 0 rfl rfl 0 (by decide) (hts _ fl_X9_7) (fun _ h9 => h9) rfl dX9_set_85 ?_
        refine lv_iconst (v := 5) hx hb dX9_set_88 (by decide) ?_
        refine lv_iload_n hx hb dX9_set_89 rfl (lv_at hl 2 rfl) ?_
        refine lv_iadd hx hb dX9_set_90 ?_
        have b_4 : ¬ ((5 + x1) < 0 ∨ 5040 ≤ (5 + x1).toNatClampNeg) := fun q => by rw [if_pos q] at hf; cases hf
        rw [if_neg b_4] at hf
        refine va_iald hx hb hK hP 1 0 rfl rfl b_4 dX9_set_91 ?_
        refine lv_istore (lv' := [(4, .int (mm (5 + x1).toNatClampNeg)), (3, .int (f_X9_in ((x2).toInt64) (1 : Int64) (200 : Int64))), (0, .ref q), (1, .int x1), (2, .int x2)]) hx hb dX9_set_92 hl (by decide) rfl (fun ls hl => ?_)
        refine lv_iload hx hb dX9_set_94 (lv_at hl 0 rfl) ?_
        refine lv_iload_n hx hb dX9_set_96 rfl (lv_at hl 4 rfl) ?_
        refine lv_icmp_ne (tgt := 103) hx hb dX9_set_97 (by decide) (fun c_5 => ?_) (fun c_5 => ?_)
        · rw [if_neg c_5] at hf
          refine lv_aload_n hx hb dX9_set_103 rfl (lv_at hl 2 rfl) ?_
          refine va_get (D := D) (ci := 9) (v := .ref qm) (C := RX9) (T := TX9) (N := 14) hx hb hts inGX9 hown hK hP 0 rfl rfl 0 (by decide) (hts _ fl_X9_7) (fun _ h9 => h9) rfl dX9_set_104 ?_
          refine lv_iconst (v := 5) hx hb dX9_set_107 (by decide) ?_
          refine lv_iload_n hx hb dX9_set_108 rfl (lv_at hl 3 rfl) ?_
          refine lv_iadd hx hb dX9_set_109 ?_
          refine lv_iload_n hx hb dX9_set_110 rfl (lv_at hl 4 rfl) ?_
          have b_6 : ¬ ((5 + x1) < 0 ∨ 5040 ≤ (5 + x1).toNatClampNeg) := fun q => by rw [if_pos q] at hf; cases hf
          rw [if_neg b_6] at hf
          refine va_iast hx hb hK hP hD hS 1 0 rfl rfl b_6 dX9_set_111 (fun H locs hP hD hS => ?_)
          have hP : va_P D vwCl [(q, .inr (9, [.ref qm, .int kept, .ref qi, .int im, .ref qp, .int pm, .ref qo, .int om, .ref qg, .long lo, .long hi_, .long cde, .int fr, .int sp])), (qm, .inl (cI, 5040, .inl (upd mm (5 + x1).toNatClampNeg x2))), (qi, .inl (cI, 60, .inl inp)), (qp, .inl (cI, 2000, .inl pk)), (qo, .inl (cI, 60, .inl out)), (qg, .inl (cI, 6, .inl gr))] H := hP
          have hD : va_D A [(q, .inr (9, [.ref qm, .int kept, .ref qi, .int im, .ref qp, .int pm, .ref qo, .int om, .ref qg, .long lo, .long hi_, .long cde, .int fr, .int sp])), (qm, .inl (cI, 5040, .inl (upd mm (5 + x1).toNatClampNeg x2))), (qi, .inl (cI, 60, .inl inp)), (qp, .inl (cI, 2000, .inl pk)), (qo, .inl (cI, 60, .inl out)), (qg, .inl (cI, 6, .inl gr))] := hD
          refine lv_aload_n hx hb dX9_set_112 rfl (lv_at hl 2 rfl) ?_
          refine lv_iconst (v := 0) hx hb dX9_set_113 (by decide) ?_
          obtain ⟨t_7, hc_8, hf⟩ := bd1 hf
          refine k_rwVv (As := [.int 0]) (rest := []) (Wr := []) (W2 := [(q, .inr (9, [.ref qm, .int kept, .ref qi, .int im, .ref qp, .int pm, .ref qo, .int om, .ref qg, .long lo, .long hi_, .long cde, .int fr, .int sp])), (qm, .inl (cI, 5040, .inl t_7)), (qi, .inl (cI, 60, .inl inp)), (qp, .inl (cI, 2000, .inl pk)), (qo, .inl (cI, 60, .inl out)), (qg, .inl (cI, 6, .inl gr))]) S (c_X9_renews l D cI (q := q) (qm := qm) (qi := qi) (qp := qp) (qo := qo) (qg := qg) (kept := kept) (im := im) (pm := pm) (om := om) (lo := lo) (hi_ := hi_) (cde := cde) (fr := fr) (sp := sp) (mm := upd mm (5 + x1).toNatClampNeg x2) (inp := inp) (pk := pk) (out := out) (gr := gr) (x1 := 0)  (o_mm := t_7) (hf := hc_8)) gs_X9_25 ok_X9_renews ⟨rfl, rfl⟩ ⟨Nat.le_of_ble_eq_true rfl, Nat.le_of_ble_eq_true rfl⟩ hK hN hSF hP hD hS hA [0, 1, 2, 3, 4, 5] [] [0, 1, 2, 3, 4, 5] (by decide) rfl rfl (by decide) (by decide) rfl (by decide) rfl rfl rfl hl.1 rfl (Nat.le_of_ble_eq_true rfl) ⟨Nat.zero_le _, Nat.zero_le _⟩ dX9_set_114 (fun H locs hP hD hS => ?_)
          refine lv_iload hx hb dX9_set_117 (lv_at hl 0 rfl) ?_
          obtain ⟨e_0, e_1⟩ := Prod.mk.inj (Option.some.inj hf)
          subst e_0
          subst e_1
          exact k_wreti hx hb hret hloc rfl hP hD hS dX9_set_119
        · rw [if_pos c_5] at hf
          refine lv_bipush (v := (-2)) hx hb dX9_set_100 (by decide) ?_
          obtain ⟨e_0, e_1⟩ := Prod.mk.inj (Option.some.inj hf)
          subst e_0
          subst e_1
          exact k_wreti hx hb hret hloc rfl hP hD hS dX9_set_102
      · rw [if_pos c_3] at hf
        refine lv_iconst (v := (-1)) hx hb dX9_set_82 (by decide) ?_
        obtain ⟨e_0, e_1⟩ := Prod.mk.inj (Option.some.inj hf)
        subst e_0
        subst e_1
        exact k_wreti hx hb hret hloc rfl hP hD hS dX9_set_83
    · rw [if_neg c_2] at hf
      refine lv_iload_n hx hb dX9_set_21 rfl (lv_at hl 1 rfl) ?_
      refine lv_iconst (v := 2) hx hb dX9_set_22 (by decide) ?_
      refine lv_icmp_ne (tgt := 38) hx hb dX9_set_23 (by decide) (fun c_9 => ?_) (fun c_9 => ?_)
      · rw [if_neg c_9] at hf
        refine lv_iload_n hx hb dX9_set_38 rfl (lv_at hl 1 rfl) ?_
        refine lv_iconst (v := 3) hx hb dX9_set_39 (by decide) ?_
        refine lv_icmp_ne (tgt := 57) hx hb dX9_set_40 (by decide) (fun c_10 => ?_) (fun c_10 => ?_)
        · rw [if_neg c_10] at hf
          refine lv_iload_n hx hb dX9_set_57 rfl (lv_at hl 1 rfl) ?_
          refine lv_iconst (v := 4) hx hb dX9_set_58 (by decide) ?_
          refine lv_icmp_ne (tgt := 76) hx hb dX9_set_59 (by decide) (fun c_11 => ?_) (fun c_11 => ?_)
          · rw [if_neg c_11] at hf
            refine lv_iconst (v := 0) hx hb dX9_set_76 (by decide) ?_
            refine lv_istore_n (lv' := [(3, .int 0), (0, .ref q), (1, .int x1), (2, .int x2)]) hx hb dX9_set_77 rfl hl (by decide) rfl (fun ls hl => ?_)
            refine lv_iload_n hx hb dX9_set_78 rfl (lv_at hl 0 rfl) ?_
            refine lv_if_ne (tgt := 84) hx hb dX9_set_79 (by decide) (fun c_12 => ?_) (fun c_12 => ?_)
            · rw [if_neg c_12] at hf
              refine lv_aload_n hx hb dX9_set_84 rfl (lv_at hl 1 rfl) ?_
              refine va_get (D := D) (ci := 9) (v := .ref qm) (C := RX9) (T := TX9) (N := 14) hx hb hts inGX9 hown hK hP 0 rfl rfl 0 (by decide) (hts _ fl_X9_7) (fun _ h9 => h9) rfl dX9_set_85 ?_
              refine lv_iconst (v := 5) hx hb dX9_set_88 (by decide) ?_
              refine lv_iload_n hx hb dX9_set_89 rfl (lv_at hl 2 rfl) ?_
              refine lv_iadd hx hb dX9_set_90 ?_
              have b_13 : ¬ ((5 + x1) < 0 ∨ 5040 ≤ (5 + x1).toNatClampNeg) := fun q => by rw [if_pos q] at hf; cases hf
              rw [if_neg b_13] at hf
              refine va_iald hx hb hK hP 1 0 rfl rfl b_13 dX9_set_91 ?_
              refine lv_istore (lv' := [(4, .int (mm (5 + x1).toNatClampNeg)), (3, .int 0), (0, .ref q), (1, .int x1), (2, .int x2)]) hx hb dX9_set_92 hl (by decide) rfl (fun ls hl => ?_)
              refine lv_iload hx hb dX9_set_94 (lv_at hl 0 rfl) ?_
              refine lv_iload_n hx hb dX9_set_96 rfl (lv_at hl 4 rfl) ?_
              refine lv_icmp_ne (tgt := 103) hx hb dX9_set_97 (by decide) (fun c_14 => ?_) (fun c_14 => ?_)
              · rw [if_neg c_14] at hf
                refine lv_aload_n hx hb dX9_set_103 rfl (lv_at hl 2 rfl) ?_
                refine va_get (D := D) (ci := 9) (v := .ref qm) (C := RX9) (T := TX9) (N := 14) hx hb hts inGX9 hown hK hP 0 rfl rfl 0 (by decide) (hts _ fl_X9_7) (fun _ h9 => h9) rfl dX9_set_104 ?_
                refine lv_iconst (v := 5) hx hb dX9_set_107 (by decide) ?_
                refine lv_iload_n hx hb dX9_set_108 rfl (lv_at hl 3 rfl) ?_
                refine lv_iadd hx hb dX9_set_109 ?_
                refine lv_iload_n hx hb dX9_set_110 rfl (lv_at hl 4 rfl) ?_
                have b_15 : ¬ ((5 + x1) < 0 ∨ 5040 ≤ (5 + x1).toNatClampNeg) := fun q => by rw [if_pos q] at hf; cases hf
                rw [if_neg b_15] at hf
                refine va_iast hx hb hK hP hD hS 1 0 rfl rfl b_15 dX9_set_111 (fun H locs hP hD hS => ?_)
                have hP : va_P D vwCl [(q, .inr (9, [.ref qm, .int kept, .ref qi, .int im, .ref qp, .int pm, .ref qo, .int om, .ref qg, .long lo, .long hi_, .long cde, .int fr, .int sp])), (qm, .inl (cI, 5040, .inl (upd mm (5 + x1).toNatClampNeg x2))), (qi, .inl (cI, 60, .inl inp)), (qp, .inl (cI, 2000, .inl pk)), (qo, .inl (cI, 60, .inl out)), (qg, .inl (cI, 6, .inl gr))] H := hP
                have hD : va_D A [(q, .inr (9, [.ref qm, .int kept, .ref qi, .int im, .ref qp, .int pm, .ref qo, .int om, .ref qg, .long lo, .long hi_, .long cde, .int fr, .int sp])), (qm, .inl (cI, 5040, .inl (upd mm (5 + x1).toNatClampNeg x2))), (qi, .inl (cI, 60, .inl inp)), (qp, .inl (cI, 2000, .inl pk)), (qo, .inl (cI, 60, .inl out)), (qg, .inl (cI, 6, .inl gr))] := hD
                refine lv_aload_n hx hb dX9_set_112 rfl (lv_at hl 2 rfl) ?_
                refine lv_iconst (v := 0) hx hb dX9_set_113 (by decide) ?_
                obtain ⟨t_16, hc_17, hf⟩ := bd1 hf
                refine k_rwVv (As := [.int 0]) (rest := []) (Wr := []) (W2 := [(q, .inr (9, [.ref qm, .int kept, .ref qi, .int im, .ref qp, .int pm, .ref qo, .int om, .ref qg, .long lo, .long hi_, .long cde, .int fr, .int sp])), (qm, .inl (cI, 5040, .inl t_16)), (qi, .inl (cI, 60, .inl inp)), (qp, .inl (cI, 2000, .inl pk)), (qo, .inl (cI, 60, .inl out)), (qg, .inl (cI, 6, .inl gr))]) S (c_X9_renews l D cI (q := q) (qm := qm) (qi := qi) (qp := qp) (qo := qo) (qg := qg) (kept := kept) (im := im) (pm := pm) (om := om) (lo := lo) (hi_ := hi_) (cde := cde) (fr := fr) (sp := sp) (mm := upd mm (5 + x1).toNatClampNeg x2) (inp := inp) (pk := pk) (out := out) (gr := gr) (x1 := 0)  (o_mm := t_16) (hf := hc_17)) gs_X9_25 ok_X9_renews ⟨rfl, rfl⟩ ⟨Nat.le_of_ble_eq_true rfl, Nat.le_of_ble_eq_true rfl⟩ hK hN hSF hP hD hS hA [0, 1, 2, 3, 4, 5] [] [0, 1, 2, 3, 4, 5] (by decide) rfl rfl (by decide) (by decide) rfl (by decide) rfl rfl rfl hl.1 rfl (Nat.le_of_ble_eq_true rfl) ⟨Nat.zero_le _, Nat.zero_le _⟩ dX9_set_114 (fun H locs hP hD hS => ?_)
                refine lv_iload hx hb dX9_set_117 (lv_at hl 0 rfl) ?_
                obtain ⟨e_0, e_1⟩ := Prod.mk.inj (Option.some.inj hf)
                subst e_0
                subst e_1
                exact k_wreti hx hb hret hloc rfl hP hD hS dX9_set_119
              · rw [if_pos c_14] at hf
                refine lv_bipush (v := (-2)) hx hb dX9_set_100 (by decide) ?_
                obtain ⟨e_0, e_1⟩ := Prod.mk.inj (Option.some.inj hf)
                subst e_0
                subst e_1
                exact k_wreti hx hb hret hloc rfl hP hD hS dX9_set_102
            · rw [if_pos c_12] at hf
              refine lv_iconst (v := (-1)) hx hb dX9_set_82 (by decide) ?_
              obtain ⟨e_0, e_1⟩ := Prod.mk.inj (Option.some.inj hf)
              subst e_0
              subst e_1
              exact k_wreti hx hb hret hloc rfl hP hD hS dX9_set_83
          · rw [if_pos c_11] at hf
            refine lv_iload_n hx hb dX9_set_62 rfl (lv_at hl 2 rfl) ?_
            refine lv_i2l hx hb dX9_set_63 rfl ?_
            refine lv_lconst (v := 0) hx hb dX9_set_64 (by decide) ?_
            refine lv_lconst (v := 1) hx hb dX9_set_65 (by decide) ?_
            refine k_roSi (As := [.long ((x2).toInt64), .long (0 : Int64), .long (1 : Int64)]) (rest := []) S (c_X9_in l D cI (x1 := (x2).toInt64) (x2 := (0 : Int64)) (x3 := (1 : Int64))  (r := (f_X9_in ((x2).toInt64) (0 : Int64) (1 : Int64))) (hf := rfl)) gs_X9_46 ok_X9_in ⟨rfl, rfl⟩ ⟨Nat.le_of_ble_eq_true rfl, Nat.le_of_ble_eq_true rfl⟩ hK hN (sfr hSF hS) (hP.sub [] rfl) rfl hl.1 rfl (Nat.le_of_ble_eq_true rfl) ⟨Nat.zero_le _, Nat.zero_le _⟩ dX9_set_66 ?_
            refine lv_if_eq (tgt := 76) hx hb dX9_set_69 (by decide) (fun c_18 => ?_) (fun c_18 => ?_)
            · rw [if_pos c_18] at hf
              refine lv_iconst (v := 0) hx hb dX9_set_76 (by decide) ?_
              refine lv_istore_n (lv' := [(3, .int 0), (0, .ref q), (1, .int x1), (2, .int x2)]) hx hb dX9_set_77 rfl hl (by decide) rfl (fun ls hl => ?_)
              refine lv_iload_n hx hb dX9_set_78 rfl (lv_at hl 0 rfl) ?_
              refine lv_if_ne (tgt := 84) hx hb dX9_set_79 (by decide) (fun c_19 => ?_) (fun c_19 => ?_)
              · rw [if_neg c_19] at hf
                refine lv_aload_n hx hb dX9_set_84 rfl (lv_at hl 1 rfl) ?_
                refine va_get (D := D) (ci := 9) (v := .ref qm) (C := RX9) (T := TX9) (N := 14) hx hb hts inGX9 hown hK hP 0 rfl rfl 0 (by decide) (hts _ fl_X9_7) (fun _ h9 => h9) rfl dX9_set_85 ?_
                refine lv_iconst (v := 5) hx hb dX9_set_88 (by decide) ?_
                refine lv_iload_n hx hb dX9_set_89 rfl (lv_at hl 2 rfl) ?_
                refine lv_iadd hx hb dX9_set_90 ?_
                have b_20 : ¬ ((5 + x1) < 0 ∨ 5040 ≤ (5 + x1).toNatClampNeg) := fun q => by rw [if_pos q] at hf; cases hf
                rw [if_neg b_20] at hf
                refine va_iald hx hb hK hP 1 0 rfl rfl b_20 dX9_set_91 ?_
                refine lv_istore (lv' := [(4, .int (mm (5 + x1).toNatClampNeg)), (3, .int 0), (0, .ref q), (1, .int x1), (2, .int x2)]) hx hb dX9_set_92 hl (by decide) rfl (fun ls hl => ?_)
                refine lv_iload hx hb dX9_set_94 (lv_at hl 0 rfl) ?_
                refine lv_iload_n hx hb dX9_set_96 rfl (lv_at hl 4 rfl) ?_
                refine lv_icmp_ne (tgt := 103) hx hb dX9_set_97 (by decide) (fun c_21 => ?_) (fun c_21 => ?_)
                · rw [if_neg c_21] at hf
                  refine lv_aload_n hx hb dX9_set_103 rfl (lv_at hl 2 rfl) ?_
                  refine va_get (D := D) (ci := 9) (v := .ref qm) (C := RX9) (T := TX9) (N := 14) hx hb hts inGX9 hown hK hP 0 rfl rfl 0 (by decide) (hts _ fl_X9_7) (fun _ h9 => h9) rfl dX9_set_104 ?_
                  refine lv_iconst (v := 5) hx hb dX9_set_107 (by decide) ?_
                  refine lv_iload_n hx hb dX9_set_108 rfl (lv_at hl 3 rfl) ?_
                  refine lv_iadd hx hb dX9_set_109 ?_
                  refine lv_iload_n hx hb dX9_set_110 rfl (lv_at hl 4 rfl) ?_
                  have b_22 : ¬ ((5 + x1) < 0 ∨ 5040 ≤ (5 + x1).toNatClampNeg) := fun q => by rw [if_pos q] at hf; cases hf
                  rw [if_neg b_22] at hf
                  refine va_iast hx hb hK hP hD hS 1 0 rfl rfl b_22 dX9_set_111 (fun H locs hP hD hS => ?_)
                  have hP : va_P D vwCl [(q, .inr (9, [.ref qm, .int kept, .ref qi, .int im, .ref qp, .int pm, .ref qo, .int om, .ref qg, .long lo, .long hi_, .long cde, .int fr, .int sp])), (qm, .inl (cI, 5040, .inl (upd mm (5 + x1).toNatClampNeg x2))), (qi, .inl (cI, 60, .inl inp)), (qp, .inl (cI, 2000, .inl pk)), (qo, .inl (cI, 60, .inl out)), (qg, .inl (cI, 6, .inl gr))] H := hP
                  have hD : va_D A [(q, .inr (9, [.ref qm, .int kept, .ref qi, .int im, .ref qp, .int pm, .ref qo, .int om, .ref qg, .long lo, .long hi_, .long cde, .int fr, .int sp])), (qm, .inl (cI, 5040, .inl (upd mm (5 + x1).toNatClampNeg x2))), (qi, .inl (cI, 60, .inl inp)), (qp, .inl (cI, 2000, .inl pk)), (qo, .inl (cI, 60, .inl out)), (qg, .inl (cI, 6, .inl gr))] := hD
                  refine lv_aload_n hx hb dX9_set_112 rfl (lv_at hl 2 rfl) ?_
                  refine lv_iconst (v := 0) hx hb dX9_set_113 (by decide) ?_
                  obtain ⟨t_23, hc_24, hf⟩ := bd1 hf
                  refine k_rwVv (As := [.int 0]) (rest := []) (Wr := []) (W2 := [(q, .inr (9, [.ref qm, .int kept, .ref qi, .int im, .ref qp, .int pm, .ref qo, .int om, .ref qg, .long lo, .long hi_, .long cde, .int fr, .int sp])), (qm, .inl (cI, 5040, .inl t_23)), (qi, .inl (cI, 60, .inl inp)), (qp, .inl (cI, 2000, .inl pk)), (qo, .inl (cI, 60, .inl out)), (qg, .inl (cI, 6, .inl gr))]) S (c_X9_renews l D cI (q := q) (qm := qm) (qi := qi) (qp := qp) (qo := qo) (qg := qg) (kept := kept) (im := im) (pm := pm) (om := om) (lo := lo) (hi_ := hi_) (cde := cde) (fr := fr) (sp := sp) (mm := upd mm (5 + x1).toNatClampNeg x2) (inp := inp) (pk := pk) (out := out) (gr := gr) (x1 := 0)  (o_mm := t_23) (hf := hc_24)) gs_X9_25 ok_X9_renews ⟨rfl, rfl⟩ ⟨Nat.le_of_ble_eq_true rfl, Nat.le_of_ble_eq_true rfl⟩ hK hN hSF hP hD hS hA [0, 1, 2, 3, 4, 5] [] [0, 1, 2, 3, 4, 5] (by decide) rfl rfl (by decide) (by decide) rfl (by decide) rfl rfl rfl hl.1 rfl (Nat.le_of_ble_eq_true rfl) ⟨Nat.zero_le _, Nat.zero_le _⟩ dX9_set_114 (fun H locs hP hD hS => ?_)
                  refine lv_iload hx hb dX9_set_117 (lv_at hl 0 rfl) ?_
                  obtain ⟨e_0, e_1⟩ := Prod.mk.inj (Option.some.inj hf)
                  subst e_0
                  subst e_1
                  exact k_wreti hx hb hret hloc rfl hP hD hS dX9_set_119
                · rw [if_pos c_21] at hf
                  refine lv_bipush (v := (-2)) hx hb dX9_set_100 (by decide) ?_
                  obtain ⟨e_0, e_1⟩ := Prod.mk.inj (Option.some.inj hf)
                  subst e_0
                  subst e_1
                  exact k_wreti hx hb hret hloc rfl hP hD hS dX9_set_102
              · rw [if_pos c_19] at hf
                refine lv_iconst (v := (-1)) hx hb dX9_set_82 (by decide) ?_
                obtain ⟨e_0, e_1⟩ := Prod.mk.inj (Option.some.inj hf)
                subst e_0
                subst e_1
                exact k_wreti hx hb hret hloc rfl hP hD hS dX9_set_83
            · rw [if_neg c_18] at hf
              refine lv_iconst (v := 1) hx hb dX9_set_72 (by decide) ?_
              refine lv_goto (tgt := 77) hx hb dX9_set_73 (by decide) ?_
              refine lv_istore_n (lv' := [(3, .int 1), (0, .ref q), (1, .int x1), (2, .int x2)]) hx hb dX9_set_77 rfl hl (by decide) rfl (fun ls hl => ?_)
              refine lv_iload_n hx hb dX9_set_78 rfl (lv_at hl 0 rfl) ?_
              refine lv_if_ne (tgt := 84) hx hb dX9_set_79 (by decide) (fun c_25 => ?_) (fun c_25 => ?_)
              · rw [if_neg c_25] at hf
                refine lv_aload_n hx hb dX9_set_84 rfl (lv_at hl 1 rfl) ?_
                refine va_get (D := D) (ci := 9) (v := .ref qm) (C := RX9) (T := TX9) (N := 14) hx hb hts inGX9 hown hK hP 0 rfl rfl 0 (by decide) (hts _ fl_X9_7) (fun _ h9 => h9) rfl dX9_set_85 ?_
                refine lv_iconst (v := 5) hx hb dX9_set_88 (by decide) ?_
                refine lv_iload_n hx hb dX9_set_89 rfl (lv_at hl 2 rfl) ?_
                refine lv_iadd hx hb dX9_set_90 ?_
                have b_26 : ¬ ((5 + x1) < 0 ∨ 5040 ≤ (5 + x1).toNatClampNeg) := fun q => by rw [if_pos q] at hf; cases hf
                rw [if_neg b_26] at hf
                refine va_iald hx hb hK hP 1 0 rfl rfl b_26 dX9_set_91 ?_
                refine lv_istore (lv' := [(4, .int (mm (5 + x1).toNatClampNeg)), (3, .int 1), (0, .ref q), (1, .int x1), (2, .int x2)]) hx hb dX9_set_92 hl (by decide) rfl (fun ls hl => ?_)
                refine lv_iload hx hb dX9_set_94 (lv_at hl 0 rfl) ?_
                refine lv_iload_n hx hb dX9_set_96 rfl (lv_at hl 4 rfl) ?_
                refine lv_icmp_ne (tgt := 103) hx hb dX9_set_97 (by decide) (fun c_27 => ?_) (fun c_27 => ?_)
                · rw [if_neg c_27] at hf
                  refine lv_aload_n hx hb dX9_set_103 rfl (lv_at hl 2 rfl) ?_
                  refine va_get (D := D) (ci := 9) (v := .ref qm) (C := RX9) (T := TX9) (N := 14) hx hb hts inGX9 hown hK hP 0 rfl rfl 0 (by decide) (hts _ fl_X9_7) (fun _ h9 => h9) rfl dX9_set_104 ?_
                  refine lv_iconst (v := 5) hx hb dX9_set_107 (by decide) ?_
                  refine lv_iload_n hx hb dX9_set_108 rfl (lv_at hl 3 rfl) ?_
                  refine lv_iadd hx hb dX9_set_109 ?_
                  refine lv_iload_n hx hb dX9_set_110 rfl (lv_at hl 4 rfl) ?_
                  have b_28 : ¬ ((5 + x1) < 0 ∨ 5040 ≤ (5 + x1).toNatClampNeg) := fun q => by rw [if_pos q] at hf; cases hf
                  rw [if_neg b_28] at hf
                  refine va_iast hx hb hK hP hD hS 1 0 rfl rfl b_28 dX9_set_111 (fun H locs hP hD hS => ?_)
                  have hP : va_P D vwCl [(q, .inr (9, [.ref qm, .int kept, .ref qi, .int im, .ref qp, .int pm, .ref qo, .int om, .ref qg, .long lo, .long hi_, .long cde, .int fr, .int sp])), (qm, .inl (cI, 5040, .inl (upd mm (5 + x1).toNatClampNeg x2))), (qi, .inl (cI, 60, .inl inp)), (qp, .inl (cI, 2000, .inl pk)), (qo, .inl (cI, 60, .inl out)), (qg, .inl (cI, 6, .inl gr))] H := hP
                  have hD : va_D A [(q, .inr (9, [.ref qm, .int kept, .ref qi, .int im, .ref qp, .int pm, .ref qo, .int om, .ref qg, .long lo, .long hi_, .long cde, .int fr, .int sp])), (qm, .inl (cI, 5040, .inl (upd mm (5 + x1).toNatClampNeg x2))), (qi, .inl (cI, 60, .inl inp)), (qp, .inl (cI, 2000, .inl pk)), (qo, .inl (cI, 60, .inl out)), (qg, .inl (cI, 6, .inl gr))] := hD
                  refine lv_aload_n hx hb dX9_set_112 rfl (lv_at hl 2 rfl) ?_
                  refine lv_iconst (v := 0) hx hb dX9_set_113 (by decide) ?_
                  obtain ⟨t_29, hc_30, hf⟩ := bd1 hf
                  refine k_rwVv (As := [.int 0]) (rest := []) (Wr := []) (W2 := [(q, .inr (9, [.ref qm, .int kept, .ref qi, .int im, .ref qp, .int pm, .ref qo, .int om, .ref qg, .long lo, .long hi_, .long cde, .int fr, .int sp])), (qm, .inl (cI, 5040, .inl t_29)), (qi, .inl (cI, 60, .inl inp)), (qp, .inl (cI, 2000, .inl pk)), (qo, .inl (cI, 60, .inl out)), (qg, .inl (cI, 6, .inl gr))]) S (c_X9_renews l D cI (q := q) (qm := qm) (qi := qi) (qp := qp) (qo := qo) (qg := qg) (kept := kept) (im := im) (pm := pm) (om := om) (lo := lo) (hi_ := hi_) (cde := cde) (fr := fr) (sp := sp) (mm := upd mm (5 + x1).toNatClampNeg x2) (inp := inp) (pk := pk) (out := out) (gr := gr) (x1 := 0)  (o_mm := t_29) (hf := hc_30)) gs_X9_25 ok_X9_renews ⟨rfl, rfl⟩ ⟨Nat.le_of_ble_eq_true rfl, Nat.le_of_ble_eq_true rfl⟩ hK hN hSF hP hD hS hA [0, 1, 2, 3, 4, 5] [] [0, 1, 2, 3, 4, 5] (by decide) rfl rfl (by decide) (by decide) rfl (by decide) rfl rfl rfl hl.1 rfl (Nat.le_of_ble_eq_true rfl) ⟨Nat.zero_le _, Nat.zero_le _⟩ dX9_set_114 (fun H locs hP hD hS => ?_)
                  refine lv_iload hx hb dX9_set_117 (lv_at hl 0 rfl) ?_
                  obtain ⟨e_0, e_1⟩ := Prod.mk.inj (Option.some.inj hf)
                  subst e_0
                  subst e_1
                  exact k_wreti hx hb hret hloc rfl hP hD hS dX9_set_119
                · rw [if_pos c_27] at hf
                  refine lv_bipush (v := (-2)) hx hb dX9_set_100 (by decide) ?_
                  obtain ⟨e_0, e_1⟩ := Prod.mk.inj (Option.some.inj hf)
                  subst e_0
                  subst e_1
                  exact k_wreti hx hb hret hloc rfl hP hD hS dX9_set_102
              · rw [if_pos c_25] at hf
                refine lv_iconst (v := (-1)) hx hb dX9_set_82 (by decide) ?_
                obtain ⟨e_0, e_1⟩ := Prod.mk.inj (Option.some.inj hf)
                subst e_0
                subst e_1
                exact k_wreti hx hb hret hloc rfl hP hD hS dX9_set_83
        · rw [if_pos c_10] at hf
          refine lv_iload_n hx hb dX9_set_43 rfl (lv_at hl 2 rfl) ?_
          refine lv_i2l hx hb dX9_set_44 rfl ?_
          refine lv_ldc2 (v := (40 : Int64)) hx hb hown (hts _ ck_X9_52) dX9_set_45 ?_
          refine lv_ldc2 (v := (250 : Int64)) hx hb hown (hts _ ck_X9_54) dX9_set_48 ?_
          refine k_roSi (As := [.long ((x2).toInt64), .long (40 : Int64), .long (250 : Int64)]) (rest := []) S (c_X9_in l D cI (x1 := (x2).toInt64) (x2 := (40 : Int64)) (x3 := (250 : Int64))  (r := (f_X9_in ((x2).toInt64) (40 : Int64) (250 : Int64))) (hf := rfl)) gs_X9_46 ok_X9_in ⟨rfl, rfl⟩ ⟨Nat.le_of_ble_eq_true rfl, Nat.le_of_ble_eq_true rfl⟩ hK hN (sfr hSF hS) (hP.sub [] rfl) rfl hl.1 rfl (Nat.le_of_ble_eq_true rfl) ⟨Nat.zero_le _, Nat.zero_le _⟩ dX9_set_51 ?_
          refine lv_goto (tgt := 77) hx hb dX9_set_54 (by decide) ?_
          refine lv_istore_n (lv' := [(3, .int (f_X9_in ((x2).toInt64) (40 : Int64) (250 : Int64))), (0, .ref q), (1, .int x1), (2, .int x2)]) hx hb dX9_set_77 rfl hl (by decide) rfl (fun ls hl => ?_)
          refine lv_iload_n hx hb dX9_set_78 rfl (lv_at hl 0 rfl) ?_
          refine lv_if_ne (tgt := 84) hx hb dX9_set_79 (by decide) (fun c_31 => ?_) (fun c_31 => ?_)
          · rw [if_neg c_31] at hf
            refine lv_aload_n hx hb dX9_set_84 rfl (lv_at hl 1 rfl) ?_
            refine va_get (D := D) (ci := 9) (v := .ref qm) (C := RX9) (T := TX9) (N := 14) hx hb hts inGX9 hown hK hP 0 rfl rfl 0 (by decide) (hts _ fl_X9_7) (fun _ h9 => h9) rfl dX9_set_85 ?_
            refine lv_iconst (v := 5) hx hb dX9_set_88 (by decide) ?_
            refine lv_iload_n hx hb dX9_set_89 rfl (lv_at hl 2 rfl) ?_
            refine lv_iadd hx hb dX9_set_90 ?_
            have b_32 : ¬ ((5 + x1) < 0 ∨ 5040 ≤ (5 + x1).toNatClampNeg) := fun q => by rw [if_pos q] at hf; cases hf
            rw [if_neg b_32] at hf
            refine va_iald hx hb hK hP 1 0 rfl rfl b_32 dX9_set_91 ?_
            refine lv_istore (lv' := [(4, .int (mm (5 + x1).toNatClampNeg)), (3, .int (f_X9_in ((x2).toInt64) (40 : Int64) (250 : Int64))), (0, .ref q), (1, .int x1), (2, .int x2)]) hx hb dX9_set_92 hl (by decide) rfl (fun ls hl => ?_)
            refine lv_iload hx hb dX9_set_94 (lv_at hl 0 rfl) ?_
            refine lv_iload_n hx hb dX9_set_96 rfl (lv_at hl 4 rfl) ?_
            refine lv_icmp_ne (tgt := 103) hx hb dX9_set_97 (by decide) (fun c_33 => ?_) (fun c_33 => ?_)
            · rw [if_neg c_33] at hf
              refine lv_aload_n hx hb dX9_set_103 rfl (lv_at hl 2 rfl) ?_
              refine va_get (D := D) (ci := 9) (v := .ref qm) (C := RX9) (T := TX9) (N := 14) hx hb hts inGX9 hown hK hP 0 rfl rfl 0 (by decide) (hts _ fl_X9_7) (fun _ h9 => h9) rfl dX9_set_104 ?_
              refine lv_iconst (v := 5) hx hb dX9_set_107 (by decide) ?_
              refine lv_iload_n hx hb dX9_set_108 rfl (lv_at hl 3 rfl) ?_
              refine lv_iadd hx hb dX9_set_109 ?_
              refine lv_iload_n hx hb dX9_set_110 rfl (lv_at hl 4 rfl) ?_
              have b_34 : ¬ ((5 + x1) < 0 ∨ 5040 ≤ (5 + x1).toNatClampNeg) := fun q => by rw [if_pos q] at hf; cases hf
              rw [if_neg b_34] at hf
              refine va_iast hx hb hK hP hD hS 1 0 rfl rfl b_34 dX9_set_111 (fun H locs hP hD hS => ?_)
              have hP : va_P D vwCl [(q, .inr (9, [.ref qm, .int kept, .ref qi, .int im, .ref qp, .int pm, .ref qo, .int om, .ref qg, .long lo, .long hi_, .long cde, .int fr, .int sp])), (qm, .inl (cI, 5040, .inl (upd mm (5 + x1).toNatClampNeg x2))), (qi, .inl (cI, 60, .inl inp)), (qp, .inl (cI, 2000, .inl pk)), (qo, .inl (cI, 60, .inl out)), (qg, .inl (cI, 6, .inl gr))] H := hP
              have hD : va_D A [(q, .inr (9, [.ref qm, .int kept, .ref qi, .int im, .ref qp, .int pm, .ref qo, .int om, .ref qg, .long lo, .long hi_, .long cde, .int fr, .int sp])), (qm, .inl (cI, 5040, .inl (upd mm (5 + x1).toNatClampNeg x2))), (qi, .inl (cI, 60, .inl inp)), (qp, .inl (cI, 2000, .inl pk)), (qo, .inl (cI, 60, .inl out)), (qg, .inl (cI, 6, .inl gr))] := hD
              refine lv_aload_n hx hb dX9_set_112 rfl (lv_at hl 2 rfl) ?_
              refine lv_iconst (v := 0) hx hb dX9_set_113 (by decide) ?_
              obtain ⟨t_35, hc_36, hf⟩ := bd1 hf
              refine k_rwVv (As := [.int 0]) (rest := []) (Wr := []) (W2 := [(q, .inr (9, [.ref qm, .int kept, .ref qi, .int im, .ref qp, .int pm, .ref qo, .int om, .ref qg, .long lo, .long hi_, .long cde, .int fr, .int sp])), (qm, .inl (cI, 5040, .inl t_35)), (qi, .inl (cI, 60, .inl inp)), (qp, .inl (cI, 2000, .inl pk)), (qo, .inl (cI, 60, .inl out)), (qg, .inl (cI, 6, .inl gr))]) S (c_X9_renews l D cI (q := q) (qm := qm) (qi := qi) (qp := qp) (qo := qo) (qg := qg) (kept := kept) (im := im) (pm := pm) (om := om) (lo := lo) (hi_ := hi_) (cde := cde) (fr := fr) (sp := sp) (mm := upd mm (5 + x1).toNatClampNeg x2) (inp := inp) (pk := pk) (out := out) (gr := gr) (x1 := 0)  (o_mm := t_35) (hf := hc_36)) gs_X9_25 ok_X9_renews ⟨rfl, rfl⟩ ⟨Nat.le_of_ble_eq_true rfl, Nat.le_of_ble_eq_true rfl⟩ hK hN hSF hP hD hS hA [0, 1, 2, 3, 4, 5] [] [0, 1, 2, 3, 4, 5] (by decide) rfl rfl (by decide) (by decide) rfl (by decide) rfl rfl rfl hl.1 rfl (Nat.le_of_ble_eq_true rfl) ⟨Nat.zero_le _, Nat.zero_le _⟩ dX9_set_114 (fun H locs hP hD hS => ?_)
              refine lv_iload hx hb dX9_set_117 (lv_at hl 0 rfl) ?_
              obtain ⟨e_0, e_1⟩ := Prod.mk.inj (Option.some.inj hf)
              subst e_0
              subst e_1
              exact k_wreti hx hb hret hloc rfl hP hD hS dX9_set_119
            · rw [if_pos c_33] at hf
              refine lv_bipush (v := (-2)) hx hb dX9_set_100 (by decide) ?_
              obtain ⟨e_0, e_1⟩ := Prod.mk.inj (Option.some.inj hf)
              subst e_0
              subst e_1
              exact k_wreti hx hb hret hloc rfl hP hD hS dX9_set_102
          · rw [if_pos c_31] at hf
            refine lv_iconst (v := (-1)) hx hb dX9_set_82 (by decide) ?_
            obtain ⟨e_0, e_1⟩ := Prod.mk.inj (Option.some.inj hf)
            subst e_0
            subst e_1
            exact k_wreti hx hb hret hloc rfl hP hD hS dX9_set_83
      · rw [if_pos c_9] at hf
        refine lv_iload_n hx hb dX9_set_26 rfl (lv_at hl 2 rfl) ?_
        refine lv_i2l hx hb dX9_set_27 rfl ?_
        refine lv_lconst (v := 1) hx hb dX9_set_28 (by decide) ?_
        refine lv_ldc2 (v := (200 : Int64)) hx hb hown (hts _ ck_X9_50) dX9_set_29 ?_
        refine k_roSi (As := [.long ((x2).toInt64), .long (1 : Int64), .long (200 : Int64)]) (rest := []) S (c_X9_in l D cI (x1 := (x2).toInt64) (x2 := (1 : Int64)) (x3 := (200 : Int64))  (r := (f_X9_in ((x2).toInt64) (1 : Int64) (200 : Int64))) (hf := rfl)) gs_X9_46 ok_X9_in ⟨rfl, rfl⟩ ⟨Nat.le_of_ble_eq_true rfl, Nat.le_of_ble_eq_true rfl⟩ hK hN (sfr hSF hS) (hP.sub [] rfl) rfl hl.1 rfl (Nat.le_of_ble_eq_true rfl) ⟨Nat.zero_le _, Nat.zero_le _⟩ dX9_set_32 ?_
        refine lv_goto (tgt := 77) hx hb dX9_set_35 (by decide) ?_
        refine lv_istore_n (lv' := [(3, .int (f_X9_in ((x2).toInt64) (1 : Int64) (200 : Int64))), (0, .ref q), (1, .int x1), (2, .int x2)]) hx hb dX9_set_77 rfl hl (by decide) rfl (fun ls hl => ?_)
        refine lv_iload_n hx hb dX9_set_78 rfl (lv_at hl 0 rfl) ?_
        refine lv_if_ne (tgt := 84) hx hb dX9_set_79 (by decide) (fun c_37 => ?_) (fun c_37 => ?_)
        · rw [if_neg c_37] at hf
          refine lv_aload_n hx hb dX9_set_84 rfl (lv_at hl 1 rfl) ?_
          refine va_get (D := D) (ci := 9) (v := .ref qm) (C := RX9) (T := TX9) (N := 14) hx hb hts inGX9 hown hK hP 0 rfl rfl 0 (by decide) (hts _ fl_X9_7) (fun _ h9 => h9) rfl dX9_set_85 ?_
          refine lv_iconst (v := 5) hx hb dX9_set_88 (by decide) ?_
          refine lv_iload_n hx hb dX9_set_89 rfl (lv_at hl 2 rfl) ?_
          refine lv_iadd hx hb dX9_set_90 ?_
          have b_38 : ¬ ((5 + x1) < 0 ∨ 5040 ≤ (5 + x1).toNatClampNeg) := fun q => by rw [if_pos q] at hf; cases hf
          rw [if_neg b_38] at hf
          refine va_iald hx hb hK hP 1 0 rfl rfl b_38 dX9_set_91 ?_
          refine lv_istore (lv' := [(4, .int (mm (5 + x1).toNatClampNeg)), (3, .int (f_X9_in ((x2).toInt64) (1 : Int64) (200 : Int64))), (0, .ref q), (1, .int x1), (2, .int x2)]) hx hb dX9_set_92 hl (by decide) rfl (fun ls hl => ?_)
          refine lv_iload hx hb dX9_set_94 (lv_at hl 0 rfl) ?_
          refine lv_iload_n hx hb dX9_set_96 rfl (lv_at hl 4 rfl) ?_
          refine lv_icmp_ne (tgt := 103) hx hb dX9_set_97 (by decide) (fun c_39 => ?_) (fun c_39 => ?_)
          · rw [if_neg c_39] at hf
            refine lv_aload_n hx hb dX9_set_103 rfl (lv_at hl 2 rfl) ?_
            refine va_get (D := D) (ci := 9) (v := .ref qm) (C := RX9) (T := TX9) (N := 14) hx hb hts inGX9 hown hK hP 0 rfl rfl 0 (by decide) (hts _ fl_X9_7) (fun _ h9 => h9) rfl dX9_set_104 ?_
            refine lv_iconst (v := 5) hx hb dX9_set_107 (by decide) ?_
            refine lv_iload_n hx hb dX9_set_108 rfl (lv_at hl 3 rfl) ?_
            refine lv_iadd hx hb dX9_set_109 ?_
            refine lv_iload_n hx hb dX9_set_110 rfl (lv_at hl 4 rfl) ?_
            have b_40 : ¬ ((5 + x1) < 0 ∨ 5040 ≤ (5 + x1).toNatClampNeg) := fun q => by rw [if_pos q] at hf; cases hf
            rw [if_neg b_40] at hf
            refine va_iast hx hb hK hP hD hS 1 0 rfl rfl b_40 dX9_set_111 (fun H locs hP hD hS => ?_)
            have hP : va_P D vwCl [(q, .inr (9, [.ref qm, .int kept, .ref qi, .int im, .ref qp, .int pm, .ref qo, .int om, .ref qg, .long lo, .long hi_, .long cde, .int fr, .int sp])), (qm, .inl (cI, 5040, .inl (upd mm (5 + x1).toNatClampNeg x2))), (qi, .inl (cI, 60, .inl inp)), (qp, .inl (cI, 2000, .inl pk)), (qo, .inl (cI, 60, .inl out)), (qg, .inl (cI, 6, .inl gr))] H := hP
            have hD : va_D A [(q, .inr (9, [.ref qm, .int kept, .ref qi, .int im, .ref qp, .int pm, .ref qo, .int om, .ref qg, .long lo, .long hi_, .long cde, .int fr, .int sp])), (qm, .inl (cI, 5040, .inl (upd mm (5 + x1).toNatClampNeg x2))), (qi, .inl (cI, 60, .inl inp)), (qp, .inl (cI, 2000, .inl pk)), (qo, .inl (cI, 60, .inl out)), (qg, .inl (cI, 6, .inl gr))] := hD
            refine lv_aload_n hx hb dX9_set_112 rfl (lv_at hl 2 rfl) ?_
            refine lv_iconst (v := 0) hx hb dX9_set_113 (by decide) ?_
            obtain ⟨t_41, hc_42, hf⟩ := bd1 hf
            refine k_rwVv (As := [.int 0]) (rest := []) (Wr := []) (W2 := [(q, .inr (9, [.ref qm, .int kept, .ref qi, .int im, .ref qp, .int pm, .ref qo, .int om, .ref qg, .long lo, .long hi_, .long cde, .int fr, .int sp])), (qm, .inl (cI, 5040, .inl t_41)), (qi, .inl (cI, 60, .inl inp)), (qp, .inl (cI, 2000, .inl pk)), (qo, .inl (cI, 60, .inl out)), (qg, .inl (cI, 6, .inl gr))]) S (c_X9_renews l D cI (q := q) (qm := qm) (qi := qi) (qp := qp) (qo := qo) (qg := qg) (kept := kept) (im := im) (pm := pm) (om := om) (lo := lo) (hi_ := hi_) (cde := cde) (fr := fr) (sp := sp) (mm := upd mm (5 + x1).toNatClampNeg x2) (inp := inp) (pk := pk) (out := out) (gr := gr) (x1 := 0)  (o_mm := t_41) (hf := hc_42)) gs_X9_25 ok_X9_renews ⟨rfl, rfl⟩ ⟨Nat.le_of_ble_eq_true rfl, Nat.le_of_ble_eq_true rfl⟩ hK hN hSF hP hD hS hA [0, 1, 2, 3, 4, 5] [] [0, 1, 2, 3, 4, 5] (by decide) rfl rfl (by decide) (by decide) rfl (by decide) rfl rfl rfl hl.1 rfl (Nat.le_of_ble_eq_true rfl) ⟨Nat.zero_le _, Nat.zero_le _⟩ dX9_set_114 (fun H locs hP hD hS => ?_)
            refine lv_iload hx hb dX9_set_117 (lv_at hl 0 rfl) ?_
            obtain ⟨e_0, e_1⟩ := Prod.mk.inj (Option.some.inj hf)
            subst e_0
            subst e_1
            exact k_wreti hx hb hret hloc rfl hP hD hS dX9_set_119
          · rw [if_pos c_39] at hf
            refine lv_bipush (v := (-2)) hx hb dX9_set_100 (by decide) ?_
            obtain ⟨e_0, e_1⟩ := Prod.mk.inj (Option.some.inj hf)
            subst e_0
            subst e_1
            exact k_wreti hx hb hret hloc rfl hP hD hS dX9_set_102
        · rw [if_pos c_37] at hf
          refine lv_iconst (v := (-1)) hx hb dX9_set_82 (by decide) ?_
          obtain ⟨e_0, e_1⟩ := Prod.mk.inj (Option.some.inj hf)
          subst e_0
          subst e_1
          exact k_wreti hx hb hret hloc rfl hP hD hS dX9_set_83
  · rw [if_pos c_1] at hf
    refine lv_iload_n hx hb dX9_set_4 rfl (lv_at hl 2 rfl) ?_
    refine lv_i2l hx hb dX9_set_5 rfl ?_
    refine lv_lconst (v := 0) hx hb dX9_set_6 (by decide) ?_
    refine lv_ldc2 (v := (2 : Int64)) hx hb hown (hts _ ck_X9_40) dX9_set_7 ?_
    refine k_roSi (As := [.long ((x2).toInt64), .long (0 : Int64), .long (2 : Int64)]) (rest := []) S (c_X9_in l D cI (x1 := (x2).toInt64) (x2 := (0 : Int64)) (x3 := (2 : Int64))  (r := (f_X9_in ((x2).toInt64) (0 : Int64) (2 : Int64))) (hf := rfl)) gs_X9_46 ok_X9_in ⟨rfl, rfl⟩ ⟨Nat.le_of_ble_eq_true rfl, Nat.le_of_ble_eq_true rfl⟩ hK hN (sfr hSF hS) (hP.sub [] rfl) rfl hl.1 rfl (Nat.le_of_ble_eq_true rfl) ⟨Nat.zero_le _, Nat.zero_le _⟩ dX9_set_10 ?_
    refine lv_goto (tgt := 77) hx hb dX9_set_13 (by decide) ?_
    refine lv_istore_n (lv' := [(3, .int (f_X9_in ((x2).toInt64) (0 : Int64) (2 : Int64))), (0, .ref q), (1, .int x1), (2, .int x2)]) hx hb dX9_set_77 rfl hl (by decide) rfl (fun ls hl => ?_)
    refine lv_iload_n hx hb dX9_set_78 rfl (lv_at hl 0 rfl) ?_
    refine lv_if_ne (tgt := 84) hx hb dX9_set_79 (by decide) (fun c_43 => ?_) (fun c_43 => ?_)
    · rw [if_neg c_43] at hf
      refine lv_aload_n hx hb dX9_set_84 rfl (lv_at hl 1 rfl) ?_
      refine va_get (D := D) (ci := 9) (v := .ref qm) (C := RX9) (T := TX9) (N := 14) hx hb hts inGX9 hown hK hP 0 rfl rfl 0 (by decide) (hts _ fl_X9_7) (fun _ h9 => h9) rfl dX9_set_85 ?_
      refine lv_iconst (v := 5) hx hb dX9_set_88 (by decide) ?_
      refine lv_iload_n hx hb dX9_set_89 rfl (lv_at hl 2 rfl) ?_
      refine lv_iadd hx hb dX9_set_90 ?_
      have b_44 : ¬ ((5 + x1) < 0 ∨ 5040 ≤ (5 + x1).toNatClampNeg) := fun q => by rw [if_pos q] at hf; cases hf
      rw [if_neg b_44] at hf
      refine va_iald hx hb hK hP 1 0 rfl rfl b_44 dX9_set_91 ?_
      refine lv_istore (lv' := [(4, .int (mm (5 + x1).toNatClampNeg)), (3, .int (f_X9_in ((x2).toInt64) (0 : Int64) (2 : Int64))), (0, .ref q), (1, .int x1), (2, .int x2)]) hx hb dX9_set_92 hl (by decide) rfl (fun ls hl => ?_)
      refine lv_iload hx hb dX9_set_94 (lv_at hl 0 rfl) ?_
      refine lv_iload_n hx hb dX9_set_96 rfl (lv_at hl 4 rfl) ?_
      refine lv_icmp_ne (tgt := 103) hx hb dX9_set_97 (by decide) (fun c_45 => ?_) (fun c_45 => ?_)
      · rw [if_neg c_45] at hf
        refine lv_aload_n hx hb dX9_set_103 rfl (lv_at hl 2 rfl) ?_
        refine va_get (D := D) (ci := 9) (v := .ref qm) (C := RX9) (T := TX9) (N := 14) hx hb hts inGX9 hown hK hP 0 rfl rfl 0 (by decide) (hts _ fl_X9_7) (fun _ h9 => h9) rfl dX9_set_104 ?_
        refine lv_iconst (v := 5) hx hb dX9_set_107 (by decide) ?_
        refine lv_iload_n hx hb dX9_set_108 rfl (lv_at hl 3 rfl) ?_
        refine lv_iadd hx hb dX9_set_109 ?_
        refine lv_iload_n hx hb dX9_set_110 rfl (lv_at hl 4 rfl) ?_
        have b_46 : ¬ ((5 + x1) < 0 ∨ 5040 ≤ (5 + x1).toNatClampNeg) := fun q => by rw [if_pos q] at hf; cases hf
        rw [if_neg b_46] at hf
        refine va_iast hx hb hK hP hD hS 1 0 rfl rfl b_46 dX9_set_111 (fun H locs hP hD hS => ?_)
        have hP : va_P D vwCl [(q, .inr (9, [.ref qm, .int kept, .ref qi, .int im, .ref qp, .int pm, .ref qo, .int om, .ref qg, .long lo, .long hi_, .long cde, .int fr, .int sp])), (qm, .inl (cI, 5040, .inl (upd mm (5 + x1).toNatClampNeg x2))), (qi, .inl (cI, 60, .inl inp)), (qp, .inl (cI, 2000, .inl pk)), (qo, .inl (cI, 60, .inl out)), (qg, .inl (cI, 6, .inl gr))] H := hP
        have hD : va_D A [(q, .inr (9, [.ref qm, .int kept, .ref qi, .int im, .ref qp, .int pm, .ref qo, .int om, .ref qg, .long lo, .long hi_, .long cde, .int fr, .int sp])), (qm, .inl (cI, 5040, .inl (upd mm (5 + x1).toNatClampNeg x2))), (qi, .inl (cI, 60, .inl inp)), (qp, .inl (cI, 2000, .inl pk)), (qo, .inl (cI, 60, .inl out)), (qg, .inl (cI, 6, .inl gr))] := hD
        refine lv_aload_n hx hb dX9_set_112 rfl (lv_at hl 2 rfl) ?_
        refine lv_iconst (v := 0) hx hb dX9_set_113 (by decide) ?_
        obtain ⟨t_47, hc_48, hf⟩ := bd1 hf
        refine k_rwVv (As := [.int 0]) (rest := []) (Wr := []) (W2 := [(q, .inr (9, [.ref qm, .int kept, .ref qi, .int im, .ref qp, .int pm, .ref qo, .int om, .ref qg, .long lo, .long hi_, .long cde, .int fr, .int sp])), (qm, .inl (cI, 5040, .inl t_47)), (qi, .inl (cI, 60, .inl inp)), (qp, .inl (cI, 2000, .inl pk)), (qo, .inl (cI, 60, .inl out)), (qg, .inl (cI, 6, .inl gr))]) S (c_X9_renews l D cI (q := q) (qm := qm) (qi := qi) (qp := qp) (qo := qo) (qg := qg) (kept := kept) (im := im) (pm := pm) (om := om) (lo := lo) (hi_ := hi_) (cde := cde) (fr := fr) (sp := sp) (mm := upd mm (5 + x1).toNatClampNeg x2) (inp := inp) (pk := pk) (out := out) (gr := gr) (x1 := 0)  (o_mm := t_47) (hf := hc_48)) gs_X9_25 ok_X9_renews ⟨rfl, rfl⟩ ⟨Nat.le_of_ble_eq_true rfl, Nat.le_of_ble_eq_true rfl⟩ hK hN hSF hP hD hS hA [0, 1, 2, 3, 4, 5] [] [0, 1, 2, 3, 4, 5] (by decide) rfl rfl (by decide) (by decide) rfl (by decide) rfl rfl rfl hl.1 rfl (Nat.le_of_ble_eq_true rfl) ⟨Nat.zero_le _, Nat.zero_le _⟩ dX9_set_114 (fun H locs hP hD hS => ?_)
        refine lv_iload hx hb dX9_set_117 (lv_at hl 0 rfl) ?_
        obtain ⟨e_0, e_1⟩ := Prod.mk.inj (Option.some.inj hf)
        subst e_0
        subst e_1
        exact k_wreti hx hb hret hloc rfl hP hD hS dX9_set_119
      · rw [if_pos c_45] at hf
        refine lv_bipush (v := (-2)) hx hb dX9_set_100 (by decide) ?_
        obtain ⟨e_0, e_1⟩ := Prod.mk.inj (Option.some.inj hf)
        subst e_0
        subst e_1
        exact k_wreti hx hb hret hloc rfl hP hD hS dX9_set_102
    · rw [if_pos c_43] at hf
      refine lv_iconst (v := (-1)) hx hb dX9_set_82 (by decide) ?_
      obtain ⟨e_0, e_1⟩ := Prod.mk.inj (Option.some.inj hf)
      subst e_0
      subst e_1
      exact k_wreti hx hb hret hloc rfl hP hD hS dX9_set_83
