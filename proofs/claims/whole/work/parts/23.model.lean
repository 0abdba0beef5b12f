theorem dX9_pack_0 : decode cX9_pack 0 = .ok (.aload_n 0, 1) := by decide +kernel
theorem dX9_pack_1 : decode cX9_pack 1 = .ok (.getfield 58, 3) := by decide +kernel
theorem dX9_pack_4 : decode cX9_pack 4 = .ok (.ifCond .ne 6, 3) := by decide +kernel
theorem dX9_pack_7 : decode cX9_pack 7 = .ok (.bipush (-2), 2) := by decide +kernel
theorem dX9_pack_9 : decode cX9_pack 9 = .ok (.ireturn, 1) := by decide +kernel
theorem dX9_pack_10 : decode cX9_pack 10 = .ok (.aload_n 0, 1) := by decide +kernel
theorem dX9_pack_11 : decode cX9_pack 11 = .ok (.invokevirtual 95, 3) := by decide +kernel
theorem dX9_pack_14 : decode cX9_pack 14 = .ok (.aload_n 0, 1) := by decide +kernel
theorem dX9_pack_15 : decode cX9_pack 15 = .ok (.iconst 0, 1) := by decide +kernel
theorem dX9_pack_16 : decode cX9_pack 16 = .ok (.putfield 80, 3) := by decide +kernel
theorem dX9_pack_19 : decode cX9_pack 19 = .ok (.iconst 0, 1) := by decide +kernel
theorem dX9_pack_20 : decode cX9_pack 20 = .ok (.istore_n 1, 1) := by decide +kernel
theorem dX9_pack_21 : decode cX9_pack 21 = .ok (.iload_n 1, 1) := by decide +kernel
theorem dX9_pack_22 : decode cX9_pack 22 = .ok (.aload_n 0, 1) := by decide +kernel
theorem dX9_pack_23 : decode cX9_pack 23 = .ok (.getfield 58, 3) := by decide +kernel
theorem dX9_pack_26 : decode cX9_pack 26 = .ok (.if_icmp .ge 42, 3) := by decide +kernel
theorem dX9_pack_29 : decode cX9_pack 29 = .ok (.iconst 0, 1) := by decide +kernel
theorem dX9_pack_30 : decode cX9_pack 30 = .ok (.istore_n 2, 1) := by decide +kernel
theorem dX9_pack_31 : decode cX9_pack 31 = .ok (.iload_n 2, 1) := by decide +kernel
theorem dX9_pack_32 : decode cX9_pack 32 = .ok (.bipush 8, 2) := by decide +kernel
theorem dX9_pack_34 : decode cX9_pack 34 = .ok (.if_icmp .ge 28, 3) := by decide +kernel
theorem dX9_pack_37 : decode cX9_pack 37 = .ok (.aload_n 0, 1) := by decide +kernel
theorem dX9_pack_38 : decode cX9_pack 38 = .ok (.aload_n 0, 1) := by decide +kernel
theorem dX9_pack_39 : decode cX9_pack 39 = .ok (.getfield 13, 3) := by decide +kernel
theorem dX9_pack_42 : decode cX9_pack 42 = .ok (.iload_n 1, 1) := by decide +kernel
theorem dX9_pack_43 : decode cX9_pack 43 = .ok (.iaload, 1) := by decide +kernel
theorem dX9_pack_44 : decode cX9_pack 44 = .ok (.aload_n 0, 1) := by decide +kernel
theorem dX9_pack_45 : decode cX9_pack 45 = .ok (.iload_n 2, 1) := by decide +kernel
theorem dX9_pack_46 : decode cX9_pack 46 = .ok (.invokevirtual 98, 3) := by decide +kernel
theorem dX9_pack_49 : decode cX9_pack 49 = .ok (.ishr, 1) := by decide +kernel
theorem dX9_pack_50 : decode cX9_pack 50 = .ok (.iconst 1, 1) := by decide +kernel
theorem dX9_pack_51 : decode cX9_pack 51 = .ok (.iand, 1) := by decide +kernel
theorem dX9_pack_52 : decode cX9_pack 52 = .ok (.iconst 1, 1) := by decide +kernel
theorem dX9_pack_53 : decode cX9_pack 53 = .ok (.invokevirtual 102, 3) := by decide +kernel
theorem dX9_pack_56 : decode cX9_pack 56 = .ok (.iinc 2 1, 3) := by decide +kernel
theorem dX9_pack_59 : decode cX9_pack 59 = .ok (.goto (-28), 3) := by decide +kernel
theorem dX9_pack_62 : decode cX9_pack 62 = .ok (.iinc 1 1, 3) := by decide +kernel
theorem dX9_pack_65 : decode cX9_pack 65 = .ok (.goto (-44), 3) := by decide +kernel
theorem dX9_pack_68 : decode cX9_pack 68 = .ok (.iconst 3, 1) := by decide +kernel
theorem dX9_pack_69 : decode cX9_pack 69 = .ok (.istore_n 1, 1) := by decide +kernel
theorem dX9_pack_70 : decode cX9_pack 70 = .ok (.iload_n 1, 1) := by decide +kernel
theorem dX9_pack_71 : decode cX9_pack 71 = .ok (.ifCond .lt 42, 3) := by decide +kernel
theorem dX9_pack_74 : decode cX9_pack 74 = .ok (.aload_n 0, 1) := by decide +kernel
theorem dX9_pack_75 : decode cX9_pack 75 = .ok (.getfield 16, 3) := by decide +kernel
theorem dX9_pack_78 : decode cX9_pack 78 = .ok (.aload_n 0, 1) := by decide +kernel
theorem dX9_pack_79 : decode cX9_pack 79 = .ok (.getfield 80, 3) := by decide +kernel
theorem dX9_pack_82 : decode cX9_pack 82 = .ok (.aload_n 0, 1) := by decide +kernel
theorem dX9_pack_83 : decode cX9_pack 83 = .ok (.getfield 62, 3) := by decide +kernel
theorem dX9_pack_86 : decode cX9_pack 86 = .ok (.bipush 8, 2) := by decide +kernel
theorem dX9_pack_88 : decode cX9_pack 88 = .ok (.iload_n 1, 1) := by decide +kernel
theorem dX9_pack_89 : decode cX9_pack 89 = .ok (.imul, 1) := by decide +kernel
theorem dX9_pack_90 : decode cX9_pack 90 = .ok (.lshr, 1) := by decide +kernel
theorem dX9_pack_91 : decode cX9_pack 91 = .ok (.ldc2_w 56, 3) := by decide +kernel
theorem dX9_pack_94 : decode cX9_pack 94 = .ok (.land, 1) := by decide +kernel
theorem dX9_pack_95 : decode cX9_pack 95 = .ok (.l2i, 1) := by decide +kernel
theorem dX9_pack_96 : decode cX9_pack 96 = .ok (.iastore, 1) := by decide +kernel
theorem dX9_pack_97 : decode cX9_pack 97 = .ok (.aload_n 0, 1) := by decide +kernel
theorem dX9_pack_98 : decode cX9_pack 98 = .ok (.dup, 1) := by decide +kernel
theorem dX9_pack_99 : decode cX9_pack 99 = .ok (.getfield 80, 3) := by decide +kernel
theorem dX9_pack_102 : decode cX9_pack 102 = .ok (.iconst 1, 1) := by decide +kernel
theorem dX9_pack_103 : decode cX9_pack 103 = .ok (.iadd, 1) := by decide +kernel
theorem dX9_pack_104 : decode cX9_pack 104 = .ok (.putfield 80, 3) := by decide +kernel
theorem dX9_pack_107 : decode cX9_pack 107 = .ok (.iinc 1 (-1), 3) := by decide +kernel
theorem dX9_pack_110 : decode cX9_pack 110 = .ok (.goto (-40), 3) := by decide +kernel
theorem dX9_pack_113 : decode cX9_pack 113 = .ok (.aload_n 0, 1) := by decide +kernel
theorem dX9_pack_114 : decode cX9_pack 114 = .ok (.iconst 0, 1) := by decide +kernel
theorem dX9_pack_115 : decode cX9_pack 115 = .ok (.invokevirtual 106, 3) := by decide +kernel
theorem dX9_pack_118 : decode cX9_pack 118 = .ok (.aload_n 0, 1) := by decide +kernel
theorem dX9_pack_119 : decode cX9_pack 119 = .ok (.getfield 80, 3) := by decide +kernel
theorem dX9_pack_122 : decode cX9_pack 122 = .ok (.ireturn, 1) := by decide +kernel
theorem ok_X9_begins : okV yX9_begins RX9 0 := by decide +kernel
theorem gs_X9_95 : GoodIn wsG (wsV RX9 95 RX9 yX9_begins (.code yX9_begins cX9_begins 2 none :: wsG)) := good_V ml_X9_95 im_X9_begins se_X9_begins ini_X9 co_X9_begins
theorem ok_X9_place : okV yX9_place RX9 1 := by decide +kernel
theorem gs_X9_98 : GoodIn wsG (wsV RX9 98 RX9 yX9_place (.code yX9_place cX9_place 2 (some .int) :: wsG)) := good_V ml_X9_98 im_X9_place se_X9_place ini_X9 co_X9_place
theorem ok_X9_narrows : okV yX9_narrows RX9 2 := by decide +kernel
theorem gs_X9_102 : GoodIn wsG (wsV RX9 102 RX9 yX9_narrows (.code yX9_narrows cX9_narrows 5 none :: wsG)) := good_V ml_X9_102 im_X9_narrows se_X9_narrows ini_X9 co_X9_narrows
theorem ok_X9_notes : okV yX9_notes RX9 1 := by decide +kernel
theorem gs_X9_106 : GoodIn wsG (wsV RX9 106 RX9 yX9_notes (.code yX9_notes cX9_notes 2 none :: wsG)) := good_V ml_X9_106 im_X9_notes se_X9_notes ini_X9 co_X9_notes
def st_X9_pack_L31 (v1 : Int32) (inp : (Nat → Int32)) (v2 : Int32) (pm : Int32) (lo : Int64) (hi_ : Int64) (cde : Int64) (fr : Int32) (mm : (Nat → Int32)) (pk : (Nat → Int32)) : Option ((Int32 × Int32 × Int64 × Int64 × Int64 × Int32 × (Nat → Int32) × (Nat → Int32)) ⊕ (Int32 × Int32 × Int64 × Int64 × Int64 × Int32 × (Nat → Int32) × (Nat → Int32))) := if 8 ≤ v2 then (some (Sum.inr (v2, pm, lo, hi_, cde, fr, mm, pk))) else (if v1 < 0 ∨ 60 ≤ (v1).toNatClampNeg then none else (bi1 (f_X9_place mm v2) (fun (r_9 : Int32) => bi7 (f_X9_narrows pm lo hi_ cde fr mm pk (((inp (v1).toNatClampNeg) >>> (r_9 &&& 31)) &&& 1) 1) (fun (pm_11 : Int32) (lo_12 : Int64) (hi__13 : Int64) (cde_14 : Int64) (fr_15 : Int32) (mm_16 : (Nat → Int32)) (pk_17 : (Nat → Int32)) => some (Sum.inl (v2 + 1, pm_11, lo_12, hi__13, cde_14, fr_15, mm_16, pk_17))))))
def f_X9_pack_L31 (v1 : Int32) (inp : (Nat → Int32)) (k : Nat) (v2 : Int32) (pm : Int32) (lo : Int64) (hi_ : Int64) (cde : Int64) (fr : Int32) (mm : (Nat → Int32)) (pk : (Nat → Int32)) : Option (Int32 × Int32 × Int64 × Int64 × Int64 × Int32 × (Nat → Int32) × (Nat → Int32)) := lpN (fun z => st_X9_pack_L31 v1 inp z.1 z.2.1 z.2.2.1 z.2.2.2.1 z.2.2.2.2.1 z.2.2.2.2.2.1 z.2.2.2.2.2.2.1 z.2.2.2.2.2.2.2) k (v2, pm, lo, hi_, cde, fr, mm, pk)
set_option maxHeartbeats 4000000 in
set_option maxRecDepth 100000 in
theorem L_X9_pack_31 {p : Program} {l : Launch} {e : Env} {s : State} {m : MethodId} {args : Array Value} {below : List Frame} {meth : Method} {c : Code} {Q : State → Prop} {D : va_G} {cI : ClassId} {q : Nat} {qm : Nat} {qi : Nat} {qp : Nat} {qo : Nat} {qg : Nat} {v1 : Int32} {kept : Int32} {im : Int32} {om : Int32} {sp : Int32} {inp : (Nat → Int32)} {out : (Nat → Int32)} {gr : (Nat → Int32)} {A : Nat → Prop} (S : CallFix p m c cX9_pack 3 s args wsG RX9) (hK : va_K D vwCl [(cI, .int)] s) (hN : nw s) (hSF : sf A s s.heap) (hA : ∀ q, s.heap.size ≤ q → A q) : ∀ (k : Nat) (v2 : Int32) (pm : Int32) (lo : Int64) (hi_ : Int64) (cde : Int64) (fr : Int32) (mm : (Nat → Int32)) (pk : (Nat → Int32)) (o_v2 : Int32) (o_pm : Int32) (o_lo : Int64) (o_hi_ : Int64) (o_cde : Int64) (o_fr : Int32) (o_mm : (Nat → Int32)) (o_pk : (Nat → Int32)), f_X9_pack_L31 v1 inp k v2 pm lo hi_ cde fr mm pk = some (o_v2, o_pm, o_lo, o_hi_, o_cde, o_fr, o_mm, o_pk) → ∀ (H : Heap) (locs : List Loc) (ls : Array Slot), va_P D vwCl [(q, .inr (9, [.ref qm, .int kept, .ref qi, .int im, .ref qp, .int pm, .ref qo, .int om, .ref qg, .long lo, .long hi_, .long cde, .int fr, .int sp])), (qm, .inl (cI, 5040, .inl mm)), (qi, .inl (cI, 60, .inl inp)), (qp, .inl (cI, 2000, .inl pk)), (qo, .inl (cI, 60, .inl out)), (qg, .inl (cI, 6, .inl gr))] H → va_D A [(q, .inr (9, [.ref qm, .int kept, .ref qi, .int im, .ref qp, .int pm, .ref qo, .int om, .ref qg, .long lo, .long hi_, .long cde, .int fr, .int sp])), (qm, .inl (cI, 5040, .inl mm)), (qi, .inl (cI, 60, .inl inp)), (qp, .inl (cI, 2000, .inl pk)), (qo, .inl (cI, 60, .inl out)), (qg, .inl (cI, 6, .inl gr))] → va_S A s.heap H locs → lv_has ls 3 [(0, .ref q), (1, .int v1), (2, .int v2)] → (∀ (H : Heap) (locs : List Loc) (ls : Array Slot), va_P D vwCl [(q, .inr (9, [.ref qm, .int kept, .ref qi, .int im, .ref qp, .int o_pm, .ref qo, .int om, .ref qg, .long o_lo, .long o_hi_, .long o_cde, .int o_fr, .int sp])), (qm, .inl (cI, 5040, .inl o_mm)), (qi, .inl (cI, 60, .inl inp)), (qp, .inl (cI, 2000, .inl o_pk)), (qo, .inl (cI, 60, .inl out)), (qg, .inl (cI, 6, .inl gr))] H → va_D A [(q, .inr (9, [.ref qm, .int kept, .ref qi, .int im, .ref qp, .int o_pm, .ref qo, .int om, .ref qg, .long o_lo, .long o_hi_, .long o_cde, .int o_fr, .int sp])), (qm, .inl (cI, 5040, .inl o_mm)), (qi, .inl (cI, 60, .inl inp)), (qp, .inl (cI, 2000, .inl o_pk)), (qo, .inl (cI, 60, .inl out)), (qg, .inl (cI, 6, .inl gr))] → va_S A s.heap H locs → lv_has ls 3 [(0, .ref q), (1, .int v1), (2, .int o_v2)] → W p l e (headSpec (.code yX9_pack cX9_pack 3 (some .int) :: wsG) { frames := 4, cells := 0, slots := 0, locals := 90 }).room s m args below meth c H locs 0 0 Q (F0 m 62 ls [])) → W p l e (headSpec (.code yX9_pack cX9_pack 3 (some .int) :: wsG) { frames := 4, cells := 0, slots := 0, locals := 90 }).room s m args below meth c H locs 0 0 Q (F0 m 31 ls []) := by
  obtain ⟨hx, hb, hml, hown, hts⟩ := id S
  intro k
  induction k with
  | zero =>
    intro v2 pm lo hi_ cde fr mm pk o_v2 o_pm o_lo o_hi_ o_cde o_fr o_mm o_pk hf
    cases hf
  | succ k ih =>
    intro v2 pm lo hi_ cde fr mm pk o_v2 o_pm o_lo o_hi_ o_cde o_fr o_mm o_pk hf H locs ls hP hD hS hl kk
    obtain ⟨z, hf, hz⟩ := lp_inv hf
    have hf : st_X9_pack_L31 v1 inp v2 pm lo hi_ cde fr mm pk = some z := hf
    unfold st_X9_pack_L31 at hf
    refine lv_iload_n hx hb dX9_pack_31 rfl (lv_at hl 2 rfl) ?_
    refine lv_bipush (v := 8) hx hb dX9_pack_32 (by decide) ?_
    refine lv_icmp_ge (tgt := 62) hx hb dX9_pack_34 (by decide) (fun c_7 => ?_) (fun c_7 => ?_)
    · rw [if_pos c_7] at hf
      have hf := Option.some.inj hf
      subst hf
      obtain ⟨e_0, e_r⟩ := Prod.mk.inj (lpC_r hz)
      obtain ⟨e_1, e_r⟩ := Prod.mk.inj (e_r)
      obtain ⟨e_2, e_r⟩ := Prod.mk.inj (e_r)
      obtain ⟨e_3, e_r⟩ := Prod.mk.inj (e_r)
      obtain ⟨e_4, e_r⟩ := Prod.mk.inj (e_r)
      obtain ⟨e_5, e_r⟩ := Prod.mk.inj (e_r)
      obtain ⟨e_6, e_7⟩ := Prod.mk.inj (e_r)
      subst e_0
      subst e_1
      subst e_2
      subst e_3
      subst e_4
      subst e_5
      subst e_6
      subst e_7
      exact kk H locs ls hP hD hS (lv_sub hl [0, 1, 2] rfl)
    · rw [if_neg c_7] at hf
      refine lv_aload_n hx hb dX9_pack_37 rfl (lv_at hl 0 rfl) ?_
      refine lv_aload_n hx hb dX9_pack_38 rfl (lv_at hl 0 rfl) ?_
      refine va_get (D := D) (ci := 9) (v := .ref qi) (C := RX9) (T := TX9) (N := 14) hx hb hts inGX9 hown hK hP 0 rfl rfl 2 (by decide) (hts _ fl_X9_13) (fun _ h9 => h9) rfl dX9_pack_39 ?_
      refine lv_iload_n hx hb dX9_pack_42 rfl (lv_at hl 1 rfl) ?_
      have b_8 : ¬ (v1 < 0 ∨ 60 ≤ (v1).toNatClampNeg) := fun q => by rw [if_pos q] at hf; cases hf
      rw [if_neg b_8] at hf
      refine va_iald hx hb hK hP 2 0 rfl rfl b_8 dX9_pack_43 ?_
      refine lv_aload_n hx hb dX9_pack_44 rfl (lv_at hl 0 rfl) ?_
      refine lv_iload_n hx hb dX9_pack_45 rfl (lv_at hl 2 rfl) ?_
      obtain ⟨r_9, hc_10, hf⟩ := bd1 hf
      refine k_roVi (As := [.int v2]) (rest := [.int (inp (v1).toNatClampNeg), .ref q]) S (c_X9_place l D cI (q := q) (qm := qm) (qi := qi) (qp := qp) (qo := qo) (qg := qg) (kept := kept) (im := im) (pm := pm) (om := om) (lo := lo) (hi_ := hi_) (cde := cde) (fr := fr) (sp := sp) (mm := mm) (inp := inp) (pk := pk) (out := out) (gr := gr) (x1 := v2)  (r := r_9) (hf := hc_10)) gs_X9_98 ok_X9_place ⟨rfl, rfl⟩ ⟨Nat.le_of_ble_eq_true rfl, Nat.le_of_ble_eq_true rfl⟩ hK hN (sfr hSF hS) hP rfl rfl rfl hl.1 rfl (Nat.le_of_ble_eq_true rfl) ⟨Nat.zero_le _, Nat.zero_le _⟩ dX9_pack_46 ?_
      refine lv_ishr hx hb dX9_pack_49 ?_
      refine lv_iconst (v := 1) hx hb dX9_pack_50 (by decide) ?_
      refine lv_iand hx hb dX9_pack_51 ?_
      refine lv_iconst (v := 1) hx hb dX9_pack_52 (by decide) ?_
      obtain ⟨pm_11, lo_12, hi__13, cde_14, fr_15, mm_16, pk_17, hc_18, hf⟩ := bd7 hf
      refine k_rwVv (As := [.int (((inp (v1).toNatClampNeg) >>> (r_9 &&& 31)) &&& 1), .int 1]) (rest := []) (Wr := []) (W2 := [(q, .inr (9, [.ref qm, .int kept, .ref qi, .int im, .ref qp, .int pm_11, .ref qo, .int om, .ref qg, .long lo_12, .long hi__13, .long cde_14, .int fr_15, .int sp])), (qm, .inl (cI, 5040, .inl mm_16)), (qi, .inl (cI, 60, .inl inp)), (qp, .inl (cI, 2000, .inl pk_17)), (qo, .inl (cI, 60, .inl out)), (qg, .inl (cI, 6, .inl gr))]) S (c_X9_narrows l D cI (q := q) (qm := qm) (qi := qi) (qp := qp) (qo := qo) (qg := qg) (kept := kept) (im := im) (pm := pm) (om := om) (lo := lo) (hi_ := hi_) (cde := cde) (fr := fr) (sp := sp) (mm := mm) (inp := inp) (pk := pk) (out := out) (gr := gr) (x1 := ((inp (v1).toNatClampNeg) >>> (r_9 &&& 31)) &&& 1) (x2 := 1)  (o_pm := pm_11) (o_lo := lo_12) (o_hi_ := hi__13) (o_cde := cde_14) (o_fr := fr_15) (o_mm := mm_16) (o_pk := pk_17) (hf := hc_18)) gs_X9_102 ok_X9_narrows ⟨rfl, rfl⟩ ⟨Nat.le_of_ble_eq_true rfl, Nat.le_of_ble_eq_true rfl⟩ hK hN hSF hP hD hS hA [0, 1, 2, 3, 4, 5] [] [0, 1, 2, 3, 4, 5] (by decide) rfl rfl (by decide) (by decide) rfl (by decide) rfl rfl rfl hl.1 rfl (Nat.le_of_ble_eq_true rfl) ⟨Nat.zero_le _, Nat.zero_le _⟩ dX9_pack_53 (fun H locs hP hD hS => ?_)
      refine lv_iinc (v := v2 + 1) (lv' := [(2, .int (v2 + 1)), (0, .ref q), (1, .int v1)]) hx hb dX9_pack_56 hl (k := 2) rfl rfl (by decide) rfl (fun ls hl => ?_)
      refine lv_goto (tgt := 31) hx hb dX9_pack_59 (by decide) ?_
      have hf := Option.some.inj hf
      subst hf
      exact ih (v2 + 1) pm_11 lo_12 hi__13 cde_14 fr_15 mm_16 pk_17 _ _ _ _ _ _ _ _ hz H locs ls hP hD hS (lv_sub hl [1, 2, 0] rfl) kk
def st_X9_pack_L70 (lo : Int64) (v1 : Int32) (pm : Int32) (pk : (Nat → Int32)) : Option ((Int32 × Int32 × (Nat → Int32)) ⊕ (Int32 × Int32 × (Nat → Int32))) := if v1 < 0 then (some (Sum.inr (v1, pm, pk))) else (if pm < 0 ∨ 2000 ≤ (pm).toNatClampNeg then none else (some (Sum.inl (v1 + (-1), pm + 1, upd pk (pm).toNatClampNeg (((lo >>> ((8 * v1).toInt64 &&& 63)) &&& (255 : Int64)).toInt32)))))
def f_X9_pack_L70 (lo : Int64) (k : Nat) (v1 : Int32) (pm : Int32) (pk : (Nat → Int32)) : Option (Int32 × Int32 × (Nat → Int32)) := lpN (fun z => st_X9_pack_L70 lo z.1 z.2.1 z.2.2) k (v1, pm, pk)
set_option maxHeartbeats 4000000 in
set_option maxRecDepth 100000 in
theorem L_X9_pack_70 {p : Program} {l : Launch} {e : Env} {s : State} {m : MethodId} {args : Array Value} {below : List Frame} {meth : Method} {c : Code} {Q : State → Prop} {D : va_G} {cI : ClassId} {q : Nat} {qm : Nat} {qi : Nat} {qp : Nat} {qo : Nat} {qg : Nat} {kept : Int32} {im : Int32} {om : Int32} {lo : Int64} {hi_ : Int64} {cde : Int64} {fr : Int32} {sp : Int32} {mm : (Nat → Int32)} {inp : (Nat → Int32)} {out : (Nat → Int32)} {gr : (Nat → Int32)} {A : Nat → Prop} (S : CallFix p m c cX9_pack 3 s args wsG RX9) (hK : va_K D vwCl [(cI, .int)] s) (hN : nw s) (hSF : sf A s s.heap) (hA : ∀ q, s.heap.size ≤ q → A q) : ∀ (k : Nat) (v1 : Int32) (pm : Int32) (pk : (Nat → Int32)) (o_v1 : Int32) (o_pm : Int32) (o_pk : (Nat → Int32)), f_X9_pack_L70 lo k v1 pm pk = some (o_v1, o_pm, o_pk) → ∀ (H : Heap) (locs : List Loc) (ls : Array Slot), va_P D vwCl [(q, .inr (9, [.ref qm, .int kept, .ref qi, .int im, .ref qp, .int pm, .ref qo, .int om, .ref qg, .long lo, .long hi_, .long cde, .int fr, .int sp])), (qm, .inl (cI, 5040, .inl mm)), (qi, .inl (cI, 60, .inl inp)), (qp, .inl (cI, 2000, .inl pk)), (qo, .inl (cI, 60, .inl out)), (qg, .inl (cI, 6, .inl gr))] H → va_D A [(q, .inr (9, [.ref qm, .int kept, .ref qi, .int im, .ref qp, .int pm, .ref qo, .int om, .ref qg, .long lo, .long hi_, .long cde, .int fr, .int sp])), (qm, .inl (cI, 5040, .inl mm)), (qi, .inl (cI, 60, .inl inp)), (qp, .inl (cI, 2000, .inl pk)), (qo, .inl (cI, 60, .inl out)), (qg, .inl (cI, 6, .inl gr))] → va_S A s.heap H locs → lv_has ls 3 [(0, .ref q), (1, .int v1)] → (∀ (H : Heap) (locs : List Loc) (ls : Array Slot), va_P D vwCl [(q, .inr (9, [.ref qm, .int kept, .ref qi, .int im, .ref qp, .int o_pm, .ref qo, .int om, .ref qg, .long lo, .long hi_, .long cde, .int fr, .int sp])), (qm, .inl (cI, 5040, .inl mm)), (qi, .inl (cI, 60, .inl inp)), (qp, .inl (cI, 2000, .inl o_pk)), (qo, .inl (cI, 60, .inl out)), (qg, .inl (cI, 6, .inl gr))] H → va_D A [(q, .inr (9, [.ref qm, .int kept, .ref qi, .int im, .ref qp, .int o_pm, .ref qo, .int om, .ref qg, .long lo, .long hi_, .long cde, .int fr, .int sp])), (qm, .inl (cI, 5040, .inl mm)), (qi, .inl (cI, 60, .inl inp)), (qp, .inl (cI, 2000, .inl o_pk)), (qo, .inl (cI, 60, .inl out)), (qg, .inl (cI, 6, .inl gr))] → va_S A s.heap H locs → lv_has ls 3 [(0, .ref q), (1, .int o_v1)] → W p l e (headSpec (.code yX9_pack cX9_pack 3 (some .int) :: wsG) { frames := 4, cells := 0, slots := 0, locals := 90 }).room s m args below meth c H locs 0 0 Q (F0 m 113 ls [])) → W p l e (headSpec (.code yX9_pack cX9_pack 3 (some .int) :: wsG) { frames := 4, cells := 0, slots := 0, locals := 90 }).room s m args below meth c H locs 0 0 Q (F0 m 70 ls []) := by
  obtain ⟨hx, hb, hml, hown, hts⟩ := id S
  intro k
  induction k with
  | zero =>
    intro v1 pm pk o_v1 o_pm o_pk hf
    cases hf
  | succ k ih =>
    intro v1 pm pk o_v1 o_pm o_pk hf H locs ls hP hD hS hl kk
    obtain ⟨z, hf, hz⟩ := lp_inv hf
    have hf : st_X9_pack_L70 lo v1 pm pk = some z := hf
    unfold st_X9_pack_L70 at hf
    refine lv_iload_n hx hb dX9_pack_70 rfl (lv_at hl 1 rfl) ?_
    refine lv_if_lt (tgt := 113) hx hb dX9_pack_71 (by decide) (fun c_37 => ?_) (fun c_37 => ?_)
    · rw [if_pos c_37] at hf
      have hf := Option.some.inj hf
      subst hf
      obtain ⟨e_0, e_r⟩ := Prod.mk.inj (lpC_r hz)
      obtain ⟨e_1, e_2⟩ := Prod.mk.inj (e_r)
      subst e_0
      subst e_1
      subst e_2
      exact kk H locs ls hP hD hS (lv_sub hl [0, 1] rfl)
    · rw [if_neg c_37] at hf
      refine lv_aload_n hx hb dX9_pack_74 rfl (lv_at hl 0 rfl) ?_
      refine va_get (D := D) (ci := 9) (v := .ref qp) (C := RX9) (T := TX9) (N := 14) hx hb hts inGX9 hown hK hP 0 rfl rfl 4 (by decide) (hts _ fl_X9_16) (fun _ h9 => h9) rfl dX9_pack_75 ?_
      refine lv_aload_n hx hb dX9_pack_78 rfl (lv_at hl 0 rfl) ?_
      refine va_get (D := D) (ci := 9) (v := .int pm) (C := RX9) (T := TX9) (N := 14) hx hb hts inGX9 hown hK hP 0 rfl rfl 5 (by decide) (hts _ fl_X9_80) (fun _ h9 => h9) rfl dX9_pack_79 ?_
      refine lv_aload_n hx hb dX9_pack_82 rfl (lv_at hl 0 rfl) ?_
      refine va_get (D := D) (ci := 9) (v := .long lo) (C := RX9) (T := TX9) (N := 14) hx hb hts inGX9 hown hK hP 0 rfl rfl 9 (by decide) (hts _ fl_X9_62) (fun _ h9 => h9) rfl dX9_pack_83 ?_
      refine lv_bipush (v := 8) hx hb dX9_pack_86 (by decide) ?_
      refine lv_iload_n hx hb dX9_pack_88 rfl (lv_at hl 1 rfl) ?_
      refine lv_imul hx hb dX9_pack_89 ?_
      refine lv_lshr hx hb dX9_pack_90 rfl ?_
      refine lv_ldc2 (v := (255 : Int64)) hx hb hown (hts _ ck_X9_56) dX9_pack_91 ?_
      refine lv_land hx hb dX9_pack_94 ?_
      refine lv_l2i hx hb dX9_pack_95 rfl ?_
      have b_38 : ¬ (pm < 0 ∨ 2000 ≤ (pm).toNatClampNeg) := fun q => by rw [if_pos q] at hf; cases hf
      rw [if_neg b_38] at hf
      refine va_iast hx hb hK hP hD hS 3 0 rfl rfl b_38 dX9_pack_96 (fun H locs hP hD hS => ?_)
      have hP : va_P D vwCl [(q, .inr (9, [.ref qm, .int kept, .ref qi, .int im, .ref qp, .int pm, .ref qo, .int om, .ref qg, .long lo, .long hi_, .long cde, .int fr, .int sp])), (qm, .inl (cI, 5040, .inl mm)), (qi, .inl (cI, 60, .inl inp)), (qp, .inl (cI, 2000, .inl (upd pk (pm).toNatClampNeg (((lo >>> ((8 * v1).toInt64 &&& 63)) &&& (255 : Int64)).toInt32)))), (qo, .inl (cI, 60, .inl out)), (qg, .inl (cI, 6, .inl gr))] H := hP
      have hD : va_D A [(q, .inr (9, [.ref qm, .int kept, .ref qi, .int im, .ref qp, .int pm, .ref qo, .int om, .ref qg, .long lo, .long hi_, .long cde, .int fr, .int sp])), (qm, .inl (cI, 5040, .inl mm)), (qi, .inl (cI, 60, .inl inp)), (qp, .inl (cI, 2000, .inl (upd pk (pm).toNatClampNeg (((lo >>> ((8 * v1).toInt64 &&& 63)) &&& (255 : Int64)).toInt32)))), (qo, .inl (cI, 60, .inl out)), (qg, .inl (cI, 6, .inl gr))] := hD
      refine lv_aload_n hx hb dX9_pack_97 rfl (lv_at hl 0 rfl) ?_
      refine lv_dup hx hb dX9_pack_98 rfl ?_
      refine va_get (D := D) (ci := 9) (v := .int pm) (C := RX9) (T := TX9) (N := 14) hx hb hts inGX9 hown hK hP 0 rfl rfl 5 (by decide) (hts _ fl_X9_80) (fun _ h9 => h9) rfl dX9_pack_99 ?_
      refine lv_iconst (v := 1) hx hb dX9_pack_102 (by decide) ?_
      refine lv_iadd hx hb dX9_pack_103 ?_
      refine va_put (D := D) (ci := 9) (v := .int (pm + 1)) (ty := .int) (C := RX9) (T := TX9) (N := 14) hx hb hts inGX9 tyX9 tyX9_ok nmX9 hown hK hP hD hS 0 rfl rfl 5 (by decide) (hts _ fl_X9_80) (fun _ h9 => h9) rfl (by decide +kernel) rfl rfl (Nat.le_of_ble_eq_true rfl) dX9_pack_104 (fun H locs hP hD hS => ?_)
      have hP : va_P D vwCl [(q, .inr (9, [.ref qm, .int kept, .ref qi, .int im, .ref qp, .int (pm + 1), .ref qo, .int om, .ref qg, .long lo, .long hi_, .long cde, .int fr, .int sp])), (qm, .inl (cI, 5040, .inl mm)), (qi, .inl (cI, 60, .inl inp)), (qp, .inl (cI, 2000, .inl (upd pk (pm).toNatClampNeg (((lo >>> ((8 * v1).toInt64 &&& 63)) &&& (255 : Int64)).toInt32)))), (qo, .inl (cI, 60, .inl out)), (qg, .inl (cI, 6, .inl gr))] H := hP
      have hD : va_D A [(q, .inr (9, [.ref qm, .int kept, .ref qi, .int im, .ref qp, .int (pm + 1), .ref qo, .int om, .ref qg, .long lo, .long hi_, .long cde, .int fr, .int sp])), (qm, .inl (cI, 5040, .inl mm)), (qi, .inl (cI, 60, .inl inp)), (qp, .inl (cI, 2000, .inl (upd pk (pm).toNatClampNeg (((lo >>> ((8 * v1).toInt64 &&& 63)) &&& (255 : Int64)).toInt32)))), (qo, .inl (cI, 60, .inl out)), (qg, .inl (cI, 6, .inl gr))] := hD
      refine lv_iinc (v := v1 + (-1)) (lv' := [(1, .int (v1 + (-1))), (0, .ref q)]) hx hb dX9_pack_107 hl (k := 1) rfl rfl (by decide) rfl (fun ls hl => ?_)
      refine lv_goto (tgt := 70) hx hb dX9_pack_110 (by decide) ?_
      have hf := Option.some.inj hf
      subst hf
      exact ih (v1 + (-1)) (pm + 1) (upd pk (pm).toNatClampNeg (((lo >>> ((8 * v1).toInt64 &&& 63)) &&& (255 : Int64)).toInt32)) _ _ _ hz H locs ls hP hD hS (lv_sub hl [1, 0] rfl) kk
def st_X9_pack_L21 (im : Int32) (inp : (Nat → Int32)) (v1 : Int32) (pm : Int32) (lo : Int64) (hi_ : Int64) (cde : Int64) (fr : Int32) (mm : (Nat → Int32)) (pk : (Nat → Int32)) : Option ((Int32 × Int32 × Int64 × Int64 × Int64 × Int32 × (Nat → Int32) × (Nat → Int32)) ⊕ (Int32 × Int32 × Int64 × Int64 × Int64 × Int32 × (Nat → Int32) × (Nat → Int32))) := if im ≤ v1 then (some (Sum.inr (v1, pm, lo, hi_, cde, fr, mm, pk))) else (bi8 (f_X9_pack_L31 v1 inp 4096 0 pm lo hi_ cde fr mm pk) (fun (v2_19 : Int32) (pm_20 : Int32) (lo_21 : Int64) (hi__22 : Int64) (cde_23 : Int64) (fr_24 : Int32) (mm_25 : (Nat → Int32)) (pk_26 : (Nat → Int32)) => some (Sum.inl (v1 + 1, pm_20, lo_21, hi__22, cde_23, fr_24, mm_25, pk_26))))
def f_X9_pack_L21 (im : Int32) (inp : (Nat → Int32)) (k : Nat) (v1 : Int32) (pm : Int32) (lo : Int64) (hi_ : Int64) (cde : Int64) (fr : Int32) (mm : (Nat → Int32)) (pk : (Nat → Int32)) : Option (Int32 × Int32 × Int64 × Int64 × Int64 × Int32 × (Nat → Int32) × (Nat → Int32)) := lpN (fun z => st_X9_pack_L21 im inp z.1 z.2.1 z.2.2.1 z.2.2.2.1 z.2.2.2.2.1 z.2.2.2.2.2.1 z.2.2.2.2.2.2.1 z.2.2.2.2.2.2.2) k (v1, pm, lo, hi_, cde, fr, mm, pk)
set_option maxHeartbeats 4000000 in
set_option maxRecDepth 100000 in
theorem L_X9_pack_21 {p : Program} {l : Launch} {e : Env} {s : State} {m : MethodId} {args : Array Value} {below : List Frame} {meth : Method} {c : Code} {Q : State → Prop} {D : va_G} {cI : ClassId} {q : Nat} {qm : Nat} {qi : Nat} {qp : Nat} {qo : Nat} {qg : Nat} {kept : Int32} {im : Int32} {om : Int32} {sp : Int32} {inp : (Nat → Int32)} {out : (Nat → Int32)} {gr : (Nat → Int32)} {A : Nat → Prop} (S : CallFix p m c cX9_pack 3 s args wsG RX9) (hK : va_K D vwCl [(cI, .int)] s) (hN : nw s) (hSF : sf A s s.heap) (hA : ∀ q, s.heap.size ≤ q → A q) : ∀ (k : Nat) (v1 : Int32) (pm : Int32) (lo : Int64) (hi_ : Int64) (cde : Int64) (fr : Int32) (mm : (Nat → Int32)) (pk : (Nat → Int32)) (o_v1 : Int32) (o_pm : Int32) (o_lo : Int64) (o_hi_ : Int64) (o_cde : Int64) (o_fr : Int32) (o_mm : (Nat → Int32)) (o_pk : (Nat → Int32)), f_X9_pack_L21 im inp k v1 pm lo hi_ cde fr mm pk = some (o_v1, o_pm, o_lo, o_hi_, o_cde, o_fr, o_mm, o_pk) → ∀ (H : Heap) (locs : List Loc) (ls : Array Slot), va_P D vwCl [(q, .inr (9, [.ref qm, .int kept, .ref qi, .int im, .ref qp, .int pm, .ref qo, .int om, .ref qg, .long lo, .long hi_, .long cde, .int fr, .int sp])), (qm, .inl (cI, 5040, .inl mm)), (qi, .inl (cI, 60, .inl inp)), (qp, .inl (cI, 2000, .inl pk)), (qo, .inl (cI, 60, .inl out)), (qg, .inl (cI, 6, .inl gr))] H → va_D A [(q, .inr (9, [.ref qm, .int kept, .ref qi, .int im, .ref qp, .int pm, .ref qo, .int om, .ref qg, .long lo, .long hi_, .long cde, .int fr, .int sp])), (qm, .inl (cI, 5040, .inl mm)), (qi, .inl (cI, 60, .inl inp)), (qp, .inl (cI, 2000, .inl pk)), (qo, .inl (cI, 60, .inl out)), (qg, .inl (cI, 6, .inl gr))] → va_S A s.heap H locs → lv_has ls 3 [(0, .ref q), (1, .int v1)] → (∀ (H : Heap) (locs : List Loc) (ls : Array Slot), va_P D vwCl [(q, .inr (9, [.ref qm, .int kept, .ref qi, .int im, .ref qp, .int o_pm, .ref qo, .int om, .ref qg, .long o_lo, .long o_hi_, .long o_cde, .int o_fr, .int sp])), (qm, .inl (cI, 5040, .inl o_mm)), (qi, .inl (cI, 60, .inl inp)), (qp, .inl (cI, 2000, .inl o_pk)), (qo, .inl (cI, 60, .inl out)), (qg, .inl (cI, 6, .inl gr))] H → va_D A [(q, .inr (9, [.ref qm, .int kept, .ref qi, .int im, .ref qp, .int o_pm, .ref qo, .int om, .ref qg, .long o_lo, .long o_hi_, .long o_cde, .int o_fr, .int sp])), (qm, .inl (cI, 5040, .inl o_mm)), (qi, .inl (cI, 60, .inl inp)), (qp, .inl (cI, 2000, .inl o_pk)), (qo, .inl (cI, 60, .inl out)), (qg, .inl (cI, 6, .inl gr))] → va_S A s.heap H locs → lv_has ls 3 [(0, .ref q), (1, .int o_v1)] → W p l e (headSpec (.code yX9_pack cX9_pack 3 (some .int) :: wsG) { frames := 4, cells := 0, slots := 0, locals := 90 }).room s m args below meth c H locs 0 0 Q (F0 m 68 ls [])) → W p l e (headSpec (.code yX9_pack cX9_pack 3 (some .int) :: wsG) { frames := 4, cells := 0, slots := 0, locals := 90 }).room s m args below meth c H locs 0 0 Q (F0 m 21 ls []) := by
  obtain ⟨hx, hb, hml, hown, hts⟩ := id S
  intro k
  induction k with
  | zero =>
    intro v1 pm lo hi_ cde fr mm pk o_v1 o_pm o_lo o_hi_ o_cde o_fr o_mm o_pk hf
    cases hf
  | succ k ih =>
    intro v1 pm lo hi_ cde fr mm pk o_v1 o_pm o_lo o_hi_ o_cde o_fr o_mm o_pk hf H locs ls hP hD hS hl kk
    obtain ⟨z, hf, hz⟩ := lp_inv hf
    have hf : st_X9_pack_L21 im inp v1 pm lo hi_ cde fr mm pk = some z := hf
    unfold st_X9_pack_L21 at hf
    refine lv_iload_n hx hb dX9_pack_21 rfl (lv_at hl 1 rfl) ?_
    refine lv_aload_n hx hb dX9_pack_22 rfl (lv_at hl 0 rfl) ?_
    refine va_get (D := D) (ci := 9) (v := .int im) (C := RX9) (T := TX9) (N := 14) hx hb hts inGX9 hown hK hP 0 rfl rfl 3 (by decide) (hts _ fl_X9_58) (fun _ h9 => h9) rfl dX9_pack_23 ?_
    refine lv_icmp_ge (tgt := 68) hx hb dX9_pack_26 (by decide) (fun c_6 => ?_) (fun c_6 => ?_)
    · rw [if_pos c_6] at hf
      have hf := Option.some.inj hf
      subst hf
      obtain ⟨e_0, e_r⟩ := Prod.mk.inj (lpC_r hz)
      obtain ⟨e_1, e_r⟩ := Prod.mk.inj (e_r)
      obtain ⟨e_2, e_r⟩ := Prod.mk.inj (e_r)
      obtain ⟨e_3, e_r⟩ := Prod.mk.inj (e_r)
      obtain ⟨e_4, e_r⟩ := Prod.mk.inj (e_r)
      obtain ⟨e_5, e_r⟩ := Prod.mk.inj (e_r)
      obtain ⟨e_6, e_7⟩ := Prod.mk.inj (e_r)
      subst e_0
      subst e_1
      subst e_2
      subst e_3
      subst e_4
      subst e_5
      subst e_6
      subst e_7
      exact kk H locs ls hP hD hS (lv_sub hl [0, 1] rfl)
    · rw [if_neg c_6] at hf
      refine lv_iconst (v := 0) hx hb dX9_pack_29 (by decide) ?_
      refine lv_istore_n (lv' := [(2, .int 0), (0, .ref q), (1, .int v1)]) hx hb dX9_pack_30 rfl hl (by decide) rfl (fun ls hl => ?_)
      obtain ⟨v2_19, pm_20, lo_21, hi__22, cde_23, fr_24, mm_25, pk_26, hc_27, hf⟩ := bd8 hf
      refine L_X9_pack_31 S hK hN hSF hA _ 0 pm lo hi_ cde fr mm pk v2_19 pm_20 lo_21 hi__22 cde_23 fr_24 mm_25 pk_26 hc_27 _ _ _ hP hD hS (lv_sub hl [1, 2, 0] rfl) (fun H locs ls hP hD hS hl => ?_)
      refine lv_iinc (v := v1 + 1) (lv' := [(1, .int (v1 + 1)), (0, .ref q), (2, .int v2_19)]) hx hb dX9_pack_62 hl (k := 1) rfl rfl (by decide) rfl (fun ls hl => ?_)
      refine lv_goto (tgt := 21) hx hb dX9_pack_65 (by decide) ?_
      have hf := Option.some.inj hf
      subst hf
      exact ih (v1 + 1) pm_20 lo_21 hi__22 cde_23 fr_24 mm_25 pk_26 _ _ _ _ _ _ _ _ hz H locs ls hP hD hS (lv_sub hl [1, 0] rfl) kk
def f_X9_pack (im : Int32) (pm : Int32) (lo : Int64) (hi_ : Int64) (cde : Int64) (fr : Int32) (mm : (Nat → Int32)) (inp : (Nat → Int32)) (pk : (Nat → Int32)) (gr : (Nat → Int32)) : Option (Int32 × Int32 × Int64 × Int64 × Int64 × Int32 × (Nat → Int32) × (Nat → Int32) × (Nat → Int32)) := if im = 0 then (some ((-2 : Int32), pm, lo, hi_, cde, fr, mm, pk, gr)) else (bi3 (f_X9_begins mm) (fun (lo_2 : Int64) (hi__3 : Int64) (mm_4 : (Nat → Int32)) => bi8 (f_X9_pack_L21 im inp 4096 0 0 lo_2 hi__3 cde fr mm_4 pk) (fun (v1_28 : Int32) (pm_29 : Int32) (lo_30 : Int64) (hi__31 : Int64) (cde_32 : Int64) (fr_33 : Int32) (mm_34 : (Nat → Int32)) (pk_35 : (Nat → Int32)) => bi3 (f_X9_pack_L70 lo_30 4096 3 pm_29 pk_35) (fun (v1_39 : Int32) (pm_40 : Int32) (pk_41 : (Nat → Int32)) => bi1 (f_X9_notes mm_34 gr 0) (fun (gr_43 : (Nat → Int32)) => some (pm_40, pm_40, lo_30, hi__31, cde_32, fr_33, mm_34, pk_41, gr_43))))))
set_option maxHeartbeats 4000000 in
set_option maxRecDepth 100000 in
theorem c_X9_pack (l : Launch) (D : va_G) (cI : ClassId) {sz : Nat} (q : Nat) (qm : Nat) (qi : Nat) (qp : Nat) (qo : Nat) (qg : Nat) (kept : Int32) (im : Int32) (pm : Int32) (om : Int32) (lo : Int64) (hi_ : Int64) (cde : Int64) (fr : Int32) (sp : Int32) (mm : (Nat → Int32)) (inp : (Nat → Int32)) (pk : (Nat → Int32)) (out : (Nat → Int32)) (gr : (Nat → Int32)) (r : Int32) (o_pm : Int32) (o_lo : Int64) (o_hi_ : Int64) (o_cde : Int64) (o_fr : Int32) (o_mm : (Nat → Int32)) (o_pk : (Nat → Int32)) (o_gr : (Nat → Int32)) (hf : f_X9_pack im pm lo hi_ cde fr mm inp pk gr = some (r, o_pm, o_lo, o_hi_, o_cde, o_fr, o_mm, o_pk, o_gr)) : Met l yX9_pack (.code yX9_pack cX9_pack 3 (some .int) :: wsG) ({ frames := 4, cells := 0, slots := 0, locals := 90 }) (va_Pc [.ref q] (gv D cI sz [(q, .inr (9, [.ref qm, .int kept, .ref qi, .int im, .ref qp, .int pm, .ref qo, .int om, .ref qg, .long lo, .long hi_, .long cde, .int fr, .int sp])), (qm, .inl (cI, 5040, .inl mm)), (qi, .inl (cI, 60, .inl inp)), (qp, .inl (cI, 2000, .inl pk)), (qo, .inl (cI, 60, .inl out)), (qg, .inl (cI, 6, .inl gr))])) (va_Qi (fun x (_ : Unit) => x = r) (gz D (va_A [(q, .inr (9, [.ref qm, .int kept, .ref qi, .int im, .ref qp, .int pm, .ref qo, .int om, .ref qg, .long lo, .long hi_, .long cde, .int fr, .int sp])), (qm, .inl (cI, 5040, .inl mm)), (qi, .inl (cI, 60, .inl inp)), (qp, .inl (cI, 2000, .inl pk)), (qo, .inl (cI, 60, .inl out)), (qg, .inl (cI, 6, .inl gr))] sz) [(q, .inr (9, [.ref qm, .int kept, .ref qi, .int im, .ref qp, .int o_pm, .ref qo, .int om, .ref qg, .long o_lo, .long o_hi_, .long o_cde, .int o_fr, .int sp])), (qm, .inl (cI, 5040, .inl o_mm)), (qi, .inl (cI, 60, .inl inp)), (qp, .inl (cI, 2000, .inl o_pk)), (qo, .inl (cI, 60, .inl out)), (qg, .inl (cI, 6, .inl o_gr))]) (va_A [(q, .inr (9, [.ref qm, .int kept, .ref qi, .int im, .ref qp, .int pm, .ref qo, .int om, .ref qg, .long lo, .long hi_, .long cde, .int fr, .int sp])), (qm, .inl (cI, 5040, .inl mm)), (qi, .inl (cI, 60, .inl inp)), (qp, .inl (cI, 2000, .inl pk)), (qo, .inl (cI, 60, .inl out)), (qg, .inl (cI, 6, .inl gr))] sz)) 0 0 (va_A [(q, .inr (9, [.ref qm, .int kept, .ref qi, .int im, .ref qp, .int pm, .ref qo, .int om, .ref qg, .long lo, .long hi_, .long cde, .int fr, .int sp])), (qm, .inl (cI, 5040, .inl mm)), (qi, .inl (cI, 60, .inl inp)), (qp, .inl (cI, 2000, .inl pk)), (qo, .inl (cI, 60, .inl out)), (qg, .inl (cI, 6, .inl gr))] sz) := by
  refine k_rw (y := yX9_pack) (cc := cX9_pack) (maxL := 3) (ret := (some .int)) (As := [.ref q]) (Qc := fun A => va_Qi (fun x (_ : Unit) => x = r) (gz D A [(q, .inr (9, [.ref qm, .int kept, .ref qi, .int im, .ref qp, .int o_pm, .ref qo, .int om, .ref qg, .long o_lo, .long o_hi_, .long o_cde, .int o_fr, .int sp])), (qm, .inl (cI, 5040, .inl o_mm)), (qi, .inl (cI, 60, .inl inp)), (qp, .inl (cI, 2000, .inl o_pk)), (qo, .inl (cI, 60, .inl out)), (qg, .inl (cI, 6, .inl o_gr))]) A) (by decide) rfl (Nat.le_of_ble_eq_true rfl) rfl ?_
  intro p e s m below meth c ls A S hret hloc hK hN hSF hP hD hS hA hl
  obtain ⟨hx, hb, hml, hown, hts⟩ := id S
  unfold f_X9_pack at hf
  refine lv_aload_n hx hb dX9_pack_0 rfl (lv_at hl 0 rfl) ?_
  refine va_get (D := D) (ci := 9) (v := .int im) (C := RX9) (T := TX9) (N := 14) hx hb hts inGX9 hown hK hP 0 rfl rfl 3 (by decide) (hts _ fl_X9_58) (fun _ h9 => h9) rfl dX9_pack_1 ?_
  refine lv_if_ne (tgt := 10) hx hb dX9_pack_4 (by decide) (fun c_1 => ?_) (fun c_1 => ?_)
  · rw [if_neg c_1] at hf
    refine lv_aload_n hx hb dX9_pack_10 rfl (lv_at hl 0 rfl) ?_
    obtain ⟨lo_2, hi__3, mm_4, hc_5, hf⟩ := bd3 hf
    refine k_rwVv (As := []) (rest := []) (Wr := []) (W2 := [(q, .inr (9, [.ref qm, .int kept, .ref qi, .int im, .ref qp, .int pm, .ref qo, .int om, .ref qg, .long lo_2, .long hi__3, .long cde, .int fr, .int sp])), (qm, .inl (cI, 5040, .inl mm_4)), (qi, .inl (cI, 60, .inl inp)), (qp, .inl (cI, 2000, .inl pk)), (qo, .inl (cI, 60, .inl out)), (qg, .inl (cI, 6, .inl gr))]) S (c_X9_begins l D cI (q := q) (qm := qm) (qi := qi) (qp := qp) (qo := qo) (qg := qg) (kept := kept) (im := im) (pm := pm) (om := om) (lo := lo) (hi_ := hi_) (cde := cde) (fr := fr) (sp := sp) (mm := mm) (inp := inp) (pk := pk) (out := out) (gr := gr)  (o_lo := lo_2) (o_hi_ := hi__3) (o_mm := mm_4) (hf := hc_5)) gs_X9_95 ok_X9_begins ⟨rfl, rfl⟩ ⟨Nat.le_of_ble_eq_true rfl, Nat.le_of_ble_eq_true rfl⟩ hK hN hSF hP hD hS hA [0, 1, 2, 3, 4, 5] [] [0, 1, 2, 3, 4, 5] (by decide) rfl rfl (by decide) (by decide) rfl (by decide) rfl rfl rfl hl.1 rfl (Nat.le_of_ble_eq_true rfl) ⟨Nat.zero_le _, Nat.zero_le _⟩ dX9_pack_11 (fun H locs hP hD hS => ?_)
    refine lv_aload_n hx hb dX9_pack_14 rfl (lv_at hl 0 rfl) ?_
    refine lv_iconst (v := 0) hx hb dX9_pack_15 (by decide) ?_
    refine va_put (D := D) (ci := 9) (v := .int 0) (ty := .int) (C := RX9) (T := TX9) (N := 14) hx hb hts inGX9 tyX9 tyX9_ok nmX9 hown hK hP hD hS 0 rfl rfl 5 (by decide) (hts _ fl_X9_80) (fun _ h9 => h9) rfl (by decide +kernel) rfl rfl (Nat.le_of_ble_eq_true rfl) dX9_pack_16 (fun H locs hP hD hS => ?_)
    have hP : va_P D vwCl [(q, .inr (9, [.ref qm, .int kept, .ref qi, .int im, .ref qp, .int 0, .ref qo, .int om, .ref qg, .long lo_2, .long hi__3, .long cde, .int fr, .int sp])), (qm, .inl (cI, 5040, .inl mm_4)), (qi, .inl (cI, 60, .inl inp)), (qp, .inl (cI, 2000, .inl pk)), (qo, .inl (cI, 60, .inl out)), (qg, .inl (cI, 6, .inl gr))] H := hP
    have hD : va_D A [(q, .inr (9, [.ref qm, .int kept, .ref qi, .int im, .ref qp, .int 0, .ref qo, .int om, .ref qg, .long lo_2, .long hi__3, .long cde, .int fr, .int sp])), (qm, .inl (cI, 5040, .inl mm_4)), (qi, .inl (cI, 60, .inl inp)), (qp, .inl (cI, 2000, .inl pk)), (qo, .inl (cI, 60, .inl out)), (qg, .inl (cI, 6, .inl gr))] := hD
    refine lv_iconst (v := 0) hx hb dX9_pack_19 (by decide) ?_
    refine lv_istore_n (lv' := [(1, .int 0), (0, .ref q)]) hx hb dX9_pack_20 rfl hl (by decide) rfl (fun ls hl => ?_)
    obtain ⟨v1_28, pm_29, lo_30, hi__31, cde_32, fr_33, mm_34, pk_35, hc_36, hf⟩ := bd8 hf
    refine L_X9_pack_21 S hK hN hSF hA _ 0 0 lo_2 hi__3 cde fr mm_4 pk v1_28 pm_29 lo_30 hi__31 cde_32 fr_33 mm_34 pk_35 hc_36 _ _ _ hP hD hS (lv_sub hl [1, 0] rfl) (fun H locs ls hP hD hS hl => ?_)
    refine lv_iconst (v := 3) hx hb dX9_pack_68 (by decide) ?_
    refine lv_istore_n (lv' := [(1, .int 3), (0, .ref q)]) hx hb dX9_pack_69 rfl hl (by decide) rfl (fun ls hl => ?_)
    obtain ⟨v1_39, pm_40, pk_41, hc_42, hf⟩ := bd3 hf
    refine L_X9_pack_70 S hK hN hSF hA _ 3 pm_29 pk_35 v1_39 pm_40 pk_41 hc_42 _ _ _ hP hD hS (lv_sub hl [1, 0] rfl) (fun H locs ls hP hD hS hl => ?_)
    refine lv_aload_n hx hb dX9_pack_113 rfl (lv_at hl 0 rfl) ?_
    refine lv_iconst (v := 0) hx hb dX9_pack_114 (by decide) ?_
    obtain ⟨gr_43, hc_44, hf⟩ := bd1 hf
    refine k_rwVv (As := [.int 0]) (rest := []) (Wr := []) (W2 := [(q, .inr (9, [.ref qm, .int kept, .ref qi, .int im, .ref qp, .int pm_40, .ref qo, .int om, .ref qg, .long lo_30, .long hi__31, .long cde_32, .int fr_33, .int sp])), (qm, .inl (cI, 5040, .inl mm_34)), (qi, .inl (cI, 60, .inl inp)), (qp, .inl (cI, 2000, .inl pk_41)), (qo, .inl (cI, 60, .inl out)), (qg, .inl (cI, 6, .inl gr_43))]) S (c_X9_notes l D cI (q := q) (qm := qm) (qi := qi) (qp := qp) (qo := qo) (qg := qg) (kept := kept) (im := im) (pm := pm_40) (om := om) (lo := lo_30) (hi_ := hi__31) (cde := cde_32) (fr := fr_33) (sp := sp) (mm := mm_34) (inp := inp) (pk := pk_41) (out := out) (gr := gr) (x1 := 0)  (o_gr := gr_43) (hf := hc_44)) gs_X9_106 ok_X9_notes ⟨rfl, rfl⟩ ⟨Nat.le_of_ble_eq_true rfl, Nat.le_of_ble_eq_true rfl⟩ hK hN hSF hP hD hS hA [0, 1, 2, 3, 4, 5] [] [0, 1, 2, 3, 4, 5] (by decide) rfl rfl (by decide) (by decide) rfl (by decide) rfl rfl rfl hl.1 rfl (Nat.le_of_ble_eq_true rfl) ⟨Nat.zero_le _, Nat.zero_le _⟩ dX9_pack_115 (fun H locs hP hD hS => ?_)
    refine lv_aload_n hx hb dX9_pack_118 rfl (lv_at hl 0 rfl) ?_
    refine va_get (D := D) (ci := 9) (v := .int pm_40) (C := RX9) (T := TX9) (N := 14) hx hb hts inGX9 hown hK hP 0 rfl rfl 5 (by decide) (hts _ fl_X9_80) (fun _ h9 => h9) rfl dX9_pack_119 ?_
    obtain ⟨e_0, e_r⟩ := Prod.mk.inj (Option.some.inj hf)
    obtain ⟨e_1, e_r⟩ := Prod.mk.inj (e_r)
    obtain ⟨e_2, e_r⟩ := Prod.mk.inj (e_r)
    obtain ⟨e_3, e_r⟩ := Prod.mk.inj (e_r)
    obtain ⟨e_4, e_r⟩ := Prod.mk.inj (e_r)
    obtain ⟨e_5, e_r⟩ := Prod.mk.inj (e_r)
    obtain ⟨e_6, e_r⟩ := Prod.mk.inj (e_r)
    obtain ⟨e_7, e_8⟩ := Prod.mk.inj (e_r)
    subst e_0
    subst e_1
    subst e_2
    subst e_3
    subst e_4
    subst e_5
    subst e_6
    subst e_7
    subst e_8
    exact k_wreti hx hb hret hloc rfl hP hD hS dX9_pack_122
  · rw [if_pos c_1] at hf
    refine lv_bipush (v := (-2)) hx hb dX9_pack_7 (by decide) ?_
    obtain ⟨e_0, e_r⟩ := Prod.mk.inj (Option.some.inj hf)
    obtain ⟨e_1, e_r⟩ := Prod.mk.inj (e_r)
    obtain ⟨e_2, e_r⟩ := Prod.mk.inj (e_r)
    obtain ⟨e_3, e_r⟩ := Prod.mk.inj (e_r)
    obtain ⟨e_4, e_r⟩ := Prod.mk.inj (e_r)
    obtain ⟨e_5, e_r⟩ := Prod.mk.inj (e_r)
    obtain ⟨e_6, e_r⟩ := Prod.mk.inj (e_r)
    obtain ⟨e_7, e_8⟩ := Prod.mk.inj (e_r)
    subst e_0
    subst e_1
    subst e_2
    subst e_3
    subst e_4
    subst e_5
    subst e_6
    subst e_7
    subst e_8
    exact k_wreti hx hb hret hloc rfl hP hD hS dX9_pack_9
theorem dX9_unpack_0 : decode cX9_unpack 0 = .ok (.iload_n 1, 1) := by decide +kernel
theorem dX9_unpack_1 : decode cX9_unpack 1 = .ok (.i2l, 1) := by decide +kernel
theorem dX9_unpack_2 : decode cX9_unpack 2 = .ok (.lconst 1, 1) := by decide +kernel
theorem dX9_unpack_3 : decode cX9_unpack 3 = .ok (.ldc2_w 109, 3) := by decide +kernel
theorem dX9_unpack_6 : decode cX9_unpack 6 = .ok (.invokestatic 46, 3) := by decide +kernel
theorem dX9_unpack_9 : decode cX9_unpack 9 = .ok (.ifCond .ne 5, 3) := by decide +kernel
theorem dX9_unpack_12 : decode cX9_unpack 12 = .ok (.iconst (-1), 1) := by decide +kernel
theorem dX9_unpack_13 : decode cX9_unpack 13 = .ok (.ireturn, 1) := by decide +kernel
theorem dX9_unpack_14 : decode cX9_unpack 14 = .ok (.aload_n 0, 1) := by decide +kernel
theorem dX9_unpack_15 : decode cX9_unpack 15 = .ok (.getfield 80, 3) := by decide +kernel
theorem dX9_unpack_18 : decode cX9_unpack 18 = .ok (.ifCond .ne 6, 3) := by decide +kernel
theorem dX9_unpack_21 : decode cX9_unpack 21 = .ok (.bipush (-2), 2) := by decide +kernel
theorem dX9_unpack_23 : decode cX9_unpack 23 = .ok (.ireturn, 1) := by decide +kernel
theorem dX9_unpack_24 : decode cX9_unpack 24 = .ok (.aload_n 0, 1) := by decide +kernel
theorem dX9_unpack_25 : decode cX9_unpack 25 = .ok (.invokevirtual 95, 3) := by decide +kernel
theorem dX9_unpack_28 : decode cX9_unpack 28 = .ok (.aload_n 0, 1) := by decide +kernel
theorem dX9_unpack_29 : decode cX9_unpack 29 = .ok (.lconst 0, 1) := by decide +kernel
theorem dX9_unpack_30 : decode cX9_unpack 30 = .ok (.putfield 83, 3) := by decide +kernel
theorem dX9_unpack_33 : decode cX9_unpack 33 = .ok (.iconst 0, 1) := by decide +kernel
theorem dX9_unpack_34 : decode cX9_unpack 34 = .ok (.istore_n 2, 1) := by decide +kernel
theorem dX9_unpack_35 : decode cX9_unpack 35 = .ok (.iload_n 2, 1) := by decide +kernel
theorem dX9_unpack_36 : decode cX9_unpack 36 = .ok (.iconst 4, 1) := by decide +kernel
theorem dX9_unpack_37 : decode cX9_unpack 37 = .ok (.if_icmp .ge 41, 3) := by decide +kernel
theorem dX9_unpack_40 : decode cX9_unpack 40 = .ok (.aload_n 0, 1) := by decide +kernel
theorem dX9_unpack_41 : decode cX9_unpack 41 = .ok (.aload_n 0, 1) := by decide +kernel
theorem dX9_unpack_42 : decode cX9_unpack 42 = .ok (.getfield 83, 3) := by decide +kernel
theorem dX9_unpack_45 : decode cX9_unpack 45 = .ok (.ldc2_w 86, 3) := by decide +kernel
theorem dX9_unpack_48 : decode cX9_unpack 48 = .ok (.lmul, 1) := by decide +kernel
theorem dX9_unpack_49 : decode cX9_unpack 49 = .ok (.iload_n 2, 1) := by decide +kernel
theorem dX9_unpack_50 : decode cX9_unpack 50 = .ok (.aload_n 0, 1) := by decide +kernel
theorem dX9_unpack_51 : decode cX9_unpack 51 = .ok (.getfield 80, 3) := by decide +kernel
theorem dX9_unpack_54 : decode cX9_unpack 54 = .ok (.if_icmp .ge 12, 3) := by decide +kernel
theorem dX9_unpack_57 : decode cX9_unpack 57 = .ok (.aload_n 0, 1) := by decide +kernel
theorem dX9_unpack_58 : decode cX9_unpack 58 = .ok (.getfield 16, 3) := by decide +kernel
theorem dX9_unpack_61 : decode cX9_unpack 61 = .ok (.iload_n 2, 1) := by decide +kernel
theorem dX9_unpack_62 : decode cX9_unpack 62 = .ok (.iaload, 1) := by decide +kernel
theorem dX9_unpack_63 : decode cX9_unpack 63 = .ok (.goto 4, 3) := by decide +kernel
theorem dX9_unpack_66 : decode cX9_unpack 66 = .ok (.iconst 0, 1) := by decide +kernel
theorem dX9_unpack_67 : decode cX9_unpack 67 = .ok (.i2l, 1) := by decide +kernel
theorem dX9_unpack_68 : decode cX9_unpack 68 = .ok (.ladd, 1) := by decide +kernel
theorem dX9_unpack_69 : decode cX9_unpack 69 = .ok (.putfield 83, 3) := by decide +kernel
theorem dX9_unpack_72 : decode cX9_unpack 72 = .ok (.iinc 2 1, 3) := by decide +kernel
theorem dX9_unpack_75 : decode cX9_unpack 75 = .ok (.goto (-40), 3) := by decide +kernel
theorem dX9_unpack_78 : decode cX9_unpack 78 = .ok (.aload_n 0, 1) := by decide +kernel
theorem dX9_unpack_79 : decode cX9_unpack 79 = .ok (.iconst 4, 1) := by decide +kernel
theorem dX9_unpack_80 : decode cX9_unpack 80 = .ok (.putfield 88, 3) := by decide +kernel
theorem dX9_unpack_83 : decode cX9_unpack 83 = .ok (.iconst 0, 1) := by decide +kernel
theorem dX9_unpack_84 : decode cX9_unpack 84 = .ok (.istore_n 2, 1) := by decide +kernel
theorem dX9_unpack_85 : decode cX9_unpack 85 = .ok (.iload_n 2, 1) := by decide +kernel
theorem dX9_unpack_86 : decode cX9_unpack 86 = .ok (.iload_n 1, 1) := by decide +kernel
theorem dX9_unpack_87 : decode cX9_unpack 87 = .ok (.if_icmp .ge 72, 3) := by decide +kernel
theorem dX9_unpack_90 : decode cX9_unpack 90 = .ok (.iconst 0, 1) := by decide +kernel
theorem dX9_unpack_91 : decode cX9_unpack 91 = .ok (.istore_n 3, 1) := by decide +kernel
theorem dX9_unpack_92 : decode cX9_unpack 92 = .ok (.iconst 0, 1) := by decide +kernel
theorem dX9_unpack_93 : decode cX9_unpack 93 = .ok (.istore 4, 2) := by decide +kernel
theorem dX9_unpack_95 : decode cX9_unpack 95 = .ok (.iload 4, 2) := by decide +kernel
theorem dX9_unpack_97 : decode cX9_unpack 97 = .ok (.bipush 8, 2) := by decide +kernel
theorem dX9_unpack_99 : decode cX9_unpack 99 = .ok (.if_icmp .ge 47, 3) := by decide +kernel
theorem dX9_unpack_102 : decode cX9_unpack 102 = .ok (.aload_n 0, 1) := by decide +kernel
theorem dX9_unpack_103 : decode cX9_unpack 103 = .ok (.getfield 83, 3) := by decide +kernel
theorem dX9_unpack_106 : decode cX9_unpack 106 = .ok (.aload_n 0, 1) := by decide +kernel
theorem dX9_unpack_107 : decode cX9_unpack 107 = .ok (.invokevirtual 74, 3) := by decide +kernel
theorem dX9_unpack_110 : decode cX9_unpack 110 = .ok (.lcmp, 1) := by decide +kernel
theorem dX9_unpack_111 : decode cX9_unpack 111 = .ok (.ifCond .gt 7, 3) := by decide +kernel
theorem dX9_unpack_114 : decode cX9_unpack 114 = .ok (.iconst 1, 1) := by decide +kernel
theorem dX9_unpack_115 : decode cX9_unpack 115 = .ok (.goto 4, 3) := by decide +kernel
theorem dX9_unpack_118 : decode cX9_unpack 118 = .ok (.iconst 0, 1) := by decide +kernel
theorem dX9_unpack_119 : decode cX9_unpack 119 = .ok (.istore 5, 2) := by decide +kernel
theorem dX9_unpack_121 : decode cX9_unpack 121 = .ok (.iload_n 3, 1) := by decide +kernel
theorem dX9_unpack_122 : decode cX9_unpack 122 = .ok (.iload 5, 2) := by decide +kernel
theorem dX9_unpack_124 : decode cX9_unpack 124 = .ok (.aload_n 0, 1) := by decide +kernel
theorem dX9_unpack_125 : decode cX9_unpack 125 = .ok (.iload 4, 2) := by decide +kernel
theorem dX9_unpack_127 : decode cX9_unpack 127 = .ok (.invokevirtual 98, 3) := by decide +kernel
theorem dX9_unpack_130 : decode cX9_unpack 130 = .ok (.ishl, 1) := by decide +kernel
theorem dX9_unpack_131 : decode cX9_unpack 131 = .ok (.ior, 1) := by decide +kernel
theorem dX9_unpack_132 : decode cX9_unpack 132 = .ok (.istore_n 3, 1) := by decide +kernel
theorem dX9_unpack_133 : decode cX9_unpack 133 = .ok (.aload_n 0, 1) := by decide +kernel
theorem dX9_unpack_134 : decode cX9_unpack 134 = .ok (.iload 5, 2) := by decide +kernel
theorem dX9_unpack_136 : decode cX9_unpack 136 = .ok (.iconst 0, 1) := by decide +kernel
theorem dX9_unpack_137 : decode cX9_unpack 137 = .ok (.invokevirtual 102, 3) := by decide +kernel
theorem dX9_unpack_140 : decode cX9_unpack 140 = .ok (.iinc 4 1, 3) := by decide +kernel
theorem dX9_unpack_143 : decode cX9_unpack 143 = .ok (.goto (-48), 3) := by decide +kernel
theorem dX9_unpack_146 : decode cX9_unpack 146 = .ok (.aload_n 0, 1) := by decide +kernel
theorem dX9_unpack_147 : decode cX9_unpack 147 = .ok (.getfield 19, 3) := by decide +kernel
theorem dX9_unpack_150 : decode cX9_unpack 150 = .ok (.iload_n 2, 1) := by decide +kernel
theorem dX9_unpack_151 : decode cX9_unpack 151 = .ok (.iload_n 3, 1) := by decide +kernel
theorem dX9_unpack_152 : decode cX9_unpack 152 = .ok (.iastore, 1) := by decide +kernel
theorem dX9_unpack_153 : decode cX9_unpack 153 = .ok (.iinc 2 1, 3) := by decide +kernel
theorem dX9_unpack_156 : decode cX9_unpack 156 = .ok (.goto (-71), 3) := by decide +kernel
theorem dX9_unpack_159 : decode cX9_unpack 159 = .ok (.aload_n 0, 1) := by decide +kernel
theorem dX9_unpack_160 : decode cX9_unpack 160 = .ok (.iload_n 1, 1) := by decide +kernel
theorem dX9_unpack_161 : decode cX9_unpack 161 = .ok (.putfield 111, 3) := by decide +kernel
theorem dX9_unpack_164 : decode cX9_unpack 164 = .ok (.aload_n 0, 1) := by decide +kernel
theorem dX9_unpack_165 : decode cX9_unpack 165 = .ok (.iconst 1, 1) := by decide +kernel
theorem dX9_unpack_166 : decode cX9_unpack 166 = .ok (.invokevirtual 106, 3) := by decide +kernel
theorem dX9_unpack_169 : decode cX9_unpack 169 = .ok (.aload_n 0, 1) := by decide +kernel
theorem dX9_unpack_170 : decode cX9_unpack 170 = .ok (.getfield 88, 3) := by decide +kernel
theorem dX9_unpack_173 : decode cX9_unpack 173 = .ok (.aload_n 0, 1) := by decide +kernel
theorem dX9_unpack_174 : decode cX9_unpack 174 = .ok (.getfield 80, 3) := by decide +kernel
theorem dX9_unpack_177 : decode cX9_unpack 177 = .ok (.if_icmp .ge 10, 3) := by decide +kernel
theorem dX9_unpack_180 : decode cX9_unpack 180 = .ok (.aload_n 0, 1) := by decide +kernel
theorem dX9_unpack_181 : decode cX9_unpack 181 = .ok (.getfield 88, 3) := by decide +kernel
theorem dX9_unpack_184 : decode cX9_unpack 184 = .ok (.goto 7, 3) := by decide +kernel
theorem dX9_unpack_187 : decode cX9_unpack 187 = .ok (.aload_n 0, 1) := by decide +kernel
theorem dX9_unpack_188 : decode cX9_unpack 188 = .ok (.getfield 80, 3) := by decide +kernel
theorem dX9_unpack_191 : decode cX9_unpack 191 = .ok (.ireturn, 1) := by decide +kernel
def st_X9_unpack_L35 (pm : Int32) (pk : (Nat → Int32)) (v2 : Int32) (cde : Int64) : Option ((Int32 × Int64) ⊕ (Int32 × Int64)) := if 4 ≤ v2 then (some (Sum.inr (v2, cde))) else (if pm ≤ v2 then (some (Sum.inl (v2 + 1, (cde * (256 : Int64)) + (((0 : Int32)).toInt64)))) else (if v2 < 0 ∨ 2000 ≤ (v2).toNatClampNeg then none else (some (Sum.inl (v2 + 1, (cde * (256 : Int64)) + ((pk (v2).toNatClampNeg).toInt64))))))
def f_X9_unpack_L35 (pm : Int32) (pk : (Nat → Int32)) (k : Nat) (v2 : Int32) (cde : Int64) : Option (Int32 × Int64) := lpN (fun z => st_X9_unpack_L35 pm pk z.1 z.2) k (v2, cde)
set_option maxHeartbeats 4000000 in
set_option maxRecDepth 100000 in
theorem L_X9_unpack_35 {p : Program} {l : Launch} {e : Env} {s : State} {m : MethodId} {args : Array Value} {below : List Frame} {meth : Method} {c : Code} {Q : State → Prop} {D : va_G} {cI : ClassId} {q : Nat} {qm : Nat} {qi : Nat} {qp : Nat} {qo : Nat} {qg : Nat} {v1 : Int32} {kept : Int32} {im : Int32} {pm : Int32} {om : Int32} {lo : Int64} {hi_ : Int64} {fr : Int32} {sp : Int32} {mm : (Nat → Int32)} {inp : (Nat → Int32)} {pk : (Nat → Int32)} {out : (Nat → Int32)} {gr : (Nat → Int32)} {A : Nat → Prop} (S : CallFix p m c cX9_unpack 6 s args wsG RX9) (hK : va_K D vwCl [(cI, .int)] s) (hN : nw s) (hSF : sf A s s.heap) (hA : ∀ q, s.heap.size ≤ q → A q) : ∀ (k : Nat) (v2 : Int32) (cde : Int64) (o_v2 : Int32) (o_cde : Int64), f_X9_unpack_L35 pm pk k v2 cde = some (o_v2, o_cde) → ∀ (H : Heap) (locs : List Loc) (ls : Array Slot), va_P D vwCl [(q, .inr (9, [.ref qm, .int kept, .ref qi, .int im, .ref qp, .int pm, .ref qo, .int om, .ref qg, .long lo, .long hi_, .long cde, .int fr, .int sp])), (qm, .inl (cI, 5040, .inl mm)), (qi, .inl (cI, 60, .inl inp)), (qp, .inl (cI, 2000, .inl pk)), (qo, .inl (cI, 60, .inl out)), (qg, .inl (cI, 6, .inl gr))] H → va_D A [(q, .inr (9, [.ref qm, .int kept, .ref qi, .int im, .ref qp, .int pm, .ref qo, .int om, .ref qg, .long lo, .long hi_, .long cde, .int fr, .int sp])), (qm, .inl (cI, 5040, .inl mm)), (qi, .inl (cI, 60, .inl inp)), (qp, .inl (cI, 2000, .inl pk)), (qo, .inl (cI, 60, .inl out)), (qg, .inl (cI, 6, .inl gr))] → va_S A s.heap H locs → lv_has ls 6 [(0, .ref q), (1, .int v1), (2, .int v2)] → (∀ (H : Heap) (locs : List Loc) (ls : Array Slot), va_P D vwCl [(q, .inr (9, [.ref qm, .int kept, .ref qi, .int im, .ref qp, .int pm, .ref qo, .int om, .ref qg, .long lo, .long hi_, .long o_cde, .int fr, .int sp])), (qm, .inl (cI, 5040, .inl mm)), (qi, .inl (cI, 60, .inl inp)), (qp, .inl (cI, 2000, .inl pk)), (qo, .inl (cI, 60, .inl out)), (qg, .inl (cI, 6, .inl gr))] H → va_D A [(q, .inr (9, [.ref qm, .int kept, .ref qi, .int im, .ref qp, .int pm, .ref qo, .int om, .ref qg, .long lo, .long hi_, .long o_cde, .int fr, .int sp])), (qm, .inl (cI, 5040, .inl mm)), (qi, .inl (cI, 60, .inl inp)), (qp, .inl (cI, 2000, .inl pk)), (qo, .inl (cI, 60, .inl out)), (qg, .inl (cI, 6, .inl gr))] → va_S A s.heap H locs → lv_has ls 6 [(0, .ref q), (1, .int v1), (2, .int o_v2)] → W p l e (headSpec (.code yX9_unpack cX9_unpack 6 (some .int) :: wsG) { frames := 4, cells := 0, slots := 0, locals := 90 }).room s m args below meth c H locs 0 0 Q (F0 m 78 ls [])) → W p l e (headSpec (.code yX9_unpack cX9_unpack 6 (some .int) :: wsG) { frames := 4, cells := 0, slots := 0, locals := 90 }).room s m args below meth c H locs 0 0 Q (F0 m 35 ls []) := by
  obtain ⟨hx, hb, hml, hown, hts⟩ := id S
  intro k
  induction k with
  | zero =>
    intro v2 cde o_v2 o_cde hf
    cases hf
  | succ k ih =>
    intro v2 cde o_v2 o_cde hf H locs ls hP hD hS hl kk
    obtain ⟨z, hf, hz⟩ := lp_inv hf
    have hf : st_X9_unpack_L35 pm pk v2 cde = some z := hf
    unfold st_X9_unpack_L35 at hf
    refine lv_iload_n hx hb dX9_unpack_35 rfl (lv_at hl 2 rfl) ?_
    refine lv_iconst (v := 4) hx hb dX9_unpack_36 (by decide) ?_
    refine lv_icmp_ge (tgt := 78) hx hb dX9_unpack_37 (by decide) (fun c_7 => ?_) (fun c_7 => ?_)
    · rw [if_pos c_7] at hf
      have hf := Option.some.inj hf
      subst hf
      obtain ⟨e_0, e_1⟩ := Prod.mk.inj (lpC_r hz)
      subst e_0
      subst e_1
      exact kk H locs ls hP hD hS (lv_sub hl [0, 1, 2] rfl)
    · rw [if_neg c_7] at hf
      refine lv_aload_n hx hb dX9_unpack_40 rfl (lv_at hl 0 rfl) ?_
      refine lv_aload_n hx hb dX9_unpack_41 rfl (lv_at hl 0 rfl) ?_
      refine va_get (D := D) (ci := 9) (v := .long cde) (C := RX9) (T := TX9) (N := 14) hx hb hts inGX9 hown hK hP 0 rfl rfl 11 (by decide) (hts _ fl_X9_83) (fun _ h9 => h9) rfl dX9_unpack_42 ?_
      refine lv_ldc2 (v := (256 : Int64)) hx hb hown (hts _ ck_X9_86) dX9_unpack_45 ?_
      refine lv_lmul hx hb dX9_unpack_48 ?_
      refine lv_iload_n hx hb dX9_unpack_49 rfl (lv_at hl 2 rfl) ?_
      refine lv_aload_n hx hb dX9_unpack_50 rfl (lv_at hl 0 rfl) ?_
      refine va_get (D := D) (ci := 9) (v := .int pm) (C := RX9) (T := TX9) (N := 14) hx hb hts inGX9 hown hK hP 0 rfl rfl 5 (by decide) (hts _ fl_X9_80) (fun _ h9 => h9) rfl dX9_unpack_51 ?_
      refine lv_icmp_ge (tgt := 66) hx hb dX9_unpack_54 (by decide) (fun c_8 => ?_) (fun c_8 => ?_)
      · rw [if_pos c_8] at hf
        refine lv_iconst (v := 0) hx hb dX9_unpack_66 (by decide) ?_
        refine lv_i2l hx hb dX9_unpack_67 rfl ?_
        refine lv_ladd hx hb dX9_unpack_68 ?_
        refine va_put (D := D) (ci := 9) (v := .long ((cde * (256 : Int64)) + (((0 : Int32)).toInt64))) (ty := .long) (C := RX9) (T := TX9) (N := 14) hx hb hts inGX9 tyX9 tyX9_ok nmX9 hown hK hP hD hS 0 rfl rfl 11 (by decide) (hts _ fl_X9_83) (fun _ h9 => h9) rfl (by decide +kernel) rfl rfl (Nat.le_of_ble_eq_true rfl) dX9_unpack_69 (fun H locs hP hD hS => ?_)
        have hP : va_P D vwCl [(q, .inr (9, [.ref qm, .int kept, .ref qi, .int im, .ref qp, .int pm, .ref qo, .int om, .ref qg, .long lo, .long hi_, .long ((cde * (256 : Int64)) + (((0 : Int32)).toInt64)), .int fr, .int sp])), (qm, .inl (cI, 5040, .inl mm)), (qi, .inl (cI, 60, .inl inp)), (qp, .inl (cI, 2000, .inl pk)), (qo, .inl (cI, 60, .inl out)), (qg, .inl (cI, 6, .inl gr))] H := hP
        have hD : va_D A [(q, .inr (9, [.ref qm, .int kept, .ref qi, .int im, .ref qp, .int pm, .ref qo, .int om, .ref qg, .long lo, .long hi_, .long ((cde * (256 : Int64)) + (((0 : Int32)).toInt64)), .int fr, .int sp])), (qm, .inl (cI, 5040, .inl mm)), (qi, .inl (cI, 60, .inl inp)), (qp, .inl (cI, 2000, .inl pk)), (qo, .inl (cI, 60, .inl out)), (qg, .inl (cI, 6, .inl gr))] := hD
        refine lv_iinc (v := v2 + 1) (lv' := [(2, .int (v2 + 1)), (0, .ref q), (1, .int v1)]) hx hb dX9_unpack_72 hl (k := 2) rfl rfl (by decide) rfl (fun ls hl => ?_)
        refine lv_goto (tgt := 35) hx hb dX9_unpack_75 (by decide) ?_
        have hf := Option.some.inj hf
        subst hf
        exact ih (v2 + 1) ((cde * (256 : Int64)) + (((0 : Int32)).toInt64)) _ _ hz H locs ls hP hD hS (lv_sub hl [1, 2, 0] rfl) kk
      · rw [if_neg c_8] at hf
        refine lv_aload_n hx hb dX9_unpack_57 rfl (lv_at hl 0 rfl) ?_
        refine va_get (D := D) (ci := 9) (v := .ref qp) (C := RX9) (T := TX9) (N := 14) hx hb hts inGX9 hown hK hP 0 rfl rfl 4 (by decide) (hts _ fl_X9_16) (fun _ h9 => h9) rfl dX9_unpack_58 ?_
        refine lv_iload_n hx hb dX9_unpack_61 rfl (lv_at hl 2 rfl) ?_
        have b_9 : ¬ (v2 < 0 ∨ 2000 ≤ (v2).toNatClampNeg) := fun q => by rw [if_pos q] at hf; cases hf
        rw [if_neg b_9] at hf
        refine va_iald hx hb hK hP 3 0 rfl rfl b_9 dX9_unpack_62 ?_
        refine lv_goto (tgt := 67) hx hb dX9_unpack_63 (by decide) ?_
        refine lv_i2l hx hb dX9_unpack_67 rfl ?_
        refine lv_ladd hx hb dX9_unpack_68 ?_
        refine va_put (D := D) (ci := 9) (v := .long ((cde * (256 : Int64)) + ((pk (v2).toNatClampNeg).toInt64))) (ty := .long) (C := RX9) (T := TX9) (N := 14) hx hb hts inGX9 tyX9 tyX9_ok nmX9 hown hK hP hD hS 0 rfl rfl 11 (by decide) (hts _ fl_X9_83) (fun _ h9 => h9) rfl (by decide +kernel) rfl rfl (Nat.le_of_ble_eq_true rfl) dX9_unpack_69 (fun H locs hP hD hS => ?_)
        have hP : va_P D vwCl [(q, .inr (9, [.ref qm, .int kept, .ref qi, .int im, .ref qp, .int pm, .ref qo, .int om, .ref qg, .long lo, .long hi_, .long ((cde * (256 : Int64)) + ((pk (v2).toNatClampNeg).toInt64)), .int fr, .int sp])), (qm, .inl (cI, 5040, .inl mm)), (qi, .inl (cI, 60, .inl inp)), (qp, .inl (cI, 2000, .inl pk)), (qo, .inl (cI, 60, .inl out)), (qg, .inl (cI, 6, .inl gr))] H := hP
        have hD : va_D A [(q, .inr (9, [.ref qm, .int kept, .ref qi, .int im, .ref qp, .int pm, .ref qo, .int om, .ref qg, .long lo, .long hi_, .long ((cde * (256 : Int64)) + ((pk (v2).toNatClampNeg).toInt64)), .int fr, .int sp])), (qm, .inl (cI, 5040, .inl mm)), (qi, .inl (cI, 60, .inl inp)), (qp, .inl (cI, 2000, .inl pk)), (qo, .inl (cI, 60, .inl out)), (qg, .inl (cI, 6, .inl gr))] := hD
        refine lv_iinc (v := v2 + 1) (lv' := [(2, .int (v2 + 1)), (0, .ref q), (1, .int v1)]) hx hb dX9_unpack_72 hl (k := 2) rfl rfl (by decide) rfl (fun ls hl => ?_)
        refine lv_goto (tgt := 35) hx hb dX9_unpack_75 (by decide) ?_
        have hf := Option.some.inj hf
        subst hf
        exact ih (v2 + 1) ((cde * (256 : Int64)) + ((pk (v2).toNatClampNeg).toInt64)) _ _ hz H locs ls hP hD hS (lv_sub hl [1, 2, 0] rfl) kk
def st_X9_unpack_L95  (v3 : Int32) (v4 : Int32) (pm : Int32) (lo : Int64) (hi_ : Int64) (cde : Int64) (fr : Int32) (mm : (Nat → Int32)) (pk : (Nat → Int32)) : Option ((Int32 × Int32 × Int32 × Int64 × Int64 × Int64 × Int32 × (Nat → Int32) × (Nat → Int32)) ⊕ (Int32 × Int32 × Int32 × Int64 × Int64 × Int64 × Int32 × (Nat → Int32) × (Nat → Int32))) := if 8 ≤ v4 then (some (Sum.inr (v3, v4, pm, lo, hi_, cde, fr, mm, pk))) else (bi1 (f_X9_middle lo hi_ mm) (fun (r_15 : Int64) => if 0 < (lg_cmp cde r_15) then (bi1 (f_X9_place mm v4) (fun (r_18 : Int32) => bi7 (f_X9_narrows pm lo hi_ cde fr mm pk 0 0) (fun (pm_20 : Int32) (lo_21 : Int64) (hi__22 : Int64) (cde_23 : Int64) (fr_24 : Int32) (mm_25 : (Nat → Int32)) (pk_26 : (Nat → Int32)) => some (Sum.inl (v3 ||| (0 <<< (r_18 &&& 31)), v4 + 1, pm_20, lo_21, hi__22, cde_23, fr_24, mm_25, pk_26))))) else (bi1 (f_X9_place mm v4) (fun (r_28 : Int32) => bi7 (f_X9_narrows pm lo hi_ cde fr mm pk 1 0) (fun (pm_30 : Int32) (lo_31 : Int64) (hi__32 : Int64) (cde_33 : Int64) (fr_34 : Int32) (mm_35 : (Nat → Int32)) (pk_36 : (Nat → Int32)) => some (Sum.inl (v3 ||| (1 <<< (r_28 &&& 31)), v4 + 1, pm_30, lo_31, hi__32, cde_33, fr_34, mm_35, pk_36)))))))
def f_X9_unpack_L95  (k : Nat) (v3 : Int32) (v4 : Int32) (pm : Int32) (lo : Int64) (hi_ : Int64) (cde : Int64) (fr : Int32) (mm : (Nat → Int32)) (pk : (Nat → Int32)) : Option (Int32 × Int32 × Int32 × Int64 × Int64 × Int64 × Int32 × (Nat → Int32) × (Nat → Int32)) := lpN (fun z => st_X9_unpack_L95  z.1 z.2.1 z.2.2.1 z.2.2.2.1 z.2.2.2.2.1 z.2.2.2.2.2.1 z.2.2.2.2.2.2.1 z.2.2.2.2.2.2.2.1 z.2.2.2.2.2.2.2.2) k (v3, v4, pm, lo, hi_, cde, fr, mm, pk)
set_option maxHeartbeats 4000000 in
set_option maxRecDepth 100000 in
theorem L_X9_unpack_95 {p : Program} {l : Launch} {e : Env} {s : State} {m : MethodId} {args : Array Value} {below : List Frame} {meth : Method} {c : Code} {Q : State → Prop} {D : va_G} {cI : ClassId} {q : Nat} {qm : Nat} {qi : Nat} {qp : Nat} {qo : Nat} {qg : Nat} {v1 : Int32} {v2 : Int32} {kept : Int32} {im : Int32} {om : Int32} {sp : Int32} {inp : (Nat → Int32)} {out : (Nat → Int32)} {gr : (Nat → Int32)} {A : Nat → Prop} (S : CallFix p m c cX9_unpack 6 s args wsG RX9) (hK : va_K D vwCl [(cI, .int)] s) (hN : nw s) (hSF : sf A s s.heap) (hA : ∀ q, s.heap.size ≤ q → A q) : ∀ (k : Nat) (v3 : Int32) (v4 : Int32) (pm : Int32) (lo : Int64) (hi_ : Int64) (cde : Int64) (fr : Int32) (mm : (Nat → Int32)) (pk : (Nat → Int32)) (o_v3 : Int32) (o_v4 : Int32) (o_pm : Int32) (o_lo : Int64) (o_hi_ : Int64) (o_cde : Int64) (o_fr : Int32) (o_mm : (Nat → Int32)) (o_pk : (Nat → Int32)), f_X9_unpack_L95  k v3 v4 pm lo hi_ cde fr mm pk = some (o_v3, o_v4, o_pm, o_lo, o_hi_, o_cde, o_fr, o_mm, o_pk) → ∀ (H : Heap) (locs : List Loc) (ls : Array Slot), va_P D vwCl [(q, .inr (9, [.ref qm, .int kept, .ref qi, .int im, .ref qp, .int pm, .ref qo, .int om, .ref qg, .long lo, .long hi_, .long cde, .int fr, .int sp])), (qm, .inl (cI, 5040, .inl mm)), (qi, .inl (cI, 60, .inl inp)), (qp, .inl (cI, 2000, .inl pk)), (qo, .inl (cI, 60, .inl out)), (qg, .inl (cI, 6, .inl gr))] H → va_D A [(q, .inr (9, [.ref qm, .int kept, .ref qi, .int im, .ref qp, .int pm, .ref qo, .int om, .ref qg, .long lo, .long hi_, .long cde, .int fr, .int sp])), (qm, .inl (cI, 5040, .inl mm)), (qi, .inl (cI, 60, .inl inp)), (qp, .inl (cI, 2000, .inl pk)), (qo, .inl (cI, 60, .inl out)), (qg, .inl (cI, 6, .inl gr))] → va_S A s.heap H locs → lv_has ls 6 [(0, .ref q), (1, .int v1), (2, .int v2), (3, .int v3), (4, .int v4)] → (∀ (H : Heap) (locs : List Loc) (ls : Array Slot), va_P D vwCl [(q, .inr (9, [.ref qm, .int kept, .ref qi, .int im, .ref qp, .int o_pm, .ref qo, .int om, .ref qg, .long o_lo, .long o_hi_, .long o_cde, .int o_fr, .int sp])), (qm, .inl (cI, 5040, .inl o_mm)), (qi, .inl (cI, 60, .inl inp)), (qp, .inl (cI, 2000, .inl o_pk)), (qo, .inl (cI, 60, .inl out)), (qg, .inl (cI, 6, .inl gr))] H → va_D A [(q, .inr (9, [.ref qm, .int kept, .ref qi, .int im, .ref qp, .int o_pm, .ref qo, .int om, .ref qg, .long o_lo, .long o_hi_, .long o_cde, .int o_fr, .int sp])), (qm, .inl (cI, 5040, .inl o_mm)), (qi, .inl (cI, 60, .inl inp)), (qp, .inl (cI, 2000, .inl o_pk)), (qo, .inl (cI, 60, .inl out)), (qg, .inl (cI, 6, .inl gr))] → va_S A s.heap H locs → lv_has ls 6 [(0, .ref q), (1, .int v1), (2, .int v2), (3, .int o_v3), (4, .int o_v4)] → W p l e (headSpec (.code yX9_unpack cX9_unpack 6 (some .int) :: wsG) { frames := 4, cells := 0, slots := 0, locals := 90 }).room s m args below meth c H locs 0 0 Q (F0 m 146 ls [])) → W p l e (headSpec (.code yX9_unpack cX9_unpack 6 (some .int) :: wsG) { frames := 4, cells := 0, slots := 0, locals := 90 }).room s m args below meth c H locs 0 0 Q (F0 m 95 ls []) := by
  obtain ⟨hx, hb, hml, hown, hts⟩ := id S
  intro k
  induction k with
  | zero =>
    intro v3 v4 pm lo hi_ cde fr mm pk o_v3 o_v4 o_pm o_lo o_hi_ o_cde o_fr o_mm o_pk hf
    cases hf
  | succ k ih =>
    intro v3 v4 pm lo hi_ cde fr mm pk o_v3 o_v4 o_pm o_lo o_hi_ o_cde o_fr o_mm o_pk hf H locs ls hP hD hS hl kk
    obtain ⟨z, hf, hz⟩ := lp_inv hf
    have hf : st_X9_unpack_L95  v3 v4 pm lo hi_ cde fr mm pk = some z := hf
    unfold st_X9_unpack_L95 at hf
    refine lv_iload hx hb dX9_unpack_95 (lv_at hl 4 rfl) ?_
    refine lv_bipush (v := 8) hx hb dX9_unpack_97 (by decide) ?_
    refine lv_icmp_ge (tgt := 146) hx hb dX9_unpack_99 (by decide) (fun c_14 => ?_) (fun c_14 => ?_)
    · rw [if_pos c_14] at hf
      have hf := Option.some.inj hf
      subst hf
      obtain ⟨e_0, e_r⟩ := Prod.mk.inj (lpC_r hz)
      obtain ⟨e_1, e_r⟩ := Prod.mk.inj (e_r)
      obtain ⟨e_2, e_r⟩ := Prod.mk.inj (e_r)
      obtain ⟨e_3, e_r⟩ := Prod.mk.inj (e_r)
      obtain ⟨e_4, e_r⟩ := Prod.mk.inj (e_r)
      obtain ⟨e_5, e_r⟩ := Prod.mk.inj (e_r)
      obtain ⟨e_6, e_r⟩ := Prod.mk.inj (e_r)
      obtain ⟨e_7, e_8⟩ := Prod.mk.inj (e_r)
      subst e_0
      subst e_1
      subst e_2
      subst e_3
      subst e_4
      subst e_5
      subst e_6
      subst e_7
      subst e_8
      exact kk H locs ls hP hD hS (lv_sub hl [0, 1, 2, 3, 4] rfl)
    · rw [if_neg c_14] at hf
      refine lv_aload_n hx hb dX9_unpack_102 rfl (lv_at hl 0 rfl) ?_
      refine va_get (D := D) (ci := 9) (v := .long cde) (C := RX9) (T := TX9) (N := 14) hx hb hts inGX9 hown hK hP 0 rfl rfl 11 (by decide) (hts _ fl_X9_83) (fun _ h9 => h9) rfl dX9_unpack_103 ?_
      refine lv_aload_n hx hb dX9_unpack_106 rfl (lv_at hl 0 rfl) ?_
      obtain ⟨r_15, hc_16, hf⟩ := bd1 hf
      refine k_roVl (As := []) (rest := [.long cde]) S (c_X9_middle l D cI (q := q) (qm := qm) (qi := qi) (qp := qp) (qo := qo) (qg := qg) (kept := kept) (im := im) (pm := pm) (om := om) (lo := lo) (hi_ := hi_) (cde := cde) (fr := fr) (sp := sp) (mm := mm) (inp := inp) (pk := pk) (out := out) (gr := gr)  (r := r_15) (hf := hc_16)) gs_X9_74 ok_X9_middle ⟨rfl, rfl⟩ ⟨Nat.le_of_ble_eq_true rfl, Nat.le_of_ble_eq_true rfl⟩ hK hN (sfr hSF hS) hP rfl rfl rfl hl.1 rfl (Nat.le_of_ble_eq_true rfl) ⟨Nat.zero_le _, Nat.zero_le _⟩ dX9_unpack_107 ?_
      refine W.lcmp hx hb dX9_unpack_110 ?_
      refine lv_if_gt (tgt := 118) hx hb dX9_unpack_111 (by decide) (fun c_17 => ?_) (fun c_17 => ?_)
      · rw [if_pos c_17] at hf
        refine lv_iconst (v := 0) hx hb dX9_unpack_118 (by decide) ?_
        refine lv_istore (lv' := [(5, .int 0), (0, .ref q), (1, .int v1), (2, .int v2), (3, .int v3), (4, .int v4)]) hx hb dX9_unpack_119 hl (by decide) rfl (fun ls hl => ?_)
        refine lv_iload_n hx hb dX9_unpack_121 rfl (lv_at hl 4 rfl) ?_
        refine lv_iload hx hb dX9_unpack_122 (lv_at hl 0 rfl) ?_
        refine lv_aload_n hx hb dX9_unpack_124 rfl (lv_at hl 1 rfl) ?_
        refine lv_iload hx hb dX9_unpack_125 (lv_at hl 5 rfl) ?_
        obtain ⟨r_18, hc_19, hf⟩ := bd1 hf
        refine k_roVi (As := [.int v4]) (rest := [.int 0, .int v3]) S (c_X9_place l D cI (q := q) (qm := qm) (qi := qi) (qp := qp) (qo := qo) (qg := qg) (kept := kept) (im := im) (pm := pm) (om := om) (lo := lo) (hi_ := hi_) (cde := cde) (fr := fr) (sp := sp) (mm := mm) (inp := inp) (pk := pk) (out := out) (gr := gr) (x1 := v4)  (r := r_18) (hf := hc_19)) gs_X9_98 ok_X9_place ⟨rfl, rfl⟩ ⟨Nat.le_of_ble_eq_true rfl, Nat.le_of_ble_eq_true rfl⟩ hK hN (sfr hSF hS) hP rfl rfl rfl hl.1 rfl (Nat.le_of_ble_eq_true rfl) ⟨Nat.zero_le _, Nat.zero_le _⟩ dX9_unpack_127 ?_
        refine lv_ishl hx hb dX9_unpack_130 ?_
        refine lv_ior hx hb dX9_unpack_131 ?_
        refine lv_istore_n (lv' := [(3, .int (v3 ||| (0 <<< (r_18 &&& 31)))), (5, .int 0), (0, .ref q), (1, .int v1), (2, .int v2), (4, .int v4)]) hx hb dX9_unpack_132 rfl hl (by decide) rfl (fun ls hl => ?_)
        refine lv_aload_n hx hb dX9_unpack_133 rfl (lv_at hl 2 rfl) ?_
        refine lv_iload hx hb dX9_unpack_134 (lv_at hl 1 rfl) ?_
        refine lv_iconst (v := 0) hx hb dX9_unpack_136 (by decide) ?_
        obtain ⟨pm_20, lo_21, hi__22, cde_23, fr_24, mm_25, pk_26, hc_27, hf⟩ := bd7 hf
        refine k_rwVv (As := [.int 0, .int 0]) (rest := []) (Wr := []) (W2 := [(q, .inr (9, [.ref qm, .int kept, .ref qi, .int im, .ref qp, .int pm_20, .ref qo, .int om, .ref qg, .long lo_21, .long hi__22, .long cde_23, .int fr_24, .int sp])), (qm, .inl (cI, 5040, .inl mm_25)), (qi, .inl (cI, 60, .inl inp)), (qp, .inl (cI, 2000, .inl pk_26)), (qo, .inl (cI, 60, .inl out)), (qg, .inl (cI, 6, .inl gr))]) S (c_X9_narrows l D cI (q := q) (qm := qm) (qi := qi) (qp := qp) (qo := qo) (qg := qg) (kept := kept) (im := im) (pm := pm) (om := om) (lo := lo) (hi_ := hi_) (cde := cde) (fr := fr) (sp := sp) (mm := mm) (inp := inp) (pk := pk) (out := out) (gr := gr) (x1 := 0) (x2 := 0)  (o_pm := pm_20) (o_lo := lo_21) (o_hi_ := hi__22) (o_cde := cde_23) (o_fr := fr_24) (o_mm := mm_25) (o_pk := pk_26) (hf := hc_27)) gs_X9_102 ok_X9_narrows ⟨rfl, rfl⟩ ⟨Nat.le_of_ble_eq_true rfl, Nat.le_of_ble_eq_true rfl⟩ hK hN hSF hP hD hS hA [0, 1, 2, 3, 4, 5] [] [0, 1, 2, 3, 4, 5] (by decide) rfl rfl (by decide) (by decide) rfl (by decide) rfl rfl rfl hl.1 rfl (Nat.le_of_ble_eq_true rfl) ⟨Nat.zero_le _, Nat.zero_le _⟩ dX9_unpack_137 (fun H locs hP hD hS => ?_)
        refine lv_iinc (v := v4 + 1) (lv' := [(4, .int (v4 + 1)), (3, .int (v3 ||| (0 <<< (r_18 &&& 31)))), (5, .int 0), (0, .ref q), (1, .int v1), (2, .int v2)]) hx hb dX9_unpack_140 hl (k := 5) rfl rfl (by decide) rfl (fun ls hl => ?_)
        refine lv_goto (tgt := 95) hx hb dX9_unpack_143 (by decide) ?_
        have hf := Option.some.inj hf
        subst hf
        exact ih (v3 ||| (0 <<< (r_18 &&& 31))) (v4 + 1) pm_20 lo_21 hi__22 cde_23 fr_24 mm_25 pk_26 _ _ _ _ _ _ _ _ _ hz H locs ls hP hD hS (lv_sub hl [3, 4, 5, 1, 0] rfl) kk
      · rw [if_neg c_17] at hf
        refine lv_iconst (v := 1) hx hb dX9_unpack_114 (by decide) ?_
        refine lv_goto (tgt := 119) hx hb dX9_unpack_115 (by decide) ?_
        refine lv_istore (lv' := [(5, .int 1), (0, .ref q), (1, .int v1), (2, .int v2), (3, .int v3), (4, .int v4)]) hx hb dX9_unpack_119 hl (by decide) rfl (fun ls hl => ?_)
        refine lv_iload_n hx hb dX9_unpack_121 rfl (lv_at hl 4 rfl) ?_
        refine lv_iload hx hb dX9_unpack_122 (lv_at hl 0 rfl) ?_
        refine lv_aload_n hx hb dX9_unpack_124 rfl (lv_at hl 1 rfl) ?_
        refine lv_iload hx hb dX9_unpack_125 (lv_at hl 5 rfl) ?_
        obtain ⟨r_28, hc_29, hf⟩ := bd1 hf
        refine k_roVi (As := [.int v4]) (rest := [.int 1, .int v3]) S (c_X9_place l D cI (q := q) (qm := qm) (qi := qi) (qp := qp) (qo := qo) (qg := qg) (kept := kept) (im := im) (pm := pm) (om := om) (lo := lo) (hi_ := hi_) (cde := cde) (fr := fr) (sp := sp) (mm := mm) (inp := inp) (pk := pk) (out := out) (gr := gr) (x1 := v4)  (r := r_28) (hf := hc_29)) gs_X9_98 ok_X9_place ⟨rfl, rfl⟩ ⟨Nat.le_of_ble_eq_true rfl, Nat.le_of_ble_eq_true rfl⟩ hK hN (sfr hSF hS) hP rfl rfl rfl hl.1 rfl (Nat.le_of_ble_eq_true rfl) ⟨Nat.zero_le _, Nat.zero_le _⟩ dX9_unpack_127 ?_
        refine lv_ishl hx hb dX9_unpack_130 ?_
        refine lv_ior hx hb dX9_unpack_131 ?_
        refine lv_istore_n (lv' := [(3, .int (v3 ||| (1 <<< (r_28 &&& 31)))), (5, .int 1), (0, .ref q), (1, .int v1), (2, .int v2), (4, .int v4)]) hx hb dX9_unpack_132 rfl hl (by decide) rfl (fun ls hl => ?_)
        refine lv_aload_n hx hb dX9_unpack_133 rfl (lv_at hl 2 rfl) ?_
        refine lv_iload hx hb dX9_unpack_134 (lv_at hl 1 rfl) ?_
        refine lv_iconst (v := 0) hx hb dX9_unpack_136 (by decide) ?_
        obtain ⟨pm_30, lo_31, hi__32, cde_33, fr_34, mm_35, pk_36, hc_37, hf⟩ := bd7 hf
        refine k_rwVv (As := [.int 1, .int 0]) (rest := []) (Wr := []) (W2 := [(q, .inr (9, [.ref qm, .int kept, .ref qi, .int im, .ref qp, .int pm_30, .ref qo, .int om, .ref qg, .long lo_31, .long hi__32, .long cde_33, .int fr_34, .int sp])), (qm, .inl (cI, 5040, .inl mm_35)), (qi, .inl (cI, 60, .inl inp)), (qp, .inl (cI, 2000, .inl pk_36)), (qo, .inl (cI, 60, .inl out)), (qg, .inl (cI, 6, .inl gr))]) S (c_X9_narrows l D cI (q := q) (qm := qm) (qi := qi) (qp := qp) (qo := qo) (qg := qg) (kept := kept) (im := im) (pm := pm) (om := om) (lo := lo) (hi_ := hi_) (cde := cde) (fr := fr) (sp := sp) (mm := mm) (inp := inp) (pk := pk) (out := out) (gr := gr) (x1 := 1) (x2 := 0)  (o_pm := pm_30) (o_lo := lo_31) (o_hi_ := hi__32) (o_cde := cde_33) (o_fr := fr_34) (o_mm := mm_35) (o_pk := pk_36) (hf := hc_37)) gs_X9_102 ok_X9_narrows ⟨rfl, rfl⟩ ⟨Nat.le_of_ble_eq_true rfl, Nat.le_of_ble_eq_true rfl⟩ hK hN hSF hP hD hS hA [0, 1, 2, 3, 4, 5] [] [0, 1, 2, 3, 4, 5] (by decide) rfl rfl (by decide) (by decide) rfl (by decide) rfl rfl rfl hl.1 rfl (Nat.le_of_ble_eq_true rfl) ⟨Nat.zero_le _, Nat.zero_le _⟩ dX9_unpack_137 (fun H locs hP hD hS => ?_)
        refine lv_iinc (v := v4 + 1) (lv' := [(4, .int (v4 + 1)), (3, .int (v3 ||| (1 <<< (r_28 &&& 31)))), (5, .int 1), (0, .ref q), (1, .int v1), (2, .int v2)]) hx hb dX9_unpack_140 hl (k := 5) rfl rfl (by decide) rfl (fun ls hl => ?_)
        refine lv_goto (tgt := 95) hx hb dX9_unpack_143 (by decide) ?_
        have hf := Option.some.inj hf
        subst hf
        exact ih (v3 ||| (1 <<< (r_28 &&& 31))) (v4 + 1) pm_30 lo_31 hi__32 cde_33 fr_34 mm_35 pk_36 _ _ _ _ _ _ _ _ _ hz H locs ls hP hD hS (lv_sub hl [3, 4, 5, 1, 0] rfl) kk
def st_X9_unpack_L85 (v1 : Int32) (v2 : Int32) (pm : Int32) (lo : Int64) (hi_ : Int64) (cde : Int64) (fr : Int32) (mm : (Nat → Int32)) (pk : (Nat → Int32)) (out : (Nat → Int32)) : Option ((Int32 × Int32 × Int64 × Int64 × Int64 × Int32 × (Nat → Int32) × (Nat → Int32) × (Nat → Int32)) ⊕ (Int32 × Int32 × Int64 × Int64 × Int64 × Int32 × (Nat → Int32) × (Nat → Int32) × (Nat → Int32))) := if v1 ≤ v2 then (some (Sum.inr (v2, pm, lo, hi_, cde, fr, mm, pk, out))) else (bi9 (f_X9_unpack_L95 4096 0 0 pm lo hi_ cde fr mm pk) (fun (v3_38 : Int32) (v4_39 : Int32) (pm_40 : Int32) (lo_41 : Int64) (hi__42 : Int64) (cde_43 : Int64) (fr_44 : Int32) (mm_45 : (Nat → Int32)) (pk_46 : (Nat → Int32)) => if v2 < 0 ∨ 60 ≤ (v2).toNatClampNeg then none else (some (Sum.inl (v2 + 1, pm_40, lo_41, hi__42, cde_43, fr_44, mm_45, pk_46, upd out (v2).toNatClampNeg v3_38)))))
def f_X9_unpack_L85 (v1 : Int32) (k : Nat) (v2 : Int32) (pm : Int32) (lo : Int64) (hi_ : Int64) (cde : Int64) (fr : Int32) (mm : (Nat → Int32)) (pk : (Nat → Int32)) (out : (Nat → Int32)) : Option (Int32 × Int32 × Int64 × Int64 × Int64 × Int32 × (Nat → Int32) × (Nat → Int32) × (Nat → Int32)) := lpN (fun z => st_X9_unpack_L85 v1 z.1 z.2.1 z.2.2.1 z.2.2.2.1 z.2.2.2.2.1 z.2.2.2.2.2.1 z.2.2.2.2.2.2.1 z.2.2.2.2.2.2.2.1 z.2.2.2.2.2.2.2.2) k (v2, pm, lo, hi_, cde, fr, mm, pk, out)
set_option maxHeartbeats 4000000 in
set_option maxRecDepth 100000 in
theorem L_X9_unpack_85 {p : Program} {l : Launch} {e : Env} {s : State} {m : MethodId} {args : Array Value} {below : List Frame} {meth : Method} {c : Code} {Q : State → Prop} {D : va_G} {cI : ClassId} {q : Nat} {qm : Nat} {qi : Nat} {qp : Nat} {qo : Nat} {qg : Nat} {v1 : Int32} {kept : Int32} {im : Int32} {om : Int32} {sp : Int32} {inp : (Nat → Int32)} {gr : (Nat → Int32)} {A : Nat → Prop} (S : CallFix p m c cX9_unpack 6 s args wsG RX9) (hK : va_K D vwCl [(cI, .int)] s) (hN : nw s) (hSF : sf A s s.heap) (hA : ∀ q, s.heap.size ≤ q → A q) : ∀ (k : Nat) (v2 : Int32) (pm : Int32) (lo : Int64) (hi_ : Int64) (cde : Int64) (fr : Int32) (mm : (Nat → Int32)) (pk : (Nat → Int32)) (out : (Nat → Int32)) (o_v2 : Int32) (o_pm : Int32) (o_lo : Int64) (o_hi_ : Int64) (o_cde : Int64) (o_fr : Int32) (o_mm : (Nat → Int32)) (o_pk : (Nat → Int32)) (o_out : (Nat → Int32)), f_X9_unpack_L85 v1 k v2 pm lo hi_ cde fr mm pk out = some (o_v2, o_pm, o_lo, o_hi_, o_cde, o_fr, o_mm, o_pk, o_out) → ∀ (H : Heap) (locs : List Loc) (ls : Array Slot), va_P D vwCl [(q, .inr (9, [.ref qm, .int kept, .ref qi, .int im, .ref qp, .int pm, .ref qo, .int om, .ref qg, .long lo, .long hi_, .long cde, .int fr, .int sp])), (qm, .inl (cI, 5040, .inl mm)), (qi, .inl (cI, 60, .inl inp)), (qp, .inl (cI, 2000, .inl pk)), (qo, .inl (cI, 60, .inl out)), (qg, .inl (cI, 6, .inl gr))] H → va_D A [(q, .inr (9, [.ref qm, .int kept, .ref qi, .int im, .ref qp, .int pm, .ref qo, .int om, .ref qg, .long lo, .long hi_, .long cde, .int fr, .int sp])), (qm, .inl (cI, 5040, .inl mm)), (qi, .inl (cI, 60, .inl inp)), (qp, .inl (cI, 2000, .inl pk)), (qo, .inl (cI, 60, .inl out)), (qg, .inl (cI, 6, .inl gr))] → va_S A s.heap H locs → lv_has ls 6 [(0, .ref q), (1, .int v1), (2, .int v2)] → (∀ (H : Heap) (locs : List Loc) (ls : Array Slot), va_P D vwCl [(q, .inr (9, [.ref qm, .int kept, .ref qi, .int im, .ref qp, .int o_pm, .ref qo, .int om, .ref qg, .long o_lo, .long o_hi_, .long o_cde, .int o_fr, .int sp])), (qm, .inl (cI, 5040, .inl o_mm)), (qi, .inl (cI, 60, .inl inp)), (qp, .inl (cI, 2000, .inl o_pk)), (qo, .inl (cI, 60, .inl o_out)), (qg, .inl (cI, 6, .inl gr))] H → va_D A [(q, .inr (9, [.ref qm, .int kept, .ref qi, .int im, .ref qp, .int o_pm, .ref qo, .int om, .ref qg, .long o_lo, .long o_hi_, .long o_cde, .int o_fr, .int sp])), (qm, .inl (cI, 5040, .inl o_mm)), (qi, .inl (cI, 60, .inl inp)), (qp, .inl (cI, 2000, .inl o_pk)), (qo, .inl (cI, 60, .inl o_out)), (qg, .inl (cI, 6, .inl gr))] → va_S A s.heap H locs → lv_has ls 6 [(0, .ref q), (1, .int v1), (2, .int o_v2)] → W p l e (headSpec (.code yX9_unpack cX9_unpack 6 (some .int) :: wsG) { frames := 4, cells := 0, slots := 0, locals := 90 }).room s m args below meth c H locs 0 0 Q (F0 m 159 ls [])) → W p l e (headSpec (.code yX9_unpack cX9_unpack 6 (some .int) :: wsG) { frames := 4, cells := 0, slots := 0, locals := 90 }).room s m args below meth c H locs 0 0 Q (F0 m 85 ls []) := by
  obtain ⟨hx, hb, hml, hown, hts⟩ := id S
  intro k
  induction k with
  | zero =>
    intro v2 pm lo hi_ cde fr mm pk out o_v2 o_pm o_lo o_hi_ o_cde o_fr o_mm o_pk o_out hf
    cases hf
  | succ k ih =>
    intro v2 pm lo hi_ cde fr mm pk out o_v2 o_pm o_lo o_hi_ o_cde o_fr o_mm o_pk o_out hf H locs ls hP hD hS hl kk
    obtain ⟨z, hf, hz⟩ := lp_inv hf
    have hf : st_X9_unpack_L85 v1 v2 pm lo hi_ cde fr mm pk out = some z := hf
    unfold st_X9_unpack_L85 at hf
    refine lv_iload_n hx hb dX9_unpack_85 rfl (lv_at hl 2 rfl) ?_
    refine lv_iload_n hx hb dX9_unpack_86 rfl (lv_at hl 1 rfl) ?_
    refine lv_icmp_ge (tgt := 159) hx hb dX9_unpack_87 (by decide) (fun c_13 => ?_) (fun c_13 => ?_)
    · rw [if_pos c_13] at hf
      have hf := Option.some.inj hf
      subst hf
      obtain ⟨e_0, e_r⟩ := Prod.mk.inj (lpC_r hz)
      obtain ⟨e_1, e_r⟩ := Prod.mk.inj (e_r)
      obtain ⟨e_2, e_r⟩ := Prod.mk.inj (e_r)
      obtain ⟨e_3, e_r⟩ := Prod.mk.inj (e_r)
      obtain ⟨e_4, e_r⟩ := Prod.mk.inj (e_r)
      obtain ⟨e_5, e_r⟩ := Prod.mk.inj (e_r)
      obtain ⟨e_6, e_r⟩ := Prod.mk.inj (e_r)
      obtain ⟨e_7, e_8⟩ := Prod.mk.inj (e_r)
      subst e_0
      subst e_1
      subst e_2
      subst e_3
      subst e_4
      subst e_5
      subst e_6
      subst e_7
      subst e_8
      exact kk H locs ls hP hD hS (lv_sub hl [0, 1, 2] rfl)
    · rw [if_neg c_13] at hf
      refine lv_iconst (v := 0) hx hb dX9_unpack_90 (by decide) ?_
      refine lv_istore_n (lv' := [(3, .int 0), (0, .ref q), (1, .int v1), (2, .int v2)]) hx hb dX9_unpack_91 rfl hl (by decide) rfl (fun ls hl => ?_)
      refine lv_iconst (v := 0) hx hb dX9_unpack_92 (by decide) ?_
      refine lv_istore (lv' := [(4, .int 0), (3, .int 0), (0, .ref q), (1, .int v1), (2, .int v2)]) hx hb dX9_unpack_93 hl (by decide) rfl (fun ls hl => ?_)
      obtain ⟨v3_38, v4_39, pm_40, lo_41, hi__42, cde_43, fr_44, mm_45, pk_46, hc_47, hf⟩ := bd9 hf
      refine L_X9_unpack_95 S hK hN hSF hA _ 0 0 pm lo hi_ cde fr mm pk v3_38 v4_39 pm_40 lo_41 hi__42 cde_43 fr_44 mm_45 pk_46 hc_47 _ _ _ hP hD hS (lv_sub hl [2, 3, 4, 1, 0] rfl) (fun H locs ls hP hD hS hl => ?_)
      refine lv_aload_n hx hb dX9_unpack_146 rfl (lv_at hl 0 rfl) ?_
      refine va_get (D := D) (ci := 9) (v := .ref qo) (C := RX9) (T := TX9) (N := 14) hx hb hts inGX9 hown hK hP 0 rfl rfl 6 (by decide) (hts _ fl_X9_19) (fun _ h9 => h9) rfl dX9_unpack_147 ?_
      refine lv_iload_n hx hb dX9_unpack_150 rfl (lv_at hl 2 rfl) ?_
      refine lv_iload_n hx hb dX9_unpack_151 rfl (lv_at hl 3 rfl) ?_
      have b_48 : ¬ (v2 < 0 ∨ 60 ≤ (v2).toNatClampNeg) := fun q => by rw [if_pos q] at hf; cases hf
      rw [if_neg b_48] at hf
      refine va_iast hx hb hK hP hD hS 4 0 rfl rfl b_48 dX9_unpack_152 (fun H locs hP hD hS => ?_)
      have hP : va_P D vwCl [(q, .inr (9, [.ref qm, .int kept, .ref qi, .int im, .ref qp, .int pm_40, .ref qo, .int om, .ref qg, .long lo_41, .long hi__42, .long cde_43, .int fr_44, .int sp])), (qm, .inl (cI, 5040, .inl mm_45)), (qi, .inl (cI, 60, .inl inp)), (qp, .inl (cI, 2000, .inl pk_46)), (qo, .inl (cI, 60, .inl (upd out (v2).toNatClampNeg v3_38))), (qg, .inl (cI, 6, .inl gr))] H := hP
      have hD : va_D A [(q, .inr (9, [.ref qm, .int kept, .ref qi, .int im, .ref qp, .int pm_40, .ref qo, .int om, .ref qg, .long lo_41, .long hi__42, .long cde_43, .int fr_44, .int sp])), (qm, .inl (cI, 5040, .inl mm_45)), (qi, .inl (cI, 60, .inl inp)), (qp, .inl (cI, 2000, .inl pk_46)), (qo, .inl (cI, 60, .inl (upd out (v2).toNatClampNeg v3_38))), (qg, .inl (cI, 6, .inl gr))] := hD
      refine lv_iinc (v := v2 + 1) (lv' := [(2, .int (v2 + 1)), (0, .ref q), (1, .int v1), (3, .int v3_38), (4, .int v4_39)]) hx hb dX9_unpack_153 hl (k := 2) rfl rfl (by decide) rfl (fun ls hl => ?_)
      refine lv_goto (tgt := 85) hx hb dX9_unpack_156 (by decide) ?_
      have hf := Option.some.inj hf
      subst hf
      exact ih (v2 + 1) pm_40 lo_41 hi__42 cde_43 fr_44 mm_45 pk_46 (upd out (v2).toNatClampNeg v3_38) _ _ _ _ _ _ _ _ _ hz H locs ls hP hD hS (lv_sub hl [1, 2, 0] rfl) kk
def f_X9_unpack (pm : Int32) (om : Int32) (lo : Int64) (hi_ : Int64) (cde : Int64) (fr : Int32) (mm : (Nat → Int32)) (pk : (Nat → Int32)) (out : (Nat → Int32)) (gr : (Nat → Int32)) (x1 : Int32) : Option (Int32 × Int32 × Int32 × Int64 × Int64 × Int64 × Int32 × (Nat → Int32) × (Nat → Int32) × (Nat → Int32) × (Nat → Int32)) := if (f_X9_in ((x1).toInt64) (1 : Int64) (60 : Int64)) = 0 then (some ((-1 : Int32), pm, om, lo, hi_, cde, fr, mm, pk, out, gr)) else (if pm = 0 then (some ((-2 : Int32), pm, om, lo, hi_, cde, fr, mm, pk, out, gr)) else (bi3 (f_X9_begins mm) (fun (lo_3 : Int64) (hi__4 : Int64) (mm_5 : (Nat → Int32)) => bi2 (f_X9_unpack_L35 pm pk 4096 0 (0 : Int64)) (fun (v2_10 : Int32) (cde_11 : Int64) => bi9 (f_X9_unpack_L85 x1 4096 0 pm lo_3 hi__4 cde_11 4 mm_5 pk out) (fun (v2_49 : Int32) (pm_50 : Int32) (lo_51 : Int64) (hi__52 : Int64) (cde_53 : Int64) (fr_54 : Int32) (mm_55 : (Nat → Int32)) (pk_56 : (Nat → Int32)) (out_57 : (Nat → Int32)) => bi1 (f_X9_notes mm_55 gr 1) (fun (gr_59 : (Nat → Int32)) => if pm_50 ≤ fr_54 then (some (pm_50, pm_50, x1, lo_51, hi__52, cde_53, fr_54, mm_55, pk_56, out_57, gr_59)) else (some (fr_54, pm_50, x1, lo_51, hi__52, cde_53, fr_54, mm_55, pk_56, out_57, gr_59))))))))
set_option maxHeartbeats 4000000 in
set_option maxRecDepth 100000 in
theorem c_X9_unpack (l : Launch) (D : va_G) (cI : ClassId) {sz : Nat} (q : Nat) (qm : Nat) (qi : Nat) (qp : Nat) (qo : Nat) (qg : Nat) (kept : Int32) (im : Int32) (pm : Int32) (om : Int32) (lo : Int64) (hi_ : Int64) (cde : Int64) (fr : Int32) (sp : Int32) (mm : (Nat → Int32)) (inp : (Nat → Int32)) (pk : (Nat → Int32)) (out : (Nat → Int32)) (gr : (Nat → Int32)) (x1 : Int32) (r : Int32) (o_pm : Int32) (o_om : Int32) (o_lo : Int64) (o_hi_ : Int64) (o_cde : Int64) (o_fr : Int32) (o_mm : (Nat → Int32)) (o_pk : (Nat → Int32)) (o_out : (Nat → Int32)) (o_gr : (Nat → Int32)) (hf : f_X9_unpack pm om lo hi_ cde fr mm pk out gr x1 = some (r, o_pm, o_om, o_lo, o_hi_, o_cde, o_fr, o_mm, o_pk, o_out, o_gr)) : Met l yX9_unpack (.code yX9_unpack cX9_unpack 6 (some .int) :: wsG) ({ frames := 4, cells := 0, slots := 0, locals := 90 }) (va_Pc [.ref q, .int x1] (gv D cI sz [(q, .inr (9, [.ref qm, .int kept, .ref qi, .int im, .ref qp, .int pm, .ref qo, .int om, .ref qg, .long lo, .long hi_, .long cde, .int fr, .int sp])), (qm, .inl (cI, 5040, .inl mm)), (qi, .inl (cI, 60, .inl inp)), (qp, .inl (cI, 2000, .inl pk)), (qo, .inl (cI, 60, .inl out)), (qg, .inl (cI, 6, .inl gr))])) (va_Qi (fun x (_ : Unit) => x = r) (gz D (va_A [(q, .inr (9, [.ref qm, .int kept, .ref qi, .int im, .ref qp, .int pm, .ref qo, .int om, .ref qg, .long lo, .long hi_, .long cde, .int fr, .int sp])), (qm, .inl (cI, 5040, .inl mm)), (qi, .inl (cI, 60, .inl inp)), (qp, .inl (cI, 2000, .inl pk)), (qo, .inl (cI, 60, .inl out)), (qg, .inl (cI, 6, .inl gr))] sz) [(q, .inr (9, [.ref qm, .int kept, .ref qi, .int im, .ref qp, .int o_pm, .ref qo, .int o_om, .ref qg, .long o_lo, .long o_hi_, .long o_cde, .int o_fr, .int sp])), (qm, .inl (cI, 5040, .inl o_mm)), (qi, .inl (cI, 60, .inl inp)), (qp, .inl (cI, 2000, .inl o_pk)), (qo, .inl (cI, 60, .inl o_out)), (qg, .inl (cI, 6, .inl o_gr))]) (va_A [(q, .inr (9, [.ref qm, .int kept, .ref qi, .int im, .ref qp, .int pm, .ref qo, .int om, .ref qg, .long lo, .long hi_, .long cde, .int fr, .int sp])), (qm, .inl (cI, 5040, .inl mm)), (qi, .inl (cI, 60, .inl inp)), (qp, .inl (cI, 2000, .inl pk)), (qo, .inl (cI, 60, .inl out)), (qg, .inl (cI, 6, .inl gr))] sz)) 0 0 (va_A [(q, .inr (9, [.ref qm, .int kept, .ref qi, .int im, .ref qp, .int pm, .ref qo, .int om, .ref qg, .long lo, .long hi_, .long cde, .int fr, .int sp])), (qm, .inl (cI, 5040, .inl mm)), (qi, .inl (cI, 60, .inl inp)), (qp, .inl (cI, 2000, .inl pk)), (qo, .inl (cI, 60, .inl out)), (qg, .inl (cI, 6, .inl gr))] sz) := by
  refine k_rw (y := yX9_unpack) (cc := cX9_unpack) (maxL := 6) (ret := (some .int)) (As := [.ref q, .int x1]) (Qc := fun A => va_Qi (fun x (_ : Unit) => x = r) (gz D A [(q, .inr (9, [.ref qm, .int kept, .ref qi, .int im, .ref qp, .int o_pm, .ref qo, .int o_om, .ref qg, .long o_lo, .long o_hi_, .long o_cde, .int o_fr, .int sp])), (qm, .inl (cI, 5040, .inl o_mm)), (qi, .inl (cI, 60, .inl inp)), (qp, .inl (cI, 2000, .inl o_pk)), (qo, .inl (cI, 60, .inl o_out)), (qg, .inl (cI, 6, .inl o_gr))]) A) (by decide) rfl (Nat.le_of_ble_eq_true rfl) rfl ?_
  intro p e s m below meth c ls A S hret hloc hK hN hSF hP hD hS hA hl
  obtain ⟨hx, hb, hml, hown, hts⟩ := id S
  unfold f_X9_unpack at hf
  refine lv_iload_n hx hb dX9_unpack_0 rfl (lv_at hl 1 rfl) ?_
  refine lv_i2l hx hb dX9_unpack_1 rfl ?_
  refine lv_lconst (v := 1) hx hb dX9_unpack_2 (by decide) ?_
  refine lv_ldc2 (v := (60 : Int64)) hx hb hown (hts _ ck_X9_109) dX9_unpack_3 ?_
  refine k_roSi (As := [.long ((x1).toInt64), .long (1 : Int64), .long (60 : Int64)]) (rest := []) S (c_X9_in l D cI (x1 := (x1).toInt64) (x2 := (1 : Int64)) (x3 := (60 : Int64))  (r := (f_X9_in ((x1).toInt64) (1 : Int64) (60 : Int64))) (hf := rfl)) gs_X9_46 ok_X9_in ⟨rfl, rfl⟩ ⟨Nat.le_of_ble_eq_true rfl, Nat.le_of_ble_eq_true rfl⟩ hK hN (sfr hSF hS) (hP.sub [] rfl) rfl hl.1 rfl (Nat.le_of_ble_eq_true rfl) ⟨Nat.zero_le _, Nat.zero_le _⟩ dX9_unpack_6 ?_
  refine lv_if_ne (tgt := 14) hx hb dX9_unpack_9 (by decide) (fun c_1 => ?_) (fun c_1 => ?_)
  · rw [if_neg c_1] at hf
    refine lv_aload_n hx hb dX9_unpack_14 rfl (lv_at hl 0 rfl) ?_
    refine va_get (D := D) (ci := 9) (v := .int pm) (C := RX9) (T := TX9) (N := 14) hx hb hts inGX9 hown hK hP 0 rfl rfl 5 (by decide) (hts _ fl_X9_80) (fun _ h9 => h9) rfl dX9_unpack_15 ?_
    refine lv_if_ne (tgt := 24) hx hb dX9_unpack_18 (by decide) (fun c_2 => ?_) (fun c_2 => ?_)
    · rw [if_neg c_2] at hf
      refine lv_aload_n hx hb dX9_unpack_24 rfl (lv_at hl 0 rfl) ?_
      obtain ⟨lo_3, hi__4, mm_5, hc_6, hf⟩ := bd3 hf
      refine k_rwVv (As := []) (rest := []) (Wr := []) (W2 := [(q, .inr (9, [.ref qm, .int kept, .ref qi, .int im, .ref qp, .int pm, .ref qo, .int om, .ref qg, .long lo_3, .long hi__4, .long cde, .int fr, .int sp])), (qm, .inl (cI, 5040, .inl mm_5)), (qi, .inl (cI, 60, .inl inp)), (qp, .inl (cI, 2000, .inl pk)), (qo, .inl (cI, 60, .inl out)), (qg, .inl (cI, 6, .inl gr))]) S (c_X9_begins l D cI (q := q) (qm := qm) (qi := qi) (qp := qp) (qo := qo) (qg := qg) (kept := kept) (im := im) (pm := pm) (om := om) (lo := lo) (hi_ := hi_) (cde := cde) (fr := fr) (sp := sp) (mm := mm) (inp := inp) (pk := pk) (out := out) (gr := gr)  (o_lo := lo_3) (o_hi_ := hi__4) (o_mm := mm_5) (hf := hc_6)) gs_X9_95 ok_X9_begins ⟨rfl, rfl⟩ ⟨Nat.le_of_ble_eq_true rfl, Nat.le_of_ble_eq_true rfl⟩ hK hN hSF hP hD hS hA [0, 1, 2, 3, 4, 5] [] [0, 1, 2, 3, 4, 5] (by decide) rfl rfl (by decide) (by decide) rfl (by decide) rfl rfl rfl hl.1 rfl (Nat.le_of_ble_eq_true rfl) ⟨Nat.zero_le _, Nat.zero_le _⟩ dX9_unpack_25 (fun H locs hP hD hS => ?_)
      refine lv_aload_n hx hb dX9_unpack_28 rfl (lv_at hl 0 rfl) ?_
      refine lv_lconst (v := 0) hx hb dX9_unpack_29 (by decide) ?_
      refine va_put (D := D) (ci := 9) (v := .long (0 : Int64)) (ty := .long) (C := RX9) (T := TX9) (N := 14) hx hb hts inGX9 tyX9 tyX9_ok nmX9 hown hK hP hD hS 0 rfl rfl 11 (by decide) (hts _ fl_X9_83) (fun _ h9 => h9) rfl (by decide +kernel) rfl rfl (Nat.le_of_ble_eq_true rfl) dX9_unpack_30 (fun H locs hP hD hS => ?_)
      have hP : va_P D vwCl [(q, .inr (9, [.ref qm, .int kept, .ref qi, .int im, .ref qp, .int pm, .ref qo, .int om, .ref qg, .long lo_3, .long hi__4, .long (0 : Int64), .int fr, .int sp])), (qm, .inl (cI, 5040, .inl mm_5)), (qi, .inl (cI, 60, .inl inp)), (qp, .inl (cI, 2000, .inl pk)), (qo, .inl (cI, 60, .inl out)), (qg, .inl (cI, 6, .inl gr))] H := hP
      have hD : va_D A [(q, .inr (9, [.ref qm, .int kept, .ref qi, .int im, .ref qp, .int pm, .ref qo, .int om, .ref qg, .long lo_3, .long hi__4, .long (0 : Int64), .int fr, .int sp])), (qm, .inl (cI, 5040, .inl mm_5)), (qi, .inl (cI, 60, .inl inp)), (qp, .inl (cI, 2000, .inl pk)), (qo, .inl (cI, 60, .inl out)), (qg, .inl (cI, 6, .inl gr))] := hD
      refine lv_iconst (v := 0) hx hb dX9_unpack_33 (by decide) ?_
      refine lv_istore_n (lv' := [(2, .int 0), (0, .ref q), (1, .int x1)]) hx hb dX9_unpack_34 rfl hl (by decide) rfl (fun ls hl => ?_)
      obtain ⟨v2_10, cde_11, hc_12, hf⟩ := bd2 hf
      refine L_X9_unpack_35 S hK hN hSF hA _ 0 (0 : Int64) v2_10 cde_11 hc_12 _ _ _ hP hD hS (lv_sub hl [1, 2, 0] rfl) (fun H locs ls hP hD hS hl => ?_)
      refine lv_aload_n hx hb dX9_unpack_78 rfl (lv_at hl 0 rfl) ?_
      refine lv_iconst (v := 4) hx hb dX9_unpack_79 (by decide) ?_
      refine va_put (D := D) (ci := 9) (v := .int 4) (ty := .int) (C := RX9) (T := TX9) (N := 14) hx hb hts inGX9 tyX9 tyX9_ok nmX9 hown hK hP hD hS 0 rfl rfl 12 (by decide) (hts _ fl_X9_88) (fun _ h9 => h9) rfl (by decide +kernel) rfl rfl (Nat.le_of_ble_eq_true rfl) dX9_unpack_80 (fun H locs hP hD hS => ?_)
      have hP : va_P D vwCl [(q, .inr (9, [.ref qm, .int kept, .ref qi, .int im, .ref qp, .int pm, .ref qo, .int om, .ref qg, .long lo_3, .long hi__4, .long cde_11, .int 4, .int sp])), (qm, .inl (cI, 5040, .inl mm_5)), (qi, .inl (cI, 60, .inl inp)), (qp, .inl (cI, 2000, .inl pk)), (qo, .inl (cI, 60, .inl out)), (qg, .inl (cI, 6, .inl gr))] H := hP
      have hD : va_D A [(q, .inr (9, [.ref qm, .int kept, .ref qi, .int im, .ref qp, .int pm, .ref qo, .int om, .ref qg, .long lo_3, .long hi__4, .long cde_11, .int 4, .int sp])), (qm, .inl (cI, 5040, .inl mm_5)), (qi, .inl (cI, 60, .inl inp)), (qp, .inl (cI, 2000, .inl pk)), (qo, .inl (cI, 60, .inl out)), (qg, .inl (cI, 6, .inl gr))] := hD
      refine lv_iconst (v := 0) hx hb dX9_unpack_83 (by decide) ?_
      refine lv_istore_n (lv' := [(2, .int 0), (0, .ref q), (1, .int x1)]) hx hb dX9_unpack_84 rfl hl (by decide) rfl (fun ls hl => ?_)
      obtain ⟨v2_49, pm_50, lo_51, hi__52, cde_53, fr_54, mm_55, pk_56, out_57, hc_58, hf⟩ := bd9 hf
      refine L_X9_unpack_85 S hK hN hSF hA _ 0 pm lo_3 hi__4 cde_11 4 mm_5 pk out v2_49 pm_50 lo_51 hi__52 cde_53 fr_54 mm_55 pk_56 out_57 hc_58 _ _ _ hP hD hS (lv_sub hl [1, 2, 0] rfl) (fun H locs ls hP hD hS hl => ?_)
      refine lv_aload_n hx hb dX9_unpack_159 rfl (lv_at hl 0 rfl) ?_
      refine lv_iload_n hx hb dX9_unpack_160 rfl (lv_at hl 1 rfl) ?_
      refine va_put (D := D) (ci := 9) (v := .int x1) (ty := .int) (C := RX9) (T := TX9) (N := 14) hx hb hts inGX9 tyX9 tyX9_ok nmX9 hown hK hP hD hS 0 rfl rfl 7 (by decide) (hts _ fl_X9_111) (fun _ h9 => h9) rfl (by decide +kernel) rfl rfl (Nat.le_of_ble_eq_true rfl) dX9_unpack_161 (fun H locs hP hD hS => ?_)
      have hP : va_P D vwCl [(q, .inr (9, [.ref qm, .int kept, .ref qi, .int im, .ref qp, .int pm_50, .ref qo, .int x1, .ref qg, .long lo_51, .long hi__52, .long cde_53, .int fr_54, .int sp])), (qm, .inl (cI, 5040, .inl mm_55)), (qi, .inl (cI, 60, .inl inp)), (qp, .inl (cI, 2000, .inl pk_56)), (qo, .inl (cI, 60, .inl out_57)), (qg, .inl (cI, 6, .inl gr))] H := hP
      have hD : va_D A [(q, .inr (9, [.ref qm, .int kept, .ref qi, .int im, .ref qp, .int pm_50, .ref qo, .int x1, .ref qg, .long lo_51, .long hi__52, .long cde_53, .int fr_54, .int sp])), (qm, .inl (cI, 5040, .inl mm_55)), (qi, .inl (cI, 60, .inl inp)), (qp, .inl (cI, 2000, .inl pk_56)), (qo, .inl (cI, 60, .inl out_57)), (qg, .inl (cI, 6, .inl gr))] := hD
      refine lv_aload_n hx hb dX9_unpack_164 rfl (lv_at hl 0 rfl) ?_
      refine lv_iconst (v := 1) hx hb dX9_unpack_165 (by decide) ?_
      obtain ⟨gr_59, hc_60, hf⟩ := bd1 hf
      refine k_rwVv (As := [.int 1]) (rest := []) (Wr := []) (W2 := [(q, .inr (9, [.ref qm, .int kept, .ref qi, .int im, .ref qp, .int pm_50, .ref qo, .int x1, .ref qg, .long lo_51, .long hi__52, .long cde_53, .int fr_54, .int sp])), (qm, .inl (cI, 5040, .inl mm_55)), (qi, .inl (cI, 60, .inl inp)), (qp, .inl (cI, 2000, .inl pk_56)), (qo, .inl (cI, 60, .inl out_57)), (qg, .inl (cI, 6, .inl gr_59))]) S (c_X9_notes l D cI (q := q) (qm := qm) (qi := qi) (qp := qp) (qo := qo) (qg := qg) (kept := kept) (im := im) (pm := pm_50) (om := x1) (lo := lo_51) (hi_ := hi__52) (cde := cde_53) (fr := fr_54) (sp := sp) (mm := mm_55) (inp := inp) (pk := pk_56) (out := out_57) (gr := gr) (x1 := 1)  (o_gr := gr_59) (hf := hc_60)) gs_X9_106 ok_X9_notes ⟨rfl, rfl⟩ ⟨Nat.le_of_ble_eq_true rfl, Nat.le_of_ble_eq_true rfl⟩ hK hN hSF hP hD hS hA [0, 1, 2, 3, 4, 5] [] [0, 1, 2, 3, 4, 5] (by decide) rfl rfl (by decide) (by decide) rfl (by decide) rfl rfl rfl hl.1 rfl (Nat.le_of_ble_eq_true rfl) ⟨Nat.zero_le _, Nat.zero_le _⟩ dX9_unpack_166 (fun H locs hP hD hS => ?_)
      refine lv_aload_n hx hb dX9_unpack_169 rfl (lv_at hl 0 rfl) ?_
      refine va_get (D := D) (ci := 9) (v := .int fr_54) (C := RX9) (T := TX9) (N := 14) hx hb hts inGX9 hown hK hP 0 rfl rfl 12 (by decide) (hts _ fl_X9_88) (fun _ h9 => h9) rfl dX9_unpack_170 ?_
      refine lv_aload_n hx hb dX9_unpack_173 rfl (lv_at hl 0 rfl) ?_
      refine va_get (D := D) (ci := 9) (v := .int pm_50) (C := RX9) (T := TX9) (N := 14) hx hb hts inGX9 hown hK hP 0 rfl rfl 5 (by decide) (hts _ fl_X9_80) (fun _ h9 => h9) rfl dX9_unpack_174 ?_
      refine lv_icmp_ge (tgt := 187) hx hb dX9_unpack_177 (by decide) (fun c_61 => ?_) (fun c_61 => ?_)
      · rw [if_pos c_61] at hf
        refine lv_aload_n hx hb dX9_unpack_187 rfl (lv_at hl 0 rfl) ?_
        refine va_get (D := D) (ci := 9) (v := .int pm_50) (C := RX9) (T := TX9) (N := 14) hx hb hts inGX9 hown hK hP 0 rfl rfl 5 (by decide) (hts _ fl_X9_80) (fun _ h9 => h9) rfl dX9_unpack_188 ?_
        obtain ⟨e_0, e_r⟩ := Prod.mk.inj (Option.some.inj hf)
        obtain ⟨e_1, e_r⟩ := Prod.mk.inj (e_r)
        obtain ⟨e_2, e_r⟩ := Prod.mk.inj (e_r)
        obtain ⟨e_3, e_r⟩ := Prod.mk.inj (e_r)
        obtain ⟨e_4, e_r⟩ := Prod.mk.inj (e_r)
        obtain ⟨e_5, e_r⟩ := Prod.mk.inj (e_r)
        obtain ⟨e_6, e_r⟩ := Prod.mk.inj (e_r)
        obtain ⟨e_7, e_r⟩ := Prod.mk.inj (e_r)
        obtain ⟨e_8, e_r⟩ := Prod.mk.inj (e_r)
        obtain ⟨e_9, e_10⟩ := Prod.mk.inj (e_r)
        subst e_0
        subst e_1
        subst e_2
        subst e_3
        subst e_4
        subst e_5
        subst e_6
        subst e_7
        subst e_8
        subst e_9
        subst e_10
        exact k_wreti hx hb hret hloc rfl hP hD hS dX9_unpack_191
      · rw [if_neg c_61] at hf
        refine lv_aload_n hx hb dX9_unpack_180 rfl (lv_at hl 0 rfl) ?_
        refine va_get (D := D) (ci := 9) (v := .int fr_54) (C := RX9) (T := TX9) (N := 14) hx hb hts inGX9 hown hK hP 0 rfl rfl 12 (by decide) (hts _ fl_X9_88) (fun _ h9 => h9) rfl dX9_unpack_181 ?_
        refine lv_goto (tgt := 191) hx hb dX9_unpack_184 (by decide) ?_
        obtain ⟨e_0, e_r⟩ := Prod.mk.inj (Option.some.inj hf)
        obtain ⟨e_1, e_r⟩ := Prod.mk.inj (e_r)
        obtain ⟨e_2, e_r⟩ := Prod.mk.inj (e_r)
        obtain ⟨e_3, e_r⟩ := Prod.mk.inj (e_r)
        obtain ⟨e_4, e_r⟩ := Prod.mk.inj (e_r)
        obtain ⟨e_5, e_r⟩ := Prod.mk.inj (e_r)
        obtain ⟨e_6, e_r⟩ := Prod.mk.inj (e_r)
        obtain ⟨e_7, e_r⟩ := Prod.mk.inj (e_r)
        obtain ⟨e_8, e_r⟩ := Prod.mk.inj (e_r)
        obtain ⟨e_9, e_10⟩ := Prod.mk.inj (e_r)
        subst e_0
        subst e_1
        subst e_2
        subst e_3
        subst e_4
        subst e_5
        subst e_6
        subst e_7
        subst e_8
        subst e_9
        subst e_10
        exact k_wreti hx hb hret hloc rfl hP hD hS dX9_unpack_191
    · rw [if_pos c_2] at hf
      refine lv_bipush (v := (-2)) hx hb dX9_unpack_21 (by decide) ?_
      obtain ⟨e_0, e_r⟩ := Prod.mk.inj (Option.some.inj hf)
      obtain ⟨e_1, e_r⟩ := Prod.mk.inj (e_r)
      obtain ⟨e_2, e_r⟩ := Prod.mk.inj (e_r)
      obtain ⟨e_3, e_r⟩ := Prod.mk.inj (e_r)
      obtain ⟨e_4, e_r⟩ := Prod.mk.inj (e_r)
      obtain ⟨e_5, e_r⟩ := Prod.mk.inj (e_r)
      obtain ⟨e_6, e_r⟩ := Prod.mk.inj (e_r)
      obtain ⟨e_7, e_r⟩ := Prod.mk.inj (e_r)
      obtain ⟨e_8, e_r⟩ := Prod.mk.inj (e_r)
      obtain ⟨e_9, e_10⟩ := Prod.mk.inj (e_r)
      subst e_0
      subst e_1
      subst e_2
      subst e_3
      subst e_4
      subst e_5
      subst e_6
      subst e_7
      subst e_8
      subst e_9
      subst e_10
      exact k_wreti hx hb hret hloc rfl hP hD hS dX9_unpack_23
  · rw [if_pos c_1] at hf
    refine lv_iconst (v := (-1)) hx hb dX9_unpack_12 (by decide) ?_
    obtain ⟨e_0, e_r⟩ := Prod.mk.inj (Option.some.inj hf)
    obtain ⟨e_1, e_r⟩ := Prod.mk.inj (e_r)
    obtain ⟨e_2, e_r⟩ := Prod.mk.inj (e_r)
    obtain ⟨e_3, e_r⟩ := Prod.mk.inj (e_r)
    obtain ⟨e_4, e_r⟩ := Prod.mk.inj (e_r)
    obtain ⟨e_5, e_r⟩ := Prod.mk.inj (e_r)
    obtain ⟨e_6, e_r⟩ := Prod.mk.inj (e_r)
    obtain ⟨e_7, e_r⟩ := Prod.mk.inj (e_r)
    obtain ⟨e_8, e_r⟩ := Prod.mk.inj (e_r)
    obtain ⟨e_9, e_10⟩ := Prod.mk.inj (e_r)
    subst e_0
    subst e_1
    subst e_2
    subst e_3
    subst e_4
    subst e_5
    subst e_6
    subst e_7
    subst e_8
    subst e_9
    subst e_10
    exact k_wreti hx hb hret hloc rfl hP hD hS dX9_unpack_13
theorem dX9_spoil_0 : decode cX9_spoil 0 = .ok (.iload_n 1, 1) := by decide +kernel
theorem dX9_spoil_1 : decode cX9_spoil 1 = .ok (.ifCond .lt 15, 3) := by decide +kernel
theorem dX9_spoil_4 : decode cX9_spoil 4 = .ok (.iload_n 2, 1) := by decide +kernel
theorem dX9_spoil_5 : decode cX9_spoil 5 = .ok (.i2l, 1) := by decide +kernel
theorem dX9_spoil_6 : decode cX9_spoil 6 = .ok (.lconst 0, 1) := by decide +kernel
theorem dX9_spoil_7 : decode cX9_spoil 7 = .ok (.ldc2_w 56, 3) := by decide +kernel
theorem dX9_spoil_10 : decode cX9_spoil 10 = .ok (.invokestatic 46, 3) := by decide +kernel
theorem dX9_spoil_13 : decode cX9_spoil 13 = .ok (.ifCond .ne 5, 3) := by decide +kernel
theorem dX9_spoil_16 : decode cX9_spoil 16 = .ok (.iconst (-1), 1) := by decide +kernel
theorem dX9_spoil_17 : decode cX9_spoil 17 = .ok (.ireturn, 1) := by decide +kernel
theorem dX9_spoil_18 : decode cX9_spoil 18 = .ok (.iload_n 1, 1) := by decide +kernel
theorem dX9_spoil_19 : decode cX9_spoil 19 = .ok (.aload_n 0, 1) := by decide +kernel
theorem dX9_spoil_20 : decode cX9_spoil 20 = .ok (.getfield 80, 3) := by decide +kernel
theorem dX9_spoil_23 : decode cX9_spoil 23 = .ok (.if_icmp .lt 6, 3) := by decide +kernel
theorem dX9_spoil_26 : decode cX9_spoil 26 = .ok (.bipush (-4), 2) := by decide +kernel
theorem dX9_spoil_28 : decode cX9_spoil 28 = .ok (.ireturn, 1) := by decide +kernel
theorem dX9_spoil_29 : decode cX9_spoil 29 = .ok (.aload_n 0, 1) := by decide +kernel
theorem dX9_spoil_30 : decode cX9_spoil 30 = .ok (.getfield 16, 3) := by decide +kernel
theorem dX9_spoil_33 : decode cX9_spoil 33 = .ok (.iload_n 1, 1) := by decide +kernel
theorem dX9_spoil_34 : decode cX9_spoil 34 = .ok (.iaload, 1) := by decide +kernel
theorem dX9_spoil_35 : decode cX9_spoil 35 = .ok (.istore_n 3, 1) := by decide +kernel
theorem dX9_spoil_36 : decode cX9_spoil 36 = .ok (.iload_n 3, 1) := by decide +kernel
theorem dX9_spoil_37 : decode cX9_spoil 37 = .ok (.iload_n 2, 1) := by decide +kernel
theorem dX9_spoil_38 : decode cX9_spoil 38 = .ok (.if_icmp .ne 6, 3) := by decide +kernel
theorem dX9_spoil_41 : decode cX9_spoil 41 = .ok (.bipush (-2), 2) := by decide +kernel
theorem dX9_spoil_43 : decode cX9_spoil 43 = .ok (.ireturn, 1) := by decide +kernel
theorem dX9_spoil_44 : decode cX9_spoil 44 = .ok (.aload_n 0, 1) := by decide +kernel
theorem dX9_spoil_45 : decode cX9_spoil 45 = .ok (.getfield 16, 3) := by decide +kernel
theorem dX9_spoil_48 : decode cX9_spoil 48 = .ok (.iload_n 1, 1) := by decide +kernel
theorem dX9_spoil_49 : decode cX9_spoil 49 = .ok (.iload_n 2, 1) := by decide +kernel
theorem dX9_spoil_50 : decode cX9_spoil 50 = .ok (.iastore, 1) := by decide +kernel
theorem dX9_spoil_51 : decode cX9_spoil 51 = .ok (.iload_n 3, 1) := by decide +kernel
theorem dX9_spoil_52 : decode cX9_spoil 52 = .ok (.ireturn, 1) := by decide +kernel
def f_X9_spoil (pm : Int32) (pk : (Nat → Int32)) (x1 : Int32) (x2 : Int32) : Option (Int32 × (Nat → Int32)) := if x1 < 0 then (some ((-1 : Int32), pk)) else (if (f_X9_in ((x2).toInt64) (0 : Int64) (255 : Int64)) = 0 then (some ((-1 : Int32), pk)) else (if x1 < pm then (if x1 < 0 ∨ 2000 ≤ (x1).toNatClampNeg then none else (if (pk (x1).toNatClampNeg) = x2 then (some ((-2 : Int32), pk)) else (if x1 < 0 ∨ 2000 ≤ (x1).toNatClampNeg then none else (some (pk (x1).toNatClampNeg, upd pk (x1).toNatClampNeg x2))))) else (some ((-4 : Int32), pk))))
set_option maxHeartbeats 4000000 in
set_option maxRecDepth 100000 in
theorem c_X9_spoil (l : Launch) (D : va_G) (cI : ClassId) {sz : Nat} (q : Nat) (qm : Nat) (qi : Nat) (qp : Nat) (qo : Nat) (qg : Nat) (kept : Int32) (im : Int32) (pm : Int32) (om : Int32) (lo : Int64) (hi_ : Int64) (cde : Int64) (fr : Int32) (sp : Int32) (mm : (Nat → Int32)) (inp : (Nat → Int32)) (pk : (Nat → Int32)) (out : (Nat → Int32)) (gr : (Nat → Int32)) (x1 : Int32) (x2 : Int32) (r : Int32) (o_pk : (Nat → Int32)) (hf : f_X9_spoil pm pk x1 x2 = some (r, o_pk)) : Met l yX9_spoil (.code yX9_spoil cX9_spoil 4 (some .int) :: wsG) ({ frames := 1, cells := 0, slots := 0, locals := 25 }) (va_Pc [.ref q, .int x1, .int x2] (gv D cI sz [(q, .inr (9, [.ref qm, .int kept, .ref qi, .int im, .ref qp, .int pm, .ref qo, .int om, .ref qg, .long lo, .long hi_, .long cde, .int fr, .int sp])), (qm, .inl (cI, 5040, .inl mm)), (qi, .inl (cI, 60, .inl inp)), (qp, .inl (cI, 2000, .inl pk)), (qo, .inl (cI, 60, .inl out)), (qg, .inl (cI, 6, .inl gr))])) (va_Qi (fun x (_ : Unit) => x = r) (gz D (va_A [(q, .inr (9, [.ref qm, .int kept, .ref qi, .int im, .ref qp, .int pm, .ref qo, .int om, .ref qg, .long lo, .long hi_, .long cde, .int fr, .int sp])), (qm, .inl (cI, 5040, .inl mm)), (qi, .inl (cI, 60, .inl inp)), (qp, .inl (cI, 2000, .inl pk)), (qo, .inl (cI, 60, .inl out)), (qg, .inl (cI, 6, .inl gr))] sz) [(q, .inr (9, [.ref qm, .int kept, .ref qi, .int im, .ref qp, .int pm, .ref qo, .int om, .ref qg, .long lo, .long hi_, .long cde, .int fr, .int sp])), (qm, .inl (cI, 5040, .inl mm)), (qi, .inl (cI, 60, .inl inp)), (qp, .inl (cI, 2000, .inl o_pk)), (qo, .inl (cI, 60, .inl out)), (qg, .inl (cI, 6, .inl gr))]) (va_A [(q, .inr (9, [.ref qm, .int kept, .ref qi, .int im, .ref qp, .int pm, .ref qo, .int om, .ref qg, .long lo, .long hi_, .long cde, .int fr, .int sp])), (qm, .inl (cI, 5040, .inl mm)), (qi, .inl (cI, 60, .inl inp)), (qp, .inl (cI, 2000, .inl pk)), (qo, .inl (cI, 60, .inl out)), (qg, .inl (cI, 6, .inl gr))] sz)) 0 0 (va_A [(q, .inr (9, [.ref qm, .int kept, .ref qi, .int im, .ref qp, .int pm, .ref qo, .int om, .ref qg, .long lo, .long hi_, .long cde, .int fr, .int sp])), (qm, .inl (cI, 5040, .inl mm)), (qi, .inl (cI, 60, .inl inp)), (qp, .inl (cI, 2000, .inl pk)), (qo, .inl (cI, 60, .inl out)), (qg, .inl (cI, 6, .inl gr))] sz) := by
  refine k_rw (y := yX9_spoil) (cc := cX9_spoil) (maxL := 4) (ret := (some .int)) (As := [.ref q, .int x1, .int x2]) (Qc := fun A => va_Qi (fun x (_ : Unit) => x = r) (gz D A [(q, .inr (9, [.ref qm, .int kept, .ref qi, .int im, .ref qp, .int pm, .ref qo, .int om, .ref qg, .long lo, .long hi_, .long cde, .int fr, .int sp])), (qm, .inl (cI, 5040, .inl mm)), (qi, .inl (cI, 60, .inl inp)), (qp, .inl (cI, 2000, .inl o_pk)), (qo, .inl (cI, 60, .inl out)), (qg, .inl (cI, 6, .inl gr))]) A) (by decide) rfl (Nat.le_of_ble_eq_true rfl) rfl ?_
  intro p e s m below meth c ls A S hret hloc hK hN hSF hP hD hS hA hl
  obtain ⟨hx, hb, hml, hown, hts⟩ := id S
  unfold f_X9_spoil at hf
  refine lv_iload_n hx hb dX9_spoil_0 rfl (lv_at hl 1 rfl) ?_
  refine lv_if_lt (tgt := 16) hx hb dX9_spoil_1 (by decide) (fun c_1 => ?_) (fun c_1 => ?_)
  · rw [if_pos c_1] at hf
    refine lv_iconst (v := (-1)) hx hb dX9_spoil_16 (by decide) ?_
    obtain ⟨e_0, e_1⟩ := Prod.mk.inj (Option.some.inj hf)
    subst e_0
    subst e_1
    exact k_wreti hx hb hret hloc rfl hP hD hS dX9_spoil_17
  · rw [if_neg c_1] at hf
    refine lv_iload_n hx hb dX9_spoil_4 rfl (lv_at hl 2 rfl) ?_
    refine lv_i2l hx hb dX9_spoil_5 rfl ?_
    refine lv_lconst (v := 0) hx hb dX9_spoil_6 (by decide) ?_
    refine lv_ldc2 (v := (255 : Int64)) hx hb hown (hts _ ck_X9_56) dX9_spoil_7 ?_
    refine k_roSi (As := [.long ((x2).toInt64), .long (0 : Int64), .long (255 : Int64)]) (rest := []) S (c_X9_in l D cI (x1 := (x2).toInt64) (x2 := (0 : Int64)) (x3 := (255 : Int64))  (r := (f_X9_in ((x2).toInt64) (0 : Int64) (255 : Int64))) (hf := rfl)) gs_X9_46 ok_X9_in ⟨rfl, rfl⟩ ⟨Nat.le_of_ble_eq_true rfl, Nat.le_of_ble_eq_true rfl⟩ hK hN (sfr hSF hS) (hP.sub [] rfl) rfl hl.1 rfl (Nat.le_of_ble_eq_true rfl) ⟨Nat.zero_le _, Nat.zero_le _⟩ dX9_spoil_10 ?_
    refine lv_if_ne (tgt := 18) hx hb dX9_spoil_13 (by decide) (fun c_2 => ?_) (fun c_2 => ?_)
    · rw [if_neg c_2] at hf
      refine lv_iload_n hx hb dX9_spoil_18 rfl (lv_at hl 1 rfl) ?_
      refine lv_aload_n hx hb dX9_spoil_19 rfl (lv_at hl 0 rfl) ?_
      refine va_get (D := D) (ci := 9) (v := .int pm) (C := RX9) (T := TX9) (N := 14) hx hb hts inGX9 hown hK hP 0 rfl rfl 5 (by decide) (hts _ fl_X9_80) (fun _ h9 => h9) rfl dX9_spoil_20 ?_
      refine lv_icmp_lt (tgt := 29) hx hb dX9_spoil_23 (by decide) (fun c_3 => ?_) (fun c_3 => ?_)
      · rw [if_pos c_3] at hf
        refine lv_aload_n hx hb dX9_spoil_29 rfl (lv_at hl 0 rfl) ?_
        refine va_get (D := D) (ci := 9) (v := .ref qp) (C := RX9) (T := TX9) (N := 14) hx hb hts inGX9 hown hK hP 0 rfl rfl 4 (by decide) (hts _ fl_X9_16) (fun _ h9 => h9) rfl dX9_spoil_30 ?_
        refine lv_iload_n hx hb dX9_spoil_33 rfl (lv_at hl 1 rfl) ?_
        have b_4 : ¬ (x1 < 0 ∨ 2000 ≤ (x1).toNatClampNeg) := fun q => by rw [if_pos q] at hf; cases hf
        rw [if_neg b_4] at hf
        refine va_iald hx hb hK hP 3 0 rfl rfl b_4 dX9_spoil_34 ?_
        refine lv_istore_n (lv' := [(3, .int (pk (x1).toNatClampNeg)), (0, .ref q), (1, .int x1), (2, .int x2)]) hx hb dX9_spoil_35 rfl hl (by decide) rfl (fun ls hl => ?_)
        refine lv_iload_n hx hb dX9_spoil_36 rfl (lv_at hl 0 rfl) ?_
        refine lv_iload_n hx hb dX9_spoil_37 rfl (lv_at hl 3 rfl) ?_
        refine lv_icmp_ne (tgt := 44) hx hb dX9_spoil_38 (by decide) (fun c_5 => ?_) (fun c_5 => ?_)
        · rw [if_neg c_5] at hf
          refine lv_aload_n hx hb dX9_spoil_44 rfl (lv_at hl 1 rfl) ?_
          refine va_get (D := D) (ci := 9) (v := .ref qp) (C := RX9) (T := TX9) (N := 14) hx hb hts inGX9 hown hK hP 0 rfl rfl 4 (by decide) (hts _ fl_X9_16) (fun _ h9 => h9) rfl dX9_spoil_45 ?_
          refine lv_iload_n hx hb dX9_spoil_48 rfl (lv_at hl 2 rfl) ?_
          refine lv_iload_n hx hb dX9_spoil_49 rfl (lv_at hl 3 rfl) ?_
          have b_6 : ¬ (x1 < 0 ∨ 2000 ≤ (x1).toNatClampNeg) := fun q => by rw [if_pos q] at hf; cases hf
          rw [if_neg b_6] at hf
          refine va_iast hx hb hK hP hD hS 3 0 rfl rfl b_6 dX9_spoil_50 (fun H locs hP hD hS => ?_)
          have hP : va_P D vwCl [(q, .inr (9, [.ref qm, .int kept, .ref qi, .int im, .ref qp, .int pm, .ref qo, .int om, .ref qg, .long lo, .long hi_, .long cde, .int fr, .int sp])), (qm, .inl (cI, 5040, .inl mm)), (qi, .inl (cI, 60, .inl inp)), (qp, .inl (cI, 2000, .inl (upd pk (x1).toNatClampNeg x2))), (qo, .inl (cI, 60, .inl out)), (qg, .inl (cI, 6, .inl gr))] H := hP
          have hD : va_D A [(q, .inr (9, [.ref qm, .int kept, .ref qi, .int im, .ref qp, .int pm, .ref qo, .int om, .ref qg, .long lo, .long hi_, .long cde, .int fr, .int sp])), (qm, .inl (cI, 5040, .inl mm)), (qi, .inl (cI, 60, .inl inp)), (qp, .inl (cI, 2000, .inl (upd pk (x1).toNatClampNeg x2))), (qo, .inl (cI, 60, .inl out)), (qg, .inl (cI, 6, .inl gr))] := hD
          refine lv_iload_n hx hb dX9_spoil_51 rfl (lv_at hl 0 rfl) ?_
          obtain ⟨e_0, e_1⟩ := Prod.mk.inj (Option.some.inj hf)
          subst e_0
          subst e_1
          exact k_wreti hx hb hret hloc rfl hP hD hS dX9_spoil_52
        · rw [if_pos c_5] at hf
          refine lv_bipush (v := (-2)) hx hb dX9_spoil_41 (by decide) ?_
          obtain ⟨e_0, e_1⟩ := Prod.mk.inj (Option.some.inj hf)
          subst e_0
          subst e_1
          exact k_wreti hx hb hret hloc rfl hP hD hS dX9_spoil_43
      · rw [if_neg c_3] at hf
        refine lv_bipush (v := (-4)) hx hb dX9_spoil_26 (by decide) ?_
        obtain ⟨e_0, e_1⟩ := Prod.mk.inj (Option.some.inj hf)
        subst e_0
        subst e_1
        exact k_wreti hx hb hret hloc rfl hP hD hS dX9_spoil_28
    · rw [if_pos c_2] at hf
      refine lv_iconst (v := (-1)) hx hb dX9_spoil_16 (by decide) ?_
      obtain ⟨e_0, e_1⟩ := Prod.mk.inj (Option.some.inj hf)
      subst e_0
      subst e_1
      exact k_wreti hx hb hret hloc rfl hP hD hS dX9_spoil_17
theorem dX9_at_0 : decode cX9_at 0 = .ok (.iload_n 1, 1) := by decide +kernel
theorem dX9_at_1 : decode cX9_at 1 = .ok (.i2l, 1) := by decide +kernel
theorem dX9_at_2 : decode cX9_at 2 = .ok (.lconst 0, 1) := by decide +kernel
theorem dX9_at_3 : decode cX9_at 3 = .ok (.ldc2_w 40, 3) := by decide +kernel
theorem dX9_at_6 : decode cX9_at 6 = .ok (.invokestatic 46, 3) := by decide +kernel
theorem dX9_at_9 : decode cX9_at 9 = .ok (.ifCond .eq 7, 3) := by decide +kernel
theorem dX9_at_12 : decode cX9_at 12 = .ok (.iload_n 2, 1) := by decide +kernel
theorem dX9_at_13 : decode cX9_at 13 = .ok (.ifCond .ge 5, 3) := by decide +kernel
theorem dX9_at_16 : decode cX9_at 16 = .ok (.iconst (-1), 1) := by decide +kernel
theorem dX9_at_17 : decode cX9_at 17 = .ok (.ireturn, 1) := by decide +kernel
theorem dX9_at_18 : decode cX9_at 18 = .ok (.iload_n 1, 1) := by decide +kernel
theorem dX9_at_19 : decode cX9_at 19 = .ok (.ifCond .ne 23, 3) := by decide +kernel
theorem dX9_at_22 : decode cX9_at 22 = .ok (.iload_n 2, 1) := by decide +kernel
theorem dX9_at_23 : decode cX9_at 23 = .ok (.aload_n 0, 1) := by decide +kernel
theorem dX9_at_24 : decode cX9_at 24 = .ok (.getfield 58, 3) := by decide +kernel
theorem dX9_at_27 : decode cX9_at 27 = .ok (.if_icmp .ge 12, 3) := by decide +kernel
theorem dX9_at_30 : decode cX9_at 30 = .ok (.aload_n 0, 1) := by decide +kernel
theorem dX9_at_31 : decode cX9_at 31 = .ok (.getfield 13, 3) := by decide +kernel
theorem dX9_at_34 : decode cX9_at 34 = .ok (.iload_n 2, 1) := by decide +kernel
theorem dX9_at_35 : decode cX9_at 35 = .ok (.iaload, 1) := by decide +kernel
theorem dX9_at_36 : decode cX9_at 36 = .ok (.goto 5, 3) := by decide +kernel
theorem dX9_at_39 : decode cX9_at 39 = .ok (.bipush (-4), 2) := by decide +kernel
theorem dX9_at_41 : decode cX9_at 41 = .ok (.ireturn, 1) := by decide +kernel
theorem dX9_at_42 : decode cX9_at 42 = .ok (.iload_n 1, 1) := by decide +kernel
theorem dX9_at_43 : decode cX9_at 43 = .ok (.iconst 1, 1) := by decide +kernel
theorem dX9_at_44 : decode cX9_at 44 = .ok (.if_icmp .ne 25, 3) := by decide +kernel
theorem dX9_at_47 : decode cX9_at 47 = .ok (.iload_n 2, 1) := by decide +kernel
theorem dX9_at_48 : decode cX9_at 48 = .ok (.aload_n 0, 1) := by decide +kernel
theorem dX9_at_49 : decode cX9_at 49 = .ok (.getfield 80, 3) := by decide +kernel
theorem dX9_at_52 : decode cX9_at 52 = .ok (.if_icmp .ge 12, 3) := by decide +kernel
theorem dX9_at_55 : decode cX9_at 55 = .ok (.aload_n 0, 1) := by decide +kernel
theorem dX9_at_56 : decode cX9_at 56 = .ok (.getfield 16, 3) := by decide +kernel
theorem dX9_at_59 : decode cX9_at 59 = .ok (.iload_n 2, 1) := by decide +kernel
theorem dX9_at_60 : decode cX9_at 60 = .ok (.iaload, 1) := by decide +kernel
theorem dX9_at_61 : decode cX9_at 61 = .ok (.goto 27, 3) := by decide +kernel
theorem dX9_at_64 : decode cX9_at 64 = .ok (.bipush (-4), 2) := by decide +kernel
theorem dX9_at_66 : decode cX9_at 66 = .ok (.goto 22, 3) := by decide +kernel
theorem dX9_at_69 : decode cX9_at 69 = .ok (.iload_n 2, 1) := by decide +kernel
theorem dX9_at_70 : decode cX9_at 70 = .ok (.aload_n 0, 1) := by decide +kernel
theorem dX9_at_71 : decode cX9_at 71 = .ok (.getfield 111, 3) := by decide +kernel
theorem dX9_at_74 : decode cX9_at 74 = .ok (.if_icmp .ge 12, 3) := by decide +kernel
theorem dX9_at_77 : decode cX9_at 77 = .ok (.aload_n 0, 1) := by decide +kernel
theorem dX9_at_78 : decode cX9_at 78 = .ok (.getfield 19, 3) := by decide +kernel
theorem dX9_at_81 : decode cX9_at 81 = .ok (.iload_n 2, 1) := by decide +kernel
theorem dX9_at_82 : decode cX9_at 82 = .ok (.iaload, 1) := by decide +kernel
theorem dX9_at_83 : decode cX9_at 83 = .ok (.goto 5, 3) := by decide +kernel
theorem dX9_at_86 : decode cX9_at 86 = .ok (.bipush (-4), 2) := by decide +kernel
theorem dX9_at_88 : decode cX9_at 88 = .ok (.ireturn, 1) := by decide +kernel
def f_X9_at (im : Int32) (pm : Int32) (om : Int32) (inp : (Nat → Int32)) (pk : (Nat → Int32)) (out : (Nat → Int32)) (x1 : Int32) (x2 : Int32) : Option (Int32) := if (f_X9_in ((x1).toInt64) (0 : Int64) (2 : Int64)) = 0 then (some (-1 : Int32)) else (if 0 ≤ x2 then (if x1 = 0 then (if im ≤ x2 then (some (-4 : Int32)) else (if x2 < 0 ∨ 60 ≤ (x2).toNatClampNeg then none else (some (inp (x2).toNatClampNeg)))) else (if x1 = 1 then (if pm ≤ x2 then (some (-4 : Int32)) else (if x2 < 0 ∨ 2000 ≤ (x2).toNatClampNeg then none else (some (pk (x2).toNatClampNeg)))) else (if om ≤ x2 then (some (-4 : Int32)) else (if x2 < 0 ∨ 60 ≤ (x2).toNatClampNeg then none else (some (out (x2).toNatClampNeg)))))) else (some (-1 : Int32)))
set_option maxHeartbeats 4000000 in
set_option maxRecDepth 100000 in
theorem c_X9_at (l : Launch) (D : va_G) (cI : ClassId) (q : Nat) (qm : Nat) (qi : Nat) (qp : Nat) (qo : Nat) (qg : Nat) (kept : Int32) (im : Int32) (pm : Int32) (om : Int32) (lo : Int64) (hi_ : Int64) (cde : Int64) (fr : Int32) (sp : Int32) (mm : (Nat → Int32)) (inp : (Nat → Int32)) (pk : (Nat → Int32)) (out : (Nat → Int32)) (gr : (Nat → Int32)) (x1 : Int32) (x2 : Int32) (r : Int32) (hf : f_X9_at im pm om inp pk out x1 x2 = some r) : Met l yX9_at (.code yX9_at cX9_at 3 (some .int) :: wsG) ({ frames := 1, cells := 0, slots := 0, locals := 25 }) (va_Pc [.ref q, .int x1, .int x2] (gw D cI [(q, .inr (9, [.ref qm, .int kept, .ref qi, .int im, .ref qp, .int pm, .ref qo, .int om, .ref qg, .long lo, .long hi_, .long cde, .int fr, .int sp])), (qm, .inl (cI, 5040, .inl mm)), (qi, .inl (cI, 60, .inl inp)), (qp, .inl (cI, 2000, .inl pk)), (qo, .inl (cI, 60, .inl out)), (qg, .inl (cI, 6, .inl gr))])) (vp_Si (fun x => x = r)) 0 0 (fun _ => False) := by
  refine k_ro (by decide) rfl (Nat.le_of_ble_eq_true rfl) rfl ?_
  intro p e s m below meth c ls S hret hloc hK hN hSF hP hl
  obtain ⟨hx, hb, hml, hown, hts⟩ := id S
  unfold f_X9_at at hf
  refine lv_iload_n hx hb dX9_at_0 rfl (lv_at hl 1 rfl) ?_
  refine lv_i2l hx hb dX9_at_1 rfl ?_
  refine lv_lconst (v := 0) hx hb dX9_at_2 (by decide) ?_
  refine lv_ldc2 (v := (2 : Int64)) hx hb hown (hts _ ck_X9_40) dX9_at_3 ?_
  refine k_roSi (As := [.long ((x1).toInt64), .long (0 : Int64), .long (2 : Int64)]) (rest := []) S (c_X9_in l D cI (x1 := (x1).toInt64) (x2 := (0 : Int64)) (x3 := (2 : Int64))  (r := (f_X9_in ((x1).toInt64) (0 : Int64) (2 : Int64))) (hf := rfl)) gs_X9_46 ok_X9_in ⟨rfl, rfl⟩ ⟨Nat.le_of_ble_eq_true rfl, Nat.le_of_ble_eq_true rfl⟩ hK hN hSF (hP.sub [] rfl) rfl hl.1 rfl (Nat.le_of_ble_eq_true rfl) ⟨Nat.zero_le _, Nat.zero_le _⟩ dX9_at_6 ?_
  refine lv_if_eq (tgt := 16) hx hb dX9_at_9 (by decide) (fun c_1 => ?_) (fun c_1 => ?_)
  · rw [if_pos c_1] at hf
    refine lv_iconst (v := (-1)) hx hb dX9_at_16 (by decide) ?_
    exact k_reti hx hb hret hloc (Option.some.inj hf) dX9_at_17
  · rw [if_neg c_1] at hf
    refine lv_iload_n hx hb dX9_at_12 rfl (lv_at hl 2 rfl) ?_
    refine lv_if_ge (tgt := 18) hx hb dX9_at_13 (by decide) (fun c_2 => ?_) (fun c_2 => ?_)
    · rw [if_pos c_2] at hf
      refine lv_iload_n hx hb dX9_at_18 rfl (lv_at hl 1 rfl) ?_
      refine lv_if_ne (tgt := 42) hx hb dX9_at_19 (by decide) (fun c_3 => ?_) (fun c_3 => ?_)
      · rw [if_neg c_3] at hf
        refine lv_iload_n hx hb dX9_at_42 rfl (lv_at hl 1 rfl) ?_
        refine lv_iconst (v := 1) hx hb dX9_at_43 (by decide) ?_
        refine lv_icmp_ne (tgt := 69) hx hb dX9_at_44 (by decide) (fun c_4 => ?_) (fun c_4 => ?_)
        · rw [if_neg c_4] at hf
          refine lv_iload_n hx hb dX9_at_69 rfl (lv_at hl 2 rfl) ?_
          refine lv_aload_n hx hb dX9_at_70 rfl (lv_at hl 0 rfl) ?_
          refine va_get (D := D) (ci := 9) (v := .int om) (C := RX9) (T := TX9) (N := 14) hx hb hts inGX9 hown hK hP 0 rfl rfl 7 (by decide) (hts _ fl_X9_111) (fun _ h9 => h9) rfl dX9_at_71 ?_
          refine lv_icmp_ge (tgt := 86) hx hb dX9_at_74 (by decide) (fun c_5 => ?_) (fun c_5 => ?_)
          · rw [if_pos c_5] at hf
            refine lv_bipush (v := (-4)) hx hb dX9_at_86 (by decide) ?_
            exact k_reti hx hb hret hloc (Option.some.inj hf) dX9_at_88
          · rw [if_neg c_5] at hf
            refine lv_aload_n hx hb dX9_at_77 rfl (lv_at hl 0 rfl) ?_
            refine va_get (D := D) (ci := 9) (v := .ref qo) (C := RX9) (T := TX9) (N := 14) hx hb hts inGX9 hown hK hP 0 rfl rfl 6 (by decide) (hts _ fl_X9_19) (fun _ h9 => h9) rfl dX9_at_78 ?_
            refine lv_iload_n hx hb dX9_at_81 rfl (lv_at hl 2 rfl) ?_
            have b_6 : ¬ (x2 < 0 ∨ 60 ≤ (x2).toNatClampNeg) := fun q => by rw [if_pos q] at hf; cases hf
            rw [if_neg b_6] at hf
            refine va_iald hx hb hK hP 4 0 rfl rfl b_6 dX9_at_82 ?_
            refine lv_goto (tgt := 88) hx hb dX9_at_83 (by decide) ?_
            exact k_reti hx hb hret hloc (Option.some.inj hf) dX9_at_88
        · rw [if_pos c_4] at hf
          refine lv_iload_n hx hb dX9_at_47 rfl (lv_at hl 2 rfl) ?_
          refine lv_aload_n hx hb dX9_at_48 rfl (lv_at hl 0 rfl) ?_
          refine va_get (D := D) (ci := 9) (v := .int pm) (C := RX9) (T := TX9) (N := 14) hx hb hts inGX9 hown hK hP 0 rfl rfl 5 (by decide) (hts _ fl_X9_80) (fun _ h9 => h9) rfl dX9_at_49 ?_
          refine lv_icmp_ge (tgt := 64) hx hb dX9_at_52 (by decide) (fun c_7 => ?_) (fun c_7 => ?_)
          · rw [if_pos c_7] at hf
            refine lv_bipush (v := (-4)) hx hb dX9_at_64 (by decide) ?_
            refine lv_goto (tgt := 88) hx hb dX9_at_66 (by decide) ?_
            exact k_reti hx hb hret hloc (Option.some.inj hf) dX9_at_88
          · rw [if_neg c_7] at hf
            refine lv_aload_n hx hb dX9_at_55 rfl (lv_at hl 0 rfl) ?_
            refine va_get (D := D) (ci := 9) (v := .ref qp) (C := RX9) (T := TX9) (N := 14) hx hb hts inGX9 hown hK hP 0 rfl rfl 4 (by decide) (hts _ fl_X9_16) (fun _ h9 => h9) rfl dX9_at_56 ?_
            refine lv_iload_n hx hb dX9_at_59 rfl (lv_at hl 2 rfl) ?_
            have b_8 : ¬ (x2 < 0 ∨ 2000 ≤ (x2).toNatClampNeg) := fun q => by rw [if_pos q] at hf; cases hf
            rw [if_neg b_8] at hf
            refine va_iald hx hb hK hP 3 0 rfl rfl b_8 dX9_at_60 ?_
            refine lv_goto (tgt := 88) hx hb dX9_at_61 (by decide) ?_
            exact k_reti hx hb hret hloc (Option.some.inj hf) dX9_at_88
      · rw [if_pos c_3] at hf
        refine lv_iload_n hx hb dX9_at_22 rfl (lv_at hl 2 rfl) ?_
        refine lv_aload_n hx hb dX9_at_23 rfl (lv_at hl 0 rfl) ?_
        refine va_get (D := D) (ci := 9) (v := .int im) (C := RX9) (T := TX9) (N := 14) hx hb hts inGX9 hown hK hP 0 rfl rfl 3 (by decide) (hts _ fl_X9_58) (fun _ h9 => h9) rfl dX9_at_24 ?_
        refine lv_icmp_ge (tgt := 39) hx hb dX9_at_27 (by decide) (fun c_9 => ?_) (fun c_9 => ?_)
        · rw [if_pos c_9] at hf
          refine lv_bipush (v := (-4)) hx hb dX9_at_39 (by decide) ?_
          exact k_reti hx hb hret hloc (Option.some.inj hf) dX9_at_41
        · rw [if_neg c_9] at hf
          refine lv_aload_n hx hb dX9_at_30 rfl (lv_at hl 0 rfl) ?_
          refine va_get (D := D) (ci := 9) (v := .ref qi) (C := RX9) (T := TX9) (N := 14) hx hb hts inGX9 hown hK hP 0 rfl rfl 2 (by decide) (hts _ fl_X9_13) (fun _ h9 => h9) rfl dX9_at_31 ?_
          refine lv_iload_n hx hb dX9_at_34 rfl (lv_at hl 2 rfl) ?_
          have b_10 : ¬ (x2 < 0 ∨ 60 ≤ (x2).toNatClampNeg) := fun q => by rw [if_pos q] at hf; cases hf
          rw [if_neg b_10] at hf
          refine va_iald hx hb hK hP 2 0 rfl rfl b_10 dX9_at_35 ?_
          refine lv_goto (tgt := 41) hx hb dX9_at_36 (by decide) ?_
          exact k_reti hx hb hret hloc (Option.some.inj hf) dX9_at_41
    · rw [if_neg c_2] at hf
      refine lv_iconst (v := (-1)) hx hb dX9_at_16 (by decide) ?_
      exact k_reti hx hb hret hloc (Option.some.inj hf) dX9_at_17
theorem dX9_alike_0 : decode cX9_alike 0 = .ok (.iconst 0, 1) := by decide +kernel
theorem dX9_alike_1 : decode cX9_alike 1 = .ok (.istore_n 1, 1) := by decide +kernel
theorem dX9_alike_2 : decode cX9_alike 2 = .ok (.iload_n 1, 1) := by decide +kernel
theorem dX9_alike_3 : decode cX9_alike 3 = .ok (.aload_n 0, 1) := by decide +kernel
theorem dX9_alike_4 : decode cX9_alike 4 = .ok (.getfield 58, 3) := by decide +kernel
theorem dX9_alike_7 : decode cX9_alike 7 = .ok (.if_icmp .ge 32, 3) := by decide +kernel
theorem dX9_alike_10 : decode cX9_alike 10 = .ok (.iload_n 1, 1) := by decide +kernel
theorem dX9_alike_11 : decode cX9_alike 11 = .ok (.aload_n 0, 1) := by decide +kernel
theorem dX9_alike_12 : decode cX9_alike 12 = .ok (.getfield 111, 3) := by decide +kernel
theorem dX9_alike_15 : decode cX9_alike 15 = .ok (.if_icmp .ge 24, 3) := by decide +kernel
theorem dX9_alike_18 : decode cX9_alike 18 = .ok (.aload_n 0, 1) := by decide +kernel
theorem dX9_alike_19 : decode cX9_alike 19 = .ok (.getfield 13, 3) := by decide +kernel
theorem dX9_alike_22 : decode cX9_alike 22 = .ok (.iload_n 1, 1) := by decide +kernel
theorem dX9_alike_23 : decode cX9_alike 23 = .ok (.iaload, 1) := by decide +kernel
theorem dX9_alike_24 : decode cX9_alike 24 = .ok (.aload_n 0, 1) := by decide +kernel
theorem dX9_alike_25 : decode cX9_alike 25 = .ok (.getfield 19, 3) := by decide +kernel
theorem dX9_alike_28 : decode cX9_alike 28 = .ok (.iload_n 1, 1) := by decide +kernel
theorem dX9_alike_29 : decode cX9_alike 29 = .ok (.iaload, 1) := by decide +kernel
theorem dX9_alike_30 : decode cX9_alike 30 = .ok (.if_icmp .ne 9, 3) := by decide +kernel
theorem dX9_alike_33 : decode cX9_alike 33 = .ok (.iinc 1 1, 3) := by decide +kernel
theorem dX9_alike_36 : decode cX9_alike 36 = .ok (.goto (-34), 3) := by decide +kernel
theorem dX9_alike_39 : decode cX9_alike 39 = .ok (.iload_n 1, 1) := by decide +kernel
theorem dX9_alike_40 : decode cX9_alike 40 = .ok (.ireturn, 1) := by decide +kernel
def st_X9_alike_L2 (im : Int32) (om : Int32) (inp : (Nat → Int32)) (out : (Nat → Int32)) (v1 : Int32) : Option ((Int32) ⊕ (Int32)) := if im ≤ v1 then (some (Sum.inr v1)) else (if om ≤ v1 then (some (Sum.inr v1)) else (if v1 < 0 ∨ 60 ≤ (v1).toNatClampNeg then none else (if v1 < 0 ∨ 60 ≤ (v1).toNatClampNeg then none else (if (inp (v1).toNatClampNeg) = (out (v1).toNatClampNeg) then (some (Sum.inl (v1 + 1))) else (some (Sum.inr v1))))))
def f_X9_alike_L2 (im : Int32) (om : Int32) (inp : (Nat → Int32)) (out : (Nat → Int32)) (k : Nat) (v1 : Int32) : Option (Int32) := lpN (fun z => st_X9_alike_L2 im om inp out z) k v1
set_option maxHeartbeats 4000000 in
set_option maxRecDepth 100000 in
theorem L_X9_alike_2 {p : Program} {l : Launch} {e : Env} {s : State} {m : MethodId} {args : Array Value} {below : List Frame} {meth : Method} {c : Code} {Q : State → Prop} {D : va_G} {cI : ClassId} {q : Nat} {qm : Nat} {qi : Nat} {qp : Nat} {qo : Nat} {qg : Nat} {kept : Int32} {im : Int32} {pm : Int32} {om : Int32} {lo : Int64} {hi_ : Int64} {cde : Int64} {fr : Int32} {sp : Int32} {mm : (Nat → Int32)} {inp : (Nat → Int32)} {pk : (Nat → Int32)} {out : (Nat → Int32)} {gr : (Nat → Int32)} (S : CallFix p m c cX9_alike 2 s args wsG RX9) (hK : va_K D vwCl [(cI, .int)] s) (hN : nw s) (hSF : sf (fun _ => False) s s.heap) : ∀ (k : Nat) (v1 : Int32) (o_v1 : Int32), f_X9_alike_L2 im om inp out k v1 = some o_v1 → ∀ (ls : Array Slot), va_P D vwCl [(q, .inr (9, [.ref qm, .int kept, .ref qi, .int im, .ref qp, .int pm, .ref qo, .int om, .ref qg, .long lo, .long hi_, .long cde, .int fr, .int sp])), (qm, .inl (cI, 5040, .inl mm)), (qi, .inl (cI, 60, .inl inp)), (qp, .inl (cI, 2000, .inl pk)), (qo, .inl (cI, 60, .inl out)), (qg, .inl (cI, 6, .inl gr))] s.heap → lv_has ls 2 [(0, .ref q), (1, .int v1)] → (∀ (ls : Array Slot), lv_has ls 2 [(0, .ref q), (1, .int o_v1)] → W p l e (headSpec (.code yX9_alike cX9_alike 2 (some .int) :: wsG) { frames := 0, cells := 0, slots := 0, locals := 0 }).room s m args below meth c s.heap [] 0 0 Q (F0 m 39 ls [])) → W p l e (headSpec (.code yX9_alike cX9_alike 2 (some .int) :: wsG) { frames := 0, cells := 0, slots := 0, locals := 0 }).room s m args below meth c s.heap [] 0 0 Q (F0 m 2 ls []) := by
  obtain ⟨hx, hb, hml, hown, hts⟩ := id S
  intro k
  induction k with
  | zero =>
    intro v1 o_v1 hf
    cases hf
  | succ k ih =>
    intro v1 o_v1 hf ls hP hl kk
    obtain ⟨z, hf, hz⟩ := lp_inv hf
    have hf : st_X9_alike_L2 im om inp out v1 = some z := hf
    unfold st_X9_alike_L2 at hf
    refine lv_iload_n hx hb dX9_alike_2 rfl (lv_at hl 1 rfl) ?_
    refine lv_aload_n hx hb dX9_alike_3 rfl (lv_at hl 0 rfl) ?_
    refine va_get (D := D) (ci := 9) (v := .int im) (C := RX9) (T := TX9) (N := 14) hx hb hts inGX9 hown hK hP 0 rfl rfl 3 (by decide) (hts _ fl_X9_58) (fun _ h9 => h9) rfl dX9_alike_4 ?_
    refine lv_icmp_ge (tgt := 39) hx hb dX9_alike_7 (by decide) (fun c_1 => ?_) (fun c_1 => ?_)
    · rw [if_pos c_1] at hf
      have hf := Option.some.inj hf
      subst hf
      have e_0 := lpC_r hz
      subst e_0
      exact kk ls (lv_sub hl [0, 1] rfl)
    · rw [if_neg c_1] at hf
      refine lv_iload_n hx hb dX9_alike_10 rfl (lv_at hl 1 rfl) ?_
      refine lv_aload_n hx hb dX9_alike_11 rfl (lv_at hl 0 rfl) ?_
      refine va_get (D := D) (ci := 9) (v := .int om) (C := RX9) (T := TX9) (N := 14) hx hb hts inGX9 hown hK hP 0 rfl rfl 7 (by decide) (hts _ fl_X9_111) (fun _ h9 => h9) rfl dX9_alike_12 ?_
      refine lv_icmp_ge (tgt := 39) hx hb dX9_alike_15 (by decide) (fun c_2 => ?_) (fun c_2 => ?_)
      · rw [if_pos c_2] at hf
        have hf := Option.some.inj hf
        subst hf
        have e_0 := lpC_r hz
        subst e_0
        exact kk ls (lv_sub hl [0, 1] rfl)
      · rw [if_neg c_2] at hf
        refine lv_aload_n hx hb dX9_alike_18 rfl (lv_at hl 0 rfl) ?_
        refine va_get (D := D) (ci := 9) (v := .ref qi) (C := RX9) (T := TX9) (N := 14) hx hb hts inGX9 hown hK hP 0 rfl rfl 2 (by decide) (hts _ fl_X9_13) (fun _ h9 => h9) rfl dX9_alike_19 ?_
        refine lv_iload_n hx hb dX9_alike_22 rfl (lv_at hl 1 rfl) ?_
        have b_3 : ¬ (v1 < 0 ∨ 60 ≤ (v1).toNatClampNeg) := fun q => by rw [if_pos q] at hf; cases hf
        rw [if_neg b_3] at hf
        refine va_iald hx hb hK hP 2 0 rfl rfl b_3 dX9_alike_23 ?_
        refine lv_aload_n hx hb dX9_alike_24 rfl (lv_at hl 0 rfl) ?_
        refine va_get (D := D) (ci := 9) (v := .ref qo) (C := RX9) (T := TX9) (N := 14) hx hb hts inGX9 hown hK hP 0 rfl rfl 6 (by decide) (hts _ fl_X9_19) (fun _ h9 => h9) rfl dX9_alike_25 ?_
        refine lv_iload_n hx hb dX9_alike_28 rfl (lv_at hl 1 rfl) ?_
        have b_4 : ¬ (v1 < 0 ∨ 60 ≤ (v1).toNatClampNeg) := fun q => by rw [if_pos q] at hf; cases hf
        rw [if_neg b_4] at hf
        refine va_iald hx hb hK hP 4 0 rfl rfl b_4 dX9_alike_29 ?_
        refine lv_icmp_ne (tgt := 39) hx hb dX9_alike_30 (by decide) (fun c_5 => ?_) (fun c_5 => ?_)
        · rw [if_neg c_5] at hf
          have hf := Option.some.inj hf
          subst hf
          have e_0 := lpC_r hz
          subst e_0
          exact kk ls (lv_sub hl [0, 1] rfl)
        · rw [if_pos c_5] at hf
          refine lv_iinc (v := v1 + 1) (lv' := [(1, .int (v1 + 1)), (0, .ref q)]) hx hb dX9_alike_33 hl (k := 1) rfl rfl (by decide) rfl (fun ls hl => ?_)
          refine lv_goto (tgt := 2) hx hb dX9_alike_36 (by decide) ?_
          have hf := Option.some.inj hf
          subst hf
          exact ih (v1 + 1) _ hz ls hP (lv_sub hl [1, 0] rfl) kk
def f_X9_alike (im : Int32) (om : Int32) (inp : (Nat → Int32)) (out : (Nat → Int32)) : Option (Int32) := bi1 (f_X9_alike_L2 im om inp out 4096 0) (fun (v1_6 : Int32) => some v1_6)
set_option maxHeartbeats 4000000 in
set_option maxRecDepth 100000 in
theorem c_X9_alike (l : Launch) (D : va_G) (cI : ClassId) (q : Nat) (qm : Nat) (qi : Nat) (qp : Nat) (qo : Nat) (qg : Nat) (kept : Int32) (im : Int32) (pm : Int32) (om : Int32) (lo : Int64) (hi_ : Int64) (cde : Int64) (fr : Int32) (sp : Int32) (mm : (Nat → Int32)) (inp : (Nat → Int32)) (pk : (Nat → Int32)) (out : (Nat → Int32)) (gr : (Nat → Int32)) (r : Int32) (hf : f_X9_alike im om inp out = some r) : Met l yX9_alike (.code yX9_alike cX9_alike 2 (some .int) :: wsG) ({ frames := 0, cells := 0, slots := 0, locals := 0 }) (va_Pc [.ref q] (gw D cI [(q, .inr (9, [.ref qm, .int kept, .ref qi, .int im, .ref qp, .int pm, .ref qo, .int om, .ref qg, .long lo, .long hi_, .long cde, .int fr, .int sp])), (qm, .inl (cI, 5040, .inl mm)), (qi, .inl (cI, 60, .inl inp)), (qp, .inl (cI, 2000, .inl pk)), (qo, .inl (cI, 60, .inl out)), (qg, .inl (cI, 6, .inl gr))])) (vp_Si (fun x => x = r)) 0 0 (fun _ => False) := by
  refine k_ro (by decide) rfl (Nat.le_of_ble_eq_true rfl) rfl ?_
  intro p e s m below meth c ls S hret hloc hK hN hSF hP hl
  obtain ⟨hx, hb, hml, hown, hts⟩ := id S
  unfold f_X9_alike at hf
  refine lv_iconst (v := 0) hx hb dX9_alike_0 (by decide) ?_
  refine lv_istore_n (lv' := [(1, .int 0), (0, .ref q)]) hx hb dX9_alike_1 rfl hl (by decide) rfl (fun ls hl => ?_)
  obtain ⟨v1_6, hc_7, hf⟩ := bd1 hf
  refine L_X9_alike_2 S hK hN hSF _ 0 v1_6 hc_7 _ hP (lv_sub hl [1, 0] rfl) (fun ls hl => ?_)
  refine lv_iload_n hx hb dX9_alike_39 rfl (lv_at hl 1 rfl) ?_
  exact k_reti hx hb hret hloc (Option.some.inj hf) dX9_alike_40
theorem dX9_grew_0 : decode cX9_grew 0 = .ok (.iload_n 1, 1) := by decide +kernel
theorem dX9_grew_1 : decode cX9_grew 1 = .ok (.i2l, 1) := by decide +kernel
theorem dX9_grew_2 : decode cX9_grew 2 = .ok (.lconst 0, 1) := by decide +kernel
theorem dX9_grew_3 : decode cX9_grew 3 = .ok (.lconst 1, 1) := by decide +kernel
theorem dX9_grew_4 : decode cX9_grew 4 = .ok (.invokestatic 46, 3) := by decide +kernel
theorem dX9_grew_7 : decode cX9_grew 7 = .ok (.ifCond .eq 15, 3) := by decide +kernel
theorem dX9_grew_10 : decode cX9_grew 10 = .ok (.iload_n 2, 1) := by decide +kernel
theorem dX9_grew_11 : decode cX9_grew 11 = .ok (.i2l, 1) := by decide +kernel
theorem dX9_grew_12 : decode cX9_grew 12 = .ok (.lconst 0, 1) := by decide +kernel
theorem dX9_grew_13 : decode cX9_grew 13 = .ok (.ldc2_w 40, 3) := by decide +kernel
theorem dX9_grew_16 : decode cX9_grew 16 = .ok (.invokestatic 46, 3) := by decide +kernel
theorem dX9_grew_19 : decode cX9_grew 19 = .ok (.ifCond .ne 5, 3) := by decide +kernel
theorem dX9_grew_22 : decode cX9_grew 22 = .ok (.iconst (-1), 1) := by decide +kernel
theorem dX9_grew_23 : decode cX9_grew 23 = .ok (.ireturn, 1) := by decide +kernel
theorem dX9_grew_24 : decode cX9_grew 24 = .ok (.aload_n 0, 1) := by decide +kernel
theorem dX9_grew_25 : decode cX9_grew 25 = .ok (.getfield 22, 3) := by decide +kernel
theorem dX9_grew_28 : decode cX9_grew 28 = .ok (.iconst 3, 1) := by decide +kernel
theorem dX9_grew_29 : decode cX9_grew 29 = .ok (.iload_n 1, 1) := by decide +kernel
theorem dX9_grew_30 : decode cX9_grew 30 = .ok (.imul, 1) := by decide +kernel
theorem dX9_grew_31 : decode cX9_grew 31 = .ok (.iaload, 1) := by decide +kernel
theorem dX9_grew_32 : decode cX9_grew 32 = .ok (.ifCond .ne 8, 3) := by decide +kernel
theorem dX9_grew_35 : decode cX9_grew 35 = .ok (.bipush (-4), 2) := by decide +kernel
theorem dX9_grew_37 : decode cX9_grew 37 = .ok (.goto 13, 3) := by decide +kernel
theorem dX9_grew_40 : decode cX9_grew 40 = .ok (.aload_n 0, 1) := by decide +kernel
theorem dX9_grew_41 : decode cX9_grew 41 = .ok (.getfield 22, 3) := by decide +kernel
theorem dX9_grew_44 : decode cX9_grew 44 = .ok (.iconst 3, 1) := by decide +kernel
theorem dX9_grew_45 : decode cX9_grew 45 = .ok (.iload_n 1, 1) := by decide +kernel
theorem dX9_grew_46 : decode cX9_grew 46 = .ok (.imul, 1) := by decide +kernel
theorem dX9_grew_47 : decode cX9_grew 47 = .ok (.iload_n 2, 1) := by decide +kernel
theorem dX9_grew_48 : decode cX9_grew 48 = .ok (.iadd, 1) := by decide +kernel
theorem dX9_grew_49 : decode cX9_grew 49 = .ok (.iaload, 1) := by decide +kernel
theorem dX9_grew_50 : decode cX9_grew 50 = .ok (.ireturn, 1) := by decide +kernel
def f_X9_grew (gr : (Nat → Int32)) (x1 : Int32) (x2 : Int32) : Option (Int32) := if (f_X9_in ((x1).toInt64) (0 : Int64) (1 : Int64)) = 0 then (some (-1 : Int32)) else (if (f_X9_in ((x2).toInt64) (0 : Int64) (2 : Int64)) = 0 then (some (-1 : Int32)) else (if (3 * x1) < 0 ∨ 6 ≤ (3 * x1).toNatClampNeg then none else (if (gr (3 * x1).toNatClampNeg) = 0 then (some (-4 : Int32)) else (if ((3 * x1) + x2) < 0 ∨ 6 ≤ ((3 * x1) + x2).toNatClampNeg then none else (some (gr ((3 * x1) + x2).toNatClampNeg))))))
set_option maxHeartbeats 4000000 in
set_option maxRecDepth 100000 in
theorem c_X9_grew (l : Launch) (D : va_G) (cI : ClassId) (q : Nat) (qm : Nat) (qi : Nat) (qp : Nat) (qo : Nat) (qg : Nat) (kept : Int32) (im : Int32) (pm : Int32) (om : Int32) (lo : Int64) (hi_ : Int64) (cde : Int64) (fr : Int32) (sp : Int32) (mm : (Nat → Int32)) (inp : (Nat → Int32)) (pk : (Nat → Int32)) (out : (Nat → Int32)) (gr : (Nat → Int32)) (x1 : Int32) (x2 : Int32) (r : Int32) (hf : f_X9_grew gr x1 x2 = some r) : Met l yX9_grew (.code yX9_grew cX9_grew 3 (some .int) :: wsG) ({ frames := 1, cells := 0, slots := 0, locals := 25 }) (va_Pc [.ref q, .int x1, .int x2] (gw D cI [(q, .inr (9, [.ref qm, .int kept, .ref qi, .int im, .ref qp, .int pm, .ref qo, .int om, .ref qg, .long lo, .long hi_, .long cde, .int fr, .int sp])), (qm, .inl (cI, 5040, .inl mm)), (qi, .inl (cI, 60, .inl inp)), (qp, .inl (cI, 2000, .inl pk)), (qo, .inl (cI, 60, .inl out)), (qg, .inl (cI, 6, .inl gr))])) (vp_Si (fun x => x = r)) 0 0 (fun _ => False) := by
  refine k_ro (by decide) rfl (Nat.le_of_ble_eq_true rfl) rfl ?_
  intro p e s m below meth c ls S hret hloc hK hN hSF hP hl
  obtain ⟨hx, hb, hml, hown, hts⟩ := id S
  unfold f_X9_grew at hf
  refine lv_iload_n hx hb dX9_grew_0 rfl (lv_at hl 1 rfl) ?_
  refine lv_i2l hx hb dX9_grew_1 rfl ?_
  refine lv_lconst (v := 0) hx hb dX9_grew_2 (by decide) ?_
  refine lv_lconst (v := 1) hx hb dX9_grew_3 (by decide) ?_
  refine k_roSi (As := [.long ((x1).toInt64), .long (0 : Int64), .long (1 : Int64)]) (rest := []) S (c_X9_in l D cI (x1 := (x1).toInt64) (x2 := (0 : Int64)) (x3 := (1 : Int64))  (r := (f_X9_in ((x1).toInt64) (0 : Int64) (1 : Int64))) (hf := rfl)) gs_X9_46 ok_X9_in ⟨rfl, rfl⟩ ⟨Nat.le_of_ble_eq_true rfl, Nat.le_of_ble_eq_true rfl⟩ hK hN hSF (hP.sub [] rfl) rfl hl.1 rfl (Nat.le_of_ble_eq_true rfl) ⟨Nat.zero_le _, Nat.zero_le _⟩ dX9_grew_4 ?_
  refine lv_if_eq (tgt := 22) hx hb dX9_grew_7 (by decide) (fun c_1 => ?_) (fun c_1 => ?_)
  · rw [if_pos c_1] at hf
    refine lv_iconst (v := (-1)) hx hb dX9_grew_22 (by decide) ?_
    exact k_reti hx hb hret hloc (Option.some.inj hf) dX9_grew_23
  · rw [if_neg c_1] at hf
    refine lv_iload_n hx hb dX9_grew_10 rfl (lv_at hl 2 rfl) ?_
    refine lv_i2l hx hb dX9_grew_11 rfl ?_
    refine lv_lconst (v := 0) hx hb dX9_grew_12 (by decide) ?_
    refine lv_ldc2 (v := (2 : Int64)) hx hb hown (hts _ ck_X9_40) dX9_grew_13 ?_
    refine k_roSi (As := [.long ((x2).toInt64), .long (0 : Int64), .long (2 : Int64)]) (rest := []) S (c_X9_in l D cI (x1 := (x2).toInt64) (x2 := (0 : Int64)) (x3 := (2 : Int64))  (r := (f_X9_in ((x2).toInt64) (0 : Int64) (2 : Int64))) (hf := rfl)) gs_X9_46 ok_X9_in ⟨rfl, rfl⟩ ⟨Nat.le_of_ble_eq_true rfl, Nat.le_of_ble_eq_true rfl⟩ hK hN hSF (hP.sub [] rfl) rfl hl.1 rfl (Nat.le_of_ble_eq_true rfl) ⟨Nat.zero_le _, Nat.zero_le _⟩ dX9_grew_16 ?_
    refine lv_if_ne (tgt := 24) hx hb dX9_grew_19 (by decide) (fun c_2 => ?_) (fun c_2 => ?_)
    · rw [if_neg c_2] at hf
      refine lv_aload_n hx hb dX9_grew_24 rfl (lv_at hl 0 rfl) ?_
      refine va_get (D := D) (ci := 9) (v := .ref qg) (C := RX9) (T := TX9) (N := 14) hx hb hts inGX9 hown hK hP 0 rfl rfl 8 (by decide) (hts _ fl_X9_22) (fun _ h9 => h9) rfl dX9_grew_25 ?_
      refine lv_iconst (v := 3) hx hb dX9_grew_28 (by decide) ?_
      refine lv_iload_n hx hb dX9_grew_29 rfl (lv_at hl 1 rfl) ?_
      refine lv_imul hx hb dX9_grew_30 ?_
      have b_3 : ¬ ((3 * x1) < 0 ∨ 6 ≤ (3 * x1).toNatClampNeg) := fun q => by rw [if_pos q] at hf; cases hf
      rw [if_neg b_3] at hf
      refine va_iald hx hb hK hP 5 0 rfl rfl b_3 dX9_grew_31 ?_
      refine lv_if_ne (tgt := 40) hx hb dX9_grew_32 (by decide) (fun c_4 => ?_) (fun c_4 => ?_)
      · rw [if_neg c_4] at hf
        refine lv_aload_n hx hb dX9_grew_40 rfl (lv_at hl 0 rfl) ?_
        refine va_get (D := D) (ci := 9) (v := .ref qg) (C := RX9) (T := TX9) (N := 14) hx hb hts inGX9 hown hK hP 0 rfl rfl 8 (by decide) (hts _ fl_X9_22) (fun _ h9 => h9) rfl dX9_grew_41 ?_
        refine lv_iconst (v := 3) hx hb dX9_grew_44 (by decide) ?_
        refine lv_iload_n hx hb dX9_grew_45 rfl (lv_at hl 1 rfl) ?_
        refine lv_imul hx hb dX9_grew_46 ?_
        refine lv_iload_n hx hb dX9_grew_47 rfl (lv_at hl 2 rfl) ?_
        refine lv_iadd hx hb dX9_grew_48 ?_
        have b_5 : ¬ (((3 * x1) + x2) < 0 ∨ 6 ≤ ((3 * x1) + x2).toNatClampNeg) := fun q => by rw [if_pos q] at hf; cases hf
        rw [if_neg b_5] at hf
        refine va_iald hx hb hK hP 5 0 rfl rfl b_5 dX9_grew_49 ?_
        exact k_reti hx hb hret hloc (Option.some.inj hf) dX9_grew_50
      · rw [if_pos c_4] at hf
        refine lv_bipush (v := (-4)) hx hb dX9_grew_35 (by decide) ?_
        refine lv_goto (tgt := 50) hx hb dX9_grew_37 (by decide) ?_
        exact k_reti hx hb hret hloc (Option.some.inj hf) dX9_grew_50
    · rw [if_pos c_2] at hf
      refine lv_iconst (v := (-1)) hx hb dX9_grew_22 (by decide) ?_
      exact k_reti hx hb hret hloc (Option.some.inj hf) dX9_grew_23
