theorem dX9_in_0 : decode cX9_in 0 = .ok (.lload_n 0, 1) := by decide +kernel
theorem dX9_in_1 : decode cX9_in 1 = .ok (.lload_n 2, 1) := by decide +kernel
theorem dX9_in_2 : decode cX9_in 2 = .ok (.lcmp, 1) := by decide +kernel
theorem dX9_in_3 : decode cX9_in 3 = .ok (.ifCond .lt 14, 3) := by decide +kernel
theorem dX9_in_6 : decode cX9_in 6 = .ok (.lload_n 0, 1) := by decide +kernel
theorem dX9_in_7 : decode cX9_in 7 = .ok (.lload 4, 2) := by decide +kernel
theorem dX9_in_9 : decode cX9_in 9 = .ok (.lcmp, 1) := by decide +kernel
theorem dX9_in_10 : decode cX9_in 10 = .ok (.ifCond .gt 7, 3) := by decide +kernel
theorem dX9_in_13 : decode cX9_in 13 = .ok (.iconst 1, 1) := by decide +kernel
theorem dX9_in_14 : decode cX9_in 14 = .ok (.goto 4, 3) := by decide +kernel
theorem dX9_in_17 : decode cX9_in 17 = .ok (.iconst 0, 1) := by decide +kernel
theorem dX9_in_18 : decode cX9_in 18 = .ok (.ireturn, 1) := by decide +kernel
def f_X9_in (x1 : Int64) (x2 : Int64) (x3 : Int64) : Int32 := if (lg_cmp x1 x2) < 0 then ((0 : Int32)) else (if 0 < (lg_cmp x1 x3) then ((0 : Int32)) else ((1 : Int32)))
set_option maxHeartbeats 4000000 in
set_option maxRecDepth 100000 in
theorem c_X9_in (l : Launch) (D : va_G) (cI : ClassId) (x1 : Int64) (x2 : Int64) (x3 : Int64) (r : Int32) (hf : f_X9_in x1 x2 x3 = r) : Met l yX9_in (.code yX9_in cX9_in 6 (some .boolean) :: wsG) ({ frames := 0, cells := 0, slots := 0, locals := 0 }) (va_Pc [.long x1, .long x2, .long x3] (gw D cI [])) (vp_Si (fun x => x = r)) 0 0 (fun _ => False) := by
  refine k_ro (by decide) rfl (Nat.le_of_ble_eq_true rfl) rfl ?_
  intro p e s m below meth c ls S hret hloc hK hN hSF hP hl
  obtain ⟨hx, hb, hml, hown, hts⟩ := id S
  unfold f_X9_in at hf
  refine lv_lload_n hx hb dX9_in_0 rfl (lv_at hl 0 rfl) ?_
  refine lv_lload_n hx hb dX9_in_1 rfl (lv_at hl 1 rfl) ?_
  refine W.lcmp hx hb dX9_in_2 ?_
  refine lv_if_lt (tgt := 17) hx hb dX9_in_3 (by decide) (fun c_1 => ?_) (fun c_1 => ?_)
  · rw [if_pos c_1] at hf
    refine lv_iconst (v := 0) hx hb dX9_in_17 (by decide) ?_
    exact k_retz hx hb hret hloc rfl hf dX9_in_18
  · rw [if_neg c_1] at hf
    refine lv_lload_n hx hb dX9_in_6 rfl (lv_at hl 0 rfl) ?_
    refine lv_lload hx hb dX9_in_7 (lv_at hl 2 rfl) ?_
    refine W.lcmp hx hb dX9_in_9 ?_
    refine lv_if_gt (tgt := 17) hx hb dX9_in_10 (by decide) (fun c_2 => ?_) (fun c_2 => ?_)
    · rw [if_pos c_2] at hf
      refine lv_iconst (v := 0) hx hb dX9_in_17 (by decide) ?_
      exact k_retz hx hb hret hloc rfl hf dX9_in_18
    · rw [if_neg c_2] at hf
      refine lv_iconst (v := 1) hx hb dX9_in_13 (by decide) ?_
      refine lv_goto (tgt := 18) hx hb dX9_in_14 (by decide) ?_
      exact k_retz hx hb hret hloc rfl hf dX9_in_18
theorem dX9_lays_0 : decode cX9_lays 0 = .ok (.aload_n 0, 1) := by decide +kernel
theorem dX9_lays_1 : decode cX9_lays 1 = .ok (.getfield 7, 3) := by decide +kernel
theorem dX9_lays_4 : decode cX9_lays 4 = .ok (.iload_n 1, 1) := by decide +kernel
theorem dX9_lays_5 : decode cX9_lays 5 = .ok (.iconst 5, 1) := by decide +kernel
theorem dX9_lays_6 : decode cX9_lays 6 = .ok (.iadd, 1) := by decide +kernel
theorem dX9_lays_7 : decode cX9_lays 7 = .ok (.iaload, 1) := by decide +kernel
theorem dX9_lays_8 : decode cX9_lays 8 = .ok (.istore_n 2, 1) := by decide +kernel
theorem dX9_lays_9 : decode cX9_lays 9 = .ok (.iload_n 2, 1) := by decide +kernel
theorem dX9_lays_10 : decode cX9_lays 10 = .ok (.ifCond .ne 7, 3) := by decide +kernel
theorem dX9_lays_13 : decode cX9_lays 13 = .ok (.iconst 1, 1) := by decide +kernel
theorem dX9_lays_14 : decode cX9_lays 14 = .ok (.goto 15, 3) := by decide +kernel
theorem dX9_lays_17 : decode cX9_lays 17 = .ok (.iload_n 2, 1) := by decide +kernel
theorem dX9_lays_18 : decode cX9_lays 18 = .ok (.iconst 1, 1) := by decide +kernel
theorem dX9_lays_19 : decode cX9_lays 19 = .ok (.if_icmp .ne 8, 3) := by decide +kernel
theorem dX9_lays_22 : decode cX9_lays 22 = .ok (.bipush 15, 2) := by decide +kernel
theorem dX9_lays_24 : decode cX9_lays 24 = .ok (.goto 5, 3) := by decide +kernel
theorem dX9_lays_27 : decode cX9_lays 27 = .ok (.bipush 32, 2) := by decide +kernel
theorem dX9_lays_29 : decode cX9_lays 29 = .ok (.istore_n 3, 1) := by decide +kernel
theorem dX9_lays_30 : decode cX9_lays 30 = .ok (.aload_n 0, 1) := by decide +kernel
theorem dX9_lays_31 : decode cX9_lays 31 = .ok (.getfield 7, 3) := by decide +kernel
theorem dX9_lays_34 : decode cX9_lays 34 = .ok (.iload_n 1, 1) := by decide +kernel
theorem dX9_lays_35 : decode cX9_lays 35 = .ok (.iconst 0, 1) := by decide +kernel
theorem dX9_lays_36 : decode cX9_lays 36 = .ok (.iadd, 1) := by decide +kernel
theorem dX9_lays_37 : decode cX9_lays 37 = .ok (.iload_n 3, 1) := by decide +kernel
theorem dX9_lays_38 : decode cX9_lays 38 = .ok (.iastore, 1) := by decide +kernel
theorem dX9_lays_39 : decode cX9_lays 39 = .ok (.aload_n 0, 1) := by decide +kernel
theorem dX9_lays_40 : decode cX9_lays 40 = .ok (.getfield 7, 3) := by decide +kernel
theorem dX9_lays_43 : decode cX9_lays 43 = .ok (.iload_n 1, 1) := by decide +kernel
theorem dX9_lays_44 : decode cX9_lays 44 = .ok (.iconst 1, 1) := by decide +kernel
theorem dX9_lays_45 : decode cX9_lays 45 = .ok (.iadd, 1) := by decide +kernel
theorem dX9_lays_46 : decode cX9_lays 46 = .ok (.iconst 0, 1) := by decide +kernel
theorem dX9_lays_47 : decode cX9_lays 47 = .ok (.iastore, 1) := by decide +kernel
theorem dX9_lays_48 : decode cX9_lays 48 = .ok (.iconst 0, 1) := by decide +kernel
theorem dX9_lays_49 : decode cX9_lays 49 = .ok (.istore 4, 2) := by decide +kernel
theorem dX9_lays_51 : decode cX9_lays 51 = .ok (.iload 4, 2) := by decide +kernel
theorem dX9_lays_53 : decode cX9_lays 53 = .ok (.iload_n 3, 1) := by decide +kernel
theorem dX9_lays_54 : decode cX9_lays 54 = .ok (.if_icmp .ge 145, 3) := by decide +kernel
theorem dX9_lays_57 : decode cX9_lays 57 = .ok (.aload_n 0, 1) := by decide +kernel
theorem dX9_lays_58 : decode cX9_lays 58 = .ok (.getfield 7, 3) := by decide +kernel
theorem dX9_lays_61 : decode cX9_lays 61 = .ok (.iload_n 1, 1) := by decide +kernel
theorem dX9_lays_62 : decode cX9_lays 62 = .ok (.sipush 1010, 3) := by decide +kernel
theorem dX9_lays_65 : decode cX9_lays 65 = .ok (.iadd, 1) := by decide +kernel
theorem dX9_lays_66 : decode cX9_lays 66 = .ok (.iload 4, 2) := by decide +kernel
theorem dX9_lays_68 : decode cX9_lays 68 = .ok (.iadd, 1) := by decide +kernel
theorem dX9_lays_69 : decode cX9_lays 69 = .ok (.bipush (-4), 2) := by decide +kernel
theorem dX9_lays_71 : decode cX9_lays 71 = .ok (.iastore, 1) := by decide +kernel
theorem dX9_lays_72 : decode cX9_lays 72 = .ok (.iconst 0, 1) := by decide +kernel
theorem dX9_lays_73 : decode cX9_lays 73 = .ok (.istore 5, 2) := by decide +kernel
theorem dX9_lays_75 : decode cX9_lays 75 = .ok (.iload 5, 2) := by decide +kernel
theorem dX9_lays_77 : decode cX9_lays 77 = .ok (.iconst 2, 1) := by decide +kernel
theorem dX9_lays_78 : decode cX9_lays 78 = .ok (.if_icmp .ge 115, 3) := by decide +kernel
theorem dX9_lays_81 : decode cX9_lays 81 = .ok (.iconst 2, 1) := by decide +kernel
theorem dX9_lays_82 : decode cX9_lays 82 = .ok (.iload 4, 2) := by decide +kernel
theorem dX9_lays_84 : decode cX9_lays 84 = .ok (.imul, 1) := by decide +kernel
theorem dX9_lays_85 : decode cX9_lays 85 = .ok (.iconst 1, 1) := by decide +kernel
theorem dX9_lays_86 : decode cX9_lays 86 = .ok (.iadd, 1) := by decide +kernel
theorem dX9_lays_87 : decode cX9_lays 87 = .ok (.iload 5, 2) := by decide +kernel
theorem dX9_lays_89 : decode cX9_lays 89 = .ok (.iadd, 1) := by decide +kernel
theorem dX9_lays_90 : decode cX9_lays 90 = .ok (.istore 6, 2) := by decide +kernel
theorem dX9_lays_92 : decode cX9_lays 92 = .ok (.bipush 8, 2) := by decide +kernel
theorem dX9_lays_94 : decode cX9_lays 94 = .ok (.iload 4, 2) := by decide +kernel
theorem dX9_lays_96 : decode cX9_lays 96 = .ok (.bipush 8, 2) := by decide +kernel
theorem dX9_lays_98 : decode cX9_lays 98 = .ok (.idiv, 1) := by decide +kernel
theorem dX9_lays_99 : decode cX9_lays 99 = .ok (.iconst 1, 1) := by decide +kernel
theorem dX9_lays_100 : decode cX9_lays 100 = .ok (.iadd, 1) := by decide +kernel
theorem dX9_lays_101 : decode cX9_lays 101 = .ok (.iconst 4, 1) := by decide +kernel
theorem dX9_lays_102 : decode cX9_lays 102 = .ok (.irem, 1) := by decide +kernel
theorem dX9_lays_103 : decode cX9_lays 103 = .ok (.imul, 1) := by decide +kernel
theorem dX9_lays_104 : decode cX9_lays 104 = .ok (.iconst 2, 1) := by decide +kernel
theorem dX9_lays_105 : decode cX9_lays 105 = .ok (.iload 4, 2) := by decide +kernel
theorem dX9_lays_107 : decode cX9_lays 107 = .ok (.bipush 8, 2) := by decide +kernel
theorem dX9_lays_109 : decode cX9_lays 109 = .ok (.irem, 1) := by decide +kernel
theorem dX9_lays_110 : decode cX9_lays 110 = .ok (.imul, 1) := by decide +kernel
theorem dX9_lays_111 : decode cX9_lays 111 = .ok (.iload 5, 2) := by decide +kernel
theorem dX9_lays_113 : decode cX9_lays 113 = .ok (.iadd, 1) := by decide +kernel
theorem dX9_lays_114 : decode cX9_lays 114 = .ok (.bipush 8, 2) := by decide +kernel
theorem dX9_lays_116 : decode cX9_lays 116 = .ok (.irem, 1) := by decide +kernel
theorem dX9_lays_117 : decode cX9_lays 117 = .ok (.iadd, 1) := by decide +kernel
theorem dX9_lays_118 : decode cX9_lays 118 = .ok (.istore 7, 2) := by decide +kernel
theorem dX9_lays_120 : decode cX9_lays 120 = .ok (.aload_n 0, 1) := by decide +kernel
theorem dX9_lays_121 : decode cX9_lays 121 = .ok (.getfield 7, 3) := by decide +kernel
theorem dX9_lays_124 : decode cX9_lays 124 = .ok (.iload_n 1, 1) := by decide +kernel
theorem dX9_lays_125 : decode cX9_lays 125 = .ok (.bipush 10, 2) := by decide +kernel
theorem dX9_lays_127 : decode cX9_lays 127 = .ok (.iadd, 1) := by decide +kernel
theorem dX9_lays_128 : decode cX9_lays 128 = .ok (.iconst 2, 1) := by decide +kernel
theorem dX9_lays_129 : decode cX9_lays 129 = .ok (.iload 4, 2) := by decide +kernel
theorem dX9_lays_131 : decode cX9_lays 131 = .ok (.imul, 1) := by decide +kernel
theorem dX9_lays_132 : decode cX9_lays 132 = .ok (.iadd, 1) := by decide +kernel
theorem dX9_lays_133 : decode cX9_lays 133 = .ok (.iload 5, 2) := by decide +kernel
theorem dX9_lays_135 : decode cX9_lays 135 = .ok (.iadd, 1) := by decide +kernel
theorem dX9_lays_136 : decode cX9_lays 136 = .ok (.iconst 1, 1) := by decide +kernel
theorem dX9_lays_137 : decode cX9_lays 137 = .ok (.iastore, 1) := by decide +kernel
theorem dX9_lays_138 : decode cX9_lays 138 = .ok (.aload_n 0, 1) := by decide +kernel
theorem dX9_lays_139 : decode cX9_lays 139 = .ok (.getfield 7, 3) := by decide +kernel
theorem dX9_lays_142 : decode cX9_lays 142 = .ok (.iload_n 1, 1) := by decide +kernel
theorem dX9_lays_143 : decode cX9_lays 143 = .ok (.sipush 510, 3) := by decide +kernel
theorem dX9_lays_146 : decode cX9_lays 146 = .ok (.iadd, 1) := by decide +kernel
theorem dX9_lays_147 : decode cX9_lays 147 = .ok (.iconst 2, 1) := by decide +kernel
theorem dX9_lays_148 : decode cX9_lays 148 = .ok (.iload 4, 2) := by decide +kernel
theorem dX9_lays_150 : decode cX9_lays 150 = .ok (.imul, 1) := by decide +kernel
theorem dX9_lays_151 : decode cX9_lays 151 = .ok (.iadd, 1) := by decide +kernel
theorem dX9_lays_152 : decode cX9_lays 152 = .ok (.iload 5, 2) := by decide +kernel
theorem dX9_lays_154 : decode cX9_lays 154 = .ok (.iadd, 1) := by decide +kernel
theorem dX9_lays_155 : decode cX9_lays 155 = .ok (.iload_n 2, 1) := by decide +kernel
theorem dX9_lays_156 : decode cX9_lays 156 = .ok (.ifCond .ne 7, 3) := by decide +kernel
theorem dX9_lays_159 : decode cX9_lays 159 = .ok (.iconst 0, 1) := by decide +kernel
theorem dX9_lays_160 : decode cX9_lays 160 = .ok (.goto 26, 3) := by decide +kernel
theorem dX9_lays_163 : decode cX9_lays 163 = .ok (.iload_n 2, 1) := by decide +kernel
theorem dX9_lays_164 : decode cX9_lays 164 = .ok (.iconst 1, 1) := by decide +kernel
theorem dX9_lays_165 : decode cX9_lays 165 = .ok (.if_icmp .ne 19, 3) := by decide +kernel
theorem dX9_lays_168 : decode cX9_lays 168 = .ok (.iload 6, 2) := by decide +kernel
theorem dX9_lays_170 : decode cX9_lays 170 = .ok (.bipush 15, 2) := by decide +kernel
theorem dX9_lays_172 : decode cX9_lays 172 = .ok (.if_icmp .ge 8, 3) := by decide +kernel
theorem dX9_lays_175 : decode cX9_lays 175 = .ok (.iload 6, 2) := by decide +kernel
theorem dX9_lays_177 : decode cX9_lays 177 = .ok (.goto 9, 3) := by decide +kernel
theorem dX9_lays_180 : decode cX9_lays 180 = .ok (.iconst 0, 1) := by decide +kernel
theorem dX9_lays_181 : decode cX9_lays 181 = .ok (.goto 5, 3) := by decide +kernel
theorem dX9_lays_184 : decode cX9_lays 184 = .ok (.iload 7, 2) := by decide +kernel
theorem dX9_lays_186 : decode cX9_lays 186 = .ok (.iastore, 1) := by decide +kernel
theorem dX9_lays_187 : decode cX9_lays 187 = .ok (.iinc 5 1, 3) := by decide +kernel
theorem dX9_lays_190 : decode cX9_lays 190 = .ok (.goto (-115), 3) := by decide +kernel
theorem dX9_lays_193 : decode cX9_lays 193 = .ok (.iinc 4 1, 3) := by decide +kernel
theorem dX9_lays_196 : decode cX9_lays 196 = .ok (.goto (-145), 3) := by decide +kernel
theorem dX9_lays_199 : decode cX9_lays 199 = .ok (.return_, 1) := by decide +kernel
def st_X9_lays_L75 (v1 : Int32) (v2 : Int32) (v4 : Int32) (v5 : Int32) (mm : (Nat → Int32)) : Option ((Int32 × (Nat → Int32)) ⊕ (Int32 × (Nat → Int32))) := if 2 ≤ v5 then (some (Sum.inr (v5, mm))) else (if (((v1 + 10) + (2 * v4)) + v5) < 0 ∨ 5040 ≤ (((v1 + 10) + (2 * v4)) + v5).toNatClampNeg then none else (if v2 = 0 then (if (((v1 + 510) + (2 * v4)) + v5) < 0 ∨ 5040 ≤ (((v1 + 510) + (2 * v4)) + v5).toNatClampNeg then none else (some (Sum.inl (v5 + 1, upd (upd mm (((v1 + 10) + (2 * v4)) + v5).toNatClampNeg 1) (((v1 + 510) + (2 * v4)) + v5).toNatClampNeg 0)))) else (if v2 = 1 then (if 15 ≤ (((2 * v4) + 1) + v5) then (if (((v1 + 510) + (2 * v4)) + v5) < 0 ∨ 5040 ≤ (((v1 + 510) + (2 * v4)) + v5).toNatClampNeg then none else (some (Sum.inl (v5 + 1, upd (upd mm (((v1 + 10) + (2 * v4)) + v5).toNatClampNeg 1) (((v1 + 510) + (2 * v4)) + v5).toNatClampNeg 0)))) else (if (((v1 + 510) + (2 * v4)) + v5) < 0 ∨ 5040 ≤ (((v1 + 510) + (2 * v4)) + v5).toNatClampNeg then none else (some (Sum.inl (v5 + 1, upd (upd mm (((v1 + 10) + (2 * v4)) + v5).toNatClampNeg 1) (((v1 + 510) + (2 * v4)) + v5).toNatClampNeg (((2 * v4) + 1) + v5)))))) else (if (((v1 + 510) + (2 * v4)) + v5) < 0 ∨ 5040 ≤ (((v1 + 510) + (2 * v4)) + v5).toNatClampNeg then none else (some (Sum.inl (v5 + 1, upd (upd mm (((v1 + 10) + (2 * v4)) + v5).toNatClampNeg 1) (((v1 + 510) + (2 * v4)) + v5).toNatClampNeg ((8 * (((v4 / 8) + 1) - ((v4 / 8) + 1) / 4 * 4)) + (((2 * (v4 - v4 / 8 * 8)) + v5) - ((2 * (v4 - v4 / 8 * 8)) + v5) / 8 * 8)))))))))
def f_X9_lays_L75 (v1 : Int32) (v2 : Int32) (v4 : Int32) (k : Nat) (v5 : Int32) (mm : (Nat → Int32)) : Option (Int32 × (Nat → Int32)) := lpN (fun z => st_X9_lays_L75 v1 v2 v4 z.1 z.2) k (v5, mm)
set_option maxHeartbeats 4000000 in
set_option maxRecDepth 100000 in
theorem L_X9_lays_75 {p : Program} {l : Launch} {e : Env} {s : State} {m : MethodId} {args : Array Value} {below : List Frame} {meth : Method} {c : Code} {Q : State → Prop} {D : va_G} {cI : ClassId} {q : Nat} {qm : Nat} {qi : Nat} {qp : Nat} {qo : Nat} {qg : Nat} {v1 : Int32} {v2 : Int32} {v3 : Int32} {v4 : Int32} {kept : Int32} {im : Int32} {pm : Int32} {om : Int32} {lo : Int64} {hi_ : Int64} {cde : Int64} {fr : Int32} {sp : Int32} {inp : (Nat → Int32)} {pk : (Nat → Int32)} {out : (Nat → Int32)} {gr : (Nat → Int32)} {A : Nat → Prop} (S : CallFix p m c cX9_lays 8 s args wsG RX9) (hK : va_K D vwCl [(cI, .int)] s) (hN : nw s) (hSF : sf A s s.heap) (hA : ∀ q, s.heap.size ≤ q → A q) : ∀ (k : Nat) (v5 : Int32) (mm : (Nat → Int32)) (o_v5 : Int32) (o_mm : (Nat → Int32)), f_X9_lays_L75 v1 v2 v4 k v5 mm = some (o_v5, o_mm) → ∀ (H : Heap) (locs : List Loc) (ls : Array Slot), va_P D vwCl [(q, .inr (9, [.ref qm, .int kept, .ref qi, .int im, .ref qp, .int pm, .ref qo, .int om, .ref qg, .long lo, .long hi_, .long cde, .int fr, .int sp])), (qm, .inl (cI, 5040, .inl mm)), (qi, .inl (cI, 60, .inl inp)), (qp, .inl (cI, 2000, .inl pk)), (qo, .inl (cI, 60, .inl out)), (qg, .inl (cI, 6, .inl gr))] H → va_D A [(q, .inr (9, [.ref qm, .int kept, .ref qi, .int im, .ref qp, .int pm, .ref qo, .int om, .ref qg, .long lo, .long hi_, .long cde, .int fr, .int sp])), (qm, .inl (cI, 5040, .inl mm)), (qi, .inl (cI, 60, .inl inp)), (qp, .inl (cI, 2000, .inl pk)), (qo, .inl (cI, 60, .inl out)), (qg, .inl (cI, 6, .inl gr))] → va_S A s.heap H locs → lv_has ls 8 [(0, .ref q), (1, .int v1), (2, .int v2), (3, .int v3), (4, .int v4), (5, .int v5)] → (∀ (H : Heap) (locs : List Loc) (ls : Array Slot), va_P D vwCl [(q, .inr (9, [.ref qm, .int kept, .ref qi, .int im, .ref qp, .int pm, .ref qo, .int om, .ref qg, .long lo, .long hi_, .long cde, .int fr, .int sp])), (qm, .inl (cI, 5040, .inl o_mm)), (qi, .inl (cI, 60, .inl inp)), (qp, .inl (cI, 2000, .inl pk)), (qo, .inl (cI, 60, .inl out)), (qg, .inl (cI, 6, .inl gr))] H → va_D A [(q, .inr (9, [.ref qm, .int kept, .ref qi, .int im, .ref qp, .int pm, .ref qo, .int om, .ref qg, .long lo, .long hi_, .long cde, .int fr, .int sp])), (qm, .inl (cI, 5040, .inl o_mm)), (qi, .inl (cI, 60, .inl inp)), (qp, .inl (cI, 2000, .inl pk)), (qo, .inl (cI, 60, .inl out)), (qg, .inl (cI, 6, .inl gr))] → va_S A s.heap H locs → lv_has ls 8 [(0, .ref q), (1, .int v1), (2, .int v2), (3, .int v3), (4, .int v4), (5, .int o_v5)] → W p l e (headSpec (.code yX9_lays cX9_lays 8 none :: wsG) { frames := 0, cells := 0, slots := 0, locals := 0 }).room s m args below meth c H locs 0 0 Q (F0 m 193 ls [])) → W p l e (headSpec (.code yX9_lays cX9_lays 8 none :: wsG) { frames := 0, cells := 0, slots := 0, locals := 0 }).room s m args below meth c H locs 0 0 Q (F0 m 75 ls []) := by
  obtain ⟨hx, hb, hml, hown, hts⟩ := id S
  intro k
  induction k with
  | zero =>
    intro v5 mm o_v5 o_mm hf
    cases hf
  | succ k ih =>
    intro v5 mm o_v5 o_mm hf H locs ls hP hD hS hl kk
    obtain ⟨z, hf, hz⟩ := lp_inv hf
    have hf : st_X9_lays_L75 v1 v2 v4 v5 mm = some z := hf
    unfold st_X9_lays_L75 at hf
    refine lv_iload hx hb dX9_lays_75 (lv_at hl 5 rfl) ?_
    refine lv_iconst (v := 2) hx hb dX9_lays_77 (by decide) ?_
    refine lv_icmp_ge (tgt := 193) hx hb dX9_lays_78 (by decide) (fun c_8 => ?_) (fun c_8 => ?_)
    · rw [if_pos c_8] at hf
      have hf := Option.some.inj hf
      subst hf
      obtain ⟨e_0, e_1⟩ := Prod.mk.inj (lpC_r hz)
      subst e_0
      subst e_1
      exact kk H locs ls hP hD hS (lv_sub hl [0, 1, 2, 3, 4, 5] rfl)
    · rw [if_neg c_8] at hf
      refine lv_iconst (v := 2) hx hb dX9_lays_81 (by decide) ?_
      refine lv_iload hx hb dX9_lays_82 (lv_at hl 4 rfl) ?_
      refine lv_imul hx hb dX9_lays_84 ?_
      refine lv_iconst (v := 1) hx hb dX9_lays_85 (by decide) ?_
      refine lv_iadd hx hb dX9_lays_86 ?_
      refine lv_iload hx hb dX9_lays_87 (lv_at hl 5 rfl) ?_
      refine lv_iadd hx hb dX9_lays_89 ?_
      refine lv_istore (lv' := [(6, .int (((2 * v4) + 1) + v5)), (0, .ref q), (1, .int v1), (2, .int v2), (3, .int v3), (4, .int v4), (5, .int v5)]) hx hb dX9_lays_90 hl (by decide) rfl (fun ls hl => ?_)
      refine lv_bipush (v := 8) hx hb dX9_lays_92 (by decide) ?_
      refine lv_iload hx hb dX9_lays_94 (lv_at hl 5 rfl) ?_
      refine lv_bipush (v := 8) hx hb dX9_lays_96 (by decide) ?_
      refine lv_idiv hx hb dX9_lays_98 (by decide) ?_
      refine lv_iconst (v := 1) hx hb dX9_lays_99 (by decide) ?_
      refine lv_iadd hx hb dX9_lays_100 ?_
      refine lv_iconst (v := 4) hx hb dX9_lays_101 (by decide) ?_
      refine lv_irem hx hb dX9_lays_102 (by decide) ?_
      refine lv_imul hx hb dX9_lays_103 ?_
      refine lv_iconst (v := 2) hx hb dX9_lays_104 (by decide) ?_
      refine lv_iload hx hb dX9_lays_105 (lv_at hl 5 rfl) ?_
      refine lv_bipush (v := 8) hx hb dX9_lays_107 (by decide) ?_
      refine lv_irem hx hb dX9_lays_109 (by decide) ?_
      refine lv_imul hx hb dX9_lays_110 ?_
      refine lv_iload hx hb dX9_lays_111 (lv_at hl 6 rfl) ?_
      refine lv_iadd hx hb dX9_lays_113 ?_
      refine lv_bipush (v := 8) hx hb dX9_lays_114 (by decide) ?_
      refine lv_irem hx hb dX9_lays_116 (by decide) ?_
      refine lv_iadd hx hb dX9_lays_117 ?_
      refine lv_istore (lv' := [(7, .int ((8 * (((v4 / 8) + 1) - ((v4 / 8) + 1) / 4 * 4)) + (((2 * (v4 - v4 / 8 * 8)) + v5) - ((2 * (v4 - v4 / 8 * 8)) + v5) / 8 * 8))), (6, .int (((2 * v4) + 1) + v5)), (0, .ref q), (1, .int v1), (2, .int v2), (3, .int v3), (4, .int v4), (5, .int v5)]) hx hb dX9_lays_118 hl (by decide) rfl (fun ls hl => ?_)
      refine lv_aload_n hx hb dX9_lays_120 rfl (lv_at hl 2 rfl) ?_
      refine va_get (D := D) (ci := 9) (v := .ref qm) (C := RX9) (T := TX9) (N := 14) hx hb hts inGX9 hown hK hP 0 rfl rfl 0 (by decide) (hts _ fl_X9_7) (fun _ h9 => h9) rfl dX9_lays_121 ?_
      refine lv_iload_n hx hb dX9_lays_124 rfl (lv_at hl 3 rfl) ?_
      refine lv_bipush (v := 10) hx hb dX9_lays_125 (by decide) ?_
      refine lv_iadd hx hb dX9_lays_127 ?_
      refine lv_iconst (v := 2) hx hb dX9_lays_128 (by decide) ?_
      refine lv_iload hx hb dX9_lays_129 (lv_at hl 6 rfl) ?_
      refine lv_imul hx hb dX9_lays_131 ?_
      refine lv_iadd hx hb dX9_lays_132 ?_
      refine lv_iload hx hb dX9_lays_133 (lv_at hl 7 rfl) ?_
      refine lv_iadd hx hb dX9_lays_135 ?_
      refine lv_iconst (v := 1) hx hb dX9_lays_136 (by decide) ?_
      have b_9 : ¬ ((((v1 + 10) + (2 * v4)) + v5) < 0 ∨ 5040 ≤ (((v1 + 10) + (2 * v4)) + v5).toNatClampNeg) := fun q => by rw [if_pos q] at hf; cases hf
      rw [if_neg b_9] at hf
      refine va_iast hx hb hK hP hD hS 1 0 rfl rfl b_9 dX9_lays_137 (fun H locs hP hD hS => ?_)
      have hP : va_P D vwCl [(q, .inr (9, [.ref qm, .int kept, .ref qi, .int im, .ref qp, .int pm, .ref qo, .int om, .ref qg, .long lo, .long hi_, .long cde, .int fr, .int sp])), (qm, .inl (cI, 5040, .inl (upd mm (((v1 + 10) + (2 * v4)) + v5).toNatClampNeg 1))), (qi, .inl (cI, 60, .inl inp)), (qp, .inl (cI, 2000, .inl pk)), (qo, .inl (cI, 60, .inl out)), (qg, .inl (cI, 6, .inl gr))] H := hP
      have hD : va_D A [(q, .inr (9, [.ref qm, .int kept, .ref qi, .int im, .ref qp, .int pm, .ref qo, .int om, .ref qg, .long lo, .long hi_, .long cde, .int fr, .int sp])), (qm, .inl (cI, 5040, .inl (upd mm (((v1 + 10) + (2 * v4)) + v5).toNatClampNeg 1))), (qi, .inl (cI, 60, .inl inp)), (qp, .inl (cI, 2000, .inl pk)), (qo, .inl (cI, 60, .inl out)), (qg, .inl (cI, 6, .inl gr))] := hD
      refine lv_aload_n hx hb dX9_lays_138 rfl (lv_at hl 2 rfl) ?_
      refine va_get (D := D) (ci := 9) (v := .ref qm) (C := RX9) (T := TX9) (N := 14) hx hb hts inGX9 hown hK hP 0 rfl rfl 0 (by decide) (hts _ fl_X9_7) (fun _ h9 => h9) rfl dX9_lays_139 ?_
      refine lv_iload_n hx hb dX9_lays_142 rfl (lv_at hl 3 rfl) ?_
      refine lv_sipush (v := 510) hx hb dX9_lays_143 (by decide) ?_
      refine lv_iadd hx hb dX9_lays_146 ?_
      refine lv_iconst (v := 2) hx hb dX9_lays_147 (by decide) ?_
      refine lv_iload hx hb dX9_lays_148 (lv_at hl 6 rfl) ?_
      refine lv_imul hx hb dX9_lays_150 ?_
      refine lv_iadd hx hb dX9_lays_151 ?_
      refine lv_iload hx hb dX9_lays_152 (lv_at hl 7 rfl) ?_
      refine lv_iadd hx hb dX9_lays_154 ?_
      refine lv_iload_n hx hb dX9_lays_155 rfl (lv_at hl 4 rfl) ?_
      refine lv_if_ne (tgt := 163) hx hb dX9_lays_156 (by decide) (fun c_10 => ?_) (fun c_10 => ?_)
      · rw [if_neg c_10] at hf
        refine lv_iload_n hx hb dX9_lays_163 rfl (lv_at hl 4 rfl) ?_
        refine lv_iconst (v := 1) hx hb dX9_lays_164 (by decide) ?_
        refine lv_icmp_ne (tgt := 184) hx hb dX9_lays_165 (by decide) (fun c_11 => ?_) (fun c_11 => ?_)
        · rw [if_neg c_11] at hf
          refine lv_iload hx hb dX9_lays_184 (lv_at hl 0 rfl) ?_
          have b_12 : ¬ ((((v1 + 510) + (2 * v4)) + v5) < 0 ∨ 5040 ≤ (((v1 + 510) + (2 * v4)) + v5).toNatClampNeg) := fun q => by rw [if_pos q] at hf; cases hf
          rw [if_neg b_12] at hf
          refine va_iast hx hb hK hP hD hS 1 0 rfl rfl b_12 dX9_lays_186 (fun H locs hP hD hS => ?_)
          have hP : va_P D vwCl [(q, .inr (9, [.ref qm, .int kept, .ref qi, .int im, .ref qp, .int pm, .ref qo, .int om, .ref qg, .long lo, .long hi_, .long cde, .int fr, .int sp])), (qm, .inl (cI, 5040, .inl (upd (upd mm (((v1 + 10) + (2 * v4)) + v5).toNatClampNeg 1) (((v1 + 510) + (2 * v4)) + v5).toNatClampNeg ((8 * (((v4 / 8) + 1) - ((v4 / 8) + 1) / 4 * 4)) + (((2 * (v4 - v4 / 8 * 8)) + v5) - ((2 * (v4 - v4 / 8 * 8)) + v5) / 8 * 8))))), (qi, .inl (cI, 60, .inl inp)), (qp, .inl (cI, 2000, .inl pk)), (qo, .inl (cI, 60, .inl out)), (qg, .inl (cI, 6, .inl gr))] H := hP
          have hD : va_D A [(q, .inr (9, [.ref qm, .int kept, .ref qi, .int im, .ref qp, .int pm, .ref qo, .int om, .ref qg, .long lo, .long hi_, .long cde, .int fr, .int sp])), (qm, .inl (cI, 5040, .inl (upd (upd mm (((v1 + 10) + (2 * v4)) + v5).toNatClampNeg 1) (((v1 + 510) + (2 * v4)) + v5).toNatClampNeg ((8 * (((v4 / 8) + 1) - ((v4 / 8) + 1) / 4 * 4)) + (((2 * (v4 - v4 / 8 * 8)) + v5) - ((2 * (v4 - v4 / 8 * 8)) + v5) / 8 * 8))))), (qi, .inl (cI, 60, .inl inp)), (qp, .inl (cI, 2000, .inl pk)), (qo, .inl (cI, 60, .inl out)), (qg, .inl (cI, 6, .inl gr))] := hD
          refine lv_iinc (v := v5 + 1) (lv' := [(5, .int (v5 + 1)), (7, .int ((8 * (((v4 / 8) + 1) - ((v4 / 8) + 1) / 4 * 4)) + (((2 * (v4 - v4 / 8 * 8)) + v5) - ((2 * (v4 - v4 / 8 * 8)) + v5) / 8 * 8))), (6, .int (((2 * v4) + 1) + v5)), (0, .ref q), (1, .int v1), (2, .int v2), (3, .int v3), (4, .int v4)]) hx hb dX9_lays_187 hl (k := 7) rfl rfl (by decide) rfl (fun ls hl => ?_)
          refine lv_goto (tgt := 75) hx hb dX9_lays_190 (by decide) ?_
          have hf := Option.some.inj hf
          subst hf
          exact ih (v5 + 1) (upd (upd mm (((v1 + 10) + (2 * v4)) + v5).toNatClampNeg 1) (((v1 + 510) + (2 * v4)) + v5).toNatClampNeg ((8 * (((v4 / 8) + 1) - ((v4 / 8) + 1) / 4 * 4)) + (((2 * (v4 - v4 / 8 * 8)) + v5) - ((2 * (v4 - v4 / 8 * 8)) + v5) / 8 * 8))) _ _ hz H locs ls hP hD hS (lv_sub hl [3, 4, 5, 6, 7, 0] rfl) kk
        · rw [if_pos c_11] at hf
          refine lv_iload hx hb dX9_lays_168 (lv_at hl 1 rfl) ?_
          refine lv_bipush (v := 15) hx hb dX9_lays_170 (by decide) ?_
          refine lv_icmp_ge (tgt := 180) hx hb dX9_lays_172 (by decide) (fun c_13 => ?_) (fun c_13 => ?_)
          · rw [if_pos c_13] at hf
            refine lv_iconst (v := 0) hx hb dX9_lays_180 (by decide) ?_
            refine lv_goto (tgt := 186) hx hb dX9_lays_181 (by decide) ?_
            have b_14 : ¬ ((((v1 + 510) + (2 * v4)) + v5) < 0 ∨ 5040 ≤ (((v1 + 510) + (2 * v4)) + v5).toNatClampNeg) := fun q => by rw [if_pos q] at hf; cases hf
            rw [if_neg b_14] at hf
            refine va_iast hx hb hK hP hD hS 1 0 rfl rfl b_14 dX9_lays_186 (fun H locs hP hD hS => ?_)
            have hP : va_P D vwCl [(q, .inr (9, [.ref qm, .int kept, .ref qi, .int im, .ref qp, .int pm, .ref qo, .int om, .ref qg, .long lo, .long hi_, .long cde, .int fr, .int sp])), (qm, .inl (cI, 5040, .inl (upd (upd mm (((v1 + 10) + (2 * v4)) + v5).toNatClampNeg 1) (((v1 + 510) + (2 * v4)) + v5).toNatClampNeg 0))), (qi, .inl (cI, 60, .inl inp)), (qp, .inl (cI, 2000, .inl pk)), (qo, .inl (cI, 60, .inl out)), (qg, .inl (cI, 6, .inl gr))] H := hP
            have hD : va_D A [(q, .inr (9, [.ref qm, .int kept, .ref qi, .int im, .ref qp, .int pm, .ref qo, .int om, .ref qg, .long lo, .long hi_, .long cde, .int fr, .int sp])), (qm, .inl (cI, 5040, .inl (upd (upd mm (((v1 + 10) + (2 * v4)) + v5).toNatClampNeg 1) (((v1 + 510) + (2 * v4)) + v5).toNatClampNeg 0))), (qi, .inl (cI, 60, .inl inp)), (qp, .inl (cI, 2000, .inl pk)), (qo, .inl (cI, 60, .inl out)), (qg, .inl (cI, 6, .inl gr))] := hD
            refine lv_iinc (v := v5 + 1) (lv' := [(5, .int (v5 + 1)), (7, .int ((8 * (((v4 / 8) + 1) - ((v4 / 8) + 1) / 4 * 4)) + (((2 * (v4 - v4 / 8 * 8)) + v5) - ((2 * (v4 - v4 / 8 * 8)) + v5) / 8 * 8))), (6, .int (((2 * v4) + 1) + v5)), (0, .ref q), (1, .int v1), (2, .int v2), (3, .int v3), (4, .int v4)]) hx hb dX9_lays_187 hl (k := 7) rfl rfl (by decide) rfl (fun ls hl => ?_)
            refine lv_goto (tgt := 75) hx hb dX9_lays_190 (by decide) ?_
            have hf := Option.some.inj hf
            subst hf
            exact ih (v5 + 1) (upd (upd mm (((v1 + 10) + (2 * v4)) + v5).toNatClampNeg 1) (((v1 + 510) + (2 * v4)) + v5).toNatClampNeg 0) _ _ hz H locs ls hP hD hS (lv_sub hl [3, 4, 5, 6, 7, 0] rfl) kk
          · rw [if_neg c_13] at hf
            refine lv_iload hx hb dX9_lays_175 (lv_at hl 1 rfl) ?_
            refine lv_goto (tgt := 186) hx hb dX9_lays_177 (by decide) ?_
            have b_15 : ¬ ((((v1 + 510) + (2 * v4)) + v5) < 0 ∨ 5040 ≤ (((v1 + 510) + (2 * v4)) + v5).toNatClampNeg) := fun q => by rw [if_pos q] at hf; cases hf
            rw [if_neg b_15] at hf
            refine va_iast hx hb hK hP hD hS 1 0 rfl rfl b_15 dX9_lays_186 (fun H locs hP hD hS => ?_)
            have hP : va_P D vwCl [(q, .inr (9, [.ref qm, .int kept, .ref qi, .int im, .ref qp, .int pm, .ref qo, .int om, .ref qg, .long lo, .long hi_, .long cde, .int fr, .int sp])), (qm, .inl (cI, 5040, .inl (upd (upd mm (((v1 + 10) + (2 * v4)) + v5).toNatClampNeg 1) (((v1 + 510) + (2 * v4)) + v5).toNatClampNeg (((2 * v4) + 1) + v5)))), (qi, .inl (cI, 60, .inl inp)), (qp, .inl (cI, 2000, .inl pk)), (qo, .inl (cI, 60, .inl out)), (qg, .inl (cI, 6, .inl gr))] H := hP
            have hD : va_D A [(q, .inr (9, [.ref qm, .int kept, .ref qi, .int im, .ref qp, .int pm, .ref qo, .int om, .ref qg, .long lo, .long hi_, .long cde, .int fr, .int sp])), (qm, .inl (cI, 5040, .inl (upd (upd mm (((v1 + 10) + (2 * v4)) + v5).toNatClampNeg 1) (((v1 + 510) + (2 * v4)) + v5).toNatClampNeg (((2 * v4) + 1) + v5)))), (qi, .inl (cI, 60, .inl inp)), (qp, .inl (cI, 2000, .inl pk)), (qo, .inl (cI, 60, .inl out)), (qg, .inl (cI, 6, .inl gr))] := hD
            refine lv_iinc (v := v5 + 1) (lv' := [(5, .int (v5 + 1)), (7, .int ((8 * (((v4 / 8) + 1) - ((v4 / 8) + 1) / 4 * 4)) + (((2 * (v4 - v4 / 8 * 8)) + v5) - ((2 * (v4 - v4 / 8 * 8)) + v5) / 8 * 8))), (6, .int (((2 * v4) + 1) + v5)), (0, .ref q), (1, .int v1), (2, .int v2), (3, .int v3), (4, .int v4)]) hx hb dX9_lays_187 hl (k := 7) rfl rfl (by decide) rfl (fun ls hl => ?_)
            refine lv_goto (tgt := 75) hx hb dX9_lays_190 (by decide) ?_
            have hf := Option.some.inj hf
            subst hf
            exact ih (v5 + 1) (upd (upd mm (((v1 + 10) + (2 * v4)) + v5).toNatClampNeg 1) (((v1 + 510) + (2 * v4)) + v5).toNatClampNeg (((2 * v4) + 1) + v5)) _ _ hz H locs ls hP hD hS (lv_sub hl [3, 4, 5, 6, 7, 0] rfl) kk
      · rw [if_pos c_10] at hf
        refine lv_iconst (v := 0) hx hb dX9_lays_159 (by decide) ?_
        refine lv_goto (tgt := 186) hx hb dX9_lays_160 (by decide) ?_
        have b_16 : ¬ ((((v1 + 510) + (2 * v4)) + v5) < 0 ∨ 5040 ≤ (((v1 + 510) + (2 * v4)) + v5).toNatClampNeg) := fun q => by rw [if_pos q] at hf; cases hf
        rw [if_neg b_16] at hf
        refine va_iast hx hb hK hP hD hS 1 0 rfl rfl b_16 dX9_lays_186 (fun H locs hP hD hS => ?_)
        have hP : va_P D vwCl [(q, .inr (9, [.ref qm, .int kept, .ref qi, .int im, .ref qp, .int pm, .ref qo, .int om, .ref qg, .long lo, .long hi_, .long cde, .int fr, .int sp])), (qm, .inl (cI, 5040, .inl (upd (upd mm (((v1 + 10) + (2 * v4)) + v5).toNatClampNeg 1) (((v1 + 510) + (2 * v4)) + v5).toNatClampNeg 0))), (qi, .inl (cI, 60, .inl inp)), (qp, .inl (cI, 2000, .inl pk)), (qo, .inl (cI, 60, .inl out)), (qg, .inl (cI, 6, .inl gr))] H := hP
        have hD : va_D A [(q, .inr (9, [.ref qm, .int kept, .ref qi, .int im, .ref qp, .int pm, .ref qo, .int om, .ref qg, .long lo, .long hi_, .long cde, .int fr, .int sp])), (qm, .inl (cI, 5040, .inl (upd (upd mm (((v1 + 10) + (2 * v4)) + v5).toNatClampNeg 1) (((v1 + 510) + (2 * v4)) + v5).toNatClampNeg 0))), (qi, .inl (cI, 60, .inl inp)), (qp, .inl (cI, 2000, .inl pk)), (qo, .inl (cI, 60, .inl out)), (qg, .inl (cI, 6, .inl gr))] := hD
        refine lv_iinc (v := v5 + 1) (lv' := [(5, .int (v5 + 1)), (7, .int ((8 * (((v4 / 8) + 1) - ((v4 / 8) + 1) / 4 * 4)) + (((2 * (v4 - v4 / 8 * 8)) + v5) - ((2 * (v4 - v4 / 8 * 8)) + v5) / 8 * 8))), (6, .int (((2 * v4) + 1) + v5)), (0, .ref q), (1, .int v1), (2, .int v2), (3, .int v3), (4, .int v4)]) hx hb dX9_lays_187 hl (k := 7) rfl rfl (by decide) rfl (fun ls hl => ?_)
        refine lv_goto (tgt := 75) hx hb dX9_lays_190 (by decide) ?_
        have hf := Option.some.inj hf
        subst hf
        exact ih (v5 + 1) (upd (upd mm (((v1 + 10) + (2 * v4)) + v5).toNatClampNeg 1) (((v1 + 510) + (2 * v4)) + v5).toNatClampNeg 0) _ _ hz H locs ls hP hD hS (lv_sub hl [3, 4, 5, 6, 7, 0] rfl) kk
def st_X9_lays_L51 (v1 : Int32) (v2 : Int32) (v3 : Int32) (v4 : Int32) (mm : (Nat → Int32)) : Option ((Int32 × (Nat → Int32)) ⊕ (Int32 × (Nat → Int32))) := if v3 ≤ v4 then (some (Sum.inr (v4, mm))) else (if ((v1 + 1010) + v4) < 0 ∨ 5040 ≤ ((v1 + 1010) + v4).toNatClampNeg then none else (bi2 (f_X9_lays_L75 v1 v2 v4 4096 0 (upd mm ((v1 + 1010) + v4).toNatClampNeg (-4))) (fun (v5_17 : Int32) (mm_18 : (Nat → Int32)) => some (Sum.inl (v4 + 1, mm_18)))))
def f_X9_lays_L51 (v1 : Int32) (v2 : Int32) (v3 : Int32) (k : Nat) (v4 : Int32) (mm : (Nat → Int32)) : Option (Int32 × (Nat → Int32)) := lpN (fun z => st_X9_lays_L51 v1 v2 v3 z.1 z.2) k (v4, mm)
set_option maxHeartbeats 4000000 in
set_option maxRecDepth 100000 in
theorem L_X9_lays_51 {p : Program} {l : Launch} {e : Env} {s : State} {m : MethodId} {args : Array Value} {below : List Frame} {meth : Method} {c : Code} {Q : State → Prop} {D : va_G} {cI : ClassId} {q : Nat} {qm : Nat} {qi : Nat} {qp : Nat} {qo : Nat} {qg : Nat} {v1 : Int32} {v2 : Int32} {v3 : Int32} {kept : Int32} {im : Int32} {pm : Int32} {om : Int32} {lo : Int64} {hi_ : Int64} {cde : Int64} {fr : Int32} {sp : Int32} {inp : (Nat → Int32)} {pk : (Nat → Int32)} {out : (Nat → Int32)} {gr : (Nat → Int32)} {A : Nat → Prop} (S : CallFix p m c cX9_lays 8 s args wsG RX9) (hK : va_K D vwCl [(cI, .int)] s) (hN : nw s) (hSF : sf A s s.heap) (hA : ∀ q, s.heap.size ≤ q → A q) : ∀ (k : Nat) (v4 : Int32) (mm : (Nat → Int32)) (o_v4 : Int32) (o_mm : (Nat → Int32)), f_X9_lays_L51 v1 v2 v3 k v4 mm = some (o_v4, o_mm) → ∀ (H : Heap) (locs : List Loc) (ls : Array Slot), va_P D vwCl [(q, .inr (9, [.ref qm, .int kept, .ref qi, .int im, .ref qp, .int pm, .ref qo, .int om, .ref qg, .long lo, .long hi_, .long cde, .int fr, .int sp])), (qm, .inl (cI, 5040, .inl mm)), (qi, .inl (cI, 60, .inl inp)), (qp, .inl (cI, 2000, .inl pk)), (qo, .inl (cI, 60, .inl out)), (qg, .inl (cI, 6, .inl gr))] H → va_D A [(q, .inr (9, [.ref qm, .int kept, .ref qi, .int im, .ref qp, .int pm, .ref qo, .int om, .ref qg, .long lo, .long hi_, .long cde, .int fr, .int sp])), (qm, .inl (cI, 5040, .inl mm)), (qi, .inl (cI, 60, .inl inp)), (qp, .inl (cI, 2000, .inl pk)), (qo, .inl (cI, 60, .inl out)), (qg, .inl (cI, 6, .inl gr))] → va_S A s.heap H locs → lv_has ls 8 [(0, .ref q), (1, .int v1), (2, .int v2), (3, .int v3), (4, .int v4)] → (∀ (H : Heap) (locs : List Loc) (ls : Array Slot), va_P D vwCl [(q, .inr (9, [.ref qm, .int kept, .ref qi, .int im, .ref qp, .int pm, .ref qo, .int om, .ref qg, .long lo, .long hi_, .long cde, .int fr, .int sp])), (qm, .inl (cI, 5040, .inl o_mm)), (qi, .inl (cI, 60, .inl inp)), (qp, .inl (cI, 2000, .inl pk)), (qo, .inl (cI, 60, .inl out)), (qg, .inl (cI, 6, .inl gr))] H → va_D A [(q, .inr (9, [.ref qm, .int kept, .ref qi, .int im, .ref qp, .int pm, .ref qo, .int om, .ref qg, .long lo, .long hi_, .long cde, .int fr, .int sp])), (qm, .inl (cI, 5040, .inl o_mm)), (qi, .inl (cI, 60, .inl inp)), (qp, .inl (cI, 2000, .inl pk)), (qo, .inl (cI, 60, .inl out)), (qg, .inl (cI, 6, .inl gr))] → va_S A s.heap H locs → lv_has ls 8 [(0, .ref q), (1, .int v1), (2, .int v2), (3, .int v3), (4, .int o_v4)] → W p l e (headSpec (.code yX9_lays cX9_lays 8 none :: wsG) { frames := 0, cells := 0, slots := 0, locals := 0 }).room s m args below meth c H locs 0 0 Q (F0 m 199 ls [])) → W p l e (headSpec (.code yX9_lays cX9_lays 8 none :: wsG) { frames := 0, cells := 0, slots := 0, locals := 0 }).room s m args below meth c H locs 0 0 Q (F0 m 51 ls []) := by
  obtain ⟨hx, hb, hml, hown, hts⟩ := id S
  intro k
  induction k with
  | zero =>
    intro v4 mm o_v4 o_mm hf
    cases hf
  | succ k ih =>
    intro v4 mm o_v4 o_mm hf H locs ls hP hD hS hl kk
    obtain ⟨z, hf, hz⟩ := lp_inv hf
    have hf : st_X9_lays_L51 v1 v2 v3 v4 mm = some z := hf
    unfold st_X9_lays_L51 at hf
    refine lv_iload hx hb dX9_lays_51 (lv_at hl 4 rfl) ?_
    refine lv_iload_n hx hb dX9_lays_53 rfl (lv_at hl 3 rfl) ?_
    refine lv_icmp_ge (tgt := 199) hx hb dX9_lays_54 (by decide) (fun c_6 => ?_) (fun c_6 => ?_)
    · rw [if_pos c_6] at hf
      have hf := Option.some.inj hf
      subst hf
      obtain ⟨e_0, e_1⟩ := Prod.mk.inj (lpC_r hz)
      subst e_0
      subst e_1
      exact kk H locs ls hP hD hS (lv_sub hl [0, 1, 2, 3, 4] rfl)
    · rw [if_neg c_6] at hf
      refine lv_aload_n hx hb dX9_lays_57 rfl (lv_at hl 0 rfl) ?_
      refine va_get (D := D) (ci := 9) (v := .ref qm) (C := RX9) (T := TX9) (N := 14) hx hb hts inGX9 hown hK hP 0 rfl rfl 0 (by decide) (hts _ fl_X9_7) (fun _ h9 => h9) rfl dX9_lays_58 ?_
      refine lv_iload_n hx hb dX9_lays_61 rfl (lv_at hl 1 rfl) ?_
      refine lv_sipush (v := 1010) hx hb dX9_lays_62 (by decide) ?_
      refine lv_iadd hx hb dX9_lays_65 ?_
      refine lv_iload hx hb dX9_lays_66 (lv_at hl 4 rfl) ?_
      refine lv_iadd hx hb dX9_lays_68 ?_
      refine lv_bipush (v := (-4)) hx hb dX9_lays_69 (by decide) ?_
      have b_7 : ¬ (((v1 + 1010) + v4) < 0 ∨ 5040 ≤ ((v1 + 1010) + v4).toNatClampNeg) := fun q => by rw [if_pos q] at hf; cases hf
      rw [if_neg b_7] at hf
      refine va_iast hx hb hK hP hD hS 1 0 rfl rfl b_7 dX9_lays_71 (fun H locs hP hD hS => ?_)
      have hP : va_P D vwCl [(q, .inr (9, [.ref qm, .int kept, .ref qi, .int im, .ref qp, .int pm, .ref qo, .int om, .ref qg, .long lo, .long hi_, .long cde, .int fr, .int sp])), (qm, .inl (cI, 5040, .inl (upd mm ((v1 + 1010) + v4).toNatClampNeg (-4)))), (qi, .inl (cI, 60, .inl inp)), (qp, .inl (cI, 2000, .inl pk)), (qo, .inl (cI, 60, .inl out)), (qg, .inl (cI, 6, .inl gr))] H := hP
      have hD : va_D A [(q, .inr (9, [.ref qm, .int kept, .ref qi, .int im, .ref qp, .int pm, .ref qo, .int om, .ref qg, .long lo, .long hi_, .long cde, .int fr, .int sp])), (qm, .inl (cI, 5040, .inl (upd mm ((v1 + 1010) + v4).toNatClampNeg (-4)))), (qi, .inl (cI, 60, .inl inp)), (qp, .inl (cI, 2000, .inl pk)), (qo, .inl (cI, 60, .inl out)), (qg, .inl (cI, 6, .inl gr))] := hD
      refine lv_iconst (v := 0) hx hb dX9_lays_72 (by decide) ?_
      refine lv_istore (lv' := [(5, .int 0), (0, .ref q), (1, .int v1), (2, .int v2), (3, .int v3), (4, .int v4)]) hx hb dX9_lays_73 hl (by decide) rfl (fun ls hl => ?_)
      obtain ⟨v5_17, mm_18, hc_19, hf⟩ := bd2 hf
      refine L_X9_lays_75 S hK hN hSF hA _ 0 (upd mm ((v1 + 1010) + v4).toNatClampNeg (-4)) v5_17 mm_18 hc_19 _ _ _ hP hD hS (lv_sub hl [1, 2, 3, 4, 5, 0] rfl) (fun H locs ls hP hD hS hl => ?_)
      refine lv_iinc (v := v4 + 1) (lv' := [(4, .int (v4 + 1)), (0, .ref q), (1, .int v1), (2, .int v2), (3, .int v3), (5, .int v5_17)]) hx hb dX9_lays_193 hl (k := 4) rfl rfl (by decide) rfl (fun ls hl => ?_)
      refine lv_goto (tgt := 51) hx hb dX9_lays_196 (by decide) ?_
      have hf := Option.some.inj hf
      subst hf
      exact ih (v4 + 1) mm_18 _ _ hz H locs ls hP hD hS (lv_sub hl [1, 2, 3, 4, 0] rfl) kk
def f_X9_lays (mm : (Nat → Int32)) (x1 : Int32) : Option ((Nat → Int32)) := if (x1 + 5) < 0 ∨ 5040 ≤ (x1 + 5).toNatClampNeg then none else (if (mm (x1 + 5).toNatClampNeg) = 0 then (if (x1 + 0) < 0 ∨ 5040 ≤ (x1 + 0).toNatClampNeg then none else (if (x1 + 1) < 0 ∨ 5040 ≤ (x1 + 1).toNatClampNeg then none else (bi2 (f_X9_lays_L51 x1 (mm (x1 + 5).toNatClampNeg) 1 4096 0 (upd (upd mm (x1 + 0).toNatClampNeg 1) (x1 + 1).toNatClampNeg 0)) (fun (v4_30 : Int32) (mm_31 : (Nat → Int32)) => some mm_31)))) else (if (mm (x1 + 5).toNatClampNeg) = 1 then (if (x1 + 0) < 0 ∨ 5040 ≤ (x1 + 0).toNatClampNeg then none else (if (x1 + 1) < 0 ∨ 5040 ≤ (x1 + 1).toNatClampNeg then none else (bi2 (f_X9_lays_L51 x1 (mm (x1 + 5).toNatClampNeg) 15 4096 0 (upd (upd mm (x1 + 0).toNatClampNeg 15) (x1 + 1).toNatClampNeg 0)) (fun (v4_25 : Int32) (mm_26 : (Nat → Int32)) => some mm_26)))) else (if (x1 + 0) < 0 ∨ 5040 ≤ (x1 + 0).toNatClampNeg then none else (if (x1 + 1) < 0 ∨ 5040 ≤ (x1 + 1).toNatClampNeg then none else (bi2 (f_X9_lays_L51 x1 (mm (x1 + 5).toNatClampNeg) 32 4096 0 (upd (upd mm (x1 + 0).toNatClampNeg 32) (x1 + 1).toNatClampNeg 0)) (fun (v4_20 : Int32) (mm_21 : (Nat → Int32)) => some mm_21))))))
set_option maxHeartbeats 4000000 in
set_option maxRecDepth 100000 in
theorem c_X9_lays (l : Launch) (D : va_G) (cI : ClassId) {sz : Nat} (q : Nat) (qm : Nat) (qi : Nat) (qp : Nat) (qo : Nat) (qg : Nat) (kept : Int32) (im : Int32) (pm : Int32) (om : Int32) (lo : Int64) (hi_ : Int64) (cde : Int64) (fr : Int32) (sp : Int32) (mm : (Nat → Int32)) (inp : (Nat → Int32)) (pk : (Nat → Int32)) (out : (Nat → Int32)) (gr : (Nat → Int32)) (x1 : Int32) (o_mm : (Nat → Int32)) (hf : f_X9_lays mm x1 = some o_mm) : Met l yX9_lays (.code yX9_lays cX9_lays 8 none :: wsG) ({ frames := 0, cells := 0, slots := 0, locals := 0 }) (va_Pc [.ref q, .int x1] (gv D cI sz [(q, .inr (9, [.ref qm, .int kept, .ref qi, .int im, .ref qp, .int pm, .ref qo, .int om, .ref qg, .long lo, .long hi_, .long cde, .int fr, .int sp])), (qm, .inl (cI, 5040, .inl mm)), (qi, .inl (cI, 60, .inl inp)), (qp, .inl (cI, 2000, .inl pk)), (qo, .inl (cI, 60, .inl out)), (qg, .inl (cI, 6, .inl gr))])) (va_Qv (fun (_ : Unit) => True) (gz D (va_A [(q, .inr (9, [.ref qm, .int kept, .ref qi, .int im, .ref qp, .int pm, .ref qo, .int om, .ref qg, .long lo, .long hi_, .long cde, .int fr, .int sp])), (qm, .inl (cI, 5040, .inl mm)), (qi, .inl (cI, 60, .inl inp)), (qp, .inl (cI, 2000, .inl pk)), (qo, .inl (cI, 60, .inl out)), (qg, .inl (cI, 6, .inl gr))] sz) [(q, .inr (9, [.ref qm, .int kept, .ref qi, .int im, .ref qp, .int pm, .ref qo, .int om, .ref qg, .long lo, .long hi_, .long cde, .int fr, .int sp])), (qm, .inl (cI, 5040, .inl o_mm)), (qi, .inl (cI, 60, .inl inp)), (qp, .inl (cI, 2000, .inl pk)), (qo, .inl (cI, 60, .inl out)), (qg, .inl (cI, 6, .inl gr))]) (va_A [(q, .inr (9, [.ref qm, .int kept, .ref qi, .int im, .ref qp, .int pm, .ref qo, .int om, .ref qg, .long lo, .long hi_, .long cde, .int fr, .int sp])), (qm, .inl (cI, 5040, .inl mm)), (qi, .inl (cI, 60, .inl inp)), (qp, .inl (cI, 2000, .inl pk)), (qo, .inl (cI, 60, .inl out)), (qg, .inl (cI, 6, .inl gr))] sz)) 0 0 (va_A [(q, .inr (9, [.ref qm, .int kept, .ref qi, .int im, .ref qp, .int pm, .ref qo, .int om, .ref qg, .long lo, .long hi_, .long cde, .int fr, .int sp])), (qm, .inl (cI, 5040, .inl mm)), (qi, .inl (cI, 60, .inl inp)), (qp, .inl (cI, 2000, .inl pk)), (qo, .inl (cI, 60, .inl out)), (qg, .inl (cI, 6, .inl gr))] sz) := by
  refine k_rw (y := yX9_lays) (cc := cX9_lays) (maxL := 8) (ret := none) (As := [.ref q, .int x1]) (Qc := fun A => va_Qv (fun (_ : Unit) => True) (gz D A [(q, .inr (9, [.ref qm, .int kept, .ref qi, .int im, .ref qp, .int pm, .ref qo, .int om, .ref qg, .long lo, .long hi_, .long cde, .int fr, .int sp])), (qm, .inl (cI, 5040, .inl o_mm)), (qi, .inl (cI, 60, .inl inp)), (qp, .inl (cI, 2000, .inl pk)), (qo, .inl (cI, 60, .inl out)), (qg, .inl (cI, 6, .inl gr))]) A) (by decide) rfl (Nat.le_of_ble_eq_true rfl) rfl ?_
  intro p e s m below meth c ls A S hret hloc hK hN hSF hP hD hS hA hl
  obtain ⟨hx, hb, hml, hown, hts⟩ := id S
  unfold f_X9_lays at hf
  refine lv_aload_n hx hb dX9_lays_0 rfl (lv_at hl 0 rfl) ?_
  refine va_get (D := D) (ci := 9) (v := .ref qm) (C := RX9) (T := TX9) (N := 14) hx hb hts inGX9 hown hK hP 0 rfl rfl 0 (by decide) (hts _ fl_X9_7) (fun _ h9 => h9) rfl dX9_lays_1 ?_
  refine lv_iload_n hx hb dX9_lays_4 rfl (lv_at hl 1 rfl) ?_
  refine lv_iconst (v := 5) hx hb dX9_lays_5 (by decide) ?_
  refine lv_iadd hx hb dX9_lays_6 ?_
  have b_1 : ¬ ((x1 + 5) < 0 ∨ 5040 ≤ (x1 + 5).toNatClampNeg) := fun q => by rw [if_pos q] at hf; cases hf
  rw [if_neg b_1] at hf
  refine va_iald hx hb hK hP 1 0 rfl rfl b_1 dX9_lays_7 ?_
  refine lv_istore_n (lv' := [(2, .int (mm (x1 + 5).toNatClampNeg)), (0, .ref q), (1, .int x1)]) hx hb dX9_lays_8 rfl hl (by decide) rfl (fun ls hl => ?_)
  refine lv_iload_n hx hb dX9_lays_9 rfl (lv_at hl 0 rfl) ?_
  refine lv_if_ne (tgt := 17) hx hb dX9_lays_10 (by decide) (fun c_2 => ?_) (fun c_2 => ?_)
  · rw [if_neg c_2] at hf
    refine lv_iload_n hx hb dX9_lays_17 rfl (lv_at hl 0 rfl) ?_
    refine lv_iconst (v := 1) hx hb dX9_lays_18 (by decide) ?_
    refine lv_icmp_ne (tgt := 27) hx hb dX9_lays_19 (by decide) (fun c_3 => ?_) (fun c_3 => ?_)
    · rw [if_neg c_3] at hf
      refine lv_bipush (v := 32) hx hb dX9_lays_27 (by decide) ?_
      refine lv_istore_n (lv' := [(3, .int 32), (2, .int (mm (x1 + 5).toNatClampNeg)), (0, .ref q), (1, .int x1)]) hx hb dX9_lays_29 rfl hl (by decide) rfl (fun ls hl => ?_)
      refine lv_aload_n hx hb dX9_lays_30 rfl (lv_at hl 2 rfl) ?_
      refine va_get (D := D) (ci := 9) (v := .ref qm) (C := RX9) (T := TX9) (N := 14) hx hb hts inGX9 hown hK hP 0 rfl rfl 0 (by decide) (hts _ fl_X9_7) (fun _ h9 => h9) rfl dX9_lays_31 ?_
      refine lv_iload_n hx hb dX9_lays_34 rfl (lv_at hl 3 rfl) ?_
      refine lv_iconst (v := 0) hx hb dX9_lays_35 (by decide) ?_
      refine lv_iadd hx hb dX9_lays_36 ?_
      refine lv_iload_n hx hb dX9_lays_37 rfl (lv_at hl 0 rfl) ?_
      have b_4 : ¬ ((x1 + 0) < 0 ∨ 5040 ≤ (x1 + 0).toNatClampNeg) := fun q => by rw [if_pos q] at hf; cases hf
      rw [if_neg b_4] at hf
      refine va_iast hx hb hK hP hD hS 1 0 rfl rfl b_4 dX9_lays_38 (fun H locs hP hD hS => ?_)
      have hP : va_P D vwCl [(q, .inr (9, [.ref qm, .int kept, .ref qi, .int im, .ref qp, .int pm, .ref qo, .int om, .ref qg, .long lo, .long hi_, .long cde, .int fr, .int sp])), (qm, .inl (cI, 5040, .inl (upd mm (x1 + 0).toNatClampNeg 32))), (qi, .inl (cI, 60, .inl inp)), (qp, .inl (cI, 2000, .inl pk)), (qo, .inl (cI, 60, .inl out)), (qg, .inl (cI, 6, .inl gr))] H := hP
      have hD : va_D A [(q, .inr (9, [.ref qm, .int kept, .ref qi, .int im, .ref qp, .int pm, .ref qo, .int om, .ref qg, .long lo, .long hi_, .long cde, .int fr, .int sp])), (qm, .inl (cI, 5040, .inl (upd mm (x1 + 0).toNatClampNeg 32))), (qi, .inl (cI, 60, .inl inp)), (qp, .inl (cI, 2000, .inl pk)), (qo, .inl (cI, 60, .inl out)), (qg, .inl (cI, 6, .inl gr))] := hD
      refine lv_aload_n hx hb dX9_lays_39 rfl (lv_at hl 2 rfl) ?_
      refine va_get (D := D) (ci := 9) (v := .ref qm) (C := RX9) (T := TX9) (N := 14) hx hb hts inGX9 hown hK hP 0 rfl rfl 0 (by decide) (hts _ fl_X9_7) (fun _ h9 => h9) rfl dX9_lays_40 ?_
      refine lv_iload_n hx hb dX9_lays_43 rfl (lv_at hl 3 rfl) ?_
      refine lv_iconst (v := 1) hx hb dX9_lays_44 (by decide) ?_
      refine lv_iadd hx hb dX9_lays_45 ?_
      refine lv_iconst (v := 0) hx hb dX9_lays_46 (by decide) ?_
      have b_5 : ¬ ((x1 + 1) < 0 ∨ 5040 ≤ (x1 + 1).toNatClampNeg) := fun q => by rw [if_pos q] at hf; cases hf
      rw [if_neg b_5] at hf
      refine va_iast hx hb hK hP hD hS 1 0 rfl rfl b_5 dX9_lays_47 (fun H locs hP hD hS => ?_)
      have hP : va_P D vwCl [(q, .inr (9, [.ref qm, .int kept, .ref qi, .int im, .ref qp, .int pm, .ref qo, .int om, .ref qg, .long lo, .long hi_, .long cde, .int fr, .int sp])), (qm, .inl (cI, 5040, .inl (upd (upd mm (x1 + 0).toNatClampNeg 32) (x1 + 1).toNatClampNeg 0))), (qi, .inl (cI, 60, .inl inp)), (qp, .inl (cI, 2000, .inl pk)), (qo, .inl (cI, 60, .inl out)), (qg, .inl (cI, 6, .inl gr))] H := hP
      have hD : va_D A [(q, .inr (9, [.ref qm, .int kept, .ref qi, .int im, .ref qp, .int pm, .ref qo, .int om, .ref qg, .long lo, .long hi_, .long cde, .int fr, .int sp])), (qm, .inl (cI, 5040, .inl (upd (upd mm (x1 + 0).toNatClampNeg 32) (x1 + 1).toNatClampNeg 0))), (qi, .inl (cI, 60, .inl inp)), (qp, .inl (cI, 2000, .inl pk)), (qo, .inl (cI, 60, .inl out)), (qg, .inl (cI, 6, .inl gr))] := hD
      refine lv_iconst (v := 0) hx hb dX9_lays_48 (by decide) ?_
      refine lv_istore (lv' := [(4, .int 0), (3, .int 32), (2, .int (mm (x1 + 5).toNatClampNeg)), (0, .ref q), (1, .int x1)]) hx hb dX9_lays_49 hl (by decide) rfl (fun ls hl => ?_)
      obtain ⟨v4_20, mm_21, hc_22, hf⟩ := bd2 hf
      refine L_X9_lays_51 S hK hN hSF hA _ 0 (upd (upd mm (x1 + 0).toNatClampNeg 32) (x1 + 1).toNatClampNeg 0) v4_20 mm_21 hc_22 _ _ _ hP hD hS (lv_sub hl [3, 4, 2, 1, 0] rfl) (fun H locs ls hP hD hS hl => ?_)
      have e_0 := Option.some.inj hf
      subst e_0
      exact k_wretv hx hb hret hloc hP hD hS dX9_lays_199
    · rw [if_pos c_3] at hf
      refine lv_bipush (v := 15) hx hb dX9_lays_22 (by decide) ?_
      refine lv_goto (tgt := 29) hx hb dX9_lays_24 (by decide) ?_
      refine lv_istore_n (lv' := [(3, .int 15), (2, .int (mm (x1 + 5).toNatClampNeg)), (0, .ref q), (1, .int x1)]) hx hb dX9_lays_29 rfl hl (by decide) rfl (fun ls hl => ?_)
      refine lv_aload_n hx hb dX9_lays_30 rfl (lv_at hl 2 rfl) ?_
      refine va_get (D := D) (ci := 9) (v := .ref qm) (C := RX9) (T := TX9) (N := 14) hx hb hts inGX9 hown hK hP 0 rfl rfl 0 (by decide) (hts _ fl_X9_7) (fun _ h9 => h9) rfl dX9_lays_31 ?_
      refine lv_iload_n hx hb dX9_lays_34 rfl (lv_at hl 3 rfl) ?_
      refine lv_iconst (v := 0) hx hb dX9_lays_35 (by decide) ?_
      refine lv_iadd hx hb dX9_lays_36 ?_
      refine lv_iload_n hx hb dX9_lays_37 rfl (lv_at hl 0 rfl) ?_
      have b_23 : ¬ ((x1 + 0) < 0 ∨ 5040 ≤ (x1 + 0).toNatClampNeg) := fun q => by rw [if_pos q] at hf; cases hf
      rw [if_neg b_23] at hf
      refine va_iast hx hb hK hP hD hS 1 0 rfl rfl b_23 dX9_lays_38 (fun H locs hP hD hS => ?_)
      have hP : va_P D vwCl [(q, .inr (9, [.ref qm, .int kept, .ref qi, .int im, .ref qp, .int pm, .ref qo, .int om, .ref qg, .long lo, .long hi_, .long cde, .int fr, .int sp])), (qm, .inl (cI, 5040, .inl (upd mm (x1 + 0).toNatClampNeg 15))), (qi, .inl (cI, 60, .inl inp)), (qp, .inl (cI, 2000, .inl pk)), (qo, .inl (cI, 60, .inl out)), (qg, .inl (cI, 6, .inl gr))] H := hP
      have hD : va_D A [(q, .inr (9, [.ref qm, .int kept, .ref qi, .int im, .ref qp, .int pm, .ref qo, .int om, .ref qg, .long lo, .long hi_, .long cde, .int fr, .int sp])), (qm, .inl (cI, 5040, .inl (upd mm (x1 + 0).toNatClampNeg 15))), (qi, .inl (cI, 60, .inl inp)), (qp, .inl (cI, 2000, .inl pk)), (qo, .inl (cI, 60, .inl out)), (qg, .inl (cI, 6, .inl gr))] := hD
      refine lv_aload_n hx hb dX9_lays_39 rfl (lv_at hl 2 rfl) ?_
      refine va_get (D := D) (ci := 9) (v := .ref qm) (C := RX9) (T := TX9) (N := 14) hx hb hts inGX9 hown hK hP 0 rfl rfl 0 (by decide) (hts _ fl_X9_7) (fun _ h9 => h9) rfl dX9_lays_40 ?_
      refine lv_iload_n hx hb dX9_lays_43 rfl (lv_at hl 3 rfl) ?_
      refine lv_iconst (v := 1) hx hb dX9_lays_44 (by decide) ?_
      refine lv_iadd hx hb dX9_lays_45 ?_
      refine lv_iconst (v := 0) hx hb dX9_lays_46 (by decide) ?_
      have b_24 : ¬ ((x1 + 1) < 0 ∨ 5040 ≤ (x1 + 1).toNatClampNeg) := fun q => by rw [if_pos q] at hf; cases hf
      rw [if_neg b_24] at hf
      refine va_iast hx hb hK hP hD hS 1 0 rfl rfl b_24 dX9_lays_47 (fun H locs hP hD hS => ?_)
      have hP : va_P D vwCl [(q, .inr (9, [.ref qm, .int kept, .ref qi, .int im, .ref qp, .int pm, .ref qo, .int om, .ref qg, .long lo, .long hi_, .long cde, .int fr, .int sp])), (qm, .inl (cI, 5040, .inl (upd (upd mm (x1 + 0).toNatClampNeg 15) (x1 + 1).toNatClampNeg 0))), (qi, .inl (cI, 60, .inl inp)), (qp, .inl (cI, 2000, .inl pk)), (qo, .inl (cI, 60, .inl out)), (qg, .inl (cI, 6, .inl gr))] H := hP
      have hD : va_D A [(q, .inr (9, [.ref qm, .int kept, .ref qi, .int im, .ref qp, .int pm, .ref qo, .int om, .ref qg, .long lo, .long hi_, .long cde, .int fr, .int sp])), (qm, .inl (cI, 5040, .inl (upd (upd mm (x1 + 0).toNatClampNeg 15) (x1 + 1).toNatClampNeg 0))), (qi, .inl (cI, 60, .inl inp)), (qp, .inl (cI, 2000, .inl pk)), (qo, .inl (cI, 60, .inl out)), (qg, .inl (cI, 6, .inl gr))] := hD
      refine lv_iconst (v := 0) hx hb dX9_lays_48 (by decide) ?_
      refine lv_istore (lv' := [(4, .int 0), (3, .int 15), (2, .int (mm (x1 + 5).toNatClampNeg)), (0, .ref q), (1, .int x1)]) hx hb dX9_lays_49 hl (by decide) rfl (fun ls hl => ?_)
      obtain ⟨v4_25, mm_26, hc_27, hf⟩ := bd2 hf
      refine L_X9_lays_51 S hK hN hSF hA _ 0 (upd (upd mm (x1 + 0).toNatClampNeg 15) (x1 + 1).toNatClampNeg 0) v4_25 mm_26 hc_27 _ _ _ hP hD hS (lv_sub hl [3, 4, 2, 1, 0] rfl) (fun H locs ls hP hD hS hl => ?_)
      have e_0 := Option.some.inj hf
      subst e_0
      exact k_wretv hx hb hret hloc hP hD hS dX9_lays_199
  · rw [if_pos c_2] at hf
    refine lv_iconst (v := 1) hx hb dX9_lays_13 (by decide) ?_
    refine lv_goto (tgt := 29) hx hb dX9_lays_14 (by decide) ?_
    refine lv_istore_n (lv' := [(3, .int 1), (2, .int (mm (x1 + 5).toNatClampNeg)), (0, .ref q), (1, .int x1)]) hx hb dX9_lays_29 rfl hl (by decide) rfl (fun ls hl => ?_)
    refine lv_aload_n hx hb dX9_lays_30 rfl (lv_at hl 2 rfl) ?_
    refine va_get (D := D) (ci := 9) (v := .ref qm) (C := RX9) (T := TX9) (N := 14) hx hb hts inGX9 hown hK hP 0 rfl rfl 0 (by decide) (hts _ fl_X9_7) (fun _ h9 => h9) rfl dX9_lays_31 ?_
    refine lv_iload_n hx hb dX9_lays_34 rfl (lv_at hl 3 rfl) ?_
    refine lv_iconst (v := 0) hx hb dX9_lays_35 (by decide) ?_
    refine lv_iadd hx hb dX9_lays_36 ?_
    refine lv_iload_n hx hb dX9_lays_37 rfl (lv_at hl 0 rfl) ?_
    have b_28 : ¬ ((x1 + 0) < 0 ∨ 5040 ≤ (x1 + 0).toNatClampNeg) := fun q => by rw [if_pos q] at hf; cases hf
    rw [if_neg b_28] at hf
    refine va_iast hx hb hK hP hD hS 1 0 rfl rfl b_28 dX9_lays_38 (fun H locs hP hD hS => ?_)
    have hP : va_P D vwCl [(q, .inr (9, [.ref qm, .int kept, .ref qi, .int im, .ref qp, .int pm, .ref qo, .int om, .ref qg, .long lo, .long hi_, .long cde, .int fr, .int sp])), (qm, .inl (cI, 5040, .inl (upd mm (x1 + 0).toNatClampNeg 1))), (qi, .inl (cI, 60, .inl inp)), (qp, .inl (cI, 2000, .inl pk)), (qo, .inl (cI, 60, .inl out)), (qg, .inl (cI, 6, .inl gr))] H := hP
    have hD : va_D A [(q, .inr (9, [.ref qm, .int kept, .ref qi, .int im, .ref qp, .int pm, .ref qo, .int om, .ref qg, .long lo, .long hi_, .long cde, .int fr, .int sp])), (qm, .inl (cI, 5040, .inl (upd mm (x1 + 0).toNatClampNeg 1))), (qi, .inl (cI, 60, .inl inp)), (qp, .inl (cI, 2000, .inl pk)), (qo, .inl (cI, 60, .inl out)), (qg, .inl (cI, 6, .inl gr))] := hD
    refine lv_aload_n hx hb dX9_lays_39 rfl (lv_at hl 2 rfl) ?_
    refine va_get (D := D) (ci := 9) (v := .ref qm) (C := RX9) (T := TX9) (N := 14) hx hb hts inGX9 hown hK hP 0 rfl rfl 0 (by decide) (hts _ fl_X9_7) (fun _ h9 => h9) rfl dX9_lays_40 ?_
    refine lv_iload_n hx hb dX9_lays_43 rfl (lv_at hl 3 rfl) ?_
    refine lv_iconst (v := 1) hx hb dX9_lays_44 (by decide) ?_
    refine lv_iadd hx hb dX9_lays_45 ?_
    refine lv_iconst (v := 0) hx hb dX9_lays_46 (by decide) ?_
    have b_29 : ¬ ((x1 + 1) < 0 ∨ 5040 ≤ (x1 + 1).toNatClampNeg) := fun q => by rw [if_pos q] at hf; cases hf
    rw [if_neg b_29] at hf
    refine va_iast hx hb hK hP hD hS 1 0 rfl rfl b_29 dX9_lays_47 (fun H locs hP hD hS => ?_)
    have hP : va_P D vwCl [(q, .inr (9, [.ref qm, .int kept, .ref qi, .int im, .ref qp, .int pm, .ref qo, .int om, .ref qg, .long lo, .long hi_, .long cde, .int fr, .int sp])), (qm, .inl (cI, 5040, .inl (upd (upd mm (x1 + 0).toNatClampNeg 1) (x1 + 1).toNatClampNeg 0))), (qi, .inl (cI, 60, .inl inp)), (qp, .inl (cI, 2000, .inl pk)), (qo, .inl (cI, 60, .inl out)), (qg, .inl (cI, 6, .inl gr))] H := hP
    have hD : va_D A [(q, .inr (9, [.ref qm, .int kept, .ref qi, .int im, .ref qp, .int pm, .ref qo, .int om, .ref qg, .long lo, .long hi_, .long cde, .int fr, .int sp])), (qm, .inl (cI, 5040, .inl (upd (upd mm (x1 + 0).toNatClampNeg 1) (x1 + 1).toNatClampNeg 0))), (qi, .inl (cI, 60, .inl inp)), (qp, .inl (cI, 2000, .inl pk)), (qo, .inl (cI, 60, .inl out)), (qg, .inl (cI, 6, .inl gr))] := hD
    refine lv_iconst (v := 0) hx hb dX9_lays_48 (by decide) ?_
    refine lv_istore (lv' := [(4, .int 0), (3, .int 1), (2, .int (mm (x1 + 5).toNatClampNeg)), (0, .ref q), (1, .int x1)]) hx hb dX9_lays_49 hl (by decide) rfl (fun ls hl => ?_)
    obtain ⟨v4_30, mm_31, hc_32, hf⟩ := bd2 hf
    refine L_X9_lays_51 S hK hN hSF hA _ 0 (upd (upd mm (x1 + 0).toNatClampNeg 1) (x1 + 1).toNatClampNeg 0) v4_30 mm_31 hc_32 _ _ _ hP hD hS (lv_sub hl [3, 4, 2, 1, 0] rfl) (fun H locs ls hP hD hS hl => ?_)
    have e_0 := Option.some.inj hf
    subst e_0
    exact k_wretv hx hb hret hloc hP hD hS dX9_lays_199
theorem dX9_renews_0 : decode cX9_renews 0 = .ok (.aload_n 0, 1) := by decide +kernel
theorem dX9_renews_1 : decode cX9_renews 1 = .ok (.iload_n 1, 1) := by decide +kernel
theorem dX9_renews_2 : decode cX9_renews 2 = .ok (.invokevirtual 29, 3) := by decide +kernel
theorem dX9_renews_5 : decode cX9_renews 5 = .ok (.aload_n 0, 1) := by decide +kernel
theorem dX9_renews_6 : decode cX9_renews 6 = .ok (.getfield 7, 3) := by decide +kernel
theorem dX9_renews_9 : decode cX9_renews 9 = .ok (.iload_n 1, 1) := by decide +kernel
theorem dX9_renews_10 : decode cX9_renews 10 = .ok (.iconst 2, 1) := by decide +kernel
theorem dX9_renews_11 : decode cX9_renews 11 = .ok (.iadd, 1) := by decide +kernel
theorem dX9_renews_12 : decode cX9_renews 12 = .ok (.iconst 0, 1) := by decide +kernel
theorem dX9_renews_13 : decode cX9_renews 13 = .ok (.iastore, 1) := by decide +kernel
theorem dX9_renews_14 : decode cX9_renews 14 = .ok (.aload_n 0, 1) := by decide +kernel
theorem dX9_renews_15 : decode cX9_renews 15 = .ok (.getfield 7, 3) := by decide +kernel
theorem dX9_renews_18 : decode cX9_renews 18 = .ok (.iload_n 1, 1) := by decide +kernel
theorem dX9_renews_19 : decode cX9_renews 19 = .ok (.iconst 3, 1) := by decide +kernel
theorem dX9_renews_20 : decode cX9_renews 20 = .ok (.iadd, 1) := by decide +kernel
theorem dX9_renews_21 : decode cX9_renews 21 = .ok (.iconst 0, 1) := by decide +kernel
theorem dX9_renews_22 : decode cX9_renews 22 = .ok (.iastore, 1) := by decide +kernel
theorem dX9_renews_23 : decode cX9_renews 23 = .ok (.aload_n 0, 1) := by decide +kernel
theorem dX9_renews_24 : decode cX9_renews 24 = .ok (.getfield 7, 3) := by decide +kernel
theorem dX9_renews_27 : decode cX9_renews 27 = .ok (.iload_n 1, 1) := by decide +kernel
theorem dX9_renews_28 : decode cX9_renews 28 = .ok (.iconst 4, 1) := by decide +kernel
theorem dX9_renews_29 : decode cX9_renews 29 = .ok (.iadd, 1) := by decide +kernel
theorem dX9_renews_30 : decode cX9_renews 30 = .ok (.iconst 0, 1) := by decide +kernel
theorem dX9_renews_31 : decode cX9_renews 31 = .ok (.iastore, 1) := by decide +kernel
theorem dX9_renews_32 : decode cX9_renews 32 = .ok (.return_, 1) := by decide +kernel
theorem ok_X9_lays : okV yX9_lays RX9 1 := by decide +kernel
theorem gs_X9_29 : GoodIn wsG (wsV RX9 29 RX9 yX9_lays (.code yX9_lays cX9_lays 8 none :: wsG)) := good_V ml_X9_29 im_X9_lays se_X9_lays ini_X9 co_X9_lays
def f_X9_renews (mm : (Nat → Int32)) (x1 : Int32) : Option ((Nat → Int32)) := bi1 (f_X9_lays mm x1) (fun (mm_1 : (Nat → Int32)) => if (x1 + 2) < 0 ∨ 5040 ≤ (x1 + 2).toNatClampNeg then none else (if (x1 + 3) < 0 ∨ 5040 ≤ (x1 + 3).toNatClampNeg then none else (if (x1 + 4) < 0 ∨ 5040 ≤ (x1 + 4).toNatClampNeg then none else (some (upd (upd (upd mm_1 (x1 + 2).toNatClampNeg 0) (x1 + 3).toNatClampNeg 0) (x1 + 4).toNatClampNeg 0)))))
set_option maxHeartbeats 4000000 in
set_option maxRecDepth 100000 in
theorem c_X9_renews (l : Launch) (D : va_G) (cI : ClassId) {sz : Nat} (q : Nat) (qm : Nat) (qi : Nat) (qp : Nat) (qo : Nat) (qg : Nat) (kept : Int32) (im : Int32) (pm : Int32) (om : Int32) (lo : Int64) (hi_ : Int64) (cde : Int64) (fr : Int32) (sp : Int32) (mm : (Nat → Int32)) (inp : (Nat → Int32)) (pk : (Nat → Int32)) (out : (Nat → Int32)) (gr : (Nat → Int32)) (x1 : Int32) (o_mm : (Nat → Int32)) (hf : f_X9_renews mm x1 = some o_mm) : Met l yX9_renews (.code yX9_renews cX9_renews 2 none :: wsG) ({ frames := 1, cells := 0, slots := 0, locals := 27 }) (va_Pc [.ref q, .int x1] (gv D cI sz [(q, .inr (9, [.ref qm, .int kept, .ref qi, .int im, .ref qp, .int pm, .ref qo, .int om, .ref qg, .long lo, .long hi_, .long cde, .int fr, .int sp])), (qm, .inl (cI, 5040, .inl mm)), (qi, .inl (cI, 60, .inl inp)), (qp, .inl (cI, 2000, .inl pk)), (qo, .inl (cI, 60, .inl out)), (qg, .inl (cI, 6, .inl gr))])) (va_Qv (fun (_ : Unit) => True) (gz D (va_A [(q, .inr (9, [.ref qm, .int kept, .ref qi, .int im, .ref qp, .int pm, .ref qo, .int om, .ref qg, .long lo, .long hi_, .long cde, .int fr, .int sp])), (qm, .inl (cI, 5040, .inl mm)), (qi, .inl (cI, 60, .inl inp)), (qp, .inl (cI, 2000, .inl pk)), (qo, .inl (cI, 60, .inl out)), (qg, .inl (cI, 6, .inl gr))] sz) [(q, .inr (9, [.ref qm, .int kept, .ref qi, .int im, .ref qp, .int pm, .ref qo, .int om, .ref qg, .long lo, .long hi_, .long cde, .int fr, .int sp])), (qm, .inl (cI, 5040, .inl o_mm)), (qi, .inl (cI, 60, .inl inp)), (qp, .inl (cI, 2000, .inl pk)), (qo, .inl (cI, 60, .inl out)), (qg, .inl (cI, 6, .inl gr))]) (va_A [(q, .inr (9, [.ref qm, .int kept, .ref qi, .int im, .ref qp, .int pm, .ref qo, .int om, .ref qg, .long lo, .long hi_, .long cde, .int fr, .int sp])), (qm, .inl (cI, 5040, .inl mm)), (qi, .inl (cI, 60, .inl inp)), (qp, .inl (cI, 2000, .inl pk)), (qo, .inl (cI, 60, .inl out)), (qg, .inl (cI, 6, .inl gr))] sz)) 0 0 (va_A [(q, .inr (9, [.ref qm, .int kept, .ref qi, .int im, .ref qp, .int pm, .ref qo, .int om, .ref qg, .long lo, .long hi_, .long cde, .int fr, .int sp])), (qm, .inl (cI, 5040, .inl mm)), (qi, .inl (cI, 60, .inl inp)), (qp, .inl (cI, 2000, .inl pk)), (qo, .inl (cI, 60, .inl out)), (qg, .inl (cI, 6, .inl gr))] sz) := by
  refine k_rw (y := yX9_renews) (cc := cX9_renews) (maxL := 2) (ret := none) (As := [.ref q, .int x1]) (Qc := fun A => va_Qv (fun (_ : Unit) => True) (gz D A [(q, .inr (9, [.ref qm, .int kept, .ref qi, .int im, .ref qp, .int pm, .ref qo, .int om, .ref qg, .long lo, .long hi_, .long cde, .int fr, .int sp])), (qm, .inl (cI, 5040, .inl o_mm)), (qi, .inl (cI, 60, .inl inp)), (qp, .inl (cI, 2000, .inl pk)), (qo, .inl (cI, 60, .inl out)), (qg, .inl (cI, 6, .inl gr))]) A) (by decide) rfl (Nat.le_of_ble_eq_true rfl) rfl ?_
  intro p e s m below meth c ls A S hret hloc hK hN hSF hP hD hS hA hl
  obtain ⟨hx, hb, hml, hown, hts⟩ := id S
  unfold f_X9_renews at hf
  refine lv_aload_n hx hb dX9_renews_0 rfl (lv_at hl 0 rfl) ?_
  refine lv_iload_n hx hb dX9_renews_1 rfl (lv_at hl 1 rfl) ?_
  obtain ⟨mm_1, hc_2, hf⟩ := bd1 hf
  refine k_rwVv (As := [.int x1]) (rest := []) (Wr := []) (W2 := [(q, .inr (9, [.ref qm, .int kept, .ref qi, .int im, .ref qp, .int pm, .ref qo, .int om, .ref qg, .long lo, .long hi_, .long cde, .int fr, .int sp])), (qm, .inl (cI, 5040, .inl mm_1)), (qi, .inl (cI, 60, .inl inp)), (qp, .inl (cI, 2000, .inl pk)), (qo, .inl (cI, 60, .inl out)), (qg, .inl (cI, 6, .inl gr))]) S (c_X9_lays l D cI (q := q) (qm := qm) (qi := qi) (qp := qp) (qo := qo) (qg := qg) (kept := kept) (im := im) (pm := pm) (om := om) (lo := lo) (hi_ := hi_) (cde := cde) (fr := fr) (sp := sp) (mm := mm) (inp := inp) (pk := pk) (out := out) (gr := gr) (x1 := x1)  (o_mm := mm_1) (hf := hc_2)) gs_X9_29 ok_X9_lays ⟨rfl, rfl⟩ ⟨Nat.le_of_ble_eq_true rfl, Nat.le_of_ble_eq_true rfl⟩ hK hN hSF hP hD hS hA [0, 1, 2, 3, 4, 5] [] [0, 1, 2, 3, 4, 5] (by decide) rfl rfl (by decide) (by decide) rfl (by decide) rfl rfl rfl hl.1 rfl (Nat.le_of_ble_eq_true rfl) ⟨Nat.zero_le _, Nat.zero_le _⟩ dX9_renews_2 (fun H locs hP hD hS => ?_)
  refine lv_aload_n hx hb dX9_renews_5 rfl (lv_at hl 0 rfl) ?_
  refine va_get (D := D) (ci := 9) (v := .ref qm) (C := RX9) (T := TX9) (N := 14) hx hb hts inGX9 hown hK hP 0 rfl rfl 0 (by decide) (hts _ fl_X9_7) (fun _ h9 => h9) rfl dX9_renews_6 ?_
  refine lv_iload_n hx hb dX9_renews_9 rfl (lv_at hl 1 rfl) ?_
  refine lv_iconst (v := 2) hx hb dX9_renews_10 (by decide) ?_
  refine lv_iadd hx hb dX9_renews_11 ?_
  refine lv_iconst (v := 0) hx hb dX9_renews_12 (by decide) ?_
  have b_3 : ¬ ((x1 + 2) < 0 ∨ 5040 ≤ (x1 + 2).toNatClampNeg) := fun q => by rw [if_pos q] at hf; cases hf
  rw [if_neg b_3] at hf
  refine va_iast hx hb hK hP hD hS 1 0 rfl rfl b_3 dX9_renews_13 (fun H locs hP hD hS => ?_)
  have hP : va_P D vwCl [(q, .inr (9, [.ref qm, .int kept, .ref qi, .int im, .ref qp, .int pm, .ref qo, .int om, .ref qg, .long lo, .long hi_, .long cde, .int fr, .int sp])), (qm, .inl (cI, 5040, .inl (upd mm_1 (x1 + 2).toNatClampNeg 0))), (qi, .inl (cI, 60, .inl inp)), (qp, .inl (cI, 2000, .inl pk)), (qo, .inl (cI, 60, .inl out)), (qg, .inl (cI, 6, .inl gr))] H := hP
  have hD : va_D A [(q, .inr (9, [.ref qm, .int kept, .ref qi, .int im, .ref qp, .int pm, .ref qo, .int om, .ref qg, .long lo, .long hi_, .long cde, .int fr, .int sp])), (qm, .inl (cI, 5040, .inl (upd mm_1 (x1 + 2).toNatClampNeg 0))), (qi, .inl (cI, 60, .inl inp)), (qp, .inl (cI, 2000, .inl pk)), (qo, .inl (cI, 60, .inl out)), (qg, .inl (cI, 6, .inl gr))] := hD
  refine lv_aload_n hx hb dX9_renews_14 rfl (lv_at hl 0 rfl) ?_
  refine va_get (D := D) (ci := 9) (v := .ref qm) (C := RX9) (T := TX9) (N := 14) hx hb hts inGX9 hown hK hP 0 rfl rfl 0 (by decide) (hts _ fl_X9_7) (fun _ h9 => h9) rfl dX9_renews_15 ?_
  refine lv_iload_n hx hb dX9_renews_18 rfl (lv_at hl 1 rfl) ?_
  refine lv_iconst (v := 3) hx hb dX9_renews_19 (by decide) ?_
  refine lv_iadd hx hb dX9_renews_20 ?_
  refine lv_iconst (v := 0) hx hb dX9_renews_21 (by decide) ?_
  have b_4 : ¬ ((x1 + 3) < 0 ∨ 5040 ≤ (x1 + 3).toNatClampNeg) := fun q => by rw [if_pos q] at hf; cases hf
  rw [if_neg b_4] at hf
  refine va_iast hx hb hK hP hD hS 1 0 rfl rfl b_4 dX9_renews_22 (fun H locs hP hD hS => ?_)
  have hP : va_P D vwCl [(q, .inr (9, [.ref qm, .int kept, .ref qi, .int im, .ref qp, .int pm, .ref qo, .int om, .ref qg, .long lo, .long hi_, .long cde, .int fr, .int sp])), (qm, .inl (cI, 5040, .inl (upd (upd mm_1 (x1 + 2).toNatClampNeg 0) (x1 + 3).toNatClampNeg 0))), (qi, .inl (cI, 60, .inl inp)), (qp, .inl (cI, 2000, .inl pk)), (qo, .inl (cI, 60, .inl out)), (qg, .inl (cI, 6, .inl gr))] H := hP
  have hD : va_D A [(q, .inr (9, [.ref qm, .int kept, .ref qi, .int im, .ref qp, .int pm, .ref qo, .int om, .ref qg, .long lo, .long hi_, .long cde, .int fr, .int sp])), (qm, .inl (cI, 5040, .inl (upd (upd mm_1 (x1 + 2).toNatClampNeg 0) (x1 + 3).toNatClampNeg 0))), (qi, .inl (cI, 60, .inl inp)), (qp, .inl (cI, 2000, .inl pk)), (qo, .inl (cI, 60, .inl out)), (qg, .inl (cI, 6, .inl gr))] := hD
  refine lv_aload_n hx hb dX9_renews_23 rfl (lv_at hl 0 rfl) ?_
  refine va_get (D := D) (ci := 9) (v := .ref qm) (C := RX9) (T := TX9) (N := 14) hx hb hts inGX9 hown hK hP 0 rfl rfl 0 (by decide) (hts _ fl_X9_7) (fun _ h9 => h9) rfl dX9_renews_24 ?_
  refine lv_iload_n hx hb dX9_renews_27 rfl (lv_at hl 1 rfl) ?_
  refine lv_iconst (v := 4) hx hb dX9_renews_28 (by decide) ?_
  refine lv_iadd hx hb dX9_renews_29 ?_
  refine lv_iconst (v := 0) hx hb dX9_renews_30 (by decide) ?_
  have b_5 : ¬ ((x1 + 4) < 0 ∨ 5040 ≤ (x1 + 4).toNatClampNeg) := fun q => by rw [if_pos q] at hf; cases hf
  rw [if_neg b_5] at hf
  refine va_iast hx hb hK hP hD hS 1 0 rfl rfl b_5 dX9_renews_31 (fun H locs hP hD hS => ?_)
  have hP : va_P D vwCl [(q, .inr (9, [.ref qm, .int kept, .ref qi, .int im, .ref qp, .int pm, .ref qo, .int om, .ref qg, .long lo, .long hi_, .long cde, .int fr, .int sp])), (qm, .inl (cI, 5040, .inl (upd (upd (upd mm_1 (x1 + 2).toNatClampNeg 0) (x1 + 3).toNatClampNeg 0) (x1 + 4).toNatClampNeg 0))), (qi, .inl (cI, 60, .inl inp)), (qp, .inl (cI, 2000, .inl pk)), (qo, .inl (cI, 60, .inl out)), (qg, .inl (cI, 6, .inl gr))] H := hP
  have hD : va_D A [(q, .inr (9, [.ref qm, .int kept, .ref qi, .int im, .ref qp, .int pm, .ref qo, .int om, .ref qg, .long lo, .long hi_, .long cde, .int fr, .int sp])), (qm, .inl (cI, 5040, .inl (upd (upd (upd mm_1 (x1 + 2).toNatClampNeg 0) (x1 + 3).toNatClampNeg 0) (x1 + 4).toNatClampNeg 0))), (qi, .inl (cI, 60, .inl inp)), (qp, .inl (cI, 2000, .inl pk)), (qo, .inl (cI, 60, .inl out)), (qg, .inl (cI, 6, .inl gr))] := hD
  have e_0 := Option.some.inj hf
  subst e_0
  exact k_wretv hx hb hret hloc hP hD hS dX9_renews_32
theorem dX9_both_0 : decode cX9_both 0 = .ok (.aload_n 0, 1) := by decide +kernel
theorem dX9_both_1 : decode cX9_both 1 = .ok (.getfield 7, 3) := by decide +kernel
theorem dX9_both_4 : decode cX9_both 4 = .ok (.iload_n 1, 1) := by decide +kernel
theorem dX9_both_5 : decode cX9_both 5 = .ok (.bipush 10, 2) := by decide +kernel
theorem dX9_both_7 : decode cX9_both 7 = .ok (.iadd, 1) := by decide +kernel
theorem dX9_both_8 : decode cX9_both 8 = .ok (.iconst 2, 1) := by decide +kernel
theorem dX9_both_9 : decode cX9_both 9 = .ok (.iload_n 2, 1) := by decide +kernel
theorem dX9_both_10 : decode cX9_both 10 = .ok (.imul, 1) := by decide +kernel
theorem dX9_both_11 : decode cX9_both 11 = .ok (.iadd, 1) := by decide +kernel
theorem dX9_both_12 : decode cX9_both 12 = .ok (.iaload, 1) := by decide +kernel
theorem dX9_both_13 : decode cX9_both 13 = .ok (.aload_n 0, 1) := by decide +kernel
theorem dX9_both_14 : decode cX9_both 14 = .ok (.getfield 7, 3) := by decide +kernel
theorem dX9_both_17 : decode cX9_both 17 = .ok (.iload_n 1, 1) := by decide +kernel
theorem dX9_both_18 : decode cX9_both 18 = .ok (.bipush 10, 2) := by decide +kernel
theorem dX9_both_20 : decode cX9_both 20 = .ok (.iadd, 1) := by decide +kernel
theorem dX9_both_21 : decode cX9_both 21 = .ok (.iconst 2, 1) := by decide +kernel
theorem dX9_both_22 : decode cX9_both 22 = .ok (.iload_n 2, 1) := by decide +kernel
theorem dX9_both_23 : decode cX9_both 23 = .ok (.imul, 1) := by decide +kernel
theorem dX9_both_24 : decode cX9_both 24 = .ok (.iadd, 1) := by decide +kernel
theorem dX9_both_25 : decode cX9_both 25 = .ok (.iconst 1, 1) := by decide +kernel
theorem dX9_both_26 : decode cX9_both 26 = .ok (.iadd, 1) := by decide +kernel
theorem dX9_both_27 : decode cX9_both 27 = .ok (.iaload, 1) := by decide +kernel
theorem dX9_both_28 : decode cX9_both 28 = .ok (.iadd, 1) := by decide +kernel
theorem dX9_both_29 : decode cX9_both 29 = .ok (.ireturn, 1) := by decide +kernel
def f_X9_both (mm : (Nat → Int32)) (x1 : Int32) (x2 : Int32) : Option (Int32) := if ((x1 + 10) + (2 * x2)) < 0 ∨ 5040 ≤ ((x1 + 10) + (2 * x2)).toNatClampNeg then none else (if (((x1 + 10) + (2 * x2)) + 1) < 0 ∨ 5040 ≤ (((x1 + 10) + (2 * x2)) + 1).toNatClampNeg then none else (some ((mm ((x1 + 10) + (2 * x2)).toNatClampNeg) + (mm (((x1 + 10) + (2 * x2)) + 1).toNatClampNeg))))
set_option maxHeartbeats 4000000 in
set_option maxRecDepth 100000 in
theorem c_X9_both (l : Launch) (D : va_G) (cI : ClassId) (q : Nat) (qm : Nat) (qi : Nat) (qp : Nat) (qo : Nat) (qg : Nat) (kept : Int32) (im : Int32) (pm : Int32) (om : Int32) (lo : Int64) (hi_ : Int64) (cde : Int64) (fr : Int32) (sp : Int32) (mm : (Nat → Int32)) (inp : (Nat → Int32)) (pk : (Nat → Int32)) (out : (Nat → Int32)) (gr : (Nat → Int32)) (x1 : Int32) (x2 : Int32) (r : Int32) (hf : f_X9_both mm x1 x2 = some r) : Met l yX9_both (.code yX9_both cX9_both 3 (some .int) :: wsG) ({ frames := 0, cells := 0, slots := 0, locals := 0 }) (va_Pc [.ref q, .int x1, .int x2] (gw D cI [(q, .inr (9, [.ref qm, .int kept, .ref qi, .int im, .ref qp, .int pm, .ref qo, .int om, .ref qg, .long lo, .long hi_, .long cde, .int fr, .int sp])), (qm, .inl (cI, 5040, .inl mm)), (qi, .inl (cI, 60, .inl inp)), (qp, .inl (cI, 2000, .inl pk)), (qo, .inl (cI, 60, .inl out)), (qg, .inl (cI, 6, .inl gr))])) (vp_Si (fun x => x = r)) 0 0 (fun _ => False) := by
  refine k_ro (by decide) rfl (Nat.le_of_ble_eq_true rfl) rfl ?_
  intro p e s m below meth c ls S hret hloc hK hN hSF hP hl
  obtain ⟨hx, hb, hml, hown, hts⟩ := id S
  unfold f_X9_both at hf
  refine lv_aload_n hx hb dX9_both_0 rfl (lv_at hl 0 rfl) ?_
  refine va_get (D := D) (ci := 9) (v := .ref qm) (C := RX9) (T := TX9) (N := 14) hx hb hts inGX9 hown hK hP 0 rfl rfl 0 (by decide) (hts _ fl_X9_7) (fun _ h9 => h9) rfl dX9_both_1 ?_
  refine lv_iload_n hx hb dX9_both_4 rfl (lv_at hl 1 rfl) ?_
  refine lv_bipush (v := 10) hx hb dX9_both_5 (by decide) ?_
  refine lv_iadd hx hb dX9_both_7 ?_
  refine lv_iconst (v := 2) hx hb dX9_both_8 (by decide) ?_
  refine lv_iload_n hx hb dX9_both_9 rfl (lv_at hl 2 rfl) ?_
  refine lv_imul hx hb dX9_both_10 ?_
  refine lv_iadd hx hb dX9_both_11 ?_
  have b_1 : ¬ (((x1 + 10) + (2 * x2)) < 0 ∨ 5040 ≤ ((x1 + 10) + (2 * x2)).toNatClampNeg) := fun q => by rw [if_pos q] at hf; cases hf
  rw [if_neg b_1] at hf
  refine va_iald hx hb hK hP 1 0 rfl rfl b_1 dX9_both_12 ?_
  refine lv_aload_n hx hb dX9_both_13 rfl (lv_at hl 0 rfl) ?_
  refine va_get (D := D) (ci := 9) (v := .ref qm) (C := RX9) (T := TX9) (N := 14) hx hb hts inGX9 hown hK hP 0 rfl rfl 0 (by decide) (hts _ fl_X9_7) (fun _ h9 => h9) rfl dX9_both_14 ?_
  refine lv_iload_n hx hb dX9_both_17 rfl (lv_at hl 1 rfl) ?_
  refine lv_bipush (v := 10) hx hb dX9_both_18 (by decide) ?_
  refine lv_iadd hx hb dX9_both_20 ?_
  refine lv_iconst (v := 2) hx hb dX9_both_21 (by decide) ?_
  refine lv_iload_n hx hb dX9_both_22 rfl (lv_at hl 2 rfl) ?_
  refine lv_imul hx hb dX9_both_23 ?_
  refine lv_iadd hx hb dX9_both_24 ?_
  refine lv_iconst (v := 1) hx hb dX9_both_25 (by decide) ?_
  refine lv_iadd hx hb dX9_both_26 ?_
  have b_2 : ¬ ((((x1 + 10) + (2 * x2)) + 1) < 0 ∨ 5040 ≤ (((x1 + 10) + (2 * x2)) + 1).toNatClampNeg) := fun q => by rw [if_pos q] at hf; cases hf
  rw [if_neg b_2] at hf
  refine va_iald hx hb hK hP 1 0 rfl rfl b_2 dX9_both_27 ?_
  refine lv_iadd hx hb dX9_both_28 ?_
  exact k_reti hx hb hret hloc (Option.some.inj hf) dX9_both_29
