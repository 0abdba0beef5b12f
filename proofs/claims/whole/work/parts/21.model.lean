theorem dX9_clones_0 : decode cX9_clones 0 = .ok (.aload_n 0, 1) := by decide +kernel
theorem dX9_clones_1 : decode cX9_clones 1 = .ok (.getfield 7, 3) := by decide +kernel
theorem dX9_clones_4 : decode cX9_clones 4 = .ok (.iload_n 1, 1) := by decide +kernel
theorem dX9_clones_5 : decode cX9_clones 5 = .ok (.iconst 0, 1) := by decide +kernel
theorem dX9_clones_6 : decode cX9_clones 6 = .ok (.iadd, 1) := by decide +kernel
theorem dX9_clones_7 : decode cX9_clones 7 = .ok (.iaload, 1) := by decide +kernel
theorem dX9_clones_8 : decode cX9_clones 8 = .ok (.istore 7, 2) := by decide +kernel
theorem dX9_clones_10 : decode cX9_clones 10 = .ok (.aload_n 0, 1) := by decide +kernel
theorem dX9_clones_11 : decode cX9_clones 11 = .ok (.getfield 7, 3) := by decide +kernel
theorem dX9_clones_14 : decode cX9_clones 14 = .ok (.iload_n 1, 1) := by decide +kernel
theorem dX9_clones_15 : decode cX9_clones 15 = .ok (.iconst 0, 1) := by decide +kernel
theorem dX9_clones_16 : decode cX9_clones 16 = .ok (.iadd, 1) := by decide +kernel
theorem dX9_clones_17 : decode cX9_clones 17 = .ok (.dup2, 1) := by decide +kernel
theorem dX9_clones_18 : decode cX9_clones 18 = .ok (.iaload, 1) := by decide +kernel
theorem dX9_clones_19 : decode cX9_clones 19 = .ok (.iconst 1, 1) := by decide +kernel
theorem dX9_clones_20 : decode cX9_clones 20 = .ok (.iadd, 1) := by decide +kernel
theorem dX9_clones_21 : decode cX9_clones 21 = .ok (.iastore, 1) := by decide +kernel
theorem dX9_clones_22 : decode cX9_clones 22 = .ok (.aload_n 0, 1) := by decide +kernel
theorem dX9_clones_23 : decode cX9_clones 23 = .ok (.getfield 7, 3) := by decide +kernel
theorem dX9_clones_26 : decode cX9_clones 26 = .ok (.iload_n 1, 1) := by decide +kernel
theorem dX9_clones_27 : decode cX9_clones 27 = .ok (.sipush 1010, 3) := by decide +kernel
theorem dX9_clones_30 : decode cX9_clones 30 = .ok (.iadd, 1) := by decide +kernel
theorem dX9_clones_31 : decode cX9_clones 31 = .ok (.iload 7, 2) := by decide +kernel
theorem dX9_clones_33 : decode cX9_clones 33 = .ok (.iadd, 1) := by decide +kernel
theorem dX9_clones_34 : decode cX9_clones 34 = .ok (.iload 4, 2) := by decide +kernel
theorem dX9_clones_36 : decode cX9_clones 36 = .ok (.iastore, 1) := by decide +kernel
theorem dX9_clones_37 : decode cX9_clones 37 = .ok (.iconst 0, 1) := by decide +kernel
theorem dX9_clones_38 : decode cX9_clones 38 = .ok (.istore 8, 2) := by decide +kernel
theorem dX9_clones_40 : decode cX9_clones 40 = .ok (.iload 8, 2) := by decide +kernel
theorem dX9_clones_42 : decode cX9_clones 42 = .ok (.iconst 2, 1) := by decide +kernel
theorem dX9_clones_43 : decode cX9_clones 43 = .ok (.if_icmp .ge 115, 3) := by decide +kernel
theorem dX9_clones_46 : decode cX9_clones 46 = .ok (.aload_n 0, 1) := by decide +kernel
theorem dX9_clones_47 : decode cX9_clones 47 = .ok (.getfield 7, 3) := by decide +kernel
theorem dX9_clones_50 : decode cX9_clones 50 = .ok (.iload_n 1, 1) := by decide +kernel
theorem dX9_clones_51 : decode cX9_clones 51 = .ok (.bipush 10, 2) := by decide +kernel
theorem dX9_clones_53 : decode cX9_clones 53 = .ok (.iadd, 1) := by decide +kernel
theorem dX9_clones_54 : decode cX9_clones 54 = .ok (.iconst 2, 1) := by decide +kernel
theorem dX9_clones_55 : decode cX9_clones 55 = .ok (.iload 4, 2) := by decide +kernel
theorem dX9_clones_57 : decode cX9_clones 57 = .ok (.imul, 1) := by decide +kernel
theorem dX9_clones_58 : decode cX9_clones 58 = .ok (.iadd, 1) := by decide +kernel
theorem dX9_clones_59 : decode cX9_clones 59 = .ok (.iload 8, 2) := by decide +kernel
theorem dX9_clones_61 : decode cX9_clones 61 = .ok (.iadd, 1) := by decide +kernel
theorem dX9_clones_62 : decode cX9_clones 62 = .ok (.iaload, 1) := by decide +kernel
theorem dX9_clones_63 : decode cX9_clones 63 = .ok (.i2l, 1) := by decide +kernel
theorem dX9_clones_64 : decode cX9_clones 64 = .ok (.iload 5, 2) := by decide +kernel
theorem dX9_clones_66 : decode cX9_clones 66 = .ok (.i2l, 1) := by decide +kernel
theorem dX9_clones_67 : decode cX9_clones 67 = .ok (.lmul, 1) := by decide +kernel
theorem dX9_clones_68 : decode cX9_clones 68 = .ok (.iload 6, 2) := by decide +kernel
theorem dX9_clones_70 : decode cX9_clones 70 = .ok (.i2l, 1) := by decide +kernel
theorem dX9_clones_71 : decode cX9_clones 71 = .ok (.ldiv, 1) := by decide +kernel
theorem dX9_clones_72 : decode cX9_clones 72 = .ok (.l2i, 1) := by decide +kernel
theorem dX9_clones_73 : decode cX9_clones 73 = .ok (.istore 9, 2) := by decide +kernel
theorem dX9_clones_75 : decode cX9_clones 75 = .ok (.aload_n 0, 1) := by decide +kernel
theorem dX9_clones_76 : decode cX9_clones 76 = .ok (.getfield 7, 3) := by decide +kernel
theorem dX9_clones_79 : decode cX9_clones 79 = .ok (.iload_n 1, 1) := by decide +kernel
theorem dX9_clones_80 : decode cX9_clones 80 = .ok (.sipush 510, 3) := by decide +kernel
theorem dX9_clones_83 : decode cX9_clones 83 = .ok (.iadd, 1) := by decide +kernel
theorem dX9_clones_84 : decode cX9_clones 84 = .ok (.iconst 2, 1) := by decide +kernel
theorem dX9_clones_85 : decode cX9_clones 85 = .ok (.iload 7, 2) := by decide +kernel
theorem dX9_clones_87 : decode cX9_clones 87 = .ok (.imul, 1) := by decide +kernel
theorem dX9_clones_88 : decode cX9_clones 88 = .ok (.iadd, 1) := by decide +kernel
theorem dX9_clones_89 : decode cX9_clones 89 = .ok (.iload 8, 2) := by decide +kernel
theorem dX9_clones_91 : decode cX9_clones 91 = .ok (.iadd, 1) := by decide +kernel
theorem dX9_clones_92 : decode cX9_clones 92 = .ok (.aload_n 0, 1) := by decide +kernel
theorem dX9_clones_93 : decode cX9_clones 93 = .ok (.getfield 7, 3) := by decide +kernel
theorem dX9_clones_96 : decode cX9_clones 96 = .ok (.iload_n 1, 1) := by decide +kernel
theorem dX9_clones_97 : decode cX9_clones 97 = .ok (.sipush 510, 3) := by decide +kernel
theorem dX9_clones_100 : decode cX9_clones 100 = .ok (.iadd, 1) := by decide +kernel
theorem dX9_clones_101 : decode cX9_clones 101 = .ok (.iconst 2, 1) := by decide +kernel
theorem dX9_clones_102 : decode cX9_clones 102 = .ok (.iload 4, 2) := by decide +kernel
theorem dX9_clones_104 : decode cX9_clones 104 = .ok (.imul, 1) := by decide +kernel
theorem dX9_clones_105 : decode cX9_clones 105 = .ok (.iadd, 1) := by decide +kernel
theorem dX9_clones_106 : decode cX9_clones 106 = .ok (.iload 8, 2) := by decide +kernel
theorem dX9_clones_108 : decode cX9_clones 108 = .ok (.iadd, 1) := by decide +kernel
theorem dX9_clones_109 : decode cX9_clones 109 = .ok (.iaload, 1) := by decide +kernel
theorem dX9_clones_110 : decode cX9_clones 110 = .ok (.iastore, 1) := by decide +kernel
theorem dX9_clones_111 : decode cX9_clones 111 = .ok (.aload_n 0, 1) := by decide +kernel
theorem dX9_clones_112 : decode cX9_clones 112 = .ok (.getfield 7, 3) := by decide +kernel
theorem dX9_clones_115 : decode cX9_clones 115 = .ok (.iload_n 1, 1) := by decide +kernel
theorem dX9_clones_116 : decode cX9_clones 116 = .ok (.bipush 10, 2) := by decide +kernel
theorem dX9_clones_118 : decode cX9_clones 118 = .ok (.iadd, 1) := by decide +kernel
theorem dX9_clones_119 : decode cX9_clones 119 = .ok (.iconst 2, 1) := by decide +kernel
theorem dX9_clones_120 : decode cX9_clones 120 = .ok (.iload 7, 2) := by decide +kernel
theorem dX9_clones_122 : decode cX9_clones 122 = .ok (.imul, 1) := by decide +kernel
theorem dX9_clones_123 : decode cX9_clones 123 = .ok (.iadd, 1) := by decide +kernel
theorem dX9_clones_124 : decode cX9_clones 124 = .ok (.iload 8, 2) := by decide +kernel
theorem dX9_clones_126 : decode cX9_clones 126 = .ok (.iadd, 1) := by decide +kernel
theorem dX9_clones_127 : decode cX9_clones 127 = .ok (.iload 9, 2) := by decide +kernel
theorem dX9_clones_129 : decode cX9_clones 129 = .ok (.iastore, 1) := by decide +kernel
theorem dX9_clones_130 : decode cX9_clones 130 = .ok (.aload_n 0, 1) := by decide +kernel
theorem dX9_clones_131 : decode cX9_clones 131 = .ok (.getfield 7, 3) := by decide +kernel
theorem dX9_clones_134 : decode cX9_clones 134 = .ok (.iload_n 1, 1) := by decide +kernel
theorem dX9_clones_135 : decode cX9_clones 135 = .ok (.bipush 10, 2) := by decide +kernel
theorem dX9_clones_137 : decode cX9_clones 137 = .ok (.iadd, 1) := by decide +kernel
theorem dX9_clones_138 : decode cX9_clones 138 = .ok (.iconst 2, 1) := by decide +kernel
theorem dX9_clones_139 : decode cX9_clones 139 = .ok (.iload 4, 2) := by decide +kernel
theorem dX9_clones_141 : decode cX9_clones 141 = .ok (.imul, 1) := by decide +kernel
theorem dX9_clones_142 : decode cX9_clones 142 = .ok (.iadd, 1) := by decide +kernel
theorem dX9_clones_143 : decode cX9_clones 143 = .ok (.iload 8, 2) := by decide +kernel
theorem dX9_clones_145 : decode cX9_clones 145 = .ok (.iadd, 1) := by decide +kernel
theorem dX9_clones_146 : decode cX9_clones 146 = .ok (.dup2, 1) := by decide +kernel
theorem dX9_clones_147 : decode cX9_clones 147 = .ok (.iaload, 1) := by decide +kernel
theorem dX9_clones_148 : decode cX9_clones 148 = .ok (.iload 9, 2) := by decide +kernel
theorem dX9_clones_150 : decode cX9_clones 150 = .ok (.isub, 1) := by decide +kernel
theorem dX9_clones_151 : decode cX9_clones 151 = .ok (.iastore, 1) := by decide +kernel
theorem dX9_clones_152 : decode cX9_clones 152 = .ok (.iinc 8 1, 3) := by decide +kernel
theorem dX9_clones_155 : decode cX9_clones 155 = .ok (.goto (-115), 3) := by decide +kernel
theorem dX9_clones_158 : decode cX9_clones 158 = .ok (.aload_n 0, 1) := by decide +kernel
theorem dX9_clones_159 : decode cX9_clones 159 = .ok (.getfield 7, 3) := by decide +kernel
theorem dX9_clones_162 : decode cX9_clones 162 = .ok (.iload_n 1, 1) := by decide +kernel
theorem dX9_clones_163 : decode cX9_clones 163 = .ok (.sipush 510, 3) := by decide +kernel
theorem dX9_clones_166 : decode cX9_clones 166 = .ok (.iadd, 1) := by decide +kernel
theorem dX9_clones_167 : decode cX9_clones 167 = .ok (.iconst 2, 1) := by decide +kernel
theorem dX9_clones_168 : decode cX9_clones 168 = .ok (.iload_n 2, 1) := by decide +kernel
theorem dX9_clones_169 : decode cX9_clones 169 = .ok (.imul, 1) := by decide +kernel
theorem dX9_clones_170 : decode cX9_clones 170 = .ok (.iadd, 1) := by decide +kernel
theorem dX9_clones_171 : decode cX9_clones 171 = .ok (.iload_n 3, 1) := by decide +kernel
theorem dX9_clones_172 : decode cX9_clones 172 = .ok (.iadd, 1) := by decide +kernel
theorem dX9_clones_173 : decode cX9_clones 173 = .ok (.iload 7, 2) := by decide +kernel
theorem dX9_clones_175 : decode cX9_clones 175 = .ok (.iastore, 1) := by decide +kernel
theorem dX9_clones_176 : decode cX9_clones 176 = .ok (.aload_n 0, 1) := by decide +kernel
theorem dX9_clones_177 : decode cX9_clones 177 = .ok (.getfield 7, 3) := by decide +kernel
theorem dX9_clones_180 : decode cX9_clones 180 = .ok (.iload_n 1, 1) := by decide +kernel
theorem dX9_clones_181 : decode cX9_clones 181 = .ok (.iconst 3, 1) := by decide +kernel
theorem dX9_clones_182 : decode cX9_clones 182 = .ok (.iadd, 1) := by decide +kernel
theorem dX9_clones_183 : decode cX9_clones 183 = .ok (.dup2, 1) := by decide +kernel
theorem dX9_clones_184 : decode cX9_clones 184 = .ok (.iaload, 1) := by decide +kernel
theorem dX9_clones_185 : decode cX9_clones 185 = .ok (.iconst 1, 1) := by decide +kernel
theorem dX9_clones_186 : decode cX9_clones 186 = .ok (.iadd, 1) := by decide +kernel
theorem dX9_clones_187 : decode cX9_clones 187 = .ok (.iastore, 1) := by decide +kernel
theorem dX9_clones_188 : decode cX9_clones 188 = .ok (.return_, 1) := by decide +kernel
def st_X9_clones_L40 (v1 : Int32) (v4 : Int32) (v5 : Int32) (v6 : Int32) (v7 : Int32) (v8 : Int32) (mm : (Nat → Int32)) : Option ((Int32 × (Nat → Int32)) ⊕ (Int32 × (Nat → Int32))) := if 2 ≤ v8 then (some (Sum.inr (v8, mm))) else (if (((v1 + 10) + (2 * v4)) + v8) < 0 ∨ 5040 ≤ (((v1 + 10) + (2 * v4)) + v8).toNatClampNeg then none else (if ((v6).toInt64) = 0 then none else (if (((v1 + 510) + (2 * v4)) + v8) < 0 ∨ 5040 ≤ (((v1 + 510) + (2 * v4)) + v8).toNatClampNeg then none else (if (((v1 + 510) + (2 * v7)) + v8) < 0 ∨ 5040 ≤ (((v1 + 510) + (2 * v7)) + v8).toNatClampNeg then none else (if (((v1 + 10) + (2 * v7)) + v8) < 0 ∨ 5040 ≤ (((v1 + 10) + (2 * v7)) + v8).toNatClampNeg then none else (if (((v1 + 10) + (2 * v4)) + v8) < 0 ∨ 5040 ≤ (((v1 + 10) + (2 * v4)) + v8).toNatClampNeg then none else (if (((v1 + 10) + (2 * v4)) + v8) < 0 ∨ 5040 ≤ (((v1 + 10) + (2 * v4)) + v8).toNatClampNeg then none else (some (Sum.inl (v8 + 1, upd (upd (upd mm (((v1 + 510) + (2 * v7)) + v8).toNatClampNeg (mm (((v1 + 510) + (2 * v4)) + v8).toNatClampNeg)) (((v1 + 10) + (2 * v7)) + v8).toNatClampNeg (((((mm (((v1 + 10) + (2 * v4)) + v8).toNatClampNeg).toInt64) * ((v5).toInt64)) / ((v6).toInt64)).toInt32)) (((v1 + 10) + (2 * v4)) + v8).toNatClampNeg (((upd (upd mm (((v1 + 510) + (2 * v7)) + v8).toNatClampNeg (mm (((v1 + 510) + (2 * v4)) + v8).toNatClampNeg)) (((v1 + 10) + (2 * v7)) + v8).toNatClampNeg (((((mm (((v1 + 10) + (2 * v4)) + v8).toNatClampNeg).toInt64) * ((v5).toInt64)) / ((v6).toInt64)).toInt32)) (((v1 + 10) + (2 * v4)) + v8).toNatClampNeg) - (((((mm (((v1 + 10) + (2 * v4)) + v8).toNatClampNeg).toInt64) * ((v5).toInt64)) / ((v6).toInt64)).toInt32))))))))))))
def f_X9_clones_L40 (v1 : Int32) (v4 : Int32) (v5 : Int32) (v6 : Int32) (v7 : Int32) (k : Nat) (v8 : Int32) (mm : (Nat → Int32)) : Option (Int32 × (Nat → Int32)) := lpN (fun z => st_X9_clones_L40 v1 v4 v5 v6 v7 z.1 z.2) k (v8, mm)
set_option maxHeartbeats 4000000 in
set_option maxRecDepth 100000 in
theorem L_X9_clones_40 {p : Program} {l : Launch} {e : Env} {s : State} {m : MethodId} {args : Array Value} {below : List Frame} {meth : Method} {c : Code} {Q : State → Prop} {D : va_G} {cI : ClassId} {q : Nat} {qm : Nat} {qi : Nat} {qp : Nat} {qo : Nat} {qg : Nat} {v1 : Int32} {v2 : Int32} {v3 : Int32} {v4 : Int32} {v5 : Int32} {v6 : Int32} {v7 : Int32} {kept : Int32} {im : Int32} {pm : Int32} {om : Int32} {lo : Int64} {hi_ : Int64} {cde : Int64} {fr : Int32} {sp : Int32} {inp : (Nat → Int32)} {pk : (Nat → Int32)} {out : (Nat → Int32)} {gr : (Nat → Int32)} {A : Nat → Prop} (S : CallFix p m c cX9_clones 10 s args wsG RX9) (hK : va_K D vwCl [(cI, .int)] s) (hN : nw s) (hSF : sf A s s.heap) (hA : ∀ q, s.heap.size ≤ q → A q) : ∀ (k : Nat) (v8 : Int32) (mm : (Nat → Int32)) (o_v8 : Int32) (o_mm : (Nat → Int32)), f_X9_clones_L40 v1 v4 v5 v6 v7 k v8 mm = some (o_v8, o_mm) → ∀ (H : Heap) (locs : List Loc) (ls : Array Slot), va_P D vwCl [(q, .inr (9, [.ref qm, .int kept, .ref qi, .int im, .ref qp, .int pm, .ref qo, .int om, .ref qg, .long lo, .long hi_, .long cde, .int fr, .int sp])), (qm, .inl (cI, 5040, .inl mm)), (qi, .inl (cI, 60, .inl inp)), (qp, .inl (cI, 2000, .inl pk)), (qo, .inl (cI, 60, .inl out)), (qg, .inl (cI, 6, .inl gr))] H → va_D A [(q, .inr (9, [.ref qm, .int kept, .ref qi, .int im, .ref qp, .int pm, .ref qo, .int om, .ref qg, .long lo, .long hi_, .long cde, .int fr, .int sp])), (qm, .inl (cI, 5040, .inl mm)), (qi, .inl (cI, 60, .inl inp)), (qp, .inl (cI, 2000, .inl pk)), (qo, .inl (cI, 60, .inl out)), (qg, .inl (cI, 6, .inl gr))] → va_S A s.heap H locs → lv_has ls 10 [(0, .ref q), (1, .int v1), (2, .int v2), (3, .int v3), (4, .int v4), (5, .int v5), (6, .int v6), (7, .int v7), (8, .int v8)] → (∀ (H : Heap) (locs : List Loc) (ls : Array Slot), va_P D vwCl [(q, .inr (9, [.ref qm, .int kept, .ref qi, .int im, .ref qp, .int pm, .ref qo, .int om, .ref qg, .long lo, .long hi_, .long cde, .int fr, .int sp])), (qm, .inl (cI, 5040, .inl o_mm)), (qi, .inl (cI, 60, .inl inp)), (qp, .inl (cI, 2000, .inl pk)), (qo, .inl (cI, 60, .inl out)), (qg, .inl (cI, 6, .inl gr))] H → va_D A [(q, .inr (9, [.ref qm, .int kept, .ref qi, .int im, .ref qp, .int pm, .ref qo, .int om, .ref qg, .long lo, .long hi_, .long cde, .int fr, .int sp])), (qm, .inl (cI, 5040, .inl o_mm)), (qi, .inl (cI, 60, .inl inp)), (qp, .inl (cI, 2000, .inl pk)), (qo, .inl (cI, 60, .inl out)), (qg, .inl (cI, 6, .inl gr))] → va_S A s.heap H locs → lv_has ls 10 [(0, .ref q), (1, .int v1), (2, .int v2), (3, .int v3), (4, .int v4), (5, .int v5), (6, .int v6), (7, .int v7), (8, .int o_v8)] → W p l e (headSpec (.code yX9_clones cX9_clones 10 none :: wsG) { frames := 0, cells := 0, slots := 0, locals := 0 }).room s m args below meth c H locs 0 0 Q (F0 m 158 ls [])) → W p l e (headSpec (.code yX9_clones cX9_clones 10 none :: wsG) { frames := 0, cells := 0, slots := 0, locals := 0 }).room s m args below meth c H locs 0 0 Q (F0 m 40 ls []) := by
  obtain ⟨hx, hb, hml, hown, hts⟩ := id S
  intro k
  induction k with
  | zero =>
    intro v8 mm o_v8 o_mm hf
    cases hf
  | succ k ih =>
    intro v8 mm o_v8 o_mm hf H locs ls hP hD hS hl kk
    obtain ⟨z, hf, hz⟩ := lp_inv hf
    have hf : st_X9_clones_L40 v1 v4 v5 v6 v7 v8 mm = some z := hf
    unfold st_X9_clones_L40 at hf
    refine lv_iload hx hb dX9_clones_40 (lv_at hl 8 rfl) ?_
    refine lv_iconst (v := 2) hx hb dX9_clones_42 (by decide) ?_
    refine lv_icmp_ge (tgt := 158) hx hb dX9_clones_43 (by decide) (fun c_5 => ?_) (fun c_5 => ?_)
    · rw [if_pos c_5] at hf
      have hf := Option.some.inj hf
      subst hf
      obtain ⟨e_0, e_1⟩ := Prod.mk.inj (lpC_r hz)
      subst e_0
      subst e_1
      exact kk H locs ls hP hD hS (lv_sub hl [0, 1, 2, 3, 4, 5, 6, 7, 8] rfl)
    · rw [if_neg c_5] at hf
      refine lv_aload_n hx hb dX9_clones_46 rfl (lv_at hl 0 rfl) ?_
      refine va_get (D := D) (ci := 9) (v := .ref qm) (C := RX9) (T := TX9) (N := 14) hx hb hts inGX9 hown hK hP 0 rfl rfl 0 (by decide) (hts _ fl_X9_7) (fun _ h9 => h9) rfl dX9_clones_47 ?_
      refine lv_iload_n hx hb dX9_clones_50 rfl (lv_at hl 1 rfl) ?_
      refine lv_bipush (v := 10) hx hb dX9_clones_51 (by decide) ?_
      refine lv_iadd hx hb dX9_clones_53 ?_
      refine lv_iconst (v := 2) hx hb dX9_clones_54 (by decide) ?_
      refine lv_iload hx hb dX9_clones_55 (lv_at hl 4 rfl) ?_
      refine lv_imul hx hb dX9_clones_57 ?_
      refine lv_iadd hx hb dX9_clones_58 ?_
      refine lv_iload hx hb dX9_clones_59 (lv_at hl 8 rfl) ?_
      refine lv_iadd hx hb dX9_clones_61 ?_
      have b_6 : ¬ ((((v1 + 10) + (2 * v4)) + v8) < 0 ∨ 5040 ≤ (((v1 + 10) + (2 * v4)) + v8).toNatClampNeg) := fun q => by rw [if_pos q] at hf; cases hf
      rw [if_neg b_6] at hf
      refine va_iald hx hb hK hP 1 0 rfl rfl b_6 dX9_clones_62 ?_
      refine lv_i2l hx hb dX9_clones_63 rfl ?_
      refine lv_iload hx hb dX9_clones_64 (lv_at hl 5 rfl) ?_
      refine lv_i2l hx hb dX9_clones_66 rfl ?_
      refine lv_lmul hx hb dX9_clones_67 ?_
      refine lv_iload hx hb dX9_clones_68 (lv_at hl 6 rfl) ?_
      refine lv_i2l hx hb dX9_clones_70 rfl ?_
      have z_7 : ¬ (((v6).toInt64) = 0) := fun q => by rw [if_pos q] at hf; cases hf
      rw [if_neg z_7] at hf
      refine lv_ldiv hx hb dX9_clones_71 z_7 ?_
      refine lv_l2i hx hb dX9_clones_72 rfl ?_
      refine lv_istore (lv' := [(9, .int (((((mm (((v1 + 10) + (2 * v4)) + v8).toNatClampNeg).toInt64) * ((v5).toInt64)) / ((v6).toInt64)).toInt32)), (0, .ref q), (1, .int v1), (2, .int v2), (3, .int v3), (4, .int v4), (5, .int v5), (6, .int v6), (7, .int v7), (8, .int v8)]) hx hb dX9_clones_73 hl (by decide) rfl (fun ls hl => ?_)
      refine lv_aload_n hx hb dX9_clones_75 rfl (lv_at hl 1 rfl) ?_
      refine va_get (D := D) (ci := 9) (v := .ref qm) (C := RX9) (T := TX9) (N := 14) hx hb hts inGX9 hown hK hP 0 rfl rfl 0 (by decide) (hts _ fl_X9_7) (fun _ h9 => h9) rfl dX9_clones_76 ?_
      refine lv_iload_n hx hb dX9_clones_79 rfl (lv_at hl 2 rfl) ?_
      refine lv_sipush (v := 510) hx hb dX9_clones_80 (by decide) ?_
      refine lv_iadd hx hb dX9_clones_83 ?_
      refine lv_iconst (v := 2) hx hb dX9_clones_84 (by decide) ?_
      refine lv_iload hx hb dX9_clones_85 (lv_at hl 8 rfl) ?_
      refine lv_imul hx hb dX9_clones_87 ?_
      refine lv_iadd hx hb dX9_clones_88 ?_
      refine lv_iload hx hb dX9_clones_89 (lv_at hl 9 rfl) ?_
      refine lv_iadd hx hb dX9_clones_91 ?_
      refine lv_aload_n hx hb dX9_clones_92 rfl (lv_at hl 1 rfl) ?_
      refine va_get (D := D) (ci := 9) (v := .ref qm) (C := RX9) (T := TX9) (N := 14) hx hb hts inGX9 hown hK hP 0 rfl rfl 0 (by decide) (hts _ fl_X9_7) (fun _ h9 => h9) rfl dX9_clones_93 ?_
      refine lv_iload_n hx hb dX9_clones_96 rfl (lv_at hl 2 rfl) ?_
      refine lv_sipush (v := 510) hx hb dX9_clones_97 (by decide) ?_
      refine lv_iadd hx hb dX9_clones_100 ?_
      refine lv_iconst (v := 2) hx hb dX9_clones_101 (by decide) ?_
      refine lv_iload hx hb dX9_clones_102 (lv_at hl 5 rfl) ?_
      refine lv_imul hx hb dX9_clones_104 ?_
      refine lv_iadd hx hb dX9_clones_105 ?_
      refine lv_iload hx hb dX9_clones_106 (lv_at hl 9 rfl) ?_
      refine lv_iadd hx hb dX9_clones_108 ?_
      have b_8 : ¬ ((((v1 + 510) + (2 * v4)) + v8) < 0 ∨ 5040 ≤ (((v1 + 510) + (2 * v4)) + v8).toNatClampNeg) := fun q => by rw [if_pos q] at hf; cases hf
      rw [if_neg b_8] at hf
      refine va_iald hx hb hK hP 1 0 rfl rfl b_8 dX9_clones_109 ?_
      have b_9 : ¬ ((((v1 + 510) + (2 * v7)) + v8) < 0 ∨ 5040 ≤ (((v1 + 510) + (2 * v7)) + v8).toNatClampNeg) := fun q => by rw [if_pos q] at hf; cases hf
      rw [if_neg b_9] at hf
      refine va_iast hx hb hK hP hD hS 1 0 rfl rfl b_9 dX9_clones_110 (fun H locs hP hD hS => ?_)
      have hP : va_P D vwCl [(q, .inr (9, [.ref qm, .int kept, .ref qi, .int im, .ref qp, .int pm, .ref qo, .int om, .ref qg, .long lo, .long hi_, .long cde, .int fr, .int sp])), (qm, .inl (cI, 5040, .inl (upd mm (((v1 + 510) + (2 * v7)) + v8).toNatClampNeg (mm (((v1 + 510) + (2 * v4)) + v8).toNatClampNeg)))), (qi, .inl (cI, 60, .inl inp)), (qp, .inl (cI, 2000, .inl pk)), (qo, .inl (cI, 60, .inl out)), (qg, .inl (cI, 6, .inl gr))] H := hP
      have hD : va_D A [(q, .inr (9, [.ref qm, .int kept, .ref qi, .int im, .ref qp, .int pm, .ref qo, .int om, .ref qg, .long lo, .long hi_, .long cde, .int fr, .int sp])), (qm, .inl (cI, 5040, .inl (upd mm (((v1 + 510) + (2 * v7)) + v8).toNatClampNeg (mm (((v1 + 510) + (2 * v4)) + v8).toNatClampNeg)))), (qi, .inl (cI, 60, .inl inp)), (qp, .inl (cI, 2000, .inl pk)), (qo, .inl (cI, 60, .inl out)), (qg, .inl (cI, 6, .inl gr))] := hD
      refine lv_aload_n hx hb dX9_clones_111 rfl (lv_at hl 1 rfl) ?_
      refine va_get (D := D) (ci := 9) (v := .ref qm) (C := RX9) (T := TX9) (N := 14) hx hb hts inGX9 hown hK hP 0 rfl rfl 0 (by decide) (hts _ fl_X9_7) (fun _ h9 => h9) rfl dX9_clones_112 ?_
      refine lv_iload_n hx hb dX9_clones_115 rfl (lv_at hl 2 rfl) ?_
      refine lv_bipush (v := 10) hx hb dX9_clones_116 (by decide) ?_
      refine lv_iadd hx hb dX9_clones_118 ?_
      refine lv_iconst (v := 2) hx hb dX9_clones_119 (by decide) ?_
      refine lv_iload hx hb dX9_clones_120 (lv_at hl 8 rfl) ?_
      refine lv_imul hx hb dX9_clones_122 ?_
      refine lv_iadd hx hb dX9_clones_123 ?_
      refine lv_iload hx hb dX9_clones_124 (lv_at hl 9 rfl) ?_
      refine lv_iadd hx hb dX9_clones_126 ?_
      refine lv_iload hx hb dX9_clones_127 (lv_at hl 0 rfl) ?_
      have b_10 : ¬ ((((v1 + 10) + (2 * v7)) + v8) < 0 ∨ 5040 ≤ (((v1 + 10) + (2 * v7)) + v8).toNatClampNeg) := fun q => by rw [if_pos q] at hf; cases hf
      rw [if_neg b_10] at hf
      refine va_iast hx hb hK hP hD hS 1 0 rfl rfl b_10 dX9_clones_129 (fun H locs hP hD hS => ?_)
      have hP : va_P D vwCl [(q, .inr (9, [.ref qm, .int kept, .ref qi, .int im, .ref qp, .int pm, .ref qo, .int om, .ref qg, .long lo, .long hi_, .long cde, .int fr, .int sp])), (qm, .inl (cI, 5040, .inl (upd (upd mm (((v1 + 510) + (2 * v7)) + v8).toNatClampNeg (mm (((v1 + 510) + (2 * v4)) + v8).toNatClampNeg)) (((v1 + 10) + (2 * v7)) + v8).toNatClampNeg (((((mm (((v1 + 10) + (2 * v4)) + v8).toNatClampNeg).toInt64) * ((v5).toInt64)) / ((v6).toInt64)).toInt32)))), (qi, .inl (cI, 60, .inl inp)), (qp, .inl (cI, 2000, .inl pk)), (qo, .inl (cI, 60, .inl out)), (qg, .inl (cI, 6, .inl gr))] H := hP
      have hD : va_D A [(q, .inr (9, [.ref qm, .int kept, .ref qi, .int im, .ref qp, .int pm, .ref qo, .int om, .ref qg, .long lo, .long hi_, .long cde, .int fr, .int sp])), (qm, .inl (cI, 5040, .inl (upd (upd mm (((v1 + 510) + (2 * v7)) + v8).toNatClampNeg (mm (((v1 + 510) + (2 * v4)) + v8).toNatClampNeg)) (((v1 + 10) + (2 * v7)) + v8).toNatClampNeg (((((mm (((v1 + 10) + (2 * v4)) + v8).toNatClampNeg).toInt64) * ((v5).toInt64)) / ((v6).toInt64)).toInt32)))), (qi, .inl (cI, 60, .inl inp)), (qp, .inl (cI, 2000, .inl pk)), (qo, .inl (cI, 60, .inl out)), (qg, .inl (cI, 6, .inl gr))] := hD
      refine lv_aload_n hx hb dX9_clones_130 rfl (lv_at hl 1 rfl) ?_
      refine va_get (D := D) (ci := 9) (v := .ref qm) (C := RX9) (T := TX9) (N := 14) hx hb hts inGX9 hown hK hP 0 rfl rfl 0 (by decide) (hts _ fl_X9_7) (fun _ h9 => h9) rfl dX9_clones_131 ?_
      refine lv_iload_n hx hb dX9_clones_134 rfl (lv_at hl 2 rfl) ?_
      refine lv_bipush (v := 10) hx hb dX9_clones_135 (by decide) ?_
      refine lv_iadd hx hb dX9_clones_137 ?_
      refine lv_iconst (v := 2) hx hb dX9_clones_138 (by decide) ?_
      refine lv_iload hx hb dX9_clones_139 (lv_at hl 5 rfl) ?_
      refine lv_imul hx hb dX9_clones_141 ?_
      refine lv_iadd hx hb dX9_clones_142 ?_
      refine lv_iload hx hb dX9_clones_143 (lv_at hl 9 rfl) ?_
      refine lv_iadd hx hb dX9_clones_145 ?_
      refine lv_dup2_11 hx hb dX9_clones_146 rfl rfl ?_
      have b_11 : ¬ ((((v1 + 10) + (2 * v4)) + v8) < 0 ∨ 5040 ≤ (((v1 + 10) + (2 * v4)) + v8).toNatClampNeg) := fun q => by rw [if_pos q] at hf; cases hf
      rw [if_neg b_11] at hf
      refine va_iald hx hb hK hP 1 0 rfl rfl b_11 dX9_clones_147 ?_
      refine lv_iload hx hb dX9_clones_148 (lv_at hl 0 rfl) ?_
      refine lv_isub hx hb dX9_clones_150 ?_
      have b_12 : ¬ ((((v1 + 10) + (2 * v4)) + v8) < 0 ∨ 5040 ≤ (((v1 + 10) + (2 * v4)) + v8).toNatClampNeg) := fun q => by rw [if_pos q] at hf; cases hf
      rw [if_neg b_12] at hf
      refine va_iast hx hb hK hP hD hS 1 0 rfl rfl b_12 dX9_clones_151 (fun H locs hP hD hS => ?_)
      have hP : va_P D vwCl [(q, .inr (9, [.ref qm, .int kept, .ref qi, .int im, .ref qp, .int pm, .ref qo, .int om, .ref qg, .long lo, .long hi_, .long cde, .int fr, .int sp])), (qm, .inl (cI, 5040, .inl (upd (upd (upd mm (((v1 + 510) + (2 * v7)) + v8).toNatClampNeg (mm (((v1 + 510) + (2 * v4)) + v8).toNatClampNeg)) (((v1 + 10) + (2 * v7)) + v8).toNatClampNeg (((((mm (((v1 + 10) + (2 * v4)) + v8).toNatClampNeg).toInt64) * ((v5).toInt64)) / ((v6).toInt64)).toInt32)) (((v1 + 10) + (2 * v4)) + v8).toNatClampNeg (((upd (upd mm (((v1 + 510) + (2 * v7)) + v8).toNatClampNeg (mm (((v1 + 510) + (2 * v4)) + v8).toNatClampNeg)) (((v1 + 10) + (2 * v7)) + v8).toNatClampNeg (((((mm (((v1 + 10) + (2 * v4)) + v8).toNatClampNeg).toInt64) * ((v5).toInt64)) / ((v6).toInt64)).toInt32)) (((v1 + 10) + (2 * v4)) + v8).toNatClampNeg) - (((((mm (((v1 + 10) + (2 * v4)) + v8).toNatClampNeg).toInt64) * ((v5).toInt64)) / ((v6).toInt64)).toInt32))))), (qi, .inl (cI, 60, .inl inp)), (qp, .inl (cI, 2000, .inl pk)), (qo, .inl (cI, 60, .inl out)), (qg, .inl (cI, 6, .inl gr))] H := hP
      have hD : va_D A [(q, .inr (9, [.ref qm, .int kept, .ref qi, .int im, .ref qp, .int pm, .ref qo, .int om, .ref qg, .long lo, .long hi_, .long cde, .int fr, .int sp])), (qm, .inl (cI, 5040, .inl (upd (upd (upd mm (((v1 + 510) + (2 * v7)) + v8).toNatClampNeg (mm (((v1 + 510) + (2 * v4)) + v8).toNatClampNeg)) (((v1 + 10) + (2 * v7)) + v8).toNatClampNeg (((((mm (((v1 + 10) + (2 * v4)) + v8).toNatClampNeg).toInt64) * ((v5).toInt64)) / ((v6).toInt64)).toInt32)) (((v1 + 10) + (2 * v4)) + v8).toNatClampNeg (((upd (upd mm (((v1 + 510) + (2 * v7)) + v8).toNatClampNeg (mm (((v1 + 510) + (2 * v4)) + v8).toNatClampNeg)) (((v1 + 10) + (2 * v7)) + v8).toNatClampNeg (((((mm (((v1 + 10) + (2 * v4)) + v8).toNatClampNeg).toInt64) * ((v5).toInt64)) / ((v6).toInt64)).toInt32)) (((v1 + 10) + (2 * v4)) + v8).toNatClampNeg) - (((((mm (((v1 + 10) + (2 * v4)) + v8).toNatClampNeg).toInt64) * ((v5).toInt64)) / ((v6).toInt64)).toInt32))))), (qi, .inl (cI, 60, .inl inp)), (qp, .inl (cI, 2000, .inl pk)), (qo, .inl (cI, 60, .inl out)), (qg, .inl (cI, 6, .inl gr))] := hD
      refine lv_iinc (v := v8 + 1) (lv' := [(8, .int (v8 + 1)), (9, .int (((((mm (((v1 + 10) + (2 * v4)) + v8).toNatClampNeg).toInt64) * ((v5).toInt64)) / ((v6).toInt64)).toInt32)), (0, .ref q), (1, .int v1), (2, .int v2), (3, .int v3), (4, .int v4), (5, .int v5), (6, .int v6), (7, .int v7)]) hx hb dX9_clones_152 hl (k := 9) rfl rfl (by decide) rfl (fun ls hl => ?_)
      refine lv_goto (tgt := 40) hx hb dX9_clones_155 (by decide) ?_
      have hf := Option.some.inj hf
      subst hf
      exact ih (v8 + 1) (upd (upd (upd mm (((v1 + 510) + (2 * v7)) + v8).toNatClampNeg (mm (((v1 + 510) + (2 * v4)) + v8).toNatClampNeg)) (((v1 + 10) + (2 * v7)) + v8).toNatClampNeg (((((mm (((v1 + 10) + (2 * v4)) + v8).toNatClampNeg).toInt64) * ((v5).toInt64)) / ((v6).toInt64)).toInt32)) (((v1 + 10) + (2 * v4)) + v8).toNatClampNeg (((upd (upd mm (((v1 + 510) + (2 * v7)) + v8).toNatClampNeg (mm (((v1 + 510) + (2 * v4)) + v8).toNatClampNeg)) (((v1 + 10) + (2 * v7)) + v8).toNatClampNeg (((((mm (((v1 + 10) + (2 * v4)) + v8).toNatClampNeg).toInt64) * ((v5).toInt64)) / ((v6).toInt64)).toInt32)) (((v1 + 10) + (2 * v4)) + v8).toNatClampNeg) - (((((mm (((v1 + 10) + (2 * v4)) + v8).toNatClampNeg).toInt64) * ((v5).toInt64)) / ((v6).toInt64)).toInt32))) _ _ hz H locs ls hP hD hS (lv_sub hl [2, 3, 4, 5, 6, 7, 8, 9, 0] rfl) kk
def f_X9_clones (mm : (Nat → Int32)) (x1 : Int32) (x2 : Int32) (x3 : Int32) (x4 : Int32) (x5 : Int32) (x6 : Int32) : Option ((Nat → Int32)) := if (x1 + 0) < 0 ∨ 5040 ≤ (x1 + 0).toNatClampNeg then none else (if (x1 + 0) < 0 ∨ 5040 ≤ (x1 + 0).toNatClampNeg then none else (if (x1 + 0) < 0 ∨ 5040 ≤ (x1 + 0).toNatClampNeg then none else (if ((x1 + 1010) + (mm (x1 + 0).toNatClampNeg)) < 0 ∨ 5040 ≤ ((x1 + 1010) + (mm (x1 + 0).toNatClampNeg)).toNatClampNeg then none else (bi2 (f_X9_clones_L40 x1 x4 x5 x6 (mm (x1 + 0).toNatClampNeg) 4096 0 (upd (upd mm (x1 + 0).toNatClampNeg ((mm (x1 + 0).toNatClampNeg) + 1)) ((x1 + 1010) + (mm (x1 + 0).toNatClampNeg)).toNatClampNeg x4)) (fun (v8_13 : Int32) (mm_14 : (Nat → Int32)) => if (((x1 + 510) + (2 * x2)) + x3) < 0 ∨ 5040 ≤ (((x1 + 510) + (2 * x2)) + x3).toNatClampNeg then none else (if (x1 + 3) < 0 ∨ 5040 ≤ (x1 + 3).toNatClampNeg then none else (if (x1 + 3) < 0 ∨ 5040 ≤ (x1 + 3).toNatClampNeg then none else (some (upd (upd mm_14 (((x1 + 510) + (2 * x2)) + x3).toNatClampNeg (mm (x1 + 0).toNatClampNeg)) (x1 + 3).toNatClampNeg (((upd mm_14 (((x1 + 510) + (2 * x2)) + x3).toNatClampNeg (mm (x1 + 0).toNatClampNeg)) (x1 + 3).toNatClampNeg) + 1))))))))))
set_option maxHeartbeats 4000000 in
set_option maxRecDepth 100000 in
theorem c_X9_clones (l : Launch) (D : va_G) (cI : ClassId) {sz : Nat} (q : Nat) (qm : Nat) (qi : Nat) (qp : Nat) (qo : Nat) (qg : Nat) (kept : Int32) (im : Int32) (pm : Int32) (om : Int32) (lo : Int64) (hi_ : Int64) (cde : Int64) (fr : Int32) (sp : Int32) (mm : (Nat → Int32)) (inp : (Nat → Int32)) (pk : (Nat → Int32)) (out : (Nat → Int32)) (gr : (Nat → Int32)) (x1 : Int32) (x2 : Int32) (x3 : Int32) (x4 : Int32) (x5 : Int32) (x6 : Int32) (o_mm : (Nat → Int32)) (hf : f_X9_clones mm x1 x2 x3 x4 x5 x6 = some o_mm) : Met l yX9_clones (.code yX9_clones cX9_clones 10 none :: wsG) ({ frames := 0, cells := 0, slots := 0, locals := 0 }) (va_Pc [.ref q, .int x1, .int x2, .int x3, .int x4, .int x5, .int x6] (gv D cI sz [(q, .inr (9, [.ref qm, .int kept, .ref qi, .int im, .ref qp, .int pm, .ref qo, .int om, .ref qg, .long lo, .long hi_, .long cde, .int fr, .int sp])), (qm, .inl (cI, 5040, .inl mm)), (qi, .inl (cI, 60, .inl inp)), (qp, .inl (cI, 2000, .inl pk)), (qo, .inl (cI, 60, .inl out)), (qg, .inl (cI, 6, .inl gr))])) (va_Qv (fun (_ : Unit) => True) (gz D (va_A [(q, .inr (9, [.ref qm, .int kept, .ref qi, .int im, .ref qp, .int pm, .ref qo, .int om, .ref qg, .long lo, .long hi_, .long cde, .int fr, .int sp])), (qm, .inl (cI, 5040, .inl mm)), (qi, .inl (cI, 60, .inl inp)), (qp, .inl (cI, 2000, .inl pk)), (qo, .inl (cI, 60, .inl out)), (qg, .inl (cI, 6, .inl gr))] sz) [(q, .inr (9, [.ref qm, .int kept, .ref qi, .int im, .ref qp, .int pm, .ref qo, .int om, .ref qg, .long lo, .long hi_, .long cde, .int fr, .int sp])), (qm, .inl (cI, 5040, .inl o_mm)), (qi, .inl (cI, 60, .inl inp)), (qp, .inl (cI, 2000, .inl pk)), (qo, .inl (cI, 60, .inl out)), (qg, .inl (cI, 6, .inl gr))]) (va_A [(q, .inr (9, [.ref qm, .int kept, .ref qi, .int im, .ref qp, .int pm, .ref qo, .int om, .ref qg, .long lo, .long hi_, .long cde, .int fr, .int sp])), (qm, .inl (cI, 5040, .inl mm)), (qi, .inl (cI, 60, .inl inp)), (qp, .inl (cI, 2000, .inl pk)), (qo, .inl (cI, 60, .inl out)), (qg, .inl (cI, 6, .inl gr))] sz)) 0 0 (va_A [(q, .inr (9, [.ref qm, .int kept, .ref qi, .int im, .ref qp, .int pm, .ref qo, .int om, .ref qg, .long lo, .long hi_, .long cde, .int fr, .int sp])), (qm, .inl (cI, 5040, .inl mm)), (qi, .inl (cI, 60, .inl inp)), (qp, .inl (cI, 2000, .inl pk)), (qo, .inl (cI, 60, .inl out)), (qg, .inl (cI, 6, .inl gr))] sz) := by
  refine k_rw (y := yX9_clones) (cc := cX9_clones) (maxL := 10) (ret := none) (As := [.ref q, .int x1, .int x2, .int x3, .int x4, .int x5, .int x6]) (Qc := fun A => va_Qv (fun (_ : Unit) => True) (gz D A [(q, .inr (9, [.ref qm, .int kept, .ref qi, .int im, .ref qp, .int pm, .ref qo, .int om, .ref qg, .long lo, .long hi_, .long cde, .int fr, .int sp])), (qm, .inl (cI, 5040, .inl o_mm)), (qi, .inl (cI, 60, .inl inp)), (qp, .inl (cI, 2000, .inl pk)), (qo, .inl (cI, 60, .inl out)), (qg, .inl (cI, 6, .inl gr))]) A) (by decide) rfl (Nat.le_of_ble_eq_true rfl) rfl ?_
  intro p e s m below meth c ls A S hret hloc hK hN hSF hP hD hS hA hl
  obtain ⟨hx, hb, hml, hown, hts⟩ := id S
  unfold f_X9_clones at hf
  refine lv_aload_n hx hb dX9_clones_0 rfl (lv_at hl 0 rfl) ?_
  refine va_get (D := D) (ci := 9) (v := .ref qm) (C := RX9) (T := TX9) (N := 14) hx hb hts inGX9 hown hK hP 0 rfl rfl 0 (by decide) (hts _ fl_X9_7) (fun _ h9 => h9) rfl dX9_clones_1 ?_
  refine lv_iload_n hx hb dX9_clones_4 rfl (lv_at hl 1 rfl) ?_
  refine lv_iconst (v := 0) hx hb dX9_clones_5 (by decide) ?_
  refine lv_iadd hx hb dX9_clones_6 ?_
  have b_1 : ¬ ((x1 + 0) < 0 ∨ 5040 ≤ (x1 + 0).toNatClampNeg) := fun q => by rw [if_pos q] at hf; cases hf
  rw [if_neg b_1] at hf
  refine va_iald hx hb hK hP 1 0 rfl rfl b_1 dX9_clones_7 ?_
  refine lv_istore (lv' := [(7, .int (mm (x1 + 0).toNatClampNeg)), (0, .ref q), (1, .int x1), (2, .int x2), (3, .int x3), (4, .int x4), (5, .int x5), (6, .int x6)]) hx hb dX9_clones_8 hl (by decide) rfl (fun ls hl => ?_)
  refine lv_aload_n hx hb dX9_clones_10 rfl (lv_at hl 1 rfl) ?_
  refine va_get (D := D) (ci := 9) (v := .ref qm) (C := RX9) (T := TX9) (N := 14) hx hb hts inGX9 hown hK hP 0 rfl rfl 0 (by decide) (hts _ fl_X9_7) (fun _ h9 => h9) rfl dX9_clones_11 ?_
  refine lv_iload_n hx hb dX9_clones_14 rfl (lv_at hl 2 rfl) ?_
  refine lv_iconst (v := 0) hx hb dX9_clones_15 (by decide) ?_
  refine lv_iadd hx hb dX9_clones_16 ?_
  refine lv_dup2_11 hx hb dX9_clones_17 rfl rfl ?_
  have b_2 : ¬ ((x1 + 0) < 0 ∨ 5040 ≤ (x1 + 0).toNatClampNeg) := fun q => by rw [if_pos q] at hf; cases hf
  rw [if_neg b_2] at hf
  refine va_iald hx hb hK hP 1 0 rfl rfl b_2 dX9_clones_18 ?_
  refine lv_iconst (v := 1) hx hb dX9_clones_19 (by decide) ?_
  refine lv_iadd hx hb dX9_clones_20 ?_
  have b_3 : ¬ ((x1 + 0) < 0 ∨ 5040 ≤ (x1 + 0).toNatClampNeg) := fun q => by rw [if_pos q] at hf; cases hf
  rw [if_neg b_3] at hf
  refine va_iast hx hb hK hP hD hS 1 0 rfl rfl b_3 dX9_clones_21 (fun H locs hP hD hS => ?_)
  have hP : va_P D vwCl [(q, .inr (9, [.ref qm, .int kept, .ref qi, .int im, .ref qp, .int pm, .ref qo, .int om, .ref qg, .long lo, .long hi_, .long cde, .int fr, .int sp])), (qm, .inl (cI, 5040, .inl (upd mm (x1 + 0).toNatClampNeg ((mm (x1 + 0).toNatClampNeg) + 1)))), (qi, .inl (cI, 60, .inl inp)), (qp, .inl (cI, 2000, .inl pk)), (qo, .inl (cI, 60, .inl out)), (qg, .inl (cI, 6, .inl gr))] H := hP
  have hD : va_D A [(q, .inr (9, [.ref qm, .int kept, .ref qi, .int im, .ref qp, .int pm, .ref qo, .int om, .ref qg, .long lo, .long hi_, .long cde, .int fr, .int sp])), (qm, .inl (cI, 5040, .inl (upd mm (x1 + 0).toNatClampNeg ((mm (x1 + 0).toNatClampNeg) + 1)))), (qi, .inl (cI, 60, .inl inp)), (qp, .inl (cI, 2000, .inl pk)), (qo, .inl (cI, 60, .inl out)), (qg, .inl (cI, 6, .inl gr))] := hD
  refine lv_aload_n hx hb dX9_clones_22 rfl (lv_at hl 1 rfl) ?_
  refine va_get (D := D) (ci := 9) (v := .ref qm) (C := RX9) (T := TX9) (N := 14) hx hb hts inGX9 hown hK hP 0 rfl rfl 0 (by decide) (hts _ fl_X9_7) (fun _ h9 => h9) rfl dX9_clones_23 ?_
  refine lv_iload_n hx hb dX9_clones_26 rfl (lv_at hl 2 rfl) ?_
  refine lv_sipush (v := 1010) hx hb dX9_clones_27 (by decide) ?_
  refine lv_iadd hx hb dX9_clones_30 ?_
  refine lv_iload hx hb dX9_clones_31 (lv_at hl 0 rfl) ?_
  refine lv_iadd hx hb dX9_clones_33 ?_
  refine lv_iload hx hb dX9_clones_34 (lv_at hl 5 rfl) ?_
  have b_4 : ¬ (((x1 + 1010) + (mm (x1 + 0).toNatClampNeg)) < 0 ∨ 5040 ≤ ((x1 + 1010) + (mm (x1 + 0).toNatClampNeg)).toNatClampNeg) := fun q => by rw [if_pos q] at hf; cases hf
  rw [if_neg b_4] at hf
  refine va_iast hx hb hK hP hD hS 1 0 rfl rfl b_4 dX9_clones_36 (fun H locs hP hD hS => ?_)
  have hP : va_P D vwCl [(q, .inr (9, [.ref qm, .int kept, .ref qi, .int im, .ref qp, .int pm, .ref qo, .int om, .ref qg, .long lo, .long hi_, .long cde, .int fr, .int sp])), (qm, .inl (cI, 5040, .inl (upd (upd mm (x1 + 0).toNatClampNeg ((mm (x1 + 0).toNatClampNeg) + 1)) ((x1 + 1010) + (mm (x1 + 0).toNatClampNeg)).toNatClampNeg x4))), (qi, .inl (cI, 60, .inl inp)), (qp, .inl (cI, 2000, .inl pk)), (qo, .inl (cI, 60, .inl out)), (qg, .inl (cI, 6, .inl gr))] H := hP
  have hD : va_D A [(q, .inr (9, [.ref qm, .int kept, .ref qi, .int im, .ref qp, .int pm, .ref qo, .int om, .ref qg, .long lo, .long hi_, .long cde, .int fr, .int sp])), (qm, .inl (cI, 5040, .inl (upd (upd mm (x1 + 0).toNatClampNeg ((mm (x1 + 0).toNatClampNeg) + 1)) ((x1 + 1010) + (mm (x1 + 0).toNatClampNeg)).toNatClampNeg x4))), (qi, .inl (cI, 60, .inl inp)), (qp, .inl (cI, 2000, .inl pk)), (qo, .inl (cI, 60, .inl out)), (qg, .inl (cI, 6, .inl gr))] := hD
  refine lv_iconst (v := 0) hx hb dX9_clones_37 (by decide) ?_
  refine lv_istore (lv' := [(8, .int 0), (7, .int (mm (x1 + 0).toNatClampNeg)), (0, .ref q), (1, .int x1), (2, .int x2), (3, .int x3), (4, .int x4), (5, .int x5), (6, .int x6)]) hx hb dX9_clones_38 hl (by decide) rfl (fun ls hl => ?_)
  obtain ⟨v8_13, mm_14, hc_15, hf⟩ := bd2 hf
  refine L_X9_clones_40 S hK hN hSF hA _ 0 (upd (upd mm (x1 + 0).toNatClampNeg ((mm (x1 + 0).toNatClampNeg) + 1)) ((x1 + 1010) + (mm (x1 + 0).toNatClampNeg)).toNatClampNeg x4) v8_13 mm_14 hc_15 _ _ _ hP hD hS (lv_sub hl [2, 3, 4, 5, 6, 7, 8, 1, 0] rfl) (fun H locs ls hP hD hS hl => ?_)
  refine lv_aload_n hx hb dX9_clones_158 rfl (lv_at hl 0 rfl) ?_
  refine va_get (D := D) (ci := 9) (v := .ref qm) (C := RX9) (T := TX9) (N := 14) hx hb hts inGX9 hown hK hP 0 rfl rfl 0 (by decide) (hts _ fl_X9_7) (fun _ h9 => h9) rfl dX9_clones_159 ?_
  refine lv_iload_n hx hb dX9_clones_162 rfl (lv_at hl 1 rfl) ?_
  refine lv_sipush (v := 510) hx hb dX9_clones_163 (by decide) ?_
  refine lv_iadd hx hb dX9_clones_166 ?_
  refine lv_iconst (v := 2) hx hb dX9_clones_167 (by decide) ?_
  refine lv_iload_n hx hb dX9_clones_168 rfl (lv_at hl 2 rfl) ?_
  refine lv_imul hx hb dX9_clones_169 ?_
  refine lv_iadd hx hb dX9_clones_170 ?_
  refine lv_iload_n hx hb dX9_clones_171 rfl (lv_at hl 3 rfl) ?_
  refine lv_iadd hx hb dX9_clones_172 ?_
  refine lv_iload hx hb dX9_clones_173 (lv_at hl 7 rfl) ?_
  have b_16 : ¬ ((((x1 + 510) + (2 * x2)) + x3) < 0 ∨ 5040 ≤ (((x1 + 510) + (2 * x2)) + x3).toNatClampNeg) := fun q => by rw [if_pos q] at hf; cases hf
  rw [if_neg b_16] at hf
  refine va_iast hx hb hK hP hD hS 1 0 rfl rfl b_16 dX9_clones_175 (fun H locs hP hD hS => ?_)
  have hP : va_P D vwCl [(q, .inr (9, [.ref qm, .int kept, .ref qi, .int im, .ref qp, .int pm, .ref qo, .int om, .ref qg, .long lo, .long hi_, .long cde, .int fr, .int sp])), (qm, .inl (cI, 5040, .inl (upd mm_14 (((x1 + 510) + (2 * x2)) + x3).toNatClampNeg (mm (x1 + 0).toNatClampNeg)))), (qi, .inl (cI, 60, .inl inp)), (qp, .inl (cI, 2000, .inl pk)), (qo, .inl (cI, 60, .inl out)), (qg, .inl (cI, 6, .inl gr))] H := hP
  have hD : va_D A [(q, .inr (9, [.ref qm, .int kept, .ref qi, .int im, .ref qp, .int pm, .ref qo, .int om, .ref qg, .long lo, .long hi_, .long cde, .int fr, .int sp])), (qm, .inl (cI, 5040, .inl (upd mm_14 (((x1 + 510) + (2 * x2)) + x3).toNatClampNeg (mm (x1 + 0).toNatClampNeg)))), (qi, .inl (cI, 60, .inl inp)), (qp, .inl (cI, 2000, .inl pk)), (qo, .inl (cI, 60, .inl out)), (qg, .inl (cI, 6, .inl gr))] := hD
  refine lv_aload_n hx hb dX9_clones_176 rfl (lv_at hl 0 rfl) ?_
  refine va_get (D := D) (ci := 9) (v := .ref qm) (C := RX9) (T := TX9) (N := 14) hx hb hts inGX9 hown hK hP 0 rfl rfl 0 (by decide) (hts _ fl_X9_7) (fun _ h9 => h9) rfl dX9_clones_177 ?_
  refine lv_iload_n hx hb dX9_clones_180 rfl (lv_at hl 1 rfl) ?_
  refine lv_iconst (v := 3) hx hb dX9_clones_181 (by decide) ?_
  refine lv_iadd hx hb dX9_clones_182 ?_
  refine lv_dup2_11 hx hb dX9_clones_183 rfl rfl ?_
  have b_17 : ¬ ((x1 + 3) < 0 ∨ 5040 ≤ (x1 + 3).toNatClampNeg) := fun q => by rw [if_pos q] at hf; cases hf
  rw [if_neg b_17] at hf
  refine va_iald hx hb hK hP 1 0 rfl rfl b_17 dX9_clones_184 ?_
  refine lv_iconst (v := 1) hx hb dX9_clones_185 (by decide) ?_
  refine lv_iadd hx hb dX9_clones_186 ?_
  have b_18 : ¬ ((x1 + 3) < 0 ∨ 5040 ≤ (x1 + 3).toNatClampNeg) := fun q => by rw [if_pos q] at hf; cases hf
  rw [if_neg b_18] at hf
  refine va_iast hx hb hK hP hD hS 1 0 rfl rfl b_18 dX9_clones_187 (fun H locs hP hD hS => ?_)
  have hP : va_P D vwCl [(q, .inr (9, [.ref qm, .int kept, .ref qi, .int im, .ref qp, .int pm, .ref qo, .int om, .ref qg, .long lo, .long hi_, .long cde, .int fr, .int sp])), (qm, .inl (cI, 5040, .inl (upd (upd mm_14 (((x1 + 510) + (2 * x2)) + x3).toNatClampNeg (mm (x1 + 0).toNatClampNeg)) (x1 + 3).toNatClampNeg (((upd mm_14 (((x1 + 510) + (2 * x2)) + x3).toNatClampNeg (mm (x1 + 0).toNatClampNeg)) (x1 + 3).toNatClampNeg) + 1)))), (qi, .inl (cI, 60, .inl inp)), (qp, .inl (cI, 2000, .inl pk)), (qo, .inl (cI, 60, .inl out)), (qg, .inl (cI, 6, .inl gr))] H := hP
  have hD : va_D A [(q, .inr (9, [.ref qm, .int kept, .ref qi, .int im, .ref qp, .int pm, .ref qo, .int om, .ref qg, .long lo, .long hi_, .long cde, .int fr, .int sp])), (qm, .inl (cI, 5040, .inl (upd (upd mm_14 (((x1 + 510) + (2 * x2)) + x3).toNatClampNeg (mm (x1 + 0).toNatClampNeg)) (x1 + 3).toNatClampNeg (((upd mm_14 (((x1 + 510) + (2 * x2)) + x3).toNatClampNeg (mm (x1 + 0).toNatClampNeg)) (x1 + 3).toNatClampNeg) + 1)))), (qi, .inl (cI, 60, .inl inp)), (qp, .inl (cI, 2000, .inl pk)), (qo, .inl (cI, 60, .inl out)), (qg, .inl (cI, 6, .inl gr))] := hD
  have e_0 := Option.some.inj hf
  subst e_0
  exact k_wretv hx hb hret hloc hP hD hS dX9_clones_188
theorem dX9_takes_0 : decode cX9_takes 0 = .ok (.aload_n 0, 1) := by decide +kernel
theorem dX9_takes_1 : decode cX9_takes 1 = .ok (.getfield 7, 3) := by decide +kernel
theorem dX9_takes_4 : decode cX9_takes 4 = .ok (.iload_n 1, 1) := by decide +kernel
theorem dX9_takes_5 : decode cX9_takes 5 = .ok (.iconst 1, 1) := by decide +kernel
theorem dX9_takes_6 : decode cX9_takes 6 = .ok (.iadd, 1) := by decide +kernel
theorem dX9_takes_7 : decode cX9_takes 7 = .ok (.iaload, 1) := by decide +kernel
theorem dX9_takes_8 : decode cX9_takes 8 = .ok (.istore_n 3, 1) := by decide +kernel
theorem dX9_takes_9 : decode cX9_takes 9 = .ok (.aload_n 0, 1) := by decide +kernel
theorem dX9_takes_10 : decode cX9_takes 10 = .ok (.getfield 7, 3) := by decide +kernel
theorem dX9_takes_13 : decode cX9_takes 13 = .ok (.iload_n 1, 1) := by decide +kernel
theorem dX9_takes_14 : decode cX9_takes 14 = .ok (.sipush 510, 3) := by decide +kernel
theorem dX9_takes_17 : decode cX9_takes 17 = .ok (.iadd, 1) := by decide +kernel
theorem dX9_takes_18 : decode cX9_takes 18 = .ok (.iconst 2, 1) := by decide +kernel
theorem dX9_takes_19 : decode cX9_takes 19 = .ok (.iload_n 3, 1) := by decide +kernel
theorem dX9_takes_20 : decode cX9_takes 20 = .ok (.imul, 1) := by decide +kernel
theorem dX9_takes_21 : decode cX9_takes 21 = .ok (.iadd, 1) := by decide +kernel
theorem dX9_takes_22 : decode cX9_takes 22 = .ok (.iload_n 2, 1) := by decide +kernel
theorem dX9_takes_23 : decode cX9_takes 23 = .ok (.iadd, 1) := by decide +kernel
theorem dX9_takes_24 : decode cX9_takes 24 = .ok (.iaload, 1) := by decide +kernel
theorem dX9_takes_25 : decode cX9_takes 25 = .ok (.istore 4, 2) := by decide +kernel
theorem dX9_takes_27 : decode cX9_takes 27 = .ok (.aload_n 0, 1) := by decide +kernel
theorem dX9_takes_28 : decode cX9_takes 28 = .ok (.getfield 7, 3) := by decide +kernel
theorem dX9_takes_31 : decode cX9_takes 31 = .ok (.iload_n 1, 1) := by decide +kernel
theorem dX9_takes_32 : decode cX9_takes 32 = .ok (.bipush 10, 2) := by decide +kernel
theorem dX9_takes_34 : decode cX9_takes 34 = .ok (.iadd, 1) := by decide +kernel
theorem dX9_takes_35 : decode cX9_takes 35 = .ok (.iconst 2, 1) := by decide +kernel
theorem dX9_takes_36 : decode cX9_takes 36 = .ok (.iload_n 3, 1) := by decide +kernel
theorem dX9_takes_37 : decode cX9_takes 37 = .ok (.imul, 1) := by decide +kernel
theorem dX9_takes_38 : decode cX9_takes 38 = .ok (.iadd, 1) := by decide +kernel
theorem dX9_takes_39 : decode cX9_takes 39 = .ok (.iload_n 2, 1) := by decide +kernel
theorem dX9_takes_40 : decode cX9_takes 40 = .ok (.iadd, 1) := by decide +kernel
theorem dX9_takes_41 : decode cX9_takes 41 = .ok (.iaload, 1) := by decide +kernel
theorem dX9_takes_42 : decode cX9_takes 42 = .ok (.istore 5, 2) := by decide +kernel
theorem dX9_takes_44 : decode cX9_takes 44 = .ok (.aload_n 0, 1) := by decide +kernel
theorem dX9_takes_45 : decode cX9_takes 45 = .ok (.iload_n 1, 1) := by decide +kernel
theorem dX9_takes_46 : decode cX9_takes 46 = .ok (.iload 4, 2) := by decide +kernel
theorem dX9_takes_48 : decode cX9_takes 48 = .ok (.invokevirtual 32, 3) := by decide +kernel
theorem dX9_takes_51 : decode cX9_takes 51 = .ok (.istore 6, 2) := by decide +kernel
theorem dX9_takes_53 : decode cX9_takes 53 = .ok (.aload_n 0, 1) := by decide +kernel
theorem dX9_takes_54 : decode cX9_takes 54 = .ok (.getfield 7, 3) := by decide +kernel
theorem dX9_takes_57 : decode cX9_takes 57 = .ok (.iload_n 1, 1) := by decide +kernel
theorem dX9_takes_58 : decode cX9_takes 58 = .ok (.iconst 2, 1) := by decide +kernel
theorem dX9_takes_59 : decode cX9_takes 59 = .ok (.iadd, 1) := by decide +kernel
theorem dX9_takes_60 : decode cX9_takes 60 = .ok (.dup2, 1) := by decide +kernel
theorem dX9_takes_61 : decode cX9_takes 61 = .ok (.iaload, 1) := by decide +kernel
theorem dX9_takes_62 : decode cX9_takes 62 = .ok (.iconst 1, 1) := by decide +kernel
theorem dX9_takes_63 : decode cX9_takes 63 = .ok (.iadd, 1) := by decide +kernel
theorem dX9_takes_64 : decode cX9_takes 64 = .ok (.iastore, 1) := by decide +kernel
theorem dX9_takes_65 : decode cX9_takes 65 = .ok (.iload 5, 2) := by decide +kernel
theorem dX9_takes_67 : decode cX9_takes 67 = .ok (.aload_n 0, 1) := by decide +kernel
theorem dX9_takes_68 : decode cX9_takes 68 = .ok (.getfield 7, 3) := by decide +kernel
theorem dX9_takes_71 : decode cX9_takes 71 = .ok (.iload_n 1, 1) := by decide +kernel
theorem dX9_takes_72 : decode cX9_takes 72 = .ok (.iconst 5, 1) := by decide +kernel
theorem dX9_takes_73 : decode cX9_takes 73 = .ok (.iadd, 1) := by decide +kernel
theorem dX9_takes_74 : decode cX9_takes 74 = .ok (.iconst 1, 1) := by decide +kernel
theorem dX9_takes_75 : decode cX9_takes 75 = .ok (.iadd, 1) := by decide +kernel
theorem dX9_takes_76 : decode cX9_takes 76 = .ok (.iaload, 1) := by decide +kernel
theorem dX9_takes_77 : decode cX9_takes 77 = .ok (.if_icmp .le 73, 3) := by decide +kernel
theorem dX9_takes_80 : decode cX9_takes 80 = .ok (.iload 6, 2) := by decide +kernel
theorem dX9_takes_82 : decode cX9_takes 82 = .ok (.iload 5, 2) := by decide +kernel
theorem dX9_takes_84 : decode cX9_takes 84 = .ok (.isub, 1) := by decide +kernel
theorem dX9_takes_85 : decode cX9_takes 85 = .ok (.aload_n 0, 1) := by decide +kernel
theorem dX9_takes_86 : decode cX9_takes 86 = .ok (.getfield 7, 3) := by decide +kernel
theorem dX9_takes_89 : decode cX9_takes 89 = .ok (.iload_n 1, 1) := by decide +kernel
theorem dX9_takes_90 : decode cX9_takes 90 = .ok (.iconst 5, 1) := by decide +kernel
theorem dX9_takes_91 : decode cX9_takes 91 = .ok (.iadd, 1) := by decide +kernel
theorem dX9_takes_92 : decode cX9_takes 92 = .ok (.iconst 2, 1) := by decide +kernel
theorem dX9_takes_93 : decode cX9_takes 93 = .ok (.iadd, 1) := by decide +kernel
theorem dX9_takes_94 : decode cX9_takes 94 = .ok (.iaload, 1) := by decide +kernel
theorem dX9_takes_95 : decode cX9_takes 95 = .ok (.if_icmp .le 55, 3) := by decide +kernel
theorem dX9_takes_98 : decode cX9_takes 98 = .ok (.aload_n 0, 1) := by decide +kernel
theorem dX9_takes_99 : decode cX9_takes 99 = .ok (.getfield 7, 3) := by decide +kernel
theorem dX9_takes_102 : decode cX9_takes 102 = .ok (.iload_n 1, 1) := by decide +kernel
theorem dX9_takes_103 : decode cX9_takes 103 = .ok (.iconst 0, 1) := by decide +kernel
theorem dX9_takes_104 : decode cX9_takes 104 = .ok (.iadd, 1) := by decide +kernel
theorem dX9_takes_105 : decode cX9_takes 105 = .ok (.iaload, 1) := by decide +kernel
theorem dX9_takes_106 : decode cX9_takes 106 = .ok (.aload_n 0, 1) := by decide +kernel
theorem dX9_takes_107 : decode cX9_takes 107 = .ok (.getfield 7, 3) := by decide +kernel
theorem dX9_takes_110 : decode cX9_takes 110 = .ok (.iload_n 1, 1) := by decide +kernel
theorem dX9_takes_111 : decode cX9_takes 111 = .ok (.iconst 5, 1) := by decide +kernel
theorem dX9_takes_112 : decode cX9_takes 112 = .ok (.iadd, 1) := by decide +kernel
theorem dX9_takes_113 : decode cX9_takes 113 = .ok (.iconst 3, 1) := by decide +kernel
theorem dX9_takes_114 : decode cX9_takes 114 = .ok (.iadd, 1) := by decide +kernel
theorem dX9_takes_115 : decode cX9_takes 115 = .ok (.iaload, 1) := by decide +kernel
theorem dX9_takes_116 : decode cX9_takes 116 = .ok (.if_icmp .ne 21, 3) := by decide +kernel
theorem dX9_takes_119 : decode cX9_takes 119 = .ok (.aload_n 0, 1) := by decide +kernel
theorem dX9_takes_120 : decode cX9_takes 120 = .ok (.getfield 7, 3) := by decide +kernel
theorem dX9_takes_123 : decode cX9_takes 123 = .ok (.iload_n 1, 1) := by decide +kernel
theorem dX9_takes_124 : decode cX9_takes 124 = .ok (.iconst 4, 1) := by decide +kernel
theorem dX9_takes_125 : decode cX9_takes 125 = .ok (.iadd, 1) := by decide +kernel
theorem dX9_takes_126 : decode cX9_takes 126 = .ok (.dup2, 1) := by decide +kernel
theorem dX9_takes_127 : decode cX9_takes 127 = .ok (.iaload, 1) := by decide +kernel
theorem dX9_takes_128 : decode cX9_takes 128 = .ok (.iconst 1, 1) := by decide +kernel
theorem dX9_takes_129 : decode cX9_takes 129 = .ok (.iadd, 1) := by decide +kernel
theorem dX9_takes_130 : decode cX9_takes 130 = .ok (.iastore, 1) := by decide +kernel
theorem dX9_takes_131 : decode cX9_takes 131 = .ok (.aload_n 0, 1) := by decide +kernel
theorem dX9_takes_132 : decode cX9_takes 132 = .ok (.iload_n 1, 1) := by decide +kernel
theorem dX9_takes_133 : decode cX9_takes 133 = .ok (.invokevirtual 29, 3) := by decide +kernel
theorem dX9_takes_136 : decode cX9_takes 136 = .ok (.return_, 1) := by decide +kernel
theorem dX9_takes_137 : decode cX9_takes 137 = .ok (.aload_n 0, 1) := by decide +kernel
theorem dX9_takes_138 : decode cX9_takes 138 = .ok (.iload_n 1, 1) := by decide +kernel
theorem dX9_takes_139 : decode cX9_takes 139 = .ok (.iload_n 3, 1) := by decide +kernel
theorem dX9_takes_140 : decode cX9_takes 140 = .ok (.iload_n 2, 1) := by decide +kernel
theorem dX9_takes_141 : decode cX9_takes 141 = .ok (.iload 4, 2) := by decide +kernel
theorem dX9_takes_143 : decode cX9_takes 143 = .ok (.iload 5, 2) := by decide +kernel
theorem dX9_takes_145 : decode cX9_takes 145 = .ok (.iload 6, 2) := by decide +kernel
theorem dX9_takes_147 : decode cX9_takes 147 = .ok (.invokevirtual 36, 3) := by decide +kernel
theorem dX9_takes_150 : decode cX9_takes 150 = .ok (.aload_n 0, 1) := by decide +kernel
theorem dX9_takes_151 : decode cX9_takes 151 = .ok (.getfield 7, 3) := by decide +kernel
theorem dX9_takes_154 : decode cX9_takes 154 = .ok (.iload_n 1, 1) := by decide +kernel
theorem dX9_takes_155 : decode cX9_takes 155 = .ok (.bipush 10, 2) := by decide +kernel
theorem dX9_takes_157 : decode cX9_takes 157 = .ok (.iadd, 1) := by decide +kernel
theorem dX9_takes_158 : decode cX9_takes 158 = .ok (.iconst 2, 1) := by decide +kernel
theorem dX9_takes_159 : decode cX9_takes 159 = .ok (.iload_n 3, 1) := by decide +kernel
theorem dX9_takes_160 : decode cX9_takes 160 = .ok (.imul, 1) := by decide +kernel
theorem dX9_takes_161 : decode cX9_takes 161 = .ok (.iadd, 1) := by decide +kernel
theorem dX9_takes_162 : decode cX9_takes 162 = .ok (.iload_n 2, 1) := by decide +kernel
theorem dX9_takes_163 : decode cX9_takes 163 = .ok (.iadd, 1) := by decide +kernel
theorem dX9_takes_164 : decode cX9_takes 164 = .ok (.dup2, 1) := by decide +kernel
theorem dX9_takes_165 : decode cX9_takes 165 = .ok (.iaload, 1) := by decide +kernel
theorem dX9_takes_166 : decode cX9_takes 166 = .ok (.iconst 1, 1) := by decide +kernel
theorem dX9_takes_167 : decode cX9_takes 167 = .ok (.iadd, 1) := by decide +kernel
theorem dX9_takes_168 : decode cX9_takes 168 = .ok (.iastore, 1) := by decide +kernel
theorem dX9_takes_169 : decode cX9_takes 169 = .ok (.aload_n 0, 1) := by decide +kernel
theorem dX9_takes_170 : decode cX9_takes 170 = .ok (.getfield 7, 3) := by decide +kernel
theorem dX9_takes_173 : decode cX9_takes 173 = .ok (.iload_n 1, 1) := by decide +kernel
theorem dX9_takes_174 : decode cX9_takes 174 = .ok (.iconst 1, 1) := by decide +kernel
theorem dX9_takes_175 : decode cX9_takes 175 = .ok (.iadd, 1) := by decide +kernel
theorem dX9_takes_176 : decode cX9_takes 176 = .ok (.aload_n 0, 1) := by decide +kernel
theorem dX9_takes_177 : decode cX9_takes 177 = .ok (.getfield 7, 3) := by decide +kernel
theorem dX9_takes_180 : decode cX9_takes 180 = .ok (.iload_n 1, 1) := by decide +kernel
theorem dX9_takes_181 : decode cX9_takes 181 = .ok (.sipush 510, 3) := by decide +kernel
theorem dX9_takes_184 : decode cX9_takes 184 = .ok (.iadd, 1) := by decide +kernel
theorem dX9_takes_185 : decode cX9_takes 185 = .ok (.iconst 2, 1) := by decide +kernel
theorem dX9_takes_186 : decode cX9_takes 186 = .ok (.iload_n 3, 1) := by decide +kernel
theorem dX9_takes_187 : decode cX9_takes 187 = .ok (.imul, 1) := by decide +kernel
theorem dX9_takes_188 : decode cX9_takes 188 = .ok (.iadd, 1) := by decide +kernel
theorem dX9_takes_189 : decode cX9_takes 189 = .ok (.iload_n 2, 1) := by decide +kernel
theorem dX9_takes_190 : decode cX9_takes 190 = .ok (.iadd, 1) := by decide +kernel
theorem dX9_takes_191 : decode cX9_takes 191 = .ok (.iaload, 1) := by decide +kernel
theorem dX9_takes_192 : decode cX9_takes 192 = .ok (.iastore, 1) := by decide +kernel
theorem dX9_takes_193 : decode cX9_takes 193 = .ok (.return_, 1) := by decide +kernel
theorem ok_X9_both : okV yX9_both RX9 2 := by decide +kernel
theorem gs_X9_32 : GoodIn wsG (wsV RX9 32 RX9 yX9_both (.code yX9_both cX9_both 3 (some .int) :: wsG)) := good_V ml_X9_32 im_X9_both se_X9_both ini_X9 co_X9_both
theorem ok_X9_clones : okV yX9_clones RX9 6 := by decide +kernel
theorem gs_X9_36 : GoodIn wsG (wsV RX9 36 RX9 yX9_clones (.code yX9_clones cX9_clones 10 none :: wsG)) := good_V ml_X9_36 im_X9_clones se_X9_clones ini_X9 co_X9_clones
def f_X9_takes (mm : (Nat → Int32)) (x1 : Int32) (x2 : Int32) : Option ((Nat → Int32)) := if (x1 + 1) < 0 ∨ 5040 ≤ (x1 + 1).toNatClampNeg then none else (if (((x1 + 510) + (2 * (mm (x1 + 1).toNatClampNeg))) + x2) < 0 ∨ 5040 ≤ (((x1 + 510) + (2 * (mm (x1 + 1).toNatClampNeg))) + x2).toNatClampNeg then none else (if (((x1 + 10) + (2 * (mm (x1 + 1).toNatClampNeg))) + x2) < 0 ∨ 5040 ≤ (((x1 + 10) + (2 * (mm (x1 + 1).toNatClampNeg))) + x2).toNatClampNeg then none else (bi1 (f_X9_both mm x1 (mm (((x1 + 510) + (2 * (mm (x1 + 1).toNatClampNeg))) + x2).toNatClampNeg)) (fun (r_4 : Int32) => if (x1 + 2) < 0 ∨ 5040 ≤ (x1 + 2).toNatClampNeg then none else (if (x1 + 2) < 0 ∨ 5040 ≤ (x1 + 2).toNatClampNeg then none else (if ((x1 + 5) + 1) < 0 ∨ 5040 ≤ ((x1 + 5) + 1).toNatClampNeg then none else (if (mm (((x1 + 10) + (2 * (mm (x1 + 1).toNatClampNeg))) + x2).toNatClampNeg) ≤ ((upd mm (x1 + 2).toNatClampNeg ((mm (x1 + 2).toNatClampNeg) + 1)) ((x1 + 5) + 1).toNatClampNeg) then (if (((x1 + 10) + (2 * (mm (x1 + 1).toNatClampNeg))) + x2) < 0 ∨ 5040 ≤ (((x1 + 10) + (2 * (mm (x1 + 1).toNatClampNeg))) + x2).toNatClampNeg then none else (if (((x1 + 10) + (2 * (mm (x1 + 1).toNatClampNeg))) + x2) < 0 ∨ 5040 ≤ (((x1 + 10) + (2 * (mm (x1 + 1).toNatClampNeg))) + x2).toNatClampNeg then none else (if (((x1 + 510) + (2 * (mm (x1 + 1).toNatClampNeg))) + x2) < 0 ∨ 5040 ≤ (((x1 + 510) + (2 * (mm (x1 + 1).toNatClampNeg))) + x2).toNatClampNeg then none else (if (x1 + 1) < 0 ∨ 5040 ≤ (x1 + 1).toNatClampNeg then none else (some (upd (upd (upd mm (x1 + 2).toNatClampNeg ((mm (x1 + 2).toNatClampNeg) + 1)) (((x1 + 10) + (2 * (mm (x1 + 1).toNatClampNeg))) + x2).toNatClampNeg (((upd mm (x1 + 2).toNatClampNeg ((mm (x1 + 2).toNatClampNeg) + 1)) (((x1 + 10) + (2 * (mm (x1 + 1).toNatClampNeg))) + x2).toNatClampNeg) + 1)) (x1 + 1).toNatClampNeg ((upd (upd mm (x1 + 2).toNatClampNeg ((mm (x1 + 2).toNatClampNeg) + 1)) (((x1 + 10) + (2 * (mm (x1 + 1).toNatClampNeg))) + x2).toNatClampNeg (((upd mm (x1 + 2).toNatClampNeg ((mm (x1 + 2).toNatClampNeg) + 1)) (((x1 + 10) + (2 * (mm (x1 + 1).toNatClampNeg))) + x2).toNatClampNeg) + 1)) (((x1 + 510) + (2 * (mm (x1 + 1).toNatClampNeg))) + x2).toNatClampNeg))))))) else (if ((x1 + 5) + 2) < 0 ∨ 5040 ≤ ((x1 + 5) + 2).toNatClampNeg then none else (if (r_4 - (mm (((x1 + 10) + (2 * (mm (x1 + 1).toNatClampNeg))) + x2).toNatClampNeg)) ≤ ((upd mm (x1 + 2).toNatClampNeg ((mm (x1 + 2).toNatClampNeg) + 1)) ((x1 + 5) + 2).toNatClampNeg) then (if (((x1 + 10) + (2 * (mm (x1 + 1).toNatClampNeg))) + x2) < 0 ∨ 5040 ≤ (((x1 + 10) + (2 * (mm (x1 + 1).toNatClampNeg))) + x2).toNatClampNeg then none else (if (((x1 + 10) + (2 * (mm (x1 + 1).toNatClampNeg))) + x2) < 0 ∨ 5040 ≤ (((x1 + 10) + (2 * (mm (x1 + 1).toNatClampNeg))) + x2).toNatClampNeg then none else (if (((x1 + 510) + (2 * (mm (x1 + 1).toNatClampNeg))) + x2) < 0 ∨ 5040 ≤ (((x1 + 510) + (2 * (mm (x1 + 1).toNatClampNeg))) + x2).toNatClampNeg then none else (if (x1 + 1) < 0 ∨ 5040 ≤ (x1 + 1).toNatClampNeg then none else (some (upd (upd (upd mm (x1 + 2).toNatClampNeg ((mm (x1 + 2).toNatClampNeg) + 1)) (((x1 + 10) + (2 * (mm (x1 + 1).toNatClampNeg))) + x2).toNatClampNeg (((upd mm (x1 + 2).toNatClampNeg ((mm (x1 + 2).toNatClampNeg) + 1)) (((x1 + 10) + (2 * (mm (x1 + 1).toNatClampNeg))) + x2).toNatClampNeg) + 1)) (x1 + 1).toNatClampNeg ((upd (upd mm (x1 + 2).toNatClampNeg ((mm (x1 + 2).toNatClampNeg) + 1)) (((x1 + 10) + (2 * (mm (x1 + 1).toNatClampNeg))) + x2).toNatClampNeg (((upd mm (x1 + 2).toNatClampNeg ((mm (x1 + 2).toNatClampNeg) + 1)) (((x1 + 10) + (2 * (mm (x1 + 1).toNatClampNeg))) + x2).toNatClampNeg) + 1)) (((x1 + 510) + (2 * (mm (x1 + 1).toNatClampNeg))) + x2).toNatClampNeg))))))) else (if (x1 + 0) < 0 ∨ 5040 ≤ (x1 + 0).toNatClampNeg then none else (if ((x1 + 5) + 3) < 0 ∨ 5040 ≤ ((x1 + 5) + 3).toNatClampNeg then none else (if ((upd mm (x1 + 2).toNatClampNeg ((mm (x1 + 2).toNatClampNeg) + 1)) (x1 + 0).toNatClampNeg) = ((upd mm (x1 + 2).toNatClampNeg ((mm (x1 + 2).toNatClampNeg) + 1)) ((x1 + 5) + 3).toNatClampNeg) then (if (x1 + 4) < 0 ∨ 5040 ≤ (x1 + 4).toNatClampNeg then none else (if (x1 + 4) < 0 ∨ 5040 ≤ (x1 + 4).toNatClampNeg then none else (bi1 (f_X9_lays (upd (upd mm (x1 + 2).toNatClampNeg ((mm (x1 + 2).toNatClampNeg) + 1)) (x1 + 4).toNatClampNeg (((upd mm (x1 + 2).toNatClampNeg ((mm (x1 + 2).toNatClampNeg) + 1)) (x1 + 4).toNatClampNeg) + 1)) x1) (fun (t_31 : (Nat → Int32)) => some t_31)))) else (bi1 (f_X9_clones (upd mm (x1 + 2).toNatClampNeg ((mm (x1 + 2).toNatClampNeg) + 1)) x1 (mm (x1 + 1).toNatClampNeg) x2 (mm (((x1 + 510) + (2 * (mm (x1 + 1).toNatClampNeg))) + x2).toNatClampNeg) (mm (((x1 + 10) + (2 * (mm (x1 + 1).toNatClampNeg))) + x2).toNatClampNeg) r_4) (fun (t_23 : (Nat → Int32)) => if (((x1 + 10) + (2 * (mm (x1 + 1).toNatClampNeg))) + x2) < 0 ∨ 5040 ≤ (((x1 + 10) + (2 * (mm (x1 + 1).toNatClampNeg))) + x2).toNatClampNeg then none else (if (((x1 + 10) + (2 * (mm (x1 + 1).toNatClampNeg))) + x2) < 0 ∨ 5040 ≤ (((x1 + 10) + (2 * (mm (x1 + 1).toNatClampNeg))) + x2).toNatClampNeg then none else (if (((x1 + 510) + (2 * (mm (x1 + 1).toNatClampNeg))) + x2) < 0 ∨ 5040 ≤ (((x1 + 510) + (2 * (mm (x1 + 1).toNatClampNeg))) + x2).toNatClampNeg then none else (if (x1 + 1) < 0 ∨ 5040 ≤ (x1 + 1).toNatClampNeg then none else (some (upd (upd t_23 (((x1 + 10) + (2 * (mm (x1 + 1).toNatClampNeg))) + x2).toNatClampNeg ((t_23 (((x1 + 10) + (2 * (mm (x1 + 1).toNatClampNeg))) + x2).toNatClampNeg) + 1)) (x1 + 1).toNatClampNeg ((upd t_23 (((x1 + 10) + (2 * (mm (x1 + 1).toNatClampNeg))) + x2).toNatClampNeg ((t_23 (((x1 + 10) + (2 * (mm (x1 + 1).toNatClampNeg))) + x2).toNatClampNeg) + 1)) (((x1 + 510) + (2 * (mm (x1 + 1).toNatClampNeg))) + x2).toNatClampNeg))))))))))))))))))))
set_option maxHeartbeats 4000000 in
set_option maxRecDepth 100000 in
theorem c_X9_takes (l : Launch) (D : va_G) (cI : ClassId) {sz : Nat} (q : Nat) (qm : Nat) (qi : Nat) (qp : Nat) (qo : Nat) (qg : Nat) (kept : Int32) (im : Int32) (pm : Int32) (om : Int32) (lo : Int64) (hi_ : Int64) (cde : Int64) (fr : Int32) (sp : Int32) (mm : (Nat → Int32)) (inp : (Nat → Int32)) (pk : (Nat → Int32)) (out : (Nat → Int32)) (gr : (Nat → Int32)) (x1 : Int32) (x2 : Int32) (o_mm : (Nat → Int32)) (hf : f_X9_takes mm x1 x2 = some o_mm) : Met l yX9_takes (.code yX9_takes cX9_takes 7 none :: wsG) ({ frames := 1, cells := 0, slots := 0, locals := 29 }) (va_Pc [.ref q, .int x1, .int x2] (gv D cI sz [(q, .inr (9, [.ref qm, .int kept, .ref qi, .int im, .ref qp, .int pm, .ref qo, .int om, .ref qg, .long lo, .long hi_, .long cde, .int fr, .int sp])), (qm, .inl (cI, 5040, .inl mm)), (qi, .inl (cI, 60, .inl inp)), (qp, .inl (cI, 2000, .inl pk)), (qo, .inl (cI, 60, .inl out)), (qg, .inl (cI, 6, .inl gr))])) (va_Qv (fun (_ : Unit) => True) (gz D (va_A [(q, .inr (9, [.ref qm, .int kept, .ref qi, .int im, .ref qp, .int pm, .ref qo, .int om, .ref qg, .long lo, .long hi_, .long cde, .int fr, .int sp])), (qm, .inl (cI, 5040, .inl mm)), (qi, .inl (cI, 60, .inl inp)), (qp, .inl (cI, 2000, .inl pk)), (qo, .inl (cI, 60, .inl out)), (qg, .inl (cI, 6, .inl gr))] sz) [(q, .inr (9, [.ref qm, .int kept, .ref qi, .int im, .ref qp, .int pm, .ref qo, .int om, .ref qg, .long lo, .long hi_, .long cde, .int fr, .int sp])), (qm, .inl (cI, 5040, .inl o_mm)), (qi, .inl (cI, 60, .inl inp)), (qp, .inl (cI, 2000, .inl pk)), (qo, .inl (cI, 60, .inl out)), (qg, .inl (cI, 6, .inl gr))]) (va_A [(q, .inr (9, [.ref qm, .int kept, .ref qi, .int im, .ref qp, .int pm, .ref qo, .int om, .ref qg, .long lo, .long hi_, .long cde, .int fr, .int sp])), (qm, .inl (cI, 5040, .inl mm)), (qi, .inl (cI, 60, .inl inp)), (qp, .inl (cI, 2000, .inl pk)), (qo, .inl (cI, 60, .inl out)), (qg, .inl (cI, 6, .inl gr))] sz)) 0 0 (va_A [(q, .inr (9, [.ref qm, .int kept, .ref qi, .int im, .ref qp, .int pm, .ref qo, .int om, .ref qg, .long lo, .long hi_, .long cde, .int fr, .int sp])), (qm, .inl (cI, 5040, .inl mm)), (qi, .inl (cI, 60, .inl inp)), (qp, .inl (cI, 2000, .inl pk)), (qo, .inl (cI, 60, .inl out)), (qg, .inl (cI, 6, .inl gr))] sz) := by
  refine k_rw (y := yX9_takes) (cc := cX9_takes) (maxL := 7) (ret := none) (As := [.ref q, .int x1, .int x2]) (Qc := fun A => va_Qv (fun (_ : Unit) => True) (gz D A [(q, .inr (9, [.ref qm, .int kept, .ref qi, .int im, .ref qp, .int pm, .ref qo, .int om, .ref qg, .long lo, .long hi_, .long cde, .int fr, .int sp])), (qm, .inl (cI, 5040, .inl o_mm)), (qi, .inl (cI, 60, .inl inp)), (qp, .inl (cI, 2000, .inl pk)), (qo, .inl (cI, 60, .inl out)), (qg, .inl (cI, 6, .inl gr))]) A) (by decide) rfl (Nat.le_of_ble_eq_true rfl) rfl ?_
  intro p e s m below meth c ls A S hret hloc hK hN hSF hP hD hS hA hl
  obtain ⟨hx, hb, hml, hown, hts⟩ := id S
  unfold f_X9_takes at hf
  refine lv_aload_n hx hb dX9_takes_0 rfl (lv_at hl 0 rfl) ?_
  refine va_get (D := D) (ci := 9) (v := .ref qm) (C := RX9) (T := TX9) (N := 14) hx hb hts inGX9 hown hK hP 0 rfl rfl 0 (by decide) (hts _ fl_X9_7) (fun _ h9 => h9) rfl dX9_takes_1 ?_
  refine lv_iload_n hx hb dX9_takes_4 rfl (lv_at hl 1 rfl) ?_
  refine lv_iconst (v := 1) hx hb dX9_takes_5 (by decide) ?_
  refine lv_iadd hx hb dX9_takes_6 ?_
  have b_1 : ¬ ((x1 + 1) < 0 ∨ 5040 ≤ (x1 + 1).toNatClampNeg) := fun q => by rw [if_pos q] at hf; cases hf
  rw [if_neg b_1] at hf
  refine va_iald hx hb hK hP 1 0 rfl rfl b_1 dX9_takes_7 ?_
  refine lv_istore_n (lv' := [(3, .int (mm (x1 + 1).toNatClampNeg)), (0, .ref q), (1, .int x1), (2, .int x2)]) hx hb dX9_takes_8 rfl hl (by decide) rfl (fun ls hl => ?_)
  refine lv_aload_n hx hb dX9_takes_9 rfl (lv_at hl 1 rfl) ?_
  refine va_get (D := D) (ci := 9) (v := .ref qm) (C := RX9) (T := TX9) (N := 14) hx hb hts inGX9 hown hK hP 0 rfl rfl 0 (by decide) (hts _ fl_X9_7) (fun _ h9 => h9) rfl dX9_takes_10 ?_
  refine lv_iload_n hx hb dX9_takes_13 rfl (lv_at hl 2 rfl) ?_
  refine lv_sipush (v := 510) hx hb dX9_takes_14 (by decide) ?_
  refine lv_iadd hx hb dX9_takes_17 ?_
  refine lv_iconst (v := 2) hx hb dX9_takes_18 (by decide) ?_
  refine lv_iload_n hx hb dX9_takes_19 rfl (lv_at hl 0 rfl) ?_
  refine lv_imul hx hb dX9_takes_20 ?_
  refine lv_iadd hx hb dX9_takes_21 ?_
  refine lv_iload_n hx hb dX9_takes_22 rfl (lv_at hl 3 rfl) ?_
  refine lv_iadd hx hb dX9_takes_23 ?_
  have b_2 : ¬ ((((x1 + 510) + (2 * (mm (x1 + 1).toNatClampNeg))) + x2) < 0 ∨ 5040 ≤ (((x1 + 510) + (2 * (mm (x1 + 1).toNatClampNeg))) + x2).toNatClampNeg) := fun q => by rw [if_pos q] at hf; cases hf
  rw [if_neg b_2] at hf
  refine va_iald hx hb hK hP 1 0 rfl rfl b_2 dX9_takes_24 ?_
  refine lv_istore (lv' := [(4, .int (mm (((x1 + 510) + (2 * (mm (x1 + 1).toNatClampNeg))) + x2).toNatClampNeg)), (3, .int (mm (x1 + 1).toNatClampNeg)), (0, .ref q), (1, .int x1), (2, .int x2)]) hx hb dX9_takes_25 hl (by decide) rfl (fun ls hl => ?_)
  refine lv_aload_n hx hb dX9_takes_27 rfl (lv_at hl 2 rfl) ?_
  refine va_get (D := D) (ci := 9) (v := .ref qm) (C := RX9) (T := TX9) (N := 14) hx hb hts inGX9 hown hK hP 0 rfl rfl 0 (by decide) (hts _ fl_X9_7) (fun _ h9 => h9) rfl dX9_takes_28 ?_
  refine lv_iload_n hx hb dX9_takes_31 rfl (lv_at hl 3 rfl) ?_
  refine lv_bipush (v := 10) hx hb dX9_takes_32 (by decide) ?_
  refine lv_iadd hx hb dX9_takes_34 ?_
  refine lv_iconst (v := 2) hx hb dX9_takes_35 (by decide) ?_
  refine lv_iload_n hx hb dX9_takes_36 rfl (lv_at hl 1 rfl) ?_
  refine lv_imul hx hb dX9_takes_37 ?_
  refine lv_iadd hx hb dX9_takes_38 ?_
  refine lv_iload_n hx hb dX9_takes_39 rfl (lv_at hl 4 rfl) ?_
  refine lv_iadd hx hb dX9_takes_40 ?_
  have b_3 : ¬ ((((x1 + 10) + (2 * (mm (x1 + 1).toNatClampNeg))) + x2) < 0 ∨ 5040 ≤ (((x1 + 10) + (2 * (mm (x1 + 1).toNatClampNeg))) + x2).toNatClampNeg) := fun q => by rw [if_pos q] at hf; cases hf
  rw [if_neg b_3] at hf
  refine va_iald hx hb hK hP 1 0 rfl rfl b_3 dX9_takes_41 ?_
  refine lv_istore (lv' := [(5, .int (mm (((x1 + 10) + (2 * (mm (x1 + 1).toNatClampNeg))) + x2).toNatClampNeg)), (4, .int (mm (((x1 + 510) + (2 * (mm (x1 + 1).toNatClampNeg))) + x2).toNatClampNeg)), (3, .int (mm (x1 + 1).toNatClampNeg)), (0, .ref q), (1, .int x1), (2, .int x2)]) hx hb dX9_takes_42 hl (by decide) rfl (fun ls hl => ?_)
  refine lv_aload_n hx hb dX9_takes_44 rfl (lv_at hl 3 rfl) ?_
  refine lv_iload_n hx hb dX9_takes_45 rfl (lv_at hl 4 rfl) ?_
  refine lv_iload hx hb dX9_takes_46 (lv_at hl 1 rfl) ?_
  obtain ⟨r_4, hc_5, hf⟩ := bd1 hf
  refine k_roVi (As := [.int x1, .int (mm (((x1 + 510) + (2 * (mm (x1 + 1).toNatClampNeg))) + x2).toNatClampNeg)]) (rest := []) S (c_X9_both l D cI (q := q) (qm := qm) (qi := qi) (qp := qp) (qo := qo) (qg := qg) (kept := kept) (im := im) (pm := pm) (om := om) (lo := lo) (hi_ := hi_) (cde := cde) (fr := fr) (sp := sp) (mm := mm) (inp := inp) (pk := pk) (out := out) (gr := gr) (x1 := x1) (x2 := mm (((x1 + 510) + (2 * (mm (x1 + 1).toNatClampNeg))) + x2).toNatClampNeg)  (r := r_4) (hf := hc_5)) gs_X9_32 ok_X9_both ⟨rfl, rfl⟩ ⟨Nat.le_of_ble_eq_true rfl, Nat.le_of_ble_eq_true rfl⟩ hK hN (sfr hSF hS) hP rfl rfl rfl hl.1 rfl (Nat.le_of_ble_eq_true rfl) ⟨Nat.zero_le _, Nat.zero_le _⟩ dX9_takes_48 ?_
  refine lv_istore (lv' := [(6, .int r_4), (5, .int (mm (((x1 + 10) + (2 * (mm (x1 + 1).toNatClampNeg))) + x2).toNatClampNeg)), (4, .int (mm (((x1 + 510) + (2 * (mm (x1 + 1).toNatClampNeg))) + x2).toNatClampNeg)), (3, .int (mm (x1 + 1).toNatClampNeg)), (0, .ref q), (1, .int x1), (2, .int x2)]) hx hb dX9_takes_51 hl (by decide) rfl (fun ls hl => ?_)
  refine lv_aload_n hx hb dX9_takes_53 rfl (lv_at hl 4 rfl) ?_
  refine va_get (D := D) (ci := 9) (v := .ref qm) (C := RX9) (T := TX9) (N := 14) hx hb hts inGX9 hown hK hP 0 rfl rfl 0 (by decide) (hts _ fl_X9_7) (fun _ h9 => h9) rfl dX9_takes_54 ?_
  refine lv_iload_n hx hb dX9_takes_57 rfl (lv_at hl 5 rfl) ?_
  refine lv_iconst (v := 2) hx hb dX9_takes_58 (by decide) ?_
  refine lv_iadd hx hb dX9_takes_59 ?_
  refine lv_dup2_11 hx hb dX9_takes_60 rfl rfl ?_
  have b_6 : ¬ ((x1 + 2) < 0 ∨ 5040 ≤ (x1 + 2).toNatClampNeg) := fun q => by rw [if_pos q] at hf; cases hf
  rw [if_neg b_6] at hf
  refine va_iald hx hb hK hP 1 0 rfl rfl b_6 dX9_takes_61 ?_
  refine lv_iconst (v := 1) hx hb dX9_takes_62 (by decide) ?_
  refine lv_iadd hx hb dX9_takes_63 ?_
  have b_7 : ¬ ((x1 + 2) < 0 ∨ 5040 ≤ (x1 + 2).toNatClampNeg) := fun q => by rw [if_pos q] at hf; cases hf
  rw [if_neg b_7] at hf
  refine va_iast hx hb hK hP hD hS 1 0 rfl rfl b_7 dX9_takes_64 (fun H locs hP hD hS => ?_)
  have hP : va_P D vwCl [(q, .inr (9, [.ref qm, .int kept, .ref qi, .int im, .ref qp, .int pm, .ref qo, .int om, .ref qg, .long lo, .long hi_, .long cde, .int fr, .int sp])), (qm, .inl (cI, 5040, .inl (upd mm (x1 + 2).toNatClampNeg ((mm (x1 + 2).toNatClampNeg) + 1)))), (qi, .inl (cI, 60, .inl inp)), (qp, .inl (cI, 2000, .inl pk)), (qo, .inl (cI, 60, .inl out)), (qg, .inl (cI, 6, .inl gr))] H := hP
  have hD : va_D A [(q, .inr (9, [.ref qm, .int kept, .ref qi, .int im, .ref qp, .int pm, .ref qo, .int om, .ref qg, .long lo, .long hi_, .long cde, .int fr, .int sp])), (qm, .inl (cI, 5040, .inl (upd mm (x1 + 2).toNatClampNeg ((mm (x1 + 2).toNatClampNeg) + 1)))), (qi, .inl (cI, 60, .inl inp)), (qp, .inl (cI, 2000, .inl pk)), (qo, .inl (cI, 60, .inl out)), (qg, .inl (cI, 6, .inl gr))] := hD
  refine lv_iload hx hb dX9_takes_65 (lv_at hl 1 rfl) ?_
  refine lv_aload_n hx hb dX9_takes_67 rfl (lv_at hl 4 rfl) ?_
  refine va_get (D := D) (ci := 9) (v := .ref qm) (C := RX9) (T := TX9) (N := 14) hx hb hts inGX9 hown hK hP 0 rfl rfl 0 (by decide) (hts _ fl_X9_7) (fun _ h9 => h9) rfl dX9_takes_68 ?_
  refine lv_iload_n hx hb dX9_takes_71 rfl (lv_at hl 5 rfl) ?_
  refine lv_iconst (v := 5) hx hb dX9_takes_72 (by decide) ?_
  refine lv_iadd hx hb dX9_takes_73 ?_
  refine lv_iconst (v := 1) hx hb dX9_takes_74 (by decide) ?_
  refine lv_iadd hx hb dX9_takes_75 ?_
  have b_8 : ¬ (((x1 + 5) + 1) < 0 ∨ 5040 ≤ ((x1 + 5) + 1).toNatClampNeg) := fun q => by rw [if_pos q] at hf; cases hf
  rw [if_neg b_8] at hf
  refine va_iald hx hb hK hP 1 0 rfl rfl b_8 dX9_takes_76 ?_
  refine lv_icmp_le (tgt := 150) hx hb dX9_takes_77 (by decide) (fun c_9 => ?_) (fun c_9 => ?_)
  · rw [if_pos c_9] at hf
    refine lv_aload_n hx hb dX9_takes_150 rfl (lv_at hl 4 rfl) ?_
    refine va_get (D := D) (ci := 9) (v := .ref qm) (C := RX9) (T := TX9) (N := 14) hx hb hts inGX9 hown hK hP 0 rfl rfl 0 (by decide) (hts _ fl_X9_7) (fun _ h9 => h9) rfl dX9_takes_151 ?_
    refine lv_iload_n hx hb dX9_takes_154 rfl (lv_at hl 5 rfl) ?_
    refine lv_bipush (v := 10) hx hb dX9_takes_155 (by decide) ?_
    refine lv_iadd hx hb dX9_takes_157 ?_
    refine lv_iconst (v := 2) hx hb dX9_takes_158 (by decide) ?_
    refine lv_iload_n hx hb dX9_takes_159 rfl (lv_at hl 3 rfl) ?_
    refine lv_imul hx hb dX9_takes_160 ?_
    refine lv_iadd hx hb dX9_takes_161 ?_
    refine lv_iload_n hx hb dX9_takes_162 rfl (lv_at hl 6 rfl) ?_
    refine lv_iadd hx hb dX9_takes_163 ?_
    refine lv_dup2_11 hx hb dX9_takes_164 rfl rfl ?_
    have b_10 : ¬ ((((x1 + 10) + (2 * (mm (x1 + 1).toNatClampNeg))) + x2) < 0 ∨ 5040 ≤ (((x1 + 10) + (2 * (mm (x1 + 1).toNatClampNeg))) + x2).toNatClampNeg) := fun q => by rw [if_pos q] at hf; cases hf
    rw [if_neg b_10] at hf
    refine va_iald hx hb hK hP 1 0 rfl rfl b_10 dX9_takes_165 ?_
    refine lv_iconst (v := 1) hx hb dX9_takes_166 (by decide) ?_
    refine lv_iadd hx hb dX9_takes_167 ?_
    have b_11 : ¬ ((((x1 + 10) + (2 * (mm (x1 + 1).toNatClampNeg))) + x2) < 0 ∨ 5040 ≤ (((x1 + 10) + (2 * (mm (x1 + 1).toNatClampNeg))) + x2).toNatClampNeg) := fun q => by rw [if_pos q] at hf; cases hf
    rw [if_neg b_11] at hf
    refine va_iast hx hb hK hP hD hS 1 0 rfl rfl b_11 dX9_takes_168 (fun H locs hP hD hS => ?_)
    have hP : va_P D vwCl [(q, .inr (9, [.ref qm, .int kept, .ref qi, .int im, .ref qp, .int pm, .ref qo, .int om, .ref qg, .long lo, .long hi_, .long cde, .int fr, .int sp])), (qm, .inl (cI, 5040, .inl (upd (upd mm (x1 + 2).toNatClampNeg ((mm (x1 + 2).toNatClampNeg) + 1)) (((x1 + 10) + (2 * (mm (x1 + 1).toNatClampNeg))) + x2).toNatClampNeg (((upd mm (x1 + 2).toNatClampNeg ((mm (x1 + 2).toNatClampNeg) + 1)) (((x1 + 10) + (2 * (mm (x1 + 1).toNatClampNeg))) + x2).toNatClampNeg) + 1)))), (qi, .inl (cI, 60, .inl inp)), (qp, .inl (cI, 2000, .inl pk)), (qo, .inl (cI, 60, .inl out)), (qg, .inl (cI, 6, .inl gr))] H := hP
    have hD : va_D A [(q, .inr (9, [.ref qm, .int kept, .ref qi, .int im, .ref qp, .int pm, .ref qo, .int om, .ref qg, .long lo, .long hi_, .long cde, .int fr, .int sp])), (qm, .inl (cI, 5040, .inl (upd (upd mm (x1 + 2).toNatClampNeg ((mm (x1 + 2).toNatClampNeg) + 1)) (((x1 + 10) + (2 * (mm (x1 + 1).toNatClampNeg))) + x2).toNatClampNeg (((upd mm (x1 + 2).toNatClampNeg ((mm (x1 + 2).toNatClampNeg) + 1)) (((x1 + 10) + (2 * (mm (x1 + 1).toNatClampNeg))) + x2).toNatClampNeg) + 1)))), (qi, .inl (cI, 60, .inl inp)), (qp, .inl (cI, 2000, .inl pk)), (qo, .inl (cI, 60, .inl out)), (qg, .inl (cI, 6, .inl gr))] := hD
    refine lv_aload_n hx hb dX9_takes_169 rfl (lv_at hl 4 rfl) ?_
    refine va_get (D := D) (ci := 9) (v := .ref qm) (C := RX9) (T := TX9) (N := 14) hx hb hts inGX9 hown hK hP 0 rfl rfl 0 (by decide) (hts _ fl_X9_7) (fun _ h9 => h9) rfl dX9_takes_170 ?_
    refine lv_iload_n hx hb dX9_takes_173 rfl (lv_at hl 5 rfl) ?_
    refine lv_iconst (v := 1) hx hb dX9_takes_174 (by decide) ?_
    refine lv_iadd hx hb dX9_takes_175 ?_
    refine lv_aload_n hx hb dX9_takes_176 rfl (lv_at hl 4 rfl) ?_
    refine va_get (D := D) (ci := 9) (v := .ref qm) (C := RX9) (T := TX9) (N := 14) hx hb hts inGX9 hown hK hP 0 rfl rfl 0 (by decide) (hts _ fl_X9_7) (fun _ h9 => h9) rfl dX9_takes_177 ?_
    refine lv_iload_n hx hb dX9_takes_180 rfl (lv_at hl 5 rfl) ?_
    refine lv_sipush (v := 510) hx hb dX9_takes_181 (by decide) ?_
    refine lv_iadd hx hb dX9_takes_184 ?_
    refine lv_iconst (v := 2) hx hb dX9_takes_185 (by decide) ?_
    refine lv_iload_n hx hb dX9_takes_186 rfl (lv_at hl 3 rfl) ?_
    refine lv_imul hx hb dX9_takes_187 ?_
    refine lv_iadd hx hb dX9_takes_188 ?_
    refine lv_iload_n hx hb dX9_takes_189 rfl (lv_at hl 6 rfl) ?_
    refine lv_iadd hx hb dX9_takes_190 ?_
    have b_12 : ¬ ((((x1 + 510) + (2 * (mm (x1 + 1).toNatClampNeg))) + x2) < 0 ∨ 5040 ≤ (((x1 + 510) + (2 * (mm (x1 + 1).toNatClampNeg))) + x2).toNatClampNeg) := fun q => by rw [if_pos q] at hf; cases hf
    rw [if_neg b_12] at hf
    refine va_iald hx hb hK hP 1 0 rfl rfl b_12 dX9_takes_191 ?_
    have b_13 : ¬ ((x1 + 1) < 0 ∨ 5040 ≤ (x1 + 1).toNatClampNeg) := fun q => by rw [if_pos q] at hf; cases hf
    rw [if_neg b_13] at hf
    refine va_iast hx hb hK hP hD hS 1 0 rfl rfl b_13 dX9_takes_192 (fun H locs hP hD hS => ?_)
    have hP : va_P D vwCl [(q, .inr (9, [.ref qm, .int kept, .ref qi, .int im, .ref qp, .int pm, .ref qo, .int om, .ref qg, .long lo, .long hi_, .long cde, .int fr, .int sp])), (qm, .inl (cI, 5040, .inl (upd (upd (upd mm (x1 + 2).toNatClampNeg ((mm (x1 + 2).toNatClampNeg) + 1)) (((x1 + 10) + (2 * (mm (x1 + 1).toNatClampNeg))) + x2).toNatClampNeg (((upd mm (x1 + 2).toNatClampNeg ((mm (x1 + 2).toNatClampNeg) + 1)) (((x1 + 10) + (2 * (mm (x1 + 1).toNatClampNeg))) + x2).toNatClampNeg) + 1)) (x1 + 1).toNatClampNeg ((upd (upd mm (x1 + 2).toNatClampNeg ((mm (x1 + 2).toNatClampNeg) + 1)) (((x1 + 10) + (2 * (mm (x1 + 1).toNatClampNeg))) + x2).toNatClampNeg (((upd mm (x1 + 2).toNatClampNeg ((mm (x1 + 2).toNatClampNeg) + 1)) (((x1 + 10) + (2 * (mm (x1 + 1).toNatClampNeg))) + x2).toNatClampNeg) + 1)) (((x1 + 510) + (2 * (mm (x1 + 1).toNatClampNeg))) + x2).toNatClampNeg)))), (qi, .inl (cI, 60, .inl inp)), (qp, .inl (cI, 2000, .inl pk)), (qo, .inl (cI, 60, .inl out)), (qg, .inl (cI, 6, .inl gr))] H := hP
    have hD : va_D A [(q, .inr (9, [.ref qm, .int kept, .ref qi, .int im, .ref qp, .int pm, .ref qo, .int om, .ref qg, .long lo, .long hi_, .long cde, .int fr, .int sp])), (qm, .inl (cI, 5040, .inl (upd (upd (upd mm (x1 + 2).toNatClampNeg ((mm (x1 + 2).toNatClampNeg) + 1)) (((x1 + 10) + (2 * (mm (x1 + 1).toNatClampNeg))) + x2).toNatClampNeg (((upd mm (x1 + 2).toNatClampNeg ((mm (x1 + 2).toNatClampNeg) + 1)) (((x1 + 10) + (2 * (mm (x1 + 1).toNatClampNeg))) + x2).toNatClampNeg) + 1)) (x1 + 1).toNatClampNeg ((upd (upd mm (x1 + 2).toNatClampNeg ((mm (x1 + 2).toNatClampNeg) + 1)) (((x1 + 10) + (2 * (mm (x1 + 1).toNatClampNeg))) + x2).toNatClampNeg (((upd mm (x1 + 2).toNatClampNeg ((mm (x1 + 2).toNatClampNeg) + 1)) (((x1 + 10) + (2 * (mm (x1 + 1).toNatClampNeg))) + x2).toNatClampNeg) + 1)) (((x1 + 510) + (2 * (mm (x1 + 1).toNatClampNeg))) + x2).toNatClampNeg)))), (qi, .inl (cI, 60, .inl inp)), (qp, .inl (cI, 2000, .inl pk)), (qo, .inl (cI, 60, .inl out)), (qg, .inl (cI, 6, .inl gr))] := hD
    have e_0 := Option.some.inj hf
    subst e_0
    exact k_wretv hx hb hret hloc hP hD hS dX9_takes_193
  · rw [if_neg c_9] at hf
    refine lv_iload hx hb dX9_takes_80 (lv_at hl 0 rfl) ?_
    refine lv_iload hx hb dX9_takes_82 (lv_at hl 1 rfl) ?_
    refine lv_isub hx hb dX9_takes_84 ?_
    refine lv_aload_n hx hb dX9_takes_85 rfl (lv_at hl 4 rfl) ?_
    refine va_get (D := D) (ci := 9) (v := .ref qm) (C := RX9) (T := TX9) (N := 14) hx hb hts inGX9 hown hK hP 0 rfl rfl 0 (by decide) (hts _ fl_X9_7) (fun _ h9 => h9) rfl dX9_takes_86 ?_
    refine lv_iload_n hx hb dX9_takes_89 rfl (lv_at hl 5 rfl) ?_
    refine lv_iconst (v := 5) hx hb dX9_takes_90 (by decide) ?_
    refine lv_iadd hx hb dX9_takes_91 ?_
    refine lv_iconst (v := 2) hx hb dX9_takes_92 (by decide) ?_
    refine lv_iadd hx hb dX9_takes_93 ?_
    have b_14 : ¬ (((x1 + 5) + 2) < 0 ∨ 5040 ≤ ((x1 + 5) + 2).toNatClampNeg) := fun q => by rw [if_pos q] at hf; cases hf
    rw [if_neg b_14] at hf
    refine va_iald hx hb hK hP 1 0 rfl rfl b_14 dX9_takes_94 ?_
    refine lv_icmp_le (tgt := 150) hx hb dX9_takes_95 (by decide) (fun c_15 => ?_) (fun c_15 => ?_)
    · rw [if_pos c_15] at hf
      refine lv_aload_n hx hb dX9_takes_150 rfl (lv_at hl 4 rfl) ?_
      refine va_get (D := D) (ci := 9) (v := .ref qm) (C := RX9) (T := TX9) (N := 14) hx hb hts inGX9 hown hK hP 0 rfl rfl 0 (by decide) (hts _ fl_X9_7) (fun _ h9 => h9) rfl dX9_takes_151 ?_
      refine lv_iload_n hx hb dX9_takes_154 rfl (lv_at hl 5 rfl) ?_
      refine lv_bipush (v := 10) hx hb dX9_takes_155 (by decide) ?_
      refine lv_iadd hx hb dX9_takes_157 ?_
      refine lv_iconst (v := 2) hx hb dX9_takes_158 (by decide) ?_
      refine lv_iload_n hx hb dX9_takes_159 rfl (lv_at hl 3 rfl) ?_
      refine lv_imul hx hb dX9_takes_160 ?_
      refine lv_iadd hx hb dX9_takes_161 ?_
      refine lv_iload_n hx hb dX9_takes_162 rfl (lv_at hl 6 rfl) ?_
      refine lv_iadd hx hb dX9_takes_163 ?_
      refine lv_dup2_11 hx hb dX9_takes_164 rfl rfl ?_
      have b_16 : ¬ ((((x1 + 10) + (2 * (mm (x1 + 1).toNatClampNeg))) + x2) < 0 ∨ 5040 ≤ (((x1 + 10) + (2 * (mm (x1 + 1).toNatClampNeg))) + x2).toNatClampNeg) := fun q => by rw [if_pos q] at hf; cases hf
      rw [if_neg b_16] at hf
      refine va_iald hx hb hK hP 1 0 rfl rfl b_16 dX9_takes_165 ?_
      refine lv_iconst (v := 1) hx hb dX9_takes_166 (by decide) ?_
      refine lv_iadd hx hb dX9_takes_167 ?_
      have b_17 : ¬ ((((x1 + 10) + (2 * (mm (x1 + 1).toNatClampNeg))) + x2) < 0 ∨ 5040 ≤ (((x1 + 10) + (2 * (mm (x1 + 1).toNatClampNeg))) + x2).toNatClampNeg) := fun q => by rw [if_pos q] at hf; cases hf
      rw [if_neg b_17] at hf
      refine va_iast hx hb hK hP hD hS 1 0 rfl rfl b_17 dX9_takes_168 (fun H locs hP hD hS => ?_)
      have hP : va_P D vwCl [(q, .inr (9, [.ref qm, .int kept, .ref qi, .int im, .ref qp, .int pm, .ref qo, .int om, .ref qg, .long lo, .long hi_, .long cde, .int fr, .int sp])), (qm, .inl (cI, 5040, .inl (upd (upd mm (x1 + 2).toNatClampNeg ((mm (x1 + 2).toNatClampNeg) + 1)) (((x1 + 10) + (2 * (mm (x1 + 1).toNatClampNeg))) + x2).toNatClampNeg (((upd mm (x1 + 2).toNatClampNeg ((mm (x1 + 2).toNatClampNeg) + 1)) (((x1 + 10) + (2 * (mm (x1 + 1).toNatClampNeg))) + x2).toNatClampNeg) + 1)))), (qi, .inl (cI, 60, .inl inp)), (qp, .inl (cI, 2000, .inl pk)), (qo, .inl (cI, 60, .inl out)), (qg, .inl (cI, 6, .inl gr))] H := hP
      have hD : va_D A [(q, .inr (9, [.ref qm, .int kept, .ref qi, .int im, .ref qp, .int pm, .ref qo, .int om, .ref qg, .long lo, .long hi_, .long cde, .int fr, .int sp])), (qm, .inl (cI, 5040, .inl (upd (upd mm (x1 + 2).toNatClampNeg ((mm (x1 + 2).toNatClampNeg) + 1)) (((x1 + 10) + (2 * (mm (x1 + 1).toNatClampNeg))) + x2).toNatClampNeg (((upd mm (x1 + 2).toNatClampNeg ((mm (x1 + 2).toNatClampNeg) + 1)) (((x1 + 10) + (2 * (mm (x1 + 1).toNatClampNeg))) + x2).toNatClampNeg) + 1)))), (qi, .inl (cI, 60, .inl inp)), (qp, .inl (cI, 2000, .inl pk)), (qo, .inl (cI, 60, .inl out)), (qg, .inl (cI, 6, .inl gr))] := hD
      refine lv_aload_n hx hb dX9_takes_169 rfl (lv_at hl 4 rfl) ?_
      refine va_get (D := D) (ci := 9) (v := .ref qm) (C := RX9) (T := TX9) (N := 14) hx hb hts inGX9 hown hK hP 0 rfl rfl 0 (by decide) (hts _ fl_X9_7) (fun _ h9 => h9) rfl dX9_takes_170 ?_
      refine lv_iload_n hx hb dX9_takes_173 rfl (lv_at hl 5 rfl) ?_
      refine lv_iconst (v := 1) hx hb dX9_takes_174 (by decide) ?_
      refine lv_iadd hx hb dX9_takes_175 ?_
      refine lv_aload_n hx hb dX9_takes_176 rfl (lv_at hl 4 rfl) ?_
      refine va_get (D := D) (ci := 9) (v := .ref qm) (C := RX9) (T := TX9) (N := 14) hx hb hts inGX9 hown hK hP 0 rfl rfl 0 (by decide) (hts _ fl_X9_7) (fun _ h9 => h9) rfl dX9_takes_177 ?_
      refine lv_iload_n hx hb dX9_takes_180 rfl (lv_at hl 5 rfl) ?_
      refine lv_sipush (v := 510) hx hb dX9_takes_181 (by decide) ?_
      refine lv_iadd hx hb dX9_takes_184 ?_
      refine lv_iconst (v := 2) hx hb dX9_takes_185 (by decide) ?_
      refine lv_iload_n hx hb dX9_takes_186 rfl (lv_at hl 3 rfl) ?_
      refine lv_imul hx hb dX9_takes_187 ?_
      refine lv_iadd hx hb dX9_takes_188 ?_
      refine lv_iload_n hx hb dX9_takes_189 rfl (lv_at hl 6 rfl) ?_
      refine lv_iadd hx hb dX9_takes_190 ?_
      have b_18 : ¬ ((((x1 + 510) + (2 * (mm (x1 + 1).toNatClampNeg))) + x2) < 0 ∨ 5040 ≤ (((x1 + 510) + (2 * (mm (x1 + 1).toNatClampNeg))) + x2).toNatClampNeg) := fun q => by rw [if_pos q] at hf; cases hf
      rw [if_neg b_18] at hf
      refine va_iald hx hb hK hP 1 0 rfl rfl b_18 dX9_takes_191 ?_
      have b_19 : ¬ ((x1 + 1) < 0 ∨ 5040 ≤ (x1 + 1).toNatClampNeg) := fun q => by rw [if_pos q] at hf; cases hf
      rw [if_neg b_19] at hf
      refine va_iast hx hb hK hP hD hS 1 0 rfl rfl b_19 dX9_takes_192 (fun H locs hP hD hS => ?_)
      have hP : va_P D vwCl [(q, .inr (9, [.ref qm, .int kept, .ref qi, .int im, .ref qp, .int pm, .ref qo, .int om, .ref qg, .long lo, .long hi_, .long cde, .int fr, .int sp])), (qm, .inl (cI, 5040, .inl (upd (upd (upd mm (x1 + 2).toNatClampNeg ((mm (x1 + 2).toNatClampNeg) + 1)) (((x1 + 10) + (2 * (mm (x1 + 1).toNatClampNeg))) + x2).toNatClampNeg (((upd mm (x1 + 2).toNatClampNeg ((mm (x1 + 2).toNatClampNeg) + 1)) (((x1 + 10) + (2 * (mm (x1 + 1).toNatClampNeg))) + x2).toNatClampNeg) + 1)) (x1 + 1).toNatClampNeg ((upd (upd mm (x1 + 2).toNatClampNeg ((mm (x1 + 2).toNatClampNeg) + 1)) (((x1 + 10) + (2 * (mm (x1 + 1).toNatClampNeg))) + x2).toNatClampNeg (((upd mm (x1 + 2).toNatClampNeg ((mm (x1 + 2).toNatClampNeg) + 1)) (((x1 + 10) + (2 * (mm (x1 + 1).toNatClampNeg))) + x2).toNatClampNeg) + 1)) (((x1 + 510) + (2 * (mm (x1 + 1).toNatClampNeg))) + x2).toNatClampNeg)))), (qi, .inl (cI, 60, .inl inp)), (qp, .inl (cI, 2000, .inl pk)), (qo, .inl (cI, 60, .inl out)), (qg, .inl (cI, 6, .inl gr))] H := hP
      have hD : va_D A [(q, .inr (9, [.ref qm, .int kept, .ref qi, .int im, .ref qp, .int pm, .ref qo, .int om, .ref qg, .long lo, .long hi_, .long cde, .int fr, .int sp])), (qm, .inl (cI, 5040, .inl (upd (upd (upd mm (x1 + 2).toNatClampNeg ((mm (x1 + 2).toNatClampNeg) + 1)) (((x1 + 10) + (2 * (mm (x1 + 1).toNatClampNeg))) + x2).toNatClampNeg (((upd mm (x1 + 2).toNatClampNeg ((mm (x1 + 2).toNatClampNeg) + 1)) (((x1 + 10) + (2 * (mm (x1 + 1).toNatClampNeg))) + x2).toNatClampNeg) + 1)) (x1 + 1).toNatClampNeg ((upd (upd mm (x1 + 2).toNatClampNeg ((mm (x1 + 2).toNatClampNeg) + 1)) (((x1 + 10) + (2 * (mm (x1 + 1).toNatClampNeg))) + x2).toNatClampNeg (((upd mm (x1 + 2).toNatClampNeg ((mm (x1 + 2).toNatClampNeg) + 1)) (((x1 + 10) + (2 * (mm (x1 + 1).toNatClampNeg))) + x2).toNatClampNeg) + 1)) (((x1 + 510) + (2 * (mm (x1 + 1).toNatClampNeg))) + x2).toNatClampNeg)))), (qi, .inl (cI, 60, .inl inp)), (qp, .inl (cI, 2000, .inl pk)), (qo, .inl (cI, 60, .inl out)), (qg, .inl (cI, 6, .inl gr))] := hD
      have e_0 := Option.some.inj hf
      subst e_0
      exact k_wretv hx hb hret hloc hP hD hS dX9_takes_193
    · rw [if_neg c_15] at hf
      refine lv_aload_n hx hb dX9_takes_98 rfl (lv_at hl 4 rfl) ?_
      refine va_get (D := D) (ci := 9) (v := .ref qm) (C := RX9) (T := TX9) (N := 14) hx hb hts inGX9 hown hK hP 0 rfl rfl 0 (by decide) (hts _ fl_X9_7) (fun _ h9 => h9) rfl dX9_takes_99 ?_
      refine lv_iload_n hx hb dX9_takes_102 rfl (lv_at hl 5 rfl) ?_
      refine lv_iconst (v := 0) hx hb dX9_takes_103 (by decide) ?_
      refine lv_iadd hx hb dX9_takes_104 ?_
      have b_20 : ¬ ((x1 + 0) < 0 ∨ 5040 ≤ (x1 + 0).toNatClampNeg) := fun q => by rw [if_pos q] at hf; cases hf
      rw [if_neg b_20] at hf
      refine va_iald hx hb hK hP 1 0 rfl rfl b_20 dX9_takes_105 ?_
      refine lv_aload_n hx hb dX9_takes_106 rfl (lv_at hl 4 rfl) ?_
      refine va_get (D := D) (ci := 9) (v := .ref qm) (C := RX9) (T := TX9) (N := 14) hx hb hts inGX9 hown hK hP 0 rfl rfl 0 (by decide) (hts _ fl_X9_7) (fun _ h9 => h9) rfl dX9_takes_107 ?_
      refine lv_iload_n hx hb dX9_takes_110 rfl (lv_at hl 5 rfl) ?_
      refine lv_iconst (v := 5) hx hb dX9_takes_111 (by decide) ?_
      refine lv_iadd hx hb dX9_takes_112 ?_
      refine lv_iconst (v := 3) hx hb dX9_takes_113 (by decide) ?_
      refine lv_iadd hx hb dX9_takes_114 ?_
      have b_21 : ¬ (((x1 + 5) + 3) < 0 ∨ 5040 ≤ ((x1 + 5) + 3).toNatClampNeg) := fun q => by rw [if_pos q] at hf; cases hf
      rw [if_neg b_21] at hf
      refine va_iald hx hb hK hP 1 0 rfl rfl b_21 dX9_takes_115 ?_
      refine lv_icmp_ne (tgt := 137) hx hb dX9_takes_116 (by decide) (fun c_22 => ?_) (fun c_22 => ?_)
      · rw [if_neg c_22] at hf
        refine lv_aload_n hx hb dX9_takes_137 rfl (lv_at hl 4 rfl) ?_
        refine lv_iload_n hx hb dX9_takes_138 rfl (lv_at hl 5 rfl) ?_
        refine lv_iload_n hx hb dX9_takes_139 rfl (lv_at hl 3 rfl) ?_
        refine lv_iload_n hx hb dX9_takes_140 rfl (lv_at hl 6 rfl) ?_
        refine lv_iload hx hb dX9_takes_141 (lv_at hl 2 rfl) ?_
        refine lv_iload hx hb dX9_takes_143 (lv_at hl 1 rfl) ?_
        refine lv_iload hx hb dX9_takes_145 (lv_at hl 0 rfl) ?_
        obtain ⟨t_23, hc_24, hf⟩ := bd1 hf
        refine k_rwVv (As := [.int x1, .int (mm (x1 + 1).toNatClampNeg), .int x2, .int (mm (((x1 + 510) + (2 * (mm (x1 + 1).toNatClampNeg))) + x2).toNatClampNeg), .int (mm (((x1 + 10) + (2 * (mm (x1 + 1).toNatClampNeg))) + x2).toNatClampNeg), .int r_4]) (rest := []) (Wr := []) (W2 := [(q, .inr (9, [.ref qm, .int kept, .ref qi, .int im, .ref qp, .int pm, .ref qo, .int om, .ref qg, .long lo, .long hi_, .long cde, .int fr, .int sp])), (qm, .inl (cI, 5040, .inl t_23)), (qi, .inl (cI, 60, .inl inp)), (qp, .inl (cI, 2000, .inl pk)), (qo, .inl (cI, 60, .inl out)), (qg, .inl (cI, 6, .inl gr))]) S (c_X9_clones l D cI (q := q) (qm := qm) (qi := qi) (qp := qp) (qo := qo) (qg := qg) (kept := kept) (im := im) (pm := pm) (om := om) (lo := lo) (hi_ := hi_) (cde := cde) (fr := fr) (sp := sp) (mm := upd mm (x1 + 2).toNatClampNeg ((mm (x1 + 2).toNatClampNeg) + 1)) (inp := inp) (pk := pk) (out := out) (gr := gr) (x1 := x1) (x2 := mm (x1 + 1).toNatClampNeg) (x3 := x2) (x4 := mm (((x1 + 510) + (2 * (mm (x1 + 1).toNatClampNeg))) + x2).toNatClampNeg) (x5 := mm (((x1 + 10) + (2 * (mm (x1 + 1).toNatClampNeg))) + x2).toNatClampNeg) (x6 := r_4)  (o_mm := t_23) (hf := hc_24)) gs_X9_36 ok_X9_clones ⟨rfl, rfl⟩ ⟨Nat.le_of_ble_eq_true rfl, Nat.le_of_ble_eq_true rfl⟩ hK hN hSF hP hD hS hA [0, 1, 2, 3, 4, 5] [] [0, 1, 2, 3, 4, 5] (by decide) rfl rfl (by decide) (by decide) rfl (by decide) rfl rfl rfl hl.1 rfl (Nat.le_of_ble_eq_true rfl) ⟨Nat.zero_le _, Nat.zero_le _⟩ dX9_takes_147 (fun H locs hP hD hS => ?_)
        refine lv_aload_n hx hb dX9_takes_150 rfl (lv_at hl 4 rfl) ?_
        refine va_get (D := D) (ci := 9) (v := .ref qm) (C := RX9) (T := TX9) (N := 14) hx hb hts inGX9 hown hK hP 0 rfl rfl 0 (by decide) (hts _ fl_X9_7) (fun _ h9 => h9) rfl dX9_takes_151 ?_
        refine lv_iload_n hx hb dX9_takes_154 rfl (lv_at hl 5 rfl) ?_
        refine lv_bipush (v := 10) hx hb dX9_takes_155 (by decide) ?_
        refine lv_iadd hx hb dX9_takes_157 ?_
        refine lv_iconst (v := 2) hx hb dX9_takes_158 (by decide) ?_
        refine lv_iload_n hx hb dX9_takes_159 rfl (lv_at hl 3 rfl) ?_
        refine lv_imul hx hb dX9_takes_160 ?_
        refine lv_iadd hx hb dX9_takes_161 ?_
        refine lv_iload_n hx hb dX9_takes_162 rfl (lv_at hl 6 rfl) ?_
        refine lv_iadd hx hb dX9_takes_163 ?_
        refine lv_dup2_11 hx hb dX9_takes_164 rfl rfl ?_
        have b_25 : ¬ ((((x1 + 10) + (2 * (mm (x1 + 1).toNatClampNeg))) + x2) < 0 ∨ 5040 ≤ (((x1 + 10) + (2 * (mm (x1 + 1).toNatClampNeg))) + x2).toNatClampNeg) := fun q => by rw [if_pos q] at hf; cases hf
        rw [if_neg b_25] at hf
        refine va_iald hx hb hK hP 1 0 rfl rfl b_25 dX9_takes_165 ?_
        refine lv_iconst (v := 1) hx hb dX9_takes_166 (by decide) ?_
        refine lv_iadd hx hb dX9_takes_167 ?_
        have b_26 : ¬ ((((x1 + 10) + (2 * (mm (x1 + 1).toNatClampNeg))) + x2) < 0 ∨ 5040 ≤ (((x1 + 10) + (2 * (mm (x1 + 1).toNatClampNeg))) + x2).toNatClampNeg) := fun q => by rw [if_pos q] at hf; cases hf
        rw [if_neg b_26] at hf
        refine va_iast hx hb hK hP hD hS 1 0 rfl rfl b_26 dX9_takes_168 (fun H locs hP hD hS => ?_)
        have hP : va_P D vwCl [(q, .inr (9, [.ref qm, .int kept, .ref qi, .int im, .ref qp, .int pm, .ref qo, .int om, .ref qg, .long lo, .long hi_, .long cde, .int fr, .int sp])), (qm, .inl (cI, 5040, .inl (upd t_23 (((x1 + 10) + (2 * (mm (x1 + 1).toNatClampNeg))) + x2).toNatClampNeg ((t_23 (((x1 + 10) + (2 * (mm (x1 + 1).toNatClampNeg))) + x2).toNatClampNeg) + 1)))), (qi, .inl (cI, 60, .inl inp)), (qp, .inl (cI, 2000, .inl pk)), (qo, .inl (cI, 60, .inl out)), (qg, .inl (cI, 6, .inl gr))] H := hP
        have hD : va_D A [(q, .inr (9, [.ref qm, .int kept, .ref qi, .int im, .ref qp, .int pm, .ref qo, .int om, .ref qg, .long lo, .long hi_, .long cde, .int fr, .int sp])), (qm, .inl (cI, 5040, .inl (upd t_23 (((x1 + 10) + (2 * (mm (x1 + 1).toNatClampNeg))) + x2).toNatClampNeg ((t_23 (((x1 + 10) + (2 * (mm (x1 + 1).toNatClampNeg))) + x2).toNatClampNeg) + 1)))), (qi, .inl (cI, 60, .inl inp)), (qp, .inl (cI, 2000, .inl pk)), (qo, .inl (cI, 60, .inl out)), (qg, .inl (cI, 6, .inl gr))] := hD
        refine lv_aload_n hx hb dX9_takes_169 rfl (lv_at hl 4 rfl) ?_
        refine va_get (D := D) (ci := 9) (v := .ref qm) (C := RX9) (T := TX9) (N := 14) hx hb hts inGX9 hown hK hP 0 rfl rfl 0 (by decide) (hts _ fl_X9_7) (fun _ h9 => h9) rfl dX9_takes_170 ?_
        refine lv_iload_n hx hb dX9_takes_173 rfl (lv_at hl 5 rfl) ?_
        refine lv_iconst (v := 1) hx hb dX9_takes_174 (by decide) ?_
        refine lv_iadd hx hb dX9_takes_175 ?_
        refine lv_aload_n hx hb dX9_takes_176 rfl (lv_at hl 4 rfl) ?_
        refine va_get (D := D) (ci := 9) (v := .ref qm) (C := RX9) (T := TX9) (N := 14) hx hb hts inGX9 hown hK hP 0 rfl rfl 0 (by decide) (hts _ fl_X9_7) (fun _ h9 => h9) rfl dX9_takes_177 ?_
        refine lv_iload_n hx hb dX9_takes_180 rfl (lv_at hl 5 rfl) ?_
        refine lv_sipush (v := 510) hx hb dX9_takes_181 (by decide) ?_
        refine lv_iadd hx hb dX9_takes_184 ?_
        refine lv_iconst (v := 2) hx hb dX9_takes_185 (by decide) ?_
        refine lv_iload_n hx hb dX9_takes_186 rfl (lv_at hl 3 rfl) ?_
        refine lv_imul hx hb dX9_takes_187 ?_
        refine lv_iadd hx hb dX9_takes_188 ?_
        refine lv_iload_n hx hb dX9_takes_189 rfl (lv_at hl 6 rfl) ?_
        refine lv_iadd hx hb dX9_takes_190 ?_
        have b_27 : ¬ ((((x1 + 510) + (2 * (mm (x1 + 1).toNatClampNeg))) + x2) < 0 ∨ 5040 ≤ (((x1 + 510) + (2 * (mm (x1 + 1).toNatClampNeg))) + x2).toNatClampNeg) := fun q => by rw [if_pos q] at hf; cases hf
        rw [if_neg b_27] at hf
        refine va_iald hx hb hK hP 1 0 rfl rfl b_27 dX9_takes_191 ?_
        have b_28 : ¬ ((x1 + 1) < 0 ∨ 5040 ≤ (x1 + 1).toNatClampNeg) := fun q => by rw [if_pos q] at hf; cases hf
        rw [if_neg b_28] at hf
        refine va_iast hx hb hK hP hD hS 1 0 rfl rfl b_28 dX9_takes_192 (fun H locs hP hD hS => ?_)
        have hP : va_P D vwCl [(q, .inr (9, [.ref qm, .int kept, .ref qi, .int im, .ref qp, .int pm, .ref qo, .int om, .ref qg, .long lo, .long hi_, .long cde, .int fr, .int sp])), (qm, .inl (cI, 5040, .inl (upd (upd t_23 (((x1 + 10) + (2 * (mm (x1 + 1).toNatClampNeg))) + x2).toNatClampNeg ((t_23 (((x1 + 10) + (2 * (mm (x1 + 1).toNatClampNeg))) + x2).toNatClampNeg) + 1)) (x1 + 1).toNatClampNeg ((upd t_23 (((x1 + 10) + (2 * (mm (x1 + 1).toNatClampNeg))) + x2).toNatClampNeg ((t_23 (((x1 + 10) + (2 * (mm (x1 + 1).toNatClampNeg))) + x2).toNatClampNeg) + 1)) (((x1 + 510) + (2 * (mm (x1 + 1).toNatClampNeg))) + x2).toNatClampNeg)))), (qi, .inl (cI, 60, .inl inp)), (qp, .inl (cI, 2000, .inl pk)), (qo, .inl (cI, 60, .inl out)), (qg, .inl (cI, 6, .inl gr))] H := hP
        have hD : va_D A [(q, .inr (9, [.ref qm, .int kept, .ref qi, .int im, .ref qp, .int pm, .ref qo, .int om, .ref qg, .long lo, .long hi_, .long cde, .int fr, .int sp])), (qm, .inl (cI, 5040, .inl (upd (upd t_23 (((x1 + 10) + (2 * (mm (x1 + 1).toNatClampNeg))) + x2).toNatClampNeg ((t_23 (((x1 + 10) + (2 * (mm (x1 + 1).toNatClampNeg))) + x2).toNatClampNeg) + 1)) (x1 + 1).toNatClampNeg ((upd t_23 (((x1 + 10) + (2 * (mm (x1 + 1).toNatClampNeg))) + x2).toNatClampNeg ((t_23 (((x1 + 10) + (2 * (mm (x1 + 1).toNatClampNeg))) + x2).toNatClampNeg) + 1)) (((x1 + 510) + (2 * (mm (x1 + 1).toNatClampNeg))) + x2).toNatClampNeg)))), (qi, .inl (cI, 60, .inl inp)), (qp, .inl (cI, 2000, .inl pk)), (qo, .inl (cI, 60, .inl out)), (qg, .inl (cI, 6, .inl gr))] := hD
        have e_0 := Option.some.inj hf
        subst e_0
        exact k_wretv hx hb hret hloc hP hD hS dX9_takes_193
      · rw [if_pos c_22] at hf
        refine lv_aload_n hx hb dX9_takes_119 rfl (lv_at hl 4 rfl) ?_
        refine va_get (D := D) (ci := 9) (v := .ref qm) (C := RX9) (T := TX9) (N := 14) hx hb hts inGX9 hown hK hP 0 rfl rfl 0 (by decide) (hts _ fl_X9_7) (fun _ h9 => h9) rfl dX9_takes_120 ?_
        refine lv_iload_n hx hb dX9_takes_123 rfl (lv_at hl 5 rfl) ?_
        refine lv_iconst (v := 4) hx hb dX9_takes_124 (by decide) ?_
        refine lv_iadd hx hb dX9_takes_125 ?_
        refine lv_dup2_11 hx hb dX9_takes_126 rfl rfl ?_
        have b_29 : ¬ ((x1 + 4) < 0 ∨ 5040 ≤ (x1 + 4).toNatClampNeg) := fun q => by rw [if_pos q] at hf; cases hf
        rw [if_neg b_29] at hf
        refine va_iald hx hb hK hP 1 0 rfl rfl b_29 dX9_takes_127 ?_
        refine lv_iconst (v := 1) hx hb dX9_takes_128 (by decide) ?_
        refine lv_iadd hx hb dX9_takes_129 ?_
        have b_30 : ¬ ((x1 + 4) < 0 ∨ 5040 ≤ (x1 + 4).toNatClampNeg) := fun q => by rw [if_pos q] at hf; cases hf
        rw [if_neg b_30] at hf
        refine va_iast hx hb hK hP hD hS 1 0 rfl rfl b_30 dX9_takes_130 (fun H locs hP hD hS => ?_)
        have hP : va_P D vwCl [(q, .inr (9, [.ref qm, .int kept, .ref qi, .int im, .ref qp, .int pm, .ref qo, .int om, .ref qg, .long lo, .long hi_, .long cde, .int fr, .int sp])), (qm, .inl (cI, 5040, .inl (upd (upd mm (x1 + 2).toNatClampNeg ((mm (x1 + 2).toNatClampNeg) + 1)) (x1 + 4).toNatClampNeg (((upd mm (x1 + 2).toNatClampNeg ((mm (x1 + 2).toNatClampNeg) + 1)) (x1 + 4).toNatClampNeg) + 1)))), (qi, .inl (cI, 60, .inl inp)), (qp, .inl (cI, 2000, .inl pk)), (qo, .inl (cI, 60, .inl out)), (qg, .inl (cI, 6, .inl gr))] H := hP
        have hD : va_D A [(q, .inr (9, [.ref qm, .int kept, .ref qi, .int im, .ref qp, .int pm, .ref qo, .int om, .ref qg, .long lo, .long hi_, .long cde, .int fr, .int sp])), (qm, .inl (cI, 5040, .inl (upd (upd mm (x1 + 2).toNatClampNeg ((mm (x1 + 2).toNatClampNeg) + 1)) (x1 + 4).toNatClampNeg (((upd mm (x1 + 2).toNatClampNeg ((mm (x1 + 2).toNatClampNeg) + 1)) (x1 + 4).toNatClampNeg) + 1)))), (qi, .inl (cI, 60, .inl inp)), (qp, .inl (cI, 2000, .inl pk)), (qo, .inl (cI, 60, .inl out)), (qg, .inl (cI, 6, .inl gr))] := hD
        refine lv_aload_n hx hb dX9_takes_131 rfl (lv_at hl 4 rfl) ?_
        refine lv_iload_n hx hb dX9_takes_132 rfl (lv_at hl 5 rfl) ?_
        obtain ⟨t_31, hc_32, hf⟩ := bd1 hf
        refine k_rwVv (As := [.int x1]) (rest := []) (Wr := []) (W2 := [(q, .inr (9, [.ref qm, .int kept, .ref qi, .int im, .ref qp, .int pm, .ref qo, .int om, .ref qg, .long lo, .long hi_, .long cde, .int fr, .int sp])), (qm, .inl (cI, 5040, .inl t_31)), (qi, .inl (cI, 60, .inl inp)), (qp, .inl (cI, 2000, .inl pk)), (qo, .inl (cI, 60, .inl out)), (qg, .inl (cI, 6, .inl gr))]) S (c_X9_lays l D cI (q := q) (qm := qm) (qi := qi) (qp := qp) (qo := qo) (qg := qg) (kept := kept) (im := im) (pm := pm) (om := om) (lo := lo) (hi_ := hi_) (cde := cde) (fr := fr) (sp := sp) (mm := upd (upd mm (x1 + 2).toNatClampNeg ((mm (x1 + 2).toNatClampNeg) + 1)) (x1 + 4).toNatClampNeg (((upd mm (x1 + 2).toNatClampNeg ((mm (x1 + 2).toNatClampNeg) + 1)) (x1 + 4).toNatClampNeg) + 1)) (inp := inp) (pk := pk) (out := out) (gr := gr) (x1 := x1)  (o_mm := t_31) (hf := hc_32)) gs_X9_29 ok_X9_lays ⟨rfl, rfl⟩ ⟨Nat.le_of_ble_eq_true rfl, Nat.le_of_ble_eq_true rfl⟩ hK hN hSF hP hD hS hA [0, 1, 2, 3, 4, 5] [] [0, 1, 2, 3, 4, 5] (by decide) rfl rfl (by decide) (by decide) rfl (by decide) rfl rfl rfl hl.1 rfl (Nat.le_of_ble_eq_true rfl) ⟨Nat.zero_le _, Nat.zero_le _⟩ dX9_takes_133 (fun H locs hP hD hS => ?_)
        have e_0 := Option.some.inj hf
        subst e_0
        exact k_wretv hx hb hret hloc hP hD hS dX9_takes_136
theorem dX9_chance_0 : decode cX9_chance 0 = .ok (.ldc2_w 40, 3) := by decide +kernel
theorem dX9_chance_3 : decode cX9_chance 3 = .ok (.aload_n 0, 1) := by decide +kernel
theorem dX9_chance_4 : decode cX9_chance 4 = .ok (.getfield 7, 3) := by decide +kernel
theorem dX9_chance_7 : decode cX9_chance 7 = .ok (.iload_n 1, 1) := by decide +kernel
theorem dX9_chance_8 : decode cX9_chance 8 = .ok (.bipush 10, 2) := by decide +kernel
theorem dX9_chance_10 : decode cX9_chance 10 = .ok (.iadd, 1) := by decide +kernel
theorem dX9_chance_11 : decode cX9_chance 11 = .ok (.iconst 2, 1) := by decide +kernel
theorem dX9_chance_12 : decode cX9_chance 12 = .ok (.iload_n 2, 1) := by decide +kernel
theorem dX9_chance_13 : decode cX9_chance 13 = .ok (.imul, 1) := by decide +kernel
theorem dX9_chance_14 : decode cX9_chance 14 = .ok (.iadd, 1) := by decide +kernel
theorem dX9_chance_15 : decode cX9_chance 15 = .ok (.iconst 1, 1) := by decide +kernel
theorem dX9_chance_16 : decode cX9_chance 16 = .ok (.iadd, 1) := by decide +kernel
theorem dX9_chance_17 : decode cX9_chance 17 = .ok (.iaload, 1) := by decide +kernel
theorem dX9_chance_18 : decode cX9_chance 18 = .ok (.i2l, 1) := by decide +kernel
theorem dX9_chance_19 : decode cX9_chance 19 = .ok (.lmul, 1) := by decide +kernel
theorem dX9_chance_20 : decode cX9_chance 20 = .ok (.lconst 1, 1) := by decide +kernel
theorem dX9_chance_21 : decode cX9_chance 21 = .ok (.ladd, 1) := by decide +kernel
theorem dX9_chance_22 : decode cX9_chance 22 = .ok (.ldc2_w 42, 3) := by decide +kernel
theorem dX9_chance_25 : decode cX9_chance 25 = .ok (.lmul, 1) := by decide +kernel
theorem dX9_chance_26 : decode cX9_chance 26 = .ok (.ldc2_w 40, 3) := by decide +kernel
theorem dX9_chance_29 : decode cX9_chance 29 = .ok (.aload_n 0, 1) := by decide +kernel
theorem dX9_chance_30 : decode cX9_chance 30 = .ok (.iload_n 1, 1) := by decide +kernel
theorem dX9_chance_31 : decode cX9_chance 31 = .ok (.iload_n 2, 1) := by decide +kernel
theorem dX9_chance_32 : decode cX9_chance 32 = .ok (.invokevirtual 32, 3) := by decide +kernel
theorem dX9_chance_35 : decode cX9_chance 35 = .ok (.i2l, 1) := by decide +kernel
theorem dX9_chance_36 : decode cX9_chance 36 = .ok (.lmul, 1) := by decide +kernel
theorem dX9_chance_37 : decode cX9_chance 37 = .ok (.ldc2_w 40, 3) := by decide +kernel
theorem dX9_chance_40 : decode cX9_chance 40 = .ok (.ladd, 1) := by decide +kernel
theorem dX9_chance_41 : decode cX9_chance 41 = .ok (.ldiv, 1) := by decide +kernel
theorem dX9_chance_42 : decode cX9_chance 42 = .ok (.lstore_n 3, 1) := by decide +kernel
theorem dX9_chance_43 : decode cX9_chance 43 = .ok (.lload_n 3, 1) := by decide +kernel
theorem dX9_chance_44 : decode cX9_chance 44 = .ok (.lconst 1, 1) := by decide +kernel
theorem dX9_chance_45 : decode cX9_chance 45 = .ok (.lcmp, 1) := by decide +kernel
theorem dX9_chance_46 : decode cX9_chance 46 = .ok (.ifCond .ge 7, 3) := by decide +kernel
theorem dX9_chance_49 : decode cX9_chance 49 = .ok (.iconst 1, 1) := by decide +kernel
theorem dX9_chance_50 : decode cX9_chance 50 = .ok (.goto 19, 3) := by decide +kernel
theorem dX9_chance_53 : decode cX9_chance 53 = .ok (.lload_n 3, 1) := by decide +kernel
theorem dX9_chance_54 : decode cX9_chance 54 = .ok (.ldc2_w 44, 3) := by decide +kernel
theorem dX9_chance_57 : decode cX9_chance 57 = .ok (.lcmp, 1) := by decide +kernel
theorem dX9_chance_58 : decode cX9_chance 58 = .ok (.ifCond .le 9, 3) := by decide +kernel
theorem dX9_chance_61 : decode cX9_chance 61 = .ok (.sipush 4095, 3) := by decide +kernel
theorem dX9_chance_64 : decode cX9_chance 64 = .ok (.goto 5, 3) := by decide +kernel
theorem dX9_chance_67 : decode cX9_chance 67 = .ok (.lload_n 3, 1) := by decide +kernel
theorem dX9_chance_68 : decode cX9_chance 68 = .ok (.l2i, 1) := by decide +kernel
theorem dX9_chance_69 : decode cX9_chance 69 = .ok (.ireturn, 1) := by decide +kernel
def f_X9_chance (mm : (Nat → Int32)) (x1 : Int32) (x2 : Int32) : Option (Int32) := if (((x1 + 10) + (2 * x2)) + 1) < 0 ∨ 5040 ≤ (((x1 + 10) + (2 * x2)) + 1).toNatClampNeg then none else (bi1 (f_X9_both mm x1 x2) (fun (r_2 : Int32) => if (((2 : Int64) * ((r_2).toInt64)) + (2 : Int64)) = 0 then none else (if 0 ≤ (lg_cmp (((((2 : Int64) * ((mm (((x1 + 10) + (2 * x2)) + 1).toNatClampNeg).toInt64)) + (1 : Int64)) * (4096 : Int64)) / (((2 : Int64) * ((r_2).toInt64)) + (2 : Int64))) (1 : Int64)) then (if (lg_cmp (((((2 : Int64) * ((mm (((x1 + 10) + (2 * x2)) + 1).toNatClampNeg).toInt64)) + (1 : Int64)) * (4096 : Int64)) / (((2 : Int64) * ((r_2).toInt64)) + (2 : Int64))) (4095 : Int64)) ≤ 0 then (some ((((((2 : Int64) * ((mm (((x1 + 10) + (2 * x2)) + 1).toNatClampNeg).toInt64)) + (1 : Int64)) * (4096 : Int64)) / (((2 : Int64) * ((r_2).toInt64)) + (2 : Int64))).toInt32)) else (some (4095 : Int32))) else (some (1 : Int32)))))
set_option maxHeartbeats 4000000 in
set_option maxRecDepth 100000 in
theorem c_X9_chance (l : Launch) (D : va_G) (cI : ClassId) (q : Nat) (qm : Nat) (qi : Nat) (qp : Nat) (qo : Nat) (qg : Nat) (kept : Int32) (im : Int32) (pm : Int32) (om : Int32) (lo : Int64) (hi_ : Int64) (cde : Int64) (fr : Int32) (sp : Int32) (mm : (Nat → Int32)) (inp : (Nat → Int32)) (pk : (Nat → Int32)) (out : (Nat → Int32)) (gr : (Nat → Int32)) (x1 : Int32) (x2 : Int32) (r : Int32) (hf : f_X9_chance mm x1 x2 = some r) : Met l yX9_chance (.code yX9_chance cX9_chance 5 (some .int) :: wsG) ({ frames := 1, cells := 0, slots := 0, locals := 22 }) (va_Pc [.ref q, .int x1, .int x2] (gw D cI [(q, .inr (9, [.ref qm, .int kept, .ref qi, .int im, .ref qp, .int pm, .ref qo, .int om, .ref qg, .long lo, .long hi_, .long cde, .int fr, .int sp])), (qm, .inl (cI, 5040, .inl mm)), (qi, .inl (cI, 60, .inl inp)), (qp, .inl (cI, 2000, .inl pk)), (qo, .inl (cI, 60, .inl out)), (qg, .inl (cI, 6, .inl gr))])) (vp_Si (fun x => x = r)) 0 0 (fun _ => False) := by
  refine k_ro (by decide) rfl (Nat.le_of_ble_eq_true rfl) rfl ?_
  intro p e s m below meth c ls S hret hloc hK hN hSF hP hl
  obtain ⟨hx, hb, hml, hown, hts⟩ := id S
  unfold f_X9_chance at hf
  refine lv_ldc2 (v := (2 : Int64)) hx hb hown (hts _ ck_X9_40) dX9_chance_0 ?_
  refine lv_aload_n hx hb dX9_chance_3 rfl (lv_at hl 0 rfl) ?_
  refine va_get (D := D) (ci := 9) (v := .ref qm) (C := RX9) (T := TX9) (N := 14) hx hb hts inGX9 hown hK hP 0 rfl rfl 0 (by decide) (hts _ fl_X9_7) (fun _ h9 => h9) rfl dX9_chance_4 ?_
  refine lv_iload_n hx hb dX9_chance_7 rfl (lv_at hl 1 rfl) ?_
  refine lv_bipush (v := 10) hx hb dX9_chance_8 (by decide) ?_
  refine lv_iadd hx hb dX9_chance_10 ?_
  refine lv_iconst (v := 2) hx hb dX9_chance_11 (by decide) ?_
  refine lv_iload_n hx hb dX9_chance_12 rfl (lv_at hl 2 rfl) ?_
  refine lv_imul hx hb dX9_chance_13 ?_
  refine lv_iadd hx hb dX9_chance_14 ?_
  refine lv_iconst (v := 1) hx hb dX9_chance_15 (by decide) ?_
  refine lv_iadd hx hb dX9_chance_16 ?_
  have b_1 : ¬ ((((x1 + 10) + (2 * x2)) + 1) < 0 ∨ 5040 ≤ (((x1 + 10) + (2 * x2)) + 1).toNatClampNeg) := fun q => by rw [if_pos q] at hf; cases hf
  rw [if_neg b_1] at hf
  refine va_iald hx hb hK hP 1 0 rfl rfl b_1 dX9_chance_17 ?_
  refine lv_i2l hx hb dX9_chance_18 rfl ?_
  refine lv_lmul hx hb dX9_chance_19 ?_
  refine lv_lconst (v := 1) hx hb dX9_chance_20 (by decide) ?_
  refine lv_ladd hx hb dX9_chance_21 ?_
  refine lv_ldc2 (v := (4096 : Int64)) hx hb hown (hts _ ck_X9_42) dX9_chance_22 ?_
  refine lv_lmul hx hb dX9_chance_25 ?_
  refine lv_ldc2 (v := (2 : Int64)) hx hb hown (hts _ ck_X9_40) dX9_chance_26 ?_
  refine lv_aload_n hx hb dX9_chance_29 rfl (lv_at hl 0 rfl) ?_
  refine lv_iload_n hx hb dX9_chance_30 rfl (lv_at hl 1 rfl) ?_
  refine lv_iload_n hx hb dX9_chance_31 rfl (lv_at hl 2 rfl) ?_
  obtain ⟨r_2, hc_3, hf⟩ := bd1 hf
  refine k_roVi (As := [.int x1, .int x2]) (rest := [.long (2 : Int64), .long ((((2 : Int64) * ((mm (((x1 + 10) + (2 * x2)) + 1).toNatClampNeg).toInt64)) + (1 : Int64)) * (4096 : Int64))]) S (c_X9_both l D cI (q := q) (qm := qm) (qi := qi) (qp := qp) (qo := qo) (qg := qg) (kept := kept) (im := im) (pm := pm) (om := om) (lo := lo) (hi_ := hi_) (cde := cde) (fr := fr) (sp := sp) (mm := mm) (inp := inp) (pk := pk) (out := out) (gr := gr) (x1 := x1) (x2 := x2)  (r := r_2) (hf := hc_3)) gs_X9_32 ok_X9_both ⟨rfl, rfl⟩ ⟨Nat.le_of_ble_eq_true rfl, Nat.le_of_ble_eq_true rfl⟩ hK hN hSF hP rfl rfl rfl hl.1 rfl (Nat.le_of_ble_eq_true rfl) ⟨Nat.zero_le _, Nat.zero_le _⟩ dX9_chance_32 ?_
  refine lv_i2l hx hb dX9_chance_35 rfl ?_
  refine lv_lmul hx hb dX9_chance_36 ?_
  refine lv_ldc2 (v := (2 : Int64)) hx hb hown (hts _ ck_X9_40) dX9_chance_37 ?_
  refine lv_ladd hx hb dX9_chance_40 ?_
  have z_4 : ¬ ((((2 : Int64) * ((r_2).toInt64)) + (2 : Int64)) = 0) := fun q => by rw [if_pos q] at hf; cases hf
  rw [if_neg z_4] at hf
  refine lv_ldiv hx hb dX9_chance_41 z_4 ?_
  refine lv_lstore_n (lv' := [(3, .long (((((2 : Int64) * ((mm (((x1 + 10) + (2 * x2)) + 1).toNatClampNeg).toInt64)) + (1 : Int64)) * (4096 : Int64)) / (((2 : Int64) * ((r_2).toInt64)) + (2 : Int64)))), (0, .ref q), (1, .int x1), (2, .int x2)]) hx hb dX9_chance_42 rfl hl (by decide) rfl (fun ls hl => ?_)
  refine lv_lload_n hx hb dX9_chance_43 rfl (lv_at hl 0 rfl) ?_
  refine lv_lconst (v := 1) hx hb dX9_chance_44 (by decide) ?_
  refine W.lcmp hx hb dX9_chance_45 ?_
  refine lv_if_ge (tgt := 53) hx hb dX9_chance_46 (by decide) (fun c_5 => ?_) (fun c_5 => ?_)
  · rw [if_pos c_5] at hf
    refine lv_lload_n hx hb dX9_chance_53 rfl (lv_at hl 0 rfl) ?_
    refine lv_ldc2 (v := (4095 : Int64)) hx hb hown (hts _ ck_X9_44) dX9_chance_54 ?_
    refine W.lcmp hx hb dX9_chance_57 ?_
    refine lv_if_le (tgt := 67) hx hb dX9_chance_58 (by decide) (fun c_6 => ?_) (fun c_6 => ?_)
    · rw [if_pos c_6] at hf
      refine lv_lload_n hx hb dX9_chance_67 rfl (lv_at hl 0 rfl) ?_
      refine lv_l2i hx hb dX9_chance_68 rfl ?_
      exact k_reti hx hb hret hloc (Option.some.inj hf) dX9_chance_69
    · rw [if_neg c_6] at hf
      refine lv_sipush (v := 4095) hx hb dX9_chance_61 (by decide) ?_
      refine lv_goto (tgt := 69) hx hb dX9_chance_64 (by decide) ?_
      exact k_reti hx hb hret hloc (Option.some.inj hf) dX9_chance_69
  · rw [if_neg c_5] at hf
    refine lv_iconst (v := 1) hx hb dX9_chance_49 (by decide) ?_
    refine lv_goto (tgt := 69) hx hb dX9_chance_50 (by decide) ?_
    exact k_reti hx hb hret hloc (Option.some.inj hf) dX9_chance_69
