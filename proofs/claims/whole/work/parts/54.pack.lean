/-! PACKING and UNPACKING as wholes -/
theorem il1263 : (1263 : Int32) = nI 1263 := by decide +kernel
theorem il1264 : (1264 : Int32) = nI 1264 := by decide +kernel
theorem begins_c (mm : Nat → Int32) : ∃ v mm', f_X9_begins_L2 4096 0 mm = some (v, mm') ∧ (∀ k, k < 5 → mm' (1265 + k) = mm (5 + k)) ∧ ∀ j, (j < 1265 ∨ 1270 ≤ j) → mm' j = mm j := by
  obtain ⟨r, hr, v, mm', rfl, g⟩ := lp_for (st := fun z => st_X9_begins_L2 z.1 z.2) (I := fun i s => ∃ m, s = (nI i, m) ∧ (∀ k, k < i → m (1265 + k) = mm (5 + k)) ∧ ∀ j, (j < 1265 ∨ 1265 + i ≤ j) → m j = mm j) (E := fun r => ∃ v m, r = (v, m) ∧ (∀ k, k < 5 → m (1265 + k) = mm (5 + k)) ∧ ∀ j, (j < 1265 ∨ 1270 ≤ j) → m j = mm j) 5
    (by
      rintro i s hi ⟨m, rfl, h1, h2⟩
      refine ⟨(nI (i + 1), upd m (1265 + i) (m (5 + i))), ?_, _, rfl, fun k hk => ?_, fun j hj => ?_⟩
      · show st_X9_begins_L2 (nI i) m = _
        unfold st_X9_begins_L2
        rw [if_neg (show ¬ (5 : Int32) ≤ nI i from nI_ge (b := 5) hi (by omega)), il5, il1265, nI_add, nI_add, oobi _ (by omega) (by omega), oobi _ (by omega) (by omega), nI_clamp (by omega), nI_clamp (by omega), nI_1]
      · by_cases q : k = i
        · subst q
          rw [upd_e rfl, h2 _ (by omega)]
        · rw [upd_n (by omega), h1 k (by omega)]
      · rw [upd_n (by omega), h2 j (by omega)])
    (by
      rintro s ⟨m, rfl, h1, h2⟩
      refine ⟨(nI 5, m), ?_, nI 5, m, rfl, h1, h2⟩
      show st_X9_begins_L2 (nI 5) m = _
      unfold st_X9_begins_L2
      rw [if_pos (show (5 : Int32) ≤ nI 5 by decide +kernel)])
    4096 0 (0, mm) (by omega) (by omega) ⟨mm, rfl, fun k hk => absurd hk (by omega), fun j _ => rfl⟩
  exact ⟨v, mm', hr, g⟩
theorem work_start {B : Nat} {sv : Nat → Int32} {st he ta cl dr : Int32} {cn nx og li mm : Nat → Int32} (H : KX B 0 sv st he ta cl dr cn nx og li mm) (kcn knx kog kli : Nat → Int32) : ∃ S cn' nx' og' li' mm', f_X2_begin kcn knx kog kli sv = some (S, 0, 0, 0, 0, cn', nx', og', li') ∧ f_X9_begins mm = some (lN 0, lN 4294967295, mm') ∧ WK 1 sv S 0 0 0 0 cn' nx' og' li' mm' mm ∧ mm 9 = sv 4 := by
  obtain ⟨a, b, c, d, e, S, h, h1, h2, h3⟩ := H
  obtain ⟨-, -, -, -, -, -, k6, -, -⟩ := h3
  obtain ⟨v, m1, e1, q1, q2⟩ := begins_c mm
  obtain ⟨cn', nx', og', li', mm', e2, e3, e4, e5, e6⟩ := begin_sim (A := 1260) (mm := m1) (cn := kcn) (nx := knx) (og := kog) (li := kli) h1 (by omega) (fun k hk => by
    rw [← k6 k hk, show 1260 + 5 + k = 1265 + k by omega, show 0 + 5 + k = 5 + k by omega]
    exact q1 k hk)
  refine ⟨nI (S0 a), cn', nx', og', li', mm', e2, ?_, ⟨⟨a, b, c, d, e, S0 a, 0, h1, e4 1 (by omega), e5⟩, fun j hj => ?_⟩, k6 4 (by omega)⟩
  · unfold f_X9_begins
    rw [e1, bi2_s, il1260, e3, bi1_s, jl0, jl4294967295]
  · rw [e6 j (by omega), q2 j (by omega)]
theorem notes_c {x : Nat} (hx : x < 2) (mm gr : Nat → Int32) : f_X9_notes mm gr (nI x) = some (upd (upd (upd gr (3 * x) (mm 1260)) (3 * x + 1) (mm 1263)) (3 * x + 2) (mm 1264)) := by
  unfold f_X9_notes
  rw [il1260, il1263, il1264, il3, il1, il2, pk_mul, nI_add, nI_add, oobi _ (by omega) (by omega), oobi _ (by omega) (by omega), oobi _ (by omega) (by omega), oobi _ (by omega) (by omega), oobi _ (by omega) (by omega), oobi _ (by omega) (by omega), nI_clamp (by omega), nI_clamp (by omega), nI_clamp (by omega), nI_clamp (by omega), nI_clamp (by omega), nI_clamp (by omega)]
theorem work_notes {B x : Nat} {sv : Nat → Int32} {st he ta cl dr : Int32} {cn nx og li mm m0 gr : Nat → Int32} (H : WK B sv st he ta cl dr cn nx og li mm m0) (hx : x < 2) : ∃ gr', f_X9_notes mm gr (nI x) = some gr' ∧ RGr (3 * x) 1 st cl dr gr' ∧ ∀ j, (j < 3 * x ∨ 3 * x + 3 ≤ j) → gr' j = gr j := by
  obtain ⟨⟨a, b, c, d, e, S, h, h1, h2, h3⟩, -⟩ := H
  have hS := h2.S_le
  obtain ⟨k0, k1, k2, k3, k4, k5, -, -, -⟩ := h3
  obtain ⟨g1, g2, g3, -⟩ := h2
  refine ⟨_, notes_c hx mm gr, Or.inr ⟨rfl, ?_, ?_, ?_, ?_⟩, fun j hj => ?_⟩
  · rw [upd_n (by omega), upd_n (by omega), upd_e rfl, k1]
  · rw [upd_n (by omega), upd_e rfl, k4]
  · rw [upd_e rfl, k5]
  · rw [upd_n (by omega), upd_n (by omega), upd_e rfl, k1, g1]
    exact fun q => by
      have := (nI_eq (a := S) (b := 0) (by omega) (by omega)).mp q
      omega
  · rw [upd_n (by omega), upd_n (by omega), upd_n (by omega)]
/-! CLOSING -/
theorem lshrN {n : Nat} (h : n < 2 ^ 63) (s : Int64) (k : Nat) (hs : (s.toBitVec.smod 64).toNat = k) : lN n >>> s = lN (n / 2 ^ k) := by
  apply Int64.toInt_inj.mp
  have h2 : n / 2 ^ k ≤ n := Nat.div_le_self _ _
  have e : (lN n >>> s).toInt = (lN n).toInt >>> k := by
    show ((lN n).toBitVec.sshiftRight (s.toBitVec.smod 64).toNat).toInt = _
    rw [hs, BitVec.toInt_sshiftRight]
    rfl
  rw [e, pk_lT h, pk_lT (by omega), Int.shiftRight_eq_div_pow]
  rfl
theorem land255 {n : Nat} (h : n < 2 ^ 63) : lN n &&& (255 : Int64) = lN (n % 256) := by
  apply Int64.toBitVec_inj.mp
  apply BitVec.eq_of_toNat_eq
  rw [Int64.toBitVec_and, BitVec.toNat_and]
  show (BitVec.ofNat 64 n).toNat &&& 255 = (BitVec.ofNat 64 (n % 256)).toNat
  rw [BitVec.toNat_ofNat, BitVec.toNat_ofNat, Nat.mod_eq_of_lt (by omega), Nat.mod_eq_of_lt (by omega)]
  exact Nat.and_two_pow_sub_one_eq_mod n 8
theorem shb : ∀ v, v < 4 → (((8 * nI v).toInt64 &&& (63 : Int64)).toBitVec.smod 64).toNat = 8 * v := by decide +kernel
theorem shr8 {L v : Nat} (hL : L < 4294967296) (hv : v < 4) : ((lN L >>> ((8 * nI v).toInt64 &&& (63 : Int64))) &&& (255 : Int64)).toInt32 = nI (L / 2 ^ (8 * v) % 256) := by
  have h2 : L / 2 ^ (8 * v) ≤ L := Nat.div_le_self _ _
  rw [lshrN (by omega) _ (8 * v) (shb v hv), land255 (by omega), lN_i]
theorem topk {L k : Nat} (hk : k < 4) (hL : L < 4294967296) : L * 256 ^ k % 4294967296 / 16777216 = L / 2 ^ (8 * (3 - k)) % 256 ∧ L * 256 ^ k % 4294967296 % 16777216 * 256 = L * 256 ^ (k + 1) % 4294967296 := by
  rcases (show k = 0 ∨ k = 1 ∨ k = 2 ∨ k = 3 by omega) with rfl | rfl | rfl | rfl <;> simp only [Nat.reducePow, Nat.reduceMul, Nat.reduceSub, Nat.reduceAdd] <;> omega
theorem down : ∀ k, k < 4 → nI (3 - k) + (-1) = (3 : Int32) - nI (k + 1) := by decide +kernel
theorem close_sim {l u P : Nat} {bs pk : Nat → Int32} (hl : l < 4294967296) (hu : u < 4294967296) (hP : P + 4 ≤ 1924) (hb : PB P bs pk) : ∃ l' u' bs' pk' w, f_X3_close (lN l) (lN u) 1924 (nI P) bs = some (l', u', nI (P + 4), bs') ∧ f_X9_pack_L70 (lN l) 4096 3 (nI P) pk = some (w, nI (P + 4), pk') ∧ PB (P + 4) bs' pk' := by
  obtain ⟨r, q, hr, hq, l', u', bs', pk', w, rfl, rfl, g⟩ := lp_two (st := fun z => st_X3_close_L2 1924 z.1 z.2.1 z.2.2.1 z.2.2.2.1 z.2.2.2.2) (tt := fun z => st_X9_pack_L70 (lN l) z.1 z.2.1 z.2.2)
    (I := fun k x w => ∃ u bs pk, u < 4294967296 ∧ x = (nI k, lN (l * 256 ^ k % 4294967296), lN u, nI (P + k), bs) ∧ w = ((3 : Int32) - nI k, nI (P + k), pk) ∧ PB (P + k) bs pk)
    (E := fun x w => ∃ l' u' bs' pk' w1, x = (nI 4, l', u', nI (P + 4), bs') ∧ w = (w1, nI (P + 4), pk') ∧ PB (P + 4) bs' pk') 4
    (by
      rintro k x w hk ⟨u, bs, pk, h1, rfl, rfl, h2⟩
      obtain ⟨t1, t2⟩ := topk hk hl
      have hm : l * 256 ^ k % 4294967296 < 4294967296 := Nat.mod_lt _ (by omega)
      generalize l * 256 ^ k % 4294967296 = y at *
      refine ⟨(nI (k + 1), lN (y % 16777216 * 256), lN (u % 16777216 * 256 + 255), nI (P + k + 1), upd bs (P + k) (nI (y / 16777216))), ((3 : Int32) - nI (k + 1), nI (P + k + 1), upd pk (P + k) (nI (y / 16777216))), ?_, ?_, u % 16777216 * 256 + 255, upd bs (P + k) (nI (y / 16777216)), upd pk (P + k) (nI (y / 16777216)), by omega, by rw [t2]; simp only [Nat.add_assoc], by simp only [Nat.add_assoc], h2.add (by omega)⟩
      · show st_X3_close_L2 1924 (nI k) (lN y) (lN u) (nI (P + k)) bs = _
        unfold st_X3_close_L2
        rw [if_neg (show ¬ (4 : Int32) ≤ nI k from nI_ge (b := 4) hk (by omega)), putTop_c hm h1 (by omega), bi4_s, nI_1]
      · show st_X9_pack_L70 (lN l) ((3 : Int32) - nI k) (nI (P + k)) pk = _
        have e3 : (3 : Int32) - nI k = nI (3 - k) := by rw [il3, nsub (by omega)]
        unfold st_X9_pack_L70
        rw [e3, if_neg (show ¬ nI (3 - k) < 0 from nI_nlt (b := 0) (by omega) (by omega)), oobi _ (by omega) (by omega), nI_clamp (by omega), shr8 hl (by omega), ← t1, down k hk, nI_1])
    (by
      rintro x w ⟨u, bs, pk, h1, rfl, rfl, h2⟩
      refine ⟨_, _, ?_, ?_, lN (l * 256 ^ 4 % 4294967296), lN u, bs, pk, (3 : Int32) - nI 4, rfl, rfl, h2⟩
      · show st_X3_close_L2 1924 (nI 4) (lN (l * 256 ^ 4 % 4294967296)) (lN u) (nI (P + 4)) bs = _
        unfold st_X3_close_L2
        rw [if_pos (show (4 : Int32) ≤ nI 4 by decide +kernel)]
      · show st_X9_pack_L70 (lN l) ((3 : Int32) - nI 4) (nI (P + 4)) pk = _
        unfold st_X9_pack_L70
        rw [if_pos (show (3 : Int32) - nI 4 < 0 by decide +kernel)])
    4096 4096 0 (0, lN l, lN u, nI P, bs) (3, nI P, pk) (by omega) (by omega) (by omega) ⟨u, bs, pk, hu, by rw [Nat.pow_zero, Nat.mul_one, Nat.mod_eq_of_lt hl]; rfl, rfl, hb⟩
  refine ⟨l', u', bs', pk', w, ?_, hq, g⟩
  unfold f_X3_close f_X3_close_L2
  rw [hr, bi5_s]
