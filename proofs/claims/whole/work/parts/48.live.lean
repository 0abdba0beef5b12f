/-- a machine of the class's and of the reference's, alike -/
def KX (B A : Nat) (sv : Nat → Int32) (st he ta cl dr : Int32) (cn nx og li mm : Nat → Int32) : Prop := ∃ a b c d e S h, SV sv a b c d e ∧ MC B S h sv st he cn nx og li ∧ MM A S mm sv st he ta cl dr cn nx og
theorem MC.mono {B B2 S h : Nat} {sv : Nat → Int32} {st he : Int32} {cn nx og li : Nat → Int32} (H : MC B S h sv st he cn nx og li) (hB : B ≤ B2) : MC B2 S h sv st he cn nx og li := by
  obtain ⟨h1, h2, h3, h4, h5, h6, h7⟩ := H
  refine ⟨h1, h2, h3, h4, fun i hi => ?_, h6, h7⟩
  obtain ⟨v, g1, g2⟩ := h5 i hi
  exact ⟨v, by omega, g2⟩
theorem KX.mono {B B2 A : Nat} {sv : Nat → Int32} {st he ta cl dr : Int32} {cn nx og li mm : Nat → Int32} (H : KX B A sv st he ta cl dr cn nx og li mm) (hB : B ≤ B2) : KX B2 A sv st he ta cl dr cn nx og li mm := by
  obtain ⟨a, b, c, d, e, S, h, h1, h2, h3⟩ := H
  exact ⟨a, b, c, d, e, S, h, h1, h2.mono hB, h3⟩
theorem KX.keep {B A : Nat} {sv : Nat → Int32} {st he ta cl dr : Int32} {cn nx og li mm m2 : Nat → Int32} (H : KX B A sv st he ta cl dr cn nx og li mm) (hk : ∀ j, A ≤ j → j < A + 1260 → m2 j = mm j) : KX B A sv st he ta cl dr cn nx og li m2 := by
  obtain ⟨a, b, c, d, e, S, h, h1, h2, h3⟩ := H
  exact ⟨a, b, c, d, e, S, h, h1, h2, h3.keep h2.S_le hk⟩
theorem s16 : ∀ n, n < 16 → ((nI n &&& 31).toBitVec.smod 32).toNat = n := by decide +kernel
section LIVE
variable {B : Nat} {sv : Nat → Int32} {st he ta cl dr : Int32} {cn nx og li mm : Nat → Int32}
theorem sim_bit (hB : B ≤ 90000) (H : KX B 0 sv st he ta cl dr cn nx og li mm) (x1 : Int32) : ∃ r st' he' ta' cl' dr' cn' nx' og' li', f_X8_bit sv st he ta cl dr cn nx og li x1 = some (r, st', he', ta', cl', dr', cn', nx', og', li') ∧ ∃ mm', f_X9_bit mm x1 = some (r, mm') ∧ KX (B + 8) 0 sv st' he' ta' cl' dr' cn' nx' og' li' mm' ∧ ∀ j, 1260 ≤ j → mm' j = mm j := by
  obtain ⟨a, b, c, d, e, S, h, h1, h2, h3⟩ := id H
  unfold f_X8_bit f_X9_bit
  rcases rng x1 0 1 (by omega) (by omega) with ⟨v, g1, g2, rfl, g3⟩ | ⟨g1, g3⟩
  · rw [show f_X9_in (nI v).toInt64 (0 : Int64) (1 : Int64) = 1 from g3, if_neg (show ¬ (1 : Int32) = 0 by decide), if_neg (nI_pos (by omega)), if_pos (show nI v ≤ (1 : Int32) from nI_le (b := 1) g2 (by omega))]
    obtain ⟨S', h', st', he', ta', cl', dr', cn', nx', og', li', mm', e1, e2, e3, e4, e5⟩ := feed_sim h1 (by omega) h2 h3 (show v < 2 by omega)
    rw [e1, bi9_s, il0, e2, bi1_s]
    refine ⟨he', st', he', ta', cl', dr', cn', nx', og', li', rfl, mm', ?_, ⟨a, b, c, d, e, S', h', h1, e3.mono (by omega), e4⟩, fun j hj => e5 j (by omega)⟩
    have : mm' 1 = he' := e4.2.2.1
    simp (disch := omega) only [il1, nI_clamp, oobn, this]
  · rw [show f_X9_in x1.toInt64 (0 : Int64) (1 : Int64) = 0 from g3, if_pos rfl]
    refine ⟨-1, st, he, ta, cl, dr, cn, nx, og, li, ?_, mm, rfl, H.mono (by omega), fun j _ => rfl⟩
    rcases g1 with g1 | g1
    · rw [if_pos (show x1 < 0 from g1)]
    · by_cases q : x1 < 0
      · rw [if_pos q]
      · rw [if_neg q, if_neg (show ¬ x1 ≤ (1 : Int32) from Int32.not_le.mpr g1)]
theorem sim_take (hB : B ≤ 90000) (H : KX B 0 sv st he ta cl dr cn nx og li mm) (x1 : Int32) : ∃ r st' he' ta' cl' dr' cn' nx' og' li', f_X8_take sv st he ta cl dr cn nx og li x1 = some (r, st', he', ta', cl', dr', cn', nx', og', li') ∧ ∃ mm', f_X9_take mm x1 = some (r, mm') ∧ KX (B + 8) 0 sv st' he' ta' cl' dr' cn' nx' og' li' mm' ∧ ∀ j, 1260 ≤ j → mm' j = mm j := by
  obtain ⟨a, b, c, d, e, S, h, h1, h2, h3⟩ := id H
  unfold f_X8_take f_X9_take
  rcases byt x1 with ⟨v, hv, rfl, g1, g2⟩ | ⟨g1, g2⟩
  · rw [g1, g2, if_neg (show ¬ (1 : Int32) = 0 by decide), if_neg (show ¬ (1 : Int32) = 0 by decide)]
    obtain ⟨-, -, -, -, -, -, -, -, -, -, -, he4, he1⟩ := id h1
    rw [turned_ok he4 he1 (show v < 256 by omega), bi1_s]
    obtain ⟨r, q, hr, hq, hE⟩ := lp_two (st := fun z => st_X8_take_L20 (nI (GG e 8 v)) sv z.1 z.2.1 z.2.2.1 z.2.2.2.1 z.2.2.2.2.1 z.2.2.2.2.2.1 z.2.2.2.2.2.2.1 z.2.2.2.2.2.2.2.1 z.2.2.2.2.2.2.2.2.1 z.2.2.2.2.2.2.2.2.2) (tt := fun z => st_X9_take_L16 (nI v) z.1 z.2)
      (I := fun i z w => z.1 = nI i ∧ w.1 = nI i ∧ (∃ S h, MC (B + i) S h sv z.2.1 z.2.2.1 z.2.2.2.2.2.2.1 z.2.2.2.2.2.2.2.1 z.2.2.2.2.2.2.2.2.1 z.2.2.2.2.2.2.2.2.2 ∧ MM 0 S w.2 sv z.2.1 z.2.2.1 z.2.2.2.1 z.2.2.2.2.1 z.2.2.2.2.2.1 z.2.2.2.2.2.2.1 z.2.2.2.2.2.2.2.1 z.2.2.2.2.2.2.2.2.1) ∧ ∀ j, 1260 ≤ j → w.2 j = mm j)
      (E := fun z w => (∃ S h, MC (B + 8) S h sv z.2.1 z.2.2.1 z.2.2.2.2.2.2.1 z.2.2.2.2.2.2.2.1 z.2.2.2.2.2.2.2.2.1 z.2.2.2.2.2.2.2.2.2 ∧ MM 0 S w.2 sv z.2.1 z.2.2.1 z.2.2.2.1 z.2.2.2.2.1 z.2.2.2.2.2.1 z.2.2.2.2.2.2.1 z.2.2.2.2.2.2.2.1 z.2.2.2.2.2.2.2.2.1) ∧ ∀ j, 1260 ≤ j → w.2 j = mm j) 8
      (by
        rintro i ⟨z0, z1, z2, z3, z4, z5, z6, z7, z8, z9⟩ ⟨w0, w1⟩ hi ⟨y1, y2, ⟨S', h', y3, y4⟩, y5⟩
        dsimp only at y1 y2 y3 y4 y5
        subst y1 y2
        have m9 : w1 9 = nI e := by rw [← he4]; exact y4.2.2.2.2.2.2.1 4 (by omega)
        obtain ⟨S2, h2', st', he', ta', cl', dr', cn', nx', og', li', mm', e1, e2, e3, e4, e5⟩ := feed_sim (b := v / 2 ^ (pl e i) % 2) h1 (by omega) y3 y4 (Nat.mod_lt _ (by omega))
        refine ⟨(nI (i + 1), st', he', ta', cl', dr', cn', nx', og', li'), (nI (i + 1), mm'), ?_, ?_, rfl, rfl, ⟨S2, h2', e3, e4⟩, fun j hj => by rw [← y5 j hj]; exact e5 j (by omega)⟩
        · show st_X8_take_L20 (nI (GG e 8 v)) sv (nI i) z1 z2 z3 z4 z5 z6 z7 z8 z9 = _
          unfold st_X8_take_L20
          rw [if_neg (show ¬ (8 : Int32) ≤ nI i from nI_ge (b := 8) hi (by omega)), tb2 e (by omega) i hi v (by omega), e1, bi9_s, nI_1]
        · show st_X9_take_L16 (nI v) (nI i) w1 = _
          unfold st_X9_take_L16
          rw [if_neg (show ¬ (8 : Int32) ≤ nI i from nI_ge (b := 8) hi (by omega)), place_ok m9 he1 hi, bi1_s, tb3 e (by omega) i hi v (by omega), il0, e2, bi1_s, nI_1])
      (by
        rintro ⟨z0, z1, z2, z3, z4, z5, z6, z7, z8, z9⟩ ⟨w0, w1⟩ ⟨y1, y2, y3, y5⟩
        dsimp only at y1 y2
        subst y1 y2
        refine ⟨_, _, ?_, ?_, y3, y5⟩
        · show st_X8_take_L20 (nI (GG e 8 v)) sv (nI 8) z1 z2 z3 z4 z5 z6 z7 z8 z9 = some (Sum.inr (nI 8, z1, z2, z3, z4, z5, z6, z7, z8, z9))
          unfold st_X8_take_L20
          rw [if_pos (show (8 : Int32) ≤ nI 8 by decide +kernel)]
        · show st_X9_take_L16 (nI v) (nI 8) w1 = some (Sum.inr (nI 8, w1))
          unfold st_X9_take_L16
          rw [if_pos (show (8 : Int32) ≤ nI 8 by decide +kernel)])
      4096 4096 0 (0, st, he, ta, cl, dr, cn, nx, og, li) (0, mm) (by omega) (by omega) (by omega) ⟨rfl, rfl, ⟨S, h, h2, h3⟩, fun j _ => rfl⟩
    obtain ⟨z0, z1, z2, z3, z4, z5, z6, z7, z8, z9⟩ := r
    obtain ⟨w0, w1⟩ := q
    obtain ⟨⟨S', h', y3, y4⟩, y5⟩ := hE
    dsimp only at y3 y4 y5
    unfold f_X8_take_L20 f_X9_take_L16
    rw [hr, bi10_s, hq, bi2_s]
    refine ⟨z2, z1, z2, z3, z4, z5, z6, z7, z8, z9, rfl, w1, ?_, ⟨a, b, c, d, e, S', h', h1, y3, y4⟩, y5⟩
    have : w1 1 = z2 := y4.2.2.1
    simp (disch := omega) only [il1, il0, nI_clamp, oobn, this]
  · rw [g1, g2, if_pos (show (0 : Int32) = 0 from rfl), if_pos (show (0 : Int32) = 0 from rfl)]
    exact ⟨-1, st, he, ta, cl, dr, cn, nx, og, li, rfl, mm, rfl, H.mono (by omega), fun j _ => rfl⟩
theorem sim_likely (H : KX B 0 sv st he ta cl dr cn nx og li mm) (x1 : Int32) : ∃ r, f_X8_likely he cn nx x1 = some r ∧ f_X9_likely mm x1 = some r := by
  obtain ⟨a, b, c, d, e, S, h, h1, h2, h3⟩ := id H
  have hS := h2.S_le
  unfold f_X8_likely f_X9_likely
  rcases rng x1 0 64 (by omega) (by omega) with ⟨n, g1, g2, rfl, g3⟩ | ⟨g1, g3⟩
  · rw [show f_X9_in (nI n).toInt64 (0 : Int64) (64 : Int64) = 1 from g3, if_neg (show ¬ (1 : Int32) = 0 by decide), if_neg (nI_pos (by omega)), if_pos (show nI n ≤ (64 : Int32) from nI_le (b := 64) g2 (by omega))]
    obtain ⟨r, q, hr, hq, hE⟩ := lp_two (st := fun z => st_X8_likely_L22 (nI n) cn nx z.1 z.2) (tt := fun z => st_X9_likely_L23 (nI n) mm z.1 z.2)
      (I := fun i z w => z = (nI (lw nx cn h i), nI i) ∧ w = (nI (lw nx cn h i), nI i)) (E := fun z w => z = (nI (lw nx cn h n), nI n) ∧ w = (nI (lw nx cn h n), nI n)) n
      (by
        rintro i z w hi ⟨rfl, rfl⟩
        have hl := lw_in h2 i
        have hb := Lb_lt cn (lw nx cn h i)
        refine ⟨(nI (lw nx cn h (i + 1)), nI (i + 1)), (nI (lw nx cn h (i + 1)), nI (i + 1)), ?_, ?_, rfl, rfl⟩
        · show st_X8_likely_L22 (nI n) cn nx (nI (lw nx cn h i)) (nI i) = _
          unfold st_X8_likely_L22
          rw [if_neg (nI_ge hi (by omega)), lb_c h2 hl, next_c h2 hl hb, nI_1]
          rfl
        · have e1 := next_m h2 h3 hl hb
          rw [show 0 + 510 + 2 * lw nx cn h i + Lb cn (lw nx cn h i) = 510 + 2 * lw nx cn h i + Lb cn (lw nx cn h i) by omega] at e1
          show st_X9_likely_L23 (nI n) mm (nI (lw nx cn h i)) (nI i) = _
          unfold st_X9_likely_L23
          rw [if_neg (nI_ge hi (by omega)), lb_m h2 h3 hl, bi1_s]
          simp (disch := omega) only [il0, il1, il2, il510, nI_add, pk_mul, nI_clamp, oobn, e1]
          rfl)
      (by
        rintro z w ⟨rfl, rfl⟩
        refine ⟨_, _, ?_, ?_, rfl, rfl⟩
        · show st_X8_likely_L22 (nI n) cn nx (nI (lw nx cn h n)) (nI n) = _
          unfold st_X8_likely_L22
          rw [if_pos (nI_le (Nat.le_refl _) (by omega))]
        · show st_X9_likely_L23 (nI n) mm (nI (lw nx cn h n)) (nI n) = _
          unfold st_X9_likely_L23
          rw [if_pos (nI_le (Nat.le_refl _) (by omega))])
      4096 4096 0 (he, 0) (he, 0) (by omega) (by omega) (by omega) ⟨by rw [h2.2.1]; rfl, by rw [h2.2.1]; rfl⟩
    obtain ⟨rfl, rfl⟩ := hE
    have m1 : mm 1 = he := h3.2.2.1
    unfold f_X8_likely_L22 f_X9_likely_L23
    rw [hr, bi2_s, il1, oobi _ (by omega) (by omega), nI_clamp (by omega), m1, hq, bi2_s]
    exact ⟨_, rfl, rfl⟩
  · rw [show f_X9_in x1.toInt64 (0 : Int64) (64 : Int64) = 0 from g3, if_pos rfl]
    refine ⟨-1, ?_, rfl⟩
    rcases g1 with g1 | g1
    · rw [if_pos (show x1 < 0 from g1)]
    · by_cases q : x1 < 0
      · rw [if_pos q]
      · rw [if_neg q, if_neg (show ¬ x1 ≤ (64 : Int32) from Int32.not_le.mpr g1)]
theorem sim_guess (H : KX B 0 sv st he ta cl dr cn nx og li mm) : ∃ r, f_X8_guess sv he cn nx = some r ∧ f_X9_guess mm = some r := by
  obtain ⟨a, b, c, d, e, S, h, h1, h2, h3⟩ := id H
  have hS := h2.S_le
  obtain ⟨-, -, -, -, -, -, -, -, -, -, -, he4, he1⟩ := id h1
  have m9 : mm 9 = nI e := by rw [← he4]; exact h3.2.2.2.2.2.2.1 4 (by omega)
  obtain ⟨r, q, hr, hq, hE⟩ := lp_two (st := fun z => st_X8_guess_L12 cn nx z.1 z.2.1 z.2.2) (tt := fun z => st_X9_guess_L11 mm z.1 z.2.1 z.2.2)
    (I := fun i z w => z = (nI (lw nx cn h i), nI (lv2 nx cn h i), nI i) ∧ w = (nI (lw nx cn h i), nI (GG e i (lv2 nx cn h i)), nI i)) (E := fun z w => z = (nI (lw nx cn h 8), nI (lv2 nx cn h 8), nI 8) ∧ w = (nI (lw nx cn h 8), nI (GG e 8 (lv2 nx cn h 8)), nI 8)) 8
    (by
      rintro i z w hi ⟨rfl, rfl⟩
      have hl := lw_in h2 i
      have hb := Lb_lt cn (lw nx cn h i)
      refine ⟨(nI (lw nx cn h (i + 1)), nI (lv2 nx cn h (i + 1)), nI (i + 1)), (nI (lw nx cn h (i + 1)), nI (GG e (i + 1) (lv2 nx cn h (i + 1))), nI (i + 1)), ?_, ?_, rfl, rfl⟩
      · show st_X8_guess_L12 cn nx (nI (lw nx cn h i)) (nI (lv2 nx cn h i)) (nI i) = _
        unfold st_X8_guess_L12
        rw [if_neg (show ¬ (8 : Int32) ≤ nI i from nI_ge (b := 8) hi (by omega)), lb_c h2 hl, next_c h2 hl hb, nI_1, il2, pk_mul, nI_add]
        rfl
      · have e1 := next_m h2 h3 hl hb
        rw [show 0 + 510 + 2 * lw nx cn h i + Lb cn (lw nx cn h i) = 510 + 2 * lw nx cn h i + Lb cn (lw nx cn h i) by omega] at e1
        show st_X9_guess_L11 mm (nI (lw nx cn h i)) (nI (GG e i (lv2 nx cn h i))) (nI i) = _
        unfold st_X9_guess_L11
        rw [if_neg (show ¬ (8 : Int32) ≤ nI i from nI_ge (b := 8) hi (by omega)), lb_m h2 h3 hl, bi1_s, place_ok m9 he1 hi, bi1_s, tb4 e (by omega) i hi _ (lv2_lt nx cn h i) _ hb]
        simp (disch := omega) only [il0, il1, il2, il510, nI_add, pk_mul, nI_clamp, oobn, e1]
        rfl)
    (by
      rintro z w ⟨rfl, rfl⟩
      refine ⟨_, _, ?_, ?_, rfl, rfl⟩
      · show st_X8_guess_L12 cn nx (nI (lw nx cn h 8)) (nI (lv2 nx cn h 8)) (nI 8) = _
        unfold st_X8_guess_L12
        rw [if_pos (show (8 : Int32) ≤ nI 8 by decide +kernel)]
      · show st_X9_guess_L11 mm (nI (lw nx cn h 8)) (nI (GG e 8 (lv2 nx cn h 8))) (nI 8) = _
        unfold st_X9_guess_L11
        rw [if_pos (show (8 : Int32) ≤ nI 8 by decide +kernel)])
    4096 4096 0 (he, 0, 0) (he, 0, 0) (by omega) (by omega) (by omega) ⟨by rw [h2.2.1]; rfl, by rw [h2.2.1]; rfl⟩
  obtain ⟨rfl, rfl⟩ := hE
  have m1 : mm 1 = he := h3.2.2.1
  have hl := lv2_lt nx cn h 8
  unfold f_X8_guess f_X9_guess f_X8_guess_L12 f_X9_guess_L11
  rw [hr, bi3_s, turned_ok he4 he1 hl, bi1_s, il1, oobi _ (by omega) (by omega), nI_clamp (by omega), m1, hq, bi3_s]
  exact ⟨_, rfl, rfl⟩
theorem cbit : ∀ k, k < 16 → ∀ v : Nat, v < 65536 → (nI v >>> (((15 : Int32) - nI k) &&& 31)) &&& 1 = nI (v / 2 ^ (15 - k) % 2) := by
  intro k hk v hv
  have e : ((15 : Int32) - nI k) &&& 31 = nI (15 - k) &&& 31 := by rw [il15, nsub (by omega)]
  rw [e, pk_shrN (k := 15 - k) (by omega) _ (by
    have := s16 (15 - k) (by omega)
    exact this)]
  rw [show (1 : Int32) = nI 1 from rfl]
  have := pk_andN (n := v / 2 ^ (15 - k)) (m := nI 1) (by
    have : v / 2 ^ (15 - k) ≤ v := Nat.div_le_self _ _
    omega) 1 (by decide +kernel)
  rw [this]
theorem sim_cost {sp : Int32} (hB : B ≤ 100000) (H : KX B 0 sv st he ta cl dr cn nx og li mm) (x1 x2 : Int32) : ∃ r sp', f_X8_cost he cn nx x1 x2 = some r ∧ f_X9_cost sp mm x1 x2 = some (r, sp') := by
  obtain ⟨a, b, c, d, e, S, h, h1, h2, h3⟩ := id H
  unfold f_X8_cost f_X9_cost
  rcases rng x1 0 65535 (by omega) (by omega) with ⟨v, g1, g2, rfl, g3⟩ | ⟨g1, g3⟩
  · rw [show f_X9_in (nI v).toInt64 (0 : Int64) (65535 : Int64) = 1 from g3, if_neg (show ¬ (1 : Int32) = 0 by decide), if_neg (nI_pos (by omega)), if_neg (show ¬ (65535 : Int32) < nI v from nI_nlt (a := 65535) g2 (by omega))]
    rcases rng x2 1 16 (by omega) (by omega) with ⟨n, k1, k2, rfl, k3⟩ | ⟨k1, k3⟩
    · rw [show f_X9_in (nI n).toInt64 (1 : Int64) (16 : Int64) = 1 from k3, if_neg (show ¬ (1 : Int32) = 0 by decide), if_neg (show ¬ nI n < (1 : Int32) from nI_nlt (b := 1) k1 (by omega)), if_pos (show nI n ≤ (16 : Int32) from nI_le (b := 16) k2 (by omega))]
      have m1 : mm 1 = nI h := by rw [← h2.2.1]; exact h3.2.2.1
      have hβ : ∀ k, (fun k => v / 2 ^ (15 - k) % 2) k < 2 := fun k => Nat.mod_lt _ (by omega)
      have w1 := costOf_c (v1 := nI v) (v2 := 16) (n := n) hB h2 h3 hβ k2 (fun k hk => by
        unfold f_X8_bitFromHighest
        rw [show (16 : Int32) - 1 = 15 by decide +kernel]
        exact cbit k (by omega) v (by omega))
      have w2 := cost_m (v1 := nI v) (n := n) hB h2 h3 hβ k2 (fun k hk => cbit k (by omega) v (by omega))
      rw [w1, bi1_s, il1, oobi _ (by omega) (by omega), nI_clamp (by omega), m1, w2, bi3_s]
      exact ⟨_, _, rfl, rfl⟩
    · rw [show f_X9_in x2.toInt64 (1 : Int64) (16 : Int64) = 0 from k3, if_pos (show (0 : Int32) = 0 from rfl)]
      refine ⟨-1, sp, ?_, rfl⟩
      rcases k1 with k1 | k1
      · rw [if_pos (show x2 < 1 from k1)]
      · by_cases q : x2 < 1
        · rw [if_pos q]
        · rw [if_neg q, if_neg (show ¬ x2 ≤ (16 : Int32) from Int32.not_le.mpr k1)]
  · rw [show f_X9_in x1.toInt64 (0 : Int64) (65535 : Int64) = 0 from g3, if_pos (show (0 : Int32) = 0 from rfl)]
    refine ⟨-1, sp, ?_, rfl⟩
    rcases g1 with g1 | g1
    · rw [if_pos (show x1 < 0 from g1)]
    · by_cases q : x1 < 0
      · rw [if_pos q]
      · rw [if_neg q, if_pos (show (65535 : Int32) < x1 from g1)]
end LIVE
