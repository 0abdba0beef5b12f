section LIVE2
variable {B S h : Nat} {sv : Nat → Int32} {st he ta cl dr : Int32} {cn nx og li mm : Nat → Int32}
/-- all counts of the first k states -/
def asum (cn : Nat → Int32) : Nat → Int32
  | 0 => 0
  | k + 1 => asum cn k + (cn (2 * k) + cn (2 * k + 1))
/-- how many of the first k states have nothing flowing in -/
def dsum (nx cn : Nat → Int32) (n : Nat) : Nat → Int32
  | 0 => 0
  | k + 1 => dsum nx cn n k + (if fsum nx cn k n = 0 then 1 else 0)
def lmax (li : Nat → Int32) : Nat → Int32
  | 0 => 0
  | k + 1 => if lmax li k < li k then li k else lmax li k
theorem both_c {k : Nat} (hk : k < 250) : f_X2_bothCounts cn (nI k) = cn (2 * k) + cn (2 * k + 1) := by
  unfold f_X2_bothCounts
  rw [il0, il1, count_c hk (by omega), count_c hk (by omega), Nat.add_zero]
theorem both_m {k : Nat} (hk : k < S) (hS : S ≤ 250) (m6 : ∀ i, i < 2 * S → mm (0 + 10 + i) = cn i ∧ mm (0 + 510 + i) = nx i) : f_X9_both mm (nI 0) (nI k) = some (cn (2 * k) + cn (2 * k + 1)) := by
  have c0 : mm (10 + 2 * k) = cn (2 * k) := by rw [show 10 + 2 * k = 0 + 10 + 2 * k by omega, (m6 _ (by omega)).1]
  have c1 : mm (10 + 2 * k + 1) = cn (2 * k + 1) := by rw [show 10 + 2 * k + 1 = 0 + 10 + (2 * k + 1) by omega, (m6 _ (by omega)).1]
  unfold f_X9_both
  simp (disch := omega) only [il0, il1, il2, il10, nI_add, pk_mul, nI_clamp, oobn, Nat.zero_add, c0, c1]
theorem allCounts_c (H : MC B S h sv st he cn nx og li) : f_X2_allCounts st cn = some (asum cn S) := by
  have hS := H.S_le
  have es := H.1
  obtain ⟨r, hr, hE⟩ := lp_for (st := fun z => st_X2_allCounts_L4 st cn z.1 z.2)
    (I := fun i z => z = (asum cn i, nI i)) (E := fun z => z = (asum cn S, nI S)) S
    (by
      rintro i z hi rfl
      refine ⟨(asum cn (i + 1), nI (i + 1)), ?_, rfl⟩
      show st_X2_allCounts_L4 st cn (asum cn i) (nI i) = _
      unfold st_X2_allCounts_L4
      rw [es, if_neg (nI_ge hi (by omega)), both_c (by omega), nI_1]
      rfl)
    (by
      rintro z rfl
      refine ⟨_, ?_, rfl⟩
      show st_X2_allCounts_L4 st cn (asum cn S) (nI S) = _
      unfold st_X2_allCounts_L4
      rw [es, if_pos (nI_le (Nat.le_refl _) (by omega))])
    4096 0 (0, 0) (by omega) (by omega) rfl
  unfold f_X2_allCounts f_X2_allCounts_L4
  rw [hr, hE, bi2_s]
theorem longest_c (H : MC B S h sv st he cn nx og li) : f_X2_longestLine st li = some (lmax li S) := by
  have hS := H.S_le
  have es := H.1
  obtain ⟨r, hr, hE⟩ := lp_for (st := fun z => st_X2_longestLine_L4 st li z.1 z.2)
    (I := fun i z => z = (lmax li i, nI i)) (E := fun z => z = (lmax li S, nI S)) S
    (by
      rintro i z hi rfl
      refine ⟨(lmax li (i + 1), nI (i + 1)), ?_, rfl⟩
      show st_X2_longestLine_L4 st li (lmax li i) (nI i) = _
      unfold st_X2_longestLine_L4
      rw [es, if_neg (nI_ge hi (by omega)), get_nI (by omega) (by omega), nI_1]
      rfl)
    (by
      rintro z rfl
      refine ⟨_, ?_, rfl⟩
      show st_X2_longestLine_L4 st li (lmax li S) (nI S) = _
      unfold st_X2_longestLine_L4
      rw [es, if_pos (nI_le (Nat.le_refl _) (by omega))])
    4096 0 (0, 0) (by omega) (by omega) rfl
  unfold f_X2_longestLine f_X2_longestLine_L4
  rw [hr, hE, bi2_s]
theorem dry_c (H : MC B S h sv st he cn nx og li) (fl : Nat → Int32) : ∃ fl', f_X2_statesWithoutFlow st cn nx fl = some (dsum nx cn (2 * S) S, fl') := by
  have hS := H.S_le
  have es := H.1
  obtain ⟨fl', q1, q2⟩ := reckon H fl
  obtain ⟨r, hr, hE⟩ := lp_for (st := fun z => st_X2_statesWithoutFlow_L8 st fl' z.1 z.2)
    (I := fun i z => z = (dsum nx cn (2 * S) i, nI i)) (E := fun z => z = (dsum nx cn (2 * S) S, nI S)) S
    (by
      rintro i z hi rfl
      refine ⟨(dsum nx cn (2 * S) (i + 1), nI (i + 1)), ?_, rfl⟩
      show st_X2_statesWithoutFlow_L8 st fl' (dsum nx cn (2 * S) i) (nI i) = some (Sum.inl (dsum nx cn (2 * S) i + (if fsum nx cn i (2 * S) = 0 then 1 else 0), nI (i + 1)))
      unfold st_X2_statesWithoutFlow_L8
      rw [es, if_neg (nI_ge hi (by omega)), get_nI (by omega) (by omega), q2 i hi, nI_1]
      by_cases q : fsum nx cn i (2 * S) = 0
      · rw [if_pos q, if_pos q]
      · rw [if_neg q, if_neg q, lgAddZero])
    (by
      rintro z rfl
      refine ⟨_, ?_, rfl⟩
      show st_X2_statesWithoutFlow_L8 st fl' (dsum nx cn (2 * S) S) (nI S) = _
      unfold st_X2_statesWithoutFlow_L8
      rw [es, if_pos (nI_le (Nat.le_refl _) (by omega))])
    4096 0 (0, 0) (by omega) (by omega) rfl
  refine ⟨fl', ?_⟩
  unfold f_X2_statesWithoutFlow f_X2_statesWithoutFlow_L8
  rw [q1, bi1_s, hr, hE, bi2_s]
theorem live_m (H : MC B S h sv st he cn nx og li) (M : MM 0 S mm sv st he ta cl dr cn nx og) {w : Nat} (hw : 5 ≤ w) (hw2 : w ≤ 7) : ∃ v2 v3 v4 v5, f_X9_live_L36 (nI w) mm 4096 0 0 0 0 = some (v2, v3, v4, v5) ∧ v2 = asum cn S ∧ (w = 6 → v3 = dsum nx cn (2 * S) S) ∧ (w = 7 → v4 = lmax li S) := by
  have hS := H.S_le
  have es := H.1
  obtain ⟨-, m0, -, -, -, -, -, m6, -⟩ := id M
  obtain ⟨r, hr, hE⟩ := lp_for (st := fun z => st_X9_live_L36 (nI w) mm z.1 z.2.1 z.2.2.1 z.2.2.2)
    (I := fun i z => z.1 = asum cn i ∧ (w = 6 → z.2.1 = dsum nx cn (2 * S) i) ∧ (w = 7 → z.2.2.1 = lmax li i) ∧ z.2.2.2 = nI i) (E := fun z => z.1 = asum cn S ∧ (w = 6 → z.2.1 = dsum nx cn (2 * S) S) ∧ (w = 7 → z.2.2.1 = lmax li S)) S
    (by
      rintro i ⟨z1, z2, z3, z4⟩ hi ⟨y1, y2, y3, y4⟩
      dsimp only at y1 y2 y3 y4
      subst y1 y4
      have hb := both_m hi hS m6
      have hf := flow_m H M (s := i)
      have hl := line_m H M hi
      rcases (show w = 5 ∨ w = 6 ∨ w = 7 by omega) with rfl | rfl | rfl
      · refine ⟨(asum cn (i + 1), z2 + 0, z3, nI (i + 1)), ?_, rfl, fun q => by omega, fun q => by omega, rfl⟩
        show st_X9_live_L36 (nI 5) mm (asum cn i) z2 z3 (nI i) = _
        unfold st_X9_live_L36
        simp (disch := omega) only [il0, il1, il6, il7, nI_clamp, oobn, m0, es, ile_f, hb, bi1_s, ieq_f, nI_add]
        rfl
      · refine ⟨(asum cn (i + 1), dsum nx cn (2 * S) (i + 1), z3, nI (i + 1)), ?_, rfl, fun _ => rfl, fun q => by omega, rfl⟩
        rw [y2 rfl]
        show st_X9_live_L36 (nI 6) mm (asum cn i) (dsum nx cn (2 * S) i) z3 (nI i) = some (Sum.inl (asum cn i + (cn (2 * i) + cn (2 * i + 1)), dsum nx cn (2 * S) i + (if fsum nx cn i (2 * S) = 0 then 1 else 0), z3, nI (i + 1)))
        unfold st_X9_live_L36
        by_cases q : fsum nx cn i (2 * S) = nI 0
        · simp (disch := omega) only [il0, il1, il6, il7, nI_clamp, oobn, m0, es, ile_f, hb, bi1_s, ieq_f, nI_add, hf, ↓reduceIte, if_pos q]
        · simp (disch := omega) only [il0, il1, il6, il7, nI_clamp, oobn, m0, es, ile_f, hb, bi1_s, ieq_f, nI_add, hf, ↓reduceIte, if_neg q]
      · refine ⟨(asum cn (i + 1), z2 + 0, lmax li (i + 1), nI (i + 1)), ?_, rfl, fun q => by omega, fun _ => rfl, rfl⟩
        rw [y3 rfl]
        show st_X9_live_L36 (nI 7) mm (asum cn i) z2 (lmax li i) (nI i) = some (Sum.inl (asum cn i + (cn (2 * i) + cn (2 * i + 1)), z2 + 0, (if lmax li i < li i then li i else lmax li i), nI (i + 1)))
        unfold st_X9_live_L36
        by_cases q : li i ≤ lmax li i
        · rw [if_neg (Int32.not_lt.mpr q)]
          simp (disch := omega) only [il0, il1, il6, il7, nI_clamp, oobn, m0, es, ile_f, hb, bi1_s, ieq_f, nI_add, hl, ↓reduceIte, if_pos q]
        · rw [if_pos (Int32.not_le.mp q)]
          simp (disch := omega) only [il0, il1, il6, il7, nI_clamp, oobn, m0, es, ile_f, hb, bi1_s, ieq_f, nI_add, hl, ↓reduceIte, if_neg q])
    (by
      rintro ⟨z1, z2, z3, z4⟩ ⟨y1, y2, y3, y4⟩
      dsimp only at y1 y2 y3 y4
      subst y4
      refine ⟨(z1, z2, z3, nI S), ?_, y1, y2, y3⟩
      show st_X9_live_L36 (nI w) mm z1 z2 z3 (nI S) = _
      unfold st_X9_live_L36
      simp (disch := omega) only [il0, nI_clamp, oobn, m0, es, ile_t])
    4096 0 (0, 0, 0, 0) (by omega) (by omega) ⟨rfl, fun _ => rfl, fun _ => rfl, rfl⟩
  obtain ⟨z1, z2, z3, z4⟩ := r
  exact ⟨z1, z2, z3, z4, hr, hE⟩
theorem sim_live (H : KX B 0 sv st he ta cl dr cn nx og li mm) (fl : Nat → Int32) (x1 : Int32) : ∃ r fl', f_X8_live st he ta cl dr cn nx li fl x1 = some (r, fl') ∧ f_X9_live mm x1 = some r := by
  obtain ⟨a, b, c, d, e, S, h, h1, h2, h3⟩ := id H
  obtain ⟨-, m0, m1, m2, m3, m4, -, -, -⟩ := id h3
  unfold f_X8_live f_X9_live
  rcases rng x1 0 7 (by omega) (by omega) with ⟨w, k1, k2, rfl, k3⟩ | ⟨k1, k3⟩
  · rw [show f_X9_in (nI w).toInt64 (0 : Int64) (7 : Int64) = 1 from k3, if_neg (show ¬ (1 : Int32) = 0 by decide)]
    by_cases hw : 5 ≤ w
    · obtain ⟨v2, v3, v4, v5, q1, q2, q3, q4⟩ := live_m h2 h3 hw k2
      rcases (show w = 5 ∨ w = 6 ∨ w = 7 by omega) with rfl | rfl | rfl
      · have := allCounts_c h2
        refine ⟨asum cn S, fl, ?_, ?_⟩
        · simp (disch := omega) only [il0, il1, il2, il3, il4, il5, il6, il7, il8, il9, il10, il15, il32, il40, il60, il64, il100, il200, il250, il255, il500, il510, il1010, il1260, il1261, il1265, il1924, il2000, il2520, il4095, il4096, il5040, il65535, il1000000, ↓reduceIte, ieq_f, this, bi1_s]
        · rw [q1, bi4_s, q2]
          rfl
      · obtain ⟨fl', this⟩ := dry_c h2 fl
        refine ⟨dsum nx cn (2 * S) S, fl', ?_, ?_⟩
        · simp (disch := omega) only [il0, il1, il2, il3, il4, il5, il6, il7, il8, il9, il10, il15, il32, il40, il60, il64, il100, il200, il250, il255, il500, il510, il1010, il1260, il1261, il1265, il1924, il2000, il2520, il4095, il4096, il5040, il65535, il1000000, ↓reduceIte, ieq_f, this, bi2_s]
        · rw [q1, bi4_s, q3 rfl]
          rfl
      · have := longest_c h2
        refine ⟨lmax li S, fl, ?_, ?_⟩
        · simp (disch := omega) only [il0, il1, il2, il3, il4, il5, il6, il7, il8, il9, il10, il15, il32, il40, il60, il64, il100, il200, il250, il255, il500, il510, il1010, il1260, il1261, il1265, il1924, il2000, il2520, il4095, il4096, il5040, il65535, il1000000, ↓reduceIte, ieq_f, this, bi1_s]
        · rw [q1, bi4_s, q4 rfl]
          rfl
    · rcases (show w = 0 ∨ w = 1 ∨ w = 2 ∨ w = 3 ∨ w = 4 by omega) with rfl | rfl | rfl | rfl | rfl
      · exact ⟨st, fl, by simp (disch := omega) only [il0, il1, il2, il3, il4, il5, il6, il7, il8, il9, il10, il15, il32, il40, il60, il64, il100, il200, il250, il255, il500, il510, il1010, il1260, il1261, il1265, il1924, il2000, il2520, il4095, il4096, il5040, il65535, il1000000, ↓reduceIte, ieq_f], by simp (disch := omega) only [il0, il1, il2, il3, il4, il5, il6, il7, il8, il9, il10, il15, il32, il40, il60, il64, il100, il200, il250, il255, il500, il510, il1010, il1260, il1261, il1265, il1924, il2000, il2520, il4095, il4096, il5040, il65535, il1000000, ile_f, nI_clamp, oobn, show mm 0 = st from m0]⟩
      · exact ⟨he, fl, by simp (disch := omega) only [il0, il1, il2, il3, il4, il5, il6, il7, il8, il9, il10, il15, il32, il40, il60, il64, il100, il200, il250, il255, il500, il510, il1010, il1260, il1261, il1265, il1924, il2000, il2520, il4095, il4096, il5040, il65535, il1000000, ↓reduceIte, ieq_f], by simp (disch := omega) only [il0, il1, il2, il3, il4, il5, il6, il7, il8, il9, il10, il15, il32, il40, il60, il64, il100, il200, il250, il255, il500, il510, il1010, il1260, il1261, il1265, il1924, il2000, il2520, il4095, il4096, il5040, il65535, il1000000, ile_f, nI_clamp, oobn, show mm 1 = he from m1]⟩
      · exact ⟨ta, fl, by simp (disch := omega) only [il0, il1, il2, il3, il4, il5, il6, il7, il8, il9, il10, il15, il32, il40, il60, il64, il100, il200, il250, il255, il500, il510, il1010, il1260, il1261, il1265, il1924, il2000, il2520, il4095, il4096, il5040, il65535, il1000000, ↓reduceIte, ieq_f], by simp (disch := omega) only [il0, il1, il2, il3, il4, il5, il6, il7, il8, il9, il10, il15, il32, il40, il60, il64, il100, il200, il250, il255, il500, il510, il1010, il1260, il1261, il1265, il1924, il2000, il2520, il4095, il4096, il5040, il65535, il1000000, ile_f, nI_clamp, oobn, show mm 2 = ta from m2]⟩
      · exact ⟨cl, fl, by simp (disch := omega) only [il0, il1, il2, il3, il4, il5, il6, il7, il8, il9, il10, il15, il32, il40, il60, il64, il100, il200, il250, il255, il500, il510, il1010, il1260, il1261, il1265, il1924, il2000, il2520, il4095, il4096, il5040, il65535, il1000000, ↓reduceIte, ieq_f], by simp (disch := omega) only [il0, il1, il2, il3, il4, il5, il6, il7, il8, il9, il10, il15, il32, il40, il60, il64, il100, il200, il250, il255, il500, il510, il1010, il1260, il1261, il1265, il1924, il2000, il2520, il4095, il4096, il5040, il65535, il1000000, ile_f, nI_clamp, oobn, show mm 3 = cl from m3]⟩
      · exact ⟨dr, fl, by simp (disch := omega) only [il0, il1, il2, il3, il4, il5, il6, il7, il8, il9, il10, il15, il32, il40, il60, il64, il100, il200, il250, il255, il500, il510, il1010, il1260, il1261, il1265, il1924, il2000, il2520, il4095, il4096, il5040, il65535, il1000000, ↓reduceIte, ieq_f], by simp (disch := omega) only [il0, il1, il2, il3, il4, il5, il6, il7, il8, il9, il10, il15, il32, il40, il60, il64, il100, il200, il250, il255, il500, il510, il1010, il1260, il1261, il1265, il1924, il2000, il2520, il4095, il4096, il5040, il65535, il1000000, ile_f, nI_clamp, oobn, show mm 4 = dr from m4]⟩
  · rw [show f_X9_in x1.toInt64 (0 : Int64) (7 : Int64) = 0 from k3, if_pos (show (0 : Int32) = 0 from rfl)]
    have hw : ∀ k, k ≤ 7 → ¬ x1 = nI k := by
      intro k hk q
      subst q
      rcases k1 with k1 | k1
      · exact nI_nlt (by omega) (by omega) k1
      · exact nI_nlt hk (by omega) k1
    refine ⟨-1, fl, ?_, rfl⟩
    rw [if_neg (show ¬ x1 = 0 from hw 0 (by omega)), if_neg (show ¬ x1 = 1 from hw 1 (by omega)), if_neg (show ¬ x1 = 2 from hw 2 (by omega)), if_neg (show ¬ x1 = 3 from hw 3 (by omega)), if_neg (show ¬ x1 = 4 from hw 4 (by omega)), if_neg (show ¬ x1 = 5 from hw 5 (by omega)), if_neg (show ¬ x1 = 6 from hw 6 (by omega)), if_neg (show ¬ x1 = 7 from hw 7 (by omega))]
end LIVE2
