/-- what costs a row of bits: where it comes to, and how much -/
def cw (nx cn : Nat → Int32) (β : Nat → Nat) (h : Nat) : Nat → Nat × Nat
  | 0 => (h, 0)
  | k + 1 => (Nx nx (cw nx cn β h k).1 (β k), (cw nx cn β h k).2 + (if β k = 1 then 4096 - Ch cn (cw nx cn β h k).1 else Ch cn (cw nx cn β h k).1))
/-- where likely bits lead -/
def lw (nx cn : Nat → Int32) (h : Nat) : Nat → Nat
  | 0 => h
  | k + 1 => Nx nx (lw nx cn h k) (Lb cn (lw nx cn h k))
/-- the number that they spell -/
def lv2 (nx cn : Nat → Int32) (h : Nat) : Nat → Nat
  | 0 => 0
  | k + 1 => 2 * lv2 nx cn h k + Lb cn (lw nx cn h k)
theorem lv2_lt (nx cn : Nat → Int32) (h k : Nat) : lv2 nx cn h k < 2 ^ k := by
  induction k with
  | zero => exact Nat.one_pos
  | succ k ih =>
    have := Lb_lt cn (lw nx cn h k)
    show 2 * lv2 nx cn h k + Lb cn (lw nx cn h k) < 2 ^ (k + 1)
    rw [Nat.pow_succ]
    omega
section WLK
variable {B S h : Nat} {mm sv cn nx og li : Nat → Int32} {st he ta cl dr : Int32}
theorem cw_in (hB : B ≤ 100000) (H : MC B S h sv st he cn nx og li) (M : MM 0 S mm sv st he ta cl dr cn nx og) {β : Nat → Nat} (hβ : ∀ k, β k < 2) (k : Nat) : (cw nx cn β h k).1 < S ∧ (cw nx cn β h k).2 ≤ 4096 * k := by
  induction k with
  | zero => exact ⟨H.2.2.1, Nat.le_refl _⟩
  | succ k ih =>
    obtain ⟨c1, c2, -, -⟩ := chance_ok hB H M ih.1
    refine ⟨(Nx_lt H ih.1 (hβ k)).1, ?_⟩
    show (cw nx cn β h k).2 + (if β k = 1 then 4096 - Ch cn (cw nx cn β h k).1 else Ch cn (cw nx cn β h k).1) ≤ 4096 * (k + 1)
    split <;> omega
theorem lw_in (H : MC B S h sv st he cn nx og li) (k : Nat) : lw nx cn h k < S := by
  induction k with
  | zero => exact H.2.2.1
  | succ k ih => exact (Nx_lt H ih (Lb_lt _ _)).1
theorem costOf_c (hB : B ≤ 100000) (H : MC B S h sv st he cn nx og li) (M : MM 0 S mm sv st he ta cl dr cn nx og) {β : Nat → Nat} (hβ : ∀ k, β k < 2) {v1 v2 : Int32} {n : Nat} (hn : n ≤ 16) (hb : ∀ k, k < n → f_X8_bitFromHighest v1 v2 (nI k) = nI (β k)) : f_X2_costOf he cn nx v1 v2 (nI n) = some (nI (cw nx cn β h n).2) := by
  obtain ⟨r, hr, hE⟩ := lp_for (st := fun z => st_X2_costOf_L12 v1 v2 (nI n) cn nx z.1 z.2.1 z.2.2)
    (I := fun i z => z = (nI (cw nx cn β h i).1, nI (cw nx cn β h i).2, nI i)) (E := fun z => z = (nI (cw nx cn β h n).1, nI (cw nx cn β h n).2, nI n)) n
    (by
      rintro i z hi rfl
      obtain ⟨w1, w2⟩ := cw_in hB H M hβ i
      obtain ⟨c1, c2, c3, -⟩ := chance_ok hB H M w1
      refine ⟨(nI (cw nx cn β h (i + 1)).1, nI (cw nx cn β h (i + 1)).2, nI (i + 1)), ?_, rfl⟩
      show st_X2_costOf_L12 v1 v2 (nI n) cn nx (nI (cw nx cn β h i).1) (nI (cw nx cn β h i).2) (nI i) = _
      unfold st_X2_costOf_L12
      rw [if_neg (nI_ge hi (by omega)), hb i hi, c3, next_c H w1 (hβ i), nI_1]
      show _ = some (Sum.inl (nI (Nx nx (cw nx cn β h i).1 (β i)), nI ((cw nx cn β h i).2 + (if β i = 1 then 4096 - Ch cn (cw nx cn β h i).1 else Ch cn (cw nx cn β h i).1)), nI (i + 1)))
      by_cases q : β i = 1
      · rw [q, if_pos (show nI 1 = (1 : Int32) from rfl), if_pos rfl, il4096, nsub (by omega), nI_add]
      · rw [if_neg (show ¬ nI (β i) = (1 : Int32) from fun z => q ((nI_eq (by have := hβ i; omega) (by omega)).mp (show nI (β i) = nI 1 from z))), if_neg q, nI_add])
    (by
      rintro z rfl
      refine ⟨_, ?_, rfl⟩
      show st_X2_costOf_L12 v1 v2 (nI n) cn nx (nI (cw nx cn β h n).1) (nI (cw nx cn β h n).2) (nI n) = _
      unfold st_X2_costOf_L12
      rw [if_pos (nI_le (Nat.le_refl _) (by omega))])
    4096 0 (he, 0, 0) (by omega) (by omega) (by rw [H.2.1]; rfl)
  unfold f_X2_costOf f_X2_costOf_L12
  rw [hr, hE, bi3_s]
theorem costOf_m (hB : B ≤ 100000) (H : MC B S h sv st he cn nx og li) (M : MM 0 S mm sv st he ta cl dr cn nx og) {s b : Nat} (hs : s < S) (hb : b < 2) : f_X9_costOf (nI s) mm (nI b) = some (nI (if b = 1 then 4096 - Ch cn s else Ch cn s), nI (Nx nx s b)) := by
  have hS := H.S_le
  obtain ⟨c1, c2, -, c4⟩ := chance_ok hB H M hs
  have e := next_m H M hs hb
  rw [show 0 + 510 + 2 * s + b = 510 + 2 * s + b by omega] at e
  unfold f_X9_costOf
  rw [il0, c4, bi1_s]
  simp (disch := omega) only [il2, il1, il510, nI_add, pk_mul, nI_clamp, oobn, e]
  by_cases q : b = 1
  · subst q
    rw [if_pos rfl, if_pos rfl, il4096, nsub (by omega)]
  · rw [if_neg (fun z => q ((nI_eq (by omega) (by omega)).mp z)), if_neg q]
theorem cost_m (hB : B ≤ 100000) (H : MC B S h sv st he cn nx og li) (M : MM 0 S mm sv st he ta cl dr cn nx og) {β : Nat → Nat} (hβ : ∀ k, β k < 2) {v1 : Int32} {n : Nat} (hn : n ≤ 16) (hb : ∀ k, k < n → (v1 >>> (((15 : Int32) - nI k) &&& 31)) &&& 1 = nI (β k)) : f_X9_cost_L41 v1 (nI n) mm 4096 0 0 (nI h) = some (nI (cw nx cn β h n).2, nI n, nI (cw nx cn β h n).1) := by
  obtain ⟨r, hr, hE⟩ := lp_for (st := fun z => st_X9_cost_L41 v1 (nI n) mm z.1 z.2.1 z.2.2)
    (I := fun i z => z = (nI (cw nx cn β h i).2, nI i, nI (cw nx cn β h i).1)) (E := fun z => z = (nI (cw nx cn β h n).2, nI n, nI (cw nx cn β h n).1)) n
    (by
      rintro i z hi rfl
      obtain ⟨w1, w2⟩ := cw_in hB H M hβ i
      refine ⟨(nI (cw nx cn β h (i + 1)).2, nI (i + 1), nI (cw nx cn β h (i + 1)).1), ?_, rfl⟩
      show st_X9_cost_L41 v1 (nI n) mm (nI (cw nx cn β h i).2) (nI i) (nI (cw nx cn β h i).1) = _
      unfold st_X9_cost_L41
      rw [if_neg (nI_ge hi (by omega)), hb i hi, costOf_m hB H M w1 (hβ i), bi2_s, nI_1, nI_add]
      rfl)
    (by
      rintro z rfl
      refine ⟨_, ?_, rfl⟩
      show st_X9_cost_L41 v1 (nI n) mm (nI (cw nx cn β h n).2) (nI n) (nI (cw nx cn β h n).1) = _
      unfold st_X9_cost_L41
      rw [if_pos (nI_le (Nat.le_refl _) (by omega))])
    4096 0 (0, 0, nI h) (by omega) (by omega) rfl
  unfold f_X9_cost_L41
  rw [hr, hE]
theorem cheap_m (hB : B ≤ 100000) (H : MC B S h sv st he cn nx og li) (M : MM 0 S mm sv st he ta cl dr cn nx og) {e v : Nat} (he9 : mm 9 = nI e) (he1 : e ≤ 1) (hv : v < 256) : f_X9_cheapest_L44 (nI v) mm 4096 0 0 (nI h) = some (nI (cw nx cn (fun k => v / 2 ^ (pl e k) % 2) h 8).2, nI 8, nI (cw nx cn (fun k => v / 2 ^ (pl e k) % 2) h 8).1) := by
  have hβ : ∀ k, (fun k => v / 2 ^ (pl e k) % 2) k < 2 := fun k => Nat.mod_lt _ (by omega)
  generalize hβe : (fun k => v / 2 ^ (pl e k) % 2) = β at hβ
  obtain ⟨r, hr, hE⟩ := lp_for (st := fun z => st_X9_cheapest_L44 (nI v) mm z.1 z.2.1 z.2.2)
    (I := fun i z => z = (nI (cw nx cn β h i).2, nI i, nI (cw nx cn β h i).1)) (E := fun z => z = (nI (cw nx cn β h 8).2, nI 8, nI (cw nx cn β h 8).1)) 8
    (by
      rintro i z hi rfl
      obtain ⟨w1, w2⟩ := cw_in hB H M hβ i
      refine ⟨(nI (cw nx cn β h (i + 1)).2, nI (i + 1), nI (cw nx cn β h (i + 1)).1), ?_, rfl⟩
      show st_X9_cheapest_L44 (nI v) mm (nI (cw nx cn β h i).2) (nI i) (nI (cw nx cn β h i).1) = _
      unfold st_X9_cheapest_L44
      rw [if_neg (show ¬ (8 : Int32) ≤ nI i from nI_ge (b := 8) hi (by omega)), place_ok he9 he1 hi, bi1_s, tb3 e (by omega) i hi v hv, show v / 2 ^ (pl e i) % 2 = β i by rw [← hβe], costOf_m hB H M w1 (hβ i), bi2_s, nI_1, nI_add]
      rfl)
    (by
      rintro z rfl
      refine ⟨_, ?_, rfl⟩
      show st_X9_cheapest_L44 (nI v) mm (nI (cw nx cn β h 8).2) (nI 8) (nI (cw nx cn β h 8).1) = _
      unfold st_X9_cheapest_L44
      rw [if_pos (show (8 : Int32) ≤ nI 8 by decide +kernel)])
    4096 0 (0, 0, nI h) (by omega) (by omega) rfl
  unfold f_X9_cheapest_L44
  rw [hr, hE]
theorem byteCost_c (hB : B ≤ 100000) (H : MC B S h sv st he cn nx og li) (M : MM 0 S mm sv st he ta cl dr cn nx og) {e v : Nat} (he4 : sv 4 = nI e) (he1 : e ≤ 1) (hv : v < 256) : f_X8_costOfByte sv he cn nx (nI v) = some (nI (cw nx cn (fun k => v / 2 ^ (pl e k) % 2) h 8).2) := by
  have k : f_X2_costOf he cn nx (nI (GG e 8 v)) 8 8 = some (nI (cw nx cn (fun k => v / 2 ^ (pl e k) % 2) h 8).2) := costOf_c (v1 := nI (GG e 8 v)) (v2 := 8) (n := 8) hB H M (β := fun k => v / 2 ^ (pl e k) % 2) (fun k => Nat.mod_lt _ (by omega)) (by omega) (fun k hk => tb2 e (by omega) k hk v hv)
  unfold f_X8_costOfByte
  rw [turned_ok he4 he1 hv, bi1_s, k, bi1_s]
/-- the cheapest so far: which, how much -/
def cb (f : Nat → Nat) : Nat → Nat × Nat
  | 0 => (0, f 0)
  | k + 1 => if (cb f k).2 ≤ f (k + 1) then cb f k else (k + 1, f (k + 1))
theorem cb_le (f : Nat → Nat) {m : Nat} (hf : ∀ k, f k ≤ m) (k : Nat) : (cb f k).2 ≤ m := by
  induction k with
  | zero => exact hf 0
  | succ k ih =>
    unfold cb
    split
    · exact ih
    · exact hf _
theorem sim_cheapest {sp : Int32} (hB : B ≤ 100000) {a b c d e : Nat} (hs : SV sv a b c d e) (H : MC B S h sv st he cn nx og li) (M : MM 0 S mm sv st he ta cl dr cn nx og) (x1 : Int32) : ∃ r sp', f_X8_cheapest sv he cn nx x1 = some r ∧ f_X9_cheapest sp mm x1 = some (r, sp') := by
  obtain ⟨-, -, -, -, -, -, -, -, -, -, -, he4, he1⟩ := hs
  have he9 : mm 9 = nI e := by rw [← he4]; exact M.2.2.2.2.2.2.1 4 (by omega)
  have m1 : mm 1 = nI h := by rw [← H.2.1]; exact M.2.2.1
  unfold f_X8_cheapest f_X9_cheapest
  rcases rng x1 0 1 (by omega) (by omega) with ⟨v, g1, g2, rfl, g3⟩ | ⟨g1, g3⟩
  · rw [show f_X9_in (nI v).toInt64 (0 : Int64) (1 : Int64) = 1 from g3, if_neg (show ¬ (1 : Int32) = 0 by decide), if_neg (nI_pos (by omega)), if_pos (show nI v ≤ (1 : Int32) from nI_le (b := 1) g2 (by omega))]
    generalize hfe : (fun v => (cw nx cn (fun k => v / 2 ^ (pl e k) % 2) h 8).2) = f
    have hfv : ∀ v, (cw nx cn (fun k => v / 2 ^ (pl e k) % 2) h 8).2 = f v := fun v => by rw [← hfe]
    have hf : ∀ v, f v ≤ 4096 * 8 := fun v => by rw [← hfv]; exact (cw_in hB H M (fun k => Nat.mod_lt _ (by omega)) 8).2
    have k0 : f_X8_costOfByte sv he cn nx 0 = some (nI (f 0)) := by rw [← hfv]; exact byteCost_c hB H M he4 he1 (show 0 < 256 by omega)
    obtain ⟨r, hr, hE⟩ := lp_for (st := fun z => st_X8_cheapest_L22 sv he cn nx z.1 z.2.1 z.2.2)
      (I := fun i z => z = (nI (cb f i).1, nI (cb f i).2, nI (i + 1))) (E := fun z => z = (nI (cb f 255).1, nI (cb f 255).2, nI 256)) 255
      (by
        rintro i z hi rfl
        have hl := cb_le f hf i
        have hl2 := hf (i + 1)
        refine ⟨(nI (cb f (i + 1)).1, nI (cb f (i + 1)).2, nI (i + 1 + 1)), ?_, rfl⟩
        show st_X8_cheapest_L22 sv he cn nx (nI (cb f i).1) (nI (cb f i).2) (nI (i + 1)) = _
        unfold st_X8_cheapest_L22
        rw [if_neg (show ¬ (255 : Int32) < nI (i + 1) from nI_nlt (a := 255) (by omega) (by omega)), byteCost_c hB H M he4 he1 (show i + 1 < 256 by omega), hfv, bi1_s, nI_1]
        show _ = some (Sum.inl (nI (if (cb f i).2 ≤ f (i + 1) then cb f i else (i + 1, f (i + 1))).1, nI (if (cb f i).2 ≤ f (i + 1) then cb f i else (i + 1, f (i + 1))).2, nI (i + 1 + 1)))
        by_cases q : (cb f i).2 ≤ f (i + 1)
        · rw [if_pos (nI_le q (by omega)), if_pos q]
        · rw [if_neg (nI_ge (by omega) (by omega)), if_neg q])
      (by
        rintro z rfl
        refine ⟨_, ?_, rfl⟩
        show st_X8_cheapest_L22 sv he cn nx (nI (cb f 255).1) (nI (cb f 255).2) (nI 256) = _
        unfold st_X8_cheapest_L22
        rw [if_pos (show (255 : Int32) < nI 256 by decide +kernel)])
      4096 0 (0, nI (f 0), 1) (by omega) (by omega) rfl
    obtain ⟨r2, hr2, hE2⟩ := lp_for (st := fun z => st_X9_cheapest_L20 mm z.1 z.2.1 z.2.2.1 z.2.2.2)
      (I := fun i z => z.2.2.1 = nI i ∧ (i = 0 → z.1 = 0 ∧ z.2.1 = 1000000) ∧ ∀ j, i = j + 1 → z.1 = nI (cb f j).1 ∧ z.2.1 = nI (cb f j).2) (E := fun z => z.1 = nI (cb f 255).1 ∧ z.2.1 = nI (cb f 255).2) 256
      (by
        rintro i ⟨z1, z2, z3, z4⟩ hi ⟨y1, y2, y3⟩
        dsimp only at y1 y2 y3
        subst y1
        have hl2 := hf i
        have hst : st_X9_cheapest_L20 mm z1 z2 (nI i) z4 = if z2 ≤ nI (f i) then some (Sum.inl (z1, z2, nI (i + 1), nI (cw nx cn (fun k => i / 2 ^ (pl e k) % 2) h 8).1)) else some (Sum.inl (nI i, nI (f i), nI (i + 1), nI (cw nx cn (fun k => i / 2 ^ (pl e k) % 2) h 8).1)) := by
          unfold st_X9_cheapest_L20
          rw [if_neg (show ¬ (256 : Int32) ≤ nI i from nI_ge (b := 256) hi (by omega)), il1, oobi _ (by omega) (by omega), nI_clamp (by omega), m1, cheap_m hB H M he9 he1 hi, bi3_s, hfv, nI_add]
        cases i with
        | zero =>
          obtain ⟨rfl, rfl⟩ := y2 rfl
          refine ⟨(nI 0, nI (f 0), nI 1, nI (cw nx cn (fun k => 0 / 2 ^ (pl e k) % 2) h 8).1), ?_, rfl, fun q => by omega, fun j q => ?_⟩
          · show st_X9_cheapest_L20 mm 0 1000000 (nI 0) z4 = _
            rw [hst, if_neg (show ¬ (1000000 : Int32) ≤ nI (f 0) from nI_ge (b := 1000000) (by omega) (by omega))]
          · have : j = 0 := by omega
            subst this
            exact ⟨rfl, rfl⟩
        | succ i =>
          obtain ⟨rfl, rfl⟩ := y3 i rfl
          have hl := cb_le f hf i
          refine ⟨(nI (cb f (i + 1)).1, nI (cb f (i + 1)).2, nI (i + 1 + 1), nI (cw nx cn (fun k => (i + 1) / 2 ^ (pl e k) % 2) h 8).1), ?_, rfl, fun q => by omega, fun j q => ?_⟩
          · show st_X9_cheapest_L20 mm (nI (cb f i).1) (nI (cb f i).2) (nI (i + 1)) z4 = _
            rw [hst]
            show _ = some (Sum.inl (nI (if (cb f i).2 ≤ f (i + 1) then cb f i else (i + 1, f (i + 1))).1, nI (if (cb f i).2 ≤ f (i + 1) then cb f i else (i + 1, f (i + 1))).2, nI (i + 1 + 1), _))
            by_cases q : (cb f i).2 ≤ f (i + 1)
            · rw [if_pos (nI_le q (by omega)), if_pos q]
            · rw [if_neg (nI_ge (by omega) (by omega)), if_neg q]
          · have : j = i + 1 := by omega
            subst this
            exact ⟨rfl, rfl⟩)
      (by
        rintro ⟨z1, z2, z3, z4⟩ ⟨y1, y2, y3⟩
        dsimp only at y1 y2 y3
        subst y1
        refine ⟨(z1, z2, nI 256, z4), ?_, y3 255 rfl⟩
        show st_X9_cheapest_L20 mm z1 z2 (nI 256) z4 = _
        unfold st_X9_cheapest_L20
        rw [if_pos (show (256 : Int32) ≤ nI 256 by decide +kernel)])
      4096 0 (0, 1000000, 0, sp) (by omega) (by omega) ⟨rfl, fun _ => ⟨rfl, rfl⟩, fun j q => by omega⟩
    obtain ⟨z1, z2, z3, z4⟩ := r2
    obtain ⟨rfl, rfl⟩ := hE2
    subst hE
    unfold f_X8_cheapest_L22 f_X9_cheapest_L20
    rw [k0, bi1_s, hr, bi3_s, hr2, bi4_s]
    by_cases q : nI v = 0
    · exact ⟨_, z4, by rw [if_pos q], by rw [if_pos q]⟩
    · exact ⟨_, z4, by rw [if_neg q], by rw [if_neg q]⟩
  · rw [show f_X9_in x1.toInt64 (0 : Int64) (1 : Int64) = 0 from g3, if_pos rfl]
    refine ⟨-1, sp, ?_, rfl⟩
    rcases g1 with g1 | g1
    · rw [if_pos (show x1 < 0 from g1)]
    · by_cases q : x1 < 0
      · rw [if_pos q]
      · rw [if_neg q, if_neg (show ¬ x1 ≤ (1 : Int32) from Int32.not_le.mpr g1)]
end WLK
