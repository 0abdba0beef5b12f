/-! bits of a byte by the order -/
def pl (e k : Nat) : Nat := if e = 0 then 7 - k else k
def GG (e : Nat) : Nat → Nat → Nat
  | 0, _ => 0
  | k + 1, a => GG e k (a / 2) + (a % 2) * 2 ^ (pl e k)
theorem tb0 : ∀ v, v < 256 → GG 0 8 v = v := by decide +kernel
theorem tb1 : ∀ v, v < 256 → f_X5_turned_L14 (nI v) 4096 0 0 = some (nI (GG 1 8 v), nI 8) := by decide +kernel
theorem tbl : ∀ e, e < 2 → ∀ v, v < 256 → GG e 8 v < 256 := by decide +kernel
theorem tb2 : ∀ e, e < 2 → ∀ k, k < 8 → ∀ v, v < 256 → f_X8_bitFromHighest (nI (GG e 8 v)) 8 (nI k) = nI (v / 2 ^ (pl e k) % 2) := by decide +kernel
theorem tb3 : ∀ e, e < 2 → ∀ k, k < 8 → ∀ v, v < 256 → (nI v >>> (nI (pl e k) &&& 31)) &&& 1 = nI (v / 2 ^ (pl e k) % 2) := by decide +kernel
theorem tb4 : ∀ e, e < 2 → ∀ k, k < 8 → ∀ a, a < 2 ^ k → ∀ b, b < 2 → nI (GG e k a) ||| (nI b <<< (nI (pl e k) &&& 31)) = nI (GG e (k + 1) (2 * a + b)) := by decide +kernel
theorem turned_ok {sv : Nat → Int32} {e v : Nat} (he : sv 4 = nI e) (h1 : e ≤ 1) (hv : v < 256) : f_X5_turned sv (nI v) = some (nI (GG e 8 v)) := by
  unfold f_X5_turned
  rw [il4, get5 (by omega), he]
  rcases (show e = 0 ∨ e = 1 by omega) with rfl | rfl
  · rw [if_pos (show nI 0 = (0 : Int32) from nI_0), tb0 v hv]
  · rw [if_neg (show ¬ nI 1 = (0 : Int32) by decide +kernel), tb1 v hv, bi2_s]
theorem place_ok {mm : Nat → Int32} {e k : Nat} (he : mm 9 = nI e) (h1 : e ≤ 1) (hk : k < 8) : f_X9_place mm (nI k) = some (nI (pl e k)) := by
  unfold f_X9_place pl
  rw [il9, oobi _ (by omega) (by omega), nI_clamp (by omega), he]
  rcases (show e = 0 ∨ e = 1 by omega) with rfl | rfl
  · rw [if_pos (show nI 0 = (0 : Int32) from nI_0), il7, nsub (by omega), if_pos rfl]
  · rw [if_neg (show ¬ nI 1 = (0 : Int32) by decide +kernel), if_neg (by decide)]
/-! chances -/
def ch (c0 c1 : Nat) : Nat := if (2 * c1 + 1) * 4096 / (2 * (c0 + c1) + 2) < 1 then 1 else if 4095 < (2 * c1 + 1) * 4096 / (2 * (c0 + c1) + 2) then 4095 else (2 * c1 + 1) * 4096 / (2 * (c0 + c1) + 2)
theorem ch_in (c0 c1 : Nat) : 1 ≤ ch c0 c1 ∧ ch c0 c1 ≤ 4095 := by
  unfold ch
  generalize (2 * c1 + 1) * 4096 / (2 * (c0 + c1) + 2) = q
  split
  · omega
  · split <;> omega
theorem prt {c : Nat} (h : c < 2 ^ 20) : ((2 : Int64) * (nI c).toInt64 + (1 : Int64)) * (4096 : Int64) = lN ((2 * c + 1) * 4096) := by
  rw [toL (by omega), jl2, jl1, jl4096, lN_mul, lN_add, lN_mul]
theorem whl {c : Nat} (h : c < 2 ^ 21) : (2 : Int64) * (nI c).toInt64 + (2 : Int64) = lN (2 * c + 2) := by
  rw [toL (by omega), jl2, lN_mul, lN_add]
theorem prtdiv {p w : Nat} (hp : p < 2 ^ 40) (hw : 0 < w) (hw2 : w < 2 ^ 40) : lN p / lN w = lN (p / w) := pk_lDiv (by omega) hw (by omega)
theorem qb {c0 c1 : Nat} (h0 : c0 < 2 ^ 20) (h1 : c1 < 2 ^ 20) : (2 * c1 + 1) * 4096 / (2 * (c0 + c1) + 2) < 2 ^ 31 := by
  have : (2 * c1 + 1) * 4096 / (2 * (c0 + c1) + 2) ≤ 4096 := by
    apply Nat.div_le_of_le_mul
    have : 2 * c1 + 1 ≤ 2 * (c0 + c1) + 2 := by omega
    exact Nat.mul_le_mul this (Nat.le_refl _)
  omega
theorem count_c {cn : Nat → Int32} {s b : Nat} (hs : s < 250) (hb : b < 2) : f_X2_countBy cn (nI s) (nI b) = cn (2 * s + b) := by
  unfold f_X2_countBy
  rw [path_nI, get_nI (by omega) (by omega)]
theorem chance_c {cn : Nat → Int32} {s c0 c1 : Nat} (hs : s < 250) (h0 : c0 < 2 ^ 20) (h1 : c1 < 2 ^ 20) (e0 : cn (2 * s) = nI c0) (e1 : cn (2 * s + 1) = nI c1) : f_X2_chance cn (nI s) = nI (ch c0 c1) := by
  have g : f_X8_cutQuotient (((2 : Int64) * (f_X2_countBy cn (nI s) 1).toInt64 + (1 : Int64)) * (4096 : Int64)) ((2 : Int64) * (f_X2_bothCounts cn (nI s)).toInt64 + (2 : Int64)) = nI ((2 * c1 + 1) * 4096 / (2 * (c0 + c1) + 2)) := by
    rw [il1, count_c hs (by omega), e1, both_nI (S := 0) hs e0 e1, prt h1, whl (by omega)]
    unfold f_X8_cutQuotient
    rw [if_neg (lgz (by omega) (by omega)), prtdiv (by omega) (by omega) (by omega), lN_i]
  unfold f_X2_chance
  rw [g]
  have hq := qb h0 h1
  unfold ch
  generalize (2 * c1 + 1) * 4096 / (2 * (c0 + c1) + 2) = q at hq
  by_cases a : q < 4095
  · rw [il4095, if_pos (nI_lt a (by omega))]
    by_cases b : 1 < q
    · rw [il1, if_pos (nI_lt b (by omega)), if_neg (by omega), if_neg (by omega)]
    · rw [il1, if_neg (nI_nlt (by omega) (by omega))]
      by_cases d : q < 1
      · rw [if_pos d]
      · rw [if_neg d, if_neg (by omega), show q = 1 by omega]
  · rw [il4095, if_neg (nI_nlt (by omega) (by omega)), il1, if_pos (nI_lt (by omega) (by omega)), if_neg (by omega)]
    by_cases d : 4095 < q
    · rw [if_pos d]
    · rw [if_neg d, show q = 4095 by omega]
theorem chance_m {A s c0 c1 : Nat} {mm : Nat → Int32} (hA : A + 1260 ≤ 5040) (hs : s < 250) (h0 : c0 < 2 ^ 20) (h1 : c1 < 2 ^ 20) (e0 : mm (A + 10 + 2 * s) = nI c0) (e1 : mm (A + 10 + 2 * s + 1) = nI c1) : f_X9_chance mm (nI A) (nI s) = some (nI (ch c0 c1)) := by
  have k := mboth hA hs e0 e1
  have hw : ¬ lN (2 * (c0 + c1) + 2) = (0 : Int64) := by
    intro q
    have := (lN_eq (by omega) (by omega)).mp (show lN (2 * (c0 + c1) + 2) = lN 0 from q)
    omega
  unfold f_X9_chance
  simp (disch := omega) only [il0, il1, il2, il10, nI_add, pk_mul, nI_clamp, oobn, k, bi1_s, e1, prt, whl, prtdiv, if_neg hw]
  have hq := qb h0 h1
  unfold ch
  generalize (2 * c1 + 1) * 4096 / (2 * (c0 + c1) + 2) = q at hq
  by_cases d : q < 1
  · rw [if_neg (show ¬ nI 0 ≤ lg_cmp (lN q) (1 : Int64) from fun z => by
      have := (lg_cmp_ge (lN q) (1 : Int64)).mp z
      rw [jl1, lN_le (by omega) hq] at this
      omega), if_pos d]
  · rw [if_pos (show nI 0 ≤ lg_cmp (lN q) (1 : Int64) from (lg_cmp_ge (lN q) (1 : Int64)).mpr (by rw [jl1, lN_le (by omega) hq]; omega)), if_neg d]
    by_cases d2 : 4095 < q
    · rw [if_neg (show ¬ lg_cmp (lN q) (4095 : Int64) ≤ nI 0 from fun z => by
        have := (lg_cmp_le (lN q) (4095 : Int64)).mp z
        rw [jl4095, lN_le hq (by omega)] at this
        omega), if_pos d2, il4095]
    · rw [if_pos (show lg_cmp (lN q) (4095 : Int64) ≤ nI 0 from (lg_cmp_le (lN q) (4095 : Int64)).mpr (by rw [jl4095, lN_le hq (by omega)]; omega)), if_neg d2, lN_i]
/-! the machine as functions of numbers -/
def Nx (nx : Nat → Int32) (s b : Nat) : Nat := (nx (2 * s + b)).toNatClampNeg
def Ch (cn : Nat → Int32) (s : Nat) : Nat := (f_X2_chance cn (nI s)).toNatClampNeg
def Lb (cn : Nat → Int32) (s : Nat) : Nat := if cn (2 * s + 1) ≤ cn (2 * s) then 0 else 1
theorem Lb_lt (cn : Nat → Int32) (s : Nat) : Lb cn s < 2 := by
  unfold Lb
  split <;> omega
section WALK
variable {B A S h : Nat} {mm sv cn nx og li : Nat → Int32} {st he ta cl dr : Int32}
theorem MC.S_le (H : MC B S h sv st he cn nx og li) : S ≤ 250 := by
  obtain ⟨-, -, -, ⟨d, -, g1, g2⟩, -⟩ := H
  omega
theorem Nx_lt (H : MC B S h sv st he cn nx og li) {s b : Nat} (hs : s < S) (hb : b < 2) : Nx nx s b < S ∧ nx (2 * s + b) = nI (Nx nx s b) := by
  have hS := H.S_le
  obtain ⟨-, -, -, -, -, h2, -⟩ := H
  obtain ⟨v, h3, h4⟩ := h2 (2 * s + b) (by omega)
  unfold Nx
  rw [h4, nI_clamp (by omega)]
  exact ⟨h3, rfl⟩
theorem next_c (H : MC B S h sv st he cn nx og li) {s b : Nat} (hs : s < S) (hb : b < 2) : f_X2_nextBy nx (nI s) (nI b) = nI (Nx nx s b) := by
  have hS := H.S_le
  unfold f_X2_nextBy
  rw [path_nI, get_nI (by omega) (by omega), (Nx_lt H hs hb).2]
theorem next_m (H : MC B S h sv st he cn nx og li) (M : MM A S mm sv st he ta cl dr cn nx og) {s b : Nat} (hs : s < S) (hb : b < 2) : mm (A + 510 + 2 * s + b) = nI (Nx nx s b) := by
  rw [show A + 510 + 2 * s + b = A + 510 + (2 * s + b) by omega, (M.2.2.2.2.2.2.2.1 _ (by omega)).2, (Nx_lt H hs hb).2]
theorem chance_ok (hB : B ≤ 100000) (H : MC B S h sv st he cn nx og li) (M : MM A S mm sv st he ta cl dr cn nx og) {s : Nat} (hs : s < S) : 1 ≤ Ch cn s ∧ Ch cn s ≤ 4095 ∧ f_X2_chance cn (nI s) = nI (Ch cn s) ∧ f_X9_chance mm (nI A) (nI s) = some (nI (Ch cn s)) := by
  have hS := H.S_le
  obtain ⟨-, -, -, -, h1, -⟩ := H
  obtain ⟨hA, -, -, -, -, -, -, m6, -⟩ := M
  obtain ⟨c0, g0, e0⟩ := h1 (2 * s) (by omega)
  obtain ⟨c1, g1, e1⟩ := h1 (2 * s + 1) (by omega)
  have a := chance_c (by omega) (by omega) (by omega) e0 e1
  have b := chance_m (mm := mm) (s := s) hA (by omega) (show c0 < 2 ^ 20 by omega) (show c1 < 2 ^ 20 by omega) (by rw [(m6 _ (by omega)).1, e0]) (by rw [show A + 10 + 2 * s + 1 = A + 10 + (2 * s + 1) by omega, (m6 _ (by omega)).1, e1])
  have c := ch_in c0 c1
  have d : Ch cn s = ch c0 c1 := by
    unfold Ch
    rw [a, nI_clamp (by omega)]
  rw [d]
  exact ⟨c.1, c.2, a, b⟩
theorem lb_c (H : MC B S h sv st he cn nx og li) {s : Nat} (hs : s < S) : f_X2_likelyBit cn (nI s) = nI (Lb cn s) := by
  have hS := H.S_le
  unfold f_X2_likelyBit Lb
  rw [il1, il0, count_c (by omega) (by omega), count_c (by omega) (by omega)]
  by_cases q : cn (2 * s + 1) ≤ cn (2 * s)
  · rw [if_pos (show cn (2 * s + 1) ≤ cn (2 * s + 0) from q), if_pos q]
  · rw [if_neg (show ¬ cn (2 * s + 1) ≤ cn (2 * s + 0) from q), if_neg q]
theorem lb_m (H : MC B S h sv st he cn nx og li) (M : MM 0 S mm sv st he ta cl dr cn nx og) {s : Nat} (hs : s < S) : f_X9_likelyBit mm (nI s) = some (nI (Lb cn s)) := by
  have hS := H.S_le
  obtain ⟨hA, -, -, -, -, -, -, m6, -⟩ := M
  have e0 : mm (10 + 2 * s) = cn (2 * s) := by rw [show 10 + 2 * s = 0 + 10 + 2 * s by omega, (m6 _ (by omega)).1]
  have e1 : mm (10 + 2 * s + 1) = cn (2 * s + 1) := by rw [show 10 + 2 * s + 1 = 0 + 10 + (2 * s + 1) by omega, (m6 _ (by omega)).1]
  unfold f_X9_likelyBit Lb
  simp (disch := omega) only [il0, il1, il2, il10, nI_add, pk_mul, nI_clamp, oobn, e0, e1]
  split <;> rfl
end WALK
