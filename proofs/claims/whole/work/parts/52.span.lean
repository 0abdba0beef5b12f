/-! LOW and HIGH as numbers -/
theorem lgc0 {a b : Nat} (ha : a < 2 ^ 63) (hb : b < 2 ^ 63) : lg_cmp (lN a) (lN b) = 0 ↔ a = b := by
  rw [← pk_lEQ ha hb]
  unfold lg_cmp
  constructor
  · intro h
    split at h
    · exact absurd h (by decide)
    · split at h
      · assumption
      · exact absurd h (by decide)
  · intro h
    rw [h, if_neg (Int64.lt_irrefl), if_pos rfl]
theorem top {l : Nat} (h : l < 2 ^ 63) : lN l / (16777216 : Int64) = lN (l / 16777216) := by rw [jl16777216, pk_lDiv h (by omega) (by omega)]
theorem rem24 {l : Nat} (h : l < 2 ^ 63) : lN l - lN (l / 16777216) * (16777216 : Int64) = lN (l % 16777216) := by
  have := pk_lRem (a := l) (b := 16777216) h (by omega) (by omega)
  rw [pk_lDiv h (by omega) (by omega)] at this
  rw [jl16777216]
  exact this
theorem settled {l u : Nat} (hl : l < 2 ^ 63) (hu : u < 2 ^ 63) : f_X6_topIsSettled (lN l) (lN u) = if l / 16777216 = u / 16777216 then 1 else 0 := by
  unfold f_X6_topIsSettled
  rw [top hl, top hu]
  have e := lgc0 (a := l / 16777216) (b := u / 16777216) (Nat.lt_of_le_of_lt (Nat.div_le_self _ _) hl) (Nat.lt_of_le_of_lt (Nat.div_le_self _ _) hu)
  by_cases q : l / 16777216 = u / 16777216
  · rw [if_pos (e.mpr q), if_pos q]
  · rw [if_neg (fun z => q (e.mp z)), if_neg q]
theorem lose_c {l u : Nat} (hl : l < 4294967296) (hu : u < 4294967296) : f_X6_loseTop (lN l) (lN u) = some (lN (l % 16777216 * 256), lN (u % 16777216 * 256 + 255)) := by
  unfold f_X6_loseTop
  rw [jl256, jl255, jl4294967296, lN_mul, lN_mul, lN_add, pk_lRem (by omega) (by omega) (by omega), pk_lRem (by omega) (by omega) (by omega), show l * 256 % 4294967296 = l % 16777216 * 256 by omega, show (u * 256 + 255) % 4294967296 = u % 16777216 * 256 + 255 by omega]
theorem topLow {l : Nat} (h : l < 2 ^ 63) : f_X6_topOfLow (lN l) = nI (l / 16777216) := by
  unfold f_X6_topOfLow
  rw [top h, lN_i]
theorem putTop_c {l u P : Nat} {bs : Nat → Int32} (hl : l < 4294967296) (hu : u < 4294967296) (hP : P < 1924) : f_X3_putTop (lN l) (lN u) 1924 (nI P) bs = some (lN (l % 16777216 * 256), lN (u % 16777216 * 256 + 255), nI (P + 1), upd bs P (nI (l / 16777216))) := by
  unfold f_X3_putTop f_X0_add
  rw [topLow (by omega), il1924, if_neg (nI_ge hP (by omega)), bi2_s, lose_c hl hu, bi2_s, put_nI (by omega) (by omega), nI_1]
/-- how often it was shifted -/
def Wd (i l u : Nat) : Prop := i = 0 ∨ (i = 1 ∧ l % 256 = 0 ∧ u % 256 = 255) ∨ (i = 2 ∧ l % 65536 = 0 ∧ u % 65536 = 65535) ∨ (i = 3 ∧ l % 16777216 = 0 ∧ u % 16777216 = 16777215) ∨ (i = 4 ∧ l = 0 ∧ u = 4294967295)
theorem Wd.next {i l u : Nat} (h : Wd i l u) (hl : l ≤ u) (hu : u < 4294967296) (hq : l / 16777216 = u / 16777216) : i < 4 ∧ Wd (i + 1) (l % 16777216 * 256) (u % 16777216 * 256 + 255) ∧ l % 16777216 * 256 ≤ u % 16777216 * 256 + 255 ∧ u % 16777216 * 256 + 255 < 4294967296 := by
  unfold Wd at *
  rcases h with h | ⟨h, h1, h2⟩ | ⟨h, h1, h2⟩ | ⟨h, h1, h2⟩ | ⟨h, h1, h2⟩
  · subst h
    refine ⟨by omega, Or.inr (Or.inl ⟨rfl, by omega, by omega⟩), by omega, by omega⟩
  · subst h
    refine ⟨by omega, Or.inr (Or.inr (Or.inl ⟨rfl, by omega, by omega⟩)), by omega, by omega⟩
  · subst h
    refine ⟨by omega, Or.inr (Or.inr (Or.inr (Or.inl ⟨rfl, by omega, by omega⟩))), by omega, by omega⟩
  · subst h
    refine ⟨by omega, Or.inr (Or.inr (Or.inr (Or.inr ⟨rfl, by omega, by omega⟩))), by omega, by omega⟩
  · omega
theorem Wd.last {l u : Nat} (h : Wd 4 l u) : l / 16777216 < u / 16777216 := by
  unfold Wd at h
  rcases h with h | ⟨h, h1, h2⟩ | ⟨h, h1, h2⟩ | ⟨h, h1, h2⟩ | ⟨h, h1, h2⟩ <;> omega
/-- the pack's bytes -/
def PB (P : Nat) (bs pk : Nat → Int32) : Prop := ∀ j, j < P → bs j = pk j ∧ ∃ v, v < 256 ∧ pk j = nI v
theorem PB.add {P v : Nat} {bs pk : Nat → Int32} (h : PB P bs pk) (hv : v < 256) : PB (P + 1) (upd bs P (nI v)) (upd pk P (nI v)) := by
  intro j hj
  by_cases q : j = P
  · rw [upd_e q, upd_e q]
    exact ⟨rfl, v, hv, rfl⟩
  · rw [upd_n q, upd_n q]
    exact h j (by omega)
theorem lose_pack {l u P : Nat} {bs pk : Nat → Int32} {cde : Int64} {fr : Int32} (hl : l ≤ u) (hu : u < 4294967296) (hP : P + 4 ≤ 1924) (hb : PB P bs pk) : ∃ v l' u' P' bs' pk', f_X3_packBit_L31 1924 4096 0 (lN l) (lN u) (nI P) bs = some (v, lN l', lN u', nI P', bs') ∧ f_X9_narrows_L41 1 4096 (nI P) (lN l) (lN u) cde fr pk = some (nI P', lN l', lN u', cde, fr, pk') ∧ u' < 4294967296 ∧ l' / 16777216 < u' / 16777216 ∧ P' ≤ P + 4 ∧ PB P' bs' pk' := by
  obtain ⟨r, q, hr, hq, v, l', u', P', bs', pk', rfl, rfl, g⟩ := lp_both (st := fun z => st_X3_packBit_L31 1924 z.1 z.2.1 z.2.2.1 z.2.2.2.1 z.2.2.2.2) (tt := fun z => st_X9_narrows_L41 1 z.1 z.2.1 z.2.2.1 z.2.2.2.1 z.2.2.2.2.1 z.2.2.2.2.2)
    (I := fun m z w => ∃ i l u P1 bs' pk', z = (nI i, lN l, lN u, nI P1, bs') ∧ w = (nI P1, lN l, lN u, cde, fr, pk') ∧ i ≤ 4 ∧ m = 4 - i ∧ P1 = P + i ∧ l ≤ u ∧ u < 4294967296 ∧ Wd i l u ∧ PB P1 bs' pk')
    (E := fun z w => ∃ v l' u' P' bs' pk', z = (v, lN l', lN u', nI P', bs') ∧ w = (nI P', lN l', lN u', cde, fr, pk') ∧ u' < 4294967296 ∧ l' / 16777216 < u' / 16777216 ∧ P' ≤ P + 4 ∧ PB P' bs' pk')
    (by
      rintro m z w ⟨i, l, u, P1, bs', pk', rfl, rfl, hi, rfl, rfl, h1, h2, h3, h4⟩
      have eC : st_X3_packBit_L31 1924 (nI i) (lN l) (lN u) (nI (P + i)) bs' = if 4 ≤ i then some (Sum.inr (nI i, lN l, lN u, nI (P + i), bs')) else if l / 16777216 = u / 16777216 then some (Sum.inl (nI (i + 1), lN (l % 16777216 * 256), lN (u % 16777216 * 256 + 255), nI (P + i + 1), upd bs' (P + i) (nI (l / 16777216)))) else some (Sum.inr (nI i, lN l, lN u, nI (P + i), bs')) := by
        unfold st_X3_packBit_L31
        rw [settled (by omega) (by omega)]
        by_cases q : 4 ≤ i
        · rw [if_pos (show (4 : Int32) ≤ nI i from nI_le (a := 4) q (by omega)), if_pos q]
        · rw [if_neg (show ¬ (4 : Int32) ≤ nI i from nI_ge (b := 4) (by omega) (by omega)), if_neg q]
          by_cases q2 : l / 16777216 = u / 16777216
          · rw [if_pos q2, if_neg (show ¬ (1 : Int32) = 0 by decide), if_pos q2, putTop_c (by omega) h2 (by omega), bi4_s, nI_1]
          · rw [if_neg q2, if_pos rfl, if_neg q2]
      have eM : st_X9_narrows_L41 1 (nI (P + i)) (lN l) (lN u) cde fr pk' = if l / 16777216 = u / 16777216 then some (Sum.inl (nI (P + i + 1), lN (l % 16777216 * 256), lN (u % 16777216 * 256 + 255), cde, fr, upd pk' (P + i) (nI (l / 16777216)))) else some (Sum.inr (nI (P + i), lN l, lN u, cde, fr, pk')) := by
        unfold st_X9_narrows_L41
        rw [top (by omega), top (by omega), rem24 (by omega), rem24 (by omega)]
        by_cases q2 : l / 16777216 = u / 16777216
        · rw [if_pos ((lgc0 (by omega) (by omega)).mpr q2), if_pos q2, if_neg (show ¬ (1 : Int32) = 0 by decide), oobi _ (by omega) (by omega), nI_clamp (by omega), jl256, jl255, lN_mul, lN_mul, lN_add, lN_i, nI_1]
        · rw [if_neg (fun z => q2 ((lgc0 (by omega) (by omega)).mp z)), if_neg q2]
      by_cases q : l / 16777216 = u / 16777216
      · obtain ⟨a1, a2, a3, a4⟩ := h3.next h1 h2 q
        left
        refine ⟨4 - (i + 1), _, _, by omega, ?_, ?_, i + 1, _, _, P + i + 1, _, _, rfl, rfl, by omega, rfl, by omega, a3, a4, a2, h4.add (v := l / 16777216) (by omega)⟩
        · show st_X3_packBit_L31 1924 (nI i) (lN l) (lN u) (nI (P + i)) bs' = _
          rw [eC, if_neg (by omega), if_pos q]
        · show st_X9_narrows_L41 1 (nI (P + i)) (lN l) (lN u) cde fr pk' = _
          rw [eM, if_pos q]
      · right
        refine ⟨_, _, ?_, ?_, nI i, l, u, P + i, bs', pk', rfl, rfl, h2, by omega, by omega, h4⟩
        · show st_X3_packBit_L31 1924 (nI i) (lN l) (lN u) (nI (P + i)) bs' = _
          rw [eC, if_neg q]
          split <;> rfl
        · show st_X9_narrows_L41 1 (nI (P + i)) (lN l) (lN u) cde fr pk' = _
          rw [eM, if_neg q])
    4 4096 4096 (0, lN l, lN u, nI P, bs) (nI P, lN l, lN u, cde, fr, pk) (by omega) (by omega) ⟨0, l, u, P, bs, pk, rfl, rfl, by omega, rfl, rfl, hl, hu, Or.inl rfl, hb⟩
  exact ⟨v, l', u', P', bs', pk', hr, hq, g⟩
/-- the byte that comes next: 0 beyond the end -/
theorem byteAt {P p : Nat} {bs pk : Nat → Int32} (hP : P ≤ 1924) (hp : p < 100000) (hb : PB P bs pk) : ∃ w, w < 256 ∧ f_X0_get 1924 (nI P) bs (nI p) = nI w ∧ ((P ≤ p ∧ w = 0) ∨ (p < P ∧ pk p = nI w)) := by
  by_cases q : p < P
  · obtain ⟨h1, v, h2, h3⟩ := hb p q
    exact ⟨v, h2, by rw [bget q hP (by omega), h1, h3], Or.inr ⟨q, h3⟩⟩
  · refine ⟨0, by omega, ?_, Or.inl ⟨by omega, rfl⟩⟩
    unfold f_X0_get
    rw [if_pos (nI_le (by omega) (by omega))]
    rfl
theorem pull_c {P p z w : Nat} {bs : Nat → Int32} (hz : z < 4294967296) (hw : w < 256) (e : f_X0_get 1924 (nI P) bs (nI p) = nI w) : f_X7_pullByte (lN z) (nI p) (nI P) bs = some (lN (z % 16777216 * 256 + w), nI (p + 1)) := by
  unfold f_X7_pullByte
  rw [e, toL (by omega), jl256, jl4294967296, lN_mul, lN_add, pk_lRem (by omega) (by omega) (by omega), nI_1, show (z * 256 + w) % 4294967296 = z % 16777216 * 256 + w by omega]
theorem zb (z : Nat) {b : Nat} (h : b < 256) : z % 16777216 * 256 + b < 4294967296 := by omega
theorem lose_unpack {l u P p z : Nat} {bs pk : Nat → Int32} (hl : l ≤ u) (hu : u < 4294967296) (hz : z < 4294967296) (hP : P ≤ 1924) (hp : p < 90000) (hb : PB P bs pk) : ∃ v l' u' p' z', f_X7_unpackBit_L49 (nI P) bs 4096 0 (lN z) (nI p) (lN l) (lN u) = some (v, lN z', nI p', lN l', lN u') ∧ f_X9_narrows_L41 0 4096 (nI P) (lN l) (lN u) (lN z) (nI p) pk = some (nI P, lN l', lN u', lN z', nI p', pk) ∧ u' < 4294967296 ∧ l' / 16777216 < u' / 16777216 ∧ p' ≤ p + 4 ∧ z' < 4294967296 := by
  obtain ⟨r, q, hr, hq, v, l', u', p', z', rfl, rfl, g⟩ := lp_both (st := fun z => st_X7_unpackBit_L49 (nI P) bs z.1 z.2.1 z.2.2.1 z.2.2.2.1 z.2.2.2.2) (tt := fun z => st_X9_narrows_L41 0 z.1 z.2.1 z.2.2.1 z.2.2.2.1 z.2.2.2.2.1 z.2.2.2.2.2)
    (I := fun m x w => ∃ i l u p1 z, x = (nI i, lN z, nI p1, lN l, lN u) ∧ w = (nI P, lN l, lN u, lN z, nI p1, pk) ∧ i ≤ 4 ∧ m = 4 - i ∧ p1 = p + i ∧ l ≤ u ∧ u < 4294967296 ∧ z < 4294967296 ∧ Wd i l u)
    (E := fun x w => ∃ v l' u' p' z', x = (v, lN z', nI p', lN l', lN u') ∧ w = (nI P, lN l', lN u', lN z', nI p', pk) ∧ u' < 4294967296 ∧ l' / 16777216 < u' / 16777216 ∧ p' ≤ p + 4 ∧ z' < 4294967296)
    (by
      rintro m x w ⟨i, l, u, p1, z, rfl, rfl, hi, rfl, rfl, h1, h2, h3, h4⟩
      obtain ⟨b, hb1, hb2, hb3⟩ := byteAt (p := p + i) hP (by omega) hb
      have eC : st_X7_unpackBit_L49 (nI P) bs (nI i) (lN z) (nI (p + i)) (lN l) (lN u) = if 4 ≤ i then some (Sum.inr (nI i, lN z, nI (p + i), lN l, lN u)) else if l / 16777216 = u / 16777216 then some (Sum.inl (nI (i + 1), lN (z % 16777216 * 256 + b), nI (p + i + 1), lN (l % 16777216 * 256), lN (u % 16777216 * 256 + 255))) else some (Sum.inr (nI i, lN z, nI (p + i), lN l, lN u)) := by
        unfold st_X7_unpackBit_L49
        rw [settled (by omega) (by omega)]
        by_cases q : 4 ≤ i
        · rw [if_pos (show (4 : Int32) ≤ nI i from nI_le (a := 4) q (by omega)), if_pos q]
        · rw [if_neg (show ¬ (4 : Int32) ≤ nI i from nI_ge (b := 4) (by omega) (by omega)), if_neg q]
          by_cases q2 : l / 16777216 = u / 16777216
          · rw [if_pos q2, if_neg (show ¬ (1 : Int32) = 0 by decide), if_pos q2, lose_c (by omega) h2, bi2_s, pull_c h3 hb1 hb2, bi2_s, nI_1]
          · rw [if_neg q2, if_pos rfl, if_neg q2]
      have eM : st_X9_narrows_L41 0 (nI P) (lN l) (lN u) (lN z) (nI (p + i)) pk = if l / 16777216 = u / 16777216 then some (Sum.inl (nI P, lN (l % 16777216 * 256), lN (u % 16777216 * 256 + 255), lN (z % 16777216 * 256 + b), nI (p + i + 1), pk)) else some (Sum.inr (nI P, lN l, lN u, lN z, nI (p + i), pk)) := by
        unfold st_X9_narrows_L41
        rw [top (by omega), top (by omega), rem24 (by omega), rem24 (by omega), top (by omega), rem24 (by omega)]
        by_cases q2 : l / 16777216 = u / 16777216
        · rw [if_pos ((lgc0 (by omega) (by omega)).mpr q2), if_pos q2, if_pos rfl]
          rcases hb3 with ⟨c1, c2⟩ | ⟨c1, c2⟩
          · subst c2
            rw [if_pos (nI_le c1 (by omega)), il0, toL (by omega), jl256, jl255, lN_mul, lN_mul, lN_mul, lN_add, lN_add, nI_1]
          · rw [if_neg (nI_ge c1 (by omega)), oobi _ (by omega) (by omega), nI_clamp (by omega), c2, toL (by omega), jl256, jl255, lN_mul, lN_mul, lN_mul, lN_add, lN_add, nI_1]
        · rw [if_neg (fun z => q2 ((lgc0 (by omega) (by omega)).mp z)), if_neg q2]
      by_cases q : l / 16777216 = u / 16777216
      · obtain ⟨a1, a2, a3, a4⟩ := h4.next h1 h2 q
        left
        have hz2 := zb z hb1
        refine ⟨4 - (i + 1), (nI (i + 1), lN (z % 16777216 * 256 + b), nI (p + i + 1), lN (l % 16777216 * 256), lN (u % 16777216 * 256 + 255)), (nI P, lN (l % 16777216 * 256), lN (u % 16777216 * 256 + 255), lN (z % 16777216 * 256 + b), nI (p + i + 1), pk), by omega, ?_, ?_, i + 1, l % 16777216 * 256, u % 16777216 * 256 + 255, p + i + 1, z % 16777216 * 256 + b, by simp only, by simp only, by omega, by omega, by omega, a3, a4, hz2, a2⟩
        · show st_X7_unpackBit_L49 (nI P) bs (nI i) (lN z) (nI (p + i)) (lN l) (lN u) = _
          rw [eC, if_neg (by omega), if_pos q]
        · show st_X9_narrows_L41 0 (nI P) (lN l) (lN u) (lN z) (nI (p + i)) pk = _
          rw [eM, if_pos q]
      · right
        refine ⟨_, _, ?_, ?_, nI i, l, u, p + i, z, rfl, rfl, h2, by omega, by omega, h3⟩
        · show st_X7_unpackBit_L49 (nI P) bs (nI i) (lN z) (nI (p + i)) (lN l) (lN u) = _
          rw [eC, if_neg q]
          split <;> rfl
        · show st_X9_narrows_L41 0 (nI P) (lN l) (lN u) (lN z) (nI (p + i)) pk = _
          rw [eM, if_neg q])
    4 4096 4096 (0, lN z, nI p, lN l, lN u) (nI P, lN l, lN u, lN z, nI p, pk) (by omega) (by omega) ⟨0, l, u, p, z, rfl, rfl, by omega, rfl, rfl, hl, hu, hz, Or.inl rfl⟩
  exact ⟨v, l', u', p', z', hr, hq, g⟩
/-! MIDDLE -/
def md (l u p : Nat) : Nat := l + (u - l) / 4096 * p
theorem md_in {l u p : Nat} (h : l < u) (hu : u < 4294967296) (hp : p ≤ 4095) : l ≤ md l u p ∧ md l u p < u := by
  unfold md
  have := Nat.mul_le_mul_left ((u - l) / 4096) hp
  generalize (u - l) / 4096 * p = G at *
  omega
theorem mid {l u p : Nat} (h : l ≤ u) (hu : u < 4294967296) (hp : p < 2 ^ 31) : lN l + (lN u - lN l) / (4096 : Int64) * (nI p).toInt64 = lN (md l u p) := by
  unfold md
  rw [lN_sub h, jl4096, pk_lDiv (by omega) (by omega) (by omega), toL hp, lN_mul, lN_add]
theorem middle_c {l u p : Nat} (h : l ≤ u) (hu : u < 4294967296) (hp : p < 2 ^ 31) : f_X6_middle (lN l) (lN u) (nI p) = lN (md l u p) := by
  unfold f_X6_middle
  exact mid h hu hp
theorem middle_m {l u p h : Nat} {mm : Nat → Int32} (hl : l ≤ u) (hu : u < 4294967296) (hp : p < 2 ^ 31) (e1 : mm 1261 = nI h) (e2 : f_X9_chance mm (nI 1260) (nI h) = some (nI p)) : f_X9_middle (lN l) (lN u) mm = some (lN (md l u p)) := by
  unfold f_X9_middle
  rw [if_neg (show ¬ ((1261 : Int32) < 0 ∨ 5040 ≤ (1261 : Int32).toNatClampNeg) by decide), show (1261 : Int32).toNatClampNeg = 1261 from rfl, e1, il1260, e2, bi1_s, mid hl hu hp]
