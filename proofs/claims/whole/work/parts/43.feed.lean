/-! a region of the reference's row -/
def RG (off n : Nat) (m f : Nat → Int32) : Prop := ∀ i, i < n → m (off + i) = f i
theorem RG.inn {off n k j : Nat} {m f : Nat → Int32} {v w : Int32} (h : RG off n m f) (hj : j = off + k) (hv : v = w) : RG off n (upd m j v) (upd f k w) := by
  intro i hi
  subst hj hv
  by_cases q : i = k
  · subst q
    rw [upd_e rfl, upd_e rfl]
  · rw [upd_n (by omega), upd_n q, h i hi]
theorem RG.ext {off n j : Nat} {m f : Nat → Int32} {v w : Int32} (h : RG off n m f) (hj : j = off + n) (hv : v = w) : RG off (n + 1) (upd m j v) (upd f n w) := by
  intro i hi
  subst hj hv
  by_cases q : i = n
  · subst q
    rw [upd_e rfl, upd_e rfl]
  · rw [upd_n (by omega), upd_n q, h i (by omega)]
theorem RG.out {off n j : Nat} {m f : Nat → Int32} {v : Int32} (h : RG off n m f) (hj : j < off ∨ off + n ≤ j) : RG off n (upd m j v) f := by
  intro i hi
  rw [upd_n (by omega), h i hi]
theorem sub_le {a c r : Nat} (ha : a < 2 ^ 29) (hc : c < 2 ^ 29) (hr : r < 2 ^ 29) : nI a - nI c ≤ nI r ↔ a ≤ c + r := by
  rw [Int32.le_iff_toInt_le, pk_sub_toInt (by omega) (by omega), nI_toInt (by omega)]
  omega
theorem toL {n : Nat} (h : n < 2 ^ 31) : (nI n).toInt64 = lN n := nI_l h
theorem dv {a c w : Nat} (ha : a < 2 ^ 20) (hc : c < 2 ^ 20) (hw : 0 < w) (hw2 : w < 2 ^ 21) : ((nI a).toInt64 * (nI c).toInt64 / (nI w).toInt64).toInt32 = nI (a * c / w) := by
  have h1 : a * c ≤ 2 ^ 20 * 2 ^ 20 := Nat.mul_le_mul (by omega) (by omega)
  rw [toL (by omega), toL (by omega), toL (by omega), lN_mul, pk_lDiv (by omega) hw (by omega), lN_i]
theorem lgz {n : Nat} (h : 0 < n) (hn : n < 2 ^ 31) : ¬ lg_cmp (lN n) (0 : Int64) ≤ 0 := by
  rw [lg_cmp_le]
  intro q
  have := (lN_le hn (by omega : 0 < 2 ^ 31)).mp (show lN n ≤ lN 0 from q)
  omega
theorem cq {a c w : Nat} (ha : a < 2 ^ 20) (hc : c < 2 ^ 20) (hw : 0 < w) (hw2 : w < 2 ^ 21) : f_X8_cutQuotient ((nI a).toInt64 * (nI c).toInt64) (nI w).toInt64 = nI (a * c / w) := by
  unfold f_X8_cutQuotient
  rw [if_neg (by rw [toL (by omega)]; exact lgz hw (by omega)), dv ha hc hw hw2]
theorem wnz {w : Nat} (hw : 0 < w) (hw2 : w < 2 ^ 21) : ¬ (nI w).toInt64 = 0 := by
  rw [toL (by omega)]
  intro q
  have := (lN_eq (by omega) (by omega)).mp (show lN w = lN 0 from q)
  omega
theorem dvle {a c w : Nat} (h : c ≤ w) : a * c / w ≤ a := by
  rcases Nat.eq_zero_or_pos w with q | q
  · subst q
    simp
  · exact (Nat.div_le_iff_le_mul_add_pred q).mpr (by
      have := Nat.mul_le_mul_left a h
      rw [Nat.mul_comm w a]
      omega)
theorem nsub {a b : Nat} (h : b ≤ a) : nI a - nI b = nI (a - b) := pk_sub h
/-- what a machine is at a state's bit -/
theorem MC.at {B S h b : Nat} {sv : Nat → Int32} {st he : Int32} {cn nx og li : Nat → Int32} (H : MC B S h sv st he cn nx og li) (hb : b < 2) : ∃ c t c0 c1 t0 t1, c ≤ B ∧ t < S ∧ c0 ≤ B ∧ c1 ≤ B ∧ t0 < S ∧ t1 < S ∧ cn (2 * h + b) = nI c ∧ nx (2 * h + b) = nI t ∧ cn (2 * t) = nI c0 ∧ cn (2 * t + 1) = nI c1 ∧ nx (2 * t) = nI t0 ∧ nx (2 * t + 1) = nI t1 := by
  obtain ⟨-, -, hh, -, h1, h2, -⟩ := H
  obtain ⟨c, g1, e1⟩ := h1 (2 * h + b) (by omega)
  obtain ⟨t, g2, e2⟩ := h2 (2 * h + b) (by omega)
  obtain ⟨c0, g3, e3⟩ := h1 (2 * t) (by omega)
  obtain ⟨c1, g4, e4⟩ := h1 (2 * t + 1) (by omega)
  obtain ⟨t0, g5, e5⟩ := h2 (2 * t) (by omega)
  obtain ⟨t1, g6, e6⟩ := h2 (2 * t + 1) (by omega)
  exact ⟨c, t, c0, c1, t0, t1, g1, g2, g3, g4, g5, g6, e1, e2, e3, e4, e5, e6⟩
theorem both_nI {S t : Nat} {c0 c1 : Nat} {cn : Nat → Int32} (ht : t < 250) (e0 : cn (2 * t) = nI c0) (e1 : cn (2 * t + 1) = nI c1) : f_X2_bothCounts cn (nI t) = nI (c0 + c1) := by
  unfold f_X2_bothCounts f_X2_countBy
  rw [il0, il1, path_nI, path_nI, get_nI (by omega) (by omega), get_nI (by omega) (by omega), Nat.add_zero, e0, e1, nI_add]
theorem mboth {A t c0 c1 : Nat} {mm : Nat → Int32} (hA : A + 1260 ≤ 5040) (ht : t < 250) (e0 : mm (A + 10 + 2 * t) = nI c0) (e1 : mm (A + 10 + 2 * t + 1) = nI c1) : f_X9_both mm (nI A) (nI t) = some (nI (c0 + c1)) := by
  unfold f_X9_both
  simp (disch := omega) only [il10, il2, il1, il0, nI_add, pk_mul, nI_clamp, oobn, e0, e1]
/-- two rounds of the class's cloning -/
def cnC (cn : Nat → Int32) (S t s0 r0 s1 r1 : Nat) : Nat → Int32 := upd (upd (upd (upd cn (2 * S) (nI s0)) (2 * t) (nI r0)) (2 * S + 1) (nI s1)) (2 * t + 1) (nI r1)
def nxC (nx : Nat → Int32) (S t0 t1 : Nat) : Nat → Int32 := upd (upd nx (2 * S) (nI t0)) (2 * S + 1) (nI t1)
theorem clone_in {S t c w c0 c1 t0 t1 : Nat} {cn nx : Nat → Int32} (hS : S < 250) (ht : t < S) (hc : c < 2 ^ 20) (hw : c < w) (hw2 : w < 2 ^ 21) (hc0 : c0 < 2 ^ 20) (hc1 : c1 < 2 ^ 20) (e0 : cn (2 * t) = nI c0) (e1 : cn (2 * t + 1) = nI c1) (n0 : nx (2 * t) = nI t0) (n1 : nx (2 * t + 1) = nI t1) : f_X2_cloneFrom_L9 (nI t) (nI c) (nI w) (nI S) 4096 0 cn nx = some (2, cnC cn S t (c0 * c / w) (c0 - c0 * c / w) (c1 * c / w) (c1 - c1 * c / w), nxC nx S t0 t1) := by
  unfold f_X2_cloneFrom_L9
  have q0 : c0 * c / w ≤ c0 := dvle (by omega)
  have q1 : c1 * c / w ≤ c1 := dvle (by omega)
  refine lp_2 (s1 := (nI 1, upd (upd cn (2 * S) (nI (c0 * c / w))) (2 * t) (nI (c0 - c0 * c / w)), upd nx (2 * S) (nI t0))) (s2 := (nI 2, cnC cn S t (c0 * c / w) (c0 - c0 * c / w) (c1 * c / w) (c1 - c1 * c / w), nxC nx S t0 t1)) ?_ ?_ ?_
  · show st_X2_cloneFrom_L9 (nI t) (nI c) (nI w) (nI S) (nI 0) cn nx = _
    unfold st_X2_cloneFrom_L9
    simp (disch := omega) only [il2, il1, ile_f, path_nI, get_nI, put_nI, upd_n, e0, n0, cq, nI_add, nsub, Nat.add_zero]
  · show st_X2_cloneFrom_L9 (nI t) (nI c) (nI w) (nI S) (nI 1) _ _ = _
    unfold st_X2_cloneFrom_L9 cnC nxC
    simp (disch := omega) only [il2, il1, ile_f, path_nI, get_nI, put_nI, upd_n, e1, n1, cq, nI_add, nsub]
  · show st_X2_cloneFrom_L9 (nI t) (nI c) (nI w) (nI S) (nI 2) _ _ = _
    unfold st_X2_cloneFrom_L9
    rw [if_pos (show (2 : Int32) ≤ nI 2 by decide +kernel)]
    rfl
def mmC (m : Nat → Int32) (A S t s0 r0 s1 r1 t0 t1 : Nat) : Nat → Int32 := upd (upd (upd (upd (upd (upd m (A + 510 + 2 * S) (nI t0)) (A + 10 + 2 * S) (nI s0)) (A + 10 + 2 * t) (nI r0)) (A + 510 + 2 * S + 1) (nI t1)) (A + 10 + 2 * S + 1) (nI s1)) (A + 10 + 2 * t + 1) (nI r1)
theorem mclone_in {A S t c w c0 c1 t0 t1 : Nat} {m : Nat → Int32} (hA : A + 1260 ≤ 5040) (hS : S < 250) (ht : t < S) (hc : c < 2 ^ 20) (hw : c < w) (hw2 : w < 2 ^ 21) (hc0 : c0 < 2 ^ 20) (hc1 : c1 < 2 ^ 20) (e0 : m (A + 10 + 2 * t) = nI c0) (e1 : m (A + 10 + 2 * t + 1) = nI c1) (n0 : m (A + 510 + 2 * t) = nI t0) (n1 : m (A + 510 + 2 * t + 1) = nI t1) : f_X9_clones_L40 (nI A) (nI t) (nI c) (nI w) (nI S) 4096 0 m = some (2, mmC m A S t (c0 * c / w) (c0 - c0 * c / w) (c1 * c / w) (c1 - c1 * c / w) t0 t1) := by
  unfold f_X9_clones_L40
  have q0 : c0 * c / w ≤ c0 := dvle (by omega)
  have q1 : c1 * c / w ≤ c1 := dvle (by omega)
  have z := wnz (w := w) (by omega) hw2
  refine lp_2 (s1 := (nI 1, upd (upd (upd m (A + 510 + 2 * S) (nI t0)) (A + 10 + 2 * S) (nI (c0 * c / w))) (A + 10 + 2 * t) (nI (c0 - c0 * c / w)))) (s2 := (nI 2, mmC m A S t (c0 * c / w) (c0 - c0 * c / w) (c1 * c / w) (c1 - c1 * c / w) t0 t1)) ?_ ?_ ?_
  · show st_X9_clones_L40 (nI A) (nI t) (nI c) (nI w) (nI S) (nI 0) m = _
    unfold st_X9_clones_L40
    rw [if_neg z]
    simp (disch := omega) only [il0, il1, il2, il10, il510, ile_f, nI_add, pk_mul, nI_clamp, oobn, Nat.add_zero, upd_n, e0, n0, dv, nsub]
  · show st_X9_clones_L40 (nI A) (nI t) (nI c) (nI w) (nI S) (nI 1) _ = _
    unfold st_X9_clones_L40 mmC
    rw [if_neg z]
    simp (disch := omega) only [il0, il1, il2, il10, il510, ile_f, nI_add, pk_mul, nI_clamp, oobn, upd_n, e1, n1, dv, nsub]
  · show st_X9_clones_L40 (nI A) (nI t) (nI c) (nI w) (nI S) (nI 2) _ = _
    unfold st_X9_clones_L40
    rw [if_pos (show (2 : Int32) ≤ nI 2 by decide +kernel)]
    rfl
