theorem lp_2 {σ ρ : Type} {st : σ → Option (σ ⊕ ρ)} {s0 s1 s2 : σ} {r : ρ} (h0 : st s0 = some (.inl s1)) (h1 : st s1 = some (.inl s2)) (h2 : st s2 = some (.inr r)) : lpN st 4096 s0 = some r := by
  rw [show (4096 : Nat) = 4095 + 1 from rfl, lpN_s, h0]
  show lpN st 4095 s1 = some r
  rw [show (4095 : Nat) = 4094 + 1 from rfl, lpN_s, h1]
  show lpN st 4094 s2 = some r
  rw [show (4094 : Nat) = 4093 + 1 from rfl, lpN_s, h2]
  rfl
def SV (sv : Nat → Int32) (a b c d e : Nat) : Prop := sv 0 = nI a ∧ a ≤ 2 ∧ sv 1 = nI b ∧ 1 ≤ b ∧ b ≤ 200 ∧ sv 2 = nI c ∧ 1 ≤ c ∧ c ≤ 200 ∧ sv 3 = nI d ∧ 40 ≤ d ∧ d ≤ 250 ∧ sv 4 = nI e ∧ e ≤ 1
/-- states at first -/
def S0 (a : Nat) : Nat := if a = 1 then 15 else if a = 2 then 32 else 1
def nxv (a k : Nat) : Int32 := f_X2_nextAtFirst (nI a) (nI (k / 2)) (nI (k % 2))
theorem S0_le (a : Nat) : 1 ≤ S0 a ∧ S0 a ≤ 32 := by
  unfold S0
  split
  · omega
  · split <;> omega
theorem saf_nI {a : Nat} (h : a ≤ 2) : f_X2_statesAtFirst (nI a) = nI (S0 a) := by
  rcases (show a = 0 ∨ a = 1 ∨ a = 2 by omega) with rfl | rfl | rfl <;> decide +kernel
theorem nxv_ok : ∀ a, a < 3 → ∀ k, k < 64 → k < 2 * S0 a → (nxv a k).toNatClampNeg < S0 a ∧ nxv a k = nI (nxv a k).toNatClampNeg := by decide +kernel
theorem nxv_in {a k : Nat} (ha : a ≤ 2) (hk : k < 2 * S0 a) : ∃ v, v < S0 a ∧ nxv a k = nI v := by
  have := S0_le a
  obtain ⟨h1, h2⟩ := nxv_ok a (by omega) k (by omega) hk
  exact ⟨_, h1, h2⟩
theorem naf_nxv {a s b : Nat} (hb : b < 2) : f_X2_nextAtFirst (nI a) (nI s) (nI b) = nxv a (2 * s + b) := by
  unfold nxv
  rw [show (2 * s + b) / 2 = s by omega, show (2 * s + b) % 2 = b by omega]
/-- the class's inner loop: both bits of a state -/
theorem shape_in {a s : Nat} {cn nx : Nat → Int32} (hs : s < 32) : f_X2_shapeAnew_L34 (nI a) (nI s) 4096 0 cn nx = some (2, upd (upd cn (2 * s) 1) (2 * s + 1) 1, upd (upd nx (2 * s) (nxv a (2 * s))) (2 * s + 1) (nxv a (2 * s + 1))) := by
  unfold f_X2_shapeAnew_L34
  have key : ∀ b, b < 2 → ∀ c n : Nat → Int32, st_X2_shapeAnew_L34 (nI a) (nI s) (nI b) c n = some (Sum.inl (nI (b + 1), upd c (2 * s + b) 1, upd n (2 * s + b) (nxv a (2 * s + b)))) := by
    intro b hb c n
    unfold st_X2_shapeAnew_L34
    rw [naf_nxv hb, path_nI]
    simp (disch := omega) only [il2, ile_f, put_nI, nI_1]
  refine lp_2 (key 0 (by omega) cn nx) (key 1 (by omega) _ _) ?_
  · show st_X2_shapeAnew_L34 (nI a) (nI s) (nI 2) _ _ = _
    unfold st_X2_shapeAnew_L34
    rw [if_pos (show (2 : Int32) ≤ nI 2 by decide +kernel)]
    rfl
theorem shape_sim {sv cn nx og li : Nat → Int32} {a b c d e : Nat} (h : SV sv a b c d e) : ∃ cn' nx' og' li', f_X2_shapeAnew cn nx og li sv = some (nI (S0 a), 0, cn', nx', og', li') ∧ (∀ k, k < 2 * S0 a → cn' k = 1 ∧ nx' k = nxv a k) ∧ ∀ k, k < S0 a → og' k = -4 ∧ li' k = 0 := by
  obtain ⟨h0, ha, -⟩ := h
  have hS := S0_le a
  have hg : f_X5_get sv 0 = nI a := by
    unfold f_X5_get
    rw [il0, get_nI (by omega) (by omega), h0]
  obtain ⟨r, hr, hE⟩ := lp_for (st := fun z => st_X2_shapeAnew_L24 (nI a) (nI (S0 a)) z.1 z.2.1 z.2.2.1 z.2.2.2.1 z.2.2.2.2)
    (I := fun i z => z.1 = nI i ∧ (∀ k, k < 2 * i → z.2.1 k = 1 ∧ z.2.2.1 k = nxv a k) ∧ ∀ k, k < i → z.2.2.2.1 k = -4 ∧ z.2.2.2.2 k = 0)
    (E := fun z => (∀ k, k < 2 * S0 a → z.2.1 k = 1 ∧ z.2.2.1 k = nxv a k) ∧ ∀ k, k < S0 a → z.2.2.2.1 k = -4 ∧ z.2.2.2.2 k = 0) (S0 a)
    (by
      rintro i ⟨v, c1, n1, o1, l1⟩ hi ⟨g0, g1, g2⟩
      dsimp only at g0 g1 g2
      subst g0
      refine ⟨(nI (i + 1), upd (upd c1 (2 * i) 1) (2 * i + 1) 1, upd (upd n1 (2 * i) (nxv a (2 * i))) (2 * i + 1) (nxv a (2 * i + 1)), upd o1 i (-4), upd l1 i 0), ?_, ?_⟩
      · show st_X2_shapeAnew_L24 (nI a) (nI (S0 a)) (nI i) c1 n1 o1 l1 = _
        unfold st_X2_shapeAnew_L24
        rw [shape_in (by omega), bi3_s, put_nI (by omega) (by omega), put_nI (by omega) (by omega), if_neg (nI_ge hi (by omega)), nI_1]
      · refine ⟨rfl, ?_, ?_⟩
        · intro k hk
          dsimp only
          by_cases q1 : k = 2 * i + 1
          · subst q1
            exact ⟨upd_e rfl, upd_e rfl⟩
          · by_cases q0 : k = 2 * i
            · subst q0
              rw [upd_n q1, upd_e rfl, upd_n q1, upd_e rfl]
              exact ⟨rfl, rfl⟩
            · rw [upd_n q1, upd_n q0, upd_n q1, upd_n q0]
              exact g1 k (by omega)
        · intro k hk
          dsimp only
          by_cases q : k = i
          · subst q
            exact ⟨upd_e rfl, upd_e rfl⟩
          · rw [upd_n q, upd_n q]
            exact g2 k (by omega))
    (by
      rintro ⟨v, c1, n1, o1, l1⟩ ⟨g0, g1, g2⟩
      dsimp only at g0 g1 g2
      subst g0
      refine ⟨(nI (S0 a), c1, n1, o1, l1), ?_, g1, g2⟩
      show st_X2_shapeAnew_L24 (nI a) (nI (S0 a)) (nI (S0 a)) c1 n1 o1 l1 = _
      unfold st_X2_shapeAnew_L24
      rw [if_pos (nI_le (Nat.le_refl _) (by omega))])
    4096 0 (0, cn, nx, og, li) (by omega) (by omega) ⟨rfl, fun k hk => by omega, fun k hk => by omega⟩
  obtain ⟨v, c1, n1, o1, l1⟩ := r
  refine ⟨c1, n1, o1, l1, ?_, hE.1, hE.2⟩
  unfold f_X2_shapeAnew f_X2_shapeAnew_L24
  rw [hg, saf_nI ha, hr, bi5_s]
/-- the reference's inner loop -/
theorem lays_st {A a s b : Nat} {mm : Nat → Int32} (ha : a ≤ 2) (hs : s < 32) (hb : b < 2) (hA : A + 1260 ≤ 5040) : st_X9_lays_L75 (nI A) (nI a) (nI s) (nI b) mm = some (Sum.inl (nI (b + 1), upd (upd mm (A + 10 + 2 * s + b) 1) (A + 510 + 2 * s + b) (nxv a (2 * s + b)))) := by
  rw [← naf_nxv hb]
  unfold st_X9_lays_L75 f_X2_nextAtFirst
  rcases (show a = 0 ∨ a = 1 ∨ a = 2 by omega) with rfl | rfl | rfl
  · simp (disch := omega) only [il0, il1, il2, il3, il4, il5, il6, il7, il8, il9, il10, il15, il32, il40, il60, il64, il100, il200, il250, il255, il500, il510, il1010, il1260, il1261, il1265, il1924, il2000, il2520, il4095, il4096, il5040, il65535, il1000000, nI_add, pk_mul, nI_clamp, oobn, ile_f, ieq_f, ieq_t, ↓reduceIte]
  · by_cases q : 15 ≤ 2 * s + 1 + b
    · simp (disch := omega) only [il0, il1, il2, il3, il4, il5, il6, il7, il8, il9, il10, il15, il32, il40, il60, il64, il100, il200, il250, il255, il500, il510, il1010, il1260, il1261, il1265, il1924, il2000, il2520, il4095, il4096, il5040, il65535, il1000000, nI_add, pk_mul, nI_clamp, oobn, ile_f, ile_t, ieq_f, ieq_t, ↓reduceIte]
    · simp (disch := omega) only [il0, il1, il2, il3, il4, il5, il6, il7, il8, il9, il10, il15, il32, il40, il60, il64, il100, il200, il250, il255, il500, il510, il1010, il1260, il1261, il1265, il1924, il2000, il2520, il4095, il4096, il5040, il65535, il1000000, nI_add, pk_mul, nI_clamp, oobn, ile_f, ile_t, ieq_f, ieq_t, ↓reduceIte]
  · have e : ∀ x y z w : Int32, x = y → z = w → x + z = y + w := fun x y z w h1 h2 => by rw [h1, h2]
    simp (disch := omega) only [il0, il1, il2, il3, il4, il5, il6, il7, il8, il9, il10, il15, il32, il40, il60, il64, il100, il200, il250, il255, il500, il510, il1010, il1260, il1261, il1265, il1924, il2000, il2520, il4095, il4096, il5040, il65535, il1000000, nI_add, pk_mul, nI_clamp, oobn, ile_f, ieq_f, ieq_t, ↓reduceIte]
theorem lays_in {A a s : Nat} {mm : Nat → Int32} (ha : a ≤ 2) (hs : s < 32) (hA : A + 1260 ≤ 5040) : f_X9_lays_L75 (nI A) (nI a) (nI s) 4096 0 mm = some (2, upd (upd (upd (upd mm (A + 10 + 2 * s + 0) 1) (A + 510 + 2 * s + 0) (nxv a (2 * s + 0))) (A + 10 + 2 * s + 1) 1) (A + 510 + 2 * s + 1) (nxv a (2 * s + 1))) := by
  unfold f_X9_lays_L75
  refine lp_2 (lays_st (b := 0) (mm := mm) ha hs (by omega) hA) (lays_st (b := 1) ha hs (by omega) hA) ?_
  · show st_X9_lays_L75 (nI A) (nI a) (nI s) (nI 2) _ = _
    unfold st_X9_lays_L75
    rw [if_pos (show (2 : Int32) ≤ nI 2 by decide +kernel)]
    rfl
theorem lays_loop {A a : Nat} {mm : Nat → Int32} (ha : a ≤ 2) (hA : A + 1260 ≤ 5040) : ∃ v mm', f_X9_lays_L51 (nI A) (nI a) (nI (S0 a)) 4096 0 mm = some (v, mm') ∧ (∀ k, k < 2 * S0 a → mm' (A + 10 + k) = 1 ∧ mm' (A + 510 + k) = nxv a k) ∧ (∀ k, k < S0 a → mm' (A + 1010 + k) = -4) ∧ ∀ j, (j < A + 10 ∨ A + 1260 ≤ j) → mm' j = mm j := by
  have hS := S0_le a
  obtain ⟨r, hr, hE⟩ := lp_for (st := fun z => st_X9_lays_L51 (nI A) (nI a) (nI (S0 a)) z.1 z.2)
    (I := fun i z => z.1 = nI i ∧ (∀ k, k < 2 * i → z.2 (A + 10 + k) = 1 ∧ z.2 (A + 510 + k) = nxv a k) ∧ (∀ k, k < i → z.2 (A + 1010 + k) = -4) ∧ ∀ j, (j < A + 10 ∨ A + 1260 ≤ j) → z.2 j = mm j)
    (E := fun z => (∀ k, k < 2 * S0 a → z.2 (A + 10 + k) = 1 ∧ z.2 (A + 510 + k) = nxv a k) ∧ (∀ k, k < S0 a → z.2 (A + 1010 + k) = -4) ∧ ∀ j, (j < A + 10 ∨ A + 1260 ≤ j) → z.2 j = mm j) (S0 a)
    (by
      rintro i ⟨v, m1⟩ hi ⟨g0, g1, g2, g3⟩
      dsimp only at g0 g1 g2 g3
      subst g0
      refine ⟨(nI (i + 1), upd (upd (upd (upd (upd m1 (A + 1010 + i) (-4)) (A + 10 + 2 * i + 0) 1) (A + 510 + 2 * i + 0) (nxv a (2 * i + 0))) (A + 10 + 2 * i + 1) 1) (A + 510 + 2 * i + 1) (nxv a (2 * i + 1))), ?_, ?_⟩
      · show st_X9_lays_L51 (nI A) (nI a) (nI (S0 a)) (nI i) m1 = _
        unfold st_X9_lays_L51
        rw [if_neg (nI_ge hi (by omega)), il1010, nI_add, nI_add, oobi _ (by omega) (by omega), nI_clamp (by omega), lays_in ha (by omega) hA, bi2_s, nI_1]
      · refine ⟨rfl, ?_, ?_, ?_⟩
        · intro k hk
          dsimp only
          by_cases q1 : k = 2 * i + 1
          · subst q1
            constructor
            · rw [upd_n (by omega), upd_e (by omega)]
            · rw [upd_e (by omega)]
          · by_cases q0 : k = 2 * i
            · subst q0
              constructor
              · rw [upd_n (by omega), upd_n (by omega), upd_n (by omega), upd_e (by omega)]
              · rw [upd_n (by omega), upd_n (by omega), upd_e (by omega)]
                rfl
            · obtain ⟨a1, a2⟩ := g1 k (by omega)
              constructor
              · rw [upd_n (by omega), upd_n (by omega), upd_n (by omega), upd_n (by omega), upd_n (by omega), a1]
              · rw [upd_n (by omega), upd_n (by omega), upd_n (by omega), upd_n (by omega), upd_n (by omega), a2]
        · intro k hk
          dsimp only
          rw [upd_n (by omega), upd_n (by omega), upd_n (by omega), upd_n (by omega)]
          by_cases q : k = i
          · subst q
            rw [upd_e rfl]
          · rw [upd_n (by omega)]
            exact g2 k (by omega)
        · intro j hj
          dsimp only
          rw [upd_n (by omega), upd_n (by omega), upd_n (by omega), upd_n (by omega), upd_n (by omega)]
          exact g3 j hj)
    (by
      rintro ⟨v, m1⟩ ⟨g0, g1, g2, g3⟩
      dsimp only at g0 g1 g2 g3
      subst g0
      refine ⟨(nI (S0 a), m1), ?_, g1, g2, g3⟩
      show st_X9_lays_L51 (nI A) (nI a) (nI (S0 a)) (nI (S0 a)) m1 = _
      unfold st_X9_lays_L51
      rw [if_pos (nI_le (Nat.le_refl _) (by omega))])
    4096 0 (0, mm) (by omega) (by omega) ⟨rfl, fun k hk => by omega, fun k hk => by omega, fun j _ => rfl⟩
  obtain ⟨v, m1⟩ := r
  exact ⟨v, m1, hr, hE⟩
theorem lays_sim {A a : Nat} {mm : Nat → Int32} (ha : a ≤ 2) (hA : A + 1260 ≤ 5040) (h5 : mm (A + 5) = nI a) : ∃ mm', f_X9_lays mm (nI A) = some mm' ∧ mm' A = nI (S0 a) ∧ mm' (A + 1) = 0 ∧ (∀ k, k < 2 * S0 a → mm' (A + 10 + k) = 1 ∧ mm' (A + 510 + k) = nxv a k) ∧ (∀ k, k < S0 a → mm' (A + 1010 + k) = -4) ∧ ∀ j, (j < A ∨ (A + 2 ≤ j ∧ j < A + 10) ∨ A + 1260 ≤ j) → mm' j = mm j := by
  obtain ⟨v, m1, hr, g1, g2, g3⟩ := lays_loop (mm := upd (upd mm A (nI (S0 a))) (A + 1) 0) ha hA
  refine ⟨m1, ?_, ?_, ?_, g1, g2, ?_⟩
  · unfold f_X9_lays
    rcases (show a = 0 ∨ a = 1 ∨ a = 2 by omega) with rfl | rfl | rfl
    · simp (disch := omega) only [il0, il1, il2, il3, il4, il5, il6, il7, il8, il9, il10, il15, il32, il40, il60, il64, il100, il200, il250, il255, il500, il510, il1010, il1260, il1261, il1265, il1924, il2000, il2520, il4095, il4096, il5040, il65535, il1000000, nI_add, nI_clamp, oobn, h5, ieq_f, ieq_t, ↓reduceIte, Nat.add_zero] at hr ⊢
      rw [show S0 0 = 1 from rfl] at hr
      rw [hr, bi2_s]
    · simp (disch := omega) only [il0, il1, il2, il3, il4, il5, il6, il7, il8, il9, il10, il15, il32, il40, il60, il64, il100, il200, il250, il255, il500, il510, il1010, il1260, il1261, il1265, il1924, il2000, il2520, il4095, il4096, il5040, il65535, il1000000, nI_add, nI_clamp, oobn, h5, ieq_f, ieq_t, ↓reduceIte, Nat.add_zero] at hr ⊢
      rw [show S0 1 = 15 from rfl] at hr
      rw [hr, bi2_s]
    · simp (disch := omega) only [il0, il1, il2, il3, il4, il5, il6, il7, il8, il9, il10, il15, il32, il40, il60, il64, il100, il200, il250, il255, il500, il510, il1010, il1260, il1261, il1265, il1924, il2000, il2520, il4095, il4096, il5040, il65535, il1000000, nI_add, nI_clamp, oobn, h5, ieq_f, ieq_t, ↓reduceIte, Nat.add_zero] at hr ⊢
      rw [show S0 2 = 32 from rfl] at hr
      rw [hr, bi2_s]
  · rw [g3 A (by omega), upd_n (by omega), upd_e rfl]
  · rw [g3 (A + 1) (by omega), upd_e rfl]
  · intro j hj
    rw [g3 j (by omega), upd_n (by omega), upd_n (by omega)]
/-- the class's machine: S states, h HERE, counts at most B -/
def MC (B S h : Nat) (sv : Nat → Int32) (st he : Int32) (cn nx og li : Nat → Int32) : Prop :=
  st = nI S ∧ he = nI h ∧ h < S ∧ (∃ d, sv 3 = nI d ∧ S ≤ d ∧ d ≤ 250) ∧ (∀ i, i < 2 * S → ∃ v, v ≤ B ∧ cn i = nI v) ∧ (∀ i, i < 2 * S → ∃ v, v < S ∧ nx i = nI v) ∧ ∀ k, k < S → (og k = -4 ∧ li k = 0) ∨ ∃ j, j < k ∧ og k = nI j ∧ li k = li j + 1
/-- the reference's, laid from A on -/
def MM (A S : Nat) (mm sv : Nat → Int32) (st he ta cl dr : Int32) (cn nx og : Nat → Int32) : Prop :=
  A + 1260 ≤ 5040 ∧ mm A = st ∧ mm (A + 1) = he ∧ mm (A + 2) = ta ∧ mm (A + 3) = cl ∧ mm (A + 4) = dr ∧ (∀ k, k < 5 → mm (A + 5 + k) = sv k) ∧ (∀ i, i < 2 * S → mm (A + 10 + i) = cn i ∧ mm (A + 510 + i) = nx i) ∧ ∀ k, k < S → mm (A + 1010 + k) = og k
theorem MM.keep {A S : Nat} {mm m2 sv : Nat → Int32} {st he ta cl dr : Int32} {cn nx og : Nat → Int32} (h : MM A S mm sv st he ta cl dr cn nx og) (hS : S ≤ 250) (hk : ∀ j, A ≤ j → j < A + 1260 → m2 j = mm j) : MM A S m2 sv st he ta cl dr cn nx og := by
  obtain ⟨h0, h1, h2, h3, h4, h5, h6, h7, h8⟩ := h
  refine ⟨h0, by rw [hk A (by omega) (by omega), h1], by rw [hk _ (by omega) (by omega), h2], by rw [hk _ (by omega) (by omega), h3], by rw [hk _ (by omega) (by omega), h4], by rw [hk _ (by omega) (by omega), h5], fun k q => by rw [hk _ (by omega) (by omega), h6 k q], fun i q => ?_, fun k q => by rw [hk _ (by omega) (by omega), h8 k q]⟩
  rw [hk _ (by omega) (by omega), hk _ (by omega) (by omega)]
  exact h7 i q
theorem begin_sim {A a b c d e : Nat} {mm sv cn nx og li : Nat → Int32} (h : SV sv a b c d e) (hA : A + 1260 ≤ 5040) (hsv : ∀ k, k < 5 → mm (A + 5 + k) = sv k) : ∃ cn' nx' og' li' mm', f_X2_begin cn nx og li sv = some (nI (S0 a), 0, 0, 0, 0, cn', nx', og', li') ∧ f_X9_renews mm (nI A) = some mm' ∧ (∀ B, 1 ≤ B → MC B (S0 a) 0 sv (nI (S0 a)) 0 cn' nx' og' li') ∧ MM A (S0 a) mm' sv (nI (S0 a)) 0 0 0 0 cn' nx' og' ∧ ∀ j, (j < A ∨ A + 1260 ≤ j) → mm' j = mm j := by
  have hS := S0_le a
  obtain ⟨cn', nx', og', li', e1, q1, q2⟩ := shape_sim (cn := cn) (nx := nx) (og := og) (li := li) h
  obtain ⟨h0, ha, -, -, -, -, -, -, h3, hd1, hd2, -⟩ := h
  obtain ⟨m1, e2, r1, r2, r3, r4, r5⟩ := lays_sim (mm := mm) ha hA (by rw [← h0]; exact hsv 0 (by omega))
  refine ⟨cn', nx', og', li', upd (upd (upd m1 (A + 2) 0) (A + 3) 0) (A + 4) 0, ?_, ?_, ?_, ?_, ?_⟩
  · unfold f_X2_begin
    rw [e1, bi6_s]
  · unfold f_X9_renews
    rw [e2, bi1_s]
    simp (disch := omega) only [il0, il1, il2, il3, il4, il5, il6, il7, il8, il9, il10, il15, il32, il40, il60, il64, il100, il200, il250, il255, il500, il510, il1010, il1260, il1261, il1265, il1924, il2000, il2520, il4095, il4096, il5040, il65535, il1000000, nI_add, nI_clamp, oobn]
  · intro B hB
    refine ⟨rfl, rfl, by omega, ⟨d, h3, by omega, by omega⟩, fun i hi => ⟨1, hB, (q1 i hi).1⟩, fun i hi => ?_, fun k hk => Or.inl (q2 k hk)⟩
    rw [(q1 i hi).2]
    exact nxv_in ha hi
  · refine ⟨hA, ?_, ?_, ?_, ?_, ?_, fun k hk => ?_, fun i hi => ⟨?_, ?_⟩, fun k hk => ?_⟩
    · rw [upd_n (by omega), upd_n (by omega), upd_n (by omega), r1]
    · rw [upd_n (by omega), upd_n (by omega), upd_n (by omega), r2]
    · rw [upd_n (by omega), upd_n (by omega), upd_e rfl]
    · rw [upd_n (by omega), upd_e rfl]
    · rw [upd_e rfl]
    · rw [upd_n (by omega), upd_n (by omega), upd_n (by omega), r5 _ (by omega), hsv k hk]
    · rw [upd_n (by omega), upd_n (by omega), upd_n (by omega), (r3 i hi).1, (q1 i hi).1]
    · rw [upd_n (by omega), upd_n (by omega), upd_n (by omega), (r3 i hi).2, (q1 i hi).2]
    · rw [upd_n (by omega), upd_n (by omega), upd_n (by omega), r4 k hk, (q2 k hk).1]
  · intro j hj
    rw [upd_n (by omega), upd_n (by omega), upd_n (by omega), r5 j (by omega)]
