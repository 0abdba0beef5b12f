/-! what flows into a state; lines -/
def fsum (nx cn : Nat → Int32) (s : Nat) : Nat → Int32
  | 0 => 0
  | k + 1 => fsum nx cn s k + (if nx k = nI s then cn k else 0)
theorem lgAddZero (x : Int32) : x + 0 = x := Int32.add_zero x
section FLOW
variable {B S h : Nat} {sv : Nat → Int32} {st he ta cl dr : Int32} {cn nx og li mm : Nat → Int32}
theorem reckon (H : MC B S h sv st he cn nx og li) (fl : Nat → Int32) : ∃ fl', f_X2_reckonFlows st cn nx fl = some fl' ∧ ∀ s, s < S → fl' s = fsum nx cn s (2 * S) := by
  have hS := H.S_le
  obtain ⟨es, -, hh, -, -, k2, -⟩ := H
  obtain ⟨r, hr, hE⟩ := lp_for (st := fun z => st_X2_reckonFlows_L2 st z.1 z.2)
    (I := fun i z => z.1 = nI i ∧ ∀ k, k < i → z.2 k = 0) (E := fun z => ∀ k, k < S → z.2 k = 0) S
    (by
      rintro i ⟨v, f⟩ hi ⟨y1, y2⟩
      dsimp only at y1 y2
      subst y1
      refine ⟨(nI (i + 1), upd f i 0), ?_, rfl, fun k hk => ?_⟩
      · show st_X2_reckonFlows_L2 st (nI i) f = _
        unfold st_X2_reckonFlows_L2
        rw [es, if_neg (nI_ge hi (by omega)), put_nI (by omega) (by omega), nI_1]
      · dsimp only
        by_cases q : k = i
        · exact upd_e q
        · rw [upd_n q]
          exact y2 k (by omega))
    (by
      rintro ⟨v, f⟩ ⟨y1, y2⟩
      dsimp only at y1 y2
      subst y1
      refine ⟨(nI S, f), ?_, y2⟩
      show st_X2_reckonFlows_L2 st (nI S) f = _
      unfold st_X2_reckonFlows_L2
      rw [es, if_pos (nI_le (Nat.le_refl _) (by omega))])
    4096 0 (0, fl) (by omega) (by omega) ⟨rfl, fun k hk => by omega⟩
  obtain ⟨v0, f0⟩ := r
  obtain ⟨r2, hr2, hE2⟩ := lp_for (st := fun z => st_X2_reckonFlows_L27 st cn nx z.1 z.2)
    (I := fun i z => z.1 = nI i ∧ ∀ k, k < S → z.2 k = fsum nx cn k i) (E := fun z => ∀ k, k < S → z.2 k = fsum nx cn k (2 * S)) (2 * S)
    (by
      rintro i ⟨v, f⟩ hi ⟨y1, y2⟩
      dsimp only at y1 y2
      subst y1
      obtain ⟨t, ht, e1⟩ := k2 i hi
      refine ⟨(nI (i + 1), upd f t (f t + cn i)), ?_, rfl, fun k hk => ?_⟩
      · show st_X2_reckonFlows_L27 st cn nx (nI i) f = _
        unfold st_X2_reckonFlows_L27
        rw [es, il2, pk_mul, if_neg (nI_ge hi (by omega)), get_nI (by omega) (by omega), get_nI (by omega) (by omega), e1, get_nI (by omega) (by omega), put_nI (by omega) (by omega), nI_1]
      · dsimp only
        show _ = fsum nx cn k i + (if nx i = nI k then cn i else 0)
        by_cases q : k = t
        · subst q
          rw [upd_e rfl, if_pos e1, y2 k hk]
        · rw [upd_n q, if_neg (fun z => q ((nI_eq (by omega) (by omega)).mp (z.symm.trans e1))), lgAddZero]
          exact y2 k hk)
    (by
      rintro ⟨v, f⟩ ⟨y1, y2⟩
      dsimp only at y1 y2
      subst y1
      refine ⟨(nI (2 * S), f), ?_, y2⟩
      show st_X2_reckonFlows_L27 st cn nx (nI (2 * S)) f = _
      unfold st_X2_reckonFlows_L27
      rw [es, il2, pk_mul, if_pos (nI_le (Nat.le_refl _) (by omega))])
    4096 0 (0, f0) (by omega) (by omega) ⟨rfl, fun k hk => hE k hk⟩
  obtain ⟨v1, f1⟩ := r2
  refine ⟨f1, ?_, hE2⟩
  unfold f_X2_reckonFlows f_X2_reckonFlows_L2 f_X2_reckonFlows_L27
  rw [hr, bi2_s, hr2, bi2_s]
theorem flow_m (H : MC B S h sv st he cn nx og li) (M : MM 0 S mm sv st he ta cl dr cn nx og) {s : Nat} : f_X9_flow mm (nI s) = some (fsum nx cn s (2 * S)) := by
  have hS := H.S_le
  obtain ⟨es, -⟩ := H
  obtain ⟨-, m0, -, -, -, -, -, m6, -⟩ := M
  obtain ⟨r, hr, hE⟩ := lp_for (st := fun z => st_X9_flow_L4 (nI s) mm z.1 z.2)
    (I := fun i z => z = (fsum nx cn s i, nI i)) (E := fun z => z = (fsum nx cn s (2 * S), nI (2 * S))) (2 * S)
    (by
      rintro i z hi rfl
      have e0 : mm (10 + i) = cn i := by rw [show 10 + i = 0 + 10 + i by omega, (m6 i hi).1]
      have e1 : mm (510 + i) = nx i := by rw [show 510 + i = 0 + 510 + i by omega, (m6 i hi).2]
      refine ⟨(fsum nx cn s (i + 1), nI (i + 1)), ?_, rfl⟩
      show st_X9_flow_L4 (nI s) mm (fsum nx cn s i) (nI i) = some (Sum.inl (fsum nx cn s i + (if nx i = nI s then cn i else 0), nI (i + 1)))
      unfold st_X9_flow_L4
      by_cases q : nx i = nI s
      · simp (disch := omega) only [il0, il1, il2, il10, il510, nI_add, pk_mul, nI_clamp, oobn, m0, es, e0, e1, ile_f, if_pos q]
      · simp (disch := omega) only [il0, il1, il2, il10, il510, nI_add, pk_mul, nI_clamp, oobn, m0, es, e0, e1, ile_f, if_neg q])
    (by
      rintro z rfl
      refine ⟨_, ?_, rfl⟩
      show st_X9_flow_L4 (nI s) mm (fsum nx cn s (2 * S)) (nI (2 * S)) = _
      unfold st_X9_flow_L4
      simp (disch := omega) only [il0, il2, pk_mul, nI_clamp, oobn, m0, es, ile_t])
    4096 0 (0, 0) (by omega) (by omega) rfl
  unfold f_X9_flow f_X9_flow_L4
  rw [hr, hE, bi2_s]
theorem line_m (H : MC B S h sv st he cn nx og li) (M : MM 0 S mm sv st he ta cl dr cn nx og) {s : Nat} (hs : s < S) : f_X9_line mm (nI s) = some (li s) := by
  have hS := H.S_le
  obtain ⟨-, -, -, -, -, -, k3⟩ := H
  obtain ⟨-, -, -, -, -, -, -, -, m7⟩ := M
  have key : ∀ s, s < S → ∀ (v : Int32) (fuel : Nat), s < fuel → ∃ w, lpN (fun z => st_X9_line_L4 mm z.1 z.2) fuel (v, nI s) = some (v + li s, w) := by
    intro s
    induction s using Nat.strongRecOn with
    | _ s ih =>
      intro hs v fuel hf
      have e : mm (1010 + s) = og s := by rw [show 1010 + s = 0 + 1010 + s by omega, m7 s hs]
      cases fuel with
      | zero => omega
      | succ fuel =>
        rw [lpN_s]
        rcases k3 s hs with ⟨a, b⟩ | ⟨j, hj, a, b⟩
        · have w : st_X9_line_L4 mm v (nI s) = some (Sum.inr (v, nI s)) := by
            unfold st_X9_line_L4
            rw [il1010, nI_add, oobi _ (by omega) (by omega), nI_clamp (by omega), e, if_pos a]
          refine ⟨nI s, ?_⟩
          show (st_X9_line_L4 mm v (nI s)).bind _ = _
          rw [w, b, lgAddZero]
          rfl
        · have hne : ¬ og s = -4 := by
            rw [a]
            intro q
            have h1 : (nI j).toInt = (-4 : Int32).toInt := by rw [q]
            rw [nI_toInt (by omega)] at h1
            have h2 : (-4 : Int32).toInt = -4 := by decide
            omega
          have w : st_X9_line_L4 mm v (nI s) = some (Sum.inl (v + 1, nI j)) := by
            unfold st_X9_line_L4
            rw [il1010, nI_add, oobi _ (by omega) (by omega), oobi _ (by omega) (by omega), nI_clamp (by omega), e, if_neg hne, a]
          obtain ⟨w2, hw2⟩ := ih j hj (by omega) (v + 1) fuel (by omega)
          refine ⟨w2, ?_⟩
          show (st_X9_line_L4 mm v (nI s)).bind _ = _
          rw [w]
          show lpN _ fuel (v + 1, nI j) = _
          rw [hw2, b, show v + 1 + li j = v + (li j + 1) by rw [Int32.add_assoc, Int32.add_comm 1]]
  obtain ⟨w, hw⟩ := key s hs 0 4096 (by omega)
  unfold f_X9_line f_X9_line_L4
  rw [hw, bi2_s, Int32.zero_add]
theorem sim_state (hB : B ≤ 100000) (H : KX B 0 sv st he ta cl dr cn nx og li mm) (fl : Nat → Int32) (x1 x2 : Int32) : ∃ r fl', f_X8_state st cn nx og li fl x1 x2 = some (r, fl') ∧ f_X9_state mm x1 x2 = some r := by
  obtain ⟨a, b, c, d, e, S, h, h1, h2, h3⟩ := id H
  have hS := h2.S_le
  have hh := h2.2.2.1
  have es := h2.1
  obtain ⟨-, m0, -, -, -, -, -, m6, m7⟩ := id h3
  have eS : (mm 0 - 1).toInt64 = lN (S - 1) := by rw [m0, es, il1, nsub (by omega), toL (by omega)]
  unfold f_X8_state f_X9_state
  rw [if_neg (show ¬ ((0 : Int32) < 0 ∨ 5040 ≤ (0 : Int32).toNatClampNeg) by decide), show (0 : Int32).toNatClampNeg = 0 from rfl, eS]
  rcases rng x1 0 (S - 1) (by omega) (by omega) with ⟨s, g1, g2, rfl, g3⟩ | ⟨g1, g3⟩
  · rw [show f_X9_in (nI s).toInt64 (0 : Int64) (lN (S - 1)) = 1 from g3, if_neg (show ¬ (1 : Int32) = 0 by decide), if_neg (nI_pos (by omega)), es, if_pos (nI_lt (show s < S by omega) (by omega))]
    rcases rng x2 0 7 (by omega) (by omega) with ⟨w, k1, k2, rfl, k3⟩ | ⟨k1, k3⟩
    · rw [show f_X9_in (nI w).toInt64 (0 : Int64) (7 : Int64) = 1 from k3, if_neg (show ¬ (1 : Int32) = 0 by decide)]
      have hs : s < S := by omega
      have c0 : mm (10 + 2 * s) = cn (2 * s) := by rw [show 10 + 2 * s = 0 + 10 + 2 * s by omega, (m6 _ (by omega)).1]
      have c1 : mm (10 + 2 * s + 1) = cn (2 * s + 1) := by rw [show 10 + 2 * s + 1 = 0 + 10 + (2 * s + 1) by omega, (m6 _ (by omega)).1]
      have n0 : mm (510 + 2 * s) = nx (2 * s) := by rw [show 510 + 2 * s = 0 + 510 + 2 * s by omega, (m6 _ (by omega)).2]
      have n1 : mm (510 + 2 * s + 1) = nx (2 * s + 1) := by rw [show 510 + 2 * s + 1 = 0 + 510 + (2 * s + 1) by omega, (m6 _ (by omega)).2]
      have o0 : mm (1010 + s) = og s := by rw [show 1010 + s = 0 + 1010 + s by omega, m7 s hs]
      rcases (show w = 0 ∨ w = 1 ∨ w = 2 ∨ w = 3 ∨ w = 4 ∨ w = 5 ∨ w = 6 ∨ w = 7 by omega) with rfl | rfl | rfl | rfl | rfl | rfl | rfl | rfl
      · refine ⟨cn (2 * s), fl, ?_, ?_⟩
        · simp (disch := omega) only [il0, il1, il2, il3, il4, il5, il6, il7, il8, il9, il10, il15, il32, il40, il60, il64, il100, il200, il250, il255, il500, il510, il1010, il1260, il1261, il1265, il1924, il2000, il2520, il4095, il4096, il5040, il65535, il1000000, ↓reduceIte, count_c, Nat.add_zero]
        · simp (disch := omega) only [il0, il1, il2, il3, il4, il5, il6, il7, il8, il9, il10, il15, il32, il40, il60, il64, il100, il200, il250, il255, il500, il510, il1010, il1260, il1261, il1265, il1924, il2000, il2520, il4095, il4096, il5040, il65535, il1000000, ↓reduceIte, nI_add, pk_mul, nI_clamp, oobn, Nat.add_zero, c0]
      · refine ⟨cn (2 * s + 1), fl, ?_, ?_⟩
        · simp (disch := omega) only [il0, il1, il2, il3, il4, il5, il6, il7, il8, il9, il10, il15, il32, il40, il60, il64, il100, il200, il250, il255, il500, il510, il1010, il1260, il1261, il1265, il1924, il2000, il2520, il4095, il4096, il5040, il65535, il1000000, ↓reduceIte, ieq_f, count_c]
        · simp (disch := omega) only [il0, il1, il2, il3, il4, il5, il6, il7, il8, il9, il10, il15, il32, il40, il60, il64, il100, il200, il250, il255, il500, il510, il1010, il1260, il1261, il1265, il1924, il2000, il2520, il4095, il4096, il5040, il65535, il1000000, ↓reduceIte, ieq_f, nI_add, pk_mul, nI_clamp, oobn, c1]
      · refine ⟨nx (2 * s), fl, ?_, ?_⟩
        · have := next_c h2 hs (b := 0) (by omega)
          rw [← (Nx_lt h2 hs (b := 0) (by omega)).2] at this
          simp (disch := omega) only [il0, il1, il2, il3, il4, il5, il6, il7, il8, il9, il10, il15, il32, il40, il60, il64, il100, il200, il250, il255, il500, il510, il1010, il1260, il1261, il1265, il1924, il2000, il2520, il4095, il4096, il5040, il65535, il1000000, ↓reduceIte, ieq_f, nsub, Nat.sub_self, this, Nat.add_zero]
        · simp (disch := omega) only [il0, il1, il2, il3, il4, il5, il6, il7, il8, il9, il10, il15, il32, il40, il60, il64, il100, il200, il250, il255, il500, il510, il1010, il1260, il1261, il1265, il1924, il2000, il2520, il4095, il4096, il5040, il65535, il1000000, ↓reduceIte, ieq_f, nI_add, pk_mul, nsub, Nat.add_sub_cancel, nI_clamp, oobn, n0]
      · refine ⟨nx (2 * s + 1), fl, ?_, ?_⟩
        · have := next_c h2 hs (b := 1) (by omega)
          rw [← (Nx_lt h2 hs (b := 1) (by omega)).2] at this
          simp (disch := omega) only [il0, il1, il2, il3, il4, il5, il6, il7, il8, il9, il10, il15, il32, il40, il60, il64, il100, il200, il250, il255, il500, il510, il1010, il1260, il1261, il1265, il1924, il2000, il2520, il4095, il4096, il5040, il65535, il1000000, ↓reduceIte, ieq_f, nsub, Nat.reduceSub, this]
        · simp (disch := omega) only [il0, il1, il2, il3, il4, il5, il6, il7, il8, il9, il10, il15, il32, il40, il60, il64, il100, il200, il250, il255, il500, il510, il1010, il1260, il1261, il1265, il1924, il2000, il2520, il4095, il4096, il5040, il65535, il1000000, ↓reduceIte, ieq_f, nI_add, pk_mul, nsub, show 510 + 2 * s + 3 - 2 = 510 + 2 * s + 1 by omega, nI_clamp, oobn, n1]
      · obtain ⟨-, -, p3, p4⟩ := chance_ok hB h2 h3 hs
        refine ⟨nI (Ch cn s), fl, ?_, ?_⟩
        · simp (disch := omega) only [il0, il1, il2, il3, il4, il5, il6, il7, il8, il9, il10, il15, il32, il40, il60, il64, il100, il200, il250, il255, il500, il510, il1010, il1260, il1261, il1265, il1924, il2000, il2520, il4095, il4096, il5040, il65535, il1000000, ↓reduceIte, ieq_f, p3]
        · simp (disch := omega) only [il0, il1, il2, il3, il4, il5, il6, il7, il8, il9, il10, il15, il32, il40, il60, il64, il100, il200, il250, il255, il500, il510, il1010, il1260, il1261, il1265, il1924, il2000, il2520, il4095, il4096, il5040, il65535, il1000000, ↓reduceIte, ieq_f, p4, bi1_s]
      · obtain ⟨fl', q1, q2⟩ := reckon h2 fl
        refine ⟨fsum nx cn s (2 * S), fl', ?_, ?_⟩
        · rw [es] at q1
          have : f_X2_flowInto (nI S) cn nx fl (nI s) = some (fsum nx cn s (2 * S), fl') := by
            unfold f_X2_flowInto
            rw [q1, bi1_s, get_nI (by omega) (by omega), q2 s hs]
          simp (disch := omega) only [il0, il1, il2, il3, il4, il5, il6, il7, il8, il9, il10, il15, il32, il40, il60, il64, il100, il200, il250, il255, il500, il510, il1010, il1260, il1261, il1265, il1924, il2000, il2520, il4095, il4096, il5040, il65535, il1000000, ↓reduceIte, ieq_f, this, bi2_s]
        · have := flow_m h2 h3 (s := s)
          simp (disch := omega) only [il0, il1, il2, il3, il4, il5, il6, il7, il8, il9, il10, il15, il32, il40, il60, il64, il100, il200, il250, il255, il500, il510, il1010, il1260, il1261, il1265, il1924, il2000, il2520, il4095, il4096, il5040, il65535, il1000000, ↓reduceIte, ieq_f, this, bi1_s]
      · refine ⟨li s, fl, ?_, ?_⟩
        · have : f_X2_lineOf li (nI s) = li s := by unfold f_X2_lineOf; exact get_nI (by omega) (by omega)
          simp (disch := omega) only [il0, il1, il2, il3, il4, il5, il6, il7, il8, il9, il10, il15, il32, il40, il60, il64, il100, il200, il250, il255, il500, il510, il1010, il1260, il1261, il1265, il1924, il2000, il2520, il4095, il4096, il5040, il65535, il1000000, ↓reduceIte, ieq_f, this]
        · have := line_m h2 h3 hs
          simp (disch := omega) only [il0, il1, il2, il3, il4, il5, il6, il7, il8, il9, il10, il15, il32, il40, il60, il64, il100, il200, il250, il255, il500, il510, il1010, il1260, il1261, il1265, il1924, il2000, il2520, il4095, il4096, il5040, il65535, il1000000, ↓reduceIte, ieq_f, this, bi1_s]
      · refine ⟨og s, fl, ?_, ?_⟩
        · have : f_X2_originOf og (nI s) = og s := by unfold f_X2_originOf; exact get_nI (by omega) (by omega)
          simp (disch := omega) only [il0, il1, il2, il3, il4, il5, il6, il7, il8, il9, il10, il15, il32, il40, il60, il64, il100, il200, il250, il255, il500, il510, il1010, il1260, il1261, il1265, il1924, il2000, il2520, il4095, il4096, il5040, il65535, il1000000, ↓reduceIte, ieq_f, this]
        · simp (disch := omega) only [il0, il1, il2, il3, il4, il5, il6, il7, il8, il9, il10, il15, il32, il40, il60, il64, il100, il200, il250, il255, il500, il510, il1010, il1260, il1261, il1265, il1924, il2000, il2520, il4095, il4096, il5040, il65535, il1000000, ↓reduceIte, ieq_f, nI_add, nI_clamp, oobn, o0]
    · rw [show f_X9_in x2.toInt64 (0 : Int64) (7 : Int64) = 0 from k3, if_pos (show (0 : Int32) = 0 from rfl)]
      have hw : ∀ k, k ≤ 7 → ¬ x2 = nI k := by
        intro k hk q
        subst q
        rcases k1 with k1 | k1
        · exact nI_nlt (by omega) (by omega) k1
        · exact nI_nlt hk (by omega) k1
      refine ⟨-1, fl, ?_, rfl⟩
      rw [if_neg (show ¬ x2 = 0 from hw 0 (by omega)), if_neg (show ¬ x2 = 1 from hw 1 (by omega)), if_neg (show ¬ x2 = 2 from hw 2 (by omega)), if_neg (show ¬ x2 = 3 from hw 3 (by omega)), if_neg (show ¬ x2 = 4 from hw 4 (by omega)), if_neg (show ¬ x2 = 5 from hw 5 (by omega)), if_neg (show ¬ x2 = 6 from hw 6 (by omega)), if_neg (show ¬ x2 = 7 from hw 7 (by omega))]
  · rw [show f_X9_in x1.toInt64 (0 : Int64) (lN (S - 1)) = 0 from g3, if_pos (show (0 : Int32) = 0 from rfl)]
    refine ⟨-1, fl, ?_, rfl⟩
    rcases g1 with g1 | g1
    · rw [if_pos (show x1 < 0 from g1)]
    · by_cases q : x1 < 0
      · rw [if_pos q]
      · rw [if_neg q, es, if_neg]
        intro q2
        rcases plc x1 (n := S) (by omega) with w | ⟨-, w⟩ | ⟨j, hj, rfl⟩
        · exact q w
        · exact Int32.not_lt.mpr w q2
        · exact nI_nlt (show j ≤ S - 1 by omega) (by omega) g1
end FLOW
