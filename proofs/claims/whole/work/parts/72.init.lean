theorem st_row {s : State} {b : Nat} {nm : String} {f : Nat → Int32} (hA : ∀ a : Nat, a < s.heap.size → ¬ (fun q : Nat => s.heap.size ≤ q) a) (hl : (Cond.laysStatic RX8 nm "[I").before #[Value.ref b] s = true) (hi : (Cond.initialized RX8).before #[Value.ref b] s = true) (harr : (Cond.arrayOf (.static RX8 nm "[I") .int).before #[Value.ref b] s = true) (hlen : (Cond.eq (.length (.static RX8 nm "[I")) (.int (Int32.ofNat 5))).before #[Value.ref b] s = true) (hel : ∀ j : Nat, j < 5 → (Cond.eq (.elem (.static RX8 nm "[I") (.int (Int32.ofNat j))) (.int (f j))).before #[Value.ref b] s = true) : ∃ t, va_Z RX8 nm "[I" (.ref t) (fun q : Nat => s.heap.size ≤ q) s s.heap ∧ va_T .int t 5 (fun j => .int (f j)) (fun q : Nat => s.heap.size ≤ q) s s.heap := by
  obtain ⟨t, e, h⟩ := va_Tof (A := (fun q : Nat => s.heap.size ≤ q)) (tm := .static RX8 nm "[I") (ty := .int) (N := 5) (f := fun j => .int (f j)) (by decide) harr (va_eqt hlen) (fun j hj => va_eqt (hel j hj)) hA
  exact ⟨t, va_Zref hl hi e hA, h⟩
set_option maxRecDepth 100000 in
theorem sf_start {s : State} {b : Nat} (hts : ∀ w ∈ lw_tbl, w.before #[Value.ref b] s = true) (hgv : (Jvm.Cond.and given_1 narrow_1).before #[Value.ref b] s = true) : sf (fun q : Nat => s.heap.size ≤ q) s s.heap := by
  have hs := flat_of_before _ hgv
  have hA : ∀ a : Nat, a < s.heap.size → ¬ (fun q : Nat => s.heap.size ≤ q) a := fun a h => Nat.not_le.mpr h
  have hi := hts _ (wsG_tbl _ ini_X8)
  obtain ⟨t0, a0, b0⟩ := st_row (f := leastS) hA (hts (.laysStatic RX8 "LEAST_SETTING" "[I") (List.mem_of_getElem? (i := 299) (by decide +kernel))) hi (hs _ (by decide +kernel)) (hs _ (by decide +kernel)) (fun j hj => by
    rcases (show j = 0 ∨ j = 1 ∨ j = 2 ∨ j = 3 ∨ j = 4 by omega) with rfl | rfl | rfl | rfl | rfl <;> exact hs _ (by decide +kernel))
  obtain ⟨t1, a1, b1⟩ := st_row (f := greatS) hA (hts (.laysStatic RX8 "GREATEST_SETTING" "[I") (List.mem_of_getElem? (i := 301) (by decide +kernel))) hi (hs _ (by decide +kernel)) (hs _ (by decide +kernel)) (fun j hj => by
    rcases (show j = 0 ∨ j = 1 ∨ j = 2 ∨ j = 3 ∨ j = 4 by omega) with rfl | rfl | rfl | rfl | rfl <;> exact hs _ (by decide +kernel))
  obtain ⟨t2, a2, b2⟩ := st_row (f := firstS) hA (hts (.laysStatic RX8 "SETTING_AT_FIRST" "[I") (List.mem_of_getElem? (i := 54) (by decide +kernel))) hi (hs _ (by decide +kernel)) (hs _ (by decide +kernel)) (fun j hj => by
    rcases (show j = 0 ∨ j = 1 ∨ j = 2 ∨ j = 3 ∨ j = 4 by omega) with rfl | rfl | rfl | rfl | rfl <;> exact hs _ (by decide +kernel))
  exact ⟨t0, t1, t2, a0, b0, a1, b1, a2, b2⟩
theorem set_first : ∃ sv, f_X5_init = some sv ∧ SV sv 0 2 2 100 0 := by
  obtain ⟨r, hr, v, sv, rfl, g⟩ := lp_for (st := fun z => st_X5_init_L21 z.1 z.2) (I := fun i s => ∃ m, s = (nI i, m) ∧ ∀ k, k < i → m k = firstS k) (E := fun r => ∃ v m, r = (v, m) ∧ ∀ k, k < 5 → m k = firstS k) 5
    (by
      rintro i s hi ⟨m, rfl, h1⟩
      refine ⟨(nI (i + 1), upd m i (firstS i)), ?_, _, rfl, fun k hk => ?_⟩
      · show st_X5_init_L21 (nI i) m = _
        unfold st_X5_init_L21
        rw [if_neg (show ¬ (5 : Int32) ≤ nI i from nI_ge (b := 5) hi (by omega)), oobi _ hi (by omega), put_nI hi (by omega), nI_clamp (by omega), nI_1]
      · by_cases q : k = i
        · subst q
          rw [upd_e rfl]
        · rw [upd_n q, h1 k (by omega)])
    (by
      rintro s ⟨m, rfl, h1⟩
      refine ⟨(nI 5, m), ?_, nI 5, m, rfl, h1⟩
      show st_X5_init_L21 (nI 5) m = _
      unfold st_X5_init_L21
      rw [if_pos (show (5 : Int32) ≤ nI 5 by decide +kernel)])
    4096 0 (0, fun _ => 0) (by omega) (by omega) ⟨_, rfl, fun k hk => absurd hk (by omega)⟩
  refine ⟨sv, ?_, ?_⟩
  · unfold f_X5_init f_X5_init_L21
    rw [hr, bi2_s]
  · exact ⟨g 0 (by omega), by omega, g 1 (by omega), by omega, by omega, g 2 (by omega), by omega, by omega, g 3 (by omega), by omega, by omega, g 4 (by omega), by omega⟩
theorem init_sim : ∃ sv S cn nx og li mm, f_X8_init = some (sv, S, 0, 0, 0, 0, cn, nx, og, li, S, 0, 0, 0, 0, cn, nx, og, li, S, 0, 0, 0, 0, cn, nx, og, li, sv, S, 0, 0, 0, 0, cn, nx, og, li, sv, S, 0, 0, 0, 0, cn, nx, og, li) ∧ f_X9_init = some mm ∧ KX 1 0 sv S 0 0 0 0 cn nx og li mm := by
  obtain ⟨sv, e1, h⟩ := set_first
  obtain ⟨cn, nx, og, li, mm, e2, e3, e4, e5, -⟩ := begin_sim (A := 0) (mm := upd (upd (upd (fun _ => 0) 6 2) 7 2) 8 100) (cn := fun _ => 0) (nx := fun _ => 0) (og := fun _ => 0) (li := fun _ => 0) h (by omega) (fun k hk => by
    obtain ⟨s0, -, s1, -, -, s2, -, -, s3, -, -, s4, -⟩ := h
    rcases (show k = 0 ∨ k = 1 ∨ k = 2 ∨ k = 3 ∨ k = 4 by omega) with rfl | rfl | rfl | rfl | rfl
    · rw [s0, upd_n (by omega), upd_n (by omega), upd_n (by omega)]; rfl
    · rw [s1, upd_n (by omega), upd_n (by omega), upd_e rfl]; rfl
    · rw [s2, upd_n (by omega), upd_e rfl]; rfl
    · rw [s3, upd_e rfl]; rfl
    · rw [s4, upd_n (by omega), upd_n (by omega), upd_n (by omega)]; rfl)
  have e6 : f_X2_init sv = some (nI (S0 0), 0, 0, 0, 0, cn, nx, og, li) := by
    unfold f_X2_init
    rw [e2, bi9_s]
  refine ⟨sv, nI (S0 0), cn, nx, og, li, mm, ?_, ?_, 0, 2, 2, 100, 0, S0 0, 0, h, e4 1 (by omega), e5⟩
  · unfold f_X8_init f_X3_init f_X7_init f_X1_init
    simp only [e1, e6, bi1_s, bi9_s, bi10_s]
  · unfold f_X9_init
    rw [show f_X9_renews (upd (upd (upd (fun _ => 0) ((6 : Int32)).toNatClampNeg 2) ((7 : Int32)).toNatClampNeg 2) ((8 : Int32)).toNatClampNeg 100) 0 = some mm from e3, bi1_s]
