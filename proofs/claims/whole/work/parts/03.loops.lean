def lpN {σ ρ : Type} (st : σ → Option (σ ⊕ ρ)) : Nat → σ → Option ρ
  | 0, _ => none
  | k + 1, a => match st a with
    | none => none
    | some (.inl b) => lpN st k b
    | some (.inr r) => some r
def lpC {σ ρ : Type} (st : σ → Option (σ ⊕ ρ)) (k : Nat) : σ ⊕ ρ → Option ρ
  | .inl b => lpN st k b
  | .inr r => some r
theorem lpN_s {σ ρ : Type} (st : σ → Option (σ ⊕ ρ)) (k : Nat) (a : σ) : lpN st (k + 1) a = (st a).bind (lpC st k) := by
  show (match st a with | none => none | some (.inl b) => lpN st k b | some (.inr r) => some r) = _
  cases st a with
  | none => rfl
  | some z => cases z <;> rfl
theorem lp_inv {σ ρ : Type} {st : σ → Option (σ ⊕ ρ)} {k : Nat} {a : σ} {r : ρ} (h : lpN st (k + 1) a = some r) : ∃ z, st a = some z ∧ lpC st k z = some r := by
  rw [lpN_s] at h
  exact Option.bind_eq_some_iff.mp h
theorem lpC_r {σ ρ : Type} {st : σ → Option (σ ⊕ ρ)} {k : Nat} {a r : ρ} (h : lpC st k (.inr a) = some r) : a = r := Option.some.inj h
theorem rowin {x : Int32} {n : Nat} (hn : n < 2 ^ 31) (h0 : ¬ x < 0) (h1 : ¬ nI n ≤ x) : vp_in x n := by
  rcases pk_ix x hn with h | h | ⟨j, hj, rfl⟩
  · exact absurd h h0
  · exact absurd h h1
  · exact vp_in_nI hj hn
theorem cqnz {y : Int64} (h : ¬ lg_cmp y (0 : Int64) ≤ 0) : ¬ y = 0 := by
  intro q
  subst q
  exact h (by decide)
theorem tsw_7 {x : Int32} (h0 : ¬ x = 0) (h1 : ¬ x = 1) (h2 : ¬ x = 2) (h3 : ¬ x = 3) (h4 : ¬ x = 4) (h5 : ¬ x = 5) (h6 : ¬ x = 6) : x.toInt < 0 ∨ 6 < x.toInt := by
  have g0 := lv_neT h0 (a := 0) (by decide); have g1 := lv_neT h1 (a := 1) (by decide); have g2 := lv_neT h2 (a := 2) (by decide); have g3 := lv_neT h3 (a := 3) (by decide)
  have g4 := lv_neT h4 (a := 4) (by decide); have g5 := lv_neT h5 (a := 5) (by decide); have g6 := lv_neT h6 (a := 6) (by decide)
  omega
theorem tsw_8 {x : Int32} (h0 : ¬ x = 0) (h1 : ¬ x = 1) (h2 : ¬ x = 2) (h3 : ¬ x = 3) (h4 : ¬ x = 4) (h5 : ¬ x = 5) (h6 : ¬ x = 6) (h7 : ¬ x = 7) : x.toInt < 0 ∨ 7 < x.toInt := by
  have g7 := lv_neT h7 (a := 7) (by decide)
  have g := tsw_7 h0 h1 h2 h3 h4 h5 h6
  omega
theorem tsw_9 {x : Int32} (h0 : ¬ x = 0) (h1 : ¬ x = 1) (h2 : ¬ x = 2) (h3 : ¬ x = 3) (h4 : ¬ x = 4) (h5 : ¬ x = 5) (h6 : ¬ x = 6) (h7 : ¬ x = 7) (h8 : ¬ x = 8) : x.toInt < 0 ∨ 8 < x.toInt := by
  have g8 := lv_neT h8 (a := 8) (by decide)
  have g := tsw_8 h0 h1 h2 h3 h4 h5 h6 h7
  omega
