/-! numbers: literals as nI, rows read and written at nI -/
theorem il0 : (0 : Int32) = nI 0 := by decide +kernel
theorem il1 : (1 : Int32) = nI 1 := by decide +kernel
theorem il2 : (2 : Int32) = nI 2 := by decide +kernel
theorem il3 : (3 : Int32) = nI 3 := by decide +kernel
theorem il4 : (4 : Int32) = nI 4 := by decide +kernel
theorem il5 : (5 : Int32) = nI 5 := by decide +kernel
theorem il6 : (6 : Int32) = nI 6 := by decide +kernel
theorem il7 : (7 : Int32) = nI 7 := by decide +kernel
theorem il8 : (8 : Int32) = nI 8 := by decide +kernel
theorem il9 : (9 : Int32) = nI 9 := by decide +kernel
theorem il10 : (10 : Int32) = nI 10 := by decide +kernel
theorem il15 : (15 : Int32) = nI 15 := by decide +kernel
theorem il32 : (32 : Int32) = nI 32 := by decide +kernel
theorem il40 : (40 : Int32) = nI 40 := by decide +kernel
theorem il60 : (60 : Int32) = nI 60 := by decide +kernel
theorem il64 : (64 : Int32) = nI 64 := by decide +kernel
theorem il100 : (100 : Int32) = nI 100 := by decide +kernel
theorem il200 : (200 : Int32) = nI 200 := by decide +kernel
theorem il250 : (250 : Int32) = nI 250 := by decide +kernel
theorem il255 : (255 : Int32) = nI 255 := by decide +kernel
theorem il500 : (500 : Int32) = nI 500 := by decide +kernel
theorem il510 : (510 : Int32) = nI 510 := by decide +kernel
theorem il1010 : (1010 : Int32) = nI 1010 := by decide +kernel
theorem il1260 : (1260 : Int32) = nI 1260 := by decide +kernel
theorem il1261 : (1261 : Int32) = nI 1261 := by decide +kernel
theorem il1265 : (1265 : Int32) = nI 1265 := by decide +kernel
theorem il1924 : (1924 : Int32) = nI 1924 := by decide +kernel
theorem il2000 : (2000 : Int32) = nI 2000 := by decide +kernel
theorem il2520 : (2520 : Int32) = nI 2520 := by decide +kernel
theorem il4095 : (4095 : Int32) = nI 4095 := by decide +kernel
theorem il4096 : (4096 : Int32) = nI 4096 := by decide +kernel
theorem il5040 : (5040 : Int32) = nI 5040 := by decide +kernel
theorem il65535 : (65535 : Int32) = nI 65535 := by decide +kernel
theorem il1000000 : (1000000 : Int32) = nI 1000000 := by decide +kernel
theorem jl0 : (0 : Int64) = lN 0 := by decide +kernel
theorem jl1 : (1 : Int64) = lN 1 := by decide +kernel
theorem jl2 : (2 : Int64) = lN 2 := by decide +kernel
theorem jl3 : (3 : Int64) = lN 3 := by decide +kernel
theorem jl4 : (4 : Int64) = lN 4 := by decide +kernel
theorem jl7 : (7 : Int64) = lN 7 := by decide +kernel
theorem jl15 : (15 : Int64) = lN 15 := by decide +kernel
theorem jl16 : (16 : Int64) = lN 16 := by decide +kernel
theorem jl40 : (40 : Int64) = lN 40 := by decide +kernel
theorem jl60 : (60 : Int64) = lN 60 := by decide +kernel
theorem jl64 : (64 : Int64) = lN 64 := by decide +kernel
theorem jl200 : (200 : Int64) = lN 200 := by decide +kernel
theorem jl250 : (250 : Int64) = lN 250 := by decide +kernel
theorem jl255 : (255 : Int64) = lN 255 := by decide +kernel
theorem jl256 : (256 : Int64) = lN 256 := by decide +kernel
theorem jl4095 : (4095 : Int64) = lN 4095 := by decide +kernel
theorem jl4096 : (4096 : Int64) = lN 4096 := by decide +kernel
theorem jl65535 : (65535 : Int64) = lN 65535 := by decide +kernel
theorem jl16777216 : (16777216 : Int64) = lN 16777216 := by decide +kernel
theorem jl4294967295 : (4294967295 : Int64) = lN 4294967295 := by decide +kernel
theorem jl4294967296 : (4294967296 : Int64) = lN 4294967296 := by decide +kernel
theorem upd_e {f : Nat → Int32} {k j : Nat} {x : Int32} (h : j = k) : upd f k x j = x := by subst h; exact pk_us
theorem upd_n {f : Nat → Int32} {k j : Nat} {x : Int32} (h : j ≠ k) : upd f k x j = f j := pk_un h
theorem oobi {α : Type} {i N : Nat} (x : Option α) (h : i < N) (hN : N < 2 ^ 31) : (if nI i < 0 ∨ N ≤ (nI i).toNatClampNeg then none else x) = x := if_neg (nI_in h hN)
theorem get_nI {n i : Nat} {f : Nat → Int32} (h : i < n) (hn : n < 2 ^ 31) : f_X4_get n f (nI i) = f i := by
  unfold f_X4_get
  rw [if_neg (nI_pos (by omega)), if_neg (nI_ge h hn), nI_clamp (by omega)]
theorem put_nI {n i : Nat} {f : Nat → Int32} {v : Int32} (h : i < n) (hn : n < 2 ^ 31) : f_X4_put n f (nI i) v = upd f i v := by
  unfold f_X4_put
  rw [if_neg (nI_pos (by omega)), if_neg (nI_ge h hn), nI_clamp (by omega)]
theorem path_nI (s b : Nat) : f_X2_path (nI s) (nI b) = nI (2 * s + b) := by
  unfold f_X2_path
  rw [show (2 : Int32) = nI 2 from rfl, pk_mul, nI_add]
/-! loops -/
theorem lp_for {σ ρ : Type} {st : σ → Option (σ ⊕ ρ)} (I : Nat → σ → Prop) (E : ρ → Prop) (n : Nat) (hs : ∀ i s, i < n → I i s → ∃ s', st s = some (.inl s') ∧ I (i + 1) s') (he : ∀ s, I n s → ∃ r, st s = some (.inr r) ∧ E r) : ∀ (fuel i : Nat) (s : σ), i ≤ n → n < i + fuel → I i s → ∃ r, lpN st fuel s = some r ∧ E r := by
  intro fuel
  induction fuel with
  | zero => intro i s h1 h2; omega
  | succ k ih =>
    intro i s h1 h2 h3
    rw [lpN_s]
    by_cases h : i < n
    · obtain ⟨s', e1, e2⟩ := hs i s h h3
      rw [e1]
      exact ih (i + 1) s' (by omega) (by omega) e2
    · have : i = n := by omega
      subst this
      obtain ⟨r, e1, e2⟩ := he s h3
      rw [e1]
      exact ⟨r, rfl, e2⟩
/-- two loops side by side, n steps each -/
theorem lp_two {σ ρ τ π : Type} {st : σ → Option (σ ⊕ ρ)} {tt : τ → Option (τ ⊕ π)} (I : Nat → σ → τ → Prop) (E : ρ → π → Prop) (n : Nat) (hs : ∀ i s t, i < n → I i s t → ∃ s' t', st s = some (.inl s') ∧ tt t = some (.inl t') ∧ I (i + 1) s' t') (he : ∀ s t, I n s t → ∃ r q, st s = some (.inr r) ∧ tt t = some (.inr q) ∧ E r q) : ∀ (f1 f2 i : Nat) (s : σ) (t : τ), i ≤ n → n < i + f1 → n < i + f2 → I i s t → ∃ r q, lpN st f1 s = some r ∧ lpN tt f2 t = some q ∧ E r q := by
  intro f1
  induction f1 with
  | zero => intro f2 i s t h1 h2; omega
  | succ k ih =>
    intro f2 i s t h1 h2 h3 h4
    cases f2 with
    | zero => omega
    | succ f2 =>
      rw [lpN_s, lpN_s]
      by_cases h : i < n
      · obtain ⟨s', t', e1, e2, e3⟩ := hs i s t h h4
        rw [e1, e2]
        exact ih f2 (i + 1) s' t' (by omega) (by omega) (by omega) e3
      · have : i = n := by omega
        subst this
        obtain ⟨r, q, e1, e2, e3⟩ := he s t h4
        rw [e1, e2]
        exact ⟨r, q, rfl, rfl, e3⟩
/-- two loops that stop together at any time, a measure falls -/
theorem lp_both {σ ρ τ π : Type} {st : σ → Option (σ ⊕ ρ)} {tt : τ → Option (τ ⊕ π)} (I : Nat → σ → τ → Prop) (E : ρ → π → Prop) (hs : ∀ i s t, I i s t → (∃ j s' t', j < i ∧ st s = some (.inl s') ∧ tt t = some (.inl t') ∧ I j s' t') ∨ (∃ r q, st s = some (.inr r) ∧ tt t = some (.inr q) ∧ E r q)) : ∀ (i f1 f2 : Nat) (s : σ) (t : τ), i < f1 → i < f2 → I i s t → ∃ r q, lpN st f1 s = some r ∧ lpN tt f2 t = some q ∧ E r q := by
  intro i
  induction i using Nat.strongRecOn with
  | _ i ih =>
    intro f1 f2 s t h1 h2 h3
    cases f1 with
    | zero => omega
    | succ f1 =>
      cases f2 with
      | zero => omega
      | succ f2 =>
        rw [lpN_s, lpN_s]
        rcases hs i s t h3 with ⟨j, s', t', hj, e1, e2, e3⟩ | ⟨r, q, e1, e2, e3⟩
        · rw [e1, e2]
          exact ih j hj f1 f2 s' t' (by omega) (by omega) e3
        · rw [e1, e2]
          exact ⟨r, q, rfl, rfl, e3⟩
theorem bi1_s {α β : Type} (a : α) (k : α → Option β) : bi1 (some a) k = k a := rfl
theorem bi2_s {α0 α1 β : Type} (a0 : α0) (a1 : α1) (k : α0 → α1 → Option β) : bi2 (some (a0, a1)) k = k a0 a1 := rfl
theorem bi3_s {α0 α1 α2 β : Type} (a0 : α0) (a1 : α1) (a2 : α2) (k : α0 → α1 → α2 → Option β) : bi3 (some (a0, a1, a2)) k = k a0 a1 a2 := rfl
theorem bi4_s {α0 α1 α2 α3 β : Type} (a0 : α0) (a1 : α1) (a2 : α2) (a3 : α3) (k : α0 → α1 → α2 → α3 → Option β) : bi4 (some (a0, a1, a2, a3)) k = k a0 a1 a2 a3 := rfl
theorem bi5_s {α0 α1 α2 α3 α4 β : Type} (a0 : α0) (a1 : α1) (a2 : α2) (a3 : α3) (a4 : α4) (k : α0 → α1 → α2 → α3 → α4 → Option β) : bi5 (some (a0, a1, a2, a3, a4)) k = k a0 a1 a2 a3 a4 := rfl
theorem bi6_s {α0 α1 α2 α3 α4 α5 β : Type} (a0 : α0) (a1 : α1) (a2 : α2) (a3 : α3) (a4 : α4) (a5 : α5) (k : α0 → α1 → α2 → α3 → α4 → α5 → Option β) : bi6 (some (a0, a1, a2, a3, a4, a5)) k = k a0 a1 a2 a3 a4 a5 := rfl
theorem bi7_s {α0 α1 α2 α3 α4 α5 α6 β : Type} (a0 : α0) (a1 : α1) (a2 : α2) (a3 : α3) (a4 : α4) (a5 : α5) (a6 : α6) (k : α0 → α1 → α2 → α3 → α4 → α5 → α6 → Option β) : bi7 (some (a0, a1, a2, a3, a4, a5, a6)) k = k a0 a1 a2 a3 a4 a5 a6 := rfl
theorem bi8_s {α0 α1 α2 α3 α4 α5 α6 α7 β : Type} (a0 : α0) (a1 : α1) (a2 : α2) (a3 : α3) (a4 : α4) (a5 : α5) (a6 : α6) (a7 : α7) (k : α0 → α1 → α2 → α3 → α4 → α5 → α6 → α7 → Option β) : bi8 (some (a0, a1, a2, a3, a4, a5, a6, a7)) k = k a0 a1 a2 a3 a4 a5 a6 a7 := rfl
theorem bi9_s {α0 α1 α2 α3 α4 α5 α6 α7 α8 β : Type} (a0 : α0) (a1 : α1) (a2 : α2) (a3 : α3) (a4 : α4) (a5 : α5) (a6 : α6) (a7 : α7) (a8 : α8) (k : α0 → α1 → α2 → α3 → α4 → α5 → α6 → α7 → α8 → Option β) : bi9 (some (a0, a1, a2, a3, a4, a5, a6, a7, a8)) k = k a0 a1 a2 a3 a4 a5 a6 a7 a8 := rfl
theorem bi10_s {α0 α1 α2 α3 α4 α5 α6 α7 α8 α9 β : Type} (a0 : α0) (a1 : α1) (a2 : α2) (a3 : α3) (a4 : α4) (a5 : α5) (a6 : α6) (a7 : α7) (a8 : α8) (a9 : α9) (k : α0 → α1 → α2 → α3 → α4 → α5 → α6 → α7 → α8 → α9 → Option β) : bi10 (some (a0, a1, a2, a3, a4, a5, a6, a7, a8, a9)) k = k a0 a1 a2 a3 a4 a5 a6 a7 a8 a9 := rfl
theorem bi11_s {α0 α1 α2 α3 α4 α5 α6 α7 α8 α9 α10 β : Type} (a0 : α0) (a1 : α1) (a2 : α2) (a3 : α3) (a4 : α4) (a5 : α5) (a6 : α6) (a7 : α7) (a8 : α8) (a9 : α9) (a10 : α10) (k : α0 → α1 → α2 → α3 → α4 → α5 → α6 → α7 → α8 → α9 → α10 → Option β) : bi11 (some (a0, a1, a2, a3, a4, a5, a6, a7, a8, a9, a10)) k = k a0 a1 a2 a3 a4 a5 a6 a7 a8 a9 a10 := rfl
theorem bi12_s {α0 α1 α2 α3 α4 α5 α6 α7 α8 α9 α10 α11 β : Type} (a0 : α0) (a1 : α1) (a2 : α2) (a3 : α3) (a4 : α4) (a5 : α5) (a6 : α6) (a7 : α7) (a8 : α8) (a9 : α9) (a10 : α10) (a11 : α11) (k : α0 → α1 → α2 → α3 → α4 → α5 → α6 → α7 → α8 → α9 → α10 → α11 → Option β) : bi12 (some (a0, a1, a2, a3, a4, a5, a6, a7, a8, a9, a10, a11)) k = k a0 a1 a2 a3 a4 a5 a6 a7 a8 a9 a10 a11 := rfl
theorem bi13_s {α0 α1 α2 α3 α4 α5 α6 α7 α8 α9 α10 α11 α12 β : Type} (a0 : α0) (a1 : α1) (a2 : α2) (a3 : α3) (a4 : α4) (a5 : α5) (a6 : α6) (a7 : α7) (a8 : α8) (a9 : α9) (a10 : α10) (a11 : α11) (a12 : α12) (k : α0 → α1 → α2 → α3 → α4 → α5 → α6 → α7 → α8 → α9 → α10 → α11 → α12 → Option β) : bi13 (some (a0, a1, a2, a3, a4, a5, a6, a7, a8, a9, a10, a11, a12)) k = k a0 a1 a2 a3 a4 a5 a6 a7 a8 a9 a10 a11 a12 := rfl
theorem bi14_s {α0 α1 α2 α3 α4 α5 α6 α7 α8 α9 α10 α11 α12 α13 β : Type} (a0 : α0) (a1 : α1) (a2 : α2) (a3 : α3) (a4 : α4) (a5 : α5) (a6 : α6) (a7 : α7) (a8 : α8) (a9 : α9) (a10 : α10) (a11 : α11) (a12 : α12) (a13 : α13) (k : α0 → α1 → α2 → α3 → α4 → α5 → α6 → α7 → α8 → α9 → α10 → α11 → α12 → α13 → Option β) : bi14 (some (a0, a1, a2, a3, a4, a5, a6, a7, a8, a9, a10, a11, a12, a13)) k = k a0 a1 a2 a3 a4 a5 a6 a7 a8 a9 a10 a11 a12 a13 := rfl
theorem bi15_s {α0 α1 α2 α3 α4 α5 α6 α7 α8 α9 α10 α11 α12 α13 α14 β : Type} (a0 : α0) (a1 : α1) (a2 : α2) (a3 : α3) (a4 : α4) (a5 : α5) (a6 : α6) (a7 : α7) (a8 : α8) (a9 : α9) (a10 : α10) (a11 : α11) (a12 : α12) (a13 : α13) (a14 : α14) (k : α0 → α1 → α2 → α3 → α4 → α5 → α6 → α7 → α8 → α9 → α10 → α11 → α12 → α13 → α14 → Option β) : bi15 (some (a0, a1, a2, a3, a4, a5, a6, a7, a8, a9, a10, a11, a12, a13, a14)) k = k a0 a1 a2 a3 a4 a5 a6 a7 a8 a9 a10 a11 a12 a13 a14 := rfl
theorem bi16_s {α0 α1 α2 α3 α4 α5 α6 α7 α8 α9 α10 α11 α12 α13 α14 α15 β : Type} (a0 : α0) (a1 : α1) (a2 : α2) (a3 : α3) (a4 : α4) (a5 : α5) (a6 : α6) (a7 : α7) (a8 : α8) (a9 : α9) (a10 : α10) (a11 : α11) (a12 : α12) (a13 : α13) (a14 : α14) (a15 : α15) (k : α0 → α1 → α2 → α3 → α4 → α5 → α6 → α7 → α8 → α9 → α10 → α11 → α12 → α13 → α14 → α15 → Option β) : bi16 (some (a0, a1, a2, a3, a4, a5, a6, a7, a8, a9, a10, a11, a12, a13, a14, a15)) k = k a0 a1 a2 a3 a4 a5 a6 a7 a8 a9 a10 a11 a12 a13 a14 a15 := rfl
theorem bi17_s {α0 α1 α2 α3 α4 α5 α6 α7 α8 α9 α10 α11 α12 α13 α14 α15 α16 β : Type} (a0 : α0) (a1 : α1) (a2 : α2) (a3 : α3) (a4 : α4) (a5 : α5) (a6 : α6) (a7 : α7) (a8 : α8) (a9 : α9) (a10 : α10) (a11 : α11) (a12 : α12) (a13 : α13) (a14 : α14) (a15 : α15) (a16 : α16) (k : α0 → α1 → α2 → α3 → α4 → α5 → α6 → α7 → α8 → α9 → α10 → α11 → α12 → α13 → α14 → α15 → α16 → Option β) : bi17 (some (a0, a1, a2, a3, a4, a5, a6, a7, a8, a9, a10, a11, a12, a13, a14, a15, a16)) k = k a0 a1 a2 a3 a4 a5 a6 a7 a8 a9 a10 a11 a12 a13 a14 a15 a16 := rfl
theorem bi18_s {α0 α1 α2 α3 α4 α5 α6 α7 α8 α9 α10 α11 α12 α13 α14 α15 α16 α17 β : Type} (a0 : α0) (a1 : α1) (a2 : α2) (a3 : α3) (a4 : α4) (a5 : α5) (a6 : α6) (a7 : α7) (a8 : α8) (a9 : α9) (a10 : α10) (a11 : α11) (a12 : α12) (a13 : α13) (a14 : α14) (a15 : α15) (a16 : α16) (a17 : α17) (k : α0 → α1 → α2 → α3 → α4 → α5 → α6 → α7 → α8 → α9 → α10 → α11 → α12 → α13 → α14 → α15 → α16 → α17 → Option β) : bi18 (some (a0, a1, a2, a3, a4, a5, a6, a7, a8, a9, a10, a11, a12, a13, a14, a15, a16, a17)) k = k a0 a1 a2 a3 a4 a5 a6 a7 a8 a9 a10 a11 a12 a13 a14 a15 a16 a17 := rfl
theorem bi19_s {α0 α1 α2 α3 α4 α5 α6 α7 α8 α9 α10 α11 α12 α13 α14 α15 α16 α17 α18 β : Type} (a0 : α0) (a1 : α1) (a2 : α2) (a3 : α3) (a4 : α4) (a5 : α5) (a6 : α6) (a7 : α7) (a8 : α8) (a9 : α9) (a10 : α10) (a11 : α11) (a12 : α12) (a13 : α13) (a14 : α14) (a15 : α15) (a16 : α16) (a17 : α17) (a18 : α18) (k : α0 → α1 → α2 → α3 → α4 → α5 → α6 → α7 → α8 → α9 → α10 → α11 → α12 → α13 → α14 → α15 → α16 → α17 → α18 → Option β) : bi19 (some (a0, a1, a2, a3, a4, a5, a6, a7, a8, a9, a10, a11, a12, a13, a14, a15, a16, a17, a18)) k = k a0 a1 a2 a3 a4 a5 a6 a7 a8 a9 a10 a11 a12 a13 a14 a15 a16 a17 a18 := rfl
theorem bi20_s {α0 α1 α2 α3 α4 α5 α6 α7 α8 α9 α10 α11 α12 α13 α14 α15 α16 α17 α18 α19 β : Type} (a0 : α0) (a1 : α1) (a2 : α2) (a3 : α3) (a4 : α4) (a5 : α5) (a6 : α6) (a7 : α7) (a8 : α8) (a9 : α9) (a10 : α10) (a11 : α11) (a12 : α12) (a13 : α13) (a14 : α14) (a15 : α15) (a16 : α16) (a17 : α17) (a18 : α18) (a19 : α19) (k : α0 → α1 → α2 → α3 → α4 → α5 → α6 → α7 → α8 → α9 → α10 → α11 → α12 → α13 → α14 → α15 → α16 → α17 → α18 → α19 → Option β) : bi20 (some (a0, a1, a2, a3, a4, a5, a6, a7, a8, a9, a10, a11, a12, a13, a14, a15, a16, a17, a18, a19)) k = k a0 a1 a2 a3 a4 a5 a6 a7 a8 a9 a10 a11 a12 a13 a14 a15 a16 a17 a18 a19 := rfl
theorem bi21_s {α0 α1 α2 α3 α4 α5 α6 α7 α8 α9 α10 α11 α12 α13 α14 α15 α16 α17 α18 α19 α20 β : Type} (a0 : α0) (a1 : α1) (a2 : α2) (a3 : α3) (a4 : α4) (a5 : α5) (a6 : α6) (a7 : α7) (a8 : α8) (a9 : α9) (a10 : α10) (a11 : α11) (a12 : α12) (a13 : α13) (a14 : α14) (a15 : α15) (a16 : α16) (a17 : α17) (a18 : α18) (a19 : α19) (a20 : α20) (k : α0 → α1 → α2 → α3 → α4 → α5 → α6 → α7 → α8 → α9 → α10 → α11 → α12 → α13 → α14 → α15 → α16 → α17 → α18 → α19 → α20 → Option β) : bi21 (some (a0, a1, a2, a3, a4, a5, a6, a7, a8, a9, a10, a11, a12, a13, a14, a15, a16, a17, a18, a19, a20)) k = k a0 a1 a2 a3 a4 a5 a6 a7 a8 a9 a10 a11 a12 a13 a14 a15 a16 a17 a18 a19 a20 := rfl
theorem bi22_s {α0 α1 α2 α3 α4 α5 α6 α7 α8 α9 α10 α11 α12 α13 α14 α15 α16 α17 α18 α19 α20 α21 β : Type} (a0 : α0) (a1 : α1) (a2 : α2) (a3 : α3) (a4 : α4) (a5 : α5) (a6 : α6) (a7 : α7) (a8 : α8) (a9 : α9) (a10 : α10) (a11 : α11) (a12 : α12) (a13 : α13) (a14 : α14) (a15 : α15) (a16 : α16) (a17 : α17) (a18 : α18) (a19 : α19) (a20 : α20) (a21 : α21) (k : α0 → α1 → α2 → α3 → α4 → α5 → α6 → α7 → α8 → α9 → α10 → α11 → α12 → α13 → α14 → α15 → α16 → α17 → α18 → α19 → α20 → α21 → Option β) : bi22 (some (a0, a1, a2, a3, a4, a5, a6, a7, a8, a9, a10, a11, a12, a13, a14, a15, a16, a17, a18, a19, a20, a21)) k = k a0 a1 a2 a3 a4 a5 a6 a7 a8 a9 a10 a11 a12 a13 a14 a15 a16 a17 a18 a19 a20 a21 := rfl
theorem bi23_s {α0 α1 α2 α3 α4 α5 α6 α7 α8 α9 α10 α11 α12 α13 α14 α15 α16 α17 α18 α19 α20 α21 α22 β : Type} (a0 : α0) (a1 : α1) (a2 : α2) (a3 : α3) (a4 : α4) (a5 : α5) (a6 : α6) (a7 : α7) (a8 : α8) (a9 : α9) (a10 : α10) (a11 : α11) (a12 : α12) (a13 : α13) (a14 : α14) (a15 : α15) (a16 : α16) (a17 : α17) (a18 : α18) (a19 : α19) (a20 : α20) (a21 : α21) (a22 : α22) (k : α0 → α1 → α2 → α3 → α4 → α5 → α6 → α7 → α8 → α9 → α10 → α11 → α12 → α13 → α14 → α15 → α16 → α17 → α18 → α19 → α20 → α21 → α22 → Option β) : bi23 (some (a0, a1, a2, a3, a4, a5, a6, a7, a8, a9, a10, a11, a12, a13, a14, a15, a16, a17, a18, a19, a20, a21, a22)) k = k a0 a1 a2 a3 a4 a5 a6 a7 a8 a9 a10 a11 a12 a13 a14 a15 a16 a17 a18 a19 a20 a21 a22 := rfl
theorem bi24_s {α0 α1 α2 α3 α4 α5 α6 α7 α8 α9 α10 α11 α12 α13 α14 α15 α16 α17 α18 α19 α20 α21 α22 α23 β : Type} (a0 : α0) (a1 : α1) (a2 : α2) (a3 : α3) (a4 : α4) (a5 : α5) (a6 : α6) (a7 : α7) (a8 : α8) (a9 : α9) (a10 : α10) (a11 : α11) (a12 : α12) (a13 : α13) (a14 : α14) (a15 : α15) (a16 : α16) (a17 : α17) (a18 : α18) (a19 : α19) (a20 : α20) (a21 : α21) (a22 : α22) (a23 : α23) (k : α0 → α1 → α2 → α3 → α4 → α5 → α6 → α7 → α8 → α9 → α10 → α11 → α12 → α13 → α14 → α15 → α16 → α17 → α18 → α19 → α20 → α21 → α22 → α23 → Option β) : bi24 (some (a0, a1, a2, a3, a4, a5, a6, a7, a8, a9, a10, a11, a12, a13, a14, a15, a16, a17, a18, a19, a20, a21, a22, a23)) k = k a0 a1 a2 a3 a4 a5 a6 a7 a8 a9 a10 a11 a12 a13 a14 a15 a16 a17 a18 a19 a20 a21 a22 a23 := rfl
theorem bi25_s {α0 α1 α2 α3 α4 α5 α6 α7 α8 α9 α10 α11 α12 α13 α14 α15 α16 α17 α18 α19 α20 α21 α22 α23 α24 β : Type} (a0 : α0) (a1 : α1) (a2 : α2) (a3 : α3) (a4 : α4) (a5 : α5) (a6 : α6) (a7 : α7) (a8 : α8) (a9 : α9) (a10 : α10) (a11 : α11) (a12 : α12) (a13 : α13) (a14 : α14) (a15 : α15) (a16 : α16) (a17 : α17) (a18 : α18) (a19 : α19) (a20 : α20) (a21 : α21) (a22 : α22) (a23 : α23) (a24 : α24) (k : α0 → α1 → α2 → α3 → α4 → α5 → α6 → α7 → α8 → α9 → α10 → α11 → α12 → α13 → α14 → α15 → α16 → α17 → α18 → α19 → α20 → α21 → α22 → α23 → α24 → Option β) : bi25 (some (a0, a1, a2, a3, a4, a5, a6, a7, a8, a9, a10, a11, a12, a13, a14, a15, a16, a17, a18, a19, a20, a21, a22, a23, a24)) k = k a0 a1 a2 a3 a4 a5 a6 a7 a8 a9 a10 a11 a12 a13 a14 a15 a16 a17 a18 a19 a20 a21 a22 a23 a24 := rfl
theorem bi26_s {α0 α1 α2 α3 α4 α5 α6 α7 α8 α9 α10 α11 α12 α13 α14 α15 α16 α17 α18 α19 α20 α21 α22 α23 α24 α25 β : Type} (a0 : α0) (a1 : α1) (a2 : α2) (a3 : α3) (a4 : α4) (a5 : α5) (a6 : α6) (a7 : α7) (a8 : α8) (a9 : α9) (a10 : α10) (a11 : α11) (a12 : α12) (a13 : α13) (a14 : α14) (a15 : α15) (a16 : α16) (a17 : α17) (a18 : α18) (a19 : α19) (a20 : α20) (a21 : α21) (a22 : α22) (a23 : α23) (a24 : α24) (a25 : α25) (k : α0 → α1 → α2 → α3 → α4 → α5 → α6 → α7 → α8 → α9 → α10 → α11 → α12 → α13 → α14 → α15 → α16 → α17 → α18 → α19 → α20 → α21 → α22 → α23 → α24 → α25 → Option β) : bi26 (some (a0, a1, a2, a3, a4, a5, a6, a7, a8, a9, a10, a11, a12, a13, a14, a15, a16, a17, a18, a19, a20, a21, a22, a23, a24, a25)) k = k a0 a1 a2 a3 a4 a5 a6 a7 a8 a9 a10 a11 a12 a13 a14 a15 a16 a17 a18 a19 a20 a21 a22 a23 a24 a25 := rfl
/-! one bit, bytes, truth -/
theorem in_iff {x a b : Int64} : f_X9_in x a b = (if a ≤ x ∧ x ≤ b then 1 else 0) := by
  unfold f_X9_in
  by_cases h1 : a ≤ x
  · have g1 : ¬ lg_cmp x a < 0 := fun q => by
      have := (lg_cmp_ge x a).mpr h1
      exact absurd q (Int32.not_lt.mpr this)
    rw [if_neg g1]
    by_cases h2 : x ≤ b
    · have g2 : ¬ 0 < lg_cmp x b := fun q => by
        have := (lg_cmp_le x b).mpr h2
        exact absurd q (Int32.not_lt.mpr this)
      rw [if_neg g2, if_pos ⟨h1, h2⟩]
    · have g2 : 0 < lg_cmp x b := by
        apply Int32.not_le.mp
        intro q
        exact h2 ((lg_cmp_le x b).mp q)
      rw [if_pos g2, if_neg (fun q => h2 q.2)]
  · have g1 : lg_cmp x a < 0 := by
      apply Int32.not_le.mp
      intro q
      exact h1 ((lg_cmp_ge x a).mp q)
    rw [if_pos g1, if_neg (fun q => h1 q.1)]
/-- 'in' of an int between two small numbers -/
theorem in_int {x : Int32} {a b : Nat} (ha : a < 2 ^ 31) (hb : b < 2 ^ 31) : f_X9_in x.toInt64 (lN a) (lN b) = (if nI a ≤ x ∧ x ≤ nI b then 1 else 0) := by
  rw [in_iff]
  have e : (lN a ≤ x.toInt64 ∧ x.toInt64 ≤ lN b) ↔ (nI a ≤ x ∧ x ≤ nI b) := by
    rw [Int64.le_iff_toInt_le, Int64.le_iff_toInt_le, Int32.le_iff_toInt_le, Int32.le_iff_toInt_le, Int32.toInt_toInt64, lN_toInt ha, lN_toInt hb, nI_toInt ha, nI_toInt hb]
  by_cases h : nI a ≤ x ∧ x ≤ nI b
  · rw [if_pos h, if_pos (e.mpr h)]
  · rw [if_neg h, if_neg (fun q => h (e.mp q))]
