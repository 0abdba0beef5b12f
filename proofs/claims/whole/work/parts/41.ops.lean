section IFS
variable {α : Type} {x y : α} {a b : Nat}
theorem ilt_t (h : a < b) (hb : b < 2 ^ 31) : (if nI a < nI b then x else y) = x := if_pos (nI_lt h hb)
theorem ilt_f (h : b ≤ a) (ha : a < 2 ^ 31) : (if nI a < nI b then x else y) = y := if_neg (nI_nlt h ha)
theorem ile_t (h : a ≤ b) (hb : b < 2 ^ 31) : (if nI a ≤ nI b then x else y) = x := if_pos (nI_le h hb)
theorem ile_f (h : b < a) (ha : a < 2 ^ 31) : (if nI a ≤ nI b then x else y) = y := if_neg (nI_ge h ha)
theorem ieq_t (h : a = b) : (if nI a = nI b then x else y) = x := if_pos (by rw [h])
theorem ieq_f (h : a ≠ b) (ha : a < 2 ^ 31) (hb : b < 2 ^ 31) : (if nI a = nI b then x else y) = y := if_neg (fun q => h ((nI_eq ha hb).mp q))
theorem oobn {z : Option α} {i N : Nat} (h : i < N) (hN : N < 2 ^ 31) : (if nI i < nI 0 ∨ N ≤ i then none else z) = z := by
  have := nI_in h hN
  rw [nI_clamp (by omega)] at this
  exact if_neg this
end IFS
/-- an int argument lies between two small numbers, or not -/
theorem rng (x : Int32) (a b : Nat) (ha : a < 2 ^ 31) (hb : b < 2 ^ 31) : (∃ v, a ≤ v ∧ v ≤ b ∧ x = nI v ∧ f_X9_in x.toInt64 (lN a) (lN b) = 1) ∨ ((x < nI a ∨ nI b < x) ∧ f_X9_in x.toInt64 (lN a) (lN b) = 0) := by
  rw [in_int ha hb]
  by_cases h : nI a ≤ x ∧ x ≤ nI b
  · left
    have h0 : ¬ x < 0 := by
      intro q
      have h1 := Int32.le_iff_toInt_le.mp h.1
      have h2 := Int32.lt_iff_toInt_lt.mp q
      rw [nI_toInt ha] at h1
      have : (0 : Int32).toInt = 0 := rfl
      omega
    obtain ⟨v, hv, rfl⟩ := nI_of h0
    exact ⟨v, (nI_leI ha hv).mp h.1, (nI_leI hv hb).mp h.2, rfl, if_pos h⟩
  · right
    refine ⟨?_, if_neg h⟩
    by_cases g : nI a ≤ x
    · right
      exact Int32.not_le.mp (fun q => h ⟨g, q⟩)
    · left
      exact Int32.not_le.mp g
/-- a byte, or not -/
theorem byt (x : Int32) : (∃ v, v ≤ 255 ∧ x = nI v ∧ f_X9_in x.toInt64 (0 : Int64) (255 : Int64) = 1 ∧ f_X8_isByte x = 1) ∨ (f_X9_in x.toInt64 (0 : Int64) (255 : Int64) = 0 ∧ f_X8_isByte x = 0) := by
  rcases rng x 0 255 (by omega) (by omega) with ⟨v, h1, h2, e, h3⟩ | ⟨h1, h3⟩
  · left
    refine ⟨v, h2, e, h3, ?_⟩
    subst e
    unfold f_X8_isByte
    simp (disch := omega) only [il0, il255, il1, ilt_f]
  · right
    refine ⟨h3, ?_⟩
    unfold f_X8_isByte
    rcases h1 with h1 | h1
    · rw [if_pos (show x < 0 from h1)]
    · by_cases h0 : x < 0
      · rw [if_pos h0]
      · rw [if_neg h0, if_pos (show (255 : Int32) < x from h1)]
def RI (room len : Int32) (bs : Nat → Int32) (im : Int32) (inp : Nat → Int32) : Prop := room = 60 ∧ ∃ I, I ≤ 60 ∧ len = nI I ∧ im = nI I ∧ ∀ j, j < I → bs j = inp j ∧ ∃ v, v < 256 ∧ inp j = nI v
def RPk (room len : Int32) (bs : Nat → Int32) (pm : Int32) (pk : Nat → Int32) : Prop := room = 1924 ∧ ∃ I, I ≤ 1924 ∧ len = nI I ∧ pm = nI I ∧ ∀ j, j < I → bs j = pk j ∧ ∃ v, v < 256 ∧ pk j = nI v
def RU (room len : Int32) (bs : Nat → Int32) (om : Int32) (out : Nat → Int32) : Prop := room = 60 ∧ ∃ I, I ≤ 60 ∧ len = nI I ∧ om = nI I ∧ ∀ j, j < I → bs j = out j
def RGr (off : Nat) (used st cl dr : Int32) (gr : Nat → Int32) : Prop := (used = 0 ∧ gr off = 0) ∨ (used = 1 ∧ gr off = st ∧ gr (off + 1) = cl ∧ gr (off + 2) = dr ∧ ¬ gr off = 0)
theorem sim_write {room len im : Int32} {bs inp : Nat → Int32} (h : RI room len bs im inp) (x1 : Int32) : ∃ r len' bs', f_X8_write room len bs x1 = some (r, len', bs') ∧ ∃ im' inp', f_X9_write im inp x1 = some (r, im', inp') ∧ RI room len' bs' im' inp' := by
  obtain ⟨e0, I, hI, e1, e2, hb⟩ := id h
  unfold f_X8_write f_X9_write
  rcases byt x1 with ⟨v, hv, e, h1, h2⟩ | ⟨h1, h2⟩
  · rw [h1, h2, if_neg (show ¬ (1 : Int32) = 0 by decide), if_neg (show ¬ (1 : Int32) = 0 by decide)]
    subst e0 e1 e2 e
    by_cases hf : I = 60
    · subst hf
      refine ⟨-3, nI 60, bs, ?_, nI 60, inp, ?_, h⟩
      · simp (disch := omega) only [il0, il1, il2, il3, il4, il5, il6, il7, il8, il9, il10, il15, il32, il40, il60, il64, il100, il200, il250, il255, il500, il510, il1010, il1260, il1261, il1265, il1924, il2000, il2520, il4095, il4096, il5040, il65535, il1000000, f_X0_length, ilt_f]
      · simp (disch := omega) only [il0, il1, il2, il3, il4, il5, il6, il7, il8, il9, il10, il15, il32, il40, il60, il64, il100, il200, il250, il255, il500, il510, il1010, il1260, il1261, il1265, il1924, il2000, il2520, il4095, il4096, il5040, il65535, il1000000, ieq_t, ↓reduceIte]
    · refine ⟨nI (I + 1), nI (I + 1), upd bs I (nI v), ?_, nI (I + 1), upd inp I (nI v), ?_, rfl, I + 1, by omega, rfl, rfl, ?_⟩
      · simp (disch := omega) only [il0, il1, il2, il3, il4, il5, il6, il7, il8, il9, il10, il15, il32, il40, il60, il64, il100, il200, il250, il255, il500, il510, il1010, il1260, il1261, il1265, il1924, il2000, il2520, il4095, il4096, il5040, il65535, il1000000, f_X0_length, f_X0_add, ilt_t, ile_f, bi2_s, nI_add, put_nI]
      · simp (disch := omega) only [il0, il1, il2, il3, il4, il5, il6, il7, il8, il9, il10, il15, il32, il40, il60, il64, il100, il200, il250, il255, il500, il510, il1010, il1260, il1261, il1265, il1924, il2000, il2520, il4095, il4096, il5040, il65535, il1000000, ieq_f, nI_clamp, oobn, nI_add]
      · intro j hj
        by_cases q : j = I
        · subst q
          rw [upd_e rfl, upd_e rfl]
          exact ⟨rfl, v, by omega, rfl⟩
        · rw [upd_n q, upd_n q]
          exact hb j (by omega)
  · rw [h1, h2, if_pos (show (0 : Int32) = 0 from rfl), if_pos (show (0 : Int32) = 0 from rfl)]
    exact ⟨-1, len, bs, rfl, im, inp, rfl, h⟩
theorem sim_wipe {room len im : Int32} {bs inp : Nat → Int32} (h : RI room len bs im inp) : ∃ r len', f_X8_wipe len = some (r, len') ∧ ∃ im', f_X9_wipe im = some (r, im') ∧ RI room len' bs im' inp := by
  obtain ⟨e0, I, hI, e1, e2, hb⟩ := h
  refine ⟨len, 0, rfl, 0, ?_, e0, 0, by omega, rfl, rfl, fun j hj => by omega⟩
  rw [e1, e2]
  rfl
/-- a place beyond a row, or in it -/
theorem plc (x : Int32) {n : Nat} (hn : n < 2 ^ 31) : x < 0 ∨ (¬ x < 0 ∧ nI n ≤ x) ∨ ∃ j, j < n ∧ x = nI j := by
  rcases pk_ix x hn with h | h | h
  · exact Or.inl h
  · by_cases g : x < 0
    · exact Or.inl g
    · exact Or.inr (Or.inl ⟨g, h⟩)
  · exact Or.inr (Or.inr h)
theorem bget {n I j : Nat} {bs : Nat → Int32} (hj : j < I) (hI : I ≤ n) (hn : n < 2 ^ 31) : f_X0_get n (nI I) bs (nI j) = bs j := by
  unfold f_X0_get
  rw [if_neg (nI_ge hj (by omega)), get_nI (by omega) hn]
theorem sim_spoil {room len pm : Int32} {bs pk : Nat → Int32} (h : RPk room len bs pm pk) (x1 x2 : Int32) : ∃ r bs', f_X8_spoil len bs x1 x2 = some (r, bs') ∧ ∃ pk', f_X9_spoil pm pk x1 x2 = some (r, pk') ∧ RPk room len bs' pm pk' := by
  obtain ⟨e0, I, hI, e1, e2, hb⟩ := id h
  unfold f_X8_spoil f_X9_spoil
  by_cases hx : x1 < 0
  · rw [if_pos hx, if_pos hx]
    exact ⟨-1, bs, rfl, pk, rfl, h⟩
  rw [if_neg hx, if_neg hx]
  rcases byt x2 with ⟨v, hv, e, h1, h2⟩ | ⟨h1, h2⟩
  · rw [h1, h2, if_neg (show ¬ (1 : Int32) = 0 by decide), if_neg (show ¬ (1 : Int32) = 0 by decide)]
    subst e0 e1 e2 e
    unfold f_X0_length
    rcases plc x1 (n := I) (by omega) with g | ⟨-, g⟩ | ⟨j, hj, rfl⟩
    · exact absurd g hx
    · rw [if_neg (Int32.not_lt.mpr g), if_neg (Int32.not_lt.mpr g)]
      exact ⟨-4, bs, rfl, pk, rfl, h⟩
    · obtain ⟨g1, w, hw, g2⟩ := hb j hj
      have k1 : f_X0_get 1924 (nI I) bs (nI j) = pk j := by rw [bget hj hI (by omega), g1]
      rw [k1]
      by_cases hq : pk j = nI v
      · refine ⟨-2, bs, ?_, pk, ?_, h⟩
        · simp (disch := omega) only [ilt_t, if_pos hq]
        · simp (disch := omega) only [il0, ilt_t, nI_clamp, oobn, if_pos hq]
      · refine ⟨pk j, upd bs j (nI v), ?_, upd pk j (nI v), ?_, rfl, I, hI, rfl, rfl, ?_⟩
        · simp (disch := omega) only [ilt_t, if_neg hq, f_X0_put, put_nI]
        · simp (disch := omega) only [il0, ilt_t, nI_clamp, oobn, if_neg hq]
        · intro a ha
          by_cases q : a = j
          · subst q
            rw [upd_e rfl, upd_e rfl]
            exact ⟨rfl, v, by omega, rfl⟩
          · rw [upd_n q, upd_n q]
            exact hb a ha
  · rw [h1, h2, if_pos (show (0 : Int32) = 0 from rfl), if_pos (show (0 : Int32) = 0 from rfl)]
    exact ⟨-1, bs, rfl, pk, rfl, h⟩
theorem sim_row {n n2 I : Nat} {bs f : Nat → Int32} (hI : I ≤ n) (hI2 : I ≤ n2) (hn : n < 2 ^ 31) (hn2 : n2 < 2 ^ 31) (hb : ∀ j, j < I → bs j = f j) (x2 : Int32) (hx : ¬ x2 < 0) : (if nI I ≤ x2 then some (-4 : Int32) else (if x2 < 0 ∨ n2 ≤ x2.toNatClampNeg then none else some (f x2.toNatClampNeg))) = some (if f_X0_length (nI I) ≤ x2 then (-4 : Int32) else f_X0_get n (nI I) bs x2) := by
  unfold f_X0_length
  rcases plc x2 (n := I) (by omega) with g | ⟨-, g⟩ | ⟨j, hj, rfl⟩
  · exact absurd g hx
  · rw [if_pos g, if_pos g]
  · rw [if_neg (nI_ge hj (by omega)), if_neg (nI_ge hj (by omega)), bget hj hI hn, oobi _ (by omega) hn2, nI_clamp (by omega), hb j hj]
theorem sim_at {ir il im pr pl pm ur ul om : Int32} {ib inp pb pk ub out : Nat → Int32} (h1 : RI ir il ib im inp) (h2 : RPk pr pl pb pm pk) (h3 : RU ur ul ub om out) (x1 x2 : Int32) : f_X9_at im pm om inp pk out x1 x2 = some (f_X8_at il ib pl pb ul ub x1 x2) := by
  obtain ⟨-, I, hI, e1, e2, hb⟩ := h1
  obtain ⟨-, P, hP, e3, e4, hp⟩ := h2
  obtain ⟨-, U, hU, e5, e6, hu⟩ := h3
  subst e1 e2 e3 e4 e5 e6
  unfold f_X9_at f_X8_at
  rcases rng x1 0 2 (by omega) (by omega) with ⟨v, g1, g2, rfl, g3⟩ | ⟨g1, g3⟩
  · rw [show f_X9_in (nI v).toInt64 (0 : Int64) (2 : Int64) = 1 from g3, if_neg (show ¬ (1 : Int32) = 0 by decide), if_neg (nI_pos (by omega)), if_neg (show ¬ (2 : Int32) < nI v from nI_nlt (b := v) (a := 2) g2 (by omega))]
    by_cases hx : 0 ≤ x2
    · have hx2 : ¬ x2 < 0 := Int32.not_lt.mpr hx
      rw [if_pos hx, if_pos hx]
      by_cases q0 : nI v = 0
      · rw [if_pos q0, if_pos q0]
        exact sim_row (by omega) (by omega) (by omega) (by omega) (fun j hj => (hb j hj).1) x2 hx2
      · rw [if_neg q0, if_neg q0]
        by_cases q1 : nI v = 1
        · rw [if_pos q1, if_pos q1]
          exact sim_row (by omega) (by omega) (by omega) (by omega) (fun j hj => (hp j hj).1) x2 hx2
        · rw [if_neg q1, if_neg q1]
          exact sim_row (by omega) (by omega) (by omega) (by omega) hu x2 hx2
    · rw [if_neg hx, if_neg hx]
  · rw [show f_X9_in x1.toInt64 (0 : Int64) (2 : Int64) = 0 from g3, if_pos rfl]
    rcases g1 with g1 | g1
    · rw [if_pos (show x1 < 0 from g1)]
    · by_cases q : x1 < 0
      · rw [if_pos q]
      · rw [if_neg q, if_pos (show (2 : Int32) < x1 from g1)]
theorem sim_alike {ir il im ur ul om : Int32} {ib inp ub out : Nat → Int32} (h1 : RI ir il ib im inp) (h3 : RU ur ul ub om out) : ∃ r, f_X8_alike il ib ul ub = some r ∧ f_X9_alike im om inp out = some r := by
  obtain ⟨-, I, hI, e1, e2, hb⟩ := h1
  obtain ⟨-, U, hU, e5, e6, hu⟩ := h3
  subst e1 e2 e5 e6
  have key : ∃ r q, lpN (fun z => st_X8_alike_L20 (if f_X0_length (nI U) < f_X0_length (nI I) then f_X0_length (nI U) else f_X0_length (nI I)) (nI I) ib (nI U) ub z) 4096 0 = some r ∧ lpN (fun z => st_X9_alike_L2 (nI I) (nI U) inp out z) 4096 0 = some q ∧ r = q := by
    have hm : (if f_X0_length (nI U) < f_X0_length (nI I) then f_X0_length (nI U) else f_X0_length (nI I)) = nI (min U I) := by
      unfold f_X0_length
      by_cases g : U < I
      · rw [if_pos (nI_lt g (by omega)), Nat.min_eq_left (by omega)]
      · rw [if_neg (nI_nlt (by omega) (by omega)), Nat.min_eq_right (by omega)]
    rw [hm]
    refine lp_both (I := fun i s t => ∃ j, j ≤ min U I ∧ i = min U I - j ∧ s = nI j ∧ t = nI j) (E := fun r q => r = q) ?_ (min U I) 4096 4096 0 0 (by omega) (by omega) ⟨0, by omega, by omega, rfl, rfl⟩
    rintro i s t ⟨j, g1, rfl, rfl, rfl⟩
    by_cases g : j = min U I
    · right
      refine ⟨nI j, nI j, ?_, ?_, rfl⟩
      · unfold st_X8_alike_L20
        rw [if_pos (nI_le (by omega) (by omega))]
      · unfold st_X9_alike_L2
        by_cases w : I ≤ j
        · rw [if_pos (nI_le w (by omega))]
        · rw [if_neg (nI_ge (by omega) (by omega)), if_pos (nI_le (by omega) (by omega))]
    · have k1 : f_X0_get 60 (nI I) ib (nI j) = inp j := by rw [bget (by omega) hI (by omega), (hb j (by omega)).1]
      have k2 : f_X0_get 60 (nI U) ub (nI j) = out j := by rw [bget (by omega) hU (by omega), hu j (by omega)]
      have a1 : st_X8_alike_L20 (nI (min U I)) (nI I) ib (nI U) ub (nI j) = if inp j = out j then some (Sum.inl (nI (j + 1))) else some (Sum.inr (nI j)) := by
        unfold st_X8_alike_L20
        rw [if_neg (nI_ge (by omega) (by omega)), k1, k2, nI_1]
      have a2 : st_X9_alike_L2 (nI I) (nI U) inp out (nI j) = if inp j = out j then some (Sum.inl (nI (j + 1))) else some (Sum.inr (nI j)) := by
        unfold st_X9_alike_L2
        rw [if_neg (nI_ge (by omega) (by omega)), if_neg (nI_ge (by omega) (by omega)), oobi _ (by omega) (by omega), oobi _ (by omega) (by omega), nI_clamp (by omega), nI_1]
      by_cases w : inp j = out j
      · left
        exact ⟨min U I - (j + 1), nI (j + 1), nI (j + 1), by omega, by rw [a1, if_pos w], by rw [a2, if_pos w], j + 1, by omega, rfl, rfl, rfl⟩
      · right
        exact ⟨nI j, nI j, by rw [a1, if_neg w], by rw [a2, if_neg w], rfl⟩
  obtain ⟨r, q, a, b, rfl⟩ := key
  exact ⟨r, by unfold f_X8_alike f_X8_alike_L20; rw [a, bi1_s], by unfold f_X9_alike f_X9_alike_L2; rw [b, bi1_s]⟩
theorem sim_grew {ku ks kc kd qu qs qc qd : Int32} {gr : Nat → Int32} (h1 : RGr 0 ku ks kc kd gr) (h2 : RGr 3 qu qs qc qd gr) (x1 x2 : Int32) : f_X9_grew gr x1 x2 = some (f_X8_grew ku ks kc kd qu qs qc qd x1 x2) := by
  unfold f_X9_grew f_X8_grew
  rcases rng x1 0 1 (by omega) (by omega) with ⟨v, g1, g2, rfl, g3⟩ | ⟨g1, g3⟩
  · rw [show f_X9_in (nI v).toInt64 (0 : Int64) (1 : Int64) = 1 from g3, if_neg (show ¬ (1 : Int32) = 0 by decide), if_neg (nI_pos (by omega)), if_neg (show ¬ (1 : Int32) < nI v from nI_nlt (b := v) (a := 1) g2 (by omega))]
    rcases rng x2 0 2 (by omega) (by omega) with ⟨w, k1, k2, rfl, k3⟩ | ⟨k1, k3⟩
    · rw [show f_X9_in (nI w).toInt64 (0 : Int64) (2 : Int64) = 1 from k3, if_neg (show ¬ (1 : Int32) = 0 by decide), if_neg (nI_pos (by omega)), if_pos (show nI w ≤ (2 : Int32) from nI_le (b := 2) k2 (by omega))]
      rcases (show v = 0 ∨ v = 1 by omega) with rfl | rfl
      · rcases h1 with ⟨a, b⟩ | ⟨a, b, c, d, e⟩
        · rw [a]
          simp (disch := omega) only [il0, il1, il2, il3, il4, il5, il6, il7, il8, il9, il10, il15, il32, il40, il60, il64, il100, il200, il250, il255, il500, il510, il1010, il1260, il1261, il1265, il1924, il2000, il2520, il4095, il4096, il5040, il65535, il1000000, pk_mul, nI_clamp, oobn, ↓reduceIte, ieq_t] at b ⊢
          rw [b, if_pos rfl]
        · rw [a]
          rcases (show w = 0 ∨ w = 1 ∨ w = 2 by omega) with rfl | rfl | rfl
          all_goals
            simp (disch := omega) only [il0, il1, il2, il3, il4, il5, il6, il7, il8, il9, il10, il15, il32, il40, il60, il64, il100, il200, il250, il255, il500, il510, il1010, il1260, il1261, il1265, il1924, il2000, il2520, il4095, il4096, il5040, il65535, il1000000, pk_mul, nI_add, nI_clamp, oobn, ↓reduceIte, ieq_t, ieq_f, Nat.zero_add, Nat.mul_zero] at b c d e ⊢
            rw [if_neg e]
            simp only [b, c, d]
      · rcases h2 with ⟨a, b⟩ | ⟨a, b, c, d, e⟩
        · rw [a]
          simp (disch := omega) only [il0, il1, il2, il3, il4, il5, il6, il7, il8, il9, il10, il15, il32, il40, il60, il64, il100, il200, il250, il255, il500, il510, il1010, il1260, il1261, il1265, il1924, il2000, il2520, il4095, il4096, il5040, il65535, il1000000, pk_mul, nI_clamp, oobn, ↓reduceIte, ieq_t, ieq_f, Nat.mul_one] at b ⊢
          rw [b, if_pos rfl]
        · rw [a]
          rcases (show w = 0 ∨ w = 1 ∨ w = 2 by omega) with rfl | rfl | rfl
          all_goals
            simp (disch := omega) only [il0, il1, il2, il3, il4, il5, il6, il7, il8, il9, il10, il15, il32, il40, il60, il64, il100, il200, il250, il255, il500, il510, il1010, il1260, il1261, il1265, il1924, il2000, il2520, il4095, il4096, il5040, il65535, il1000000, pk_mul, nI_add, nI_clamp, oobn, ↓reduceIte, ieq_t, ieq_f, Nat.mul_one, Nat.add_zero, Nat.reduceAdd] at b c d e ⊢
            rw [if_neg e]
            simp only [b, c, d]
    · rw [show f_X9_in x2.toInt64 (0 : Int64) (2 : Int64) = 0 from k3, if_pos rfl]
      rcases k1 with k1 | k1
      · rw [if_pos (show x2 < 0 from k1)]
      · by_cases q : x2 < 0
        · rw [if_pos q]
        · rw [if_neg q, if_neg (show ¬ x2 ≤ (2 : Int32) from Int32.not_le.mpr k1)]
  · rw [show f_X9_in x1.toInt64 (0 : Int64) (1 : Int64) = 0 from g3, if_pos rfl]
    rcases g1 with g1 | g1
    · rw [if_pos (show x1 < 0 from g1)]
    · by_cases q : x1 < 0
      · rw [if_pos q]
      · rw [if_neg q, if_pos (show (1 : Int32) < x1 from g1)]
