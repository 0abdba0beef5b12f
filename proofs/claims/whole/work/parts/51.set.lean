section SET
variable {B : Nat} {sv : Nat → Int32} {st he ta cl dr : Int32} {cn nx og li mm : Nat → Int32}
theorem sim_renew (hB : 1 ≤ B) (H : KX B 0 sv st he ta cl dr cn nx og li mm) : ∃ r st' he' ta' cl' dr' cn' nx' og' li', f_X8_renew sv cn nx og li = some (r, st', he', ta', cl', dr', cn', nx', og', li') ∧ ∃ mm', f_X9_renew mm = some (r, mm') ∧ KX B 0 sv st' he' ta' cl' dr' cn' nx' og' li' mm' ∧ ∀ j, 1260 ≤ j → mm' j = mm j := by
  obtain ⟨a, b, c, d, e, S, h, h1, h2, h3⟩ := id H
  obtain ⟨cn', nx', og', li', mm', e1, e2, e3, e4, e5⟩ := begin_sim (A := 0) (cn := cn) (nx := nx) (og := og) (li := li) h1 (by omega) h3.2.2.2.2.2.2.1
  refine ⟨nI (S0 a), nI (S0 a), 0, 0, 0, 0, cn', nx', og', li', ?_, mm', ?_, ⟨a, b, c, d, e, S0 a, 0, h1, e3 B hB, e4⟩, fun j hj => e5 j (by omega)⟩
  · unfold f_X8_renew
    rw [e1, bi9_s]
  · unfold f_X9_renew
    rw [show f_X9_renews mm 0 = some mm' from e2, bi1_s, if_neg (show ¬ ((0 : Int32) < 0 ∨ 5040 ≤ (0 : Int32).toNatClampNeg) by decide), show (0 : Int32).toNatClampNeg = 0 from rfl, show mm' 0 = nI (S0 a) from e4.2.1]
/-- told anew within its bounds -/
theorem set_in (hB : 1 ≤ B) (H : KX B 0 sv st he ta cl dr cn nx og li mm) {w v : Nat} (hw : w < 5) (hv : ∃ a b c d e, SV (upd sv w (nI v)) a b c d e) : ∃ r sv' st' he' ta' cl' dr' cn' nx' og' li', (if f_X5_get sv (nI w) = nI v then some ((-2 : Int32), sv, st, he, ta, cl, dr, cn, nx, og, li) else bi9 (f_X2_begin cn nx og li (f_X5_tell sv (nI w) (nI v))) (fun s1 h1 t1 c1 d1 c2 n2 o2 l2 => some (f_X5_get sv (nI w), f_X5_tell sv (nI w) (nI v), s1, h1, t1, c1, d1, c2, n2, o2, l2))) = some (r, sv', st', he', ta', cl', dr', cn', nx', og', li') ∧ ∃ mm', (if mm (5 + w) = nI v then some ((-2 : Int32), mm) else bi1 (f_X9_renews (upd mm (5 + w) (nI v)) 0) (fun t => some (mm (5 + w), t))) = some (r, mm') ∧ KX B 0 sv' st' he' ta' cl' dr' cn' nx' og' li' mm' ∧ ∀ j, 1260 ≤ j → mm' j = mm j := by
  obtain ⟨a, b, c, d, e, S, h, h1, h2, h3⟩ := id H
  have m5 := h3.2.2.2.2.2.2.1
  have em : mm (5 + w) = sv w := by rw [show 5 + w = 0 + 5 + w by omega, m5 w hw]
  rw [get5 hw, em]
  by_cases q : sv w = nI v
  · rw [if_pos q, if_pos q]
    exact ⟨_, sv, st, he, ta, cl, dr, cn, nx, og, li, rfl, mm, rfl, H, fun j _ => rfl⟩
  · rw [if_neg q, if_neg q]
    have et : f_X5_tell sv (nI w) (nI v) = upd sv w (nI v) := by unfold f_X5_tell; exact put_nI hw (by omega)
    rw [et]
    obtain ⟨a', b', c', d', e', hs'⟩ := hv
    obtain ⟨cn', nx', og', li', mm', e1, e2, e3, e4, e5⟩ := begin_sim (A := 0) (mm := upd mm (5 + w) (nI v)) (cn := cn) (nx := nx) (og := og) (li := li) hs' (by omega) (fun k hk => by
      by_cases q2 : k = w
      · subst q2
        rw [upd_e (by omega), upd_e rfl]
      · rw [upd_n (by omega), upd_n q2, m5 k hk])
    rw [e1, bi9_s, il0, e2, bi1_s]
    exact ⟨_, _, _, _, _, _, _, _, _, _, _, rfl, mm', rfl, ⟨a', b', c', d', e', S0 a', 0, hs', e3 B hB, e4⟩, fun j hj => by rw [e5 j (by omega), upd_n (by omega)]⟩
theorem allow_in {w v lo hi : Nat} (hw : w < 5) (h1 : leastS w = nI lo) (h2 : greatS w = nI hi) (h3 : lo ≤ v) (h4 : v ≤ hi) (h5 : hi < 2 ^ 31) : f_X5_allows (nI w) (nI v) = 1 := by
  unfold f_X5_allows
  rw [if_neg (nI_pos (by omega)), if_neg (show ¬ (5 : Int32) ≤ nI w from nI_ge (b := 5) hw (by omega)), nI_clamp (by omega), h1, h2, if_neg (nI_nlt h3 (by omega)), if_neg (nI_nlt h4 (by omega))]
theorem allow_out {w lo hi : Nat} {x2 : Int32} (hw : w < 5) (h1 : leastS w = nI lo) (h2 : greatS w = nI hi) (h : x2 < nI lo ∨ nI hi < x2) : f_X5_allows (nI w) x2 = 0 := by
  unfold f_X5_allows
  rw [if_neg (nI_pos (by omega)), if_neg (show ¬ (5 : Int32) ≤ nI w from nI_ge (b := 5) hw (by omega)), nI_clamp (by omega), h1, h2]
  by_cases q : x2 < nI lo
  · rw [if_pos q]
  · rw [if_neg q, if_pos (h.resolve_left q)]
theorem sim_set (hB : 1 ≤ B) (H : KX B 0 sv st he ta cl dr cn nx og li mm) (x1 x2 : Int32) : ∃ r sv' st' he' ta' cl' dr' cn' nx' og' li', f_X8_set sv st he ta cl dr cn nx og li x1 x2 = some (r, sv', st', he', ta', cl', dr', cn', nx', og', li') ∧ ∃ mm', f_X9_set mm x1 x2 = some (r, mm') ∧ KX B 0 sv' st' he' ta' cl' dr' cn' nx' og' li' mm' ∧ ∀ j, 1260 ≤ j → mm' j = mm j := by
  obtain ⟨a, b, c, d, e, S, h, h1, h2, h3⟩ := id H
  obtain ⟨s0, p0, s1, p1, p2, s2, p3, p4, s3, p5, p6, s4, p7⟩ := h1
  have bad : ∀ z : Option (Int32 × (Nat → Int32)), z = some (-1, mm) → f_X5_allows x1 x2 = 0 → ∃ r sv' st' he' ta' cl' dr' cn' nx' og' li', f_X8_set sv st he ta cl dr cn nx og li x1 x2 = some (r, sv', st', he', ta', cl', dr', cn', nx', og', li') ∧ ∃ mm', z = some (r, mm') ∧ KX B 0 sv' st' he' ta' cl' dr' cn' nx' og' li' mm' ∧ ∀ j, 1260 ≤ j → mm' j = mm j := by
    intro z hz q
    refine ⟨-1, sv, st, he, ta, cl, dr, cn, nx, og, li, ?_, mm, hz, H, fun j _ => rfl⟩
    unfold f_X8_set
    rw [q, if_pos rfl]
  have good : ∀ w v : Nat, w < 5 → x1 = nI w → x2 = nI v → f_X5_allows x1 x2 = 1 → (∃ a b c d e, SV (upd sv w (nI v)) a b c d e) → f_X9_set mm x1 x2 = (if mm (5 + w) = nI v then some ((-2 : Int32), mm) else bi1 (f_X9_renews (upd mm (5 + w) (nI v)) 0) (fun t => some (mm (5 + w), t))) → ∃ r sv' st' he' ta' cl' dr' cn' nx' og' li', f_X8_set sv st he ta cl dr cn nx og li x1 x2 = some (r, sv', st', he', ta', cl', dr', cn', nx', og', li') ∧ ∃ mm', f_X9_set mm x1 x2 = some (r, mm') ∧ KX B 0 sv' st' he' ta' cl' dr' cn' nx' og' li' mm' ∧ ∀ j, 1260 ≤ j → mm' j = mm j := by
    intro w v hw ew ev hal hSV hm
    obtain ⟨r, sv', st', he', ta', cl', dr', cn', nx', og', li', g1, mm', g2, g3⟩ := set_in hB H hw hSV
    refine ⟨r, sv', st', he', ta', cl', dr', cn', nx', og', li', ?_, mm', hm.trans g2, g3⟩
    rw [← g1]
    unfold f_X8_set
    rw [hal, if_neg (show ¬ (1 : Int32) = 0 by decide), ew, ev]
  rcases rng x1 0 4 (by omega) (by omega) with ⟨w, k1, k2, rfl, -⟩ | ⟨k1, -⟩
  · rcases (show w = 0 ∨ w = 1 ∨ w = 2 ∨ w = 3 ∨ w = 4 by omega) with rfl | rfl | rfl | rfl | rfl
    · rcases rng x2 0 2 (by omega) (by omega) with ⟨v, g1, g2, rfl, g3⟩ | ⟨g1, g3⟩
      · refine good 0 v (by omega) rfl rfl (allow_in (lo := 0) (hi := 2) (by omega) rfl rfl g1 g2 (by omega)) ⟨v, b, c, d, e, upd_e rfl, g2, by rw [upd_n (by omega), s1], p1, p2, by rw [upd_n (by omega), s2], p3, p4, by rw [upd_n (by omega), s3], p5, p6, by rw [upd_n (by omega), s4], p7⟩ ?_
        unfold f_X9_set
        rw [show f_X9_in (nI v).toInt64 (0 : Int64) (2 : Int64) = 1 from g3]
        simp (disch := omega) only [il0, il1, il2, il3, il4, il5, il6, il7, il8, il9, il10, il15, il32, il40, il60, il64, il100, il200, il250, il255, il500, il510, il1010, il1260, il1261, il1265, il1924, il2000, il2520, il4095, il4096, il5040, il65535, il1000000, ↓reduceIte, ieq_f, nI_add, nI_clamp, oobn]
      · refine bad _ ?_ (allow_out (by omega) rfl rfl g1)
        unfold f_X9_set
        rw [show f_X9_in x2.toInt64 (0 : Int64) (2 : Int64) = 0 from g3, if_pos (show nI 0 = (0 : Int32) from rfl), if_pos rfl]
    · rcases rng x2 1 200 (by omega) (by omega) with ⟨v, g1, g2, rfl, g3⟩ | ⟨g1, g3⟩
      · refine good 1 v (by omega) rfl rfl (allow_in (lo := 1) (hi := 200) (by omega) rfl rfl g1 g2 (by omega)) ⟨a, v, c, d, e, by rw [upd_n (by omega), s0], p0, upd_e rfl, g1, g2, by rw [upd_n (by omega), s2], p3, p4, by rw [upd_n (by omega), s3], p5, p6, by rw [upd_n (by omega), s4], p7⟩ ?_
        unfold f_X9_set
        rw [show f_X9_in (nI v).toInt64 (1 : Int64) (200 : Int64) = 1 from g3]
        simp (disch := omega) only [il0, il1, il2, il3, il4, il5, il6, il7, il8, il9, il10, il15, il32, il40, il60, il64, il100, il200, il250, il255, il500, il510, il1010, il1260, il1261, il1265, il1924, il2000, il2520, il4095, il4096, il5040, il65535, il1000000, ↓reduceIte, ieq_f, nI_add, nI_clamp, oobn]
      · refine bad _ ?_ (allow_out (by omega) rfl rfl g1)
        unfold f_X9_set
        rw [show f_X9_in x2.toInt64 (1 : Int64) (200 : Int64) = 0 from g3]
        simp (disch := omega) only [il0, il1, il2, il3, il4, il5, il6, il7, il8, il9, il10, il15, il32, il40, il60, il64, il100, il200, il250, il255, il500, il510, il1010, il1260, il1261, il1265, il1924, il2000, il2520, il4095, il4096, il5040, il65535, il1000000, ↓reduceIte, ieq_f]
    · rcases rng x2 1 200 (by omega) (by omega) with ⟨v, g1, g2, rfl, g3⟩ | ⟨g1, g3⟩
      · refine good 2 v (by omega) rfl rfl (allow_in (lo := 1) (hi := 200) (by omega) rfl rfl g1 g2 (by omega)) ⟨a, b, v, d, e, by rw [upd_n (by omega), s0], p0, by rw [upd_n (by omega), s1], p1, p2, upd_e rfl, g1, g2, by rw [upd_n (by omega), s3], p5, p6, by rw [upd_n (by omega), s4], p7⟩ ?_
        unfold f_X9_set
        rw [show f_X9_in (nI v).toInt64 (1 : Int64) (200 : Int64) = 1 from g3]
        simp (disch := omega) only [il0, il1, il2, il3, il4, il5, il6, il7, il8, il9, il10, il15, il32, il40, il60, il64, il100, il200, il250, il255, il500, il510, il1010, il1260, il1261, il1265, il1924, il2000, il2520, il4095, il4096, il5040, il65535, il1000000, ↓reduceIte, ieq_f, nI_add, nI_clamp, oobn]
      · refine bad _ ?_ (allow_out (by omega) rfl rfl g1)
        unfold f_X9_set
        rw [show f_X9_in x2.toInt64 (1 : Int64) (200 : Int64) = 0 from g3]
        simp (disch := omega) only [il0, il1, il2, il3, il4, il5, il6, il7, il8, il9, il10, il15, il32, il40, il60, il64, il100, il200, il250, il255, il500, il510, il1010, il1260, il1261, il1265, il1924, il2000, il2520, il4095, il4096, il5040, il65535, il1000000, ↓reduceIte, ieq_f]
    · rcases rng x2 40 250 (by omega) (by omega) with ⟨v, g1, g2, rfl, g3⟩ | ⟨g1, g3⟩
      · refine good 3 v (by omega) rfl rfl (allow_in (lo := 40) (hi := 250) (by omega) rfl rfl g1 g2 (by omega)) ⟨a, b, c, v, e, by rw [upd_n (by omega), s0], p0, by rw [upd_n (by omega), s1], p1, p2, by rw [upd_n (by omega), s2], p3, p4, upd_e rfl, g1, g2, by rw [upd_n (by omega), s4], p7⟩ ?_
        unfold f_X9_set
        rw [show f_X9_in (nI v).toInt64 (40 : Int64) (250 : Int64) = 1 from g3]
        simp (disch := omega) only [il0, il1, il2, il3, il4, il5, il6, il7, il8, il9, il10, il15, il32, il40, il60, il64, il100, il200, il250, il255, il500, il510, il1010, il1260, il1261, il1265, il1924, il2000, il2520, il4095, il4096, il5040, il65535, il1000000, ↓reduceIte, ieq_f, nI_add, nI_clamp, oobn]
      · refine bad _ ?_ (allow_out (by omega) rfl rfl g1)
        unfold f_X9_set
        rw [show f_X9_in x2.toInt64 (40 : Int64) (250 : Int64) = 0 from g3]
        simp (disch := omega) only [il0, il1, il2, il3, il4, il5, il6, il7, il8, il9, il10, il15, il32, il40, il60, il64, il100, il200, il250, il255, il500, il510, il1010, il1260, il1261, il1265, il1924, il2000, il2520, il4095, il4096, il5040, il65535, il1000000, ↓reduceIte, ieq_f]
    · rcases rng x2 0 1 (by omega) (by omega) with ⟨v, g1, g2, rfl, g3⟩ | ⟨g1, g3⟩
      · refine good 4 v (by omega) rfl rfl (allow_in (lo := 0) (hi := 1) (by omega) rfl rfl g1 g2 (by omega)) ⟨a, b, c, d, v, by rw [upd_n (by omega), s0], p0, by rw [upd_n (by omega), s1], p1, p2, by rw [upd_n (by omega), s2], p3, p4, by rw [upd_n (by omega), s3], p5, p6, upd_e rfl, g2⟩ ?_
        unfold f_X9_set
        rw [show f_X9_in (nI v).toInt64 (0 : Int64) (1 : Int64) = 1 from g3]
        simp (disch := omega) only [il0, il1, il2, il3, il4, il5, il6, il7, il8, il9, il10, il15, il32, il40, il60, il64, il100, il200, il250, il255, il500, il510, il1010, il1260, il1261, il1265, il1924, il2000, il2520, il4095, il4096, il5040, il65535, il1000000, ↓reduceIte, ieq_f, nI_add, nI_clamp, oobn]
      · refine bad _ ?_ (allow_out (by omega) rfl rfl g1)
        unfold f_X9_set
        rw [show f_X9_in x2.toInt64 (0 : Int64) (1 : Int64) = 0 from g3]
        simp (disch := omega) only [il0, il1, il2, il3, il4, il5, il6, il7, il8, il9, il10, il15, il32, il40, il60, il64, il100, il200, il250, il255, il500, il510, il1010, il1260, il1261, il1265, il1924, il2000, il2520, il4095, il4096, il5040, il65535, il1000000, ↓reduceIte, ieq_f]
  · have hw : ∀ k, k ≤ 4 → ¬ x1 = nI k := by
      intro k hk q
      subst q
      rcases k1 with k1 | k1
      · exact nI_nlt (by omega) (by omega) k1
      · exact nI_nlt hk (by omega) k1
    refine bad _ ?_ ?_
    · unfold f_X9_set
      rw [if_neg (show ¬ x1 = 0 from hw 0 (by omega)), if_neg (show ¬ x1 = 1 from hw 1 (by omega)), if_neg (show ¬ x1 = 2 from hw 2 (by omega)), if_neg (show ¬ x1 = 3 from hw 3 (by omega)), if_neg (show ¬ x1 = 4 from hw 4 (by omega)), if_pos (show (0 : Int32) = 0 from rfl)]
    · unfold f_X5_allows
      by_cases q : x1 < 0
      · rw [if_pos q]
      · rw [if_neg q, if_pos]
        rcases plc x1 (n := 5) (by omega) with z | ⟨-, z⟩ | ⟨j, hj, rfl⟩
        · exact absurd z q
        · exact z
        · exact absurd rfl (hw j (by omega))
end SET
/-! copies -/
theorem copy_c {n n2 L : Nat} {f f2 : Nat → Int32} (h1 : L ≤ n) (h2 : L ≤ n2) (hn : n < 4000) (hn2 : n2 < 4000) : ∃ f', f_X4_copyFrom n n2 f f2 (nI L) = some f' ∧ ∀ i, i < L → f' i = f2 i := by
  obtain ⟨r, hr, hE⟩ := lp_for (st := fun z => st_X4_copyFrom_L2 (nI L) f2 n n2 z.1 z.2)
    (I := fun i z => z.1 = nI i ∧ ∀ k, k < i → z.2 k = f2 k) (E := fun z => ∀ k, k < L → z.2 k = f2 k) L
    (by
      rintro i ⟨v, g⟩ hi ⟨y1, y2⟩
      dsimp only at y1 y2
      subst y1
      refine ⟨(nI (i + 1), upd g i (f2 i)), ?_, rfl, fun k hk => ?_⟩
      · show st_X4_copyFrom_L2 (nI L) f2 n n2 (nI i) g = _
        unfold st_X4_copyFrom_L2
        rw [if_neg (nI_ge hi (by omega)), get_nI (by omega) (by omega), put_nI (by omega) (by omega), nI_1]
      · dsimp only
        by_cases q : k = i
        · subst q
          exact upd_e rfl
        · rw [upd_n q]
          exact y2 k (by omega))
    (by
      rintro ⟨v, g⟩ ⟨y1, y2⟩
      dsimp only at y1 y2
      subst y1
      refine ⟨(nI L, g), ?_, y2⟩
      show st_X4_copyFrom_L2 (nI L) f2 n n2 (nI L) g = _
      unfold st_X4_copyFrom_L2
      rw [if_pos (nI_le (Nat.le_refl _) (by omega))])
    4096 0 (0, f) (by omega) (by omega) ⟨rfl, fun k hk => by omega⟩
  obtain ⟨v, g⟩ := r
  refine ⟨g, ?_, hE⟩
  unfold f_X4_copyFrom f_X4_copyFrom_L2
  rw [hr, bi2_s]
theorem kcopy {B A : Nat} {sv : Nat → Int32} {st he ta cl dr : Int32} {cn nx og li mm : Nat → Int32} (H : KX B A sv st he ta cl dr cn nx og li mm) (dsv dcn dnx dog dli : Nat → Int32) : ∃ sv' cn' nx' og' li', f_X5_copyFrom dsv sv = some sv' ∧ f_X2_copyFrom dcn dnx dog dli st he ta cl dr cn nx og li = some (st, he, ta, cl, dr, cn', nx', og', li') ∧ ∀ A' mm', A' + 1260 ≤ 5040 → (∀ j, j < 1260 → mm' (A' + j) = mm (A + j)) → KX B A' sv' st he ta cl dr cn' nx' og' li' mm' := by
  obtain ⟨a, b, c, d, e, S, h, h1, h2, h3⟩ := H
  have hS := h2.S_le
  have es := h2.1
  obtain ⟨sv', q1, r1⟩ := copy_c (n := 5) (n2 := 5) (L := 5) (f := dsv) (f2 := sv) (by omega) (by omega) (by omega) (by omega)
  obtain ⟨cn', q2, r2⟩ := copy_c (n := 500) (n2 := 500) (L := 2 * S) (f := dcn) (f2 := cn) (by omega) (by omega) (by omega) (by omega)
  obtain ⟨nx', q3, r3⟩ := copy_c (n := 500) (n2 := 500) (L := 2 * S) (f := dnx) (f2 := nx) (by omega) (by omega) (by omega) (by omega)
  obtain ⟨og', q4, r4⟩ := copy_c (n := 250) (n2 := 250) (L := S) (f := dog) (f2 := og) (by omega) (by omega) (by omega) (by omega)
  obtain ⟨li', q5, r5⟩ := copy_c (n := 250) (n2 := 250) (L := S) (f := dli) (f2 := li) (by omega) (by omega) (by omega) (by omega)
  refine ⟨sv', cn', nx', og', li', ?_, ?_, ?_⟩
  · unfold f_X5_copyFrom
    rw [il5, q1, bi1_s]
  · unfold f_X2_copyFrom
    rw [es, il2, pk_mul, q2, bi1_s, q3, bi1_s, q4, bi1_s, q5, bi1_s]
  · intro A' mm' hA' hk
    obtain ⟨s0, p0, s1, p1, p2, s2, p3, p4, s3, p5, p6, s4, p7⟩ := h1
    obtain ⟨-, k0, k1, ⟨d', k2, k3, k4⟩, k5, k6, k7⟩ := h2
    obtain ⟨hA, m0, m1, m2, m3, m4, m5, m6, m7⟩ := h3
    refine ⟨a, b, c, d, e, S, h, ⟨by rw [r1 0 (by omega), s0], p0, by rw [r1 1 (by omega), s1], p1, p2, by rw [r1 2 (by omega), s2], p3, p4, by rw [r1 3 (by omega), s3], p5, p6, by rw [r1 4 (by omega), s4], p7⟩, ⟨es, k0, k1, ⟨d', by rw [r1 3 (by omega), k2], k3, k4⟩, fun i hi => by rw [r2 i hi]; exact k5 i hi, fun i hi => by rw [r3 i hi]; exact k6 i hi, fun k hkk => ?_⟩, ⟨hA', ?_, ?_, ?_, ?_, ?_, fun k hkk => ?_, fun i hi => ⟨?_, ?_⟩, fun k hkk => ?_⟩⟩
    · rw [r4 k hkk, r5 k hkk]
      rcases k7 k hkk with z | ⟨j, z1, z2, z3⟩
      · exact Or.inl z
      · exact Or.inr ⟨j, z1, z2, by rw [r5 j (by omega)]; exact z3⟩
    · have := hk 0 (by omega)
      rw [Nat.add_zero, Nat.add_zero] at this
      rw [this, m0]
    · rw [hk 1 (by omega), m1]
    · rw [hk 2 (by omega), m2]
    · rw [hk 3 (by omega), m3]
    · rw [hk 4 (by omega), m4]
    · rw [show A' + 5 + k = A' + (5 + k) by omega, hk _ (by omega), ← Nat.add_assoc, m5 k hkk, r1 k hkk]
    · rw [show A' + 10 + i = A' + (10 + i) by omega, hk _ (by omega), ← Nat.add_assoc, (m6 i hi).1, r2 i hi]
    · rw [show A' + 510 + i = A' + (510 + i) by omega, hk _ (by omega), ← Nat.add_assoc, (m6 i hi).2, r3 i hi]
    · rw [show A' + 1010 + k = A' + (1010 + k) by omega, hk _ (by omega), ← Nat.add_assoc, m7 k hkk, r4 k hkk]
theorem keep_m {K : Nat} {mm : Nat → Int32} (hK : K < 2) : ∃ v mm', f_X9_keep_L13 (nI K) 4096 0 mm = some (v, mm') ∧ (∀ j, j < 1260 → mm' (2520 + 1260 * K + j) = mm j) ∧ ∀ j, (j < 2520 + 1260 * K ∨ 2520 + 1260 * K + 1260 ≤ j) → mm' j = mm j := by
  obtain ⟨r, hr, hE⟩ := lp_for (st := fun z => st_X9_keep_L13 (nI K) z.1 z.2)
    (I := fun i z => z.1 = nI i ∧ (∀ j, j < i → z.2 (2520 + 1260 * K + j) = mm j) ∧ ∀ j, (j < 2520 + 1260 * K ∨ 2520 + 1260 * K + i ≤ j) → z.2 j = mm j) (E := fun z => (∀ j, j < 1260 → z.2 (2520 + 1260 * K + j) = mm j) ∧ ∀ j, (j < 2520 + 1260 * K ∨ 2520 + 1260 * K + 1260 ≤ j) → z.2 j = mm j) 1260
    (by
      rintro i ⟨v, g⟩ hi ⟨y1, y2, y3⟩
      dsimp only at y1 y2 y3
      subst y1
      refine ⟨(nI (i + 1), upd g (2520 + 1260 * K + i) (mm i)), ?_, rfl, fun j hj => ?_, fun j hj => ?_⟩
      · show st_X9_keep_L13 (nI K) (nI i) g = _
        unfold st_X9_keep_L13
        simp (disch := omega) only [il0, il1, il1260, il2520, nI_add, pk_mul, nI_clamp, oobn, ile_f, y3 i (by omega)]
      · dsimp only
        by_cases q : j = i
        · subst q
          exact upd_e rfl
        · rw [upd_n (by omega)]
          exact y2 j (by omega)
      · dsimp only
        rw [upd_n (by omega)]
        exact y3 j (by omega))
    (by
      rintro ⟨v, g⟩ ⟨y1, y2, y3⟩
      dsimp only at y1 y2 y3
      subst y1
      refine ⟨(nI 1260, g), ?_, y2, y3⟩
      show st_X9_keep_L13 (nI K) (nI 1260) g = _
      unfold st_X9_keep_L13
      rw [if_pos (show (1260 : Int32) ≤ nI 1260 by decide +kernel)])
    4096 0 (0, mm) (by omega) (by omega) ⟨rfl, fun j hj => by omega, fun j _ => rfl⟩
  obtain ⟨v, g⟩ := r
  exact ⟨v, g, hr, hE⟩
theorem back_m {K : Nat} {mm : Nat → Int32} (hK : K < 2) : ∃ v mm', f_X9_back_L22 (nI K) 4096 0 mm = some (v, mm') ∧ (∀ j, j < 1260 → mm' j = mm (2520 + 1260 * K + j)) ∧ ∀ j, 1260 ≤ j → mm' j = mm j := by
  obtain ⟨r, hr, hE⟩ := lp_for (st := fun z => st_X9_back_L22 (nI K) z.1 z.2)
    (I := fun i z => z.1 = nI i ∧ (∀ j, j < i → z.2 j = mm (2520 + 1260 * K + j)) ∧ ∀ j, i ≤ j → z.2 j = mm j) (E := fun z => (∀ j, j < 1260 → z.2 j = mm (2520 + 1260 * K + j)) ∧ ∀ j, 1260 ≤ j → z.2 j = mm j) 1260
    (by
      rintro i ⟨v, g⟩ hi ⟨y1, y2, y3⟩
      dsimp only at y1 y2 y3
      subst y1
      refine ⟨(nI (i + 1), upd g i (mm (2520 + 1260 * K + i))), ?_, rfl, fun j hj => ?_, fun j hj => ?_⟩
      · show st_X9_back_L22 (nI K) (nI i) g = _
        unfold st_X9_back_L22
        simp (disch := omega) only [il0, il1, il1260, il2520, nI_add, pk_mul, nI_clamp, oobn, ile_f, y3 (2520 + 1260 * K + i) (by omega)]
      · dsimp only
        by_cases q : j = i
        · subst q
          exact upd_e rfl
        · rw [upd_n (by omega)]
          exact y2 j (by omega)
      · dsimp only
        rw [upd_n (by omega)]
        exact y3 j (by omega))
    (by
      rintro ⟨v, g⟩ ⟨y1, y2, y3⟩
      dsimp only at y1 y2 y3
      subst y1
      refine ⟨(nI 1260, g), ?_, y2, y3⟩
      show st_X9_back_L22 (nI K) (nI 1260) g = _
      unfold st_X9_back_L22
      rw [if_pos (show (1260 : Int32) ≤ nI 1260 by decide +kernel)])
    4096 0 (0, mm) (by omega) (by omega) ⟨rfl, fun j hj => by omega, fun j _ => rfl⟩
  obtain ⟨v, g⟩ := r
  exact ⟨v, g, hr, hE⟩
/-- what is kept -/
def KP (B : Nat) (kn kept : Int32) (a_sv : Nat → Int32) (a_st a_he a_ta a_cl a_dr : Int32) (a_cn a_nx a_og a_li b_sv : Nat → Int32) (b_st b_he b_ta b_cl b_dr : Int32) (b_cn b_nx b_og b_li mm : Nat → Int32) : Prop := ∃ K, K ≤ 2 ∧ kn = nI K ∧ kept = nI K ∧ (1 ≤ K → KX B 2520 a_sv a_st a_he a_ta a_cl a_dr a_cn a_nx a_og a_li mm) ∧ (2 ≤ K → KX B 3780 b_sv b_st b_he b_ta b_cl b_dr b_cn b_nx b_og b_li mm)
theorem KP.keep {B B2 : Nat} {kn kept : Int32} {a_sv : Nat → Int32} {a_st a_he a_ta a_cl a_dr : Int32} {a_cn a_nx a_og a_li b_sv : Nat → Int32} {b_st b_he b_ta b_cl b_dr : Int32} {b_cn b_nx b_og b_li mm m2 : Nat → Int32} (h : KP B kn kept a_sv a_st a_he a_ta a_cl a_dr a_cn a_nx a_og a_li b_sv b_st b_he b_ta b_cl b_dr b_cn b_nx b_og b_li mm) (hB : B ≤ B2) (hk : ∀ j, 2520 ≤ j → m2 j = mm j) : KP B2 kn kept a_sv a_st a_he a_ta a_cl a_dr a_cn a_nx a_og a_li b_sv b_st b_he b_ta b_cl b_dr b_cn b_nx b_og b_li m2 := by
  obtain ⟨K, h1, h2, h3, h4, h5⟩ := h
  exact ⟨K, h1, h2, h3, fun q => ((h4 q).mono hB).keep (fun j g _ => hk j (by omega)), fun q => ((h5 q).mono hB).keep (fun j g _ => hk j (by omega))⟩
section KEEP
variable {B : Nat} {kn kept : Int32} {sv : Nat → Int32} {st he ta cl dr : Int32} {cn nx og li mm : Nat → Int32} {a_sv : Nat → Int32} {a_st a_he a_ta a_cl a_dr : Int32} {a_cn a_nx a_og a_li b_sv : Nat → Int32} {b_st b_he b_ta b_cl b_dr : Int32} {b_cn b_nx b_og b_li : Nat → Int32}
theorem sim_keep (H : KX B 0 sv st he ta cl dr cn nx og li mm) (P : KP B kn kept a_sv a_st a_he a_ta a_cl a_dr a_cn a_nx a_og a_li b_sv b_st b_he b_ta b_cl b_dr b_cn b_nx b_og b_li mm) : ∃ r kn' a_sv' a_st' a_he' a_ta' a_cl' a_dr' a_cn' a_nx' a_og' a_li' b_sv' b_st' b_he' b_ta' b_cl' b_dr' b_cn' b_nx' b_og' b_li', f_X8_keep kn sv st he ta cl dr cn nx og li a_sv a_st a_he a_ta a_cl a_dr a_cn a_nx a_og a_li b_sv b_st b_he b_ta b_cl b_dr b_cn b_nx b_og b_li = some (r, kn', a_sv', a_st', a_he', a_ta', a_cl', a_dr', a_cn', a_nx', a_og', a_li', b_sv', b_st', b_he', b_ta', b_cl', b_dr', b_cn', b_nx', b_og', b_li') ∧ ∃ kept' mm', f_X9_keep kept mm = some (r, kept', mm') ∧ KX B 0 sv st he ta cl dr cn nx og li mm' ∧ KP B kn' kept' a_sv' a_st' a_he' a_ta' a_cl' a_dr' a_cn' a_nx' a_og' a_li' b_sv' b_st' b_he' b_ta' b_cl' b_dr' b_cn' b_nx' b_og' b_li' mm' := by
  obtain ⟨K, h1, e1, e2, h4, h5⟩ := id P
  unfold f_X8_keep f_X9_keep
  by_cases q2 : K = 2
  · subst q2
    rw [e1, e2, if_neg (show ¬ nI 2 < (2 : Int32) by decide +kernel), if_pos (show nI 2 = (2 : Int32) from rfl)]
    exact ⟨_, _, _, _, _, _, _, _, _, _, _, _, _, _, _, _, _, _, _, _, _, _, rfl, _, mm, rfl, H, 2, by omega, rfl, rfl, h4, h5⟩
  · obtain ⟨v, mm', g1, g2, g3⟩ := keep_m (K := K) (mm := mm) (by omega)
    have hl : KX B 0 sv st he ta cl dr cn nx og li mm' := H.keep (fun j _ q => g3 j (by omega))
    rw [e1, e2, if_pos (show nI K < (2 : Int32) from nI_lt (b := 2) (by omega) (by omega)), if_neg (show ¬ nI K = (2 : Int32) from fun z => q2 ((nI_eq (by omega) (by omega)).mp z)), g1, bi2_s]
    by_cases q0 : K = 0
    · subst q0
      obtain ⟨sv', cn', nx', og', li', c1, c2, c3⟩ := kcopy H a_sv a_cn a_nx a_og a_li
      rw [if_pos (show nI 0 = (0 : Int32) from rfl), c1, bi1_s, c2, bi9_s]
      exact ⟨_, _, _, _, _, _, _, _, _, _, _, _, _, _, _, _, _, _, _, _, _, _, rfl, _, mm', rfl, hl, 1, by omega, rfl, rfl, fun _ => c3 2520 mm' (by omega) (fun j hj => by rw [Nat.zero_add]; exact g2 j hj), fun z => by omega⟩
    · have hK : K = 1 := by omega
      subst hK
      obtain ⟨sv', cn', nx', og', li', c1, c2, c3⟩ := kcopy H b_sv b_cn b_nx b_og b_li
      rw [if_neg (show ¬ nI 1 = (0 : Int32) by decide +kernel), c1, bi1_s, c2, bi9_s]
      exact ⟨_, _, _, _, _, _, _, _, _, _, _, _, _, _, _, _, _, _, _, _, _, _, rfl, _, mm', rfl, hl, 2, by omega, by decide +kernel, by decide +kernel, fun _ => (h4 (by omega)).keep (fun j q w => g3 j (by omega)), fun z => c3 3780 mm' (by omega) (fun j hj => by rw [Nat.zero_add]; exact g2 j hj)⟩
theorem sim_back (H : KX B 0 sv st he ta cl dr cn nx og li mm) (P : KP B kn kept a_sv a_st a_he a_ta a_cl a_dr a_cn a_nx a_og a_li b_sv b_st b_he b_ta b_cl b_dr b_cn b_nx b_og b_li mm) : ∃ r kn' sv' st' he' ta' cl' dr' cn' nx' og' li', f_X8_back kn sv st he ta cl dr cn nx og li a_sv a_st a_he a_ta a_cl a_dr a_cn a_nx a_og a_li b_sv b_st b_he b_ta b_cl b_dr b_cn b_nx b_og b_li = some (r, kn', sv', st', he', ta', cl', dr', cn', nx', og', li') ∧ ∃ kept' mm', f_X9_back kept mm = some (r, kept', mm') ∧ KX B 0 sv' st' he' ta' cl' dr' cn' nx' og' li' mm' ∧ KP B kn' kept' a_sv a_st a_he a_ta a_cl a_dr a_cn a_nx a_og a_li b_sv b_st b_he b_ta b_cl b_dr b_cn b_nx b_og b_li mm' := by
  obtain ⟨K, h1, e1, e2, h4, h5⟩ := id P
  unfold f_X8_back f_X9_back
  rcases (show K = 0 ∨ K = 1 ∨ K = 2 by omega) with rfl | rfl | rfl
  · rw [e1, e2, if_neg (show ¬ (0 : Int32) < nI 0 by decide +kernel), if_pos (show nI 0 = (0 : Int32) from rfl)]
    exact ⟨_, _, _, _, _, _, _, _, _, _, _, _, rfl, _, mm, rfl, H, 0, by omega, rfl, rfl, fun q => by omega, fun q => by omega⟩
  · obtain ⟨v, mm', g1, g2, g3⟩ := back_m (K := 0) (mm := mm) (by omega)
    rw [e1, e2, if_pos (show (0 : Int32) < nI 1 by decide +kernel), if_neg (show ¬ nI 1 = (0 : Int32) by decide +kernel), show nI 1 - 1 = nI 0 by decide +kernel, if_pos (show nI 0 = (0 : Int32) from rfl), g1, bi2_s]
    obtain ⟨sv', cn', nx', og', li', c1, c2, c3⟩ := kcopy (h4 (by omega)) sv cn nx og li
    rw [c1, bi1_s, c2, bi9_s]
    exact ⟨_, _, _, _, _, _, _, _, _, _, _, _, rfl, _, mm', rfl, c3 0 mm' (by omega) (fun j hj => by rw [Nat.zero_add]; exact g2 j hj), 0, by omega, rfl, rfl, fun q => by omega, fun q => by omega⟩
  · obtain ⟨v, mm', g1, g2, g3⟩ := back_m (K := 1) (mm := mm) (by omega)
    rw [e1, e2, if_pos (show (0 : Int32) < nI 2 by decide +kernel), if_neg (show ¬ nI 2 = (0 : Int32) by decide +kernel), show nI 2 - 1 = nI 1 by decide +kernel, if_neg (show ¬ nI 1 = (0 : Int32) by decide +kernel), g1, bi2_s]
    obtain ⟨sv', cn', nx', og', li', c1, c2, c3⟩ := kcopy (h5 (by omega)) sv cn nx og li
    rw [c1, bi1_s, c2, bi9_s]
    exact ⟨_, _, _, _, _, _, _, _, _, _, _, _, rfl, _, mm', rfl, c3 0 mm' (by omega) (fun j hj => by rw [Nat.zero_add]; exact g2 j hj), 1, by omega, rfl, rfl, fun _ => (h4 (by omega)).keep (fun j z _ => g3 j (by omega)), fun q => by omega⟩
theorem sim_count {ir il im pr pl pm ur ul om : Int32} {ib inp pb pk ub out : Nat → Int32} (H : KX B 0 sv st he ta cl dr cn nx og li mm) (P : KP B kn kept a_sv a_st a_he a_ta a_cl a_dr a_cn a_nx a_og a_li b_sv b_st b_he b_ta b_cl b_dr b_cn b_nx b_og b_li mm) (h1 : RI ir il ib im inp) (h2 : RPk pr pl pb pm pk) (h3 : RU ur ul ub om out) (x1 : Int32) : f_X9_count kept im pm om mm x1 = some (f_X8_count kn sv il pl ul x1) := by
  obtain ⟨-, I, -, e1, e2, -⟩ := h1
  obtain ⟨-, J, -, e3, e4, -⟩ := h2
  obtain ⟨-, L, -, e5, e6, -⟩ := h3
  obtain ⟨K, -, e7, e8, -⟩ := P
  obtain ⟨a, b, c, d, e, S, h, -, -, hM⟩ := H
  have m5 : ∀ k, k < 5 → mm (5 + k) = sv k := fun k hk => by rw [show 5 + k = 0 + 5 + k by omega, hM.2.2.2.2.2.2.1 k hk]
  unfold f_X9_count f_X8_count f_X0_length
  subst e1 e2 e3 e4 e5 e6 e7 e8
  have key : ∀ k, k < 5 → x1 = nI k → (if 5 + x1 < 0 ∨ 5040 ≤ (5 + x1).toNatClampNeg then none else some (mm (5 + x1).toNatClampNeg)) = some (f_X5_get sv x1) := by
    intro k hk q
    subst q
    rw [il5, nI_add, oobi _ (by omega) (by omega), nI_clamp (by omega), m5 k hk, get5 hk]
  by_cases q0 : x1 = 0
  · rw [if_pos q0, if_pos q0, key 0 (by omega) q0]
  rw [if_neg q0, if_neg q0]
  by_cases q1 : x1 = 1
  · rw [if_pos q1, if_pos q1, key 1 (by omega) q1]
  rw [if_neg q1, if_neg q1]
  by_cases q2 : x1 = 2
  · rw [if_pos q2, if_pos q2, key 2 (by omega) q2]
  rw [if_neg q2, if_neg q2]
  by_cases q3 : x1 = 3
  · rw [if_pos q3, if_pos q3, key 3 (by omega) q3]
  rw [if_neg q3, if_neg q3]
  by_cases q4 : x1 = 4
  · rw [if_pos q4, if_pos q4, key 4 (by omega) q4]
  rw [if_neg q4, if_neg q4]
  by_cases q5 : x1 = 5
  · rw [if_pos q5, if_pos q5]
  rw [if_neg q5, if_neg q5]
  by_cases q6 : x1 = 6
  · rw [if_pos q6, if_pos q6]
  rw [if_neg q6, if_neg q6]
  by_cases q7 : x1 = 7
  · rw [if_pos q7, if_pos q7]
  rw [if_neg q7, if_neg q7]
  by_cases q8 : x1 = 8
  · rw [if_pos q8, if_pos q8]
  rw [if_neg q8, if_neg q8]
end KEEP
