/-- the machine at work: the class's, and the reference's from 1260 on; what lies elsewhere stays -/
def WK (B : Nat) (sv : Nat → Int32) (st he ta cl dr : Int32) (cn nx og li mm m0 : Nat → Int32) : Prop := KX B 1260 sv st he ta cl dr cn nx og li mm ∧ ∀ j, (j < 1260 ∨ 2520 ≤ j) → mm j = m0 j
section BITS
variable {B : Nat} {sv : Nat → Int32} {st he ta cl dr : Int32} {cn nx og li mm m0 : Nat → Int32}
theorem WK.chance (hB : B ≤ 90000) (H : WK B sv st he ta cl dr cn nx og li mm m0) : ∃ p h, 1 ≤ p ∧ p ≤ 4095 ∧ he = nI h ∧ f_X2_chance cn he = nI p ∧ mm 1261 = nI h ∧ f_X9_chance mm (nI 1260) (nI h) = some (nI p) := by
  obtain ⟨⟨a, b, c, d, e, S, h, h1, h2, h3⟩, -⟩ := H
  obtain ⟨c1, c2, c3, c4⟩ := chance_ok (by omega) h2 h3 h2.2.2.1
  exact ⟨_, h, c1, c2, h2.2.1, by rw [h2.2.1]; exact c3, by rw [← h2.2.1]; exact h3.2.2.1, c4⟩
theorem WK.feed (hB : B ≤ 90000) (H : WK B sv st he ta cl dr cn nx og li mm m0) {b : Nat} (hb : b < 2) : ∃ st' he' ta' cl' dr' cn' nx' og' li' mm', f_X2_feed st he ta cl dr cn nx og li sv (nI b) = some (st', he', ta', cl', dr', cn', nx', og', li') ∧ f_X9_takes mm 1260 (nI b) = some mm' ∧ WK (B + 1) sv st' he' ta' cl' dr' cn' nx' og' li' mm' m0 := by
  obtain ⟨⟨a, b', c, d, e, S, h, h1, h2, h3⟩, h4⟩ := H
  obtain ⟨S', h', st', he', ta', cl', dr', cn', nx', og', li', mm', e1, e2, e3, e4, e5⟩ := feed_sim h1 (by omega) h2 h3 hb
  exact ⟨st', he', ta', cl', dr', cn', nx', og', li', mm', e1, e2, ⟨a, b', c, d, e, S', h', h1, e3, e4⟩, fun j hj => by rw [← h4 j hj]; exact e5 j (by omega)⟩
theorem WK.order (H : WK B sv st he ta cl dr cn nx og li mm m0) (h9 : m0 9 = sv 4) : ∃ e, e ≤ 1 ∧ sv 4 = nI e ∧ mm 9 = nI e := by
  obtain ⟨⟨a, b, c, d, e, S, h, h1, h2, h3⟩, h4⟩ := H
  obtain ⟨-, -, -, -, -, -, -, -, -, -, -, he4, he1⟩ := h1
  exact ⟨e, he1, he4, by rw [h4 9 (by omega), h9, he4]⟩
theorem narrow_c {l u m b : Nat} (hb : b < 2) : f_X6_narrow (lN l) (lN u) (nI b) (lN m) = some (lN (if b = 1 then l else m + 1), lN (if b = 1 then m else u)) := by
  unfold f_X6_narrow
  by_cases q : b = 1
  · subst q
    rw [if_pos (show nI 1 = (1 : Int32) from rfl), if_pos rfl, if_pos rfl]
  · rw [if_neg (show ¬ nI b = (1 : Int32) from fun z => q ((nI_eq (by omega) (by omega)).mp z)), if_neg q, if_neg q, lN_1]
theorem narrows_m {l u p h b : Nat} {pm fr x2 : Int32} {cde : Int64} {pk : Nat → Int32} (hl : l ≤ u) (hu : u < 4294967296) (hp : p < 2 ^ 31) (hb : b < 2) (e1 : mm 1261 = nI h) (e2 : f_X9_chance mm (nI 1260) (nI h) = some (nI p)) : f_X9_narrows pm (lN l) (lN u) cde fr mm pk (nI b) x2 = bi6 (f_X9_narrows_L41 x2 4096 pm (lN (if b = 1 then l else md l u p + 1)) (lN (if b = 1 then md l u p else u)) cde fr pk) (fun a1 a2 a3 a4 a5 a6 => bi1 (f_X9_takes mm 1260 (nI b)) (fun m => some (a1, a2, a3, a4, a5, m, a6))) := by
  unfold f_X9_narrows
  rw [middle_m hl hu hp e1 e2, bi1_s]
  by_cases q : b = 1
  · subst q
    rw [if_pos (show nI 1 = (1 : Int32) from rfl), if_pos rfl, if_pos rfl]
  · rw [if_neg (show ¬ nI b = (1 : Int32) from fun z => q ((nI_eq (by omega) (by omega)).mp z)), if_neg q, if_neg q, lN_1]
theorem packBit_sim {l u P b : Nat} {bs pk : Nat → Int32} {cde : Int64} {fr : Int32} (hB : B ≤ 90000) (H : WK B sv st he ta cl dr cn nx og li mm m0) (hT : l / 16777216 < u / 16777216) (hu : u < 4294967296) (hP : P + 4 ≤ 1924) (hb : b < 2) (hpb : PB P bs pk) : ∃ l' u' P' bs' pk' st' he' ta' cl' dr' cn' nx' og' li' mm', f_X3_packBit (lN l) (lN u) st he ta cl dr cn nx og li sv 1924 (nI P) bs (nI b) = some (lN l', lN u', st', he', ta', cl', dr', cn', nx', og', li', nI P', bs') ∧ f_X9_narrows (nI P) (lN l) (lN u) cde fr mm pk (nI b) 1 = some (nI P', lN l', lN u', cde, fr, mm', pk') ∧ u' < 4294967296 ∧ l' / 16777216 < u' / 16777216 ∧ P' ≤ P + 4 ∧ PB P' bs' pk' ∧ WK (B + 1) sv st' he' ta' cl' dr' cn' nx' og' li' mm' m0 := by
  obtain ⟨p, h, p1, p2, eh, ec, em, ech⟩ := H.chance hB
  obtain ⟨st', he', ta', cl', dr', cn', nx', og', li', mm', f1, f2, f3⟩ := H.feed hB hb
  obtain ⟨d1, d2⟩ := md_in (l := l) (u := u) (p := p) (by omega) hu p2
  obtain ⟨v, l', u', P', bs', pk', g1, g2, g3, g4, g5, g6⟩ := lose_pack (l := if b = 1 then l else md l u p + 1) (u := if b = 1 then md l u p else u) (cde := cde) (fr := fr) (by split <;> omega) (by split <;> omega) hP hpb
  refine ⟨l', u', P', bs', pk', st', he', ta', cl', dr', cn', nx', og', li', mm', ?_, ?_, g3, g4, g5, g6, f3⟩
  · unfold f_X3_packBit
    rw [ec, middle_c (by omega) hu (by omega), narrow_c hb, bi2_s, g1, bi5_s, f1, bi9_s]
  · rw [narrows_m (p := p) (h := h) (by omega) hu (by omega) hb em ech, g2, bi6_s, f2, bi1_s]
theorem unpackBit_sim {l u P p z : Nat} {bs pk : Nat → Int32} (hB : B ≤ 90000) (H : WK B sv st he ta cl dr cn nx og li mm m0) (hT : l / 16777216 < u / 16777216) (hu : u < 4294967296) (hz : z < 4294967296) (hP : P ≤ 1924) (hp : p < 90000) (hpb : PB P bs pk) : ∃ b m l' u' p' z' st' he' ta' cl' dr' cn' nx' og' li' mm', b < 2 ∧ f_X7_unpackBit (lN z) (nI p) (lN l) (lN u) st he ta cl dr cn nx og li sv (nI P) bs = some (nI b, lN z', nI p', lN l', lN u', st', he', ta', cl', dr', cn', nx', og', li') ∧ f_X9_middle (lN l) (lN u) mm = some m ∧ (0 < lg_cmp (lN z) m ↔ b = 0) ∧ f_X9_narrows (nI P) (lN l) (lN u) (lN z) (nI p) mm pk (nI b) 0 = some (nI P, lN l', lN u', lN z', nI p', mm', pk) ∧ u' < 4294967296 ∧ l' / 16777216 < u' / 16777216 ∧ p' ≤ p + 4 ∧ z' < 4294967296 ∧ WK (B + 1) sv st' he' ta' cl' dr' cn' nx' og' li' mm' m0 := by
  obtain ⟨c, h, p1, p2, eh, ec, em, ech⟩ := H.chance hB
  obtain ⟨d1, d2⟩ := md_in (l := l) (u := u) (p := c) (by omega) hu p2
  have hmid := middle_c (l := l) (u := u) (p := c) (by omega) hu (by omega)
  have hmm := middle_m (l := l) (u := u) (p := c) (by omega) hu (by omega) em ech
  have hcmp : 0 < lg_cmp (lN z) (lN (md l u c)) ↔ md l u c < z := by
    rw [← Int32.not_le, lg_cmp_le, pk_lLE (by omega) (by omega)]
    omega
  obtain ⟨b, hb, hbz⟩ : ∃ b, b < 2 ∧ (md l u c < z ↔ b = 0) := by
    by_cases q : md l u c < z
    · exact ⟨0, by omega, by simp [q]⟩
    · exact ⟨1, by omega, by simp [q]⟩
  obtain ⟨st', he', ta', cl', dr', cn', nx', og', li', mm', f1, f2, f3⟩ := H.feed hB hb
  obtain ⟨v, l', u', p', z', g1, g2, g3, g4, g5, g6⟩ := lose_unpack (l := if b = 1 then l else md l u c + 1) (u := if b = 1 then md l u c else u) (by split <;> omega) (by split <;> omega) hz hP hp hpb
  refine ⟨b, _, l', u', p', z', st', he', ta', cl', dr', cn', nx', og', li', mm', hb, ?_, hmm, hcmp.trans hbz, ?_, g3, g4, g5, g6, f3⟩
  · unfold f_X7_unpackBit
    rw [ec, hmid]
    rcases (show b = 0 ∨ b = 1 by omega) with rfl | rfl
    · have n0 := narrow_c (l := l) (u := u) (m := md l u c) (b := 0) (by omega)
      rw [if_pos (hcmp.mpr (hbz.mpr rfl)), show f_X6_narrow (lN l) (lN u) 0 (lN (md l u c)) = _ from n0, bi2_s, g1, bi5_s, show f_X2_feed st he ta cl dr cn nx og li sv 0 = _ from f1, bi9_s]
      rfl
    · have n1 := narrow_c (l := l) (u := u) (m := md l u c) (b := 1) (by omega)
      rw [if_neg (fun q => by have := hbz.mp (hcmp.mp q); omega), show f_X6_narrow (lN l) (lN u) 1 (lN (md l u c)) = _ from n1, bi2_s, g1, bi5_s, show f_X2_feed st he ta cl dr cn nx og li sv 1 = _ from f1, bi9_s]
      rfl
  · rw [narrows_m (p := c) (h := h) (by omega) hu (by omega) hb em ech, g2, bi6_s, f2, bi1_s]
end BITS
/-! a byte -/
section BYTE
variable {B : Nat} {sv : Nat → Int32} {st he ta cl dr : Int32} {cn nx og li mm m0 : Nat → Int32}
theorem packByte_sim {l u P v i : Nat} {bs pk inp : Nat → Int32} {cde : Int64} {fr : Int32} (hB : B ≤ 80000) (H : WK B sv st he ta cl dr cn nx og li mm m0) (h9 : m0 9 = sv 4) (hT : l / 16777216 < u / 16777216) (hu : u < 4294967296) (hP : P + 32 ≤ 1924) (hv : v < 256) (hi : i < 60) (hin : inp i = nI v) (hpb : PB P bs pk) : ∃ l' u' P' bs' pk' st' he' ta' cl' dr' cn' nx' og' li' mm' w, f_X3_packByte (lN l) (lN u) st he ta cl dr cn nx og li sv 1924 (nI P) bs (nI v) = some (lN l', lN u', st', he', ta', cl', dr', cn', nx', og', li', nI P', bs') ∧ f_X9_pack_L31 (nI i) inp 4096 0 (nI P) (lN l) (lN u) cde fr mm pk = some (w, nI P', lN l', lN u', cde, fr, mm', pk') ∧ u' < 4294967296 ∧ l' / 16777216 < u' / 16777216 ∧ P' ≤ P + 32 ∧ PB P' bs' pk' ∧ WK (B + 8) sv st' he' ta' cl' dr' cn' nx' og' li' mm' m0 := by
  obtain ⟨e, he1, he4, -⟩ := H.order h9
  obtain ⟨r, q, hr, hq, l', u', P', bs', pk', st', he', ta', cl', dr', cn', nx', og', li', mm', w, rfl, rfl, g⟩ := lp_two (st := fun z => st_X3_packByte_L11 (nI (GG e 8 v)) sv 1924 z.1 z.2.1 z.2.2.1 z.2.2.2.1 z.2.2.2.2.1 z.2.2.2.2.2.1 z.2.2.2.2.2.2.1 z.2.2.2.2.2.2.2.1 z.2.2.2.2.2.2.2.2.1 z.2.2.2.2.2.2.2.2.2.1 z.2.2.2.2.2.2.2.2.2.2.1 z.2.2.2.2.2.2.2.2.2.2.2.1 z.2.2.2.2.2.2.2.2.2.2.2.2.1 z.2.2.2.2.2.2.2.2.2.2.2.2.2) (tt := fun z => st_X9_pack_L31 (nI i) inp z.1 z.2.1 z.2.2.1 z.2.2.2.1 z.2.2.2.2.1 z.2.2.2.2.2.1 z.2.2.2.2.2.2.1 z.2.2.2.2.2.2.2)
    (I := fun k z w => ∃ l u P1 bs pk st he ta cl dr cn nx og li mm, z = (nI k, lN l, lN u, st, he, ta, cl, dr, cn, nx, og, li, nI P1, bs) ∧ w = (nI k, nI P1, lN l, lN u, cde, fr, mm, pk) ∧ u < 4294967296 ∧ l / 16777216 < u / 16777216 ∧ P1 ≤ P + 4 * k ∧ PB P1 bs pk ∧ WK (B + k) sv st he ta cl dr cn nx og li mm m0)
    (E := fun z w => ∃ l' u' P' bs' pk' st' he' ta' cl' dr' cn' nx' og' li' mm' w1, z = (nI 8, lN l', lN u', st', he', ta', cl', dr', cn', nx', og', li', nI P', bs') ∧ w = (w1, nI P', lN l', lN u', cde, fr, mm', pk') ∧ u' < 4294967296 ∧ l' / 16777216 < u' / 16777216 ∧ P' ≤ P + 32 ∧ PB P' bs' pk' ∧ WK (B + 8) sv st' he' ta' cl' dr' cn' nx' og' li' mm' m0) 8
    (by
      rintro k z w hk ⟨l, u, P1, bs, pk, st, he, ta, cl, dr, cn, nx, og, li, mm, rfl, rfl, h1, h2, h3, h4, h5⟩
      obtain ⟨e', he1', he4', m9⟩ := h5.order h9
      have ee : e' = e := (nI_eq (by omega) (by omega)).mp (he4'.symm.trans he4)
      subst ee
      obtain ⟨l', u', P', bs', pk', st', he', ta', cl', dr', cn', nx', og', li', mm', a1, a2, a3, a4, a5, a6, a7⟩ := packBit_sim (b := v / 2 ^ (pl e' k) % 2) (cde := cde) (fr := fr) (by omega) h5 h2 h1 (by omega) (Nat.mod_lt _ (by omega)) h4
      refine ⟨_, _, ?_, ?_, l', u', P', bs', pk', st', he', ta', cl', dr', cn', nx', og', li', mm', rfl, rfl, a3, a4, by omega, a6, a7⟩
      · show st_X3_packByte_L11 (nI (GG e' 8 v)) sv 1924 (nI k) (lN l) (lN u) st he ta cl dr cn nx og li (nI P1) bs = _
        unfold st_X3_packByte_L11
        rw [if_neg (show ¬ (8 : Int32) ≤ nI k from nI_ge (b := 8) hk (by omega)), tb2 e' (by omega) k hk v hv, a1, bi13_s, nI_1]
      · show st_X9_pack_L31 (nI i) inp (nI k) (nI P1) (lN l) (lN u) cde fr mm pk = _
        unfold st_X9_pack_L31
        rw [if_neg (show ¬ (8 : Int32) ≤ nI k from nI_ge (b := 8) hk (by omega)), oobi _ hi (by omega), nI_clamp (by omega), hin, place_ok m9 he1 hk, bi1_s, tb3 e' (by omega) k hk v hv, a2, bi7_s, nI_1])
    (by
      rintro z w ⟨l, u, P1, bs, pk, st, he, ta, cl, dr, cn, nx, og, li, mm, rfl, rfl, h1, h2, h3, h4, h5⟩
      refine ⟨_, _, ?_, ?_, l, u, P1, bs, pk, st, he, ta, cl, dr, cn, nx, og, li, mm, nI 8, rfl, rfl, h1, h2, by omega, h4, h5⟩
      · show st_X3_packByte_L11 (nI (GG e 8 v)) sv 1924 (nI 8) (lN l) (lN u) st he ta cl dr cn nx og li (nI P1) bs = _
        unfold st_X3_packByte_L11
        rw [if_pos (show (8 : Int32) ≤ nI 8 by decide +kernel)]
      · show st_X9_pack_L31 (nI i) inp (nI 8) (nI P1) (lN l) (lN u) cde fr mm pk = _
        unfold st_X9_pack_L31
        rw [if_pos (show (8 : Int32) ≤ nI 8 by decide +kernel)])
    4096 4096 0 (0, lN l, lN u, st, he, ta, cl, dr, cn, nx, og, li, nI P, bs) (0, nI P, lN l, lN u, cde, fr, mm, pk) (by omega) (by omega) (by omega) ⟨l, u, P, bs, pk, st, he, ta, cl, dr, cn, nx, og, li, mm, rfl, rfl, hu, hT, by omega, hpb, H⟩
  refine ⟨l', u', P', bs', pk', st', he', ta', cl', dr', cn', nx', og', li', mm', w, ?_, hq, g⟩
  unfold f_X3_packByte f_X3_packByte_L11
  rw [turned_ok he4 he1 hv, bi1_s, hr, bi14_s]
theorem unpackByte_sim {l u P p z : Nat} {bs pk : Nat → Int32} (hB : B ≤ 80000) (H : WK B sv st he ta cl dr cn nx og li mm m0) (h9 : m0 9 = sv 4) (hT : l / 16777216 < u / 16777216) (hu : u < 4294967296) (hz : z < 4294967296) (hP : P ≤ 1924) (hp : p < 80000) (hpb : PB P bs pk) : ∃ v l' u' p' z' st' he' ta' cl' dr' cn' nx' og' li' mm' w, v < 256 ∧ f_X7_unpackByte (lN z) (nI p) (lN l) (lN u) st he ta cl dr cn nx og li sv (nI P) bs = some (nI v, lN z', nI p', lN l', lN u', st', he', ta', cl', dr', cn', nx', og', li') ∧ f_X9_unpack_L95 4096 0 0 (nI P) (lN l) (lN u) (lN z) (nI p) mm pk = some (nI v, w, nI P, lN l', lN u', lN z', nI p', mm', pk) ∧ u' < 4294967296 ∧ l' / 16777216 < u' / 16777216 ∧ p' ≤ p + 32 ∧ z' < 4294967296 ∧ WK (B + 8) sv st' he' ta' cl' dr' cn' nx' og' li' mm' m0 := by
  obtain ⟨e, he1, he4, -⟩ := H.order h9
  obtain ⟨r, q, hr, hq, a, l', u', p', z', st', he', ta', cl', dr', cn', nx', og', li', mm', ha, rfl, rfl, g⟩ := lp_two (st := fun z => st_X7_unpackByte_L4 sv (nI P) bs z.1 z.2.1 z.2.2.1 z.2.2.2.1 z.2.2.2.2.1 z.2.2.2.2.2.1 z.2.2.2.2.2.2.1 z.2.2.2.2.2.2.2.1 z.2.2.2.2.2.2.2.2.1 z.2.2.2.2.2.2.2.2.2.1 z.2.2.2.2.2.2.2.2.2.2.1 z.2.2.2.2.2.2.2.2.2.2.2.1 z.2.2.2.2.2.2.2.2.2.2.2.2.1 z.2.2.2.2.2.2.2.2.2.2.2.2.2.1 z.2.2.2.2.2.2.2.2.2.2.2.2.2.2) (tt := fun z => st_X9_unpack_L95 z.1 z.2.1 z.2.2.1 z.2.2.2.1 z.2.2.2.2.1 z.2.2.2.2.2.1 z.2.2.2.2.2.2.1 z.2.2.2.2.2.2.2.1 z.2.2.2.2.2.2.2.2)
    (I := fun k x w => ∃ a l u p1 z st he ta cl dr cn nx og li mm, a < 2 ^ k ∧ x = (nI a, nI k, lN z, nI p1, lN l, lN u, st, he, ta, cl, dr, cn, nx, og, li) ∧ w = (nI (GG e k a), nI k, nI P, lN l, lN u, lN z, nI p1, mm, pk) ∧ u < 4294967296 ∧ l / 16777216 < u / 16777216 ∧ p1 ≤ p + 4 * k ∧ z < 4294967296 ∧ WK (B + k) sv st he ta cl dr cn nx og li mm m0)
    (E := fun x w => ∃ a l' u' p' z' st' he' ta' cl' dr' cn' nx' og' li' mm', a < 256 ∧ x = (nI a, nI 8, lN z', nI p', lN l', lN u', st', he', ta', cl', dr', cn', nx', og', li') ∧ w = (nI (GG e 8 a), nI 8, nI P, lN l', lN u', lN z', nI p', mm', pk) ∧ u' < 4294967296 ∧ l' / 16777216 < u' / 16777216 ∧ p' ≤ p + 32 ∧ z' < 4294967296 ∧ WK (B + 8) sv st' he' ta' cl' dr' cn' nx' og' li' mm' m0) 8
    (by
      rintro k x w hk ⟨a, l, u, p1, z, st, he, ta, cl, dr, cn, nx, og, li, mm, h0, rfl, rfl, h1, h2, h3, h4, h5⟩
      obtain ⟨e', he1', he4', m9⟩ := h5.order h9
      have ee : e' = e := (nI_eq (by omega) (by omega)).mp (he4'.symm.trans he4)
      subst ee
      obtain ⟨b, m, l', u', p', z', st', he', ta', cl', dr', cn', nx', og', li', mm', b0, a1, a2, a3, a4, a5, a6, a7, a8, a9⟩ := unpackBit_sim (p := p1) (by omega) h5 h2 h1 h4 hP (by omega) hpb
      have hor := tb4 e' (by omega) k hk a h0 b b0
      refine ⟨(nI (2 * a + b), nI (k + 1), lN z', nI p', lN l', lN u', st', he', ta', cl', dr', cn', nx', og', li'), (nI (GG e' (k + 1) (2 * a + b)), nI (k + 1), nI P, lN l', lN u', lN z', nI p', mm', pk), ?_, ?_, 2 * a + b, l', u', p', z', st', he', ta', cl', dr', cn', nx', og', li', mm', by rw [Nat.pow_succ]; omega, rfl, rfl, a5, a6, by omega, a8, a9⟩
      · show st_X7_unpackByte_L4 sv (nI P) bs (nI a) (nI k) (lN z) (nI p1) (lN l) (lN u) st he ta cl dr cn nx og li = _
        unfold st_X7_unpackByte_L4
        rw [if_neg (show ¬ (8 : Int32) ≤ nI k from nI_ge (b := 8) hk (by omega)), a1, bi14_s, il2, pk_mul, nI_add, nI_1]
      · show st_X9_unpack_L95 (nI (GG e' k a)) (nI k) (nI P) (lN l) (lN u) (lN z) (nI p1) mm pk = _
        unfold st_X9_unpack_L95
        rw [if_neg (show ¬ (8 : Int32) ≤ nI k from nI_ge (b := 8) hk (by omega)), a2, bi1_s]
        rcases (show b = 0 ∨ b = 1 by omega) with rfl | rfl
        · rw [if_pos (a3.mpr rfl), place_ok m9 he1 hk, bi1_s, show f_X9_narrows (nI P) (lN l) (lN u) (lN z) (nI p1) mm pk 0 0 = _ from a4, bi7_s, show nI (GG e' k a) ||| (0 : Int32) <<< (nI (pl e' k) &&& 31) = _ from hor, nI_1]
        · rw [if_neg (fun q => by have := a3.mp q; omega), place_ok m9 he1 hk, bi1_s, show f_X9_narrows (nI P) (lN l) (lN u) (lN z) (nI p1) mm pk 1 0 = _ from a4, bi7_s, show nI (GG e' k a) ||| (1 : Int32) <<< (nI (pl e' k) &&& 31) = _ from hor, nI_1])
    (by
      rintro x w ⟨a, l, u, p1, z, st, he, ta, cl, dr, cn, nx, og, li, mm, h0, rfl, rfl, h1, h2, h3, h4, h5⟩
      refine ⟨_, _, ?_, ?_, a, l, u, p1, z, st, he, ta, cl, dr, cn, nx, og, li, mm, h0, rfl, rfl, h1, h2, by omega, h4, h5⟩
      · show st_X7_unpackByte_L4 sv (nI P) bs (nI a) (nI 8) (lN z) (nI p1) (lN l) (lN u) st he ta cl dr cn nx og li = _
        unfold st_X7_unpackByte_L4
        rw [if_pos (show (8 : Int32) ≤ nI 8 by decide +kernel)]
      · show st_X9_unpack_L95 (nI (GG e 8 a)) (nI 8) (nI P) (lN l) (lN u) (lN z) (nI p1) mm pk = _
        unfold st_X9_unpack_L95
        rw [if_pos (show (8 : Int32) ≤ nI 8 by decide +kernel)])
    4096 4096 0 (0, 0, lN z, nI p, lN l, lN u, st, he, ta, cl, dr, cn, nx, og, li) (0, 0, nI P, lN l, lN u, lN z, nI p, mm, pk) (by omega) (by omega) (by omega) ⟨0, l, u, p, z, st, he, ta, cl, dr, cn, nx, og, li, mm, by omega, rfl, rfl, hu, hT, by omega, hz, H⟩
  refine ⟨GG e 8 a, l', u', p', z', st', he', ta', cl', dr', cn', nx', og', li', mm', nI 8, tbl e (by omega) a ha, ?_, hq, g⟩
  unfold f_X7_unpackByte f_X7_unpackByte_L4
  rw [hr, bi15_s, turned_ok he4 he1 ha, bi1_s]
end BYTE
