section PACK
variable {B : Nat} {sv : Nat → Int32} {st he ta cl dr : Int32} {cn nx og li mm m0 : Nat → Int32}
theorem packs {I : Nat} {ib inp pb pk : Nat → Int32} {cde : Int64} {fr : Int32} (hI : I ≤ 60) (hin : ∀ j, j < I → ib j = inp j ∧ ∃ v, v < 256 ∧ inp j = nI v) (H : WK 1 sv st he ta cl dr cn nx og li mm m0) (h9 : m0 9 = sv 4) : ∃ v w l u P bs' pk' st' he' ta' cl' dr' cn' nx' og' li' mm', f_X8_pack_L22 sv (nI I) ib 1924 4096 0 0 pb st he ta cl dr cn nx og li (lN 0) (lN 4294967295) = some (v, nI P, bs', st', he', ta', cl', dr', cn', nx', og', li', lN l, lN u) ∧ f_X9_pack_L21 (nI I) inp 4096 0 0 (lN 0) (lN 4294967295) cde fr mm pk = some (w, nI P, lN l, lN u, cde, fr, mm', pk') ∧ u < 4294967296 ∧ l / 16777216 < u / 16777216 ∧ P ≤ 1920 ∧ PB P bs' pk' ∧ WK (1 + 8 * I) sv st' he' ta' cl' dr' cn' nx' og' li' mm' m0 := by
  obtain ⟨r, q, hr, hq, l, u, P, bs', pk', st', he', ta', cl', dr', cn', nx', og', li', mm', rfl, rfl, g⟩ := lp_two (st := fun z => st_X8_pack_L22 sv (nI I) ib 1924 z.1 z.2.1 z.2.2.1 z.2.2.2.1 z.2.2.2.2.1 z.2.2.2.2.2.1 z.2.2.2.2.2.2.1 z.2.2.2.2.2.2.2.1 z.2.2.2.2.2.2.2.2.1 z.2.2.2.2.2.2.2.2.2.1 z.2.2.2.2.2.2.2.2.2.2.1 z.2.2.2.2.2.2.2.2.2.2.2.1 z.2.2.2.2.2.2.2.2.2.2.2.2.1 z.2.2.2.2.2.2.2.2.2.2.2.2.2) (tt := fun z => st_X9_pack_L21 (nI I) inp z.1 z.2.1 z.2.2.1 z.2.2.2.1 z.2.2.2.2.1 z.2.2.2.2.2.1 z.2.2.2.2.2.2.1 z.2.2.2.2.2.2.2)
    (I := fun k x w => ∃ l u P bs pk st he ta cl dr cn nx og li mm, x = (nI k, nI P, bs, st, he, ta, cl, dr, cn, nx, og, li, lN l, lN u) ∧ w = (nI k, nI P, lN l, lN u, cde, fr, mm, pk) ∧ u < 4294967296 ∧ l / 16777216 < u / 16777216 ∧ P ≤ 32 * k ∧ PB P bs pk ∧ WK (1 + 8 * k) sv st he ta cl dr cn nx og li mm m0)
    (E := fun x w => ∃ l u P bs pk st he ta cl dr cn nx og li mm, x = (nI I, nI P, bs, st, he, ta, cl, dr, cn, nx, og, li, lN l, lN u) ∧ w = (nI I, nI P, lN l, lN u, cde, fr, mm, pk) ∧ u < 4294967296 ∧ l / 16777216 < u / 16777216 ∧ P ≤ 1920 ∧ PB P bs pk ∧ WK (1 + 8 * I) sv st he ta cl dr cn nx og li mm m0) I
    (by
      rintro k x w hk ⟨l, u, P, bs, pk, st, he, ta, cl, dr, cn, nx, og, li, mm, rfl, rfl, h1, h2, h3, h4, h5⟩
      obtain ⟨i1, v, i2, i3⟩ := hin k hk
      obtain ⟨l', u', P', bs', pk', st', he', ta', cl', dr', cn', nx', og', li', mm', w, a1, a2, a3, a4, a5, a6, a7⟩ := packByte_sim (i := k) (cde := cde) (fr := fr) (by omega) h5 h9 h2 h1 (by omega) i2 (by omega) i3 h4
      refine ⟨(nI (k + 1), nI P', bs', st', he', ta', cl', dr', cn', nx', og', li', lN l', lN u'), (nI (k + 1), nI P', lN l', lN u', cde, fr, mm', pk'), ?_, ?_, l', u', P', bs', pk', st', he', ta', cl', dr', cn', nx', og', li', mm', rfl, rfl, a3, a4, by omega, a6, ?_⟩
      · show st_X8_pack_L22 sv (nI I) ib 1924 (nI k) (nI P) bs st he ta cl dr cn nx og li (lN l) (lN u) = _
        unfold st_X8_pack_L22 f_X0_length
        rw [if_neg (nI_ge hk (by omega)), bget hk hI (by omega), i1, i3, a1, bi13_s, nI_1]
      · show st_X9_pack_L21 (nI I) inp (nI k) (nI P) (lN l) (lN u) cde fr mm pk = _
        unfold st_X9_pack_L21
        rw [if_neg (nI_ge hk (by omega)), a2, bi8_s, nI_1]
      · rw [show 1 + 8 * (k + 1) = 1 + 8 * k + 8 by omega]
        exact a7)
    (by
      rintro x w ⟨l, u, P, bs, pk, st, he, ta, cl, dr, cn, nx, og, li, mm, rfl, rfl, h1, h2, h3, h4, h5⟩
      refine ⟨(nI I, nI P, bs, st, he, ta, cl, dr, cn, nx, og, li, lN l, lN u), (nI I, nI P, lN l, lN u, cde, fr, mm, pk), ?_, ?_, l, u, P, bs, pk, st, he, ta, cl, dr, cn, nx, og, li, mm, rfl, rfl, h1, h2, by omega, h4, h5⟩
      · show st_X8_pack_L22 sv (nI I) ib 1924 (nI I) (nI P) bs st he ta cl dr cn nx og li (lN l) (lN u) = _
        unfold st_X8_pack_L22 f_X0_length
        rw [if_pos (nI_le (by omega) (by omega))]
      · show st_X9_pack_L21 (nI I) inp (nI I) (nI P) (lN l) (lN u) cde fr mm pk = _
        unfold st_X9_pack_L21
        rw [if_pos (nI_le (by omega) (by omega))])
    4096 4096 0 (0, 0, pb, st, he, ta, cl, dr, cn, nx, og, li, lN 0, lN 4294967295) (0, 0, lN 0, lN 4294967295, cde, fr, mm, pk) (by omega) (by omega) (by omega) ⟨0, 4294967295, 0, pb, pk, st, he, ta, cl, dr, cn, nx, og, li, mm, rfl, rfl, by omega, by omega, by omega, fun j hj => absurd hj (by omega), H⟩
  exact ⟨nI I, nI I, l, u, P, bs', pk', st', he', ta', cl', dr', cn', nx', og', li', mm', hr, hq, g⟩
theorem sim_pack {ir il im pr pl pm ku ks kh kt kc kd fr : Int32} {ib inp pb pk gr kcn knx kog kli : Nat → Int32} {klo khi lo hi cde : Int64} (H : KX B 0 sv st he ta cl dr cn nx og li mm) (h1 : RI ir il ib im inp) (h2 : RPk pr pl pb pm pk) (hg : RGr 0 ku ks kc kd gr) : ∃ r pl' pb' ku' ks' kh' kt' kc' kd' kcn' knx' kog' kli' klo' khi', f_X8_pack sv il ib pr pl pb ku ks kh kt kc kd kcn knx kog kli klo khi = some (r, pl', pb', ku', ks', kh', kt', kc', kd', kcn', knx', kog', kli', klo', khi') ∧ ∃ pm' lo' hi' cde' fr' mm' pk' gr', f_X9_pack im pm lo hi cde fr mm inp pk gr = some (r, pm', lo', hi', cde', fr', mm', pk', gr') ∧ RPk pr pl' pb' pm' pk' ∧ RGr 0 ku' ks' kc' kd' gr' ∧ (∀ j, 3 ≤ j → gr' j = gr j) ∧ ∀ j, (j < 1260 ∨ 2520 ≤ j) → mm' j = mm j := by
  obtain ⟨-, I, hI, rfl, rfl, hin⟩ := h1
  obtain ⟨S, cn1, nx1, og1, li1, mm1, e1, e2, e3, e4⟩ := work_start H kcn knx kog kli
  by_cases q : I = 0
  · subst q
    refine ⟨-2, pl, pb, ku, ks, kh, kt, kc, kd, kcn, knx, kog, kli, klo, khi, ?_, pm, lo, hi, cde, fr, mm, pk, gr, ?_, h2, hg, fun j _ => rfl, fun j _ => rfl⟩
    · unfold f_X8_pack f_X0_length
      rw [if_pos (show nI 0 = (0 : Int32) by decide)]
    · unfold f_X9_pack
      rw [if_pos (show nI 0 = (0 : Int32) by decide)]
  · obtain ⟨rfl, P0, hP0, rfl, rfl, hpb⟩ := h2
    have hne : ¬ nI I = (0 : Int32) := fun z => q ((nI_eq (b := 0) (by omega) (by omega)).mp z)
    obtain ⟨v, w, l, u, P, bs', pk', st', he', ta', cl', dr', cn', nx', og', li', mm', a1, a2, a3, a4, a5, a6, a7⟩ := packs (pb := pb) (pk := pk) (cde := cde) (fr := fr) hI hin e3 e4
    obtain ⟨l2, u2, bs2, pk2, w2, b1, b2, b3⟩ := close_sim (l := l) (u := u) (P := P) (by omega) a3 (by omega) a6
    obtain ⟨gr', c1, c2, c3⟩ := work_notes (gr := gr) (x := 0) a7 (by omega)
    refine ⟨nI (P + 4), nI (P + 4), bs2, 1, st', he', ta', cl', dr', cn', nx', og', li', l2, u2, ?_, nI (P + 4), lN l, lN u, cde, fr, mm', pk2, gr', ?_, ⟨rfl, P + 4, by omega, rfl, rfl, b3⟩, c2, fun j hj => c3 j (by omega), a7.2⟩
    · unfold f_X8_pack f_X0_length f_X3_open f_X6_open f_X0_clear
      rw [if_neg hne, e1, bi9_s, bi2_s, bi13_s, jl0, jl4294967295, a1, bi14_s, b1, bi4_s]
    · unfold f_X9_pack
      rw [if_neg hne, e2, bi3_s, a2, bi8_s, b2, bi3_s, show f_X9_notes mm' gr 0 = _ from c1, bi1_s]
theorem open_u {P : Nat} {bs pk : Nat → Int32} (hP : P ≤ 1924) (hb : PB P bs pk) : ∃ v w z, z < 4294967296 ∧ f_X7_open_L31 (nI P) bs 4096 0 (0 : Int64) 0 = some (v, lN z, nI 4) ∧ f_X9_unpack_L35 (nI P) pk 4096 0 (0 : Int64) = some (w, lN z) := by
  obtain ⟨r, q, hr, hq, z, hz, rfl, rfl⟩ := lp_two (st := fun z => st_X7_open_L31 (nI P) bs z.1 z.2.1 z.2.2) (tt := fun z => st_X9_unpack_L35 (nI P) pk z.1 z.2)
    (I := fun k x w => ∃ z, z < 256 ^ k ∧ x = (nI k, lN z, nI k) ∧ w = (nI k, lN z))
    (E := fun x w => ∃ z, z < 4294967296 ∧ x = (nI 4, lN z, nI 4) ∧ w = (nI 4, lN z)) 4
    (by
      rintro k x w hk ⟨z, hz, rfl, rfl⟩
      obtain ⟨b, hb1, hb2, hb3⟩ := byteAt (p := k) hP (by omega) hb
      have hp : 256 ^ k ≤ 256 ^ 3 := Nat.pow_le_pow_right (by omega) (by omega)
      have hz3 : z < 16777216 := Nat.lt_of_lt_of_le hz hp
      have hz4 : z * 256 + b < 256 ^ (k + 1) := by
        rw [Nat.pow_succ]
        generalize 256 ^ k = G at *
        omega
      refine ⟨(nI (k + 1), lN (z * 256 + b), nI (k + 1)), (nI (k + 1), lN (z * 256 + b)), ?_, ?_, z * 256 + b, hz4, rfl, rfl⟩
      · show st_X7_open_L31 (nI P) bs (nI k) (lN z) (nI k) = _
        unfold st_X7_open_L31
        rw [if_neg (show ¬ (4 : Int32) ≤ nI k from nI_ge (b := 4) hk (by omega)), pull_c (Nat.lt_trans hz3 (by omega)) hb1 hb2, bi2_s, Nat.mod_eq_of_lt hz3, nI_1]
      · show st_X9_unpack_L35 (nI P) pk (nI k) (lN z) = _
        unfold st_X9_unpack_L35
        rw [if_neg (show ¬ (4 : Int32) ≤ nI k from nI_ge (b := 4) hk (by omega))]
        rcases hb3 with ⟨c1, c2⟩ | ⟨c1, c2⟩
        · subst c2
          rw [if_pos (nI_le c1 (by omega)), il0, toL (by omega), jl256, lN_mul, lN_add, nI_1]
        · rw [if_neg (nI_ge c1 (by omega)), oobi _ (by omega) (by omega), nI_clamp (by omega), c2, toL (by omega), jl256, lN_mul, lN_add, nI_1])
    (by
      rintro x w ⟨z, hz, rfl, rfl⟩
      refine ⟨(nI 4, lN z, nI 4), (nI 4, lN z), ?_, ?_, z, hz, rfl, rfl⟩
      · show st_X7_open_L31 (nI P) bs (nI 4) (lN z) (nI 4) = _
        unfold st_X7_open_L31
        rw [if_pos (show (4 : Int32) ≤ nI 4 by decide +kernel)]
      · show st_X9_unpack_L35 (nI P) pk (nI 4) (lN z) = _
        unfold st_X9_unpack_L35
        rw [if_pos (show (4 : Int32) ≤ nI 4 by decide +kernel)])
    4096 4096 0 (0, (0 : Int64), 0) (0, (0 : Int64)) (by omega) (by omega) (by omega) ⟨0, by omega, rfl, rfl⟩
  exact ⟨nI 4, nI 4, z, hz, hr, hq⟩
theorem unpacks {X P z : Nat} {bs pk ub out : Nat → Int32} (hX : X ≤ 60) (hP : P ≤ 1924) (hpb : PB P bs pk) (hz : z < 4294967296) (H : WK 1 sv st he ta cl dr cn nx og li mm m0) (h9 : m0 9 = sv 4) : ∃ v w l u p z' ub' out' st' he' ta' cl' dr' cn' nx' og' li' mm', f_X8_unpack_L42 (nI X) sv (nI P) bs 60 4096 0 0 ub (lN z) (nI 4) st he ta cl dr cn nx og li (lN 0) (lN 4294967295) = some (v, nI X, ub', lN z', nI p, st', he', ta', cl', dr', cn', nx', og', li', lN l, lN u) ∧ f_X9_unpack_L85 (nI X) 4096 0 (nI P) (lN 0) (lN 4294967295) (lN z) (nI 4) mm pk out = some (w, nI P, lN l, lN u, lN z', nI p, mm', pk, out') ∧ p < 10000 ∧ (∀ j, j < X → ub' j = out' j) ∧ WK (1 + 8 * X) sv st' he' ta' cl' dr' cn' nx' og' li' mm' m0 := by
  obtain ⟨r, q, hr, hq, l, u, p, z', ub', out', st', he', ta', cl', dr', cn', nx', og', li', mm', rfl, rfl, g⟩ := lp_two (st := fun z => st_X8_unpack_L42 (nI X) sv (nI P) bs 60 z.1 z.2.1 z.2.2.1 z.2.2.2.1 z.2.2.2.2.1 z.2.2.2.2.2.1 z.2.2.2.2.2.2.1 z.2.2.2.2.2.2.2.1 z.2.2.2.2.2.2.2.2.1 z.2.2.2.2.2.2.2.2.2.1 z.2.2.2.2.2.2.2.2.2.2.1 z.2.2.2.2.2.2.2.2.2.2.2.1 z.2.2.2.2.2.2.2.2.2.2.2.2.1 z.2.2.2.2.2.2.2.2.2.2.2.2.2.1 z.2.2.2.2.2.2.2.2.2.2.2.2.2.2.1 z.2.2.2.2.2.2.2.2.2.2.2.2.2.2.2) (tt := fun z => st_X9_unpack_L85 (nI X) z.1 z.2.1 z.2.2.1 z.2.2.2.1 z.2.2.2.2.1 z.2.2.2.2.2.1 z.2.2.2.2.2.2.1 z.2.2.2.2.2.2.2.1 z.2.2.2.2.2.2.2.2)
    (I := fun k x w => ∃ l u p z ub out st he ta cl dr cn nx og li mm, x = (nI k, nI k, ub, lN z, nI p, st, he, ta, cl, dr, cn, nx, og, li, lN l, lN u) ∧ w = (nI k, nI P, lN l, lN u, lN z, nI p, mm, pk, out) ∧ u < 4294967296 ∧ l / 16777216 < u / 16777216 ∧ p ≤ 4 + 32 * k ∧ z < 4294967296 ∧ (∀ j, j < k → ub j = out j) ∧ WK (1 + 8 * k) sv st he ta cl dr cn nx og li mm m0)
    (E := fun x w => ∃ l u p z ub out st he ta cl dr cn nx og li mm, x = (nI X, nI X, ub, lN z, nI p, st, he, ta, cl, dr, cn, nx, og, li, lN l, lN u) ∧ w = (nI X, nI P, lN l, lN u, lN z, nI p, mm, pk, out) ∧ p < 10000 ∧ (∀ j, j < X → ub j = out j) ∧ WK (1 + 8 * X) sv st he ta cl dr cn nx og li mm m0) X
    (by
      rintro k x w hk ⟨l, u, p, z, ub, out, st, he, ta, cl, dr, cn, nx, og, li, mm, rfl, rfl, h1, h2, h3, h4, h5, h6⟩
      obtain ⟨v, l', u', p', z', st', he', ta', cl', dr', cn', nx', og', li', mm', w, a0, a1, a2, a3, a4, a5, a6, a7⟩ := unpackByte_sim (p := p) (by omega) h6 h9 h2 h1 h4 hP (by omega) hpb
      refine ⟨(nI (k + 1), nI (k + 1), upd ub k (nI v), lN z', nI p', st', he', ta', cl', dr', cn', nx', og', li', lN l', lN u'), (nI (k + 1), nI P, lN l', lN u', lN z', nI p', mm', pk, upd out k (nI v)), ?_, ?_, l', u', p', z', _, _, st', he', ta', cl', dr', cn', nx', og', li', mm', rfl, rfl, a3, a4, by omega, a6, fun j hj => ?_, ?_⟩
      · show st_X8_unpack_L42 (nI X) sv (nI P) bs 60 (nI k) (nI k) ub (lN z) (nI p) st he ta cl dr cn nx og li (lN l) (lN u) = _
        unfold st_X8_unpack_L42 f_X0_add
        rw [if_neg (nI_ge hk (by omega)), a1, bi14_s, if_neg (show ¬ (60 : Int32) ≤ nI k from nI_ge (b := 60) (by omega) (by omega)), bi2_s, put_nI (by omega) (by omega), nI_1]
      · show st_X9_unpack_L85 (nI X) (nI k) (nI P) (lN l) (lN u) (lN z) (nI p) mm pk out = _
        unfold st_X9_unpack_L85
        rw [if_neg (nI_ge hk (by omega)), a2, bi9_s, oobi _ (by omega) (by omega), nI_clamp (by omega), nI_1]
      · by_cases q : j = k
        · rw [upd_e q, upd_e q]
        · rw [upd_n q, upd_n q, h5 j (by omega)]
      · rw [show 1 + 8 * (k + 1) = 1 + 8 * k + 8 by omega]
        exact a7)
    (by
      rintro x w ⟨l, u, p, z, ub, out, st, he, ta, cl, dr, cn, nx, og, li, mm, rfl, rfl, h1, h2, h3, h4, h5, h6⟩
      refine ⟨(nI X, nI X, ub, lN z, nI p, st, he, ta, cl, dr, cn, nx, og, li, lN l, lN u), (nI X, nI P, lN l, lN u, lN z, nI p, mm, pk, out), ?_, ?_, l, u, p, z, ub, out, st, he, ta, cl, dr, cn, nx, og, li, mm, rfl, rfl, by omega, h5, h6⟩
      · show st_X8_unpack_L42 (nI X) sv (nI P) bs 60 (nI X) (nI X) ub (lN z) (nI p) st he ta cl dr cn nx og li (lN l) (lN u) = _
        unfold st_X8_unpack_L42
        rw [if_pos (nI_le (by omega) (by omega))]
      · show st_X9_unpack_L85 (nI X) (nI X) (nI P) (lN l) (lN u) (lN z) (nI p) mm pk out = _
        unfold st_X9_unpack_L85
        rw [if_pos (nI_le (by omega) (by omega))])
    4096 4096 0 (0, 0, ub, lN z, nI 4, st, he, ta, cl, dr, cn, nx, og, li, lN 0, lN 4294967295) (0, nI P, lN 0, lN 4294967295, lN z, nI 4, mm, pk, out) (by omega) (by omega) (by omega) ⟨0, 4294967295, 4, z, ub, out, st, he, ta, cl, dr, cn, nx, og, li, mm, rfl, rfl, by omega, by omega, by omega, hz, fun j hj => absurd hj (by omega), H⟩
  exact ⟨nI X, nI X, l, u, p, z', ub', out', st', he', ta', cl', dr', cn', nx', og', li', mm', hr, hq, g⟩
theorem sim_unpack {pr pl pm ur ul om qp qu qs qh qt qc qd fr : Int32} {pb pk ub out gr qcn qnx qog qli : Nat → Int32} {qcde qlo qhi lo hi cde : Int64} (H : KX B 0 sv st he ta cl dr cn nx og li mm) (h2 : RPk pr pl pb pm pk) (h3 : RU ur ul ub om out) (hg : RGr 3 qu qs qc qd gr) (x1 : Int32) : ∃ r ul' ub' qcde' qp' qu' qs' qh' qt' qc' qd' qcn' qnx' qog' qli' qlo' qhi', f_X8_unpack sv pl pb ur ul ub qcde qp qu qs qh qt qc qd qcn qnx qog qli qlo qhi x1 = some (r, ul', ub', qcde', qp', qu', qs', qh', qt', qc', qd', qcn', qnx', qog', qli', qlo', qhi') ∧ ∃ pm' om' lo' hi' cde' fr' mm' pk' out' gr', f_X9_unpack pm om lo hi cde fr mm pk out gr x1 = some (r, pm', om', lo', hi', cde', fr', mm', pk', out', gr') ∧ RPk pr pl pb pm' pk' ∧ RU ur ul' ub' om' out' ∧ RGr 3 qu' qs' qc' qd' gr' ∧ (∀ j, j < 3 → gr' j = gr j) ∧ ∀ j, (j < 1260 ∨ 2520 ≤ j) → mm' j = mm j := by
  have out1 : (x1 < nI 1 ∨ nI 60 < x1) → f_X8_unpack sv pl pb ur ul ub qcde qp qu qs qh qt qc qd qcn qnx qog qli qlo qhi x1 = some (-1, ul, ub, qcde, qp, qu, qs, qh, qt, qc, qd, qcn, qnx, qog, qli, qlo, qhi) := by
    intro q
    unfold f_X8_unpack
    rw [il1, il60]
    rcases q with q | q
    · rw [if_pos q]
    · by_cases q2 : x1 < nI 1
      · rw [if_pos q2]
      · rw [if_neg q2, if_neg (Int32.not_le.mpr q)]
  rcases rng x1 1 60 (by omega) (by omega) with ⟨X, hX1, hX2, rfl, e⟩ | ⟨q, e⟩
  · obtain ⟨rfl, P, hP, rfl, rfl, hpb⟩ := h2
    obtain ⟨rfl, U, hU, rfl, rfl, hub⟩ := h3
    have eI : ¬ f_X9_in (nI X).toInt64 (1 : Int64) (60 : Int64) = 0 := by
      rw [jl1, jl60, e]
      decide
    by_cases q : P = 0
    · subst q
      refine ⟨-2, nI U, ub, qcde, qp, qu, qs, qh, qt, qc, qd, qcn, qnx, qog, qli, qlo, qhi, ?_, nI 0, nI U, lo, hi, cde, fr, mm, pk, out, gr, ?_, ⟨rfl, 0, hP, rfl, rfl, hpb⟩, ⟨rfl, U, hU, rfl, rfl, hub⟩, hg, fun j _ => rfl, fun j _ => rfl⟩
      · unfold f_X8_unpack f_X0_length
        rw [if_neg (show ¬ nI X < (1 : Int32) from nI_nlt (b := 1) hX1 (by omega)), if_pos (show nI X ≤ (60 : Int32) from nI_le (b := 60) hX2 (by omega)), if_pos (show nI 0 = (0 : Int32) by decide)]
      · unfold f_X9_unpack
        rw [if_neg eI, if_pos (show nI 0 = (0 : Int32) by decide)]
    · have hne : ¬ nI P = (0 : Int32) := fun z => q ((nI_eq (b := 0) (by omega) (by omega)).mp z)
      obtain ⟨S, cn1, nx1, og1, li1, mm1, e1, e2, e3, e4⟩ := work_start H qcn qnx qog qli
      obtain ⟨v1, w1, z, o1, o2, o3⟩ := open_u hP hpb
      obtain ⟨v, w, l, u, p, z', ub', out', st', he', ta', cl', dr', cn', nx', og', li', mm', a1, a2, a3, a4, a5⟩ := unpacks (ub := ub) (out := out) hX2 hP hpb o1 e3 e4
      obtain ⟨gr', c1, c2, c3⟩ := work_notes (gr := gr) (x := 1) a5 (by omega)
      have hr : f_X7_bytesRead (nI p) (nI P) = nI (if P ≤ p then P else p) := by
        unfold f_X7_bytesRead f_X0_length
        by_cases q1 : P < p
        · rw [if_pos (nI_lt q1 (by omega)), if_pos (by omega)]
        · rw [if_neg (nI_nlt (by omega) (by omega))]
          by_cases q2 : P ≤ p
          · rw [if_pos q2, show p = P by omega]
          · rw [if_neg q2]
      refine ⟨nI (if P ≤ p then P else p), nI X, ub', lN z', nI p, 1, st', he', ta', cl', dr', cn', nx', og', li', lN l, lN u, ?_, nI P, nI X, lN l, lN u, lN z', nI p, mm', pk, out', gr', ?_, ⟨rfl, P, hP, rfl, rfl, hpb⟩, ⟨rfl, X, hX2, rfl, rfl, a4⟩, c2, fun j hj => c3 j (by omega), a5.2⟩
      · unfold f_X8_unpack f_X0_length f_X7_open f_X6_open f_X0_clear
        rw [if_neg (show ¬ nI X < (1 : Int32) from nI_nlt (b := 1) hX1 (by omega)), if_pos (show nI X ≤ (60 : Int32) from nI_le (b := 60) hX2 (by omega)), if_neg hne, e1, bi9_s, bi2_s, o2, bi3_s, bi14_s, jl0, jl4294967295, a1, bi16_s, hr]
      · unfold f_X9_unpack
        rw [if_neg eI, if_neg hne, e2, bi3_s, o3, bi2_s, show f_X9_unpack_L85 (nI X) 4096 0 (nI P) (lN 0) (lN 4294967295) (lN z) 4 mm1 pk out = _ from a2, bi9_s, show f_X9_notes mm' gr 1 = _ from c1, bi1_s]
        by_cases q2 : P ≤ p
        · rw [if_pos (nI_le q2 (by omega)), if_pos q2]
        · rw [if_neg (nI_ge (by omega) (by omega)), if_neg q2]
  · refine ⟨-1, ul, ub, qcde, qp, qu, qs, qh, qt, qc, qd, qcn, qnx, qog, qli, qlo, qhi, out1 q, pm, om, lo, hi, cde, fr, mm, pk, out, gr, ?_, h2, h3, hg, fun j _ => rfl, fun j _ => rfl⟩
    unfold f_X9_unpack
    rw [jl1, jl60, if_pos e]
end PACK
