theorem SV.S_le {B S h a F R d e : Nat} {sv : Nat → Int32} {st he : Int32} {cn nx og li : Nat → Int32} (hs : SV sv a F R d e) (H : MC B S h sv st he cn nx og li) : S ≤ d := by
  obtain ⟨-, -, -, -, -, -, -, -, s3, d1, d2, -⟩ := hs
  obtain ⟨-, -, -, ⟨d', e3, g1, g2⟩, -⟩ := H
  have := (nI_eq (by omega) (by omega)).mp (e3.symm.trans s3)
  omega
/-- counts behind a cloning -/
theorem cnC_in {B S t s0 r0 s1 r1 : Nat} {cn : Nat → Int32} (ht : t < S) (h : ∀ i, i < 2 * S → ∃ v, v ≤ B ∧ cn i = nI v) (h0 : s0 ≤ B) (h1 : r0 ≤ B) (h2 : s1 ≤ B) (h3 : r1 ≤ B) : ∀ i, i < 2 * (S + 1) → ∃ v, v ≤ B ∧ cnC cn S t s0 r0 s1 r1 i = nI v := by
  intro i hi
  unfold cnC
  by_cases q3 : i = 2 * t + 1
  · exact ⟨r1, h3, upd_e q3⟩
  rw [upd_n q3]
  by_cases q2 : i = 2 * S + 1
  · exact ⟨s1, h2, upd_e q2⟩
  rw [upd_n q2]
  by_cases q1 : i = 2 * t
  · exact ⟨r0, h1, upd_e q1⟩
  rw [upd_n q1]
  by_cases q0 : i = 2 * S
  · exact ⟨s0, h0, upd_e q0⟩
  rw [upd_n q0]
  exact h i (by omega)
theorem feed_sim {A B S h b a F R d e : Nat} {mm sv cn nx og li : Nat → Int32} {st he ta cl dr : Int32} (hs : SV sv a F R d e) (hB : B ≤ 100000) (H : MC B S h sv st he cn nx og li) (M : MM A S mm sv st he ta cl dr cn nx og) (hb : b < 2) : ∃ S' h' st' he' ta' cl' dr' cn' nx' og' li' mm', f_X2_feed st he ta cl dr cn nx og li sv (nI b) = some (st', he', ta', cl', dr', cn', nx', og', li') ∧ f_X9_takes mm (nI A) (nI b) = some mm' ∧ MC (B + 1) S' h' sv st' he' cn' nx' og' li' ∧ MM A S' mm' sv st' he' ta' cl' dr' cn' nx' og' ∧ ∀ j, (j < A ∨ A + 1260 ≤ j) → mm' j = mm j := by
  have hSd := hs.S_le H
  obtain ⟨c, t, c0, c1, t0, t1, gc, gt, g0, g1, u0, u1, ec, et, e0, e1, n0, n1⟩ := H.at hb
  obtain ⟨es, eh, hh, hd, k1, k2, k3⟩ := id H
  obtain ⟨hA, m0, m1, m2, m3, m4, m5, m6, m7⟩ := id M
  obtain ⟨-, -, s1, f1, f2, s2, r1, r2, s3, d1, d2, -⟩ := id hs
  have hS : S ≤ 250 := by omega
  have x1 : mm (A + 1) = nI h := by rw [m1, eh]
  have x6 : mm (A + 5 + 1) = nI F := by rw [m5 1 (by omega), s1]
  have x7 : mm (A + 5 + 2) = nI R := by rw [m5 2 (by omega), s2]
  have x8 : mm (A + 5 + 3) = nI d := by rw [m5 3 (by omega), s3]
  have xc : mm (A + 10 + 2 * h + b) = nI c := by rw [show A + 10 + 2 * h + b = A + 10 + (2 * h + b) by omega, (m6 _ (by omega)).1, ec]
  have xt : mm (A + 510 + 2 * h + b) = nI t := by rw [show A + 510 + 2 * h + b = A + 510 + (2 * h + b) by omega, (m6 _ (by omega)).2, et]
  have x0 : mm (A + 10 + 2 * t) = nI c0 := by rw [(m6 _ (by omega)).1, e0]
  have y1 : mm (A + 10 + 2 * t + 1) = nI c1 := by rw [show A + 10 + 2 * t + 1 = A + 10 + (2 * t + 1) by omega, (m6 _ (by omega)).1, e1]
  have y2 : mm (A + 510 + 2 * t) = nI t0 := by rw [(m6 _ (by omega)).2, n0]
  have y3 : mm (A + 510 + 2 * t + 1) = nI t1 := by rw [show A + 510 + 2 * t + 1 = A + 510 + (2 * t + 1) by omega, (m6 _ (by omega)).2, n1]
  by_cases hq : c ≤ F ∨ c0 + c1 ≤ c + R
  · have w1 := feed_plain (st := st) (ta := ta) (cl := cl) (dr := dr) (og := og) (li := li) hs hS hh hb gt (by omega) (by omega) (by omega) eh ec et e0 e1 hq
    have w2 := takes_plain hA hS hh hb gt f2 r2 (by omega) (by omega) (by omega) x1 m2 x6 x7 xc xt x0 y1 hq
    refine ⟨S, t, st, nI t, ta + 1, cl, dr, _, nx, og, li, _, w1, w2, ⟨es, rfl, gt, hd, fun i hi => ?_, k2, k3⟩, ⟨hA, ?_, ?_, ?_, ?_, ?_, fun k hk => ?_, fun i hi => ⟨?_, ?_⟩, fun k hk => ?_⟩, fun j hj => ?_⟩
    · by_cases q : i = 2 * h + b
      · exact ⟨c + 1, by omega, upd_e q⟩
      · obtain ⟨v, v1, v2⟩ := k1 i hi
        exact ⟨v, by omega, by rw [upd_n q, v2]⟩
    · rw [upd_n (by omega), upd_n (by omega), upd_n (by omega), m0]
    · rw [upd_e rfl]
    · rw [upd_n (by omega), upd_n (by omega), upd_e rfl]
    · rw [upd_n (by omega), upd_n (by omega), upd_n (by omega), m3]
    · rw [upd_n (by omega), upd_n (by omega), upd_n (by omega), m4]
    · rw [upd_n (by omega), upd_n (by omega), upd_n (by omega), m5 k hk]
    · have z : RG (A + 10) (2 * S) mm cn := fun i hi => (m6 i hi).1
      exact ((z.out (by omega)).inn (by omega) rfl).out (by omega) i hi
    · rw [upd_n (by omega), upd_n (by omega), upd_n (by omega), (m6 i hi).2]
    · rw [upd_n (by omega), upd_n (by omega), upd_n (by omega), m7 k hk]
    · rw [upd_n (by omega), upd_n (by omega), upd_n (by omega)]
  · by_cases hSd2 : S < d
    · have w1 := feed_clone (ta := ta) (cl := cl) (dr := dr) (og := og) (li := li) hs hSd2 hh hb gt (by omega) (by omega) (by omega) es eh ec et e0 e1 n0 n1 (by omega) (by omega)
      have w2 := takes_clone hA (by omega) hh hb gt f2 r2 hSd2 d2 (by omega) (by omega) (by omega) (m0.trans es) x1 m2 m3 x6 x7 x8 xc xt x0 y1 y2 y3 (by omega) (by omega)
      have z0 : c0 * c / (c0 + c1) ≤ c0 := dvle (by omega)
      have z1 : c1 * c / (c0 + c1) ≤ c1 := dvle (by omega)
      generalize c0 * c / (c0 + c1) = p0 at w1 w2 z0
      generalize c1 * c / (c0 + c1) = p1 at w1 w2 z1
      have cc := cnC_in (s0 := p0) (r0 := c0 - p0) (s1 := p1) (r1 := c1 - p1) gt k1 (by omega) (by omega) (by omega) (by omega)
      have rc : RG (A + 10) (2 * S) mm cn := fun i hi => (m6 i hi).1
      have rn : RG (A + 510) (2 * S) mm nx := fun i hi => (m6 i hi).2
      have ro : RG (A + 1010) S mm og := m7
      have rc2 : RG (A + 10) (2 * S + 1 + 1) (mmD (upd mm (A + 2) (ta + 1)) A S h b t p0 (c0 - p0) p1 (c1 - p1) t0 t1 cl) (cnC cn S t p0 (c0 - p0) p1 (c1 - p1)) := by
        unfold mmD mmC cnC
        exact ((((((((((rc.out (by omega)).out (by omega)).out (by omega)).out (by omega)).ext rfl rfl).inn (k := 2 * t) rfl rfl).out (by omega)).ext (by omega) rfl).inn (k := 2 * t + 1) (by omega) rfl).out (by omega)).out (by omega)
      have rn2 : RG (A + 510) (2 * S + 1 + 1) (mmD (upd mm (A + 2) (ta + 1)) A S h b t p0 (c0 - p0) p1 (c1 - p1) t0 t1 cl) (upd (nxC nx S t0 t1) (2 * h + b) (nI S)) := by
        unfold mmD mmC nxC
        exact ((((((((((rn.out (by omega)).out (by omega)).out (by omega)).ext rfl rfl).out (by omega)).out (by omega)).ext (by omega) rfl).out (by omega)).out (by omega)).inn (k := 2 * h + b) (by omega) rfl).out (by omega)
      have ro2 : RG (A + 1010) (S + 1) (mmD (upd mm (A + 2) (ta + 1)) A S h b t p0 (c0 - p0) p1 (c1 - p1) t0 t1 cl) (upd og S (nI t)) := by
        unfold mmD mmC
        exact ((((((((((ro.out (by omega)).out (by omega)).ext rfl rfl).out (by omega)).out (by omega)).out (by omega)).out (by omega)).out (by omega)).out (by omega)).out (by omega)).out (by omega)
      have ko : ∀ j, (j < A ∨ (A + 4 ≤ j ∧ j < A + 10) ∨ A + 1260 ≤ j) → mmD (upd mm (A + 2) (ta + 1)) A S h b t p0 (c0 - p0) p1 (c1 - p1) t0 t1 cl j = mm j := by
        intro j hj
        unfold mmD mmC
        rw [upd_n (by omega), upd_n (by omega), upd_n (by omega), upd_n (by omega), upd_n (by omega), upd_n (by omega), upd_n (by omega), upd_n (by omega), upd_n (by omega), upd_n (by omega), upd_n (by omega)]
      have kA : mmD (upd mm (A + 2) (ta + 1)) A S h b t p0 (c0 - p0) p1 (c1 - p1) t0 t1 cl A = nI (S + 1) := by
        unfold mmD mmC
        rw [upd_n (by omega), upd_n (by omega), upd_n (by omega), upd_n (by omega), upd_n (by omega), upd_n (by omega), upd_n (by omega), upd_n (by omega), upd_n (by omega), upd_e rfl]
      have k2' : mmD (upd mm (A + 2) (ta + 1)) A S h b t p0 (c0 - p0) p1 (c1 - p1) t0 t1 cl (A + 2) = ta + 1 := by
        unfold mmD mmC
        rw [upd_n (by omega), upd_n (by omega), upd_n (by omega), upd_n (by omega), upd_n (by omega), upd_n (by omega), upd_n (by omega), upd_n (by omega), upd_n (by omega), upd_n (by omega), upd_e rfl]
      have k3' : mmD (upd mm (A + 2) (ta + 1)) A S h b t p0 (c0 - p0) p1 (c1 - p1) t0 t1 cl (A + 3) = cl + 1 := by
        unfold mmD
        rw [upd_e rfl]
      generalize mmD (upd mm (A + 2) (ta + 1)) A S h b t p0 (c0 - p0) p1 (c1 - p1) t0 t1 cl = m9 at w2 rc2 rn2 ro2 ko kA k2' k3'
      generalize cnC cn S t p0 (c0 - p0) p1 (c1 - p1) = c9 at w1 cc rc2
      have hv : m9 (A + 10 + 2 * h + b) = c9 (2 * h + b) := by rw [show A + 10 + 2 * h + b = A + 10 + (2 * h + b) by omega]; exact rc2 _ (by omega)
      refine ⟨S + 1, S, nI (S + 1), nI S, ta + 1, cl + 1, dr, _, _, _, _, _, w1, w2, ⟨rfl, rfl, by omega, ⟨d, s3, by omega, d2⟩, fun i hi => ?_, fun i hi => ?_, fun k hk => ?_⟩, ⟨hA, ?_, ?_, ?_, ?_, ?_, fun k hk => ?_, fun i hi => ⟨?_, ?_⟩, fun k hk => ?_⟩, fun j hj => ?_⟩
      · by_cases q : i = 2 * h + b
        · obtain ⟨v, v1, v2⟩ := cc (2 * h + b) (by omega)
          exact ⟨v + 1, by omega, by rw [upd_e q, v2, nI_1]⟩
        · obtain ⟨v, v1, v2⟩ := cc i hi
          exact ⟨v, by omega, by rw [upd_n q, v2]⟩
      · by_cases q : i = 2 * h + b
        · exact ⟨S, by omega, upd_e q⟩
        · rw [upd_n q]
          unfold nxC
          by_cases q2 : i = 2 * S + 1
          · exact ⟨t1, by omega, upd_e q2⟩
          · rw [upd_n q2]
            by_cases q3 : i = 2 * S
            · exact ⟨t0, by omega, upd_e q3⟩
            · rw [upd_n q3]
              obtain ⟨v, v1, v2⟩ := k2 i (by omega)
              exact ⟨v, by omega, v2⟩
      · by_cases q : k = S
        · right
          exact ⟨t, by omega, upd_e q, by rw [upd_e q, upd_n (by omega)]⟩
        · rw [upd_n q, upd_n q]
          rcases k3 k (by omega) with v | ⟨j, v1, v2, v3⟩
          · exact Or.inl v
          · right
            exact ⟨j, v1, v2, by rw [upd_n (by omega), v3]⟩
      · rw [upd_n (by omega), upd_n (by omega), kA]
      · rw [upd_e rfl]
      · rw [upd_n (by omega), upd_n (by omega), k2']
      · rw [upd_n (by omega), upd_n (by omega), k3']
      · rw [upd_n (by omega), upd_n (by omega), ko _ (by omega), m4]
      · rw [upd_n (by omega), upd_n (by omega), ko _ (by omega), m5 k hk]
      · exact ((rc2.inn (k := 2 * h + b) (by omega) (by rw [hv])).out (by omega)) i (by omega)
      · exact ((rn2.out (by omega)).out (by omega)) i (by omega)
      · exact ((ro2.out (by omega)).out (by omega)) k hk
      · rw [upd_n (by omega), upd_n (by omega), ko j (by omega)]
    · have hd3 : S = d := by omega
      have w1 := feed_drop (ta := ta) (cl := cl) (dr := dr) (og := og) (li := li) hs hS hh hb gt (by omega) (by omega) (by omega) es eh ec et e0 e1 (by omega) (by omega) (by omega)
      have w2 := takes_drop hA hS hh hb gt f2 r2 (by omega) (by omega) (by omega) (m0.trans es) x1 m2 m4 x6 x7 (by rw [x8, hd3]) xc xt x0 y1 (by omega) (by omega)
      obtain ⟨cn', nx', og', li', z1, z2, z3⟩ := shape_sim (cn := cn) (nx := nx) (og := og) (li := li) hs
      have hS0 := S0_le a
      obtain ⟨q0, ha, -⟩ := id hs
      obtain ⟨m9, v1, v2, v3, v4, v5, v6⟩ := lays_sim (mm := upd (upd mm (A + 2) (ta + 1)) (A + 4) (dr + 1)) ha hA (by rw [upd_n (by omega), upd_n (by omega), ← q0]; exact m5 0 (by omega))
      rw [z1, bi6_s] at w1
      rw [v1, bi1_s] at w2
      refine ⟨S0 a, 0, nI (S0 a), 0, ta + 1, cl, dr + 1, cn', nx', og', li', m9, w1, w2, ⟨rfl, rfl, by omega, ⟨d, s3, by omega, d2⟩, fun i hi => ⟨1, by omega, (z2 i hi).1⟩, fun i hi => ?_, fun k hk => Or.inl (z3 k hk)⟩, ⟨hA, v2, v3, ?_, ?_, ?_, fun k hk => ?_, fun i hi => ⟨?_, ?_⟩, fun k hk => ?_⟩, fun j hj => ?_⟩
      · rw [(z2 i hi).2]
        exact nxv_in ha hi
      · rw [v6 _ (by omega), upd_n (by omega), upd_e rfl]
      · rw [v6 _ (by omega), upd_n (by omega), upd_n (by omega), m3]
      · rw [v6 _ (by omega), upd_e rfl]
      · rw [v6 _ (by omega), upd_n (by omega), upd_n (by omega), m5 k hk]
      · rw [(v4 i hi).1, (z2 i hi).1]
      · rw [(v4 i hi).2, (z2 i hi).2]
      · rw [v5 k hk, (z3 k hk).1]
      · rw [v6 j (by omega), upd_n (by omega), upd_n (by omega)]
