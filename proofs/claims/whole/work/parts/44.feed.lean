theorem get5 {sv : Nat → Int32} {k : Nat} (hk : k < 5) : f_X5_get sv (nI k) = sv k := by
  unfold f_X5_get
  exact get_nI hk (by omega)
/-- the reference's cloning -/
def mmD (m : Nat → Int32) (A S h b t s0 r0 s1 r1 t0 t1 : Nat) (cl : Int32) : Nat → Int32 := upd (upd (mmC (upd (upd m A (nI (S + 1))) (A + 1010 + S) (nI t)) A S t s0 r0 s1 r1 t0 t1) (A + 510 + 2 * h + b) (nI S)) (A + 3) (cl + 1)
theorem mclones {A S h b t c w c0 c1 t0 t1 : Nat} {m : Nat → Int32} {cl : Int32} (hA : A + 1260 ≤ 5040) (hS : S < 250) (hh : h < S) (hb : b < 2) (ht : t < S) (hc : c < 2 ^ 20) (hw : c < w) (hw2 : w < 2 ^ 21) (hc0 : c0 < 2 ^ 20) (hc1 : c1 < 2 ^ 20) (eS : m A = nI S) (e3 : m (A + 3) = cl) (e0 : m (A + 10 + 2 * t) = nI c0) (e1 : m (A + 10 + 2 * t + 1) = nI c1) (n0 : m (A + 510 + 2 * t) = nI t0) (n1 : m (A + 510 + 2 * t + 1) = nI t1) : f_X9_clones m (nI A) (nI h) (nI b) (nI t) (nI c) (nI w) = some (mmD m A S h b t (c0 * c / w) (c0 - c0 * c / w) (c1 * c / w) (c1 - c1 * c / w) t0 t1 cl) := by
  have key := mclone_in (m := upd (upd m A (nI (S + 1))) (A + 1010 + S) (nI t)) (t0 := t0) (t1 := t1) hA hS ht hc hw hw2 hc0 hc1 (by rw [upd_n (by omega), upd_n (by omega), e0]) (by rw [upd_n (by omega), upd_n (by omega), e1]) (by rw [upd_n (by omega), upd_n (by omega), n0]) (by rw [upd_n (by omega), upd_n (by omega), n1])
  unfold f_X9_clones
  simp (disch := omega) only [il0, il1, il2, il3, il10, il510, il1010, nI_add, pk_mul, nI_clamp, oobn, Nat.add_zero, eS] at key ⊢
  rw [key, bi2_s]
  have g : mmC (upd (upd m A (nI (S + 1))) (A + 1010 + S) (nI t)) A S t (c0 * c / w) (c0 - c0 * c / w) (c1 * c / w) (c1 - c1 * c / w) t0 t1 (A + 3) = cl := by
    unfold mmC
    rw [upd_n (by omega), upd_n (by omega), upd_n (by omega), upd_n (by omega), upd_n (by omega), upd_n (by omega), upd_n (by omega), upd_n (by omega), e3]
  unfold mmD
  simp (disch := omega) only [oobn, upd_n, g, il1]
section FEED
variable {B S h b a F R d e c t c0 c1 t0 t1 : Nat} {sv cn nx og li : Nat → Int32} {st he ta cl dr : Int32}
theorem feed_plain (hs : SV sv a F R d e) (hS : S ≤ 250) (hh : h < S) (hb : b < 2) (ht : t < S) (hc : c < 2 ^ 20) (hc0 : c0 < 2 ^ 20) (hc1 : c1 < 2 ^ 20) (eh : he = nI h) (ec : cn (2 * h + b) = nI c) (et : nx (2 * h + b) = nI t) (e0 : cn (2 * t) = nI c0) (e1 : cn (2 * t + 1) = nI c1) (hq : c ≤ F ∨ c0 + c1 ≤ c + R) : f_X2_feed st he ta cl dr cn nx og li sv (nI b) = some (st, nI t, ta + 1, cl, dr, upd cn (2 * h + b) (nI (c + 1)), nx, og, li) := by
  obtain ⟨-, -, s1, f1, f2, s2, r1, r2, -⟩ := hs
  have g0 : f_X4_get 500 cn (f_X2_path he (nI b)) = nI c := by rw [eh, path_nI, get_nI (by omega) (by omega), ec]
  have g1 : f_X4_get 500 nx (f_X2_path he (nI b)) = nI t := by rw [eh, path_nI, get_nI (by omega) (by omega), et]
  have g2 : f_X5_get sv 1 = nI F := by rw [il1, get5 (by omega), s1]
  have g3 : f_X5_get sv 2 = nI R := by rw [il2, get5 (by omega), s2]
  have g4 : f_X4_put 500 cn (f_X2_path he (nI b)) (nI c + 1) = upd cn (2 * h + b) (nI (c + 1)) := by rw [eh, path_nI, put_nI (by omega) (by omega), nI_1]
  unfold f_X2_feed
  rw [g0, g1, g2, g3, both_nI (S := S) (by omega) e0 e1, g4]
  by_cases q : c ≤ F
  · rw [if_pos (nI_le q (by omega))]
  · rw [if_neg (nI_ge (by omega) (by omega)), if_pos ((sub_le (by omega) (by omega) (by omega)).mpr (by omega))]
theorem feed_drop (hs : SV sv a F R d e) (hS : S ≤ 250) (hh : h < S) (hb : b < 2) (ht : t < S) (hc : c < 2 ^ 20) (hc0 : c0 < 2 ^ 20) (hc1 : c1 < 2 ^ 20) (es : st = nI S) (eh : he = nI h) (ec : cn (2 * h + b) = nI c) (et : nx (2 * h + b) = nI t) (e0 : cn (2 * t) = nI c0) (e1 : cn (2 * t + 1) = nI c1) (hq : F < c) (hq2 : c + R < c0 + c1) (hd : d ≤ S) : f_X2_feed st he ta cl dr cn nx og li sv (nI b) = bi6 (f_X2_shapeAnew cn nx og li sv) (fun s1 h1 c1 n1 o1 l1 => some (s1, h1, ta + 1, cl, dr + 1, c1, n1, o1, l1)) := by
  obtain ⟨-, -, s1, f1, f2, s2, r1, r2, s3, -⟩ := hs
  have g0 : f_X4_get 500 cn (f_X2_path he (nI b)) = nI c := by rw [eh, path_nI, get_nI (by omega) (by omega), ec]
  have g1 : f_X4_get 500 nx (f_X2_path he (nI b)) = nI t := by rw [eh, path_nI, get_nI (by omega) (by omega), et]
  have g2 : f_X5_get sv 1 = nI F := by rw [il1, get5 (by omega), s1]
  have g3 : f_X5_get sv 2 = nI R := by rw [il2, get5 (by omega), s2]
  have g5 : f_X5_get sv 3 = nI d := by rw [il3, get5 (by omega), s3]
  unfold f_X2_feed
  rw [g0, g1, g2, g3, g5, both_nI (S := S) (by omega) e0 e1, if_neg (nI_ge hq (by omega)), if_neg (fun q => by have := (sub_le (by omega) (by omega) (by omega)).mp q; omega), es, if_neg (nI_nlt hd (by omega))]
theorem feed_clone (hs : SV sv a F R d e) (hS : S < d) (hh : h < S) (hb : b < 2) (ht : t < S) (hc : c < 2 ^ 20) (hc0 : c0 < 2 ^ 20) (hc1 : c1 < 2 ^ 20) (es : st = nI S) (eh : he = nI h) (ec : cn (2 * h + b) = nI c) (et : nx (2 * h + b) = nI t) (e0 : cn (2 * t) = nI c0) (e1 : cn (2 * t + 1) = nI c1) (n0 : nx (2 * t) = nI t0) (n1 : nx (2 * t + 1) = nI t1) (hq : F < c) (hq2 : c + R < c0 + c1) : f_X2_feed st he ta cl dr cn nx og li sv (nI b) = some (nI (S + 1), nI S, ta + 1, cl + 1, dr, upd (cnC cn S t (c0 * c / (c0 + c1)) (c0 - c0 * c / (c0 + c1)) (c1 * c / (c0 + c1)) (c1 - c1 * c / (c0 + c1))) (2 * h + b) (cnC cn S t (c0 * c / (c0 + c1)) (c0 - c0 * c / (c0 + c1)) (c1 * c / (c0 + c1)) (c1 - c1 * c / (c0 + c1)) (2 * h + b) + 1), upd (nxC nx S t0 t1) (2 * h + b) (nI S), upd og S (nI t), upd li S (li t + 1)) := by
  obtain ⟨-, -, s1, f1, f2, s2, r1, r2, s3, d1, d2, -⟩ := hs
  have g0 : f_X4_get 500 cn (f_X2_path he (nI b)) = nI c := by rw [eh, path_nI, get_nI (by omega) (by omega), ec]
  have g1 : f_X4_get 500 nx (f_X2_path he (nI b)) = nI t := by rw [eh, path_nI, get_nI (by omega) (by omega), et]
  have g2 : f_X5_get sv 1 = nI F := by rw [il1, get5 (by omega), s1]
  have g3 : f_X5_get sv 2 = nI R := by rw [il2, get5 (by omega), s2]
  have g5 : f_X5_get sv 3 = nI d := by rw [il3, get5 (by omega), s3]
  have g6 : f_X2_cloneFrom st cl cn nx og li (nI t) (nI c) (nI (c0 + c1)) = some (nI S, nI (S + 1), cl + 1, cnC cn S t (c0 * c / (c0 + c1)) (c0 - c0 * c / (c0 + c1)) (c1 * c / (c0 + c1)) (c1 - c1 * c / (c0 + c1)), nxC nx S t0 t1, upd og S (nI t), upd li S (li t + 1)) := by
    unfold f_X2_cloneFrom
    rw [es, clone_in (t0 := t0) (t1 := t1) (by omega) ht hc (by omega) (by omega) hc0 hc1 e0 e1 n0 n1, bi3_s, put_nI (by omega) (by omega), put_nI (by omega) (by omega), get_nI (by omega) (by omega), nI_1]
  unfold f_X2_feed
  rw [g0, g1, g2, g3, g5, both_nI (S := S) (by omega) e0 e1, if_neg (nI_ge hq (by omega)), if_neg (fun q => by have := (sub_le (by omega) (by omega) (by omega)).mp q; omega), if_pos (by rw [es]; exact nI_lt hS (by omega)), g6, bi7_s, eh, path_nI, put_nI (by omega) (by omega), put_nI (by omega) (by omega), get_nI (by omega) (by omega), get_nI (by omega) (by omega), upd_e rfl]
end FEED
section TAKES
variable {A B S h b a F R d e c t c0 c1 t0 t1 : Nat} {mm : Nat → Int32} {ta cl dr : Int32}
theorem takes_plain (hA : A + 1260 ≤ 5040) (hS : S ≤ 250) (hh : h < S) (hb : b < 2) (ht : t < S) (hF : F ≤ 200) (hR : R ≤ 200) (hc : c < 2 ^ 20) (hc0 : c0 < 2 ^ 20) (hc1 : c1 < 2 ^ 20) (m1 : mm (A + 1) = nI h) (m2 : mm (A + 2) = ta) (m6 : mm (A + 5 + 1) = nI F) (m7 : mm (A + 5 + 2) = nI R) (ec : mm (A + 10 + 2 * h + b) = nI c) (et : mm (A + 510 + 2 * h + b) = nI t) (e0 : mm (A + 10 + 2 * t) = nI c0) (e1 : mm (A + 10 + 2 * t + 1) = nI c1) (hq : c ≤ F ∨ c0 + c1 ≤ c + R) : f_X9_takes mm (nI A) (nI b) = some (upd (upd (upd mm (A + 2) (ta + 1)) (A + 10 + 2 * h + b) (nI (c + 1))) (A + 1) (nI t)) := by
  have k := mboth hA (show t < 250 by omega) e0 e1
  unfold f_X9_takes
  by_cases q : c ≤ F
  · simp (disch := omega) only [il0, il1, il2, il5, il10, il510, nI_add, pk_mul, nI_clamp, oobn, m1, m2, et, ec, k, bi1_s, upd_n, m6, ile_t]
  · have q2 := (sub_le (a := c0 + c1) (c := c) (r := R) (by omega) (by omega) (by omega)).mpr (by omega)
    simp (disch := omega) only [il0, il1, il2, il5, il10, il510, nI_add, pk_mul, nI_clamp, oobn, m1, m2, et, ec, k, bi1_s, upd_n, m6, m7, ile_f, if_pos q2]
theorem takes_drop (hA : A + 1260 ≤ 5040) (hS : S ≤ 250) (hh : h < S) (hb : b < 2) (ht : t < S) (hF : F ≤ 200) (hR : R ≤ 200) (hc : c < 2 ^ 20) (hc0 : c0 < 2 ^ 20) (hc1 : c1 < 2 ^ 20) (m0 : mm A = nI S) (m1 : mm (A + 1) = nI h) (m2 : mm (A + 2) = ta) (m4 : mm (A + 4) = dr) (m6 : mm (A + 5 + 1) = nI F) (m7 : mm (A + 5 + 2) = nI R) (m8 : mm (A + 5 + 3) = nI S) (ec : mm (A + 10 + 2 * h + b) = nI c) (et : mm (A + 510 + 2 * h + b) = nI t) (e0 : mm (A + 10 + 2 * t) = nI c0) (e1 : mm (A + 10 + 2 * t + 1) = nI c1) (hq : F < c) (hq2 : c + R < c0 + c1) : f_X9_takes mm (nI A) (nI b) = bi1 (f_X9_lays (upd (upd mm (A + 2) (ta + 1)) (A + 4) (dr + 1)) (nI A)) (fun z => some z) := by
  have k := mboth hA (show t < 250 by omega) e0 e1
  have q2 : ¬ nI (c0 + c1) - nI c ≤ nI R := fun q => by have := (sub_le (by omega) (by omega) (by omega)).mp q; omega
  unfold f_X9_takes
  simp (disch := omega) only [il0, il1, il2, il3, il4, il5, il10, il510, nI_add, pk_mul, nI_clamp, oobn, Nat.add_zero, m0, m1, m2, m4, et, ec, k, bi1_s, upd_n, m6, m7, m8, ile_f, if_neg q2, ↓reduceIte]
theorem takes_clone (hA : A + 1260 ≤ 5040) (hS : S < 250) (hh : h < S) (hb : b < 2) (ht : t < S) (hF : F ≤ 200) (hR : R ≤ 200) (hd : S < d) (hd2 : d ≤ 250) (hc : c < 2 ^ 20) (hc0 : c0 < 2 ^ 20) (hc1 : c1 < 2 ^ 20) (m0 : mm A = nI S) (m1 : mm (A + 1) = nI h) (m2 : mm (A + 2) = ta) (m3 : mm (A + 3) = cl) (m6 : mm (A + 5 + 1) = nI F) (m7 : mm (A + 5 + 2) = nI R) (m8 : mm (A + 5 + 3) = nI d) (ec : mm (A + 10 + 2 * h + b) = nI c) (et : mm (A + 510 + 2 * h + b) = nI t) (e0 : mm (A + 10 + 2 * t) = nI c0) (e1 : mm (A + 10 + 2 * t + 1) = nI c1) (n0 : mm (A + 510 + 2 * t) = nI t0) (n1 : mm (A + 510 + 2 * t + 1) = nI t1) (hq : F < c) (hq2 : c + R < c0 + c1) : f_X9_takes mm (nI A) (nI b) = some (upd (upd (mmD (upd mm (A + 2) (ta + 1)) A S h b t (c0 * c / (c0 + c1)) (c0 - c0 * c / (c0 + c1)) (c1 * c / (c0 + c1)) (c1 - c1 * c / (c0 + c1)) t0 t1 cl) (A + 10 + 2 * h + b) (mmD (upd mm (A + 2) (ta + 1)) A S h b t (c0 * c / (c0 + c1)) (c0 - c0 * c / (c0 + c1)) (c1 * c / (c0 + c1)) (c1 - c1 * c / (c0 + c1)) t0 t1 cl (A + 10 + 2 * h + b) + 1)) (A + 1) (nI S)) := by
  have k := mboth hA (show t < 250 by omega) e0 e1
  have q2 : ¬ nI (c0 + c1) - nI c ≤ nI R := fun q => by have := (sub_le (by omega) (by omega) (by omega)).mp q; omega
  have kk := mclones (m := upd mm (A + 2) (ta + 1)) (cl := cl) (t0 := t0) (t1 := t1) hA hS hh hb ht hc (show c < c0 + c1 by omega) (by omega) hc0 hc1 (by rw [upd_n (by omega), m0]) (by rw [upd_n (by omega), m3]) (by rw [upd_n (by omega), e0]) (by rw [upd_n (by omega), e1]) (by rw [upd_n (by omega), n0]) (by rw [upd_n (by omega), n1])
  have g : ∀ x, mmD (upd mm (A + 2) x) A S h b t (c0 * c / (c0 + c1)) (c0 - c0 * c / (c0 + c1)) (c1 * c / (c0 + c1)) (c1 - c1 * c / (c0 + c1)) t0 t1 cl (A + 510 + 2 * h + b) = nI S := by
    intro x
    unfold mmD
    rw [upd_n (by omega), upd_e rfl]
  unfold f_X9_takes
  simp (disch := omega) only [il0, il1, il2, il3, il5, il10, il510, nI_add, pk_mul, nI_clamp, oobn, Nat.add_zero, m0, m1, m2, et, ec, k, bi1_s, upd_n, m6, m7, m8, ile_f, if_neg q2, ieq_f] at kk ⊢
  simp (disch := omega) only [kk, bi1_s, oobn, upd_n, g, il1]
end TAKES
