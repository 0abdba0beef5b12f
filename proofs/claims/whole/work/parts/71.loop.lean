theorem dL_law_0 : decode cL_law 0 = .ok (.new 7, 3) := by decide +kernel
theorem dL_law_3 : decode cL_law 3 = .ok (.dup, 1) := by decide +kernel
theorem dL_law_4 : decode cL_law 4 = .ok (.invokespecial 9, 3) := by decide +kernel
theorem dL_law_7 : decode cL_law 7 = .ok (.astore_n 1, 1) := by decide +kernel
theorem dL_law_8 : decode cL_law 8 = .ok (.new 10, 3) := by decide +kernel
theorem dL_law_11 : decode cL_law 11 = .ok (.dup, 1) := by decide +kernel
theorem dL_law_12 : decode cL_law 12 = .ok (.invokespecial 12, 3) := by decide +kernel
theorem dL_law_15 : decode cL_law 15 = .ok (.astore_n 2, 1) := by decide +kernel
theorem dL_law_16 : decode cL_law 16 = .ok (.iconst 0, 1) := by decide +kernel
theorem dL_law_17 : decode cL_law 17 = .ok (.istore_n 3, 1) := by decide +kernel
theorem dL_law_18 : decode cL_law 18 = .ok (.iload_n 3, 1) := by decide +kernel
theorem dL_law_19 : decode cL_law 19 = .ok (.aload_n 0, 1) := by decide +kernel
theorem dL_law_20 : decode cL_law 20 = .ok (.arraylength, 1) := by decide +kernel
theorem dL_law_21 : decode cL_law 21 = .ok (.iconst 3, 1) := by decide +kernel
theorem dL_law_22 : decode cL_law 22 = .ok (.isub, 1) := by decide +kernel
theorem dL_law_23 : decode cL_law 23 = .ok (.if_icmp .gt 588, 3) := by decide +kernel
theorem dL_law_26 : decode cL_law 26 = .ok (.aload_n 0, 1) := by decide +kernel
theorem dL_law_27 : decode cL_law 27 = .ok (.iload_n 3, 1) := by decide +kernel
theorem dL_law_28 : decode cL_law 28 = .ok (.iaload, 1) := by decide +kernel
theorem dL_law_29 : decode cL_law 29 = .ok (.bipush 31, 2) := by decide +kernel
theorem dL_law_31 : decode cL_law 31 = .ok (.iand, 1) := by decide +kernel
theorem dL_law_32 : decode cL_law 32 = .ok (.tableswitch 573 0 20 #[100, 133, 146, 169, 182, 195, 218, 251, 284, 297, 330, 353, 376, 409, 432, 455, 468, 501, 524, 537, 550], 100) := by decide +kernel
theorem dL_law_605 : decode cL_law 605 = .ok (.iinc 3 3, 3) := by decide +kernel
theorem dL_law_608 : decode cL_law 608 = .ok (.goto (-590), 3) := by decide +kernel
theorem dL_law_611 : decode cL_law 611 = .ok (.iconst 1, 1) := by decide +kernel
theorem dL_law_612 : decode cL_law 612 = .ok (.ireturn, 1) := by decide +kernel
theorem tsw_21 {x : Int32} (h0 : ¬ x = 0) (h1 : ¬ x = 1) (h2 : ¬ x = 2) (h3 : ¬ x = 3) (h4 : ¬ x = 4) (h5 : ¬ x = 5) (h6 : ¬ x = 6) (h7 : ¬ x = 7) (h8 : ¬ x = 8) (h9 : ¬ x = 9) (h10 : ¬ x = 10) (h11 : ¬ x = 11) (h12 : ¬ x = 12) (h13 : ¬ x = 13) (h14 : ¬ x = 14) (h15 : ¬ x = 15) (h16 : ¬ x = 16) (h17 : ¬ x = 17) (h18 : ¬ x = 18) (h19 : ¬ x = 19) (h20 : ¬ x = 20) : x.toInt < 0 ∨ 20 < x.toInt := by
  have g9 := tsw_9 h0 h1 h2 h3 h4 h5 h6 h7 h8
  have g_9 := lv_neT h9 (a := 9) (by decide)
  have g_10 := lv_neT h10 (a := 10) (by decide)
  have g_11 := lv_neT h11 (a := 11) (by decide)
  have g_12 := lv_neT h12 (a := 12) (by decide)
  have g_13 := lv_neT h13 (a := 13) (by decide)
  have g_14 := lv_neT h14 (a := 14) (by decide)
  have g_15 := lv_neT h15 (a := 15) (by decide)
  have g_16 := lv_neT h16 (a := 16) (by decide)
  have g_17 := lv_neT h17 (a := 17) (by decide)
  have g_18 := lv_neT h18 (a := 18) (by decide)
  have g_19 := lv_neT h19 (a := 19) (by decide)
  have g_20 := lv_neT h20 (a := 20) (by decide)
  omega
theorem law_more {L j : Nat} (hL : L ≤ 1536) (hj : 3 * j ≤ L) (h : ¬ Int32.ofNat L - 3 < nI (3 * j)) : 3 * j + 3 ≤ L := by
  rcases Nat.lt_or_ge L (3 * j + 3) with q | q
  · refine absurd ?_ h
    show nI L - 3 < nI (3 * j)
    by_cases q2 : 3 ≤ L
    · rw [il3, nsub q2]
      exact nI_lt (by omega) (by omega)
    · rw [show 3 * j = 0 by omega]
      rcases (show L = 0 ∨ L = 1 ∨ L = 2 by omega) with rfl | rfl | rfl <;> decide +kernel
  · exact q
set_option maxHeartbeats 4000000 in
set_option maxRecDepth 100000 in
theorem law_loop {p : Program} {l : Launch} {e : Env} {s : State} {m : MethodId} {below : List Frame} {meth : Method} {c : Code} {D : va_G} {cI : ClassId} {A : Nat → Prop} {b L : Nat} {xs : Nat → Int32} {q qs qr qi qp qu qk qq q1 q2 qsr qsa qrc qrn qro qrl qrf qrca qrna qroa qrla qrfa qir qia qpr qpa qur qua qkm qkp qkmc qkmn qkmo qkml qkmf qkmca qkmna qkmoa qkmla qkmfa qqm qqp qqmc qqmn qqmo qqml qqmf qqmca qqmna qqmoa qqmla qqmfa q1s q1m q1sr q1sa q1mc q1mn q1mo q1ml q1mf q1mca q1mna q1moa q1mla q1mfa q2s q2m q2sr q2sa q2mc q2mn q2mo q2ml q2mf q2mca q2mna q2moa q2mla q2mfa z zm zi zp zo zg : Nat}  (S : CallFix p m c cL_law 4 s #[Value.ref b] wsG RL) (hX : va_X b L xs s s.heap) (hbl : b < s.heap.size) (hbA : ¬ A b) (hK : va_K D vwCl [(cI, .int)] s) (hN : nw s) (hSF : sf A s s.heap) (hA : ∀ q, s.heap.size ≤ q → A q) (hr : meth.sig.returnType = ret) (hlocks : meth.locks = false) (hAr : ∀ q, A q → s.heap.size ≤ q) (hL : L ≤ 1536) : ∀ (n j : Nat), 3 * j ≤ L → L + 3 ≤ 3 * j + 3 * n → ∀ (H : Heap) (locs : List Loc) (kn : Int32) (s_sv : (Nat → Int32)) (r_st : Int32) (r_he : Int32) (r_ta : Int32) (r_cl : Int32) (r_dr : Int32) (r_cn : (Nat → Int32)) (r_nx : (Nat → Int32)) (r_og : (Nat → Int32)) (r_li : (Nat → Int32)) (r_fl : (Nat → Int32)) (i_room : Int32) (i_len : Int32) (i_bs : (Nat → Int32)) (p_room : Int32) (p_len : Int32) (p_bs : (Nat → Int32)) (u_room : Int32) (u_len : Int32) (u_bs : (Nat → Int32)) (k_used : Int32) (k_lo : Int64) (k_hi : Int64) (k_st : Int32) (k_he : Int32) (k_ta : Int32) (k_cl : Int32) (k_dr : Int32) (k_cn : (Nat → Int32)) (k_nx : (Nat → Int32)) (k_og : (Nat → Int32)) (k_li : (Nat → Int32)) (k_fl : (Nat → Int32)) (q_cde : Int64) (q_pul : Int32) (q_used : Int32) (q_lo : Int64) (q_hi : Int64) (q_st : Int32) (q_he : Int32) (q_ta : Int32) (q_cl : Int32) (q_dr : Int32) (q_cn : (Nat → Int32)) (q_nx : (Nat → Int32)) (q_og : (Nat → Int32)) (q_li : (Nat → Int32)) (q_fl : (Nat → Int32)) (a_sv : (Nat → Int32)) (a_st : Int32) (a_he : Int32) (a_ta : Int32) (a_cl : Int32) (a_dr : Int32) (a_cn : (Nat → Int32)) (a_nx : (Nat → Int32)) (a_og : (Nat → Int32)) (a_li : (Nat → Int32)) (a_fl : (Nat → Int32)) (b_sv : (Nat → Int32)) (b_st : Int32) (b_he : Int32) (b_ta : Int32) (b_cl : Int32) (b_dr : Int32) (b_cn : (Nat → Int32)) (b_nx : (Nat → Int32)) (b_og : (Nat → Int32)) (b_li : (Nat → Int32)) (b_fl : (Nat → Int32)) (kept : Int32) (im : Int32) (pm : Int32) (om : Int32) (lo : Int64) (hi_ : Int64) (cde : Int64) (fr : Int32) (sp : Int32) (mm : (Nat → Int32)) (inp : (Nat → Int32)) (pk : (Nat → Int32)) (out : (Nat → Int32)) (gr : (Nat → Int32)), Iv D cI A q qs qr qi qp qu qk qq q1 q2 qsr qsa qrc qrn qro qrl qrf qrca qrna qroa qrla qrfa qir qia qpr qpa qur qua qkm qkp qkmc qkmn qkmo qkml qkmf qkmca qkmna qkmoa qkmla qkmfa qqm qqp qqmc qqmn qqmo qqml qqmf qqmca qqmna qqmoa qqmla qqmfa q1s q1m q1sr q1sa q1mc q1mn q1mo q1ml q1mf q1mca q1mna q1moa q1mla q1mfa q2s q2m q2sr q2sa q2mc q2mn q2mo q2ml q2mf q2mca q2mna q2moa q2mla q2mfa z zm zi zp zo zg kn s_sv r_st r_he r_ta r_cl r_dr r_cn r_nx r_og r_li r_fl i_room i_len i_bs p_room p_len p_bs u_room u_len u_bs k_used k_lo k_hi k_st k_he k_ta k_cl k_dr k_cn k_nx k_og k_li k_fl q_cde q_pul q_used q_lo q_hi q_st q_he q_ta q_cl q_dr q_cn q_nx q_og q_li q_fl a_sv a_st a_he a_ta a_cl a_dr a_cn a_nx a_og a_li a_fl b_sv b_st b_he b_ta b_cl b_dr b_cn b_nx b_og b_li b_fl kept im pm om lo hi_ cde fr sp mm inp pk out gr (8 * j + 1) H → va_S A s.heap H locs → ∀ (ls : Array Slot), lv_has ls 4 [(0, .ref b), (1, .ref q), (2, .ref z), (3, .int (nI (3 * j)))] → W p l e room_1 s m #[Value.ref b] below meth c H locs 600000 7302250 (lw_Z below #[Value.ref b] s) (F0 m 18 ls []) := by
  obtain ⟨hx, hb, hml, hown, hts⟩ := id S
  intro n
  induction n with
  | zero =>
    intro j h1 h2
    exact absurd h2 (by omega)
  | succ n ih =>
    intro j h1 h2 H locs kn s_sv r_st r_he r_ta r_cl r_dr r_cn r_nx r_og r_li r_fl i_room i_len i_bs p_room p_len p_bs u_room u_len u_bs k_used k_lo k_hi k_st k_he k_ta k_cl k_dr k_cn k_nx k_og k_li k_fl q_cde q_pul q_used q_lo q_hi q_st q_he q_ta q_cl q_dr q_cn q_nx q_og q_li q_fl a_sv a_st a_he a_ta a_cl a_dr a_cn a_nx a_og a_li a_fl b_sv b_st b_he b_ta b_cl b_dr b_cn b_nx b_og b_li b_fl kept im pm om lo hi_ cde fr sp mm inp pk out gr hI hS ls hl
    refine lv_iload_n hx hb dL_law_18 rfl (lv_at hl 3 rfl) ?_
    refine lv_aload_n hx hb dL_law_19 rfl (lv_at hl 0 rfl) ?_
    refine va_slen hx hb hX hbl hbA hS dL_law_20 ?_
    refine lv_iconst (v := 3) hx hb dL_law_21 (by decide) ?_
    refine lv_isub hx hb dL_law_22 ?_
    refine lv_icmp_gt (tgt := 611) hx hb dL_law_23 (by decide) (fun c_1 => ?_) (fun c_1 => ?_)
    · refine lv_iconst (v := 1) hx hb dL_law_611 (by decide) ?_
      refine va_forget (fun q hq => hAr _ (hS.2.2 q hq)) ?_
      exact lw_ret hx hb hr hlocks dL_law_612
    have h3 := law_more hL h1 c_1
    have hi0 : vp_in (nI (3 * j)) L := vp_in_nI (by omega) (by omega)
    have hi1 : vp_in (nI (3 * j) + 1) L := by rw [nI_1]; exact vp_in_nI (by omega) (by omega)
    have hi2 : vp_in (nI (3 * j) + 2) L := by rw [il2, nI_add]; exact vp_in_nI (by omega) (by omega)
    have kk : ∀ (H : Heap) (locs : List Loc) (kn : Int32) (s_sv : (Nat → Int32)) (r_st : Int32) (r_he : Int32) (r_ta : Int32) (r_cl : Int32) (r_dr : Int32) (r_cn : (Nat → Int32)) (r_nx : (Nat → Int32)) (r_og : (Nat → Int32)) (r_li : (Nat → Int32)) (r_fl : (Nat → Int32)) (i_room : Int32) (i_len : Int32) (i_bs : (Nat → Int32)) (p_room : Int32) (p_len : Int32) (p_bs : (Nat → Int32)) (u_room : Int32) (u_len : Int32) (u_bs : (Nat → Int32)) (k_used : Int32) (k_lo : Int64) (k_hi : Int64) (k_st : Int32) (k_he : Int32) (k_ta : Int32) (k_cl : Int32) (k_dr : Int32) (k_cn : (Nat → Int32)) (k_nx : (Nat → Int32)) (k_og : (Nat → Int32)) (k_li : (Nat → Int32)) (k_fl : (Nat → Int32)) (q_cde : Int64) (q_pul : Int32) (q_used : Int32) (q_lo : Int64) (q_hi : Int64) (q_st : Int32) (q_he : Int32) (q_ta : Int32) (q_cl : Int32) (q_dr : Int32) (q_cn : (Nat → Int32)) (q_nx : (Nat → Int32)) (q_og : (Nat → Int32)) (q_li : (Nat → Int32)) (q_fl : (Nat → Int32)) (a_sv : (Nat → Int32)) (a_st : Int32) (a_he : Int32) (a_ta : Int32) (a_cl : Int32) (a_dr : Int32) (a_cn : (Nat → Int32)) (a_nx : (Nat → Int32)) (a_og : (Nat → Int32)) (a_li : (Nat → Int32)) (a_fl : (Nat → Int32)) (b_sv : (Nat → Int32)) (b_st : Int32) (b_he : Int32) (b_ta : Int32) (b_cl : Int32) (b_dr : Int32) (b_cn : (Nat → Int32)) (b_nx : (Nat → Int32)) (b_og : (Nat → Int32)) (b_li : (Nat → Int32)) (b_fl : (Nat → Int32)) (kept : Int32) (im : Int32) (pm : Int32) (om : Int32) (lo : Int64) (hi_ : Int64) (cde : Int64) (fr : Int32) (sp : Int32) (mm : (Nat → Int32)) (inp : (Nat → Int32)) (pk : (Nat → Int32)) (out : (Nat → Int32)) (gr : (Nat → Int32)), Iv D cI A q qs qr qi qp qu qk qq q1 q2 qsr qsa qrc qrn qro qrl qrf qrca qrna qroa qrla qrfa qir qia qpr qpa qur qua qkm qkp qkmc qkmn qkmo qkml qkmf qkmca qkmna qkmoa qkmla qkmfa qqm qqp qqmc qqmn qqmo qqml qqmf qqmca qqmna qqmoa qqmla qqmfa q1s q1m q1sr q1sa q1mc q1mn q1mo q1ml q1mf q1mca q1mna q1moa q1mla q1mfa q2s q2m q2sr q2sa q2mc q2mn q2mo q2ml q2mf q2mca q2mna q2moa q2mla q2mfa z zm zi zp zo zg kn s_sv r_st r_he r_ta r_cl r_dr r_cn r_nx r_og r_li r_fl i_room i_len i_bs p_room p_len p_bs u_room u_len u_bs k_used k_lo k_hi k_st k_he k_ta k_cl k_dr k_cn k_nx k_og k_li k_fl q_cde q_pul q_used q_lo q_hi q_st q_he q_ta q_cl q_dr q_cn q_nx q_og q_li q_fl a_sv a_st a_he a_ta a_cl a_dr a_cn a_nx a_og a_li a_fl b_sv b_st b_he b_ta b_cl b_dr b_cn b_nx b_og b_li b_fl kept im pm om lo hi_ cde fr sp mm inp pk out gr (8 * j + 1 + 8) H → va_S A s.heap H locs → W p l e room_1 s m #[Value.ref b] below meth c H locs 600000 7302250 (lw_Z below #[Value.ref b] s) (F0 m 605 ls []) := by
      intro H locs kn s_sv r_st r_he r_ta r_cl r_dr r_cn r_nx r_og r_li r_fl i_room i_len i_bs p_room p_len p_bs u_room u_len u_bs k_used k_lo k_hi k_st k_he k_ta k_cl k_dr k_cn k_nx k_og k_li k_fl q_cde q_pul q_used q_lo q_hi q_st q_he q_ta q_cl q_dr q_cn q_nx q_og q_li q_fl a_sv a_st a_he a_ta a_cl a_dr a_cn a_nx a_og a_li a_fl b_sv b_st b_he b_ta b_cl b_dr b_cn b_nx b_og b_li b_fl kept im pm om lo hi_ cde fr sp mm inp pk out gr hI hS
      refine lv_iinc (v := nI (3 * (j + 1))) (lv' := [(3, .int (nI (3 * (j + 1)))), (0, .ref b), (1, .ref q), (2, .ref z)]) hx hb dL_law_605 hl (k := 3) rfl (by show nI (3 * j) + 3 = _; rw [il3, nI_add]; rfl) (by decide) rfl (fun ls hl => ?_)
      refine lv_goto (tgt := 18) hx hb dL_law_608 (by decide) ?_
      exact ih (j + 1) (by omega) (by omega) H locs kn s_sv r_st r_he r_ta r_cl r_dr r_cn r_nx r_og r_li r_fl i_room i_len i_bs p_room p_len p_bs u_room u_len u_bs k_used k_lo k_hi k_st k_he k_ta k_cl k_dr k_cn k_nx k_og k_li k_fl q_cde q_pul q_used q_lo q_hi q_st q_he q_ta q_cl q_dr q_cn q_nx q_og q_li q_fl a_sv a_st a_he a_ta a_cl a_dr a_cn a_nx a_og a_li a_fl b_sv b_st b_he b_ta b_cl b_dr b_cn b_nx b_og b_li b_fl kept im pm om lo hi_ cde fr sp mm inp pk out gr hI hS ls (lv_sub hl [1, 2, 3, 0] rfl)
    refine lv_aload_n hx hb dL_law_26 rfl (lv_at hl 0 rfl) ?_
    refine lv_iload_n hx hb dL_law_27 rfl (lv_at hl 3 rfl) ?_
    refine va_sld hx hb hX hbl hbA hS hi0 dL_law_28 ?_
    refine lv_bipush (v := 31) hx hb dL_law_29 (by decide) ?_
    refine lv_iand hx hb dL_law_31 ?_
    refine lv_topi (fun x ex => ?_)
    by_cases k0 : x = 0
    · refine lv_tableIn (tgt := 132) hx hb dL_law_32 (by rw [k0]; decide) (by rw [k0]; decide) (by rw [k0]; rfl) (by decide) ?_
      exact law_set S hX hbl hbA hK hN hSF hA (by omega) (by omega) hi1 hi2 hI hS hl kk
    by_cases k1 : x = 1
    · refine lv_tableIn (tgt := 165) hx hb dL_law_32 (by rw [k1]; decide) (by rw [k1]; decide) (by rw [k1]; rfl) (by decide) ?_
      exact law_renew S hX hbl hbA hK hN hSF hA (by omega) (by omega) hi1 hi2 hI hS hl kk
    by_cases k2 : x = 2
    · refine lv_tableIn (tgt := 178) hx hb dL_law_32 (by rw [k2]; decide) (by rw [k2]; decide) (by rw [k2]; rfl) (by decide) ?_
      exact law_write S hX hbl hbA hK hN hSF hA (by omega) (by omega) hi1 hi2 hI hS hl kk
    by_cases k3 : x = 3
    · refine lv_tableIn (tgt := 201) hx hb dL_law_32 (by rw [k3]; decide) (by rw [k3]; decide) (by rw [k3]; rfl) (by decide) ?_
      exact law_wipe S hX hbl hbA hK hN hSF hA (by omega) (by omega) hi1 hi2 hI hS hl kk
    by_cases k4 : x = 4
    · refine lv_tableIn (tgt := 214) hx hb dL_law_32 (by rw [k4]; decide) (by rw [k4]; decide) (by rw [k4]; rfl) (by decide) ?_
      exact law_pack S hX hbl hbA hK hN hSF hA (by omega) (by omega) hi1 hi2 hI hS hl kk
    by_cases k5 : x = 5
    · refine lv_tableIn (tgt := 227) hx hb dL_law_32 (by rw [k5]; decide) (by rw [k5]; decide) (by rw [k5]; rfl) (by decide) ?_
      exact law_unpack S hX hbl hbA hK hN hSF hA (by omega) (by omega) hi1 hi2 hI hS hl kk
    by_cases k6 : x = 6
    · refine lv_tableIn (tgt := 250) hx hb dL_law_32 (by rw [k6]; decide) (by rw [k6]; decide) (by rw [k6]; rfl) (by decide) ?_
      exact law_spoil S hX hbl hbA hK hN hSF hA (by omega) (by omega) hi1 hi2 hI hS hl kk
    by_cases k7 : x = 7
    · refine lv_tableIn (tgt := 283) hx hb dL_law_32 (by rw [k7]; decide) (by rw [k7]; decide) (by rw [k7]; rfl) (by decide) ?_
      exact law_at S hX hbl hbA hK hN hSF hA (by omega) (by omega) hi1 hi2 hI hS hl kk
    by_cases k8 : x = 8
    · refine lv_tableIn (tgt := 316) hx hb dL_law_32 (by rw [k8]; decide) (by rw [k8]; decide) (by rw [k8]; rfl) (by decide) ?_
      exact law_alike S hX hbl hbA hK hN hSF hA (by omega) (by omega) hi1 hi2 hI hS hl kk
    by_cases k9 : x = 9
    · refine lv_tableIn (tgt := 329) hx hb dL_law_32 (by rw [k9]; decide) (by rw [k9]; decide) (by rw [k9]; rfl) (by decide) ?_
      exact law_grew S hX hbl hbA hK hN hSF hA (by omega) (by omega) hi1 hi2 hI hS hl kk
    by_cases k10 : x = 10
    · refine lv_tableIn (tgt := 362) hx hb dL_law_32 (by rw [k10]; decide) (by rw [k10]; decide) (by rw [k10]; rfl) (by decide) ?_
      exact law_bit S hX hbl hbA hK hN hSF hA (by omega) (by omega) hi1 hi2 hI hS hl kk
    by_cases k11 : x = 11
    · refine lv_tableIn (tgt := 385) hx hb dL_law_32 (by rw [k11]; decide) (by rw [k11]; decide) (by rw [k11]; rfl) (by decide) ?_
      exact law_take S hX hbl hbA hK hN hSF hA (by omega) (by omega) hi1 hi2 hI hS hl kk
    by_cases k12 : x = 12
    · refine lv_tableIn (tgt := 408) hx hb dL_law_32 (by rw [k12]; decide) (by rw [k12]; decide) (by rw [k12]; rfl) (by decide) ?_
      exact law_state S hX hbl hbA hK hN hSF hA (by omega) (by omega) hi1 hi2 hI hS hl kk
    by_cases k13 : x = 13
    · refine lv_tableIn (tgt := 441) hx hb dL_law_32 (by rw [k13]; decide) (by rw [k13]; decide) (by rw [k13]; rfl) (by decide) ?_
      exact law_live S hX hbl hbA hK hN hSF hA (by omega) (by omega) hi1 hi2 hI hS hl kk
    by_cases k14 : x = 14
    · refine lv_tableIn (tgt := 464) hx hb dL_law_32 (by rw [k14]; decide) (by rw [k14]; decide) (by rw [k14]; rfl) (by decide) ?_
      exact law_likely S hX hbl hbA hK hN hSF hA (by omega) (by omega) hi1 hi2 hI hS hl kk
    by_cases k15 : x = 15
    · refine lv_tableIn (tgt := 487) hx hb dL_law_32 (by rw [k15]; decide) (by rw [k15]; decide) (by rw [k15]; rfl) (by decide) ?_
      exact law_guess S hX hbl hbA hK hN hSF hA (by omega) (by omega) hi1 hi2 hI hS hl kk
    by_cases k16 : x = 16
    · refine lv_tableIn (tgt := 500) hx hb dL_law_32 (by rw [k16]; decide) (by rw [k16]; decide) (by rw [k16]; rfl) (by decide) ?_
      exact law_cost S hX hbl hbA hK hN hSF hA (by omega) (by omega) hi1 hi2 hI hS hl kk
    by_cases k17 : x = 17
    · refine lv_tableIn (tgt := 533) hx hb dL_law_32 (by rw [k17]; decide) (by rw [k17]; decide) (by rw [k17]; rfl) (by decide) ?_
      exact law_cheapest S hX hbl hbA hK hN hSF hA (by omega) (by omega) hi1 hi2 hI hS hl kk
    by_cases k18 : x = 18
    · refine lv_tableIn (tgt := 556) hx hb dL_law_32 (by rw [k18]; decide) (by rw [k18]; decide) (by rw [k18]; rfl) (by decide) ?_
      exact law_keep S hX hbl hbA hK hN hSF hA (by omega) (by omega) hi1 hi2 hI hS hl kk
    by_cases k19 : x = 19
    · refine lv_tableIn (tgt := 569) hx hb dL_law_32 (by rw [k19]; decide) (by rw [k19]; decide) (by rw [k19]; rfl) (by decide) ?_
      exact law_back S hX hbl hbA hK hN hSF hA (by omega) (by omega) hi1 hi2 hI hS hl kk
    by_cases k20 : x = 20
    · refine lv_tableIn (tgt := 582) hx hb dL_law_32 (by rw [k20]; decide) (by rw [k20]; decide) (by rw [k20]; rfl) (by decide) ?_
      exact law_count S hX hbl hbA hK hN hSF hA (by omega) (by omega) hi1 hi2 hI hS hl kk
    refine lv_tableOut (tgt := 605) hx hb dL_law_32 (tsw_21 k0 k1 k2 k3 k4 k5 k6 k7 k8 k9 k10 k11 k12 k13 k14 k15 k16 k17 k18 k19 k20) (by decide) ?_
    obtain ⟨hP, hD, gX, gP, gI, gK, gU, g0, g3⟩ := hI
    exact kk H locs kn s_sv r_st r_he r_ta r_cl r_dr r_cn r_nx r_og r_li r_fl i_room i_len i_bs p_room p_len p_bs u_room u_len u_bs k_used k_lo k_hi k_st k_he k_ta k_cl k_dr k_cn k_nx k_og k_li k_fl q_cde q_pul q_used q_lo q_hi q_st q_he q_ta q_cl q_dr q_cn q_nx q_og q_li q_fl a_sv a_st a_he a_ta a_cl a_dr a_cn a_nx a_og a_li a_fl b_sv b_st b_he b_ta b_cl b_dr b_cn b_nx b_og b_li b_fl kept im pm om lo hi_ cde fr sp mm inp pk out gr ⟨hP, hD, gX.mono (by omega), gP.keep (by omega) (fun _ _ => rfl), gI, gK, gU, g0, g3⟩ hS
