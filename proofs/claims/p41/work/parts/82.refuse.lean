/-! ===== p41, pure: what is refused, and why ===== -/
theorem rs0 {w d k : Int32} (hw : ¬ w = 0) : f_L_reason w d k 0 = some (w, ()) := by
  rw [f_L_reason, f_X7_reason, if_neg (by decide), if_pos (by decide), if_neg hw, if_pos rfl, bS, if_pos rfl]
theorem rs1 {w d k : Int32} (hw : ¬ w = 0) : f_L_reason w d k 1 = some (d, ()) := by
  rw [f_L_reason, f_X7_reason, if_neg (by decide), if_pos (by decide), if_neg hw, if_neg (by decide), if_pos rfl, bS, if_pos rfl]
theorem rs2 {w d k : Int32} (hw : ¬ w = 0) : f_L_reason w d k 2 = some (k, ()) := by
  rw [f_L_reason, f_X7_reason, if_neg (by decide), if_pos (by decide), if_neg hw, if_neg (by decide), if_neg (by decide), bS, if_pos rfl]
theorem rs3 {w d k : Int32} : f_L_reason w d k 3 = some (-1001, ()) := by
  rw [f_L_reason, f_X7_reason, if_neg (by decide), if_neg (by decide), bS, if_neg (by decide), if_pos rfl]
theorem at_y {w d k : Int32} (hw : ¬ w = 0) : f_L_isAt w d k k w d = some (1, ()) := by
  rw [f_L_isAt, rs0 hw, bS, if_pos rfl, rs1 hw, bS, if_pos rfl, rs2 hw, bS, if_pos rfl, rs3, bS, if_pos rfl]
theorem is_y {w d : Int32} (hw : ¬ w = 0) : f_L_is w d 0 w d = some (1, ()) := by
  rw [f_L_is, at_y hw, bS, cT j1]
def Hd (N : Nat → Int32) (c : Nat) : Prop := ∀ i j, i < c → j < c → N (13 + 7 * i + 1) = N (13 + 7 * j + 1) → i = j
theorem own_l {R N : Nat → Int32} {c m h : Nat} (G : Good N c) (hR : Rel R N c) (hm : m < c) (e : N (13 + 7 * m + 1) = nI h) (hd : Hd N c) : ∀ k i n, i + k = m → k < n → f_X0_ownerOf_L2 R (nI h) n (nI i) = some (nI m, ())
  | k, i, 0, _, hn => absurd hn (Nat.not_lt_zero k)
  | 0, i, n + 1, hk, _ => by
    have hc := G.1
    have ei : i = m := by omega
    subst ei
    rw [f_X0_ownerOf_L2, cl0, r0_of G hR, if_neg (nI_ge hm (by omega)), x0_of1 (by omega), bS, hR.2.1 i hm 1 (by decide) (by decide), e, if_pos rfl]
  | k + 1, i, n + 1, hk, hn => by
    have hc := G.1
    have hi : i < c := by omega
    have ne : ¬ N (13 + 7 * i + 1) = nI h := fun q => absurd (hd i m hi hm (q.trans e.symm)) (by omega)
    rw [f_X0_ownerOf_L2, cl0, r0_of G hR, if_neg (nI_ge hi (by omega)), x0_of1 (by omega), bS, hR.2.1 i hi 1 (by decide) (by decide), if_neg ne, nI_1]
    exact own_l G hR hm e hd k (i + 1) n (by omega) (by omega)
theorem own_m {R N : Nat → Int32} {c m h : Nat} (G : Good N c) (hR : Rel R N c) (hm : m < c) (e : N (13 + 7 * m + 1) = nI h) (hd : Hd N c) : f_X0_ownerOf R (nI h) = some (nI m, ()) :=
  own_l G hR hm e hd m 0 FU (by omega) (by have := G.1; rw [FU]; omega)
theorem inH {h : Nat} (h9 : h < 10) : f_X8_in (nI h) 0 9 = some (1, ()) := x8_inY (nI_pos (by omega)) (show ¬ (9 : Int32) < nI h from nI_nlt (a := 9) (by omega) (by decide))
theorem free_n {R : Nat → Int32} {m h : Nat} (h9 : h < 10) (hm : m < 2 ^ 31) (e : f_X0_ownerOf R (nI h) = some (nI m, ())) : f_X0_isFree R (nI h) = some (0, ()) := by
  rw [f_X0_isFree, isH_eq, inH h9, bS, if_neg (by decide), e, bS, if_neg (neg1 hm)]
section REF
variable {R N : Nat → Int32} {c : Nat}
theorem noM_c (hc : c ≤ 6) : noM c (nI c) := Or.inr ⟨c, Nat.le_refl c, by omega, rfl⟩
theorem noM_1 : noM c (-1) := Or.inl (by decide)
theorem e_en1 {p : Int32} (h : p < 0 ∨ 9 < p) : f_X6_enter R 0 0 p = some (0, R, 1, 0) := by
  rw [f_X6_enter, isH_eq, x8_inN h, bS, if_pos rfl, f_X6_refuse, bS]
theorem e_en6 {h : Nat} (G : Good N 6) (hR : Rel R N 6) (h9 : h < 10) : f_X6_enter R 0 0 (nI h) = some (0, R, 2, 6) := by
  have r0 := r0_of G hR
  rw [f_X6_enter, isH_eq, inH h9, bS, if_neg (by decide), x0_get0, bS, r0, if_neg (show ¬ nI 6 < 6 by decide), bS, f_X6_refuse, bS]
  rfl
theorem e_en3 {m h : Nat} (G : Good N c) (hR : Rel R N c) (hc : c < 6) (h9 : h < 10) (hm : m < 2 ^ 31) (e : f_X0_ownerOf R (nI h) = some (nI m, ())) : f_X6_enter R 0 0 (nI h) = some (0, R, 3, nI m) := by
  rw [f_X6_enter, isH_eq, inH h9, bS, if_neg (by decide), x0_get0, bS, r0_of G hR, if_pos (show nI c < 6 from nI_lt (b := 6) hc (by decide)), free_n h9 hm e, bS, if_pos rfl, e, bS, f_X6_refuse, bS]
theorem e_go4 {p : Int32} (G : Good N c) (hR : Rel R N c) (h : noM c p) : f_X6_goAway R 0 0 p = some (0, R, 4, nI c) := by
  rw [f_X6_goAway, x0_noM (r0_of G hR) G.1 h, bS, if_pos rfl, x6_str (r0_of G hR), bS]
theorem e_cl4 {p q : Int32} (G : Good N c) (hR : Rel R N c) (h : noM c p) : f_X6_climb R 0 0 p q = some (0, R, 4, nI c) := by
  rw [f_X6_climb, x0_noM (r0_of G hR) G.1 h, bS, if_pos rfl, x6_str (r0_of G hR), bS]
theorem e_sw4 {p q : Int32} (G : Good N c) (hR : Rel R N c) (h : noM c p) : f_X6_swap R 0 0 p q = some (0, R, 4, nI c) := by
  rw [f_X6_swap, x0_noM (r0_of G hR) G.1 h, bS, if_pos rfl, x6_str (r0_of G hR), bS]
theorem e_be4 {p q t : Int32} (G : Good N c) (hR : Rel R N c) (h : noM c p) : f_X6_bet R 0 0 p q t = some (0, R, 4, nI c) := by
  rw [f_X6_bet, x0_noM (r0_of G hR) G.1 h, bS, if_pos rfl, x6_str (r0_of G hR), bS]
theorem e_kn4 {p : Int32} (G : Good N c) (hR : Rel R N c) (h : noM c p) : f_X6_knock R 0 0 p = some (0, R, 4, nI c) := by
  rw [f_X6_knock, x0_noM (r0_of G hR) G.1 h, bS, if_pos rfl, x6_str (r0_of G hR), bS]
theorem e_fi4 {p : Int32} (G : Good N c) (hR : Rel R N c) (h : noM c p) : f_X6_fill R 0 0 p = some (0, R, 4, nI c) := by
  rw [f_X6_fill, x0_noM (r0_of G hR) G.1 h, bS, if_pos rfl, x6_str (r0_of G hR), bS]
theorem e_un4 {p : Int32} (G : Good N c) (hR : Rel R N c) (h : noM c p) : f_X6_uncork R 0 0 p = some (0, R, 4, nI c) := by
  rw [f_X6_uncork, x0_noM (r0_of G hR) G.1 h, bS, if_pos rfl, x6_str (r0_of G hR), bS]
theorem e_sw4b {m : Nat} {q : Int32} (G : Good N c) (hR : Rel R N c) (hm : m < c) (h : noM c q) : f_X6_swap R 0 0 (nI m) q = some (0, R, 4, nI c) := by
  rw [f_X6_swap, x0_isM (r0_of G hR) G.1 hm, bS, if_neg (by decide), x0_noM (r0_of G hR) G.1 h, bS, if_pos rfl, x6_str (r0_of G hR), bS]
theorem e_sw6 {m : Nat} (h0 : R 0 = nI c) (hc : c ≤ 6) (hm : m < c) : f_X6_swap R 0 0 (nI m) (nI m) = some (0, R, 6, nI m) := by
  rw [f_X6_swap, x0_isM h0 hc hm, bS, if_neg (by decide), bS, if_neg (by decide), if_pos rfl, f_X6_refuse, bS]
theorem e_cl1 {m : Nat} {q : Int32} (G : Good N c) (hR : Rel R N c) (hm : m < c) (h : q < 0 ∨ 9 < q) : f_X6_climb R 0 0 (nI m) q = some (0, R, 1, 0) := by
  rw [f_X6_climb, x0_isM (r0_of G hR) G.1 hm, bS, if_neg (by decide), isH_eq, x8_inN h, bS, if_pos rfl, f_X6_refuse, bS]
theorem e_cl3 {m k h : Nat} (G : Good N c) (hR : Rel R N c) (hm : m < c) (h9 : h < 10) (hk : k < 2 ^ 31) (e : f_X0_ownerOf R (nI h) = some (nI k, ())) : f_X6_climb R 0 0 (nI m) (nI h) = some (0, R, 3, nI k) := by
  rw [f_X6_climb, x0_isM (r0_of G hR) G.1 hm, bS, if_neg (by decide), isH_eq, inH h9, bS, if_neg (by decide), free_n h9 hk e, bS, if_pos rfl, e, bS, f_X6_refuse, bS]
theorem e_be1 {m : Nat} {q t : Int32} (G : Good N c) (hR : Rel R N c) (hm : m < c) (h : q < 700 ∨ 1100 < q ∨ t < 1 ∨ 9 < t) : f_X6_bet R 0 0 (nI m) q t = some (0, R, 1, 0) := by
  rw [f_X6_bet, x0_isM (r0_of G hR) G.1 hm, bS, if_neg (by decide)]
  by_cases h1 : q < 700
  · rw [if_pos h1, f_X6_refuse, bS]
  rw [if_neg h1]
  by_cases h2 : 1100 < q
  · rw [if_pos h2, f_X6_refuse, bS]
  rw [if_neg h2]
  by_cases h3 : t < 1
  · rw [if_pos h3, f_X6_refuse, bS]
  rw [if_neg h3]
  have h4 : 9 < t := by
    rcases h with h | h | h | h
    · exact absurd h h1
    · exact absurd h h2
    · exact absurd h h3
    · exact h
  rw [if_neg (show ¬ t ≤ 9 by grind), f_X6_refuse, bS]
theorem e_be7 {m : Nat} {q t : Int32} (G : Good N c) (hR : Rel R N c) (hm : m < c) (h1 : ¬ q < 700) (h2 : ¬ 1100 < q) (h3 : ¬ t < 1) (h4 : t ≤ 9) (hw : 0 < N (13 + 7 * m + 3)) : f_X6_bet R 0 0 (nI m) q t = some (0, R, 7, R (13 + 7 * m + 2)) := by
  have hc := G.1
  have hwg : wg N m = 1 := by rw [wg, if_neg (by grind)]
  rw [f_X6_bet, x0_isM (r0_of G hR) G.1 hm, bS, if_neg (by decide), if_neg h1, if_neg h2, if_neg h3, if_pos h4, x0_wg hR hm hc (G.2.2.2.2 m hm), hwg, bS, if_neg (by decide), x0_of2 (by omega), bS, f_X6_refuse, bS]
theorem e_go7 {m : Nat} (G : Good N c) (hR : Rel R N c) (hm : m < c) (hw : 0 < N (13 + 7 * m + 3)) : f_X6_goAway R 0 0 (nI m) = some (0, R, 7, R (13 + 7 * m + 2)) := by
  have hc := G.1
  have hwg : wg N m = 1 := by rw [wg, if_neg (by grind)]
  rw [f_X6_goAway, x0_isM (r0_of G hR) G.1 hm, bS, if_neg (by decide), x0_wg hR hm hc (G.2.2.2.2 m hm), hwg, bS, if_neg (by decide), x0_of2 (by omega), bS, f_X6_refuse, bS]
theorem e_kn8 {m : Nat} (G : Good N c) (hR : Rel R N c) (hm : m < c) (hw : N (13 + 7 * m + 3) ≤ 0) : f_X6_knock R 0 0 (nI m) = some (0, R, 8, 0) := by
  have hwg : wg N m = 0 := by rw [wg, if_pos hw]
  rw [f_X6_knock, x0_isM (r0_of G hR) G.1 hm, bS, if_neg (by decide), x0_wg hR hm G.1 (G.2.2.2.2 m hm), hwg, bS, if_pos rfl, f_X6_refuse, bS]
theorem e_kn9 {m : Nat} (G : Good N c) (hR : Rel R N c) (hm : m < c) (ht : N (13 + 7 * m + 4) = 1) : f_X6_knock R 0 0 (nI m) = some (0, R, 9, R (13 + 7 * m + 3)) := by
  have hc := G.1
  have hw : ¬ N (13 + 7 * m + 3) ≤ 0 := by
    rcases (G.2.2.2.2 m hm).2.2 with h | ⟨⟨s, a1, a2, a3⟩, -⟩
    · rw [h.2] at ht
      exact absurd ht (by decide)
    · rw [a3]
      exact nI_nle (by omega) (by omega)
  have hwg : wg N m = 1 := by rw [wg, if_neg hw]
  have htp : tp N m = 1 := by rw [tp, if_pos ht]
  rw [f_X6_knock, x0_isM (r0_of G hR) G.1 hm, bS, if_neg (by decide), x0_wg hR hm G.1 (G.2.2.2.2 m hm), hwg, bS, if_neg (by decide), x0_tp hR hm G.1, htp, bS, if_neg (by decide), x0_of3 (by omega), bS, f_X6_refuse, bS]
theorem e_un12 {m : Nat} (G : Good N c) (hR : Rel R N c) (hm : m < c) (hb : R (13 + 7 * m + 5) = 0) : f_X6_uncork R 0 0 (nI m) = some (0, R, 12, 0) := by
  have hc := G.1
  rw [f_X6_uncork, x0_isM (r0_of G hR) G.1 hm, bS, if_neg (by decide), x0_of5 (by omega), bS, hb, if_pos rfl, f_X6_refuse, bS]
theorem e_fi10 {m : Nat} (G : Good N c) (hR : Rel R N c) (hm : m < c) (hb : R 3 = 0) : f_X6_fill R 0 0 (nI m) = some (0, R, 10, R 2) := by
  rw [f_X6_fill, x0_isM (r0_of G hR) G.1 hm, bS, if_neg (by decide), x0_get3, bS, hb, if_pos rfl, x0_get2, bS, f_X6_refuse, bS]
theorem e_da1 {p : Int32} (h : p < -40 ∨ 40 < p) : f_X6_passDay R 0 0 p = some (0, R, 1, 0) := by
  rw [f_X6_passDay, isCh_eq, x8_inN h, bS, if_pos rfl, f_X6_refuse, bS]
theorem e_da13 {p : Int32} (h1 : ¬ p < -40) (h2 : ¬ 40 < p) (h : R 1 + p < 900 ∨ 1100 < R 1 + p) : f_X6_passDay R 0 0 p = some (0, R, 13, R 1 + p) := by
  rw [f_X6_passDay, isCh_eq, x8_inY h1 h2, bS, if_neg (by decide), x0_get1, bS, isP_eq, x8_inN h, bS, if_pos rfl, f_X6_refuse, bS]
theorem e_re14 (G : Good N c) (hR : Rel R N c) (h : cW N c = 0) : f_X6_readNeedles R 0 0 = some (0, R, 14, R 7) := by
  rw [f_X6_readNeedles, x0_wNA G hR, bS, h, if_pos nI_0, x0_get7, bS, f_X6_refuse, bS]
/-! what the queries answer -/
theorem v_of {m w : Nat} (G : Good N c) (hR : Rel R N c) (hm : m < c) (hw : w < 7) : f_L_of R (nI m) (nI w) = some (R (13 + 7 * m + w), ()) := by
  have hc := G.1
  rw [f_L_of, f_X7_memberOf, x7_rsY (r0_of G hR) hc hm, bS, if_pos rfl, if_neg (nI_pos (by omega)), if_pos (show nI w < 7 from nI_lt (b := 7) (by omega) (by decide)), x0_of (by omega) hw, bS, bS, if_pos rfl]
theorem v_wea {w : Nat} (hw : w < 6) : f_L_weather R (nI w) = some (R (1 + w), ()) := by
  rw [f_L_weather, f_X7_weather, if_neg (nI_pos (by omega)), if_pos (show nI w < 6 from nI_lt (b := 6) hw (by decide)), show (1 : Int32) + nI w = nI (1 + w) from nI_add 1 w, x0_get (by omega), bS, bS, if_pos rfl]
theorem v_ac2 {kK tL : Int32} : f_L_account R kK tL 2 = some (R 7, ()) := by
  rw [f_L_account, f_X7_account, if_neg (by decide), if_neg (by decide), if_pos rfl, x0_get7, bS, bS, if_pos rfl]
theorem v_ac3 {kK tL : Int32} (G : Good N c) (hR : Rel R N c) : f_L_account R kK tL 3 = some (nI (cW N c), ()) := by
  rw [f_L_account, f_X7_account, if_neg (by decide), if_neg (by decide), if_neg (by decide), if_pos rfl, x0_wNA G hR, bS, bS, if_pos rfl]
theorem x_acc {kK tL p : Int32} (h0 : ¬ p = 0) (h1 : ¬ p = 1) (h2 : ¬ p = 2) (h3 : ¬ p = 3) (h4 : ¬ p = 4) (h5 : ¬ p = 5) (h6 : ¬ p = 6) (h7 : ¬ p = 7) (h8 : ¬ p = 8) (h9 : ¬ p = 9) (h10 : ¬ p = 10) : f_L_account R kK tL p = some (-1001, ()) := by
  rw [f_L_account, f_X7_account, if_neg h0, if_neg h1, if_neg h2, if_neg h3, if_neg h4, if_neg h5, if_neg h6, if_neg h7, if_neg h8, if_neg h9, if_neg h10, bS, if_neg (by decide), if_pos rfl]
theorem x_of {p q : Int32} (G : Good N c) (hR : Rel R N c) (h : noM c p) : f_L_of R p q = some (-1001, ()) := by
  rw [f_L_of, f_X7_memberOf, x7_rsN (r0_of G hR) G.1 h, bS, if_neg n1N, bS, if_neg n1N, if_pos rfl]
theorem x_of2 {m : Nat} {q : Int32} (G : Good N c) (hR : Rel R N c) (hm : m < c) (h : q < 0 ∨ ¬ q < 7) : f_L_of R (nI m) q = some (-1002, ()) := by
  rw [f_L_of, f_X7_memberOf, x7_rsY (r0_of G hR) G.1 hm, bS, if_pos rfl]
  by_cases h0 : q < 0
  · rw [if_pos h0, bS, if_neg (by decide), if_neg (by decide), if_pos rfl]
  · rw [if_neg h0, if_neg (h.resolve_left h0), bS, if_neg (by decide), if_neg (by decide), if_pos rfl]
theorem x_nd {p : Int32} (G : Good N c) (hR : Rel R N c) (h : noM c p) : f_L_needle R p = some (-1001, ()) := by
  rw [f_L_needle, f_X7_needle, x7_rsN (r0_of G hR) G.1 h, bS, if_neg n1N, bS, if_neg n1N, if_pos rfl]
theorem x_na {p : Int32} (G : Good N c) (hR : Rel R N c) (h : noM c p) : f_L_needleAgain R p = some (-1001, ()) := by
  rw [f_L_needleAgain, f_X7_needleAgain, x7_rsN (r0_of G hR) G.1 h, bS, if_neg n1N, bS, if_neg n1N, if_pos rfl]
theorem x_off {p : Int32} (G : Good N c) (hR : Rel R N c) (h : noM c p) : f_L_off R p = some (-1001, ()) := by
  rw [f_L_off, f_X7_off, x7_rsN (r0_of G hR) G.1 h, bS, if_neg n1N, bS, if_neg n1N, if_pos rfl]
theorem x_cf {p : Int32} (G : Good N c) (hR : Rel R N c) (h : noM c p) : f_L_changeFor R p = some (-1001, ()) := by
  rw [f_L_changeFor, f_X7_changeFor, x7_rsN (r0_of G hR) G.1 h, bS, if_neg n1N, bS, if_neg n1N, if_pos rfl]
theorem x_bg {p : Int32} (G : Good N c) (hR : Rel R N c) (h : noM c p) : f_L_bestGuess R p = some (-1001, ()) := by
  rw [f_L_bestGuess, f_X7_bestGuess, x7_rsN (r0_of G hR) G.1 h, bS, if_neg n1N, bS, if_neg n1N, if_pos rfl]
theorem x_nf {p : Int32} (G : Good N c) (hR : Rel R N c) (h : noM c p) : f_L_nearestFree R p = some (-1001, ()) := by
  rw [f_L_nearestFree, f_X7_nearestFree, x7_rsN (r0_of G hR) G.1 h, bS, if_neg n1N, bS, if_neg n1N, if_pos rfl]
theorem x_li {p lL : Int32} {lC : Nat → Int32} (G : Good N c) (hR : Rel R N c) (h : noM c p) : f_L_line R lL lC p = some (-1001, lL, lC) := by
  rw [f_L_line, f_X7_line, x7_rsN (r0_of G hR) G.1 h, bS, if_neg n1N, bS, if_neg n1N, if_pos rfl]
theorem x_ow {p : Int32} (h : p < 0 ∨ 9 < p) : f_L_owner R p = some (-1001, ()) := by
  rw [f_L_owner, f_X7_owner, isH_eq, x8_inN h, bS, if_pos rfl, bS, if_neg (by decide), if_pos rfl]
theorem x_ww {p : Int32} (h : p < -40 ∨ 40 < p) : f_L_wouldWin R p = some (-1001, ()) := by
  rw [f_L_wouldWin, f_X7_wouldWin, isCh_eq, x8_inN h, bS, if_pos rfl, bS, if_neg (by decide), if_pos rfl]
theorem x_rk4 {p q : Int32} (h : p < 0 ∨ ¬ p < 4) : f_L_ranked R p q = some (-1001, ()) := by
  rw [f_L_ranked, f_X7_ranked]
  by_cases h0 : p < 0
  · rw [if_pos h0, bS, if_neg (by decide), if_pos rfl]
  · rw [if_neg h0, if_neg (h.resolve_left h0), bS, if_neg (by decide), if_pos rfl]
theorem x_we {p : Int32} (h : p < 0 ∨ ¬ p < 6) : f_L_weather R p = some (-1001, ()) := by
  rw [f_L_weather, f_X7_weather]
  by_cases h0 : p < 0
  · rw [if_pos h0, bS, if_neg (by decide), if_pos rfl]
  · rw [if_neg h0, if_neg (h.resolve_left h0), bS, if_neg (by decide), if_pos rfl]
theorem plc_l {p : Int32} {m : Nat} (G : Good N c) (hR : Rel R N c) (hm : m < c) : ∀ k j n x, j + k = c → k < n → ∃ x', x' ≤ x + k ∧ (j ≤ m → x' < x + k) ∧ f_X5_placeOf_L13 R p (nI m) (msr N p m) n (nI x) (nI j) = some (nI x', ())
  | k, j, 0, _, _, hn => absurd hn (Nat.not_lt_zero k)
  | 0, j, n + 1, x, hk, _ => by
    have hc := G.1
    refine ⟨x, Nat.le_refl _, fun h => absurd h (by omega), ?_⟩
    rw [f_X5_placeOf_L13, x0_get0, bS, r0_of G hR, if_pos (nI_le (by omega) (by omega))]
  | k + 1, j, n + 1, x, hk, hn => by
    have hc := G.1
    have hj : j < c := by omega
    have st : ∀ y z, f_X5_placeOf_L13 R p (nI m) (msr N p m) n (nI y) (nI (j + 1)) = z → f_X5_placeOf_L13 R p (nI m) (msr N p m) n (nI y) (nI j + 1) = z := fun y z h => by rw [nI_1]; exact h
    rw [f_X5_placeOf_L13, x0_get0, bS, r0_of G hR, if_neg (nI_ge hj (by omega)), x5_msr hR hj hc, bS]
    by_cases h1 : msr N p m < msr N p j
    · obtain ⟨x', a1, a2, a3⟩ := plc_l (p := p) G hR hm k (j + 1) n (x + 1) (by omega) (by omega)
      have hne : j ≠ m := fun e => by
        rw [e] at h1
        exact absurd (Int32.lt_iff_toInt_lt.mp h1) (by omega)
      refine ⟨x', by omega, fun h => by have := a2 (by omega); omega, ?_⟩
      rw [if_pos h1, nI_1]
      exact st _ _ a3
    · by_cases h2 : msr N p j = msr N p m
      · by_cases h3 : m ≤ j
        · obtain ⟨x', a1, a2, a3⟩ := plc_l (p := p) G hR hm k (j + 1) n x (by omega) (by omega)
          refine ⟨x', by omega, fun _ => by omega, ?_⟩
          rw [if_neg h1, if_pos h2, if_pos (nI_le h3 (by omega))]
          exact st _ _ a3
        · obtain ⟨x', a1, a2, a3⟩ := plc_l (p := p) G hR hm k (j + 1) n (x + 1) (by omega) (by omega)
          refine ⟨x', by omega, fun h => by have := a2 (by omega); omega, ?_⟩
          rw [if_neg h1, if_pos h2, if_neg (nI_ge (by omega) (by omega)), nI_1]
          exact st _ _ a3
      · obtain ⟨x', a1, a2, a3⟩ := plc_l (p := p) G hR hm k (j + 1) n x (by omega) (by omega)
        refine ⟨x', by omega, fun _ => by omega, ?_⟩
        rw [if_neg h1, if_neg h2]
        exact st _ _ a3
theorem atp_l {p : Int32} (G : Good N c) (hR : Rel R N c) : ∀ k m n, m + k = c → k < n → f_X5_atPlace_L2 R p (nI c) n (nI m) = some (-1, ())
  | k, m, 0, _, hn => absurd hn (Nat.not_lt_zero k)
  | 0, m, n + 1, hk, _ => by
    have hc := G.1
    rw [f_X5_atPlace_L2, x0_get0, bS, r0_of G hR, if_pos (nI_le (by omega) (by omega))]
  | k + 1, m, n + 1, hk, hn => by
    have hc := G.1
    have hm : m < c := by omega
    obtain ⟨x', a1, a2, a3⟩ := plc_l (p := p) G hR hm c 0 FU 0 (by omega) (by rw [FU]; omega)
    have a3 : f_X5_placeOf_L13 R p (nI m) (msr N p m) FU (0 : Int32) (0 : Int32) = some (nI x', ()) := a3
    have ne : ¬ nI x' = nI c := fun e => by
      have := (nI_eq (by omega) (by omega)).mp e
      have := a2 (Nat.zero_le m)
      omega
    rw [f_X5_atPlace_L2, x0_get0, bS, r0_of G hR, if_neg (nI_ge hm (by omega)), f_X5_placeOf, x5_msr hR hm hc, bS, a3, bS, if_neg ne, nI_1]
    exact atp_l G hR k (m + 1) n (by omega) (by omega)
theorem x_rkc (G : Good N c) (hR : Rel R N c) : f_L_ranked R 0 (nI c) = some (-1002, ()) := by
  have hc := G.1
  have h : f_X5_atPlace_L2 R 0 (nI c) FU (0 : Int32) = some (-1, ()) := atp_l G hR c 0 FU (by omega) (by rw [FU]; omega)
  rw [f_L_ranked, f_X7_ranked, if_neg (by decide), if_pos (by decide), f_X5_atPlace, h, bS, if_pos rfl, bS, if_neg (by decide), if_neg (by decide), if_pos rfl]
theorem x_cm {lL : Int32} {lC : Nat → Int32} : f_L_character lL lC (-1) = some (-1001, ()) := by
  rw [f_L_character, f_X7_character, if_pos (by decide), bS, if_neg n1N, if_pos rfl]
theorem x_c60 {lC : Nat → Int32} : f_L_character (nI 10) lC 60 = some (-1001, ()) := by
  rw [f_L_character, f_X7_character, if_neg (by decide), f_X4_length, bS, if_neg (by decide), bS, if_neg n1N, if_pos rfl]
end REF
