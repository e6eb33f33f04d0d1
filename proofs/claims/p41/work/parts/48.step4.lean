/-! ===== pure: the other steps of members ===== -/
theorem st_uncork {R N : Nat → Int32} {mR mD mJ mA p : Int32} (H : PR R N) : Step R N mR mD mJ mA (f_X6_uncork R 0 0 p) (f_X8_letsOut mR mD mJ mA N p) := by
  obtain ⟨c, G, hR⟩ := H
  have r1 := hR.1
  have hc := G.1
  have h0 := G.2.1
  have r0 : R 0 = nI c := (hR.1 0 (by decide)).trans h0
  have hs := G.2.2.2.1
  obtain ⟨P, p1, p2, p3⟩ := G.2.2.1
  rcases mem_cases hc p with ⟨m, hm, rfl⟩ | hno
  · have r2 := hR.2.1 m hm
    have r3 := hR.2.2 m hm
    have hM := G.2.2.2.2 m hm
    have hm6 : m < 6 := by omega
    obtain ⟨b, hb, e5⟩ := hM.2.1
    have s5 : R (13 + 7 * m + 5) = nI b := (r2 5 (by decide) (by decide)).trans e5
    by_cases eb : b = 0
    · subst eb
      refine Step.no (b := 0) (why := 12) (more := 0) (by decide) ?_ ?_
      · rw [f_X6_uncork, x0_isM r0 hc hm, bS, if_neg (by decide), x0_of5 hm6, bS, s5, if_pos nI_0, f_X6_refuse, bS]
      · rw [f_X8_letsOut, x8_thY h0 hc hm, bS, if_neg n10, x8_of5 hm6, bS, e5, if_pos nI_0, f_X8_refuses, bS, cT j0]
    · have nb : ¬ nI b = 0 := nI_ne0 (by omega) (by omega)
      have eq : N 1 + -15 = N 1 - 15 := by grind
      by_cases hq : (900 : Int32) ≤ N 1 - 15
      · have e15 : N 1 - 15 = nI (P - 15) := by
          rw [p3]
          by_cases hP : 15 ≤ P
          · exact nI_sub hP
          · omega
        have hin : f_X8_in (N 1 - 15) 900 1100 = some (1, ()) := x8_inY (by grind) (by rw [e15]; exact nI_nlt (a := 1100) (by omega) (by decide))
        have h9 : 900 ≤ P - 15 := by
          rw [e15] at hq
          exact (nI_leI (a := 900) (by decide) (by omega)).mp hq
        refine Step.yes (ha := fun _ _ _ e => absurd hq (by rw [e]; decide)) (a := N 1 - 15) (R' := _) (N' := _) (by rw [f_X6_uncork, x0_isM r0 hc hm, bS, if_neg (by decide), x0_of5 hm6, bS, s5, if_neg nb, x0_get1, bS, isP_eq, r1 1 (by decide), eq, hin, bS, if_neg (by decide), f_X0_changePressure, x0_add1, bS, x0_set2, bS, x0_set3, bS, bS, x0_addOf5 hm6, bS, x0_add6, bS]) (by rw [f_X8_letsOut, x8_thY h0 hc hm, bS, if_neg n10, x8_of5 hm6, bS, e5, if_neg nb, cl1, if_pos hq, bS, x8_sets5 hm6, bS, f_X8_does, bS, cT j1, cl2, cl3, cl6]) ?_ (fun K hK B => Bd_same B (by simp (disch := omega) only [upd_s, upd_n]) (by simp (disch := omega) only [upd_s, upd_n]) (fun j hj => ⟨by simp (disch := omega) only [upd_s, upd_n], by simp (disch := omega) only [upd_s, upd_n]⟩))
        have eb1 : nI b - 1 = nI (b - 1) := nI_sub (b := 1) (by omega)
        refine ⟨c, PR_one G hR hm ?_ ⟨P - 15, h9, by omega, ?_⟩ ?_ (fun j hj hjm w hw => ?_) (fun j hj hjm w hw => ?_) ⟨?_, ⟨b - 1, by omega, ?_⟩, ?_⟩ (g13 ?_ ?_ ?_ ?_ ?_ ?_ ?_ ?_ ?_ ?_ ?_ ?_ ?_) (w7 ?_ ?_ ?_ ?_ ?_ ?_) ?_⟩
        all_goals simp (disch := omega) only [upd_s, upd_n, r1, r2, r3, hs, hM.1, hM.2.2, e5, s5]
        all_goals grind
      · refine Step.no (b := 0) (why := 13) (more := N 1 - 15) (by decide) ?_ ?_
        · rw [f_X6_uncork, x0_isM r0 hc hm, bS, if_neg (by decide), x0_of5 hm6, bS, s5, if_neg nb, x0_get1, bS, isP_eq, r1 1 (by decide), eq, x8_inN (Or.inl (by grind)), bS, if_pos rfl, f_X6_refuse, bS]
        · rw [f_X8_letsOut, x8_thY h0 hc hm, bS, if_neg n10, x8_of5 hm6, bS, e5, if_neg nb, cl1, if_neg hq, f_X8_refuses, bS, cT j0]
  · refine Step.no (b := 0) (why := 4) (more := nI c) (by decide) ?_ ?_
    · rw [f_X6_uncork, x0_noM r0 hc hno, bS, if_pos rfl, x6_str r0, bS]
    · rw [f_X8_letsOut, x8_thN h0 hc hno, bS, if_pos rfl]
theorem x8_payY {N : Nat → Int32} {m : Nat} {a b d k : Int32} (hm : m < 6) (h : k ≤ N (13 + 7 * m + 0)) : f_X8_pays a b d N (nI m) k = some (1, a, b, d, upd (upd N (13 + 7 * m + 0) (N (13 + 7 * m + 0) - k)) 7 (N 7 + k)) := by
  rw [f_X8_pays, x8_of0 hm, bS, if_pos h, bS, x8_sets0 hm, bS, cl7, upd_n (show 7 ≠ 13 + 7 * m + 0 by omega)]
theorem x8_payN {N : Nat → Int32} {m : Nat} {a b d k : Int32} (hm : m < 6) (h : ¬ k ≤ N (13 + 7 * m + 0)) : f_X8_pays a b d N (nI m) k = some (0, 5, k - N (13 + 7 * m + 0), 0, N) := by
  rw [f_X8_pays, x8_of0 hm, bS, if_neg h, bS, f_X8_refuses, bS, cT j0]
theorem x0_pay {R : Nat → Int32} {m : Nat} {k : Int32} (hm : m < 6) : f_X0_payIntoPot R (nI m) k = some (upd (upd R (13 + 7 * m + 0) (R (13 + 7 * m + 0) + -k)) 7 (R 7 + k)) := by
  rw [f_X0_payIntoPot, x0_addOf0 hm, bS, x0_add7, bS, upd_n (show 7 ≠ 13 + 7 * m + 0 by omega)]
theorem st_climb {R N : Nat → Int32} {mR mD mJ mA p q : Int32} (H : PR R N) : Step R N mR mD mJ mA (f_X6_climb R 0 0 p q) (f_X8_moves mR mD mJ mA N p q) := by
  obtain ⟨c, G, hR⟩ := H
  have r1 := hR.1
  have hc := G.1
  have h0 := G.2.1
  have r0 : R 0 = nI c := (hR.1 0 (by decide)).trans h0
  have hs := G.2.2.2.1
  obtain ⟨P, p1, p2, p3⟩ := G.2.2.1
  rcases mem_cases hc p with ⟨m, hm, rfl⟩ | hno
  · have r2 := hR.2.1 m hm
    have r3 := hR.2.2 m hm
    have hM := G.2.2.2.2 m hm
    have hm6 : m < 6 := by omega
    by_cases hp : q < 0 ∨ 9 < q
    · refine Step.no (b := 0) (why := 1) (more := 0) (by decide) ?_ ?_
      · rw [f_X6_climb, x0_isM r0 hc hm, bS, if_neg (by decide), isH_eq, x8_inN hp, bS, if_pos rfl, f_X6_refuse, bS]
      · rw [f_X8_moves, x8_thY h0 hc hm, bS, if_neg n10, x8_inN hp, bS, if_pos rfl, f_X8_refuses, bS, cT j0]
    · obtain ⟨h, h9, rfl⟩ := nat9 hp
      have hin : f_X8_in (nI h) 0 9 = some (1, ()) := x8_inY (fun e => hp (Or.inl e)) (fun e => hp (Or.inr e))
      obtain ⟨v, v1, v2, v3⟩ := own_both (h := nI h) h0 hc hR
      have hfr : f_X0_isFree R (nI h) = (if v = -1 then some (1, ()) else some (0, ())) := by
        rw [f_X0_isFree, isH_eq, hin, bS, if_neg (by decide), v1, bS]
      rcases v3 with rfl | ⟨j, hj, rfl⟩
      · by_cases hk : (2 : Int32) * jabs (nI h - N (13 + 7 * m + 1)) ≤ N (13 + 7 * m + 0)
        · refine Step.yes (ha := fun K hK B => by
            obtain ⟨h', hh', e1⟩ := hM.1
            obtain ⟨s, s1, s2⟩ := cost_ok (h := h) (h' := h') (by omega) hh'
            obtain ⟨t, -, -, b3⟩ := B c hc h0
            obtain ⟨⟨a, a1, a2⟩, -⟩ := b3 m hm
            rw [e1] at hk ⊢
            rw [s2, a2] at hk ⊢
            rw [nI_sub ((nI_leI (by omega) (by omega)).mp hk)]
            exact neg1001 (by omega)) (a := N (13 + 7 * m + 0) - (2 : Int32) * jabs (nI h - N (13 + 7 * m + 1))) (R' := _) (N' := _) (by
            rw [f_X6_climb, x0_isM r0 hc hm, bS, if_neg (by decide), isH_eq, hin, bS, if_neg (by decide), hfr, if_pos rfl, bS, if_neg (by decide), x0_of1 hm6, bS, x0_of0 hm6, bS, r2 0 (by decide) (by decide), r2 1 (by decide) (by decide), if_pos hk, x0_pay hm6, bS, x0_add10, bS, x0_setOf1 hm6, bS, x0_of0 hm6, bS]
            refine congrArg some (Prod.ext ?_ rfl)
            simp (disch := omega) only [upd_s, upd_n, r2]
            grind) (by
            rw [f_X8_moves, x8_thY h0 hc hm, bS, if_neg n10, hin, bS, if_neg n10, v2, bS, if_pos (show (-1 : Int32) < 0 by decide), x8_of1 hm6, bS, f_X8_apart, bS, x8_payY hm6 hk, bS, if_neg n10, cl10, x8_sets1 hm6, bS, x8_of0 hm6, bS, f_X8_does, bS, cT j1]
            simp (disch := omega) only [upd_s, upd_n]
            rfl) ?_ (fun K hK B => by
            obtain ⟨h', hh', e1⟩ := hM.1
            obtain ⟨s, s1, s2⟩ := cost_ok (h := h) (h' := h') (by omega) hh'
            rw [e1] at hk ⊢
            rw [s2] at hk ⊢
            exact Bd_pay hc h0 hm s1 hK hk B (by simp (disch := omega) only [upd_s, upd_n]) (by simp (disch := omega) only [upd_s, upd_n]) (by simp (disch := omega) only [upd_s, upd_n]) (by simp (disch := omega) only [upd_s, upd_n]) (fun j hj hjm => ⟨by simp (disch := omega) only [upd_s, upd_n], by simp (disch := omega) only [upd_s, upd_n]⟩))
          refine ⟨c, PR_one G hR hm ?_ ⟨P, p1, p2, ?_⟩ ?_ (fun j hj hjm w hw => ?_) (fun j hj hjm w hw => ?_) ⟨⟨h, by omega, ?_⟩, ?_, ?_⟩ (g13 ?_ ?_ ?_ ?_ ?_ ?_ ?_ ?_ ?_ ?_ ?_ ?_ ?_) (w7 ?_ ?_ ?_ ?_ ?_ ?_) ?_⟩
          all_goals simp (disch := omega) only [upd_s, upd_n, r1, r2, r3, hs, hM.2.1, hM.2.2, p3]
          all_goals grind
        · refine Step.no (b := 0) (why := 5) (more := (2 : Int32) * jabs (nI h - N (13 + 7 * m + 1)) - N (13 + 7 * m + 0)) (by decide) ?_ ?_
          · rw [f_X6_climb, x0_isM r0 hc hm, bS, if_neg (by decide), isH_eq, hin, bS, if_neg (by decide), hfr, if_pos rfl, bS, if_neg (by decide), x0_of1 hm6, bS, x0_of0 hm6, bS, r2 0 (by decide) (by decide), r2 1 (by decide) (by decide), if_neg hk, bS, f_X6_refuse, bS]
          · rw [f_X8_moves, x8_thY h0 hc hm, bS, if_neg n10, hin, bS, if_neg n10, v2, bS, if_pos (show (-1 : Int32) < 0 by decide), x8_of1 hm6, bS, f_X8_apart, bS, x8_payN hm6 hk, bS, if_pos rfl]
      · have nj : ¬ nI j = -1 := fun e => nI_pos (show j < 2 ^ 31 by omega) (by rw [e]; decide)
        refine Step.no (b := 0) (why := 3) (more := nI j) (by decide) ?_ ?_
        · rw [f_X6_climb, x0_isM r0 hc hm, bS, if_neg (by decide), isH_eq, hin, bS, if_neg (by decide), hfr, if_neg nj, bS, if_pos rfl, v1, bS, f_X6_refuse, bS]
        · rw [f_X8_moves, x8_thY h0 hc hm, bS, if_neg n10, hin, bS, if_neg n10, v2, bS, if_neg (nI_pos (by omega)), bS, f_X8_refuses, bS, cT j0]
  · refine Step.no (b := 0) (why := 4) (more := nI c) (by decide) ?_ ?_
    · rw [f_X6_climb, x0_noM r0 hc hno, bS, if_pos rfl, x6_str r0, bS]
    · rw [f_X8_moves, x8_thN h0 hc hno, bS, if_pos rfl]
theorem st_bet {R N : Nat → Int32} {mR mD mJ mA p q t : Int32} (H : PR R N) : Step R N mR mD mJ mA (f_X6_bet R 0 0 p q t) (f_X8_wagers mR mD mJ mA N p q t) := by
  obtain ⟨c, G, hR⟩ := H
  have r1 := hR.1
  have hc := G.1
  have h0 := G.2.1
  have r0 : R 0 = nI c := (hR.1 0 (by decide)).trans h0
  have hs := G.2.2.2.1
  obtain ⟨P, p1, p2, p3⟩ := G.2.2.1
  rcases mem_cases hc p with ⟨m, hm, rfl⟩ | hno
  · have r2 := hR.2.1 m hm
    have r3 := hR.2.2 m hm
    have hM := G.2.2.2.2 m hm
    have hm6 : m < 6 := by omega
    by_cases hq1 : q < 700
    · refine Step.no (b := 0) (why := 1) (more := 0) (by decide) ?_ ?_
      · rw [f_X6_bet, x0_isM r0 hc hm, bS, if_neg (by decide), if_pos hq1, f_X6_refuse, bS]
      · rw [f_X8_wagers, x8_thY h0 hc hm, bS, if_neg n10, x8_inN (Or.inl hq1), bS, if_pos rfl, f_X8_refuses, bS, cT j0]
    by_cases hq2 : 1100 < q
    · refine Step.no (b := 0) (why := 1) (more := 0) (by decide) ?_ ?_
      · rw [f_X6_bet, x0_isM r0 hc hm, bS, if_neg (by decide), if_neg hq1, if_pos hq2, f_X6_refuse, bS]
      · rw [f_X8_wagers, x8_thY h0 hc hm, bS, if_neg n10, x8_inN (Or.inr hq2), bS, if_pos rfl, f_X8_refuses, bS, cT j0]
    by_cases ht1 : t < 1
    · refine Step.no (b := 0) (why := 1) (more := 0) (by decide) ?_ ?_
      · rw [f_X6_bet, x0_isM r0 hc hm, bS, if_neg (by decide), if_neg hq1, if_neg hq2, if_pos ht1, f_X6_refuse, bS]
      · rw [f_X8_wagers, x8_thY h0 hc hm, bS, if_neg n10, x8_inY hq1 hq2, bS, if_neg n10, x8_inN (Or.inl ht1), bS, if_pos rfl, f_X8_refuses, bS, cT j0]
    by_cases ht2 : 9 < t
    · have ht2' : ¬ t ≤ 9 := by grind
      refine Step.no (b := 0) (why := 1) (more := 0) (by decide) ?_ ?_
      · rw [f_X6_bet, x0_isM r0 hc hm, bS, if_neg (by decide), if_neg hq1, if_neg hq2, if_neg ht1, if_neg ht2', f_X6_refuse, bS]
      · rw [f_X8_wagers, x8_thY h0 hc hm, bS, if_neg n10, x8_inY hq1 hq2, bS, if_neg n10, x8_inN (Or.inr ht2), bS, if_pos rfl, f_X8_refuses, bS, cT j0]
    have ht2' : t ≤ 9 := by grind
    by_cases hw : N (13 + 7 * m + 3) ≤ 0
    · have hwg : wg N m = 0 := by rw [wg, if_pos hw]
      by_cases hk : t ≤ N (13 + 7 * m + 0)
      · obtain ⟨g, g1, g2, rfl⟩ := nat_in (p := q) (a := 700) (b := 1100) (A := 700) (B := 1100) rfl rfl (by decide) (by decide) hq1 hq2
        obtain ⟨s, s1, s2, rfl⟩ := nat_in (p := t) (a := 1) (b := 9) (A := 1) (B := 9) rfl rfl (by decide) (by decide) ht1 ht2
        refine Step.yes (ha := fun K hK B => by
            obtain ⟨t, b1, b2, -⟩ := B c hc h0
            rw [b1, nI_add]
            exact neg1001 (by omega)) (a := N 7 + nI s) (R' := _) (N' := _) (by
            rw [f_X6_bet, x0_isM r0 hc hm, bS, if_neg (by decide), if_neg hq1, if_neg hq2, if_neg ht1, if_pos ht2', x0_wg hR hm hc hM, hwg, bS, if_pos rfl, x0_of0 hm6, bS, r2 0 (by decide) (by decide), if_pos hk, x0_pay hm6, bS, x0_setOf2 hm6, bS, x0_setOf3 hm6, bS, x0_get7, bS]
            refine congrArg some (Prod.ext ?_ rfl)
            simp (disch := omega) only [upd_s, upd_n, r1]) (by
            rw [f_X8_wagers, x8_thY h0 hc hm, bS, if_neg n10, x8_inY hq1 hq2, bS, if_neg n10, x8_inY ht1 ht2, bS, if_neg n10, x8_wg hm6, hwg, bS, if_pos rfl, x8_payY hm6 hk, bS, if_neg n10, x8_sets2 hm6, bS, x8_sets3 hm6, bS, f_X8_does, bS, cT j1, cl7]
            simp (disch := omega) only [upd_s, upd_n]
            rfl) ?_ (fun K hK B => Bd_pay hc h0 hm (show s < 2 ^ 30 by omega) hK (hk) B (by simp (disch := omega) only [upd_s, upd_n]) (by simp (disch := omega) only [upd_s, upd_n]) (by simp (disch := omega) only [upd_s, upd_n]) (by simp (disch := omega) only [upd_s, upd_n]) (fun j hj hjm => ⟨by simp (disch := omega) only [upd_s, upd_n], by simp (disch := omega) only [upd_s, upd_n]⟩))
        have s0 : (0 : Int32) < nI s := nI_lt (a := 0) (by omega) (by omega)
        have h4 : N (13 + 7 * m + 4) = 0 := by
          rcases hM.2.2 with h | ⟨⟨s', a1, a2, a3⟩, -⟩
          · exact h.2
          · rw [a3] at hw; exact absurd hw (nI_nle (by omega) (by omega))
        refine ⟨c, PR_one G hR hm ?_ ⟨P, p1, p2, ?_⟩ ?_ (fun j hj hjm w hw => ?_) (fun j hj hjm w hw => ?_) ⟨?_, ?_, Or.inr ⟨⟨s, s1, s2, ?_⟩, ⟨g, g1, g2, ?_⟩, Or.inl ?_⟩⟩ (g13 ?_ ?_ ?_ ?_ ?_ ?_ ?_ ?_ ?_ ?_ ?_ ?_ ?_) (w7 ?_ ?_ ?_ ?_ ?_ ?_) ?_⟩
        all_goals simp (disch := omega) only [upd_s, upd_n, r1, r2, r3, hs, hM.1, hM.2.1, p3, h4, s0, if_true]
        all_goals grind
      · refine Step.no (b := 0) (why := 5) (more := t - N (13 + 7 * m + 0)) (by decide) ?_ ?_
        · rw [f_X6_bet, x0_isM r0 hc hm, bS, if_neg (by decide), if_neg hq1, if_neg hq2, if_neg ht1, if_pos ht2', x0_wg hR hm hc hM, hwg, bS, if_pos rfl, x0_of0 hm6, bS, r2 0 (by decide) (by decide), if_neg hk, bS, f_X6_refuse, bS]
        · rw [f_X8_wagers, x8_thY h0 hc hm, bS, if_neg n10, x8_inY hq1 hq2, bS, if_neg n10, x8_inY ht1 ht2, bS, if_neg n10, x8_wg hm6, hwg, bS, if_pos rfl, x8_payN hm6 hk, bS, if_pos rfl]
    · have hwg : wg N m = 1 := by rw [wg, if_neg hw]
      refine Step.no (b := 0) (why := 7) (more := N (13 + 7 * m + 2)) (by decide) ?_ ?_
      · rw [f_X6_bet, x0_isM r0 hc hm, bS, if_neg (by decide), if_neg hq1, if_neg hq2, if_neg ht1, if_pos ht2', x0_wg hR hm hc hM, hwg, bS, if_neg (by decide), x0_of2 hm6, bS, f_X6_refuse, bS, r3, if_pos (show 0 < N (13 + 7 * m + 3) by grind)]
      · rw [f_X8_wagers, x8_thY h0 hc hm, bS, if_neg n10, x8_inY hq1 hq2, bS, if_neg n10, x8_inY ht1 ht2, bS, if_neg n10, x8_wg hm6, hwg, bS, if_neg (by decide), x8_of2 hm6, bS, f_X8_refuses, bS, cT j0]
  · refine Step.no (b := 0) (why := 4) (more := nI c) (by decide) ?_ ?_
    · rw [f_X6_bet, x0_noM r0 hc hno, bS, if_pos rfl, x6_str r0, bS]
    · rw [f_X8_wagers, x8_thN h0 hc hno, bS, if_pos rfl]

