/-! ===== pure: the queries ===== -/
def AG1 (x : Option (Nat × Int32 × Unit)) (y : Option (Int32 × Int32)) (c1 : Nat) : Prop := (∃ v, x = some (0, v, ()) ∧ y = some (v, 0)) ∨ ∃ v w, x = some (c1, v, ()) ∧ y = some (w, 1)
def AG2 (x : Option (Nat × Int32 × Unit)) (y : Option (Int32 × Int32)) (c1 c2 : Nat) : Prop := (∃ v, x = some (0, v, ()) ∧ y = some (v, 0)) ∨ (∃ v w, x = some (c1, v, ()) ∧ y = some (w, 1)) ∨ ∃ v w, x = some (c2, v, ()) ∧ y = some (w, 2)
theorem x7_rsY {R : Nat → Int32} {c m : Nat} (h0 : R 0 = nI c) (hc : c ≤ 6) (hm : m < c) : f_X7_refuseStranger R (nI m) = some (0, ()) := by
  rw [f_X7_refuseStranger, x0_isM h0 hc hm, bS, if_neg (by decide)]
theorem x7_rsN {R : Nat → Int32} {c : Nat} {p : Int32} (h0 : R 0 = nI c) (hc : c ≤ 6) (h : noM c p) : f_X7_refuseStranger R p = some (1, ()) := by
  rw [f_X7_refuseStranger, x0_noM h0 hc h, bS, if_pos rfl]
theorem n1N : ¬ (1 : Nat) = 0 := by decide
theorem r0_of {R N : Nat → Int32} {c : Nat} (G : Good N c) (hR : Rel R N c) : R 0 = nI c := (hR.1 0 (by decide)).trans G.2.1
theorem q_memberOf {R N : Nat → Int32} {t p q : Int32} (H : PR R N) : AG2 (f_X7_memberOf R p q) (f_X8_memberOf t N p q) 1 2 := by
  obtain ⟨c, G, hR⟩ := H
  have hc := G.1
  have h0 := G.2.1
  have r0 := r0_of G hR
  rcases mem_cases hc p with ⟨m, hm, rfl⟩ | hno
  · have hm6 : m < 6 := by omega
    by_cases hq : q < 0 ∨ 6 < q
    · refine Or.inr (Or.inr ⟨0, 0, ?_, ?_⟩)
      · rw [f_X7_memberOf, x7_rsY r0 hc hm, bS, if_pos rfl]
        by_cases hq0 : q < 0
        · rw [if_pos hq0]
        · rw [if_neg hq0, if_neg (show ¬ q < 7 by
            rcases hq with h | h
            · exact absurd h hq0
            · rw [Int32.lt_iff_toInt_lt] at h ⊢
              simp at h ⊢
              omega)]
      · rw [f_X8_memberOf, x8_isM h0 hc hm, bS, if_neg (by decide), x8_inN hq, bS, if_pos rfl, f_X8_raises, bS]
    · obtain ⟨w, w6, rfl⟩ := nI_of2 (M := 6) (n := 6) rfl (fun e => hq (Or.inl e)) (show q ≤ 6 by grind)
      have hin : f_X8_in (nI w) 0 6 = some (1, ()) := x8_inY (fun e => hq (Or.inl e)) (fun e => hq (Or.inr e))
      have hx : f_X7_memberOf R (nI m) (nI w) = some (0, R (13 + 7 * m + w), ()) := by
        rw [f_X7_memberOf, x7_rsY r0 hc hm, bS, if_pos rfl, if_neg (nI_pos (by omega)), if_pos (show nI w < 7 from nI_lt (b := 7) (by omega) (by decide)), x0_of hm6 (by omega), bS]
      by_cases e2 : w = 2
      · subst e2
        refine Or.inl ⟨R (13 + 7 * m + 2), hx, ?_⟩
        rw [f_X8_memberOf, x8_isM h0 hc hm, bS, if_neg (by decide), hin, bS, if_neg (by decide), if_pos (show nI 2 = 2 from rfl), x8_wg hm6, bS, wg, hR.2.2 m hm]
        by_cases e : N (13 + 7 * m + 3) ≤ 0
        · rw [if_pos e, if_pos rfl, if_neg (show ¬ 0 < N (13 + 7 * m + 3) by grind)]
        · rw [if_neg e, if_neg (by decide), if_pos (show 0 < N (13 + 7 * m + 3) by grind), x8_of hm6 (by decide), bS]
      · refine Or.inl ⟨R (13 + 7 * m + w), hx, ?_⟩
        rw [f_X8_memberOf, x8_isM h0 hc hm, bS, if_neg (by decide), hin, bS, if_neg (by decide), if_neg (show ¬ nI w = 2 from fun e => e2 ((nI_eq (b := 2) (by omega) (by decide)).mp e)), x8_of hm6 (by omega), bS, hR.2.1 m hm w (by omega) e2]
  · refine Or.inr (Or.inl ⟨0, 0, ?_, ?_⟩)
    · rw [f_X7_memberOf, x7_rsN r0 hc hno, bS, if_neg n1N]
    · rw [f_X8_memberOf, x8_noM h0 hc hno, bS, if_pos rfl, f_X8_raises, bS]
theorem x8_nd {N : Nat → Int32} {m : Nat} {p : Int32} (hm : m < 6) : f_X8_needleAt N (nI m) p = some (p - ((12 : Int32) * N (13 + 7 * m + 1)), ()) := by
  rw [f_X8_needleAt, x8_of1 hm, bS]
theorem q_needle {R N : Nat → Int32} {t p : Int32} (H : PR R N) : AG1 (f_X7_needle R p) (f_X8_needle t N p) 1 := by
  obtain ⟨c, G, hR⟩ := H
  have hc := G.1
  have h0 := G.2.1
  have r0 := r0_of G hR
  rcases mem_cases hc p with ⟨m, hm, rfl⟩ | hno
  · have hm6 : m < 6 := by omega
    refine Or.inl ⟨N 1 - ((12 : Int32) * N (13 + 7 * m + 1)), ?_, ?_⟩
    · rw [f_X7_needle, x7_rsY r0 hc hm, bS, if_pos rfl, x0_get1, bS, x0_shown hR hm hc, bS, hR.1 1 (by decide)]
    · rw [f_X8_needle, x8_isM h0 hc hm, bS, if_neg (by decide), cl1, x8_nd hm6, bS]
  · refine Or.inr ⟨0, 0, ?_, ?_⟩
    · rw [f_X7_needle, x7_rsN r0 hc hno, bS, if_neg n1N]
    · rw [f_X8_needle, x8_noM h0 hc hno, bS, if_pos rfl]
theorem step_l {R N : Nat → Int32} {c m h : Nat} (hR : Rel R N c) (hm : m < c) (hc : c ≤ 6) (hh : h < 10) (e : N (13 + 7 * m + 1) = nI h) : ∀ k j n X, j + k = h → k < n → f_X3_shownStepByStep_L8 R (nI m) n X (nI j) = some (X - (12 : Int32) * nI k, ())
  | k, j, 0, _, _, hn => absurd hn (Nat.not_lt_zero k)
  | 0, j, n + 1, X, hk, _ => by
    rw [f_X3_shownStepByStep_L8, x0_of1 (by omega), bS, hR.2.1 m hm 1 (by decide) (by decide), e, if_pos (nI_le (by omega) (by omega)), show X - (12 : Int32) * nI 0 = X by rw [nI_0]; grind]
  | k + 1, j, n + 1, X, hk, hn => by
    rw [f_X3_shownStepByStep_L8, x0_of1 (by omega), bS, hR.2.1 m hm 1 (by decide) (by decide), e, if_neg (nI_ge (by omega) (by omega)), nI_1, step_l hR hm hc hh e k (j + 1) n _ (by omega) (by omega), ← nI_1]
    exact congrArg some (Prod.ext (show X + (-12 : Int32) - (12 : Int32) * nI k = X - (12 : Int32) * (nI k + 1) by grind) rfl)
theorem q_needleAgain {R N : Nat → Int32} {t p : Int32} (H : PR R N) : AG1 (f_X7_needleAgain R p) (f_X8_needleAgain t N p) 1 := by
  obtain ⟨c, G, hR⟩ := H
  have hc := G.1
  have h0 := G.2.1
  have r0 := r0_of G hR
  rcases mem_cases hc p with ⟨m, hm, rfl⟩ | hno
  · have hm6 : m < 6 := by omega
    obtain ⟨h, hh, e⟩ := (G.2.2.2.2 m hm).1
    refine Or.inl ⟨N 1 - ((12 : Int32) * nI h), ?_, ?_⟩
    · rw [f_X7_needleAgain, x7_rsY r0 hc hm, bS, if_pos rfl, f_X3_shownStepByStep, x0_get1, bS, hR.1 1 (by decide)]
      rw [show f_X3_shownStepByStep_L8 R (nI m) FU (N 1, ()).1 0 = some (N 1 - (12 : Int32) * nI h, ()) from step_l hR hm hc hh e h 0 FU (N 1) (by omega) (by rw [FU]; omega), bS]
    · rw [f_X8_needleAgain, f_X8_needle, x8_isM h0 hc hm, bS, if_neg (by decide), cl1, x8_nd hm6, bS, bS, e]
  · refine Or.inr ⟨0, 0, ?_, ?_⟩
    · rw [f_X7_needleAgain, x7_rsN r0 hc hno, bS, if_neg n1N]
    · rw [f_X8_needleAgain, f_X8_needle, x8_noM h0 hc hno, bS, if_pos rfl, bS]
theorem q_off {R N : Nat → Int32} {t p : Int32} (H : PR R N) : AG2 (f_X7_off R p) (f_X8_off t N p) 1 3 := by
  obtain ⟨c, G, hR⟩ := H
  have hc := G.1
  have h0 := G.2.1
  have r0 := r0_of G hR
  rcases mem_cases hc p with ⟨m, hm, rfl⟩ | hno
  · have hm6 : m < 6 := by omega
    have hM := G.2.2.2.2 m hm
    by_cases e : N (13 + 7 * m + 3) ≤ 0
    · refine Or.inr (Or.inr ⟨0, 0, ?_, ?_⟩)
      · rw [f_X7_off, x7_rsY r0 hc hm, bS, if_pos rfl, x0_wg hR hm hc hM, bS, wg, if_pos e, if_pos rfl]
      · rw [f_X8_off, x8_isM h0 hc hm, bS, if_neg (by decide), x8_wg hm6, bS, wg, if_pos e, if_pos rfl, f_X8_raises, bS]
    · refine Or.inl ⟨dsI N m (N 1), ?_, ?_⟩
      · rw [f_X7_off, x7_rsY r0 hc hm, bS, if_pos rfl, x0_wg hR hm hc hM, bS, wg, if_neg e, if_neg (by decide), x0_get1, bS, hR.1 1 (by decide), x0_dist hR hm hc (by grind), bS]
      · rw [f_X8_off, x8_isM h0 hc hm, bS, if_neg (by decide), x8_wg hm6, bS, wg, if_neg e, if_neg (by decide), x8_of2 hm6, bS, cl1, x8_nd hm6, bS, f_X8_apart, bS, dsI]
  · refine Or.inr (Or.inl ⟨0, 0, ?_, ?_⟩)
    · rw [f_X7_off, x7_rsN r0 hc hno, bS, if_neg n1N]
    · rw [f_X8_off, x8_noM h0 hc hno, bS, if_pos rfl, f_X8_raises, bS]
theorem neg1 {j : Nat} (h : j < 2 ^ 31) : ¬ nI j = -1 := fun e => nI_pos h (by rw [e]; decide)
theorem q_owner {R N : Nat → Int32} {t p : Int32} (H : PR R N) : AG2 (f_X7_owner R p) (f_X8_owner t N p) 2 3 := by
  obtain ⟨c, G, hR⟩ := H
  have hc := G.1
  have h0 := G.2.1
  by_cases hp : p < 0 ∨ 9 < p
  · refine Or.inr (Or.inl ⟨0, 0, ?_, ?_⟩)
    · rw [f_X7_owner, isH_eq, x8_inN hp, bS, if_pos rfl]
    · rw [f_X8_owner, x8_inN hp, bS, if_pos rfl, f_X8_raises, bS]
  · have hin : f_X8_in p 0 9 = some (1, ()) := x8_inY (fun e => hp (Or.inl e)) (fun e => hp (Or.inr e))
    obtain ⟨v, v1, v2, v3⟩ := own_both (h := p) h0 hc hR
    rcases v3 with rfl | ⟨j, hj, rfl⟩
    · refine Or.inr (Or.inr ⟨0, 0, ?_, ?_⟩)
      · rw [f_X7_owner, isH_eq, hin, bS, if_neg (by decide), v1, bS, if_pos rfl]
      · rw [f_X8_owner, hin, bS, if_neg (by decide), v2, bS, if_neg (show ¬ (0 : Int32) ≤ -1 by decide), f_X8_raises, bS]
    · refine Or.inl ⟨nI j, ?_, ?_⟩
      · rw [f_X7_owner, isH_eq, hin, bS, if_neg (by decide), v1, bS, if_neg (neg1 (by omega))]
      · rw [f_X8_owner, hin, bS, if_neg (by decide), v2, bS, if_pos (nI_pos' (by omega)), bS]
theorem held_ok {z : Int32} : ∃ Q, 900 ≤ Q ∧ Q ≤ 1100 ∧ jmax 900 (jmin 1100 z) = nI Q := by
  refine nat_in (a := 900) (b := 1100) (A := 900) (B := 1100) rfl rfl (by decide) (by decide) ?_ ?_
  · rw [jmax]; split <;> grind
  · rw [jmax, jmin]; split <;> split <;> grind
theorem wb_eq {R N : Nat → Int32} {c : Nat} {p : Int32} (G : Good N c) (hR : Rel R N c) : ∃ S, S < 64 ∧ f_X3_nearestBehind R p = some (nI S, ()) ∧ f_X8_winnersBehind N p = some (nI S, ()) := by
  obtain ⟨Q, q1, q2, q3⟩ := held_ok (z := N 1 + p)
  refine ⟨_, wst_64 G q1 q2, ?_, ?_⟩
  · rw [f_X3_nearestBehind, x0_get1, bS, hR.1 1 (by decide), f_X7_held, bS, q3, x0_near G hR q1 q2, bS]
  · rw [f_X8_winnersBehind, cl1, q3, x8_near G q1 q2, bS]
theorem q_wouldWin {R N : Nat → Int32} {t p : Int32} (H : PR R N) : AG1 (f_X7_wouldWin R p) (f_X8_wouldWin t N p) 2 := by
  obtain ⟨c, G, hR⟩ := H
  by_cases hp : p < -40 ∨ 40 < p
  · refine Or.inr ⟨0, 0, ?_, ?_⟩
    · rw [f_X7_wouldWin, isCh_eq, x8_inN hp, bS, if_pos rfl]
    · rw [f_X8_wouldWin, x8_inN hp, bS, if_pos rfl]
  · have hin : f_X8_in p (-40) 40 = some (1, ()) := x8_inY (fun e => hp (Or.inl e)) (fun e => hp (Or.inr e))
    obtain ⟨S, -, s1, s2⟩ := wb_eq (p := p) G hR
    refine Or.inl ⟨nI S, ?_, ?_⟩
    · rw [f_X7_wouldWin, isCh_eq, hin, bS, if_neg (by decide), s1, bS]
    · rw [f_X8_wouldWin, hin, bS, if_neg (by decide), s2, bS]
theorem cf_l {R N : Nat → Int32} {c : Nat} {p : Int32} (G : Good N c) (hR : Rel R N c) : ∀ k y n, y + k = 41 → k < n → (∃ v, f_X7_changeFor_L7 R p n (nI y) = some (0, v, ()) ∧ f_X8_changeFor_L21 N p 0 n (nI y) = some (v, 0)) ∨ ∃ v w, f_X7_changeFor_L7 R p n (nI y) = some (3, v, ()) ∧ f_X8_changeFor_L21 N p 0 n (nI y) = some (w, 2)
  | k, y, 0, _, hn => absurd hn (Nat.not_lt_zero k)
  | 0, y, n + 1, hk, _ => by
    refine Or.inr ⟨0, 0, ?_, ?_⟩
    · rw [f_X7_changeFor_L7, if_pos (show (40 : Int32) < nI y from nI_lt (a := 40) (by omega) (by omega))]
    · rw [f_X8_changeFor_L21, if_pos (show (41 : Int32) ≤ nI y from nI_le (a := 41) (by omega) (by omega)), f_X8_raises, bS]
  | k + 1, y, n + 1, hk, hn => by
    have ih := cf_l (p := p) G hR k (y + 1) n (by omega) (by omega)
    obtain ⟨S, -, s1, s2⟩ := wb_eq (p := -(nI y)) G hR
    obtain ⟨S', -, s1', s2'⟩ := wb_eq (p := nI y) G hR
    rw [f_X7_changeFor_L7, if_neg (show ¬ (40 : Int32) < nI y from nI_nlt (a := 40) (by omega) (by omega)), f_X8_changeFor_L21, if_neg (show ¬ (41 : Int32) ≤ nI y from nI_ge (b := 41) (by omega) (by omega)), s2, bS, f_X3_winsAloneBehind, s1, bS]
    by_cases e : nI S = ((1 : Int32) <<< (p &&& 31))
    · refine Or.inl ⟨-(nI y), ?_, ?_⟩
      · rw [if_pos e, bS, if_neg (by decide)]
      · rw [if_pos e]
    · rw [if_neg e, if_neg e, bS, if_pos rfl, s2', bS, f_X3_winsAloneBehind, s1', bS]
      by_cases e' : nI S' = ((1 : Int32) <<< (p &&& 31))
      · refine Or.inl ⟨nI y, ?_, ?_⟩
        · rw [if_pos e', bS, if_neg (by decide)]
        · rw [if_pos e']
      · rw [if_neg e', if_neg e', bS, if_pos rfl, nI_1]
        exact ih
theorem q_changeFor {R N : Nat → Int32} {t p : Int32} (H : PR R N) : AG2 (f_X7_changeFor R p) (f_X8_changeFor t N p) 1 3 := by
  obtain ⟨c, G, hR⟩ := H
  have hc := G.1
  have h0 := G.2.1
  have r0 := r0_of G hR
  rcases mem_cases hc p with ⟨m, hm, rfl⟩ | hno
  · have hx : f_X7_changeFor R (nI m) = f_X7_changeFor_L7 R (nI m) FU (nI 0) := by rw [f_X7_changeFor, x7_rsY r0 hc hm, bS, if_pos rfl]; rfl
    have hy : f_X8_changeFor t N (nI m) = f_X8_changeFor_L21 N (nI m) 0 FU (nI 0) := by rw [f_X8_changeFor, x8_isM h0 hc hm, bS, if_neg (by decide)]; rfl
    rw [hx, hy]
    rcases cf_l (p := nI m) G hR 41 0 FU (by decide) (by rw [FU]; decide) with h | h
    · exact Or.inl h
    · exact Or.inr (Or.inr h)
  · refine Or.inr (Or.inl ⟨0, 0, ?_, ?_⟩)
    · rw [f_X7_changeFor, x7_rsN r0 hc hno, bS, if_neg n1N]
    · rw [f_X8_changeFor, x8_noM h0 hc hno, bS, if_pos rfl, f_X8_raises, bS]
theorem q_bestGuess {R N : Nat → Int32} {t p : Int32} (H : PR R N) : AG1 (f_X7_bestGuess R p) (f_X8_bestGuess t N p) 1 := by
  obtain ⟨c, G, hR⟩ := H
  have hc := G.1
  have h0 := G.2.1
  have r0 := r0_of G hR
  rcases mem_cases hc p with ⟨m, hm, rfl⟩ | hno
  · have hm6 : m < 6 := by omega
    refine Or.inl ⟨jmax 700 (jmin 1100 (N 1 - ((12 : Int32) * N (13 + 7 * m + 1)))), ?_, ?_⟩
    · rw [f_X7_bestGuess, x7_rsY r0 hc hm, bS, if_pos rfl, x0_get1, bS, x0_shown hR hm hc, bS, hR.1 1 (by decide), f_X7_held, bS]
    · rw [f_X8_bestGuess, x8_isM h0 hc hm, bS, if_neg (by decide), cl1, x8_nd hm6, bS]
  · refine Or.inr ⟨0, 0, ?_, ?_⟩
    · rw [f_X7_bestGuess, x7_rsN r0 hc hno, bS, if_neg n1N]
    · rw [f_X8_bestGuess, x8_noM h0 hc hno, bS, if_pos rfl]
theorem q_weather {R N : Nat → Int32} {t p : Int32} (H : PR R N) : AG1 (f_X7_weather R p) (f_X8_weather t N p) 2 := by
  obtain ⟨c, G, hR⟩ := H
  by_cases hp : p < 0 ∨ 5 < p
  · refine Or.inr ⟨0, 0, ?_, ?_⟩
    · rw [f_X7_weather]
      by_cases h0 : p < 0
      · rw [if_pos h0]
      · rw [if_neg h0, if_neg (show ¬ p < 6 by
          rcases hp with h | h
          · exact absurd h h0
          · rw [Int32.lt_iff_toInt_lt] at h ⊢
            simp at h ⊢
            omega)]
    · rw [f_X8_weather, x8_inN hp, bS, if_pos rfl]
  · obtain ⟨w, w5, rfl⟩ := nI_of2 (M := 5) (n := 5) rfl (fun e => hp (Or.inl e)) (show p ≤ 5 by grind)
    have e1 : (1 : Int32) + nI w = nI (1 + w) := by rw [show (1 : Int32) = nI 1 from rfl, nI_add]
    refine Or.inl ⟨N (1 + w), ?_, ?_⟩
    · rw [f_X7_weather, if_neg (nI_pos (by omega)), if_pos (show nI w < 6 from nI_lt (b := 6) (by omega) (by decide)), e1, x0_get (by omega), bS, hR.1 _ (by omega)]
    · rw [f_X8_weather, x8_inY (fun e => hp (Or.inl e)) (fun e => hp (Or.inr e)), bS, if_neg (by decide), e1, cT (inB_n (by omega) (by decide)), nI_clamp (by omega)]

