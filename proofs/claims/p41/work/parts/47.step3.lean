/-! ===== pure: a day, a bottle ===== -/
theorem st_day {R N : Nat → Int32} {mR mD mJ mA p : Int32} (H : PR R N) : Step R N mR mD mJ mA (f_X6_passDay R 0 0 p) (f_X8_goesBy mR mD mJ mA N p) := by
  obtain ⟨c, G, hR⟩ := H
  obtain ⟨P, p1, p2, p3⟩ := G.2.2.1
  have r1 := hR.1
  have hs := G.2.2.2.1
  by_cases hp : p < -40 ∨ 40 < p
  · refine Step.no (b := 0) (why := 1) (more := 0) (by decide) ?_ ?_
    · rw [f_X6_passDay, isCh_eq, x8_inN hp, bS, if_pos rfl, f_X6_refuse, bS]
    · rw [f_X8_goesBy, x8_inN hp, bS, if_pos rfl, f_X8_refuses, bS, cT j0]
  · have hin : f_X8_in p (-40) 40 = some (1, ()) := x8_inY (fun e => hp (Or.inl e)) (fun e => hp (Or.inr e))
    by_cases hq : N 1 + p < 900 ∨ 1100 < N 1 + p
    · refine Step.no (b := 0) (why := 13) (more := N 1 + p) (by decide) ?_ ?_
      · rw [f_X6_passDay, isCh_eq, hin, bS, if_neg (by decide), x0_get1, bS, isP_eq, r1 1 (by decide), x8_inN hq, bS, if_pos rfl, f_X6_refuse, bS]
      · rw [f_X8_goesBy, hin, bS, if_neg (by decide), cl1, x8_inN hq, bS, if_pos rfl, f_X8_refuses, bS, cT j0]
    · have hin2 : f_X8_in (N 1 + p) 900 1100 = some (1, ()) := x8_inY (fun e => hq (Or.inl e)) (fun e => hq (Or.inr e))
      obtain ⟨Q, q1, q2, q3⟩ := nat_in (p := N 1 + p) (a := 900) (b := 1100) (A := 900) (B := 1100) rfl rfl (by decide) (by decide) (fun e => hq (Or.inl e)) (fun e => hq (Or.inr e))
      by_cases hst : (-20 : Int32) < p
      · refine Step.yes (ha := fun _ _ _ e => hq (Or.inl (by rw [e]; decide))) (a := N 1 + p) (R' := _) (N' := _) (by rw [f_X6_passDay, isCh_eq, hin, bS, if_neg (by decide), x0_get1, bS, isP_eq, r1 1 (by decide), hin2, bS, if_neg (by decide), f_X0_changePressure, x0_add1, bS, x0_set2, bS, x0_set3, bS, bS, x0_add4, bS, if_pos hst]) (by rw [f_X8_goesBy, hin, bS, if_neg (by decide), cl1, hin2, bS, if_neg (by decide), if_pos hst, f_X8_does, bS, cT j1, cl2, cl3, cl4, cl5]) ?_ (fun K hK B => Bd_same B (by simp (disch := omega) only [upd_s, upd_n]) (by simp (disch := omega) only [upd_s, upd_n]) (fun j hj => ⟨by simp (disch := omega) only [upd_s, upd_n], by simp (disch := omega) only [upd_s, upd_n]⟩))
        refine ⟨c, PR_none G hR ?_ ⟨Q, q1, q2, ?_⟩ ?_ (fun i hi => ?_) (fun i hi => ?_) (g13 ?_ ?_ ?_ ?_ ?_ ?_ ?_ ?_ ?_ ?_ ?_ ?_ ?_)⟩
        all_goals simp (disch := omega) only [upd_s, upd_n, r1, q3, hs]
        all_goals grind
      · refine Step.yes (ha := fun _ _ _ e => hq (Or.inl (by rw [e]; decide))) (a := N 1 + p) (R' := _) (N' := _) (by rw [f_X6_passDay, isCh_eq, hin, bS, if_neg (by decide), x0_get1, bS, isP_eq, r1 1 (by decide), hin2, bS, if_neg (by decide), f_X0_changePressure, x0_add1, bS, x0_set2, bS, x0_set3, bS, bS, x0_add4, bS, if_neg hst, x0_set3, bS, x0_add5, bS]) (by rw [f_X8_goesBy, hin, bS, if_neg (by decide), cl1, hin2, bS, if_neg (by decide), if_neg hst, f_X8_does, bS, cT j1, cl2, cl3, cl4, cl5]) ?_ (fun K hK B => Bd_same B (by simp (disch := omega) only [upd_s, upd_n]) (by simp (disch := omega) only [upd_s, upd_n]) (fun j hj => ⟨by simp (disch := omega) only [upd_s, upd_n], by simp (disch := omega) only [upd_s, upd_n]⟩))
        refine ⟨c, PR_none G hR ?_ ⟨Q, q1, q2, ?_⟩ ?_ (fun i hi => ?_) (fun i hi => ?_) (g13 ?_ ?_ ?_ ?_ ?_ ?_ ?_ ?_ ?_ ?_ ?_ ?_ ?_)⟩
        all_goals simp (disch := omega) only [upd_s, upd_n, r1, q3, hs]
        all_goals grind
theorem st_fill {R N : Nat → Int32} {mR mD mJ mA p : Int32} (H : PR R N) : Step R N mR mD mJ mA (f_X6_fill R 0 0 p) (f_X8_bottles mR mD mJ mA N p) := by
  obtain ⟨c, G, hR⟩ := H
  have r1 := hR.1
  have hc := G.1
  have h0 := G.2.1
  have r0 : R 0 = nI c := (hR.1 0 (by decide)).trans h0
  have hs := G.2.2.2.1
  rcases mem_cases hc p with ⟨m, hm, rfl⟩ | hno
  · have r2 := hR.2.1 m hm
    have r3 := hR.2.2 m hm
    have hM := G.2.2.2.2 m hm
    have hm6 : m < 6 := by omega
    by_cases e3 : N 3 = 0
    · refine Step.no (b := 0) (why := 10) (more := N 2) (by decide) ?_ ?_
      · rw [f_X6_fill, x0_isM r0 hc hm, bS, if_neg (by decide), x0_get3, bS, r1 3 (by decide), e3, if_pos rfl, x0_get2, bS, f_X6_refuse, bS, r1 2 (by decide)]
      · rw [f_X8_bottles, x8_thY h0 hc hm, bS, if_neg n10, cl3, e3, if_pos rfl, f_X8_refuses, bS, cT j0, cl2]
    · obtain ⟨b, hb, e5⟩ := hM.2.1
      have e5' : N (13 + 7 * m + 5) = nI b := e5
      have s5 : R (13 + 7 * m + 5) = nI b := (r2 5 (by decide) (by decide)).trans e5
      by_cases eb : b = 3
      · subst eb
        refine Step.no (b := 0) (why := 11) (more := 3) (by decide) ?_ ?_
        · rw [f_X6_fill, x0_isM r0 hc hm, bS, if_neg (by decide), x0_get3, bS, r1 3 (by decide), if_neg e3, x0_of5 hm6, bS, s5, if_neg (by decide), f_X6_refuse, bS]
          rfl
        · rw [f_X8_bottles, x8_thY h0 hc hm, bS, if_neg n10, cl3, if_neg e3, x8_of5 hm6, bS, e5, if_pos (show nI 3 = 3 from rfl), f_X8_refuses, bS, cT j0]
      · have l3 : nI b < 3 := nI_lt (b := 3) (by omega) (by decide)
        have n3 : ¬ nI b = 3 := fun e => eb ((nI_eq (b := 3) (by omega) (by decide)).mp e)
        refine Step.yes (ha := fun _ _ _ => neg1001 (show b + 1 < 2 ^ 31 by omega)) (a := nI (b + 1)) (R' := _) (N' := _) (by rw [f_X6_fill, x0_isM r0 hc hm, bS, if_neg (by decide), x0_get3, bS, r1 3 (by decide), if_neg e3, x0_of5 hm6, bS, s5, if_pos l3, x0_set3, bS, x0_addOf5 hm6, bS, upd_n (show 13 + 7 * m + 5 ≠ 3 by omega), s5, nI_1]) (by rw [f_X8_bottles, x8_thY h0 hc hm, bS, if_neg n10, cl3, if_neg e3, x8_of5 hm6, bS, e5, if_neg n3, x8_of5 hm6, bS, x8_sets5 hm6, bS, x8_of5 hm6, bS, f_X8_does, bS, cT j1, upd_s, upd_n (show 13 + 7 * m + 5 ≠ 3 by omega), e5, nI_1]) ?_ (fun K hK B => Bd_same B (by simp (disch := omega) only [upd_s, upd_n]) (by simp (disch := omega) only [upd_s, upd_n]) (fun j hj => ⟨by simp (disch := omega) only [upd_s, upd_n], by simp (disch := omega) only [upd_s, upd_n]⟩))
        refine ⟨c, PR_one G hR hm ?_ ⟨G.2.2.1.choose, G.2.2.1.choose_spec.1, G.2.2.1.choose_spec.2.1, ?_⟩ ?_ (fun j hj hjm w hw => ?_) (fun j hj hjm w hw => ?_) ⟨?_, ⟨b + 1, by omega, ?_⟩, ?_⟩ (g13 ?_ ?_ ?_ ?_ ?_ ?_ ?_ ?_ ?_ ?_ ?_ ?_ ?_) (w7 ?_ ?_ ?_ ?_ ?_ ?_) ?_⟩
        all_goals simp (disch := omega) only [upd_s, upd_n, r1, r2, r3, hs, hM.1, hM.2.2]
        all_goals first | exact G.2.2.1.choose_spec.2.2 | grind
  · refine Step.no (b := 0) (why := 4) (more := nI c) (by decide) ?_ ?_
    · rw [f_X6_fill, x0_noM r0 hc hno, bS, if_pos rfl, x6_str r0, bS]
    · rw [f_X8_bottles, x8_thN h0 hc hno, bS, if_pos rfl]

