/-! ===== pure: a tap, an exchange ===== -/
def sgn (v : Int32) : Int32 := if v ≤ 0 then (if 0 ≤ v then 0 else -1) else 1
theorem signOf_eq {v : Int32} : f_X7_signOf v = some (sgn v, ()) := by
  rw [f_X7_signOf, sgn]
  by_cases h : v = 0
  · rw [if_pos h, if_pos (by grind), if_pos (by grind)]
  · rw [if_neg h]
    by_cases h1 : v ≤ 0
    · rw [if_pos h1, if_pos h1, if_neg (by grind)]
    · rw [if_neg h1, if_neg h1]
theorem st_knock {R N : Nat → Int32} {mR mD mJ mA p : Int32} (H : PR R N) : Step R N mR mD mJ mA (f_X6_knock R 0 0 p) (f_X8_taps mR mD mJ mA N p) := by
  obtain ⟨c, G, hR⟩ := H
  have r1 := hR.1
  have hc := G.1
  have h0 := G.2.1
  have r0 : R 0 = nI c := (hR.1 0 (by decide)).trans h0
  have hs := G.2.2.2.1
  obtain ⟨P, p1, p2, p3⟩ := G.2.2.1
  rcases mem_cases hc p with ⟨m, hm, rfl⟩ | hno
  · have r2 := hR.2.1 m hm
    have r3 := hR.2.2 m hm
    have hM := G.2.2.2.2 m hm
    have hm6 : m < 6 := by omega
    by_cases hw : N (13 + 7 * m + 3) ≤ 0
    · have hwg : wg N m = 0 := by rw [wg, if_pos hw]
      refine Step.no (b := 0) (why := 8) (more := 0) (by decide) ?_ ?_
      · rw [f_X6_knock, x0_isM r0 hc hm, bS, if_neg (by decide), x0_wg hR hm hc hM, hwg, bS, if_pos rfl, f_X6_refuse, bS]
      · rw [f_X8_taps, x8_thY h0 hc hm, bS, if_neg n10, x8_wg hm6, hwg, bS, if_pos rfl, f_X8_refuses, bS, cT j0]
    · have hwg : wg N m = 1 := by rw [wg, if_neg hw]
      by_cases ht : N (13 + 7 * m + 4) = 1
      · have htp : tp N m = 1 := by rw [tp, if_pos ht]
        refine Step.no (b := 0) (why := 9) (more := N (13 + 7 * m + 3)) (by decide) ?_ ?_
        · rw [f_X6_knock, x0_isM r0 hc hm, bS, if_neg (by decide), x0_wg hR hm hc hM, hwg, bS, if_neg (by decide), x0_tp hR hm hc, htp, bS, if_neg (by decide), x0_of3 hm6, bS, f_X6_refuse, bS, r2 3 (by decide) (by decide)]
        · rw [f_X8_taps, x8_thY h0 hc hm, bS, if_neg n10, x8_wg hm6, hwg, bS, if_neg (by decide), x8_of4 hm6, bS, if_pos ht, x8_of3 hm6, bS, f_X8_refuses, bS, cT j0]
      · have htp : tp N m = 0 := by rw [tp, if_neg ht]
        have h4 : N (13 + 7 * m + 4) = 0 := by
          rcases hM.2.2 with h | ⟨-, -, h | h⟩
          · exact h.2
          · exact h
          · exact absurd h ht
        by_cases hk : 1 ≤ N (13 + 7 * m + 0)
        · refine Step.yes (ha := fun _ _ _ => by rw [sgn]; split <;> (try split) <;> decide) (a := sgn (N 2)) (R' := _) (N' := _) (by
            rw [f_X6_knock, x0_isM r0 hc hm, bS, if_neg (by decide), x0_wg hR hm hc hM, hwg, bS, if_neg (by decide), x0_tp hR hm hc, htp, bS, if_pos rfl, x0_of0 hm6, bS, r2 0 (by decide) (by decide), if_pos hk, x0_pay hm6, bS, x0_add10, bS, x0_setOf4 hm6, bS, x0_get2, bS, signOf_eq, bS]
            refine congrArg some (Prod.ext ?_ rfl)
            simp (disch := omega) only [upd_s, upd_n, r1]) (by
            rw [f_X8_taps, x8_thY h0 hc hm, bS, if_neg n10, x8_wg hm6, hwg, bS, if_neg (by decide), x8_of4 hm6, bS, if_neg ht, x8_payY hm6 hk, bS, if_neg n10, cl10, x8_sets4 hm6, bS, cl2]
            simp (disch := omega) only [upd_s, upd_n]
            rw [sgn]
            by_cases e1 : N 2 ≤ 0
            · rw [if_pos e1, if_pos e1]
              by_cases e2 : 0 ≤ N 2
              · rw [if_pos e2, if_pos e2, f_X8_does, bS, cT j1]
              · rw [if_neg e2, if_neg e2, f_X8_does, bS, cT j1]
            · rw [if_neg e1, if_neg e1, f_X8_does, bS, cT j1]) ?_ (fun K hK B => Bd_pay hc h0 hm (s := 1) (by decide) hK (hk) B (by simp (disch := omega) only [upd_s, upd_n]) (by simp (disch := omega) only [upd_s, upd_n]; rfl) (by simp (disch := omega) only [upd_s, upd_n]; rfl) (by simp (disch := omega) only [upd_s, upd_n]) (fun j hj hjm => ⟨by simp (disch := omega) only [upd_s, upd_n], by simp (disch := omega) only [upd_s, upd_n]⟩))
          have hst : (∃ s, 1 ≤ s ∧ s ≤ 9 ∧ N (13 + 7 * m + 3) = nI s) ∧ ∃ g, 700 ≤ g ∧ g ≤ 1100 ∧ N (13 + 7 * m + 2) = nI g := by
            rcases hM.2.2 with h | ⟨a, b, -⟩
            · exact absurd (by rw [h.1]; decide) hw
            · exact ⟨a, b⟩
          refine ⟨c, PR_one G hR hm ?_ ⟨P, p1, p2, ?_⟩ ?_ (fun j hj hjm w hw => ?_) (fun j hj hjm w hw => ?_) ⟨?_, ?_, Or.inr ⟨?_, ?_, Or.inr ?_⟩⟩ (g13 ?_ ?_ ?_ ?_ ?_ ?_ ?_ ?_ ?_ ?_ ?_ ?_ ?_) (w7 ?_ ?_ ?_ ?_ ?_ ?_) ?_⟩
          all_goals simp (disch := omega) only [upd_s, upd_n, r1, r2, r3, hs, hM.1, hM.2.1, p3, hst.1, hst.2]
          all_goals grind
        · refine Step.no (b := 0) (why := 5) (more := 1 - N (13 + 7 * m + 0)) (by decide) ?_ ?_
          · rw [f_X6_knock, x0_isM r0 hc hm, bS, if_neg (by decide), x0_wg hR hm hc hM, hwg, bS, if_neg (by decide), x0_tp hR hm hc, htp, bS, if_pos rfl, x0_of0 hm6, bS, r2 0 (by decide) (by decide), if_neg hk, bS, f_X6_refuse, bS]
          · rw [f_X8_taps, x8_thY h0 hc hm, bS, if_neg n10, x8_wg hm6, hwg, bS, if_neg (by decide), x8_of4 hm6, bS, if_neg ht, x8_payN hm6 hk, bS, if_pos rfl]
  · refine Step.no (b := 0) (why := 4) (more := nI c) (by decide) ?_ ?_
    · rw [f_X6_knock, x0_noM r0 hc hno, bS, if_pos rfl, x6_str r0, bS]
    · rw [f_X8_taps, x8_thN h0 hc hno, bS, if_pos rfl]
theorem PR_h {R N : Nat → Int32} {c m h : Nat} (G : Good N c) (hR : Rel R N c) (hm : m < c) (hh : h < 10) : Good (upd N (13 + 7 * m + 1) (nI h)) c ∧ Rel (upd R (13 + 7 * m + 1) (nI h)) (upd N (13 + 7 * m + 1) (nI h)) c := by
  have r1 := hR.1
  have r2 := hR.2.1 m hm
  have r3 := hR.2.2 m hm
  have hs := G.2.2.2.1
  have hM := G.2.2.2.2 m hm
  obtain ⟨P, p1, p2, p3⟩ := G.2.2.1
  refine PR_one G hR hm ?_ ⟨P, p1, p2, ?_⟩ ?_ (fun j hj hjm w hw => ?_) (fun j hj hjm w hw => ?_) ⟨⟨h, hh, ?_⟩, ?_, ?_⟩ (g13 ?_ ?_ ?_ ?_ ?_ ?_ ?_ ?_ ?_ ?_ ?_ ?_ ?_) (w7 ?_ ?_ ?_ ?_ ?_ ?_) ?_
  all_goals simp (disch := omega) only [upd_s, upd_n, r1, r2, r3, hs, hM.2.1, hM.2.2, p3]
  all_goals grind
theorem st_swap {R N : Nat → Int32} {mR mD mJ mA p q : Int32} (H : PR R N) : Step R N mR mD mJ mA (f_X6_swap R 0 0 p q) (f_X8_exchanges mR mD mJ mA N p q) := by
  obtain ⟨c, G, hR⟩ := H
  have hc := G.1
  have h0 := G.2.1
  have r0 : R 0 = nI c := (hR.1 0 (by decide)).trans h0
  rcases mem_cases hc p with ⟨m, hm, rfl⟩ | hno
  · rcases mem_cases hc q with ⟨k, hk, rfl⟩ | hno
    · by_cases e : m = k
      · subst e
        refine Step.no (b := 0) (why := 6) (more := nI m) (by decide) ?_ ?_
        · rw [f_X6_swap, x0_isM r0 hc hm, bS, if_neg (by decide), bS, if_neg (by decide), if_pos rfl, f_X6_refuse, bS]
        · rw [f_X8_exchanges, x8_thY h0 hc hm, bS, if_neg n10, x8_thY h0 hc hm, bS, if_neg n10, if_pos rfl, f_X8_refuses, bS, cT j0]
      · have ne : ¬ nI m = nI k := fun e' => e ((nI_eq (by omega) (by omega)).mp e')
        have hm6 : m < 6 := by omega
        have hk6 : k < 6 := by omega
        obtain ⟨h, hh, e1⟩ := (G.2.2.2.2 m hm).1
        obtain ⟨h', hh', e1'⟩ := (G.2.2.2.2 k hk).1
        have q1 : R (13 + 7 * m + 1) = nI h := (hR.2.1 m hm 1 (by decide) (by decide)).trans e1
        have q1' : R (13 + 7 * k + 1) = nI h' := (hR.2.1 k hk 1 (by decide) (by decide)).trans e1'
        have d1 : 13 + 7 * m + 1 ≠ 13 + 7 * k + 1 := by omega
        obtain ⟨G1, R1⟩ := PR_h G hR hm hh'
        obtain ⟨G2, R2⟩ := PR_h G1 R1 hk hh
        refine Step.yes (ha := fun _ _ _ => jab_ne h hh h' hh') (a := jabs (nI h - nI h')) ?_ ?_ ⟨c, G2, R2⟩ (fun K hK B => Bd_same B (by simp (disch := omega) only [upd_s, upd_n]) (by simp (disch := omega) only [upd_s, upd_n]) (fun j hj => ⟨by simp (disch := omega) only [upd_s, upd_n], by simp (disch := omega) only [upd_s, upd_n]⟩))
        · rw [f_X6_swap, x0_isM r0 hc hm, bS, if_neg (by decide), x0_isM r0 hc hk, bS, if_neg (by decide), if_neg ne, x0_of1 hm6, bS, x0_of1 hk6, bS, x0_setOf1 hm6, bS, x0_setOf1 hk6, bS, x0_of1 hm6, bS, q1, q1', upd_n d1, upd_s]
        · rw [f_X8_exchanges, x8_thY h0 hc hm, bS, if_neg n10, x8_thY h0 hc hk, bS, if_neg n10, if_neg ne, x8_of1 hm6, bS, x8_of1 hk6, bS, x8_sets1 hm6, bS, x8_sets1 hk6, bS, x8_of1 hm6, bS, f_X8_apart, bS, f_X8_does, bS, cT j1, e1, e1', upd_n d1, upd_s]
    · refine Step.no (b := 0) (why := 4) (more := nI c) (by decide) ?_ ?_
      · rw [f_X6_swap, x0_isM r0 hc hm, bS, if_neg (by decide), x0_noM r0 hc hno, bS, if_pos rfl, x6_str r0, bS]
      · rw [f_X8_exchanges, x8_thY h0 hc hm, bS, if_neg n10, x8_thN h0 hc hno, bS, if_pos rfl]
  · refine Step.no (b := 0) (why := 4) (more := nI c) (by decide) ?_ ?_
    · rw [f_X6_swap, x0_noM r0 hc hno, bS, if_pos rfl, x6_str r0, bS]
    · rw [f_X8_exchanges, x8_thN h0 hc hno, bS, if_pos rfl]

