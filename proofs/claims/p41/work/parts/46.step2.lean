/-! ===== pure: enter, a day, a bottle, the steps of one member ===== -/
theorem st_enter {R N : Nat → Int32} {mR mD mJ mA p : Int32} (H : PR R N) : Step R N mR mD mJ mA (f_X6_enter R 0 0 p) (f_X8_joins mR mD mJ mA N p) := by
  obtain ⟨c, G, hR⟩ := H
  have hc := G.1
  have h0 := G.2.1
  have r0 : R 0 = nI c := (hR.1 0 (by decide)).trans h0
  by_cases hp : p < 0 ∨ 9 < p
  · refine Step.no (b := 0) (why := 1) (more := 0) (by decide) ?_ ?_
    · rw [f_X6_enter, isH_eq, x8_inN hp, bS, if_pos rfl, f_X6_refuse, bS]
    · rw [f_X8_joins, x8_inN hp, bS, if_pos rfl, f_X8_refuses, bS, cT j0]
  · obtain ⟨h, h9, rfl⟩ := nat9 hp
    have hin : f_X8_in (nI h) 0 9 = some (1, ()) := x8_inY (fun e => hp (Or.inl e)) (fun e => hp (Or.inr e))
    obtain ⟨v, v1, v2, v3⟩ := own_both (h := nI h) h0 hc hR
    by_cases hc6 : c = 6
    · subst hc6
      refine Step.no (b := 0) (why := 2) (more := 6) (by decide) ?_ ?_
      · rw [f_X6_enter, isH_eq, hin, bS, if_neg (by decide), x0_get0, bS, r0, if_neg (by decide), bS, f_X6_refuse, bS]
        rfl
      · rw [f_X8_joins, hin, bS, if_neg (by decide), cl0, h0, if_pos (show nI 6 = 6 from rfl), f_X8_refuses, bS, cT j0]
    · have hc' : c < 6 := by omega
      have l6 : nI c < 6 := nI_lt (b := 6) hc' (by decide)
      have n6 : ¬ nI c = 6 := fun e => hc6 ((nI_eq (b := 6) (by omega) (by decide)).mp e)
      have hfr : f_X0_isFree R (nI h) = (if v = -1 then some (1, ()) else some (0, ())) := by
        rw [f_X0_isFree, isH_eq, hin, bS, if_neg (by decide), v1, bS]
      rcases v3 with rfl | ⟨j, hj, rfl⟩
      · refine Step.yes (ha := fun _ _ _ => neg1001 (show c < 2 ^ 31 by omega)) (a := nI c) ?_ ?_ (enroll_PR G hR hc' h9) (enroll_Bd h0 hc')
        · rw [f_X6_enter, isH_eq, hin, bS, if_neg (by decide), x0_get0, bS, r0, if_pos l6, hfr, if_pos rfl, bS, if_neg (by decide), x0_enroll r0 hc', bS]
        · rw [f_X8_joins, hin, bS, if_neg (by decide), cl0, h0, if_neg n6, v2, bS, if_pos (show (-1 : Int32) < 0 by decide), nI_1]
          exact x8_j69 hc' 7 0 FU _ (by decide) (by rw [FU]; decide)
      · have nj : ¬ nI j = -1 := fun e => nI_pos (show j < 2 ^ 31 by omega) (by rw [e]; decide)
        refine Step.no (b := 0) (why := 3) (more := nI j) (by decide) ?_ ?_
        · rw [f_X6_enter, isH_eq, hin, bS, if_neg (by decide), x0_get0, bS, r0, if_pos l6, hfr, if_neg nj, bS, if_pos rfl, v1, bS, f_X6_refuse, bS]
        · rw [f_X8_joins, hin, bS, if_neg (by decide), cl0, h0, if_neg n6, v2, bS, if_neg (nI_pos (by omega)), bS, f_X8_refuses, bS, cT j0]
theorem n10 : ¬ (1 : Int32) = 0 := by decide
theorem x6_str {R : Nat → Int32} {c : Nat} {a b : Int32} (h0 : R 0 = nI c) : f_X6_refuseStranger R a b = some (0, 4, nI c) := by
  rw [f_X6_refuseStranger, x0_get0, bS, h0, f_X6_refuse, bS]
theorem PR_none {R N R' N' : Nat → Int32} {c : Nat} (G : Good N c) (hR : Rel R N c) (h0 : N' 0 = N 0) (h1 : ∃ P, 900 ≤ P ∧ P ≤ 1100 ∧ N' 1 = nI P) (hs : N' 11 = sumC N c + N' 7 + N' 12)
    (hN : ∀ i, 13 ≤ i → N' i = N i) (hRR : ∀ i, 13 ≤ i → R' i = R i) (hg : ∀ i, i < 13 → R' i = N' i) : Good N' c ∧ Rel R' N' c := by
  obtain ⟨hc, g0, -, -, hM⟩ := G
  refine ⟨⟨hc, h0.trans g0, h1, ?_, fun m hm => Memb_congr (fun w hw => hN _ (by omega)) (hM m hm)⟩, hg, fun m hm w hw hw2 => ?_, fun m hm => ?_⟩
  · rw [hs, sumC_congr (N := N) (N' := N') (fun m hm => hN _ (by omega))]
  · rw [hRR _ (by omega), hN _ (by omega), hR.2.1 m hm w hw hw2]
  · rw [hRR _ (by omega), hN _ (by omega), hN _ (by omega), hR.2.2 m hm]
theorem PR_one {R N R' N' : Nat → Int32} {c k : Nat} (G : Good N c) (hR : Rel R N c) (hk : k < c) (h0 : N' 0 = N 0) (h1 : ∃ P, 900 ≤ P ∧ P ≤ 1100 ∧ N' 1 = nI P)
    (hs : N' 11 = sumC N c + (N' (13 + 7 * k + 0) - N (13 + 7 * k + 0)) + N' 7 + N' 12)
    (hN : ∀ m, m < c → m ≠ k → ∀ w, w < 7 → N' (13 + 7 * m + w) = N (13 + 7 * m + w)) (hRR : ∀ m, m < c → m ≠ k → ∀ w, w < 7 → R' (13 + 7 * m + w) = R (13 + 7 * m + w))
    (hM : Memb N' k) (hg : ∀ i, i < 13 → R' i = N' i) (k1 : ∀ w, w < 7 → w ≠ 2 → R' (13 + 7 * k + w) = N' (13 + 7 * k + w))
    (k2 : R' (13 + 7 * k + 2) = if 0 < N' (13 + 7 * k + 3) then N' (13 + 7 * k + 2) else -1) : Good N' c ∧ Rel R' N' c := by
  obtain ⟨hc, g0, -, -, gM⟩ := G
  refine ⟨⟨hc, h0.trans g0, h1, ?_, fun m hm => ?_⟩, hg, fun m hm w hw hw2 => ?_, fun m hm => ?_⟩
  · rw [hs, sumC_one (N := N) (N' := N') hk (fun m hm e => hN m hm e 0 (by decide))]
  · by_cases e : m = k
    · rw [e]; exact hM
    · exact Memb_congr (hN m hm e) (gM m hm)
  · by_cases e : m = k
    · rw [e]; exact k1 w hw hw2
    · rw [hRR m hm e w hw, hN m hm e w hw, hR.2.1 m hm w hw hw2]
  · by_cases e : m = k
    · rw [e]; exact k2
    · rw [hRR m hm e 2 (by decide), hN m hm e 2 (by decide), hN m hm e 3 (by decide), hR.2.2 m hm]
theorem nat_in {p a b : Int32} {A B : Nat} (ha : a = nI A) (hb : b = nI B) (hA : A < 2 ^ 31) (hB : B < 2 ^ 31) (h1 : ¬ p < a) (h2 : ¬ b < p) : ∃ k, A ≤ k ∧ k ≤ B ∧ p = nI k := by
  subst ha hb
  have h0 : ¬ p < 0 := fun e => h1 (by
    have := nI_pos' hA
    grind)
  obtain ⟨j, hj, rfl⟩ := nI_of h0
  refine ⟨j, ?_, ?_, rfl⟩
  · by_cases e : A ≤ j
    · exact e
    · exact absurd (nI_lt (show j < A by omega) hA) h1
  · by_cases e : j ≤ B
    · exact e
    · exact absurd (nI_lt (show B < j by omega) hj) h2

