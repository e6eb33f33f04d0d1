/-! ===== pure: the nearest free height; the plain answers ===== -/
theorem fr_out {R : Nat → Int32} {q : Int32} (h : q < 0 ∨ 9 < q) : f_X0_isFree R q = some (0, ()) := by
  rw [f_X0_isFree, isH_eq, x8_inN h, bS, if_pos rfl]
theorem fr_in {R N : Nat → Int32} {c : Nat} {q : Int32} (G : Good N c) (hR : Rel R N c) (h : ¬ (q < 0 ∨ 9 < q)) :
    (f_X0_isFree R q = some (1, ()) ∧ f_X8_ownerOf N q = some (-1, ())) ∨ ∃ j, j < c ∧ f_X0_isFree R q = some (0, ()) ∧ f_X8_ownerOf N q = some (nI j, ()) := by
  have hin : f_X8_in q 0 9 = some (1, ()) := x8_inY (fun e => h (Or.inl e)) (fun e => h (Or.inr e))
  have hc := G.1
  obtain ⟨v, v1, v2, v3⟩ := own_both (h := q) G.2.1 hc hR
  rcases v3 with rfl | ⟨j, hj, rfl⟩
  · exact Or.inl ⟨by rw [f_X0_isFree, isH_eq, hin, bS, if_neg (by decide), v1, bS, if_pos rfl], v2⟩
  · exact Or.inr ⟨j, hj, by rw [f_X0_isFree, isH_eq, hin, bS, if_neg (by decide), v1, bS, if_neg (neg1 (by omega))], v2⟩
theorem two_n {y : Nat} : (2 : Int32) * nI y = nI (2 * y) := by rw [show (2 : Int32) = nI 2 from rfl, pk_mul]
theorem nf_poor {R : Nat → Int32} {m : Nat} {h : Int32} (hm : m < 6) : ∀ k y n, y + k = 10 → k < n → R (13 + 7 * m + 0) < (2 : Int32) * nI y → f_X7_nearestFree_L17 R (nI m) h n (nI y) = some (3, 0, ())
  | k, y, 0, _, hn, _ => absurd hn (Nat.not_lt_zero k)
  | 0, y, n + 1, hk, _, _ => by
    rw [f_X7_nearestFree_L17, if_pos (show (9 : Int32) < nI y from nI_lt (a := 9) (by omega) (by omega))]
  | k + 1, y, n + 1, hk, hn, hp => by
    rw [f_X7_nearestFree_L17, if_neg (show ¬ (9 : Int32) < nI y from nI_nlt (a := 9) (by omega) (by omega)), x0_of0 hm, bS, if_pos hp, nI_1]
    refine nf_poor hm k (y + 1) n (by omega) (by omega) ?_
    rw [two_n] at hp ⊢
    have := nI_le (a := 2 * y) (b := 2 * (y + 1)) (by omega) (by omega)
    grind
theorem nf_l {R N : Nat → Int32} {c m h : Nat} (G : Good N c) (hR : Rel R N c) (hm : m < c) (hh : h < 10) : ∀ k y n, y + k = 10 → 1 ≤ y → k < n →
    (∃ v, f_X7_nearestFree_L17 R (nI m) (nI h) n (nI y) = some (0, v, ()) ∧ f_X8_nearestFree_L28 N (nI m) (nI h) 0 n (nI y) = some (v, 0)) ∨ ∃ v w, f_X7_nearestFree_L17 R (nI m) (nI h) n (nI y) = some (3, v, ()) ∧ f_X8_nearestFree_L28 N (nI m) (nI h) 0 n (nI y) = some (w, 2)
  | k, y, 0, _, _, hn => absurd hn (Nat.not_lt_zero k)
  | 0, y, n + 1, hk, _, _ => by
    refine Or.inr ⟨0, 0, ?_, ?_⟩
    · rw [f_X7_nearestFree_L17, if_pos (show (9 : Int32) < nI y from nI_lt (a := 9) (by omega) (by omega))]
    · rw [f_X8_nearestFree_L28, if_pos (show (10 : Int32) ≤ nI y from nI_le (a := 10) (by omega) (by omega)), f_X8_raises, bS]
  | k + 1, y, n + 1, hk, hy, hn => by
    have hc := G.1
    have hm6 : m < 6 := by omega
    have ih := nf_l G hR hm hh k (y + 1) n (by omega) (by omega) (by omega)
    have r0 := hR.2.1 m hm 0 (by decide) (by decide)
    by_cases hp : N (13 + 7 * m + 0) < (2 : Int32) * nI y
    · refine Or.inr ⟨0, 0, nf_poor hm6 (k + 1) y (n + 1) hk (by omega) (by rw [r0]; exact hp), ?_⟩
      rw [f_X8_nearestFree_L28, if_neg (show ¬ (10 : Int32) ≤ nI y from nI_ge (b := 10) (by omega) (by omega)), x8_of0 hm6, bS, if_pos hp, f_X8_raises, bS]
    · have er : (nI h + nI y : Int32) = nI (h + y) := nI_add h y
      rw [f_X7_nearestFree_L17, if_neg (show ¬ (9 : Int32) < nI y from nI_nlt (a := 9) (by omega) (by omega)), x0_of0 hm6, bS, r0, if_neg hp, f_X8_nearestFree_L28, if_neg (show ¬ (10 : Int32) ≤ nI y from nI_ge (b := 10) (by omega) (by omega)), x8_of0 hm6, bS, if_neg hp, nI_1, er]
      by_cases hl : y ≤ h
      · have el : (nI h - nI y : Int32) = nI (h - y) := nI_sub hl
        rw [el, if_neg (nI_pos (by omega))]
        rcases fr_in (q := nI (h - y)) G hR (by
          rintro (e | e)
          · exact nI_pos (by omega) e
          · exact nI_nlt (a := 9) (by omega) (by omega) e) with ⟨f1, f2⟩ | ⟨j, hj, f1, f2⟩
        · rw [f1, bS, if_neg (by decide), f2, bS, if_neg (show ¬ (0 : Int32) ≤ -1 by decide)]
          exact Or.inl ⟨_, rfl, rfl⟩
        · rw [f1, bS, if_pos rfl, f2, bS, if_pos (nI_pos' (by omega))]
          by_cases h9 : h + y ≤ 9
          · rw [if_neg (show ¬ (10 : Int32) ≤ nI (h + y) from nI_ge (b := 10) (by omega) (by omega))]
            rcases fr_in (q := nI (h + y)) G hR (by
              rintro (e | e)
              · exact nI_pos (by omega) e
              · exact nI_nlt (a := 9) (by omega) (by omega) e) with ⟨g1, g2⟩ | ⟨i, hi, g1, g2⟩
            · rw [g1, bS, if_neg (by decide), g2, bS, if_neg (show ¬ (0 : Int32) ≤ -1 by decide)]
              exact Or.inl ⟨_, rfl, rfl⟩
            · rw [g1, bS, if_pos rfl, g2, bS, if_pos (nI_pos' (by omega))]
              exact ih
          · rw [if_pos (show (10 : Int32) ≤ nI (h + y) from nI_le (a := 10) (by omega) (by omega)), fr_out (Or.inr (nI_lt (a := 9) (by omega) (by omega))), bS, if_pos rfl]
            exact ih
      · have el : (nI h - nI y : Int32) < 0 := by
          have := nI_lt (a := h) (b := y) (by omega) (by omega)
          rw [Int32.lt_iff_toInt_lt] at this ⊢
          rw [show nI h - nI y = -(nI (y - h)) by rw [← nI_sub (show h ≤ y by omega)]; grind]
          have q : ∀ z, z < 16 → 0 < z → (-(nI z)).toInt < (0 : Int32).toInt := by decide +kernel
          exact q _ (by omega) (by omega)
        rw [fr_out (Or.inl el), bS, if_pos rfl, if_pos el]
        by_cases h9 : h + y ≤ 9
        · rw [if_neg (show ¬ (10 : Int32) ≤ nI (h + y) from nI_ge (b := 10) (by omega) (by omega))]
          rcases fr_in (q := nI (h + y)) G hR (by
            rintro (e | e)
            · exact nI_pos (by omega) e
            · exact nI_nlt (a := 9) (by omega) (by omega) e) with ⟨g1, g2⟩ | ⟨i, hi, g1, g2⟩
          · rw [g1, bS, if_neg (by decide), g2, bS, if_neg (show ¬ (0 : Int32) ≤ -1 by decide)]
            exact Or.inl ⟨_, rfl, rfl⟩
          · rw [g1, bS, if_pos rfl, g2, bS, if_pos (nI_pos' (by omega))]
            exact ih
        · rw [if_pos (show (10 : Int32) ≤ nI (h + y) from nI_le (a := 10) (by omega) (by omega)), fr_out (Or.inr (nI_lt (a := 9) (by omega) (by omega))), bS, if_pos rfl]
          exact ih
theorem q_nearestFree {R N : Nat → Int32} {t p : Int32} (H : PR R N) : AG2 (f_X7_nearestFree R p) (f_X8_nearestFree t N p) 1 3 := by
  obtain ⟨c, G, hR⟩ := H
  have hc := G.1
  have h0 := G.2.1
  have r0 := r0_of G hR
  rcases mem_cases hc p with ⟨m, hm, rfl⟩ | hno
  · have hm6 : m < 6 := by omega
    obtain ⟨h, hh, e⟩ := (G.2.2.2.2 m hm).1
    have e' : R (13 + 7 * m + 1) = nI h := (hR.2.1 m hm 1 (by decide) (by decide)).trans e
    have hx : f_X7_nearestFree R (nI m) = f_X7_nearestFree_L17 R (nI m) (nI h) FU (nI 1) := by rw [f_X7_nearestFree, x7_rsY r0 hc hm, bS, if_pos rfl, x0_of1 hm6, bS, e']; rfl
    have hy : f_X8_nearestFree t N (nI m) = f_X8_nearestFree_L28 N (nI m) (nI h) 0 FU (nI 1) := by rw [f_X8_nearestFree, x8_isM h0 hc hm, bS, if_neg (by decide), x8_of1 hm6, bS, e]; rfl
    rw [hx, hy]
    rcases nf_l G hR hm hh 9 1 FU (by decide) (by decide) (by rw [FU]; decide) with h | h
    · exact Or.inl h
    · exact Or.inr (Or.inr h)
  · refine Or.inr (Or.inl ⟨0, 0, ?_, ?_⟩)
    · rw [f_X7_nearestFree, x7_rsN r0 hc hno, bS, if_neg n1N]
    · rw [f_X8_nearestFree, x8_noM h0 hc hno, bS, if_pos rfl, f_X8_raises, bS]
