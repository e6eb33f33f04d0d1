/-! ===== pure: the law's cases of queries ===== -/
theorem q_account {R N : Nat → Int32} {t mU mH p : Int32} (H : PR R N) : AG1 (f_X7_account R mU mH p) (f_X8_account mU mH t N p) 2 := by
  obtain ⟨c, G, hR⟩ := H
  have r1 := hR.1
  by_cases e0 : p = 0
  · exact Or.inl ⟨N 0, by rw [f_X7_account, if_pos e0, x0_get0, bS, r1 0 (by decide)], by rw [f_X8_account, if_pos e0, cl0]⟩
  by_cases e1 : p = 1
  · exact Or.inl ⟨sumC N c, by rw [f_X7_account, if_neg e0, if_pos e1, x0_coinsA G hR, bS], by rw [f_X8_account, if_neg e0, if_pos e1, x8_coinsA G, bS]⟩
  by_cases e2 : p = 2
  · exact Or.inl ⟨N 7, by rw [f_X7_account, if_neg e0, if_neg e1, if_pos e2, x0_get7, bS, r1 7 (by decide)], by rw [f_X8_account, if_neg e0, if_neg e1, if_pos e2, cl7]⟩
  by_cases e3 : p = 3
  · exact Or.inl ⟨nI (cW N c), by rw [f_X7_account, if_neg e0, if_neg e1, if_neg e2, if_pos e3, x0_wNA G hR, bS], by rw [f_X8_account, if_neg e0, if_neg e1, if_neg e2, if_pos e3, x8_wNA G, bS]⟩
  by_cases e4 : p = 4
  · exact Or.inl ⟨N 8, by rw [f_X7_account, if_neg e0, if_neg e1, if_neg e2, if_neg e3, if_pos e4, x0_get8, bS, r1 8 (by decide)], by rw [f_X8_account, if_neg e0, if_neg e1, if_neg e2, if_neg e3, if_pos e4, cl8]⟩
  by_cases e5 : p = 5
  · exact Or.inl ⟨N 9, by rw [f_X7_account, if_neg e0, if_neg e1, if_neg e2, if_neg e3, if_neg e4, if_pos e5, x0_get9, bS, r1 9 (by decide)], by rw [f_X8_account, if_neg e0, if_neg e1, if_neg e2, if_neg e3, if_neg e4, if_pos e5, cl9]⟩
  by_cases e6 : p = 6
  · exact Or.inl ⟨N 10, by rw [f_X7_account, if_neg e0, if_neg e1, if_neg e2, if_neg e3, if_neg e4, if_neg e5, if_pos e6, x0_get10, bS, r1 10 (by decide)], by rw [f_X8_account, if_neg e0, if_neg e1, if_neg e2, if_neg e3, if_neg e4, if_neg e5, if_pos e6, cl10]⟩
  by_cases e7 : p = 7
  · exact Or.inl ⟨N 11, by rw [f_X7_account, if_neg e0, if_neg e1, if_neg e2, if_neg e3, if_neg e4, if_neg e5, if_neg e6, if_pos e7, x0_get11, bS, r1 11 (by decide)], by rw [f_X8_account, if_neg e0, if_neg e1, if_neg e2, if_neg e3, if_neg e4, if_neg e5, if_neg e6, if_pos e7, cl11]⟩
  by_cases e8 : p = 8
  · exact Or.inl ⟨N 12, by rw [f_X7_account, if_neg e0, if_neg e1, if_neg e2, if_neg e3, if_neg e4, if_neg e5, if_neg e6, if_neg e7, if_pos e8, x0_get12, bS, r1 12 (by decide)], by rw [f_X8_account, if_neg e0, if_neg e1, if_neg e2, if_neg e3, if_neg e4, if_neg e5, if_neg e6, if_neg e7, if_pos e8, cl12]⟩
  by_cases e9 : p = 9
  · exact Or.inl ⟨mU, by rw [f_X7_account, if_neg e0, if_neg e1, if_neg e2, if_neg e3, if_neg e4, if_neg e5, if_neg e6, if_neg e7, if_neg e8, if_pos e9, f_X2_size, bS], by rw [f_X8_account, if_neg e0, if_neg e1, if_neg e2, if_neg e3, if_neg e4, if_neg e5, if_neg e6, if_neg e7, if_neg e8, if_pos e9]⟩
  by_cases e10 : p = 10
  · exact Or.inl ⟨mH, by rw [f_X7_account, if_neg e0, if_neg e1, if_neg e2, if_neg e3, if_neg e4, if_neg e5, if_neg e6, if_neg e7, if_neg e8, if_neg e9, if_pos e10, f_X1_length, bS], by rw [f_X8_account, if_neg e0, if_neg e1, if_neg e2, if_neg e3, if_neg e4, if_neg e5, if_neg e6, if_neg e7, if_neg e8, if_neg e9, if_pos e10]⟩
  exact Or.inr ⟨0, 0, by rw [f_X7_account, if_neg e0, if_neg e1, if_neg e2, if_neg e3, if_neg e4, if_neg e5, if_neg e6, if_neg e7, if_neg e8, if_neg e9, if_neg e10], by rw [f_X8_account, if_neg e0, if_neg e1, if_neg e2, if_neg e3, if_neg e4, if_neg e5, if_neg e6, if_neg e7, if_neg e8, if_neg e9, if_neg e10, f_X8_raises, bS]⟩
theorem q_reason {mR mD mJ t p : Int32} : AG2 (f_X7_reason mR mD mJ p) (f_X8_reason mR mD mJ t p) 2 3 := by
  by_cases h0 : p < 0
  · exact Or.inr (Or.inl ⟨0, 0, by rw [f_X7_reason, if_pos h0], by rw [f_X8_reason, x8_inN (Or.inl h0), bS, if_pos rfl, f_X8_raises, bS]⟩)
  by_cases h2 : p ≤ 2
  · have hin : f_X8_in p 0 2 = some (1, ()) := x8_inY h0 (by grind)
    by_cases hr : mR = 0
    · exact Or.inr (Or.inr ⟨0, 0, by rw [f_X7_reason, if_neg h0, if_pos h2, if_pos hr], by rw [f_X8_reason, hin, bS, if_neg (by decide), if_pos hr, f_X8_raises, bS]⟩)
    by_cases e0 : p = 0
    · exact Or.inl ⟨mR, by rw [f_X7_reason, if_neg h0, if_pos h2, if_neg hr, if_pos e0], by rw [f_X8_reason, hin, bS, if_neg (by decide), if_neg hr, if_pos e0]⟩
    by_cases e1 : p = 1
    · exact Or.inl ⟨mD, by rw [f_X7_reason, if_neg h0, if_pos h2, if_neg hr, if_neg e0, if_pos e1], by rw [f_X8_reason, hin, bS, if_neg (by decide), if_neg hr, if_neg e0, if_pos e1]⟩
    exact Or.inl ⟨mJ, by rw [f_X7_reason, if_neg h0, if_pos h2, if_neg hr, if_neg e0, if_neg e1], by rw [f_X8_reason, hin, bS, if_neg (by decide), if_neg hr, if_neg e0, if_neg e1]⟩
  · exact Or.inr (Or.inl ⟨0, 0, by rw [f_X7_reason, if_neg h0, if_neg h2], by rw [f_X8_reason, x8_inN (Or.inr (by grind)), bS, if_pos rfl, f_X8_raises, bS]⟩)
