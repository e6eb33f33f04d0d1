/-! ===== pure: the law's cases of queries ===== -/
theorem q_account {R N : Nat → Int32} {t mU mH p : Int32} (H : PR R N) : AG1 (f_X7_account R mU mH p) (f_X8_account mU mH t N p) 2 := by
  obtain ⟨c, G, hR⟩ := H
  have r1 := hR.1
  by_cases e0 : p = 0
  · exact Or.inl ⟨N 0, by rw [f_X7_account, if_pos e0, x0_get0, bS, r1 0 (by decide)], by rw [f_X8_account, if_pos e0, cl0]⟩
  by_cases e1 : p = 1
  · exact Or.inl ⟨sumC N c, by rw [f_X7_account, if_neg e0, if_pos e1, x0_coinsA G hR, bS], by rw [f_X8_account, if_neg e0, if_pos e1, x8_coinsA G, bS]⟩
  by_cases e2 : p = 2
  · exact Or.inl ⟨N 7, by rw [f_X7_account, if_neg e0, if_neg e1, if_pos e2, x0_get7, bS, r1 7 (by decide)], by rw [f_X8_account, if_neg e0, if_neg e1, if_pos e2, cl7]⟩
  by_cases e3 : p = 3
  · exact Or.inl ⟨nI (cW N c), by rw [f_X7_account, if_neg e0, if_neg e1, if_neg e2, if_pos e3, x0_wNA G hR, bS], by rw [f_X8_account, if_neg e0, if_neg e1, if_neg e2, if_pos e3, x8_wNA G, bS]⟩
  by_cases e4 : p = 4
  · exact Or.inl ⟨N 8, by rw [f_X7_account, if_neg e0, if_neg e1, if_neg e2, if_neg e3, if_pos e4, x0_get8, bS, r1 8 (by decide)], by rw [f_X8_account, if_neg e0, if_neg e1, if_neg e2, if_neg e3, if_pos e4, cl8]⟩
  by_cases e5 : p = 5
  · exact Or.inl ⟨N 9, by rw [f_X7_account, if_neg e0, if_neg e1, if_neg e2, if_neg e3, if_neg e4, if_pos e5, x0_get9, bS, r1 9 (by decide)], by rw [f_X8_account, if_neg e0, if_neg e1, if_neg e2, if_neg e3, if_neg e4, if_pos e5, cl9]⟩
  by_cases e6 : p = 6
  · exact Or.inl ⟨N 10, by rw [f_X7_account, if_neg e0, if_neg e1, if_neg e2, if_neg e3, if_neg e4, if_neg e5, if_pos e6, x0_get10, bS, r1 10 (by decide)], by rw [f_X8_account, if_neg e0, if_neg e1, if_neg e2, if_neg e3, if_neg e4, if_neg e5, if_pos e6, cl10]⟩
  by_cases e7 : p = 7
  · exact Or.inl ⟨N 11, by rw [f_X7_account, if_neg e0, if_neg e1, if_neg e2, if_neg e3, if_neg e4, if_neg e5, if_neg e6, if_pos e7, x0_get11, bS, r1 11 (by decide)], by rw [f_X8_account, if_neg e0, if_neg e1, if_neg e2, if_neg e3, if_neg e4, if_neg e5, if_neg e6, if_pos e7, cl11]⟩
  by_cases e8 : p = 8
  · exact Or.inl ⟨N 12, by rw [f_X7_account, if_neg e0, if_neg e1, if_neg e2, if_neg e3, if_neg e4, if_neg e5, if_neg e6, if_neg e7, if_pos e8, x0_get12, bS, r1 12 (by decide)], by rw [f_X8_account, if_neg e0, if_neg e1, if_neg e2, if_neg e3, if_neg e4, if_neg e5, if_neg e6, if_neg e7, if_pos e8, cl12]⟩
  by_cases e9 : p = 9
  · exact Or.inl ⟨mU, by rw [f_X7_account, if_neg e0, if_neg e1, if_neg e2, if_neg e3, if_neg e4, if_neg e5, if_neg e6, if_neg e7, if_neg e8, if_pos e9, f_X2_size, bS], by rw [f_X8_account, if_neg e0, if_neg e1, if_neg e2, if_neg e3, if_neg e4, if_neg e5, if_neg e6, if_neg e7, if_neg e8, if_pos e9]⟩
  by_cases e10 : p = 10
  · exact Or.inl ⟨mH, by rw [f_X7_account, if_neg e0, if_neg e1, if_neg e2, if_neg e3, if_neg e4, if_neg e5, if_neg e6, if_neg e7, if_neg e8, if_neg e9, if_pos e10, f_X1_length, bS], by rw [f_X8_account, if_neg e0, if_neg e1, if_neg e2, if_neg e3, if_neg e4, if_neg e5, if_neg e6, if_neg e7, if_neg e8, if_neg e9, if_pos e10]⟩
  exact Or.inr ⟨0, 0, by rw [f_X7_account, if_neg e0, if_neg e1, if_neg e2, if_neg e3, if_neg e4, if_neg e5, if_neg e6, if_neg e7, if_neg e8, if_neg e9, if_neg e10], by rw [f_X8_account, if_neg e0, if_neg e1, if_neg e2, if_neg e3, if_neg e4, if_neg e5, if_neg e6, if_neg e7, if_neg e8, if_neg e9, if_neg e10, f_X8_raises, bS]⟩
theorem q_reason {mR mD mJ t p : Int32} : AG2 (f_X7_reason mR mD mJ p) (f_X8_reason mR mD mJ t p) 2 3 := by
  by_cases h0 : p < 0
  · exact Or.inr (Or.inl ⟨0, 0, by rw [f_X7_reason, if_pos h0], by rw [f_X8_reason, x8_inN (Or.inl h0), bS, if_pos rfl, f_X8_raises, bS]⟩)
  by_cases h2 : p ≤ 2
  · have hin : f_X8_in p 0 2 = some (1, ()) := x8_inY h0 (by grind)
    by_cases hr : mR = 0
    · exact Or.inr (Or.inr ⟨0, 0, by rw [f_X7_reason, if_neg h0, if_pos h2, if_pos hr], by rw [f_X8_reason, hin, bS, if_neg (by decide), if_pos hr, f_X8_raises, bS]⟩)
    by_cases e0 : p = 0
    · exact Or.inl ⟨mR, by rw [f_X7_reason, if_neg h0, if_pos h2, if_neg hr, if_pos e0], by rw [f_X8_reason, hin, bS, if_neg (by decide), if_neg hr, if_pos e0]⟩
    by_cases e1 : p = 1
    · exact Or.inl ⟨mD, by rw [f_X7_reason, if_neg h0, if_pos h2, if_neg hr, if_neg e0, if_pos e1], by rw [f_X8_reason, hin, bS, if_neg (by decide), if_neg hr, if_neg e0, if_pos e1]⟩
    exact Or.inl ⟨mJ, by rw [f_X7_reason, if_neg h0, if_pos h2, if_neg hr, if_neg e0, if_neg e1], by rw [f_X8_reason, hin, bS, if_neg (by decide), if_neg hr, if_neg e0, if_neg e1]⟩
  · exact Or.inr (Or.inl ⟨0, 0, by rw [f_X7_reason, if_neg h0, if_neg h2], by rw [f_X8_reason, x8_inN (Or.inr (by grind)), bS, if_pos rfl, f_X8_raises, bS]⟩)
theorem case_C27 {mF t : Int32} : ∃ t', f_law_C27 mF mF t = some t' := ⟨0, by rw [f_law_C27, f_X7_faultPosition, bS, f_X8_faultPosition, bS, if_pos rfl]⟩
theorem case_C10 {L i : Nat} {xs : Nat → Int32} {R N : Nat → Int32} {t : Int32} {oL : Nat → Int64} (hi : i + 4 ≤ L) (hL : L ≤ 2048) (H : PR R N) : ∃ t' oL', f_law_C10 L xs (nI i) R t N oL = some (t', oL') := by
  rcases q_memberOf (t := t) (p := (xs (nI i + (1 : Int32)).toNatClampNeg)) (q := (xs (nI i + (2 : Int32)).toNatClampNeg)) H with ⟨v, h1, h2⟩ | ⟨v, w, h1, h2⟩ | ⟨v, w, h1, h2⟩
  · exact ⟨0, vp_updL oL (0 : Int32).toNatClampNeg v.toInt64, by rw [f_law_C10, cT (in1 hi hL), cT (in2 hi hL), f_L_memberOf, h1, bS, if_pos rfl, bS, cT (in1 hi hL), cT (in2 hi hL), h2, bS, f_X8_thrown, bS, if_pos rfl, if_pos rfl, if_pos lgu]⟩
  · exact ⟨1, oL, by rw [f_law_C10, cT (in1 hi hL), cT (in2 hi hL), f_L_memberOf, h1, bS, if_neg (show ¬ (1 : Nat) = 0 by decide), if_pos rfl, bS, cT (in1 hi hL), cT (in2 hi hL), h2, bS, f_X8_thrown, bS, if_pos rfl, if_neg (show ¬ (1 : Int32) = 0 by decide)]⟩
  · exact ⟨2, oL, by rw [f_law_C10, cT (in1 hi hL), cT (in2 hi hL), f_L_memberOf, h1, bS, if_neg (show ¬ (2 : Nat) = 0 by decide), if_neg (show ¬ (2 : Nat) = 1 by decide), if_pos rfl, bS, cT (in1 hi hL), cT (in2 hi hL), h2, bS, f_X8_thrown, bS, if_pos rfl, if_neg (show ¬ (2 : Int32) = 0 by decide)]⟩
theorem case_C11 {L i : Nat} {xs : Nat → Int32} {R N : Nat → Int32} {t : Int32} {oL : Nat → Int64} (hi : i + 4 ≤ L) (hL : L ≤ 2048) (H : PR R N) : ∃ t' oL', f_law_C11 L xs (nI i) R t N oL = some (t', oL') := by
  rcases q_needle (t := t) (p := (xs (nI i + (1 : Int32)).toNatClampNeg)) H with ⟨v, h1, h2⟩ | ⟨v, w, h1, h2⟩
  · exact ⟨0, vp_updL oL (0 : Int32).toNatClampNeg v.toInt64, by rw [f_law_C11, cT (in1 hi hL), f_L_needle, h1, bS, if_pos rfl, bS, cT (in1 hi hL), h2, bS, f_X8_thrown, bS, if_pos rfl, if_pos rfl, if_pos lgu]⟩
  · exact ⟨1, oL, by rw [f_law_C11, cT (in1 hi hL), f_L_needle, h1, bS, if_neg (show ¬ (1 : Nat) = 0 by decide), if_pos rfl, bS, cT (in1 hi hL), h2, bS, f_X8_thrown, bS, if_pos rfl, if_neg (show ¬ (1 : Int32) = 0 by decide)]⟩
theorem case_C12 {L i : Nat} {xs : Nat → Int32} {R N : Nat → Int32} {t : Int32} {oL : Nat → Int64} (hi : i + 4 ≤ L) (hL : L ≤ 2048) (H : PR R N) : ∃ t' oL', f_law_C12 L xs (nI i) R t N oL = some (t', oL') := by
  rcases q_needleAgain (t := t) (p := (xs (nI i + (1 : Int32)).toNatClampNeg)) H with ⟨v, h1, h2⟩ | ⟨v, w, h1, h2⟩
  · exact ⟨0, vp_updL oL (0 : Int32).toNatClampNeg v.toInt64, by rw [f_law_C12, cT (in1 hi hL), f_L_needleAgain, h1, bS, if_pos rfl, bS, cT (in1 hi hL), h2, bS, f_X8_thrown, bS, if_pos rfl, if_pos rfl, if_pos lgu]⟩
  · exact ⟨1, oL, by rw [f_law_C12, cT (in1 hi hL), f_L_needleAgain, h1, bS, if_neg (show ¬ (1 : Nat) = 0 by decide), if_pos rfl, bS, cT (in1 hi hL), h2, bS, f_X8_thrown, bS, if_pos rfl, if_neg (show ¬ (1 : Int32) = 0 by decide)]⟩
theorem case_C13 {L i : Nat} {xs : Nat → Int32} {R N : Nat → Int32} {t : Int32} {oL : Nat → Int64} (hi : i + 4 ≤ L) (hL : L ≤ 2048) (H : PR R N) : ∃ t' oL', f_law_C13 L xs (nI i) R t N oL = some (t', oL') := by
  rcases q_off (t := t) (p := (xs (nI i + (1 : Int32)).toNatClampNeg)) H with ⟨v, h1, h2⟩ | ⟨v, w, h1, h2⟩ | ⟨v, w, h1, h2⟩
  · exact ⟨0, vp_updL oL (0 : Int32).toNatClampNeg v.toInt64, by rw [f_law_C13, cT (in1 hi hL), f_L_off, h1, bS, if_pos rfl, bS, cT (in1 hi hL), h2, bS, f_X8_thrown, bS, if_pos rfl, if_pos rfl, if_pos lgu]⟩
  · exact ⟨1, oL, by rw [f_law_C13, cT (in1 hi hL), f_L_off, h1, bS, if_neg (show ¬ (1 : Nat) = 0 by decide), if_pos rfl, bS, cT (in1 hi hL), h2, bS, f_X8_thrown, bS, if_pos rfl, if_neg (show ¬ (1 : Int32) = 0 by decide)]⟩
  · exact ⟨2, oL, by rw [f_law_C13, cT (in1 hi hL), f_L_off, h1, bS, if_neg (show ¬ (3 : Nat) = 0 by decide), if_neg (show ¬ (3 : Nat) = 1 by decide), if_pos rfl, bS, cT (in1 hi hL), h2, bS, f_X8_thrown, bS, if_pos rfl, if_neg (show ¬ (2 : Int32) = 0 by decide)]⟩
theorem case_C14 {L i : Nat} {xs : Nat → Int32} {R N : Nat → Int32} {t : Int32} {oL : Nat → Int64} (hi : i + 4 ≤ L) (hL : L ≤ 2048) (H : PR R N) : ∃ t' oL', f_law_C14 L xs (nI i) R t N oL = some (t', oL') := by
  rcases q_owner (t := t) (p := (xs (nI i + (1 : Int32)).toNatClampNeg)) H with ⟨v, h1, h2⟩ | ⟨v, w, h1, h2⟩ | ⟨v, w, h1, h2⟩
  · exact ⟨0, vp_updL oL (0 : Int32).toNatClampNeg v.toInt64, by rw [f_law_C14, cT (in1 hi hL), f_L_owner, h1, bS, if_pos rfl, bS, cT (in1 hi hL), h2, bS, f_X8_thrown, bS, if_pos rfl, if_pos rfl, if_pos lgu]⟩
  · exact ⟨1, oL, by rw [f_law_C14, cT (in1 hi hL), f_L_owner, h1, bS, if_neg (show ¬ (2 : Nat) = 0 by decide), if_pos rfl, bS, cT (in1 hi hL), h2, bS, f_X8_thrown, bS, if_pos rfl, if_neg (show ¬ (1 : Int32) = 0 by decide)]⟩
  · exact ⟨2, oL, by rw [f_law_C14, cT (in1 hi hL), f_L_owner, h1, bS, if_neg (show ¬ (3 : Nat) = 0 by decide), if_neg (show ¬ (3 : Nat) = 2 by decide), if_pos rfl, bS, cT (in1 hi hL), h2, bS, f_X8_thrown, bS, if_pos rfl, if_neg (show ¬ (2 : Int32) = 0 by decide)]⟩
theorem case_C18 {L i : Nat} {xs : Nat → Int32} {R N : Nat → Int32} {t : Int32} {oL : Nat → Int64} (hi : i + 4 ≤ L) (hL : L ≤ 2048) (H : PR R N) : ∃ t' oL', f_law_C18 L xs (nI i) R t N oL = some (t', oL') := by
  rcases q_wouldWin (t := t) (p := (xs (nI i + (1 : Int32)).toNatClampNeg)) H with ⟨v, h1, h2⟩ | ⟨v, w, h1, h2⟩
  · exact ⟨0, vp_updL oL (0 : Int32).toNatClampNeg v.toInt64, by rw [f_law_C18, cT (in1 hi hL), f_L_wouldWin, h1, bS, if_pos rfl, bS, cT (in1 hi hL), h2, bS, f_X8_thrown, bS, if_pos rfl, if_pos rfl, if_pos lgu]⟩
  · exact ⟨1, oL, by rw [f_law_C18, cT (in1 hi hL), f_L_wouldWin, h1, bS, if_neg (show ¬ (2 : Nat) = 0 by decide), if_pos rfl, bS, cT (in1 hi hL), h2, bS, f_X8_thrown, bS, if_pos rfl, if_neg (show ¬ (1 : Int32) = 0 by decide)]⟩
theorem case_C19 {L i : Nat} {xs : Nat → Int32} {R N : Nat → Int32} {t : Int32} {oL : Nat → Int64} (hi : i + 4 ≤ L) (hL : L ≤ 2048) (H : PR R N) : ∃ t' oL', f_law_C19 L xs (nI i) R t N oL = some (t', oL') := by
  rcases q_changeFor (t := t) (p := (xs (nI i + (1 : Int32)).toNatClampNeg)) H with ⟨v, h1, h2⟩ | ⟨v, w, h1, h2⟩ | ⟨v, w, h1, h2⟩
  · exact ⟨0, vp_updL oL (0 : Int32).toNatClampNeg v.toInt64, by rw [f_law_C19, cT (in1 hi hL), f_L_changeFor, h1, bS, if_pos rfl, bS, cT (in1 hi hL), h2, bS, f_X8_thrown, bS, if_pos rfl, if_pos rfl, if_pos lgu]⟩
  · exact ⟨1, oL, by rw [f_law_C19, cT (in1 hi hL), f_L_changeFor, h1, bS, if_neg (show ¬ (1 : Nat) = 0 by decide), if_pos rfl, bS, cT (in1 hi hL), h2, bS, f_X8_thrown, bS, if_pos rfl, if_neg (show ¬ (1 : Int32) = 0 by decide)]⟩
  · exact ⟨2, oL, by rw [f_law_C19, cT (in1 hi hL), f_L_changeFor, h1, bS, if_neg (show ¬ (3 : Nat) = 0 by decide), if_neg (show ¬ (3 : Nat) = 1 by decide), if_pos rfl, bS, cT (in1 hi hL), h2, bS, f_X8_thrown, bS, if_pos rfl, if_neg (show ¬ (2 : Int32) = 0 by decide)]⟩
theorem case_C20 {L i : Nat} {xs : Nat → Int32} {R N : Nat → Int32} {t : Int32} {oL : Nat → Int64} (hi : i + 4 ≤ L) (hL : L ≤ 2048) (H : PR R N) : ∃ t' oL', f_law_C20 L xs (nI i) R t N oL = some (t', oL') := by
  rcases q_bestGuess (t := t) (p := (xs (nI i + (1 : Int32)).toNatClampNeg)) H with ⟨v, h1, h2⟩ | ⟨v, w, h1, h2⟩
  · exact ⟨0, vp_updL oL (0 : Int32).toNatClampNeg v.toInt64, by rw [f_law_C20, cT (in1 hi hL), f_L_bestGuess, h1, bS, if_pos rfl, bS, cT (in1 hi hL), h2, bS, f_X8_thrown, bS, if_pos rfl, if_pos rfl, if_pos lgu]⟩
  · exact ⟨1, oL, by rw [f_law_C20, cT (in1 hi hL), f_L_bestGuess, h1, bS, if_neg (show ¬ (1 : Nat) = 0 by decide), if_pos rfl, bS, cT (in1 hi hL), h2, bS, f_X8_thrown, bS, if_pos rfl, if_neg (show ¬ (1 : Int32) = 0 by decide)]⟩
theorem case_C21 {L i : Nat} {xs : Nat → Int32} {R N : Nat → Int32} {t : Int32} {oL : Nat → Int64} (hi : i + 4 ≤ L) (hL : L ≤ 2048) (H : PR R N) : ∃ t' oL', f_law_C21 L xs (nI i) R t N oL = some (t', oL') := by
  rcases q_nearestFree (t := t) (p := (xs (nI i + (1 : Int32)).toNatClampNeg)) H with ⟨v, h1, h2⟩ | ⟨v, w, h1, h2⟩ | ⟨v, w, h1, h2⟩
  · exact ⟨0, vp_updL oL (0 : Int32).toNatClampNeg v.toInt64, by rw [f_law_C21, cT (in1 hi hL), f_L_nearestFree, h1, bS, if_pos rfl, bS, cT (in1 hi hL), h2, bS, f_X8_thrown, bS, if_pos rfl, if_pos rfl, if_pos lgu]⟩
  · exact ⟨1, oL, by rw [f_law_C21, cT (in1 hi hL), f_L_nearestFree, h1, bS, if_neg (show ¬ (1 : Nat) = 0 by decide), if_pos rfl, bS, cT (in1 hi hL), h2, bS, f_X8_thrown, bS, if_pos rfl, if_neg (show ¬ (1 : Int32) = 0 by decide)]⟩
  · exact ⟨2, oL, by rw [f_law_C21, cT (in1 hi hL), f_L_nearestFree, h1, bS, if_neg (show ¬ (3 : Nat) = 0 by decide), if_neg (show ¬ (3 : Nat) = 1 by decide), if_pos rfl, bS, cT (in1 hi hL), h2, bS, f_X8_thrown, bS, if_pos rfl, if_neg (show ¬ (2 : Int32) = 0 by decide)]⟩
theorem case_C22 {L i : Nat} {xs : Nat → Int32} {R N : Nat → Int32} {K : Nat} {t : Int32} {oL : Nat → Int64} (hi : i + 4 ≤ L) (hL : L ≤ 2048) (hK : K < 2 ^ 29) (H : PB K R N) : ∃ t' oL', f_law_C22 L xs (nI i) R t N oL = some (t', oL') := by
  rcases q_ranked (t := t) (p := (xs (nI i + (1 : Int32)).toNatClampNeg)) (q := (xs (nI i + (2 : Int32)).toNatClampNeg)) hK H with ⟨v, h1, h2⟩ | ⟨v, w, h1, h2⟩ | ⟨v, w, h1, h2⟩
  · exact ⟨0, vp_updL oL (0 : Int32).toNatClampNeg v.toInt64, by rw [f_law_C22, cT (in1 hi hL), cT (in2 hi hL), f_L_ranked, h1, bS, if_pos rfl, bS, cT (in1 hi hL), cT (in2 hi hL), h2, bS, f_X8_thrown, bS, if_pos rfl, if_pos rfl, if_pos lgu]⟩
  · exact ⟨1, oL, by rw [f_law_C22, cT (in1 hi hL), cT (in2 hi hL), f_L_ranked, h1, bS, if_neg (show ¬ (2 : Nat) = 0 by decide), if_pos rfl, bS, cT (in1 hi hL), cT (in2 hi hL), h2, bS, f_X8_thrown, bS, if_pos rfl, if_neg (show ¬ (1 : Int32) = 0 by decide)]⟩
  · exact ⟨2, oL, by rw [f_law_C22, cT (in1 hi hL), cT (in2 hi hL), f_L_ranked, h1, bS, if_neg (show ¬ (3 : Nat) = 0 by decide), if_neg (show ¬ (3 : Nat) = 2 by decide), if_pos rfl, bS, cT (in1 hi hL), cT (in2 hi hL), h2, bS, f_X8_thrown, bS, if_pos rfl, if_neg (show ¬ (2 : Int32) = 0 by decide)]⟩
theorem case_C23 {L i : Nat} {xs : Nat → Int32} {R N : Nat → Int32} {t : Int32} {oL : Nat → Int64} (hi : i + 4 ≤ L) (hL : L ≤ 2048) (H : PR R N) : ∃ t' oL', f_law_C23 L xs (nI i) R t N oL = some (t', oL') := by
  rcases q_weather (t := t) (p := (xs (nI i + (1 : Int32)).toNatClampNeg)) H with ⟨v, h1, h2⟩ | ⟨v, w, h1, h2⟩
  · exact ⟨0, vp_updL oL (0 : Int32).toNatClampNeg v.toInt64, by rw [f_law_C23, cT (in1 hi hL), f_L_weather, h1, bS, if_pos rfl, bS, cT (in1 hi hL), h2, bS, f_X8_thrown, bS, if_pos rfl, if_pos rfl, if_pos lgu]⟩
  · exact ⟨1, oL, by rw [f_law_C23, cT (in1 hi hL), f_L_weather, h1, bS, if_neg (show ¬ (2 : Nat) = 0 by decide), if_pos rfl, bS, cT (in1 hi hL), h2, bS, f_X8_thrown, bS, if_pos rfl, if_neg (show ¬ (1 : Int32) = 0 by decide)]⟩
theorem case_C34 {L i : Nat} {xs : Nat → Int32} {R N : Nat → Int32} {mU mH : Int32} {t : Int32} {oL : Nat → Int64} (hi : i + 4 ≤ L) (hL : L ≤ 2048) (H : PR R N) : ∃ t' oL', f_law_C34 L xs (nI i) R mU mH mU mH t N oL = some (t', oL') := by
  rcases q_account (t := t) (p := (xs (nI i + (1 : Int32)).toNatClampNeg)) H with ⟨v, h1, h2⟩ | ⟨v, w, h1, h2⟩
  · exact ⟨0, vp_updL oL (0 : Int32).toNatClampNeg v.toInt64, by rw [f_law_C34, cT (in1 hi hL), f_L_account, h1, bS, if_pos rfl, bS, cT (in1 hi hL), h2, bS, f_X8_thrown, bS, if_pos rfl, if_pos rfl, if_pos lgu]⟩
  · exact ⟨1, oL, by rw [f_law_C34, cT (in1 hi hL), f_L_account, h1, bS, if_neg (show ¬ (2 : Nat) = 0 by decide), if_pos rfl, bS, cT (in1 hi hL), h2, bS, f_X8_thrown, bS, if_pos rfl, if_neg (show ¬ (1 : Int32) = 0 by decide)]⟩
theorem case_C28 {L i : Nat} {xs : Nat → Int32} {mR mD mJ : Int32} {t : Int32} {oL : Nat → Int64} (hi : i + 4 ≤ L) (hL : L ≤ 2048)  : ∃ t' oL', f_law_C28 L xs (nI i) mR mD mJ mR mD mJ t oL = some (t', oL') := by
  rcases q_reason (t := t) (p := (xs (nI i + (1 : Int32)).toNatClampNeg))  with ⟨v, h1, h2⟩ | ⟨v, w, h1, h2⟩ | ⟨v, w, h1, h2⟩
  · exact ⟨0, vp_updL oL (0 : Int32).toNatClampNeg v.toInt64, by rw [f_law_C28, cT (in1 hi hL), f_L_reason, h1, bS, if_pos rfl, bS, cT (in1 hi hL), h2, bS, f_X8_thrown, bS, if_pos rfl, if_pos rfl, if_pos lgu]⟩
  · exact ⟨1, oL, by rw [f_law_C28, cT (in1 hi hL), f_L_reason, h1, bS, if_neg (show ¬ (2 : Nat) = 0 by decide), if_pos rfl, bS, cT (in1 hi hL), h2, bS, f_X8_thrown, bS, if_pos rfl, if_neg (show ¬ (1 : Int32) = 0 by decide)]⟩
  · exact ⟨2, oL, by rw [f_law_C28, cT (in1 hi hL), f_L_reason, h1, bS, if_neg (show ¬ (3 : Nat) = 0 by decide), if_neg (show ¬ (3 : Nat) = 2 by decide), if_pos rfl, bS, cT (in1 hi hL), h2, bS, f_X8_thrown, bS, if_pos rfl, if_neg (show ¬ (2 : Int32) = 0 by decide)]⟩
