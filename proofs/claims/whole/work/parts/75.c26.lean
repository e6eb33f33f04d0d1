/-! ===== pure: the law's case of a text ===== -/
theorem case_C26 {K : Nat} {xF rR rD kN kK tL tS tQ tF mU mH mQ mW mF mR mD mJ mA mT : Int32} {row kF tC tP nN nT nK nX nD : Nat → Int32} {oL : Nat → Int64} (hKb : K + 3000 < 2 ^ 29) (HP : PB K row nN) (HH : Hist K kN kK kF mU nK) (HT : Txt tL tC mH nX) :
    ∃ xF' xR' xD' xC' row' rR' rD' kN' kK' kF' tL' tS' tQ' tF' tP' mU' mH' mQ' mW' mF' mR' mD' mJ' mA' mT' nN' nT' nK' nD' oL',
      f_law_C26 xF mR mD mJ row rR rD kN kK kF tL tS tQ tF tC tP mU mH mQ mW mF mR mD mJ mA mT nN nT nK nX nD oL = some (xF', xR', xD', xC', row', rR', rD', kN', kK', kF', tL', tS', tQ', tF', tP', mU', mH', mQ', mW', mF', mR', mD', mJ', mA', mT', nN', nT', nK', nD', oL') ∧
      PB (K + 3000) row' nN' ∧ Hist (K + 3000) kN' kK' kF' mU' nK' ∧ Txt tL' tC mH' nX ∧ xF' = mF' ∧ xR' = mR' ∧ xD' = mD' ∧ xC' = mJ' := by
  obtain ⟨l, hl, rfl, rfl, hX⟩ := HT
  have HH0 := HH
  obtain ⟨x, u, hx, hu, rfl, rfl, rfl, h⟩ := HH
  obtain ⟨T', t1, t2⟩ := tries_eq (nN := nN) (nT := nT) (t := mT)
  have HX : TX l tC nX := ⟨hl, hX⟩
  have hz : Txt 0 tC 0 nX := ⟨0, by decide, rfl, rfl, fun j hj => absurd hj (Nat.not_lt_zero j)⟩
  have hm : f_X8_commands (nI u) (nI l) mQ mW mF mR mD mJ mA mT nN nT nK nX nD = PASS l nX (nI u) mR mD mJ mA 0 nN T' nK FU mW nD 0 := by
    rw [f_X8_commands, t1, bS]
    rfl
  obtain ⟨F', S', Q', P', c1, -, c3⟩ := scan_b (mU := nI u) (mR := mR) (mD := mD) (mJ := mJ) (mA := mA) (mT := 0) (nN := nN) (nT := T') (nK := nK) HX l 0 0 FU tP 0 (by omega) (by omega) (by omega) (by rw [FU]; omega)
  have hs : f_X1_scan (nI l) tS tQ tF tC tP = some (F', S', Q', F', P') := c1
  rcases c3 with ⟨rfl, ⟨r, rfl, hr, hp⟩, hq⟩ | ⟨Qf, hQf, rfl, hq⟩
  · obtain ⟨W', D', e⟩ := hq FU mW nD (by rw [FU]; omega)
    obtain ⟨r', rfl⟩ : ∃ r', r = r' + 1 := by
      cases r with
      | zero => exact absurd hp prs_0
      | succ r' => exact ⟨r', rfl⟩
    obtain ⟨kF', f1, f2⟩ := prep_eq (row := row) (kF := kF) hx
    have hrun := run_l (xF := -1) (tL := 0) (tQ := Q') (tF := -1) (mU := nI u) (mF := -1) (mT := 0) (kF := kF') (nT := T') (nK := nK) HX hx hu (show 0 + (r' + 1) ≤ 40 by omega) r' 0 0 FU FU K row rR rD W' mR mD mJ mA nN D' rfl hp (by rw [FU]; omega) (by rw [FU]; omega) (by omega) HP
    generalize hS : 0 + (r' + 1) = S at hrun hs
    rcases hrun with ⟨row', rR', rD', mQ', mW', mA', N', D2, g1, g2, g3⟩ | ⟨why, more, c', row', mQ', mW', mA', N', D2, g1, g2, g3, g4⟩
    · obtain ⟨K', k1, k2⟩ := keeps_eq (nT := T') (nK := nK) (a := nI S) hu
      rw [nI_0] at g1 g2
      refine ⟨-1, mR, mD, mJ, row', rR', rD', nI ((x + 1) % 9), nI (min (u + 1) 8), kF', 0, nI S, Q', -1, P', nI (min (u + 1) 8), 0, mQ', mW', -1, mR, mD, mJ, mA', 0, N', T', K', D2, vp_updL oL (0 : Int32).toNatClampNeg (nI S).toInt64, ?_, g3.mono (by omega), (hist_up hx hu HP t2 h f2 k2).mono (Nat.le_add_right K 3000), hz, rfl, rfl, rfl, rfl⟩
      rw [f_law_C26, f_L_commands, f_X7_commands, hs, bS, f_X1_empty, bS, if_pos rfl, f1, bS, g1, bS, if_pos rfl, bS, hm, e, g2, k1, bS, bS, f_X8_thrown, bS, if_pos rfl, if_pos rfl, if_pos lgu]
    · rw [nI_0] at g1 g2
      refine ⟨-1, why, more, nI c', row', why, more, nI x, nI u, kF', 0, nI S, Q', -1, P', nI u, 0, mQ', mW', -1, why, more, nI c', mA', 2, N', T', nK, D2, oL, ?_, (PB_congr HP (fun i hi => ?_) (fun i hi => ?_)).mono (Nat.le_add_right K 3000), (hist_in hx hu rfl rfl rfl h f2).mono (Nat.le_add_right K 3000), hz, rfl, rfl, rfl, rfl⟩
      · rw [f_law_C26, f_L_commands, f_X7_commands, hs, bS, f_X1_empty, bS, if_pos rfl, f1, bS, g1, bS, if_neg (show ¬ (6 : Nat) = 0 by decide), if_neg (show ¬ (6 : Nat) = 2 by decide), if_pos rfl, bS, hm, e, g2, bS, f_X8_thrown, bS, if_pos rfl, if_neg (show ¬ (2 : Int32) = 0 by decide)]
      · rw [g3 i hi, f2, if_pos (by omega), show 55 * x + i - 55 * x = i by omega]
      · rw [g4 i hi, t2 i hi]
  · obtain ⟨W', D', e⟩ := hq FU mW nD (by rw [FU]; omega)
    refine ⟨nI Qf, mR, mD, mJ, row, rR, rD, nI x, nI u, kF, 0, S', Q', nI Qf, P', nI u, 0, nI Qf, W', nI Qf, mR, mD, mJ, mA, 1, nN, T', nK, D', oL, ?_, HP.mono (Nat.le_add_right K 3000), HH0.mono (Nat.le_add_right K 3000), hz, rfl, rfl, rfl, rfl⟩
    rw [f_law_C26, f_L_commands, f_X7_commands, hs, bS, f_X1_empty, bS, if_neg (neg1 (show Qf < 2 ^ 31 by omega)), bS, if_neg (show ¬ (2 : Nat) = 0 by decide), if_pos rfl, bS, hm, e, bS, f_X8_thrown, bS, if_pos rfl, if_neg n10]
