/-! ===== pure: one change, by a call ===== -/
def mdl (mU mT : Int32) (nN nT nK : Nat → Int32) (y : Option (Int32 × Int32 × Int32 × Int32 × Int32 × (Nat → Int32))) : Option (Int32 × Int32 × Int32 × Int32 × Int32 × Int32 × Int32 × (Nat → Int32) × (Nat → Int32) × (Nat → Int32)) :=
  (f_X8_tries mT nN nT).bind (fun v1 => y.bind (fun v2 => (f_X8_ends mU v2.2.2.2.2.1 v1.1 v1.2 nK v2.1).bind (fun v3 => (some (v3.1, (v3.2.1, v2.2.1, v2.2.2.1, v2.2.2.2.1, v2.2.2.2.2.1, v3.2.2.1, v2.2.2.2.2.2, v1.2, v3.2.2.2))))))
theorem Hist.mono {K K' : Nat} {kN kK mU : Int32} {kF nK : Nat → Int32} (h : K ≤ K') (H : Hist K kN kK kF mU nK) : Hist K' kN kK kF mU nK := by
  obtain ⟨x, u, h1, h2, h3, h4, h5, h6⟩ := H
  exact ⟨x, u, h1, h2, h3, h4, h5, fun j hj => (h6 j hj).mono h⟩
theorem hist_in {K : Nat} {kN kK : Int32} {kF F' nK row : Nat → Int32} {mU : Int32} {x u : Nat} (hx : x < 9) (hu : u ≤ 8) (e1 : kN = nI x) (e2 : kK = nI u) (e3 : mU = nI u)
    (h : ∀ j, j < u → PB K (fun k => kF (55 * ((x + 8 - j) % 9) + k)) (fun k => nK (55 * (u - 1 - j) + k))) (hF : ∀ i, F' i = if 55 * x ≤ i ∧ i < 55 * x + 55 then row (i - 55 * x) else kF i) : Hist K kN kK F' mU nK :=
  ⟨x, u, hx, hu, e1, e2, e3, fun j hj => PB_congr (h j hj) (fun i hi => by rw [hF, if_neg (by omega)]) (fun i _ => rfl)⟩
theorem hist_up {K : Nat} {kF F' nK K' row nN nT : Nat → Int32} {x u : Nat} (hx : x < 9) (hu : u ≤ 8) (HP : PB K row nN) (hT : ∀ j, j < 55 → nT j = nN j)
    (h : ∀ j, j < u → PB K (fun k => kF (55 * ((x + 8 - j) % 9) + k)) (fun k => nK (55 * (u - 1 - j) + k))) (hF : ∀ i, F' i = if 55 * x ≤ i ∧ i < 55 * x + 55 then row (i - 55 * x) else kF i)
    (hK : ∀ i, i < 55 → (K' (55 * (min (u + 1) 8 - 1) + i) = nT i ∧ ∀ j, j < u → j < 7 → K' (55 * (min (u + 1) 8 - 2 - j) + i) = nK (55 * (u - 1 - j) + i))) :
    Hist K (nI ((x + 1) % 9)) (nI (min (u + 1) 8)) F' (nI (min (u + 1) 8)) K' := by
  refine ⟨(x + 1) % 9, min (u + 1) 8, by omega, by omega, rfl, rfl, rfl, fun j hj => ?_⟩
  by_cases e : j = 0
  · subst e
    refine PB_congr HP (fun i hi => ?_) (fun i hi => ?_)
    · show F' (55 * (((x + 1) % 9 + 8 - 0) % 9) + i) = row i
      rw [hF, if_pos (by omega), show 55 * (((x + 1) % 9 + 8 - 0) % 9) + i - 55 * x = i by omega]
    · show K' (55 * (min (u + 1) 8 - 1 - 0) + i) = nN i
      rw [show min (u + 1) 8 - 1 - 0 = min (u + 1) 8 - 1 by omega, (hK i hi).1, hT i hi]
  · refine PB_congr (h (j - 1) (by omega)) (fun i hi => ?_) (fun i hi => ?_)
    · show F' (55 * (((x + 1) % 9 + 8 - j) % 9) + i) = kF (55 * ((x + 8 - (j - 1)) % 9) + i)
      rw [hF, if_neg (by omega), show ((x + 1) % 9 + 8 - j) % 9 = (x + 8 - (j - 1)) % 9 by omega]
    · show K' (55 * (min (u + 1) 8 - 1 - j) + i) = nK (55 * (u - 1 - (j - 1)) + i)
      rw [show min (u + 1) 8 - 1 - j = min (u + 1) 8 - 2 - (j - 1) by omega, (hK i hi).2 (j - 1) (by omega) (by omega)]
theorem ch_eq {K : Nat} {xR xD xC rR rD kN kK k p q t mU mT mR mD mJ mA : Int32} {row kF nN nT nK : Nat → Int32} {y} (hKb : K < 2 ^ 29) (HH : Hist K kN kK kF mU nK) (HP : PB K row nN) (HS : Step row nN mR mD mJ mA (f_X6_carryOut row rR rD k p q t) y) :
    (∃ a R' N' kN' kK' kF' mU' nK' nT', f_X7_change xR xD xC row rR rD kN kK kF k p q t = some (0, a, xR, xD, xC, R', 0, 0, kN', kK', kF') ∧ mdl mU mT nN nT nK y = some (a, mU', mR, mD, mJ, a, 0, N', nT', nK') ∧ PB (K + 50) R' N' ∧ Hist (K + 50) kN' kK' kF' mU' nK') ∨
      ∃ why more kF' nT', ¬ why = 0 ∧ f_X7_change xR xD xC row rR rD kN kK kF k p q t = some (6, 0, why, more, 0, row, why, more, kN, kK, kF') ∧ mdl mU mT nN nT nK y = some (0, mU, why, more, 0, mA, 1, nN, nT', nK) ∧ Hist (K + 50) kN kK kF' mU nK := by
  obtain ⟨x, u, hx, hu, rfl, rfl, rfl, h⟩ := HH
  obtain ⟨F', f1, f2⟩ := prep_eq (row := row) (kF := kF) hx
  obtain ⟨T', t1, t2⟩ := tries_eq (nN := nN) (nT := nT) (t := mT)
  rcases HS with ⟨a, R', N', s1, s2, s3, s4⟩ | ⟨b, why, more, hw, s1, s2⟩
  · obtain ⟨K', k1, k2⟩ := keeps_eq (nT := T') (nK := nK) (a := a) hu
    refine Or.inl ⟨a, R', N', _, _, F', _, K', T', ?_, ?_, ⟨s3, (s4 K hKb HP.2).1⟩, (hist_up hx hu HP t2 h f2 k2).mono (Nat.le_add_right K 50)⟩
    · rw [f_X7_change, f1, bS, s1, bS, f_X6_isRefused, if_pos rfl, bS, if_pos rfl, acc_eq hx hu, bS]
    · rw [mdl, t1, bS, s2, bS, f_X8_ends, if_neg n10, k1, bS, bS]
  · refine Or.inr ⟨why, more, F', T', hw, ?_, ?_, (hist_in hx hu rfl rfl rfl h f2).mono (Nat.le_add_right K 50)⟩
    · rw [f_X7_change, f1, bS, s1, bS, f_X6_isRefused, if_neg hw, bS, if_neg n10, f_X7_keepReason, f_X6_latestReason, bS, f_X6_latestDetail, bS, bS]
    · rw [mdl, t1, bS, s2, bS, f_X8_ends, if_pos rfl, f_X8_raises, bS, bS]
/-- the commands' kinds -/
theorem Step.wrap {R N : Nat → Int32} {mR mD mJ mA : Int32} {x y} (h : Step R N mR mD mJ mA x y) : Step R N mR mD mJ mA (x.bind (fun v2 => (some (v2.1, (v2.2.1, v2.2.2.1, v2.2.2.2))))) y := by
  rcases h with ⟨a, R', N', s1, s2, s3, s4⟩ | ⟨b, why, more, hw, s1, s2⟩
  · exact Or.inl ⟨a, R', N', by rw [s1, bS], s2, s3, s4⟩
  · exact Or.inr ⟨b, why, more, hw, by rw [s1, bS], s2⟩
theorem Step.wrap2 {R N : Nat → Int32} {mR mD mJ mA : Int32} {x y} (h : Step R N mR mD mJ mA x y) : Step R N mR mD mJ mA x (y.bind (fun v2 => (bif okN .boolean v2.1 then (some (v2.1, (v2.2.1, v2.2.2.1, v2.2.2.2.1, v2.2.2.2.2.1, v2.2.2.2.2.2))) else none))) := by
  rcases h with ⟨a, R', N', s1, s2, s3, s4⟩ | ⟨b, why, more, hw, s1, s2⟩
  · exact Or.inl ⟨a, R', N', s1, by rw [s2, bS, cT j1], s3, s4⟩
  · exact Or.inr ⟨b, why, more, hw, s1, by rw [s2, bS, cT j0]⟩
theorem co_98 {R N : Nat → Int32} {rR rD mR mD mJ mA p q t : Int32} {y} (h : Step R N mR mD mJ mA (f_X6_fill R 0 0 p) y) : Step R N mR mD mJ mA (f_X6_carryOut R rR rD 98 p q t) y := by
  rw [f_X6_carryOut, if_pos rfl]
  exact h.wrap
theorem co_100 {R N : Nat → Int32} {rR rD mR mD mJ mA p q t : Int32} {y} (h : Step R N mR mD mJ mA (f_X6_passDay R 0 0 p) y) : Step R N mR mD mJ mA (f_X6_carryOut R rR rD 100 p q t) y := by
  rw [f_X6_carryOut, if_neg (show ¬ (100 : Int32) = 98 by decide), if_pos rfl]
  exact h.wrap
theorem co_106 {R N : Nat → Int32} {rR rD mR mD mJ mA p q t : Int32} {y} (h : Step R N mR mD mJ mA (f_X6_enter R 0 0 p) y) : Step R N mR mD mJ mA (f_X6_carryOut R rR rD 106 p q t) y := by
  rw [f_X6_carryOut, if_neg (show ¬ (106 : Int32) = 98 by decide), if_neg (show ¬ (106 : Int32) = 100 by decide), if_pos rfl]
  exact h.wrap
theorem co_109 {R N : Nat → Int32} {rR rD mR mD mJ mA p q t : Int32} {y} (h : Step R N mR mD mJ mA (f_X6_climb R 0 0 p q) y) : Step R N mR mD mJ mA (f_X6_carryOut R rR rD 109 p q t) y := by
  rw [f_X6_carryOut, if_neg (show ¬ (109 : Int32) = 98 by decide), if_neg (show ¬ (109 : Int32) = 100 by decide), if_neg (show ¬ (109 : Int32) = 106 by decide), if_pos rfl]
  exact h.wrap
theorem co_111 {R N : Nat → Int32} {rR rD mR mD mJ mA p q t : Int32} {y} (h : Step R N mR mD mJ mA (f_X6_uncork R 0 0 p) y) : Step R N mR mD mJ mA (f_X6_carryOut R rR rD 111 p q t) y := by
  rw [f_X6_carryOut, if_neg (show ¬ (111 : Int32) = 98 by decide), if_neg (show ¬ (111 : Int32) = 100 by decide), if_neg (show ¬ (111 : Int32) = 106 by decide), if_neg (show ¬ (111 : Int32) = 109 by decide), if_pos rfl]
  exact h.wrap
theorem co_115 {R N : Nat → Int32} {rR rD mR mD mJ mA p q t : Int32} {y} (h : Step R N mR mD mJ mA (f_X6_swap R 0 0 p q) y) : Step R N mR mD mJ mA (f_X6_carryOut R rR rD 115 p q t) y := by
  rw [f_X6_carryOut, if_neg (show ¬ (115 : Int32) = 98 by decide), if_neg (show ¬ (115 : Int32) = 100 by decide), if_neg (show ¬ (115 : Int32) = 106 by decide), if_neg (show ¬ (115 : Int32) = 109 by decide), if_neg (show ¬ (115 : Int32) = 111 by decide), if_pos rfl]
  exact h.wrap
theorem co_116 {R N : Nat → Int32} {rR rD mR mD mJ mA p q t : Int32} {y} (h : Step R N mR mD mJ mA (f_X6_knock R 0 0 p) y) : Step R N mR mD mJ mA (f_X6_carryOut R rR rD 116 p q t) y := by
  rw [f_X6_carryOut, if_neg (show ¬ (116 : Int32) = 98 by decide), if_neg (show ¬ (116 : Int32) = 100 by decide), if_neg (show ¬ (116 : Int32) = 106 by decide), if_neg (show ¬ (116 : Int32) = 109 by decide), if_neg (show ¬ (116 : Int32) = 111 by decide), if_neg (show ¬ (116 : Int32) = 115 by decide), if_pos rfl]
  exact h.wrap
theorem co_119 {R N : Nat → Int32} {rR rD mR mD mJ mA p q t : Int32} {y} (h : Step R N mR mD mJ mA (f_X6_bet R 0 0 p q t) y) : Step R N mR mD mJ mA (f_X6_carryOut R rR rD 119 p q t) y := by
  rw [f_X6_carryOut, if_neg (show ¬ (119 : Int32) = 98 by decide), if_neg (show ¬ (119 : Int32) = 100 by decide), if_neg (show ¬ (119 : Int32) = 106 by decide), if_neg (show ¬ (119 : Int32) = 109 by decide), if_neg (show ¬ (119 : Int32) = 111 by decide), if_neg (show ¬ (119 : Int32) = 115 by decide), if_neg (show ¬ (119 : Int32) = 116 by decide), if_pos rfl]
  exact h.wrap
theorem co_120 {R N : Nat → Int32} {rR rD mR mD mJ mA p q t : Int32} {y} (h : Step R N mR mD mJ mA (f_X6_goAway R 0 0 p) y) : Step R N mR mD mJ mA (f_X6_carryOut R rR rD 120 p q t) y := by
  rw [f_X6_carryOut, if_neg (show ¬ (120 : Int32) = 98 by decide), if_neg (show ¬ (120 : Int32) = 100 by decide), if_neg (show ¬ (120 : Int32) = 106 by decide), if_neg (show ¬ (120 : Int32) = 109 by decide), if_neg (show ¬ (120 : Int32) = 111 by decide), if_neg (show ¬ (120 : Int32) = 115 by decide), if_neg (show ¬ (120 : Int32) = 116 by decide), if_neg (show ¬ (120 : Int32) = 119 by decide), if_pos rfl]
  exact h.wrap
theorem co_114 {R N : Nat → Int32} {rR rD mR mD mJ mA p q t : Int32} {y} (h : Step R N mR mD mJ mA (f_X6_readNeedles R 0 0 ) y) : Step R N mR mD mJ mA (f_X6_carryOut R rR rD 114 p q t) y := by
  rw [f_X6_carryOut, if_neg (show ¬ (114 : Int32) = 98 by decide), if_neg (show ¬ (114 : Int32) = 100 by decide), if_neg (show ¬ (114 : Int32) = 106 by decide), if_neg (show ¬ (114 : Int32) = 109 by decide), if_neg (show ¬ (114 : Int32) = 111 by decide), if_neg (show ¬ (114 : Int32) = 115 by decide), if_neg (show ¬ (114 : Int32) = 116 by decide), if_neg (show ¬ (114 : Int32) = 119 by decide), if_neg (show ¬ (114 : Int32) = 120 by decide)]
  exact h.wrap

