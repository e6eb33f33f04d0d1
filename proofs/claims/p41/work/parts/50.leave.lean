/-! ===== pure: a member leaves ===== -/
theorem dis35 {y : Nat} (hy : y + 1 < 6) : ∀ k w n R, w + k = 7 → k < n → ∃ R', f_X0_dismiss_L35 (nI y) n (nI w) R = some (nI 7, R') ∧ ∀ i, R' i = if 13 + 7 * y + w ≤ i ∧ i < 13 + 7 * y + 7 then R (i + 7) else R i
  | k, w, 0, _, _, hn => absurd hn (Nat.not_lt_zero k)
  | 0, w, n + 1, R, hk, _ => by
    refine ⟨R, ?_, fun i => ?_⟩
    · rw [f_X0_dismiss_L35, show w = 7 by omega, if_pos (show (7 : Int32) ≤ nI 7 from by decide)]
    · rw [if_neg (by omega)]
  | k + 1, w, n + 1, R, hk, hn => by
    obtain ⟨R', h1, h2⟩ := dis35 hy k (w + 1) n (upd R (13 + 7 * y + w) (R (13 + 7 * (y + 1) + w))) (by omega) (by omega)
    refine ⟨R', ?_, fun i => ?_⟩
    · rw [f_X0_dismiss_L35, if_neg (show ¬ (7 : Int32) ≤ nI w from nI_ge (b := 7) (by omega) (by omega)), nI_1, x0_of hy (by omega), bS, x0_setOf (show y < 6 by omega) (show w < 7 by omega), bS, nI_1, h1]
    · rw [h2 i]
      by_cases e1 : 13 + 7 * y + (w + 1) ≤ i ∧ i < 13 + 7 * y + 7
      · rw [if_pos e1, if_pos (by omega), upd_n (by omega)]
      · rw [if_neg e1]
        by_cases e2 : i = 13 + 7 * y + w
        · rw [if_pos (by omega), e2, upd_s, show 13 + 7 * y + w + 7 = 13 + 7 * (y + 1) + w by omega]
        · rw [if_neg (by omega), upd_n e2]
theorem dis22 {d : Nat} {v : Int32} (hd : d < 6) : ∀ k y n R, R 0 = nI d → y + k = d → k < n → ∃ R', f_X0_dismiss_L22 v n (nI y) R = some (v, R') ∧ ∀ i, R' i = if 13 + 7 * y ≤ i ∧ i < 13 + 7 * d then R (i + 7) else R i
  | k, y, 0, _, _, _, hn => absurd hn (Nat.not_lt_zero k)
  | 0, y, n + 1, R, h0, hk, _ => by
    refine ⟨R, ?_, fun i => ?_⟩
    · rw [f_X0_dismiss_L22, cl0, h0, if_pos (nI_le (by omega) (by omega))]
    · rw [if_neg (by omega)]
  | k + 1, y, n + 1, R, h0, hk, hn => by
    obtain ⟨R1, a1, a2⟩ := dis35 (y := y) (by omega) 7 0 FU R (by decide) (by rw [FU]; decide)
    have h01 : R1 0 = nI d := by rw [a2 0, if_neg (by omega), h0]
    obtain ⟨R', h1, h2⟩ := dis22 (v := v) hd k (y + 1) n R1 h01 (by omega) (by omega)
    refine ⟨R', ?_, fun i => ?_⟩
    · rw [f_X0_dismiss_L22, cl0, h0, if_neg (nI_ge (by omega) (by omega)), show (0 : Int32) = nI 0 from rfl, a1, bS, nI_1, h1]
    · rw [h2 i]
      by_cases e1 : 13 + 7 * (y + 1) ≤ i ∧ i < 13 + 7 * d
      · rw [if_pos e1, if_pos (by omega), a2, if_neg (by omega)]
      · rw [if_neg e1, a2]
        by_cases e2 : 13 + 7 * y ≤ i ∧ i < 13 + 7 * d
        · rw [if_pos e2, if_pos (by omega)]
        · rw [if_neg e2, if_neg (by omega)]
theorem lv67 {d : Nat} {v a b e f : Int32} (hd : d < 6) : ∀ k j n N, N 0 = nI d → j + k = 13 + 7 * d → 13 ≤ j → k < n → ∃ N', f_X8_leaves_L67 v a b e f n (nI j) N = some (1, a, b, e, v, N') ∧ ∀ i, N' i = if j ≤ i ∧ i < 13 + 7 * d then N (i + 7) else N i
  | k, j, 0, _, _, _, _, hn => absurd hn (Nat.not_lt_zero k)
  | 0, j, n + 1, N, h0, hk, _, _ => by
    refine ⟨N, ?_, fun i => ?_⟩
    · rw [f_X8_leaves_L67, cl0, h0, show (13 : Int32) = nI 13 from rfl, show (7 : Int32) = nI 7 from rfl, pk_mul, nI_add, if_pos (nI_le (by omega) (by omega)), f_X8_does, bS, cT j1]
    · rw [if_neg (by omega)]
  | k + 1, j, n + 1, N, h0, hk, hj, hn => by
    have h01 : upd N j (N (j + 7)) 0 = nI d := by rw [upd_n (by omega), h0]
    obtain ⟨N', h1, h2⟩ := lv67 (v := v) (a := a) (b := b) (e := e) (f := f) hd k (j + 1) n (upd N j (N (j + 7))) h01 (by omega) (by omega) (by omega)
    refine ⟨N', ?_, fun i => ?_⟩
    · rw [f_X8_leaves_L67, cl0, h0, show (13 : Int32) = nI 13 from rfl, show (7 : Int32) = nI 7 from rfl, pk_mul, nI_add, if_neg (nI_ge (by omega) (by omega)), nI_add, cT (inB_n (by omega) (by decide)), cT (inB_n (by omega) (by decide)), nI_clamp (by omega), nI_clamp (by omega), nI_1, h1]
    · rw [h2 i]
      by_cases e1 : j + 1 ≤ i ∧ i < 13 + 7 * d
      · rw [if_pos e1, if_pos (by omega), upd_n (by omega)]
      · rw [if_neg e1]
        by_cases e2 : i = j
        · rw [if_pos (by omega), e2, upd_s]
        · rw [if_neg (by omega), upd_n e2]
theorem Memb_to {N N' : Nat → Int32} {j k : Nat} (h : ∀ w, w < 7 → N' (13 + 7 * j + w) = N (13 + 7 * k + w)) (g : Memb N k) : Memb N' j := by
  unfold Memb at g ⊢
  rw [h 1 (by decide), h 2 (by decide), h 3 (by decide), h 4 (by decide), h 5 (by decide)]
  exact g
theorem sumC_shift {N N' : Nat → Int32} {d m : Nat} (hl : ∀ j, j < m → N' (13 + 7 * j + 0) = N (13 + 7 * j + 0)) (hh : ∀ j, m ≤ j → j < d → N' (13 + 7 * j + 0) = N (13 + 7 * (j + 1) + 0)) : ∀ j, j ≤ d → sumC N' j = if j ≤ m then sumC N j else sumC N (j + 1) - N (13 + 7 * m + 0)
  | 0, _ => by rw [if_pos (Nat.zero_le m)]; rfl
  | j + 1, hj => by
    have ih := sumC_shift hl hh j (by omega)
    rw [sumC, ih]
    by_cases e1 : j + 1 ≤ m
    · rw [if_pos e1, if_pos (by omega), hl j (by omega), sumC]
    · rw [if_neg e1, hh j (by omega) (by omega)]
      by_cases e2 : j = m
      · subst e2
        rw [if_pos (Nat.le_refl j), sumC, sumC]
        grind
      · rw [if_neg (by omega), sumC.eq_2 N (j + 1)]
        grind
theorem sumN_shift {N N' : Nat → Int32} {d m : Nat} (hl : ∀ j, j < m → N' (13 + 7 * j + 0) = N (13 + 7 * j + 0)) (hh : ∀ j, m ≤ j → j < d → N' (13 + 7 * j + 0) = N (13 + 7 * (j + 1) + 0)) : ∀ j, j ≤ d → (j ≤ m → sumN N' j = sumN N j) ∧ (m < j → sumN N' j + (N (13 + 7 * m + 0)).toNatClampNeg = sumN N (j + 1))
  | 0, _ => ⟨fun _ => rfl, fun h => absurd h (Nat.not_lt_zero m)⟩
  | j + 1, hj => by
    obtain ⟨i1, i2⟩ := sumN_shift hl hh j (by omega)
    refine ⟨fun h => ?_, fun h => ?_⟩
    · rw [sumN, sumN, i1 (by omega), hl j (by omega)]
    · rw [sumN, hh j (by omega) (by omega), sumN.eq_2 N (j + 1)]
      by_cases e : j = m
      · subst e
        rw [i1 (Nat.le_refl j), sumN.eq_2 N j]
        omega
      · have := i2 (by omega)
        omega
theorem st_leave {R N : Nat → Int32} {mR mD mJ mA p : Int32} (H : PR R N) : Step R N mR mD mJ mA (f_X6_goAway R 0 0 p) (f_X8_leaves mR mD mJ mA N p) := by
  obtain ⟨c, G, hR⟩ := H
  have r1 := hR.1
  have hc := G.1
  have h0 := G.2.1
  have r0 : R 0 = nI c := (hR.1 0 (by decide)).trans h0
  have hs := G.2.2.2.1
  obtain ⟨P, p1, p2, p3⟩ := G.2.2.1
  rcases mem_cases hc p with ⟨m, hm, rfl⟩ | hno
  · have r2 := hR.2.1 m hm
    have r3 := hR.2.2 m hm
    have hM := G.2.2.2.2 m hm
    have hm6 : m < 6 := by omega
    by_cases hw : N (13 + 7 * m + 3) ≤ 0
    · have hwg : wg N m = 0 := by rw [wg, if_pos hw]
      obtain ⟨d, rfl⟩ : ∃ d, c = d + 1 := ⟨c - 1, by omega⟩
      have ed : nI (d + 1) - 1 = nI d := nI_pred d
      have q0 : upd (upd R 12 (R 12 + N (13 + 7 * m + 0))) 0 (R 0 + -1) 0 = nI d := by rw [upd_s, r0]; grind
      have q0' : upd (upd N 12 (N 12 + N (13 + 7 * m + 0))) 0 (N 0 - 1) 0 = nI d := by rw [upd_s, h0, ed]
      obtain ⟨R', a1, a2⟩ := dis22 (v := N (13 + 7 * m + 0)) (show d < 6 by omega) (d - m) m FU _ q0 (by omega) (by rw [FU]; omega)
      obtain ⟨N', b1, b2⟩ := lv67 (v := N (13 + 7 * m + 0)) (a := mR) (b := mD) (e := mJ) (f := mA) (show d < 6 by omega) (7 * (d - m)) (13 + 7 * m) FU _ q0' (by omega) (by omega) (by rw [FU]; omega)
      refine Step.yes (ha := fun K hK B => by
          obtain ⟨t, -, -, b3⟩ := B _ hc h0
          obtain ⟨⟨a, a1, a2⟩, -⟩ := b3 m hm
          rw [a2]
          exact neg1001 (by omega)) (a := N (13 + 7 * m + 0)) (R' := R') (N' := N') ?_ ?_ ?_ ?_
      · rw [f_X6_goAway, x0_isM r0 hc hm, bS, if_neg (by decide), x0_wg hR hm hc hM, hwg, bS, if_pos rfl, f_X0_dismiss, x0_of0 hm6, bS, r2 0 (by decide) (by decide), x0_add12, bS, x0_add0, bS, upd_n (show 0 ≠ 12 by decide), a1, bS]
      · rw [f_X8_leaves, x8_thY h0 hc hm, bS, if_neg n10, x8_wg hm6, hwg, bS, if_pos rfl, x8_of0 hm6, bS, cl0, cl12, show (13 : Int32) + ((7 : Int32) * nI m) = nI (13 + 7 * m) by rw [show (13 : Int32) = nI 13 from rfl, show (7 : Int32) = nI 7 from rfl, pk_mul, nI_add], upd_n (show 0 ≠ 12 by decide), b1]
      · have lowN : ∀ i, i < 13 → N' i = upd (upd N 12 (N 12 + N (13 + 7 * m + 0))) 0 (N 0 - 1) i := fun i hi => by rw [b2 i, if_neg (by omega)]
        have lowR : ∀ i, i < 13 → R' i = upd (upd R 12 (R 12 + N (13 + 7 * m + 0))) 0 (R 0 + -1) i := fun i hi => by rw [a2 i, if_neg (by omega)]
        have cN1 : ∀ j, j < m → ∀ w, w < 7 → N' (13 + 7 * j + w) = N (13 + 7 * j + w) := fun j hj w hw => by rw [b2, if_neg (by omega), upd_n (by omega), upd_n (by omega)]
        have cR1 : ∀ j, j < m → ∀ w, w < 7 → R' (13 + 7 * j + w) = R (13 + 7 * j + w) := fun j hj w hw => by rw [a2, if_neg (by omega), upd_n (by omega), upd_n (by omega)]
        have cN2 : ∀ j, m ≤ j → j < d → ∀ w, w < 7 → N' (13 + 7 * j + w) = N (13 + 7 * (j + 1) + w) := fun j hj hj2 w hw => by rw [b2, if_pos (by omega), upd_n (by omega), upd_n (by omega), show 13 + 7 * j + w + 7 = 13 + 7 * (j + 1) + w by omega]
        have cR2 : ∀ j, m ≤ j → j < d → ∀ w, w < 7 → R' (13 + 7 * j + w) = R (13 + 7 * (j + 1) + w) := fun j hj hj2 w hw => by rw [a2, if_pos (by omega), upd_n (by omega), upd_n (by omega), show 13 + 7 * j + w + 7 = 13 + 7 * (j + 1) + w by omega]
        have sm := sumC_shift (N := N) (N' := N') (d := d) (m := m) (fun j hj => cN1 j hj 0 (by decide)) (fun j hj hj2 => cN2 j hj hj2 0 (by decide)) d (Nat.le_refl d)
        have sm2 : sumC N' d = sumC N (d + 1) - N (13 + 7 * m + 0) := by
          by_cases e : d ≤ m
          · rw [sm, if_pos e, show m = d by omega, sumC]; grind
          · rw [sm, if_neg e]
        refine ⟨d, ⟨by omega, ?_, ⟨P, p1, p2, ?_⟩, ?_, fun j hj => ?_⟩, fun i hi => ?_, fun j hj w hw hw2 => ?_, fun j hj => ?_⟩
        · rw [lowN 0 (by decide), q0']
        · rw [lowN 1 (by decide), upd_n (by decide), upd_n (by decide), p3]
        · rw [lowN 11 (by decide), lowN 7 (by decide), lowN 12 (by decide), sm2]
          simp (disch := omega) only [upd_s, upd_n, hs]
          grind
        · by_cases e : j < m
          · exact Memb_to (cN1 j e) (G.2.2.2.2 j (by omega))
          · exact Memb_to (cN2 j (by omega) hj) (G.2.2.2.2 (j + 1) (by omega))
        · rw [lowN i hi, lowR i hi]
          by_cases e0 : i = 0
          · rw [e0, upd_s, upd_s, r1 0 (by decide)]; grind
          · rw [upd_n e0, upd_n e0]
            by_cases e12 : i = 12
            · rw [e12, upd_s, upd_s, r1 12 (by decide)]
            · rw [upd_n e12, upd_n e12, r1 i hi]
        · by_cases e : j < m
          · rw [cR1 j e w hw, cN1 j e w hw, hR.2.1 j (by omega) w hw hw2]
          · rw [cR2 j (by omega) hj w hw, cN2 j (by omega) hj w hw, hR.2.1 (j + 1) (by omega) w hw hw2]
        · by_cases e : j < m
          · rw [cR1 j e 2 (by decide), cN1 j e 2 (by decide), cN1 j e 3 (by decide), hR.2.2 j (by omega)]
          · rw [cR2 j (by omega) hj 2 (by decide), cN2 j (by omega) hj 2 (by decide), cN2 j (by omega) hj 3 (by decide), hR.2.2 (j + 1) (by omega)]
      · intro K hK B c' hc' e0'
        have lowN : ∀ i, i < 13 → N' i = upd (upd N 12 (N 12 + N (13 + 7 * m + 0))) 0 (N 0 - 1) i := fun i hi => by rw [b2 i, if_neg (by omega)]
        have ec : c' = d := nI_of_lt (e0'.symm.trans ((lowN 0 (by decide)).trans q0')) (by omega) (by omega)
        subst ec
        have cN1 : ∀ j, j < m → ∀ w, w < 7 → N' (13 + 7 * j + w) = N (13 + 7 * j + w) := fun j hj w hw => by rw [b2, if_neg (by omega), upd_n (by omega), upd_n (by omega)]
        have cN2 : ∀ j, m ≤ j → j < c' → ∀ w, w < 7 → N' (13 + 7 * j + w) = N (13 + 7 * (j + 1) + w) := fun j hj hj2 w hw => by rw [b2, if_pos (by omega), upd_n (by omega), upd_n (by omega), show 13 + 7 * j + w + 7 = 13 + 7 * (j + 1) + w by omega]
        obtain ⟨s1, s2⟩ := sumN_shift (N := N) (N' := N') (d := c') (m := m) (fun j hj => cN1 j hj 0 (by decide)) (fun j hj hj2 => cN2 j hj hj2 0 (by decide)) c' (Nat.le_refl c')
        obtain ⟨t, d1, d2, d3⟩ := B (c' + 1) hc h0
        refine ⟨t, ?_, ?_, fun j hj => ?_⟩
        · rw [lowN 7 (by decide), upd_n (by decide), upd_n (by decide), d1]
        · by_cases e : c' ≤ m
          · rw [s1 e]
            rw [sumN] at d2
            omega
          · have := s2 (by omega)
            omega
        · by_cases e : j < m
          · obtain ⟨⟨a, x1, x2⟩, ⟨w, w1, w2⟩⟩ := d3 j (by omega)
            exact ⟨⟨a, x1, by rw [cN1 j e 0 (by decide), x2]⟩, w, by omega, by rw [cN1 j e 6 (by decide), w2]⟩
          · obtain ⟨⟨a, x1, x2⟩, ⟨w, w1, w2⟩⟩ := d3 (j + 1) (by omega)
            exact ⟨⟨a, x1, by rw [cN2 j (by omega) hj 0 (by decide), x2]⟩, w, by omega, by rw [cN2 j (by omega) hj 6 (by decide), w2]⟩
    · have hwg : wg N m = 1 := by rw [wg, if_neg hw]
      refine Step.no (b := 0) (why := 7) (more := N (13 + 7 * m + 2)) (by decide) ?_ ?_
      · rw [f_X6_goAway, x0_isM r0 hc hm, bS, if_neg (by decide), x0_wg hR hm hc hM, hwg, bS, if_neg (by decide), x0_of2 hm6, bS, f_X6_refuse, bS, r3, if_pos (show 0 < N (13 + 7 * m + 3) by grind)]
      · rw [f_X8_leaves, x8_thY h0 hc hm, bS, if_neg n10, x8_wg hm6, hwg, bS, if_neg (by decide), x8_of2 hm6, bS, f_X8_refuses, bS, cT j0]
  · refine Step.no (b := 0) (why := 4) (more := nI c) (by decide) ?_ ?_
    · rw [f_X6_goAway, x0_noM r0 hc hno, bS, if_pos rfl, x6_str r0, bS]
    · rw [f_X8_leaves, x8_thN h0 hc hno, bS, if_pos rfl]

