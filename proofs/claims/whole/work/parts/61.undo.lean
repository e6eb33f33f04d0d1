/-! ===== pure: undo, save, restore ===== -/
theorem undo_l {nK : Nat → Int32} {t : Int32} {u : Nat} (hu : u < 8) : ∀ k i n T, i + k = 55 → k < n → ∃ T', f_X8_undo_L30 nK (nI u) t n (nI i) T = some (nI u, nI u, t, T') ∧ ∀ j, T' j = if i ≤ j ∧ j < 55 then nK (55 * u + j) else T j
  | k, i, 0, _, _, hn => absurd hn (Nat.not_lt_zero k)
  | 0, i, n + 1, T, hk, _ => by
    refine ⟨T, ?_, fun j => ?_⟩
    · rw [f_X8_undo_L30, if_pos (show (55 : Int32) ≤ nI i from nI_le (a := 55) (by omega) (by omega))]
    · rw [if_neg (by omega)]
  | k + 1, i, n + 1, T, hk, hn => by
    obtain ⟨T', h1, h2⟩ := undo_l (nK := nK) (t := t) hu k (i + 1) n (upd T i (nK (55 * u + i))) (by omega) (by omega)
    refine ⟨T', ?_, fun j => ?_⟩
    · rw [f_X8_undo_L30, if_neg (show ¬ (55 : Int32) ≤ nI i from nI_ge (b := 55) (by omega) (by omega)), show ((55 : Int32) * nI u) + nI i = nI (55 * u + i) by rw [show (55 : Int32) = nI 55 from rfl, pk_mul, nI_add], cT (inB_n (by omega) (by decide)), cT (inB_n (by omega) (by decide)), nI_clamp (by omega), nI_clamp (by omega), nI_1, h1]
    · rw [h2 j]
      by_cases e1 : i + 1 ≤ j ∧ j < 55
      · rw [if_pos e1, if_pos (by omega)]
      · rw [if_neg e1]
        by_cases e2 : j = i
        · rw [e2, upd_s, if_pos (by omega)]
        · rw [upd_n e2, if_neg (by omega)]
theorem save_l {nN : Nat → Int32} {a t : Int32} : ∀ k i n T, i + k = 55 → k < n → ∃ T', f_X8_save_L12 nN a t n (nI i) T = some (nN 0, a, t, T') ∧ ∀ j, T' j = if i ≤ j ∧ j < 55 then nN j else T j
  | k, i, 0, _, _, hn => absurd hn (Nat.not_lt_zero k)
  | 0, i, n + 1, T, hk, _ => by
    refine ⟨T, ?_, fun j => ?_⟩
    · rw [f_X8_save_L12, if_pos (show (55 : Int32) ≤ nI i from nI_le (a := 55) (by omega) (by omega)), cl0]
    · rw [if_neg (by omega)]
  | k + 1, i, n + 1, T, hk, hn => by
    obtain ⟨T', h1, h2⟩ := save_l (nN := nN) (a := a) (t := t) k (i + 1) n (upd T i (nN i)) (by omega) (by omega)
    refine ⟨T', ?_, fun j => ?_⟩
    · rw [f_X8_save_L12, if_neg (show ¬ (55 : Int32) ≤ nI i from nI_ge (b := 55) (by omega) (by omega)), cT (inB_n (by omega) (by decide)), cT (inB_n (by omega) (by decide)), nI_clamp (by omega), nI_1, h1]
    · rw [h2 j]
      by_cases e1 : i + 1 ≤ j ∧ j < 55
      · rw [if_pos e1, if_pos (by omega)]
      · rw [if_neg e1]
        by_cases e2 : j = i
        · rw [e2, upd_s, if_pos (by omega)]
        · rw [upd_n e2, if_neg (by omega)]
theorem rest_l {nS : Nat → Int32} {t : Int32} : ∀ k i n T, i + k = 55 → k < n → ∃ T', f_X8_restore_L20 nS t n (nI i) T = some (T' 0, 0, t, T') ∧ ∀ j, T' j = if i ≤ j ∧ j < 55 then nS j else T j
  | k, i, 0, _, _, hn => absurd hn (Nat.not_lt_zero k)
  | 0, i, n + 1, T, hk, _ => by
    refine ⟨T, ?_, fun j => ?_⟩
    · rw [f_X8_restore_L20, if_pos (show (55 : Int32) ≤ nI i from nI_le (a := 55) (by omega) (by omega)), cl0]
    · rw [if_neg (by omega)]
  | k + 1, i, n + 1, T, hk, hn => by
    obtain ⟨T', h1, h2⟩ := rest_l (nS := nS) (t := t) k (i + 1) n (upd T i (nS i)) (by omega) (by omega)
    refine ⟨T', ?_, fun j => ?_⟩
    · rw [f_X8_restore_L20, if_neg (show ¬ (55 : Int32) ≤ nI i from nI_ge (b := 55) (by omega) (by omega)), cT (inB_n (by omega) (by decide)), cT (inB_n (by omega) (by decide)), nI_clamp (by omega), nI_1, h1]
    · rw [h2 j]
      by_cases e1 : i + 1 ≤ j ∧ j < 55
      · rw [if_pos e1, if_pos (by omega)]
      · rw [if_neg e1]
        by_cases e2 : j = i
        · rw [e2, upd_s, if_pos (by omega)]
        · rw [upd_n e2, if_neg (by omega)]
theorem jmax_n {a b : Nat} (ha : a < 2 ^ 31) (hb : b < 2 ^ 31) : jmax (nI a) (nI b) = nI (max a b) := by
  rw [jmax]
  by_cases h : a < b
  · rw [if_pos (nI_lt h hb), Nat.max_eq_right (by omega)]
  · rw [if_neg (nI_nlt (by omega) ha), Nat.max_eq_left (by omega)]
theorem case_C35 {K : Nat} {row nN kF nK : Nat → Int32} {kN kK mU t : Int32} {oL : Nat → Int64} (HP : PB K row nN) (HH : Hist K kN kK kF mU nK) :
    ∃ row' kN' kK' mU' t' nN' oL', f_law_C35 row kN kK kF mU t nN nK oL = some (row', kN', kK', mU', t', nN', oL') ∧ PB K row' nN' ∧ Hist K kN' kK' kF mU' nK := by
  obtain ⟨x, u, hx, hu, rfl, rfl, rfl, h⟩ := HH
  by_cases e : u = 0
  · subst e
    refine ⟨row, nI x, nI 0, nI 0, 1, nN, oL, ?_, HP, ⟨x, 0, hx, hu, rfl, rfl, rfl, h⟩⟩
    rw [f_law_C35, f_L_undo, f_X7_undo, f_X2_size, bS, if_pos nI_0, bS, if_neg (show ¬ (4 : Nat) = 0 by decide), if_pos rfl, bS, f_X8_undo, if_pos nI_0, f_X8_raises, bS, bS, f_X8_thrown, bS, if_pos rfl, if_neg n10]
  · have ne : ¬ nI u = 0 := nI_ne0 (by omega) (by omega)
    have eu : nI u - 1 = nI (u - 1) := nI_sub (b := 1) (by omega)
    obtain ⟨R', b1, b2⟩ := back_eq (row := row) (kF := kF) (x := (x + 8) % 9) (by omega)
    obtain ⟨N', d1, d2⟩ := undo_l (nK := nK) (t := 0) (u := u - 1) (by omega) 55 0 FU nN (by decide) (by rw [FU]; decide)
    have hj : jmax (nI u - (1 : Int32)) (0 : Int32) = nI (u - 1) := by rw [eu, show (0 : Int32) = nI 0 from rfl, jmax_n (by omega) (by omega), Nat.max_eq_left (by omega)]
    have hb : f_X2_stepBack row (nI x) (nI u) kF = some (R', nI ((x + 8) % 9), nI (u - 1)) := by
      rw [f_X2_stepBack]
      by_cases e0 : x = 0
      · subst e0
        rw [if_pos (show nI 0 ≤ 0 by decide), show (8 : Int32) = nI ((0 + 8) % 9) from rfl, b1, bS, hj]
      · rw [if_neg (nI_nle (by omega) (by omega)), show nI x - (1 : Int32) = nI ((x + 8) % 9) by rw [show (x + 8) % 9 = x - 1 by omega]; exact nI_sub (b := 1) (by omega), b1, bS, hj]
    refine ⟨R', nI ((x + 8) % 9), nI (u - 1), nI (u - 1), 0, N', vp_updL oL (0 : Int32).toNatClampNeg (nI (u - 1)).toInt64, ?_, PB_congr (h 0 (by omega)) (fun i hi => ?_) (fun i hi => ?_), ⟨(x + 8) % 9, u - 1, by omega, by omega, rfl, rfl, rfl, fun j hj => ?_⟩⟩
    · rw [f_law_C35, f_L_undo, f_X7_undo, f_X2_size, bS, if_neg ne, hb, bS, f_X2_size, bS, bS, if_pos rfl, bS, f_X8_undo, if_neg ne, eu]
      rw [show f_X8_undo_L30 nK (nI (u - 1)) 0 FU 0 nN = some (nI (u - 1), nI (u - 1), 0, N') from d1, bS, f_X8_thrown, bS, if_pos rfl, if_pos rfl, if_pos lgu]
    · rw [b2 i hi]; rfl
    · rw [d2 i, if_pos (by omega)]; rfl
    · have := h (j + 1) (by omega)
      rw [show (x + 8 - (j + 1)) % 9 = ((x + 8) % 9 + 8 - j) % 9 by omega, show u - 1 - (j + 1) = u - 1 - 1 - j by omega] at this
      exact this
def Snap (K : Nat) (xS : Int32) (sN : Nat → Int32) (mB : Int32) (nS : Nat → Int32) : Prop := xS = mB ∧ (mB = 0 ∨ (mB = 1 ∧ PB K sN nS))
theorem Snap.mono {K K' : Nat} {xS mB : Int32} {sN nS : Nat → Int32} (h : K ≤ K') (H : Snap K xS sN mB nS) : Snap K' xS sN mB nS := ⟨H.1, H.2.imp id (fun q => ⟨q.1, q.2.mono h⟩)⟩
theorem case_C36 {K : Nat} {row nN sN nS : Nat → Int32} {xS mB t : Int32} (HP : PB K row nN) :
    ∃ xS' sN' mB' t' nS', f_law_C36 xS row sN mB t nN nS = some (xS', sN', mB', t', nS') ∧ Snap K xS' sN' mB' nS' := by
  obtain ⟨S', s1, s2⟩ := save_l (nN := nN) (a := 1) (t := 0) 55 0 FU nS (by decide) (by rw [FU]; decide)
  have hx : row 0 = nN 0 := by
    obtain ⟨⟨c, G, hR⟩, -⟩ := HP
    exact hR.1 0 (by decide)
  refine ⟨1, va_cpy row sN 0 0 55, 1, 0, S', ?_, rfl, Or.inr ⟨rfl, PB_congr HP (fun i hi => ?_) (fun i hi => ?_)⟩⟩
  · have hb : cpB (0 : Int32) 55 (0 : Int32) 55 (55 : Int32) = true := by decide
    rw [f_law_C36, f_X7_save, f_X0_copyTo, if_neg (by decide), if_neg (by decide), cT hb, bS, x0_get0, bS, bS, f_X8_save]
    rw [show f_X8_save_L12 nN 1 0 FU 0 nS = some (nN 0, 1, 0, S') from s1, bS, if_pos hx]
    rfl
  · show (if 0 ≤ i ∧ i < 0 + 55 then row (0 + (i - 0)) else sN i) = row i
    rw [if_pos (by omega), Nat.sub_zero, Nat.zero_add]
  · rw [s2 i, if_pos (by omega)]
theorem case_C37 {K : Nat} {row nN sN nS kF nK : Nat → Int32} {xS mB t kN kK mU : Int32} {oL : Nat → Int64} (HP : PB K row nN) (HH : Hist K kN kK kF mU nK) (HS : Snap K xS sN mB nS) :
    ∃ row' kK' mU' t' nN' oL', f_law_C37 xS row kK sN mU mB t nN nS oL = some (row', kK', mU', t', nN', oL') ∧ PB K row' nN' ∧ Hist K kN kK' kF mU' nK := by
  obtain ⟨rfl, rfl | ⟨rfl, HS⟩⟩ := HS
  · refine ⟨row, kK, mU, 1, nN, oL, ?_, HP, HH⟩
    rw [f_law_C37, f_L_restore, f_X7_restore, if_pos rfl, bS, if_neg (show ¬ (4 : Nat) = 0 by decide), if_pos rfl, bS, f_X8_restore, if_pos rfl, f_X8_raises, bS, bS, f_X8_thrown, bS, if_pos rfl, if_neg n10]
  · obtain ⟨N', d1, d2⟩ := rest_l (nS := nS) (t := 0) 55 0 FU nN (by decide) (by rw [FU]; decide)
    have hN : ∀ i, i < 55 → N' i = nS i := fun i hi => by rw [d2 i, if_pos (by omega)]
    have hR : ∀ i, i < 55 → va_cpy sN row 0 0 55 i = sN i := fun i hi => by
      show (if 0 ≤ i ∧ i < 0 + 55 then sN (0 + (i - 0)) else row i) = sN i
      rw [if_pos (by omega), Nat.sub_zero, Nat.zero_add]
    have hP := PB_congr HS hR hN
    have hx : va_cpy sN row 0 0 55 0 = N' 0 := by
      obtain ⟨⟨c, G, hR⟩, -⟩ := hP
      exact hR.1 0 (by decide)
    obtain ⟨x, u, h1, -, h3, -, -, -⟩ := HH
    refine ⟨va_cpy sN row 0 0 55, 0, 0, 0, N', vp_updL oL (0 : Int32).toNatClampNeg (N' 0).toInt64, ?_, hP, ⟨x, 0, h1, by decide, h3, rfl, rfl, fun j hj => absurd hj (Nat.not_lt_zero j)⟩⟩
    have hb : cpB (0 : Int32) 55 (0 : Int32) 55 (55 : Int32) = true := by decide
    rw [f_law_C37, f_L_restore, f_X7_restore, if_neg n10, f_X0_copyFrom, if_neg (by decide), if_neg (by decide), cT hb, bS, f_X2_forget, bS, x0_get0, bS, bS, if_pos rfl, bS, f_X8_restore, if_neg n10]
    rw [show f_X8_restore_L20 nS 0 FU 0 nN = some (N' 0, 0, 0, N') from d1, bS, f_X8_thrown, bS, if_pos rfl, if_pos rfl]
    rw [show va_cpy sN row (0 : Int32).toNatClampNeg (0 : Int32).toNatClampNeg (55 : Int32).toNatClampNeg = va_cpy sN row 0 0 55 from rfl, hx, if_pos lgu]
