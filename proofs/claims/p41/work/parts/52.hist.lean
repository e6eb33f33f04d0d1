/-! ===== pure: what is kept for undo ===== -/
theorem PR_congr {R N R' N' : Nat → Int32} (H : PR R N) (h1 : ∀ i, i < 55 → R' i = R i) (h2 : ∀ i, i < 55 → N' i = N i) : PR R' N' := by
  obtain ⟨c, ⟨hc, h0, ⟨P, p1, p2, p3⟩, hs, hM⟩, r1, r2, r3⟩ := H
  refine ⟨c, ⟨hc, ?_, ⟨P, p1, p2, ?_⟩, ?_, fun m hm => Memb_congr (fun w hw => h2 _ (by omega)) (hM m hm)⟩, fun i hi => ?_, fun m hm w hw hw2 => ?_, fun m hm => ?_⟩
  · rw [h2 0 (by decide), h0]
  · rw [h2 1 (by decide), p3]
  · rw [h2 11 (by decide), h2 7 (by decide), h2 12 (by decide), hs, sumC_congr (N := N) (N' := N') (fun m hm => h2 _ (by omega))]
  · rw [h1 i (by omega), h2 i (by omega), r1 i hi]
  · rw [h1 _ (by omega), h2 _ (by omega), r2 m hm w hw hw2]
  · rw [h1 _ (by omega), h2 _ (by omega), h2 _ (by omega), r3 m hm]
theorem tries_l {nN : Nat → Int32} {t : Int32} : ∀ k i n T, i + k = 55 → k < n → ∃ T', f_X8_tries_L7 nN t n (nI i) T = some (t, T') ∧ ∀ j, T' j = if i ≤ j ∧ j < 55 then nN j else T j
  | k, i, 0, _, _, hn => absurd hn (Nat.not_lt_zero k)
  | 0, i, n + 1, T, hk, _ => by
    refine ⟨T, ?_, fun j => ?_⟩
    · rw [f_X8_tries_L7, if_pos (show (55 : Int32) ≤ nI i from nI_le (a := 55) (by omega) (by omega))]
    · rw [if_neg (by omega)]
  | k + 1, i, n + 1, T, hk, hn => by
    obtain ⟨T', h1, h2⟩ := tries_l (nN := nN) (t := t) k (i + 1) n (upd T i (nN i)) (by omega) (by omega)
    refine ⟨T', ?_, fun j => ?_⟩
    · rw [f_X8_tries_L7, if_neg (show ¬ (55 : Int32) ≤ nI i from nI_ge (b := 55) (by omega) (by omega)), cT (inB_n (by omega) (by decide)), cT (inB_n (by omega) (by decide)), nI_clamp (by omega), nI_1, h1]
    · rw [h2 j]
      by_cases e1 : i + 1 ≤ j ∧ j < 55
      · rw [if_pos e1, if_pos (by omega)]
      · rw [if_neg e1]
        by_cases e2 : j = i
        · rw [e2, upd_s, if_pos (by omega)]
        · rw [upd_n e2, if_neg (by omega)]
theorem tries_eq {nN nT : Nat → Int32} {t : Int32} : ∃ T', f_X8_tries t nN nT = some (0, T') ∧ ∀ j, j < 55 → T' j = nN j := by
  obtain ⟨T', h1, h2⟩ := tries_l (nN := nN) (t := 0) 55 0 FU nT (by decide) (by rw [FU]; decide)
  exact ⟨T', h1, fun j hj => by rw [h2 j, if_pos (by omega)]⟩
theorem keep_l {nT : Nat → Int32} {a : Int32} {u : Nat} (hu : u < 8) : ∀ k i n K, i + k = 55 → k < n → ∃ K', f_X8_keeps_L51 nT a (nI u) n (nI i) K = some (a, nI (u + 1), K') ∧ ∀ j, K' j = if 55 * u + i ≤ j ∧ j < 55 * u + 55 then nT (j - 55 * u) else K j
  | k, i, 0, _, _, hn => absurd hn (Nat.not_lt_zero k)
  | 0, i, n + 1, K, hk, _ => by
    refine ⟨K, ?_, fun j => ?_⟩
    · rw [f_X8_keeps_L51, if_pos (show (55 : Int32) ≤ nI i from nI_le (a := 55) (by omega) (by omega)), nI_1]
    · rw [if_neg (by omega)]
  | k + 1, i, n + 1, K, hk, hn => by
    obtain ⟨K', h1, h2⟩ := keep_l (nT := nT) (a := a) hu k (i + 1) n (upd K (55 * u + i) (nT i)) (by omega) (by omega)
    refine ⟨K', ?_, fun j => ?_⟩
    · rw [f_X8_keeps_L51, if_neg (show ¬ (55 : Int32) ≤ nI i from nI_ge (b := 55) (by omega) (by omega)), cT (inB_n (by omega) (by decide)), show ((55 : Int32) * nI u) + nI i = nI (55 * u + i) by rw [show (55 : Int32) = nI 55 from rfl, pk_mul, nI_add], cT (inB_n (by omega) (by decide)), nI_clamp (by omega), nI_clamp (by omega), nI_1, h1]
    · rw [h2 j]
      by_cases e1 : 55 * u + (i + 1) ≤ j ∧ j < 55 * u + 55
      · rw [if_pos e1, if_pos (by omega)]
      · rw [if_neg e1]
        by_cases e2 : j = 55 * u + i
        · rw [e2, upd_s, if_pos (by omega), show 55 * u + i - 55 * u = i by omega]
        · rw [upd_n e2, if_neg (by omega)]
theorem keep_s {nT : Nat → Int32} {a : Int32} : ∀ k i n K, i + k = 385 → k < n → ∃ K', f_X8_keeps_L11 nT a (nI 8) n (nI i) K = some (a, nI 8, K') ∧ ∀ j, j < 440 → K' j = if 385 ≤ j then nT (j - 385) else if i ≤ j then K (j + 55) else K j
  | k, i, 0, _, _, hn => absurd hn (Nat.not_lt_zero k)
  | 0, i, n + 1, K, hk, _ => by
    obtain ⟨K', h1, h2⟩ := keep_l (nT := nT) (a := a) (u := 7) (by decide) 55 0 FU K (by decide) (by rw [FU]; decide)
    refine ⟨K', ?_, fun j hj => ?_⟩
    · rw [f_X8_keeps_L11, if_pos (show (385 : Int32) ≤ nI i from nI_le (a := 385) (by omega) (by omega))]
      exact h1
    · rw [h2 j]
      by_cases e : 385 ≤ j
      · rw [if_pos (by omega), if_pos e]
      · rw [if_neg (by omega), if_neg e, if_neg (by omega)]
  | k + 1, i, n + 1, K, hk, hn => by
    obtain ⟨K', h1, h2⟩ := keep_s (nT := nT) (a := a) k (i + 1) n (upd K i (K (55 + i))) (by omega) (by omega)
    refine ⟨K', ?_, fun j hj => ?_⟩
    · rw [f_X8_keeps_L11, if_neg (show ¬ (385 : Int32) ≤ nI i from nI_ge (b := 385) (by omega) (by omega)), show (55 : Int32) + nI i = nI (55 + i) by rw [show (55 : Int32) = nI 55 from rfl, nI_add], cT (inB_n (by omega) (by decide)), cT (inB_n (by omega) (by decide)), nI_clamp (by omega), nI_clamp (by omega), nI_1, h1]
    · rw [h2 j hj]
      by_cases e : 385 ≤ j
      · rw [if_pos e, if_pos e]
      · rw [if_neg e, if_neg e]
        by_cases e1 : i + 1 ≤ j
        · rw [if_pos e1, if_pos (by omega), upd_n (by omega)]
        · rw [if_neg e1]
          by_cases e2 : j = i
          · rw [e2, upd_s, if_pos (by omega), show 55 + i = i + 55 by omega]
          · rw [upd_n e2, if_neg (by omega)]
def PB (K : Nat) (R N : Nat → Int32) : Prop := PR R N ∧ Bd N K
theorem PB.mono {K K' : Nat} {R N : Nat → Int32} (h : K ≤ K') (H : PB K R N) : PB K' R N := ⟨H.1, Bd_mono h H.2⟩
theorem PB_congr {K : Nat} {R N R' N' : Nat → Int32} (H : PB K R N) (h1 : ∀ i, i < 55 → R' i = R i) (h2 : ∀ i, i < 55 → N' i = N i) : PB K R' N' :=
  ⟨PR_congr H.1 h1 h2, fun c hc e0 => by
    obtain ⟨t, b1, b2, b3⟩ := H.2 c hc ((h2 0 (by decide)).symm.trans e0)
    refine ⟨t, (h2 7 (by decide)).trans b1, ?_, fun m hm => ?_⟩
    · rw [sumN_congr (N := N) (fun m hm => h2 _ (by omega))]; omega
    · rw [h2 _ (by omega), h2 _ (by omega)]
      exact b3 m hm⟩
def Hist (K : Nat) (kN kK : Int32) (kF : Nat → Int32) (mU : Int32) (nK : Nat → Int32) : Prop :=
  ∃ x u, x < 9 ∧ u ≤ 8 ∧ kN = nI x ∧ kK = nI u ∧ mU = nI u ∧ ∀ j, j < u → PB K (fun k => kF (55 * ((x + 8 - j) % 9) + k)) (fun k => nK (55 * (u - 1 - j) + k))
theorem keeps_eq {nT nK : Nat → Int32} {a : Int32} {u : Nat} (hu : u ≤ 8) : ∃ K', f_X8_keeps (nI u) nT nK a = some (a, nI (min (u + 1) 8), K') ∧
    ∀ i, i < 55 → (K' (55 * (min (u + 1) 8 - 1) + i) = nT i ∧ ∀ j, j < u → j < 7 → K' (55 * (min (u + 1) 8 - 2 - j) + i) = nK (55 * (u - 1 - j) + i)) := by
  by_cases e : u = 8
  · subst e
    obtain ⟨K', h1, h2⟩ := keep_s (nT := nT) (a := a) 385 0 FU nK (by decide) (by rw [FU]; decide)
    refine ⟨K', ?_, fun i hi => ⟨?_, fun j hj hj7 => ?_⟩⟩
    · rw [f_X8_keeps, if_pos (show nI 8 = 8 from rfl)]
      exact h1
    · rw [h2 _ (by omega), if_pos (by omega), show 55 * (min (8 + 1) 8 - 1) + i - 385 = i by omega]
    · rw [h2 _ (by omega), if_neg (by omega), if_pos (by omega), show 55 * (min (8 + 1) 8 - 2 - j) + i + 55 = 55 * (8 - 1 - j) + i by omega]
  · obtain ⟨K', h1, h2⟩ := keep_l (nT := nT) (a := a) (u := u) (by omega) 55 0 FU nK (by decide) (by rw [FU]; decide)
    refine ⟨K', ?_, fun i hi => ⟨?_, fun j hj hj7 => ?_⟩⟩
    · rw [f_X8_keeps, if_neg (show ¬ nI u = 8 from fun e' => e ((nI_eq (b := 8) (by omega) (by decide)).mp e')), Nat.min_eq_left (by omega)]
      exact h1
    · rw [h2, if_pos (by omega), show 55 * (min (u + 1) 8 - 1) + i - 55 * u = i by omega]
    · rw [h2, if_neg (by omega), show min (u + 1) 8 - 2 - j = u - 1 - j by omega]
theorem prep_eq {row kF : Nat → Int32} {x : Nat} (hx : x < 9) : ∃ F', f_X2_prepare row (nI x) kF = some F' ∧ ∀ i, F' i = if 55 * x ≤ i ∧ i < 55 * x + 55 then row (i - 55 * x) else kF i := by
  refine ⟨va_cpy row kF 0 (55 * x) 55, ?_, fun i => ?_⟩
  · have e : nI x * (55 : Int32) = nI (55 * x) := by rw [show (55 : Int32) = nI 55 from rfl, pk_mul, Nat.mul_comm]
    have hb : cpB (0 : Int32) 55 (nI (55 * x)) 495 (55 : Int32) = true := decide_eq_true (by
      refine ⟨by decide, nI_pos (by omega), by decide, by decide, ?_⟩
      rw [nI_clamp (by omega), show (55 : Int32).toNatClampNeg = 55 from rfl]
      omega)
    rw [f_X2_prepare, e, f_X0_copyTo, if_neg (nI_pos (by omega)), if_neg (show ¬ (Int32.ofNat 495 - (55 : Int32)) < nI (55 * x) from nI_nlt (a := 440) (by omega) (by decide)), cT hb, bS, nI_clamp (by omega)]
    rfl
  · unfold va_cpy
    by_cases h : 55 * x ≤ i ∧ i < 55 * x + 55
    · rw [if_pos h, if_pos h, Nat.zero_add]
    · rw [if_neg h, if_neg h]
theorem back_eq {row kF : Nat → Int32} {x : Nat} (hx : x < 9) : ∃ R', f_X2_returnToPrepared row (nI x) kF = some R' ∧ ∀ i, i < 55 → R' i = kF (55 * x + i) := by
  refine ⟨va_cpy kF row (55 * x) 0 55, ?_, fun i hi => ?_⟩
  · have e : nI x * (55 : Int32) = nI (55 * x) := by rw [show (55 : Int32) = nI 55 from rfl, pk_mul, Nat.mul_comm]
    have hb : cpB (nI (55 * x)) 495 (0 : Int32) 55 (55 : Int32) = true := decide_eq_true (by
      refine ⟨nI_pos (by omega), by decide, by decide, ?_, by decide⟩
      rw [nI_clamp (by omega), show (55 : Int32).toNatClampNeg = 55 from rfl]
      omega)
    rw [f_X2_returnToPrepared, e, f_X0_copyFrom, if_neg (nI_pos (by omega)), if_neg (show ¬ (Int32.ofNat 495 - (55 : Int32)) < nI (55 * x) from nI_nlt (a := 440) (by omega) (by decide)), cT hb, bS, nI_clamp (by omega)]
    rfl
  · unfold va_cpy
    rw [if_pos (by omega), Nat.sub_zero]
theorem acc_eq {x u : Nat} (hx : x < 9) (hu : u ≤ 8) : f_X2_accept (nI x) (nI u) = some (nI ((x + 1) % 9), nI (min (u + 1) 8)) := by
  rw [f_X2_accept, nI_1, nI_1, show (8 : Int32) = nI 8 from rfl, jmin_n (by omega) (by omega)]
  by_cases e : x = 8
  · subst e
    rw [if_pos (by decide)]
    rfl
  · rw [if_neg (show ¬ (9 : Int32) ≤ nI (x + 1) from nI_ge (b := 9) (by omega) (by omega)), Nat.mod_eq_of_lt (by omega)]

