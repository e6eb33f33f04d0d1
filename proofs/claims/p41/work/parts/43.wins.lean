/-! ===== pure: the winners ===== -/
def dsI (N : Nat → Int32) (m : Nat) (p : Int32) : Int32 := jabs (N (13 + 7 * m + 2) - (p - ((12 : Int32) * N (13 + 7 * m + 1))))
def dN (N : Nat → Int32) (P m : Nat) : Nat := (dsI N m (nI P)).toNatClampNeg
def cw (N : Nat → Int32) (m : Nat) : Bool := decide (0 < N (13 + 7 * m + 3)) && !decide (N (13 + 7 * m + 4) = 1)
theorem jabs_p : ∀ k, k < 512 → jabs (nI k) = nI k := by decide +kernel
theorem jabs_n : ∀ k, k < 512 → jabs (-(nI k)) = nI k := by decide +kernel
theorem nI_sub {a b : Nat} (h : b ≤ a) : nI a - nI b = nI (a - b) := by
  have e : nI (a - b) + nI b = nI a := by rw [nI_add, Nat.sub_add_cancel h]
  grind
theorem shown_eq {P h : Nat} (hh : 12 * h ≤ P) : nI P - (12 : Int32) * nI h = nI (P - 12 * h) := by
  rw [show (12 : Int32) = nI 12 from rfl, pk_mul, nI_sub hh]
theorem ds_ok {N : Nat → Int32} {P m : Nat} (hM : Memb N m) (hw : 0 < N (13 + 7 * m + 3)) (h1 : 900 ≤ P) (h2 : P ≤ 1100) : ∃ d, d ≤ 400 ∧ dsI N m (nI P) = nI d := by
  obtain ⟨g, g1, g2, g3⟩ := memb_guess hM hw
  obtain ⟨h, h3, h4⟩ := hM.1
  rw [dsI, g3, h4, shown_eq (by omega)]
  by_cases e : P - 12 * h ≤ g
  · refine ⟨g - (P - 12 * h), by omega, ?_⟩
    rw [nI_sub e, jabs_p _ (by omega)]
  · refine ⟨P - 12 * h - g, by omega, ?_⟩
    rw [show nI g - nI (P - 12 * h) = -(nI (P - 12 * h) - nI g) by grind, nI_sub (by omega), jabs_n _ (by omega)]
theorem dN_ok {N : Nat → Int32} {P m : Nat} (hM : Memb N m) (hw : 0 < N (13 + 7 * m + 3)) (h1 : 900 ≤ P) (h2 : P ≤ 1100) : dN N P m ≤ 400 ∧ dsI N m (nI P) = nI (dN N P m) := by
  obtain ⟨d, d1, d2⟩ := ds_ok hM hw h1 h2
  have e : dN N P m = d := by rw [dN, d2, nI_clamp (by omega)]
  rw [e]
  exact ⟨d1, d2⟩
def wst (N : Nat → Int32) (P : Nat) : Nat → Nat × Nat
  | 0 => (0, 100000)
  | m + 1 => if cw N m = true then (if (wst N P m).2 < dN N P m then wst N P m else (if dN N P m < (wst N P m).2 then (2 ^ m, dN N P m) else ((wst N P m).1 + 2 ^ m, (wst N P m).2))) else wst N P m
theorem bit_or : ∀ m, m < 6 → ∀ S, S < 2 ^ m → nI S ||| ((1 : Int32) <<< (nI m &&& 31)) = nI (S + 2 ^ m) := by decide +kernel
theorem bit_0 : ∀ m, m < 6 → (0 : Int32) ||| ((1 : Int32) <<< (nI m &&& 31)) = nI (2 ^ m) := by decide +kernel
theorem bit_1 : ∀ m, m < 6 → ((1 : Int32) <<< (nI m &&& 31)) = nI (2 ^ m) := by decide +kernel
theorem cw_iff {N : Nat → Int32} {m : Nat} : cw N m = true ↔ 0 < N (13 + 7 * m + 3) ∧ ¬ N (13 + 7 * m + 4) = 1 := by simp [cw]
theorem wst_inv {N : Nat → Int32} {P c : Nat} (hM : ∀ m, m < c → Memb N m) (h1 : 900 ≤ P) (h2 : P ≤ 1100) : ∀ m, m ≤ c → (wst N P m).1 < 2 ^ m ∧ (((wst N P m).1 = 0 ∧ (wst N P m).2 = 100000) ∨ (0 < (wst N P m).1 ∧ (wst N P m).2 ≤ 400))
  | 0, _ => ⟨show (0 : Nat) < 2 ^ 0 by decide, Or.inl ⟨rfl, rfl⟩⟩
  | m + 1, hm => by
    obtain ⟨i1, i2⟩ := wst_inv hM h1 h2 m (by omega)
    have hp : 0 < 2 ^ m := Nat.two_pow_pos m
    have hs : 2 ^ (m + 1) = 2 ^ m * 2 := Nat.pow_succ 2 m
    rw [wst]
    by_cases hc : cw N m = true
    · obtain ⟨d1, -⟩ := dN_ok (hM m (by omega)) (cw_iff.mp hc).1 h1 h2
      rw [if_pos hc]
      split
      · exact ⟨by omega, i2⟩
      · split
        · exact ⟨by show 2 ^ m < _; omega, Or.inr ⟨hp, d1⟩⟩
        · exact ⟨by show (wst N P m).1 + 2 ^ m < _; omega, Or.inr ⟨by show 0 < (wst N P m).1 + 2 ^ m; omega, by show (wst N P m).2 ≤ 400; omega⟩⟩
    · rw [if_neg hc]
      exact ⟨by omega, i2⟩
theorem x0_shown {R N : Nat → Int32} {c m : Nat} {p : Int32} (hR : Rel R N c) (hm : m < c) (hc : c ≤ 6) : f_X3_shown R (nI m) p = some (p - ((12 : Int32) * N (13 + 7 * m + 1)), ()) := by
  rw [f_X3_shown, x0_of1 (by omega), bS, hR.2.1 m hm 1 (by decide) (by decide)]
theorem x0_dist {R N : Nat → Int32} {c m : Nat} {p : Int32} (hR : Rel R N c) (hm : m < c) (hc : c ≤ 6) (hw : 0 < N (13 + 7 * m + 3)) : f_X3_distance R (nI m) p = some (dsI N m p, ()) := by
  rw [f_X3_distance, x0_of2 (by omega), bS, x0_shown hR hm hc, bS, hR.2.2 m hm, if_pos hw, dsI]
theorem x0_canY {R N : Nat → Int32} {c m : Nat} (hR : Rel R N c) (hm : m < c) (hc : c ≤ 6) (hM : Memb N m) (h : cw N m = true) : f_X3_canWin R (nI m) = some (1, ()) := by
  obtain ⟨h1, h2⟩ := cw_iff.mp h
  rw [f_X3_canWin, x0_wg hR hm hc hM, bS, wg, if_neg (show ¬ N (13 + 7 * m + 3) ≤ 0 by grind), if_neg (by decide), x0_tp hR hm hc, bS, tp, if_neg h2, if_pos rfl]
theorem x0_canN {R N : Nat → Int32} {c m : Nat} (hR : Rel R N c) (hm : m < c) (hc : c ≤ 6) (hM : Memb N m) (h : ¬ cw N m = true) : f_X3_canWin R (nI m) = some (0, ()) := by
  rw [f_X3_canWin, x0_wg hR hm hc hM, bS, wg]
  by_cases h1 : N (13 + 7 * m + 3) ≤ 0
  · rw [if_pos h1, if_pos rfl]
  · have h2 : N (13 + 7 * m + 4) = 1 := by
      by_cases h2 : N (13 + 7 * m + 4) = 1
      · exact h2
      · exact absurd (cw_iff.mpr ⟨by grind, h2⟩) h
    rw [if_neg h1, if_neg (by decide), x0_tp hR hm hc, bS, tp, if_pos h2, if_neg (by decide)]
theorem x0_win {R N : Nat → Int32} {P c : Nat} (G : Good N c) (hR : Rel R N c) (h1 : 900 ≤ P) (h2 : P ≤ 1100) : ∀ k m n y3, m + k = c → k < n → (0 < (wst N P m).1 → y3 = nI (wst N P m).2) → f_X3_nearest_L7 R (nI P) n (nI (wst N P m).1) y3 (nI m) = some (nI (wst N P c).1, ())
  | k, m, 0, _, _, hn, _ => absurd hn (Nat.not_lt_zero k)
  | 0, m, n + 1, y3, hk, _, _ => by
    have hc := G.1
    rw [f_X3_nearest_L7, x0_get0, bS, hR.1 0 (by decide), G.2.1, if_pos (nI_le (by omega) (by omega)), show m = c by omega]
  | k + 1, m, n + 1, y3, hk, hn, hy => by
    have hc := G.1
    obtain ⟨i1, i2⟩ := wst_inv G.2.2.2.2 h1 h2 m (by omega)
    have ih := x0_win G hR h1 h2 k (m + 1) n
    have hp : 2 ^ m ≤ 32 := Nat.pow_le_pow_right (n := 2) (by decide) (show m ≤ 5 by omega)
    rw [f_X3_nearest_L7, x0_get0, bS, hR.1 0 (by decide), G.2.1, if_neg (nI_ge (by omega) (by omega)), nI_1]
    rw [wst] at ih
    by_cases hw : cw N m = true
    · obtain ⟨d1, d2⟩ := dN_ok (G.2.2.2.2 m (by omega)) (cw_iff.mp hw).1 h1 h2
      rw [x0_canY hR (by omega) hc (G.2.2.2.2 m (by omega)) hw, bS, if_neg (by decide), x0_dist hR (by omega) hc (cw_iff.mp hw).1, bS, d2, bit_1 m (by omega)]
      rw [if_pos hw] at ih
      rcases i2 with ⟨e1, e2⟩ | ⟨e1, e2⟩
      · rw [e1, if_pos nI_0]
        rw [if_neg (by omega), if_pos (by omega)] at ih
        exact ih _ (by omega) (by omega) (fun _ => rfl)
      · rw [if_neg (nI_ne0 e1 (by omega)), hy e1]
        by_cases e3 : (wst N P m).2 ≤ dN N P m
        · rw [if_pos (nI_le e3 (by omega))]
          by_cases e4 : dN N P m = (wst N P m).2
          · rw [if_pos (nI_inj' e4), ← bit_1 m (by omega), bit_or m (by omega) _ i1]
            rw [if_neg (by omega), if_neg (by omega)] at ih
            exact ih _ (by omega) (by omega) (fun _ => rfl)
          · rw [if_neg (fun e => e4 ((nI_eq (by omega) (by omega)).mp e))]
            rw [if_pos (by omega)] at ih
            exact ih _ (by omega) (by omega) (fun _ => rfl)
        · rw [if_neg (nI_ge (by omega) (by omega))]
          rw [if_neg (by omega), if_pos (by omega)] at ih
          exact ih _ (by omega) (by omega) (fun _ => rfl)
    · rw [x0_canN hR (by omega) hc (G.2.2.2.2 m (by omega)) hw, bS, if_pos rfl]
      rw [if_neg hw] at ih
      exact ih _ (by omega) (by omega) hy
theorem jmin_n {a b : Nat} (ha : a < 2 ^ 31) (hb : b < 2 ^ 31) : jmin (nI a) (nI b) = nI (min a b) := by
  rw [jmin]
  by_cases h : b < a
  · rw [if_pos (nI_lt h ha), Nat.min_eq_right (by omega)]
  · rw [if_neg (nI_nlt (by omega) hb), Nat.min_eq_left (by omega)]
theorem x8_win {N : Nat → Int32} {P c : Nat} (G : Good N c) (h1 : 900 ≤ P) (h2 : P ≤ 1100) : ∀ k m n, m + k = c → k < n → f_X8_winnersAt_L8 N (nI P) n (nI (wst N P m).1) (nI (wst N P m).2) (nI m) = some (nI (wst N P c).1, ())
  | k, m, 0, _, hn => absurd hn (Nat.not_lt_zero k)
  | 0, m, n + 1, hk, _ => by
    have hc := G.1
    rw [f_X8_winnersAt_L8, cl0, G.2.1, if_pos (nI_le (by omega) (by omega)), show m = c by omega]
  | k + 1, m, n + 1, hk, hn => by
    have hc := G.1
    obtain ⟨i1, i2⟩ := wst_inv G.2.2.2.2 h1 h2 m (by omega)
    have ih := x8_win G h1 h2 k (m + 1) n (by omega) (by omega)
    rw [f_X8_winnersAt_L8, cl0, G.2.1, if_neg (nI_ge (by omega) (by omega)), x8_wg (by omega), bS, nI_1, wg]
    rw [wst] at ih
    by_cases hw : cw N m = true
    · obtain ⟨d1, d2⟩ := dN_ok (G.2.2.2.2 m (by omega)) (cw_iff.mp hw).1 h1 h2
      obtain ⟨w1, w2⟩ := cw_iff.mp hw
      have hD : (wst N P m).2 < 2 ^ 31 := by rcases i2 with i2 | i2 <;> omega
      rw [if_neg (show ¬ N (13 + 7 * m + 3) ≤ 0 by grind), if_neg (by decide), x8_of4 (by omega), bS, if_neg w2, x8_of2 (by omega), bS, f_X8_needleAt, x8_of1 (by omega), bS, bS, f_X8_apart, bS]
      rw [show (jabs (N (13 + 7 * m + 2) - (nI P - ((12 : Int32) * N (13 + 7 * m + 1))))) = nI (dN N P m) from d2, jmin_n hD (by omega)]
      rw [if_pos hw] at ih
      by_cases e3 : (wst N P m).2 ≤ dN N P m
      · rw [if_pos (nI_le e3 (by omega)), Nat.min_eq_left e3]
        by_cases e4 : (wst N P m).2 < dN N P m
        · rw [if_pos (nI_lt e4 (by omega))]
          rw [if_pos e4] at ih
          exact ih
        · rw [if_neg (nI_nlt (by omega) hD), bit_or m (by omega) _ i1]
          rw [if_neg e4, if_neg (by omega)] at ih
          exact ih
      · rw [if_neg (nI_ge (by omega) (by omega)), if_neg (nI_nlt (by omega) hD), bit_0 m (by omega), Nat.min_eq_right (by omega)]
        rw [if_neg (by omega), if_pos (by omega)] at ih
        exact ih
    · rw [if_neg hw] at ih
      by_cases w1 : N (13 + 7 * m + 3) ≤ 0
      · rw [if_pos w1, if_pos rfl]
        exact ih
      · have w2 : N (13 + 7 * m + 4) = 1 := by
          by_cases w2 : N (13 + 7 * m + 4) = 1
          · exact w2
          · exact absurd (cw_iff.mpr ⟨by grind, w2⟩) hw
        rw [if_neg w1, if_neg (by decide), x8_of4 (by omega), bS, if_pos w2]
        exact ih
theorem x0_near {R N : Nat → Int32} {P c : Nat} (G : Good N c) (hR : Rel R N c) (h1 : 900 ≤ P) (h2 : P ≤ 1100) : f_X3_nearest R (nI P) = some (nI (wst N P c).1, ()) :=
  x0_win G hR h1 h2 c 0 FU 0 (by omega) (by have := G.1; rw [FU]; omega) (fun h => absurd h (Nat.lt_irrefl 0))
theorem x8_near {N : Nat → Int32} {P c : Nat} (G : Good N c) (h1 : 900 ≤ P) (h2 : P ≤ 1100) : f_X8_winnersAt N (nI P) = some (nI (wst N P c).1, ()) :=
  x8_win G h1 h2 c 0 FU (by omega) (by have := G.1; rw [FU]; omega)
theorem wst_64 {N : Nat → Int32} {P c : Nat} (G : Good N c) (h1 : 900 ≤ P) (h2 : P ≤ 1100) : (wst N P c).1 < 64 :=
  Nat.lt_of_lt_of_le (wst_inv G.2.2.2.2 h1 h2 c (Nat.le_refl c)).1 (show 2 ^ c ≤ 2 ^ 6 from Nat.pow_le_pow_right (by decide) G.1)

