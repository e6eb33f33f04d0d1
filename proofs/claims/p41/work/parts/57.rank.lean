/-! ===== pure: the ranking ===== -/
theorem sub_int {a b : Nat} (ha : a < 2 ^ 30) (hb : b < 2 ^ 30) : (nI b - nI a).toInt = (b : Int) - (a : Int) := by
  rw [Int32.toInt_sub, nI_toInt (by omega), nI_toInt (by omega)]
  exact Int.bmod_eq_of_le (by omega) (by omega)
theorem sub_gt {a b : Nat} (ha : a < 2 ^ 30) (hb : b < 2 ^ 30) : (0 : Int32) < nI b - nI a ↔ a < b := by
  rw [Int32.lt_iff_toInt_lt, sub_int ha hb, show (0 : Int32).toInt = 0 from rfl]
  omega
theorem sub_ze {a b : Nat} (ha : a < 2 ^ 30) (hb : b < 2 ^ 30) : nI b - nI a = 0 ↔ a = b := by
  rw [← Int32.toInt_inj, sub_int ha hb, show (0 : Int32).toInt = 0 from rfl]
  omega
def msr (N : Nat → Int32) (p : Int32) (m : Nat) : Int32 := if p = 0 then N (13 + 7 * m + 0) else if p = 1 then N (13 + 7 * m + 1) else if p = 2 then N 1 - ((12 : Int32) * N (13 + 7 * m + 1)) else N (13 + 7 * m + 6)
theorem x5_msr {R N : Nat → Int32} {c m : Nat} {p : Int32} (hR : Rel R N c) (hm : m < c) (hc : c ≤ 6) : f_X5_measured R p (nI m) = some (msr N p m, ()) := by
  rw [f_X5_measured, msr]
  by_cases h0 : p = 0
  · rw [if_pos h0, if_pos h0, x0_of0 (by omega), bS, hR.2.1 m hm 0 (by decide) (by decide)]
  · rw [if_neg h0, if_neg h0]
    by_cases h1 : p = 1
    · rw [if_pos h1, if_pos h1, x0_of1 (by omega), bS, hR.2.1 m hm 1 (by decide) (by decide)]
    · rw [if_neg h1, if_neg h1]
      by_cases h2 : p = 2
      · rw [if_pos h2, if_pos h2, x0_get1, bS, x0_shown hR hm hc, bS, hR.1 1 (by decide)]
      · rw [if_neg h2, if_neg h2, x0_of6 (by omega), bS, hR.2.1 m hm 6 (by decide) (by decide)]
theorem x8_msr {N : Nat → Int32} {m : Nat} {p : Int32} (hm : m < 6) : f_X8_measure N (nI m) p = some (msr N p m, ()) := by
  rw [f_X8_measure, msr]
  by_cases h0 : p = 0
  · rw [if_pos h0, if_pos h0, x8_of0 hm, bS]
  · rw [if_neg h0, if_neg h0]
    by_cases h1 : p = 1
    · rw [if_pos h1, if_pos h1, x8_of1 hm, bS]
    · rw [if_neg h1, if_neg h1]
      by_cases h2 : p = 2
      · rw [if_pos h2, if_pos h2, cl1, x8_nd hm, bS]
      · rw [if_neg h2, if_neg h2, x8_of6 hm, bS]
theorem msr_ok {N : Nat → Int32} {K c m : Nat} {p : Int32} (hK : K < 2 ^ 29) (G : Good N c) (B : Bd N K) (hm : m < c) : ∃ v, v < 2 ^ 30 ∧ msr N p m = nI v := by
  obtain ⟨t, b1, b2, b3⟩ := B c G.1 G.2.1
  obtain ⟨⟨a, a1, a2⟩, ⟨w, w1, w2⟩⟩ := b3 m hm
  obtain ⟨P, p1, p2, p3⟩ := G.2.2.1
  obtain ⟨h, h1, h2⟩ := (G.2.2.2.2 m hm).1
  rw [msr]
  split
  · exact ⟨a, a1, a2⟩
  · split
    · exact ⟨h, by omega, h2⟩
    · split
      · exact ⟨P - 12 * h, by omega, by rw [p3, h2, shown_eq (by omega)]⟩
      · exact ⟨w, by omega, w2⟩
theorem pl_l {R N : Nat → Int32} {K c m : Nat} {p : Int32} (hK : K < 2 ^ 29) (G : Good N c) (hR : Rel R N c) (B : Bd N K) (hm : m < c) : ∀ k j n x, j + k = c → k < n → ∃ x', f_X5_placeOf_L13 R p (nI m) (msr N p m) n x (nI j) = some (x', ()) ∧ f_X8_ranked_L38 N p (nI m) n x (nI j) = some (x', nI c)
  | k, j, 0, _, _, hn => absurd hn (Nat.not_lt_zero k)
  | 0, j, n + 1, x, hk, _ => by
    have hc := G.1
    refine ⟨x, ?_, ?_⟩
    · rw [f_X5_placeOf_L13, x0_get0, bS, r0_of G hR, if_pos (nI_le (by omega) (by omega))]
    · rw [f_X8_ranked_L38, cl0, G.2.1, if_pos (nI_le (by omega) (by omega)), show j = c by omega]
  | k + 1, j, n + 1, x, hk, hn => by
    have hc := G.1
    obtain ⟨v, v1, v2⟩ := msr_ok (p := p) hK G B hm
    obtain ⟨u, u1, u2⟩ := msr_ok (p := p) hK G B (show j < c by omega)
    have ih := pl_l (p := p) hK G hR B hm k (j + 1) n
    rw [f_X5_placeOf_L13, x0_get0, bS, r0_of G hR, if_neg (nI_ge (by omega) (by omega)), x5_msr hR (by omega) hc, bS, nI_1, f_X8_ranked_L38, cl0, G.2.1, if_neg (show ¬ nI c ≤ nI j from nI_ge (by omega) (by omega)), x8_msr (by omega), bS, x8_msr (by omega), bS, nI_1]
    rw [v2] at ih ⊢
    rw [u2]
    by_cases e1 : v < u
    · rw [if_pos (nI_lt e1 (by omega)), if_pos ((sub_gt v1 u1).mpr e1)]
      exact ih _ (by omega) (by omega)
    · rw [if_neg (nI_nlt (by omega) (by omega)), if_neg (fun h => e1 ((sub_gt v1 u1).mp h))]
      by_cases e2 : v = u
      · rw [if_pos (nI_inj' e2.symm), if_pos ((sub_ze v1 u1).mpr e2)]
        by_cases e3 : nI m ≤ nI j
        · rw [if_pos e3, if_pos e3]
          exact ih _ (by omega) (by omega)
        · rw [if_neg e3, if_neg e3]
          exact ih _ (by omega) (by omega)
      · rw [if_neg (fun h => e2 (nI_of_lt h (by omega) (by omega)).symm), if_neg (fun h => e2 ((sub_ze v1 u1).mp h))]
        exact ih _ (by omega) (by omega)
theorem at_l {R N : Nat → Int32} {K c : Nat} {p q : Int32} (hK : K < 2 ^ 29) (G : Good N c) (hR : Rel R N c) (B : Bd N K) : ∀ k m n, m + k = c → k < n → (∃ j, j < c ∧ f_X5_atPlace_L2 R p q n (nI m) = some (nI j, ()) ∧ f_X8_ranked_L22 N p q 0 n (nI m) = some (nI j, 0)) ∨ ∃ w, f_X5_atPlace_L2 R p q n (nI m) = some (-1, ()) ∧ f_X8_ranked_L22 N p q 0 n (nI m) = some (w, 2)
  | k, m, 0, _, hn => absurd hn (Nat.not_lt_zero k)
  | 0, m, n + 1, hk, _ => by
    have hc := G.1
    refine Or.inr ⟨0, ?_, ?_⟩
    · rw [f_X5_atPlace_L2, x0_get0, bS, r0_of G hR, if_pos (nI_le (by omega) (by omega))]
    · rw [f_X8_ranked_L22, cl0, G.2.1, if_pos (nI_le (by omega) (by omega)), f_X8_raises, bS]
  | k + 1, m, n + 1, hk, hn => by
    have hc := G.1
    obtain ⟨x', a1, a2⟩ := pl_l (p := p) hK G hR B (show m < c by omega) c 0 FU 0 (by omega) (by rw [FU]; omega)
    have ih := at_l (p := p) (q := q) hK G hR B k (m + 1) n (by omega) (by omega)
    rw [f_X5_atPlace_L2, x0_get0, bS, r0_of G hR, if_neg (nI_ge (by omega) (by omega)), f_X5_placeOf, x5_msr hR (by omega) hc, bS, f_X8_ranked_L22, cl0, G.2.1, if_neg (nI_ge (by omega) (by omega)), nI_1]
    rw [show f_X5_placeOf_L13 R p (nI m) (msr N p m, ()).1 FU 0 0 = some (x', ()) from a1, bS, show f_X8_ranked_L38 N p (nI m) FU 0 0 = some (x', nI c) from a2, bS]
    by_cases e : x' = q
    · rw [if_pos e, if_pos e]
      exact Or.inl ⟨m, by omega, rfl, rfl⟩
    · rw [if_neg e, if_neg e]
      exact ih
theorem q_ranked {R N : Nat → Int32} {K : Nat} {t p q : Int32} (hK : K < 2 ^ 29) (H : PB K R N) : AG2 (f_X7_ranked R p q) (f_X8_ranked t N p q) 2 3 := by
  obtain ⟨⟨c, G, hR⟩, B⟩ := H
  have hc := G.1
  by_cases hp : p < 0 ∨ 3 < p
  · refine Or.inr (Or.inl ⟨0, 0, ?_, ?_⟩)
    · rw [f_X7_ranked]
      by_cases h0 : p < 0
      · rw [if_pos h0]
      · rw [if_neg h0, if_neg (show ¬ p < 4 by
          rcases hp with h | h
          · exact absurd h h0
          · rw [Int32.lt_iff_toInt_lt] at h ⊢
            simp at h ⊢
            omega)]
    · rw [f_X8_ranked, x8_inN hp, bS, if_pos rfl, f_X8_raises, bS]
  · obtain ⟨w, w3, rfl⟩ := nI_of2 (M := 3) (n := 3) rfl (fun e => hp (Or.inl e)) (show p ≤ 3 by grind)
    have hx : f_X7_ranked R (nI w) q = (f_X5_atPlace_L2 R (nI w) q FU (nI 0)).bind (fun v3 => (if v3.1 = (-1 : Int32) then (some (3, (0 : Int32), ())) else (some (0, v3.1, ())))) := by
      rw [f_X7_ranked, if_neg (nI_pos (by omega)), if_pos (show nI w < 4 from nI_lt (b := 4) (by omega) (by decide)), f_X5_atPlace]
      rfl
    have hy : f_X8_ranked t N (nI w) q = f_X8_ranked_L22 N (nI w) q 0 FU (nI 0) := by
      rw [f_X8_ranked, x8_inY (fun e => hp (Or.inl e)) (fun e => hp (Or.inr e)), bS, if_neg (by decide)]
      rfl
    rw [hx, hy]
    rcases at_l (p := nI w) (q := q) hK G hR B c 0 FU (by omega) (by rw [FU]; omega) with ⟨j, j1, j2, j3⟩ | ⟨w', j2, j3⟩
    · rw [j2, j3, bS, if_neg (neg1 (by omega))]
      exact Or.inl ⟨_, rfl, rfl⟩
    · rw [j2, j3, bS, if_pos rfl]
      exact Or.inr (Or.inr ⟨0, w', rfl, rfl⟩)

