/-! ===== pure: the loops over the members ===== -/
theorem own_eq {R N : Nat → Int32} {c : Nat} {h : Int32} (h0 : N 0 = nI c) (hc : c ≤ 6) (hR : Rel R N c) : ∀ n m, m ≤ c → f_X0_ownerOf_L2 R h n (nI m) = f_X8_ownerOf_L2 N h n (nI m)
  | 0, _, _ => rfl
  | n + 1, m, hm => by
    rw [f_X0_ownerOf_L2, f_X8_ownerOf_L2, cl0, hR.1 0 (by decide), h0]
    by_cases e : m = c
    · rw [if_pos (nI_le (by omega) (by omega)), if_pos (nI_le (by omega) (by omega))]
    · rw [if_neg (nI_ge (by omega) (by omega)), if_neg (nI_ge (by omega) (by omega)), x0_of1 (by omega), x8_of1 (by omega), bS, bS, hR.2.1 m (by omega) 1 (by decide) (by decide), nI_1, own_eq h0 hc hR n (m + 1) (by omega)]
theorem own_some {N : Nat → Int32} {c : Nat} {h : Int32} (h0 : N 0 = nI c) (hc : c ≤ 6) : ∀ k m n, m + k = c → k < n → ∃ v, f_X8_ownerOf_L2 N h n (nI m) = some (v, ()) ∧ (v = -1 ∨ ∃ j, j < c ∧ v = nI j)
  | k, m, 0, _, hn => absurd hn (Nat.not_lt_zero k)
  | 0, m, n + 1, hk, _ => by
    rw [f_X8_ownerOf_L2, cl0, h0, if_pos (nI_le (by omega) (by omega))]
    exact ⟨-1, rfl, Or.inl rfl⟩
  | k + 1, m, n + 1, hk, hn => by
    rw [f_X8_ownerOf_L2, cl0, h0, if_neg (nI_ge (by omega) (by omega)), x8_of1 (by omega), bS, nI_1]
    by_cases e : (N (13 + 7 * m + 1), ()).1 = h
    · rw [if_pos e]
      exact ⟨nI m, rfl, Or.inr ⟨m, by omega, rfl⟩⟩
    · rw [if_neg e]
      exact own_some h0 hc k (m + 1) n (by omega) (by omega)
theorem own_both {R N : Nat → Int32} {c : Nat} {h : Int32} (h0 : N 0 = nI c) (hc : c ≤ 6) (hR : Rel R N c) : ∃ v, f_X0_ownerOf R h = some (v, ()) ∧ f_X8_ownerOf N h = some (v, ()) ∧ (v = -1 ∨ ∃ j, j < c ∧ v = nI j) := by
  obtain ⟨v, h1, h2⟩ := own_some (N := N) (h := h) h0 hc c 0 FU (by omega) (by rw [FU]; omega)
  exact ⟨v, (own_eq h0 hc hR FU 0 (by omega)).trans h1, h1, h2⟩
theorem x0_coins {R N : Nat → Int32} {c : Nat} (h0 : N 0 = nI c) (hc : c ≤ 6) (hR : Rel R N c) : ∀ k m n, m + k = c → k < n → f_X0_coinsOfAll_L4 R n (sumC N m) (nI m) = some (sumC N c, ())
  | k, m, 0, _, hn => absurd hn (Nat.not_lt_zero k)
  | 0, m, n + 1, hk, _ => by
    rw [f_X0_coinsOfAll_L4, cl0, hR.1 0 (by decide), h0, if_pos (nI_le (by omega) (by omega)), show m = c by omega]
  | k + 1, m, n + 1, hk, hn => by
    rw [f_X0_coinsOfAll_L4, cl0, hR.1 0 (by decide), h0, if_neg (nI_ge (by omega) (by omega)), x0_of0 (by omega), bS, hR.2.1 m (by omega) 0 (by decide) (by decide), nI_1]
    exact x0_coins h0 hc hR k (m + 1) n (by omega) (by omega)
theorem x8_coins {N : Nat → Int32} {c : Nat} (h0 : N 0 = nI c) (hc : c ≤ 6) : ∀ k m n, m + k = c → k < n → f_X8_coins_L4 N n (sumC N m) (nI m) = some (sumC N c, ())
  | k, m, 0, _, hn => absurd hn (Nat.not_lt_zero k)
  | 0, m, n + 1, hk, _ => by
    rw [f_X8_coins_L4, cl0, h0, if_pos (nI_le (by omega) (by omega)), show m = c by omega]
  | k + 1, m, n + 1, hk, hn => by
    rw [f_X8_coins_L4, cl0, h0, if_neg (nI_ge (by omega) (by omega)), x8_of0 (by omega), bS, nI_1]
    exact x8_coins h0 hc k (m + 1) n (by omega) (by omega)
def cW (N : Nat → Int32) : Nat → Nat
  | 0 => 0
  | n + 1 => if N (13 + 7 * n + 3) ≤ 0 then cW N n else cW N n + 1
def cT' (N : Nat → Int32) : Nat → Nat
  | 0 => 0
  | n + 1 => if N (13 + 7 * n + 4) = 1 then cT' N n + 1 else cT' N n
theorem cW_le {N : Nat → Int32} : ∀ n, cW N n ≤ n
  | 0 => Nat.le_refl 0
  | n + 1 => by have := cW_le (N := N) n; rw [cW]; split <;> omega
theorem cT_le {N : Nat → Int32} : ∀ n, cT' N n ≤ n
  | 0 => Nat.le_refl 0
  | n + 1 => by have := cT_le (N := N) n; rw [cT']; split <;> omega
theorem x0_wN {R N : Nat → Int32} {c : Nat} (h0 : N 0 = nI c) (hc : c ≤ 6) (hR : Rel R N c) (hM : ∀ m, m < c → Memb N m) : ∀ k m n, m + k = c → k < n → f_X0_wageredNumber_L4 R n (nI (cW N m)) (nI m) = some (nI (cW N c), ())
  | k, m, 0, _, hn => absurd hn (Nat.not_lt_zero k)
  | 0, m, n + 1, hk, _ => by
    rw [f_X0_wageredNumber_L4, cl0, hR.1 0 (by decide), h0, if_pos (nI_le (by omega) (by omega)), show m = c by omega]
  | k + 1, m, n + 1, hk, hn => by
    have ih := x0_wN h0 hc hR hM k (m + 1) n (by omega) (by omega)
    rw [f_X0_wageredNumber_L4, cl0, hR.1 0 (by decide), h0, if_neg (nI_ge (by omega) (by omega)), x0_wg hR (by omega) hc (hM m (by omega)), bS, nI_1, wg]
    rw [cW] at ih
    by_cases e : N (13 + 7 * m + 3) ≤ 0
    · rw [if_pos e] at ih ⊢
      rw [if_pos rfl, ← ih, show nI (cW N m) + 0 = nI (cW N m) by grind]
    · rw [if_neg e] at ih ⊢
      rw [if_neg (by decide), ← ih, nI_1]
theorem x8_wN {N : Nat → Int32} {c : Nat} (h0 : N 0 = nI c) (hc : c ≤ 6) : ∀ k m n, m + k = c → k < n → f_X8_wagered_L4 N n (nI (cW N m)) (nI m) = some (nI (cW N c), ())
  | k, m, 0, _, hn => absurd hn (Nat.not_lt_zero k)
  | 0, m, n + 1, hk, _ => by
    rw [f_X8_wagered_L4, cl0, h0, if_pos (nI_le (by omega) (by omega)), show m = c by omega]
  | k + 1, m, n + 1, hk, hn => by
    have ih := x8_wN h0 hc k (m + 1) n (by omega) (by omega)
    rw [f_X8_wagered_L4, cl0, h0, if_neg (nI_ge (by omega) (by omega)), x8_wg (by omega), bS, nI_1, wg]
    rw [cW] at ih
    by_cases e : N (13 + 7 * m + 3) ≤ 0
    · rw [if_pos e] at ih ⊢
      rw [if_pos rfl, ← ih]
    · rw [if_neg e] at ih ⊢
      rw [if_neg (by decide), ← ih, nI_1]
theorem x0_tN {R N : Nat → Int32} {c : Nat} (h0 : N 0 = nI c) (hc : c ≤ 6) (hR : Rel R N c) : ∀ k m n, m + k = c → k < n → f_X0_tappedNumber_L4 R n (nI (cT' N m)) (nI m) = some (nI (cT' N c), ())
  | k, m, 0, _, hn => absurd hn (Nat.not_lt_zero k)
  | 0, m, n + 1, hk, _ => by
    rw [f_X0_tappedNumber_L4, cl0, hR.1 0 (by decide), h0, if_pos (nI_le (by omega) (by omega)), show m = c by omega]
  | k + 1, m, n + 1, hk, hn => by
    have ih := x0_tN h0 hc hR k (m + 1) n (by omega) (by omega)
    rw [f_X0_tappedNumber_L4, cl0, hR.1 0 (by decide), h0, if_neg (nI_ge (by omega) (by omega)), x0_tp hR (by omega) hc, bS, nI_1, tp]
    rw [cT'] at ih
    by_cases e : N (13 + 7 * m + 4) = 1
    · rw [if_pos e] at ih ⊢
      rw [if_neg (by decide), ← ih, nI_1]
    · rw [if_neg e] at ih ⊢
      rw [if_pos rfl, ← ih, show nI (cT' N m) + 0 = nI (cT' N m) by grind]
theorem x0_coinsA {R N : Nat → Int32} {c : Nat} (G : Good N c) (hR : Rel R N c) : f_X0_coinsOfAll R = some (sumC N c, ()) := x0_coins G.2.1 G.1 hR c 0 FU (by omega) (by have := G.1; rw [FU]; omega)
theorem x8_coinsA {N : Nat → Int32} {c : Nat} (G : Good N c) : f_X8_coins N = some (sumC N c, ()) := x8_coins G.2.1 G.1 c 0 FU (by omega) (by have := G.1; rw [FU]; omega)
theorem x0_wNA {R N : Nat → Int32} {c : Nat} (G : Good N c) (hR : Rel R N c) : f_X0_wageredNumber R = some (nI (cW N c), ()) := x0_wN G.2.1 G.1 hR G.2.2.2.2 c 0 FU (by omega) (by have := G.1; rw [FU]; omega)
theorem x8_wNA {N : Nat → Int32} {c : Nat} (G : Good N c) : f_X8_wagered N = some (nI (cW N c), ()) := x8_wN G.2.1 G.1 c 0 FU (by omega) (by have := G.1; rw [FU]; omega)
theorem x0_tNA {R N : Nat → Int32} {c : Nat} (G : Good N c) (hR : Rel R N c) : f_X0_tappedNumber R = some (nI (cT' N c), ()) := x0_tN G.2.1 G.1 hR c 0 FU (by omega) (by have := G.1; rw [FU]; omega)

