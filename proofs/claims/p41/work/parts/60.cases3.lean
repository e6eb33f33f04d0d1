/-! ===== pure: the law's cases of floats ===== -/
theorem share_ok : ∀ a, a < 7 → ∀ b, b < 7 → 0 < b → n32 (FP.fdiv (FP.i2f (nI a)) (FP.i2f (nI b))) = true ∧ n64 (FP.f2d (FP.fdiv (FP.i2f (nI a)) (FP.i2f (nI b)))) = true ∧ Op.cmpValue (FP.dcmp (FP.f2d (FP.fdiv (FP.i2f (nI a)) (FP.i2f (nI b)))) (FP.f2d (FP.fdiv (FP.i2f (nI a)) (FP.i2f (nI b))))) .l = (0 : Int32) := by decide +kernel
theorem x8_tS {N : Nat → Int32} {c : Nat} {t : Int32} (G : Good N c) : ∀ k m n, m + k = c → k < n → f_X8_tappedShare_L9 N t n (nI (cT' N m)) (nI m) = if nI (cW N c) = 0 then some (FP.i2f 0, 1) else bif n32 (FP.fdiv (FP.i2f (nI (cT' N c))) (FP.i2f (nI (cW N c)))) then some (FP.fdiv (FP.i2f (nI (cT' N c))) (FP.i2f (nI (cW N c))), t) else none
  | k, m, 0, _, hn => absurd hn (Nat.not_lt_zero k)
  | 0, m, n + 1, hk, _ => by
    have hc := G.1
    rw [f_X8_tappedShare_L9, cl0, G.2.1, if_pos (nI_le (by omega) (by omega)), x8_wNA G, bS, f_X8_raises, bS, bS, show m = c by omega]
  | k + 1, m, n + 1, hk, hn => by
    have hc := G.1
    have ih := x8_tS (t := t) G k (m + 1) n (by omega) (by omega)
    rw [f_X8_tappedShare_L9, cl0, G.2.1, if_neg (nI_ge (by omega) (by omega)), x8_of4 (by omega), bS, nI_1, ← ih, cT']
    by_cases e : N (13 + 7 * m + 4) = 1
    · rw [if_pos e, e, nI_1]
    · have e0 : N (13 + 7 * m + 4) = 0 := by
        rcases (G.2.2.2.2 m (by omega)).2.2 with h | ⟨-, -, h | h⟩
        · exact h.2
        · exact h
        · exact absurd h e
      rw [if_neg e, e0, show nI (cT' N m) + 0 = nI (cT' N m) by grind]
