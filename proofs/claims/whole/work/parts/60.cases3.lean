/-! ===== pure: the law's cases of floats ===== -/
theorem case_C32 {R N : Nat → Int32} {t : Int32} {oD : Nat → UInt64} (H : PR R N) : ∃ t' oD', f_law_C32 R t N oD = some (t', oD') := by
  obtain ⟨c, G, hR⟩ := H
  have hc := G.1
  by_cases e : c = 0
  · subst e
    refine ⟨1, oD, ?_⟩
    rw [f_law_C32, f_L_meanCoins, f_X7_meanCoins, x0_get0, bS, r0_of G hR, if_pos nI_0, bS, if_neg (show ¬ (5 : Nat) = 0 by decide), if_pos rfl, bS, f_X8_meanCoins, cl0, G.2.1, if_pos nI_0, f_X8_raises, bS, bS, f_X8_thrown, bS, if_pos rfl, if_neg n10]
  · have ne : ¬ nI c = 0 := nI_ne0 (by omega) (by omega)
    have hn := ddiv_ok (x := sumC N c) (c := c) (by omega) (by omega)
    refine ⟨0, vf_upd oD (0 : Int32).toNatClampNeg (FP.ddiv (FP.i2d (sumC N c)) (FP.i2d (nI c))), ?_⟩
    rw [f_law_C32, f_L_meanCoins, f_X7_meanCoins, x0_get0, bS, r0_of G hR, if_neg ne, x0_coinsA G hR, bS, cT hn, bS, if_pos rfl, bS, f_X8_meanCoins, cl0, G.2.1, if_neg ne, x8_coinsA G, bS, cT hn, bS, f_X8_thrown, bS, if_pos rfl, if_pos rfl]
    dsimp only
    have hu : vf_upd oD 0 (FP.ddiv (FP.i2d (sumC N c)) (FP.i2d (nI c))) 0 = FP.ddiv (FP.i2d (sumC N c)) (FP.i2d (nI c)) := if_pos rfl
    by_cases h : Op.cmpValue (FP.dcmp (FP.ddiv (FP.i2d (sumC N c)) (FP.i2d (nI c))) (FP.ddiv (FP.i2d (sumC N c)) (FP.i2d (nI c)))) .l = (0 : Int32)
    · have h1 : Op.cmpValue (FP.dcmp (vf_upd oD 0 (FP.ddiv (FP.i2d (sumC N c)) (FP.i2d (nI c))) 0) (FP.ddiv (FP.i2d (sumC N c)) (FP.i2d (nI c)))) .l = (0 : Int32) := by rw [hu]; exact h
      rw [if_pos h1]
    · have h1 : ¬ Op.cmpValue (FP.dcmp (vf_upd oD 0 (FP.ddiv (FP.i2d (sumC N c)) (FP.i2d (nI c))) 0) (FP.ddiv (FP.i2d (sumC N c)) (FP.i2d (nI c)))) .l = (0 : Int32) := by rw [hu]; exact h
      have h2 : ¬ Op.cmpValue (FP.dcmp (vf_upd oD 0 (FP.ddiv (FP.i2d (sumC N c)) (FP.i2d (nI c))) 0) (vf_upd oD 0 (FP.ddiv (FP.i2d (sumC N c)) (FP.i2d (nI c))) 0)) .l = (0 : Int32) := by rw [hu]; exact h
      rw [if_neg h1, if_neg h2, if_neg h]
theorem share_ok : ∀ a, a < 7 → ∀ b, b < 7 → 0 < b → n32 (FP.fdiv (FP.i2f (nI a)) (FP.i2f (nI b))) = true ∧ n64 (FP.f2d (FP.fdiv (FP.i2f (nI a)) (FP.i2f (nI b)))) = true ∧ Op.cmpValue (FP.dcmp (FP.f2d (FP.fdiv (FP.i2f (nI a)) (FP.i2f (nI b)))) (FP.f2d (FP.fdiv (FP.i2f (nI a)) (FP.i2f (nI b))))) .l = (0 : Int32) := by decide +kernel
theorem x8_tS {N : Nat → Int32} {c : Nat} {t : Int32} (G : Good N c) : ∀ k m n, m + k = c → k < n → f_X8_tappedShare_L9 N t n (nI (cT' N m)) (nI m) = if nI (cW N c) = 0 then some (FP.i2f 0, 1) else bif n32 (FP.fdiv (FP.i2f (nI (cT' N c))) (FP.i2f (nI (cW N c)))) then some (FP.fdiv (FP.i2f (nI (cT' N c))) (FP.i2f (nI (cW N c))), t) else none
  | k, m, 0, _, hn => absurd hn (Nat.not_lt_zero k)
  | 0, m, n + 1, hk, _ => by
    have hc := G.1
    rw [f_X8_tappedShare_L9, cl0, G.2.1, if_pos (nI_le (by omega) (by omega)), x8_wNA G, bS, f_X8_raises, bS, bS, show m = c by omega]
  | k + 1, m, n + 1, hk, hn => by
    have hc := G.1
    have ih := x8_tS (t := t) G k (m + 1) n (by omega) (by omega)
    rw [f_X8_tappedShare_L9, cl0, G.2.1, if_neg (nI_ge (by omega) (by omega)), x8_of4 (by omega), bS, nI_1, ← ih, cT']
    by_cases e : N (13 + 7 * m + 4) = 1
    · rw [if_pos e, e, nI_1]
    · have e0 : N (13 + 7 * m + 4) = 0 := by
        rcases (G.2.2.2.2 m (by omega)).2.2 with h | ⟨-, -, h | h⟩
        · exact h.2
        · exact h
        · exact absurd h e
      rw [if_neg e, e0, show nI (cT' N m) + 0 = nI (cT' N m) by grind]
theorem case_C33 {R N : Nat → Int32} {t : Int32} {oD : Nat → UInt64} (H : PR R N) : ∃ t' oD', f_law_C33 R t N oD = some (t', oD') := by
  obtain ⟨c, G, hR⟩ := H
  have hc := G.1
  have hW := cW_le (N := N) c
  have hT := cT_le (N := N) c
  have hm : f_X8_tappedShare t N = if nI (cW N c) = 0 then some (FP.i2f 0, 1) else bif n32 (FP.fdiv (FP.i2f (nI (cT' N c))) (FP.i2f (nI (cW N c)))) then some (FP.fdiv (FP.i2f (nI (cT' N c))) (FP.i2f (nI (cW N c))), 0) else none := x8_tS (t := 0) G c 0 FU (by omega) (by rw [FU]; omega)
  by_cases e : cW N c = 0
  · have e0 : nI (cW N c) = 0 := by rw [e]; rfl
    refine ⟨1, oD, ?_⟩
    rw [f_law_C33, f_L_tappedShare, f_X7_tappedShare, x0_wNA G hR, bS, if_pos e0, bS, if_neg (show ¬ (5 : Nat) = 0 by decide), if_pos rfl, bS, hm, if_pos e0, bS, f_X8_thrown, bS, if_pos rfl, if_neg n10]
  · have ne : ¬ nI (cW N c) = 0 := nI_ne0 (by omega) (by omega)
    obtain ⟨s1, s2, s3⟩ := share_ok (cT' N c) (by omega) (cW N c) (by omega) (by omega)
    refine ⟨0, vf_upd oD (0 : Int32).toNatClampNeg (FP.f2d (FP.fdiv (FP.i2f (nI (cT' N c))) (FP.i2f (nI (cW N c))))), ?_⟩
    rw [f_law_C33, f_L_tappedShare, f_X7_tappedShare, x0_wNA G hR, bS, if_neg ne, x0_tNA G hR, bS, cT s1, bS, if_pos rfl, cT s2, bS, hm, if_neg ne, cT s1, bS, f_X8_thrown, bS, if_pos rfl, if_pos rfl, cT s2]
    dsimp only
    have hu : vf_upd oD (0 : Int32).toNatClampNeg (FP.f2d (FP.fdiv (FP.i2f (nI (cT' N c))) (FP.i2f (nI (cW N c))))) (0 : Int32).toNatClampNeg = FP.f2d (FP.fdiv (FP.i2f (nI (cT' N c))) (FP.i2f (nI (cW N c)))) := if_pos rfl
    have h1 : Op.cmpValue (FP.dcmp (vf_upd oD (0 : Int32).toNatClampNeg (FP.f2d (FP.fdiv (FP.i2f (nI (cT' N c))) (FP.i2f (nI (cW N c))))) (0 : Int32).toNatClampNeg) (FP.f2d (FP.fdiv (FP.i2f (nI (cT' N c))) (FP.i2f (nI (cW N c)))))) .l = (0 : Int32) := by rw [hu]; exact s3
    rw [if_pos h1]
