/-! ===== pure: the needles are read ===== -/
def adj (N : Nat → Int32) (x : Int32) : Nat → Int32 := upd (upd N 7 (N 7 - x)) 9 (N 9 + x)
theorem adj_0 {N : Nat → Int32} {x : Int32} (hx : x = 0) : adj N x = N := by
  subst hx
  funext i
  unfold adj
  by_cases e9 : i = 9
  · rw [e9, upd_s]; grind
  · rw [upd_n e9]
    by_cases e7 : i = 7
    · rw [e7, upd_s]; grind
    · rw [upd_n e7]
theorem rd_end {R N : Nat → Int32} {c : Nat} {x : Int32} (G : Good (adj N x) c) (hR : Rel R (adj N x) c) :
    Good (upd (adj N x) 8 ((adj N x) 8 + 1)) c ∧ Rel (upd R 8 (R 8 + 1)) (upd (adj N x) 8 ((adj N x) 8 + 1)) c := by
  obtain ⟨P, p1, p2, p3⟩ := G.2.2.1
  have r1 := hR.1
  have hs := G.2.2.2.1
  generalize adj N x = M at *
  refine PR_none G hR ?_ ⟨P, p1, p2, ?_⟩ ?_ (fun i hi => ?_) (fun i hi => ?_) (g13 ?_ ?_ ?_ ?_ ?_ ?_ ?_ ?_ ?_ ?_ ?_ ?_ ?_)
  all_goals simp (disch := omega) only [upd_s, upd_n, r1, p3, hs]
theorem rd_clr {R N : Nat → Int32} {c m : Nat} {x : Int32} (G : Good (adj N x) c) (hR : Rel R (adj N x) c) (hm : m < c) :
    Good (adj (upd (upd (upd N (13 + 7 * m + 2) 0) (13 + 7 * m + 3) 0) (13 + 7 * m + 4) 0) x) c ∧
      Rel (upd (upd (upd R (13 + 7 * m + 2) (-1)) (13 + 7 * m + 3) 0) (13 + 7 * m + 4) 0) (adj (upd (upd (upd N (13 + 7 * m + 2) 0) (13 + 7 * m + 3) 0) (13 + 7 * m + 4) 0) x) c := by
  have hc := G.1
  obtain ⟨P, p1, p2, p3⟩ := G.2.2.1
  have r1 := hR.1
  have r2 := hR.2.1 m hm
  have hs := G.2.2.2.1
  have hM := G.2.2.2.2 m hm
  have q1 := hM.1
  have q2 := hM.2.1
  refine PR_one G hR hm ?_ ⟨P, p1, p2, ?_⟩ ?_ (fun j hj hjm w hw => ?_) (fun j hj hjm w hw => ?_) ⟨?_, ?_, Or.inl ⟨?_, ?_⟩⟩ (g13 ?_ ?_ ?_ ?_ ?_ ?_ ?_ ?_ ?_ ?_ ?_ ?_ ?_) (w7 ?_ ?_ ?_ ?_ ?_ ?_) ?_
  all_goals unfold adj at *
  all_goals simp (disch := omega) only [upd_s, upd_n] at p3 hs q1 q2
  all_goals simp (disch := omega) only [upd_s, upd_n, r1, r2, p3, hs, q1, q2]
  all_goals grind
theorem rd_win {R N : Nat → Int32} {c m : Nat} {x s y : Int32} (G : Good (adj N x) c) (hR : Rel R (adj N x) c) (hm : m < c) (hy : y = x + s) :
    Good (adj (upd (upd N (13 + 7 * m + 0) (N (13 + 7 * m + 0) + s)) (13 + 7 * m + 6) (N (13 + 7 * m + 6) + 1)) y) c ∧
      Rel (upd (upd (upd (upd R (13 + 7 * m + 0) (R (13 + 7 * m + 0) + - -s)) 7 (R 7 + -s)) (13 + 7 * m + 6) (R (13 + 7 * m + 6) + 1)) 9 (R 9 + s)) (adj (upd (upd N (13 + 7 * m + 0) (N (13 + 7 * m + 0) + s)) (13 + 7 * m + 6) (N (13 + 7 * m + 6) + 1)) y) c := by
  have hc := G.1
  obtain ⟨P, p1, p2, p3⟩ := G.2.2.1
  have r1 := hR.1
  have r2 := hR.2.1 m hm
  have r3 := hR.2.2 m hm
  have hs := G.2.2.2.1
  have hM := G.2.2.2.2 m hm
  have q1 := hM.1
  have q2 := hM.2.1
  have q3 := hM.2.2
  refine PR_one G hR hm ?_ ⟨P, p1, p2, ?_⟩ ?_ (fun j hj hjm w hw => ?_) (fun j hj hjm w hw => ?_) ⟨?_, ?_, ?_⟩ (g13 ?_ ?_ ?_ ?_ ?_ ?_ ?_ ?_ ?_ ?_ ?_ ?_ ?_) (w7 ?_ ?_ ?_ ?_ ?_ ?_) ?_
  all_goals unfold adj at *
  all_goals simp (disch := omega) only [upd_s, upd_n] at p3 hs q1 q2 q3 r3
  all_goals simp (disch := omega) only [upd_s, upd_n, r1, r2, r3, p3, hs, q1, q2, q3]
  all_goals grind
theorem x0_payW {R : Nat → Int32} {m : Nat} {s : Int32} (hm : m < 6) : f_X6_payWinner R (nI m) s = some (upd (upd (upd (upd R (13 + 7 * m + 0) (R (13 + 7 * m + 0) + - -s)) 7 (R 7 + -s)) (13 + 7 * m + 6) (R (13 + 7 * m + 6) + 1)) 9 (R 9 + s)) := by
  rw [f_X6_payWinner, x0_pay hm, bS, x0_addOf6 hm, bS, x0_add9, bS]
  simp (disch := omega) only [upd_s, upd_n]
theorem x0_clr {R : Nat → Int32} {m : Nat} (hm : m < 6) : f_X0_clearWager R (nI m) = some (upd (upd (upd R (13 + 7 * m + 2) (-1)) (13 + 7 * m + 3) 0) (13 + 7 * m + 4) 0) := by
  rw [f_X0_clearWager, x0_setOf2 hm, bS, x0_setOf3 hm, bS, x0_setOf4 hm, bS]
theorem rd_loop {S c : Nat} {sh a b e f : Int32} (hS : S < 2 ^ c) (hc : c ≤ 6) : ∀ k m n R N, m + k = c → k < n → Good (adj N (sh * nI (cB S m))) c → Rel R (adj N (sh * nI (cB S m))) c →
    ∃ R' N', f_X6_readNeedles_L39 (nI S) sh 0 0 n (nI m) R = some (nI (cB S 6), R', 0, 0) ∧ f_X8_reads_L58 (nI S) (nI (cB S 6)) sh a b e f n (nI m) N = some (1, a, b, e, nI (cB S 6), N') ∧ Good N' c ∧ Rel R' N' c
  | k, m, 0, _, _, _, hn, _, _ => absurd hn (Nat.not_lt_zero k)
  | 0, m, n + 1, R, N, hk, _, G, hR => by
    have hS6 : S < 64 := Nat.lt_of_lt_of_le hS (show 2 ^ c ≤ 2 ^ 6 from Nat.pow_le_pow_right (by decide) hc)
    have e0 : R 0 = nI c := (hR.1 0 (by decide)).trans G.2.1
    have e1 : N 0 = nI c := by have := G.2.1; unfold adj at this; simpa (disch := omega) only [upd_n] using this
    have ec : m = c := by omega
    subst ec
    have hx : sh * nI (cB S m) = sh * nI (cB S 6) := by rw [cB_top m (by omega) S hS]
    obtain ⟨G', hR'⟩ := rd_end G hR
    refine ⟨_, _, ?_, ?_, G', hR'⟩
    · rw [f_X6_readNeedles_L39, x0_get0, bS, e0, if_pos (nI_le (by omega) (by omega)), x0_add8, bS, bc_eq S hS6, bS]
    · rw [f_X8_reads_L58, cl0, e1, if_pos (nI_le (by omega) (by omega)), f_X8_does, bS, cT j1, cl7, cl8, cl9, ← hx]
      unfold adj
      simp (disch := omega) only [upd_s, upd_n]
  | k + 1, m, n + 1, R, N, hk, hn, G, hR => by
    have hS6 : S < 64 := Nat.lt_of_lt_of_le hS (show 2 ^ c ≤ 2 ^ 6 from Nat.pow_le_pow_right (by decide) hc)
    have e0 : R 0 = nI c := (hR.1 0 (by decide)).trans G.2.1
    have e1 : N 0 = nI c := by have := G.2.1; unfold adj at this; simpa (disch := omega) only [upd_n] using this
    have hm6 : m < 6 := by omega
    rw [f_X6_readNeedles_L39, x0_get0, bS, e0, if_neg (nI_ge (by omega) (by omega)), f_X8_reads_L58, cl0, e1, if_neg (nI_ge (by omega) (by omega)), bit_t m hm6 S hS6, nI_1]
    have hstep : cB S (m + 1) = cB S m + S / 2 ^ m % 2 := rfl
    by_cases hb : S / 2 ^ m % 2 = 1
    · have hx : sh * nI (cB S (m + 1)) = sh * nI (cB S m) + sh := by rw [hstep, hb, ← nI_1]; grind
      obtain ⟨G1, R1⟩ := rd_win (y := sh * nI (cB S (m + 1))) G hR (show m < c by omega) hx
      obtain ⟨G2, R2⟩ := rd_clr G1 R1 (show m < c by omega)
      obtain ⟨R', N', h1, h2, h3, h4⟩ := rd_loop hS hc k (m + 1) n _ _ (by omega) (by omega) G2 R2
      refine ⟨R', N', ?_, ?_, h3, h4⟩
      · rw [hb, if_pos (show nI 1 = 1 from rfl), x0_payW hm6, bS, x0_clr hm6, bS, h1]
      · rw [hb, if_pos (show nI 1 = 1 from rfl), x8_of0 hm6, bS, x8_sets0 hm6, bS, x8_of6 hm6, bS, x8_sets6 hm6, bS, x8_sets2 hm6, bS, x8_sets3 hm6, bS, x8_sets4 hm6, bS, upd_n (show 13 + 7 * m + 6 ≠ 13 + 7 * m + 0 by omega), h2]
    · have hb0 : S / 2 ^ m % 2 = 0 := by omega
      have hx : sh * nI (cB S (m + 1)) = sh * nI (cB S m) := by rw [hstep, hb0]; rfl
      rw [← hx] at G hR
      obtain ⟨G2, R2⟩ := rd_clr G hR (show m < c by omega)
      obtain ⟨R', N', h1, h2, h3, h4⟩ := rd_loop hS hc k (m + 1) n _ _ (by omega) (by omega) G2 R2
      refine ⟨R', N', ?_, ?_, h3, h4⟩
      · rw [hb0, if_neg (show ¬ nI 0 = 1 by decide), x0_clr hm6, bS, h1]
      · rw [hb0, if_neg (show ¬ nI 0 = 1 by decide), x8_sets2 hm6, bS, x8_sets3 hm6, bS, x8_sets4 hm6, bS, h2]
theorem st_read {R N : Nat → Int32} {mR mD mJ mA : Int32} (H : PR R N) : Step R N mR mD mJ mA (f_X6_readNeedles R 0 0) (f_X8_reads mR mD mJ mA N) := by
  obtain ⟨c, G, hR⟩ := H
  have r1 := hR.1
  have hc := G.1
  obtain ⟨P, p1, p2, p3⟩ := G.2.2.1
  have hW := cW_le (N := N) c
  by_cases e : cW N c = 0
  · refine Step.no (b := 0) (why := 14) (more := N 7) (by decide) ?_ ?_
    · rw [f_X6_readNeedles, x0_wNA G hR, bS, e, if_pos nI_0, x0_get7, bS, f_X6_refuse, bS, r1 7 (by decide)]
    · rw [f_X8_reads, x8_wNA G, bS, e, if_pos nI_0, f_X8_refuses, bS, cT j0, cl7]
  · have ne : ¬ nI (cW N c) = 0 := nI_ne0 (by omega) (by omega)
    have hS := (wst_inv G.2.2.2.2 p1 p2 c (Nat.le_refl c)).1
    have hS6 := wst_64 G p1 p2
    have h6 := cB_6 _ hS6
    have ex : shI N (wst N P c).1 * nI (cB (wst N P c).1 0) = 0 := by rw [show nI (cB (wst N P c).1 0) = 0 from rfl]; grind
    obtain ⟨R', N', h1, h2, h3, h4⟩ := rd_loop (S := (wst N P c).1) (sh := shI N (wst N P c).1) (a := mR) (b := mD) (e := mJ) (f := mA) hS hc c 0 FU R N (by omega) (by rw [FU]; omega) (by rw [adj_0 ex]; exact G) (by rw [adj_0 ex]; exact hR)
    refine Step.yes (a := nI (cB (wst N P c).1 6)) (R' := R') (N' := N') ?_ ?_ ⟨c, h3, h4⟩
    · rw [f_X6_readNeedles, x0_wNA G hR, bS, if_neg ne, x0_get1, bS, r1 1 (by decide), p3, x0_near G hR p1 p2, bS, x0_share hR hS6, bS]
      exact h1
    · rw [f_X8_reads, x8_wNA G, bS, if_neg ne, cl1, p3, x8_near G p1 p2, bS, bc_eq _ hS6, bS, cl7]
      rw [shI] at h2
      by_cases e0 : cB (wst N P c).1 6 = 0
      · rw [if_pos e0] at h2
        rw [if_pos (show nI (cB (wst N P c).1 6) = 0 by rw [e0]; rfl)]
        exact h2
      · rw [if_neg e0] at h2
        rw [if_neg (nI_ne0 (by omega) (by omega)), cT (nz_n e0 (by omega))]
        exact h2
