/-! ===== pure: the needles are read ===== -/
def adj (N : Nat → Int32) (x : Int32) : Nat → Int32 := upd (upd N 7 (N 7 - x)) 9 (N 9 + x)
theorem adj_0 {N : Nat → Int32} {x : Int32} (hx : x = 0) : adj N x = N := by
  subst hx
  funext i
  unfold adj
  by_cases e9 : i = 9
  · rw [e9, upd_s]; grind
  · rw [upd_n e9]
    by_cases e7 : i = 7
    · rw [e7, upd_s]; grind
    · rw [upd_n e7]
theorem rd_end {R N : Nat → Int32} {c : Nat} {x : Int32} (G : Good (adj N x) c) (hR : Rel R (adj N x) c) :
    Good (upd (adj N x) 8 ((adj N x) 8 + 1)) c ∧ Rel (upd R 8 (R 8 + 1)) (upd (adj N x) 8 ((adj N x) 8 + 1)) c := by
  obtain ⟨P, p1, p2, p3⟩ := G.2.2.1
  have r1 := hR.1
  have hs := G.2.2.2.1
  generalize adj N x = M at *
  refine PR_none G hR ?_ ⟨P, p1, p2, ?_⟩ ?_ (fun i hi => ?_) (fun i hi => ?_) (g13 ?_ ?_ ?_ ?_ ?_ ?_ ?_ ?_ ?_ ?_ ?_ ?_ ?_)
  all_goals simp (disch := omega) only [upd_s, upd_n, r1, p3, hs]
theorem rd_clr {R N : Nat → Int32} {c m : Nat} {x : Int32} (G : Good (adj N x) c) (hR : Rel R (adj N x) c) (hm : m < c) :
    Good (adj (upd (upd (upd N (13 + 7 * m + 2) 0) (13 + 7 * m + 3) 0) (13 + 7 * m + 4) 0) x) c ∧
      Rel (upd (upd (upd R (13 + 7 * m + 2) (-1)) (13 + 7 * m + 3) 0) (13 + 7 * m + 4) 0) (adj (upd (upd (upd N (13 + 7 * m + 2) 0) (13 + 7 * m + 3) 0) (13 + 7 * m + 4) 0) x) c := by
  have hc := G.1
  obtain ⟨P, p1, p2, p3⟩ := G.2.2.1
  have r1 := hR.1
  have r2 := hR.2.1 m hm
  have hs := G.2.2.2.1
  have hM := G.2.2.2.2 m hm
  have q1 := hM.1
  have q2 := hM.2.1
  refine PR_one G hR hm ?_ ⟨P, p1, p2, ?_⟩ ?_ (fun j hj hjm w hw => ?_) (fun j hj hjm w hw => ?_) ⟨?_, ?_, Or.inl ⟨?_, ?_⟩⟩ (g13 ?_ ?_ ?_ ?_ ?_ ?_ ?_ ?_ ?_ ?_ ?_ ?_ ?_) (w7 ?_ ?_ ?_ ?_ ?_ ?_) ?_
  all_goals unfold adj at *
  all_goals simp (disch := omega) only [upd_s, upd_n] at p3 hs q1 q2
  all_goals simp (disch := omega) only [upd_s, upd_n, r1, r2, p3, hs, q1, q2]
  all_goals grind
theorem rd_win {R N : Nat → Int32} {c m : Nat} {x s y : Int32} (G : Good (adj N x) c) (hR : Rel R (adj N x) c) (hm : m < c) (hy : y = x + s) :
    Good (adj (upd (upd N (13 + 7 * m + 0) (N (13 + 7 * m + 0) + s)) (13 + 7 * m + 6) (N (13 + 7 * m + 6) + 1)) y) c ∧
      Rel (upd (upd (upd (upd R (13 + 7 * m + 0) (R (13 + 7 * m + 0) + - -s)) 7 (R 7 + -s)) (13 + 7 * m + 6) (R (13 + 7 * m + 6) + 1)) 9 (R 9 + s)) (adj (upd (upd N (13 + 7 * m + 0) (N (13 + 7 * m + 0) + s)) (13 + 7 * m + 6) (N (13 + 7 * m + 6) + 1)) y) c := by
  have hc := G.1
  obtain ⟨P, p1, p2, p3⟩ := G.2.2.1
  have r1 := hR.1
  have r2 := hR.2.1 m hm
  have r3 := hR.2.2 m hm
  have hs := G.2.2.2.1
  have hM := G.2.2.2.2 m hm
  have q1 := hM.1
  have q2 := hM.2.1
  have q3 := hM.2.2
  refine PR_one G hR hm ?_ ⟨P, p1, p2, ?_⟩ ?_ (fun j hj hjm w hw => ?_) (fun j hj hjm w hw => ?_) ⟨?_, ?_, ?_⟩ (g13 ?_ ?_ ?_ ?_ ?_ ?_ ?_ ?_ ?_ ?_ ?_ ?_ ?_) (w7 ?_ ?_ ?_ ?_ ?_ ?_) ?_
  all_goals unfold adj at *
  all_goals simp (disch := omega) only [upd_s, upd_n] at p3 hs q1 q2 q3 r3
  all_goals simp (disch := omega) only [upd_s, upd_n, r1, r2, r3, p3, hs, q1, q2, q3]
  all_goals grind
theorem x0_payW {R : Nat → Int32} {m : Nat} {s : Int32} (hm : m < 6) : f_X6_payWinner R (nI m) s = some (upd (upd (upd (upd R (13 + 7 * m + 0) (R (13 + 7 * m + 0) + - -s)) 7 (R 7 + -s)) (13 + 7 * m + 6) (R (13 + 7 * m + 6) + 1)) 9 (R 9 + s)) := by
  rw [f_X6_payWinner, x0_pay hm, bS, x0_addOf6 hm, bS, x0_add9, bS]
  simp (disch := omega) only [upd_s, upd_n]
theorem x0_clr {R : Nat → Int32} {m : Nat} (hm : m < 6) : f_X0_clearWager R (nI m) = some (upd (upd (upd R (13 + 7 * m + 2) (-1)) (13 + 7 * m + 3) 0) (13 + 7 * m + 4) 0) := by
  rw [f_X0_clearWager, x0_setOf2 hm, bS, x0_setOf3 hm, bS, x0_setOf4 hm, bS]
theorem Bd_eq {N N' : Nat → Int32} {K : Nat} (B : Bd N K) (h0 : N' 0 = N 0) (h7 : N' 7 = N 7) (h : ∀ m, m < 6 → N' (13 + 7 * m + 0) = N (13 + 7 * m + 0) ∧ N' (13 + 7 * m + 6) = N (13 + 7 * m + 6)) : Bd N' K := fun c hc e0 => by
  obtain ⟨t, b1, b2, b3⟩ := B c hc (h0.symm.trans e0)
  refine ⟨t, h7.trans b1, ?_, fun m hm => ?_⟩
  · rw [sumN_congr (N := N) (fun m hm => (h m (by omega)).1)]; omega
  · rw [(h m (by omega)).1, (h m (by omega)).2]
    exact b3 m hm
theorem Bd_win {M M' : Nat → Int32} {K c k sn t : Nat} (hc : c ≤ 6) (e0 : M 0 = nI c) (hk : k < c) (hK : K < 2 ^ 30) (B : Bd M K) (h0 : M' 0 = M 0) (ht : M 7 = nI t) (ht30 : t < 2 ^ 30) (hst : sn ≤ t) (h7 : M' 7 = M 7 - nI sn) (hc0 : M' (13 + 7 * k + 0) = M (13 + 7 * k + 0) + nI sn) (hc6 : M' (13 + 7 * k + 6) = M (13 + 7 * k + 6) + 1)
    (h : ∀ m, m < c → m ≠ k → M' (13 + 7 * m + 0) = M (13 + 7 * m + 0) ∧ M' (13 + 7 * m + 6) = M (13 + 7 * m + 6)) : Bd M' (K + 1) := fun c' hc' e0' => by
  have ec : c' = c := nI_of_lt (e0'.symm.trans (h0.trans e0)) (by omega) (by omega)
  subst ec
  obtain ⟨t2, b1, b2, b3⟩ := B c' hc e0
  obtain ⟨⟨a, a1, a2⟩, ⟨w, w1, w2⟩⟩ := b3 k hk
  have hg := sumN_ge (N := M) hk
  rw [a2, nI_clamp (by omega)] at hg
  have et : t2 = t := by
    by_cases e2 : t2 < 2 ^ 31
    · exact nI_of_lt (b1.symm.trans ht) e2 (by omega)
    · omega
  subst et
  rw [a2, nI_add] at hc0
  have hone := sumN_one (N := M) (N' := M') hk (fun m hm e => (h m hm e).1)
  rw [hc0, a2, nI_clamp (by omega), nI_clamp (by omega)] at hone
  refine ⟨t2 - sn, by rw [h7, b1, nI_sub hst], by omega, fun m hm => ?_⟩
  by_cases e : m = k
  · subst e
    exact ⟨⟨a + sn, by omega, hc0⟩, w + 1, by omega, by rw [hc6, w2, nI_1]⟩
  · obtain ⟨a', ⟨w', w1', w2'⟩⟩ := b3 m hm
    rw [(h m hm e).1, (h m hm e).2]
    exact ⟨a', w', by omega, w2'⟩
theorem cB_mono : ∀ S, S < 64 → ∀ m, m < 7 → cB S m ≤ cB S 6 := by decide +kernel
theorem rd_loop {S c : Nat} {sh a b e f : Int32} (hS : S < 2 ^ c) (hc : c ≤ 6) : ∀ k m n R N, m + k = c → k < n → Good (adj N (sh * nI (cB S m))) c → Rel R (adj N (sh * nI (cB S m))) c →
    ∃ R' N', f_X6_readNeedles_L39 (nI S) sh 0 0 n (nI m) R = some (nI (cB S 6), R', 0, 0) ∧ f_X8_reads_L58 (nI S) (nI (cB S 6)) sh a b e f n (nI m) N = some (1, a, b, e, nI (cB S 6), N') ∧ Good N' c ∧ Rel R' N' c ∧
      ∀ K t0 sn, K + k < 2 ^ 30 → t0 < 2 ^ 30 → sh = nI sn → sn * cB S 6 ≤ t0 → (adj N (sh * nI (cB S m))) 7 = nI (t0 - sn * cB S m) → Bd (adj N (sh * nI (cB S m))) K → Bd N' (K + k)
  | k, m, 0, _, _, _, hn, _, _ => absurd hn (Nat.not_lt_zero k)
  | 0, m, n + 1, R, N, hk, _, G, hR => by
    have hS6 : S < 64 := Nat.lt_of_lt_of_le hS (show 2 ^ c ≤ 2 ^ 6 from Nat.pow_le_pow_right (by decide) hc)
    have e0 : R 0 = nI c := (hR.1 0 (by decide)).trans G.2.1
    have e1 : N 0 = nI c := by have := G.2.1; unfold adj at this; simpa (disch := omega) only [upd_n] using this
    have ec : m = c := by omega
    subst ec
    have hx : sh * nI (cB S m) = sh * nI (cB S 6) := by rw [cB_top m (by omega) S hS]
    obtain ⟨G', hR'⟩ := rd_end G hR
    refine ⟨_, _, ?_, ?_, G', hR', fun K t0 sn _ _ _ _ _ B => Bd_eq B (upd_n (by decide)) (upd_n (by decide)) (fun j hj => ⟨upd_n (by omega), upd_n (by omega)⟩)⟩
    · rw [f_X6_readNeedles_L39, x0_get0, bS, e0, if_pos (nI_le (by omega) (by omega)), x0_add8, bS, bc_eq S hS6, bS]
    · rw [f_X8_reads_L58, cl0, e1, if_pos (nI_le (by omega) (by omega)), f_X8_does, bS, cT j1, cl7, cl8, cl9, ← hx]
      unfold adj
      simp (disch := omega) only [upd_s, upd_n]
  | k + 1, m, n + 1, R, N, hk, hn, G, hR => by
    have hS6 : S < 64 := Nat.lt_of_lt_of_le hS (show 2 ^ c ≤ 2 ^ 6 from Nat.pow_le_pow_right (by decide) hc)
    have e0 : R 0 = nI c := (hR.1 0 (by decide)).trans G.2.1
    have e1 : N 0 = nI c := by have := G.2.1; unfold adj at this; simpa (disch := omega) only [upd_n] using this
    have hm6 : m < 6 := by omega
    rw [f_X6_readNeedles_L39, x0_get0, bS, e0, if_neg (nI_ge (by omega) (by omega)), f_X8_reads_L58, cl0, e1, if_neg (nI_ge (by omega) (by omega)), bit_t m hm6 S hS6, nI_1]
    have hstep : cB S (m + 1) = cB S m + S / 2 ^ m % 2 := rfl
    by_cases hb : S / 2 ^ m % 2 = 1
    · have hx : sh * nI (cB S (m + 1)) = sh * nI (cB S m) + sh := by rw [hstep, hb, ← nI_1]; grind
      obtain ⟨G1, R1⟩ := rd_win (y := sh * nI (cB S (m + 1))) G hR (show m < c by omega) hx
      obtain ⟨G2, R2⟩ := rd_clr G1 R1 (show m < c by omega)
      obtain ⟨R', N', h1, h2, h3, h4, h5⟩ := rd_loop hS hc k (m + 1) n _ _ (by omega) (by omega) G2 R2
      refine ⟨R', N', ?_, ?_, h3, h4, fun K t0 sn hK ht hsn hle h7 B => ?_⟩
      rotate_left 2
      · have hmul : sn * (cB S m + 1) ≤ sn * cB S 6 := Nat.mul_le_mul_left sn (by have := cB_mono S hS6 (m + 1) (by omega); omega)
        rw [Nat.mul_succ] at hmul
        have h7' : adj (upd (upd (upd (upd (upd N (13 + 7 * m + 0) (N (13 + 7 * m + 0) + sh)) (13 + 7 * m + 6) (N (13 + 7 * m + 6) + 1)) (13 + 7 * m + 2) 0) (13 + 7 * m + 3) 0) (13 + 7 * m + 4) 0) (sh * nI (cB S (m + 1))) 7 = adj N (sh * nI (cB S m)) 7 - nI sn := by
          rw [hx]
          unfold adj
          simp (disch := omega) only [upd_s, upd_n]
          grind
        have hB := Bd_win (M' := adj (upd (upd (upd (upd (upd N (13 + 7 * m + 0) (N (13 + 7 * m + 0) + sh)) (13 + 7 * m + 6) (N (13 + 7 * m + 6) + 1)) (13 + 7 * m + 2) 0) (13 + 7 * m + 3) 0) (13 + 7 * m + 4) 0) (sh * nI (cB S (m + 1)))) hc G.2.1 (show m < c by omega) (by omega) B (by unfold adj; simp (disch := omega) only [upd_s, upd_n]) h7 (by omega) (by omega) h7' (by unfold adj; simp (disch := omega) only [upd_s, upd_n]; rw [hsn]) (by unfold adj; simp (disch := omega) only [upd_s, upd_n]) (fun j hj hjm => ⟨by unfold adj; simp (disch := omega) only [upd_s, upd_n], by unfold adj; simp (disch := omega) only [upd_s, upd_n]⟩)
        rw [show K + (k + 1) = K + 1 + k by omega]
        refine h5 (K + 1) t0 sn (by omega) ht hsn hle ?_ hB
        rw [h7', h7, nI_sub (by omega), hstep, hb, Nat.mul_succ, Nat.sub_sub]
      · rw [hb, if_pos (show nI 1 = 1 from rfl), x0_payW hm6, bS, x0_clr hm6, bS, h1]
      · rw [hb, if_pos (show nI 1 = 1 from rfl), x8_of0 hm6, bS, x8_sets0 hm6, bS, x8_of6 hm6, bS, x8_sets6 hm6, bS, x8_sets2 hm6, bS, x8_sets3 hm6, bS, x8_sets4 hm6, bS, upd_n (show 13 + 7 * m + 6 ≠ 13 + 7 * m + 0 by omega), h2]
    · have hb0 : S / 2 ^ m % 2 = 0 := by omega
      have hx : sh * nI (cB S (m + 1)) = sh * nI (cB S m) := by rw [hstep, hb0]; rfl
      rw [← hx] at G hR
      obtain ⟨G2, R2⟩ := rd_clr G hR (show m < c by omega)
      obtain ⟨R', N', h1, h2, h3, h4, h5⟩ := rd_loop hS hc k (m + 1) n _ _ (by omega) (by omega) G2 R2
      refine ⟨R', N', ?_, ?_, h3, h4, fun K t0 sn hK ht hsn hle h7 B => ?_⟩
      rotate_left 2
      · rw [← hx] at h7 B
        refine Bd_mono (show K + k ≤ K + (k + 1) by omega) (h5 K t0 sn (by omega) ht hsn hle ?_ (Bd_eq B ?_ ?_ (fun j hj => ⟨?_, ?_⟩)))
        · refine Eq.trans ?_ (h7.trans (by rw [show cB S (m + 1) = cB S m by rw [hstep, hb0, Nat.add_zero]]))
          unfold adj
          simp (disch := omega) only [upd_s, upd_n]
        all_goals
          unfold adj
          simp (disch := omega) only [upd_s, upd_n]
      · rw [hb0, if_neg (show ¬ nI 0 = 1 by decide), x0_clr hm6, bS, h1]
      · rw [hb0, if_neg (show ¬ nI 0 = 1 by decide), x8_sets2 hm6, bS, x8_sets3 hm6, bS, x8_sets4 hm6, bS, h2]
theorem st_read {R N : Nat → Int32} {mR mD mJ mA : Int32} (H : PR R N) : Step R N mR mD mJ mA (f_X6_readNeedles R 0 0) (f_X8_reads mR mD mJ mA N) := by
  obtain ⟨c, G, hR⟩ := H
  have r1 := hR.1
  have hc := G.1
  obtain ⟨P, p1, p2, p3⟩ := G.2.2.1
  have hW := cW_le (N := N) c
  by_cases e : cW N c = 0
  · refine Step.no (b := 0) (why := 14) (more := N 7) (by decide) ?_ ?_
    · rw [f_X6_readNeedles, x0_wNA G hR, bS, e, if_pos nI_0, x0_get7, bS, f_X6_refuse, bS, r1 7 (by decide)]
    · rw [f_X8_reads, x8_wNA G, bS, e, if_pos nI_0, f_X8_refuses, bS, cT j0, cl7]
  · have ne : ¬ nI (cW N c) = 0 := nI_ne0 (by omega) (by omega)
    have hS := (wst_inv G.2.2.2.2 p1 p2 c (Nat.le_refl c)).1
    have hS6 := wst_64 G p1 p2
    have h6 := cB_6 _ hS6
    have ex : shI N (wst N P c).1 * nI (cB (wst N P c).1 0) = 0 := by rw [show nI (cB (wst N P c).1 0) = 0 from rfl]; grind
    obtain ⟨R', N', h1, h2, h3, h4, h5⟩ := rd_loop (S := (wst N P c).1) (sh := shI N (wst N P c).1) (a := mR) (b := mD) (e := mJ) (f := mA) hS hc c 0 FU R N (by omega) (by rw [FU]; omega) (by rw [adj_0 ex]; exact G) (by rw [adj_0 ex]; exact hR)
    refine Step.yes (ha := fun _ _ _ => neg1001 (Nat.lt_trans h6 (by decide))) (a := nI (cB (wst N P c).1 6)) (R' := R') (N' := N') ?_ ?_ ⟨c, h3, h4⟩ ?_
    rotate_left 2
    · intro K hK B
      obtain ⟨t, b1, b2, b3⟩ := B c hc G.2.1
      have e7 : adj N (shI N (wst N P c).1 * nI (cB (wst N P c).1 0)) = N := adj_0 ex
      by_cases e0 : cB (wst N P c).1 6 = 0
      · refine Bd_mono (show K + c ≤ K + 50 by omega) (h5 K t 0 (by omega) (by omega) (by rw [shI, if_pos e0]; rfl) (by omega) ?_ (by rw [e7]; exact B))
        rw [e7, b1, Nat.zero_mul, Nat.sub_zero]
      · refine Bd_mono (show K + c ≤ K + 50 by omega) (h5 K t (t / cB (wst N P c).1 6) (by omega) (by omega) (by rw [shI, if_neg e0, b1, pk_div (by omega) (by omega) (by omega)]) (Nat.div_mul_le_self _ _) ?_ (by rw [e7]; exact B))
        rw [e7, b1, show cB (wst N P c).1 0 = 0 from rfl, Nat.mul_zero, Nat.sub_zero]
    · rw [f_X6_readNeedles, x0_wNA G hR, bS, if_neg ne, x0_get1, bS, r1 1 (by decide), p3, x0_near G hR p1 p2, bS, x0_share hR hS6, bS]
      exact h1
    · rw [f_X8_reads, x8_wNA G, bS, if_neg ne, cl1, p3, x8_near G p1 p2, bS, bc_eq _ hS6, bS, cl7]
      rw [shI] at h2
      by_cases e0 : cB (wst N P c).1 6 = 0
      · rw [if_pos e0] at h2
        rw [if_pos (show nI (cB (wst N P c).1 6) = 0 by rw [e0]; rfl)]
        exact h2
      · rw [if_neg e0] at h2
        rw [if_neg (nI_ne0 (by omega) (by omega)), cT (nz_n e0 (by omega))]
        exact h2

