/-! ===== p41, pure: 'makes' ===== -/
theorem OutC.yes {K : Nat} {xR xD xC : Int32} {row N : Nat → Int32} {kN kK : Int32} {l : List (Nat → Int32)} {x : Option T4} {y : Option T6} {v : T10} {a : Int32} {R' : Nat → Int32} (H : OutC K xR xD xC row N kN kK l x y v) (hx : x = some (a, R', 0, 0)) :
    ∃ N' kN' kK' kF', v = (a, xR, xD, xC, R', 0, 0, kN', kK', kF') ∧ ¬ a = -1001 ∧ PB (K + 50) R' N' ∧ HL (K + 50) kN' kK' kF' ((N :: l).take 8) := by
  rcases H with ⟨a', R2, N', kN', kK', kF', h1, h2, -, h4, h5, h6⟩ | ⟨b', why', more', kF', -, hw, h3, -⟩
  · rw [hx] at h2
    injection h2 with h2
    injection h2 with e1 h2
    injection h2 with e2 _
    subst e1
    subst e2
    exact ⟨N', kN', kK', kF', h1, h4, h5, h6⟩
  · rw [hx] at h3
    injection h3 with h3
    injection h3 with _ h3
    injection h3 with _ h3
    injection h3 with e _
    exact absurd e.symm hw
theorem pig : ∀ (n : Nat) (f : Nat → Nat), (∀ i, i < n + 1 → f i < n) → ∃ i j, i < j ∧ j < n + 1 ∧ f i = f j
  | 0, f, h => absurd (h 0 (by omega)) (Nat.not_lt_zero _)
  | n + 1, f, h => by
    by_cases q : ∃ i, i < n + 1 ∧ f i = f (n + 1)
    · obtain ⟨i, h1, h2⟩ := q
      exact ⟨i, n + 1, h1, by omega, h2⟩
    · have q' : ∀ i, i < n + 1 → ¬ f i = f (n + 1) := fun i hi e => q ⟨i, hi, e⟩
      obtain ⟨i, j, h1, h2, h3⟩ := pig n (fun i => if f i = n then f (n + 1) else f i) (fun i hi => by
        have a1 := h i (by omega)
        have a2 := h (n + 1) (by omega)
        have a3 := q' i hi
        show (if f i = n then f (n + 1) else f i) < n
        split <;> omega)
      refine ⟨i, j, h1, by omega, ?_⟩
      have h3 : (if f i = n then f (n + 1) else f i) = (if f j = n then f (n + 1) else f j) := h3
      have a1 := q' i (by omega)
      have a2 := q' j (by omega)
      split at h3 <;> split at h3 <;> omega
/-- members with heights of their own, coins enough, the later ones without a wager -/
def MI (R : Nat → Int32) (c k b : Nat) : Prop := (∀ i j, i < c → j < c → R (13 + 7 * i + 1) = R (13 + 7 * j + 1) → i = j) ∧ ∀ i, i < c → ∃ a, a < 2 ^ 30 ∧ R (13 + 7 * i + 0) = nI a ∧ b ≤ a ∧ (k ≤ i → 50 ≤ a ∧ R (13 + 7 * i + 3) = 0)
def MS (c k b t : Nat) (row : Nat → Int32) (kN kK : Int32) (kF : Nat → Int32) : Prop := ∃ N l, PB (50 * t) row N ∧ Good N c ∧ HL (50 * t) kN kK kF l ∧ MI row c k b
theorem MI.hd {R N : Nat → Int32} {c k b : Nat} (hR : Rel R N c) (H : MI R c k b) : Hd N c := fun i j hi hj e => H.1 i j hi hj (by rw [hR.2.1 i hi 1 (by decide) (by decide), hR.2.1 j hj 1 (by decide) (by decide)]; exact e)
theorem MI.same {R R' : Nat → Int32} {c k b : Nat} (h : ∀ i, 13 ≤ i → R' i = R i) (H : MI R c k b) : MI R' c k b :=
  ⟨fun i j hi hj e => H.1 i j hi hj (by rw [h _ (by omega), h _ (by omega)] at e; exact e), fun i hi => by
    obtain ⟨a, h1, h2, h3, h4⟩ := H.2 i hi
    exact ⟨a, h1, (h _ (by omega)).trans h2, h3, fun q => ⟨(h4 q).1, (h _ (by omega)).trans (h4 q).2⟩⟩⟩
theorem MS.up {c k b t : Nat} {row : Nat → Int32} {kN kK : Int32} {kF : Nat → Int32} (H : MS c k b t row kN kK kF) : MS c k b (t + 1) row kN kK kF := by
  obtain ⟨N, l, h1, h2, h3, h4⟩ := H
  exact ⟨N, l, h1.mono (by omega), h2, h3.mono (by omega), h4⟩
theorem own_none {R N : Nat → Int32} {c h i : Nat} (G : Good N c) (hR : Rel R N c) (hd : Hd N c) (ho : f_X0_ownerOf R (nI h) = some (-1, ())) (hi : i < c) : ¬ R (13 + 7 * i + 1) = nI h := fun e => by
  have hc := G.1
  have e2 := own_m G hR hi ((hR.2.1 i hi 1 (by decide) (by decide)).symm.trans e) hd
  rw [ho] at e2
  injection e2 with e2
  injection e2 with e2 _
  exact neg1 (show i < 2 ^ 31 by omega) e2.symm
theorem s_enter {R : Nat → Int32} {c h : Nat} (h0 : R 0 = nI c) (hc : c < 6) (h9 : h < 10) (ho : f_X0_ownerOf R (nI h) = some (-1, ())) :
    f_X6_enter R 0 0 (nI h) = some (nI c, upd (upd (upd (upd (upd (upd (upd (upd (upd R (13 + 7 * c + 0) 50) (13 + 7 * c + 1) (nI h)) (13 + 7 * c + 5) 0) (13 + 7 * c + 6) 0) (13 + 7 * c + 2) (-1)) (13 + 7 * c + 3) 0) (13 + 7 * c + 4) 0) 11 (R 11 + 50)) 0 (nI c + 1), 0, 0) := by
  have hf : f_X0_isFree R (nI h) = some (1, ()) := by
    rw [f_X0_isFree, isH_eq, inH h9, bS, if_neg (by decide), ho, bS, if_pos rfl]
  rw [f_X6_enter, isH_eq, inH h9, bS, if_neg (by decide), x0_get0, bS, h0, if_pos (show nI c < 6 from nI_lt (b := 6) hc (by decide)), hf, bS, if_neg (by decide), x0_enroll h0 hc, bS]
theorem good_c {K c c' : Nat} {R N : Nat → Int32} (H : PB K R N) (h : R 0 = nI c) (hc : c ≤ 6) : Good N c := by
  obtain ⟨⟨c', G, hR⟩, -⟩ := H
  have h1 := G.1
  have e := (nI_eq (by omega) (by omega)).mp ((r0_of G hR).symm.trans h)
  subst e
  exact G
theorem k50 {t : Nat} (h : t < 100) : 50 * t < 2 ^ 29 := by omega
theorem mk_j {m h t : Nat} {row kF : Nat → Int32} {xR xD xC rR rD kN kK : Int32} (hm : m < 6) (h9 : h < 10) (ht : t < 100) (H : MS m 0 41 t row kN kK kF) (ho : f_X0_ownerOf row (nI h) = some (-1, ())) :
    Rn (f_L_join xR xD xC row rR rD kN kK kF (nI h)) (fun v => v.1 = nI m ∧ MS (m + 1) 0 41 (t + 1) v.2.2.2.2.1 v.2.2.2.2.2.2.2.1 v.2.2.2.2.2.2.2.2.1 v.2.2.2.2.2.2.2.2.2) := by
  obtain ⟨N, l, HP, G, HH, HM⟩ := H
  have hR := HP.rel G
  have hd := HM.hd hR
  refine (w_join (k50 ht) HH HP).mono (fun v hv => ?_)
  obtain ⟨N', kN', kK', kF', rfl, -, h2, h3⟩ := hv.yes (s_enter (r0_of G hR) hm h9 ho)
  refine ⟨rfl, N', _, h2, good_c (c' := 0) h2 ?_ (by omega), h3, fun i j hi hj e => ?_, fun i hi => ?_⟩
  · show upd _ 0 (nI m + 1) 0 = nI (m + 1)
    rw [upd_s, nI_1]
  · simp (disch := omega) only [upd_n] at e
    by_cases e1 : i = m
    · by_cases e2 : j = m
      · rw [e1, e2]
      · subst e1
        simp (disch := omega) only [upd_s, upd_n] at e
        exact absurd e.symm (own_none G hR hd ho (show j < i by omega))
    · by_cases e2 : j = m
      · subst e2
        simp (disch := omega) only [upd_s, upd_n] at e
        exact absurd e (own_none G hR hd ho (show i < j by omega))
      · simp (disch := omega) only [upd_n] at e
        exact HM.1 i j (by omega) (by omega) e
  · by_cases e1 : i = m
    · subst e1
      refine ⟨50, by decide, ?_, by decide, fun _ => ⟨Nat.le_refl _, ?_⟩⟩
      · simp (disch := omega) only [upd_s, upd_n]
        rfl
      · simp (disch := omega) only [upd_s, upd_n]
    · obtain ⟨a, a1, a2, a3, a4⟩ := HM.2 i (by omega)
      refine ⟨a, a1, ?_, a3, fun q => ⟨(a4 q).1, ?_⟩⟩
      · simp (disch := omega) only [upd_n]
        exact a2
      · simp (disch := omega) only [upd_n]
        exact (a4 q).2
theorem day_c {R : Nat → Int32} {p : Int32} (h1 : ¬ p < -40) (h2 : ¬ 40 < p) : (∃ a R', f_X6_passDay R 0 0 p = some (a, R', 0, 0) ∧ ¬ a < 900 ∧ R' 0 = R 0 ∧ ∀ i, 13 ≤ i → R' i = R i) ∨ f_X6_passDay R 0 0 p = some (0, R, 13, R 1 + p) := by
  by_cases hq : R 1 + p < 900 ∨ 1100 < R 1 + p
  · exact Or.inr (e_da13 h1 h2 hq)
  · refine Or.inl ?_
    have hin := x8_inY (p := R 1 + p) (a := 900) (b := 1100) (fun e => hq (Or.inl e)) (fun e => hq (Or.inr e))
    by_cases hst : (-20 : Int32) < p
    · have e : f_X6_passDay R 0 0 p = some (R 1 + p, upd (upd (upd (upd R 1 (R 1 + p)) 2 p) 3 0) 4 (upd (upd (upd R 1 (R 1 + p)) 2 p) 3 0 4 + 1), 0, 0) := by
        rw [f_X6_passDay, isCh_eq, x8_inY h1 h2, bS, if_neg (by decide), x0_get1, bS, isP_eq, hin, bS, if_neg (by decide), f_X0_changePressure, x0_add1, bS, x0_set2, bS, x0_set3, bS, bS, x0_add4, bS, if_pos hst]
      exact ⟨_, _, e, fun q => hq (Or.inl q), rfl, fun i hi => by simp (disch := omega) only [upd_n]⟩
    · have e : ∃ R', f_X6_passDay R 0 0 p = some (R 1 + p, R', 0, 0) ∧ R' = upd (upd (upd (upd (upd (upd R 1 (R 1 + p)) 2 p) 3 0) 4 (upd (upd (upd R 1 (R 1 + p)) 2 p) 3 0 4 + 1)) 3 1) 5 (upd (upd (upd (upd (upd R 1 (R 1 + p)) 2 p) 3 0) 4 (upd (upd (upd R 1 (R 1 + p)) 2 p) 3 0 4 + 1)) 3 1 5 + 1) := by
        refine ⟨_, ?_, rfl⟩
        rw [f_X6_passDay, isCh_eq, x8_inY h1 h2, bS, if_neg (by decide), x0_get1, bS, isP_eq, hin, bS, if_neg (by decide), f_X0_changePressure, x0_add1, bS, x0_set2, bS, x0_set3, bS, bS, x0_add4, bS, if_neg hst, x0_set3, bS, x0_add5, bS]
      obtain ⟨R', e1, e2⟩ := e
      refine ⟨_, _, e1, fun q => hq (Or.inl q), by rw [e2]; rfl, fun i hi => ?_⟩
      rw [e2]
      simp (disch := omega) only [upd_n]
theorem mk_d {c k b t : Nat} {row kF : Nat → Int32} {xR xD xC rR rD kN kK p : Int32} (h1 : ¬ p < -40) (h2 : ¬ 40 < p) (ht : t < 100) (H : MS c k b t row kN kK kF) :
    Rn (f_L_day xR xD xC row rR rD kN kK kF p) (fun v => (¬ v.1 < 900 ∨ (v.1 = -1001 ∧ v.2.1 = 13)) ∧ MS c k b (t + 1) v.2.2.2.2.1 v.2.2.2.2.2.2.2.1 v.2.2.2.2.2.2.2.2.1 v.2.2.2.2.2.2.2.2.2) := by
  have H0 := H
  obtain ⟨N, l, HP, G, HH, HM⟩ := H
  have hc := G.1
  have hR := HP.rel G
  refine (w_day (k50 ht) HH HP).mono (fun v hv => ?_)
  rcases day_c (R := row) h1 h2 with ⟨a, R', e, e1, e2, e3⟩ | e
  · obtain ⟨N', kN', kK', kF', rfl, -, h4, h3⟩ := hv.yes e
    exact ⟨Or.inl e1, N', _, h4, good_c (c' := 0) h4 (e2.trans (r0_of G hR)) hc, h3, HM.same e3⟩
  · obtain ⟨kF', rfl, h3⟩ := hv.no e (by decide)
    exact ⟨Or.inr ⟨rfl, rfl⟩, N, l, HP.mono (by omega), G, h3.mono (by omega), HM⟩
theorem s_bet {R N : Nat → Int32} {c m s : Nat} {q : Int32} (G : Good N c) (hR : Rel R N c) (hm : m < c) (h1 : ¬ q < 700) (h2 : ¬ 1100 < q) (s1 : 1 ≤ s) (s2 : s ≤ 9) (hw : R (13 + 7 * m + 3) = 0) (hk : nI s ≤ R (13 + 7 * m + 0)) :
    f_X6_bet R 0 0 (nI m) q (nI s) = some (R 7 + nI s, upd (upd (upd (upd R (13 + 7 * m + 0) (R (13 + 7 * m + 0) + -(nI s))) 7 (R 7 + nI s)) (13 + 7 * m + 2) q) (13 + 7 * m + 3) (nI s), 0, 0) := by
  have hc := G.1
  have hm6 : m < 6 := by omega
  have e3 : N (13 + 7 * m + 3) = 0 := (hR.2.1 m hm 3 (by decide) (by decide)).symm.trans hw
  have hwg : wg N m = 0 := by rw [wg, e3, if_pos (by decide)]
  rw [f_X6_bet, x0_isM (r0_of G hR) hc hm, bS, if_neg (by decide), if_neg h1, if_neg h2, if_neg (show ¬ nI s < 1 from nI_nlt (b := 1) s1 (by omega)), if_pos (show nI s ≤ 9 from nI_le (b := 9) s2 (by decide)), x0_wg hR hm hc (G.2.2.2.2 m hm), hwg, bS, if_pos rfl, x0_of0 hm6, bS, if_pos hk, x0_pay hm6, bS, x0_setOf2 hm6, bS, x0_setOf3 hm6, bS, x0_get7, bS]
  simp (disch := omega) only [upd_s, upd_n]
theorem mk_w {c k t s : Nat} {row kF : Nat → Int32} {xR xD xC rR rD kN kK q : Int32} (hk : k < c) (s1 : 1 ≤ s) (s2 : s ≤ 9) (ht : t < 100) (H : MS c k 41 t row kN kK kF) :
    Rn (f_L_wager xR xD xC row rR rD kN kK kF (nI k) q (nI s)) (fun v => (1 ≤ v.1 ∨ (v.1 = -1001 ∧ v.2.1 = 1 ∧ v.2.2.1 = 0 ∧ v.2.2.2.1 = 0)) ∧ MS c (k + 1) 41 (t + 1) v.2.2.2.2.1 v.2.2.2.2.2.2.2.1 v.2.2.2.2.2.2.2.2.1 v.2.2.2.2.2.2.2.2.2) := by
  obtain ⟨N, l, HP, G, HH, HM⟩ := H
  have hc := G.1
  have hR := HP.rel G
  have weak : MI row c (k + 1) 41 := ⟨HM.1, fun i hi => by
    obtain ⟨a, a1, a2, a3, a4⟩ := HM.2 i hi
    exact ⟨a, a1, a2, a3, fun z => a4 (by omega)⟩⟩
  refine (w_wager (k50 ht) HH HP).mono (fun v hv => ?_)
  by_cases hq : q < 700 ∨ 1100 < q
  · obtain ⟨kF', rfl, h3⟩ := hv.no (e_be1 G hR hk (hq.elim Or.inl (fun z => Or.inr (Or.inl z)))) (by decide)
    exact ⟨Or.inr ⟨rfl, rfl, rfl, rfl⟩, N, l, HP.mono (by omega), G, h3.mono (by omega), weak⟩
  · obtain ⟨a, a1, a2, a3, a4⟩ := HM.2 k hk
    obtain ⟨a5, a6⟩ := a4 (Nat.le_refl k)
    obtain ⟨N', kN', kK', kF', rfl, -, h4, h3⟩ := hv.yes (s_bet G hR hk (fun z => hq (Or.inl z)) (fun z => hq (Or.inr z)) s1 s2 a6 (by rw [a2]; exact nI_le (by omega) (by omega)))
    obtain ⟨T, b1, b2, -⟩ := HP.2 c hc G.2.1
    have e7 : row 7 + nI s = nI (T + s) := by rw [hR.1 7 (by decide), b1]; exact nI_add T s
    refine ⟨Or.inl ?_, N', _, h4, good_c (c' := 0) h4 ?_ hc, h3, fun i j hi hj e => ?_, fun i hi => ?_⟩
    · show (1 : Int32) ≤ row 7 + nI s
      rw [e7]
      exact nI_le (a := 1) (by omega) (by omega)
    · simp (disch := omega) only [upd_n]
      exact r0_of G hR
    · simp (disch := omega) only [upd_n] at e
      exact HM.1 i j hi hj e
    · by_cases e1 : i = k
      · subst e1
        refine ⟨a - s, by omega, ?_, by omega, fun z => absurd z (by omega)⟩
        simp (disch := omega) only [upd_s, upd_n]
        rw [a2, ← nI_sub (show s ≤ a by omega)]
        grind
      · obtain ⟨d, d1, d2, d3, d4⟩ := HM.2 i hi
        refine ⟨d, d1, ?_, d3, fun z => ⟨(d4 (by omega)).1, ?_⟩⟩
        · simp (disch := omega) only [upd_n]
          exact d2
        · simp (disch := omega) only [upd_n]
          exact (d4 (by omega)).2
theorem s_knock {R N : Nat → Int32} {c m : Nat} (G : Good N c) (hR : Rel R N c) (hm : m < c) (hk : 1 ≤ R (13 + 7 * m + 0)) :
    f_X6_knock R 0 0 (nI m) = some (0, R, 8, 0) ∨ (∃ d, f_X6_knock R 0 0 (nI m) = some (0, R, 9, d)) ∨ ∃ a, f_X6_knock R 0 0 (nI m) = some (a, upd (upd (upd (upd R (13 + 7 * m + 0) (R (13 + 7 * m + 0) + -1)) 7 (R 7 + 1)) 10 (R 10 + 1)) (13 + 7 * m + 4) 1, 0, 0) := by
  have hc := G.1
  have hm6 : m < 6 := by omega
  by_cases hw : N (13 + 7 * m + 3) ≤ 0
  · exact Or.inl (e_kn8 G hR hm hw)
  by_cases ht : N (13 + 7 * m + 4) = 1
  · exact Or.inr (Or.inl ⟨_, e_kn9 G hR hm ht⟩)
  · refine Or.inr (Or.inr ⟨sgn (R 2), ?_⟩)
    have hwg : wg N m = 1 := by rw [wg, if_neg hw]
    have htp : tp N m = 0 := by rw [tp, if_neg ht]
    rw [f_X6_knock, x0_isM (r0_of G hR) hc hm, bS, if_neg (by decide), x0_wg hR hm hc (G.2.2.2.2 m hm), hwg, bS, if_neg (by decide), x0_tp hR hm hc, htp, bS, if_pos rfl, x0_of0 hm6, bS, if_pos hk, x0_pay hm6, bS, x0_add10, bS, x0_setOf4 hm6, bS, x0_get2, bS, signOf_eq, bS]
    simp (disch := omega) only [upd_s, upd_n]
theorem mk_t {c m b t : Nat} {row kF : Nat → Int32} {xR xD xC rR rD kN kK : Int32} (hm : m < c) (ht : t < 100) (H : MS c c (b + 1) t row kN kK kF) :
    Rn (f_L_tap xR xD xC row rR rD kN kK kF (nI m)) (fun v => (¬ v.1 = -1001 ∨ (v.1 = -1001 ∧ (v.2.1 = 8 ∨ v.2.1 = 9))) ∧ MS c c b (t + 1) v.2.2.2.2.1 v.2.2.2.2.2.2.2.1 v.2.2.2.2.2.2.2.2.1 v.2.2.2.2.2.2.2.2.2) := by
  obtain ⟨N, l, HP, G, HH, HM⟩ := H
  have hc := G.1
  have hR := HP.rel G
  have weak : MI row c c b := ⟨HM.1, fun i hi => by
    obtain ⟨a, a1, a2, a3, a4⟩ := HM.2 i hi
    exact ⟨a, a1, a2, by omega, a4⟩⟩
  obtain ⟨a, a1, a2, a3, a4⟩ := HM.2 m hm
  refine (w_tap (k50 ht) HH HP).mono (fun v hv => ?_)
  rcases s_knock G hR hm (by rw [a2]; exact nI_le (a := 1) (by omega) (by omega)) with e | ⟨d, e⟩ | ⟨d, e⟩
  · obtain ⟨kF', rfl, h3⟩ := hv.no e (by decide)
    exact ⟨Or.inr ⟨rfl, Or.inl rfl⟩, N, l, HP.mono (by omega), G, h3.mono (by omega), weak⟩
  · obtain ⟨kF', rfl, h3⟩ := hv.no e (by decide)
    exact ⟨Or.inr ⟨rfl, Or.inr rfl⟩, N, l, HP.mono (by omega), G, h3.mono (by omega), weak⟩
  · obtain ⟨N', kN', kK', kF', rfl, h1, h4, h3⟩ := hv.yes e
    refine ⟨Or.inl h1, N', _, h4, good_c (c' := 0) h4 ?_ hc, h3, fun i j hi hj e => ?_, fun i hi => ?_⟩
    · simp (disch := omega) only [upd_n]
      exact r0_of G hR
    · simp (disch := omega) only [upd_n] at e
      exact HM.1 i j hi hj e
    · by_cases e1 : i = m
      · subst e1
        refine ⟨a - 1, by omega, ?_, by omega, fun z => absurd z (by omega)⟩
        simp (disch := omega) only [upd_s, upd_n]
        have e := pk_m1 (a - 1)
        rw [show a - 1 + 1 = a by omega] at e
        rw [a2]
        exact e
      · obtain ⟨d', d1, d2, d3, d4⟩ := HM.2 i hi
        refine ⟨d', d1, ?_, by omega, fun z => absurd z (by omega)⟩
        simp (disch := omega) only [upd_n]
        exact d2
/-! the script -/
theorem at_ok {L k : Nat} {xs : Nat → Int32} {p : Int32} (hp : p = nI k) (hL : L < 2 ^ 31) (hk : k < 2 ^ 31) : ∃ v, f_L_at L xs p = some (v, ()) := by
  subst hp
  rw [f_L_at]
  by_cases h : L ≤ k
  · exact ⟨0, by rw [if_pos (show Int32.ofNat L ≤ nI k from nI_le h hk)]⟩
  · exact ⟨xs (nI k).toNatClampNeg, by rw [if_neg (show ¬ Int32.ofNat L ≤ nI k from nI_ge (by omega) hL), cT (inB_n (by omega) hL)]⟩
/-! a free height -/
theorem ow_l {R N : Nat → Int32} {c m : Nat} {h : Int32} (G : Good N c) (hR : Rel R N c) : ∀ k i n, i + k = c → k < n → f_X0_ownerOf_L2 R h n (nI i) = some (nI m, ()) → m < c → R (13 + 7 * m + 1) = h
  | k, i, 0, _, hn, _, _ => absurd hn (Nat.not_lt_zero k)
  | 0, i, n + 1, hk, _, e, hm => by
    have hc := G.1
    rw [f_X0_ownerOf_L2, cl0, r0_of G hR, if_pos (nI_le (show c ≤ i by omega) (by omega))] at e
    injection e with e
    injection e with e _
    exact absurd e.symm (neg1 (by omega))
  | k + 1, i, n + 1, hk, hn, e, hm => by
    have hc := G.1
    have hi : i < c := by omega
    rw [f_X0_ownerOf_L2, cl0, r0_of G hR, if_neg (nI_ge hi (by omega)), x0_of1 (by omega), bS] at e
    by_cases q : R (13 + 7 * i + 1) = h
    · rw [if_pos q] at e
      injection e with e
      injection e with e _
      have e := (nI_eq (by omega) (by omega)).mp e
      subst e
      exact q
    · rw [if_neg q, nI_1] at e
      exact ow_l G hR k (i + 1) n (by omega) (by omega) e hm
theorem ow_at {R N : Nat → Int32} {c m h : Nat} (G : Good N c) (hR : Rel R N c) (hm : m < c) (e : f_X0_ownerOf R (nI h) = some (nI m, ())) : R (13 + 7 * m + 1) = nI h :=
  ow_l G hR c 0 FU (by omega) (by have := G.1; rw [FU]; omega) e hm
theorem fr_ex {R N : Nat → Int32} {c : Nat} (G : Good N c) (hR : Rel R N c) : ∃ h, h < 10 ∧ f_X0_ownerOf R (nI h) = some (-1, ()) := by
  by_cases q : ∃ h, h < 10 ∧ f_X0_ownerOf R (nI h) = some (-1, ())
  · exact q
  · exfalso
    have hc := G.1
    have ex : ∀ h, h < 10 → ∃ m, m < c ∧ f_X0_ownerOf R (nI h) = some (nI m, ()) := fun h h9 => by
      obtain ⟨v, v1, -, v3⟩ := own_both (h := nI h) G.2.1 hc hR
      rcases v3 with rfl | ⟨j, hj, rfl⟩
      · exact absurd ⟨h, h9, v1⟩ q
      · exact ⟨j, hj, v1⟩
    obtain ⟨i, j, h1, h2, h3⟩ := pig 9 (fun h => if hh : h < 10 then (ex h hh).choose else 0) (fun i hi => by
      show (if hh : i < 10 then (ex i hh).choose else 0) < 9
      rw [dif_pos (show i < 10 by omega)]
      have := (ex i (by omega)).choose_spec.1
      omega)
    have h3 : (if hh : i < 10 then (ex i hh).choose else 0) = (if hh : j < 10 then (ex j hh).choose else 0) := h3
    rw [dif_pos (show i < 10 by omega), dif_pos (show j < 10 by omega)] at h3
    have s1 := ow_at G hR (ex i (by omega)).choose_spec.1 (ex i (by omega)).choose_spec.2
    have s2 := ow_at G hR (ex j (by omega)).choose_spec.1 (ex j (by omega)).choose_spec.2
    rw [h3] at s1
    have := (nI_eq (by omega) (by omega)).mp (s1.symm.trans s2)
    omega
theorem mod10 {a : Nat} (h : a < 10) : (nI a + 1) - (nI a + 1) / (10 : Int32) * (10 : Int32) = nI ((a + 1) % 10) := by
  rw [nI_1]
  exact pk_rem (d := 10) (by omega) (by decide) (by decide)
theorem fr_l {R N : Nat → Int32} {c h : Nat} (G : Good N c) (hR : Rel R N c) (h9 : h < 10) (ho : f_X0_ownerOf R (nI h) = some (-1, ())) : ∀ k a n, a < 10 → (a + k) % 10 = h → k < n → ∃ g, g < 10 ∧ f_L_makes_L33 R n (nI a) = some (nI g) ∧ f_X0_ownerOf R (nI g) = some (-1, ())
  | k, a, 0, _, _, hn => absurd hn (Nat.not_lt_zero k)
  | k, a, n + 1, ha, hk, hn => by
    have hc := G.1
    obtain ⟨v, v1, -, v3⟩ := own_both (h := nI a) G.2.1 hc hR
    rcases v3 with rfl | ⟨j, hj, rfl⟩
    · refine ⟨a, ha, ?_, v1⟩
      have e : f_L_owner R (nI a) = some (-1002, ()) := by
        rw [f_L_owner, f_X7_owner, isH_eq, inH ha, bS, if_neg (by decide), v1, bS, if_pos rfl, bS, if_neg (by decide), if_neg (by decide), if_pos rfl]
      rw [f_L_makes_L33, e, bS, if_pos (by decide)]
    · have e : f_L_owner R (nI a) = some (nI j, ()) := by
        rw [f_L_owner, f_X7_owner, isH_eq, inH ha, bS, if_neg (by decide), v1, bS, if_neg (neg1 (by omega)), bS, if_pos rfl]
      rcases k with _ | k
      · have eh : a = h := by omega
        subst eh
        rw [ho] at v1
        injection v1 with v1
        injection v1 with v1 _
        exact absurd v1.symm (neg1 (by omega))
      · obtain ⟨g, g1, g2, g3⟩ := fr_l G hR h9 ho k ((a + 1) % 10) n (Nat.mod_lt _ (by decide)) (by omega) (by omega)
        refine ⟨g, g1, ?_, g3⟩
        rw [f_L_makes_L33, e, bS, if_neg (nI_pos (by omega)), mod10 ha]
        exact g2
theorem fr_ok {R N : Nat → Int32} {c a : Nat} (G : Good N c) (hR : Rel R N c) (ha : a < 10) : ∃ g, g < 10 ∧ f_L_makes_L33 R 11 (nI a) = some (nI g) ∧ f_X0_ownerOf R (nI g) = some (-1, ()) := by
  obtain ⟨h, h9, ho⟩ := fr_ex G hR
  exact fr_l G hR h9 ho ((h + 10 - a) % 10) a 11 ha (by omega) (by omega)
/-! the loops of 'makes', the last one first -/
def MQ10 (v : T10) : Prop := v.1 = 1 ∧ ∃ c t, 2 ≤ c ∧ t ≤ 18 ∧ MS c c 39 t v.2.2.2.2.1 v.2.2.2.2.2.2.2.1 v.2.2.2.2.2.2.2.2.1 v.2.2.2.2.2.2.2.2.2
theorem mk_219 {L c : Nat} {xs : Nat → Int32} (hL : L < 2 ^ 31) (hc2 : 2 ≤ c) (hc6 : c ≤ 6) : ∀ k i n t row kF xR xD xC rR rD kN kK, i + k = 2 → k < n → t ≤ 16 + i → MS c c (39 + k) t row kN kK kF → Rn (f_L_makes_L219 L xs (nI c) n (nI i) xR xD xC row rR rD kN kK kF) MQ10
  | k, i, 0, _, _, _, _, _, _, _, _, _, _, _, hn, _, _ => absurd hn (Nat.not_lt_zero k)
  | 0, i, n + 1, t, row, kF, xR, xD, xC, rR, rD, kN, kK, hk, _, ht, H => by
    rw [f_L_makes_L219]
    refine Rn.y (show (2 : Int32) ≤ nI i from nI_le (a := 2) (by omega) (by omega)) ?_
    exact Rn.s ⟨rfl, c, t, hc2, by omega, H⟩
  | k + 1, i, n + 1, t, row, kF, xR, xD, xC, rR, rD, kN, kK, hk, hn, ht, H => by
    obtain ⟨w, e1⟩ := at_ok (L := L) (xs := xs) (p := (17 : Int32) + nI i) (nI_add 17 i) hL (by omega)
    obtain ⟨m, hm, e2⟩ := some_ok (x := w) (y := nI c) (n := c) rfl (by omega) (by omega)
    rw [f_L_makes_L219]
    refine Rn.n (show ¬ (2 : Int32) ≤ nI i from nI_ge (b := 2) (by omega) (by decide)) ?_
    refine Rn.b e1 ?_
    refine Rn.b e2 ?_
    refine Rn.bb (mk_t (b := 39 + k) hm (by omega) H) fun v hv => ?_
    obtain ⟨h1, h2⟩ := hv
    have h242 : f_L_makes_L242 v.1 v.2.1 v.2.2.1 v.2.2.2.1 1 = some () := by
      rw [f_L_makes_L242]
      rcases h1 with h1 | ⟨h1, h8 | h9⟩
      · rw [if_neg h1]
      · rw [if_pos h1, h8, rs0 (by decide), bS, if_pos rfl]
      · rw [if_pos h1, h9, rs0 (by decide), bS, if_neg (by decide), bS, if_pos rfl]
    refine Rn.b h242 ?_
    rw [nI_1]
    exact mk_219 hL hc2 hc6 k (i + 1) n (t + 1) _ _ _ _ _ _ _ _ _ (by omega) (by omega) (by omega) h2
theorem mk_152 {c m t : Nat} {row kF : Nat → Int32} {xR xD xC rR rD kN kK z : Int32} (hm : m < c) (ht : t < 100) (H : MS c m 41 t row kN kK kF) :
    Rn (f_L_makes_L152 (nI m) z 1 xR xD xC row rR rD kN kK kF) (fun v => MS c (m + 1) 41 (t + 1) v.2.2.2.1 v.2.2.2.2.2.2.1 v.2.2.2.2.2.2.2.1 v.2.2.2.2.2.2.2.2) := by
  have H0 := H
  obtain ⟨N, l, HP, G, HH, HM⟩ := H
  have hc := G.1
  obtain ⟨j, hj, e1⟩ := some_ok (x := z) (y := 4) (n := 4) rfl (by decide) (by decide)
  rw [f_L_makes_L152]
  refine Rn.b e1 ?_
  by_cases h0 : nI j = 0
  · refine Rn.y h0 (Rn.s ⟨N, l, HP.mono (by omega), G, HH.mono (by omega), HM.1, fun i hi => ?_⟩)
    obtain ⟨a, a1, a2, a3, a4⟩ := HM.2 i hi
    exact ⟨a, a1, a2, a3, fun q => a4 (by omega)⟩
  · obtain ⟨d, hd, e2⟩ := some_ok (x := z >>> ((2 : Int32) &&& 31)) (y := 30) (n := 30) rfl (by decide) (by decide)
    obtain ⟨s, hs, e3⟩ := some_ok (x := z >>> ((8 : Int32) &&& 31)) (y := 9) (n := 9) rfl (by decide) (by decide)
    refine Rn.n h0 ?_
    refine Rn.b (lw_bestGuess HP.1) ?_
    refine Rn.b e2 ?_
    refine Rn.b e3 ?_
    rw [show (1 : Int32) + nI s = nI (1 + s) from nI_add 1 s]
    refine Rn.bb (mk_w hm (by omega) (by omega) ht H0) fun v hv => ?_
    obtain ⟨h1, h2⟩ := hv
    by_cases h3 : 1 ≤ v.1
    · exact Rn.y h3 (Rn.s h2)
    · obtain ⟨-, b1, b2, b3⟩ := h1.resolve_left h3
      refine Rn.n h3 ?_
      rw [b1, b2, b3]
      refine Rn.b (is_y (by decide)) ?_
      exact Rn.n n10 (Rn.s h2)
theorem mk_137 {L c : Nat} {xs : Nat → Int32} (hL : L < 2 ^ 31) (hc2 : 2 ≤ c) (hc6 : c ≤ 6) : ∀ k m n t row kF xR xD xC rR rD kN kK, m + k = c → k < n → t ≤ 10 + m → MS c m 41 t row kN kK kF → Rn (f_L_makes_L137 L xs (nI c) n (nI m) xR xD xC row rR rD kN kK kF) MQ10
  | k, m, 0, _, _, _, _, _, _, _, _, _, _, _, hn, _, _ => absurd hn (Nat.not_lt_zero k)
  | 0, m, n + 1, t, row, kF, xR, xD, xC, rR, rD, kN, kK, hk, _, ht, H => by
    have e : m = c := by omega
    subst e
    rw [f_L_makes_L137]
    refine Rn.y (nI_le (Nat.le_refl m) (by omega)) ?_
    exact mk_219 hL hc2 hc6 2 0 3 t _ _ _ _ _ _ _ _ _ (by omega) (by omega) (by omega) H
  | k + 1, m, n + 1, t, row, kF, xR, xD, xC, rR, rD, kN, kK, hk, hn, ht, H => by
    obtain ⟨w, e1⟩ := at_ok (L := L) (xs := xs) (p := (11 : Int32) + nI m) (nI_add 11 m) hL (by omega)
    rw [f_L_makes_L137]
    refine Rn.n (nI_ge (show m < c by omega) (by omega)) ?_
    refine Rn.b e1 ?_
    refine Rn.bb (mk_152 (show m < c by omega) (by omega) H) fun v hv => ?_
    rw [nI_1]
    exact mk_137 hL hc2 hc6 k (m + 1) n (t + 1) _ _ _ _ _ _ _ _ _ (by omega) (by omega) (by omega) hv
theorem d40 {d : Nat} (h : d < 81) : ¬ nI d - (40 : Int32) < -40 ∧ ¬ (40 : Int32) < nI d - (40 : Int32) := by
  have e : (nI d - nI 40).toInt = (d : Int) - 40 := sub_int (a := 40) (b := d) (by decide) (by omega)
  have e : (nI d - (40 : Int32)).toInt = (d : Int) - 40 := e
  have e1 : (-40 : Int32).toInt = -40 := by decide
  have e2 : (40 : Int32).toInt = 40 := by decide
  constructor
  · intro q
    have q := Int32.lt_iff_toInt_lt.mp q
    omega
  · intro q
    have q := Int32.lt_iff_toInt_lt.mp q
    omega
theorem mk_74 {L c : Nat} {xs : Nat → Int32} (hL : L < 2 ^ 31) (hc2 : 2 ≤ c) (hc6 : c ≤ 6) : ∀ k i n t row kF xR xD xC rR rD kN kK, i + k = 4 → k < n → t ≤ 6 + i → MS c 0 41 t row kN kK kF → Rn (f_L_makes_L74 L xs (nI c) n (nI i) xR xD xC row rR rD kN kK kF) MQ10
  | k, i, 0, _, _, _, _, _, _, _, _, _, _, _, hn, _, _ => absurd hn (Nat.not_lt_zero k)
  | 0, i, n + 1, t, row, kF, xR, xD, xC, rR, rD, kN, kK, hk, _, ht, H => by
    rw [f_L_makes_L74]
    refine Rn.y (show (4 : Int32) ≤ nI i from nI_le (a := 4) (by omega) (by omega)) ?_
    exact mk_137 hL hc2 hc6 c 0 7 t _ _ _ _ _ _ _ _ _ (by omega) (by omega) (by omega) H
  | k + 1, i, n + 1, t, row, kF, xR, xD, xC, rR, rD, kN, kK, hk, hn, ht, H => by
    obtain ⟨w, e1⟩ := at_ok (L := L) (xs := xs) (p := (7 : Int32) + nI i) (nI_add 7 i) hL (by omega)
    obtain ⟨d, hd, e2⟩ := some_ok (x := w) (y := 81) (n := 81) rfl (by decide) (by decide)
    rw [f_L_makes_L74]
    refine Rn.n (show ¬ (4 : Int32) ≤ nI i from nI_ge (b := 4) (by omega) (by decide)) ?_
    refine Rn.b e1 ?_
    refine Rn.b e2 ?_
    refine Rn.bb (mk_d (d40 hd).1 (d40 hd).2 (by omega) H) fun v hv => ?_
    obtain ⟨h1, h2⟩ := hv
    have h101 : f_L_makes_L101 v.1 v.2.1 v.2.2.1 v.2.2.2.1 1 = some () := by
      rw [f_L_makes_L101]
      by_cases h9 : (900 : Int32) ≤ v.1
      · rw [if_pos h9]
      · rcases h1 with h1 | ⟨h1, h3⟩
        · exact absurd (by
            rw [Int32.lt_iff_toInt_lt] at h1
            rw [Int32.le_iff_toInt_le]
            omega) h9
        · rw [if_neg h9, if_pos h1, h3, rs0 (by decide), bS, if_pos rfl]
    refine Rn.b h101 ?_
    rw [nI_1]
    exact mk_74 hL hc2 hc6 k (i + 1) n (t + 1) _ _ _ _ _ _ _ _ _ (by omega) (by omega) (by omega) h2
theorem mk_14 {L c : Nat} {xs : Nat → Int32} (hL : L < 2 ^ 31) (hc2 : 2 ≤ c) (hc6 : c ≤ 6) : ∀ k m n t row kF xR xD xC rR rD kN kK, m + k = c → k < n → t ≤ m → MS m 0 41 t row kN kK kF → Rn (f_L_makes_L14 L xs (nI c) n (nI m) xR xD xC row rR rD kN kK kF) MQ10
  | k, m, 0, _, _, _, _, _, _, _, _, _, _, _, hn, _, _ => absurd hn (Nat.not_lt_zero k)
  | 0, m, n + 1, t, row, kF, xR, xD, xC, rR, rD, kN, kK, hk, _, ht, H => by
    have e : m = c := by omega
    subst e
    rw [f_L_makes_L14]
    refine Rn.y (nI_le (Nat.le_refl m) (by omega)) ?_
    exact mk_74 hL hc2 hc6 4 0 5 t _ _ _ _ _ _ _ _ _ (by omega) (by omega) (by omega) H
  | k + 1, m, n + 1, t, row, kF, xR, xD, xC, rR, rD, kN, kK, hk, hn, ht, H => by
    have H0 := H
    obtain ⟨N, l, HP, G, HH, HM⟩ := H
    obtain ⟨w, e1⟩ := at_ok (L := L) (xs := xs) (p := (1 : Int32) + nI m) (nI_add 1 m) hL (by omega)
    obtain ⟨d, hd, e2⟩ := some_ok (x := w) (y := 10) (n := 10) rfl (by decide) (by decide)
    obtain ⟨g, g1, g2, g3⟩ := fr_ok G (HP.rel G) hd
    rw [f_L_makes_L14]
    refine Rn.n (nI_ge (show m < c by omega) (by omega)) ?_
    refine Rn.b e1 ?_
    refine Rn.b e2 ?_
    refine Rn.b g2 ?_
    refine Rn.bb (mk_j (show m < 6 by omega) g1 (by omega) H0 g3) fun v hv => ?_
    obtain ⟨h1, h2⟩ := hv
    refine Rn.y h1 ?_
    rw [nI_1]
    exact mk_14 hL hc2 hc6 k (m + 1) n (t + 1) _ _ _ _ _ _ _ _ _ (by omega) (by omega) (by omega) h2
/-- a fresh club -/
abbrev row0 : Nat → Int32 := upd (fun _ => 0) (1 : Int32).toNatClampNeg (1000 : Int32)
theorem new_ms {kF : Nat → Int32} : MS 0 0 41 0 row0 0 0 kF := by
  have G : Good row0 0 := ⟨by decide, rfl, ⟨1000, by decide, by decide, rfl⟩, rfl, fun m hm => absurd hm (Nat.not_lt_zero m)⟩
  have hR : Rel row0 row0 0 := ⟨fun i _ => rfl, fun m hm => absurd hm (Nat.not_lt_zero m), fun m hm => absurd hm (Nat.not_lt_zero m)⟩
  refine ⟨row0, [], ⟨⟨0, G, hR⟩, fun c hc e0 => ?_⟩, G, ⟨0, by decide, by decide, nI_0.symm, nI_0.symm, fun j N hj => by simp at hj⟩, fun i j hi => absurd hi (Nat.not_lt_zero i), fun i hi => absurd hi (Nat.not_lt_zero i)⟩
  have e : c = 0 := ((nI_eq (a := 0) (by decide) (by omega)).mp (show nI 0 = nI c from e0)).symm
  subst e
  exact ⟨0, rfl, by decide, fun m hm => absurd hm (Nat.not_lt_zero m)⟩
theorem makes_ok {L : Nat} {xs kF : Nat → Int32} {xR xD xC rR rD : Int32} (hL : L < 2 ^ 31) : Rn (f_L_makes L xs xR xD xC row0 rR rD 0 0 kF) MQ10 := by
  obtain ⟨w, e1⟩ := at_ok (L := L) (xs := xs) (p := 0) (k := 0) nI_0.symm hL (by decide)
  obtain ⟨d, hd, e2⟩ := some_ok (x := w) (y := 5) (n := 5) rfl (by decide) (by decide)
  rw [f_L_makes]
  refine Rn.b e1 ?_
  refine Rn.b e2 ?_
  rw [show (2 : Int32) + nI d = nI (2 + d) from nI_add 2 d]
  exact mk_14 (c := 2 + d) hL (by omega) (by omega) (2 + d) 0 7 0 _ _ _ _ _ _ _ _ _ (by omega) (by omega) (by omega) new_ms
