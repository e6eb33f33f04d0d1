/-! ===== pure: a member's line, the board ===== -/
def Ag (l : Nat) (f g : Nat → Int32) : Prop := ∀ j, j < l → f j = g j ∧ ∃ q, q < 65536 ∧ f j = nI q
theorem Ag.up {l q : Nat} {f g : Nat → Int32} (h : Ag l f g) (hq : q < 65536) : Ag (l + 1) (upd f l (nI q)) (upd g l (nI q)) := fun j hj => by
  by_cases e : j = l
  · subst e
    rw [upd_s, upd_s]
    exact ⟨rfl, q, hq, rfl⟩
  · rw [upd_n e, upd_n e]
    exact h j (by omega)
theorem ln_ok {R N : Nat → Int32} {K c m : Nat} {lC nL : Nat → Int32} {lL mI t : Int32} (hK : K < 2 ^ 29) (G : Good N c) (hR : Rel R N c) (B : Bd N K) (hm : m < c) :
    ∃ l f' g', l ≤ 32 ∧ f_X4_writeMember R lL lC (nI m) = some (nI l, f') ∧ f_X8_line mI t N nL (nI m) = some (nI l, nI l, 0, g') ∧ Ag l f' g' := by
  have hc := G.1
  have hm6 : m < 6 := by omega
  have hM := G.2.2.2.2 m hm
  obtain ⟨T, b1, b2, b3⟩ := B c hc G.2.1
  obtain ⟨⟨a, a1, a2⟩, -⟩ := b3 m hm
  obtain ⟨h, h1, h2⟩ := hM.1
  obtain ⟨k1, f1, g1, p1, p2, p3, p4, p5⟩ := num_both (a := a) (l := 0) (B := 10) (f := lC) (g := nL) (by omega) (by omega) (by decide) (by decide) (fun j hj => absurd hj (Nat.not_lt_zero j))
  rw [Nat.zero_add] at p3 p4 p5
  have p6 := Ag.up (q := 64) p5 (by decide)
  obtain ⟨k2, f2, g2, q1, q2, q3, q4, q5⟩ := num_both (a := h) (l := k1 + 1) (B := 1) (by omega) (by omega) (by decide) (by omega) p6
  have ek2 : k2 = 1 := by omega
  subst ek2
  have x1 : f_X4_add (nI k1) f1 (64 : Int32) = some (nI (k1 + 1), upd f1 k1 (nI 64)) := x4_add (q := 64) (by omega) (by decide)
  have y1 : f_X8_signs (nI k1) g1 (64 : Int32) = some (nI (k1 + 1), upd g1 k1 (nI 64)) := x8_sign (q := 64) (by omega) (by decide)
  have r0 : R (13 + 7 * m + 0) = nI a := (hR.2.1 m hm 0 (by decide) (by decide)).trans a2
  have r1 : R (13 + 7 * m + 1) = nI h := (hR.2.1 m hm 1 (by decide) (by decide)).trans h2
  by_cases hw : N (13 + 7 * m + 3) ≤ 0
  · have ht : ¬ N (13 + 7 * m + 4) = 1 := by
      rcases hM.2.2 with e | ⟨⟨s, s1, s2, s3⟩, -⟩
      · rw [e.2]; decide
      · rw [s3] at hw; exact absurd hw (nI_nle (by omega) (by omega))
    refine ⟨k1 + 1 + 1, f2, g2, by omega, ?_, ?_, q5⟩
    · rw [f_X4_writeMember, x0_of0 hm6, bS, r0, show f_X4_addNumber (0 : Int32) lC (nI a, ()).1 = some (nI k1, f1) from p3, bS, x1, bS, x0_of1 hm6, bS, r1, q3, bS, x0_wg hR hm hc hM, bS, wg, if_pos hw, if_pos rfl, x0_tp hR hm hc, bS, tp, if_neg ht, if_pos rfl]
    · rw [f_X8_line, x8_isM G.2.1 hc hm, bS, if_neg (by decide), x8_of0 hm6, bS, a2, show f_X8_writes (0 : Int32) nL (nI a, ()).1 = some (nI k1, g1) from p4, bS, y1, bS, x8_of1 hm6, bS, h2, q4, bS, x8_wg hm6, bS, wg, if_pos hw, if_pos rfl]
  · have hw0 : 0 < N (13 + 7 * m + 3) := by grind
    obtain ⟨⟨s, s1, s2, s3⟩, ⟨g, g1', g2', g3'⟩, ht⟩ : (∃ s, 1 ≤ s ∧ s ≤ 9 ∧ N (13 + 7 * m + 3) = nI s) ∧ (∃ g, 700 ≤ g ∧ g ≤ 1100 ∧ N (13 + 7 * m + 2) = nI g) ∧ (N (13 + 7 * m + 4) = 0 ∨ N (13 + 7 * m + 4) = 1) := by
      rcases hM.2.2 with e | e
      · exact absurd (by rw [e.1]; decide) hw
      · exact e
    have q6 := Ag.up (q := 61) q5 (by decide)
    obtain ⟨k3, f3, g3, u1, u2, u3, u4, u5⟩ := num_both (a := g) (l := k1 + 1 + 1 + 1) (B := 4) (by omega) (by omega) (by decide) (by omega) q6
    have u6 := Ag.up (q := 47) u5 (by decide)
    obtain ⟨k4, f4, g4, v1, v2, v3, v4, v5⟩ := num_both (a := s) (l := k1 + 1 + 1 + 1 + k3 + 1) (B := 1) (by omega) (by omega) (by decide) (by omega) u6
    have ek4 : k4 = 1 := by omega
    subst ek4
    have x2 : f_X4_add (nI (k1 + 1 + 1)) f2 (61 : Int32) = some (nI (k1 + 1 + 1 + 1), upd f2 (k1 + 1 + 1) (nI 61)) := x4_add (q := 61) (by omega) (by decide)
    have y2 : f_X8_signs (nI (k1 + 1 + 1)) g2 (61 : Int32) = some (nI (k1 + 1 + 1 + 1), upd g2 (k1 + 1 + 1) (nI 61)) := x8_sign (q := 61) (by omega) (by decide)
    have x3 : f_X4_add (nI (k1 + 1 + 1 + 1 + k3)) f3 (47 : Int32) = some (nI (k1 + 1 + 1 + 1 + k3 + 1), upd f3 (k1 + 1 + 1 + 1 + k3) (nI 47)) := x4_add (q := 47) (by omega) (by decide)
    have y3 : f_X8_signs (nI (k1 + 1 + 1 + 1 + k3)) g3 (47 : Int32) = some (nI (k1 + 1 + 1 + 1 + k3 + 1), upd g3 (k1 + 1 + 1 + 1 + k3) (nI 47)) := x8_sign (q := 47) (by omega) (by decide)
    have x4 : f_X4_add (nI (k1 + 1 + 1 + 1 + k3 + 1 + 1)) f4 (33 : Int32) = some (nI (k1 + 1 + 1 + 1 + k3 + 1 + 1 + 1), upd f4 (k1 + 1 + 1 + 1 + k3 + 1 + 1) (nI 33)) := x4_add (q := 33) (by omega) (by decide)
    have y4 : f_X8_signs (nI (k1 + 1 + 1 + 1 + k3 + 1 + 1)) g4 (33 : Int32) = some (nI (k1 + 1 + 1 + 1 + k3 + 1 + 1 + 1), upd g4 (k1 + 1 + 1 + 1 + k3 + 1 + 1) (nI 33)) := x8_sign (q := 33) (by omega) (by decide)
    have r2 : R (13 + 7 * m + 2) = nI g := by rw [hR.2.2 m hm, if_pos hw0, g3']
    have r3 : R (13 + 7 * m + 3) = nI s := (hR.2.1 m hm 3 (by decide) (by decide)).trans s3
    have hx : f_X4_writeMember R lL lC (nI m) = (some (tp N m, ())).bind (fun v17 => (if v17.1 = (0 : Int32) then (some (nI (k1 + 1 + 1 + 1 + k3 + 1 + 1), f4)) else (f_X4_add (nI (k1 + 1 + 1 + 1 + k3 + 1 + 1)) f4 (33 : Int32)).bind (fun v19 => (some (v19.1, v19.2))))) := by
      rw [f_X4_writeMember, x0_of0 hm6, bS, r0, show f_X4_addNumber (0 : Int32) lC (nI a, ()).1 = some (nI k1, f1) from p3, bS, x1, bS, x0_of1 hm6, bS, r1, q3, bS, x0_wg hR hm hc hM, bS, wg, if_neg hw, if_neg (by decide), x2, bS, x0_of2 hm6, bS, r2, u3, bS, x3, bS, x0_of3 hm6, bS, r3, v3, bS, x0_tp hR hm hc]
    have hy : f_X8_line mI t N nL (nI m) = (if N (13 + 7 * m + 4) = (1 : Int32) then (f_X8_signs (nI (k1 + 1 + 1 + 1 + k3 + 1 + 1)) g4 (33 : Int32)).bind (fun v20 => (some (v20.1, (v20.1, (0 : Int32), v20.2)))) else (some (nI (k1 + 1 + 1 + 1 + k3 + 1 + 1), (nI (k1 + 1 + 1 + 1 + k3 + 1 + 1), (0 : Int32), g4)))) := by
      rw [f_X8_line, x8_isM G.2.1 hc hm, bS, if_neg (by decide), x8_of0 hm6, bS, a2, show f_X8_writes (0 : Int32) nL (nI a, ()).1 = some (nI k1, g1) from p4, bS, y1, bS, x8_of1 hm6, bS, h2, q4, bS, x8_wg hm6, bS, wg, if_neg hw, if_neg (by decide), y2, bS, x8_of2 hm6, bS, g3', u4, bS, y3, bS, x8_of3 hm6, bS, s3, v4, bS, x8_of4 hm6, bS]
    by_cases et : N (13 + 7 * m + 4) = 1
    · refine ⟨k1 + 1 + 1 + 1 + k3 + 1 + 1 + 1, _, _, by omega, ?_, ?_, Ag.up (q := 33) v5 (by decide)⟩
      · rw [hx, bS, tp, if_pos et, if_neg (by decide), x4, bS]
      · rw [hy, if_pos et, y4, bS]
    · refine ⟨k1 + 1 + 1 + 1 + k3 + 1 + 1, f4, g4, by omega, ?_, ?_, v5⟩
      · rw [hx, bS, tp, if_neg et, if_pos rfl]
      · rw [hy, if_neg et]
theorem bd_l {R N : Nat → Int32} {c : Nat} {t : Int32} (G : Good N c) (hR : Rel R N c) : ∀ k y n f g, y + k = 10 → k < n → Ag y f g → ∃ f' g', f_X4_writeHeights_L7 R n (nI y) (nI y) f = some (nI 10, f') ∧ f_X8_board_L12 N t n (nI y) (nI y) g = some (nI 10, nI 10, t, g') ∧ Ag 10 f' g'
  | k, y, 0, _, _, _, hn, _ => absurd hn (Nat.not_lt_zero k)
  | 0, y, n + 1, f, g, hk, _, hA => by
    have e : y = 10 := by omega
    subst e
    refine ⟨f, g, ?_, ?_, hA⟩
    · rw [f_X4_writeHeights_L7, if_pos (show (9 : Int32) < nI 10 by decide)]
    · rw [f_X8_board_L12, if_pos (show (10 : Int32) ≤ nI 10 by decide)]
  | k + 1, y, n + 1, f, g, hk, hn, hA => by
    have hc := G.1
    obtain ⟨v, v1, v2, v3⟩ := own_both (h := nI y) G.2.1 hc hR
    have b1 : ¬ (9 : Int32) < nI y := nI_nlt (a := 9) (by omega) (by omega)
    have b2 : ¬ (10 : Int32) ≤ nI y := nI_ge (b := 10) (by omega) (by omega)
    rcases v3 with rfl | ⟨j, hj, rfl⟩
    · obtain ⟨f', g', h1, h2, h3⟩ := bd_l (t := t) G hR k (y + 1) n (upd f y (nI 46)) (upd g y (nI 46)) (by omega) (by omega) (Ag.up (q := 46) hA (by decide))
      refine ⟨f', g', ?_, ?_, h3⟩
      · rw [f_X4_writeHeights_L7, if_neg b1, v1, bS, if_pos rfl, show f_X4_add (nI y) f (46 : Int32) = some (nI (y + 1), upd f y (nI 46)) from x4_add (q := 46) (by omega) (by decide), bS, nI_1, h1]
      · rw [f_X8_board_L12, if_neg b2, v2, bS, if_neg (show ¬ (0 : Int32) ≤ -1 by decide), show f_X8_signs (nI y) g (46 : Int32) = some (nI (y + 1), upd g y (nI 46)) from x8_sign (q := 46) (by omega) (by decide), bS, nI_1, h2]
    · have hA' : Ag (y + 1) (upd f y (nI (48 + j))) (wr g y (0 + 1) j) := fun i hi => by
        by_cases e : i = y
        · subst e
          unfold wr
          rw [upd_s, if_pos (by omega), show i + (0 + 1) - 1 - i = 0 by omega, Nat.pow_zero, Nat.div_one, Nat.mod_eq_of_lt (by omega)]
          exact ⟨rfl, _, by omega, rfl⟩
        · unfold wr
          rw [upd_n e, if_neg (by omega)]
          exact hA i (by omega)
      obtain ⟨f', g', h1, h2, h3⟩ := bd_l (t := t) G hR k (y + 1) n _ _ (by omega) (by omega) hA'
      refine ⟨f', g', ?_, ?_, h3⟩
      · rw [f_X4_writeHeights_L7, if_neg b1, v1, bS, if_neg (neg1 (by omega)), dig_eq (by omega), bS, x4_add (by omega) (by omega), bS, nI_1, h1]
      · rw [f_X8_board_L12, if_neg b2, v2, bS, if_pos (nI_pos' (by omega)), bS, f_X8_writes, x8_wr 0 13 y g j (by omega) (by decide) (by omega) (Or.inl rfl) (by omega), bS, nI_1, h2]
