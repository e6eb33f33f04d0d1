/-! ===== pure: what a command does, on both sides ===== -/
def Step (R N : Nat → Int32) (mR mD mJ mA : Int32) (x : Option (Int32 × (Nat → Int32) × Int32 × Int32)) (y : Option (Int32 × Int32 × Int32 × Int32 × Int32 × (Nat → Int32))) : Prop :=
  (∃ a R' N', x = some (a, R', 0, 0) ∧ y = some (1, mR, mD, mJ, a, N') ∧ PR R' N' ∧ ∀ K, K < 2 ^ 29 → Bd N K → Bd N' (K + 50) ∧ ¬ a = -1001) ∨
  ∃ b why more, ¬ why = 0 ∧ x = some (b, R, why, more) ∧ y = some (0, why, more, 0, mA, N)
theorem Step.no {R N : Nat → Int32} {mR mD mJ mA b why more : Int32} {x y} (h : ¬ why = 0) (hx : x = some (b, R, why, more)) (hy : y = some (0, why, more, 0, mA, N)) : Step R N mR mD mJ mA x y := Or.inr ⟨b, why, more, h, hx, hy⟩
theorem Step.yes {R N R' N' : Nat → Int32} {mR mD mJ mA a : Int32} {x y} (hx : x = some (a, R', 0, 0)) (hy : y = some (1, mR, mD, mJ, a, N')) (h : PR R' N') (hb : ∀ K, K < 2 ^ 29 → Bd N K → Bd N' (K + 50)) (ha : ∀ K, K < 2 ^ 29 → Bd N K → ¬ a = -1001) : Step R N mR mD mJ mA x y := Or.inl ⟨a, R', N', hx, hy, h, fun K h B => ⟨hb K h B, ha K h B⟩⟩
theorem neg1001 {j : Nat} (h : j < 2 ^ 31) : ¬ nI j = -1001 := fun e => nI_pos h (by rw [e]; decide)
theorem jab_ne : ∀ h, h < 10 → ∀ h', h' < 10 → ¬ jabs (nI h - nI h') = -1001 := by decide +kernel
theorem isH_eq {p : Int32} : f_X7_isHeight p = f_X8_in p 0 9 := rfl
theorem isCh_eq {p : Int32} : f_X7_isChange p = f_X8_in p (-40) 40 := rfl
theorem isP_eq {p : Int32} : f_X7_isPressure p = f_X8_in p 900 1100 := rfl
theorem nat9 {p : Int32} (h : ¬ (p < 0 ∨ 9 < p)) : ∃ k, k ≤ 9 ∧ p = nI k := nI_of2 (M := 9) (n := 9) rfl (fun e => h (Or.inl e)) (by grind)
def zr (X : Nat → Int32) (m w : Nat) : Nat → (Nat → Int32)
  | 0 => X
  | k + 1 => zr (upd X (13 + 7 * m + w) 0) m (w + 1) k
theorem x8_j69 {m : Nat} {h a b d e : Int32} (hm : m < 6) : ∀ k w n X, w + k = 7 → k < n → f_X8_joins_L69 h (nI m) a b d e n (nI w) X = some (1, a, b, d, nI m, upd (upd (upd (zr X m w k) (13 + 7 * m + 0) 50) (13 + 7 * m + 1) h) 11 ((upd (upd (zr X m w k) (13 + 7 * m + 0) 50) (13 + 7 * m + 1) h) 11 + 50))
  | k, w, 0, _, _, hn => absurd hn (Nat.not_lt_zero k)
  | 0, w, n + 1, X, hk, _ => by
    rw [f_X8_joins_L69, if_pos (show (7 : Int32) ≤ nI w from nI_le (a := 7) (by omega) (by omega)), x8_sets0 hm, bS, x8_sets1 hm, bS, f_X8_does, bS, cT j1, cl11, zr]
  | k + 1, w, n + 1, X, hk, hn => by
    rw [f_X8_joins_L69, if_neg (show ¬ (7 : Int32) ≤ nI w from nI_ge (b := 7) (by omega) (by omega)), x8_sets hm (by omega), bS, nI_1, x8_j69 hm k (w + 1) n _ (by omega) (by omega), zr]
theorem w7 {p : Nat → Prop} (h0 : p 0) (h1 : p 1) (h3 : p 3) (h4 : p 4) (h5 : p 5) (h6 : p 6) : ∀ w, w < 7 → w ≠ 2 → p w
  | 0, _, _ => h0
  | 1, _, _ => h1
  | 2, _, h => absurd rfl h
  | 3, _, _ => h3
  | 4, _, _ => h4
  | 5, _, _ => h5
  | 6, _, _ => h6
  | w + 7, h, _ => absurd h (by omega)
theorem g13 {p : Nat → Prop} (h0 : p 0) (h1 : p 1) (h2 : p 2) (h3 : p 3) (h4 : p 4) (h5 : p 5) (h6 : p 6) (h7 : p 7) (h8 : p 8) (h9 : p 9) (h10 : p 10) (h11 : p 11) (h12 : p 12) : ∀ i, i < 13 → p i
  | 0, _ => h0
  | 1, _ => h1
  | 2, _ => h2
  | 3, _ => h3
  | 4, _ => h4
  | 5, _ => h5
  | 6, _ => h6
  | 7, _ => h7
  | 8, _ => h8
  | 9, _ => h9
  | 10, _ => h10
  | 11, _ => h11
  | 12, _ => h12
  | w + 13, h => absurd h (by omega)
theorem x0_enroll {R : Nat → Int32} {c : Nat} {h : Int32} (h0 : R 0 = nI c) (hc : c < 6) : f_X0_enroll R h = some (nI c, upd (upd (upd (upd (upd (upd (upd (upd (upd R (13 + 7 * c + 0) 50) (13 + 7 * c + 1) h) (13 + 7 * c + 5) 0) (13 + 7 * c + 6) 0) (13 + 7 * c + 2) (-1)) (13 + 7 * c + 3) 0) (13 + 7 * c + 4) 0) 11 (R 11 + 50)) 0 (nI c + 1)) := by
  rw [f_X0_enroll, cl0, h0, x0_setOf0 hc, bS, x0_setOf1 hc, bS, x0_setOf5 hc, bS, x0_setOf6 hc, bS, f_X0_clearWager, x0_setOf2 hc, bS, x0_setOf3 hc, bS, x0_setOf4 hc, bS, bS, x0_add11, bS, x0_add0, bS]
  simp (disch := omega) only [upd_s, upd_n, h0]
theorem enroll_PR {R N : Nat → Int32} {c h : Nat} (G : Good N c) (hR : Rel R N c) (hc : c < 6) (hh : h ≤ 9) :
    PR (upd (upd (upd (upd (upd (upd (upd (upd (upd R (13 + 7 * c + 0) 50) (13 + 7 * c + 1) (nI h)) (13 + 7 * c + 5) 0) (13 + 7 * c + 6) 0) (13 + 7 * c + 2) (-1)) (13 + 7 * c + 3) 0) (13 + 7 * c + 4) 0) 11 (R 11 + 50)) 0 (nI c + 1))
      (upd (upd (upd (zr (upd N 0 (nI c + 1)) c 0 7) (13 + 7 * c + 0) 50) (13 + 7 * c + 1) (nI h)) 11 ((upd (upd (zr (upd N 0 (nI c + 1)) c 0 7) (13 + 7 * c + 0) 50) (13 + 7 * c + 1) (nI h)) 11 + 50)) := by
  obtain ⟨-, h0, ⟨P, p1, p2, p3⟩, hs, hM⟩ := G
  obtain ⟨r1, r2, r3⟩ := hR
  simp only [zr, Nat.zero_add, Nat.reduceAdd]
  have e11 : R 11 = N 11 := r1 11 (by decide)
  refine ⟨c + 1, ⟨hc, ?_, ⟨P, p1, p2, ?_⟩, ?_, ?_⟩, ?_, ?_, ?_⟩
  · simp (disch := omega) only [upd_s, upd_n, nI_1]
  · simp (disch := omega) only [upd_s, upd_n, p3]
  · rw [sumC, sumC_congr (N := N) (fun m hm => by simp (disch := omega) only [upd_s, upd_n])]
    simp (disch := omega) only [upd_s, upd_n]
    grind
  · intro m hm
    by_cases e : m = c
    · subst e
      exact ⟨⟨h, by omega, by simp (disch := omega) only [upd_s, upd_n]⟩, ⟨0, by decide, by simp (disch := omega) only [upd_s, upd_n, nI_0]⟩, Or.inl ⟨by simp (disch := omega) only [upd_s, upd_n], by simp (disch := omega) only [upd_s, upd_n]⟩⟩
    · exact Memb_congr (fun w hw => by simp (disch := omega) only [upd_s, upd_n]) (hM m (by omega))
  · refine g13 ?_ ?_ ?_ ?_ ?_ ?_ ?_ ?_ ?_ ?_ ?_ ?_ ?_
    all_goals simp (disch := omega) only [upd_s, upd_n, r1]
  · intro m hm
    by_cases e : m = c
    · subst e
      refine w7 ?_ ?_ ?_ ?_ ?_ ?_
      all_goals simp (disch := omega) only [upd_s, upd_n]
    · intro w hw hw2
      simp (disch := omega) only [upd_s, upd_n, r2 m (by omega) w hw hw2]
  · intro m hm
    by_cases e : m = c
    · subst e
      simp (disch := omega) only [upd_s, upd_n]
      rfl
    · simp (disch := omega) only [upd_s, upd_n, r3 m (by omega)]
theorem enroll_Bd {N : Nat → Int32} {c h : Nat} (h0 : N 0 = nI c) (hc : c < 6) (K : Nat) (_ : K < 2 ^ 29) (B : Bd N K) :
    Bd (upd (upd (upd (zr (upd N 0 (nI c + 1)) c 0 7) (13 + 7 * c + 0) 50) (13 + 7 * c + 1) (nI h)) 11 ((upd (upd (zr (upd N 0 (nI c + 1)) c 0 7) (13 + 7 * c + 0) 50) (13 + 7 * c + 1) (nI h)) 11 + 50)) (K + 50) := by
  intro c' hc' e0'
  simp only [zr, Nat.zero_add, Nat.reduceAdd] at e0' ⊢
  have ec : c' = c + 1 := by
    simp (disch := omega) only [upd_s, upd_n, nI_1] at e0'
    exact (nI_of_lt e0' (by omega) (by omega)).symm
  subst ec
  obtain ⟨t, b1, b2, b3⟩ := B c (by omega) h0
  refine ⟨t, ?_, ?_, fun m hm => ?_⟩
  · simp (disch := omega) only [upd_s, upd_n, b1]
  · rw [sumN, sumN_congr (N := N) (fun m hm => by simp (disch := omega) only [upd_s, upd_n])]
    simp (disch := omega) only [upd_s, upd_n]
    have : (50 : Int32).toNatClampNeg = 50 := rfl
    omega
  · by_cases e : m = c
    · subst e
      exact ⟨⟨50, by decide, by simp (disch := omega) only [upd_s, upd_n]; rfl⟩, 0, by omega, by simp (disch := omega) only [upd_s, upd_n]; rfl⟩
    · obtain ⟨⟨a, a1, a2⟩, ⟨w, w1, w2⟩⟩ := b3 m (by omega)
      exact ⟨⟨a, a1, by simp (disch := omega) only [upd_s, upd_n, a2]⟩, w, by omega, by simp (disch := omega) only [upd_s, upd_n, w2]⟩

