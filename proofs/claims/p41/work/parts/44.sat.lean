/-! ===== pure: the winners by distances; counted sets ===== -/
def sat (N : Nat → Int32) (P d : Nat) : Nat → Nat
  | 0 => 0
  | m + 1 => if cw N m = true then (if dN N P m = d then sat N P d m + 2 ^ m else sat N P d m) else sat N P d m
theorem sat_lt {N : Nat → Int32} {P d : Nat} : ∀ m, sat N P d m < 2 ^ m
  | 0 => show (0 : Nat) < 2 ^ 0 by decide
  | m + 1 => by
    have i := sat_lt (N := N) (P := P) (d := d) m
    have hs : 2 ^ (m + 1) = 2 ^ m * 2 := Nat.pow_succ 2 m
    rw [sat]
    split
    · split <;> omega
    · omega
theorem sat_wst {N : Nat → Int32} {P c : Nat} (hM : ∀ m, m < c → Memb N m) (h1 : 900 ≤ P) (h2 : P ≤ 1100) : ∀ m, m ≤ c → (∀ d, d ≤ 400 → d < (wst N P m).2 → sat N P d m = 0) ∧ ((wst N P m).2 ≤ 400 → sat N P (wst N P m).2 m = (wst N P m).1)
  | 0, _ => ⟨fun _ _ _ => rfl, fun h => absurd h (show ¬ (100000 : Nat) ≤ 400 by decide)⟩
  | m + 1, hm => by
    obtain ⟨i1, i2⟩ := sat_wst hM h1 h2 m (by omega)
    rw [wst]
    by_cases hw : cw N m = true
    · obtain ⟨d1, -⟩ := dN_ok (hM m (by omega)) (cw_iff.mp hw).1 h1 h2
      rw [if_pos hw]
      by_cases e1 : (wst N P m).2 < dN N P m
      · rw [if_pos e1]
        refine ⟨fun d hd hl => ?_, fun hl => ?_⟩
        · rw [sat, if_pos hw, if_neg (by omega)]
          exact i1 d hd hl
        · rw [sat, if_pos hw, if_neg (by omega)]
          exact i2 hl
      · rw [if_neg e1]
        by_cases e2 : dN N P m < (wst N P m).2
        · rw [if_pos e2]
          refine ⟨fun d hd hl => ?_, fun hl => ?_⟩
          · have hl' : d < dN N P m := hl
            rw [sat, if_pos hw, if_neg (by omega)]
            exact i1 d hd (by omega)
          · show sat N P (dN N P m) (m + 1) = 2 ^ m
            rw [sat, if_pos hw, if_pos rfl, i1 _ d1 e2, Nat.zero_add]
        · rw [if_neg e2]
          have e3 : dN N P m = (wst N P m).2 := by omega
          refine ⟨fun d hd hl => ?_, fun hl => ?_⟩
          · have hl' : d < (wst N P m).2 := hl
            rw [sat, if_pos hw, if_neg (by omega)]
            exact i1 d hd hl'
          · show sat N P (wst N P m).2 (m + 1) = (wst N P m).1 + 2 ^ m
            rw [sat, if_pos hw, if_pos e3, i2 hl]
    · rw [if_neg hw]
      refine ⟨fun d hd hl => ?_, fun hl => ?_⟩
      · rw [sat, if_neg hw]; exact i1 d hd hl
      · rw [sat, if_neg hw]; exact i2 hl
theorem x0_far {R N : Nat → Int32} {P c d : Nat} (G : Good N c) (hR : Rel R N c) (h1 : 900 ≤ P) (h2 : P ≤ 1100) (hd : d < 2 ^ 31) : ∀ k m n, m + k = c → k < n → f_X3_soFarOff_L11 R (nI d) (nI P) n (nI (sat N P d m)) (nI m) = some (nI (sat N P d c), ())
  | k, m, 0, _, hn => absurd hn (Nat.not_lt_zero k)
  | 0, m, n + 1, hk, _ => by
    have hc := G.1
    rw [f_X3_soFarOff_L11, x0_get0, bS, hR.1 0 (by decide), G.2.1, if_pos (nI_le (by omega) (by omega)), show m = c by omega]
  | k + 1, m, n + 1, hk, hn => by
    have hc := G.1
    have i1 := sat_lt (N := N) (P := P) (d := d) m
    have ih := x0_far G hR h1 h2 hd k (m + 1) n (by omega) (by omega)
    rw [f_X3_soFarOff_L11, x0_get0, bS, hR.1 0 (by decide), G.2.1, if_neg (nI_ge (by omega) (by omega)), nI_1]
    rw [sat] at ih
    by_cases hw : cw N m = true
    · obtain ⟨d1, d2⟩ := dN_ok (G.2.2.2.2 m (by omega)) (cw_iff.mp hw).1 h1 h2
      rw [x0_canY hR (by omega) hc (G.2.2.2.2 m (by omega)) hw, bS, if_neg (by decide), x0_dist hR (by omega) hc (cw_iff.mp hw).1, bS, d2]
      rw [if_pos hw] at ih
      by_cases e : dN N P m = d
      · rw [if_pos e] at ih
        rw [if_pos (nI_inj' e), bit_or m (by omega) _ i1]
        exact ih
      · rw [if_neg e] at ih
        rw [if_neg (fun e' => e ((nI_eq (by omega) hd).mp e'))]
        exact ih
    · rw [if_neg hw] at ih
      rw [x0_canN hR (by omega) hc (G.2.2.2.2 m (by omega)) hw, bS, if_pos rfl]
      exact ih
theorem x0_farA {R N : Nat → Int32} {P c d : Nat} (G : Good N c) (hP : N 1 = nI P) (hR : Rel R N c) (h1 : 900 ≤ P) (h2 : P ≤ 1100) (hd : d < 2 ^ 31) : f_X3_soFarOff R (nI d) = some (nI (sat N P d c), ()) := by
  rw [f_X3_soFarOff, x0_get1, bS, hR.1 1 (by decide), hP]
  exact x0_far G hR h1 h2 hd c 0 FU (by omega) (by have := G.1; rw [FU]; omega)
theorem x0_byD {R N : Nat → Int32} {P c : Nat} (G : Good N c) (hP : N 1 = nI P) (hR : Rel R N c) (h1 : 900 ≤ P) (h2 : P ≤ 1100) : ∀ k d n, d + k = 401 → k < n → (∀ j, j < d → j < (wst N P c).2) → f_X3_nearestByDistances_L2 R n (nI d) = some (nI (wst N P c).1, ())
  | k, d, 0, _, hn, _ => absurd hn (Nat.not_lt_zero k)
  | 0, d, n + 1, hk, _, hj => by
    rw [f_X3_nearestByDistances_L2, if_pos (show (400 : Int32) < nI d from nI_lt (a := 400) (by omega) (by omega))]
    obtain ⟨-, i2⟩ := wst_inv G.2.2.2.2 h1 h2 c (Nat.le_refl c)
    have := hj 400 (by omega)
    rcases i2 with i2 | i2
    · rw [i2.1]; rfl
    · omega
  | k + 1, d, n + 1, hk, hn, hj => by
    have hc := G.1
    have hs := sat_lt (N := N) (P := P) (d := d) c
    have h64 : 2 ^ c ≤ 2 ^ 6 := Nat.pow_le_pow_right (by decide) hc
    obtain ⟨i1, i2⟩ := wst_inv G.2.2.2.2 h1 h2 c (Nat.le_refl c)
    obtain ⟨s1, s2⟩ := sat_wst G.2.2.2.2 h1 h2 c (Nat.le_refl c)
    rw [f_X3_nearestByDistances_L2, if_neg (show ¬ (400 : Int32) < nI d from nI_nlt (a := 400) (by omega) (by omega)), x0_farA G hP hR h1 h2 (by omega), bS, nI_1]
    by_cases e : d < (wst N P c).2
    · rw [s1 d (by omega) e, if_pos nI_0]
      exact x0_byD G hP hR h1 h2 k (d + 1) n (by omega) (by omega) (fun j hj' => by
        by_cases e' : j = d
        · omega
        · exact hj j (by omega))
    · have e2 : d = (wst N P c).2 := by
        by_cases e2 : d = (wst N P c).2
        · exact e2
        · exact absurd (hj (wst N P c).2 (by omega)) (Nat.lt_irrefl _)
      have i3 : 0 < (wst N P c).1 := by rcases i2 with i2 | i2 <;> omega
      rw [e2, s2 (by omega), if_neg (nI_ne0 i3 (by omega))]
theorem x0_byDA {R N : Nat → Int32} {P c : Nat} (G : Good N c) (hP : N 1 = nI P) (hR : Rel R N c) (h1 : 900 ≤ P) (h2 : P ≤ 1100) : f_X3_nearestByDistances R = some (nI (wst N P c).1, ()) :=
  x0_byD G hP hR h1 h2 401 0 FU (by omega) (by rw [FU]; omega) (fun j hj => absurd hj (Nat.not_lt_zero j))
/-- how many of the first m bits are set -/
def cB (S : Nat) : Nat → Nat
  | 0 => 0
  | m + 1 => cB S m + S / 2 ^ m % 2
theorem cB_top : ∀ c, c < 7 → ∀ S, S < 2 ^ c → cB S c = cB S 6 := by decide +kernel
theorem cB_6 : ∀ S, S < 64 → cB S 6 < 7 := by decide +kernel
theorem bc_eq : ∀ S, S < 64 → f_J6_bitCount_0f7a4 (nI S) = some (nI (cB S 6), ()) := by decide +kernel
theorem bit_t : ∀ m, m < 6 → ∀ S, S < 64 → ((nI S >>> (nI m &&& 31)) &&& (1 : Int32)) = nI (S / 2 ^ m % 2) := by decide +kernel
def shI (N : Nat → Int32) (S : Nat) : Int32 := if cB S 6 = 0 then 0 else N 7 / nI (cB S 6)
theorem nz_n {n : Nat} (h : ¬ n = 0) (h' : n < 2 ^ 31) : nz (nI n) = true := decide_eq_true (nI_ne0 (by omega) h')
theorem x0_share {R N : Nat → Int32} {c S : Nat} (hR : Rel R N c) (hS : S < 64) : f_X3_shareOf R (nI S) = some (shI N S, ()) := by
  have h := cB_6 S hS
  rw [f_X3_shareOf, bc_eq S hS, bS, shI]
  by_cases e : cB S 6 = 0
  · rw [if_pos e, e, if_pos nI_0]
  · rw [if_neg e, if_neg (nI_ne0 (by omega) (by omega)), x0_get7, bS, cT (nz_n e (by omega)), hR.1 7 (by decide)]

