/-! ===== pure: undo, save, restore ===== -/
theorem undo_l {nK : Nat → Int32} {t : Int32} {u : Nat} (hu : u < 8) : ∀ k i n T, i + k = 55 → k < n → ∃ T', f_X8_undo_L30 nK (nI u) t n (nI i) T = some (nI u, nI u, t, T') ∧ ∀ j, T' j = if i ≤ j ∧ j < 55 then nK (55 * u + j) else T j
  | k, i, 0, _, _, hn => absurd hn (Nat.not_lt_zero k)
  | 0, i, n + 1, T, hk, _ => by
    refine ⟨T, ?_, fun j => ?_⟩
    · rw [f_X8_undo_L30, if_pos (show (55 : Int32) ≤ nI i from nI_le (a := 55) (by omega) (by omega))]
    · rw [if_neg (by omega)]
  | k + 1, i, n + 1, T, hk, hn => by
    obtain ⟨T', h1, h2⟩ := undo_l (nK := nK) (t := t) hu k (i + 1) n (upd T i (nK (55 * u + i))) (by omega) (by omega)
    refine ⟨T', ?_, fun j => ?_⟩
    · rw [f_X8_undo_L30, if_neg (show ¬ (55 : Int32) ≤ nI i from nI_ge (b := 55) (by omega) (by omega)), show ((55 : Int32) * nI u) + nI i = nI (55 * u + i) by rw [show (55 : Int32) = nI 55 from rfl, pk_mul, nI_add], cT (inB_n (by omega) (by decide)), cT (inB_n (by omega) (by decide)), nI_clamp (by omega), nI_clamp (by omega), nI_1, h1]
    · rw [h2 j]
      by_cases e1 : i + 1 ≤ j ∧ j < 55
      · rw [if_pos e1, if_pos (by omega)]
      · rw [if_neg e1]
        by_cases e2 : j = i
        · rw [e2, upd_s, if_pos (by omega)]
        · rw [upd_n e2, if_neg (by omega)]
theorem save_l {nN : Nat → Int32} {a t : Int32} : ∀ k i n T, i + k = 55 → k < n → ∃ T', f_X8_save_L12 nN a t n (nI i) T = some (nN 0, a, t, T') ∧ ∀ j, T' j = if i ≤ j ∧ j < 55 then nN j else T j
  | k, i, 0, _, _, hn => absurd hn (Nat.not_lt_zero k)
  | 0, i, n + 1, T, hk, _ => by
    refine ⟨T, ?_, fun j => ?_⟩
    · rw [f_X8_save_L12, if_pos (show (55 : Int32) ≤ nI i from nI_le (a := 55) (by omega) (by omega)), cl0]
    · rw [if_neg (by omega)]
  | k + 1, i, n + 1, T, hk, hn => by
    obtain ⟨T', h1, h2⟩ := save_l (nN := nN) (a := a) (t := t) k (i + 1) n (upd T i (nN i)) (by omega) (by omega)
    refine ⟨T', ?_, fun j => ?_⟩
    · rw [f_X8_save_L12, if_neg (show ¬ (55 : Int32) ≤ nI i from nI_ge (b := 55) (by omega) (by omega)), cT (inB_n (by omega) (by decide)), cT (inB_n (by omega) (by decide)), nI_clamp (by omega), nI_1, h1]
    · rw [h2 j]
      by_cases e1 : i + 1 ≤ j ∧ j < 55
      · rw [if_pos e1, if_pos (by omega)]
      · rw [if_neg e1]
        by_cases e2 : j = i
        · rw [e2, upd_s, if_pos (by omega)]
        · rw [upd_n e2, if_neg (by omega)]
theorem rest_l {nS : Nat → Int32} {t : Int32} : ∀ k i n T, i + k = 55 → k < n → ∃ T', f_X8_restore_L20 nS t n (nI i) T = some (T' 0, 0, t, T') ∧ ∀ j, T' j = if i ≤ j ∧ j < 55 then nS j else T j
  | k, i, 0, _, _, hn => absurd hn (Nat.not_lt_zero k)
  | 0, i, n + 1, T, hk, _ => by
    refine ⟨T, ?_, fun j => ?_⟩
    · rw [f_X8_restore_L20, if_pos (show (55 : Int32) ≤ nI i from nI_le (a := 55) (by omega) (by omega)), cl0]
    · rw [if_neg (by omega)]
  | k + 1, i, n + 1, T, hk, hn => by
    obtain ⟨T', h1, h2⟩ := rest_l (nS := nS) (t := t) k (i + 1) n (upd T i (nS i)) (by omega) (by omega)
    refine ⟨T', ?_, fun j => ?_⟩
    · rw [f_X8_restore_L20, if_neg (show ¬ (55 : Int32) ≤ nI i from nI_ge (b := 55) (by omega) (by omega)), cT (inB_n (by omega) (by decide)), cT (inB_n (by omega) (by decide)), nI_clamp (by omega), nI_1, h1]
    · rw [h2 j]
      by_cases e1 : i + 1 ≤ j ∧ j < 55
      · rw [if_pos e1, if_pos (by omega)]
      · rw [if_neg e1]
        by_cases e2 : j = i
        · rw [e2, upd_s, if_pos (by omega)]
        · rw [upd_n e2, if_neg (by omega)]
theorem jmax_n {a b : Nat} (ha : a < 2 ^ 31) (hb : b < 2 ^ 31) : jmax (nI a) (nI b) = nI (max a b) := by
  rw [jmax]
  by_cases h : a < b
  · rw [if_pos (nI_lt h hb), Nat.max_eq_right (by omega)]
  · rw [if_neg (nI_nlt (by omega) ha), Nat.max_eq_left (by omega)]
def Snap (K : Nat) (xS : Int32) (sN : Nat → Int32) (mB : Int32) (nS : Nat → Int32) : Prop := xS = mB ∧ (mB = 0 ∨ (mB = 1 ∧ PB K sN nS))
theorem Snap.mono {K K' : Nat} {xS mB : Int32} {sN nS : Nat → Int32} (h : K ≤ K') (H : Snap K xS sN mB nS) : Snap K' xS sN mB nS := ⟨H.1, H.2.imp id (fun q => ⟨q.1, q.2.mono h⟩)⟩
