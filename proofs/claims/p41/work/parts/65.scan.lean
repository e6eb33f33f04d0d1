/-! ===== pure: a text is read, on both sides ===== -/
theorem upd_u {f : Nat → Int32} {k : Nat} {a b : Int32} : upd (upd f k a) k b = upd f k b := by
  funext j
  by_cases e : j = k
  · rw [e, upd_s, upd_s]
  · rw [upd_n e, upd_n e, upd_n e]
def TX (l : Nat) (f g : Nat → Int32) : Prop := l ≤ 60 ∧ ∀ j, j < l → f j = g j ∧ ∃ q, q < 65536 ∧ f j = nI q
theorem here_in {l Q : Nat} {f g : Nat → Int32} (H : TX l f g) (h : Q < l) : f_X1_here (nI l) (nI Q) f = some (g Q, ()) := by
  have hl := H.1
  obtain ⟨e1, q, hq, e2⟩ := H.2 Q h
  rw [f_X1_here, if_neg (nI_pos (by omega)), if_neg (nI_ge h (by omega)), if_neg (show ¬ (60 : Int32) ≤ nI Q from nI_ge (b := 60) (by omega) (by decide)), cT (inB_n (by omega) (by decide)), nI_clamp (by omega), e2, cT (okc hq), ← e2, e1]
theorem here_out {l Q : Nat} {f : Nat → Int32} (hl : l ≤ 60) (h : l ≤ Q) (hQ : Q < 2 ^ 31) : f_X1_here (nI l) (nI Q) f = some (0, ()) := by
  rw [f_X1_here, if_neg (nI_pos (by omega)), if_pos (nI_le h hQ)]
def mk (q F : Int32) : Int32 := if F = -1 then q else F
theorem mark_eq {q F : Int32} : f_X1_markFault q F = some (mk q F) := by
  rw [f_X1_markFault, mk]; split <;> rfl
theorem mk_n {q F : Int32} (h : ¬ F = -1) : mk q F = F := if_neg h
theorem mk_1 {q : Int32} : mk q (-1) = q := if_pos rfl
/-- a sign -/
theorem sign_y {l Q : Nat} {f g : Nat → Int32} {F p : Int32} (H : TX l f g) (h : Q < l) (hp : g Q = p) : f_X1_scanSign (nI l) (nI Q) F f p = some (nI (Q + 1), F) ∧ f_X8_takes (nI l) (nI Q) g p = some (1, nI (Q + 1)) := by
  have hl := H.1
  refine ⟨?_, ?_⟩
  · rw [f_X1_scanSign, here_in H h, bS, if_pos hp, nI_1]
  · rw [f_X8_takes, if_neg (fun e => absurd (nI_of_lt e (by omega) (by omega)) (by omega)), cT (inB_n (by omega) (by decide)), nI_clamp (by omega), if_pos hp, nI_1]
theorem sign_n {l Q : Nat} {f g : Nat → Int32} {F p : Int32} (H : TX l f g) (hQ : Q ≤ l) (hp0 : ¬ 0 = p) (hp : ¬ (Q < l ∧ g Q = p)) : f_X1_scanSign (nI l) (nI Q) F f p = some (nI Q, mk (nI Q) F) ∧ f_X8_takes (nI l) (nI Q) g p = some (0, nI Q) := by
  have hl := H.1
  by_cases h : Q < l
  · have hn : ¬ g Q = p := fun e => hp ⟨h, e⟩
    refine ⟨?_, ?_⟩
    · rw [f_X1_scanSign, here_in H h, bS, if_neg hn, mark_eq, bS]
    · rw [f_X8_takes, if_neg (fun e => absurd (nI_of_lt e (by omega) (by omega)) (by omega)), cT (inB_n (by omega) (by decide)), nI_clamp (by omega), if_neg hn]
  · refine ⟨?_, ?_⟩
    · rw [f_X1_scanSign, here_out hl (by omega) (by omega), bS, if_neg hp0, mark_eq, bS]
    · rw [f_X8_takes, if_pos (nI_inj' (by omega))]
/-- digits -/
def isD (x : Int32) : Prop := ¬ x < 48 ∧ ¬ 57 < x
theorem x1_dY {x : Int32} (h : isD x) : f_X1_isDigit x = some (1, ()) := by rw [f_X1_isDigit, if_neg h.1, if_neg h.2]
theorem x1_dN {x : Int32} (h : ¬ isD x) : f_X1_isDigit x = some (0, ()) := by
  rw [f_X1_isDigit]
  by_cases h1 : x < 48
  · rw [if_pos h1]
  · by_cases h2 : 57 < x
    · rw [if_neg h1, if_pos h2]
    · exact absurd ⟨h1, h2⟩ h
theorem x8_dY {x : Int32} (h : isD x) : f_X8_in x 48 57 = some (1, ()) := x8_inY h.1 h.2
theorem x8_dN {x : Int32} (h : ¬ isD x) : f_X8_in x 48 57 = some (0, ()) := x8_inN (by
  by_cases h1 : x < 48
  · exact Or.inl h1
  · by_cases h2 : 57 < x
    · exact Or.inr h2
    · exact absurd ⟨h1, h2⟩ h)
/-- where the digits end, what they stand for, how many there are -/
theorem dig_l {l a b p : Nat} {f g : Nat → Int32} {F : Int32} (H : TX l f g) (hp : p < 3) (hb : b < 2 ^ 30) (ha : a < 2 ^ 30) : ∀ k Q v c n, c + k = b → k < n → Q ≤ l →
    ∃ Q' v' c', Q ≤ Q' ∧ Q' ≤ l ∧ c ≤ c' ∧ c' ≤ b ∧
      f_X1_scanDigits_L5 (nI l) f (nI a) (nI b) F n v (nI c) (nI Q) = some (v', nI Q', if a ≤ c' then F else mk (nI Q') F) ∧
      ∀ D, f_X8_digits_L10 (nI l) g (nI p) (nI a) (nI b) n (nI c) (nI Q) (upd D p v) = some (if c' < a then 0 else 1, nI Q', upd D p v')
  | k, Q, v, c, 0, _, hn, _ => absurd hn (Nat.not_lt_zero k)
  | k, Q, v, c, n + 1, hk, hn, hQ => by
    have hl := H.1
    have stopX : ∀ m, c = m → (if nI a ≤ nI c then (some (v, (nI Q, F)) : Option (Int32 × Int32 × Int32)) else (f_X1_markFault (nI Q) F).bind (fun v3 => (some (v, (nI Q, v3))))) = some (v, nI Q, if a ≤ c then F else mk (nI Q) F) := fun m _ => by
      by_cases e : a ≤ c
      · rw [if_pos (nI_le e (by omega)), if_pos e]
      · rw [if_neg (nI_ge (by omega) (by omega)), if_neg e, mark_eq, bS]
    have stopY : ∀ D, (if nI c < nI a then (some ((0 : Int32), (nI Q, upd D p v)) : Option (Int32 × Int32 × (Nat → Int32))) else some ((1 : Int32), (nI Q, upd D p v))) = some (if c < a then 0 else 1, nI Q, upd D p v) := fun D => by
      by_cases e : c < a
      · rw [if_pos (nI_lt e (by omega)), if_pos e]
      · rw [if_neg (nI_nlt (by omega) (by omega)), if_neg e]
    by_cases e0 : k = 0
    · refine ⟨Q, v, c, Nat.le_refl _, hQ, Nat.le_refl _, by omega, ?_, fun D => ?_⟩
      · rw [f_X1_scanDigits_L5, if_pos (nI_le (by omega) (by omega)), stopX c rfl]
      · rw [f_X8_digits_L10, if_pos (nI_le (by omega) (by omega)), stopY]
    · have nb : ¬ nI b ≤ nI c := nI_ge (by omega) (by omega)
      by_cases h : Q < l
      · have nh : ¬ nI l ≤ nI Q := nI_ge h (by omega)
        by_cases hd : isD (g Q)
        · obtain ⟨k', rfl⟩ : ∃ k', k = k' + 1 := ⟨k - 1, by omega⟩
          obtain ⟨Q', v', c', q1, q2, q3, q4, q5, q6⟩ := dig_l (F := F) H hp hb ha k' (Q + 1) (v * 10 + (g Q - 48)) (c + 1) n (by omega) (by omega) (by omega)
          refine ⟨Q', v', c', by omega, q2, by omega, q4, ?_, fun D => ?_⟩
          · rw [f_X1_scanDigits_L5, if_neg nb, here_in H h, bS, x1_dY hd, bS, if_neg (by decide), bS, nI_1, nI_1, q5]
          · rw [f_X8_digits_L10, if_neg nb, if_neg nh, cT (inB_n (by omega) (by decide)), nI_clamp (show Q < 2 ^ 31 by omega), x8_dY hd, bS, if_neg (by decide), cT (inB_n (by omega) (by decide)), cT (inB_n (by omega) (by decide)), cT (inB_n (by omega) (by decide)), nI_clamp (show p < 2 ^ 31 by omega), upd_u, upd_s, nI_1, nI_1, show ((10 : Int32) * v + g Q) - 48 = v * 10 + (g Q - 48) by grind, q6]
        · refine ⟨Q, v, c, Nat.le_refl _, hQ, Nat.le_refl _, by omega, ?_, fun D => ?_⟩
          · rw [f_X1_scanDigits_L5, if_neg nb, here_in H h, bS, x1_dN hd, bS, if_pos rfl, stopX c rfl]
          · rw [f_X8_digits_L10, if_neg nb, if_neg nh, cT (inB_n (by omega) (by decide)), nI_clamp (show Q < 2 ^ 31 by omega), x8_dN hd, bS, if_pos rfl, stopY]
      · refine ⟨Q, v, c, Nat.le_refl _, hQ, Nat.le_refl _, by omega, ?_, fun D => ?_⟩
        · rw [f_X1_scanDigits_L5, if_neg nb, here_out hl (by omega) (by omega), bS, x1_dN (fun h => h.1 (by decide)), bS, if_pos rfl, stopX c rfl]
        · rw [f_X8_digits_L10, if_neg nb, if_pos (nI_le (by omega) (by omega)), stopY]
theorem mk_mk {Q : Nat} {q F : Int32} (h : Q < 2 ^ 31) : mk q (mk (nI Q) F) = mk (nI Q) F := by
  refine mk_n ?_
  rw [mk]
  split
  · exact neg1 h
  · assumption
theorem dig_ok {l Q a b p : Nat} {f g : Nat → Int32} {F : Int32} (H : TX l f g) (hQ : Q ≤ l) (hp : p < 3) (hab : a ≤ b) (hb : b < 100) : ∃ Q' v', Q ≤ Q' ∧ Q' ≤ l ∧
    ((f_X1_scanDigits (nI l) (nI Q) F f (nI a) (nI b) = some (v', nI Q', F) ∧ ∀ D, f_X8_digits (nI l) (nI Q) g D (nI p) (nI a) (nI b) = some (1, nI Q', upd D p v')) ∨
      (f_X1_scanDigits (nI l) (nI Q) F f (nI a) (nI b) = some (v', nI Q', mk (nI Q') F) ∧ ∀ D, f_X8_digits (nI l) (nI Q) g D (nI p) (nI a) (nI b) = some (0, nI Q', upd D p v'))) := by
  obtain ⟨Q', v', c', q1, q2, q3, q4, q5, q6⟩ := dig_l (F := F) H hp (show b < 2 ^ 30 by omega) (show a < 2 ^ 30 by omega) b Q 0 0 FU (by omega) (by rw [FU]; omega) hQ
  have hy : ∀ D, f_X8_digits (nI l) (nI Q) g D (nI p) (nI a) (nI b) = some (if c' < a then 0 else 1, nI Q', upd D p v') := fun D => by
    rw [f_X8_digits, cT (inB_n hp (by decide)), nI_clamp (show p < 2 ^ 31 by omega)]
    exact q6 D
  refine ⟨Q', v', q1, q2, ?_⟩
  by_cases e : a ≤ c'
  · refine Or.inl ⟨?_, fun D => ?_⟩
    · rw [if_pos e] at q5
      exact q5
    · rw [hy, if_neg (by omega)]
  · refine Or.inr ⟨?_, fun D => ?_⟩
    · rw [if_neg e] at q5
      exact q5
    · rw [hy, if_pos (by omega)]

