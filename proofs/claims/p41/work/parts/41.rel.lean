/-! ===== pure: a club's row and the row that the law keeps ===== -/
theorem j0 : okN .boolean 0 = true := by decide
theorem j1 : okN .boolean 1 = true := by decide
theorem nI_inj' {a b : Nat} (h : a = b) : nI a = nI b := by rw [h]
def Rel (R N : Nat → Int32) (c : Nat) : Prop :=
  (∀ i, i < 13 → R i = N i) ∧ (∀ m, m < c → ∀ w, w < 7 → w ≠ 2 → R (13 + 7 * m + w) = N (13 + 7 * m + w)) ∧
    ∀ m, m < c → R (13 + 7 * m + 2) = if 0 < N (13 + 7 * m + 3) then N (13 + 7 * m + 2) else -1
def Memb (N : Nat → Int32) (m : Nat) : Prop :=
  (∃ h, h < 10 ∧ N (13 + 7 * m + 1) = nI h) ∧ (∃ b, b ≤ 3 ∧ N (13 + 7 * m + 5) = nI b) ∧
    ((N (13 + 7 * m + 3) = 0 ∧ N (13 + 7 * m + 4) = 0) ∨
      ((∃ s, 1 ≤ s ∧ s ≤ 9 ∧ N (13 + 7 * m + 3) = nI s) ∧ (∃ g, 700 ≤ g ∧ g ≤ 1100 ∧ N (13 + 7 * m + 2) = nI g) ∧ (N (13 + 7 * m + 4) = 0 ∨ N (13 + 7 * m + 4) = 1)))
def sumC (N : Nat → Int32) : Nat → Int32
  | 0 => 0
  | n + 1 => sumC N n + N (13 + 7 * n + 0)
def Good (N : Nat → Int32) (c : Nat) : Prop :=
  c ≤ 6 ∧ N 0 = nI c ∧ (∃ p, 900 ≤ p ∧ p ≤ 1100 ∧ N 1 = nI p) ∧ N 11 = sumC N c + N 7 + N 12 ∧ ∀ m, m < c → Memb N m
def PR (R N : Nat → Int32) : Prop := ∃ c, Good N c ∧ Rel R N c
theorem sumC_congr {N N' : Nat → Int32} : ∀ {c : Nat}, (∀ m, m < c → N' (13 + 7 * m + 0) = N (13 + 7 * m + 0)) → sumC N' c = sumC N c
  | 0, _ => rfl
  | c + 1, h => by rw [sumC, sumC, sumC_congr (fun m hm => h m (Nat.lt_succ_of_lt hm)), h c (Nat.lt_succ_self c)]
theorem sumC_one {N N' : Nat → Int32} {k : Nat} : ∀ {c : Nat}, k < c → (∀ m, m < c → m ≠ k → N' (13 + 7 * m + 0) = N (13 + 7 * m + 0)) → sumC N' c = sumC N c + (N' (13 + 7 * k + 0) - N (13 + 7 * k + 0))
  | 0, hk, _ => absurd hk (Nat.not_lt_zero k)
  | c + 1, hk, h => by
    rw [sumC, sumC]
    by_cases e : k = c
    · subst e
      rw [sumC_congr (fun m hm => h m (by omega) (by omega))]
      grind
    · rw [sumC_one (by omega) (fun m hm => h m (by omega)), h c (by omega) (by omega)]
      grind
theorem Memb_congr {N N' : Nat → Int32} {m : Nat} (h : ∀ w, w < 7 → N' (13 + 7 * m + w) = N (13 + 7 * m + w)) (g : Memb N m) : Memb N' m := by
  unfold Memb at g ⊢
  rw [h 1 (by decide), h 2 (by decide), h 3 (by decide), h 4 (by decide), h 5 (by decide)]
  exact g
/-- a number that stands for a member, or for none -/
theorem mem_cases {c : Nat} (hc : c ≤ 6) (p : Int32) : (∃ m, m < c ∧ p = nI m) ∨ p < 0 ∨ ∃ m, c ≤ m ∧ m < 2 ^ 31 ∧ p = nI m := by
  by_cases h0 : p < 0
  · exact Or.inr (Or.inl h0)
  · obtain ⟨j, hj, rfl⟩ := nI_of h0
    by_cases h : j < c
    · exact Or.inl ⟨j, h, rfl⟩
    · exact Or.inr (Or.inr ⟨j, by omega, hj, rfl⟩)
def noM (c : Nat) (p : Int32) : Prop := p < 0 ∨ ∃ m, c ≤ m ∧ m < 2 ^ 31 ∧ p = nI m
theorem x0_isM {R : Nat → Int32} {c m : Nat} (h0 : R 0 = nI c) (hc : c ≤ 6) (hm : m < c) : f_X0_isMember R (nI m) = some (1, ()) := by
  rw [f_X0_isMember, if_neg (nI_pos (by omega)), cl0, h0, if_neg (nI_ge hm (by omega))]
theorem x0_noM {R : Nat → Int32} {c : Nat} {p : Int32} (h0 : R 0 = nI c) (hc : c ≤ 6) (h : noM c p) : f_X0_isMember R p = some (0, ()) := by
  rw [f_X0_isMember, cl0, h0]
  rcases h with h | ⟨m, h1, h2, rfl⟩
  · rw [if_pos h]
  · rw [if_neg (nI_pos h2), if_pos (nI_le h1 h2)]
theorem x8_in {p a b : Int32} : f_X8_in p a b = if p < a ∨ b < p then some (0, ()) else some (1, ()) := by
  rw [f_X8_in]
  by_cases h1 : p < a
  · rw [if_pos h1, if_pos (Or.inl h1)]
  · rw [if_neg h1]
    by_cases h2 : b < p
    · rw [if_pos h2, if_pos (Or.inr h2)]
    · rw [if_neg h2, if_neg (by simp [h1, h2])]
theorem x8_inY {p a b : Int32} (h1 : ¬ p < a) (h2 : ¬ b < p) : f_X8_in p a b = some (1, ()) := by rw [f_X8_in, if_neg h1, if_neg h2]
theorem x8_inN {p a b : Int32} (h : p < a ∨ b < p) : f_X8_in p a b = some (0, ()) := by rw [x8_in, if_pos h]
theorem pred_toInt {c : Nat} (hc : c ≤ 6) : (nI c - 1).toInt = (c : Int) - 1 := by
  rcases c with _ | _ | _ | _ | _ | _ | _ | c
  all_goals first | rfl | omega
theorem x8_isM {N : Nat → Int32} {c m : Nat} (h0 : N 0 = nI c) (hc : c ≤ 6) (hm : m < c) : f_X8_isMember N (nI m) = some (1, ()) := by
  rw [f_X8_isMember, cl0, h0, x8_inY (nI_pos (by omega)) (by rw [Int32.lt_iff_toInt_lt, pred_toInt hc, nI_toInt (by omega)]; omega), bS, cT j1]
theorem x8_noM {N : Nat → Int32} {c : Nat} {p : Int32} (h0 : N 0 = nI c) (hc : c ≤ 6) (h : noM c p) : f_X8_isMember N p = some (0, ()) := by
  rw [f_X8_isMember, cl0, h0, x8_inN, bS, cT j0]
  rcases h with h | ⟨m, h1, h2, rfl⟩
  · exact Or.inl h
  · exact Or.inr (by rw [Int32.lt_iff_toInt_lt, pred_toInt hc, nI_toInt h2]; omega)
theorem x8_thY {N : Nat → Int32} {c m : Nat} {a b d : Int32} (h0 : N 0 = nI c) (hc : c ≤ 6) (hm : m < c) : f_X8_isThere a b d N (nI m) = some (1, a, b, d) := by
  rw [f_X8_isThere, x8_isM h0 hc hm, bS, if_neg (by decide)]
theorem x8_thN {N : Nat → Int32} {c : Nat} {p a b d : Int32} (h0 : N 0 = nI c) (hc : c ≤ 6) (h : noM c p) : f_X8_isThere a b d N p = some (0, 4, nI c, 0) := by
  rw [f_X8_isThere, x8_noM h0 hc h, bS, if_pos rfl, cl0, h0, f_X8_refuses, bS, if_pos rfl]
/-- whether a member has wagered, has tapped -/
def wg (N : Nat → Int32) (m : Nat) : Int32 := if N (13 + 7 * m + 3) ≤ 0 then 0 else 1
def tp (N : Nat → Int32) (m : Nat) : Int32 := if N (13 + 7 * m + 4) = 1 then 1 else 0
theorem memb_guess {N : Nat → Int32} {m : Nat} (h : Memb N m) (hs : 0 < N (13 + 7 * m + 3)) : ∃ g, 700 ≤ g ∧ g ≤ 1100 ∧ N (13 + 7 * m + 2) = nI g := by
  rcases h.2.2 with h | h
  · rw [h.1] at hs; exact absurd hs (by decide)
  · exact h.2.1
theorem x8_wg {N : Nat → Int32} {m : Nat} (hm : m < 6) : f_X8_hasWagered N (nI m) = some (wg N m, ()) := by
  rw [f_X8_hasWagered, x8_of3 hm, bS, wg]
  split <;> rfl
theorem x0_wg {R N : Nat → Int32} {c m : Nat} (hR : Rel R N c) (hm : m < c) (hc : c ≤ 6) (hM : Memb N m) : f_X0_hasWagered R (nI m) = some (wg N m, ()) := by
  rw [f_X0_hasWagered, x0_of2 (by omega), bS, hR.2.2 m hm, wg]
  by_cases h : 0 < N (13 + 7 * m + 3)
  · obtain ⟨g, h1, h2, h3⟩ := memb_guess hM h
    rw [if_pos h, h3, if_neg (fun e => nI_pos (show g < 2 ^ 31 by omega) (by rw [show nI g = -1 from e]; decide)), if_neg (by grind)]
  · rw [if_neg h, if_pos rfl, if_pos (by grind)]
theorem x0_tp {R N : Nat → Int32} {c m : Nat} (hR : Rel R N c) (hm : m < c) (hc : c ≤ 6) : f_X0_hasTapped R (nI m) = some (tp N m, ()) := by
  rw [f_X0_hasTapped, x0_of4 (by omega), bS, hR.2.1 m hm 4 (by decide) (by decide), tp]
  split <;> rfl

