/-! ===== pure: kinds of commands, numbers of parts ===== -/
def kindB (p : Int32) : Bool := decide (p = 98) || decide (p = 100) || decide (p = 106) || decide (p = 109) || decide (p = 111) || decide (p = 114) || decide (p = 115) || decide (p = 116) || decide (p = 119) || decide (p = 120)
theorem kind_or {p : Int32} : kindB p = true ↔ p = 98 ∨ p = 100 ∨ p = 106 ∨ p = 109 ∨ p = 111 ∨ p = 114 ∨ p = 115 ∨ p = 116 ∨ p = 119 ∨ p = 120 := by
  simp only [kindB, Bool.or_eq_true, decide_eq_true_eq, or_assoc]
theorem x1_kY {p : Int32} (h : kindB p = true) : f_X1_isKind p = some (1, ()) := by
  rcases kind_or.mp h with rfl | rfl | rfl | rfl | rfl | rfl | rfl | rfl | rfl | rfl
  all_goals decide +kernel
theorem x1_kN {p : Int32} (h : ¬ kindB p = true) : f_X1_isKind p = some (0, ()) := by
  rw [kind_or] at h
  simp only [not_or] at h
  obtain ⟨h1, h2, h3, h4, h5, h6, h7, h8, h9, h10⟩ := h
  rw [f_X1_isKind, if_neg h1, if_neg h2, if_neg h3, if_neg h4, if_neg h5, if_neg h6, if_neg h7, if_neg h8, if_neg h9, if_neg h10]
theorem isPart_ok {c w : Nat} (hc : c < 60) (hw : w < 4) : f_X1_isPart (nI c) (nI w) = some (1, ()) := by
  rw [f_X1_isPart, if_neg (nI_pos (by omega)), if_neg (show ¬ (60 : Int32) ≤ nI c from nI_ge (b := 60) hc (by decide)), if_neg (nI_pos (by omega)), if_neg (show ¬ (4 : Int32) ≤ nI w from nI_ge (b := 4) hw (by decide))]
theorem ix_p {c w : Nat} : (nI c * (4 : Int32)) + nI w = nI (4 * c + w) := by
  rw [show (4 : Int32) = nI 4 from rfl, pk_mul, nI_add, Nat.mul_comm]
theorem setN {c w : Nat} {T : Nat → Int32} {v : Int32} (hc : c < 60) (hw : w < 4) : f_X1_setNumber T (nI c) (nI w) v = some (upd T (4 * c + w) v) := by
  rw [f_X1_setNumber, isPart_ok hc hw, bS, if_neg n10, ix_p, cT (inB_n (by omega) (by decide)), nI_clamp (by omega)]
theorem getN {c w : Nat} {T : Nat → Int32} (hc : c < 60) (hw : w < 4) : f_X1_number T (nI c) (nI w) = some (T (4 * c + w), ()) := by
  rw [f_X1_number, isPart_ok hc hw, bS, if_neg n10, ix_p, cT (inB_n (by omega) (by decide)), nI_clamp (by omega)]

