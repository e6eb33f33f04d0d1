/-! ===== pure: the text, the line's characters ===== -/
theorem okc {q : Nat} (h : q < 65536) : okN .char (nI q) = true := decide_eq_true (pk_charN h)
theorem vnc {q : Nat} (h : q < 65536) : vp_nar .char (nI q) = nI q := by
  rw [vp_nar, (pk_charN h).1]
def Txt (tL : Int32) (tC : Nat → Int32) (mH : Int32) (nX : Nat → Int32) : Prop :=
  ∃ l, l ≤ 60 ∧ tL = nI l ∧ mH = nI l ∧ ∀ j, j < l → tC j = nX j ∧ ∃ q, q < 65536 ∧ tC j = nI q
def Lin (lL : Int32) (lC : Nat → Int32) (mI : Int32) (nL : Nat → Int32) : Prop :=
  ∃ l, l ≤ 32 ∧ lL = nI l ∧ mI = nI l ∧ ∀ j, j < l → lC j = nL j ∧ ∃ q, q < 65536 ∧ lC j = nI q
