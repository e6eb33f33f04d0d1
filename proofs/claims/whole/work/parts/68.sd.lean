/-! ===== pure: a sign and the digits behind it ===== -/
theorem sd_ok {l Q a b p : Nat} {f g : Nat → Int32} {F s : Int32} (H : TX l f g) (hQ : Q ≤ l) (hs : ¬ 0 = s) (hp : p < 3) (hab : a ≤ b) (hb : b < 100) :
    ∃ Q1 F1 Q' v' F', f_X1_scanSign (nI l) (nI Q) F f s = some (nI Q1, F1) ∧ f_X1_scanDigits (nI l) (nI Q1) F1 f (nI a) (nI b) = some (v', nI Q', F') ∧ Q ≤ Q' ∧ Q' ≤ l ∧
      ((F' = F ∧ f_X8_takes (nI l) (nI Q) g s = some (1, nI Q1) ∧ ∀ D, f_X8_digits (nI l) (nI Q1) g D (nI p) (nI a) (nI b) = some (1, nI Q', upd D p v')) ∨
        ∃ Qf, Qf ≤ l ∧ F' = mk (nI Qf) F ∧ (f_X8_takes (nI l) (nI Q) g s = some (0, nI Qf) ∨ (f_X8_takes (nI l) (nI Q) g s = some (1, nI Q1) ∧ ∀ D, f_X8_digits (nI l) (nI Q1) g D (nI p) (nI a) (nI b) = some (0, nI Qf, upd D p v')))) := by
  have hl := H.1
  by_cases hB : Q < l ∧ g Q = s
  · obtain ⟨h, h43⟩ := hB
    obtain ⟨s1, s2⟩ := sign_y (F := F) H h h43
    obtain ⟨Q', v', q1, q2, q3⟩ := dig_ok (a := a) (b := b) (p := p) (F := F) H (show Q + 1 ≤ l by omega) hp hab hb
    rcases q3 with ⟨q4, q5⟩ | ⟨q4, q5⟩
    · exact ⟨Q + 1, F, Q', v', F, s1, q4, by omega, q2, Or.inl ⟨rfl, s2, q5⟩⟩
    · exact ⟨Q + 1, F, Q', v', mk (nI Q') F, s1, q4, by omega, q2, Or.inr ⟨Q', q2, rfl, Or.inr ⟨s2, q5⟩⟩⟩
  · obtain ⟨s1, s2⟩ := sign_n (F := F) (p := s) H hQ hs hB
    obtain ⟨Q', v', q1, q2, q3⟩ := dig_ok (a := a) (b := b) (p := p) (F := mk (nI Q) F) H hQ hp hab hb
    rcases q3 with ⟨q4, q5⟩ | ⟨q4, q5⟩
    · exact ⟨Q, mk (nI Q) F, Q', v', mk (nI Q) F, s1, q4, q1, q2, Or.inr ⟨Q, hQ, rfl, Or.inl s2⟩⟩
    · exact ⟨Q, mk (nI Q) F, Q', v', mk (nI Q) F, s1, by rw [q4, mk_mk (by omega)], q1, q2, Or.inr ⟨Q, hQ, rfl, Or.inl s2⟩⟩
