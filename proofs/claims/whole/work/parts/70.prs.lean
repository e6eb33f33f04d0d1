/-! ===== pure: a text of commands ===== -/
theorem cells_congr {T T' : Nat → Int32} {c : Nat} {W : Int32} {D : Nat → Int32} (h : ∀ j, j < 4 * (c + 1) → T' j = T j) (H : cells T c W D) : cells T' c W D := by
  obtain ⟨h1, h2, h3, h4, h5⟩ := H
  exact ⟨by rw [h _ (by omega), h1], h2, fun e => by rw [h _ (by omega), h3 e], fun e => by rw [h _ (by omega), h4 e], fun e => by rw [h _ (by omega), h5 e]⟩
def Prs (T : Nat → Int32) (l : Nat) (g : Nat → Int32) : Nat → Nat → Nat → Prop
  | 0, _, _ => False
  | r + 1, c, Q => ∃ Q1, Q1 ≤ l ∧ Q < Q1 ∧ (∀ mW D, ∃ D2, f_X8_isCommand (nI l) (nI Q) mW g D = some (1, nI Q1, g Q, D2) ∧ cells T c (g Q) D2) ∧
      ((r = 0 ∧ Q1 = l) ∨ (Q1 < l ∧ g Q1 = 59 ∧ Prs T l g r (c + 1) (Q1 + 1)))
theorem cmd_keep {l Q c : Nat} {F : Int32} {f g T : Nat → Int32} (H : TX l f g) (hQ : Q ≤ l) (hc : c < 60) (hF : ¬ F = -1) : ∃ Q1 T1, f_X1_scanCommand (nI l) (nI Q) F f T (nI c) = some (nI Q1, F, T1) ∧ (∀ j, j < 4 * c → T1 j = T j) := by
  obtain ⟨Q1, F1, T1, h1, -, h3, h4⟩ := cmd_ok (F := F) (T := T) H hQ hc
  have e : F1 = F := by
    rcases h4 with ⟨e, -⟩ | ⟨Qf, -, e, -⟩
    · exact e
    · rw [e, mk_n hF]
  rw [e] at h1
  exact ⟨Q1, T1, h1, h3⟩
