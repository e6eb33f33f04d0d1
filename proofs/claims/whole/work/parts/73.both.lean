/-! ===== pure: both scan a text alike ===== -/
def PASS (l : Nat) (g : Nat → Int32) (mU mR mD mJ mA mT : Int32) (nN nT nK : Nat → Int32) (m : Nat) (W : Int32) (D : Nat → Int32) (Q : Nat) : Option (Int32 × Int32 × Int32 × Int32 × Int32 × Int32 × Int32 × Int32 × Int32 × Int32 × Int32 × (Nat → Int32) × (Nat → Int32) × (Nat → Int32) × (Nat → Int32)) :=
  (f_X8_isCommand (nI l) (nI Q) W g D).bind (fun v => f_X8_commands_L19 g mU (nI l) (-1) mR mD mJ mA mT nN nT nK m v.1 v.2.1 v.2.2.1 v.2.2.2)
theorem ic_some {l Q : Nat} {f g D : Nat → Int32} {W : Int32} (H : TX l f g) (hQ : Q ≤ l) : ∃ z Qz W' D', (z = 0 ∨ z = 1) ∧ f_X8_isCommand (nI l) (nI Q) W g D = some (z, nI Qz, W', D') := by
  obtain ⟨Q1, F1, T1, -, -, -, h⟩ := cmd_ok (c := 0) (F := -1) (T := g) H hQ (by decide)
  rcases h with ⟨-, -, h⟩ | ⟨Qf, -, -, h⟩
  · obtain ⟨D2, h1, -⟩ := h W D
    exact ⟨1, Q1, g Q, D2, Or.inr rfl, h1⟩
  · obtain ⟨W', D2, h1⟩ := h W D
    exact ⟨0, Qf, W', D2, Or.inl rfl, h1⟩
