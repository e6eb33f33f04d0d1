/-! ===== pure: the law's first pass over a text ===== -/
theorem l19_0 {g nN nT nK D : Nat → Int32} {l Q m : Nat} {mU mR mD mJ mA mT W : Int32} : f_X8_commands_L19 g mU (nI l) (-1) mR mD mJ mA mT nN nT nK (m + 1) 0 (nI Q) W D = some (0, mU, 0, nI Q, W, nI Q, mR, mD, mJ, mA, 1, nN, nT, nK, D) := by
  rw [f_X8_commands_L19, if_pos rfl, if_pos rfl, f_X8_raises, bS]
theorem l19_e {g nN nT nK D : Nat → Int32} {l m : Nat} {mU mR mD mJ mA mT W : Int32} (hl : l ≤ 60) : f_X8_commands_L19 g mU (nI l) (-1) mR mD mJ mA mT nN nT nK (m + 1) 1 (nI l) W D = f_X8_commands_L94 g mU (nI l) (-1) mT nT nK FU (0 : Int32) (1 : Int32) (1 : Int32) (0 : Int32) W mR mD mJ mA nN D := by
  rw [f_X8_commands_L19, if_neg n10, if_pos (nI_le (Nat.le_refl l) (by omega)), if_neg n10]
theorem l19_s {g nN nT nK D : Nat → Int32} {l Q m : Nat} {mU mR mD mJ mA mT W : Int32} (hl : l ≤ 60) (h : Q < l) (ht : f_X8_takes (nI l) (nI Q) g 59 = some (0, nI Q)) : f_X8_commands_L19 g mU (nI l) (-1) mR mD mJ mA mT nN nT nK (m + 1 + 1) 1 (nI Q) W D = some (0, mU, 0, nI Q, W, nI Q, mR, mD, mJ, mA, 1, nN, nT, nK, D) := by
  rw [f_X8_commands_L19, if_neg n10, if_neg (nI_ge h (by omega)), ht, bS, if_pos rfl, l19_0]
theorem l19_c {g nN nT nK D D' : Nat → Int32} {l Q Qz m : Nat} {mU mR mD mJ mA mT W W' z : Int32} (hl : l ≤ 60) (h : Q < l) (ht : f_X8_takes (nI l) (nI Q) g 59 = some (1, nI (Q + 1))) (hz : z = 0 ∨ z = 1) (hi : f_X8_isCommand (nI l) (nI (Q + 1)) W g D = some (z, nI Qz, W', D')) :
    f_X8_commands_L19 g mU (nI l) (-1) mR mD mJ mA mT nN nT nK (m + 1) 1 (nI Q) W D = f_X8_commands_L19 g mU (nI l) (-1) mR mD mJ mA mT nN nT nK m z (nI Qz) W' D' := by
  rw [f_X8_commands_L19, if_neg n10, if_neg (nI_ge h (by omega)), ht, bS, if_neg n10, hi, bS]
  rcases hz with rfl | rfl
  · rw [if_pos rfl]
  · rw [if_neg n10]
