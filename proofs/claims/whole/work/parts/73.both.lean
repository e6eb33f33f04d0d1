/-! ===== pure: both scan a text alike ===== -/
def PASS (l : Nat) (g : Nat → Int32) (mU mR mD mJ mA mT : Int32) (nN nT nK : Nat → Int32) (m : Nat) (W : Int32) (D : Nat → Int32) (Q : Nat) : Option (Int32 × Int32 × Int32 × Int32 × Int32 × Int32 × Int32 × Int32 × Int32 × Int32 × Int32 × (Nat → Int32) × (Nat → Int32) × (Nat → Int32) × (Nat → Int32)) :=
  (f_X8_isCommand (nI l) (nI Q) W g D).bind (fun v => f_X8_commands_L19 g mU (nI l) (-1) mR mD mJ mA mT nN nT nK m v.1 v.2.1 v.2.2.1 v.2.2.2)
theorem ic_some {l Q : Nat} {f g D : Nat → Int32} {W : Int32} (H : TX l f g) (hQ : Q ≤ l) : ∃ z Qz W' D', (z = 0 ∨ z = 1) ∧ f_X8_isCommand (nI l) (nI Q) W g D = some (z, nI Qz, W', D') := by
  obtain ⟨Q1, F1, T1, -, -, -, h⟩ := cmd_ok (c := 0) (F := -1) (T := g) H hQ (by decide)
  rcases h with ⟨-, -, h⟩ | ⟨Qf, -, -, h⟩
  · obtain ⟨D2, h1, -⟩ := h W D
    exact ⟨1, Q1, g Q, D2, Or.inr rfl, h1⟩
  · obtain ⟨W', D2, h1⟩ := h W D
    exact ⟨0, Qf, W', D2, Or.inl rfl, h1⟩
theorem scan_b {l : Nat} {f g : Nat → Int32} {mU mR mD mJ mA mT : Int32} {nN nT nK : Nat → Int32} (H : TX l f g) : ∀ k c Q n T tS, l ≤ Q + k → 2 * c ≤ Q → Q ≤ l → k + 1 < n →
    ∃ F' S' Q' T', f_X1_scan_L17 (nI l) f n (nI c) tS (nI Q) (-1) T = some (F', S', Q', F', T') ∧ (∀ j, j < 4 * c → T' j = T j) ∧
      ((F' = -1 ∧ (∃ r, S' = nI (c + r) ∧ 2 * (c + r) ≤ l + 2 ∧ Prs T' l g r c Q) ∧ ∀ m W D, k + 2 < m → ∃ W' D', PASS l g mU mR mD mJ mA mT nN nT nK m W D Q = f_X8_commands_L94 g mU (nI l) (-1) mT nT nK FU (0 : Int32) (1 : Int32) (1 : Int32) (0 : Int32) W' mR mD mJ mA nN D') ∨
        ∃ Qf, Qf ≤ l ∧ F' = nI Qf ∧ ∀ m W D, k + 2 < m → ∃ W' D', PASS l g mU mR mD mJ mA mT nN nT nK m W D Q = some (0, mU, 0, nI Qf, W', nI Qf, mR, mD, mJ, mA, 1, nN, nT, nK, D'))
  | k, c, Q, 0, T, tS, _, _, _, hn => absurd hn (Nat.not_lt_zero _)
  | k, c, Q, n + 1, T, tS, hk, h2, hQ, hn => by
    have hl := H.1
    have hc : c < 60 := by omega
    have nc : ¬ (60 : Int32) ≤ nI c := nI_ge (b := 60) hc (by decide)
    obtain ⟨Q1, F1, T1, a1, a2, a3, a4⟩ := cmd_ok (F := -1) (T := T) H hQ hc
    rcases a4 with ⟨rfl, b1, b2⟩ | ⟨Qf, b1, rfl, b2⟩
    · by_cases h : Q1 < l
      · by_cases hs : g Q1 = 59
        · obtain ⟨s1, s2⟩ := sign_y (F := -1) H h hs
          obtain ⟨k', rfl⟩ : ∃ k', k = k' + 1 := ⟨k - 1, by omega⟩
          obtain ⟨F', S', Q', T', d1, d2, d3⟩ := scan_b (mU := mU) (mR := mR) (mD := mD) (mJ := mJ) (mA := mA) (mT := mT) (nN := nN) (nT := nT) (nK := nK) H k' (c + 1) (Q1 + 1) n T1 (nI (c + 1)) (by omega) (by omega) (by omega) (by omega)
          have hp : ∀ m W D, k' + 1 + 2 < m → ∃ m' W' D', k' + 2 < m' ∧ PASS l g mU mR mD mJ mA mT nN nT nK m W D Q = PASS l g mU mR mD mJ mA mT nN nT nK m' W' D' (Q1 + 1) := fun m W D hm => by
            obtain ⟨m', rfl⟩ : ∃ m', m = m' + 1 := ⟨m - 1, by omega⟩
            obtain ⟨D2, x1, -⟩ := b2 W D
            obtain ⟨z, Qz, W', D', hz, hi⟩ := ic_some (D := D2) (W := g Q) H (show Q1 + 1 ≤ l by omega)
            refine ⟨m', g Q, D2, by omega, ?_⟩
            rw [PASS, x1, bS, PASS, hi, bS]
            exact l19_c hl h s2 hz hi
          refine ⟨F', S', Q', T', ?_, fun j hj => by rw [d2 j (by omega), a3 j hj], ?_⟩
          · rw [f_X1_scan_L17, if_neg nc, a1, bS, if_pos rfl, if_pos (nI_lt h (by omega)), s1, bS, nI_1, d1]
          · rcases d3 with ⟨e1, ⟨r, e2, e3, e4⟩, e5⟩ | ⟨Qf, e1, e2, e3⟩
            · refine Or.inl ⟨e1, ⟨r + 1, by rw [e2, show c + 1 + r = c + (r + 1) by omega], by omega, Q1, a2, b1, fun mW D => ?_, Or.inr ⟨h, hs, e4⟩⟩, fun m W D hm => ?_⟩
              · obtain ⟨D2, x1, x2⟩ := b2 mW D
                exact ⟨D2, x1, cells_congr d2 x2⟩
              · obtain ⟨m', W', D', m1, m2⟩ := hp m W D hm
                rw [m2]
                exact e5 m' W' D' m1
            · refine Or.inr ⟨Qf, e1, e2, fun m W D hm => ?_⟩
              obtain ⟨m', W', D', m1, m2⟩ := hp m W D hm
              rw [m2]
              exact e3 m' W' D' m1
        · obtain ⟨s1, s2⟩ := sign_n (F := -1) (p := 59) H a2 (by decide) (fun e => hs e.2)
          rw [mk_1] at s1
          obtain ⟨n', rfl⟩ : ∃ n', n = n' + 1 := ⟨n - 1, by omega⟩
          obtain ⟨Q2, T2, x1, x2⟩ := cmd_keep (T := T1) (c := c + 1) H a2 (by omega) (neg1 (show Q1 < 2 ^ 31 by omega))
          refine ⟨nI Q1, nI (c + 1 + 1), nI Q2, T2, ?_, fun j hj => by rw [x2 j (by omega), a3 j hj], Or.inr ⟨Q1, a2, rfl, fun m W D hm => ?_⟩⟩
          · rw [f_X1_scan_L17, if_neg nc, a1, bS, if_pos rfl, if_pos (nI_lt h (by omega)), s1, bS, nI_1, f_X1_scan_L17, if_neg (show ¬ (60 : Int32) ≤ nI (c + 1) from nI_ge (b := 60) (by omega) (by decide)), x1, bS, if_neg (neg1 (show Q1 < 2 ^ 31 by omega)), nI_1]
          · obtain ⟨m', rfl⟩ : ∃ m', m = m' + 1 + 1 := ⟨m - 2, by omega⟩
            obtain ⟨D2, y1, -⟩ := b2 W D
            refine ⟨g Q, D2, ?_⟩
            rw [PASS, y1, bS]
            exact l19_s hl h s2
      · have eQ : Q1 = l := by omega
        refine ⟨-1, nI (c + 1), nI Q1, T1, ?_, a3, Or.inl ⟨rfl, ⟨1, rfl, by omega, Q1, a2, b1, b2, Or.inl ⟨rfl, eQ⟩⟩, fun m W D hm => ?_⟩⟩
        · rw [f_X1_scan_L17, if_neg nc, a1, bS, if_pos rfl, if_neg (nI_nlt (by omega) (by omega)), nI_1]
        · obtain ⟨m', rfl⟩ : ∃ m', m = m' + 1 := ⟨m - 1, by omega⟩
          obtain ⟨D2, y1, -⟩ := b2 W D
          refine ⟨g Q, D2, ?_⟩
          rw [PASS, y1, bS, eQ]
          exact l19_e hl
    · refine ⟨nI Qf, nI (c + 1), nI Q1, T1, ?_, a3, Or.inr ⟨Qf, b1, rfl, fun m W D hm => ?_⟩⟩
      · rw [f_X1_scan_L17, if_neg nc, a1, bS, mk_1, if_neg (neg1 (show Qf < 2 ^ 31 by omega)), nI_1]
      · obtain ⟨m', rfl⟩ : ∃ m', m = m' + 1 := ⟨m - 1, by omega⟩
        obtain ⟨W', D2, y1⟩ := b2 W D
        refine ⟨W', D2, ?_⟩
        rw [PASS, y1, bS]
        exact l19_0
