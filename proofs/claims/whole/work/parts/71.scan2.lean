/-! ===== pure: the class scans a text ===== -/
theorem scan_l {l : Nat} {f g : Nat → Int32} (H : TX l f g) : ∀ k c Q n T tS, l ≤ Q + k → 2 * c ≤ Q → Q ≤ l → k + 1 < n →
    ∃ F' S' Q' T', f_X1_scan_L17 (nI l) f n (nI c) tS (nI Q) (-1) T = some (F', S', Q', F', T') ∧ (∀ j, j < 4 * c → T' j = T j) ∧
      ((F' = -1 ∧ ∃ r, S' = nI (c + r) ∧ 2 * (c + r) ≤ l + 2 ∧ Prs T' l g r c Q) ∨ ∃ Qf, Qf ≤ l ∧ F' = nI Qf)
  | k, c, Q, 0, T, tS, _, _, _, hn => absurd hn (Nat.not_lt_zero _)
  | k, c, Q, n + 1, T, tS, hk, h2, hQ, hn => by
    have hl := H.1
    have hc : c < 60 := by omega
    have nc : ¬ (60 : Int32) ≤ nI c := nI_ge (b := 60) hc (by decide)
    obtain ⟨Q1, F1, T1, a1, a2, a3, a4⟩ := cmd_ok (F := -1) (T := T) H hQ hc
    rcases a4 with ⟨rfl, b1, b2⟩ | ⟨Qf, b1, rfl, b2⟩
    · by_cases h : Q1 < l
      · by_cases hs : g Q1 = 59
        · obtain ⟨s1, -⟩ := sign_y (F := -1) H h hs
          obtain ⟨k', rfl⟩ : ∃ k', k = k' + 1 := ⟨k - 1, by omega⟩
          obtain ⟨F', S', Q', T', d1, d2, d3⟩ := scan_l H k' (c + 1) (Q1 + 1) n T1 (nI (c + 1)) (by omega) (by omega) (by omega) (by omega)
          refine ⟨F', S', Q', T', ?_, fun j hj => by rw [d2 j (by omega), a3 j hj], ?_⟩
          · rw [f_X1_scan_L17, if_neg nc, a1, bS, if_pos rfl, if_pos (nI_lt h (by omega)), s1, bS, nI_1, d1]
          · rcases d3 with ⟨e1, r, e2, e3, e4⟩ | e
            · refine Or.inl ⟨e1, r + 1, by rw [e2, show c + 1 + r = c + (r + 1) by omega], by omega, Q1, a2, b1, fun mW D => ?_, Or.inr ⟨h, hs, e4⟩⟩
              obtain ⟨D2, x1, x2⟩ := b2 mW D
              exact ⟨D2, x1, cells_congr d2 x2⟩
            · exact Or.inr e
        · obtain ⟨s1, -⟩ := sign_n (F := -1) (p := 59) H a2 (by decide) (fun e => hs e.2)
          rw [mk_1] at s1
          obtain ⟨n', rfl⟩ : ∃ n', n = n' + 1 := ⟨n - 1, by omega⟩
          obtain ⟨Q2, T2, x1, x2⟩ := cmd_keep (T := T1) (c := c + 1) H a2 (by omega) (neg1 (show Q1 < 2 ^ 31 by omega))
          refine ⟨nI Q1, nI (c + 1 + 1), nI Q2, T2, ?_, fun j hj => by rw [x2 j (by omega), a3 j hj], Or.inr ⟨Q1, a2, rfl⟩⟩
          rw [f_X1_scan_L17, if_neg nc, a1, bS, if_pos rfl, if_pos (nI_lt h (by omega)), s1, bS, nI_1, f_X1_scan_L17, if_neg (show ¬ (60 : Int32) ≤ nI (c + 1) from nI_ge (b := 60) (by omega) (by decide)), x1, bS, if_neg (neg1 (show Q1 < 2 ^ 31 by omega)), nI_1]
      · refine ⟨-1, nI (c + 1), nI Q1, T1, ?_, a3, Or.inl ⟨rfl, 1, rfl, by omega, Q1, a2, b1, b2, Or.inl ⟨rfl, by omega⟩⟩⟩
        rw [f_X1_scan_L17, if_neg nc, a1, bS, if_pos rfl, if_neg (nI_nlt (by omega) (by omega)), nI_1]
    · refine ⟨nI Qf, nI (c + 1), nI Q1, T1, ?_, a3, Or.inr ⟨Qf, b1, rfl⟩⟩
      rw [f_X1_scan_L17, if_neg nc, a1, bS, mk_1, if_neg (neg1 (show Qf < 2 ^ 31 by omega)), nI_1]
