/-! ===== pure: a change is read ===== -/
theorem chg_ok {l Q : Nat} {f g : Nat → Int32} {F : Int32} (H : TX l f g) (hQ : Q ≤ l) : ∃ Q' v' F', Q ≤ Q' ∧ Q' ≤ l ∧ f_X1_scanChange (nI l) (nI Q) F f = some (v', nI Q', F') ∧
    ((F' = F ∧ ∀ D, f_X8_isChange (nI l) (nI Q) g D = some (1, nI Q', upd D 0 v')) ∨ ∃ Qf, Qf ≤ l ∧ F' = mk (nI Qf) F ∧ ∀ D, ∃ D', f_X8_isChange (nI l) (nI Q) g D = some (0, nI Qf, D')) := by
  have hl := H.1
  by_cases hA : Q < l ∧ g Q = 45
  · obtain ⟨h, h45⟩ := hA
    obtain ⟨s1, s2⟩ := sign_y (F := F) H h h45
    obtain ⟨Q', v', q1, q2, q3⟩ := dig_ok (a := 1) (b := 2) (p := 0) (F := F) H (show Q + 1 ≤ l by omega) (by decide) (by decide) (by decide)
    have hx : f_X1_scanChange (nI l) (nI Q) F f = (f_X1_scanDigits (nI l) (nI (Q + 1)) F f (nI 1) (nI 2)).bind (fun v9 => (some (-v9.1, (v9.2.1, v9.2.2)))) := by
      rw [f_X1_scanChange, here_in H h, bS, if_pos h45, s1, bS]
      rfl
    have hy : ∀ D, f_X8_isChange (nI l) (nI Q) g D = (f_X8_digits (nI l) (nI (Q + 1)) g D (nI 0) (nI 1) (nI 2)).bind (fun v19 => (if v19.1 = (0 : Int32) then (some ((0 : Int32), (v19.2.1, v19.2.2))) else (some ((1 : Int32), (v19.2.1, upd v19.2.2 (0 : Int32).toNatClampNeg (-(v19.2.2 (0 : Int32).toNatClampNeg))))))) := fun D => by
      rw [f_X8_isChange, if_neg (nI_ge h (by omega)), cT (inB_n (by omega) (by decide)), nI_clamp (by omega), if_pos h45, s2, bS, if_neg n10]
      rfl
    rcases q3 with ⟨q4, q5⟩ | ⟨q4, q5⟩
    · refine ⟨Q', -v', F, by omega, q2, by rw [hx, q4, bS], Or.inl ⟨rfl, fun D => ?_⟩⟩
      rw [hy, q5, bS, if_neg n10, cl0]
      show some ((1 : Int32), nI Q', upd (upd D 0 v') 0 (-(upd D 0 v' 0))) = some (1, nI Q', upd D 0 (-v'))
      rw [upd_s, upd_u]
    · exact ⟨Q', -v', mk (nI Q') F, by omega, q2, by rw [hx, q4, bS], Or.inr ⟨Q', q2, rfl, fun D => ⟨_, by rw [hy, q5, bS, if_pos rfl]⟩⟩⟩
  · by_cases hB : Q < l ∧ g Q = 43
    · obtain ⟨h, h43⟩ := hB
      have h45 : ¬ g Q = 45 := fun e => hA ⟨h, e⟩
      obtain ⟨s1, s2⟩ := sign_y (F := F) H h h43
      obtain ⟨Q', v', q1, q2, q3⟩ := dig_ok (a := 1) (b := 2) (p := 0) (F := F) H (show Q + 1 ≤ l by omega) (by decide) (by decide) (by decide)
      have hx : f_X1_scanChange (nI l) (nI Q) F f = (f_X1_scanDigits (nI l) (nI (Q + 1)) F f (nI 1) (nI 2)).bind (fun v5 => (some (v5.1, (v5.2.1, v5.2.2)))) := by
        rw [f_X1_scanChange, here_in H h, bS, if_neg h45, s1, bS]
        rfl
      have hy : ∀ D, f_X8_isChange (nI l) (nI Q) g D = (f_X8_digits (nI l) (nI (Q + 1)) g D (nI 0) (nI 1) (nI 2)).bind (fun v13 => (if v13.1 = (0 : Int32) then (some ((0 : Int32), (v13.2.1, v13.2.2))) else (some ((1 : Int32), (v13.2.1, v13.2.2))))) := fun D => by
        rw [f_X8_isChange, if_neg (nI_ge h (by omega)), cT (inB_n (by omega) (by decide)), nI_clamp (by omega), if_neg h45, s2, bS, if_neg n10]
        rfl
      rcases q3 with ⟨q4, q5⟩ | ⟨q4, q5⟩
      · refine ⟨Q', v', F, by omega, q2, by rw [hx, q4, bS], Or.inl ⟨rfl, fun D => ?_⟩⟩
        rw [hy, q5, bS, if_neg n10]
      · exact ⟨Q', v', mk (nI Q') F, by omega, q2, by rw [hx, q4, bS], Or.inr ⟨Q', q2, rfl, fun D => ⟨_, by rw [hy, q5, bS, if_pos rfl]⟩⟩⟩
    · obtain ⟨s1, s2⟩ := sign_n (F := F) (p := 43) H hQ (by decide) hB
      obtain ⟨Q', v', q1, q2, q3⟩ := dig_ok (a := 1) (b := 2) (p := 0) (F := mk (nI Q) F) H hQ (by decide) (by decide) (by decide)
      have hx : f_X1_scanChange (nI l) (nI Q) F f = (f_X1_scanDigits (nI l) (nI Q) (mk (nI Q) F) f (nI 1) (nI 2)).bind (fun v5 => (some (v5.1, (v5.2.1, v5.2.2)))) := by
        rw [f_X1_scanChange]
        by_cases h : Q < l
        · rw [here_in H h, bS, if_neg (fun e => hA ⟨h, e⟩), s1, bS]
          rfl
        · rw [here_out hl (by omega) (by omega), bS, if_neg (by decide), s1, bS]
          rfl
      have hy : ∀ D, f_X8_isChange (nI l) (nI Q) g D = some (0, nI Q, D) := fun D => by
        rw [f_X8_isChange]
        by_cases h : Q < l
        · rw [if_neg (nI_ge h (by omega)), cT (inB_n (by omega) (by decide)), nI_clamp (by omega), if_neg (fun e => hA ⟨h, e⟩), s2, bS, if_pos rfl]
        · rw [if_pos (nI_le (by omega) (by omega)), s2, bS, if_pos rfl]
      refine ⟨Q', v', mk (nI Q) F, q1, q2, ?_, Or.inr ⟨Q, hQ, rfl, fun D => ⟨D, hy D⟩⟩⟩
      rcases q3 with ⟨q4, -⟩ | ⟨q4, -⟩
      · rw [hx, q4, bS]
      · rw [hx, q4, bS, mk_mk (by omega)]

