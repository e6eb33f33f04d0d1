/-! ===== pure: a wager is read; every command ===== -/
theorem cmd_119 {l Q c : Nat} {F : Int32} {f g T : Nat → Int32} (H : TX l f g) (h : Q < l) (hc : c < 60) (hk : g Q = 119) : cmdR l Q c F f g T := by
  have hl := H.1
  have hkk : kindB (119 : Int32) = true := by decide
  obtain ⟨v, v1, v2, v3⟩ := ic_head (D := T) (mW := 0) H h
  have nv : 0 ≤ v := v2.mpr (by rw [hk]; exact hkk)
  have nQ : ¬ nI Q = nI l := fun e => absurd (nI_of_lt e (by omega) (by omega)) (by omega)
  have iQ : inB (nI Q) 60 = true := inB_n (by omega) (by decide)
  have cQ : (nI Q).toNatClampNeg = Q := nI_clamp (by omega)
  rw [hk] at v1 v3
  obtain ⟨Q', v', q1, q2, q3⟩ := dig_ok (a := 1) (b := 1) (p := 0) (F := F) H (show Q + 1 ≤ l by omega) (by decide) (by decide) (by decide)
  have key : ∃ F0, f_X1_scanDigits (nI l) (nI (Q + 1)) F f (1 : Int32) (1 : Int32) = some (v', nI Q', F0) ∧ ((F0 = F ∧ ∀ D, f_X8_digits (nI l) (nI (Q + 1)) g D (nI 0) (nI 1) (nI 1) = some (1, nI Q', upd D 0 v')) ∨ (F0 = mk (nI Q') F ∧ ∀ D, f_X8_digits (nI l) (nI (Q + 1)) g D (nI 0) (nI 1) (nI 1) = some (0, nI Q', upd D 0 v'))) := by
    rcases q3 with ⟨q4, q5⟩ | ⟨q4, q5⟩
    · exact ⟨F, q4, Or.inl ⟨rfl, q5⟩⟩
    · exact ⟨_, q4, Or.inr ⟨rfl, q5⟩⟩
  obtain ⟨F0, q4, q5⟩ := key
  obtain ⟨Q1, F1, Q2, u', F2, s1, s2, s3, s4, s5⟩ := sd_ok (a := 3) (b := 4) (p := 1) (s := 61) (F := F0) H q2 (by decide) (by decide) (by decide) (by decide)
  obtain ⟨Q3, F3, Q4, w', F4, r1, r2, r3, r4, r5⟩ := sd_ok (a := 1) (b := 1) (p := 2) (s := 47) (F := F2) H s4 (by decide) (by decide) (by decide) (by decide)
  have hx : f_X1_scanCommand (nI l) (nI Q) F f T (nI c) = some (nI Q4, F4, upd (upd (upd (upd T (4 * c + 0) 119) (4 * c + 1) v') (4 * c + 2) u') (4 * c + 3) w') := by
    rw [f_X1_scanCommand, here_in H h, bS, hk, x1_kY hkk, bS, if_neg n10, setN0 hc, bS, if_neg (show ¬ (119 : Int32) = 100 by decide), if_neg (show ¬ (119 : Int32) = 114 by decide), nI_1, q4, bS, setN1 hc, bS, f_X1_scanBehindFirst, if_neg (show ¬ (119 : Int32) = 109 by decide), if_neg (show ¬ (119 : Int32) = 115 by decide), if_pos rfl, s1, bS, show f_X1_scanDigits (nI l) (nI Q1, F1).1 (nI Q1, F1).2 f (3 : Int32) (4 : Int32) = some (u', nI Q2, F2) from s2, bS, setN2 hc, bS, r1, bS, show f_X1_scanDigits (nI l) (nI Q3, F3).1 (nI Q3, F3).2 f (1 : Int32) (1 : Int32) = some (w', nI Q4, F4) from r2, bS, setN3 hc, bS, bS]
  refine ⟨Q4, F4, _, hx, r4, (fun j hj => by simp (disch := omega) only [upd_n]), ?_⟩
  rcases q5 with ⟨rfl, q5⟩ | ⟨rfl, q5⟩
  · rcases s5 with ⟨rfl, t1, t2⟩ | ⟨Qf, g1, rfl, t1⟩
    · rcases r5 with ⟨rfl, w1, w2⟩ | ⟨Qf, g1, rfl, w1⟩
      · refine Or.inl ⟨rfl, by omega, fun mW D => ⟨upd (upd (upd D 0 v') 1 u') 2 w', ?_, ?_⟩⟩
        · rw [f_X8_isCommand, if_neg nQ, cT iQ, cQ, hk, v1, bS, if_pos nv, cT iQ, cT v3, if_neg (show ¬ (119 : Int32) = 100 by decide), if_neg (show ¬ (119 : Int32) = 109 by decide), if_neg (show ¬ (119 : Int32) = 114 by decide), if_neg (show ¬ (119 : Int32) = 115 by decide), if_pos rfl, nI_1, show f_X8_digits (nI l) (nI (Q + 1)) g D (0 : Int32) (1 : Int32) (1 : Int32) = some (1, nI Q', upd D 0 v') from q5 D, bS, if_neg n10, t1, bS, if_neg n10, show f_X8_digits (nI l) (nI Q1) g (upd D 0 v') (1 : Int32) (3 : Int32) (4 : Int32) = some (1, nI Q2, upd (upd D 0 v') 1 u') from t2 _, bS, if_neg n10, w1, bS, if_neg n10, show f_X8_digits (nI l) (nI Q3) g (upd (upd D 0 v') 1 u') (2 : Int32) (1 : Int32) (1 : Int32) = some (1, nI Q4, upd (upd (upd D 0 v') 1 u') 2 w') from w2 _, bS, if_neg n10]
        · rw [hk]
          refine ⟨by simp (disch := omega) only [upd_s, upd_n], hkk, fun _ => by simp (disch := omega) only [upd_s, upd_n], fun _ => by simp (disch := omega) only [upd_s, upd_n], fun _ => by rw [upd_s, upd_s]⟩
      · refine Or.inr ⟨Qf, g1, rfl, fun mW D => ?_⟩
        rcases w1 with w1 | ⟨w1, w2⟩
        · refine ⟨119, upd (upd D 0 v') 1 u', ?_⟩
          rw [f_X8_isCommand, if_neg nQ, cT iQ, cQ, hk, v1, bS, if_pos nv, cT iQ, cT v3, if_neg (show ¬ (119 : Int32) = 100 by decide), if_neg (show ¬ (119 : Int32) = 109 by decide), if_neg (show ¬ (119 : Int32) = 114 by decide), if_neg (show ¬ (119 : Int32) = 115 by decide), if_pos rfl, nI_1, show f_X8_digits (nI l) (nI (Q + 1)) g D (0 : Int32) (1 : Int32) (1 : Int32) = some (1, nI Q', upd D 0 v') from q5 D, bS, if_neg n10, t1, bS, if_neg n10, show f_X8_digits (nI l) (nI Q1) g (upd D 0 v') (1 : Int32) (3 : Int32) (4 : Int32) = some (1, nI Q2, upd (upd D 0 v') 1 u') from t2 _, bS, if_neg n10, w1, bS, if_pos rfl]
        · refine ⟨119, upd (upd (upd D 0 v') 1 u') 2 w', ?_⟩
          rw [f_X8_isCommand, if_neg nQ, cT iQ, cQ, hk, v1, bS, if_pos nv, cT iQ, cT v3, if_neg (show ¬ (119 : Int32) = 100 by decide), if_neg (show ¬ (119 : Int32) = 109 by decide), if_neg (show ¬ (119 : Int32) = 114 by decide), if_neg (show ¬ (119 : Int32) = 115 by decide), if_pos rfl, nI_1, show f_X8_digits (nI l) (nI (Q + 1)) g D (0 : Int32) (1 : Int32) (1 : Int32) = some (1, nI Q', upd D 0 v') from q5 D, bS, if_neg n10, t1, bS, if_neg n10, show f_X8_digits (nI l) (nI Q1) g (upd D 0 v') (1 : Int32) (3 : Int32) (4 : Int32) = some (1, nI Q2, upd (upd D 0 v') 1 u') from t2 _, bS, if_neg n10, w1, bS, if_neg n10, show f_X8_digits (nI l) (nI Q3) g (upd (upd D 0 v') 1 u') (2 : Int32) (1 : Int32) (1 : Int32) = some (0, nI Qf, upd (upd (upd D 0 v') 1 u') 2 w') from w2 _, bS, if_pos rfl]
    · have hF4 : F4 = mk (nI Qf) F0 := by
        rcases r5 with ⟨e, -, -⟩ | ⟨Qg, -, e, -⟩
        · exact e
        · rw [e, mk_mk (by omega)]
      refine Or.inr ⟨Qf, g1, hF4, fun mW D => ?_⟩
      rcases t1 with t1 | ⟨t1, t2⟩
      · refine ⟨119, upd D 0 v', ?_⟩
        rw [f_X8_isCommand, if_neg nQ, cT iQ, cQ, hk, v1, bS, if_pos nv, cT iQ, cT v3, if_neg (show ¬ (119 : Int32) = 100 by decide), if_neg (show ¬ (119 : Int32) = 109 by decide), if_neg (show ¬ (119 : Int32) = 114 by decide), if_neg (show ¬ (119 : Int32) = 115 by decide), if_pos rfl, nI_1, show f_X8_digits (nI l) (nI (Q + 1)) g D (0 : Int32) (1 : Int32) (1 : Int32) = some (1, nI Q', upd D 0 v') from q5 D, bS, if_neg n10, t1, bS, if_pos rfl]
      · refine ⟨119, upd (upd D 0 v') 1 u', ?_⟩
        rw [f_X8_isCommand, if_neg nQ, cT iQ, cQ, hk, v1, bS, if_pos nv, cT iQ, cT v3, if_neg (show ¬ (119 : Int32) = 100 by decide), if_neg (show ¬ (119 : Int32) = 109 by decide), if_neg (show ¬ (119 : Int32) = 114 by decide), if_neg (show ¬ (119 : Int32) = 115 by decide), if_pos rfl, nI_1, show f_X8_digits (nI l) (nI (Q + 1)) g D (0 : Int32) (1 : Int32) (1 : Int32) = some (1, nI Q', upd D 0 v') from q5 D, bS, if_neg n10, t1, bS, if_neg n10, show f_X8_digits (nI l) (nI Q1) g (upd D 0 v') (1 : Int32) (3 : Int32) (4 : Int32) = some (0, nI Qf, upd (upd D 0 v') 1 u') from t2 _, bS, if_pos rfl]
  · have hF2 : F2 = mk (nI Q') F := by
      rcases s5 with ⟨e, -, -⟩ | ⟨Qf, -, e, -⟩
      · exact e
      · rw [e, mk_mk (by omega)]
    have hF4 : F4 = mk (nI Q') F := by
      rcases r5 with ⟨e, -, -⟩ | ⟨Qg, -, e, -⟩
      · rw [e, hF2]
      · rw [e, hF2, mk_mk (by omega)]
    refine Or.inr ⟨Q', q2, hF4, fun mW D => ⟨119, upd D 0 v', ?_⟩⟩
    rw [f_X8_isCommand, if_neg nQ, cT iQ, cQ, hk, v1, bS, if_pos nv, cT iQ, cT v3, if_neg (show ¬ (119 : Int32) = 100 by decide), if_neg (show ¬ (119 : Int32) = 109 by decide), if_neg (show ¬ (119 : Int32) = 114 by decide), if_neg (show ¬ (119 : Int32) = 115 by decide), if_pos rfl, nI_1, show f_X8_digits (nI l) (nI (Q + 1)) g D (0 : Int32) (1 : Int32) (1 : Int32) = some (0, nI Q', upd D 0 v') from q5 D, bS, if_pos rfl]
theorem cmd_ok {l Q c : Nat} {F : Int32} {f g T : Nat → Int32} (H : TX l f g) (hQ : Q ≤ l) (hc : c < 60) : cmdR l Q c F f g T := by
  by_cases h : Q < l ∧ kindB (g Q) = true
  · obtain ⟨h, hk⟩ := h
    rcases kind_or.mp hk with e | e | e | e | e | e | e | e | e | e
    · exact cmd_98 H h hc e
    · exact cmd_100 H h hc e
    · exact cmd_106 H h hc e
    · exact cmd_109 H h hc e
    · exact cmd_111 H h hc e
    · exact cmd_114 H h hc e
    · exact cmd_115 H h hc e
    · exact cmd_116 H h hc e
    · exact cmd_119 H h hc e
    · exact cmd_120 H h hc e
  · exact cmd_no H hQ hc h
