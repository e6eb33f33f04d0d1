/-! ===== pure: one command is read ===== -/
theorem setN0 {c : Nat} {T : Nat → Int32} {v : Int32} (hc : c < 60) : f_X1_setNumber T (nI c) (0 : Int32) v = some (upd T (4 * c + 0) v) := setN (w := 0) hc (by decide)
theorem setN1 {c : Nat} {T : Nat → Int32} {v : Int32} (hc : c < 60) : f_X1_setNumber T (nI c) (1 : Int32) v = some (upd T (4 * c + 1) v) := setN (w := 1) hc (by decide)
theorem setN2 {c : Nat} {T : Nat → Int32} {v : Int32} (hc : c < 60) : f_X1_setNumber T (nI c) (2 : Int32) v = some (upd T (4 * c + 2) v) := setN (w := 2) hc (by decide)
theorem setN3 {c : Nat} {T : Nat → Int32} {v : Int32} (hc : c < 60) : f_X1_setNumber T (nI c) (3 : Int32) v = some (upd T (4 * c + 3) v) := setN (w := 3) hc (by decide)
def cells (T : Nat → Int32) (c : Nat) (W : Int32) (D : Nat → Int32) : Prop :=
  T (4 * c + 0) = W ∧ kindB W = true ∧ (W ≠ 114 → T (4 * c + 1) = D 0) ∧ (W = 109 ∨ W = 115 ∨ W = 119 → T (4 * c + 2) = D 1) ∧ (W = 119 → T (4 * c + 3) = D 2)
def cmdR (l Q c : Nat) (F : Int32) (f g T : Nat → Int32) : Prop :=
  ∃ Q1 F1 T1, f_X1_scanCommand (nI l) (nI Q) F f T (nI c) = some (nI Q1, F1, T1) ∧ Q1 ≤ l ∧ (∀ j, j < 4 * c → T1 j = T j) ∧
    ((F1 = F ∧ Q < Q1 ∧ ∀ mW D, ∃ D2, f_X8_isCommand (nI l) (nI Q) mW g D = some (1, nI Q1, g Q, D2) ∧ cells T1 c (g Q) D2) ∨
      ∃ Qf, Qf ≤ l ∧ F1 = mk (nI Qf) F ∧ ∀ mW D, ∃ W' D2, f_X8_isCommand (nI l) (nI Q) mW g D = some (0, nI Qf, W', D2))
theorem ic_head {l Q : Nat} {f g D : Nat → Int32} {mW : Int32} (H : TX l f g) (h : Q < l) : ∃ v, f_J0_indexOf_0f7a4 (g Q) = some (v, ()) ∧ (0 ≤ v ↔ kindB (g Q) = true) ∧ okN .char (g Q) = true := by
  obtain ⟨e1, q, hq, e2⟩ := H.2 Q h
  rw [← e1, e2]
  obtain ⟨v, v1, v2⟩ := ix_ok hq
  exact ⟨v, v1, v2, okc hq⟩
theorem cmd_no {l Q c : Nat} {F : Int32} {f g T : Nat → Int32} (H : TX l f g) (hQ : Q ≤ l) (hc : c < 60) (hk : ¬ (Q < l ∧ kindB (g Q) = true)) : cmdR l Q c F f g T := by
  have hl := H.1
  by_cases h : Q < l
  · have hn : ¬ kindB (g Q) = true := fun e => hk ⟨h, e⟩
    obtain ⟨v, v1, v2, v3⟩ := ic_head (D := T) (mW := 0) H h
    have nv : ¬ 0 ≤ v := fun e => hn (v2.mp e)
    refine ⟨Q, mk (nI Q) F, T, ?_, hQ, fun _ _ => rfl, Or.inr ⟨Q, hQ, rfl, fun mW D => ⟨mW, D, ?_⟩⟩⟩
    · rw [f_X1_scanCommand, here_in H h, bS, x1_kN hn, bS, if_pos rfl, mark_eq, bS]
    · rw [f_X8_isCommand, if_neg (fun e => absurd (nI_of_lt e (by omega) (by omega)) (by omega)), cT (inB_n (by omega) (by decide)), nI_clamp (by omega), v1, bS, if_neg nv]
  · refine ⟨Q, mk (nI Q) F, T, ?_, hQ, fun _ _ => rfl, Or.inr ⟨Q, hQ, rfl, fun mW D => ⟨mW, D, ?_⟩⟩⟩
    · rw [f_X1_scanCommand, here_out hl (by omega) (by omega), bS, x1_kN (by decide), bS, if_pos rfl, mark_eq, bS]
    · rw [f_X8_isCommand, if_pos (nI_inj' (by omega))]
theorem cmd_114 {l Q c : Nat} {F : Int32} {f g T : Nat → Int32} (H : TX l f g) (h : Q < l) (hc : c < 60) (hk : g Q = 114) : cmdR l Q c F f g T := by
  have hl := H.1
  have hkk : kindB (114 : Int32) = true := by decide
  obtain ⟨v, v1, v2, v3⟩ := ic_head (D := T) (mW := 0) H h
  have nv : 0 ≤ v := v2.mpr (by rw [hk]; exact hkk)
  have nQ : ¬ nI Q = nI l := fun e => absurd (nI_of_lt e (by omega) (by omega)) (by omega)
  have iQ : inB (nI Q) 60 = true := inB_n (by omega) (by decide)
  have cQ : (nI Q).toNatClampNeg = Q := nI_clamp (by omega)
  rw [hk] at v1 v3
  refine ⟨Q + 1, F, upd T (4 * c + 0) 114, ?_, by omega, (fun j hj => by simp (disch := omega) only [upd_n]), Or.inl ⟨rfl, by omega, fun mW D => ⟨D, ?_, ?_⟩⟩⟩
  · rw [f_X1_scanCommand, here_in H h, bS, hk, x1_kY hkk, bS, if_neg n10, setN0 hc, bS, if_neg (show ¬ (114 : Int32) = 100 by decide), if_pos rfl, nI_1]
  · rw [f_X8_isCommand, if_neg nQ, cT iQ, cQ, hk, v1, bS, if_pos nv, cT iQ, cT v3, if_neg (show ¬ (114 : Int32) = 100 by decide), if_neg (show ¬ (114 : Int32) = 109 by decide), if_pos rfl, nI_1]
  · rw [hk]
    exact ⟨upd_s, hkk, fun e => absurd rfl e, fun e => absurd e (by decide), fun e => absurd e (by decide)⟩
theorem cmd_100 {l Q c : Nat} {F : Int32} {f g T : Nat → Int32} (H : TX l f g) (h : Q < l) (hc : c < 60) (hk : g Q = 100) : cmdR l Q c F f g T := by
  have hl := H.1
  have hkk : kindB (100 : Int32) = true := by decide
  obtain ⟨v, v1, v2, v3⟩ := ic_head (D := T) (mW := 0) H h
  have nv : 0 ≤ v := v2.mpr (by rw [hk]; exact hkk)
  have nQ : ¬ nI Q = nI l := fun e => absurd (nI_of_lt e (by omega) (by omega)) (by omega)
  have iQ : inB (nI Q) 60 = true := inB_n (by omega) (by decide)
  have cQ : (nI Q).toNatClampNeg = Q := nI_clamp (by omega)
  rw [hk] at v1 v3
  obtain ⟨Q', v', F', q1, q2, q3, q4⟩ := chg_ok (F := F) H (show Q + 1 ≤ l by omega)
  have hx : f_X1_scanCommand (nI l) (nI Q) F f T (nI c) = some (nI Q', F', upd (upd T (4 * c + 0) 100) (4 * c + 1) v') := by
    rw [f_X1_scanCommand, here_in H h, bS, hk, x1_kY hkk, bS, if_neg n10, setN0 hc, bS, if_pos rfl, nI_1, q3, bS, setN1 hc, bS]
  refine ⟨Q', F', _, hx, q2, (fun j hj => by simp (disch := omega) only [upd_n]), ?_⟩
  rcases q4 with ⟨rfl, q5⟩ | ⟨Qf, f1, f2, f3⟩
  · refine Or.inl ⟨rfl, by omega, fun mW D => ⟨upd D 0 v', ?_, ?_⟩⟩
    · rw [f_X8_isCommand, if_neg nQ, cT iQ, cQ, hk, v1, bS, if_pos nv, cT iQ, cT v3, if_pos rfl, nI_1, q5, bS, cT j1]
    · rw [hk]
      refine ⟨by simp (disch := omega) only [upd_s, upd_n], hkk, fun _ => by rw [upd_s, upd_s], fun e => absurd e (by decide), fun e => absurd e (by decide)⟩
  · refine Or.inr ⟨Qf, f1, f2, fun mW D => ?_⟩
    obtain ⟨D', d⟩ := f3 D
    refine ⟨100, D', ?_⟩
    rw [f_X8_isCommand, if_neg nQ, cT iQ, cQ, hk, v1, bS, if_pos nv, cT iQ, cT v3, if_pos rfl, nI_1, d, bS, cT j0]
theorem cmd_98 {l Q c : Nat} {F : Int32} {f g T : Nat → Int32} (H : TX l f g) (h : Q < l) (hc : c < 60) (hk : g Q = 98) : cmdR l Q c F f g T := by
  have hl := H.1
  have hkk : kindB (98 : Int32) = true := by decide
  obtain ⟨v, v1, v2, v3⟩ := ic_head (D := T) (mW := 0) H h
  have nv : 0 ≤ v := v2.mpr (by rw [hk]; exact hkk)
  have nQ : ¬ nI Q = nI l := fun e => absurd (nI_of_lt e (by omega) (by omega)) (by omega)
  have iQ : inB (nI Q) 60 = true := inB_n (by omega) (by decide)
  have cQ : (nI Q).toNatClampNeg = Q := nI_clamp (by omega)
  rw [hk] at v1 v3
  obtain ⟨Q', v', q1, q2, q3⟩ := dig_ok (a := 1) (b := 1) (p := 0) (F := F) H (show Q + 1 ≤ l by omega) (by decide) (by decide) (by decide)
  have hx : ∀ F', f_X1_scanDigits (nI l) (nI (Q + 1)) F f (1 : Int32) (1 : Int32) = some (v', nI Q', F') → f_X1_scanCommand (nI l) (nI Q) F f T (nI c) = some (nI Q', F', upd (upd T (4 * c + 0) 98) (4 * c + 1) v') := fun F' e => by
    rw [f_X1_scanCommand, here_in H h, bS, hk, x1_kY hkk, bS, if_neg n10, setN0 hc, bS, if_neg (show ¬ (98 : Int32) = 100 by decide), if_neg (show ¬ (98 : Int32) = 114 by decide), nI_1, e, bS, setN1 hc, bS, f_X1_scanBehindFirst, if_neg (show ¬ (98 : Int32) = 109 by decide), if_neg (show ¬ (98 : Int32) = 115 by decide), if_neg (show ¬ (98 : Int32) = 119 by decide), bS]
  rcases q3 with ⟨q4, q5⟩ | ⟨q4, q5⟩
  · refine ⟨Q', F, _, hx _ q4, q2, (fun j hj => by simp (disch := omega) only [upd_n]), Or.inl ⟨rfl, by omega, fun mW D => ⟨upd D 0 v', ?_, ?_⟩⟩⟩
    · rw [f_X8_isCommand, if_neg nQ, cT iQ, cQ, hk, v1, bS, if_pos nv, cT iQ, cT v3, if_neg (show ¬ (98 : Int32) = 100 by decide), if_neg (show ¬ (98 : Int32) = 109 by decide), if_neg (show ¬ (98 : Int32) = 114 by decide), if_neg (show ¬ (98 : Int32) = 115 by decide), if_neg (show ¬ (98 : Int32) = 119 by decide), nI_1, show f_X8_digits (nI l) (nI (Q + 1)) g D (0 : Int32) (1 : Int32) (1 : Int32) = some (1, nI Q', upd D 0 v') from q5 D, bS, cT j1]
    · rw [hk]
      refine ⟨by simp (disch := omega) only [upd_s, upd_n], hkk, fun _ => by rw [upd_s, upd_s], fun e => absurd e (by decide), fun e => absurd e (by decide)⟩
  · refine ⟨Q', mk (nI Q') F, _, hx _ q4, q2, (fun j hj => by simp (disch := omega) only [upd_n]), Or.inr ⟨Q', q2, rfl, fun mW D => ⟨98, upd D 0 v', ?_⟩⟩⟩
    rw [f_X8_isCommand, if_neg nQ, cT iQ, cQ, hk, v1, bS, if_pos nv, cT iQ, cT v3, if_neg (show ¬ (98 : Int32) = 100 by decide), if_neg (show ¬ (98 : Int32) = 109 by decide), if_neg (show ¬ (98 : Int32) = 114 by decide), if_neg (show ¬ (98 : Int32) = 115 by decide), if_neg (show ¬ (98 : Int32) = 119 by decide), nI_1, show f_X8_digits (nI l) (nI (Q + 1)) g D (0 : Int32) (1 : Int32) (1 : Int32) = some (0, nI Q', upd D 0 v') from q5 D, bS, cT j0]
theorem cmd_106 {l Q c : Nat} {F : Int32} {f g T : Nat → Int32} (H : TX l f g) (h : Q < l) (hc : c < 60) (hk : g Q = 106) : cmdR l Q c F f g T := by
  have hl := H.1
  have hkk : kindB (106 : Int32) = true := by decide
  obtain ⟨v, v1, v2, v3⟩ := ic_head (D := T) (mW := 0) H h
  have nv : 0 ≤ v := v2.mpr (by rw [hk]; exact hkk)
  have nQ : ¬ nI Q = nI l := fun e => absurd (nI_of_lt e (by omega) (by omega)) (by omega)
  have iQ : inB (nI Q) 60 = true := inB_n (by omega) (by decide)
  have cQ : (nI Q).toNatClampNeg = Q := nI_clamp (by omega)
  rw [hk] at v1 v3
  obtain ⟨Q', v', q1, q2, q3⟩ := dig_ok (a := 1) (b := 1) (p := 0) (F := F) H (show Q + 1 ≤ l by omega) (by decide) (by decide) (by decide)
  have hx : ∀ F', f_X1_scanDigits (nI l) (nI (Q + 1)) F f (1 : Int32) (1 : Int32) = some (v', nI Q', F') → f_X1_scanCommand (nI l) (nI Q) F f T (nI c) = some (nI Q', F', upd (upd T (4 * c + 0) 106) (4 * c + 1) v') := fun F' e => by
    rw [f_X1_scanCommand, here_in H h, bS, hk, x1_kY hkk, bS, if_neg n10, setN0 hc, bS, if_neg (show ¬ (106 : Int32) = 100 by decide), if_neg (show ¬ (106 : Int32) = 114 by decide), nI_1, e, bS, setN1 hc, bS, f_X1_scanBehindFirst, if_neg (show ¬ (106 : Int32) = 109 by decide), if_neg (show ¬ (106 : Int32) = 115 by decide), if_neg (show ¬ (106 : Int32) = 119 by decide), bS]
  rcases q3 with ⟨q4, q5⟩ | ⟨q4, q5⟩
  · refine ⟨Q', F, _, hx _ q4, q2, (fun j hj => by simp (disch := omega) only [upd_n]), Or.inl ⟨rfl, by omega, fun mW D => ⟨upd D 0 v', ?_, ?_⟩⟩⟩
    · rw [f_X8_isCommand, if_neg nQ, cT iQ, cQ, hk, v1, bS, if_pos nv, cT iQ, cT v3, if_neg (show ¬ (106 : Int32) = 100 by decide), if_neg (show ¬ (106 : Int32) = 109 by decide), if_neg (show ¬ (106 : Int32) = 114 by decide), if_neg (show ¬ (106 : Int32) = 115 by decide), if_neg (show ¬ (106 : Int32) = 119 by decide), nI_1, show f_X8_digits (nI l) (nI (Q + 1)) g D (0 : Int32) (1 : Int32) (1 : Int32) = some (1, nI Q', upd D 0 v') from q5 D, bS, cT j1]
    · rw [hk]
      refine ⟨by simp (disch := omega) only [upd_s, upd_n], hkk, fun _ => by rw [upd_s, upd_s], fun e => absurd e (by decide), fun e => absurd e (by decide)⟩
  · refine ⟨Q', mk (nI Q') F, _, hx _ q4, q2, (fun j hj => by simp (disch := omega) only [upd_n]), Or.inr ⟨Q', q2, rfl, fun mW D => ⟨106, upd D 0 v', ?_⟩⟩⟩
    rw [f_X8_isCommand, if_neg nQ, cT iQ, cQ, hk, v1, bS, if_pos nv, cT iQ, cT v3, if_neg (show ¬ (106 : Int32) = 100 by decide), if_neg (show ¬ (106 : Int32) = 109 by decide), if_neg (show ¬ (106 : Int32) = 114 by decide), if_neg (show ¬ (106 : Int32) = 115 by decide), if_neg (show ¬ (106 : Int32) = 119 by decide), nI_1, show f_X8_digits (nI l) (nI (Q + 1)) g D (0 : Int32) (1 : Int32) (1 : Int32) = some (0, nI Q', upd D 0 v') from q5 D, bS, cT j0]
theorem cmd_111 {l Q c : Nat} {F : Int32} {f g T : Nat → Int32} (H : TX l f g) (h : Q < l) (hc : c < 60) (hk : g Q = 111) : cmdR l Q c F f g T := by
  have hl := H.1
  have hkk : kindB (111 : Int32) = true := by decide
  obtain ⟨v, v1, v2, v3⟩ := ic_head (D := T) (mW := 0) H h
  have nv : 0 ≤ v := v2.mpr (by rw [hk]; exact hkk)
  have nQ : ¬ nI Q = nI l := fun e => absurd (nI_of_lt e (by omega) (by omega)) (by omega)
  have iQ : inB (nI Q) 60 = true := inB_n (by omega) (by decide)
  have cQ : (nI Q).toNatClampNeg = Q := nI_clamp (by omega)
  rw [hk] at v1 v3
  obtain ⟨Q', v', q1, q2, q3⟩ := dig_ok (a := 1) (b := 1) (p := 0) (F := F) H (show Q + 1 ≤ l by omega) (by decide) (by decide) (by decide)
  have hx : ∀ F', f_X1_scanDigits (nI l) (nI (Q + 1)) F f (1 : Int32) (1 : Int32) = some (v', nI Q', F') → f_X1_scanCommand (nI l) (nI Q) F f T (nI c) = some (nI Q', F', upd (upd T (4 * c + 0) 111) (4 * c + 1) v') := fun F' e => by
    rw [f_X1_scanCommand, here_in H h, bS, hk, x1_kY hkk, bS, if_neg n10, setN0 hc, bS, if_neg (show ¬ (111 : Int32) = 100 by decide), if_neg (show ¬ (111 : Int32) = 114 by decide), nI_1, e, bS, setN1 hc, bS, f_X1_scanBehindFirst, if_neg (show ¬ (111 : Int32) = 109 by decide), if_neg (show ¬ (111 : Int32) = 115 by decide), if_neg (show ¬ (111 : Int32) = 119 by decide), bS]
  rcases q3 with ⟨q4, q5⟩ | ⟨q4, q5⟩
  · refine ⟨Q', F, _, hx _ q4, q2, (fun j hj => by simp (disch := omega) only [upd_n]), Or.inl ⟨rfl, by omega, fun mW D => ⟨upd D 0 v', ?_, ?_⟩⟩⟩
    · rw [f_X8_isCommand, if_neg nQ, cT iQ, cQ, hk, v1, bS, if_pos nv, cT iQ, cT v3, if_neg (show ¬ (111 : Int32) = 100 by decide), if_neg (show ¬ (111 : Int32) = 109 by decide), if_neg (show ¬ (111 : Int32) = 114 by decide), if_neg (show ¬ (111 : Int32) = 115 by decide), if_neg (show ¬ (111 : Int32) = 119 by decide), nI_1, show f_X8_digits (nI l) (nI (Q + 1)) g D (0 : Int32) (1 : Int32) (1 : Int32) = some (1, nI Q', upd D 0 v') from q5 D, bS, cT j1]
    · rw [hk]
      refine ⟨by simp (disch := omega) only [upd_s, upd_n], hkk, fun _ => by rw [upd_s, upd_s], fun e => absurd e (by decide), fun e => absurd e (by decide)⟩
  · refine ⟨Q', mk (nI Q') F, _, hx _ q4, q2, (fun j hj => by simp (disch := omega) only [upd_n]), Or.inr ⟨Q', q2, rfl, fun mW D => ⟨111, upd D 0 v', ?_⟩⟩⟩
    rw [f_X8_isCommand, if_neg nQ, cT iQ, cQ, hk, v1, bS, if_pos nv, cT iQ, cT v3, if_neg (show ¬ (111 : Int32) = 100 by decide), if_neg (show ¬ (111 : Int32) = 109 by decide), if_neg (show ¬ (111 : Int32) = 114 by decide), if_neg (show ¬ (111 : Int32) = 115 by decide), if_neg (show ¬ (111 : Int32) = 119 by decide), nI_1, show f_X8_digits (nI l) (nI (Q + 1)) g D (0 : Int32) (1 : Int32) (1 : Int32) = some (0, nI Q', upd D 0 v') from q5 D, bS, cT j0]
theorem cmd_116 {l Q c : Nat} {F : Int32} {f g T : Nat → Int32} (H : TX l f g) (h : Q < l) (hc : c < 60) (hk : g Q = 116) : cmdR l Q c F f g T := by
  have hl := H.1
  have hkk : kindB (116 : Int32) = true := by decide
  obtain ⟨v, v1, v2, v3⟩ := ic_head (D := T) (mW := 0) H h
  have nv : 0 ≤ v := v2.mpr (by rw [hk]; exact hkk)
  have nQ : ¬ nI Q = nI l := fun e => absurd (nI_of_lt e (by omega) (by omega)) (by omega)
  have iQ : inB (nI Q) 60 = true := inB_n (by omega) (by decide)
  have cQ : (nI Q).toNatClampNeg = Q := nI_clamp (by omega)
  rw [hk] at v1 v3
  obtain ⟨Q', v', q1, q2, q3⟩ := dig_ok (a := 1) (b := 1) (p := 0) (F := F) H (show Q + 1 ≤ l by omega) (by decide) (by decide) (by decide)
  have hx : ∀ F', f_X1_scanDigits (nI l) (nI (Q + 1)) F f (1 : Int32) (1 : Int32) = some (v', nI Q', F') → f_X1_scanCommand (nI l) (nI Q) F f T (nI c) = some (nI Q', F', upd (upd T (4 * c + 0) 116) (4 * c + 1) v') := fun F' e => by
    rw [f_X1_scanCommand, here_in H h, bS, hk, x1_kY hkk, bS, if_neg n10, setN0 hc, bS, if_neg (show ¬ (116 : Int32) = 100 by decide), if_neg (show ¬ (116 : Int32) = 114 by decide), nI_1, e, bS, setN1 hc, bS, f_X1_scanBehindFirst, if_neg (show ¬ (116 : Int32) = 109 by decide), if_neg (show ¬ (116 : Int32) = 115 by decide), if_neg (show ¬ (116 : Int32) = 119 by decide), bS]
  rcases q3 with ⟨q4, q5⟩ | ⟨q4, q5⟩
  · refine ⟨Q', F, _, hx _ q4, q2, (fun j hj => by simp (disch := omega) only [upd_n]), Or.inl ⟨rfl, by omega, fun mW D => ⟨upd D 0 v', ?_, ?_⟩⟩⟩
    · rw [f_X8_isCommand, if_neg nQ, cT iQ, cQ, hk, v1, bS, if_pos nv, cT iQ, cT v3, if_neg (show ¬ (116 : Int32) = 100 by decide), if_neg (show ¬ (116 : Int32) = 109 by decide), if_neg (show ¬ (116 : Int32) = 114 by decide), if_neg (show ¬ (116 : Int32) = 115 by decide), if_neg (show ¬ (116 : Int32) = 119 by decide), nI_1, show f_X8_digits (nI l) (nI (Q + 1)) g D (0 : Int32) (1 : Int32) (1 : Int32) = some (1, nI Q', upd D 0 v') from q5 D, bS, cT j1]
    · rw [hk]
      refine ⟨by simp (disch := omega) only [upd_s, upd_n], hkk, fun _ => by rw [upd_s, upd_s], fun e => absurd e (by decide), fun e => absurd e (by decide)⟩
  · refine ⟨Q', mk (nI Q') F, _, hx _ q4, q2, (fun j hj => by simp (disch := omega) only [upd_n]), Or.inr ⟨Q', q2, rfl, fun mW D => ⟨116, upd D 0 v', ?_⟩⟩⟩
    rw [f_X8_isCommand, if_neg nQ, cT iQ, cQ, hk, v1, bS, if_pos nv, cT iQ, cT v3, if_neg (show ¬ (116 : Int32) = 100 by decide), if_neg (show ¬ (116 : Int32) = 109 by decide), if_neg (show ¬ (116 : Int32) = 114 by decide), if_neg (show ¬ (116 : Int32) = 115 by decide), if_neg (show ¬ (116 : Int32) = 119 by decide), nI_1, show f_X8_digits (nI l) (nI (Q + 1)) g D (0 : Int32) (1 : Int32) (1 : Int32) = some (0, nI Q', upd D 0 v') from q5 D, bS, cT j0]
theorem cmd_120 {l Q c : Nat} {F : Int32} {f g T : Nat → Int32} (H : TX l f g) (h : Q < l) (hc : c < 60) (hk : g Q = 120) : cmdR l Q c F f g T := by
  have hl := H.1
  have hkk : kindB (120 : Int32) = true := by decide
  obtain ⟨v, v1, v2, v3⟩ := ic_head (D := T) (mW := 0) H h
  have nv : 0 ≤ v := v2.mpr (by rw [hk]; exact hkk)
  have nQ : ¬ nI Q = nI l := fun e => absurd (nI_of_lt e (by omega) (by omega)) (by omega)
  have iQ : inB (nI Q) 60 = true := inB_n (by omega) (by decide)
  have cQ : (nI Q).toNatClampNeg = Q := nI_clamp (by omega)
  rw [hk] at v1 v3
  obtain ⟨Q', v', q1, q2, q3⟩ := dig_ok (a := 1) (b := 1) (p := 0) (F := F) H (show Q + 1 ≤ l by omega) (by decide) (by decide) (by decide)
  have hx : ∀ F', f_X1_scanDigits (nI l) (nI (Q + 1)) F f (1 : Int32) (1 : Int32) = some (v', nI Q', F') → f_X1_scanCommand (nI l) (nI Q) F f T (nI c) = some (nI Q', F', upd (upd T (4 * c + 0) 120) (4 * c + 1) v') := fun F' e => by
    rw [f_X1_scanCommand, here_in H h, bS, hk, x1_kY hkk, bS, if_neg n10, setN0 hc, bS, if_neg (show ¬ (120 : Int32) = 100 by decide), if_neg (show ¬ (120 : Int32) = 114 by decide), nI_1, e, bS, setN1 hc, bS, f_X1_scanBehindFirst, if_neg (show ¬ (120 : Int32) = 109 by decide), if_neg (show ¬ (120 : Int32) = 115 by decide), if_neg (show ¬ (120 : Int32) = 119 by decide), bS]
  rcases q3 with ⟨q4, q5⟩ | ⟨q4, q5⟩
  · refine ⟨Q', F, _, hx _ q4, q2, (fun j hj => by simp (disch := omega) only [upd_n]), Or.inl ⟨rfl, by omega, fun mW D => ⟨upd D 0 v', ?_, ?_⟩⟩⟩
    · rw [f_X8_isCommand, if_neg nQ, cT iQ, cQ, hk, v1, bS, if_pos nv, cT iQ, cT v3, if_neg (show ¬ (120 : Int32) = 100 by decide), if_neg (show ¬ (120 : Int32) = 109 by decide), if_neg (show ¬ (120 : Int32) = 114 by decide), if_neg (show ¬ (120 : Int32) = 115 by decide), if_neg (show ¬ (120 : Int32) = 119 by decide), nI_1, show f_X8_digits (nI l) (nI (Q + 1)) g D (0 : Int32) (1 : Int32) (1 : Int32) = some (1, nI Q', upd D 0 v') from q5 D, bS, cT j1]
    · rw [hk]
      refine ⟨by simp (disch := omega) only [upd_s, upd_n], hkk, fun _ => by rw [upd_s, upd_s], fun e => absurd e (by decide), fun e => absurd e (by decide)⟩
  · refine ⟨Q', mk (nI Q') F, _, hx _ q4, q2, (fun j hj => by simp (disch := omega) only [upd_n]), Or.inr ⟨Q', q2, rfl, fun mW D => ⟨120, upd D 0 v', ?_⟩⟩⟩
    rw [f_X8_isCommand, if_neg nQ, cT iQ, cQ, hk, v1, bS, if_pos nv, cT iQ, cT v3, if_neg (show ¬ (120 : Int32) = 100 by decide), if_neg (show ¬ (120 : Int32) = 109 by decide), if_neg (show ¬ (120 : Int32) = 114 by decide), if_neg (show ¬ (120 : Int32) = 115 by decide), if_neg (show ¬ (120 : Int32) = 119 by decide), nI_1, show f_X8_digits (nI l) (nI (Q + 1)) g D (0 : Int32) (1 : Int32) (1 : Int32) = some (0, nI Q', upd D 0 v') from q5 D, bS, cT j0]
