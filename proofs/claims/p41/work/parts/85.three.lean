/-! ===== p41, pure: the three texts of 'refused' ===== -/
theorem x1_d {x : Int32} (h1 : ¬ x < 48) (h2 : ¬ 57 < x) : f_X1_isDigit x = some (1, ()) := x1_dY ⟨h1, h2⟩
theorem x1_n {x : Int32} (h : x < 48 ∨ 57 < x) : f_X1_isDigit x = some (0, ()) := x1_dN (fun q => h.elim q.1 q.2)
theorem d_one {l Q : Nat} {f : Nat → Int32} {F x : Int32} (H : TX l f f) (hQ : Q < l) (hx : f Q = x) (h1 : ¬ x < 48) (h2 : ¬ 57 < x) : f_X1_scanDigits (nI l) (nI Q) F f 1 1 = some ((0 : Int32) * 10 + (x - 48), nI (Q + 1), F) := by
  rw [f_X1_scanDigits, show FU = 4094 + 1 + 1 from rfl, f_X1_scanDigits_L5.eq_2, if_neg (by decide), here_in H hQ, bS, hx, x1_d h1 h2, bS, if_neg n10, bS, nI_1, f_X1_scanDigits_L5.eq_2, if_pos (by decide), if_pos (by decide)]
theorem d_two {l Q : Nat} {f : Nat → Int32} {F x y : Int32} (H : TX l f f) (hQ : Q + 1 < l) (hx : f Q = x) (h1 : ¬ x < 48) (h2 : ¬ 57 < x) (hy : f (Q + 1) = y) (h3 : y < 48 ∨ 57 < y) : f_X1_scanDigits (nI l) (nI Q) F f 1 2 = some ((0 : Int32) * 10 + (x - 48), nI (Q + 1), F) := by
  rw [f_X1_scanDigits, show FU = 4094 + 1 + 1 from rfl, f_X1_scanDigits_L5.eq_2, if_neg (by decide), here_in H (show Q < l by omega), bS, hx, x1_d h1 h2, bS, if_neg n10, bS, nI_1, f_X1_scanDigits_L5.eq_2, if_neg (by decide), here_in H hQ, bS, hy, x1_n h3, bS, if_pos rfl, if_pos (by decide)]
theorem c_d0 {l Q c : Nat} {f T : Nat → Int32} {F : Int32} (H : TX l f f) (hQ : Q + 3 < l) (hc : c < 60) (h0 : f Q = 100) (h1 : f (Q + 1) = 43) (h2 : f (Q + 2) = 48) (h3 : f (Q + 3) = 59) : f_X1_scanCommand (nI l) (nI Q) F f T (nI c) = some (nI (Q + 3), F, upd (upd T (4 * c + 0) 100) (4 * c + 1) 0) := by
  rw [f_X1_scanCommand, here_in H (show Q < l by omega), bS, h0, x1_kY (by decide), bS, if_neg n10, st0 hc, bS, if_pos rfl, nI_1, f_X1_scanChange, here_in H (show Q + 1 < l by omega), bS, h1, if_neg (by decide), (sign_y H (show Q + 1 < l by omega) h1).1, bS, d_two H (show Q + 2 + 1 < l by omega) h2 (by decide) (by decide) h3 (by decide), bS, bS, st1 hc, bS]
  rfl
theorem c_x9 {l Q c : Nat} {f T : Nat → Int32} {F : Int32} (H : TX l f f) (hQ : Q + 1 < l) (hc : c < 60) (h0 : f Q = 120) (h1 : f (Q + 1) = 57) : f_X1_scanCommand (nI l) (nI Q) F f T (nI c) = some (nI (Q + 2), F, upd (upd T (4 * c + 0) 120) (4 * c + 1) 9) := by
  rw [f_X1_scanCommand, here_in H (show Q < l by omega), bS, h0, x1_kY (by decide), bS, if_neg n10, st0 hc, bS, if_neg (by decide), if_neg (by decide), nI_1, d_one H hQ h1 (by decide) (by decide), bS, st1 hc, bS, f_X1_scanBehindFirst, if_neg (by decide), if_neg (by decide), if_neg (by decide), bS]
  rfl
theorem c_s11 {l Q c : Nat} {f T : Nat → Int32} {F : Int32} (H : TX l f f) (hQ : Q + 3 < l) (hc : c < 60) (h0 : f Q = 115) (h1 : f (Q + 1) = 49) (h2 : f (Q + 2) = 38) (h3 : f (Q + 3) = 49) : f_X1_scanCommand (nI l) (nI Q) F f T (nI c) = some (nI (Q + 4), F, upd (upd (upd T (4 * c + 0) 115) (4 * c + 1) 1) (4 * c + 2) 1) := by
  rw [f_X1_scanCommand, here_in H (show Q < l by omega), bS, h0, x1_kY (by decide), bS, if_neg n10, st0 hc, bS, if_neg (by decide), if_neg (by decide), nI_1, d_one H (show Q + 1 < l by omega) h1 (by decide) (by decide), bS, st1 hc, bS, f_X1_scanBehindFirst, if_neg (by decide), if_pos rfl, (sign_y H (show Q + 2 < l by omega) h2).1, bS, d_one H hQ h3 (by decide) (by decide), bS, st2 hc, bS, bS]
  rfl
theorem sc_y {l c Q Q1 n : Nat} {s : Int32} {f T T1 : Nat → Int32} (H : TX l f f) (hc : c < 60) (e : f_X1_scanCommand (nI l) (nI Q) (-1) f T (nI c) = some (nI Q1, -1, T1)) (h1 : Q1 < l) (h59 : f Q1 = 59) :
    f_X1_scan_L17 (nI l) f (n + 1) (nI c) s (nI Q) (-1) T = f_X1_scan_L17 (nI l) f n (nI (c + 1)) (nI (c + 1)) (nI (Q1 + 1)) (-1) T1 := by
  have hl := H.1
  rw [f_X1_scan_L17, if_neg (show ¬ (60 : Int32) ≤ nI c from nI_ge (b := 60) hc (by decide)), e, bS, if_pos rfl, if_pos (nI_lt h1 (by omega)), (sign_y H h1 h59).1, bS, nI_1]
theorem sc_e {l c Q Q1 n : Nat} {s : Int32} {f T T1 : Nat → Int32} (H : TX l f f) (hc : c < 60) (e : f_X1_scanCommand (nI l) (nI Q) (-1) f T (nI c) = some (nI Q1, -1, T1)) (h1 : l ≤ Q1) (h2 : Q1 < 2 ^ 31) :
    f_X1_scan_L17 (nI l) f (n + 1) (nI c) s (nI Q) (-1) T = some (-1, nI (c + 1), nI Q1, -1, T1) := by
  rw [f_X1_scan_L17, if_neg (show ¬ (60 : Int32) ≤ nI c from nI_ge (b := 60) hc (by decide)), e, bS, if_pos rfl, if_neg (nI_nlt h1 h2), nI_1]
theorem sc_f {l c Q Q1 n : Nat} {s F1 : Int32} {f T T1 : Nat → Int32} (hc : c < 60) (e : f_X1_scanCommand (nI l) (nI Q) (-1) f T (nI c) = some (nI Q1, F1, T1)) (hF : ¬ F1 = -1) :
    f_X1_scan_L17 (nI l) f (n + 1) (nI c) s (nI Q) (-1) T = some (F1, nI (c + 1), nI Q1, F1, T1) := by
  rw [f_X1_scan_L17, if_neg (show ¬ (60 : Int32) ≤ nI c from nI_ge (b := 60) hc (by decide)), e, bS, if_neg hF, nI_1]
def tp_2 (T : Nat → Int32) : Nat → Int32 := upd (upd (upd (upd (upd (upd T 0 100) 1 0) 4 100) 5 0) 8 120) 9 9
def tp_3 (T : Nat → Int32) : Nat → Int32 := upd (upd (upd (upd (upd T 0 100) 1 0) 4 115) 5 1) 6 1
theorem s_q {f T : Nat → Int32} {tS tQ tF : Int32} (H : TX 1 f f) (h0 : f 0 = 113) : f_X1_scan (nI 1) tS tQ tF f T = some (0, nI 1, nI 0, 0, T) := by
  have e : f_X1_scanCommand (nI 1) (nI 0) (-1) f T (nI 0) = some (nI 0, 0, T) := by
    rw [f_X1_scanCommand, here_in H (show 0 < 1 by decide), bS, h0, x1_kN (by decide), bS, if_pos rfl, mark_eq, bS, mk_1]
    rfl
  exact sc_f (c := 0) (n := 4095) (by decide) e (by decide)
theorem s_2 {f T : Nat → Int32} {tS tQ tF : Int32} (H : TX 10 f f) (h : ∀ j, j < 10 → f j = ([100, 43, 48, 59, 100, 43, 48, 59, 120, 57] : List Int32).getD j 0) :
    f_X1_scan (nI 10) tS tQ tF f T = some (-1, nI 3, nI 10, -1, tp_2 T) := by
  have a0 : f 0 = 100 := h 0 (by decide)
  have a1 : f 1 = 43 := h 1 (by decide)
  have a2 : f 2 = 48 := h 2 (by decide)
  have a3 : f 3 = 59 := h 3 (by decide)
  have a4 : f 4 = 100 := h 4 (by decide)
  have a5 : f 5 = 43 := h 5 (by decide)
  have a6 : f 6 = 48 := h 6 (by decide)
  have a7 : f 7 = 59 := h 7 (by decide)
  have a8 : f 8 = 120 := h 8 (by decide)
  have a9 : f 9 = 57 := h 9 (by decide)
  exact (sc_y (c := 0) (Q := 0) (Q1 := 3) (n := 4095) H (by decide) (c_d0 (Q := 0) H (by decide) (by decide) a0 a1 a2 a3) (by decide) a3).trans
    ((sc_y (c := 1) (Q := 4) (Q1 := 7) (n := 4094) H (by decide) (c_d0 (Q := 4) H (by decide) (by decide) a4 a5 a6 a7) (by decide) a7).trans
      (sc_e (c := 2) (Q := 8) (Q1 := 10) (n := 4093) H (by decide) (c_x9 (Q := 8) H (by decide) (by decide) a8 a9) (by decide) (by decide)))
theorem s_3 {f T : Nat → Int32} {tS tQ tF : Int32} (H : TX 8 f f) (h : ∀ j, j < 8 → f j = ([100, 43, 48, 59, 115, 49, 38, 49] : List Int32).getD j 0) :
    f_X1_scan (nI 8) tS tQ tF f T = some (-1, nI 2, nI 8, -1, tp_3 T) := by
  have a0 : f 0 = 100 := h 0 (by decide)
  have a1 : f 1 = 43 := h 1 (by decide)
  have a2 : f 2 = 48 := h 2 (by decide)
  have a3 : f 3 = 59 := h 3 (by decide)
  have a4 : f 4 = 115 := h 4 (by decide)
  have a5 : f 5 = 49 := h 5 (by decide)
  have a6 : f 6 = 38 := h 6 (by decide)
  have a7 : f 7 = 49 := h 7 (by decide)
  exact (sc_y (c := 0) (Q := 0) (Q1 := 3) (n := 4095) H (by decide) (c_d0 (Q := 0) H (by decide) (by decide) a0 a1 a2 a3) (by decide) a3).trans
    (sc_e (c := 1) (Q := 4) (Q1 := 8) (n := 4094) H (by decide) (c_s11 (Q := 4) H (by decide) (by decide) a4 a5 a6 a7) (by decide) (by decide))
theorem day0 {R : Nat → Int32} {P : Nat} (h1 : R 1 = nI P) (p1 : 900 ≤ P) (p2 : P ≤ 1100) : ∃ a R', f_X6_passDay R 0 0 0 = some (a, R', 0, 0) ∧ R' 0 = R 0 ∧ R' 1 = nI P := by
  have e : R 1 + 0 = nI P := by rw [h1]; exact nI_add P 0
  have h : f_X6_passDay R 0 0 0 = some (nI P, upd (upd (upd (upd R 1 (nI P)) 2 0) 3 0) 4 (upd (upd (upd R 1 (nI P)) 2 0) 3 0 4 + 1), 0, 0) := by
    rw [f_X6_passDay, isCh_eq, x8_inY (by decide) (by decide), bS, if_neg (by decide), x0_get1, bS, isP_eq, e, x8_inY (show ¬ nI P < 900 from nI_nlt (b := 900) p1 (by omega)) (show ¬ (1100 : Int32) < nI P from nI_nlt (a := 1100) p2 (by decide)), bS, if_neg (by decide), f_X0_changePressure, x0_add1, bS, x0_set2, bS, x0_set3, bS, bS, x0_add4, bS, if_pos (by decide), e]
  exact ⟨_, _, h, rfl, rfl⟩
theorem go4 {R : Nat → Int32} {c : Nat} {p : Int32} (h0 : R 0 = nI c) (hc : c ≤ 6) (h : noM c p) : f_X6_goAway R 0 0 p = some (0, R, 4, nI c) := by
  rw [f_X6_goAway, x0_noM h0 hc h, bS, if_pos rfl, x6_str h0, bS]
theorem tx_of {n : Nat} {t : List Int32} {C : Nat → Int32} (H : b256 t n) (h : ∀ j, j < n → C j = t.getD j 0) : TX n C C :=
  ⟨Nat.le_trans H.1 (by decide), fun j hj => ⟨rfl, by
    obtain ⟨q, h1, h2⟩ := H.2 j hj
    exact ⟨q, Nat.lt_trans h1 (by decide), (h j hj).trans h2⟩⟩⟩
/-- a text that is refused, or has a fault -/
def TQ (K : Nat) (N : Nat → Int32) (l : List (Nat → Int32)) (ans fa a0 a1 : Int32) (row : Nat → Int32) (kN kK : Int32) (kF : Nat → Int32) (tL : Int32) : Prop :=
  a0 = ans ∧ a1 = fa ∧ PB K row N ∧ HL K kN kK kF l ∧ tL = 0
def TR (why more ix a2 a3 a4 : Int32) : Prop := a2 = why ∧ a3 = more ∧ a4 = ix
theorem k_q {K : Nat} {C tP row N kF : Nat → Int32} {xF xR xD xC rR rD kN kK tS tQ tF : Int32} {l : List (Nat → Int32)} (H : TX 1 C C) (h0 : C 0 = 113) (HP : PB K row N) (HH : HL K kN kK kF l) : Rn (f_L_commands xF xR xD xC row rR rD kN kK kF (nI 1) tS tQ tF C tP) (fun v => TQ K N l (-1001) 0 v.1 v.2.1 v.2.2.2.2.2.1 v.2.2.2.2.2.2.2.2.1 v.2.2.2.2.2.2.2.2.2.1 v.2.2.2.2.2.2.2.2.2.2.1 v.2.2.2.2.2.2.2.2.2.2.2.1) := by
  have hcm : f_L_commands xF xR xD xC row rR rD kN kK kF (nI 1) tS tQ tF C tP = some (-1001, 0, xR, xD, xC, row, rR, rD, kN, kK, kF, 0, nI 1, nI 0, 0, tP) := by
    rw [f_L_commands, f_X7_commands, s_q H h0, bS, f_X1_empty, bS, if_neg (show ¬ (0 : Int32) = -1 by decide), bS, if_neg n20, if_pos rfl]
  exact Rn.e hcm ⟨rfl, rfl, HP, HH, rfl⟩
theorem k_2 {K : Nat} {C tP row N kF : Nat → Int32} {xF xR xD xC rR rD kN kK tS tQ tF : Int32} {l : List (Nat → Int32)} {c : Nat} (H : TX 10 C C) (h : ∀ j, j < 10 → C j = ([100, 43, 48, 59, 100, 43, 48, 59, 120, 57] : List Int32).getD j 0) (G : Good N c) (HP : PB K row N) (HH : HL K kN kK kF l) : Rn (f_L_commands xF xR xD xC row rR rD kN kK kF (nI 10) tS tQ tF C tP) (fun v => TQ K N l (-1002) (-1) v.1 v.2.1 v.2.2.2.2.2.1 v.2.2.2.2.2.2.2.2.1 v.2.2.2.2.2.2.2.2.2.1 v.2.2.2.2.2.2.2.2.2.2.1 v.2.2.2.2.2.2.2.2.2.2.2.1 ∧ TR 4 (nI c) 2 v.2.2.1 v.2.2.2.1 v.2.2.2.2.1) := by
  have hc := G.1
  have hR := HP.rel G
  obtain ⟨P, p1, p2, p3⟩ := G.2.2.1
  obtain ⟨z, hz, hl, rfl, rfl, hh⟩ := HH
  obtain ⟨F', f1, f2⟩ := prep_eq (row := row) (kF := kF) hz
  obtain ⟨a1, R1, d1, e1, g1'⟩ := day0 (R := row) ((hR.1 1 (by decide)).trans p3) p1 p2
  obtain ⟨a2, R2, d2, e2, g2'⟩ := day0 (R := R1) g1' p1 p2
  have h0 : R2 0 = nI c := e2.trans (e1.trans (r0_of G hR))
  have hno : noM c 9 := Or.inr ⟨9, by omega, by decide, rfl⟩
  obtain ⟨R3, b1, b2⟩ := back_eq (row := R2) (kF := F') (x := z) hz
  have key : f_X7_commands_L49 (-1) xR xD xC (nI z) (nI l.length) F' 0 (nI 3) (nI 10) (-1) (tp_2 tP) FU 0 row rR rD = some (6, 0, -1, 4, nI c, nI 2, R3, 4, nI c, nI z, nI l.length, F', 0, nI 3, nI 10, -1, tp_2 tP) :=
    (l49_y (c := 0) (n := 4095) (s := 3) (T := tp_2 tP) (by decide) (by decide) (by show f_X6_carryOut row rR rD 100 0 _ _ = _; rw [hco_100, d1, bS])).trans
      ((l49_y (c := 1) (n := 4094) (s := 3) (T := tp_2 tP) (by decide) (by decide) (by show f_X6_carryOut R1 0 0 100 0 _ _ = _; rw [hco_100, d2, bS])).trans
        (l49_n (c := 2) (n := 4093) (s := 3) (T := tp_2 tP) (by decide) (by decide) (by show f_X6_carryOut R2 0 0 120 9 _ _ = _; rw [hco_120, go4 h0 hc hno, bS]) (by decide) b1))
  have hcm : f_L_commands xF xR xD xC row rR rD (nI z) (nI l.length) kF (nI 10) tS tQ tF C tP = some (-1002, -1, 4, nI c, nI 2, R3, 4, nI c, nI z, nI l.length, F', 0, nI 3, nI 10, -1, tp_2 tP) := by
    rw [f_L_commands, f_X7_commands, s_2 H h, bS, f_X1_empty, bS, if_pos rfl, f1, bS]
    rw [key, bS, if_neg n60, if_neg n62, if_pos rfl]
  refine Rn.e hcm ⟨⟨rfl, rfl, PB_congr HP (fun i hi => ?_) (fun i _ => rfl), hl_in hz hl hh f2, rfl⟩, rfl, rfl, rfl⟩
  show R3 i = row i
  rw [b2 i hi, f2, if_pos (by omega), show 55 * z + i - 55 * z = i by omega]
theorem k_3 {K : Nat} {C tP row N kF : Nat → Int32} {xF xR xD xC rR rD kN kK tS tQ tF : Int32} {l : List (Nat → Int32)} {c : Nat} (hc2 : 2 ≤ c) (H : TX 8 C C) (h : ∀ j, j < 8 → C j = ([100, 43, 48, 59, 115, 49, 38, 49] : List Int32).getD j 0) (G : Good N c) (HP : PB K row N) (HH : HL K kN kK kF l) : Rn (f_L_commands xF xR xD xC row rR rD kN kK kF (nI 8) tS tQ tF C tP) (fun v => TQ K N l (-1002) (-1) v.1 v.2.1 v.2.2.2.2.2.1 v.2.2.2.2.2.2.2.2.1 v.2.2.2.2.2.2.2.2.2.1 v.2.2.2.2.2.2.2.2.2.2.1 v.2.2.2.2.2.2.2.2.2.2.2.1 ∧ TR 6 1 1 v.2.2.1 v.2.2.2.1 v.2.2.2.2.1) := by
  have hc := G.1
  have hR := HP.rel G
  obtain ⟨P, p1, p2, p3⟩ := G.2.2.1
  obtain ⟨z, hz, hl, rfl, rfl, hh⟩ := HH
  obtain ⟨F', f1, f2⟩ := prep_eq (row := row) (kF := kF) hz
  obtain ⟨a1, R1, d1, e1, g1'⟩ := day0 (R := row) ((hR.1 1 (by decide)).trans p3) p1 p2
  have h0 : R1 0 = nI c := e1.trans (r0_of G hR)
  have sw : f_X6_swap R1 0 0 1 1 = some (0, R1, 6, 1) := e_sw6 (m := 1) h0 hc (by omega)
  obtain ⟨R3, b1, b2⟩ := back_eq (row := R1) (kF := F') (x := z) hz
  have key : f_X7_commands_L49 (-1) xR xD xC (nI z) (nI l.length) F' 0 (nI 2) (nI 8) (-1) (tp_3 tP) FU 0 row rR rD = some (6, 0, -1, 6, 1, nI 1, R3, 6, 1, nI z, nI l.length, F', 0, nI 2, nI 8, -1, tp_3 tP) :=
    (l49_y (c := 0) (n := 4095) (s := 2) (T := tp_3 tP) (by decide) (by decide) (by show f_X6_carryOut row rR rD 100 0 _ _ = _; rw [hco_100, d1, bS])).trans
      (l49_n (c := 1) (n := 4094) (s := 2) (T := tp_3 tP) (by decide) (by decide) (by show f_X6_carryOut R1 0 0 115 1 1 _ = _; rw [hco_115, sw, bS]) (by decide) b1)
  have hcm : f_L_commands xF xR xD xC row rR rD (nI z) (nI l.length) kF (nI 8) tS tQ tF C tP = some (-1002, -1, 6, 1, nI 1, R3, 6, 1, nI z, nI l.length, F', 0, nI 2, nI 8, -1, tp_3 tP) := by
    rw [f_L_commands, f_X7_commands, s_3 H h, bS, f_X1_empty, bS, if_pos rfl, f1, bS]
    rw [key, bS, if_neg n60, if_neg n62, if_pos rfl]
  refine Rn.e hcm ⟨⟨rfl, rfl, PB_congr HP (fun i hi => ?_) (fun i _ => rfl), hl_in hz hl hh f2, rfl⟩, rfl, rfl, rfl⟩
  show R3 i = row i
  rw [b2 i hi, f2, if_pos (by omega), show 55 * z + i - 55 * z = i by omega]
theorem b_q : b256 [113] 1 := ⟨by decide, fun j hj => by
  rcases j with _ | j
  · exact ⟨113, by decide, rfl⟩
  · exact absurd hj (by omega)⟩
theorem b_2 : b256 [100, 43, 48, 59, 100, 43, 48, 59, 120, 57] 10 := ⟨by decide, fun j hj => by
  rcases j with _ | _ | _ | _ | _ | _ | _ | _ | _ | _ | j
  · exact ⟨100, by decide, rfl⟩
  · exact ⟨43, by decide, rfl⟩
  · exact ⟨48, by decide, rfl⟩
  · exact ⟨59, by decide, rfl⟩
  · exact ⟨100, by decide, rfl⟩
  · exact ⟨43, by decide, rfl⟩
  · exact ⟨48, by decide, rfl⟩
  · exact ⟨59, by decide, rfl⟩
  · exact ⟨120, by decide, rfl⟩
  · exact ⟨57, by decide, rfl⟩
  · exact absurd hj (by omega)⟩
theorem b_3 : b256 [100, 43, 48, 59, 115, 49, 38, 49] 8 := ⟨by decide, fun j hj => by
  rcases j with _ | _ | _ | _ | _ | _ | _ | _ | j
  · exact ⟨100, by decide, rfl⟩
  · exact ⟨43, by decide, rfl⟩
  · exact ⟨48, by decide, rfl⟩
  · exact ⟨59, by decide, rfl⟩
  · exact ⟨115, by decide, rfl⟩
  · exact ⟨49, by decide, rfl⟩
  · exact ⟨38, by decide, rfl⟩
  · exact ⟨49, by decide, rfl⟩
  · exact absurd hj (by omega)⟩
theorem t_q {K : Nat} {tC tP row N kF : Nat → Int32} {xF xR xD xC rR rD kN kK tS tQ tF : Int32} {l : List (Nat → Int32)} (HP : PB K row N) (HH : HL K kN kK kF l) : Rn (f_L_runs 1 [113] xF xR xD xC row rR rD kN kK kF 0 tS tQ tF tC tP) (fun v => TQ K N l (-1001) 0 v.1 v.2.1 v.2.2.2.2.2.1 v.2.2.2.2.2.2.2.2.1 v.2.2.2.2.2.2.2.2.2.1 v.2.2.2.2.2.2.2.2.2.2.1 v.2.2.2.2.2.2.2.2.2.2.2.1) :=
  runs_ok (P := fun v => TQ K N l (-1001) 0 v.1 v.2.1 v.2.2.2.2.2.1 v.2.2.2.2.2.2.2.2.1 v.2.2.2.2.2.2.2.2.2.1 v.2.2.2.2.2.2.2.2.2.2.1 v.2.2.2.2.2.2.2.2.2.2.2.1) b_q (fun v C hv => hv) (fun C' h => k_q (tx_of b_q h) (h 0 (by decide)) HP HH)
theorem t_2 {K : Nat} {tC tP row N kF : Nat → Int32} {xF xR xD xC rR rD kN kK tS tQ tF : Int32} {l : List (Nat → Int32)} {c : Nat} (G : Good N c) (HP : PB K row N) (HH : HL K kN kK kF l) : Rn (f_L_runs 10 [100, 43, 48, 59, 100, 43, 48, 59, 120, 57] xF xR xD xC row rR rD kN kK kF 0 tS tQ tF tC tP) (fun v => TQ K N l (-1002) (-1) v.1 v.2.1 v.2.2.2.2.2.1 v.2.2.2.2.2.2.2.2.1 v.2.2.2.2.2.2.2.2.2.1 v.2.2.2.2.2.2.2.2.2.2.1 v.2.2.2.2.2.2.2.2.2.2.2.1 ∧ TR 4 (nI c) 2 v.2.2.1 v.2.2.2.1 v.2.2.2.2.1) :=
  runs_ok (P := fun v => TQ K N l (-1002) (-1) v.1 v.2.1 v.2.2.2.2.2.1 v.2.2.2.2.2.2.2.2.1 v.2.2.2.2.2.2.2.2.2.1 v.2.2.2.2.2.2.2.2.2.2.1 v.2.2.2.2.2.2.2.2.2.2.2.1 ∧ TR 4 (nI c) 2 v.2.2.1 v.2.2.2.1 v.2.2.2.2.1) b_2 (fun v C hv => hv) (fun C' h => k_2 (tx_of b_2 h) h G HP HH)
theorem t_3 {K : Nat} {tC tP row N kF : Nat → Int32} {xF xR xD xC rR rD kN kK tS tQ tF : Int32} {l : List (Nat → Int32)} {c : Nat} (hc2 : 2 ≤ c) (G : Good N c) (HP : PB K row N) (HH : HL K kN kK kF l) : Rn (f_L_runs 8 [100, 43, 48, 59, 115, 49, 38, 49] xF xR xD xC row rR rD kN kK kF 0 tS tQ tF tC tP) (fun v => TQ K N l (-1002) (-1) v.1 v.2.1 v.2.2.2.2.2.1 v.2.2.2.2.2.2.2.2.1 v.2.2.2.2.2.2.2.2.2.1 v.2.2.2.2.2.2.2.2.2.2.1 v.2.2.2.2.2.2.2.2.2.2.2.1 ∧ TR 6 1 1 v.2.2.1 v.2.2.2.1 v.2.2.2.2.1) :=
  runs_ok (P := fun v => TQ K N l (-1002) (-1) v.1 v.2.1 v.2.2.2.2.2.1 v.2.2.2.2.2.2.2.2.1 v.2.2.2.2.2.2.2.2.2.1 v.2.2.2.2.2.2.2.2.2.2.1 v.2.2.2.2.2.2.2.2.2.2.2.1 ∧ TR 6 1 1 v.2.2.1 v.2.2.2.1 v.2.2.2.2.1) b_3 (fun v C hv => hv) (fun C' h => k_3 hc2 (tx_of b_3 h) h G HP HH)
