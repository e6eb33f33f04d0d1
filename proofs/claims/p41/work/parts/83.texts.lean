/-! ===== p41, pure: texts of commands ===== -/
theorem some_ok {x y : Int32} {n : Nat} (hy : y = nI n) (h0 : 0 < n) (hn : n < 2 ^ 30) : ∃ j, j < n ∧ f_L_some x y = some (nI j, ()) := by
  subst hy
  have hd : nz (nI n) = true := decide_eq_true (nI_ne0 h0 (by omega))
  have hr := rem_toInt x (nI n)
  rw [nI_toInt (n := n) (by omega)] at hr
  obtain ⟨b1, b2⟩ := tmod_bounds (a := x.toInt) (M := (n : Int)) (by omega)
  rw [f_L_some, cT hd]
  generalize x - x / nI n * nI n = r at hr ⊢
  by_cases h : (0 : Int32) ≤ r
  · obtain ⟨j, hj, rfl⟩ := nI_of (x := r) (fun q => by
      have q1 := Int32.lt_iff_toInt_lt.mp q
      have q2 := Int32.le_iff_toInt_le.mp h
      omega)
    rw [nI_toInt hj] at hr
    rw [if_pos h]
    exact ⟨j, by omega, rfl⟩
  · have q0 : r.toInt < 0 := by
      have q2 : ¬ (0 : Int32).toInt ≤ r.toInt := fun q => h (Int32.le_iff_toInt_le.mpr q)
      have q3 : (0 : Int32).toInt = 0 := rfl
      omega
    have e : r = nI 0 - nI (-r.toInt).toNat := Int32.toInt_inj.mp (by rw [pk_sub_toInt (by omega) (by omega)]; omega)
    rw [if_neg h]
    refine ⟨n - (-r.toInt).toNat, by omega, ?_⟩
    have e2 : r + nI n = nI (n - (-r.toInt).toNat) := by
      rw [← nI_sub (show (-r.toInt).toNat ≤ n by omega)]
      rw [nI_0] at e
      generalize nI (-r.toInt).toNat = w at e ⊢
      rw [e]
      grind
    rw [e2]
theorem n62 : ¬ (6 : Nat) = 2 := by decide
theorem n20 : ¬ (2 : Nat) = 0 := by decide
/-- a text's length and characters -/
theorem len_ok {n : Nat} {t : List Int32} : f_J0_length_8abf5 n t = some (nI n, ()) := by
  rw [f_J0_length_8abf5, f_J0_coder_7d493, bS]
  rw [show ((0 : Int32) &&& 31) = 0 by decide]
  exact congrArg (fun z => some (z, ())) (Int32.shiftRight_zero (a := nI n))
theorem and255 : ∀ q, q < 256 → (((nI q &&& (255 : Int32)).toUInt32 % 65536).toInt32) = nI q := by decide +kernel
theorem char_ok {n j q : Nat} {t : List Int32} (hn : n ≤ 12) (hj : j < n) (hq : q < 256) (e : t.getD j 0 = nI q) : f_J0_charAt_5068e n t (nI j) = some (nI q, ()) := by
  have h0 : ¬ nI j < 0 := nI_pos (by omega)
  rw [f_J0_charAt_5068e, f_J0_isLatin1_aae02, bS, if_neg n10, f_J1_charAt_3b067, f_J0_checkIndex_df160, f_J3_checkIndex_8e157, if_neg h0, if_pos (show nI j < Int32.ofNat n from nI_lt hj (by omega)), bS, bS, cT (inB_n hj (by omega)), nI_clamp (by omega), e, and255 q hq, cT (okc (by omega)), bS, cT (okc (by omega))]
theorem app_ok {l q : Nat} {f : Nat → Int32} (hl : l < 60) (hq : q < 65536) : f_L_append (nI l) f (nI q) = some (nI (l + 1), nI (l + 1), upd f l (nI q)) := by
  rw [f_L_append, f_X7_append, f_X1_isFull, if_pos (show nI l < 60 from nI_lt (b := 60) hl (by decide)), bS, if_pos rfl, f_X1_add, if_neg (nI_pos (by omega)), if_neg (show ¬ (60 : Int32) ≤ nI l from nI_ge (b := 60) hl (by decide)), cT (inB_n hl (by decide)), nI_clamp (by omega), vnc hq, nI_1, bS, f_X1_length, bS, bS, if_pos rfl]
abbrev T16 := Int32 × Int32 × Int32 × Int32 × Int32 × (Nat → Int32) × Int32 × Int32 × Int32 × Int32 × (Nat → Int32) × Int32 × Int32 × Int32 × Int32 × (Nat → Int32)
abbrev T17 := Int32 × Int32 × Int32 × Int32 × Int32 × (Nat → Int32) × Int32 × Int32 × Int32 × Int32 × (Nat → Int32) × Int32 × Int32 × Int32 × Int32 × (Nat → Int32) × (Nat → Int32)
def b256 (t : List Int32) (n : Nat) : Prop := n ≤ 12 ∧ ∀ j, j < n → ∃ q, q < 256 ∧ t.getD j 0 = nI q
theorem runs_l {n : Nat} {t : List Int32} (H : b256 t n) {xF xR xD xC rR rD kN kK tS tQ tF : Int32} {row kF tP : Nat → Int32} {P : T16 → Prop} {Q : T17 → Prop}
    (hQ : ∀ v C, P v → Q (v.1, v.2.1, v.2.2.1, v.2.2.2.1, v.2.2.2.2.1, v.2.2.2.2.2.1, v.2.2.2.2.2.2.1, v.2.2.2.2.2.2.2.1, v.2.2.2.2.2.2.2.2.1, v.2.2.2.2.2.2.2.2.2.1, v.2.2.2.2.2.2.2.2.2.2.1, v.2.2.2.2.2.2.2.2.2.2.2.1, v.2.2.2.2.2.2.2.2.2.2.2.2.1, v.2.2.2.2.2.2.2.2.2.2.2.2.2.1, v.2.2.2.2.2.2.2.2.2.2.2.2.2.2.1, C, v.2.2.2.2.2.2.2.2.2.2.2.2.2.2.2)) :
    ∀ k i m C, i + k = n → k < m → (∀ j, j < i → C j = t.getD j 0) → (∀ C', (∀ j, j < n → C' j = t.getD j 0) → Rn (f_L_commands xF xR xD xC row rR rD kN kK kF (nI n) tS tQ tF C' tP) P) →
      Rn (f_L_runs_L2 n t xF xR xD xC row rR rD kN kK kF tS tQ tF tP m (nI i) (nI i) C) Q
  | k, i, 0, _, _, hm, _, _ => absurd hm (Nat.not_lt_zero k)
  | 0, i, m + 1, C, hk, _, hC, hr => by
    have e : i = n := by omega
    subst e
    have hn := H.1
    rw [f_L_runs_L2]
    refine Rn.b len_ok ?_
    refine Rn.y (nI_le (Nat.le_refl i) (by omega)) ?_
    exact Rn.bb (hr C hC) (fun v hv => Rn.s (hQ v C hv))
  | k + 1, i, m + 1, C, hk, hm, hC, hr => by
    have hn := H.1
    have hi : i < n := by omega
    obtain ⟨q, hq, eq⟩ := H.2 i hi
    rw [f_L_runs_L2]
    refine Rn.b len_ok ?_
    refine Rn.n (nI_ge hi (by omega)) ?_
    refine Rn.b (char_ok hn hi hq eq) ?_
    refine Rn.b (app_ok (show i < 60 by omega) (by omega)) ?_
    refine Rn.y (nI_1 i).symm ?_
    rw [nI_1]
    refine runs_l H hQ k (i + 1) m (upd C i (nI q)) (by omega) (by omega) (fun j hj => ?_) hr
    by_cases e : j = i
    · subst e
      rw [upd_s, eq]
    · rw [upd_n e, hC j (by omega)]
theorem runs_ok {n : Nat} {t : List Int32} (H : b256 t n) {xF xR xD xC rR rD kN kK tS tQ tF : Int32} {row kF tP tC : Nat → Int32} {P : T16 → Prop} {Q : T17 → Prop}
    (hQ : ∀ v C, P v → Q (v.1, v.2.1, v.2.2.1, v.2.2.2.1, v.2.2.2.2.1, v.2.2.2.2.2.1, v.2.2.2.2.2.2.1, v.2.2.2.2.2.2.2.1, v.2.2.2.2.2.2.2.2.1, v.2.2.2.2.2.2.2.2.2.1, v.2.2.2.2.2.2.2.2.2.2.1, v.2.2.2.2.2.2.2.2.2.2.2.1, v.2.2.2.2.2.2.2.2.2.2.2.2.1, v.2.2.2.2.2.2.2.2.2.2.2.2.2.1, v.2.2.2.2.2.2.2.2.2.2.2.2.2.2.1, C, v.2.2.2.2.2.2.2.2.2.2.2.2.2.2.2))
    (hr : ∀ C', (∀ j, j < n → C' j = t.getD j 0) → Rn (f_L_commands xF xR xD xC row rR rD kN kK kF (nI n) tS tQ tF C' tP) P) : Rn (f_L_runs n t xF xR xD xC row rR rD kN kK kF 0 tS tQ tF tC tP) Q :=
  runs_l H hQ n 0 13 tC (by omega) (by have := H.1; omega) (fun j hj => absurd hj (Nat.not_lt_zero j)) hr
/-! the class scans any text to its end -/
theorem sg_t {l Q : Nat} {f : Nat → Int32} {F p : Int32} (H : TX l f f) (hQ : Q ≤ l) (hp0 : ¬ 0 = p) : ∃ Q' F', Q ≤ Q' ∧ Q' ≤ l ∧ f_X1_scanSign (nI l) (nI Q) F f p = some (nI Q', F') := by
  by_cases h : Q < l ∧ f Q = p
  · exact ⟨Q + 1, F, by omega, by omega, (sign_y H h.1 h.2).1⟩
  · exact ⟨Q, mk (nI Q) F, Nat.le_refl Q, hQ, (sign_n H hQ hp0 h).1⟩
theorem dg_t {l Q a b : Nat} {f : Nat → Int32} {F : Int32} (H : TX l f f) (hQ : Q ≤ l) (hab : a ≤ b) (hb : b < 100) : ∃ Q' v F', Q ≤ Q' ∧ Q' ≤ l ∧ f_X1_scanDigits (nI l) (nI Q) F f (nI a) (nI b) = some (v, nI Q', F') := by
  obtain ⟨Q', v, q1, q2, h | h⟩ := dig_ok (F := F) (p := 0) H hQ (by decide) hab hb
  · exact ⟨Q', v, F, q1, q2, h.1⟩
  · exact ⟨Q', v, _, q1, q2, h.1⟩
theorem dg11 {l Q : Nat} {f : Nat → Int32} {F : Int32} (H : TX l f f) (hQ : Q ≤ l) : ∃ Q' v F', Q ≤ Q' ∧ Q' ≤ l ∧ f_X1_scanDigits (nI l) (nI Q) F f 1 1 = some (v, nI Q', F') := dg_t (a := 1) (b := 1) H hQ (by decide) (by decide)
theorem dg34 {l Q : Nat} {f : Nat → Int32} {F : Int32} (H : TX l f f) (hQ : Q ≤ l) : ∃ Q' v F', Q ≤ Q' ∧ Q' ≤ l ∧ f_X1_scanDigits (nI l) (nI Q) F f 3 4 = some (v, nI Q', F') := dg_t (a := 3) (b := 4) H hQ (by decide) (by decide)
theorem st0 {c : Nat} {T : Nat → Int32} {v : Int32} (hc : c < 60) : f_X1_setNumber T (nI c) 0 v = some (upd T (4 * c + 0) v) := setN (w := 0) hc (by decide)
theorem st1 {c : Nat} {T : Nat → Int32} {v : Int32} (hc : c < 60) : f_X1_setNumber T (nI c) 1 v = some (upd T (4 * c + 1) v) := setN (w := 1) hc (by decide)
theorem st2 {c : Nat} {T : Nat → Int32} {v : Int32} (hc : c < 60) : f_X1_setNumber T (nI c) 2 v = some (upd T (4 * c + 2) v) := setN (w := 2) hc (by decide)
theorem st3 {c : Nat} {T : Nat → Int32} {v : Int32} (hc : c < 60) : f_X1_setNumber T (nI c) 3 v = some (upd T (4 * c + 3) v) := setN (w := 3) hc (by decide)
theorem bf_t {l Q c : Nat} {f T : Nat → Int32} {F x : Int32} (H : TX l f f) (hQ : Q ≤ l) (hc : c < 60) : ∃ Q' F' T', Q' ≤ l ∧ f_X1_scanBehindFirst (nI l) (nI Q) F f T (nI c) x = some (nI Q', F', T') := by
  rw [f_X1_scanBehindFirst]
  by_cases h1 : x = 109
  · obtain ⟨Q1, F1, a1, a2, a3⟩ := sg_t (F := F) (p := 62) H hQ (by decide)
    obtain ⟨Q2, v2, F2, b1, b2, b3⟩ := dg11 (F := F1) H a2
    exact ⟨Q2, F2, _, b2, by rw [if_pos h1, a3, bS, b3, bS, st2 hc, bS]⟩
  by_cases h2 : x = 115
  · obtain ⟨Q1, F1, a1, a2, a3⟩ := sg_t (F := F) (p := 38) H hQ (by decide)
    obtain ⟨Q2, v2, F2, b1, b2, b3⟩ := dg11 (F := F1) H a2
    exact ⟨Q2, F2, _, b2, by rw [if_neg h1, if_pos h2, a3, bS, b3, bS, st2 hc, bS]⟩
  by_cases h3 : x = 119
  · obtain ⟨Q1, F1, a1, a2, a3⟩ := sg_t (F := F) (p := 61) H hQ (by decide)
    obtain ⟨Q2, v2, F2, b1, b2, b3⟩ := dg34 (F := F1) H a2
    obtain ⟨Q3, F3, c1, c2, c3⟩ := sg_t (F := F2) (p := 47) H b2 (by decide)
    obtain ⟨Q4, v4, F4, d1, d2, d3⟩ := dg11 (F := F3) H c2
    exact ⟨Q4, F4, _, d2, by rw [if_neg h1, if_neg h2, if_pos h3, a3, bS, b3, bS, st2 hc, bS, c3, bS, d3, bS, st3 hc, bS]⟩
  · exact ⟨Q, F, T, hQ, by rw [if_neg h1, if_neg h2, if_neg h3]⟩
theorem cm_t {l Q c : Nat} {f T : Nat → Int32} {F : Int32} (H : TX l f f) (hQ : Q ≤ l) (hc : c < 60) : ∃ Q' F' T', Q' ≤ l ∧ f_X1_scanCommand (nI l) (nI Q) F f T (nI c) = some (nI Q', F', T') := by
  have hl := H.1
  by_cases hin : Q < l
  · by_cases hk : kindB (f Q) = true
    · by_cases h1 : f Q = 100
      · obtain ⟨Q1, v1, F1, a1, a2, a3, -⟩ := chg_ok (Q := Q + 1) (F := F) H (by omega)
        exact ⟨Q1, F1, _, a2, by rw [f_X1_scanCommand, here_in H hin, bS, x1_kY hk, bS, if_neg n10, st0 hc, bS, if_pos h1, nI_1, a3, bS, st1 hc, bS]⟩
      by_cases h2 : f Q = 114
      · exact ⟨Q + 1, F, _, by omega, by rw [f_X1_scanCommand, here_in H hin, bS, x1_kY hk, bS, if_neg n10, st0 hc, bS, if_neg h1, if_pos h2, nI_1]⟩
      · obtain ⟨Q1, v1, F1, a1, a2, a3⟩ := dg11 (F := F) H (show Q + 1 ≤ l by omega)
        obtain ⟨Q2, F2, T2, b2, b3⟩ := bf_t (F := F1) (T := upd (upd T (4 * c + 0) (f Q)) (4 * c + 1) v1) (x := f Q) H a2 hc
        exact ⟨Q2, F2, T2, b2, by rw [f_X1_scanCommand, here_in H hin, bS, x1_kY hk, bS, if_neg n10, st0 hc, bS, if_neg h1, if_neg h2, nI_1, a3, bS, st1 hc, bS, b3, bS]⟩
    · exact ⟨Q, _, T, hQ, by rw [f_X1_scanCommand, here_in H hin, bS, x1_kN hk, bS, if_pos rfl, mark_eq, bS]⟩
  · exact ⟨Q, _, T, hQ, by rw [f_X1_scanCommand, here_out hl (by omega) (by omega), bS, x1_kN (by decide), bS, if_pos rfl, mark_eq, bS]⟩
theorem sc_l {l : Nat} {f : Nat → Int32} (H : TX l f f) : ∀ k c Q n s F T, c + k = 60 → k < n → Q ≤ l → s ≤ 60 → ∃ F1 s' Q1 F2 T1, s' ≤ 60 ∧ f_X1_scan_L17 (nI l) f n (nI c) (nI s) (nI Q) F T = some (F1, nI s', Q1, F2, T1)
  | k, c, Q, 0, _, _, _, _, hn, _, _ => absurd hn (Nat.not_lt_zero k)
  | 0, c, Q, n + 1, s, F, T, hk, _, hQ, hs => ⟨F, s, nI Q, F, T, hs, by rw [f_X1_scan_L17, if_pos (show (60 : Int32) ≤ nI c from nI_le (a := 60) (by omega) (by omega))]⟩
  | k + 1, c, Q, n + 1, s, F, T, hk, hn, hQ, hs => by
    have hl := H.1
    have hc : ¬ (60 : Int32) ≤ nI c := nI_ge (b := 60) (by omega) (by decide)
    obtain ⟨Q1, F1, T1, a1, a2⟩ := cm_t (c := c) (T := T) (F := F) H hQ (by omega)
    by_cases h1 : F1 = -1
    · by_cases h2 : Q1 < l
      · obtain ⟨Q2, F2, b1, b2, b3⟩ := sg_t (F := F1) (p := 59) H a1 (by decide)
        obtain ⟨F3, s', Q3, F4, T4, d1, d2⟩ := sc_l H k (c + 1) Q2 n (c + 1) F2 T1 (by omega) (by omega) b2 (by omega)
        refine ⟨F3, s', Q3, F4, T4, d1, ?_⟩
        rw [f_X1_scan_L17, if_neg hc, a2, bS, if_pos h1, if_pos (nI_lt h2 (by omega)), b3, bS, nI_1]
        exact d2
      · exact ⟨F1, c + 1, nI Q1, F1, T1, by omega, by rw [f_X1_scan_L17, if_neg hc, a2, bS, if_pos h1, if_neg (nI_nlt (by omega) (by omega)), nI_1]⟩
    · exact ⟨F1, c + 1, nI Q1, F1, T1, by omega, by rw [f_X1_scan_L17, if_neg hc, a2, bS, if_neg h1, nI_1]⟩
theorem sc_t {l : Nat} {f T : Nat → Int32} {tS tQ tF : Int32} (H : TX l f f) : ∃ F1 s' Q1 F2 T1, s' ≤ 60 ∧ f_X1_scan (nI l) tS tQ tF f T = some (F1, nI s', Q1, F2, T1) :=
  sc_l H 60 0 0 FU 0 (-1) T (by omega) (by rw [FU]; omega) (by omega) (by omega)
/-! the commands of a text are carried out, all of them or none -/
theorem st_any {R N : Nat → Int32} {rR rD k p q t : Int32} (H : PR R N) : ∃ y, Step R N 0 0 0 0 (f_X6_carryOut R rR rD k p q t) y := by
  by_cases h1 : k = 98
  · subst h1; exact ⟨_, co_98 (st_fill H)⟩
  by_cases h2 : k = 100
  · subst h2; exact ⟨_, co_100 (st_day H)⟩
  by_cases h3 : k = 106
  · subst h3; exact ⟨_, co_106 (st_enter H)⟩
  by_cases h4 : k = 109
  · subst h4; exact ⟨_, co_109 (st_climb H)⟩
  by_cases h5 : k = 111
  · subst h5; exact ⟨_, co_111 (st_uncork H)⟩
  by_cases h6 : k = 115
  · subst h6; exact ⟨_, co_115 (st_swap H)⟩
  by_cases h7 : k = 116
  · subst h7; exact ⟨_, co_116 (st_knock H)⟩
  by_cases h8 : k = 119
  · subst h8; exact ⟨_, co_119 (st_bet H)⟩
  by_cases h9 : k = 120
  · subst h9; exact ⟨_, co_120 (st_leave H)⟩
  · refine ⟨f_X8_reads 0 0 0 0 N, ?_⟩
    rw [f_X6_carryOut, if_neg h1, if_neg h2, if_neg h3, if_neg h4, if_neg h5, if_neg h6, if_neg h7, if_neg h8, if_neg h9]
    exact (st_read H).wrap
theorem gP {T : Nat → Int32} {c : Nat} (hc : c < 60) : f_X1_kind T (nI c) = some (T (4 * c + 0), ()) := by
  rw [f_X1_kind, show f_X1_number T (nI c) (0 : Int32) = some (T (4 * c + 0), ()) from getN (w := 0) hc (by decide), bS]
theorem g1 {T : Nat → Int32} {c : Nat} (hc : c < 60) : f_X1_number T (nI c) (1 : Int32) = some (T (4 * c + 1), ()) := getN (w := 1) hc (by decide)
theorem g2 {T : Nat → Int32} {c : Nat} (hc : c < 60) : f_X1_number T (nI c) (2 : Int32) = some (T (4 * c + 2), ()) := getN (w := 2) hc (by decide)
theorem g3 {T : Nat → Int32} {c : Nat} (hc : c < 60) : f_X1_number T (nI c) (3 : Int32) = some (T (4 * c + 3), ()) := getN (w := 3) hc (by decide)
theorem ca_l {z u s : Nat} {F' T : Nat → Int32} {xF xR xD xC tL tQ tF : Int32} (hz : z < 9) (hu : u ≤ 8) (hs : s ≤ 60) : ∀ r c n K row N rR rD, c + r = s → r < n → K + 50 * r < 2 ^ 29 → PB K row N →
    (∃ R' N' r1 r2, f_X7_commands_L49 xF xR xD xC (nI z) (nI u) F' tL (nI s) tQ tF T n (nI c) row rR rD = some (0, nI s, xF, xR, xD, xC, R', r1, r2, nI ((z + 1) % 9), nI (min (u + 1) 8), F', tL, nI s, tQ, tF, T) ∧ PB (K + 50 * r) R' N') ∨
      ∃ i why more R', ¬ why = 0 ∧ f_X7_commands_L49 xF xR xD xC (nI z) (nI u) F' tL (nI s) tQ tF T n (nI c) row rR rD = some (6, 0, xF, why, more, i, R', why, more, nI z, nI u, F', tL, nI s, tQ, tF, T) ∧ ∀ i, i < 55 → R' i = F' (55 * z + i)
  | r, c, 0, _, _, _, _, _, _, hn, _, _ => absurd hn (Nat.not_lt_zero r)
  | 0, c, n + 1, K, row, N, rR, rD, hc, _, _, HP => by
    refine Or.inl ⟨row, N, rR, rD, ?_, HP⟩
    rw [f_X7_commands_L49, f_X1_size, bS, if_pos (nI_le (by omega) (by omega)), acc_eq hz hu, bS, bS]
  | r + 1, c, n + 1, K, row, N, rR, rD, hc, hn, hK, HP => by
    have c60 : c < 60 := by omega
    have nc : ¬ nI s ≤ nI c := nI_ge (by omega) (by omega)
    obtain ⟨y, hy⟩ := st_any (rR := rR) (rD := rD) (k := T (4 * c + 0)) (p := T (4 * c + 1)) (q := T (4 * c + 2)) (t := T (4 * c + 3)) HP.1
    rcases hy with ⟨a, R', N', s1, s2, s3, s4⟩ | ⟨b, why, more, hw, s1, s2⟩
    · have x49 : f_X7_commands_L49 xF xR xD xC (nI z) (nI u) F' tL (nI s) tQ tF T (n + 1) (nI c) row rR rD = f_X7_commands_L49 xF xR xD xC (nI z) (nI u) F' tL (nI s) tQ tF T n (nI (c + 1)) R' 0 0 := by
        rw [f_X7_commands_L49, f_X1_size, bS, if_neg nc, gP c60, bS, g1 c60, bS, g2 c60, bS, g3 c60, bS, s1, bS, f_X6_isRefused, if_pos rfl, bS, if_pos rfl, nI_1]
      have HB' : PB (K + 50) R' N' := ⟨s3, (s4 K (by omega) HP.2).1⟩
      rw [x49]
      rcases ca_l (xF := xF) (xR := xR) (xD := xD) (xC := xC) (tL := tL) (tQ := tQ) (tF := tF) (T := T) (F' := F') hz hu hs r (c + 1) n (K + 50) R' N' 0 0 (by omega) (by omega) (by omega) HB' with ⟨R2, N2, r1, r2, e1, e2⟩ | h
      · exact Or.inl ⟨R2, N2, r1, r2, e1, e2.mono (by omega)⟩
      · exact Or.inr h
    · obtain ⟨R2, b1, b2⟩ := back_eq (row := row) (kF := F') (x := z) hz
      refine Or.inr ⟨nI c, why, more, R2, hw, ?_, b2⟩
      rw [f_X7_commands_L49, f_X1_size, bS, if_neg nc, gP c60, bS, g1 c60, bS, g2 c60, bS, g3 c60, bS, s1, bS, f_X6_isRefused, if_neg hw, bS, if_neg n10, b1, bS, f_X7_keepReason, f_X6_latestReason, bS, f_X6_latestDetail, bS, bS]
def CQ (K : Nat) (N : Nat → Int32) (l : List (Nat → Int32)) (ans : Int32) (row : Nat → Int32) (kN kK : Int32) (kF : Nat → Int32) (tL : Int32) : Prop :=
  tL = 0 ∧ ((¬ ans < 0 ∧ ∃ N', PB (K + 3000) row N' ∧ HL (K + 3000) kN kK kF ((N :: l).take 8)) ∨ (ans < 0 ∧ PB K row N ∧ HL K kN kK kF l))
theorem cmds_any {n K : Nat} {C tP row N kF : Nat → Int32} {xF xR xD xC rR rD kN kK tS tQ tF : Int32} {l : List (Nat → Int32)} (hK : K + 3000 < 2 ^ 29) (H : TX n C C) (HH : HL K kN kK kF l) (HP : PB K row N) :
    Rn (f_L_commands xF xR xD xC row rR rD kN kK kF (nI n) tS tQ tF C tP) (fun v => CQ K N l v.1 v.2.2.2.2.2.1 v.2.2.2.2.2.2.2.2.1 v.2.2.2.2.2.2.2.2.2.1 v.2.2.2.2.2.2.2.2.2.2.1 v.2.2.2.2.2.2.2.2.2.2.2.1) := by
  obtain ⟨F1, s, Q1, F2, T1, hs, hsc⟩ := sc_t (T := tP) (tS := tS) (tQ := tQ) (tF := tF) H
  by_cases hF : F1 = -1
  · have HH0 := HH
    obtain ⟨z, hz, hl, rfl, rfl, h⟩ := HH
    obtain ⟨F', f1, f2⟩ := prep_eq (row := row) (kF := kF) hz
    rcases ca_l (xF := F1) (xR := xR) (xD := xD) (xC := xC) (tL := 0) (tQ := Q1) (tF := F2) (T := T1) (F' := F') hz hl hs s 0 FU K row N rR rD (by omega) (by rw [FU]; omega) (by omega) HP with ⟨R2, N2, r1, r2, e1, e2⟩ | ⟨i, why, more, R2, hw, e1, e2⟩
    · have hcm : f_L_commands xF xR xD xC row rR rD (nI z) (nI l.length) kF (nI n) tS tQ tF C tP = some (nI s, F1, xR, xD, xC, R2, r1, r2, nI ((z + 1) % 9), nI (min (l.length + 1) 8), F', 0, nI s, Q1, F2, T1) := by
        rw [f_L_commands, f_X7_commands, hsc, bS, f_X1_empty, bS, if_pos hF, f1, bS]
        rw [show f_X7_commands_L49 F1 xR xD xC (nI z) (nI l.length) F' 0 (nI s) Q1 F2 T1 FU 0 row rR rD = _ from e1, bS, if_pos rfl]
      exact Rn.e hcm ⟨rfl, Or.inl ⟨nI_pos (show s < 2 ^ 31 by omega), N2, e2.mono (by omega), (hl_up hz hl HP h f2).mono (Nat.le_add_right K 3000)⟩⟩
    · have hcm : f_L_commands xF xR xD xC row rR rD (nI z) (nI l.length) kF (nI n) tS tQ tF C tP = some (-1002, F1, why, more, i, R2, why, more, nI z, nI l.length, F', 0, nI s, Q1, F2, T1) := by
        rw [f_L_commands, f_X7_commands, hsc, bS, f_X1_empty, bS, if_pos hF, f1, bS]
        rw [show f_X7_commands_L49 F1 xR xD xC (nI z) (nI l.length) F' 0 (nI s) Q1 F2 T1 FU 0 row rR rD = _ from e1, bS, if_neg n60, if_neg n62, if_pos rfl]
      refine Rn.e hcm ⟨rfl, Or.inr ⟨show (-1002 : Int32) < 0 by decide, PB_congr HP (fun i hi => ?_) (fun i _ => rfl), hl_in hz hl h f2⟩⟩
      show R2 i = row i
      rw [e2 i hi, f2, if_pos (by omega), show 55 * z + i - 55 * z = i by omega]
  · have hcm : f_L_commands xF xR xD xC row rR rD kN kK kF (nI n) tS tQ tF C tP = some (-1001, F1, xR, xD, xC, row, rR, rD, kN, kK, kF, 0, nI s, Q1, F2, T1) := by
      rw [f_L_commands, f_X7_commands, hsc, bS, f_X1_empty, bS, if_neg hF, bS, if_neg n20, if_pos rfl]
    exact Rn.e hcm ⟨rfl, Or.inr ⟨show (-1001 : Int32) < 0 by decide, HP, HH⟩⟩
/-- one command of a text -/
theorem l49_y {n c s : Nat} {xF xR xD xC kN kK tL tQ tF rR rD a : Int32} {F' T row R' : Nat → Int32} (hcs : c < s) (hs : s ≤ 60) (e : f_X6_carryOut row rR rD (T (4 * c + 0)) (T (4 * c + 1)) (T (4 * c + 2)) (T (4 * c + 3)) = some (a, R', 0, 0)) :
    f_X7_commands_L49 xF xR xD xC kN kK F' tL (nI s) tQ tF T (n + 1) (nI c) row rR rD = f_X7_commands_L49 xF xR xD xC kN kK F' tL (nI s) tQ tF T n (nI (c + 1)) R' 0 0 := by
  have c60 : c < 60 := by omega
  rw [f_X7_commands_L49, f_X1_size, bS, if_neg (nI_ge hcs (by omega)), gP c60, bS, g1 c60, bS, g2 c60, bS, g3 c60, bS, e, bS, f_X6_isRefused, if_pos rfl, bS, if_pos rfl, nI_1]
theorem l49_n {n c s : Nat} {xF xR xD xC kN kK tL tQ tF rR rD b why more : Int32} {F' T row R1 R2 : Nat → Int32} (hcs : c < s) (hs : s ≤ 60) (e : f_X6_carryOut row rR rD (T (4 * c + 0)) (T (4 * c + 1)) (T (4 * c + 2)) (T (4 * c + 3)) = some (b, R1, why, more)) (hw : ¬ why = 0) (hb : f_X2_returnToPrepared R1 kN F' = some R2) :
    f_X7_commands_L49 xF xR xD xC kN kK F' tL (nI s) tQ tF T (n + 1) (nI c) row rR rD = some (6, 0, xF, why, more, nI c, R2, why, more, kN, kK, F', tL, nI s, tQ, tF, T) := by
  have c60 : c < 60 := by omega
  rw [f_X7_commands_L49, f_X1_size, bS, if_neg (nI_ge hcs (by omega)), gP c60, bS, g1 c60, bS, g2 c60, bS, g3 c60, bS, e, bS, f_X6_isRefused, if_neg hw, bS, if_neg n10, hb, bS, f_X7_keepReason, f_X6_latestReason, bS, f_X6_latestDetail, bS, bS]
