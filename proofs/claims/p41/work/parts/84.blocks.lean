/-! ===== p41, pure: what is refused changes nothing ===== -/
abbrev T9 := Int32 × Int32 × Int32 × (Nat → Int32) × Int32 × Int32 × Int32 × Int32 × (Nat → Int32)
def S9 (K : Nat) (row : Nat → Int32) (kN kK : Int32) (l : List (Nat → Int32)) (v : T9) : Prop := ∃ xR xD xC rR rD kF, v = (xR, xD, xC, row, rR, rD, kN, kK, kF) ∧ HL K kN kK kF l
def S10 (K : Nat) (row : Nat → Int32) (kN kK : Int32) (l : List (Nat → Int32)) (v : T10) : Prop := ∃ xR xD xC rR rD kF, v = (1, xR, xD, xC, row, rR, rD, kN, kK, kF) ∧ HL K kN kK kF l
theorem b50 {K c : Nat} {row N kF : Nat → Int32} {xR xD xC rR rD kN kK : Int32} {l : List (Nat → Int32)} (hK : K < 2 ^ 29) (G : Good N c) (HP : PB K row N) (HH : HL K kN kK kF l)  : Rn (f_L_refused_L50 (nI c) 1 xR xD xC row rR rD kN kK kF) (S9 K row kN kK l) := by
  have hc := G.1
  have hR := HP.rel G
  rw [f_L_refused_L50]
  by_cases h : c < 6
  · refine Rn.y (show nI c < 6 from nI_lt (b := 6) h (by decide)) ?_
    exact Rn.s ⟨_, _, _, _, _, kF, rfl, HH⟩
  · have e : c = 6 := by omega
    subst e
    obtain ⟨h0, h9, e1⟩ := (G.2.2.2.2 0 (by decide)).1
    have e2 : row (13 + 7 * 0 + 1) = nI h0 := (hR.2.1 0 (by decide) 1 (by decide) (by decide)).trans e1
    refine Rn.n (show ¬ nI 6 < 6 by decide) ?_
    refine Rn.b (show f_L_of row 0 1 = some (row (13 + 7 * 0 + 1), ()) from v_of (m := 0) (w := 1) G hR (by decide) (by decide)) ?_
    refine Rn.bb (r_join hK HH HP (by rw [e2]; exact e_en6 G hR h9) (by decide)) fun v hv => ?_
    obtain ⟨F, rfl, HH⟩ := hv
    refine Rn.y rfl ?_
    refine Rn.b (is_y (w := 2) (by decide)) ?_
    refine Rn.n n10 ?_
    exact Rn.s ⟨_, _, _, _, _, F, rfl, HH⟩
theorem b482 {K c : Nat} {row N kF : Nat → Int32} {xR xD xC rR rD kN kK : Int32} {l : List (Nat → Int32)} (hK : K < 2 ^ 29) (G : Good N c) (HP : PB K row N) (HH : HL K kN kK kF l) {m h : Nat} (hm : m < c) (h9 : h < 10) (e : f_X0_ownerOf row (nI h) = some (nI m, ())) : Rn (f_L_refused_L482 (nI c) (nI m) (nI h) 1 xR xD xC row rR rD kN kK kF) (S9 K row kN kK l) := by
  have hc := G.1
  have hR := HP.rel G
  rw [f_L_refused_L482]
  by_cases h6 : c = 6
  · refine Rn.y (show nI c = 6 by rw [h6]; rfl) ?_
    exact Rn.s ⟨_, _, _, _, _, kF, rfl, HH⟩
  · refine Rn.n (show ¬ nI c = 6 from fun q => h6 ((nI_eq (b := 6) (by omega) (by decide)).mp q)) ?_
    refine Rn.bb (r_join hK HH HP (e_en3 G hR (by omega) h9 (by omega) e) (by decide)) fun v hv => ?_
    obtain ⟨F, rfl, HH⟩ := hv
    refine Rn.y rfl ?_
    refine Rn.b (is_y (w := 3) (by decide)) ?_
    refine Rn.n n10 ?_
    exact Rn.s ⟨_, _, _, _, _, F, rfl, HH⟩
theorem b517 {K c : Nat} {row N kF : Nat → Int32} {xR xD xC rR rD kN kK : Int32} {l : List (Nat → Int32)} (hK : K < 2 ^ 29) (G : Good N c) (HP : PB K row N) (HH : HL K kN kK kF l) {m : Nat} (hm : m < c) : Rn (f_L_refused_L517 (nI m) (row (13 + 7 * m + 3)) 1 1 xR xD xC row rR rD kN kK kF) (S10 K row kN kK l) := by
  have hc := G.1
  have hR := HP.rel G
  have e3 : row (13 + 7 * m + 3) = N (13 + 7 * m + 3) := hR.2.1 m hm 3 (by decide) (by decide)
  rw [f_L_refused_L517]
  by_cases h : row (13 + 7 * m + 3) ≤ 0
  · refine Rn.y h ?_
    refine Rn.n n10 ?_
    refine Rn.bb (r_tap hK HH HP (e_kn8 G hR hm (by rw [← e3]; exact h)) (by decide)) fun v hv => ?_
    obtain ⟨F, rfl, HH⟩ := hv
    refine Rn.y rfl ?_
    refine Rn.b (is_y (w := 8) (by decide)) ?_
    refine Rn.n n10 ?_
    exact Rn.s ⟨_, _, _, _, _, F, rfl, HH⟩
  · have hw : 0 < N (13 + 7 * m + 3) := by
      rw [← e3]
      grind
    refine Rn.n h ?_
    refine Rn.n n10 ?_
    refine Rn.bb (r_wager hK HH HP (e_be7 G hR hm (by decide) (by decide) (by decide) (by decide) hw) (by decide)) fun v hv => ?_
    obtain ⟨F, rfl, HH⟩ := hv
    refine Rn.y rfl ?_
    refine Rn.b (v_of (w := 2) G hR hm (by decide)) ?_
    refine Rn.b (is_y (w := 7) (by decide)) ?_
    refine Rn.n n10 ?_
    refine Rn.bb (r_leave hK HH HP (e_go7 G hR hm hw) (by decide)) fun v hv => ?_
    obtain ⟨F, rfl, HH⟩ := hv
    refine Rn.y rfl ?_
    refine Rn.b (v_of (w := 2) G hR hm (by decide)) ?_
    refine Rn.b (is_y (w := 7) (by decide)) ?_
    refine Rn.n n10 ?_
    exact Rn.s ⟨_, _, _, _, _, F, rfl, HH⟩
theorem b631 {K c : Nat} {row N kF : Nat → Int32} {xR xD xC rR rD kN kK : Int32} {l : List (Nat → Int32)} (hK : K < 2 ^ 29) (G : Good N c) (HP : PB K row N) (HH : HL K kN kK kF l) {m : Nat} (hm : m < c) : Rn (f_L_refused_L631 (nI m) (row (13 + 7 * m + 3)) 1 1 xR xD xC row rR rD kN kK kF) (S10 K row kN kK l) := by
  have hc := G.1
  have hR := HP.rel G
  have e4 : row (13 + 7 * m + 4) = N (13 + 7 * m + 4) := hR.2.1 m hm 4 (by decide) (by decide)
  rw [f_L_refused_L631]
  refine Rn.b (v_of (w := 4) G hR hm (by decide)) ?_
  by_cases h : row (13 + 7 * m + 4) = 1
  · refine Rn.y h ?_
    refine Rn.n n10 ?_
    refine Rn.bb (r_tap hK HH HP (e_kn9 G hR hm (by rw [← e4]; exact h)) (by decide)) fun v hv => ?_
    obtain ⟨F, rfl, HH⟩ := hv
    refine Rn.y rfl ?_
    refine Rn.b (is_y (w := 9) (by decide)) ?_
    refine Rn.n n10 ?_
    exact Rn.s ⟨_, _, _, _, _, F, rfl, HH⟩
  · refine Rn.n h ?_
    exact Rn.s ⟨_, _, _, _, _, kF, rfl, HH⟩
theorem b677 {K c : Nat} {row N kF : Nat → Int32} {xR xD xC rR rD kN kK : Int32} {l : List (Nat → Int32)} (hK : K < 2 ^ 29) (G : Good N c) (HP : PB K row N) (HH : HL K kN kK kF l) {m : Nat} (hm : m < c) : Rn (f_L_refused_L677 (nI m) 1 1 xR xD xC row rR rD kN kK kF) (S10 K row kN kK l) := by
  have hc := G.1
  have hR := HP.rel G
  rw [f_L_refused_L677]
  refine Rn.b (v_of (w := 5) G hR hm (by decide)) ?_
  by_cases h : row (13 + 7 * m + 5) = 0
  · refine Rn.y h ?_
    refine Rn.n n10 ?_
    refine Rn.bb (r_letOut hK HH HP (e_un12 G hR hm h) (by decide)) fun v hv => ?_
    obtain ⟨F, rfl, HH⟩ := hv
    refine Rn.y rfl ?_
    refine Rn.b (is_y (w := 12) (by decide)) ?_
    refine Rn.n n10 ?_
    exact Rn.s ⟨_, _, _, _, _, F, rfl, HH⟩
  · refine Rn.n h ?_
    exact Rn.s ⟨_, _, _, _, _, kF, rfl, HH⟩
theorem b721 {K c : Nat} {row N kF : Nat → Int32} {xR xD xC rR rD kN kK : Int32} {l : List (Nat → Int32)} (hK : K < 2 ^ 29) (G : Good N c) (HP : PB K row N) (HH : HL K kN kK kF l) {m : Nat} (hm : m < c) : Rn (f_L_refused_L721 (nI m) 1 1 xR xD xC row rR rD kN kK kF) (S10 K row kN kK l) := by
  have hc := G.1
  have hR := HP.rel G
  rw [f_L_refused_L721]
  refine Rn.b (v_wea (w := 2) (by decide)) ?_
  by_cases h : row 3 = 0
  · refine Rn.y h ?_
    refine Rn.n n10 ?_
    refine Rn.bb (r_bottle hK HH HP (e_fi10 G hR hm h) (by decide)) fun v hv => ?_
    obtain ⟨F, rfl, HH⟩ := hv
    refine Rn.y rfl ?_
    refine Rn.b (v_wea (w := 1) (by decide)) ?_
    refine Rn.b (is_y (w := 10) (by decide)) ?_
    refine Rn.n n10 ?_
    exact Rn.s ⟨_, _, _, _, _, F, rfl, HH⟩
  · refine Rn.n h ?_
    exact Rn.s ⟨_, _, _, _, _, kF, rfl, HH⟩
theorem b773 {K c : Nat} {row N kF : Nat → Int32} {xR xD xC rR rD kN kK : Int32} {l : List (Nat → Int32)} (hK : K < 2 ^ 29) (G : Good N c) (HP : PB K row N) (HH : HL K kN kK kF l) {tL : Int32} : Rn (f_L_refused_L773 tL 1 1 xR xD xC row rR rD kN kK kF) (S10 K row kN kK l) := by
  have hc := G.1
  have hR := HP.rel G
  have hw := cW_le (N := N) c
  rw [f_L_refused_L773]
  refine Rn.b (v_ac3 G hR) ?_
  by_cases h : cW N c = 0
  · refine Rn.y (show nI (cW N c) = 0 by rw [h]; exact nI_0) ?_
    refine Rn.n n10 ?_
    refine Rn.bb (r_read hK HH HP (e_re14 G hR h) (by decide)) fun v hv => ?_
    obtain ⟨F, rfl, HH⟩ := hv
    refine Rn.y rfl ?_
    refine Rn.b v_ac2 ?_
    refine Rn.b (is_y (w := 14) (by decide)) ?_
    refine Rn.n n10 ?_
    exact Rn.s ⟨_, _, _, _, _, F, rfl, HH⟩
  · refine Rn.n (show ¬ nI (cW N c) = 0 from nI_ne0 (by omega) (by omega)) ?_
    exact Rn.s ⟨_, _, _, _, _, kF, rfl, HH⟩
theorem b817 {K c : Nat} {row N kF : Nat → Int32} {xR xD xC rR rD kN kK : Int32} {l : List (Nat → Int32)} (hK : K < 2 ^ 29) (G : Good N c) (HP : PB K row N) (HH : HL K kN kK kF l)  : Rn (f_L_refused_L817 (row 1) 1 1 xR xD xC row rR rD kN kK kF) (S10 K row kN kK l) := by
  have hR := HP.rel G
  obtain ⟨P, p1, p2, p3⟩ := G.2.2.1
  have r1 : row 1 = nI P := (hR.1 1 (by decide)).trans p3
  rw [f_L_refused_L817]
  by_cases h : (940 : Int32) ≤ row 1
  · refine Rn.y h ?_
    exact Rn.s ⟨_, _, _, _, _, kF, rfl, HH⟩
  · have hP : P < 940 := by
      rw [r1] at h
      by_cases q : P < 940
      · exact q
      · exact absurd (nI_le (a := 940) (by omega) (by omega)) h
    have e : row 1 + -40 = row 1 - 40 := by grind
    have e2 : row 1 - 40 = nI (P - 40) := by rw [r1]; exact nI_sub (b := 40) (by omega)
    refine Rn.n h ?_
    refine Rn.n n10 ?_
    refine Rn.bb (r_day hK HH HP (e_da13 (by decide) (by decide) (Or.inl (by rw [e, e2]; exact nI_lt (b := 900) (by omega) (by decide)))) (by decide)) fun v hv => ?_
    obtain ⟨F, rfl, HH⟩ := hv
    refine Rn.y rfl ?_
    rw [e]
    refine Rn.b (is_y (w := 13) (by decide)) ?_
    refine Rn.n n10 ?_
    exact Rn.s ⟨_, _, _, _, _, F, rfl, HH⟩
theorem b863 {K c : Nat} {row N kF : Nat → Int32} {xR xD xC rR rD kN kK : Int32} {l : List (Nat → Int32)} (hK : K < 2 ^ 29) (G : Good N c) (HP : PB K row N) (HH : HL K kN kK kF l)  : Rn (f_L_refused_L863 (row 1) 1 1 xR xD xC row rR rD kN kK kF) (S10 K row kN kK l) := by
  have hR := HP.rel G
  obtain ⟨P, p1, p2, p3⟩ := G.2.2.1
  have r1 : row 1 = nI P := (hR.1 1 (by decide)).trans p3
  rw [f_L_refused_L863]
  by_cases h : row 1 ≤ (1060 : Int32)
  · refine Rn.y h ?_
    exact Rn.s ⟨_, _, _, _, _, kF, rfl, HH⟩
  · have hP : 1060 < P := by
      rw [r1] at h
      by_cases q : 1060 < P
      · exact q
      · exact absurd (nI_le (b := 1060) (by omega) (by decide)) h
    have e2 : row 1 + 40 = nI (P + 40) := by rw [r1]; exact nI_add P 40
    refine Rn.n h ?_
    refine Rn.n n10 ?_
    refine Rn.bb (r_day hK HH HP (e_da13 (by decide) (by decide) (Or.inr (by rw [e2]; exact nI_lt (a := 1100) (by omega) (by omega)))) (by decide)) fun v hv => ?_
    obtain ⟨F, rfl, HH⟩ := hv
    refine Rn.y rfl ?_
    refine Rn.b (is_y (w := 13) (by decide)) ?_
    refine Rn.n n10 ?_
    exact Rn.s ⟨_, _, _, _, _, F, rfl, HH⟩
