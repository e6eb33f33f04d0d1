/-! ===== p41, pure: 'refused' ===== -/
abbrev T19 := Int32 × Int32 × Int32 × Int32 × Int32 × (Nat → Int32) × Int32 × Int32 × Int32 × Int32 × (Nat → Int32) × Int32 × Int32 × Int32 × Int32 × (Nat → Int32) × (Nat → Int32) × Int32 × (Nat → Int32)
def RQ (K : Nat) (N : Nat → Int32) (l : List (Nat → Int32)) (v : T19) : Prop := v.1 = 1 ∧ PB K v.2.2.2.2.2.1 N ∧ HL K v.2.2.2.2.2.2.2.2.1 v.2.2.2.2.2.2.2.2.2.1 v.2.2.2.2.2.2.2.2.2.2.1 l ∧ v.2.2.2.2.2.2.2.2.2.2.2.1 = 0 ∧ v.2.2.2.2.2.2.2.2.2.2.2.2.2.2.2.2.2.1 = nI 10
theorem m425 {K c : Nat} {row N tC tP lC : Nat → Int32} {xF tS tQ tF : Int32} {l : List (Nat → Int32)} (hK : K < 2 ^ 29) (hKM : K ≤ KM) (hc2 : 2 ≤ c) (G : Good N c) (HP : PB K row N) (hd : Hd N c) :
    ∀ k m n xR xD xC rR rD kN kK kF, m + k = c → k < n → HL K kN kK kF l → Rn (f_L_refused_L425 (SUM N) (nI c) (row 1) xF 0 tS tQ tF tC tP (nI 10) lC n 1 (nI m) xR xD xC row rR rD kN kK kF) (RQ K N l)
  | k, m, 0, _, _, _, _, _, _, _, _, _, hn, _ => absurd hn (Nat.not_lt_zero k)
  | 0, m, n + 1, xR, xD, xC, rR, rD, kN, kK, kF, hk, _, HH => by
    have hc := G.1
    have hR := HP.rel G
    rw [f_L_refused_L425]
    refine Rn.y (nI_le (show c ≤ m by omega) (by omega)) ?_
    refine Rn.bb (b773 hK G HP HH) fun v hv => ?_
    obtain ⟨xR, xD, xC, rR, rD, kF, rfl, HH⟩ := hv
    refine Rn.bb (b817 hK G HP HH) fun v hv => ?_
    obtain ⟨xR, xD, xC, rR, rD, kF, rfl, HH⟩ := hv
    refine Rn.bb (b863 hK G HP HH) fun v hv => ?_
    obtain ⟨xR, xD, xC, rR, rD, kF, rfl, HH⟩ := hv
    refine Rn.n n10 ?_
    refine Rn.bb (r_exchange hK HH HP (show f_X6_swap row 0 0 1 1 = some (0, row, 6, 1) from e_sw6 (m := 1) (r0_of G hR) hc (by omega)) (by decide)) fun v hv => ?_
    obtain ⟨F, rfl, HH⟩ := hv
    refine Rn.y rfl ?_
    refine Rn.b (x_of G hR (noM_c hc)) ?_
    refine Rn.y rfl ?_
    refine Rn.b (x_of G hR noM_1) ?_
    refine Rn.y rfl ?_
    refine Rn.b (show f_L_of row 0 7 = some (-1002, ()) from x_of2 (m := 0) G hR (by omega) (Or.inr (by decide))) ?_
    refine Rn.y rfl ?_
    refine Rn.b (show f_L_of row 0 (-1) = some (-1002, ()) from x_of2 (m := 0) G hR (by omega) (Or.inl (by decide))) ?_
    refine Rn.y rfl ?_
    refine Rn.b (x_nd G hR (noM_c hc)) ?_
    refine Rn.y rfl ?_
    refine Rn.b (x_na G hR noM_1) ?_
    refine Rn.y rfl ?_
    refine Rn.b (x_off G hR (noM_c hc)) ?_
    refine Rn.y rfl ?_
    refine Rn.b (x_ow (Or.inr (by decide))) ?_
    refine Rn.y rfl ?_
    refine Rn.b (x_ow (Or.inl (by decide))) ?_
    refine Rn.y rfl ?_
    refine Rn.b (x_ww (Or.inr (by decide))) ?_
    refine Rn.y rfl ?_
    refine Rn.b (x_ww (Or.inl (by decide))) ?_
    refine Rn.y rfl ?_
    refine Rn.b (x_cf G hR (noM_c hc)) ?_
    refine Rn.y rfl ?_
    refine Rn.b (x_bg G hR (noM_c hc)) ?_
    refine Rn.y rfl ?_
    refine Rn.b (x_nf G hR (noM_c hc)) ?_
    refine Rn.y rfl ?_
    refine Rn.b (x_rk4 (Or.inr (by decide))) ?_
    refine Rn.y rfl ?_
    refine Rn.b (x_rk4 (Or.inl (by decide))) ?_
    refine Rn.y rfl ?_
    refine Rn.b (x_rkc G hR) ?_
    refine Rn.y rfl ?_
    refine Rn.b (x_we (Or.inr (by decide))) ?_
    refine Rn.y rfl ?_
    refine Rn.b (x_we (Or.inl (by decide))) ?_
    refine Rn.y rfl ?_
    refine Rn.b (x_li G hR (noM_c hc)) ?_
    refine Rn.y rfl ?_
    refine Rn.b (x_cm) ?_
    refine Rn.y rfl ?_
    refine Rn.b (x_c60) ?_
    refine Rn.y rfl ?_
    refine Rn.b (x_acc (by decide) (by decide) (by decide) (by decide) (by decide) (by decide) (by decide) (by decide) (by decide) (by decide) (by decide)) ?_
    refine Rn.y rfl ?_
    refine Rn.b (x_acc (by decide) (by decide) (by decide) (by decide) (by decide) (by decide) (by decide) (by decide) (by decide) (by decide) (by decide)) ?_
    refine Rn.y rfl ?_
    refine Rn.b (rs3) ?_
    refine Rn.y rfl ?_
    refine Rn.b (is_y (w := 6) (by decide)) ?_
    refine Rn.n n10 ?_
    refine Rn.bb (t_q HP HH) fun v hv => ?_
    obtain ⟨a0, a1, HP1, HH1, a11⟩ := hv
    refine Rn.y a0 ?_
    refine Rn.b (a := (v.2.1, ())) rfl ?_
    refine Rn.y a1 ?_
    rw [a11]
    refine Rn.bb (t_2 G HP1 HH1) fun w hw => ?_
    obtain ⟨⟨b0, b1, HP2, HH2, b11⟩, c2, c3, c4⟩ := hw
    refine Rn.y b0 ?_
    refine Rn.b (show f_L_isAt w.2.2.1 w.2.2.2.1 w.2.2.2.2.1 2 4 (nI c) = some (1, ()) by rw [c2, c3, c4]; exact at_y (by decide)) ?_
    refine Rn.n n10 ?_
    rw [b11]
    refine Rn.bb (t_3 hc2 G HP2 HH2) fun u hu => ?_
    obtain ⟨⟨d0, d1, HP3, HH3, d11⟩, e2, e3, e4⟩ := hu
    refine Rn.y d0 ?_
    refine Rn.b (show f_L_isAt u.2.2.1 u.2.2.2.1 u.2.2.2.2.1 1 6 1 = some (1, ()) by rw [e2, e3, e4]; exact at_y (by decide)) ?_
    refine Rn.n n10 ?_
    refine Rn.b (a := (u.2.1, ())) rfl ?_
    refine Rn.y d1 ?_
    obtain ⟨lC2, ea⟩ := asks_sum (kK := u.2.2.2.2.2.2.2.2.2.1) (tL := u.2.2.2.2.2.2.2.2.2.2.2.1) (lL := nI 10) (lC := lC) hKM HP3
    refine Rn.b ea ?_
    refine Rn.y cmp_self ?_
    exact Rn.s ⟨rfl, HP3, HH3, d11, rfl⟩
  | k + 1, m, n + 1, xR, xD, xC, rR, rD, kN, kK, kF, hk, hn, HH => by
    have hc := G.1
    have hR := HP.rel G
    have hm : m < c := by omega
    obtain ⟨h, h9, eh⟩ := (G.2.2.2.2 m hm).1
    have e2 : row (13 + 7 * m + 1) = nI h := (hR.2.1 m hm 1 (by decide) (by decide)).trans eh
    have eo := own_m G hR hm eh hd
    have hp : (nI m + 1) - (nI m + 1) / nI c * nI c = nI ((m + 1) % c) := by rw [nI_1, pk_rem (by omega) (by omega) (by omega)]
    have hmc : (m + 1) % c < c := Nat.mod_lt _ (by omega)
    rw [f_L_refused_L425]
    refine Rn.n (nI_ge hm (by omega)) ?_
    refine Rn.b (v_of (w := 3) G hR hm (by decide)) ?_
    refine Rn.b (v_of (w := 1) G hR hm (by decide)) ?_
    refine Rn.n n10 ?_
    refine Rn.t (nz_n (by omega) (by omega)) ?_
    rw [e2, hp]
    refine Rn.bb (r_move hK HH HP (e_cl3 G hR hmc h9 (by omega) eo) (by decide)) fun v hv => ?_
    obtain ⟨F, rfl, HH⟩ := hv
    refine Rn.y rfl ?_
    refine Rn.b (is_y (w := 3) (by decide)) ?_
    refine Rn.n n10 ?_
    refine Rn.bb (b482 hK G HP HH hm h9 eo) fun v hv => ?_
    obtain ⟨xR, xD, xC, rR, rD, kF, rfl, HH⟩ := hv
    refine Rn.bb (b517 hK G HP HH hm) fun v hv => ?_
    obtain ⟨xR, xD, xC, rR, rD, kF, rfl, HH⟩ := hv
    refine Rn.bb (b631 hK G HP HH hm) fun v hv => ?_
    obtain ⟨xR, xD, xC, rR, rD, kF, rfl, HH⟩ := hv
    refine Rn.bb (b677 hK G HP HH hm) fun v hv => ?_
    obtain ⟨xR, xD, xC, rR, rD, kF, rfl, HH⟩ := hv
    refine Rn.bb (b721 hK G HP HH hm) fun v hv => ?_
    obtain ⟨xR, xD, xC, rR, rD, kF, rfl, HH⟩ := hv
    rw [nI_1]
    exact m425 hK hKM hc2 G HP hd k (m + 1) n _ _ _ _ _ _ _ _ (by omega) (by omega) HH
theorem refused_ok {K c : Nat} {row N kF tC tP lC : Nat → Int32} {xF xR xD xC rR rD kN kK tS tQ tF lL : Int32} {l : List (Nat → Int32)} (hK : K < 2 ^ 29) (hKM : K ≤ KM) (hc2 : 2 ≤ c) (G : Good N c) (HP : PB K row N) (hd : Hd N c) (HH : HL K kN kK kF l) :
    Rn (f_L_refused xF xR xD xC row rR rD kN kK kF 0 tS tQ tF tC tP lL lC) (RQ K N l) := by
  have hc := G.1
  have hR := HP.rel G
  have z0 : (0 : Nat) < c := by omega
  rw [f_L_refused]
  obtain ⟨lC1, ea⟩ := asks_sum (kK := kK) (tL := 0) (lL := lL) (lC := lC) hKM HP
  refine Rn.b ea ?_
  refine Rn.b (c0_account G hR) ?_
  refine Rn.b (show f_L_weather row 0 = some (row 1, ()) from v_wea (w := 0) (by decide)) ?_
  refine Rn.bb (r_join hK HH HP (e_en1 (Or.inr (by decide))) (by decide)) fun v hv => ?_
  obtain ⟨F, rfl, HH⟩ := hv
  refine Rn.y rfl ?_
  refine Rn.b (is_y (w := 1) (by decide)) ?_
  refine Rn.n n10 ?_
  refine Rn.bb (r_join hK HH HP (e_en1 (Or.inl (by decide))) (by decide)) fun v hv => ?_
  obtain ⟨F, rfl, HH⟩ := hv
  refine Rn.y rfl ?_
  refine Rn.bb (b50 hK G HP HH) fun v hv => ?_
  obtain ⟨xR, xD, xC, rR, rD, kF, rfl, HH⟩ := hv
  refine Rn.bb (r_leave hK HH HP (e_go4 G hR (noM_c hc)) (by decide)) fun v hv => ?_
  obtain ⟨F, rfl, HH⟩ := hv
  refine Rn.y rfl ?_
  refine Rn.b (is_y (w := 4) (by decide)) ?_
  refine Rn.n n10 ?_
  refine Rn.bb (r_leave hK HH HP (e_go4 G hR noM_1) (by decide)) fun v hv => ?_
  obtain ⟨F, rfl, HH⟩ := hv
  refine Rn.y rfl ?_
  refine Rn.bb (r_move hK HH HP (e_cl4 G hR (noM_c hc)) (by decide)) fun v hv => ?_
  obtain ⟨F, rfl, HH⟩ := hv
  refine Rn.y rfl ?_
  refine Rn.b (is_y (w := 4) (by decide)) ?_
  refine Rn.n n10 ?_
  refine Rn.bb (r_move hK HH HP (show f_X6_climb row 0 0 0 10 = some (0, row, 1, 0) from e_cl1 (m := 0) G hR z0 (Or.inr (by decide))) (by decide)) fun v hv => ?_
  obtain ⟨F, rfl, HH⟩ := hv
  refine Rn.y rfl ?_
  refine Rn.b (is_y (w := 1) (by decide)) ?_
  refine Rn.n n10 ?_
  refine Rn.bb (r_exchange hK HH HP (e_sw4 G hR (noM_c hc)) (by decide)) fun v hv => ?_
  obtain ⟨F, rfl, HH⟩ := hv
  refine Rn.y rfl ?_
  refine Rn.b (is_y (w := 4) (by decide)) ?_
  refine Rn.n n10 ?_
  refine Rn.bb (r_exchange hK HH HP (show f_X6_swap row 0 0 0 (-1) = some (0, row, 4, nI c) from e_sw4b (m := 0) G hR z0 noM_1) (by decide)) fun v hv => ?_
  obtain ⟨F, rfl, HH⟩ := hv
  refine Rn.y rfl ?_
  refine Rn.b (is_y (w := 4) (by decide)) ?_
  refine Rn.n n10 ?_
  refine Rn.bb (r_exchange hK HH HP (show f_X6_swap row 0 0 1 1 = some (0, row, 6, 1) from e_sw6 (m := 1) (r0_of G hR) hc (by omega)) (by decide)) fun v hv => ?_
  obtain ⟨F, rfl, HH⟩ := hv
  refine Rn.y rfl ?_
  refine Rn.b (is_y (w := 6) (by decide)) ?_
  refine Rn.n n10 ?_
  refine Rn.bb (r_wager hK HH HP (e_be4 G hR (noM_c hc)) (by decide)) fun v hv => ?_
  obtain ⟨F, rfl, HH⟩ := hv
  refine Rn.y rfl ?_
  refine Rn.b (is_y (w := 4) (by decide)) ?_
  refine Rn.n n10 ?_
  refine Rn.bb (r_wager hK HH HP (show f_X6_bet row 0 0 0 699 1 = some (0, row, 1, 0) from e_be1 (m := 0) G hR z0 (Or.inl (by decide))) (by decide)) fun v hv => ?_
  obtain ⟨F, rfl, HH⟩ := hv
  refine Rn.y rfl ?_
  refine Rn.b (is_y (w := 1) (by decide)) ?_
  refine Rn.n n10 ?_
  refine Rn.bb (r_wager hK HH HP (show f_X6_bet row 0 0 0 1101 1 = some (0, row, 1, 0) from e_be1 (m := 0) G hR z0 (Or.inr (Or.inl (by decide)))) (by decide)) fun v hv => ?_
  obtain ⟨F, rfl, HH⟩ := hv
  refine Rn.y rfl ?_
  refine Rn.bb (r_wager hK HH HP (show f_X6_bet row 0 0 0 900 0 = some (0, row, 1, 0) from e_be1 (m := 0) G hR z0 (Or.inr (Or.inr (Or.inl (by decide))))) (by decide)) fun v hv => ?_
  obtain ⟨F, rfl, HH⟩ := hv
  refine Rn.y rfl ?_
  refine Rn.bb (r_wager hK HH HP (show f_X6_bet row 0 0 0 900 10 = some (0, row, 1, 0) from e_be1 (m := 0) G hR z0 (Or.inr (Or.inr (Or.inr (by decide))))) (by decide)) fun v hv => ?_
  obtain ⟨F, rfl, HH⟩ := hv
  refine Rn.y rfl ?_
  refine Rn.b (is_y (w := 1) (by decide)) ?_
  refine Rn.n n10 ?_
  refine Rn.bb (r_tap hK HH HP (e_kn4 G hR (noM_c hc)) (by decide)) fun v hv => ?_
  obtain ⟨F, rfl, HH⟩ := hv
  refine Rn.y rfl ?_
  refine Rn.b (is_y (w := 4) (by decide)) ?_
  refine Rn.n n10 ?_
  refine Rn.bb (r_day hK HH HP (e_da1 (Or.inr (by decide))) (by decide)) fun v hv => ?_
  obtain ⟨F, rfl, HH⟩ := hv
  refine Rn.y rfl ?_
  refine Rn.b (is_y (w := 1) (by decide)) ?_
  refine Rn.n n10 ?_
  refine Rn.bb (r_day hK HH HP (e_da1 (Or.inl (by decide))) (by decide)) fun v hv => ?_
  obtain ⟨F, rfl, HH⟩ := hv
  refine Rn.y rfl ?_
  refine Rn.bb (r_bottle hK HH HP (e_fi4 G hR (noM_c hc)) (by decide)) fun v hv => ?_
  obtain ⟨F, rfl, HH⟩ := hv
  refine Rn.y rfl ?_
  refine Rn.b (is_y (w := 4) (by decide)) ?_
  refine Rn.n n10 ?_
  refine Rn.bb (r_letOut hK HH HP (e_un4 G hR (noM_c hc)) (by decide)) fun v hv => ?_
  obtain ⟨F, rfl, HH⟩ := hv
  refine Rn.y rfl ?_
  refine Rn.b (is_y (w := 4) (by decide)) ?_
  refine Rn.n n10 ?_
  exact m425 hK hKM hc2 G HP hd c 0 7 _ _ _ _ _ _ _ _ (by omega) (by omega) HH
