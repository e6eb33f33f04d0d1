/-! ===== p41, pure: the law ===== -/
theorem tk8 {N : Nat → Int32} {X : List (Nat → Int32)} : (N :: X.take 8).take 8 = (N :: X).take 8 := by
  show (N :: X.take 8).take (7 + 1) = (N :: X).take (7 + 1)
  rw [List.take_succ_cons, List.take_succ_cons, List.take_take]
  rfl
/-- undo gives the former answers back, and what was saved comes back -/
theorem un_l {K d : Nat} {L0 : List (Nat → Int32)} {sN M0 kF : Nat → Int32} {gL : Nat → Int64} (hK : K ≤ KM) (hd : d ≤ L0.length) (h8 : L0.length ≤ 8) (hg : ∀ j N, j < d → L0[j]? = some N → gL (d - (j + 1)) = SUM N) (HS : PB K sN M0) :
    ∀ r j n row kN kK lL lC, j + r = d → r < n → HL K kN kK kF (L0.drop j) → Rn (f_L_law_L629 1 sN (SUM M0) (M0 0) (nI d) kF 0 gL n (nI (j + 1)) row kN kK lL lC) (fun _ => True)
  | r, j, 0, _, _, _, _, _, _, hn, _ => absurd hn (Nat.not_lt_zero r)
  | 0, j, n + 1, row, kN, kK, lL, lC, hj, _, HH => by
    obtain ⟨R1, e1, p1⟩ := u_rest (kK := kK) (row := row) HS
    have e2 := u_none (row := R1) HH.forget
    obtain ⟨lC1, e3⟩ := asks_sum (kK := 0) (tL := 0) (lL := lL) (lC := lC) hK p1
    obtain ⟨R2, e4, p2⟩ := u_rest (kK := 0) (row := R1) HS
    obtain ⟨lC2, e5⟩ := asks_sum (kK := 0) (tL := 0) (lL := nI 10) (lC := lC1) hK p2
    rw [f_L_law_L629]
    refine Rn.y (nI_lt (show d < j + 1 by omega) (by omega)) ?_
    refine Rn.b e1 ?_
    refine Rn.y rfl ?_
    refine Rn.b e2 ?_
    refine Rn.y rfl ?_
    refine Rn.b e3 ?_
    refine Rn.y cmp_self ?_
    refine Rn.b e4 ?_
    refine Rn.y rfl ?_
    refine Rn.b e5 ?_
    refine Rn.y cmp_self ?_
    exact Rn.s trivial
  | r + 1, j, n + 1, row, kN, kK, lL, lC, hj, hn, HH => by
    have hjl : j < L0.length := by omega
    rw [List.drop_eq_getElem_cons hjl] at HH
    obtain ⟨R', kN', kK', e1, p1, HH'⟩ := u_undo (row := row) HH
    rw [List.length_drop] at e1
    obtain ⟨lC1, e3⟩ := asks_sum (kK := kK') (tL := 0) (lL := lL) (lC := lC) hK p1
    have es : nI d - nI (j + 1) = nI (d - (j + 1)) := nI_sub (by omega)
    have e8 : (8 : Int32) - nI (j + 1) = nI (8 - (j + 1)) := nI_sub (a := 8) (by omega)
    have hgj := hg j _ (by omega) (List.getElem?_eq_getElem hjl)
    rw [f_L_law_L629]
    refine Rn.n (nI_nlt (show j + 1 ≤ d by omega) (by omega)) ?_
    refine Rn.b e1 ?_
    rw [es, e8]
    refine Rn.n (nI_nlt (show d - (j + 1) ≤ L0.length - (j + 1) by omega) (by omega)) ?_
    refine Rn.n (nI_nlt (show L0.length - (j + 1) ≤ 8 - (j + 1) by omega) (by omega)) ?_
    refine Rn.b e3 ?_
    refine Rn.t (inB_n (show d - (j + 1) < 9 by omega) (by decide)) ?_
    rw [nI_clamp (show d - (j + 1) < 2 ^ 31 by omega), hgj]
    refine Rn.y cmp_self ?_
    rw [nI_1]
    exact un_l hK hd h8 hg HS r (j + 1) n _ _ _ _ _ (by omega) (by omega) HH'
theorem fw_l {L : Nat} {xs sN M0 : Nat → Int32} {l0 : List (Nat → Int32)} (hL : L < 2 ^ 31) : ∀ r i n d K row N rs xF xR xD xC rR rD kN kK kF tS tQ tF tC tP lL lC gL, i + r = 8 → r < n → d ≤ i → rs.length = d → K + 3000 * r ≤ KM → PB K row N → HL K kN kK kF ((rs ++ l0).take 8) →
      (∀ j N, j < d → rs[j]? = some N → gL (d - (j + 1)) = SUM N) → PB K sN M0 → Rn (f_L_law_L559 L xs 1 sN (SUM M0) (M0 0) n (nI d) (nI i) xF xR xD xC row rR rD kN kK kF 0 tS tQ tF tC tP lL lC gL) (fun _ => True)
  | r, i, 0, _, _, _, _, _, _, _, _, _, _, _, _, _, _, _, _, _, _, _, _, _, _, _, hn, _, _, _, _, _, _, _ => absurd hn (Nat.not_lt_zero r)
  | 0, i, n + 1, d, K, row, N, rs, xF, xR, xD, xC, rR, rD, kN, kK, kF, tS, tQ, tF, tC, tP, lL, lC, gL, hi, _, hd, hr, hK, HP, HH, hg, HS => by
    rw [f_L_law_L559]
    refine Rn.y (show (8 : Int32) ≤ nI i from nI_le (a := 8) (by omega) (by omega)) ?_
    refine un_l (L0 := (rs ++ l0).take 8) (by omega) ?_ ?_ (fun j M hj hM => ?_) HS d 0 9 row kN kK lL lC (by omega) (by omega) ?_
    · rw [List.length_take, List.length_append]
      omega
    · rw [List.length_take]
      omega
    · rw [List.getElem?_take, if_pos (by omega), List.getElem?_append_left (by omega)] at hM
      exact hg j M hj hM
    · rw [List.drop_zero]
      exact HH
  | r + 1, i, n + 1, d, K, row, N, rs, xF, xR, xD, xC, rR, rD, kN, kK, kF, tS, tQ, tF, tC, tP, lL, lC, gL, hi, hn, hd, hr, hK, HP, HH, hg, HS => by
    have hK3 : K + 3000 ≤ KM := Nat.le_trans (Nat.add_le_add_left (show 3000 ≤ 3000 * (r + 1) from Nat.le_mul_of_pos_right 3000 (Nat.succ_pos r)) K) hK
    obtain ⟨lC1, e1⟩ := asks_sum (kK := kK) (tL := 0) (lL := lL) (lC := lC) (by omega) HP
    obtain ⟨w, e2⟩ := at_ok (L := L) (xs := xs) (p := (20 : Int32) + nI i) (nI_add 20 i) hL (by omega)
    rw [f_L_law_L559]
    refine Rn.n (show ¬ (8 : Int32) ≤ nI i from nI_ge (b := 8) (by omega) (by decide)) ?_
    refine Rn.b e1 ?_
    refine Rn.b e2 ?_
    refine Rn.bb (changes_ok (Nat.lt_of_le_of_lt hK3 KM_lt) HP HH) fun v hv => ?_
    obtain ⟨h0, ⟨h1, h2, h3⟩ | ⟨h1, N', h2, h3⟩⟩ := hv
    · refine Rn.y h1 ?_
      rw [h0]
      obtain ⟨lC2, e3⟩ := asks_sum (kK := v.2.2.2.2.2.2.2.2.2.1) (tL := 0) (lL := nI 10) (lC := lC1) (show K ≤ KM by omega) h2
      refine Rn.b e3 ?_
      refine Rn.y cmp_self ?_
      rw [nI_1]
      exact fw_l hL r (i + 1) n d (K + 3000) _ N rs _ _ _ _ _ _ _ _ _ _ _ _ _ _ _ _ gL (by omega) (by omega) (by omega) hr (by omega) (h2.mono (by omega)) (h3.mono (by omega)) hg (HS.mono (by omega))
    · refine Rn.n h1 ?_
      refine Rn.t (inB_n (show d < 9 by omega) (by decide)) ?_
      rw [h0, nI_1, nI_1, nI_clamp (show d < 2 ^ 31 by omega)]
      refine fw_l (l0 := l0) hL r (i + 1) n (d + 1) (K + 3000) _ N' (N :: rs) _ _ _ _ _ _ _ _ _ _ _ _ _ _ _ _ _ (by omega) (by omega) (by omega) (by rw [List.length_cons, hr]) (by omega) h2 ?_ (fun j M hj hM => ?_) (HS.mono (by omega))
      · rw [tk8] at h3
        exact h3
      · rcases j with _ | j
        · rw [List.getElem?_cons_zero] at hM
          cases hM
          exact pk_uLs
        · rw [List.getElem?_cons_succ] at hM
          rw [pk_uLn (show d + 1 - (j + 1 + 1) ≠ d by omega), show d + 1 - (j + 1 + 1) = d - (j + 1) by omega]
          exact hg j M (by omega) hM
abbrev T22 := Int64 × Int32 × Int32 × Int32 × Int32 × Int32 × Int32 × (Nat → Int32) × Int32 × Int32 × Int32 × Int32 × (Nat → Int32) × Int32 × Int32 × Int32 × Int32 × (Nat → Int32) × (Nat → Int32) × Int32 × (Nat → Int32) × (Nat → Int32)
def O1Q (v : T22) : Prop := ∃ N l, PB 900 v.2.2.2.2.2.2.2.1 N ∧ HL 900 v.2.2.2.2.2.2.2.2.2.2.1 v.2.2.2.2.2.2.2.2.2.2.2.1 v.2.2.2.2.2.2.2.2.2.2.2.2.1 l ∧ PB 900 v.2.2.2.2.2.2.2.2.2.2.2.2.2.2.2.2.2.2.2.2.2 N ∧ v.1 = SUM N ∧ v.2.1 = N 0 ∧ v.2.2.1 = 1 ∧ v.2.2.2.2.2.2.2.2.2.2.2.2.2.1 = 0
theorem o1_ok {L : Nat} {xs kF tC tP lC sN : Nat → Int32} {xS xF xR xD xC rR rD tS tQ tF lL : Int32} (hL : L < 2 ^ 31) : Rn (f_law_o1 L xs xS xF xR xD xC row0 rR rD 0 0 kF 0 tS tQ tF tC tP lL lC sN) O1Q := by
  have h9 : (900 : Nat) ≤ KM := by decide +kernel
  rw [f_law_o1]
  refine Rn.bb (makes_ok hL) fun v hv => ?_
  obtain ⟨h1, c, t, hc2, ht, N, l, HP, G, HH, HM⟩ := hv
  have HP : PB 900 v.2.2.2.2.1 N := HP.mono (by omega)
  have HH : HL 900 v.2.2.2.2.2.2.2.1 v.2.2.2.2.2.2.2.2.1 v.2.2.2.2.2.2.2.2.2 l := HH.mono (by omega)
  have hR := HP.rel G
  refine Rn.n (by rw [h1]; exact n10) ?_
  obtain ⟨lC1, e1⟩ := asks_sum (kK := v.2.2.2.2.2.2.2.2.1) (tL := 0) (lL := lL) (lC := lC) h9 HP
  obtain ⟨lC2, e2⟩ := asks_sum (kK := v.2.2.2.2.2.2.2.2.1) (tL := 0) (lL := nI 10) (lC := lC1) h9 HP
  refine Rn.b e1 ?_
  refine Rn.b e2 ?_
  refine Rn.y cmp_self ?_
  refine Rn.bb (refused_ok (by decide) h9 hc2 G HP (HM.hd hR) HH) fun u hu => ?_
  obtain ⟨g1, HP2, HH2, g3, g4⟩ := hu
  refine Rn.n (by rw [g1]; exact n10) ?_
  obtain ⟨sN', e3, HS⟩ := u_save (xS := xS) (sN := sN) HP2
  refine Rn.b e3 ?_
  rw [g3]
  refine Rn.b (c0_account G (HP2.rel G)) ?_
  refine Rn.y G.2.1 ?_
  obtain ⟨lC4, e4⟩ := asks_sum (kK := u.2.2.2.2.2.2.2.2.2.1) (tL := 0) (lL := u.2.2.2.2.2.2.2.2.2.2.2.2.2.2.2.2.2.1) (lC := u.2.2.2.2.2.2.2.2.2.2.2.2.2.2.2.2.2.2) h9 HP2
  refine Rn.b e4 ?_
  refine Rn.y cmp_self ?_
  exact Rn.s ⟨N, l, HP2, HH2, HS, rfl, rfl, rfl, rfl⟩
theorem o2_ok {L : Nat} {xs : Nat → Int32} {v : T22} (hL : L < 2 ^ 31) (H : O1Q v) : Rn (f_law_o2 L xs v.1 v.2.1 v.2.2.1 v.2.2.2.1 v.2.2.2.2.1 v.2.2.2.2.2.1 v.2.2.2.2.2.2.1 v.2.2.2.2.2.2.2.1 v.2.2.2.2.2.2.2.2.1 v.2.2.2.2.2.2.2.2.2.1 v.2.2.2.2.2.2.2.2.2.2.1 v.2.2.2.2.2.2.2.2.2.2.2.1 v.2.2.2.2.2.2.2.2.2.2.2.2.1 v.2.2.2.2.2.2.2.2.2.2.2.2.2.1 v.2.2.2.2.2.2.2.2.2.2.2.2.2.2.1 v.2.2.2.2.2.2.2.2.2.2.2.2.2.2.2.1 v.2.2.2.2.2.2.2.2.2.2.2.2.2.2.2.2.1 v.2.2.2.2.2.2.2.2.2.2.2.2.2.2.2.2.2.1 v.2.2.2.2.2.2.2.2.2.2.2.2.2.2.2.2.2.2.1 v.2.2.2.2.2.2.2.2.2.2.2.2.2.2.2.2.2.2.2.1 v.2.2.2.2.2.2.2.2.2.2.2.2.2.2.2.2.2.2.2.2.1 v.2.2.2.2.2.2.2.2.2.2.2.2.2.2.2.2.2.2.2.2.2) (fun _ => True) := by
  obtain ⟨N, l, HP, HH, HS, h1, h2, h3, h4⟩ := H
  have hl : (([] : List (Nat → Int32)) ++ l).take 8 = l := by
    obtain ⟨z, -, h, -⟩ := HH
    rw [List.nil_append, List.take_of_length_le h]
  rw [f_law_o2, h1, h2, h3, h4]
  exact fw_l (l0 := l) hL 8 0 9 0 900 _ N [] _ _ _ _ _ _ _ _ _ _ _ _ _ _ _ _ _ (by omega) (by omega) (by omega) rfl (by decide +kernel) HP (by rw [hl]; exact HH) (fun j M hj => absurd hj (Nat.not_lt_zero j)) HS
theorem pure_law {L : Nat} {xs : Nat → Int32} (hL : L ≤ 260) : f_law0 L xs = some () := by
  have hL2 : L < 2 ^ 31 := by omega
  obtain ⟨v, e1, h1⟩ := o1_ok (L := L) (xs := xs) (kF := fun _ => 0) (tC := fun _ => 0) (tP := fun _ => 0) (lC := fun _ => 0) (sN := fun _ => 0) (xS := 0) (xF := -1) (xR := 0) (xD := 0) (xC := 0) (rR := 0) (rD := 0) (tS := 0) (tQ := 0) (tF := -1) (lL := 0) hL2
  obtain ⟨u, e2, -⟩ := o2_ok (xs := xs) hL2 h1
  rw [f_law0, e_ok, bS]
  refine (congrArg (fun z => Option.bind z _) e1).trans ?_
  exact e2
