/-! ===== pure: the commands of a text are carried out ===== -/
theorem step_any {R N T D : Nat → Int32} {rR rD mR mD mJ mA W : Int32} {c : Nat} (H : PR R N) (hT : cells T c W D) :
    Step R N mR mD mJ mA (f_X6_carryOut R rR rD W (T (4 * c + 1)) (T (4 * c + 2)) (T (4 * c + 3))) (f_X8_carries W mR mD mJ mA N D) := by
  obtain ⟨-, hk, h1, h2, h3⟩ := hT
  rcases kind_or.mp hk with rfl | rfl | rfl | rfl | rfl | rfl | rfl | rfl | rfl | rfl
  · rw [h1 (by decide), f_X8_carries, if_pos rfl, cl0]
    exact (co_98 (st_fill H)).wrap2
  · rw [h1 (by decide), f_X8_carries, if_neg (show ¬ (100 : Int32) = 98 by decide), if_pos rfl, cl0]
    exact (co_100 (st_day H)).wrap2
  · rw [h1 (by decide), f_X8_carries, if_neg (show ¬ (106 : Int32) = 98 by decide), if_neg (show ¬ (106 : Int32) = 100 by decide), if_pos rfl, cl0]
    exact (co_106 (st_enter H)).wrap2
  · rw [h1 (by decide), h2 (by decide), f_X8_carries, if_neg (show ¬ (109 : Int32) = 98 by decide), if_neg (show ¬ (109 : Int32) = 100 by decide), if_neg (show ¬ (109 : Int32) = 106 by decide), if_pos rfl, cl0, cl1]
    exact (co_109 (st_climb H)).wrap2
  · rw [h1 (by decide), f_X8_carries, if_neg (show ¬ (111 : Int32) = 98 by decide), if_neg (show ¬ (111 : Int32) = 100 by decide), if_neg (show ¬ (111 : Int32) = 106 by decide), if_neg (show ¬ (111 : Int32) = 109 by decide), if_pos rfl, cl0]
    exact (co_111 (st_uncork H)).wrap2
  · rw [f_X8_carries, if_neg (show ¬ (114 : Int32) = 98 by decide), if_neg (show ¬ (114 : Int32) = 100 by decide), if_neg (show ¬ (114 : Int32) = 106 by decide), if_neg (show ¬ (114 : Int32) = 109 by decide), if_neg (show ¬ (114 : Int32) = 111 by decide), if_neg (show ¬ (114 : Int32) = 115 by decide), if_neg (show ¬ (114 : Int32) = 116 by decide), if_neg (show ¬ (114 : Int32) = 119 by decide), if_neg (show ¬ (114 : Int32) = 120 by decide)]
    exact (co_114 (st_read H)).wrap2
  · rw [h1 (by decide), h2 (by decide), f_X8_carries, if_neg (show ¬ (115 : Int32) = 98 by decide), if_neg (show ¬ (115 : Int32) = 100 by decide), if_neg (show ¬ (115 : Int32) = 106 by decide), if_neg (show ¬ (115 : Int32) = 109 by decide), if_neg (show ¬ (115 : Int32) = 111 by decide), if_pos rfl, cl0, cl1]
    exact (co_115 (st_swap H)).wrap2
  · rw [h1 (by decide), f_X8_carries, if_neg (show ¬ (116 : Int32) = 98 by decide), if_neg (show ¬ (116 : Int32) = 100 by decide), if_neg (show ¬ (116 : Int32) = 106 by decide), if_neg (show ¬ (116 : Int32) = 109 by decide), if_neg (show ¬ (116 : Int32) = 111 by decide), if_neg (show ¬ (116 : Int32) = 115 by decide), if_pos rfl, cl0]
    exact (co_116 (st_knock H)).wrap2
  · rw [h1 (by decide), h2 (by decide), h3 (by decide), f_X8_carries, if_neg (show ¬ (119 : Int32) = 98 by decide), if_neg (show ¬ (119 : Int32) = 100 by decide), if_neg (show ¬ (119 : Int32) = 106 by decide), if_neg (show ¬ (119 : Int32) = 109 by decide), if_neg (show ¬ (119 : Int32) = 111 by decide), if_neg (show ¬ (119 : Int32) = 115 by decide), if_neg (show ¬ (119 : Int32) = 116 by decide), if_pos rfl, cl0, cl1, cl2]
    exact (co_119 (st_bet H)).wrap2
  · rw [h1 (by decide), f_X8_carries, if_neg (show ¬ (120 : Int32) = 98 by decide), if_neg (show ¬ (120 : Int32) = 100 by decide), if_neg (show ¬ (120 : Int32) = 106 by decide), if_neg (show ¬ (120 : Int32) = 109 by decide), if_neg (show ¬ (120 : Int32) = 111 by decide), if_neg (show ¬ (120 : Int32) = 115 by decide), if_neg (show ¬ (120 : Int32) = 116 by decide), if_neg (show ¬ (120 : Int32) = 119 by decide), if_pos rfl, cl0]
    exact (co_120 (st_leave H)).wrap2
theorem l162_l {mU mH mQ mW mF mR mD mJ mA mT : Int32} {nT nK D : Nat → Int32} : ∀ k i n N, i + k = 55 → k < n → ∃ N', f_X8_commands_L162 mU mH mQ mW mF mR mD mJ mA mT n (nI i) N nT nK D = some (0, mU, mH, mQ, mW, mF, mR, mD, mJ, mA, 2, N', nT, nK, D) ∧ ∀ j, N' j = if i ≤ j ∧ j < 55 then nT j else N j
  | k, i, 0, _, _, hn => absurd hn (Nat.not_lt_zero k)
  | 0, i, n + 1, N, hk, _ => by
    refine ⟨N, ?_, fun j => ?_⟩
    · rw [f_X8_commands_L162, if_pos (show (55 : Int32) ≤ nI i from nI_le (a := 55) (by omega) (by omega)), f_X8_raises, bS]
    · rw [if_neg (by omega)]
  | k + 1, i, n + 1, N, hk, hn => by
    obtain ⟨N', h1, h2⟩ := l162_l (mU := mU) (mH := mH) (mQ := mQ) (mW := mW) (mF := mF) (mR := mR) (mD := mD) (mJ := mJ) (mA := mA) (mT := mT) (nT := nT) (nK := nK) (D := D) k (i + 1) n (upd N i (nT i)) (by omega) (by omega)
    refine ⟨N', ?_, fun j => ?_⟩
    · rw [f_X8_commands_L162, if_neg (show ¬ (55 : Int32) ≤ nI i from nI_ge (b := 55) (by omega) (by omega)), cT (inB_n (by omega) (by decide)), cT (inB_n (by omega) (by decide)), nI_clamp (by omega), nI_1, h1]
    · rw [h2 j]
      by_cases e1 : i + 1 ≤ j ∧ j < 55
      · rw [if_pos e1, if_pos (by omega)]
      · rw [if_neg e1]
        by_cases e2 : j = i
        · rw [e2, upd_s, if_pos (by omega)]
        · rw [upd_n e2, if_neg (by omega)]
theorem l162_e {mU mH mQ mW mF mR mD mJ mA mT : Int32} {nT nK D N : Nat → Int32} : ∃ N', f_X8_commands_L162 mU mH mQ mW mF mR mD mJ mA mT FU (0 : Int32) N nT nK D = some (0, mU, mH, mQ, mW, mF, mR, mD, mJ, mA, 2, N', nT, nK, D) ∧ ∀ j, j < 55 → N' j = nT j := by
  obtain ⟨N', h1, h2⟩ := l162_l (mU := mU) (mH := mH) (mQ := mQ) (mW := mW) (mF := mF) (mR := mR) (mD := mD) (mJ := mJ) (mA := mA) (mT := mT) (nT := nT) (nK := nK) (D := D) 55 0 FU N (by decide) (by rw [FU]; decide)
  exact ⟨N', h1, fun j hj => by rw [h2 j, if_pos (by omega)]⟩
theorem getP {T : Nat → Int32} {c : Nat} {W : Int32} (hc : c < 60) (h : T (4 * c + 0) = W) : f_X1_kind T (nI c) = some (W, ()) := by
  rw [f_X1_kind, show f_X1_number T (nI c) (0 : Int32) = some (T (4 * c + 0), ()) from getN (w := 0) hc (by decide), bS, h]
theorem getN1 {T : Nat → Int32} {c : Nat} (hc : c < 60) : f_X1_number T (nI c) (1 : Int32) = some (T (4 * c + 1), ()) := getN (w := 1) hc (by decide)
theorem getN2 {T : Nat → Int32} {c : Nat} (hc : c < 60) : f_X1_number T (nI c) (2 : Int32) = some (T (4 * c + 2), ()) := getN (w := 2) hc (by decide)
theorem getN3 {T : Nat → Int32} {c : Nat} (hc : c < 60) : f_X1_number T (nI c) (3 : Int32) = some (T (4 * c + 3), ()) := getN (w := 3) hc (by decide)
theorem prs_0 {T g : Nat → Int32} {l c Q : Nat} : ¬ Prs T l g 0 c Q := fun h => h
def RunY (l x u s : Nat) (g T kF nT nK : Nat → Int32) (xF tL tQ tF mU mF mT : Int32) (r c Q n m K : Nat) (row : Nat → Int32) (rR rD mW mR mD mJ mA : Int32) (N D : Nat → Int32) : Prop :=
  ∃ row' rR' rD' mQ' mW' mA' N' D',
    f_X7_commands_L49 xF mR mD mJ (nI x) (nI u) kF tL (nI s) tQ tF T n (nI c) row rR rD = some (0, nI s, xF, mR, mD, mJ, row', rR', rD', nI ((x + 1) % 9), nI (min (u + 1) 8), kF, tL, nI s, tQ, tF, T) ∧
    f_X8_commands_L94 g mU (nI l) mF mT nT nK m (nI c) 1 1 (nI Q) mW mR mD mJ mA N D = (f_X8_keeps mU nT nK (nI s)).bind (fun v11 => (some (v11.1, (v11.2.1, (0 : Int32), mQ', mW', mF, mR, mD, mJ, mA', mT, N', nT, v11.2.2, D')))) ∧
    PB (K + 50 * (r + 1)) row' N'
def RunN (l x u s : Nat) (g T kF nT nK : Nat → Int32) (xF tL tQ tF mU mF mT : Int32) (c Q n m : Nat) (row : Nat → Int32) (rR rD mW mR mD mJ mA : Int32) (N D : Nat → Int32) : Prop :=
  ∃ why more c' row' mQ' mW' mA' N' D',
    f_X7_commands_L49 xF mR mD mJ (nI x) (nI u) kF tL (nI s) tQ tF T n (nI c) row rR rD = some (6, 0, xF, why, more, nI c', row', why, more, nI x, nI u, kF, tL, nI s, tQ, tF, T) ∧
    f_X8_commands_L94 g mU (nI l) mF mT nT nK m (nI c) 1 1 (nI Q) mW mR mD mJ mA N D = some (0, mU, 0, mQ', mW', mF, why, more, nI c', mA', 2, N', nT, nK, D') ∧
    (∀ i, i < 55 → row' i = kF (55 * x + i)) ∧ ∀ i, i < 55 → N' i = nT i
theorem run_l {l x u s : Nat} {f g T kF nT nK : Nat → Int32} {xF tL tQ tF mU mF mT : Int32} (H : TX l f g) (hx : x < 9) (hu : u ≤ 8) (hs : s ≤ 40) :
    ∀ r c Q n m K row rR rD mW mR mD mJ mA N D, c + (r + 1) = s → Prs T l g (r + 1) c Q → r + 1 < n → r + 1 < m → K + 50 * (r + 1) < 2 ^ 29 → PB K row N →
      RunY l x u s g T kF nT nK xF tL tQ tF mU mF mT r c Q n m K row rR rD mW mR mD mJ mA N D ∨ RunN l x u s g T kF nT nK xF tL tQ tF mU mF mT c Q n m row rR rD mW mR mD mJ mA N D
  | r, c, Q, 0, m, K, row, rR, rD, mW, mR, mD, mJ, mA, N, D, _, _, hn, _, _, _ => absurd hn (Nat.not_lt_zero _)
  | r, c, Q, n + 1, 0, K, row, rR, rD, mW, mR, mD, mJ, mA, N, D, _, _, _, hm, _, _ => absurd hm (Nat.not_lt_zero _)
  | r, c, Q, n + 1, m + 1, K, row, rR, rD, mW, mR, mD, mJ, mA, N, D, hc, HP, hn, hm, hK, HB => by
    have hl := H.1
    obtain ⟨Q1, q1, q2, hi, he⟩ := HP
    obtain ⟨D2, i1, i2⟩ := hi mW D
    have c60 : c < 60 := by omega
    have nc : ¬ nI s ≤ nI c := nI_ge (by omega) (by omega)
    have hk := getP c60 i2.1
    rcases step_any (rR := rR) (rD := rD) (mR := mR) (mD := mD) (mJ := mJ) (mA := mA) HB.1 i2 with ⟨a, R', N', s1, s2, s3, s4⟩ | ⟨b, why, more, hw, s1, s2⟩
    · have x49 : f_X7_commands_L49 xF mR mD mJ (nI x) (nI u) kF tL (nI s) tQ tF T (n + 1) (nI c) row rR rD = f_X7_commands_L49 xF mR mD mJ (nI x) (nI u) kF tL (nI s) tQ tF T n (nI (c + 1)) R' 0 0 := by
        rw [f_X7_commands_L49, f_X1_size, bS, if_neg nc, hk, bS, getN1 c60, bS, getN2 c60, bS, getN3 c60, bS, s1, bS, f_X6_isRefused, if_pos rfl, bS, if_pos rfl, nI_1]
      have HB' : PB (K + 50) R' N' := ⟨s3, s4 K (by omega) HB.2⟩
      rcases he with ⟨rfl, rfl⟩ | ⟨e1, e2, e3⟩
      · obtain ⟨n', rfl⟩ : ∃ n', n = n' + 1 := ⟨n - 1, by omega⟩
        obtain ⟨m', rfl⟩ : ∃ m', m = m' + 1 := ⟨m - 1, by omega⟩
        have ht := (sign_n (F := 0) (p := 59) H (Nat.le_refl Q1) (by decide) (fun e => absurd e.1 (Nat.lt_irrefl Q1))).2
        refine Or.inl ⟨R', 0, 0, nI Q1, g Q, a, N', D2, ?_, ?_, HB'.mono (by omega)⟩
        · rw [x49, f_X7_commands_L49, f_X1_size, bS, if_pos (nI_le (show s ≤ c + 1 by omega) (by omega)), acc_eq hx hu, bS, bS]
        · rw [f_X8_commands_L94, if_neg n10, i1, bS, s2, bS, if_neg n10, if_neg n10, ht, bS, if_pos rfl, f_X8_commands_L94, if_pos rfl, if_neg n10, nI_1, show c + 1 = s by omega]
      · obtain ⟨r', rfl⟩ : ∃ r', r = r' + 1 := by
          cases r with
          | zero => exact absurd e3 prs_0
          | succ r' => exact ⟨r', rfl⟩
        have ht := (sign_y (F := 0) (p := 59) H e1 e2).2
        have x94 : f_X8_commands_L94 g mU (nI l) mF mT nT nK (m + 1) (nI c) 1 1 (nI Q) mW mR mD mJ mA N D = f_X8_commands_L94 g mU (nI l) mF mT nT nK m (nI (c + 1)) 1 1 (nI (Q1 + 1)) (g Q) mR mD mJ a N' D2 := by
          rw [f_X8_commands_L94, if_neg n10, i1, bS, s2, bS, if_neg n10, if_neg n10, ht, bS, if_neg n10, nI_1]
        rcases run_l (xF := xF) (tL := tL) (tQ := tQ) (tF := tF) (mU := mU) (mF := mF) (mT := mT) (kF := kF) (nT := nT) (nK := nK) H hx hu hs r' (c + 1) (Q1 + 1) n m (K + 50) R' 0 0 (g Q) mR mD mJ a N' D2 (by omega) e3 (by omega) (by omega) (by omega) HB' with ⟨row', rR', rD', mQ', mW', mA', N2, D3, y1, y2, y3⟩ | ⟨why, more, c', row', mQ', mW', mA', N2, D3, y1, y2, y3, y4⟩
        · exact Or.inl ⟨row', rR', rD', mQ', mW', mA', N2, D3, by rw [x49, y1], by rw [x94, y2], y3.mono (by omega)⟩
        · exact Or.inr ⟨why, more, c', row', mQ', mW', mA', N2, D3, by rw [x49, y1], by rw [x94, y2], y3, y4⟩
    · obtain ⟨m', rfl⟩ : ∃ m', m = m' + 1 := ⟨m - 1, by omega⟩
      obtain ⟨R', b1, b2⟩ := back_eq (row := row) (kF := kF) hx
      obtain ⟨N', l1, l2⟩ := l162_e (mU := mU) (mH := 0) (mQ := nI Q1) (mW := g Q) (mF := mF) (mR := why) (mD := more) (mJ := nI c) (mA := mA) (mT := mT) (nT := nT) (nK := nK) (D := D2) (N := N)
      refine Or.inr ⟨why, more, c, R', nI Q1, g Q, mA, N', D2, ?_, ?_, b2, l2⟩
      · rw [f_X7_commands_L49, f_X1_size, bS, if_neg nc, hk, bS, getN1 c60, bS, getN2 c60, bS, getN3 c60, bS, s1, bS, f_X6_isRefused, if_neg hw, bS, if_neg n10, b1, bS, f_X7_keepReason, f_X6_latestReason, bS, f_X6_latestDetail, bS, bS]
      · rw [f_X8_commands_L94, if_neg n10, i1, bS, s2, bS, if_pos rfl, if_pos rfl, f_X8_commands_L94, if_pos rfl, if_pos rfl, l1]
