/-! ===== p41, pure: what a club answers is told by the model's row alone ===== -/
def W1 : Option (Int32 × Int32) → Int32
  | some (v, w) => if w = 0 then v else if w = 1 then -1001 else -1002
  | none => 0
theorem ag1 {x : Option (Nat × Int32 × Unit)} {y : Option (Int32 × Int32)} {c1 : Nat} (hc : ¬ c1 = 0) (h : AG1 x y c1) :
    x.bind (fun v1 => if v1.1 = 0 then (some (v1.2.1, ())) else (if v1.1 = c1 then (some ((-1001 : Int32), ())) else none)) = some (W1 y, ()) := by
  rcases h with ⟨v, rfl, rfl⟩ | ⟨v, w, rfl, rfl⟩
  · rw [bS, if_pos rfl, W1, if_pos rfl]
  · rw [bS, if_neg hc, if_pos rfl, W1, if_neg (by decide), if_pos rfl]
theorem ag2 {x : Option (Nat × Int32 × Unit)} {y : Option (Int32 × Int32)} {c1 c2 : Nat} (hc : ¬ c1 = 0) (hc2 : ¬ c2 = 0) (hc12 : ¬ c2 = c1) (h : AG2 x y c1 c2) :
    x.bind (fun v1 => if v1.1 = 0 then (some (v1.2.1, ())) else (if v1.1 = c1 then (some ((-1001 : Int32), ())) else (if v1.1 = c2 then (some ((-1002 : Int32), ())) else none))) = some (W1 y, ()) := by
  rcases h with ⟨v, rfl, rfl⟩ | ⟨v, w, rfl, rfl⟩ | ⟨v, w, rfl, rfl⟩
  · rw [bS, if_pos rfl, W1, if_pos rfl]
  · rw [bS, if_neg hc, if_pos rfl, W1, if_neg (by decide), if_pos rfl]
  · rw [bS, if_neg hc2, if_neg hc12, if_pos rfl, W1, if_neg (by decide), if_neg (by decide)]
theorem lw_needle {R N : Nat → Int32} {p : Int32} (H : PR R N) : f_L_needle R p = some (W1 (f_X8_needle 0 N p), ()) := by
  rw [f_L_needle]
  exact ag1 (by decide) (q_needle H)
theorem lw_needleAgain {R N : Nat → Int32} {p : Int32} (H : PR R N) : f_L_needleAgain R p = some (W1 (f_X8_needleAgain 0 N p), ()) := by
  rw [f_L_needleAgain]
  exact ag1 (by decide) (q_needleAgain H)
theorem lw_bestGuess {R N : Nat → Int32} {p : Int32} (H : PR R N) : f_L_bestGuess R p = some (W1 (f_X8_bestGuess 0 N p), ()) := by
  rw [f_L_bestGuess]
  exact ag1 (by decide) (q_bestGuess H)
theorem lw_wouldWin {R N : Nat → Int32} {p : Int32} (H : PR R N) : f_L_wouldWin R p = some (W1 (f_X8_wouldWin 0 N p), ()) := by
  rw [f_L_wouldWin]
  exact ag1 (by decide) (q_wouldWin H)
theorem lw_weather {R N : Nat → Int32} {p : Int32} (H : PR R N) : f_L_weather R p = some (W1 (f_X8_weather 0 N p), ()) := by
  rw [f_L_weather]
  exact ag1 (by decide) (q_weather H)
theorem lw_of {R N : Nat → Int32} {p q : Int32} (H : PR R N) : f_L_of R p q = some (W1 (f_X8_memberOf 0 N p q), ()) := by
  rw [f_L_of]
  exact ag2 (by decide) (by decide) (by decide) (q_memberOf H)
theorem lw_off {R N : Nat → Int32} {p : Int32} (H : PR R N) : f_L_off R p = some (W1 (f_X8_off 0 N p), ()) := by
  rw [f_L_off]
  exact ag2 (by decide) (by decide) (by decide) (q_off H)
theorem lw_owner {R N : Nat → Int32} {p : Int32} (H : PR R N) : f_L_owner R p = some (W1 (f_X8_owner 0 N p), ()) := by
  rw [f_L_owner]
  exact ag2 (by decide) (by decide) (by decide) (q_owner H)
theorem lw_changeFor {R N : Nat → Int32} {p : Int32} (H : PR R N) : f_L_changeFor R p = some (W1 (f_X8_changeFor 0 N p), ()) := by
  rw [f_L_changeFor]
  exact ag2 (by decide) (by decide) (by decide) (q_changeFor H)
theorem lw_nearestFree {R N : Nat → Int32} {p : Int32} (H : PR R N) : f_L_nearestFree R p = some (W1 (f_X8_nearestFree 0 N p), ()) := by
  rw [f_L_nearestFree]
  exact ag2 (by decide) (by decide) (by decide) (q_nearestFree H)
theorem lw_ranked {R N : Nat → Int32} {K : Nat} {p q : Int32} (hK : K < 2 ^ 29) (H : PB K R N) : f_L_ranked R p q = some (W1 (f_X8_ranked 0 N p q), ()) := by
  rw [f_L_ranked]
  exact ag2 (by decide) (by decide) (by decide) (q_ranked hK H)
theorem acc_w {mU mH t : Int32} {N : Nat → Int32} {w : Nat} (hw : w < 9) : f_X8_account mU mH t N (nI w) = f_X8_account 0 0 t N (nI w) := by
  have e9 : ¬ nI w = 9 := fun e => absurd ((nI_eq (b := 9) (by omega) (by decide)).mp e) (by omega)
  have e10 : ¬ nI w = 10 := fun e => absurd ((nI_eq (b := 10) (by omega) (by decide)).mp e) (by omega)
  rw [f_X8_account, f_X8_account, if_neg e9, if_neg e10, if_neg e9, if_neg e10]
theorem lw_account {R N : Nat → Int32} {kK tL : Int32} {w : Nat} (H : PR R N) (hw : w < 9) : f_L_account R kK tL (nI w) = some (W1 (f_X8_account 0 0 0 N (nI w)), ()) := by
  rw [f_L_account, ← acc_w (mU := kK) (mH := tL) hw]
  exact ag1 (by decide) (q_account H)
theorem c0_account {R N : Nat → Int32} {kK tL : Int32} {c : Nat} (G : Good N c) (hR : Rel R N c) : f_L_account R kK tL 0 = some (nI c, ()) := by
  rw [f_L_account, f_X7_account, if_pos rfl, x0_get0, bS, bS, if_pos rfl, r0_of G hR]
/-! the two means -/
theorem m_coins {N : Nat → Int32} {c : Nat} (G : Good N c) : ∃ a, ∀ R, Rel R N c → f_L_meanCoins R = some (a, ()) := by
  have hc := G.1
  by_cases e : c = 0
  · subst e
    refine ⟨13875388141788987392, fun R hR => ?_⟩
    rw [f_L_meanCoins, f_X7_meanCoins, x0_get0, bS, r0_of G hR, if_pos nI_0, bS, if_neg (show ¬ (5 : Nat) = 0 by decide), if_pos rfl]
  · have ne : ¬ nI c = 0 := nI_ne0 (by omega) (by omega)
    have hn := ddiv_ok (x := sumC N c) (c := c) (by omega) (by omega)
    refine ⟨FP.ddiv (FP.i2d (sumC N c)) (FP.i2d (nI c)), fun R hR => ?_⟩
    rw [f_L_meanCoins, f_X7_meanCoins, x0_get0, bS, r0_of G hR, if_neg ne, x0_coinsA G hR, bS, cT hn, bS, if_pos rfl]
theorem m_share {N : Nat → Int32} {c : Nat} (G : Good N c) : ∃ a, ∀ R, Rel R N c → f_L_tappedShare R = some (a, ()) := by
  have hc := G.1
  have hw := cW_le (N := N) c
  have ht := cT_le (N := N) c
  by_cases e : cW N c = 0
  · refine ⟨3296346112, fun R hR => ?_⟩
    rw [f_L_tappedShare, f_X7_tappedShare, x0_wNA G hR, bS, e, if_pos nI_0, bS, if_neg (show ¬ (5 : Nat) = 0 by decide), if_pos rfl]
  · have ne : ¬ nI (cW N c) = 0 := nI_ne0 (by omega) (by omega)
    have hn := (share_ok (cT' N c) (by omega) (cW N c) (by omega) (by omega)).1
    refine ⟨FP.fdiv (FP.i2f (nI (cT' N c))) (FP.i2f (nI (cW N c))), fun R hR => ?_⟩
    rw [f_L_tappedShare, f_X7_tappedShare, x0_wNA G hR, bS, if_neg ne, x0_tNA G hR, bS, cT hn, bS, if_pos rfl]
theorem d_bits {a : UInt64} : ∃ b, f_Jxe99ae_doubleToLongBits_ccdee a = some (b, ()) := by
  rw [f_Jxe99ae_doubleToLongBits_ccdee, f_Jxe99ae_isNaN_b9ae7]
  by_cases h : (Op.cmpValue (FP.dcmp a a) .l) = (0 : Int32)
  · rw [if_pos h, bS, if_pos rfl]
    exact ⟨_, rfl⟩
  · rw [if_neg h, bS, if_neg n10]
    exact ⟨_, rfl⟩
theorem f_bits {a : UInt32} : ∃ b, f_Jxf58ca_floatToIntBits_5c35a a = some (b, ()) := by
  rw [f_Jxf58ca_floatToIntBits_5c35a, f_Jxf58ca_isNaN_12338]
  by_cases h : (Op.cmpValue (FP.fcmp a a) .l) = (0 : Int32)
  · rw [if_pos h, bS, if_pos rfl]
    exact ⟨_, rfl⟩
  · rw [if_neg h, bS, if_neg n10]
    exact ⟨_, rfl⟩
/-! the characters of the line -/
theorem ch_in {a i q : Nat} {f : Nat → Int32} (ha : a ≤ 32) (hi : i < a) (hq : q < 65536) (e : f i = nI q) : f_L_character (nI a) f (nI i) = some (nI q, ()) := by
  have h1 : ¬ nI i < 0 := nI_pos (by omega)
  rw [f_L_character, f_X7_character, if_neg h1, f_X4_length, bS, if_pos (nI_lt hi (by omega)), f_X4_at, if_neg h1, if_neg (show ¬ (32 : Int32) ≤ nI i from nI_ge (b := 32) (by omega) (by decide)), cT (inB_n (by omega) (by decide)), nI_clamp (by omega), e, cT (okc hq), bS, cT (okc hq), bS, if_pos rfl]
theorem ch_l {a : Nat} {g : Nat → Int32} (ha : a ≤ 32) : ∀ k i n s, i + k = a → k < n → ∃ s', ∀ f, Ag a f g → f_L_asks_L214 (nI a) (nI a) f n s (nI i) = some (s', nI a)
  | k, i, 0, _, _, hn => absurd hn (Nat.not_lt_zero k)
  | 0, i, n + 1, s, hk, _ => by
    refine ⟨s, fun f hf => ?_⟩
    rw [f_L_asks_L214, show i = a by omega, if_pos (nI_le (Nat.le_refl a) (by omega))]
  | k + 1, i, n + 1, s, hk, hn => by
    obtain ⟨s', h⟩ := ch_l ha k (i + 1) n (((31 : Int64) * s) + (g i).toInt64) (by omega) (by omega)
    refine ⟨s', fun f hf => ?_⟩
    obtain ⟨e1, q, hq, e2⟩ := hf i (by omega)
    rw [f_L_asks_L214, if_neg (nI_ge (show i < a by omega) (by omega)), ch_in ha (show i < a by omega) hq e2, bS, nI_1]
    have h2 := h f hf
    rw [← e1, e2] at h2
    exact h2
/-! the member's numbers, the orders -/
theorem of_l {N : Nat → Int32} {p : Int32} : ∀ k w n s, w + k = 7 → k < n → ∃ s', ∀ R, PR R N → f_L_asks_L89 R p n s (nI w) = some (s', nI 7)
  | k, w, 0, _, _, hn => absurd hn (Nat.not_lt_zero k)
  | 0, w, n + 1, s, hk, _ => by
    refine ⟨s, fun R hR => ?_⟩
    rw [f_L_asks_L89, show w = 7 by omega, if_pos (show (7 : Int32) ≤ nI 7 by decide)]
  | k + 1, w, n + 1, s, hk, hn => by
    obtain ⟨s', h⟩ := of_l (N := N) (p := p) k (w + 1) n (((31 : Int64) * s) + (W1 (f_X8_memberOf 0 N p (nI w))).toInt64) (by omega) (by omega)
    refine ⟨s', fun R hR => ?_⟩
    rw [f_L_asks_L89, if_neg (show ¬ (7 : Int32) ≤ nI w from nI_ge (b := 7) (by omega) (by decide)), lw_of hR, bS, nI_1]
    exact h R hR
theorem rk_l {N : Nat → Int32} {K : Nat} {p : Int32} (hK : K < 2 ^ 29) : ∀ k w n s, w + k = 4 → k < n → ∃ s', ∀ R, PB K R N → f_L_asks_L177 R p n s (nI w) = some (s', nI 4)
  | k, w, 0, _, _, hn => absurd hn (Nat.not_lt_zero k)
  | 0, w, n + 1, s, hk, _ => by
    refine ⟨s, fun R hR => ?_⟩
    rw [f_L_asks_L177, show w = 4 by omega, if_pos (show (4 : Int32) ≤ nI 4 by decide)]
  | k + 1, w, n + 1, s, hk, hn => by
    obtain ⟨s', h⟩ := rk_l (N := N) (p := p) hK k (w + 1) n (((31 : Int64) * s) + (W1 (f_X8_ranked 0 N (nI w) p)).toInt64) (by omega) (by omega)
    refine ⟨s', fun R hR => ?_⟩
    rw [f_L_asks_L177, if_neg (show ¬ (4 : Int32) ≤ nI w from nI_ge (b := 4) (by omega) (by decide)), lw_ranked hK hR, bS, nI_1]
    exact h R hR
/-- a row that goes with the model's -/
theorem Rel_self {N : Nat → Int32} {c : Nat} : Rel (fun i => if i % 7 = 1 ∧ 13 ≤ i ∧ ¬ 0 < N (i + 1) then -1 else N i) N c := by
  refine ⟨fun i hi => if_neg (fun q => absurd q.2.1 (by omega)), fun m hm w hw hw2 => if_neg (fun q => absurd q.1 (by omega)), fun m hm => ?_⟩
  show (if (13 + 7 * m + 2) % 7 = 1 ∧ 13 ≤ 13 + 7 * m + 2 ∧ ¬ 0 < N (13 + 7 * m + 3) then -1 else N (13 + 7 * m + 2)) = _
  by_cases h : 0 < N (13 + 7 * m + 3)
  · rw [if_neg (fun q => q.2.2 h), if_pos h]
  · rw [if_pos ⟨by omega, by omega, h⟩, if_neg h]
theorem PB.rel {K c : Nat} {R N : Nat → Int32} (G : Good N c) (H : PB K R N) : Rel R N c := by
  obtain ⟨⟨c', G', hR⟩, -⟩ := H
  have h1 := G.1
  have h2 := G'.1
  have e := (nI_eq (by omega) (by omega)).mp (G.2.1.symm.trans G'.2.1)
  subst e
  exact hR
/-- a member's line -/
theorem line_ok {N : Nat → Int32} {K c m : Nat} (hK : K < 2 ^ 29) (G : Good N c) (B : Bd N K) (hm : m < c) :
    ∃ a g, a ≤ 32 ∧ ∀ R lL lC, Rel R N c → ∃ f, f_L_line R lL lC (nI m) = some (nI a, nI a, f) ∧ Ag a f g := by
  have hc := G.1
  obtain ⟨a, -, g, h1, -, h3, -⟩ := ln_ok (lL := 0) (lC := fun _ => 0) (mI := 0) (t := 0) (nL := fun _ => 0) hK G Rel_self B hm
  refine ⟨a, g, h1, fun R lL lC hR => ?_⟩
  obtain ⟨l, f, g', l1, l2, l3, l4⟩ := ln_ok (lL := lL) (lC := lC) (mI := 0) (t := 0) (nL := fun _ => 0) hK G hR B hm
  rw [l3] at h3
  injection h3 with h3
  injection h3 with e1 h3
  injection h3 with _ h3
  injection h3 with _ e2
  have e := (nI_eq (by omega) (by omega)).mp e1
  subst e
  subst e2
  refine ⟨f, ?_, l4⟩
  rw [f_L_line, f_X7_line, x7_rsY (r0_of G hR) hc hm, bS, if_pos rfl, l2, bS, f_X4_length, bS, bS, if_pos rfl]
/-- the heights -/
theorem board_ok {N : Nat → Int32} {c : Nat} (G : Good N c) : ∃ g, ∀ R lL lC, Rel R N c → ∃ f, f_X7_board R lL lC = some (nI 10, nI 10, f) ∧ Ag 10 f g := by
  obtain ⟨-, g, -, h2, -⟩ := bd_l (t := 0) G Rel_self 10 0 FU (fun _ => 0) (fun _ => 0) (by omega) (by rw [FU]; omega) (fun j hj => absurd hj (Nat.not_lt_zero j))
  refine ⟨g, fun R lL lC hR => ?_⟩
  have hA : Ag 0 lC (fun _ => 0) := fun j hj => absurd hj (Nat.not_lt_zero j)
  obtain ⟨f, g', b1, b2, b3⟩ := bd_l (t := 0) G hR 10 0 FU lC (fun _ => 0) (by omega) (by rw [FU]; omega) hA
  rw [b2] at h2
  injection h2 with h2
  injection h2 with _ h2
  injection h2 with _ h2
  injection h2 with _ e2
  subst e2
  refine ⟨f, ?_, b3⟩
  rw [f_X7_board, f_X4_writeHeights, show f_X4_writeHeights_L7 R FU (0 : Int32) (0 : Int32) lC = some (nI 10, f) from b1, bS, f_X4_length, bS]
theorem tail_l {N : Nat → Int32} {K c : Nat} (G : Good N c) (g : Nat → Int32) : ∀ k i n s, i + k = 10 → k < n → ∃ s', ∀ R f, PB K R N → Ag 10 f g → f_L_asks_L255 R (nI 10) (nI 10) f n s (nI i) = some (s', nI 10, f)
  | k, i, 0, _, _, hn => absurd hn (Nat.not_lt_zero k)
  | 0, i, n + 1, s, hk, _ => by
    obtain ⟨P, p1, p2, p3⟩ := G.2.2.1
    refine ⟨((31 : Int64) * (((31 : Int64) * (((31 : Int64) * (((31 : Int64) * s) + (nI (wst N P c).1).toInt64)) + (nI (wst N P c).1).toInt64)) + (shI N (wst N P c).1).toInt64)) + (W1 (f_X8_wouldWin 0 N 17)).toInt64, fun R f hR hf => ?_⟩
    have r := hR.rel G
    have r1 : R 1 = nI P := (r.1 1 (by decide)).trans p3
    rw [f_L_asks_L255, show i = 10 by omega, if_pos (nI_le (Nat.le_refl 10) (by omega)), f_X7_winners, x0_get1, bS, r1, x0_near G r p1 p2, bS, bS, f_X7_winnersAgain, x0_byDA G p3 r p1 p2, bS, bS, f_X7_share, x0_get1, bS, r1, x0_near G r p1 p2, bS, x0_share r (wst_64 G p1 p2), bS, bS, lw_wouldWin hR.1, bS]
  | k + 1, i, n + 1, s, hk, hn => by
    obtain ⟨s', h⟩ := tail_l (K := K) G g k (i + 1) n (((31 : Int64) * s) + (g i).toInt64) (by omega) (by omega)
    refine ⟨s', fun R f hR hf => ?_⟩
    obtain ⟨e1, q, hq, e2⟩ := hf i (by omega)
    rw [f_L_asks_L255, if_neg (nI_ge (show i < 10 by omega) (by omega)), ch_in (a := 10) (by omega) (show i < 10 by omega) hq e2, bS, nI_1]
    have h2 := h R f hR hf
    rw [← e1, e2] at h2
    exact h2
theorem mem_l {N : Nat → Int32} {K c : Nat} (hK : K < 2 ^ 29) (G : Good N c) (B : Bd N K) : ∀ k m n s, m + k = c → k < n → ∃ s', ∀ R kK tL lL lC, PB K R N → ∃ lC', f_L_asks_L77 R kK tL n s (nI m) lL lC = some (s', nI 10, lC')
  | k, m, 0, _, _, hn => absurd hn (Nat.not_lt_zero k)
  | 0, m, n + 1, s, hk, _ => by
    have hc := G.1
    obtain ⟨g, hg⟩ := board_ok G
    obtain ⟨s', h⟩ := tail_l (K := K) G g 10 0 33 s (by omega) (by omega)
    refine ⟨s', fun R kK tL lL lC hR => ?_⟩
    obtain ⟨f, b1, b2⟩ := hg R lL lC (hR.rel G)
    refine ⟨f, ?_⟩
    rw [f_L_asks_L77, c0_account G (hR.rel G), bS, if_pos (nI_le (show c ≤ m by omega) (by omega)), b1, bS]
    exact h R f hR b2
  | k + 1, m, n + 1, s, hk, hn => by
    have hc := G.1
    have hm : m < c := by omega
    obtain ⟨s1, h1⟩ := of_l (N := N) (p := nI m) 7 0 8 s (by omega) (by omega)
    obtain ⟨s2, h2⟩ := rk_l (N := N) (p := nI m) hK 4 0 5 (((31 : Int64) * (((31 : Int64) * (((31 : Int64) * (((31 : Int64) * (((31 : Int64) * s1) + (W1 (f_X8_needle 0 N (nI m))).toInt64)) + (W1 (f_X8_off 0 N (nI m))).toInt64)) + (W1 (f_X8_changeFor 0 N (nI m))).toInt64)) + (W1 (f_X8_bestGuess 0 N (nI m))).toInt64)) + (W1 (f_X8_nearestFree 0 N (nI m))).toInt64) (by omega) (by omega)
    obtain ⟨a, g, ha, hg⟩ := line_ok hK G B hm
    obtain ⟨s3, h3⟩ := ch_l (g := g) ha a 0 33 s2 (by omega) (by omega)
    obtain ⟨s4, h4⟩ := mem_l hK G B k (m + 1) n s3 (by omega) (by omega)
    refine ⟨s4, fun R kK tL lL lC hR => ?_⟩
    obtain ⟨f, b1, b2⟩ := hg R lL lC (hR.rel G)
    have k1 : f_L_asks_L89 R (nI m) 8 s 0 = some (s1, nI 7) := h1 R hR.1
    have k2 := h2 R hR
    rw [nI_0] at k2
    have k3 : f_L_asks_L214 (nI a) (nI a) f 33 s2 0 = some (s3, nI a) := h3 f b2
    obtain ⟨lC', k4⟩ := h4 R kK tL (nI a) f hR
    refine ⟨lC', ?_⟩
    rw [f_L_asks_L77, c0_account G (hR.rel G), bS, if_neg (nI_ge hm (by omega)), k1, bS, lw_needle hR.1, bS, lw_off hR.1, bS, lw_changeFor hR.1, bS, lw_bestGuess hR.1, bS, lw_nearestFree hR.1, bS]
    rw [k2, bS, b1, bS, k3, bS, nI_1]
    exact k4
theorem wea_l {N : Nat → Int32} {K c : Nat} (hK : K < 2 ^ 29) (G : Good N c) (B : Bd N K) : ∀ k w n s, w + k = 6 → k < n → ∃ s', ∀ R kK tL lL lC, PB K R N → ∃ lC', f_L_asks_L50 R kK tL lL lC n s (nI w) = some (s', nI 10, lC')
  | k, w, 0, _, _, hn => absurd hn (Nat.not_lt_zero k)
  | 0, w, n + 1, s, hk, _ => by
    have hc := G.1
    obtain ⟨s', h⟩ := mem_l hK G B c 0 7 s (by omega) (by omega)
    refine ⟨s', fun R kK tL lL lC hR => ?_⟩
    obtain ⟨lC', e⟩ := h R kK tL lL lC hR
    refine ⟨lC', ?_⟩
    rw [f_L_asks_L50, show w = 6 by omega, if_pos (show (6 : Int32) ≤ nI 6 by decide)]
    exact e
  | k + 1, w, n + 1, s, hk, hn => by
    obtain ⟨s', h⟩ := wea_l hK G B k (w + 1) n (((31 : Int64) * s) + (W1 (f_X8_weather 0 N (nI w))).toInt64) (by omega) (by omega)
    refine ⟨s', fun R kK tL lL lC hR => ?_⟩
    obtain ⟨lC', e⟩ := h R kK tL lL lC hR
    refine ⟨lC', ?_⟩
    rw [f_L_asks_L50, if_neg (show ¬ (6 : Int32) ≤ nI w from nI_ge (b := 6) (by omega) (by decide)), lw_weather hR.1, bS, nI_1]
    exact e
theorem acc_l {N : Nat → Int32} {K c : Nat} (hK : K < 2 ^ 29) (G : Good N c) (B : Bd N K) : ∀ k w n s, w + k = 9 → k < n → ∃ s', ∀ R kK tL lL lC, PB K R N → ∃ lC', f_L_asks_L23 R kK tL lL lC n s (nI w) = some (s', nI 10, lC')
  | k, w, 0, _, _, hn => absurd hn (Nat.not_lt_zero k)
  | 0, w, n + 1, s, hk, _ => by
    obtain ⟨s', h⟩ := wea_l hK G B 6 0 7 s (by omega) (by omega)
    refine ⟨s', fun R kK tL lL lC hR => ?_⟩
    obtain ⟨lC', e⟩ := h R kK tL lL lC hR
    refine ⟨lC', ?_⟩
    rw [f_L_asks_L23, show w = 9 by omega, if_pos (show (9 : Int32) ≤ nI 9 by decide)]
    exact e
  | k + 1, w, n + 1, s, hk, hn => by
    obtain ⟨s', h⟩ := acc_l hK G B k (w + 1) n (((31 : Int64) * s) + (W1 (f_X8_account 0 0 0 N (nI w))).toInt64) (by omega) (by omega)
    refine ⟨s', fun R kK tL lL lC hR => ?_⟩
    obtain ⟨lC', e⟩ := h R kK tL lL lC hR
    refine ⟨lC', ?_⟩
    rw [f_L_asks_L23, if_neg (show ¬ (9 : Int32) ≤ nI w from nI_ge (b := 9) (by omega) (by decide)), lw_account hR.1 (by omega), bS, nI_1]
    exact e
theorem asks_ok {N : Nat → Int32} {K c : Nat} (hK : K < 2 ^ 29) (G : Good N c) (B : Bd N K) : ∃ s, ∀ R kK tL lL lC, PB K R N → ∃ lC', f_L_asks R kK tL lL lC = some (s, nI 10, lC') := by
  obtain ⟨a1, h1⟩ := m_coins G
  obtain ⟨a2, h2⟩ := d_bits (a := a1)
  obtain ⟨a3, h3⟩ := m_share G
  obtain ⟨a4, h4⟩ := f_bits (a := a3)
  obtain ⟨s, h⟩ := acc_l hK G B 9 0 10 (((31 : Int64) * a2) + a4.toInt64) (by omega) (by omega)
  refine ⟨s, fun R kK tL lL lC hR => ?_⟩
  obtain ⟨lC', e⟩ := h R kK tL lL lC hR
  refine ⟨lC', ?_⟩
  rw [f_L_asks, h1 R (hR.rel G), bS, h2, bS, h3 R (hR.rel G), bS, h4, bS]
  exact e
/-- so many coins and readings are never there -/
def KM : Nat := 2 ^ 28
theorem KM_lt : KM < 2 ^ 29 := by decide +kernel
theorem asks_any (N : Nat → Int32) : ∃ s, ∀ R kK tL lL lC, PB KM R N → ∃ lC', f_L_asks R kK tL lL lC = some (s, nI 10, lC') := by
  by_cases h : ∃ c, Good N c ∧ Bd N KM
  · obtain ⟨c, G, B⟩ := h
    exact asks_ok KM_lt G B
  · refine ⟨0, fun R kK tL lL lC hR => ?_⟩
    obtain ⟨⟨c, G, -⟩, B⟩ := hR
    exact absurd ⟨c, G, B⟩ h
noncomputable def SUM (N : Nat → Int32) : Int64 := (asks_any N).choose
theorem asks_sum {N R lC : Nat → Int32} {kK tL lL : Int32} {K : Nat} (hK : K ≤ KM) (H : PB K R N) : ∃ lC', f_L_asks R kK tL lL lC = some (SUM N, nI 10, lC') :=
  (asks_any N).choose_spec R kK tL lL lC (H.mono hK)
theorem cmp_self {a : Int64} : lg_cmp a a = 0 := by
  have h : ¬ a > a := fun h => absurd (Int64.lt_iff_toInt_lt.mp h) (by omega)
  rw [lg_cmp, if_neg h, if_pos rfl]
