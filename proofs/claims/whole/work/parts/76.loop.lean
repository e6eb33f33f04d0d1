/-! ===== pure: the law's loop ===== -/
theorem Lst {L i : Nat} (hL : L ≤ 2048) (hi : i < 2 ^ 30) : (Int32.ofNat L - (4 : Int32)) < nI i ↔ L < i + 4 := by
  rw [Int32.lt_iff_toInt_lt, show (Int32.ofNat L - (4 : Int32)).toInt = (L : Int) - 4 from sub_int (a := 4) (b := L) (by decide) (by omega), nI_toInt (show i < 2 ^ 31 by omega)]
  omega
theorem kb1 {K k B : Nat} (h : K + 3000 * (k + 1 + 1) < B) : K + 3000 + 3000 * (k + 1) < B := by
  rw [Nat.mul_succ, Nat.add_comm (3000 * (k + 1)) 3000, ← Nat.add_assoc] at h
  exact h
theorem kb2 {K k B : Nat} (h : K + 3000 * (k + 1) < B) : K < B := Nat.lt_of_le_of_lt (Nat.le_add_right K _) h
def Inv (K : Nat) (xS kN kK tL lL mU mB mI mH : Int32) (row kF tC lC sN nN nK nS nL nX : Nat → Int32) : Prop :=
  PB K row nN ∧ Hist K kN kK kF mU nK ∧ Txt tL tC mH nX ∧ Lin lL lC mI nL ∧ Snap K xS sN mB nS
theorem law_l {L : Nat} {xs : Nat → Int32} (hL : L ≤ 2048) : ∀ k n i K {y5 xS rR rD kN kK tL tS tQ tF lL mU mB mI mH mQ mW mF mR mD mJ mA mT : Int32} {row kF tC tP lC sN nN nT nK nS nL nX nD : Nat → Int32} {oL : Nat → Int64} {oD : Nat → UInt64}, y5 = nI i → L < i + 4 * k + 4 → i < 2 ^ 29 → k < n → K + 3000 * (k + 1) < 2 ^ 29 → Inv K xS kN kK tL lL mU mB mI mH row kF tC lC sN nN nK nS nL nX →
    f_law_L L xs n y5 xS mF mR mD mJ row rR rD kN kK kF tL tS tQ tF tC tP lL lC sN mU mB mI mH mQ mW mF mR mD mJ mA mT nN nT nK nS nL nX nD oL oD = some () := by
  intro k
  induction k with
  | zero =>
    intro n i K y5 xS rR rD kN kK tL tS tQ tF lL mU mB mI mH mQ mW mF mR mD mJ mA mT row kF tC tP lC sN nN nT nK nS nL nX nD oL oD hy hk hi hn hK HI
    obtain ⟨n, rfl⟩ : ∃ m, n = m + 1 := ⟨n - 1, by omega⟩
    rw [hy, f_law_L]
    exact if_pos ((Lst hL (by omega)).mpr (by omega))
  | succ k ih =>
    intro n i K y5 xS rR rD kN kK tL tS tQ tF lL mU mB mI mH mQ mW mF mR mD mJ mA mT row kF tC tP lC sN nN nT nK nS nL nX nD oL oD hy hk hi hn hK HI
    obtain ⟨n, rfl⟩ : ∃ m, n = m + 1 := ⟨n - 1, by omega⟩
    rw [hy, f_law_L]
    by_cases hz : L < i + 4
    · exact if_pos ((Lst hL (by omega)).mpr hz)
    refine (if_neg (fun e => hz ((Lst hL (by omega)).mp e))).trans ?_
    have hi4 : i + 4 ≤ L := by omega
    have hi4' : i + 4 < 2 ^ 29 := by omega
    have hk' : L < i + 4 + 4 * k + 4 := by omega
    have hn' : k < n := by omega
    have hK' : K + 3000 + 3000 * (k + 1) < 2 ^ 29 := kb1 hK
    have hKb : K + 3000 < 2 ^ 29 := kb2 hK'
    have hKc : K < 2 ^ 29 := by omega
    have le0 : K ≤ K + 3000 := Nat.le_add_right K 3000
    have le5 : K + 50 ≤ K + 3000 := by omega
    have hy' : nI i + (4 : Int32) = nI (i + 4) := by rw [show (4 : Int32) = nI 4 from rfl, nI_add]
    refine (cT (inB_n (show i < L by omega) (by omega))).trans ?_
    obtain ⟨HP, HH, HT, HL, HS⟩ := HI
    have HP' := HP.mono le0
    have HH' := HH.mono le0
    have HS' := HS.mono le0
    have HQ := HP.1
    by_cases e0 : xs (nI i).toNatClampNeg &&& 63 = (0 : Int32)
    · refine (if_pos e0).trans ?_
      obtain ⟨_, _, _, _, _, _, _, _, _, _, _, _, _, _, _, _, _, _, _, h1, q1, q2, rfl, rfl, rfl⟩ := case_C0 (xs := xs) (rR := rR) (rD := rD) (mT := mT) (mR := mR) (mD := mD) (mJ := mJ) (mA := mA) (nT := nT) (oL := oL) hi4 hL hKc HP HH
      rw [h1, bS]
      exact ih n (i + 4) (K + 3000) hy' hk' hi4' hn' hK' ⟨q1.mono le5, q2.mono le5, HT, HL, HS'⟩
    refine (if_neg e0).trans ?_
    by_cases e1 : xs (nI i).toNatClampNeg &&& 63 = (1 : Int32)
    · refine (if_pos e1).trans ?_
      obtain ⟨_, _, _, _, _, _, _, _, _, _, _, _, _, _, _, _, _, _, _, h1, q1, q2, rfl, rfl, rfl⟩ := case_C1 (xs := xs) (rR := rR) (rD := rD) (mT := mT) (mR := mR) (mD := mD) (mJ := mJ) (mA := mA) (nT := nT) (oL := oL) hi4 hL hKc HP HH
      rw [h1, bS]
      exact ih n (i + 4) (K + 3000) hy' hk' hi4' hn' hK' ⟨q1.mono le5, q2.mono le5, HT, HL, HS'⟩
    refine (if_neg e1).trans ?_
    by_cases e2 : xs (nI i).toNatClampNeg &&& 63 = (2 : Int32)
    · refine (if_pos e2).trans ?_
      obtain ⟨_, _, _, _, _, _, _, _, _, _, _, _, _, _, _, _, _, _, _, h1, q1, q2, rfl, rfl, rfl⟩ := case_C2 (xs := xs) (rR := rR) (rD := rD) (mT := mT) (mR := mR) (mD := mD) (mJ := mJ) (mA := mA) (nT := nT) (oL := oL) hi4 hL hKc HP HH
      rw [h1, bS]
      exact ih n (i + 4) (K + 3000) hy' hk' hi4' hn' hK' ⟨q1.mono le5, q2.mono le5, HT, HL, HS'⟩
    refine (if_neg e2).trans ?_
    by_cases e3 : xs (nI i).toNatClampNeg &&& 63 = (3 : Int32)
    · refine (if_pos e3).trans ?_
      obtain ⟨_, _, _, _, _, _, _, _, _, _, _, _, _, _, _, _, _, _, _, h1, q1, q2, rfl, rfl, rfl⟩ := case_C3 (xs := xs) (rR := rR) (rD := rD) (mT := mT) (mR := mR) (mD := mD) (mJ := mJ) (mA := mA) (nT := nT) (oL := oL) hi4 hL hKc HP HH
      rw [h1, bS]
      exact ih n (i + 4) (K + 3000) hy' hk' hi4' hn' hK' ⟨q1.mono le5, q2.mono le5, HT, HL, HS'⟩
    refine (if_neg e3).trans ?_
    by_cases e4 : xs (nI i).toNatClampNeg &&& 63 = (4 : Int32)
    · refine (if_pos e4).trans ?_
      obtain ⟨_, _, _, _, _, _, _, _, _, _, _, _, _, _, _, _, _, _, _, h1, q1, q2, rfl, rfl, rfl⟩ := case_C4 (xs := xs) (rR := rR) (rD := rD) (mT := mT) (mR := mR) (mD := mD) (mJ := mJ) (mA := mA) (nT := nT) (oL := oL) hi4 hL hKc HP HH
      rw [h1, bS]
      exact ih n (i + 4) (K + 3000) hy' hk' hi4' hn' hK' ⟨q1.mono le5, q2.mono le5, HT, HL, HS'⟩
    refine (if_neg e4).trans ?_
    by_cases e5 : xs (nI i).toNatClampNeg &&& 63 = (5 : Int32)
    · refine (if_pos e5).trans ?_
      obtain ⟨_, _, _, _, _, _, _, _, _, _, _, _, _, _, _, _, _, _, _, h1, q1, q2, rfl, rfl, rfl⟩ := case_C5 (xs := xs) (rR := rR) (rD := rD) (mT := mT) (mR := mR) (mD := mD) (mJ := mJ) (mA := mA) (nT := nT) (oL := oL) hi4 hL hKc HP HH
      rw [h1, bS]
      exact ih n (i + 4) (K + 3000) hy' hk' hi4' hn' hK' ⟨q1.mono le5, q2.mono le5, HT, HL, HS'⟩
    refine (if_neg e5).trans ?_
    by_cases e6 : xs (nI i).toNatClampNeg &&& 63 = (6 : Int32)
    · refine (if_pos e6).trans ?_
      obtain ⟨_, _, _, _, _, _, _, _, _, _, _, _, _, _, _, _, _, _, _, h1, q1, q2, rfl, rfl, rfl⟩ := case_C6 (xs := xs) (rR := rR) (rD := rD) (mT := mT) (mR := mR) (mD := mD) (mJ := mJ) (mA := mA) (nT := nT) (oL := oL) hi4 hL hKc HP HH
      rw [h1, bS]
      exact ih n (i + 4) (K + 3000) hy' hk' hi4' hn' hK' ⟨q1.mono le5, q2.mono le5, HT, HL, HS'⟩
    refine (if_neg e6).trans ?_
    by_cases e7 : xs (nI i).toNatClampNeg &&& 63 = (7 : Int32)
    · refine (if_pos e7).trans ?_
      obtain ⟨_, _, _, _, _, _, _, _, _, _, _, _, _, _, _, _, _, _, _, h1, q1, q2, rfl, rfl, rfl⟩ := case_C7 (xs := xs) (rR := rR) (rD := rD) (mT := mT) (mR := mR) (mD := mD) (mJ := mJ) (mA := mA) (nT := nT) (oL := oL) hi4 hL hKc HP HH
      rw [h1, bS]
      exact ih n (i + 4) (K + 3000) hy' hk' hi4' hn' hK' ⟨q1.mono le5, q2.mono le5, HT, HL, HS'⟩
    refine (if_neg e7).trans ?_
    by_cases e8 : xs (nI i).toNatClampNeg &&& 63 = (8 : Int32)
    · refine (if_pos e8).trans ?_
      obtain ⟨_, _, _, _, _, _, _, _, _, _, _, _, _, _, _, _, _, _, _, h1, q1, q2, rfl, rfl, rfl⟩ := case_C8 (xs := xs) (rR := rR) (rD := rD) (mT := mT) (mR := mR) (mD := mD) (mJ := mJ) (mA := mA) (nT := nT) (oL := oL) hi4 hL hKc HP HH
      rw [h1, bS]
      exact ih n (i + 4) (K + 3000) hy' hk' hi4' hn' hK' ⟨q1.mono le5, q2.mono le5, HT, HL, HS'⟩
    refine (if_neg e8).trans ?_
    by_cases e9 : xs (nI i).toNatClampNeg &&& 63 = (9 : Int32)
    · refine (if_pos e9).trans ?_
      obtain ⟨_, _, _, _, _, _, _, _, _, _, _, _, _, _, _, _, _, _, _, h1, q1, q2, rfl, rfl, rfl⟩ := case_C9 (rR := rR) (rD := rD) (mT := mT) (mR := mR) (mD := mD) (mJ := mJ) (mA := mA) (nT := nT) (oL := oL) hKc HP HH
      rw [h1, bS]
      exact ih n (i + 4) (K + 3000) hy' hk' hi4' hn' hK' ⟨q1.mono le5, q2.mono le5, HT, HL, HS'⟩
    refine (if_neg e9).trans ?_
    by_cases e10 : xs (nI i).toNatClampNeg &&& 63 = (10 : Int32)
    · refine (if_pos e10).trans ?_
      obtain ⟨_, _, h1⟩ := case_C10 (xs := xs) (t := mT) (oL := oL) hi4 hL HQ
      rw [h1, bS]
      exact ih n (i + 4) (K + 3000) hy' hk' hi4' hn' hK' ⟨HP', HH', HT, HL, HS'⟩
    refine (if_neg e10).trans ?_
    by_cases e11 : xs (nI i).toNatClampNeg &&& 63 = (11 : Int32)
    · refine (if_pos e11).trans ?_
      obtain ⟨_, _, h1⟩ := case_C11 (xs := xs) (t := mT) (oL := oL) hi4 hL HQ
      rw [h1, bS]
      exact ih n (i + 4) (K + 3000) hy' hk' hi4' hn' hK' ⟨HP', HH', HT, HL, HS'⟩
    refine (if_neg e11).trans ?_
    by_cases e12 : xs (nI i).toNatClampNeg &&& 63 = (12 : Int32)
    · refine (if_pos e12).trans ?_
      obtain ⟨_, _, h1⟩ := case_C12 (xs := xs) (t := mT) (oL := oL) hi4 hL HQ
      rw [h1, bS]
      exact ih n (i + 4) (K + 3000) hy' hk' hi4' hn' hK' ⟨HP', HH', HT, HL, HS'⟩
    refine (if_neg e12).trans ?_
    by_cases e13 : xs (nI i).toNatClampNeg &&& 63 = (13 : Int32)
    · refine (if_pos e13).trans ?_
      obtain ⟨_, _, h1⟩ := case_C13 (xs := xs) (t := mT) (oL := oL) hi4 hL HQ
      rw [h1, bS]
      exact ih n (i + 4) (K + 3000) hy' hk' hi4' hn' hK' ⟨HP', HH', HT, HL, HS'⟩
    refine (if_neg e13).trans ?_
    by_cases e14 : xs (nI i).toNatClampNeg &&& 63 = (14 : Int32)
    · refine (if_pos e14).trans ?_
      obtain ⟨_, _, h1⟩ := case_C14 (xs := xs) (t := mT) (oL := oL) hi4 hL HQ
      rw [h1, bS]
      exact ih n (i + 4) (K + 3000) hy' hk' hi4' hn' hK' ⟨HP', HH', HT, HL, HS'⟩
    refine (if_neg e14).trans ?_
    by_cases e15 : xs (nI i).toNatClampNeg &&& 63 = (15 : Int32)
    · refine (if_pos e15).trans ?_
      obtain ⟨_, h1⟩ := case_C15 (t := mT) HQ
      rw [h1, bS]
      exact ih n (i + 4) (K + 3000) hy' hk' hi4' hn' hK' ⟨HP', HH', HT, HL, HS'⟩
    refine (if_neg e15).trans ?_
    by_cases e16 : xs (nI i).toNatClampNeg &&& 63 = (16 : Int32)
    · refine (if_pos e16).trans ?_
      obtain ⟨_, h1⟩ := case_C16 (t := mT) HQ
      rw [h1, bS]
      exact ih n (i + 4) (K + 3000) hy' hk' hi4' hn' hK' ⟨HP', HH', HT, HL, HS'⟩
    refine (if_neg e16).trans ?_
    by_cases e17 : xs (nI i).toNatClampNeg &&& 63 = (17 : Int32)
    · refine (if_pos e17).trans ?_
      obtain ⟨_, h1⟩ := case_C17 (t := mT) HQ
      rw [h1, bS]
      exact ih n (i + 4) (K + 3000) hy' hk' hi4' hn' hK' ⟨HP', HH', HT, HL, HS'⟩
    refine (if_neg e17).trans ?_
    by_cases e18 : xs (nI i).toNatClampNeg &&& 63 = (18 : Int32)
    · refine (if_pos e18).trans ?_
      obtain ⟨_, _, h1⟩ := case_C18 (xs := xs) (t := mT) (oL := oL) hi4 hL HQ
      rw [h1, bS]
      exact ih n (i + 4) (K + 3000) hy' hk' hi4' hn' hK' ⟨HP', HH', HT, HL, HS'⟩
    refine (if_neg e18).trans ?_
    by_cases e19 : xs (nI i).toNatClampNeg &&& 63 = (19 : Int32)
    · refine (if_pos e19).trans ?_
      obtain ⟨_, _, h1⟩ := case_C19 (xs := xs) (t := mT) (oL := oL) hi4 hL HQ
      rw [h1, bS]
      exact ih n (i + 4) (K + 3000) hy' hk' hi4' hn' hK' ⟨HP', HH', HT, HL, HS'⟩
    refine (if_neg e19).trans ?_
    by_cases e20 : xs (nI i).toNatClampNeg &&& 63 = (20 : Int32)
    · refine (if_pos e20).trans ?_
      obtain ⟨_, _, h1⟩ := case_C20 (xs := xs) (t := mT) (oL := oL) hi4 hL HQ
      rw [h1, bS]
      exact ih n (i + 4) (K + 3000) hy' hk' hi4' hn' hK' ⟨HP', HH', HT, HL, HS'⟩
    refine (if_neg e20).trans ?_
    by_cases e21 : xs (nI i).toNatClampNeg &&& 63 = (21 : Int32)
    · refine (if_pos e21).trans ?_
      obtain ⟨_, _, h1⟩ := case_C21 (xs := xs) (t := mT) (oL := oL) hi4 hL HQ
      rw [h1, bS]
      exact ih n (i + 4) (K + 3000) hy' hk' hi4' hn' hK' ⟨HP', HH', HT, HL, HS'⟩
    refine (if_neg e21).trans ?_
    by_cases e22 : xs (nI i).toNatClampNeg &&& 63 = (22 : Int32)
    · refine (if_pos e22).trans ?_
      obtain ⟨_, _, h1⟩ := case_C22 (xs := xs) (t := mT) (oL := oL) hi4 hL hKc HP
      rw [h1, bS]
      exact ih n (i + 4) (K + 3000) hy' hk' hi4' hn' hK' ⟨HP', HH', HT, HL, HS'⟩
    refine (if_neg e22).trans ?_
    by_cases e23 : xs (nI i).toNatClampNeg &&& 63 = (23 : Int32)
    · refine (if_pos e23).trans ?_
      obtain ⟨_, _, h1⟩ := case_C23 (xs := xs) (t := mT) (oL := oL) hi4 hL HQ
      rw [h1, bS]
      exact ih n (i + 4) (K + 3000) hy' hk' hi4' hn' hK' ⟨HP', HH', HT, HL, HS'⟩
    refine (if_neg e23).trans ?_
    by_cases e24 : xs (nI i).toNatClampNeg &&& 63 = (24 : Int32)
    · refine (if_pos e24).trans ?_
      obtain ⟨_, h1⟩ := case_C24 (t := mT) HQ
      rw [h1, bS]
      exact ih n (i + 4) (K + 3000) hy' hk' hi4' hn' hK' ⟨HP', HH', HT, HL, HS'⟩
    refine (if_neg e24).trans ?_
    by_cases e25 : xs (nI i).toNatClampNeg &&& 63 = (25 : Int32)
    · refine (if_pos e25).trans ?_
      obtain ⟨_, _, _, _, _, _, h1, q1⟩ := case_C25 (xs := xs) (t := mT) (oL := oL) hi4 hL HT
      rw [h1, bS]
      exact ih n (i + 4) (K + 3000) hy' hk' hi4' hn' hK' ⟨HP', HH', q1, HL, HS'⟩
    refine (if_neg e25).trans ?_
    by_cases e26 : xs (nI i).toNatClampNeg &&& 63 = (26 : Int32)
    · refine (if_pos e26).trans ?_
      obtain ⟨_, _, _, _, _, _, _, _, _, _, _, _, _, _, _, _, _, _, _, _, _, _, _, _, _, _, _, _, _, _, h1, q1, q2, q3, rfl, rfl, rfl, rfl⟩ := case_C26 (xF := mF) (rR := rR) (rD := rD) (tS := tS) (tQ := tQ) (tF := tF) (mQ := mQ) (mW := mW) (mF := mF) (mR := mR) (mD := mD) (mJ := mJ) (mA := mA) (mT := mT) (tP := tP) (nT := nT) (nD := nD) (oL := oL) hKb HP HH HT
      rw [h1, bS]
      exact ih n (i + 4) (K + 3000) hy' hk' hi4' hn' hK' ⟨q1, q2, q3, HL, HS'⟩
    refine (if_neg e26).trans ?_
    by_cases e27 : xs (nI i).toNatClampNeg &&& 63 = (27 : Int32)
    · refine (if_pos e27).trans ?_
      obtain ⟨_, h1⟩ := case_C27 (mF := mF) (t := mT)
      rw [h1, bS]
      exact ih n (i + 4) (K + 3000) hy' hk' hi4' hn' hK' ⟨HP', HH', HT, HL, HS'⟩
    refine (if_neg e27).trans ?_
    by_cases e28 : xs (nI i).toNatClampNeg &&& 63 = (28 : Int32)
    · refine (if_pos e28).trans ?_
      obtain ⟨_, _, h1⟩ := case_C28 (xs := xs) (mR := mR) (mD := mD) (mJ := mJ) (t := mT) (oL := oL) hi4 hL
      rw [h1, bS]
      exact ih n (i + 4) (K + 3000) hy' hk' hi4' hn' hK' ⟨HP', HH', HT, HL, HS'⟩
    refine (if_neg e28).trans ?_
    by_cases e29 : xs (nI i).toNatClampNeg &&& 63 = (29 : Int32)
    · refine (if_pos e29).trans ?_
      obtain ⟨_, _, _, _, _, _, h1, q1⟩ := case_C29 (xs := xs) (t := mT) (oL := oL) hi4 hL hKc HP HL
      rw [h1, bS]
      exact ih n (i + 4) (K + 3000) hy' hk' hi4' hn' hK' ⟨HP', HH', HT, q1, HS'⟩
    refine (if_neg e29).trans ?_
    by_cases e30 : xs (nI i).toNatClampNeg &&& 63 = (30 : Int32)
    · refine (if_pos e30).trans ?_
      obtain ⟨_, _, _, _, _, h1, q1⟩ := case_C30 (lL := lL) (mI := mI) (t := mT) (lC := lC) (nL := nL) HP
      rw [h1, bS]
      exact ih n (i + 4) (K + 3000) hy' hk' hi4' hn' hK' ⟨HP', HH', HT, q1, HS'⟩
    refine (if_neg e30).trans ?_
    by_cases e31 : xs (nI i).toNatClampNeg &&& 63 = (31 : Int32)
    · refine (if_pos e31).trans ?_
      obtain ⟨_, _, h1⟩ := case_C31 (xs := xs) (t := mT) (oL := oL) hi4 hL HL
      rw [h1, bS]
      exact ih n (i + 4) (K + 3000) hy' hk' hi4' hn' hK' ⟨HP', HH', HT, HL, HS'⟩
    refine (if_neg e31).trans ?_
    by_cases e32 : xs (nI i).toNatClampNeg &&& 63 = (32 : Int32)
    · refine (if_pos e32).trans ?_
      obtain ⟨_, _, h1⟩ := case_C32 (t := mT) (oD := oD) HQ
      rw [h1, bS]
      exact ih n (i + 4) (K + 3000) hy' hk' hi4' hn' hK' ⟨HP', HH', HT, HL, HS'⟩
    refine (if_neg e32).trans ?_
    by_cases e33 : xs (nI i).toNatClampNeg &&& 63 = (33 : Int32)
    · refine (if_pos e33).trans ?_
      obtain ⟨_, _, h1⟩ := case_C33 (t := mT) (oD := oD) HQ
      rw [h1, bS]
      exact ih n (i + 4) (K + 3000) hy' hk' hi4' hn' hK' ⟨HP', HH', HT, HL, HS'⟩
    refine (if_neg e33).trans ?_
    by_cases e34 : xs (nI i).toNatClampNeg &&& 63 = (34 : Int32)
    · refine (if_pos e34).trans ?_
      have ea : kK = mU := by
        obtain ⟨x, u, -, -, -, a1, a2, -⟩ := HH
        rw [a1, a2]
      have eb : tL = mH := by
        obtain ⟨l, -, a1, a2, -⟩ := HT
        rw [a1, a2]
      obtain ⟨_, _, h1⟩ := case_C34 (xs := xs) (mU := mU) (mH := mH) (t := mT) (oL := oL) hi4 hL HQ
      rw [ea, eb, h1, bS]
      rw [ea] at HH'
      rw [eb] at HT
      exact ih n (i + 4) (K + 3000) hy' hk' hi4' hn' hK' ⟨HP', HH', HT, HL, HS'⟩
    refine (if_neg e34).trans ?_
    by_cases e35 : xs (nI i).toNatClampNeg &&& 63 = (35 : Int32)
    · refine (if_pos e35).trans ?_
      obtain ⟨_, _, _, _, _, _, _, h1, q1, q2⟩ := case_C35 (t := mT) (oL := oL) HP HH
      rw [h1, bS]
      exact ih n (i + 4) (K + 3000) hy' hk' hi4' hn' hK' ⟨q1.mono le0, q2.mono le0, HT, HL, HS'⟩
    refine (if_neg e35).trans ?_
    by_cases e36 : xs (nI i).toNatClampNeg &&& 63 = (36 : Int32)
    · refine (if_pos e36).trans ?_
      obtain ⟨_, _, _, _, _, h1, q1⟩ := case_C36 (sN := sN) (nS := nS) (xS := xS) (mB := mB) (t := mT) HP
      rw [h1, bS]
      exact ih n (i + 4) (K + 3000) hy' hk' hi4' hn' hK' ⟨HP', HH', HT, HL, q1.mono le0⟩
    refine (if_neg e36).trans ?_
    by_cases e37 : xs (nI i).toNatClampNeg &&& 63 = (37 : Int32)
    · refine (if_pos e37).trans ?_
      obtain ⟨_, _, _, _, _, _, h1, q1, q2⟩ := case_C37 (t := mT) (oL := oL) HP HH HS
      rw [h1, bS]
      exact ih n (i + 4) (K + 3000) hy' hk' hi4' hn' hK' ⟨q1.mono le0, q2.mono le0, HT, HL, HS'⟩
    refine (if_neg e37).trans ?_
    exact ih n (i + 4) (K + 3000) hy' hk' hi4' hn' hK' ⟨HP', HH', HT, HL, HS'⟩
theorem good0 : Good (upd (fun _ => 0) 1 1000) 0 := by
  refine ⟨by decide, ?_, ⟨1000, by decide, by decide, ?_⟩, ?_, fun m hm => absurd hm (Nat.not_lt_zero m)⟩
  · rw [upd_n (by decide)]
    rfl
  · rw [upd_s]
    rfl
  · rw [upd_n (by decide), upd_n (by decide), upd_n (by decide), sumC]
    rfl
theorem pb0 : PB 0 (upd (fun _ => 0) 1 1000) (upd (fun _ => 0) 1 1000) := by
  refine ⟨⟨0, good0, fun i hi => rfl, fun m hm => absurd hm (Nat.not_lt_zero m), fun m hm => absurd hm (Nat.not_lt_zero m)⟩, fun c hc e => ?_⟩
  rw [upd_n (by decide)] at e
  have e' : 0 = c := nI_of_lt (a := 0) (b := c) e (by decide) (by omega)
  subst e'
  refine ⟨0, ?_, by rw [sumN]; decide, fun m hm => absurd hm (Nat.not_lt_zero m)⟩
  rw [upd_n (by decide)]
  rfl
theorem inv0 : Inv 0 0 0 0 0 0 0 0 0 0 (upd (fun _ => 0) 1 1000) (fun _ => 0) (fun _ => 0) (fun _ => 0) (fun _ => 0) (upd (fun _ => 0) 1 1000) (fun _ => 0) (fun _ => 0) (fun _ => 0) (fun _ => 0) :=
  ⟨pb0, ⟨0, 0, by decide, by decide, rfl, rfl, rfl, fun j hj => absurd hj (Nat.not_lt_zero j)⟩, ⟨0, by decide, rfl, rfl, fun j hj => absurd hj (Nat.not_lt_zero j)⟩, ⟨0, by decide, rfl, rfl, fun j hj => absurd hj (Nat.not_lt_zero j)⟩, rfl, Or.inl rfl⟩
theorem pure_law (L : Nat) (xs : Nat → Int32) (hL : L ≤ 2048) : f_law0 L xs = some () := by
  rw [f_law0]
  exact law_l hL 520 FU 0 0 rfl (by omega) (by decide) (by rw [FU]; decide) (by decide) inv0
