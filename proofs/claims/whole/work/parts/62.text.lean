/-! ===== pure: the text, the line's characters ===== -/
theorem okc {q : Nat} (h : q < 65536) : okN .char (nI q) = true := decide_eq_true (pk_charN h)
theorem vnc {q : Nat} (h : q < 65536) : vp_nar .char (nI q) = nI q := by
  rw [vp_nar, (pk_charN h).1]
def Txt (tL : Int32) (tC : Nat → Int32) (mH : Int32) (nX : Nat → Int32) : Prop :=
  ∃ l, l ≤ 60 ∧ tL = nI l ∧ mH = nI l ∧ ∀ j, j < l → tC j = nX j ∧ ∃ q, q < 65536 ∧ tC j = nI q
def Lin (lL : Int32) (lC : Nat → Int32) (mI : Int32) (nL : Nat → Int32) : Prop :=
  ∃ l, l ≤ 32 ∧ lL = nI l ∧ mI = nI l ∧ ∀ j, j < l → lC j = nL j ∧ ∃ q, q < 65536 ∧ lC j = nI q
theorem case_C25 {L i : Nat} {xs : Nat → Int32} {tL mH t : Int32} {tC nX : Nat → Int32} {oL : Nat → Int64} (hi : i + 4 ≤ L) (hL : L ≤ 2048) (H : Txt tL tC mH nX) :
    ∃ tL' tC' mH' t' nX' oL', f_law_C25 L xs (nI i) tL tC mH t nX oL = some (tL', tC', mH', t', nX', oL') ∧ Txt tL' tC' mH' nX' := by
  obtain ⟨l, hl, rfl, rfl, h⟩ := H
  have hq : (xs (nI i + (1 : Int32)).toNatClampNeg).toBitVec.toNat % 65536 < 65536 := Nat.mod_lt _ (by decide)
  have hp := pk_char (xs (nI i + (1 : Int32)).toNatClampNeg)
  generalize (xs (nI i + (1 : Int32)).toNatClampNeg).toBitVec.toNat % 65536 = q at hq hp
  by_cases e : l = 60
  · subst e
    refine ⟨nI 60, tC, nI 60, 1, nX, oL, ?_, ⟨60, hl, rfl, rfl, h⟩⟩
    rw [f_law_C25, cT (in1 hi hL), f_L_append, f_X7_append, f_X1_isFull, if_neg (show ¬ nI 60 < 60 by decide), bS, if_neg (by decide), bS, if_neg (show ¬ (4 : Nat) = 0 by decide), if_pos rfl, bS, cT (in1 hi hL), f_X8_append, if_pos (show nI 60 = 60 from rfl), f_X8_raises, bS, bS, f_X8_thrown, bS, if_pos rfl, if_neg n10]
  · have n60 : ¬ nI l = 60 := fun e' => e (nI_of_lt (b := 60) e' (by omega) (by decide))
    refine ⟨nI (l + 1), upd tC l (nI q), nI (l + 1), 0, upd nX l (nI q), vp_updL oL (0 : Int32).toNatClampNeg (nI (l + 1)).toInt64, ?_, ⟨l + 1, by omega, rfl, rfl, fun j hj => ?_⟩⟩
    · rw [f_law_C25, cT (in1 hi hL), f_L_append, f_X7_append, f_X1_isFull, if_pos (show nI l < 60 from nI_lt (b := 60) (by omega) (by decide)), bS, if_pos rfl, f_X1_add, if_neg (nI_pos (by omega)), if_neg (show ¬ (60 : Int32) ≤ nI l from nI_ge (b := 60) (by omega) (by decide)), cT (inB_n (by omega) (by decide)), bS, f_X1_length, bS, bS, if_pos rfl, bS, cT (in1 hi hL), f_X8_append, if_neg n60, cT (inB_n (by omega) (by decide)), bS, f_X8_thrown, bS, if_pos rfl, if_pos rfl, hp, vnc hq, nI_clamp (show l < 2 ^ 31 by omega), nI_1, if_pos lgu]
    · by_cases e2 : j = l
      · subst e2
        rw [upd_s, upd_s]
        exact ⟨rfl, q, hq, rfl⟩
      · rw [upd_n e2, upd_n e2]
        exact h j (by omega)
theorem case_C31 {L i : Nat} {xs : Nat → Int32} {lL mI t : Int32} {lC nL : Nat → Int32} {oL : Nat → Int64} (hi : i + 4 ≤ L) (hL : L ≤ 2048) (H : Lin lL lC mI nL) :
    ∃ t' oL', f_law_C31 L xs (nI i) lL lC mI t nL oL = some (t', oL') := by
  obtain ⟨l, hl, rfl, rfl, h⟩ := H
  have hlt : ∀ m, l ≤ m → m < 2 ^ 31 → nI l - 1 < nI m := fun m h1 h2 => by
    rw [Int32.lt_iff_toInt_lt, show (nI l - 1).toInt = (l : Int) - 1 from sub_int (a := 1) (b := l) (by decide) (by omega), nI_toInt h2]
    omega
  have key : (∃ q, q < 65536 ∧ f_X7_character (nI l) lC (xs (nI i + (1 : Int32)).toNatClampNeg) = some (0, nI q, ()) ∧ f_X8_character (nI l) t nL (xs (nI i + (1 : Int32)).toNatClampNeg) = some (nI q, 0)) ∨ (f_X7_character (nI l) lC (xs (nI i + (1 : Int32)).toNatClampNeg) = some (1, 0, ()) ∧ f_X8_character (nI l) t nL (xs (nI i + (1 : Int32)).toNatClampNeg) = some (97, 1)) := by
    generalize xs (nI i + (1 : Int32)).toNatClampNeg = p
    by_cases h0 : p < 0
    · refine Or.inr ⟨?_, ?_⟩
      · rw [f_X7_character, if_pos h0]
      · rw [f_X8_character, x8_inN (Or.inl h0), bS, if_pos rfl]
    · obtain ⟨j, hj, rfl⟩ := nI_of h0
      by_cases hjl : j < l
      · obtain ⟨e1, q, hq, e2⟩ := h j hjl
        refine Or.inl ⟨q, hq, ?_, ?_⟩
        · rw [f_X7_character, if_neg h0, f_X4_length, bS, if_pos (nI_lt hjl (by omega)), f_X4_at, if_neg h0, if_neg (show ¬ (32 : Int32) ≤ nI j from nI_ge (b := 32) (by omega) (by decide)), cT (inB_n (by omega) (by decide)), nI_clamp hj, e2, cT (okc hq), bS, cT (okc hq)]
        · rw [f_X8_character, x8_inY h0 (by rw [Int32.lt_iff_toInt_lt, show (nI l - 1).toInt = (l : Int) - 1 from sub_int (a := 1) (b := l) (by decide) (by omega), nI_toInt hj]; omega), bS, if_neg (by decide), cT (inB_n (by omega) (by decide)), nI_clamp hj, ← e1, e2, cT (okc hq)]
      · refine Or.inr ⟨?_, ?_⟩
        · rw [f_X7_character, if_neg h0, f_X4_length, bS, if_neg (nI_nlt (by omega) (by omega))]
        · rw [f_X8_character, x8_inN (Or.inr (hlt j (by omega) hj)), bS, if_pos rfl]
  rcases key with ⟨q, hq, h1, h2⟩ | ⟨h1, h2⟩
  · exact ⟨0, vp_updL oL (0 : Int32).toNatClampNeg (nI q).toInt64, by rw [f_law_C31, cT (in1 hi hL), f_L_character, h1, bS, if_pos rfl, bS, cT (in1 hi hL), h2, bS, f_X8_thrown, bS, if_pos rfl, if_pos rfl, if_pos lgu]⟩
  · exact ⟨1, oL, by rw [f_law_C31, cT (in1 hi hL), f_L_character, h1, bS, if_neg n1N, if_pos rfl, bS, cT (in1 hi hL), h2, bS, f_X8_thrown, bS, if_pos rfl, if_neg n10]⟩
