set_option maxHeartbeats 8000000 in
set_option maxRecDepth 100000 in
theorem law_loop {p : Program} {l : Launch} {e : Env} {s : State} {m : MethodId} {below : List Frame} {meth : Method} {c : Code} {b L : Nat} {xs : Nat → Int32} {D : va_G} {K : Nat → ClassId} (C0 : lawC p l s m meth c b L xs D K) (aX : Nat) (aC : Nat) (aCr : Nat) (aR : Nat) (aH : Nat) (aHr : Nat) (aT : Nat) (aTc : Nat) (aTp : Nat) (aL : Nat) (aLc : Nat) (aS : Nat) (aM : Nat) (aMn : Nat) (aMt : Nat) (aMk : Nat) (aMs : Nat) (aMl : Nat) (aMx : Nat) (aMd : Nat) (aO : Nat) (aP : Nat) : ∀ (n : Nat) (y5 : Int32) (xS : Int32) (xF : Int32) (xR : Int32) (xD : Int32) (xC : Int32) (row : Nat → Int32) (rR : Int32) (rD : Int32) (kN : Int32) (kK : Int32) (kF : Nat → Int32) (tL : Int32) (tS : Int32) (tQ : Int32) (tF : Int32) (tC : Nat → Int32) (tP : Nat → Int32) (lL : Int32) (lC : Nat → Int32) (sN : Nat → Int32) (mU : Int32) (mB : Int32) (mI : Int32) (mH : Int32) (mQ : Int32) (mW : Int32) (mF : Int32) (mR : Int32) (mD : Int32) (mJ : Int32) (mA : Int32) (mT : Int32) (nN : Nat → Int32) (nT : Nat → Int32) (nK : Nat → Int32) (nS : Nat → Int32) (nL : Nat → Int32) (nX : Nat → Int32) (nD : Nat → Int32) (oL : Nat → Int64) (oD : Nat → UInt64), f_law_L L xs n y5 xS xF xR xD xC row rR rD kN kK kF tL tS tQ tF tC tP lL lC sN mU mB mI mH mQ mW mF mR mD mJ mA mT nN nT nK nS nL nX nD oL oD = some () → ∀ (k j : Nat), k + 2 * n ≤ 10000 → j + 12 * n ≤ 90000 → ∀ (H : Heap) (locs : List Loc), va_P D vwC7 [(aX, .inr (5, [.ref aC, .ref aR, .ref aH, .ref aT, .ref aL, .ref aS, .int xS, .int xF, .int xR, .int xD, .int xC])), (aC, .inr (0, [.ref aCr])), (aCr, .inl (K 0, 55, .inl row)), (aR, .inr (4, [.int rR, .int rD])), (aH, .inr (2, [.ref aHr, .int kN, .int kK])), (aHr, .inl (K 1, 495, .inl kF)), (aT, .inr (1, [.ref aTc, .ref aTp, .int tL, .int tS, .int tQ, .int tF])), (aTc, .inl (K 2, 60, .inl tC)), (aTp, .inl (K 3, 240, .inl tP)), (aL, .inr (3, [.ref aLc, .int lL])), (aLc, .inl (K 4, 32, .inl lC)), (aS, .inl (K 5, 55, .inl sN)), (aM, .inr (6, [.ref aMn, .ref aMt, .ref aMk, .int mU, .ref aMs, .int mB, .ref aMl, .int mI, .ref aMx, .int mH, .int mQ, .int mW, .ref aMd, .int mF, .int mR, .int mD, .int mJ, .int mA, .int mT])), (aMn, .inl (K 6, 55, .inl nN)), (aMt, .inl (K 7, 55, .inl nT)), (aMk, .inl (K 8, 440, .inl nK)), (aMs, .inl (K 9, 55, .inl nS)), (aMl, .inl (K 10, 60, .inl nL)), (aMx, .inl (K 11, 60, .inl nX)), (aMd, .inl (K 12, 3, .inl nD)), (aO, .inl (K 13, 1, .inr (.inl oL))), (aP, .inl (K 14, 1, .inr (.inr (.inr (.inl oD)))))] H → va_D (fun q : Nat => s.heap.size ≤ q) [(aX, .inr (5, [.ref aC, .ref aR, .ref aH, .ref aT, .ref aL, .ref aS, .int xS, .int xF, .int xR, .int xD, .int xC])), (aC, .inr (0, [.ref aCr])), (aCr, .inl (K 0, 55, .inl row)), (aR, .inr (4, [.int rR, .int rD])), (aH, .inr (2, [.ref aHr, .int kN, .int kK])), (aHr, .inl (K 1, 495, .inl kF)), (aT, .inr (1, [.ref aTc, .ref aTp, .int tL, .int tS, .int tQ, .int tF])), (aTc, .inl (K 2, 60, .inl tC)), (aTp, .inl (K 3, 240, .inl tP)), (aL, .inr (3, [.ref aLc, .int lL])), (aLc, .inl (K 4, 32, .inl lC)), (aS, .inl (K 5, 55, .inl sN)), (aM, .inr (6, [.ref aMn, .ref aMt, .ref aMk, .int mU, .ref aMs, .int mB, .ref aMl, .int mI, .ref aMx, .int mH, .int mQ, .int mW, .ref aMd, .int mF, .int mR, .int mD, .int mJ, .int mA, .int mT])), (aMn, .inl (K 6, 55, .inl nN)), (aMt, .inl (K 7, 55, .inl nT)), (aMk, .inl (K 8, 440, .inl nK)), (aMs, .inl (K 9, 55, .inl nS)), (aMl, .inl (K 10, 60, .inl nL)), (aMx, .inl (K 11, 60, .inl nX)), (aMd, .inl (K 12, 3, .inl nD)), (aO, .inl (K 13, 1, .inr (.inl oL))), (aP, .inl (K 14, 1, .inr (.inr (.inr (.inl oD)))))] → va_S (fun q : Nat => s.heap.size ≤ q) s.heap H locs → ∀ ls : Array Slot, lv_has ls 9 [(0, .ref b), (1, .ref aX), (2, .ref aM), (3, .ref aO), (4, .ref aP), (5, .int y5)] → W p l e room_1 s m #[Value.ref b] below meth c H locs k j (lw_Z below #[Value.ref b] s) (F0 m 28 ls []) := by
  intro n
  induction n with
  | zero =>
    intro y5 xS xF xR xD xC row rR rD kN kK kF tL tS tQ tF tC tP lL lC sN mU mB mI mH mQ mW mF mR mD mJ mA mT nN nT nK nS nL nX nD oL oD hF
    exact nomatch hF
  | succ n ih =>
    intro y5 xS xF xR xD xC row rR rD kN kK kF tL tS tQ tF tC tP lL lC sN mU mB mI mH mQ mW mF mR mD mJ mA mT nN nT nK nS nL nX nD oL oD hF k j hk hj H locs hP hD hS ls hl
    obtain ⟨hx, hb, hr, hown, hts, hml, hlocks, hK, hE, hX, hbl, hfl⟩ := id C0
    have hA : ∀ q : Nat, s.heap.size ≤ q → (fun q : Nat => s.heap.size ≤ q) q := fun _ h => h
    have hbA : ¬ (fun q : Nat => s.heap.size ≤ q) b := Nat.not_le.mpr hbl
    rw [f_law_L.eq_2] at hF
    refine lv_iload hx hb dL_law_28 (lv_at hl 5 rfl) ?_
    refine lv_aload_n hx hb dL_law_30 rfl (lv_at hl 0 rfl) ?_
    refine va_slen hx hb hX hbl hbA hS dL_law_31 ?_
    refine lv_iconst (v := (4 : Int32)) hx hb dL_law_32 (by decide) ?_
    refine lv_isub hx hb dL_law_33 ?_
    refine lv_icmp_gt (tgt := 2090) hx hb dL_law_34 (by decide) (fun c0 => ?_) (fun c0 => ?_)
    · refine lv_iconst (v := (1 : Int32)) hx hb dL_law_2090 (by decide) ?_
      refine va_forget (fun q hq => hS.2.2 q hq) ?_
      refine W.widen (k := 603072) (n := 7186538) (by omega) (by omega) ?_
      exact W.base (lw_ret (Drawn.sameBut.refl s.drawn lw_cs) hx hb hr hlocks dL_law_2091)
    · have hF := oF c0 hF
      obtain ⟨g0, hF⟩ := oG hF
      refine lv_aload_n hx hb dL_law_37 rfl (lv_at hl 0 rfl) ?_
      refine lv_iload hx hb dL_law_38 (lv_at hl 5 rfl) ?_
      refine va_sld hx hb hX hbl hbA hS (inB_in g0) dL_law_40 ?_
      refine lv_bipush (v := (63 : Int32)) hx hb dL_law_41 (by decide) ?_
      refine lv_iand hx hb dL_law_43 ?_
      by_cases c0_ : xs y5.toNatClampNeg &&& 63 = (0 : Int32)
      · have hF := oT c0_ hF
        obtain ⟨u, hu, hF⟩ := oB hF
        refine lv_tableIn (off := 168) (tgt := 212) hx hb dL_law_44 (by rw [c0_]; decide) (by rw [c0_]; decide) (by rw [c0_]; rfl) (by decide) ?_
        refine law_C0 C0 aX aC aCr aR aH aHr aT aTc aTp aL aLc aS aM aMn aMt aMk aMs aMl aMx aMd aO aP xS xF xR xD xC row rR rD kN kK kF tL tS tQ tF tC tP lL lC sN mU mB mI mH mQ mW mF mR mD mJ mA mT nN nT nK nS nL nX nD oL oD y5 u hu k j (by omega) (by omega) H locs hP hD hS ls hl (fun H locs hP hD hS ls hl => ?_)
        refine lv_iinc (v := y5 + (4 : Int32)) (lv' := [(5, .int (y5 + (4 : Int32))), (0, .ref b), (1, .ref aX), (2, .ref aM), (3, .ref aO), (4, .ref aP)]) hx hb dL_law_2084 hl (k := 5) rfl (by first | rfl | decide) (by decide) rfl (fun ls hl => ?_)
        refine lv_goto (tgt := 28) hx hb dL_law_2087 (by decide) ?_
        exact ih (y5 + (4 : Int32)) xS xF u.1 u.2.1 u.2.2.1 u.2.2.2.1 u.2.2.2.2.1 u.2.2.2.2.2.1 u.2.2.2.2.2.2.1 u.2.2.2.2.2.2.2.1 u.2.2.2.2.2.2.2.2.1 tL tS tQ tF tC tP lL lC sN u.2.2.2.2.2.2.2.2.2.1 mB mI mH mQ mW mF u.2.2.2.2.2.2.2.2.2.2.1 u.2.2.2.2.2.2.2.2.2.2.2.1 u.2.2.2.2.2.2.2.2.2.2.2.2.1 u.2.2.2.2.2.2.2.2.2.2.2.2.2.1 u.2.2.2.2.2.2.2.2.2.2.2.2.2.2.1 u.2.2.2.2.2.2.2.2.2.2.2.2.2.2.2.1 u.2.2.2.2.2.2.2.2.2.2.2.2.2.2.2.2.1 u.2.2.2.2.2.2.2.2.2.2.2.2.2.2.2.2.2.1 nS nL nX nD u.2.2.2.2.2.2.2.2.2.2.2.2.2.2.2.2.2.2 oD hF (k + 1) (j + 6) (by omega) (by omega) _ _ hP hD hS _ (lv_sub hl [1, 2, 3, 4, 5, 0] rfl)
      have hF := oF c0_ hF
      by_cases c1_ : xs y5.toNatClampNeg &&& 63 = (1 : Int32)
      · have hF := oT c1_ hF
        obtain ⟨u, hu, hF⟩ := oB hF
        refine lv_tableIn (off := 224) (tgt := 268) hx hb dL_law_44 (by rw [c1_]; decide) (by rw [c1_]; decide) (by rw [c1_]; rfl) (by decide) ?_
        refine law_C1 C0 aX aC aCr aR aH aHr aT aTc aTp aL aLc aS aM aMn aMt aMk aMs aMl aMx aMd aO aP xS xF xR xD xC row rR rD kN kK kF tL tS tQ tF tC tP lL lC sN mU mB mI mH mQ mW mF mR mD mJ mA mT nN nT nK nS nL nX nD oL oD y5 u hu k j (by omega) (by omega) H locs hP hD hS ls hl (fun H locs hP hD hS ls hl => ?_)
        refine lv_iinc (v := y5 + (4 : Int32)) (lv' := [(5, .int (y5 + (4 : Int32))), (0, .ref b), (1, .ref aX), (2, .ref aM), (3, .ref aO), (4, .ref aP)]) hx hb dL_law_2084 hl (k := 5) rfl (by first | rfl | decide) (by decide) rfl (fun ls hl => ?_)
        refine lv_goto (tgt := 28) hx hb dL_law_2087 (by decide) ?_
        exact ih (y5 + (4 : Int32)) xS xF u.1 u.2.1 u.2.2.1 u.2.2.2.1 u.2.2.2.2.1 u.2.2.2.2.2.1 u.2.2.2.2.2.2.1 u.2.2.2.2.2.2.2.1 u.2.2.2.2.2.2.2.2.1 tL tS tQ tF tC tP lL lC sN u.2.2.2.2.2.2.2.2.2.1 mB mI mH mQ mW mF u.2.2.2.2.2.2.2.2.2.2.1 u.2.2.2.2.2.2.2.2.2.2.2.1 u.2.2.2.2.2.2.2.2.2.2.2.2.1 u.2.2.2.2.2.2.2.2.2.2.2.2.2.1 u.2.2.2.2.2.2.2.2.2.2.2.2.2.2.1 u.2.2.2.2.2.2.2.2.2.2.2.2.2.2.2.1 u.2.2.2.2.2.2.2.2.2.2.2.2.2.2.2.2.1 u.2.2.2.2.2.2.2.2.2.2.2.2.2.2.2.2.2.1 nS nL nX nD u.2.2.2.2.2.2.2.2.2.2.2.2.2.2.2.2.2.2 oD hF (k + 1) (j + 6) (by omega) (by omega) _ _ hP hD hS _ (lv_sub hl [1, 2, 3, 4, 5, 0] rfl)
      have hF := oF c1_ hF
      by_cases c2_ : xs y5.toNatClampNeg &&& 63 = (2 : Int32)
      · have hF := oT c2_ hF
        obtain ⟨u, hu, hF⟩ := oB hF
        refine lv_tableIn (off := 280) (tgt := 324) hx hb dL_law_44 (by rw [c2_]; decide) (by rw [c2_]; decide) (by rw [c2_]; rfl) (by decide) ?_
        refine law_C2 C0 aX aC aCr aR aH aHr aT aTc aTp aL aLc aS aM aMn aMt aMk aMs aMl aMx aMd aO aP xS xF xR xD xC row rR rD kN kK kF tL tS tQ tF tC tP lL lC sN mU mB mI mH mQ mW mF mR mD mJ mA mT nN nT nK nS nL nX nD oL oD y5 u hu k j (by omega) (by omega) H locs hP hD hS ls hl (fun H locs hP hD hS ls hl => ?_)
        refine lv_iinc (v := y5 + (4 : Int32)) (lv' := [(5, .int (y5 + (4 : Int32))), (0, .ref b), (1, .ref aX), (2, .ref aM), (3, .ref aO), (4, .ref aP)]) hx hb dL_law_2084 hl (k := 5) rfl (by first | rfl | decide) (by decide) rfl (fun ls hl => ?_)
        refine lv_goto (tgt := 28) hx hb dL_law_2087 (by decide) ?_
        exact ih (y5 + (4 : Int32)) xS xF u.1 u.2.1 u.2.2.1 u.2.2.2.1 u.2.2.2.2.1 u.2.2.2.2.2.1 u.2.2.2.2.2.2.1 u.2.2.2.2.2.2.2.1 u.2.2.2.2.2.2.2.2.1 tL tS tQ tF tC tP lL lC sN u.2.2.2.2.2.2.2.2.2.1 mB mI mH mQ mW mF u.2.2.2.2.2.2.2.2.2.2.1 u.2.2.2.2.2.2.2.2.2.2.2.1 u.2.2.2.2.2.2.2.2.2.2.2.2.1 u.2.2.2.2.2.2.2.2.2.2.2.2.2.1 u.2.2.2.2.2.2.2.2.2.2.2.2.2.2.1 u.2.2.2.2.2.2.2.2.2.2.2.2.2.2.2.1 u.2.2.2.2.2.2.2.2.2.2.2.2.2.2.2.2.1 u.2.2.2.2.2.2.2.2.2.2.2.2.2.2.2.2.2.1 nS nL nX nD u.2.2.2.2.2.2.2.2.2.2.2.2.2.2.2.2.2.2 oD hF (k + 1) (j + 6) (by omega) (by omega) _ _ hP hD hS _ (lv_sub hl [1, 2, 3, 4, 5, 0] rfl)
      have hF := oF c2_ hF
      by_cases c3_ : xs y5.toNatClampNeg &&& 63 = (3 : Int32)
      · have hF := oT c3_ hF
        obtain ⟨u, hu, hF⟩ := oB hF
        refine lv_tableIn (off := 348) (tgt := 392) hx hb dL_law_44 (by rw [c3_]; decide) (by rw [c3_]; decide) (by rw [c3_]; rfl) (by decide) ?_
        refine law_C3 C0 aX aC aCr aR aH aHr aT aTc aTp aL aLc aS aM aMn aMt aMk aMs aMl aMx aMd aO aP xS xF xR xD xC row rR rD kN kK kF tL tS tQ tF tC tP lL lC sN mU mB mI mH mQ mW mF mR mD mJ mA mT nN nT nK nS nL nX nD oL oD y5 u hu k j (by omega) (by omega) H locs hP hD hS ls hl (fun H locs hP hD hS ls hl => ?_)
        refine lv_iinc (v := y5 + (4 : Int32)) (lv' := [(5, .int (y5 + (4 : Int32))), (0, .ref b), (1, .ref aX), (2, .ref aM), (3, .ref aO), (4, .ref aP)]) hx hb dL_law_2084 hl (k := 5) rfl (by first | rfl | decide) (by decide) rfl (fun ls hl => ?_)
        refine lv_goto (tgt := 28) hx hb dL_law_2087 (by decide) ?_
        exact ih (y5 + (4 : Int32)) xS xF u.1 u.2.1 u.2.2.1 u.2.2.2.1 u.2.2.2.2.1 u.2.2.2.2.2.1 u.2.2.2.2.2.2.1 u.2.2.2.2.2.2.2.1 u.2.2.2.2.2.2.2.2.1 tL tS tQ tF tC tP lL lC sN u.2.2.2.2.2.2.2.2.2.1 mB mI mH mQ mW mF u.2.2.2.2.2.2.2.2.2.2.1 u.2.2.2.2.2.2.2.2.2.2.2.1 u.2.2.2.2.2.2.2.2.2.2.2.2.1 u.2.2.2.2.2.2.2.2.2.2.2.2.2.1 u.2.2.2.2.2.2.2.2.2.2.2.2.2.2.1 u.2.2.2.2.2.2.2.2.2.2.2.2.2.2.2.1 u.2.2.2.2.2.2.2.2.2.2.2.2.2.2.2.2.1 u.2.2.2.2.2.2.2.2.2.2.2.2.2.2.2.2.2.1 nS nL nX nD u.2.2.2.2.2.2.2.2.2.2.2.2.2.2.2.2.2.2 oD hF (k + 1) (j + 6) (by omega) (by omega) _ _ hP hD hS _ (lv_sub hl [1, 2, 3, 4, 5, 0] rfl)
      have hF := oF c3_ hF
      by_cases c4_ : xs y5.toNatClampNeg &&& 63 = (4 : Int32)
      · have hF := oT c4_ hF
        obtain ⟨u, hu, hF⟩ := oB hF
        refine lv_tableIn (off := 416) (tgt := 460) hx hb dL_law_44 (by rw [c4_]; decide) (by rw [c4_]; decide) (by rw [c4_]; rfl) (by decide) ?_
        refine law_C4 C0 aX aC aCr aR aH aHr aT aTc aTp aL aLc aS aM aMn aMt aMk aMs aMl aMx aMd aO aP xS xF xR xD xC row rR rD kN kK kF tL tS tQ tF tC tP lL lC sN mU mB mI mH mQ mW mF mR mD mJ mA mT nN nT nK nS nL nX nD oL oD y5 u hu k j (by omega) (by omega) H locs hP hD hS ls hl (fun H locs hP hD hS ls hl => ?_)
        refine lv_iinc (v := y5 + (4 : Int32)) (lv' := [(5, .int (y5 + (4 : Int32))), (0, .ref b), (1, .ref aX), (2, .ref aM), (3, .ref aO), (4, .ref aP)]) hx hb dL_law_2084 hl (k := 5) rfl (by first | rfl | decide) (by decide) rfl (fun ls hl => ?_)
        refine lv_goto (tgt := 28) hx hb dL_law_2087 (by decide) ?_
        exact ih (y5 + (4 : Int32)) xS xF u.1 u.2.1 u.2.2.1 u.2.2.2.1 u.2.2.2.2.1 u.2.2.2.2.2.1 u.2.2.2.2.2.2.1 u.2.2.2.2.2.2.2.1 u.2.2.2.2.2.2.2.2.1 tL tS tQ tF tC tP lL lC sN u.2.2.2.2.2.2.2.2.2.1 mB mI mH mQ mW mF u.2.2.2.2.2.2.2.2.2.2.1 u.2.2.2.2.2.2.2.2.2.2.2.1 u.2.2.2.2.2.2.2.2.2.2.2.2.1 u.2.2.2.2.2.2.2.2.2.2.2.2.2.1 u.2.2.2.2.2.2.2.2.2.2.2.2.2.2.1 u.2.2.2.2.2.2.2.2.2.2.2.2.2.2.2.1 u.2.2.2.2.2.2.2.2.2.2.2.2.2.2.2.2.1 u.2.2.2.2.2.2.2.2.2.2.2.2.2.2.2.2.2.1 nS nL nX nD u.2.2.2.2.2.2.2.2.2.2.2.2.2.2.2.2.2.2 oD hF (k + 1) (j + 6) (by omega) (by omega) _ _ hP hD hS _ (lv_sub hl [1, 2, 3, 4, 5, 0] rfl)
      have hF := oF c4_ hF
      by_cases c5_ : xs y5.toNatClampNeg &&& 63 = (5 : Int32)
      · have hF := oT c5_ hF
        obtain ⟨u, hu, hF⟩ := oB hF
        refine lv_tableIn (off := 496) (tgt := 540) hx hb dL_law_44 (by rw [c5_]; decide) (by rw [c5_]; decide) (by rw [c5_]; rfl) (by decide) ?_
        refine law_C5 C0 aX aC aCr aR aH aHr aT aTc aTp aL aLc aS aM aMn aMt aMk aMs aMl aMx aMd aO aP xS xF xR xD xC row rR rD kN kK kF tL tS tQ tF tC tP lL lC sN mU mB mI mH mQ mW mF mR mD mJ mA mT nN nT nK nS nL nX nD oL oD y5 u hu k j (by omega) (by omega) H locs hP hD hS ls hl (fun H locs hP hD hS ls hl => ?_)
        refine lv_iinc (v := y5 + (4 : Int32)) (lv' := [(5, .int (y5 + (4 : Int32))), (0, .ref b), (1, .ref aX), (2, .ref aM), (3, .ref aO), (4, .ref aP)]) hx hb dL_law_2084 hl (k := 5) rfl (by first | rfl | decide) (by decide) rfl (fun ls hl => ?_)
        refine lv_goto (tgt := 28) hx hb dL_law_2087 (by decide) ?_
        exact ih (y5 + (4 : Int32)) xS xF u.1 u.2.1 u.2.2.1 u.2.2.2.1 u.2.2.2.2.1 u.2.2.2.2.2.1 u.2.2.2.2.2.2.1 u.2.2.2.2.2.2.2.1 u.2.2.2.2.2.2.2.2.1 tL tS tQ tF tC tP lL lC sN u.2.2.2.2.2.2.2.2.2.1 mB mI mH mQ mW mF u.2.2.2.2.2.2.2.2.2.2.1 u.2.2.2.2.2.2.2.2.2.2.2.1 u.2.2.2.2.2.2.2.2.2.2.2.2.1 u.2.2.2.2.2.2.2.2.2.2.2.2.2.1 u.2.2.2.2.2.2.2.2.2.2.2.2.2.2.1 u.2.2.2.2.2.2.2.2.2.2.2.2.2.2.2.1 u.2.2.2.2.2.2.2.2.2.2.2.2.2.2.2.2.1 u.2.2.2.2.2.2.2.2.2.2.2.2.2.2.2.2.2.1 nS nL nX nD u.2.2.2.2.2.2.2.2.2.2.2.2.2.2.2.2.2.2 oD hF (k + 1) (j + 6) (by omega) (by omega) _ _ hP hD hS _ (lv_sub hl [1, 2, 3, 4, 5, 0] rfl)
      have hF := oF c5_ hF
      by_cases c6_ : xs y5.toNatClampNeg &&& 63 = (6 : Int32)
      · have hF := oT c6_ hF
        obtain ⟨u, hu, hF⟩ := oB hF
        refine lv_tableIn (off := 552) (tgt := 596) hx hb dL_law_44 (by rw [c6_]; decide) (by rw [c6_]; decide) (by rw [c6_]; rfl) (by decide) ?_
        refine law_C6 C0 aX aC aCr aR aH aHr aT aTc aTp aL aLc aS aM aMn aMt aMk aMs aMl aMx aMd aO aP xS xF xR xD xC row rR rD kN kK kF tL tS tQ tF tC tP lL lC sN mU mB mI mH mQ mW mF mR mD mJ mA mT nN nT nK nS nL nX nD oL oD y5 u hu k j (by omega) (by omega) H locs hP hD hS ls hl (fun H locs hP hD hS ls hl => ?_)
        refine lv_iinc (v := y5 + (4 : Int32)) (lv' := [(5, .int (y5 + (4 : Int32))), (0, .ref b), (1, .ref aX), (2, .ref aM), (3, .ref aO), (4, .ref aP)]) hx hb dL_law_2084 hl (k := 5) rfl (by first | rfl | decide) (by decide) rfl (fun ls hl => ?_)
        refine lv_goto (tgt := 28) hx hb dL_law_2087 (by decide) ?_
        exact ih (y5 + (4 : Int32)) xS xF u.1 u.2.1 u.2.2.1 u.2.2.2.1 u.2.2.2.2.1 u.2.2.2.2.2.1 u.2.2.2.2.2.2.1 u.2.2.2.2.2.2.2.1 u.2.2.2.2.2.2.2.2.1 tL tS tQ tF tC tP lL lC sN u.2.2.2.2.2.2.2.2.2.1 mB mI mH mQ mW mF u.2.2.2.2.2.2.2.2.2.2.1 u.2.2.2.2.2.2.2.2.2.2.2.1 u.2.2.2.2.2.2.2.2.2.2.2.2.1 u.2.2.2.2.2.2.2.2.2.2.2.2.2.1 u.2.2.2.2.2.2.2.2.2.2.2.2.2.2.1 u.2.2.2.2.2.2.2.2.2.2.2.2.2.2.2.1 u.2.2.2.2.2.2.2.2.2.2.2.2.2.2.2.2.1 u.2.2.2.2.2.2.2.2.2.2.2.2.2.2.2.2.2.1 nS nL nX nD u.2.2.2.2.2.2.2.2.2.2.2.2.2.2.2.2.2.2 oD hF (k + 1) (j + 6) (by omega) (by omega) _ _ hP hD hS _ (lv_sub hl [1, 2, 3, 4, 5, 0] rfl)
      have hF := oF c6_ hF
      by_cases c7_ : xs y5.toNatClampNeg &&& 63 = (7 : Int32)
      · have hF := oT c7_ hF
        obtain ⟨u, hu, hF⟩ := oB hF
        refine lv_tableIn (off := 608) (tgt := 652) hx hb dL_law_44 (by rw [c7_]; decide) (by rw [c7_]; decide) (by rw [c7_]; rfl) (by decide) ?_
        refine law_C7 C0 aX aC aCr aR aH aHr aT aTc aTp aL aLc aS aM aMn aMt aMk aMs aMl aMx aMd aO aP xS xF xR xD xC row rR rD kN kK kF tL tS tQ tF tC tP lL lC sN mU mB mI mH mQ mW mF mR mD mJ mA mT nN nT nK nS nL nX nD oL oD y5 u hu k j (by omega) (by omega) H locs hP hD hS ls hl (fun H locs hP hD hS ls hl => ?_)
        refine lv_iinc (v := y5 + (4 : Int32)) (lv' := [(5, .int (y5 + (4 : Int32))), (0, .ref b), (1, .ref aX), (2, .ref aM), (3, .ref aO), (4, .ref aP)]) hx hb dL_law_2084 hl (k := 5) rfl (by first | rfl | decide) (by decide) rfl (fun ls hl => ?_)
        refine lv_goto (tgt := 28) hx hb dL_law_2087 (by decide) ?_
        exact ih (y5 + (4 : Int32)) xS xF u.1 u.2.1 u.2.2.1 u.2.2.2.1 u.2.2.2.2.1 u.2.2.2.2.2.1 u.2.2.2.2.2.2.1 u.2.2.2.2.2.2.2.1 u.2.2.2.2.2.2.2.2.1 tL tS tQ tF tC tP lL lC sN u.2.2.2.2.2.2.2.2.2.1 mB mI mH mQ mW mF u.2.2.2.2.2.2.2.2.2.2.1 u.2.2.2.2.2.2.2.2.2.2.2.1 u.2.2.2.2.2.2.2.2.2.2.2.2.1 u.2.2.2.2.2.2.2.2.2.2.2.2.2.1 u.2.2.2.2.2.2.2.2.2.2.2.2.2.2.1 u.2.2.2.2.2.2.2.2.2.2.2.2.2.2.2.1 u.2.2.2.2.2.2.2.2.2.2.2.2.2.2.2.2.1 u.2.2.2.2.2.2.2.2.2.2.2.2.2.2.2.2.2.1 nS nL nX nD u.2.2.2.2.2.2.2.2.2.2.2.2.2.2.2.2.2.2 oD hF (k + 1) (j + 6) (by omega) (by omega) _ _ hP hD hS _ (lv_sub hl [1, 2, 3, 4, 5, 0] rfl)
      have hF := oF c7_ hF
      by_cases c8_ : xs y5.toNatClampNeg &&& 63 = (8 : Int32)
      · have hF := oT c8_ hF
        obtain ⟨u, hu, hF⟩ := oB hF
        refine lv_tableIn (off := 664) (tgt := 708) hx hb dL_law_44 (by rw [c8_]; decide) (by rw [c8_]; decide) (by rw [c8_]; rfl) (by decide) ?_
        refine law_C8 C0 aX aC aCr aR aH aHr aT aTc aTp aL aLc aS aM aMn aMt aMk aMs aMl aMx aMd aO aP xS xF xR xD xC row rR rD kN kK kF tL tS tQ tF tC tP lL lC sN mU mB mI mH mQ mW mF mR mD mJ mA mT nN nT nK nS nL nX nD oL oD y5 u hu k j (by omega) (by omega) H locs hP hD hS ls hl (fun H locs hP hD hS ls hl => ?_)
        refine lv_iinc (v := y5 + (4 : Int32)) (lv' := [(5, .int (y5 + (4 : Int32))), (0, .ref b), (1, .ref aX), (2, .ref aM), (3, .ref aO), (4, .ref aP)]) hx hb dL_law_2084 hl (k := 5) rfl (by first | rfl | decide) (by decide) rfl (fun ls hl => ?_)
        refine lv_goto (tgt := 28) hx hb dL_law_2087 (by decide) ?_
        exact ih (y5 + (4 : Int32)) xS xF u.1 u.2.1 u.2.2.1 u.2.2.2.1 u.2.2.2.2.1 u.2.2.2.2.2.1 u.2.2.2.2.2.2.1 u.2.2.2.2.2.2.2.1 u.2.2.2.2.2.2.2.2.1 tL tS tQ tF tC tP lL lC sN u.2.2.2.2.2.2.2.2.2.1 mB mI mH mQ mW mF u.2.2.2.2.2.2.2.2.2.2.1 u.2.2.2.2.2.2.2.2.2.2.2.1 u.2.2.2.2.2.2.2.2.2.2.2.2.1 u.2.2.2.2.2.2.2.2.2.2.2.2.2.1 u.2.2.2.2.2.2.2.2.2.2.2.2.2.2.1 u.2.2.2.2.2.2.2.2.2.2.2.2.2.2.2.1 u.2.2.2.2.2.2.2.2.2.2.2.2.2.2.2.2.1 u.2.2.2.2.2.2.2.2.2.2.2.2.2.2.2.2.2.1 nS nL nX nD u.2.2.2.2.2.2.2.2.2.2.2.2.2.2.2.2.2.2 oD hF (k + 1) (j + 6) (by omega) (by omega) _ _ hP hD hS _ (lv_sub hl [1, 2, 3, 4, 5, 0] rfl)
      have hF := oF c8_ hF
      by_cases c9_ : xs y5.toNatClampNeg &&& 63 = (9 : Int32)
      · have hF := oT c9_ hF
        obtain ⟨u, hu, hF⟩ := oB hF
        refine lv_tableIn (off := 720) (tgt := 764) hx hb dL_law_44 (by rw [c9_]; decide) (by rw [c9_]; decide) (by rw [c9_]; rfl) (by decide) ?_
        refine law_C9 C0 aX aC aCr aR aH aHr aT aTc aTp aL aLc aS aM aMn aMt aMk aMs aMl aMx aMd aO aP xS xF xR xD xC row rR rD kN kK kF tL tS tQ tF tC tP lL lC sN mU mB mI mH mQ mW mF mR mD mJ mA mT nN nT nK nS nL nX nD oL oD y5 u hu k j (by omega) (by omega) H locs hP hD hS ls hl (fun H locs hP hD hS ls hl => ?_)
        refine lv_iinc (v := y5 + (4 : Int32)) (lv' := [(5, .int (y5 + (4 : Int32))), (0, .ref b), (1, .ref aX), (2, .ref aM), (3, .ref aO), (4, .ref aP)]) hx hb dL_law_2084 hl (k := 5) rfl (by first | rfl | decide) (by decide) rfl (fun ls hl => ?_)
        refine lv_goto (tgt := 28) hx hb dL_law_2087 (by decide) ?_
        exact ih (y5 + (4 : Int32)) xS xF u.1 u.2.1 u.2.2.1 u.2.2.2.1 u.2.2.2.2.1 u.2.2.2.2.2.1 u.2.2.2.2.2.2.1 u.2.2.2.2.2.2.2.1 u.2.2.2.2.2.2.2.2.1 tL tS tQ tF tC tP lL lC sN u.2.2.2.2.2.2.2.2.2.1 mB mI mH mQ mW mF u.2.2.2.2.2.2.2.2.2.2.1 u.2.2.2.2.2.2.2.2.2.2.2.1 u.2.2.2.2.2.2.2.2.2.2.2.2.1 u.2.2.2.2.2.2.2.2.2.2.2.2.2.1 u.2.2.2.2.2.2.2.2.2.2.2.2.2.2.1 u.2.2.2.2.2.2.2.2.2.2.2.2.2.2.2.1 u.2.2.2.2.2.2.2.2.2.2.2.2.2.2.2.2.1 u.2.2.2.2.2.2.2.2.2.2.2.2.2.2.2.2.2.1 nS nL nX nD u.2.2.2.2.2.2.2.2.2.2.2.2.2.2.2.2.2.2 oD hF (k + 1) (j + 6) (by omega) (by omega) _ _ hP hD hS _ (lv_sub hl [1, 2, 3, 4, 5, 0] rfl)
      have hF := oF c9_ hF
      by_cases c10_ : xs y5.toNatClampNeg &&& 63 = (10 : Int32)
      · have hF := oT c10_ hF
        obtain ⟨u, hu, hF⟩ := oB hF
        refine lv_tableIn (off := 764) (tgt := 808) hx hb dL_law_44 (by rw [c10_]; decide) (by rw [c10_]; decide) (by rw [c10_]; rfl) (by decide) ?_
        refine law_C10 C0 aX aC aCr aR aH aHr aT aTc aTp aL aLc aS aM aMn aMt aMk aMs aMl aMx aMd aO aP xS xF xR xD xC row rR rD kN kK kF tL tS tQ tF tC tP lL lC sN mU mB mI mH mQ mW mF mR mD mJ mA mT nN nT nK nS nL nX nD oL oD y5 u hu k j (by omega) (by omega) H locs hP hD hS ls hl (fun H locs hP hD hS ls hl => ?_)
        refine lv_iinc (v := y5 + (4 : Int32)) (lv' := [(5, .int (y5 + (4 : Int32))), (0, .ref b), (1, .ref aX), (2, .ref aM), (3, .ref aO), (4, .ref aP)]) hx hb dL_law_2084 hl (k := 5) rfl (by first | rfl | decide) (by decide) rfl (fun ls hl => ?_)
        refine lv_goto (tgt := 28) hx hb dL_law_2087 (by decide) ?_
        exact ih (y5 + (4 : Int32)) xS xF xR xD xC row rR rD kN kK kF tL tS tQ tF tC tP lL lC sN mU mB mI mH mQ mW mF mR mD mJ mA u.1 nN nT nK nS nL nX nD u.2 oD hF (k + 2) (j + 12) (by omega) (by omega) _ _ hP hD hS _ (lv_sub hl [1, 2, 3, 4, 5, 0] rfl)
      have hF := oF c10_ hF
      by_cases c11_ : xs y5.toNatClampNeg &&& 63 = (11 : Int32)
      · have hF := oT c11_ hF
        obtain ⟨u, hu, hF⟩ := oB hF
        refine lv_tableIn (off := 832) (tgt := 876) hx hb dL_law_44 (by rw [c11_]; decide) (by rw [c11_]; decide) (by rw [c11_]; rfl) (by decide) ?_
        refine law_C11 C0 aX aC aCr aR aH aHr aT aTc aTp aL aLc aS aM aMn aMt aMk aMs aMl aMx aMd aO aP xS xF xR xD xC row rR rD kN kK kF tL tS tQ tF tC tP lL lC sN mU mB mI mH mQ mW mF mR mD mJ mA mT nN nT nK nS nL nX nD oL oD y5 u hu k j (by omega) (by omega) H locs hP hD hS ls hl (fun H locs hP hD hS ls hl => ?_)
        refine lv_iinc (v := y5 + (4 : Int32)) (lv' := [(5, .int (y5 + (4 : Int32))), (0, .ref b), (1, .ref aX), (2, .ref aM), (3, .ref aO), (4, .ref aP)]) hx hb dL_law_2084 hl (k := 5) rfl (by first | rfl | decide) (by decide) rfl (fun ls hl => ?_)
        refine lv_goto (tgt := 28) hx hb dL_law_2087 (by decide) ?_
        exact ih (y5 + (4 : Int32)) xS xF xR xD xC row rR rD kN kK kF tL tS tQ tF tC tP lL lC sN mU mB mI mH mQ mW mF mR mD mJ mA u.1 nN nT nK nS nL nX nD u.2 oD hF (k + 1) (j + 6) (by omega) (by omega) _ _ hP hD hS _ (lv_sub hl [1, 2, 3, 4, 5, 0] rfl)
      have hF := oF c11_ hF
      by_cases c12_ : xs y5.toNatClampNeg &&& 63 = (12 : Int32)
      · have hF := oT c12_ hF
        obtain ⟨u, hu, hF⟩ := oB hF
        refine lv_tableIn (off := 888) (tgt := 932) hx hb dL_law_44 (by rw [c12_]; decide) (by rw [c12_]; decide) (by rw [c12_]; rfl) (by decide) ?_
        refine law_C12 C0 aX aC aCr aR aH aHr aT aTc aTp aL aLc aS aM aMn aMt aMk aMs aMl aMx aMd aO aP xS xF xR xD xC row rR rD kN kK kF tL tS tQ tF tC tP lL lC sN mU mB mI mH mQ mW mF mR mD mJ mA mT nN nT nK nS nL nX nD oL oD y5 u hu k j (by omega) (by omega) H locs hP hD hS ls hl (fun H locs hP hD hS ls hl => ?_)
        refine lv_iinc (v := y5 + (4 : Int32)) (lv' := [(5, .int (y5 + (4 : Int32))), (0, .ref b), (1, .ref aX), (2, .ref aM), (3, .ref aO), (4, .ref aP)]) hx hb dL_law_2084 hl (k := 5) rfl (by first | rfl | decide) (by decide) rfl (fun ls hl => ?_)
        refine lv_goto (tgt := 28) hx hb dL_law_2087 (by decide) ?_
        exact ih (y5 + (4 : Int32)) xS xF xR xD xC row rR rD kN kK kF tL tS tQ tF tC tP lL lC sN mU mB mI mH mQ mW mF mR mD mJ mA u.1 nN nT nK nS nL nX nD u.2 oD hF (k + 1) (j + 6) (by omega) (by omega) _ _ hP hD hS _ (lv_sub hl [1, 2, 3, 4, 5, 0] rfl)
      have hF := oF c12_ hF
      by_cases c13_ : xs y5.toNatClampNeg &&& 63 = (13 : Int32)
      · have hF := oT c13_ hF
        obtain ⟨u, hu, hF⟩ := oB hF
        refine lv_tableIn (off := 944) (tgt := 988) hx hb dL_law_44 (by rw [c13_]; decide) (by rw [c13_]; decide) (by rw [c13_]; rfl) (by decide) ?_
        refine law_C13 C0 aX aC aCr aR aH aHr aT aTc aTp aL aLc aS aM aMn aMt aMk aMs aMl aMx aMd aO aP xS xF xR xD xC row rR rD kN kK kF tL tS tQ tF tC tP lL lC sN mU mB mI mH mQ mW mF mR mD mJ mA mT nN nT nK nS nL nX nD oL oD y5 u hu k j (by omega) (by omega) H locs hP hD hS ls hl (fun H locs hP hD hS ls hl => ?_)
        refine lv_iinc (v := y5 + (4 : Int32)) (lv' := [(5, .int (y5 + (4 : Int32))), (0, .ref b), (1, .ref aX), (2, .ref aM), (3, .ref aO), (4, .ref aP)]) hx hb dL_law_2084 hl (k := 5) rfl (by first | rfl | decide) (by decide) rfl (fun ls hl => ?_)
        refine lv_goto (tgt := 28) hx hb dL_law_2087 (by decide) ?_
        exact ih (y5 + (4 : Int32)) xS xF xR xD xC row rR rD kN kK kF tL tS tQ tF tC tP lL lC sN mU mB mI mH mQ mW mF mR mD mJ mA u.1 nN nT nK nS nL nX nD u.2 oD hF (k + 2) (j + 12) (by omega) (by omega) _ _ hP hD hS _ (lv_sub hl [1, 2, 3, 4, 5, 0] rfl)
      have hF := oF c13_ hF
      by_cases c14_ : xs y5.toNatClampNeg &&& 63 = (14 : Int32)
      · have hF := oT c14_ hF
        obtain ⟨u, hu, hF⟩ := oB hF
        refine lv_tableIn (off := 1000) (tgt := 1044) hx hb dL_law_44 (by rw [c14_]; decide) (by rw [c14_]; decide) (by rw [c14_]; rfl) (by decide) ?_
        refine law_C14 C0 aX aC aCr aR aH aHr aT aTc aTp aL aLc aS aM aMn aMt aMk aMs aMl aMx aMd aO aP xS xF xR xD xC row rR rD kN kK kF tL tS tQ tF tC tP lL lC sN mU mB mI mH mQ mW mF mR mD mJ mA mT nN nT nK nS nL nX nD oL oD y5 u hu k j (by omega) (by omega) H locs hP hD hS ls hl (fun H locs hP hD hS ls hl => ?_)
        refine lv_iinc (v := y5 + (4 : Int32)) (lv' := [(5, .int (y5 + (4 : Int32))), (0, .ref b), (1, .ref aX), (2, .ref aM), (3, .ref aO), (4, .ref aP)]) hx hb dL_law_2084 hl (k := 5) rfl (by first | rfl | decide) (by decide) rfl (fun ls hl => ?_)
        refine lv_goto (tgt := 28) hx hb dL_law_2087 (by decide) ?_
        exact ih (y5 + (4 : Int32)) xS xF xR xD xC row rR rD kN kK kF tL tS tQ tF tC tP lL lC sN mU mB mI mH mQ mW mF mR mD mJ mA u.1 nN nT nK nS nL nX nD u.2 oD hF (k + 1) (j + 6) (by omega) (by omega) _ _ hP hD hS _ (lv_sub hl [1, 2, 3, 4, 5, 0] rfl)
      have hF := oF c14_ hF
      by_cases c15_ : xs y5.toNatClampNeg &&& 63 = (15 : Int32)
      · have hF := oT c15_ hF
        obtain ⟨u, hu, hF⟩ := oB hF
        refine lv_tableIn (off := 1056) (tgt := 1100) hx hb dL_law_44 (by rw [c15_]; decide) (by rw [c15_]; decide) (by rw [c15_]; rfl) (by decide) ?_
        refine law_C15 C0 aX aC aCr aR aH aHr aT aTc aTp aL aLc aS aM aMn aMt aMk aMs aMl aMx aMd aO aP xS xF xR xD xC row rR rD kN kK kF tL tS tQ tF tC tP lL lC sN mU mB mI mH mQ mW mF mR mD mJ mA mT nN nT nK nS nL nX nD oL oD y5 u hu k j (by omega) (by omega) H locs hP hD hS ls hl (fun H locs hP hD hS ls hl => ?_)
        refine lv_iinc (v := y5 + (4 : Int32)) (lv' := [(5, .int (y5 + (4 : Int32))), (0, .ref b), (1, .ref aX), (2, .ref aM), (3, .ref aO), (4, .ref aP)]) hx hb dL_law_2084 hl (k := 5) rfl (by first | rfl | decide) (by decide) rfl (fun ls hl => ?_)
        refine lv_goto (tgt := 28) hx hb dL_law_2087 (by decide) ?_
        exact ih (y5 + (4 : Int32)) xS xF xR xD xC row rR rD kN kK kF tL tS tQ tF tC tP lL lC sN mU mB mI mH mQ mW mF mR mD mJ mA u nN nT nK nS nL nX nD oL oD hF (k + 0) (j + 0) (by omega) (by omega) _ _ hP hD hS _ (lv_sub hl [1, 2, 3, 4, 5, 0] rfl)
      have hF := oF c15_ hF
      by_cases c16_ : xs y5.toNatClampNeg &&& 63 = (16 : Int32)
      · have hF := oT c16_ hF
        obtain ⟨u, hu, hF⟩ := oB hF
        refine lv_tableIn (off := 1069) (tgt := 1113) hx hb dL_law_44 (by rw [c16_]; decide) (by rw [c16_]; decide) (by rw [c16_]; rfl) (by decide) ?_
        refine law_C16 C0 aX aC aCr aR aH aHr aT aTc aTp aL aLc aS aM aMn aMt aMk aMs aMl aMx aMd aO aP xS xF xR xD xC row rR rD kN kK kF tL tS tQ tF tC tP lL lC sN mU mB mI mH mQ mW mF mR mD mJ mA mT nN nT nK nS nL nX nD oL oD y5 u hu k j (by omega) (by omega) H locs hP hD hS ls hl (fun H locs hP hD hS ls hl => ?_)
        refine lv_iinc (v := y5 + (4 : Int32)) (lv' := [(5, .int (y5 + (4 : Int32))), (0, .ref b), (1, .ref aX), (2, .ref aM), (3, .ref aO), (4, .ref aP)]) hx hb dL_law_2084 hl (k := 5) rfl (by first | rfl | decide) (by decide) rfl (fun ls hl => ?_)
        refine lv_goto (tgt := 28) hx hb dL_law_2087 (by decide) ?_
        exact ih (y5 + (4 : Int32)) xS xF xR xD xC row rR rD kN kK kF tL tS tQ tF tC tP lL lC sN mU mB mI mH mQ mW mF mR mD mJ mA u nN nT nK nS nL nX nD oL oD hF (k + 0) (j + 0) (by omega) (by omega) _ _ hP hD hS _ (lv_sub hl [1, 2, 3, 4, 5, 0] rfl)
      have hF := oF c16_ hF
      by_cases c17_ : xs y5.toNatClampNeg &&& 63 = (17 : Int32)
      · have hF := oT c17_ hF
        obtain ⟨u, hu, hF⟩ := oB hF
        refine lv_tableIn (off := 1082) (tgt := 1126) hx hb dL_law_44 (by rw [c17_]; decide) (by rw [c17_]; decide) (by rw [c17_]; rfl) (by decide) ?_
        refine law_C17 C0 aX aC aCr aR aH aHr aT aTc aTp aL aLc aS aM aMn aMt aMk aMs aMl aMx aMd aO aP xS xF xR xD xC row rR rD kN kK kF tL tS tQ tF tC tP lL lC sN mU mB mI mH mQ mW mF mR mD mJ mA mT nN nT nK nS nL nX nD oL oD y5 u hu k j (by omega) (by omega) H locs hP hD hS ls hl (fun H locs hP hD hS ls hl => ?_)
        refine lv_iinc (v := y5 + (4 : Int32)) (lv' := [(5, .int (y5 + (4 : Int32))), (0, .ref b), (1, .ref aX), (2, .ref aM), (3, .ref aO), (4, .ref aP)]) hx hb dL_law_2084 hl (k := 5) rfl (by first | rfl | decide) (by decide) rfl (fun ls hl => ?_)
        refine lv_goto (tgt := 28) hx hb dL_law_2087 (by decide) ?_
        exact ih (y5 + (4 : Int32)) xS xF xR xD xC row rR rD kN kK kF tL tS tQ tF tC tP lL lC sN mU mB mI mH mQ mW mF mR mD mJ mA u nN nT nK nS nL nX nD oL oD hF (k + 0) (j + 0) (by omega) (by omega) _ _ hP hD hS _ (lv_sub hl [1, 2, 3, 4, 5, 0] rfl)
      have hF := oF c17_ hF
      by_cases c18_ : xs y5.toNatClampNeg &&& 63 = (18 : Int32)
      · have hF := oT c18_ hF
        obtain ⟨u, hu, hF⟩ := oB hF
        refine lv_tableIn (off := 1095) (tgt := 1139) hx hb dL_law_44 (by rw [c18_]; decide) (by rw [c18_]; decide) (by rw [c18_]; rfl) (by decide) ?_
        refine law_C18 C0 aX aC aCr aR aH aHr aT aTc aTp aL aLc aS aM aMn aMt aMk aMs aMl aMx aMd aO aP xS xF xR xD xC row rR rD kN kK kF tL tS tQ tF tC tP lL lC sN mU mB mI mH mQ mW mF mR mD mJ mA mT nN nT nK nS nL nX nD oL oD y5 u hu k j (by omega) (by omega) H locs hP hD hS ls hl (fun H locs hP hD hS ls hl => ?_)
        refine lv_iinc (v := y5 + (4 : Int32)) (lv' := [(5, .int (y5 + (4 : Int32))), (0, .ref b), (1, .ref aX), (2, .ref aM), (3, .ref aO), (4, .ref aP)]) hx hb dL_law_2084 hl (k := 5) rfl (by first | rfl | decide) (by decide) rfl (fun ls hl => ?_)
        refine lv_goto (tgt := 28) hx hb dL_law_2087 (by decide) ?_
        exact ih (y5 + (4 : Int32)) xS xF xR xD xC row rR rD kN kK kF tL tS tQ tF tC tP lL lC sN mU mB mI mH mQ mW mF mR mD mJ mA u.1 nN nT nK nS nL nX nD u.2 oD hF (k + 1) (j + 6) (by omega) (by omega) _ _ hP hD hS _ (lv_sub hl [1, 2, 3, 4, 5, 0] rfl)
      have hF := oF c18_ hF
      by_cases c19_ : xs y5.toNatClampNeg &&& 63 = (19 : Int32)
      · have hF := oT c19_ hF
        obtain ⟨u, hu, hF⟩ := oB hF
        refine lv_tableIn (off := 1151) (tgt := 1195) hx hb dL_law_44 (by rw [c19_]; decide) (by rw [c19_]; decide) (by rw [c19_]; rfl) (by decide) ?_
        refine law_C19 C0 aX aC aCr aR aH aHr aT aTc aTp aL aLc aS aM aMn aMt aMk aMs aMl aMx aMd aO aP xS xF xR xD xC row rR rD kN kK kF tL tS tQ tF tC tP lL lC sN mU mB mI mH mQ mW mF mR mD mJ mA mT nN nT nK nS nL nX nD oL oD y5 u hu k j (by omega) (by omega) H locs hP hD hS ls hl (fun H locs hP hD hS ls hl => ?_)
        refine lv_iinc (v := y5 + (4 : Int32)) (lv' := [(5, .int (y5 + (4 : Int32))), (0, .ref b), (1, .ref aX), (2, .ref aM), (3, .ref aO), (4, .ref aP)]) hx hb dL_law_2084 hl (k := 5) rfl (by first | rfl | decide) (by decide) rfl (fun ls hl => ?_)
        refine lv_goto (tgt := 28) hx hb dL_law_2087 (by decide) ?_
        exact ih (y5 + (4 : Int32)) xS xF xR xD xC row rR rD kN kK kF tL tS tQ tF tC tP lL lC sN mU mB mI mH mQ mW mF mR mD mJ mA u.1 nN nT nK nS nL nX nD u.2 oD hF (k + 2) (j + 12) (by omega) (by omega) _ _ hP hD hS _ (lv_sub hl [1, 2, 3, 4, 5, 0] rfl)
      have hF := oF c19_ hF
      by_cases c20_ : xs y5.toNatClampNeg &&& 63 = (20 : Int32)
      · have hF := oT c20_ hF
        obtain ⟨u, hu, hF⟩ := oB hF
        refine lv_tableIn (off := 1207) (tgt := 1251) hx hb dL_law_44 (by rw [c20_]; decide) (by rw [c20_]; decide) (by rw [c20_]; rfl) (by decide) ?_
        refine law_C20 C0 aX aC aCr aR aH aHr aT aTc aTp aL aLc aS aM aMn aMt aMk aMs aMl aMx aMd aO aP xS xF xR xD xC row rR rD kN kK kF tL tS tQ tF tC tP lL lC sN mU mB mI mH mQ mW mF mR mD mJ mA mT nN nT nK nS nL nX nD oL oD y5 u hu k j (by omega) (by omega) H locs hP hD hS ls hl (fun H locs hP hD hS ls hl => ?_)
        refine lv_iinc (v := y5 + (4 : Int32)) (lv' := [(5, .int (y5 + (4 : Int32))), (0, .ref b), (1, .ref aX), (2, .ref aM), (3, .ref aO), (4, .ref aP)]) hx hb dL_law_2084 hl (k := 5) rfl (by first | rfl | decide) (by decide) rfl (fun ls hl => ?_)
        refine lv_goto (tgt := 28) hx hb dL_law_2087 (by decide) ?_
        exact ih (y5 + (4 : Int32)) xS xF xR xD xC row rR rD kN kK kF tL tS tQ tF tC tP lL lC sN mU mB mI mH mQ mW mF mR mD mJ mA u.1 nN nT nK nS nL nX nD u.2 oD hF (k + 1) (j + 6) (by omega) (by omega) _ _ hP hD hS _ (lv_sub hl [1, 2, 3, 4, 5, 0] rfl)
      have hF := oF c20_ hF
      by_cases c21_ : xs y5.toNatClampNeg &&& 63 = (21 : Int32)
      · have hF := oT c21_ hF
        obtain ⟨u, hu, hF⟩ := oB hF
        refine lv_tableIn (off := 1263) (tgt := 1307) hx hb dL_law_44 (by rw [c21_]; decide) (by rw [c21_]; decide) (by rw [c21_]; rfl) (by decide) ?_
        refine law_C21 C0 aX aC aCr aR aH aHr aT aTc aTp aL aLc aS aM aMn aMt aMk aMs aMl aMx aMd aO aP xS xF xR xD xC row rR rD kN kK kF tL tS tQ tF tC tP lL lC sN mU mB mI mH mQ mW mF mR mD mJ mA mT nN nT nK nS nL nX nD oL oD y5 u hu k j (by omega) (by omega) H locs hP hD hS ls hl (fun H locs hP hD hS ls hl => ?_)
        refine lv_iinc (v := y5 + (4 : Int32)) (lv' := [(5, .int (y5 + (4 : Int32))), (0, .ref b), (1, .ref aX), (2, .ref aM), (3, .ref aO), (4, .ref aP)]) hx hb dL_law_2084 hl (k := 5) rfl (by first | rfl | decide) (by decide) rfl (fun ls hl => ?_)
        refine lv_goto (tgt := 28) hx hb dL_law_2087 (by decide) ?_
        exact ih (y5 + (4 : Int32)) xS xF xR xD xC row rR rD kN kK kF tL tS tQ tF tC tP lL lC sN mU mB mI mH mQ mW mF mR mD mJ mA u.1 nN nT nK nS nL nX nD u.2 oD hF (k + 2) (j + 12) (by omega) (by omega) _ _ hP hD hS _ (lv_sub hl [1, 2, 3, 4, 5, 0] rfl)
      have hF := oF c21_ hF
      by_cases c22_ : xs y5.toNatClampNeg &&& 63 = (22 : Int32)
      · have hF := oT c22_ hF
        obtain ⟨u, hu, hF⟩ := oB hF
        refine lv_tableIn (off := 1319) (tgt := 1363) hx hb dL_law_44 (by rw [c22_]; decide) (by rw [c22_]; decide) (by rw [c22_]; rfl) (by decide) ?_
        refine law_C22 C0 aX aC aCr aR aH aHr aT aTc aTp aL aLc aS aM aMn aMt aMk aMs aMl aMx aMd aO aP xS xF xR xD xC row rR rD kN kK kF tL tS tQ tF tC tP lL lC sN mU mB mI mH mQ mW mF mR mD mJ mA mT nN nT nK nS nL nX nD oL oD y5 u hu k j (by omega) (by omega) H locs hP hD hS ls hl (fun H locs hP hD hS ls hl => ?_)
        refine lv_iinc (v := y5 + (4 : Int32)) (lv' := [(5, .int (y5 + (4 : Int32))), (0, .ref b), (1, .ref aX), (2, .ref aM), (3, .ref aO), (4, .ref aP)]) hx hb dL_law_2084 hl (k := 5) rfl (by first | rfl | decide) (by decide) rfl (fun ls hl => ?_)
        refine lv_goto (tgt := 28) hx hb dL_law_2087 (by decide) ?_
        exact ih (y5 + (4 : Int32)) xS xF xR xD xC row rR rD kN kK kF tL tS tQ tF tC tP lL lC sN mU mB mI mH mQ mW mF mR mD mJ mA u.1 nN nT nK nS nL nX nD u.2 oD hF (k + 1) (j + 6) (by omega) (by omega) _ _ hP hD hS _ (lv_sub hl [1, 2, 3, 4, 5, 0] rfl)
      have hF := oF c22_ hF
      by_cases c23_ : xs y5.toNatClampNeg &&& 63 = (23 : Int32)
      · have hF := oT c23_ hF
        obtain ⟨u, hu, hF⟩ := oB hF
        refine lv_tableIn (off := 1387) (tgt := 1431) hx hb dL_law_44 (by rw [c23_]; decide) (by rw [c23_]; decide) (by rw [c23_]; rfl) (by decide) ?_
        refine law_C23 C0 aX aC aCr aR aH aHr aT aTc aTp aL aLc aS aM aMn aMt aMk aMs aMl aMx aMd aO aP xS xF xR xD xC row rR rD kN kK kF tL tS tQ tF tC tP lL lC sN mU mB mI mH mQ mW mF mR mD mJ mA mT nN nT nK nS nL nX nD oL oD y5 u hu k j (by omega) (by omega) H locs hP hD hS ls hl (fun H locs hP hD hS ls hl => ?_)
        refine lv_iinc (v := y5 + (4 : Int32)) (lv' := [(5, .int (y5 + (4 : Int32))), (0, .ref b), (1, .ref aX), (2, .ref aM), (3, .ref aO), (4, .ref aP)]) hx hb dL_law_2084 hl (k := 5) rfl (by first | rfl | decide) (by decide) rfl (fun ls hl => ?_)
        refine lv_goto (tgt := 28) hx hb dL_law_2087 (by decide) ?_
        exact ih (y5 + (4 : Int32)) xS xF xR xD xC row rR rD kN kK kF tL tS tQ tF tC tP lL lC sN mU mB mI mH mQ mW mF mR mD mJ mA u.1 nN nT nK nS nL nX nD u.2 oD hF (k + 1) (j + 6) (by omega) (by omega) _ _ hP hD hS _ (lv_sub hl [1, 2, 3, 4, 5, 0] rfl)
      have hF := oF c23_ hF
      by_cases c24_ : xs y5.toNatClampNeg &&& 63 = (24 : Int32)
      · have hF := oT c24_ hF
        obtain ⟨u, hu, hF⟩ := oB hF
        refine lv_tableIn (off := 1443) (tgt := 1487) hx hb dL_law_44 (by rw [c24_]; decide) (by rw [c24_]; decide) (by rw [c24_]; rfl) (by decide) ?_
        refine law_C24 C0 aX aC aCr aR aH aHr aT aTc aTp aL aLc aS aM aMn aMt aMk aMs aMl aMx aMd aO aP xS xF xR xD xC row rR rD kN kK kF tL tS tQ tF tC tP lL lC sN mU mB mI mH mQ mW mF mR mD mJ mA mT nN nT nK nS nL nX nD oL oD y5 u hu k j (by omega) (by omega) H locs hP hD hS ls hl (fun H locs hP hD hS ls hl => ?_)
        refine lv_iinc (v := y5 + (4 : Int32)) (lv' := [(5, .int (y5 + (4 : Int32))), (0, .ref b), (1, .ref aX), (2, .ref aM), (3, .ref aO), (4, .ref aP)]) hx hb dL_law_2084 hl (k := 5) rfl (by first | rfl | decide) (by decide) rfl (fun ls hl => ?_)
        refine lv_goto (tgt := 28) hx hb dL_law_2087 (by decide) ?_
        exact ih (y5 + (4 : Int32)) xS xF xR xD xC row rR rD kN kK kF tL tS tQ tF tC tP lL lC sN mU mB mI mH mQ mW mF mR mD mJ mA u nN nT nK nS nL nX nD oL oD hF (k + 0) (j + 0) (by omega) (by omega) _ _ hP hD hS _ (lv_sub hl [1, 2, 3, 4, 5, 0] rfl)
      have hF := oF c24_ hF
      by_cases c25_ : xs y5.toNatClampNeg &&& 63 = (25 : Int32)
      · have hF := oT c25_ hF
        obtain ⟨u, hu, hF⟩ := oB hF
        refine lv_tableIn (off := 1456) (tgt := 1500) hx hb dL_law_44 (by rw [c25_]; decide) (by rw [c25_]; decide) (by rw [c25_]; rfl) (by decide) ?_
        refine law_C25 C0 aX aC aCr aR aH aHr aT aTc aTp aL aLc aS aM aMn aMt aMk aMs aMl aMx aMd aO aP xS xF xR xD xC row rR rD kN kK kF tL tS tQ tF tC tP lL lC sN mU mB mI mH mQ mW mF mR mD mJ mA mT nN nT nK nS nL nX nD oL oD y5 u hu k j (by omega) (by omega) H locs hP hD hS ls hl (fun H locs hP hD hS ls hl => ?_)
        refine lv_iinc (v := y5 + (4 : Int32)) (lv' := [(5, .int (y5 + (4 : Int32))), (0, .ref b), (1, .ref aX), (2, .ref aM), (3, .ref aO), (4, .ref aP)]) hx hb dL_law_2084 hl (k := 5) rfl (by first | rfl | decide) (by decide) rfl (fun ls hl => ?_)
        refine lv_goto (tgt := 28) hx hb dL_law_2087 (by decide) ?_
        exact ih (y5 + (4 : Int32)) xS xF xR xD xC row rR rD kN kK kF u.1 tS tQ tF u.2.1 tP lL lC sN mU mB mI u.2.2.1 mQ mW mF mR mD mJ mA u.2.2.2.1 nN nT nK nS nL u.2.2.2.2.1 nD u.2.2.2.2.2 oD hF (k + 1) (j + 6) (by omega) (by omega) _ _ hP hD hS _ (lv_sub hl [1, 2, 3, 4, 5, 0] rfl)
      have hF := oF c25_ hF
      by_cases c26_ : xs y5.toNatClampNeg &&& 63 = (26 : Int32)
      · have hF := oT c26_ hF
        obtain ⟨u, hu, hF⟩ := oB hF
        refine lv_tableIn (off := 1514) (tgt := 1558) hx hb dL_law_44 (by rw [c26_]; decide) (by rw [c26_]; decide) (by rw [c26_]; rfl) (by decide) ?_
        refine law_C26 C0 aX aC aCr aR aH aHr aT aTc aTp aL aLc aS aM aMn aMt aMk aMs aMl aMx aMd aO aP xS xF xR xD xC row rR rD kN kK kF tL tS tQ tF tC tP lL lC sN mU mB mI mH mQ mW mF mR mD mJ mA mT nN nT nK nS nL nX nD oL oD y5 u hu k j (by omega) (by omega) H locs hP hD hS ls hl (fun H locs hP hD hS ls hl => ?_)
        refine lv_iinc (v := y5 + (4 : Int32)) (lv' := [(5, .int (y5 + (4 : Int32))), (0, .ref b), (1, .ref aX), (2, .ref aM), (3, .ref aO), (4, .ref aP)]) hx hb dL_law_2084 hl (k := 5) rfl (by first | rfl | decide) (by decide) rfl (fun ls hl => ?_)
        refine lv_goto (tgt := 28) hx hb dL_law_2087 (by decide) ?_
        exact ih (y5 + (4 : Int32)) xS u.1 u.2.1 u.2.2.1 u.2.2.2.1 u.2.2.2.2.1 u.2.2.2.2.2.1 u.2.2.2.2.2.2.1 u.2.2.2.2.2.2.2.1 u.2.2.2.2.2.2.2.2.1 u.2.2.2.2.2.2.2.2.2.1 u.2.2.2.2.2.2.2.2.2.2.1 u.2.2.2.2.2.2.2.2.2.2.2.1 u.2.2.2.2.2.2.2.2.2.2.2.2.1 u.2.2.2.2.2.2.2.2.2.2.2.2.2.1 tC u.2.2.2.2.2.2.2.2.2.2.2.2.2.2.1 lL lC sN u.2.2.2.2.2.2.2.2.2.2.2.2.2.2.2.1 mB mI u.2.2.2.2.2.2.2.2.2.2.2.2.2.2.2.2.1 u.2.2.2.2.2.2.2.2.2.2.2.2.2.2.2.2.2.1 u.2.2.2.2.2.2.2.2.2.2.2.2.2.2.2.2.2.2.1 u.2.2.2.2.2.2.2.2.2.2.2.2.2.2.2.2.2.2.2.1 u.2.2.2.2.2.2.2.2.2.2.2.2.2.2.2.2.2.2.2.2.1 u.2.2.2.2.2.2.2.2.2.2.2.2.2.2.2.2.2.2.2.2.2.1 u.2.2.2.2.2.2.2.2.2.2.2.2.2.2.2.2.2.2.2.2.2.2.1 u.2.2.2.2.2.2.2.2.2.2.2.2.2.2.2.2.2.2.2.2.2.2.2.1 u.2.2.2.2.2.2.2.2.2.2.2.2.2.2.2.2.2.2.2.2.2.2.2.2.1 u.2.2.2.2.2.2.2.2.2.2.2.2.2.2.2.2.2.2.2.2.2.2.2.2.2.1 u.2.2.2.2.2.2.2.2.2.2.2.2.2.2.2.2.2.2.2.2.2.2.2.2.2.2.1 u.2.2.2.2.2.2.2.2.2.2.2.2.2.2.2.2.2.2.2.2.2.2.2.2.2.2.2.1 nS nL nX u.2.2.2.2.2.2.2.2.2.2.2.2.2.2.2.2.2.2.2.2.2.2.2.2.2.2.2.2.1 u.2.2.2.2.2.2.2.2.2.2.2.2.2.2.2.2.2.2.2.2.2.2.2.2.2.2.2.2.2 oD hF (k + 1) (j + 6) (by omega) (by omega) _ _ hP hD hS _ (lv_sub hl [1, 2, 3, 4, 5, 0] rfl)
      have hF := oF c26_ hF
      by_cases c27_ : xs y5.toNatClampNeg &&& 63 = (27 : Int32)
      · have hF := oT c27_ hF
        obtain ⟨u, hu, hF⟩ := oB hF
        refine lv_tableIn (off := 1558) (tgt := 1602) hx hb dL_law_44 (by rw [c27_]; decide) (by rw [c27_]; decide) (by rw [c27_]; rfl) (by decide) ?_
        refine law_C27 C0 aX aC aCr aR aH aHr aT aTc aTp aL aLc aS aM aMn aMt aMk aMs aMl aMx aMd aO aP xS xF xR xD xC row rR rD kN kK kF tL tS tQ tF tC tP lL lC sN mU mB mI mH mQ mW mF mR mD mJ mA mT nN nT nK nS nL nX nD oL oD y5 u hu k j (by omega) (by omega) H locs hP hD hS ls hl (fun H locs hP hD hS ls hl => ?_)
        refine lv_iinc (v := y5 + (4 : Int32)) (lv' := [(5, .int (y5 + (4 : Int32))), (0, .ref b), (1, .ref aX), (2, .ref aM), (3, .ref aO), (4, .ref aP)]) hx hb dL_law_2084 hl (k := 5) rfl (by first | rfl | decide) (by decide) rfl (fun ls hl => ?_)
        refine lv_goto (tgt := 28) hx hb dL_law_2087 (by decide) ?_
        exact ih (y5 + (4 : Int32)) xS xF xR xD xC row rR rD kN kK kF tL tS tQ tF tC tP lL lC sN mU mB mI mH mQ mW mF mR mD mJ mA u nN nT nK nS nL nX nD oL oD hF (k + 0) (j + 0) (by omega) (by omega) _ _ hP hD hS _ (lv_sub hl [1, 2, 3, 4, 5, 0] rfl)
      have hF := oF c27_ hF
      by_cases c28_ : xs y5.toNatClampNeg &&& 63 = (28 : Int32)
      · have hF := oT c28_ hF
        obtain ⟨u, hu, hF⟩ := oB hF
        refine lv_tableIn (off := 1571) (tgt := 1615) hx hb dL_law_44 (by rw [c28_]; decide) (by rw [c28_]; decide) (by rw [c28_]; rfl) (by decide) ?_
        refine law_C28 C0 aX aC aCr aR aH aHr aT aTc aTp aL aLc aS aM aMn aMt aMk aMs aMl aMx aMd aO aP xS xF xR xD xC row rR rD kN kK kF tL tS tQ tF tC tP lL lC sN mU mB mI mH mQ mW mF mR mD mJ mA mT nN nT nK nS nL nX nD oL oD y5 u hu k j (by omega) (by omega) H locs hP hD hS ls hl (fun H locs hP hD hS ls hl => ?_)
        refine lv_iinc (v := y5 + (4 : Int32)) (lv' := [(5, .int (y5 + (4 : Int32))), (0, .ref b), (1, .ref aX), (2, .ref aM), (3, .ref aO), (4, .ref aP)]) hx hb dL_law_2084 hl (k := 5) rfl (by first | rfl | decide) (by decide) rfl (fun ls hl => ?_)
        refine lv_goto (tgt := 28) hx hb dL_law_2087 (by decide) ?_
        exact ih (y5 + (4 : Int32)) xS xF xR xD xC row rR rD kN kK kF tL tS tQ tF tC tP lL lC sN mU mB mI mH mQ mW mF mR mD mJ mA u.1 nN nT nK nS nL nX nD u.2 oD hF (k + 1) (j + 6) (by omega) (by omega) _ _ hP hD hS _ (lv_sub hl [1, 2, 3, 4, 5, 0] rfl)
      have hF := oF c28_ hF
      by_cases c29_ : xs y5.toNatClampNeg &&& 63 = (29 : Int32)
      · have hF := oT c29_ hF
        obtain ⟨u, hu, hF⟩ := oB hF
        refine lv_tableIn (off := 1627) (tgt := 1671) hx hb dL_law_44 (by rw [c29_]; decide) (by rw [c29_]; decide) (by rw [c29_]; rfl) (by decide) ?_
        refine law_C29 C0 aX aC aCr aR aH aHr aT aTc aTp aL aLc aS aM aMn aMt aMk aMs aMl aMx aMd aO aP xS xF xR xD xC row rR rD kN kK kF tL tS tQ tF tC tP lL lC sN mU mB mI mH mQ mW mF mR mD mJ mA mT nN nT nK nS nL nX nD oL oD y5 u hu k j (by omega) (by omega) H locs hP hD hS ls hl (fun H locs hP hD hS ls hl => ?_)
        refine lv_iinc (v := y5 + (4 : Int32)) (lv' := [(5, .int (y5 + (4 : Int32))), (0, .ref b), (1, .ref aX), (2, .ref aM), (3, .ref aO), (4, .ref aP)]) hx hb dL_law_2084 hl (k := 5) rfl (by first | rfl | decide) (by decide) rfl (fun ls hl => ?_)
        refine lv_goto (tgt := 28) hx hb dL_law_2087 (by decide) ?_
        exact ih (y5 + (4 : Int32)) xS xF xR xD xC row rR rD kN kK kF tL tS tQ tF tC tP u.1 u.2.1 sN mU mB u.2.2.1 mH mQ mW mF mR mD mJ mA u.2.2.2.1 nN nT nK nS u.2.2.2.2.1 nX nD u.2.2.2.2.2 oD hF (k + 1) (j + 6) (by omega) (by omega) _ _ hP hD hS _ (lv_sub hl [1, 2, 3, 4, 5, 0] rfl)
      have hF := oF c29_ hF
      by_cases c30_ : xs y5.toNatClampNeg &&& 63 = (30 : Int32)
      · have hF := oT c30_ hF
        obtain ⟨u, hu, hF⟩ := oB hF
        refine lv_tableIn (off := 1683) (tgt := 1727) hx hb dL_law_44 (by rw [c30_]; decide) (by rw [c30_]; decide) (by rw [c30_]; rfl) (by decide) ?_
        refine law_C30 C0 aX aC aCr aR aH aHr aT aTc aTp aL aLc aS aM aMn aMt aMk aMs aMl aMx aMd aO aP xS xF xR xD xC row rR rD kN kK kF tL tS tQ tF tC tP lL lC sN mU mB mI mH mQ mW mF mR mD mJ mA mT nN nT nK nS nL nX nD oL oD y5 u hu k j (by omega) (by omega) H locs hP hD hS ls hl (fun H locs hP hD hS ls hl => ?_)
        refine lv_iinc (v := y5 + (4 : Int32)) (lv' := [(5, .int (y5 + (4 : Int32))), (0, .ref b), (1, .ref aX), (2, .ref aM), (3, .ref aO), (4, .ref aP)]) hx hb dL_law_2084 hl (k := 5) rfl (by first | rfl | decide) (by decide) rfl (fun ls hl => ?_)
        refine lv_goto (tgt := 28) hx hb dL_law_2087 (by decide) ?_
        exact ih (y5 + (4 : Int32)) xS xF xR xD xC row rR rD kN kK kF tL tS tQ tF tC tP u.1 u.2.1 sN mU mB u.2.2.1 mH mQ mW mF mR mD mJ mA u.2.2.2.1 nN nT nK nS u.2.2.2.2 nX nD oL oD hF (k + 0) (j + 0) (by omega) (by omega) _ _ hP hD hS _ (lv_sub hl [1, 2, 3, 4, 5, 0] rfl)
      have hF := oF c30_ hF
      by_cases c31_ : xs y5.toNatClampNeg &&& 63 = (31 : Int32)
      · have hF := oT c31_ hF
        obtain ⟨u, hu, hF⟩ := oB hF
        refine lv_tableIn (off := 1696) (tgt := 1740) hx hb dL_law_44 (by rw [c31_]; decide) (by rw [c31_]; decide) (by rw [c31_]; rfl) (by decide) ?_
        refine law_C31 C0 aX aC aCr aR aH aHr aT aTc aTp aL aLc aS aM aMn aMt aMk aMs aMl aMx aMd aO aP xS xF xR xD xC row rR rD kN kK kF tL tS tQ tF tC tP lL lC sN mU mB mI mH mQ mW mF mR mD mJ mA mT nN nT nK nS nL nX nD oL oD y5 u hu k j (by omega) (by omega) H locs hP hD hS ls hl (fun H locs hP hD hS ls hl => ?_)
        refine lv_iinc (v := y5 + (4 : Int32)) (lv' := [(5, .int (y5 + (4 : Int32))), (0, .ref b), (1, .ref aX), (2, .ref aM), (3, .ref aO), (4, .ref aP)]) hx hb dL_law_2084 hl (k := 5) rfl (by first | rfl | decide) (by decide) rfl (fun ls hl => ?_)
        refine lv_goto (tgt := 28) hx hb dL_law_2087 (by decide) ?_
        exact ih (y5 + (4 : Int32)) xS xF xR xD xC row rR rD kN kK kF tL tS tQ tF tC tP lL lC sN mU mB mI mH mQ mW mF mR mD mJ mA u.1 nN nT nK nS nL nX nD u.2 oD hF (k + 1) (j + 6) (by omega) (by omega) _ _ hP hD hS _ (lv_sub hl [1, 2, 3, 4, 5, 0] rfl)
      have hF := oF c31_ hF
      by_cases c32_ : xs y5.toNatClampNeg &&& 63 = (32 : Int32)
      · have hF := oT c32_ hF
        obtain ⟨u, hu, hF⟩ := oB hF
        refine lv_tableIn (off := 1752) (tgt := 1796) hx hb dL_law_44 (by rw [c32_]; decide) (by rw [c32_]; decide) (by rw [c32_]; rfl) (by decide) ?_
        refine law_C32 C0 aX aC aCr aR aH aHr aT aTc aTp aL aLc aS aM aMn aMt aMk aMs aMl aMx aMd aO aP xS xF xR xD xC row rR rD kN kK kF tL tS tQ tF tC tP lL lC sN mU mB mI mH mQ mW mF mR mD mJ mA mT nN nT nK nS nL nX nD oL oD y5 u hu k j (by omega) (by omega) H locs hP hD hS ls hl (fun H locs hP hD hS ls hl => ?_)
        refine lv_iinc (v := y5 + (4 : Int32)) (lv' := [(5, .int (y5 + (4 : Int32))), (0, .ref b), (1, .ref aX), (2, .ref aM), (3, .ref aO), (4, .ref aP)]) hx hb dL_law_2084 hl (k := 5) rfl (by first | rfl | decide) (by decide) rfl (fun ls hl => ?_)
        refine lv_goto (tgt := 28) hx hb dL_law_2087 (by decide) ?_
        exact ih (y5 + (4 : Int32)) xS xF xR xD xC row rR rD kN kK kF tL tS tQ tF tC tP lL lC sN mU mB mI mH mQ mW mF mR mD mJ mA u.1 nN nT nK nS nL nX nD oL u.2 hF (k + 1) (j + 6) (by omega) (by omega) _ _ hP hD hS _ (lv_sub hl [1, 2, 3, 4, 5, 0] rfl)
      have hF := oF c32_ hF
      by_cases c33_ : xs y5.toNatClampNeg &&& 63 = (33 : Int32)
      · have hF := oT c33_ hF
        obtain ⟨u, hu, hF⟩ := oB hF
        refine lv_tableIn (off := 1817) (tgt := 1861) hx hb dL_law_44 (by rw [c33_]; decide) (by rw [c33_]; decide) (by rw [c33_]; rfl) (by decide) ?_
        refine law_C33 C0 aX aC aCr aR aH aHr aT aTc aTp aL aLc aS aM aMn aMt aMk aMs aMl aMx aMd aO aP xS xF xR xD xC row rR rD kN kK kF tL tS tQ tF tC tP lL lC sN mU mB mI mH mQ mW mF mR mD mJ mA mT nN nT nK nS nL nX nD oL oD y5 u hu k j (by omega) (by omega) H locs hP hD hS ls hl (fun H locs hP hD hS ls hl => ?_)
        refine lv_iinc (v := y5 + (4 : Int32)) (lv' := [(5, .int (y5 + (4 : Int32))), (0, .ref b), (1, .ref aX), (2, .ref aM), (3, .ref aO), (4, .ref aP)]) hx hb dL_law_2084 hl (k := 5) rfl (by first | rfl | decide) (by decide) rfl (fun ls hl => ?_)
        refine lv_goto (tgt := 28) hx hb dL_law_2087 (by decide) ?_
        exact ih (y5 + (4 : Int32)) xS xF xR xD xC row rR rD kN kK kF tL tS tQ tF tC tP lL lC sN mU mB mI mH mQ mW mF mR mD mJ mA u.1 nN nT nK nS nL nX nD oL u.2 hF (k + 1) (j + 6) (by omega) (by omega) _ _ hP hD hS _ (lv_sub hl [1, 2, 3, 4, 5, 0] rfl)
      have hF := oF c33_ hF
      by_cases c34_ : xs y5.toNatClampNeg &&& 63 = (34 : Int32)
      · have hF := oT c34_ hF
        obtain ⟨u, hu, hF⟩ := oB hF
        refine lv_tableIn (off := 1883) (tgt := 1927) hx hb dL_law_44 (by rw [c34_]; decide) (by rw [c34_]; decide) (by rw [c34_]; rfl) (by decide) ?_
        refine law_C34 C0 aX aC aCr aR aH aHr aT aTc aTp aL aLc aS aM aMn aMt aMk aMs aMl aMx aMd aO aP xS xF xR xD xC row rR rD kN kK kF tL tS tQ tF tC tP lL lC sN mU mB mI mH mQ mW mF mR mD mJ mA mT nN nT nK nS nL nX nD oL oD y5 u hu k j (by omega) (by omega) H locs hP hD hS ls hl (fun H locs hP hD hS ls hl => ?_)
        refine lv_iinc (v := y5 + (4 : Int32)) (lv' := [(5, .int (y5 + (4 : Int32))), (0, .ref b), (1, .ref aX), (2, .ref aM), (3, .ref aO), (4, .ref aP)]) hx hb dL_law_2084 hl (k := 5) rfl (by first | rfl | decide) (by decide) rfl (fun ls hl => ?_)
        refine lv_goto (tgt := 28) hx hb dL_law_2087 (by decide) ?_
        exact ih (y5 + (4 : Int32)) xS xF xR xD xC row rR rD kN kK kF tL tS tQ tF tC tP lL lC sN mU mB mI mH mQ mW mF mR mD mJ mA u.1 nN nT nK nS nL nX nD u.2 oD hF (k + 1) (j + 6) (by omega) (by omega) _ _ hP hD hS _ (lv_sub hl [1, 2, 3, 4, 5, 0] rfl)
      have hF := oF c34_ hF
      by_cases c35_ : xs y5.toNatClampNeg &&& 63 = (35 : Int32)
      · have hF := oT c35_ hF
        obtain ⟨u, hu, hF⟩ := oB hF
        refine lv_tableIn (off := 1939) (tgt := 1983) hx hb dL_law_44 (by rw [c35_]; decide) (by rw [c35_]; decide) (by rw [c35_]; rfl) (by decide) ?_
        refine law_C35 C0 aX aC aCr aR aH aHr aT aTc aTp aL aLc aS aM aMn aMt aMk aMs aMl aMx aMd aO aP xS xF xR xD xC row rR rD kN kK kF tL tS tQ tF tC tP lL lC sN mU mB mI mH mQ mW mF mR mD mJ mA mT nN nT nK nS nL nX nD oL oD y5 u hu k j (by omega) (by omega) H locs hP hD hS ls hl (fun H locs hP hD hS ls hl => ?_)
        refine lv_iinc (v := y5 + (4 : Int32)) (lv' := [(5, .int (y5 + (4 : Int32))), (0, .ref b), (1, .ref aX), (2, .ref aM), (3, .ref aO), (4, .ref aP)]) hx hb dL_law_2084 hl (k := 5) rfl (by first | rfl | decide) (by decide) rfl (fun ls hl => ?_)
        refine lv_goto (tgt := 28) hx hb dL_law_2087 (by decide) ?_
        exact ih (y5 + (4 : Int32)) xS xF xR xD xC u.1 rR rD u.2.1 u.2.2.1 kF tL tS tQ tF tC tP lL lC sN u.2.2.2.1 mB mI mH mQ mW mF mR mD mJ mA u.2.2.2.2.1 u.2.2.2.2.2.1 nT nK nS nL nX nD u.2.2.2.2.2.2 oD hF (k + 1) (j + 6) (by omega) (by omega) _ _ hP hD hS _ (lv_sub hl [1, 2, 3, 4, 5, 0] rfl)
      have hF := oF c35_ hF
      by_cases c36_ : xs y5.toNatClampNeg &&& 63 = (36 : Int32)
      · have hF := oT c36_ hF
        obtain ⟨u, hu, hF⟩ := oB hF
        refine lv_tableIn (off := 1983) (tgt := 2027) hx hb dL_law_44 (by rw [c36_]; decide) (by rw [c36_]; decide) (by rw [c36_]; rfl) (by decide) ?_
        refine law_C36 C0 aX aC aCr aR aH aHr aT aTc aTp aL aLc aS aM aMn aMt aMk aMs aMl aMx aMd aO aP xS xF xR xD xC row rR rD kN kK kF tL tS tQ tF tC tP lL lC sN mU mB mI mH mQ mW mF mR mD mJ mA mT nN nT nK nS nL nX nD oL oD y5 u hu k j (by omega) (by omega) H locs hP hD hS ls hl (fun H locs hP hD hS ls hl => ?_)
        refine lv_iinc (v := y5 + (4 : Int32)) (lv' := [(5, .int (y5 + (4 : Int32))), (0, .ref b), (1, .ref aX), (2, .ref aM), (3, .ref aO), (4, .ref aP)]) hx hb dL_law_2084 hl (k := 5) rfl (by first | rfl | decide) (by decide) rfl (fun ls hl => ?_)
        refine lv_goto (tgt := 28) hx hb dL_law_2087 (by decide) ?_
        exact ih (y5 + (4 : Int32)) u.1 xF xR xD xC row rR rD kN kK kF tL tS tQ tF tC tP lL lC u.2.1 mU u.2.2.1 mI mH mQ mW mF mR mD mJ mA u.2.2.2.1 nN nT nK u.2.2.2.2 nL nX nD oL oD hF (k + 0) (j + 0) (by omega) (by omega) _ _ hP hD hS _ (lv_sub hl [1, 2, 3, 4, 5, 0] rfl)
      have hF := oF c36_ hF
      by_cases c37_ : xs y5.toNatClampNeg &&& 63 = (37 : Int32)
      · have hF := oT c37_ hF
        obtain ⟨u, hu, hF⟩ := oB hF
        refine lv_tableIn (off := 1996) (tgt := 2040) hx hb dL_law_44 (by rw [c37_]; decide) (by rw [c37_]; decide) (by rw [c37_]; rfl) (by decide) ?_
        refine law_C37 C0 aX aC aCr aR aH aHr aT aTc aTp aL aLc aS aM aMn aMt aMk aMs aMl aMx aMd aO aP xS xF xR xD xC row rR rD kN kK kF tL tS tQ tF tC tP lL lC sN mU mB mI mH mQ mW mF mR mD mJ mA mT nN nT nK nS nL nX nD oL oD y5 u hu k j (by omega) (by omega) H locs hP hD hS ls hl (fun H locs hP hD hS ls hl => ?_)
        refine lv_iinc (v := y5 + (4 : Int32)) (lv' := [(5, .int (y5 + (4 : Int32))), (0, .ref b), (1, .ref aX), (2, .ref aM), (3, .ref aO), (4, .ref aP)]) hx hb dL_law_2084 hl (k := 5) rfl (by first | rfl | decide) (by decide) rfl (fun ls hl => ?_)
        refine lv_goto (tgt := 28) hx hb dL_law_2087 (by decide) ?_
        exact ih (y5 + (4 : Int32)) xS xF xR xD xC u.1 rR rD kN u.2.1 kF tL tS tQ tF tC tP lL lC sN u.2.2.1 mB mI mH mQ mW mF mR mD mJ mA u.2.2.2.1 u.2.2.2.2.1 nT nK nS nL nX nD u.2.2.2.2.2 oD hF (k + 1) (j + 6) (by omega) (by omega) _ _ hP hD hS _ (lv_sub hl [1, 2, 3, 4, 5, 0] rfl)
      have hF := oF c37_ hF
      refine tsw_d (ks := ([0, 1, 2, 3, 4, 5, 6, 7, 8, 9, 10, 11, 12, 13, 14, 15, 16, 17, 18, 19, 20, 21, 22, 23, 24, 25, 26, 27, 28, 29, 30, 31, 32, 33, 34, 35, 36, 37] : List Int)) (tgt := 2084) hx hb dL_law_44 (by decide) (by decide) (List.forall_mem_cons.mpr ⟨lv_neT c0_ rfl, List.forall_mem_cons.mpr ⟨lv_neT c1_ rfl, List.forall_mem_cons.mpr ⟨lv_neT c2_ rfl, List.forall_mem_cons.mpr ⟨lv_neT c3_ rfl, List.forall_mem_cons.mpr ⟨lv_neT c4_ rfl, List.forall_mem_cons.mpr ⟨lv_neT c5_ rfl, List.forall_mem_cons.mpr ⟨lv_neT c6_ rfl, List.forall_mem_cons.mpr ⟨lv_neT c7_ rfl, List.forall_mem_cons.mpr ⟨lv_neT c8_ rfl, List.forall_mem_cons.mpr ⟨lv_neT c9_ rfl, List.forall_mem_cons.mpr ⟨lv_neT c10_ rfl, List.forall_mem_cons.mpr ⟨lv_neT c11_ rfl, List.forall_mem_cons.mpr ⟨lv_neT c12_ rfl, List.forall_mem_cons.mpr ⟨lv_neT c13_ rfl, List.forall_mem_cons.mpr ⟨lv_neT c14_ rfl, List.forall_mem_cons.mpr ⟨lv_neT c15_ rfl, List.forall_mem_cons.mpr ⟨lv_neT c16_ rfl, List.forall_mem_cons.mpr ⟨lv_neT c17_ rfl, List.forall_mem_cons.mpr ⟨lv_neT c18_ rfl, List.forall_mem_cons.mpr ⟨lv_neT c19_ rfl, List.forall_mem_cons.mpr ⟨lv_neT c20_ rfl, List.forall_mem_cons.mpr ⟨lv_neT c21_ rfl, List.forall_mem_cons.mpr ⟨lv_neT c22_ rfl, List.forall_mem_cons.mpr ⟨lv_neT c23_ rfl, List.forall_mem_cons.mpr ⟨lv_neT c24_ rfl, List.forall_mem_cons.mpr ⟨lv_neT c25_ rfl, List.forall_mem_cons.mpr ⟨lv_neT c26_ rfl, List.forall_mem_cons.mpr ⟨lv_neT c27_ rfl, List.forall_mem_cons.mpr ⟨lv_neT c28_ rfl, List.forall_mem_cons.mpr ⟨lv_neT c29_ rfl, List.forall_mem_cons.mpr ⟨lv_neT c30_ rfl, List.forall_mem_cons.mpr ⟨lv_neT c31_ rfl, List.forall_mem_cons.mpr ⟨lv_neT c32_ rfl, List.forall_mem_cons.mpr ⟨lv_neT c33_ rfl, List.forall_mem_cons.mpr ⟨lv_neT c34_ rfl, List.forall_mem_cons.mpr ⟨lv_neT c35_ rfl, List.forall_mem_cons.mpr ⟨lv_neT c36_ rfl, List.forall_mem_cons.mpr ⟨lv_neT c37_ rfl, fun _ h9 => absurd h9 List.not_mem_nil⟩⟩⟩⟩⟩⟩⟩⟩⟩⟩⟩⟩⟩⟩⟩⟩⟩⟩⟩⟩⟩⟩⟩⟩⟩⟩⟩⟩⟩⟩⟩⟩⟩⟩⟩⟩⟩⟩) (by decide) ?_
      refine lv_iinc (v := y5 + (4 : Int32)) (lv' := [(5, .int (y5 + (4 : Int32))), (0, .ref b), (1, .ref aX), (2, .ref aM), (3, .ref aO), (4, .ref aP)]) hx hb dL_law_2084 hl (k := 5) rfl (by first | rfl | decide) (by decide) rfl (fun ls hl => ?_)
      refine lv_goto (tgt := 28) hx hb dL_law_2087 (by decide) ?_
      exact ih (y5 + (4 : Int32)) xS xF xR xD xC row rR rD kN kK kF tL tS tQ tF tC tP lL lC sN mU mB mI mH mQ mW mF mR mD mJ mA mT nN nT nK nS nL nX nD oL oD hF (k + 0) (j + 0) (by omega) (by omega) _ _ hP hD hS _ (lv_sub hl [1, 2, 3, 4, 5, 0] rfl)
