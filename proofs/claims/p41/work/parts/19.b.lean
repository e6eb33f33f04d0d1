abbrev RM_L_makes : Room := { frames := 10, cells := 145, slots := 870, locals := 235 }
abbrev MC_L_makes : Nat := 145
abbrev MS_L_makes : Nat := 870
abbrev wf_L_makes (K : Nat → ClassId) (aX : Nat) (aC : Nat) (aCr : Nat) (aR : Nat) (aH : Nat) (aHr : Nat) (aT : Nat) (aL : Nat) (aS : Nat) (xS : Int32) (xF : Int32) (v : Int32 × Int32 × Int32 × Int32 × (Nat → Int32) × Int32 × Int32 × Int32 × Int32 × (Nat → Int32)) : va_W := [(aX, .inr (5, [.ref aC, .ref aR, .ref aH, .ref aT, .ref aL, .ref aS, .int xS, .int xF, .int v.2.1, .int v.2.2.1, .int v.2.2.2.1])), (aC, .inr (0, [.ref aCr])), (aCr, .inl (K 0, 55, .inl v.2.2.2.2.1)), (aR, .inr (4, [.int v.2.2.2.2.2.1, .int v.2.2.2.2.2.2.1])), (aH, .inr (2, [.ref aHr, .int v.2.2.2.2.2.2.2.1, .int v.2.2.2.2.2.2.2.2.1])), (aHr, .inl (K 1, 495, .inl v.2.2.2.2.2.2.2.2.2))]
set_option maxHeartbeats 4000000 in
set_option maxRecDepth 100000 in
theorem c_L_makes (l : Launch) (hfl : l.stackTraces = false) (bX LX : Nat) (xX : Nat → Int32) (D : va_G) (K : Nat → ClassId) (aX : Nat) (aC : Nat) (aCr : Nat) (aR : Nat) (aH : Nat) (aHr : Nat) (aT : Nat) (aL : Nat) (aS : Nat) (xS : Int32) (xF : Int32) (xR : Int32) (xD : Int32) (xC : Int32) (row : Nat → Int32) (rR : Int32) (rD : Int32) (kN : Int32) (kK : Int32) (kF : Nat → Int32)  (v : Int32 × Int32 × Int32 × Int32 × (Nat → Int32) × Int32 × Int32 × Int32 × Int32 × (Nat → Int32)) (hF : f_L_makes LX xX xR xD xC row rR rD kN kK kF = some v) (sz : Nat) :
    (Met l yL_makes wsL_makes RM_L_makes (PCE (ExX bX LX xX) D (TY K) [(aX, .inr (5, [.ref aC, .ref aR, .ref aH, .ref aT, .ref aL, .ref aS, .int xS, .int xF, .int xR, .int xD, .int xC])), (aC, .inr (0, [.ref aCr])), (aCr, .inl (K 0, 55, .inl row)), (aR, .inr (4, [.int rR, .int rD])), (aH, .inr (2, [.ref aHr, .int kN, .int kK])), (aHr, .inl (K 1, 495, .inl kF))] [.ref aX, .ref bX] sz) (QI D (TY K) (wf_L_makes K aX aC aCr aR aH aHr aT aL aS xS xF) v (va_A [(aX, .inr (5, [.ref aC, .ref aR, .ref aH, .ref aT, .ref aL, .ref aS, .int xS, .int xF, .int xR, .int xD, .int xC])), (aC, .inr (0, [.ref aCr])), (aCr, .inl (K 0, 55, .inl row)), (aR, .inr (4, [.int rR, .int rD])), (aH, .inr (2, [.ref aHr, .int kN, .int kK])), (aHr, .inl (K 1, 495, .inl kF))] sz)) MC_L_makes MS_L_makes (va_A [(aX, .inr (5, [.ref aC, .ref aR, .ref aH, .ref aT, .ref aL, .ref aS, .int xS, .int xF, .int xR, .int xD, .int xC])), (aC, .inr (0, [.ref aCr])), (aCr, .inl (K 0, 55, .inl row)), (aR, .inr (4, [.int rR, .int rD])), (aH, .inr (2, [.ref aHr, .int kN, .int kK])), (aHr, .inl (K 1, 495, .inl kF))] sz)) := by
  refine proE (Qf := fun A => QI D (TY K) (wf_L_makes K aX aC aCr aR aH aHr aT aL aS xS xF) v A) (cc := cL_makes) (maxL := 5) (ret := (some .boolean)) (by decide +kernel) rfl (Nat.le_of_ble_eq_true rfl) ?_
  intro p e s m args below meth c hx hb hr hts hown hlocks hml hK A hA hE hX hP hD hS ls hl
  have hown : s.vm.findClass RL = some m.cls := hown
  have hl : lv_has ls 5 [(0, .ref aX), (1, .ref bX)] := hl
  have loop_242 : ∀ (y242_2 : Int32) (y242_3 : Int32) (y242_4 : Int32) (xR_242 : Int32) (xD_242 : Int32) (xC_242 : Int32) (row_242 : Nat → Int32) (rR_242 : Int32) (rD_242 : Int32) (kN_242 : Int32) (kK_242 : Int32) (kF_242 : Nat → Int32) (u : Unit) (n : Nat) , f_L_makes_L242 y242_4 xR_242 xD_242 xC_242 n  = some u → ∀ (k9 j9 K9 J9 : Nat), k9 + 2 * n = K9 → j9 + 12 * n = J9 → K9 ≤ 145 → J9 ≤ 870 → (∀ (H : Heap) (locs : List Loc), va_P D vwC7 [(aX, .inr (5, [.ref aC, .ref aR, .ref aH, .ref aT, .ref aL, .ref aS, .int xS, .int xF, .int xR_242, .int xD_242, .int xC_242])), (aC, .inr (0, [.ref aCr])), (aCr, .inl (K 0, 55, .inl row_242)), (aR, .inr (4, [.int rR_242, .int rD_242])), (aH, .inr (2, [.ref aHr, .int kN_242, .int kK_242])), (aHr, .inl (K 1, 495, .inl kF_242))] H → va_D A [(aX, .inr (5, [.ref aC, .ref aR, .ref aH, .ref aT, .ref aL, .ref aS, .int xS, .int xF, .int xR_242, .int xD_242, .int xC_242])), (aC, .inr (0, [.ref aCr])), (aCr, .inl (K 0, 55, .inl row_242)), (aR, .inr (4, [.int rR_242, .int rD_242])), (aH, .inr (2, [.ref aHr, .int kN_242, .int kK_242])), (aHr, .inl (K 1, 495, .inl kF_242))] → va_S A s.heap H locs → ∀ ls : Array Slot, lv_has ls 5 [(0, .ref aX), (1, .ref bX), (2, .int y242_2), (3, .int y242_3), (4, .int y242_4)] → W p l e RM_L_makes s m args below meth c H locs K9 J9 (MQ below (QI D (TY K) (wf_L_makes K aX aC aCr aR aH aHr aT aL aS xS xF) v A) args s MC_L_makes MS_L_makes A) (F0 m 272 ls [])) → ∀ (H : Heap) (locs : List Loc), va_P D vwC7 [(aX, .inr (5, [.ref aC, .ref aR, .ref aH, .ref aT, .ref aL, .ref aS, .int xS, .int xF, .int xR_242, .int xD_242, .int xC_242])), (aC, .inr (0, [.ref aCr])), (aCr, .inl (K 0, 55, .inl row_242)), (aR, .inr (4, [.int rR_242, .int rD_242])), (aH, .inr (2, [.ref aHr, .int kN_242, .int kK_242])), (aHr, .inl (K 1, 495, .inl kF_242))] H → va_D A [(aX, .inr (5, [.ref aC, .ref aR, .ref aH, .ref aT, .ref aL, .ref aS, .int xS, .int xF, .int xR_242, .int xD_242, .int xC_242])), (aC, .inr (0, [.ref aCr])), (aCr, .inl (K 0, 55, .inl row_242)), (aR, .inr (4, [.int rR_242, .int rD_242])), (aH, .inr (2, [.ref aHr, .int kN_242, .int kK_242])), (aHr, .inl (K 1, 495, .inl kF_242))] → va_S A s.heap H locs → ∀ ls : Array Slot, lv_has ls 5 [(0, .ref aX), (1, .ref bX), (2, .int y242_2), (3, .int y242_3), (4, .int y242_4)] → W p l e RM_L_makes s m args below meth c H locs k9 j9 (MQ below (QI D (TY K) (wf_L_makes K aX aC aCr aR aH aHr aT aL aS xS xF) v A) args s MC_L_makes MS_L_makes A) (F0 m 242 ls []) := by
    intro y242_2 y242_3 y242_4 xR_242 xD_242 xC_242 row_242 rR_242 rD_242 kN_242 kK_242 kF_242 u n
    induction n with
    | zero =>
      intro  hF
      exact nomatch hF
    | succ n ih =>
      intro  hF k9 j9 K9 J9 hk9 hj9 hK9 hJ9 kx H locs hP hD hS ls hl
      rw [f_L_makes_L242.eq_2] at hF
      refine lv_iload hx hb dL_makes_242 (lv_at hl 4 rfl) ?_
      refine lv_sipush (v := (-1001 : Int32)) hx hb dL_makes_244 (by decide) ?_
      refine lv_icmp_ne (tgt := 272) hx hb dL_makes_247 (by decide) (fun c10 => ?_) (fun c10 => ?_)
      · have hF := oF c10 hF
        cases hF
        refine W.widen (k := K9) (n := J9) (by show k9 ≤ _; omega) (by show j9 ≤ _; omega) ?_
        exact kx _ _ hP hD hS _ (lv_sub hl [0, 1, 2, 3, 4] rfl)
      · have hF := oT c10 hF
        refine lv_aload_n hx hb dL_makes_250 rfl (lv_at hl 0 rfl) ?_
        refine lv_iconst (v := (0 : Int32)) hx hb dL_makes_251 (by decide) ?_
        obtain ⟨v11, hv11, hF⟩ := oB hF
        refine callH_i (wr := [(aC, .inr (0, [.ref aCr])), (aCr, .inl (K 0, 55, .inl row_242)), (aR, .inr (4, [.int rR_242, .int rD_242])), (aH, .inr (2, [.ref aHr, .int kN_242, .int kK_242])), (aHr, .inl (K 1, 495, .inl kF_242))]) (wn := [(aX, .inr (5, [.ref aC, .ref aR, .ref aH, .ref aT, .ref aL, .ref aS, .int xS, .int xF, .int xR_242, .int xD_242, .int xC_242])), (aC, .inr (0, [.ref aCr])), (aCr, .inl (K 0, 55, .inl row_242)), (aR, .inr (4, [.int rR_242, .int rD_242])), (aH, .inr (2, [.ref aHr, .int kN_242, .int kK_242])), (aHr, .inl (K 1, 495, .inl kF_242))]) (vx_runSX (As := [.ref aX, .int (0 : Int32)]) (rest := []) ⟨hx, hb, hml, hown, hts⟩ (c_L_reason l hfl D K aX aC aR aH aT aL aS xS xF xR_242 xD_242 xC_242 (0 : Int32) v11 hv11 H.size) (vx_cwSW 2 hts gL_makes_L_reason rfl rfl rfl (by decide +kernel) ⟨(Nat.le_of_ble_eq_true rfl), (Nat.le_of_ble_eq_true rfl)⟩) (prS hE hK hP hD hS hA [0] rfl rfl) rfl rfl hl.1 rfl (lv_room (Nat.le_of_ble_eq_true rfl)) dL_makes_252 ⟨by show (k9 + 1) ≤ 145; omega, by show (j9 + 6) ≤ 870; omega⟩) hP hD hS hA [0] [1, 2, 3, 4, 5] [5, 0, 1, 2, 3, 4] rfl rfl rfl (by decide) rfl rfl (fun H locs hP hD hS => ?_)
        refine lv_bipush (v := (8 : Int32)) hx hb dL_makes_255 (by decide) ?_
        refine lv_icmp_eq (tgt := 272) hx hb dL_makes_257 (by decide) (fun c12 => ?_) (fun c12 => ?_)
        · have hF := oT c12 hF
          cases hF
          refine W.widen (k := K9) (n := J9) (by show (k9 + 1) ≤ _; omega) (by show (j9 + 6) ≤ _; omega) ?_
          exact kx _ _ hP hD hS _ (lv_sub hl [0, 1, 2, 3, 4] rfl)
        · have hF := oF c12 hF
          refine lv_aload_n hx hb dL_makes_260 rfl (lv_at hl 0 rfl) ?_
          refine lv_iconst (v := (0 : Int32)) hx hb dL_makes_261 (by decide) ?_
          obtain ⟨v13, hv13, hF⟩ := oB hF
          refine callH_i (wr := [(aC, .inr (0, [.ref aCr])), (aCr, .inl (K 0, 55, .inl row_242)), (aR, .inr (4, [.int rR_242, .int rD_242])), (aH, .inr (2, [.ref aHr, .int kN_242, .int kK_242])), (aHr, .inl (K 1, 495, .inl kF_242))]) (wn := [(aX, .inr (5, [.ref aC, .ref aR, .ref aH, .ref aT, .ref aL, .ref aS, .int xS, .int xF, .int xR_242, .int xD_242, .int xC_242])), (aC, .inr (0, [.ref aCr])), (aCr, .inl (K 0, 55, .inl row_242)), (aR, .inr (4, [.int rR_242, .int rD_242])), (aH, .inr (2, [.ref aHr, .int kN_242, .int kK_242])), (aHr, .inl (K 1, 495, .inl kF_242))]) (vx_runSX (As := [.ref aX, .int (0 : Int32)]) (rest := []) ⟨hx, hb, hml, hown, hts⟩ (c_L_reason l hfl D K aX aC aR aH aT aL aS xS xF xR_242 xD_242 xC_242 (0 : Int32) v13 hv13 H.size) (vx_cwSW 2 hts gL_makes_L_reason rfl rfl rfl (by decide +kernel) ⟨(Nat.le_of_ble_eq_true rfl), (Nat.le_of_ble_eq_true rfl)⟩) (prS hE hK hP hD hS hA [0] rfl rfl) rfl rfl hl.1 rfl (lv_room (Nat.le_of_ble_eq_true rfl)) dL_makes_262 ⟨by show ((k9 + 1) + 1) ≤ 145; omega, by show ((j9 + 6) + 6) ≤ 870; omega⟩) hP hD hS hA [0] [1, 2, 3, 4, 5] [5, 0, 1, 2, 3, 4] rfl rfl rfl (by decide) rfl rfl (fun H locs hP hD hS => ?_)
          refine lv_bipush (v := (9 : Int32)) hx hb dL_makes_265 (by decide) ?_
          refine lv_icmp_eq (tgt := 272) hx hb dL_makes_267 (by decide) (fun c14 => ?_) (fun c14 => ?_)
          · have hF := oT c14 hF
            cases hF
            refine W.widen (k := K9) (n := J9) (by show ((k9 + 1) + 1) ≤ _; omega) (by show ((j9 + 6) + 6) ≤ _; omega) ?_
            exact kx _ _ hP hD hS _ (lv_sub hl [0, 1, 2, 3, 4] rfl)
          · have hF := oF c14 hF
            exact nomatch hF
  have loop_219 : ∀ (y219_2 : Int32) (n : Nat) (y219_3 : Int32) (xR_219 : Int32) (xD_219 : Int32) (xC_219 : Int32) (row_219 : Nat → Int32) (rR_219 : Int32) (rD_219 : Int32) (kN_219 : Int32) (kK_219 : Int32) (kF_219 : Nat → Int32), f_L_makes_L219 LX xX y219_2 n y219_3 xR_219 xD_219 xC_219 row_219 rR_219 rD_219 kN_219 kK_219 kF_219 = some v → ∀ (k9 j9 : Nat), k9 + 3 * n = 145 → j9 + 18 * n = 870 → ∀ (H : Heap) (locs : List Loc), va_P D vwC7 [(aX, .inr (5, [.ref aC, .ref aR, .ref aH, .ref aT, .ref aL, .ref aS, .int xS, .int xF, .int xR_219, .int xD_219, .int xC_219])), (aC, .inr (0, [.ref aCr])), (aCr, .inl (K 0, 55, .inl row_219)), (aR, .inr (4, [.int rR_219, .int rD_219])), (aH, .inr (2, [.ref aHr, .int kN_219, .int kK_219])), (aHr, .inl (K 1, 495, .inl kF_219))] H → va_D A [(aX, .inr (5, [.ref aC, .ref aR, .ref aH, .ref aT, .ref aL, .ref aS, .int xS, .int xF, .int xR_219, .int xD_219, .int xC_219])), (aC, .inr (0, [.ref aCr])), (aCr, .inl (K 0, 55, .inl row_219)), (aR, .inr (4, [.int rR_219, .int rD_219])), (aH, .inr (2, [.ref aHr, .int kN_219, .int kK_219])), (aHr, .inl (K 1, 495, .inl kF_219))] → va_S A s.heap H locs → ∀ ls : Array Slot, lv_has ls 5 [(0, .ref aX), (1, .ref bX), (2, .int y219_2), (3, .int y219_3)] → W p l e RM_L_makes s m args below meth c H locs k9 j9 (MQ below (QI D (TY K) (wf_L_makes K aX aC aCr aR aH aHr aT aL aS xS xF) v A) args s MC_L_makes MS_L_makes A) (F0 m 219 ls []) := by
    intro y219_2 n
    induction n with
    | zero =>
      intro y219_3 xR_219 xD_219 xC_219 row_219 rR_219 rD_219 kN_219 kK_219 kF_219 hF
      exact nomatch hF
    | succ n ih =>
      intro y219_3 xR_219 xD_219 xC_219 row_219 rR_219 rD_219 kN_219 kK_219 kF_219 hF k9 j9 hk9 hj9 H locs hP hD hS ls hl
      rw [f_L_makes_L219.eq_2] at hF
      refine lv_iload_n hx hb dL_makes_219 rfl (lv_at hl 3 rfl) ?_
      refine lv_iconst (v := (2 : Int32)) hx hb dL_makes_220 (by decide) ?_
      refine lv_icmp_ge (tgt := 278) hx hb dL_makes_221 (by decide) (fun c6 => ?_) (fun c6 => ?_)
      · have hF := oT c6 hF
        refine W.widen (k := 145) (n := 870) (by show k9 ≤ _; omega) (by show j9 ≤ _; omega) ?_
        refine lv_iconst (v := (1 : Int32)) hx hb dL_makes_278 (by decide) ?_
        exact fin_z (u := ((1 : Int32), (xR_219, xD_219, xC_219, row_219, rR_219, rD_219, kN_219, kK_219, kF_219))) hF (okN_n (ty := .boolean) (x := (1 : Int32)) (by decide)) hx hb hr hlocks hK hP hD hS (Nat.le_of_ble_eq_true rfl) (Nat.le_of_ble_eq_true rfl) dL_makes_279
      · have hF := oF c6 hF
        refine lv_aload_n hx hb dL_makes_224 rfl (lv_at hl 0 rfl) ?_
        refine lv_aload_n hx hb dL_makes_225 rfl (lv_at hl 1 rfl) ?_
        refine lv_bipush (v := (17 : Int32)) hx hb dL_makes_226 (by decide) ?_
        refine lv_iload_n hx hb dL_makes_228 rfl (lv_at hl 3 rfl) ?_
        refine lv_iadd hx hb dL_makes_229 ?_
        obtain ⟨v7, hv7, hF⟩ := oB hF
        refine call_i (wr := [(aX, .inr (5, [.ref aC, .ref aR, .ref aH, .ref aT, .ref aL, .ref aS, .int xS, .int xF, .int xR_219, .int xD_219, .int xC_219])), (aC, .inr (0, [.ref aCr])), (aCr, .inl (K 0, 55, .inl row_219)), (aR, .inr (4, [.int rR_219, .int rD_219])), (aH, .inr (2, [.ref aHr, .int kN_219, .int kK_219])), (aHr, .inl (K 1, 495, .inl kF_219))]) (wn := [(aX, .inr (5, [.ref aC, .ref aR, .ref aH, .ref aT, .ref aL, .ref aS, .int xS, .int xF, .int xR_219, .int xD_219, .int xC_219])), (aC, .inr (0, [.ref aCr])), (aCr, .inl (K 0, 55, .inl row_219)), (aR, .inr (4, [.int rR_219, .int rD_219])), (aH, .inr (2, [.ref aHr, .int kN_219, .int kK_219])), (aHr, .inl (K 1, 495, .inl kF_219))]) (va_runS (As := [.ref bX, .int ((17 : Int32) + y219_3)]) (rest := [.ref aX]) ⟨hx, hb, hml, hown, hts⟩ (c_L_at l bX LX xX D K ((17 : Int32) + y219_3) v7 hv7 H.size) (va_cwS 2 hts gL_makes_L_at rfl rfl rfl (by decide +kernel) ⟨(Nat.le_of_ble_eq_true rfl), (Nat.le_of_ble_eq_true rfl)⟩) (prSE ExX_ok (hX_call ExX_ok hX hD hS hA [] rfl) hE hK hP hD hS hA [] rfl rfl) rfl rfl hl.1 rfl (lv_room (Nat.le_of_ble_eq_true rfl)) dL_makes_230 ⟨by show (k9 + 0) ≤ 145; omega, by show (j9 + 0) ≤ 870; omega⟩) hP hD hS hA [] [0, 1, 2, 3, 4, 5] [0, 1, 2, 3, 4, 5] rfl rfl rfl (by decide) rfl rfl (fun H locs hP hD hS => ?_)
        refine lv_iload_n hx hb dL_makes_233 rfl (lv_at hl 2 rfl) ?_
        obtain ⟨v8, hv8, hF⟩ := oB hF
        refine call_i (wr := [(aX, .inr (5, [.ref aC, .ref aR, .ref aH, .ref aT, .ref aL, .ref aS, .int xS, .int xF, .int xR_219, .int xD_219, .int xC_219])), (aC, .inr (0, [.ref aCr])), (aCr, .inl (K 0, 55, .inl row_219)), (aR, .inr (4, [.int rR_219, .int rD_219])), (aH, .inr (2, [.ref aHr, .int kN_219, .int kK_219])), (aHr, .inl (K 1, 495, .inl kF_219))]) (wn := [(aX, .inr (5, [.ref aC, .ref aR, .ref aH, .ref aT, .ref aL, .ref aS, .int xS, .int xF, .int xR_219, .int xD_219, .int xC_219])), (aC, .inr (0, [.ref aCr])), (aCr, .inl (K 0, 55, .inl row_219)), (aR, .inr (4, [.int rR_219, .int rD_219])), (aH, .inr (2, [.ref aHr, .int kN_219, .int kK_219])), (aHr, .inl (K 1, 495, .inl kF_219))]) (va_runS (As := [.int v7.1, .int y219_2]) (rest := [.ref aX]) ⟨hx, hb, hml, hown, hts⟩ (c_L_some l D K v7.1 y219_2 v8 hv8 H.size) (va_cwS 2 hts gL_makes_L_some rfl rfl rfl (by decide +kernel) ⟨(Nat.le_of_ble_eq_true rfl), (Nat.le_of_ble_eq_true rfl)⟩) (prS hE hK hP hD hS hA [] rfl rfl) rfl rfl hl.1 rfl (lv_room (Nat.le_of_ble_eq_true rfl)) dL_makes_234 ⟨by show ((k9 + 0) + 0) ≤ 145; omega, by show ((j9 + 0) + 0) ≤ 870; omega⟩) hP hD hS hA [] [0, 1, 2, 3, 4, 5] [0, 1, 2, 3, 4, 5] rfl rfl rfl (by decide) rfl rfl (fun H locs hP hD hS => ?_)
        obtain ⟨v9, hv9, hF⟩ := oB hF
        refine callH_i (wr := []) (wn := [(aX, .inr (5, [.ref aC, .ref aR, .ref aH, .ref aT, .ref aL, .ref aS, .int xS, .int xF, .int v9.2.1, .int v9.2.2.1, .int v9.2.2.2.1])), (aC, .inr (0, [.ref aCr])), (aCr, .inl (K 0, 55, .inl v9.2.2.2.2.1)), (aR, .inr (4, [.int v9.2.2.2.2.2.1, .int v9.2.2.2.2.2.2.1])), (aH, .inr (2, [.ref aHr, .int v9.2.2.2.2.2.2.2.1, .int v9.2.2.2.2.2.2.2.2.1])), (aHr, .inl (K 1, 495, .inl v9.2.2.2.2.2.2.2.2.2))]) (vx_runSX (As := [.ref aX, .int v8.1]) (rest := []) ⟨hx, hb, hml, hown, hts⟩ (c_L_tap l hfl D K aX aC aCr aR aH aHr aT aL aS xS xF xR_219 xD_219 xC_219 row_219 rR_219 rD_219 kN_219 kK_219 kF_219 v8.1 v9 hv9 H.size) (vx_cwSW 2 hts gL_makes_L_tap rfl rfl rfl (by decide +kernel) ⟨(Nat.le_of_ble_eq_true rfl), (Nat.le_of_ble_eq_true rfl)⟩) (prS hE hK hP hD hS hA [0, 1, 2, 3, 4, 5] rfl rfl) rfl rfl hl.1 rfl (lv_room (Nat.le_of_ble_eq_true rfl)) dL_makes_237 ⟨by show (((k9 + 0) + 0) + 1) ≤ 145; omega, by show (((j9 + 0) + 0) + 6) ≤ 870; omega⟩) hP hD hS hA [0, 1, 2, 3, 4, 5] [] [0, 1, 2, 3, 4, 5] rfl rfl rfl (by decide) rfl rfl (fun H locs hP hD hS => ?_)
        refine lv_istore (lv' := [(4, .int v9.1), (0, .ref aX), (1, .ref bX), (2, .int y219_2), (3, .int y219_3)]) hx hb dL_makes_240 hl (by decide) rfl (fun ls hl => ?_)
        obtain ⟨u15, hu15, hF⟩ := oB hF
        refine loop_242 y219_2 y219_3 v9.1 v9.2.1 v9.2.2.1 v9.2.2.2.1 v9.2.2.2.2.1 v9.2.2.2.2.2.1 v9.2.2.2.2.2.2.1 v9.2.2.2.2.2.2.2.1 v9.2.2.2.2.2.2.2.2.1 v9.2.2.2.2.2.2.2.2.2 u15 1  hu15 (((k9 + 0) + 0) + 1) (((j9 + 0) + 0) + 6) ((((k9 + 0) + 0) + 1) + 2) ((((j9 + 0) + 0) + 6) + 12) (by omega) (by omega) (by omega) (by omega) (fun H locs hP hD hS ls hl => ?_) _ _ hP hD hS _ (lv_sub hl [1, 2, 3, 4, 0] rfl)
        refine lv_iinc (v := y219_3 + (1 : Int32)) (lv' := [(3, .int (y219_3 + (1 : Int32))), (0, .ref aX), (1, .ref bX), (2, .int y219_2), (4, .int v9.1)]) hx hb dL_makes_272 hl (k := 3) rfl (by first | rfl | decide) (by decide) rfl (fun ls hl => ?_)
        refine lv_goto (tgt := 219) hx hb dL_makes_275 (by decide) ?_
        refine W.widen (k := k9 + 3) (n := j9 + 18) (by show ((((k9 + 0) + 0) + 1) + 2) ≤ _; omega) (by show ((((j9 + 0) + 0) + 6) + 12) ≤ _; omega) ?_
        exact ih (y219_3 + (1 : Int32)) v9.2.1 v9.2.2.1 v9.2.2.2.1 v9.2.2.2.2.1 v9.2.2.2.2.2.1 v9.2.2.2.2.2.2.1 v9.2.2.2.2.2.2.2.1 v9.2.2.2.2.2.2.2.2.1 v9.2.2.2.2.2.2.2.2.2 hF (k9 + 3) (j9 + 18) (by omega) (by omega) _ _ hP hD hS _ (lv_sub hl [1, 2, 3, 0] rfl)
  have loop_152 : ∀ (y152_2 : Int32) (y152_3 : Int32) (y152_4 : Int32) (u : Int32 × Int32 × Int32 × (Nat → Int32) × Int32 × Int32 × Int32 × Int32 × (Nat → Int32)) (n : Nat) (xR_152 : Int32) (xD_152 : Int32) (xC_152 : Int32) (row_152 : Nat → Int32) (rR_152 : Int32) (rD_152 : Int32) (kN_152 : Int32) (kK_152 : Int32) (kF_152 : Nat → Int32), f_L_makes_L152 y152_3 y152_4 n xR_152 xD_152 xC_152 row_152 rR_152 rD_152 kN_152 kK_152 kF_152 = some u → ∀ (k9 j9 K9 J9 : Nat), k9 + 6 * n = K9 → j9 + 36 * n = J9 → K9 ≤ 145 → J9 ≤ 870 → (∀ (H : Heap) (locs : List Loc), va_P D vwC7 [(aX, .inr (5, [.ref aC, .ref aR, .ref aH, .ref aT, .ref aL, .ref aS, .int xS, .int xF, .int u.1, .int u.2.1, .int u.2.2.1])), (aC, .inr (0, [.ref aCr])), (aCr, .inl (K 0, 55, .inl u.2.2.2.1)), (aR, .inr (4, [.int u.2.2.2.2.1, .int u.2.2.2.2.2.1])), (aH, .inr (2, [.ref aHr, .int u.2.2.2.2.2.2.1, .int u.2.2.2.2.2.2.2.1])), (aHr, .inl (K 1, 495, .inl u.2.2.2.2.2.2.2.2))] H → va_D A [(aX, .inr (5, [.ref aC, .ref aR, .ref aH, .ref aT, .ref aL, .ref aS, .int xS, .int xF, .int u.1, .int u.2.1, .int u.2.2.1])), (aC, .inr (0, [.ref aCr])), (aCr, .inl (K 0, 55, .inl u.2.2.2.1)), (aR, .inr (4, [.int u.2.2.2.2.1, .int u.2.2.2.2.2.1])), (aH, .inr (2, [.ref aHr, .int u.2.2.2.2.2.2.1, .int u.2.2.2.2.2.2.2.1])), (aHr, .inl (K 1, 495, .inl u.2.2.2.2.2.2.2.2))] → va_S A s.heap H locs → ∀ ls : Array Slot, lv_has ls 5 [(0, .ref aX), (1, .ref bX), (2, .int y152_2), (3, .int y152_3), (4, .int y152_4)] → W p l e RM_L_makes s m args below meth c H locs K9 J9 (MQ below (QI D (TY K) (wf_L_makes K aX aC aCr aR aH aHr aT aL aS xS xF) v A) args s MC_L_makes MS_L_makes A) (F0 m 211 ls [])) → ∀ (H : Heap) (locs : List Loc), va_P D vwC7 [(aX, .inr (5, [.ref aC, .ref aR, .ref aH, .ref aT, .ref aL, .ref aS, .int xS, .int xF, .int xR_152, .int xD_152, .int xC_152])), (aC, .inr (0, [.ref aCr])), (aCr, .inl (K 0, 55, .inl row_152)), (aR, .inr (4, [.int rR_152, .int rD_152])), (aH, .inr (2, [.ref aHr, .int kN_152, .int kK_152])), (aHr, .inl (K 1, 495, .inl kF_152))] H → va_D A [(aX, .inr (5, [.ref aC, .ref aR, .ref aH, .ref aT, .ref aL, .ref aS, .int xS, .int xF, .int xR_152, .int xD_152, .int xC_152])), (aC, .inr (0, [.ref aCr])), (aCr, .inl (K 0, 55, .inl row_152)), (aR, .inr (4, [.int rR_152, .int rD_152])), (aH, .inr (2, [.ref aHr, .int kN_152, .int kK_152])), (aHr, .inl (K 1, 495, .inl kF_152))] → va_S A s.heap H locs → ∀ ls : Array Slot, lv_has ls 5 [(0, .ref aX), (1, .ref bX), (2, .int y152_2), (3, .int y152_3), (4, .int y152_4)] → W p l e RM_L_makes s m args below meth c H locs k9 j9 (MQ below (QI D (TY K) (wf_L_makes K aX aC aCr aR aH aHr aT aL aS xS xF) v A) args s MC_L_makes MS_L_makes A) (F0 m 152 ls []) := by
    intro y152_2 y152_3 y152_4 u n
    induction n with
    | zero =>
      intro xR_152 xD_152 xC_152 row_152 rR_152 rD_152 kN_152 kK_152 kF_152 hF
      exact nomatch hF
    | succ n ih =>
      intro xR_152 xD_152 xC_152 row_152 rR_152 rD_152 kN_152 kK_152 kF_152 hF k9 j9 K9 J9 hk9 hj9 hK9 hJ9 kx H locs hP hD hS ls hl
      rw [f_L_makes_L152.eq_2] at hF
      refine lv_iload hx hb dL_makes_152 (lv_at hl 4 rfl) ?_
      refine lv_iconst (v := (4 : Int32)) hx hb dL_makes_154 (by decide) ?_
      obtain ⟨v17, hv17, hF⟩ := oB hF
      refine call_i (wr := [(aX, .inr (5, [.ref aC, .ref aR, .ref aH, .ref aT, .ref aL, .ref aS, .int xS, .int xF, .int xR_152, .int xD_152, .int xC_152])), (aC, .inr (0, [.ref aCr])), (aCr, .inl (K 0, 55, .inl row_152)), (aR, .inr (4, [.int rR_152, .int rD_152])), (aH, .inr (2, [.ref aHr, .int kN_152, .int kK_152])), (aHr, .inl (K 1, 495, .inl kF_152))]) (wn := [(aX, .inr (5, [.ref aC, .ref aR, .ref aH, .ref aT, .ref aL, .ref aS, .int xS, .int xF, .int xR_152, .int xD_152, .int xC_152])), (aC, .inr (0, [.ref aCr])), (aCr, .inl (K 0, 55, .inl row_152)), (aR, .inr (4, [.int rR_152, .int rD_152])), (aH, .inr (2, [.ref aHr, .int kN_152, .int kK_152])), (aHr, .inl (K 1, 495, .inl kF_152))]) (va_runS (As := [.int y152_4, .int (4 : Int32)]) (rest := []) ⟨hx, hb, hml, hown, hts⟩ (c_L_some l D K y152_4 (4 : Int32) v17 hv17 H.size) (va_cwS 2 hts gL_makes_L_some rfl rfl rfl (by decide +kernel) ⟨(Nat.le_of_ble_eq_true rfl), (Nat.le_of_ble_eq_true rfl)⟩) (prS hE hK hP hD hS hA [] rfl rfl) rfl rfl hl.1 rfl (lv_room (Nat.le_of_ble_eq_true rfl)) dL_makes_155 ⟨by show (k9 + 0) ≤ 145; omega, by show (j9 + 0) ≤ 870; omega⟩) hP hD hS hA [] [0, 1, 2, 3, 4, 5] [0, 1, 2, 3, 4, 5] rfl rfl rfl (by decide) rfl rfl (fun H locs hP hD hS => ?_)
      refine lv_if_ne (tgt := 164) hx hb dL_makes_158 (by decide) (fun c18 => ?_) (fun c18 => ?_)
      · have hF := oF c18 hF
        refine lv_aload_n hx hb dL_makes_164 rfl (lv_at hl 0 rfl) ?_
        refine lv_iload_n hx hb dL_makes_165 rfl (lv_at hl 3 rfl) ?_
        refine lv_aload_n hx hb dL_makes_166 rfl (lv_at hl 0 rfl) ?_
        refine lv_iload_n hx hb dL_makes_167 rfl (lv_at hl 3 rfl) ?_
        obtain ⟨v19, hv19, hF⟩ := oB hF
        refine callH_i (wr := [(aR, .inr (4, [.int rR_152, .int rD_152])), (aH, .inr (2, [.ref aHr, .int kN_152, .int kK_152])), (aHr, .inl (K 1, 495, .inl kF_152))]) (wn := [(aX, .inr (5, [.ref aC, .ref aR, .ref aH, .ref aT, .ref aL, .ref aS, .int xS, .int xF, .int xR_152, .int xD_152, .int xC_152])), (aC, .inr (0, [.ref aCr])), (aCr, .inl (K 0, 55, .inl row_152)), (aR, .inr (4, [.int rR_152, .int rD_152])), (aH, .inr (2, [.ref aHr, .int kN_152, .int kK_152])), (aHr, .inl (K 1, 495, .inl kF_152))]) (vx_runSX (As := [.ref aX, .int y152_3]) (rest := [.int y152_3, .ref aX]) ⟨hx, hb, hml, hown, hts⟩ (c_L_bestGuess l hfl D K aX aC aCr aR aH aT aL aS xS xF xR_152 xD_152 xC_152 row_152 y152_3 v19 hv19 H.size) (vx_cwSW 2 hts gL_makes_L_bestGuess rfl rfl rfl (by decide +kernel) ⟨(Nat.le_of_ble_eq_true rfl), (Nat.le_of_ble_eq_true rfl)⟩) (prS hE hK hP hD hS hA [0, 1, 2] rfl rfl) rfl rfl hl.1 rfl (lv_room (Nat.le_of_ble_eq_true rfl)) dL_makes_168 ⟨by show ((k9 + 0) + 1) ≤ 145; omega, by show ((j9 + 0) + 6) ≤ 870; omega⟩) hP hD hS hA [0, 1, 2] [3, 4, 5] [3, 4, 5, 0, 1, 2] rfl rfl rfl (by decide) rfl rfl (fun H locs hP hD hS => ?_)
        refine lv_iload hx hb dL_makes_171 (lv_at hl 4 rfl) ?_
        refine lv_iconst (v := (2 : Int32)) hx hb dL_makes_173 (by decide) ?_
        refine lv_ishr hx hb dL_makes_174 ?_
        refine lv_bipush (v := (30 : Int32)) hx hb dL_makes_175 (by decide) ?_
        obtain ⟨v20, hv20, hF⟩ := oB hF
        refine call_i (wr := [(aX, .inr (5, [.ref aC, .ref aR, .ref aH, .ref aT, .ref aL, .ref aS, .int xS, .int xF, .int xR_152, .int xD_152, .int xC_152])), (aC, .inr (0, [.ref aCr])), (aCr, .inl (K 0, 55, .inl row_152)), (aR, .inr (4, [.int rR_152, .int rD_152])), (aH, .inr (2, [.ref aHr, .int kN_152, .int kK_152])), (aHr, .inl (K 1, 495, .inl kF_152))]) (wn := [(aX, .inr (5, [.ref aC, .ref aR, .ref aH, .ref aT, .ref aL, .ref aS, .int xS, .int xF, .int xR_152, .int xD_152, .int xC_152])), (aC, .inr (0, [.ref aCr])), (aCr, .inl (K 0, 55, .inl row_152)), (aR, .inr (4, [.int rR_152, .int rD_152])), (aH, .inr (2, [.ref aHr, .int kN_152, .int kK_152])), (aHr, .inl (K 1, 495, .inl kF_152))]) (va_runS (As := [.int (y152_4 >>> ((2 : Int32) &&& 31)), .int (30 : Int32)]) (rest := [.int v19.1, .int y152_3, .ref aX]) ⟨hx, hb, hml, hown, hts⟩ (c_L_some l D K (y152_4 >>> ((2 : Int32) &&& 31)) (30 : Int32) v20 hv20 H.size) (va_cwS 2 hts gL_makes_L_some rfl rfl rfl (by decide +kernel) ⟨(Nat.le_of_ble_eq_true rfl), (Nat.le_of_ble_eq_true rfl)⟩) (prS hE hK hP hD hS hA [] rfl rfl) rfl rfl hl.1 rfl (lv_room (Nat.le_of_ble_eq_true rfl)) dL_makes_177 ⟨by show (((k9 + 0) + 1) + 0) ≤ 145; omega, by show (((j9 + 0) + 6) + 0) ≤ 870; omega⟩) hP hD hS hA [] [0, 1, 2, 3, 4, 5] [0, 1, 2, 3, 4, 5] rfl rfl rfl (by decide) rfl rfl (fun H locs hP hD hS => ?_)
        refine lv_isub hx hb dL_makes_180 ?_
        refine lv_iconst (v := (1 : Int32)) hx hb dL_makes_181 (by decide) ?_
        refine lv_iload hx hb dL_makes_182 (lv_at hl 4 rfl) ?_
        refine lv_bipush (v := (8 : Int32)) hx hb dL_makes_184 (by decide) ?_
        refine lv_ishr hx hb dL_makes_186 ?_
        refine lv_bipush (v := (9 : Int32)) hx hb dL_makes_187 (by decide) ?_
        obtain ⟨v21, hv21, hF⟩ := oB hF
        refine call_i (wr := [(aX, .inr (5, [.ref aC, .ref aR, .ref aH, .ref aT, .ref aL, .ref aS, .int xS, .int xF, .int xR_152, .int xD_152, .int xC_152])), (aC, .inr (0, [.ref aCr])), (aCr, .inl (K 0, 55, .inl row_152)), (aR, .inr (4, [.int rR_152, .int rD_152])), (aH, .inr (2, [.ref aHr, .int kN_152, .int kK_152])), (aHr, .inl (K 1, 495, .inl kF_152))]) (wn := [(aX, .inr (5, [.ref aC, .ref aR, .ref aH, .ref aT, .ref aL, .ref aS, .int xS, .int xF, .int xR_152, .int xD_152, .int xC_152])), (aC, .inr (0, [.ref aCr])), (aCr, .inl (K 0, 55, .inl row_152)), (aR, .inr (4, [.int rR_152, .int rD_152])), (aH, .inr (2, [.ref aHr, .int kN_152, .int kK_152])), (aHr, .inl (K 1, 495, .inl kF_152))]) (va_runS (As := [.int (y152_4 >>> ((8 : Int32) &&& 31)), .int (9 : Int32)]) (rest := [.int (1 : Int32), .int (v19.1 - v20.1), .int y152_3, .ref aX]) ⟨hx, hb, hml, hown, hts⟩ (c_L_some l D K (y152_4 >>> ((8 : Int32) &&& 31)) (9 : Int32) v21 hv21 H.size) (va_cwS 2 hts gL_makes_L_some rfl rfl rfl (by decide +kernel) ⟨(Nat.le_of_ble_eq_true rfl), (Nat.le_of_ble_eq_true rfl)⟩) (prS hE hK hP hD hS hA [] rfl rfl) rfl rfl hl.1 rfl (lv_room (Nat.le_of_ble_eq_true rfl)) dL_makes_189 ⟨by show ((((k9 + 0) + 1) + 0) + 0) ≤ 145; omega, by show ((((j9 + 0) + 6) + 0) + 0) ≤ 870; omega⟩) hP hD hS hA [] [0, 1, 2, 3, 4, 5] [0, 1, 2, 3, 4, 5] rfl rfl rfl (by decide) rfl rfl (fun H locs hP hD hS => ?_)
        refine lv_iadd hx hb dL_makes_192 ?_
        obtain ⟨v22, hv22, hF⟩ := oB hF
        refine callH_i (wr := []) (wn := [(aX, .inr (5, [.ref aC, .ref aR, .ref aH, .ref aT, .ref aL, .ref aS, .int xS, .int xF, .int v22.2.1, .int v22.2.2.1, .int v22.2.2.2.1])), (aC, .inr (0, [.ref aCr])), (aCr, .inl (K 0, 55, .inl v22.2.2.2.2.1)), (aR, .inr (4, [.int v22.2.2.2.2.2.1, .int v22.2.2.2.2.2.2.1])), (aH, .inr (2, [.ref aHr, .int v22.2.2.2.2.2.2.2.1, .int v22.2.2.2.2.2.2.2.2.1])), (aHr, .inl (K 1, 495, .inl v22.2.2.2.2.2.2.2.2.2))]) (vx_runSX (As := [.ref aX, .int y152_3, .int (v19.1 - v20.1), .int ((1 : Int32) + v21.1)]) (rest := []) ⟨hx, hb, hml, hown, hts⟩ (c_L_wager l hfl D K aX aC aCr aR aH aHr aT aL aS xS xF xR_152 xD_152 xC_152 row_152 rR_152 rD_152 kN_152 kK_152 kF_152 y152_3 (v19.1 - v20.1) ((1 : Int32) + v21.1) v22 hv22 H.size) (vx_cwSW 4 hts gL_makes_L_wager rfl rfl rfl (by decide +kernel) ⟨(Nat.le_of_ble_eq_true rfl), (Nat.le_of_ble_eq_true rfl)⟩) (prS hE hK hP hD hS hA [0, 1, 2, 3, 4, 5] rfl rfl) rfl rfl hl.1 rfl (lv_room (Nat.le_of_ble_eq_true rfl)) dL_makes_193 ⟨by show (((((k9 + 0) + 1) + 0) + 0) + 1) ≤ 145; omega, by show (((((j9 + 0) + 6) + 0) + 0) + 6) ≤ 870; omega⟩) hP hD hS hA [0, 1, 2, 3, 4, 5] [] [0, 1, 2, 3, 4, 5] rfl rfl rfl (by decide) rfl rfl (fun H locs hP hD hS => ?_)
        refine lv_iconst (v := (1 : Int32)) hx hb dL_makes_196 (by decide) ?_
        refine lv_icmp_ge (tgt := 211) hx hb dL_makes_197 (by decide) (fun c23 => ?_) (fun c23 => ?_)
        · have hF := oT c23 hF
          cases hF
          refine W.widen (k := K9) (n := J9) (by show (((((k9 + 0) + 1) + 0) + 0) + 1) ≤ _; omega) (by show (((((j9 + 0) + 6) + 0) + 0) + 6) ≤ _; omega) ?_
          exact kx _ _ hP hD hS _ (lv_sub hl [0, 1, 2, 3, 4] rfl)
        · have hF := oF c23 hF
          refine lv_aload_n hx hb dL_makes_200 rfl (lv_at hl 0 rfl) ?_
          refine lv_iconst (v := (1 : Int32)) hx hb dL_makes_201 (by decide) ?_
          refine lv_iconst (v := (0 : Int32)) hx hb dL_makes_202 (by decide) ?_
          obtain ⟨v24, hv24, hF⟩ := oB hF
          refine call_i (wr := [(aC, .inr (0, [.ref aCr])), (aCr, .inl (K 0, 55, .inl v22.2.2.2.2.1)), (aR, .inr (4, [.int v22.2.2.2.2.2.1, .int v22.2.2.2.2.2.2.1])), (aH, .inr (2, [.ref aHr, .int v22.2.2.2.2.2.2.2.1, .int v22.2.2.2.2.2.2.2.2.1])), (aHr, .inl (K 1, 495, .inl v22.2.2.2.2.2.2.2.2.2))]) (wn := [(aX, .inr (5, [.ref aC, .ref aR, .ref aH, .ref aT, .ref aL, .ref aS, .int xS, .int xF, .int v22.2.1, .int v22.2.2.1, .int v22.2.2.2.1])), (aC, .inr (0, [.ref aCr])), (aCr, .inl (K 0, 55, .inl v22.2.2.2.2.1)), (aR, .inr (4, [.int v22.2.2.2.2.2.1, .int v22.2.2.2.2.2.2.1])), (aH, .inr (2, [.ref aHr, .int v22.2.2.2.2.2.2.2.1, .int v22.2.2.2.2.2.2.2.2.1])), (aHr, .inl (K 1, 495, .inl v22.2.2.2.2.2.2.2.2.2))]) (va_runS (As := [.ref aX, .int (1 : Int32), .int (0 : Int32)]) (rest := []) ⟨hx, hb, hml, hown, hts⟩ (c_L_is l hfl D K aX aC aR aH aT aL aS xS xF v22.2.1 v22.2.2.1 v22.2.2.2.1 (1 : Int32) (0 : Int32) v24 hv24 H.size) (va_cwS 3 hts gL_makes_L_is rfl rfl rfl (by decide +kernel) ⟨(Nat.le_of_ble_eq_true rfl), (Nat.le_of_ble_eq_true rfl)⟩) (prS hE hK hP hD hS hA [0] rfl rfl) rfl rfl hl.1 rfl (lv_room (Nat.le_of_ble_eq_true rfl)) dL_makes_203 ⟨by show ((((((k9 + 0) + 1) + 0) + 0) + 1) + 4) ≤ 145; omega, by show ((((((j9 + 0) + 6) + 0) + 0) + 6) + 24) ≤ 870; omega⟩) hP hD hS hA [0] [1, 2, 3, 4, 5] [5, 0, 1, 2, 3, 4] rfl rfl rfl (by decide) rfl rfl (fun H locs hP hD hS => ?_)
          refine lv_if_ne (tgt := 211) hx hb dL_makes_206 (by decide) (fun c25 => ?_) (fun c25 => ?_)
          · have hF := oF c25 hF
            cases hF
            refine W.widen (k := K9) (n := J9) (by show ((((((k9 + 0) + 1) + 0) + 0) + 1) + 4) ≤ _; omega) (by show ((((((j9 + 0) + 6) + 0) + 0) + 6) + 24) ≤ _; omega) ?_
            exact kx _ _ hP hD hS _ (lv_sub hl [0, 1, 2, 3, 4] rfl)
          · have hF := oT c25 hF
            exact nomatch hF
      · have hF := oT c18 hF
        refine lv_goto (tgt := 211) hx hb dL_makes_161 (by decide) ?_
        cases hF
        refine W.widen (k := K9) (n := J9) (by show (k9 + 0) ≤ _; omega) (by show (j9 + 0) ≤ _; omega) ?_
        exact kx _ _ hP hD hS _ (lv_sub hl [0, 1, 2, 3, 4] rfl)
  have loop_137 : ∀ (y137_2 : Int32) (n : Nat) (y137_3 : Int32) (xR_137 : Int32) (xD_137 : Int32) (xC_137 : Int32) (row_137 : Nat → Int32) (rR_137 : Int32) (rD_137 : Int32) (kN_137 : Int32) (kK_137 : Int32) (kF_137 : Nat → Int32), f_L_makes_L137 LX xX y137_2 n y137_3 xR_137 xD_137 xC_137 row_137 rR_137 rD_137 kN_137 kK_137 kF_137 = some v → ∀ (k9 j9 : Nat), k9 + 6 * n = 136 → j9 + 36 * n = 816 → ∀ (H : Heap) (locs : List Loc), va_P D vwC7 [(aX, .inr (5, [.ref aC, .ref aR, .ref aH, .ref aT, .ref aL, .ref aS, .int xS, .int xF, .int xR_137, .int xD_137, .int xC_137])), (aC, .inr (0, [.ref aCr])), (aCr, .inl (K 0, 55, .inl row_137)), (aR, .inr (4, [.int rR_137, .int rD_137])), (aH, .inr (2, [.ref aHr, .int kN_137, .int kK_137])), (aHr, .inl (K 1, 495, .inl kF_137))] H → va_D A [(aX, .inr (5, [.ref aC, .ref aR, .ref aH, .ref aT, .ref aL, .ref aS, .int xS, .int xF, .int xR_137, .int xD_137, .int xC_137])), (aC, .inr (0, [.ref aCr])), (aCr, .inl (K 0, 55, .inl row_137)), (aR, .inr (4, [.int rR_137, .int rD_137])), (aH, .inr (2, [.ref aHr, .int kN_137, .int kK_137])), (aHr, .inl (K 1, 495, .inl kF_137))] → va_S A s.heap H locs → ∀ ls : Array Slot, lv_has ls 5 [(0, .ref aX), (1, .ref bX), (2, .int y137_2), (3, .int y137_3)] → W p l e RM_L_makes s m args below meth c H locs k9 j9 (MQ below (QI D (TY K) (wf_L_makes K aX aC aCr aR aH aHr aT aL aS xS xF) v A) args s MC_L_makes MS_L_makes A) (F0 m 137 ls []) := by
    intro y137_2 n
    induction n with
    | zero =>
      intro y137_3 xR_137 xD_137 xC_137 row_137 rR_137 rD_137 kN_137 kK_137 kF_137 hF
      exact nomatch hF
    | succ n ih =>
      intro y137_3 xR_137 xD_137 xC_137 row_137 rR_137 rD_137 kN_137 kK_137 kF_137 hF k9 j9 hk9 hj9 H locs hP hD hS ls hl
      rw [f_L_makes_L137.eq_2] at hF
      refine lv_iload_n hx hb dL_makes_137 rfl (lv_at hl 3 rfl) ?_
      refine lv_iload_n hx hb dL_makes_138 rfl (lv_at hl 2 rfl) ?_
      refine lv_icmp_ge (tgt := 217) hx hb dL_makes_139 (by decide) (fun c5 => ?_) (fun c5 => ?_)
      · have hF := oT c5 hF
        refine W.widen (k := 136) (n := 816) (by show k9 ≤ _; omega) (by show j9 ≤ _; omega) ?_
        refine lv_iconst (v := (0 : Int32)) hx hb dL_makes_217 (by decide) ?_
        refine lv_istore_n (lv' := [(3, .int (0 : Int32)), (0, .ref aX), (1, .ref bX), (2, .int y137_2)]) hx hb dL_makes_218 rfl hl (by decide) rfl (fun ls hl => ?_)
        exact loop_219 y137_2 3 (0 : Int32) xR_137 xD_137 xC_137 row_137 rR_137 rD_137 kN_137 kK_137 kF_137 hF 136 816 (by decide) (by decide) _ _ hP hD hS _ (lv_sub hl [1, 2, 3, 0] rfl)
      · have hF := oF c5 hF
        refine lv_aload_n hx hb dL_makes_142 rfl (lv_at hl 1 rfl) ?_
        refine lv_bipush (v := (11 : Int32)) hx hb dL_makes_143 (by decide) ?_
        refine lv_iload_n hx hb dL_makes_145 rfl (lv_at hl 3 rfl) ?_
        refine lv_iadd hx hb dL_makes_146 ?_
        obtain ⟨v16, hv16, hF⟩ := oB hF
        refine call_i (wr := [(aX, .inr (5, [.ref aC, .ref aR, .ref aH, .ref aT, .ref aL, .ref aS, .int xS, .int xF, .int xR_137, .int xD_137, .int xC_137])), (aC, .inr (0, [.ref aCr])), (aCr, .inl (K 0, 55, .inl row_137)), (aR, .inr (4, [.int rR_137, .int rD_137])), (aH, .inr (2, [.ref aHr, .int kN_137, .int kK_137])), (aHr, .inl (K 1, 495, .inl kF_137))]) (wn := [(aX, .inr (5, [.ref aC, .ref aR, .ref aH, .ref aT, .ref aL, .ref aS, .int xS, .int xF, .int xR_137, .int xD_137, .int xC_137])), (aC, .inr (0, [.ref aCr])), (aCr, .inl (K 0, 55, .inl row_137)), (aR, .inr (4, [.int rR_137, .int rD_137])), (aH, .inr (2, [.ref aHr, .int kN_137, .int kK_137])), (aHr, .inl (K 1, 495, .inl kF_137))]) (va_runS (As := [.ref bX, .int ((11 : Int32) + y137_3)]) (rest := []) ⟨hx, hb, hml, hown, hts⟩ (c_L_at l bX LX xX D K ((11 : Int32) + y137_3) v16 hv16 H.size) (va_cwS 2 hts gL_makes_L_at rfl rfl rfl (by decide +kernel) ⟨(Nat.le_of_ble_eq_true rfl), (Nat.le_of_ble_eq_true rfl)⟩) (prSE ExX_ok (hX_call ExX_ok hX hD hS hA [] rfl) hE hK hP hD hS hA [] rfl rfl) rfl rfl hl.1 rfl (lv_room (Nat.le_of_ble_eq_true rfl)) dL_makes_147 ⟨by show (k9 + 0) ≤ 145; omega, by show (j9 + 0) ≤ 870; omega⟩) hP hD hS hA [] [0, 1, 2, 3, 4, 5] [0, 1, 2, 3, 4, 5] rfl rfl rfl (by decide) rfl rfl (fun H locs hP hD hS => ?_)
        refine lv_istore (lv' := [(4, .int v16.1), (0, .ref aX), (1, .ref bX), (2, .int y137_2), (3, .int y137_3)]) hx hb dL_makes_150 hl (by decide) rfl (fun ls hl => ?_)
        obtain ⟨u26, hu26, hF⟩ := oB hF
        refine loop_152 y137_2 y137_3 v16.1 u26 1 xR_137 xD_137 xC_137 row_137 rR_137 rD_137 kN_137 kK_137 kF_137 hu26 (k9 + 0) (j9 + 0) ((k9 + 0) + 6) ((j9 + 0) + 36) (by omega) (by omega) (by omega) (by omega) (fun H locs hP hD hS ls hl => ?_) _ _ hP hD hS _ (lv_sub hl [1, 2, 3, 4, 0] rfl)
        refine lv_iinc (v := y137_3 + (1 : Int32)) (lv' := [(3, .int (y137_3 + (1 : Int32))), (0, .ref aX), (1, .ref bX), (2, .int y137_2), (4, .int v16.1)]) hx hb dL_makes_211 hl (k := 3) rfl (by first | rfl | decide) (by decide) rfl (fun ls hl => ?_)
        refine lv_goto (tgt := 137) hx hb dL_makes_214 (by decide) ?_
        refine W.widen (k := k9 + 6) (n := j9 + 36) (by show ((k9 + 0) + 6) ≤ _; omega) (by show ((j9 + 0) + 36) ≤ _; omega) ?_
        exact ih (y137_3 + (1 : Int32)) u26.1 u26.2.1 u26.2.2.1 u26.2.2.2.1 u26.2.2.2.2.1 u26.2.2.2.2.2.1 u26.2.2.2.2.2.2.1 u26.2.2.2.2.2.2.2.1 u26.2.2.2.2.2.2.2.2 hF (k9 + 6) (j9 + 36) (by omega) (by omega) _ _ hP hD hS _ (lv_sub hl [1, 2, 3, 0] rfl)
  have loop_101 : ∀ (y101_2 : Int32) (y101_3 : Int32) (y101_4 : Int32) (xR_101 : Int32) (xD_101 : Int32) (xC_101 : Int32) (row_101 : Nat → Int32) (rR_101 : Int32) (rD_101 : Int32) (kN_101 : Int32) (kK_101 : Int32) (kF_101 : Nat → Int32) (u : Unit) (n : Nat) , f_L_makes_L101 y101_4 xR_101 xD_101 xC_101 n  = some u → ∀ (k9 j9 K9 J9 : Nat), k9 + 1 * n = K9 → j9 + 6 * n = J9 → K9 ≤ 145 → J9 ≤ 870 → (∀ (H : Heap) (locs : List Loc), va_P D vwC7 [(aX, .inr (5, [.ref aC, .ref aR, .ref aH, .ref aT, .ref aL, .ref aS, .int xS, .int xF, .int xR_101, .int xD_101, .int xC_101])), (aC, .inr (0, [.ref aCr])), (aCr, .inl (K 0, 55, .inl row_101)), (aR, .inr (4, [.int rR_101, .int rD_101])), (aH, .inr (2, [.ref aHr, .int kN_101, .int kK_101])), (aHr, .inl (K 1, 495, .inl kF_101))] H → va_D A [(aX, .inr (5, [.ref aC, .ref aR, .ref aH, .ref aT, .ref aL, .ref aS, .int xS, .int xF, .int xR_101, .int xD_101, .int xC_101])), (aC, .inr (0, [.ref aCr])), (aCr, .inl (K 0, 55, .inl row_101)), (aR, .inr (4, [.int rR_101, .int rD_101])), (aH, .inr (2, [.ref aHr, .int kN_101, .int kK_101])), (aHr, .inl (K 1, 495, .inl kF_101))] → va_S A s.heap H locs → ∀ ls : Array Slot, lv_has ls 5 [(0, .ref aX), (1, .ref bX), (2, .int y101_2), (3, .int y101_3), (4, .int y101_4)] → W p l e RM_L_makes s m args below meth c H locs K9 J9 (MQ below (QI D (TY K) (wf_L_makes K aX aC aCr aR aH aHr aT aL aS xS xF) v A) args s MC_L_makes MS_L_makes A) (F0 m 129 ls [])) → ∀ (H : Heap) (locs : List Loc), va_P D vwC7 [(aX, .inr (5, [.ref aC, .ref aR, .ref aH, .ref aT, .ref aL, .ref aS, .int xS, .int xF, .int xR_101, .int xD_101, .int xC_101])), (aC, .inr (0, [.ref aCr])), (aCr, .inl (K 0, 55, .inl row_101)), (aR, .inr (4, [.int rR_101, .int rD_101])), (aH, .inr (2, [.ref aHr, .int kN_101, .int kK_101])), (aHr, .inl (K 1, 495, .inl kF_101))] H → va_D A [(aX, .inr (5, [.ref aC, .ref aR, .ref aH, .ref aT, .ref aL, .ref aS, .int xS, .int xF, .int xR_101, .int xD_101, .int xC_101])), (aC, .inr (0, [.ref aCr])), (aCr, .inl (K 0, 55, .inl row_101)), (aR, .inr (4, [.int rR_101, .int rD_101])), (aH, .inr (2, [.ref aHr, .int kN_101, .int kK_101])), (aHr, .inl (K 1, 495, .inl kF_101))] → va_S A s.heap H locs → ∀ ls : Array Slot, lv_has ls 5 [(0, .ref aX), (1, .ref bX), (2, .int y101_2), (3, .int y101_3), (4, .int y101_4)] → W p l e RM_L_makes s m args below meth c H locs k9 j9 (MQ below (QI D (TY K) (wf_L_makes K aX aC aCr aR aH aHr aT aL aS xS xF) v A) args s MC_L_makes MS_L_makes A) (F0 m 101 ls []) := by
    intro y101_2 y101_3 y101_4 xR_101 xD_101 xC_101 row_101 rR_101 rD_101 kN_101 kK_101 kF_101 u n
    induction n with
    | zero =>
      intro  hF
      exact nomatch hF
    | succ n ih =>
      intro  hF k9 j9 K9 J9 hk9 hj9 hK9 hJ9 kx H locs hP hD hS ls hl
      rw [f_L_makes_L101.eq_2] at hF
      refine lv_iload hx hb dL_makes_101 (lv_at hl 4 rfl) ?_
      refine lv_sipush (v := (900 : Int32)) hx hb dL_makes_103 (by decide) ?_
      refine lv_icmp_ge (tgt := 129) hx hb dL_makes_106 (by decide) (fun c30 => ?_) (fun c30 => ?_)
      · have hF := oT c30 hF
        cases hF
        refine W.widen (k := K9) (n := J9) (by show k9 ≤ _; omega) (by show j9 ≤ _; omega) ?_
        exact kx _ _ hP hD hS _ (lv_sub hl [0, 1, 2, 3, 4] rfl)
      · have hF := oF c30 hF
        refine lv_iload hx hb dL_makes_109 (lv_at hl 4 rfl) ?_
        refine lv_sipush (v := (-1001 : Int32)) hx hb dL_makes_111 (by decide) ?_
        refine lv_icmp_ne (tgt := 127) hx hb dL_makes_114 (by decide) (fun c31 => ?_) (fun c31 => ?_)
        · have hF := oF c31 hF
          exact nomatch hF
        · have hF := oT c31 hF
          refine lv_aload_n hx hb dL_makes_117 rfl (lv_at hl 0 rfl) ?_
          refine lv_iconst (v := (0 : Int32)) hx hb dL_makes_118 (by decide) ?_
          obtain ⟨v32, hv32, hF⟩ := oB hF
          refine callH_i (wr := [(aC, .inr (0, [.ref aCr])), (aCr, .inl (K 0, 55, .inl row_101)), (aR, .inr (4, [.int rR_101, .int rD_101])), (aH, .inr (2, [.ref aHr, .int kN_101, .int kK_101])), (aHr, .inl (K 1, 495, .inl kF_101))]) (wn := [(aX, .inr (5, [.ref aC, .ref aR, .ref aH, .ref aT, .ref aL, .ref aS, .int xS, .int xF, .int xR_101, .int xD_101, .int xC_101])), (aC, .inr (0, [.ref aCr])), (aCr, .inl (K 0, 55, .inl row_101)), (aR, .inr (4, [.int rR_101, .int rD_101])), (aH, .inr (2, [.ref aHr, .int kN_101, .int kK_101])), (aHr, .inl (K 1, 495, .inl kF_101))]) (vx_runSX (As := [.ref aX, .int (0 : Int32)]) (rest := []) ⟨hx, hb, hml, hown, hts⟩ (c_L_reason l hfl D K aX aC aR aH aT aL aS xS xF xR_101 xD_101 xC_101 (0 : Int32) v32 hv32 H.size) (vx_cwSW 2 hts gL_makes_L_reason rfl rfl rfl (by decide +kernel) ⟨(Nat.le_of_ble_eq_true rfl), (Nat.le_of_ble_eq_true rfl)⟩) (prS hE hK hP hD hS hA [0] rfl rfl) rfl rfl hl.1 rfl (lv_room (Nat.le_of_ble_eq_true rfl)) dL_makes_119 ⟨by show (k9 + 1) ≤ 145; omega, by show (j9 + 6) ≤ 870; omega⟩) hP hD hS hA [0] [1, 2, 3, 4, 5] [5, 0, 1, 2, 3, 4] rfl rfl rfl (by decide) rfl rfl (fun H locs hP hD hS => ?_)
          refine lv_bipush (v := (13 : Int32)) hx hb dL_makes_122 (by decide) ?_
          refine lv_icmp_eq (tgt := 129) hx hb dL_makes_124 (by decide) (fun c33 => ?_) (fun c33 => ?_)
          · have hF := oT c33 hF
            cases hF
            refine W.widen (k := K9) (n := J9) (by show (k9 + 1) ≤ _; omega) (by show (j9 + 6) ≤ _; omega) ?_
            exact kx _ _ hP hD hS _ (lv_sub hl [0, 1, 2, 3, 4] rfl)
          · have hF := oF c33 hF
            exact nomatch hF
  have loop_74 : ∀ (y74_2 : Int32) (n : Nat) (y74_3 : Int32) (xR_74 : Int32) (xD_74 : Int32) (xC_74 : Int32) (row_74 : Nat → Int32) (rR_74 : Int32) (rD_74 : Int32) (kN_74 : Int32) (kK_74 : Int32) (kF_74 : Nat → Int32), f_L_makes_L74 LX xX y74_2 n y74_3 xR_74 xD_74 xC_74 row_74 rR_74 rD_74 kN_74 kK_74 kF_74 = some v → ∀ (k9 j9 : Nat), k9 + 2 * n = 94 → j9 + 12 * n = 564 → ∀ (H : Heap) (locs : List Loc), va_P D vwC7 [(aX, .inr (5, [.ref aC, .ref aR, .ref aH, .ref aT, .ref aL, .ref aS, .int xS, .int xF, .int xR_74, .int xD_74, .int xC_74])), (aC, .inr (0, [.ref aCr])), (aCr, .inl (K 0, 55, .inl row_74)), (aR, .inr (4, [.int rR_74, .int rD_74])), (aH, .inr (2, [.ref aHr, .int kN_74, .int kK_74])), (aHr, .inl (K 1, 495, .inl kF_74))] H → va_D A [(aX, .inr (5, [.ref aC, .ref aR, .ref aH, .ref aT, .ref aL, .ref aS, .int xS, .int xF, .int xR_74, .int xD_74, .int xC_74])), (aC, .inr (0, [.ref aCr])), (aCr, .inl (K 0, 55, .inl row_74)), (aR, .inr (4, [.int rR_74, .int rD_74])), (aH, .inr (2, [.ref aHr, .int kN_74, .int kK_74])), (aHr, .inl (K 1, 495, .inl kF_74))] → va_S A s.heap H locs → ∀ ls : Array Slot, lv_has ls 5 [(0, .ref aX), (1, .ref bX), (2, .int y74_2), (3, .int y74_3)] → W p l e RM_L_makes s m args below meth c H locs k9 j9 (MQ below (QI D (TY K) (wf_L_makes K aX aC aCr aR aH aHr aT aL aS xS xF) v A) args s MC_L_makes MS_L_makes A) (F0 m 74 ls []) := by
    intro y74_2 n
    induction n with
    | zero =>
      intro y74_3 xR_74 xD_74 xC_74 row_74 rR_74 rD_74 kN_74 kK_74 kF_74 hF
      exact nomatch hF
    | succ n ih =>
      intro y74_3 xR_74 xD_74 xC_74 row_74 rR_74 rD_74 kN_74 kK_74 kF_74 hF k9 j9 hk9 hj9 H locs hP hD hS ls hl
      rw [f_L_makes_L74.eq_2] at hF
      refine lv_iload_n hx hb dL_makes_74 rfl (lv_at hl 3 rfl) ?_
      refine lv_iconst (v := (4 : Int32)) hx hb dL_makes_75 (by decide) ?_
      refine lv_icmp_ge (tgt := 135) hx hb dL_makes_76 (by decide) (fun c4 => ?_) (fun c4 => ?_)
      · have hF := oT c4 hF
        refine W.widen (k := 94) (n := 564) (by show k9 ≤ _; omega) (by show j9 ≤ _; omega) ?_
        refine lv_iconst (v := (0 : Int32)) hx hb dL_makes_135 (by decide) ?_
        refine lv_istore_n (lv' := [(3, .int (0 : Int32)), (0, .ref aX), (1, .ref bX), (2, .int y74_2)]) hx hb dL_makes_136 rfl hl (by decide) rfl (fun ls hl => ?_)
        exact loop_137 y74_2 7 (0 : Int32) xR_74 xD_74 xC_74 row_74 rR_74 rD_74 kN_74 kK_74 kF_74 hF 94 564 (by decide) (by decide) _ _ hP hD hS _ (lv_sub hl [1, 2, 3, 0] rfl)
      · have hF := oF c4 hF
        refine lv_aload_n hx hb dL_makes_79 rfl (lv_at hl 0 rfl) ?_
        refine lv_aload_n hx hb dL_makes_80 rfl (lv_at hl 1 rfl) ?_
        refine lv_bipush (v := (7 : Int32)) hx hb dL_makes_81 (by decide) ?_
        refine lv_iload_n hx hb dL_makes_83 rfl (lv_at hl 3 rfl) ?_
        refine lv_iadd hx hb dL_makes_84 ?_
        obtain ⟨v27, hv27, hF⟩ := oB hF
        refine call_i (wr := [(aX, .inr (5, [.ref aC, .ref aR, .ref aH, .ref aT, .ref aL, .ref aS, .int xS, .int xF, .int xR_74, .int xD_74, .int xC_74])), (aC, .inr (0, [.ref aCr])), (aCr, .inl (K 0, 55, .inl row_74)), (aR, .inr (4, [.int rR_74, .int rD_74])), (aH, .inr (2, [.ref aHr, .int kN_74, .int kK_74])), (aHr, .inl (K 1, 495, .inl kF_74))]) (wn := [(aX, .inr (5, [.ref aC, .ref aR, .ref aH, .ref aT, .ref aL, .ref aS, .int xS, .int xF, .int xR_74, .int xD_74, .int xC_74])), (aC, .inr (0, [.ref aCr])), (aCr, .inl (K 0, 55, .inl row_74)), (aR, .inr (4, [.int rR_74, .int rD_74])), (aH, .inr (2, [.ref aHr, .int kN_74, .int kK_74])), (aHr, .inl (K 1, 495, .inl kF_74))]) (va_runS (As := [.ref bX, .int ((7 : Int32) + y74_3)]) (rest := [.ref aX]) ⟨hx, hb, hml, hown, hts⟩ (c_L_at l bX LX xX D K ((7 : Int32) + y74_3) v27 hv27 H.size) (va_cwS 2 hts gL_makes_L_at rfl rfl rfl (by decide +kernel) ⟨(Nat.le_of_ble_eq_true rfl), (Nat.le_of_ble_eq_true rfl)⟩) (prSE ExX_ok (hX_call ExX_ok hX hD hS hA [] rfl) hE hK hP hD hS hA [] rfl rfl) rfl rfl hl.1 rfl (lv_room (Nat.le_of_ble_eq_true rfl)) dL_makes_85 ⟨by show (k9 + 0) ≤ 145; omega, by show (j9 + 0) ≤ 870; omega⟩) hP hD hS hA [] [0, 1, 2, 3, 4, 5] [0, 1, 2, 3, 4, 5] rfl rfl rfl (by decide) rfl rfl (fun H locs hP hD hS => ?_)
        refine lv_bipush (v := (81 : Int32)) hx hb dL_makes_88 (by decide) ?_
        obtain ⟨v28, hv28, hF⟩ := oB hF
        refine call_i (wr := [(aX, .inr (5, [.ref aC, .ref aR, .ref aH, .ref aT, .ref aL, .ref aS, .int xS, .int xF, .int xR_74, .int xD_74, .int xC_74])), (aC, .inr (0, [.ref aCr])), (aCr, .inl (K 0, 55, .inl row_74)), (aR, .inr (4, [.int rR_74, .int rD_74])), (aH, .inr (2, [.ref aHr, .int kN_74, .int kK_74])), (aHr, .inl (K 1, 495, .inl kF_74))]) (wn := [(aX, .inr (5, [.ref aC, .ref aR, .ref aH, .ref aT, .ref aL, .ref aS, .int xS, .int xF, .int xR_74, .int xD_74, .int xC_74])), (aC, .inr (0, [.ref aCr])), (aCr, .inl (K 0, 55, .inl row_74)), (aR, .inr (4, [.int rR_74, .int rD_74])), (aH, .inr (2, [.ref aHr, .int kN_74, .int kK_74])), (aHr, .inl (K 1, 495, .inl kF_74))]) (va_runS (As := [.int v27.1, .int (81 : Int32)]) (rest := [.ref aX]) ⟨hx, hb, hml, hown, hts⟩ (c_L_some l D K v27.1 (81 : Int32) v28 hv28 H.size) (va_cwS 2 hts gL_makes_L_some rfl rfl rfl (by decide +kernel) ⟨(Nat.le_of_ble_eq_true rfl), (Nat.le_of_ble_eq_true rfl)⟩) (prS hE hK hP hD hS hA [] rfl rfl) rfl rfl hl.1 rfl (lv_room (Nat.le_of_ble_eq_true rfl)) dL_makes_90 ⟨by show ((k9 + 0) + 0) ≤ 145; omega, by show ((j9 + 0) + 0) ≤ 870; omega⟩) hP hD hS hA [] [0, 1, 2, 3, 4, 5] [0, 1, 2, 3, 4, 5] rfl rfl rfl (by decide) rfl rfl (fun H locs hP hD hS => ?_)
        refine lv_bipush (v := (40 : Int32)) hx hb dL_makes_93 (by decide) ?_
        refine lv_isub hx hb dL_makes_95 ?_
        obtain ⟨v29, hv29, hF⟩ := oB hF
        refine callH_i (wr := []) (wn := [(aX, .inr (5, [.ref aC, .ref aR, .ref aH, .ref aT, .ref aL, .ref aS, .int xS, .int xF, .int v29.2.1, .int v29.2.2.1, .int v29.2.2.2.1])), (aC, .inr (0, [.ref aCr])), (aCr, .inl (K 0, 55, .inl v29.2.2.2.2.1)), (aR, .inr (4, [.int v29.2.2.2.2.2.1, .int v29.2.2.2.2.2.2.1])), (aH, .inr (2, [.ref aHr, .int v29.2.2.2.2.2.2.2.1, .int v29.2.2.2.2.2.2.2.2.1])), (aHr, .inl (K 1, 495, .inl v29.2.2.2.2.2.2.2.2.2))]) (vx_runSX (As := [.ref aX, .int (v28.1 - (40 : Int32))]) (rest := []) ⟨hx, hb, hml, hown, hts⟩ (c_L_day l hfl D K aX aC aCr aR aH aHr aT aL aS xS xF xR_74 xD_74 xC_74 row_74 rR_74 rD_74 kN_74 kK_74 kF_74 (v28.1 - (40 : Int32)) v29 hv29 H.size) (vx_cwSW 2 hts gL_makes_L_day rfl rfl rfl (by decide +kernel) ⟨(Nat.le_of_ble_eq_true rfl), (Nat.le_of_ble_eq_true rfl)⟩) (prS hE hK hP hD hS hA [0, 1, 2, 3, 4, 5] rfl rfl) rfl rfl hl.1 rfl (lv_room (Nat.le_of_ble_eq_true rfl)) dL_makes_96 ⟨by show (((k9 + 0) + 0) + 1) ≤ 145; omega, by show (((j9 + 0) + 0) + 6) ≤ 870; omega⟩) hP hD hS hA [0, 1, 2, 3, 4, 5] [] [0, 1, 2, 3, 4, 5] rfl rfl rfl (by decide) rfl rfl (fun H locs hP hD hS => ?_)
        refine lv_istore (lv' := [(4, .int v29.1), (0, .ref aX), (1, .ref bX), (2, .int y74_2), (3, .int y74_3)]) hx hb dL_makes_99 hl (by decide) rfl (fun ls hl => ?_)
        obtain ⟨u34, hu34, hF⟩ := oB hF
        refine loop_101 y74_2 y74_3 v29.1 v29.2.1 v29.2.2.1 v29.2.2.2.1 v29.2.2.2.2.1 v29.2.2.2.2.2.1 v29.2.2.2.2.2.2.1 v29.2.2.2.2.2.2.2.1 v29.2.2.2.2.2.2.2.2.1 v29.2.2.2.2.2.2.2.2.2 u34 1  hu34 (((k9 + 0) + 0) + 1) (((j9 + 0) + 0) + 6) ((((k9 + 0) + 0) + 1) + 1) ((((j9 + 0) + 0) + 6) + 6) (by omega) (by omega) (by omega) (by omega) (fun H locs hP hD hS ls hl => ?_) _ _ hP hD hS _ (lv_sub hl [1, 2, 3, 4, 0] rfl)
        refine lv_iinc (v := y74_3 + (1 : Int32)) (lv' := [(3, .int (y74_3 + (1 : Int32))), (0, .ref aX), (1, .ref bX), (2, .int y74_2), (4, .int v29.1)]) hx hb dL_makes_129 hl (k := 3) rfl (by first | rfl | decide) (by decide) rfl (fun ls hl => ?_)
        refine lv_goto (tgt := 74) hx hb dL_makes_132 (by decide) ?_
        refine W.widen (k := k9 + 2) (n := j9 + 12) (by show ((((k9 + 0) + 0) + 1) + 1) ≤ _; omega) (by show ((((j9 + 0) + 0) + 6) + 6) ≤ _; omega) ?_
        exact ih (y74_3 + (1 : Int32)) v29.2.1 v29.2.2.1 v29.2.2.2.1 v29.2.2.2.2.1 v29.2.2.2.2.2.1 v29.2.2.2.2.2.2.1 v29.2.2.2.2.2.2.2.1 v29.2.2.2.2.2.2.2.2.1 v29.2.2.2.2.2.2.2.2.2 hF (k9 + 2) (j9 + 12) (by omega) (by omega) _ _ hP hD hS _ (lv_sub hl [1, 2, 3, 0] rfl)
  have loop_33 : ∀ (y33_2 : Int32) (y33_3 : Int32) (xR_33 : Int32) (xD_33 : Int32) (xC_33 : Int32) (row_33 : Nat → Int32) (rR_33 : Int32) (rD_33 : Int32) (kN_33 : Int32) (kK_33 : Int32) (kF_33 : Nat → Int32) (u : Int32) (n : Nat) (y33_4 : Int32), f_L_makes_L33 row_33 n y33_4 = some u → ∀ (k9 j9 K9 J9 : Nat), k9 + 1 * n = K9 → j9 + 6 * n = J9 → K9 ≤ 145 → J9 ≤ 870 → (∀ (H : Heap) (locs : List Loc), va_P D vwC7 [(aX, .inr (5, [.ref aC, .ref aR, .ref aH, .ref aT, .ref aL, .ref aS, .int xS, .int xF, .int xR_33, .int xD_33, .int xC_33])), (aC, .inr (0, [.ref aCr])), (aCr, .inl (K 0, 55, .inl row_33)), (aR, .inr (4, [.int rR_33, .int rD_33])), (aH, .inr (2, [.ref aHr, .int kN_33, .int kK_33])), (aHr, .inl (K 1, 495, .inl kF_33))] H → va_D A [(aX, .inr (5, [.ref aC, .ref aR, .ref aH, .ref aT, .ref aL, .ref aS, .int xS, .int xF, .int xR_33, .int xD_33, .int xC_33])), (aC, .inr (0, [.ref aCr])), (aCr, .inl (K 0, 55, .inl row_33)), (aR, .inr (4, [.int rR_33, .int rD_33])), (aH, .inr (2, [.ref aHr, .int kN_33, .int kK_33])), (aHr, .inl (K 1, 495, .inl kF_33))] → va_S A s.heap H locs → ∀ ls : Array Slot, lv_has ls 5 [(0, .ref aX), (1, .ref bX), (2, .int y33_2), (3, .int y33_3), (4, .int u)] → W p l e RM_L_makes s m args below meth c H locs K9 J9 (MQ below (QI D (TY K) (wf_L_makes K aX aC aCr aR aH aHr aT aL aS xS xF) v A) args s MC_L_makes MS_L_makes A) (F0 m 54 ls [])) → ∀ (H : Heap) (locs : List Loc), va_P D vwC7 [(aX, .inr (5, [.ref aC, .ref aR, .ref aH, .ref aT, .ref aL, .ref aS, .int xS, .int xF, .int xR_33, .int xD_33, .int xC_33])), (aC, .inr (0, [.ref aCr])), (aCr, .inl (K 0, 55, .inl row_33)), (aR, .inr (4, [.int rR_33, .int rD_33])), (aH, .inr (2, [.ref aHr, .int kN_33, .int kK_33])), (aHr, .inl (K 1, 495, .inl kF_33))] H → va_D A [(aX, .inr (5, [.ref aC, .ref aR, .ref aH, .ref aT, .ref aL, .ref aS, .int xS, .int xF, .int xR_33, .int xD_33, .int xC_33])), (aC, .inr (0, [.ref aCr])), (aCr, .inl (K 0, 55, .inl row_33)), (aR, .inr (4, [.int rR_33, .int rD_33])), (aH, .inr (2, [.ref aHr, .int kN_33, .int kK_33])), (aHr, .inl (K 1, 495, .inl kF_33))] → va_S A s.heap H locs → ∀ ls : Array Slot, lv_has ls 5 [(0, .ref aX), (1, .ref bX), (2, .int y33_2), (3, .int y33_3), (4, .int y33_4)] → W p l e RM_L_makes s m args below meth c H locs k9 j9 (MQ below (QI D (TY K) (wf_L_makes K aX aC aCr aR aH aHr aT aL aS xS xF) v A) args s MC_L_makes MS_L_makes A) (F0 m 33 ls []) := by
    intro y33_2 y33_3 xR_33 xD_33 xC_33 row_33 rR_33 rD_33 kN_33 kK_33 kF_33 u n
    induction n with
    | zero =>
      intro y33_4 hF
      exact nomatch hF
    | succ n ih =>
      intro y33_4 hF k9 j9 K9 J9 hk9 hj9 hK9 hJ9 kx H locs hP hD hS ls hl
      rw [f_L_makes_L33.eq_2] at hF
      refine lv_aload_n hx hb dL_makes_33 rfl (lv_at hl 0 rfl) ?_
      refine lv_iload hx hb dL_makes_34 (lv_at hl 4 rfl) ?_
      obtain ⟨v37, hv37, hF⟩ := oB hF
      refine callH_i (wr := [(aR, .inr (4, [.int rR_33, .int rD_33])), (aH, .inr (2, [.ref aHr, .int kN_33, .int kK_33])), (aHr, .inl (K 1, 495, .inl kF_33))]) (wn := [(aX, .inr (5, [.ref aC, .ref aR, .ref aH, .ref aT, .ref aL, .ref aS, .int xS, .int xF, .int xR_33, .int xD_33, .int xC_33])), (aC, .inr (0, [.ref aCr])), (aCr, .inl (K 0, 55, .inl row_33)), (aR, .inr (4, [.int rR_33, .int rD_33])), (aH, .inr (2, [.ref aHr, .int kN_33, .int kK_33])), (aHr, .inl (K 1, 495, .inl kF_33))]) (vx_runSX (As := [.ref aX, .int y33_4]) (rest := []) ⟨hx, hb, hml, hown, hts⟩ (c_L_owner l hfl D K aX aC aCr aR aH aT aL aS xS xF xR_33 xD_33 xC_33 row_33 y33_4 v37 hv37 H.size) (vx_cwSW 2 hts gL_makes_L_owner rfl rfl rfl (by decide +kernel) ⟨(Nat.le_of_ble_eq_true rfl), (Nat.le_of_ble_eq_true rfl)⟩) (prS hE hK hP hD hS hA [0, 1, 2] rfl rfl) rfl rfl hl.1 rfl (lv_room (Nat.le_of_ble_eq_true rfl)) dL_makes_36 ⟨by show (k9 + 1) ≤ 145; omega, by show (j9 + 6) ≤ 870; omega⟩) hP hD hS hA [0, 1, 2] [3, 4, 5] [3, 4, 5, 0, 1, 2] rfl rfl rfl (by decide) rfl rfl (fun H locs hP hD hS => ?_)
      refine lv_if_lt (tgt := 54) hx hb dL_makes_39 (by decide) (fun c38 => ?_) (fun c38 => ?_)
      · have hF := oT c38 hF
        cases hF
        refine W.widen (k := K9) (n := J9) (by show (k9 + 1) ≤ _; omega) (by show (j9 + 6) ≤ _; omega) ?_
        exact kx _ _ hP hD hS _ (lv_sub hl [0, 1, 2, 3, 4] rfl)
      · have hF := oF c38 hF
        refine lv_iload hx hb dL_makes_42 (lv_at hl 4 rfl) ?_
        refine lv_iconst (v := (1 : Int32)) hx hb dL_makes_44 (by decide) ?_
        refine lv_iadd hx hb dL_makes_45 ?_
        refine lv_bipush (v := (10 : Int32)) hx hb dL_makes_46 (by decide) ?_
        refine lv_irem hx hb dL_makes_48 (by decide) ?_
        refine lv_istore (lv' := [(4, .int ((y33_4 + (1 : Int32)) - (y33_4 + (1 : Int32)) / (10 : Int32) * (10 : Int32))), (0, .ref aX), (1, .ref bX), (2, .int y33_2), (3, .int y33_3)]) hx hb dL_makes_49 hl (by decide) rfl (fun ls hl => ?_)
        refine lv_goto (tgt := 33) hx hb dL_makes_51 (by decide) ?_
        refine W.widen (k := k9 + 1) (n := j9 + 6) (by show (k9 + 1) ≤ _; omega) (by show (j9 + 6) ≤ _; omega) ?_
        exact ih ((y33_4 + (1 : Int32)) - (y33_4 + (1 : Int32)) / (10 : Int32) * (10 : Int32)) hF (k9 + 1) (j9 + 6) K9 J9 (by omega) (by omega) hK9 hJ9 kx _ _ hP hD hS _ (lv_sub hl [1, 2, 3, 4, 0] rfl)
  have loop_14 : ∀ (y14_2 : Int32) (n : Nat) (y14_3 : Int32) (xR_14 : Int32) (xD_14 : Int32) (xC_14 : Int32) (row_14 : Nat → Int32) (rR_14 : Int32) (rD_14 : Int32) (kN_14 : Int32) (kK_14 : Int32) (kF_14 : Nat → Int32), f_L_makes_L14 LX xX y14_2 n y14_3 xR_14 xD_14 xC_14 row_14 rR_14 rD_14 kN_14 kK_14 kF_14 = some v → ∀ (k9 j9 : Nat), k9 + 12 * n = 84 → j9 + 72 * n = 504 → ∀ (H : Heap) (locs : List Loc), va_P D vwC7 [(aX, .inr (5, [.ref aC, .ref aR, .ref aH, .ref aT, .ref aL, .ref aS, .int xS, .int xF, .int xR_14, .int xD_14, .int xC_14])), (aC, .inr (0, [.ref aCr])), (aCr, .inl (K 0, 55, .inl row_14)), (aR, .inr (4, [.int rR_14, .int rD_14])), (aH, .inr (2, [.ref aHr, .int kN_14, .int kK_14])), (aHr, .inl (K 1, 495, .inl kF_14))] H → va_D A [(aX, .inr (5, [.ref aC, .ref aR, .ref aH, .ref aT, .ref aL, .ref aS, .int xS, .int xF, .int xR_14, .int xD_14, .int xC_14])), (aC, .inr (0, [.ref aCr])), (aCr, .inl (K 0, 55, .inl row_14)), (aR, .inr (4, [.int rR_14, .int rD_14])), (aH, .inr (2, [.ref aHr, .int kN_14, .int kK_14])), (aHr, .inl (K 1, 495, .inl kF_14))] → va_S A s.heap H locs → ∀ ls : Array Slot, lv_has ls 5 [(0, .ref aX), (1, .ref bX), (2, .int y14_2), (3, .int y14_3)] → W p l e RM_L_makes s m args below meth c H locs k9 j9 (MQ below (QI D (TY K) (wf_L_makes K aX aC aCr aR aH aHr aT aL aS xS xF) v A) args s MC_L_makes MS_L_makes A) (F0 m 14 ls []) := by
    intro y14_2 n
    induction n with
    | zero =>
      intro y14_3 xR_14 xD_14 xC_14 row_14 rR_14 rD_14 kN_14 kK_14 kF_14 hF
      exact nomatch hF
    | succ n ih =>
      intro y14_3 xR_14 xD_14 xC_14 row_14 rR_14 rD_14 kN_14 kK_14 kF_14 hF k9 j9 hk9 hj9 H locs hP hD hS ls hl
      rw [f_L_makes_L14.eq_2] at hF
      refine lv_iload_n hx hb dL_makes_14 rfl (lv_at hl 3 rfl) ?_
      refine lv_iload_n hx hb dL_makes_15 rfl (lv_at hl 2 rfl) ?_
      refine lv_icmp_ge (tgt := 72) hx hb dL_makes_16 (by decide) (fun c3 => ?_) (fun c3 => ?_)
      · have hF := oT c3 hF
        refine W.widen (k := 84) (n := 504) (by show k9 ≤ _; omega) (by show j9 ≤ _; omega) ?_
        refine lv_iconst (v := (0 : Int32)) hx hb dL_makes_72 (by decide) ?_
        refine lv_istore_n (lv' := [(3, .int (0 : Int32)), (0, .ref aX), (1, .ref bX), (2, .int y14_2)]) hx hb dL_makes_73 rfl hl (by decide) rfl (fun ls hl => ?_)
        exact loop_74 y14_2 5 (0 : Int32) xR_14 xD_14 xC_14 row_14 rR_14 rD_14 kN_14 kK_14 kF_14 hF 84 504 (by decide) (by decide) _ _ hP hD hS _ (lv_sub hl [1, 2, 3, 0] rfl)
      · have hF := oF c3 hF
        refine lv_aload_n hx hb dL_makes_19 rfl (lv_at hl 1 rfl) ?_
        refine lv_iconst (v := (1 : Int32)) hx hb dL_makes_20 (by decide) ?_
        refine lv_iload_n hx hb dL_makes_21 rfl (lv_at hl 3 rfl) ?_
        refine lv_iadd hx hb dL_makes_22 ?_
        obtain ⟨v35, hv35, hF⟩ := oB hF
        refine call_i (wr := [(aX, .inr (5, [.ref aC, .ref aR, .ref aH, .ref aT, .ref aL, .ref aS, .int xS, .int xF, .int xR_14, .int xD_14, .int xC_14])), (aC, .inr (0, [.ref aCr])), (aCr, .inl (K 0, 55, .inl row_14)), (aR, .inr (4, [.int rR_14, .int rD_14])), (aH, .inr (2, [.ref aHr, .int kN_14, .int kK_14])), (aHr, .inl (K 1, 495, .inl kF_14))]) (wn := [(aX, .inr (5, [.ref aC, .ref aR, .ref aH, .ref aT, .ref aL, .ref aS, .int xS, .int xF, .int xR_14, .int xD_14, .int xC_14])), (aC, .inr (0, [.ref aCr])), (aCr, .inl (K 0, 55, .inl row_14)), (aR, .inr (4, [.int rR_14, .int rD_14])), (aH, .inr (2, [.ref aHr, .int kN_14, .int kK_14])), (aHr, .inl (K 1, 495, .inl kF_14))]) (va_runS (As := [.ref bX, .int ((1 : Int32) + y14_3)]) (rest := []) ⟨hx, hb, hml, hown, hts⟩ (c_L_at l bX LX xX D K ((1 : Int32) + y14_3) v35 hv35 H.size) (va_cwS 2 hts gL_makes_L_at rfl rfl rfl (by decide +kernel) ⟨(Nat.le_of_ble_eq_true rfl), (Nat.le_of_ble_eq_true rfl)⟩) (prSE ExX_ok (hX_call ExX_ok hX hD hS hA [] rfl) hE hK hP hD hS hA [] rfl rfl) rfl rfl hl.1 rfl (lv_room (Nat.le_of_ble_eq_true rfl)) dL_makes_23 ⟨by show (k9 + 0) ≤ 145; omega, by show (j9 + 0) ≤ 870; omega⟩) hP hD hS hA [] [0, 1, 2, 3, 4, 5] [0, 1, 2, 3, 4, 5] rfl rfl rfl (by decide) rfl rfl (fun H locs hP hD hS => ?_)
        refine lv_bipush (v := (10 : Int32)) hx hb dL_makes_26 (by decide) ?_
        obtain ⟨v36, hv36, hF⟩ := oB hF
        refine call_i (wr := [(aX, .inr (5, [.ref aC, .ref aR, .ref aH, .ref aT, .ref aL, .ref aS, .int xS, .int xF, .int xR_14, .int xD_14, .int xC_14])), (aC, .inr (0, [.ref aCr])), (aCr, .inl (K 0, 55, .inl row_14)), (aR, .inr (4, [.int rR_14, .int rD_14])), (aH, .inr (2, [.ref aHr, .int kN_14, .int kK_14])), (aHr, .inl (K 1, 495, .inl kF_14))]) (wn := [(aX, .inr (5, [.ref aC, .ref aR, .ref aH, .ref aT, .ref aL, .ref aS, .int xS, .int xF, .int xR_14, .int xD_14, .int xC_14])), (aC, .inr (0, [.ref aCr])), (aCr, .inl (K 0, 55, .inl row_14)), (aR, .inr (4, [.int rR_14, .int rD_14])), (aH, .inr (2, [.ref aHr, .int kN_14, .int kK_14])), (aHr, .inl (K 1, 495, .inl kF_14))]) (va_runS (As := [.int v35.1, .int (10 : Int32)]) (rest := []) ⟨hx, hb, hml, hown, hts⟩ (c_L_some l D K v35.1 (10 : Int32) v36 hv36 H.size) (va_cwS 2 hts gL_makes_L_some rfl rfl rfl (by decide +kernel) ⟨(Nat.le_of_ble_eq_true rfl), (Nat.le_of_ble_eq_true rfl)⟩) (prS hE hK hP hD hS hA [] rfl rfl) rfl rfl hl.1 rfl (lv_room (Nat.le_of_ble_eq_true rfl)) dL_makes_28 ⟨by show ((k9 + 0) + 0) ≤ 145; omega, by show ((j9 + 0) + 0) ≤ 870; omega⟩) hP hD hS hA [] [0, 1, 2, 3, 4, 5] [0, 1, 2, 3, 4, 5] rfl rfl rfl (by decide) rfl rfl (fun H locs hP hD hS => ?_)
        refine lv_istore (lv' := [(4, .int v36.1), (0, .ref aX), (1, .ref bX), (2, .int y14_2), (3, .int y14_3)]) hx hb dL_makes_31 hl (by decide) rfl (fun ls hl => ?_)
        obtain ⟨u39, hu39, hF⟩ := oB hF
        refine loop_33 y14_2 y14_3 xR_14 xD_14 xC_14 row_14 rR_14 rD_14 kN_14 kK_14 kF_14 u39 11 v36.1 hu39 ((k9 + 0) + 0) ((j9 + 0) + 0) (((k9 + 0) + 0) + 11) (((j9 + 0) + 0) + 66) (by omega) (by omega) (by omega) (by omega) (fun H locs hP hD hS ls hl => ?_) _ _ hP hD hS _ (lv_sub hl [1, 2, 3, 4, 0] rfl)
        refine lv_aload_n hx hb dL_makes_54 rfl (lv_at hl 0 rfl) ?_
        refine lv_iload hx hb dL_makes_55 (lv_at hl 4 rfl) ?_
        obtain ⟨v40, hv40, hF⟩ := oB hF
        refine callH_i (wr := []) (wn := [(aX, .inr (5, [.ref aC, .ref aR, .ref aH, .ref aT, .ref aL, .ref aS, .int xS, .int xF, .int v40.2.1, .int v40.2.2.1, .int v40.2.2.2.1])), (aC, .inr (0, [.ref aCr])), (aCr, .inl (K 0, 55, .inl v40.2.2.2.2.1)), (aR, .inr (4, [.int v40.2.2.2.2.2.1, .int v40.2.2.2.2.2.2.1])), (aH, .inr (2, [.ref aHr, .int v40.2.2.2.2.2.2.2.1, .int v40.2.2.2.2.2.2.2.2.1])), (aHr, .inl (K 1, 495, .inl v40.2.2.2.2.2.2.2.2.2))]) (vx_runSX (As := [.ref aX, .int u39]) (rest := []) ⟨hx, hb, hml, hown, hts⟩ (c_L_join l hfl D K aX aC aCr aR aH aHr aT aL aS xS xF xR_14 xD_14 xC_14 row_14 rR_14 rD_14 kN_14 kK_14 kF_14 u39 v40 hv40 H.size) (vx_cwSW 2 hts gL_makes_L_join rfl rfl rfl (by decide +kernel) ⟨(Nat.le_of_ble_eq_true rfl), (Nat.le_of_ble_eq_true rfl)⟩) (prS hE hK hP hD hS hA [0, 1, 2, 3, 4, 5] rfl rfl) rfl rfl hl.1 rfl (lv_room (Nat.le_of_ble_eq_true rfl)) dL_makes_57 ⟨by show ((((k9 + 0) + 0) + 11) + 1) ≤ 145; omega, by show ((((j9 + 0) + 0) + 66) + 6) ≤ 870; omega⟩) hP hD hS hA [0, 1, 2, 3, 4, 5] [] [0, 1, 2, 3, 4, 5] rfl rfl rfl (by decide) rfl rfl (fun H locs hP hD hS => ?_)
        refine lv_iload_n hx hb dL_makes_60 rfl (lv_at hl 3 rfl) ?_
        refine lv_icmp_eq (tgt := 66) hx hb dL_makes_61 (by decide) (fun c41 => ?_) (fun c41 => ?_)
        · have hF := oT c41 hF
          refine lv_iinc (v := y14_3 + (1 : Int32)) (lv' := [(3, .int (y14_3 + (1 : Int32))), (0, .ref aX), (1, .ref bX), (2, .int y14_2), (4, .int u39)]) hx hb dL_makes_66 hl (k := 3) rfl (by first | rfl | decide) (by decide) rfl (fun ls hl => ?_)
          refine lv_goto (tgt := 14) hx hb dL_makes_69 (by decide) ?_
          refine W.widen (k := k9 + 12) (n := j9 + 72) (by show ((((k9 + 0) + 0) + 11) + 1) ≤ _; omega) (by show ((((j9 + 0) + 0) + 66) + 6) ≤ _; omega) ?_
          exact ih (y14_3 + (1 : Int32)) v40.2.1 v40.2.2.1 v40.2.2.2.1 v40.2.2.2.2.1 v40.2.2.2.2.2.1 v40.2.2.2.2.2.2.1 v40.2.2.2.2.2.2.2.1 v40.2.2.2.2.2.2.2.2.1 v40.2.2.2.2.2.2.2.2.2 hF (k9 + 12) (j9 + 72) (by omega) (by omega) _ _ hP hD hS _ (lv_sub hl [1, 2, 3, 0] rfl)
        · have hF := oF c41 hF
          exact nomatch hF
  rw [f_L_makes] at hF
  refine lv_iconst (v := (2 : Int32)) hx hb dL_makes_0 (by decide) ?_
  refine lv_aload_n hx hb dL_makes_1 rfl (lv_at hl 1 rfl) ?_
  refine lv_iconst (v := (0 : Int32)) hx hb dL_makes_2 (by decide) ?_
  obtain ⟨v1, hv1, hF⟩ := oB hF
  refine call_i (wr := [(aX, .inr (5, [.ref aC, .ref aR, .ref aH, .ref aT, .ref aL, .ref aS, .int xS, .int xF, .int xR, .int xD, .int xC])), (aC, .inr (0, [.ref aCr])), (aCr, .inl (K 0, 55, .inl row)), (aR, .inr (4, [.int rR, .int rD])), (aH, .inr (2, [.ref aHr, .int kN, .int kK])), (aHr, .inl (K 1, 495, .inl kF))]) (wn := [(aX, .inr (5, [.ref aC, .ref aR, .ref aH, .ref aT, .ref aL, .ref aS, .int xS, .int xF, .int xR, .int xD, .int xC])), (aC, .inr (0, [.ref aCr])), (aCr, .inl (K 0, 55, .inl row)), (aR, .inr (4, [.int rR, .int rD])), (aH, .inr (2, [.ref aHr, .int kN, .int kK])), (aHr, .inl (K 1, 495, .inl kF))]) (va_runS (As := [.ref bX, .int (0 : Int32)]) (rest := [.int (2 : Int32)]) ⟨hx, hb, hml, hown, hts⟩ (c_L_at l bX LX xX D K (0 : Int32) v1 hv1 s.heap.size) (va_cwS 2 hts gL_makes_L_at rfl rfl rfl (by decide +kernel) ⟨(Nat.le_of_ble_eq_true rfl), (Nat.le_of_ble_eq_true rfl)⟩) (prSE ExX_ok (hX_call ExX_ok hX hD hS hA [] rfl) hE hK hP hD hS hA [] rfl rfl) rfl rfl hl.1 rfl (lv_room (Nat.le_of_ble_eq_true rfl)) dL_makes_3 ⟨(Nat.le_of_ble_eq_true rfl), (Nat.le_of_ble_eq_true rfl)⟩) hP hD hS hA [] [0, 1, 2, 3, 4, 5] [0, 1, 2, 3, 4, 5] rfl rfl rfl (by decide) rfl rfl (fun H locs hP hD hS => ?_)
  refine lv_iconst (v := (5 : Int32)) hx hb dL_makes_6 (by decide) ?_
  obtain ⟨v2, hv2, hF⟩ := oB hF
  refine call_i (wr := [(aX, .inr (5, [.ref aC, .ref aR, .ref aH, .ref aT, .ref aL, .ref aS, .int xS, .int xF, .int xR, .int xD, .int xC])), (aC, .inr (0, [.ref aCr])), (aCr, .inl (K 0, 55, .inl row)), (aR, .inr (4, [.int rR, .int rD])), (aH, .inr (2, [.ref aHr, .int kN, .int kK])), (aHr, .inl (K 1, 495, .inl kF))]) (wn := [(aX, .inr (5, [.ref aC, .ref aR, .ref aH, .ref aT, .ref aL, .ref aS, .int xS, .int xF, .int xR, .int xD, .int xC])), (aC, .inr (0, [.ref aCr])), (aCr, .inl (K 0, 55, .inl row)), (aR, .inr (4, [.int rR, .int rD])), (aH, .inr (2, [.ref aHr, .int kN, .int kK])), (aHr, .inl (K 1, 495, .inl kF))]) (va_runS (As := [.int v1.1, .int (5 : Int32)]) (rest := [.int (2 : Int32)]) ⟨hx, hb, hml, hown, hts⟩ (c_L_some l D K v1.1 (5 : Int32) v2 hv2 H.size) (va_cwS 2 hts gL_makes_L_some rfl rfl rfl (by decide +kernel) ⟨(Nat.le_of_ble_eq_true rfl), (Nat.le_of_ble_eq_true rfl)⟩) (prS hE hK hP hD hS hA [] rfl rfl) rfl rfl hl.1 rfl (lv_room (Nat.le_of_ble_eq_true rfl)) dL_makes_7 ⟨(Nat.le_of_ble_eq_true rfl), (Nat.le_of_ble_eq_true rfl)⟩) hP hD hS hA [] [0, 1, 2, 3, 4, 5] [0, 1, 2, 3, 4, 5] rfl rfl rfl (by decide) rfl rfl (fun H locs hP hD hS => ?_)
  refine lv_iadd hx hb dL_makes_10 ?_
  refine lv_istore_n (lv' := [(2, .int ((2 : Int32) + v2.1)), (0, .ref aX), (1, .ref bX)]) hx hb dL_makes_11 rfl hl (by decide) rfl (fun ls hl => ?_)
  refine lv_iconst (v := (0 : Int32)) hx hb dL_makes_12 (by decide) ?_
  refine lv_istore_n (lv' := [(3, .int (0 : Int32)), (2, .int ((2 : Int32) + v2.1)), (0, .ref aX), (1, .ref bX)]) hx hb dL_makes_13 rfl hl (by decide) rfl (fun ls hl => ?_)
  exact loop_14 ((2 : Int32) + v2.1) 7 (0 : Int32) xR xD xC row rR rD kN kK kF hF 0 0 (by decide) (by decide) _ _ hP hD hS _ (lv_sub hl [2, 3, 1, 0] rfl)
