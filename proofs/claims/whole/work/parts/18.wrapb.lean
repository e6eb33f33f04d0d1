abbrev RM_L_commands : Room := { frames := 7, cells := 1, slots := 6, locals := 184 }
abbrev MC_L_commands : Nat := 1
abbrev MS_L_commands : Nat := 6
abbrev wf_L_commands (K : Nat → ClassId) (aX : Nat) (aC : Nat) (aCr : Nat) (aR : Nat) (aH : Nat) (aHr : Nat) (aT : Nat) (aTc : Nat) (aTp : Nat) (aL : Nat) (aS : Nat) (aO : Nat) (xS : Int32) (tC : Nat → Int32) (v : Int32 × Int32 × Int32 × Int32 × Int32 × (Nat → Int32) × Int32 × Int32 × Int32 × Int32 × (Nat → Int32) × Int32 × Int32 × Int32 × Int32 × (Nat → Int32) × (Nat → Int64)) : va_W := [(aX, .inr (5, [.ref aC, .ref aR, .ref aH, .ref aT, .ref aL, .ref aS, .int xS, .int v.2.1, .int v.2.2.1, .int v.2.2.2.1, .int v.2.2.2.2.1])), (aC, .inr (0, [.ref aCr])), (aCr, .inl (K 0, 55, .inl v.2.2.2.2.2.1)), (aR, .inr (4, [.int v.2.2.2.2.2.2.1, .int v.2.2.2.2.2.2.2.1])), (aH, .inr (2, [.ref aHr, .int v.2.2.2.2.2.2.2.2.1, .int v.2.2.2.2.2.2.2.2.2.1])), (aHr, .inl (K 1, 495, .inl v.2.2.2.2.2.2.2.2.2.2.1)), (aT, .inr (1, [.ref aTc, .ref aTp, .int v.2.2.2.2.2.2.2.2.2.2.2.1, .int v.2.2.2.2.2.2.2.2.2.2.2.2.1, .int v.2.2.2.2.2.2.2.2.2.2.2.2.2.1, .int v.2.2.2.2.2.2.2.2.2.2.2.2.2.2.1])), (aTc, .inl (K 2, 60, .inl tC)), (aTp, .inl (K 3, 240, .inl v.2.2.2.2.2.2.2.2.2.2.2.2.2.2.2.1)), (aO, .inl (K 13, 1, .inr (.inl v.2.2.2.2.2.2.2.2.2.2.2.2.2.2.2.2)))]
set_option maxHeartbeats 4000000 in
set_option maxRecDepth 100000 in
theorem c_L_commands (l : Launch) (hfl : l.stackTraces = false) (D : va_G) (K : Nat → ClassId) (aX : Nat) (aC : Nat) (aCr : Nat) (aR : Nat) (aH : Nat) (aHr : Nat) (aT : Nat) (aTc : Nat) (aTp : Nat) (aL : Nat) (aS : Nat) (aO : Nat) (xS : Int32) (xF : Int32) (xR : Int32) (xD : Int32) (xC : Int32) (row : Nat → Int32) (rR : Int32) (rD : Int32) (kN : Int32) (kK : Int32) (kF : Nat → Int32) (tL : Int32) (tS : Int32) (tQ : Int32) (tF : Int32) (tC : Nat → Int32) (tP : Nat → Int32) (oL : Nat → Int64)  (v : Int32 × Int32 × Int32 × Int32 × Int32 × (Nat → Int32) × Int32 × Int32 × Int32 × Int32 × (Nat → Int32) × Int32 × Int32 × Int32 × Int32 × (Nat → Int32) × (Nat → Int64)) (hF : f_L_commands xF xR xD xC row rR rD kN kK kF tL tS tQ tF tC tP oL = some v) (sz : Nat) :
    (vx_Met l yL_commands wsL_commands RM_L_commands (PC D (TY K) [(aX, .inr (5, [.ref aC, .ref aR, .ref aH, .ref aT, .ref aL, .ref aS, .int xS, .int xF, .int xR, .int xD, .int xC])), (aC, .inr (0, [.ref aCr])), (aCr, .inl (K 0, 55, .inl row)), (aR, .inr (4, [.int rR, .int rD])), (aH, .inr (2, [.ref aHr, .int kN, .int kK])), (aHr, .inl (K 1, 495, .inl kF)), (aT, .inr (1, [.ref aTc, .ref aTp, .int tL, .int tS, .int tQ, .int tF])), (aTc, .inl (K 2, 60, .inl tC)), (aTp, .inl (K 3, 240, .inl tP)), (aO, .inl (K 13, 1, .inr (.inl oL)))] [.ref aX, .ref aO] sz) (QI D (TY K) (wf_L_commands K aX aC aCr aR aH aHr aT aTc aTp aL aS aO xS tC) v (va_A [(aX, .inr (5, [.ref aC, .ref aR, .ref aH, .ref aT, .ref aL, .ref aS, .int xS, .int xF, .int xR, .int xD, .int xC])), (aC, .inr (0, [.ref aCr])), (aCr, .inl (K 0, 55, .inl row)), (aR, .inr (4, [.int rR, .int rD])), (aH, .inr (2, [.ref aHr, .int kN, .int kK])), (aHr, .inl (K 1, 495, .inl kF)), (aT, .inr (1, [.ref aTc, .ref aTp, .int tL, .int tS, .int tQ, .int tF])), (aTc, .inl (K 2, 60, .inl tC)), (aTp, .inl (K 3, 240, .inl tP)), (aO, .inl (K 13, 1, .inr (.inl oL)))] sz)) XN MC_L_commands MS_L_commands (va_A [(aX, .inr (5, [.ref aC, .ref aR, .ref aH, .ref aT, .ref aL, .ref aS, .int xS, .int xF, .int xR, .int xD, .int xC])), (aC, .inr (0, [.ref aCr])), (aCr, .inl (K 0, 55, .inl row)), (aR, .inr (4, [.int rR, .int rD])), (aH, .inr (2, [.ref aHr, .int kN, .int kK])), (aHr, .inl (K 1, 495, .inl kF)), (aT, .inr (1, [.ref aTc, .ref aTp, .int tL, .int tS, .int tQ, .int tF])), (aTc, .inl (K 2, 60, .inl tC)), (aTp, .inl (K 3, 240, .inl tP)), (aO, .inl (K 13, 1, .inr (.inl oL)))] sz)) := by
  refine proH (Qf := fun A => QI D (TY K) (wf_L_commands K aX aC aCr aR aH aHr aT aTc aTp aL aS aO xS tC) v A) (XCf := fun _ => XN) (cc := cL_commands) (maxL := 3) (ret := (some .int)) (by decide +kernel) rfl (Nat.le_of_ble_eq_true rfl) ?_
  intro p e s m args below meth c hx hb hr hts hown hlocks hml htab hK A hA hE hP hD hS ls hl
  have hown : s.vm.findClass RL = some m.cls := hown
  have hl : lv_has ls 3 [(0, .ref aX), (1, .ref aO)] := hl
  rw [f_L_commands] at hF
  refine lv_aload_n hx hb dL_commands_0 rfl (lv_at hl 1 rfl) ?_
  refine lv_iconst (v := (0 : Int32)) hx hb dL_commands_1 (by decide) ?_
  refine lv_aload_n hx hb dL_commands_2 rfl (lv_at hl 0 rfl) ?_
  obtain ⟨v1, hv1, hF⟩ := oB hF
  refine callX_i (wr := [(aO, .inl (K 13, 1, .inr (.inl oL)))]) (wn := [(aX, .inr (5, [.ref aC, .ref aR, .ref aH, .ref aT, .ref aL, .ref aS, .int xS, .int v1.2.2.1, .int v1.2.2.2.1, .int v1.2.2.2.2.1, .int v1.2.2.2.2.2.1])), (aC, .inr (0, [.ref aCr])), (aCr, .inl (K 0, 55, .inl v1.2.2.2.2.2.2.1)), (aR, .inr (4, [.int v1.2.2.2.2.2.2.2.1, .int v1.2.2.2.2.2.2.2.2.1])), (aH, .inr (2, [.ref aHr, .int v1.2.2.2.2.2.2.2.2.2.1, .int v1.2.2.2.2.2.2.2.2.2.2.1])), (aHr, .inl (K 1, 495, .inl v1.2.2.2.2.2.2.2.2.2.2.2.1)), (aT, .inr (1, [.ref aTc, .ref aTp, .int v1.2.2.2.2.2.2.2.2.2.2.2.2.1, .int v1.2.2.2.2.2.2.2.2.2.2.2.2.2.1, .int v1.2.2.2.2.2.2.2.2.2.2.2.2.2.2.1, .int v1.2.2.2.2.2.2.2.2.2.2.2.2.2.2.2.1])), (aTc, .inl (K 2, 60, .inl tC)), (aTp, .inl (K 3, 240, .inl v1.2.2.2.2.2.2.2.2.2.2.2.2.2.2.2.2)), (aO, .inl (K 13, 1, .inr (.inl oL)))]) (vx_runV (As := []) (rest := [.int (0 : Int32), .ref aO]) ⟨hx, hb, hml, hown, hts⟩ (c_X7_commands l hfl D K aX aC aCr aR aH aHr aT aTc aTp aL aS xS xF xR xD xC row rR rD kN kK kF tL tS tQ tF tC tP v1 hv1 s.heap.size) (cwV 0 hts gL_commands_X7_commands rfl rfl rfl (by decide +kernel) ⟨(Nat.le_of_ble_eq_true rfl), (Nat.le_of_ble_eq_true rfl)⟩) (prV hE hK hP hD hS hA [0, 1, 2, 3, 4, 5, 6, 7, 8] rfl rfl 5 0 rfl rfl rfl) rfl rfl hl.1 rfl (lv_room (Nat.le_of_ble_eq_true rfl)) dL_commands_3 ⟨(Nat.le_of_ble_eq_true rfl), (Nat.le_of_ble_eq_true rfl)⟩) hP hD hS hA [0, 1, 2, 3, 4, 5, 6, 7, 8] [9] [1, 2, 3, 4, 5, 6, 7, 8, 9, 0] rfl rfl rfl (by decide) rfl rfl (fun hzv1 H locs hP hD hS => ?_) (fun hzv1 q9 ce H locs hP hD hS hce hcv hcl => ?_)
  · have hF := oT hzv1 hF
    refine lv_i2l (v := v1.2.1.toInt64) hx hb dL_commands_6 rfl ?_
    refine va_last hx hb hK hP hD hS 9 13 rfl rfl (inB_in (by decide : inB (0 : Int32) 1 = true)) dL_commands_7 (fun H locs hP hD hS => ?_)
    have hP : va_P D vwC7 [(aX, .inr (5, [.ref aC, .ref aR, .ref aH, .ref aT, .ref aL, .ref aS, .int xS, .int v1.2.2.1, .int v1.2.2.2.1, .int v1.2.2.2.2.1, .int v1.2.2.2.2.2.1])), (aC, .inr (0, [.ref aCr])), (aCr, .inl (K 0, 55, .inl v1.2.2.2.2.2.2.1)), (aR, .inr (4, [.int v1.2.2.2.2.2.2.2.1, .int v1.2.2.2.2.2.2.2.2.1])), (aH, .inr (2, [.ref aHr, .int v1.2.2.2.2.2.2.2.2.2.1, .int v1.2.2.2.2.2.2.2.2.2.2.1])), (aHr, .inl (K 1, 495, .inl v1.2.2.2.2.2.2.2.2.2.2.2.1)), (aT, .inr (1, [.ref aTc, .ref aTp, .int v1.2.2.2.2.2.2.2.2.2.2.2.2.1, .int v1.2.2.2.2.2.2.2.2.2.2.2.2.2.1, .int v1.2.2.2.2.2.2.2.2.2.2.2.2.2.2.1, .int v1.2.2.2.2.2.2.2.2.2.2.2.2.2.2.2.1])), (aTc, .inl (K 2, 60, .inl tC)), (aTp, .inl (K 3, 240, .inl v1.2.2.2.2.2.2.2.2.2.2.2.2.2.2.2.2)), (aO, .inl (K 13, 1, .inr (.inl (vp_updL oL (0 : Int32).toNatClampNeg v1.2.1.toInt64))))] H := hP
    have hD : va_D A [(aX, .inr (5, [.ref aC, .ref aR, .ref aH, .ref aT, .ref aL, .ref aS, .int xS, .int v1.2.2.1, .int v1.2.2.2.1, .int v1.2.2.2.2.1, .int v1.2.2.2.2.2.1])), (aC, .inr (0, [.ref aCr])), (aCr, .inl (K 0, 55, .inl v1.2.2.2.2.2.2.1)), (aR, .inr (4, [.int v1.2.2.2.2.2.2.2.1, .int v1.2.2.2.2.2.2.2.2.1])), (aH, .inr (2, [.ref aHr, .int v1.2.2.2.2.2.2.2.2.2.1, .int v1.2.2.2.2.2.2.2.2.2.2.1])), (aHr, .inl (K 1, 495, .inl v1.2.2.2.2.2.2.2.2.2.2.2.1)), (aT, .inr (1, [.ref aTc, .ref aTp, .int v1.2.2.2.2.2.2.2.2.2.2.2.2.1, .int v1.2.2.2.2.2.2.2.2.2.2.2.2.2.1, .int v1.2.2.2.2.2.2.2.2.2.2.2.2.2.2.1, .int v1.2.2.2.2.2.2.2.2.2.2.2.2.2.2.2.1])), (aTc, .inl (K 2, 60, .inl tC)), (aTp, .inl (K 3, 240, .inl v1.2.2.2.2.2.2.2.2.2.2.2.2.2.2.2.2)), (aO, .inl (K 13, 1, .inr (.inl (vp_updL oL (0 : Int32).toNatClampNeg v1.2.1.toInt64))))] := hD
    refine lv_goto (tgt := 17) hx hb dL_commands_8 (by decide) ?_
    refine lv_iconst (v := (0 : Int32)) hx hb dL_commands_17 (by decide) ?_
    exact vx_ret (fin_i (u := ((0 : Int32), (v1.2.2.1, v1.2.2.2.1, v1.2.2.2.2.1, v1.2.2.2.2.2.1, v1.2.2.2.2.2.2.1, v1.2.2.2.2.2.2.2.1, v1.2.2.2.2.2.2.2.2.1, v1.2.2.2.2.2.2.2.2.2.1, v1.2.2.2.2.2.2.2.2.2.2.1, v1.2.2.2.2.2.2.2.2.2.2.2.1, v1.2.2.2.2.2.2.2.2.2.2.2.2.1, v1.2.2.2.2.2.2.2.2.2.2.2.2.2.1, v1.2.2.2.2.2.2.2.2.2.2.2.2.2.2.1, v1.2.2.2.2.2.2.2.2.2.2.2.2.2.2.2.1, v1.2.2.2.2.2.2.2.2.2.2.2.2.2.2.2.2, vp_updL oL (0 : Int32).toNatClampNeg v1.2.1.toInt64))) hF hx hb hr hlocks hK hP hD hS (Nat.le_of_ble_eq_true rfl) (Nat.le_of_ble_eq_true rfl) dL_commands_18)
  · have hF := oF hzv1 hF
    by_cases c2 : v1.1 = 2
    · have hF := oT c2 hF
      rw [c2] at hcl
      refine vx_catch (E := "java/lang/IllegalArgumentException") (name := "java/lang/IllegalArgumentException") hown [] ⟨0, 8, 11, 50⟩ [⟨0, 8, 14, 13⟩] (htab.trans rfl) (fun z hz => nomatch hz) (by decide) (by decide) (hts (.classLink RL 50 "java/lang/IllegalArgumentException") (List.mem_of_getElem? (i := 1) rfl)) (va_Nw.use rfl (hE.2.2.2.2.1 _ (List.mem_of_getElem? (i := 2) rfl))) hce hcv hcl ?_
      refine lv_astore_n (lv' := [(2, .ref q9), (0, .ref aX), (1, .ref aO)]) hx hb dL_commands_11 rfl hl (by decide) rfl (fun ls hl => ?_)
      refine lv_iconst (v := (1 : Int32)) hx hb dL_commands_12 (by decide) ?_
      exact vx_ret (fin_i (u := ((1 : Int32), (v1.2.2.1, v1.2.2.2.1, v1.2.2.2.2.1, v1.2.2.2.2.2.1, v1.2.2.2.2.2.2.1, v1.2.2.2.2.2.2.2.1, v1.2.2.2.2.2.2.2.2.1, v1.2.2.2.2.2.2.2.2.2.1, v1.2.2.2.2.2.2.2.2.2.2.1, v1.2.2.2.2.2.2.2.2.2.2.2.1, v1.2.2.2.2.2.2.2.2.2.2.2.2.1, v1.2.2.2.2.2.2.2.2.2.2.2.2.2.1, v1.2.2.2.2.2.2.2.2.2.2.2.2.2.2.1, v1.2.2.2.2.2.2.2.2.2.2.2.2.2.2.2.1, v1.2.2.2.2.2.2.2.2.2.2.2.2.2.2.2.2, oL))) hF hx hb hr hlocks hK hP hD hS (Nat.le_of_ble_eq_true rfl) (Nat.le_of_ble_eq_true rfl) dL_commands_13)
    have hF := oF c2 hF
    by_cases c3 : v1.1 = 6
    · have hF := oT c3 hF
      rw [c3] at hcl
      refine vx_catch (E := "java/lang/UnsupportedOperationException") (name := "java/lang/UnsupportedOperationException") hown [⟨0, 8, 11, 50⟩] ⟨0, 8, 14, 13⟩ [] (htab.trans rfl) (fun z hz => by rcases List.mem_singleton.mp hz with rfl; exact Or.inr ⟨by decide, "java/lang/IllegalArgumentException", (hts (.classLink RL 50 "java/lang/IllegalArgumentException") (List.mem_of_getElem? (i := 1) rfl)), hE.2.2.2.2.2.1 _ (List.mem_of_getElem? (i := 3) rfl)⟩) (by decide) (by decide) (hts (.classLink RL 13 "java/lang/UnsupportedOperationException") (List.mem_of_getElem? (i := 2) rfl)) (va_Nw.use rfl (hE.2.2.2.2.1 _ (List.mem_of_getElem? (i := 0) rfl))) hce hcv hcl ?_
      refine lv_astore_n (lv' := [(2, .ref q9), (0, .ref aX), (1, .ref aO)]) hx hb dL_commands_14 rfl hl (by decide) rfl (fun ls hl => ?_)
      refine lv_iconst (v := (2 : Int32)) hx hb dL_commands_15 (by decide) ?_
      exact vx_ret (fin_i (u := ((2 : Int32), (v1.2.2.1, v1.2.2.2.1, v1.2.2.2.2.1, v1.2.2.2.2.2.1, v1.2.2.2.2.2.2.1, v1.2.2.2.2.2.2.2.1, v1.2.2.2.2.2.2.2.2.1, v1.2.2.2.2.2.2.2.2.2.1, v1.2.2.2.2.2.2.2.2.2.2.1, v1.2.2.2.2.2.2.2.2.2.2.2.1, v1.2.2.2.2.2.2.2.2.2.2.2.2.1, v1.2.2.2.2.2.2.2.2.2.2.2.2.2.1, v1.2.2.2.2.2.2.2.2.2.2.2.2.2.2.1, v1.2.2.2.2.2.2.2.2.2.2.2.2.2.2.2.1, v1.2.2.2.2.2.2.2.2.2.2.2.2.2.2.2.2, oL))) hF hx hb hr hlocks hK hP hD hS (Nat.le_of_ble_eq_true rfl) (Nat.le_of_ble_eq_true rfl) dL_commands_16)
    have hF := oF c3 hF
    exact nomatch hF
abbrev RM_L_reason : Room := { frames := 7, cells := 1, slots := 6, locals := 119 }
abbrev MC_L_reason : Nat := 1
abbrev MS_L_reason : Nat := 6
abbrev wf_L_reason (K : Nat → ClassId) (aX : Nat) (aC : Nat) (aR : Nat) (aH : Nat) (aT : Nat) (aL : Nat) (aS : Nat) (aO : Nat) (xS : Int32) (xF : Int32) (xR : Int32) (xD : Int32) (xC : Int32) (v : Int32 × (Nat → Int64)) : va_W := [(aX, .inr (5, [.ref aC, .ref aR, .ref aH, .ref aT, .ref aL, .ref aS, .int xS, .int xF, .int xR, .int xD, .int xC])), (aO, .inl (K 13, 1, .inr (.inl v.2)))]
set_option maxHeartbeats 4000000 in
set_option maxRecDepth 100000 in
theorem c_L_reason (l : Launch) (hfl : l.stackTraces = false) (D : va_G) (K : Nat → ClassId) (aX : Nat) (aC : Nat) (aR : Nat) (aH : Nat) (aT : Nat) (aL : Nat) (aS : Nat) (aO : Nat) (xS : Int32) (xF : Int32) (xR : Int32) (xD : Int32) (xC : Int32) (oL : Nat → Int64) (p2 : Int32) (v : Int32 × (Nat → Int64)) (hF : f_L_reason xR xD xC oL p2 = some v) (sz : Nat) :
    (vx_Met l yL_reason wsL_reason RM_L_reason (PC D (TY K) [(aX, .inr (5, [.ref aC, .ref aR, .ref aH, .ref aT, .ref aL, .ref aS, .int xS, .int xF, .int xR, .int xD, .int xC])), (aO, .inl (K 13, 1, .inr (.inl oL)))] [.ref aX, .int p2, .ref aO] sz) (QI D (TY K) (wf_L_reason K aX aC aR aH aT aL aS aO xS xF xR xD xC) v (va_A [(aX, .inr (5, [.ref aC, .ref aR, .ref aH, .ref aT, .ref aL, .ref aS, .int xS, .int xF, .int xR, .int xD, .int xC])), (aO, .inl (K 13, 1, .inr (.inl oL)))] sz)) XN MC_L_reason MS_L_reason (va_A [(aX, .inr (5, [.ref aC, .ref aR, .ref aH, .ref aT, .ref aL, .ref aS, .int xS, .int xF, .int xR, .int xD, .int xC])), (aO, .inl (K 13, 1, .inr (.inl oL)))] sz)) := by
  refine proH (Qf := fun A => QI D (TY K) (wf_L_reason K aX aC aR aH aT aL aS aO xS xF xR xD xC) v A) (XCf := fun _ => XN) (cc := cL_reason) (maxL := 4) (ret := (some .int)) (by decide +kernel) rfl (Nat.le_of_ble_eq_true rfl) ?_
  intro p e s m args below meth c hx hb hr hts hown hlocks hml htab hK A hA hE hP hD hS ls hl
  have hown : s.vm.findClass RL = some m.cls := hown
  have hl : lv_has ls 4 [(0, .ref aX), (1, .int p2), (2, .ref aO)] := hl
  rw [f_L_reason] at hF
  refine lv_aload_n hx hb dL_reason_0 rfl (lv_at hl 2 rfl) ?_
  refine lv_iconst (v := (0 : Int32)) hx hb dL_reason_1 (by decide) ?_
  refine lv_aload_n hx hb dL_reason_2 rfl (lv_at hl 0 rfl) ?_
  refine lv_iload_n hx hb dL_reason_3 rfl (lv_at hl 1 rfl) ?_
  obtain ⟨v1, hv1, hF⟩ := oB hF
  refine callX_i (wr := [(aO, .inl (K 13, 1, .inr (.inl oL)))]) (wn := [(aX, .inr (5, [.ref aC, .ref aR, .ref aH, .ref aT, .ref aL, .ref aS, .int xS, .int xF, .int xR, .int xD, .int xC])), (aO, .inl (K 13, 1, .inr (.inl oL)))]) (vx_runV (As := [.int p2]) (rest := [.int (0 : Int32), .ref aO]) ⟨hx, hb, hml, hown, hts⟩ (c_X7_reason l hfl D K aX aC aR aH aT aL aS xS xF xR xD xC p2 v1 hv1 s.heap.size) (cwV 1 hts gL_reason_X7_reason rfl rfl rfl (by decide +kernel) ⟨(Nat.le_of_ble_eq_true rfl), (Nat.le_of_ble_eq_true rfl)⟩) (prV hE hK hP hD hS hA [0] rfl rfl 5 0 rfl rfl rfl) rfl rfl hl.1 rfl (lv_room (Nat.le_of_ble_eq_true rfl)) dL_reason_4 ⟨(Nat.le_of_ble_eq_true rfl), (Nat.le_of_ble_eq_true rfl)⟩) hP hD hS hA [0] [1] [1, 0] rfl rfl rfl (by decide) rfl rfl (fun hzv1 H locs hP hD hS => ?_) (fun hzv1 q9 ce H locs hP hD hS hce hcv hcl => ?_)
  · have hF := oT hzv1 hF
    refine lv_i2l (v := v1.2.1.toInt64) hx hb dL_reason_7 rfl ?_
    refine va_last hx hb hK hP hD hS 1 13 rfl rfl (inB_in (by decide : inB (0 : Int32) 1 = true)) dL_reason_8 (fun H locs hP hD hS => ?_)
    have hP : va_P D vwC7 [(aX, .inr (5, [.ref aC, .ref aR, .ref aH, .ref aT, .ref aL, .ref aS, .int xS, .int xF, .int xR, .int xD, .int xC])), (aO, .inl (K 13, 1, .inr (.inl (vp_updL oL (0 : Int32).toNatClampNeg v1.2.1.toInt64))))] H := hP
    have hD : va_D A [(aX, .inr (5, [.ref aC, .ref aR, .ref aH, .ref aT, .ref aL, .ref aS, .int xS, .int xF, .int xR, .int xD, .int xC])), (aO, .inl (K 13, 1, .inr (.inl (vp_updL oL (0 : Int32).toNatClampNeg v1.2.1.toInt64))))] := hD
    refine lv_goto (tgt := 18) hx hb dL_reason_9 (by decide) ?_
    refine lv_iconst (v := (0 : Int32)) hx hb dL_reason_18 (by decide) ?_
    exact vx_ret (fin_i (u := ((0 : Int32), vp_updL oL (0 : Int32).toNatClampNeg v1.2.1.toInt64)) hF hx hb hr hlocks hK hP hD hS (Nat.le_of_ble_eq_true rfl) (Nat.le_of_ble_eq_true rfl) dL_reason_19)
  · have hF := oF hzv1 hF
    by_cases c2 : v1.1 = 2
    · have hF := oT c2 hF
      rw [c2] at hcl
      refine vx_catch (E := "java/lang/IllegalArgumentException") (name := "java/lang/IllegalArgumentException") hown [] ⟨0, 9, 12, 50⟩ [⟨0, 9, 15, 61⟩] (htab.trans rfl) (fun z hz => nomatch hz) (by decide) (by decide) (hts (.classLink RL 50 "java/lang/IllegalArgumentException") (List.mem_of_getElem? (i := 1) rfl)) (va_Nw.use rfl (hE.2.2.2.2.1 _ (List.mem_of_getElem? (i := 2) rfl))) hce hcv hcl ?_
      refine lv_astore_n (lv' := [(3, .ref q9), (0, .ref aX), (1, .int p2), (2, .ref aO)]) hx hb dL_reason_12 rfl hl (by decide) rfl (fun ls hl => ?_)
      refine lv_iconst (v := (1 : Int32)) hx hb dL_reason_13 (by decide) ?_
      exact vx_ret (fin_i (u := ((1 : Int32), oL)) hF hx hb hr hlocks hK hP hD hS (Nat.le_of_ble_eq_true rfl) (Nat.le_of_ble_eq_true rfl) dL_reason_14)
    have hF := oF c2 hF
    by_cases c3 : v1.1 = 3
    · have hF := oT c3 hF
      rw [c3] at hcl
      refine vx_catch (E := "java/util/NoSuchElementException") (name := "java/util/NoSuchElementException") hown [⟨0, 9, 12, 50⟩] ⟨0, 9, 15, 61⟩ [] (htab.trans rfl) (fun z hz => by rcases List.mem_singleton.mp hz with rfl; exact Or.inr ⟨by decide, "java/lang/IllegalArgumentException", (hts (.classLink RL 50 "java/lang/IllegalArgumentException") (List.mem_of_getElem? (i := 1) rfl)), hE.2.2.2.2.2.1 _ (List.mem_of_getElem? (i := 2) rfl)⟩) (by decide) (by decide) (hts (.classLink RL 61 "java/util/NoSuchElementException") (List.mem_of_getElem? (i := 2) rfl)) (va_Nw.use rfl (hE.2.2.2.2.1 _ (List.mem_of_getElem? (i := 3) rfl))) hce hcv hcl ?_
      refine lv_astore_n (lv' := [(3, .ref q9), (0, .ref aX), (1, .int p2), (2, .ref aO)]) hx hb dL_reason_15 rfl hl (by decide) rfl (fun ls hl => ?_)
      refine lv_iconst (v := (2 : Int32)) hx hb dL_reason_16 (by decide) ?_
      exact vx_ret (fin_i (u := ((2 : Int32), oL)) hF hx hb hr hlocks hK hP hD hS (Nat.le_of_ble_eq_true rfl) (Nat.le_of_ble_eq_true rfl) dL_reason_17)
    have hF := oF c3 hF
    exact nomatch hF
abbrev RM_L_line : Room := { frames := 8, cells := 1, slots := 6, locals := 140 }
abbrev MC_L_line : Nat := 1
abbrev MS_L_line : Nat := 6
abbrev wf_L_line (K : Nat → ClassId) (aX : Nat) (aC : Nat) (aCr : Nat) (aR : Nat) (aH : Nat) (aT : Nat) (aL : Nat) (aLc : Nat) (aS : Nat) (aO : Nat) (xS : Int32) (xF : Int32) (xR : Int32) (xD : Int32) (xC : Int32) (row : Nat → Int32) (v : Int32 × Int32 × (Nat → Int32) × (Nat → Int64)) : va_W := [(aX, .inr (5, [.ref aC, .ref aR, .ref aH, .ref aT, .ref aL, .ref aS, .int xS, .int xF, .int xR, .int xD, .int xC])), (aC, .inr (0, [.ref aCr])), (aCr, .inl (K 0, 55, .inl row)), (aL, .inr (3, [.ref aLc, .int v.2.1])), (aLc, .inl (K 4, 32, .inl v.2.2.1)), (aO, .inl (K 13, 1, .inr (.inl v.2.2.2)))]
set_option maxHeartbeats 4000000 in
set_option maxRecDepth 100000 in
theorem c_L_line (l : Launch) (hfl : l.stackTraces = false) (D : va_G) (K : Nat → ClassId) (aX : Nat) (aC : Nat) (aCr : Nat) (aR : Nat) (aH : Nat) (aT : Nat) (aL : Nat) (aLc : Nat) (aS : Nat) (aO : Nat) (xS : Int32) (xF : Int32) (xR : Int32) (xD : Int32) (xC : Int32) (row : Nat → Int32) (lL : Int32) (lC : Nat → Int32) (oL : Nat → Int64) (p2 : Int32) (v : Int32 × Int32 × (Nat → Int32) × (Nat → Int64)) (hF : f_L_line row lL lC oL p2 = some v) (sz : Nat) :
    (vx_Met l yL_line wsL_line RM_L_line (PC D (TY K) [(aX, .inr (5, [.ref aC, .ref aR, .ref aH, .ref aT, .ref aL, .ref aS, .int xS, .int xF, .int xR, .int xD, .int xC])), (aC, .inr (0, [.ref aCr])), (aCr, .inl (K 0, 55, .inl row)), (aL, .inr (3, [.ref aLc, .int lL])), (aLc, .inl (K 4, 32, .inl lC)), (aO, .inl (K 13, 1, .inr (.inl oL)))] [.ref aX, .int p2, .ref aO] sz) (QI D (TY K) (wf_L_line K aX aC aCr aR aH aT aL aLc aS aO xS xF xR xD xC row) v (va_A [(aX, .inr (5, [.ref aC, .ref aR, .ref aH, .ref aT, .ref aL, .ref aS, .int xS, .int xF, .int xR, .int xD, .int xC])), (aC, .inr (0, [.ref aCr])), (aCr, .inl (K 0, 55, .inl row)), (aL, .inr (3, [.ref aLc, .int lL])), (aLc, .inl (K 4, 32, .inl lC)), (aO, .inl (K 13, 1, .inr (.inl oL)))] sz)) XN MC_L_line MS_L_line (va_A [(aX, .inr (5, [.ref aC, .ref aR, .ref aH, .ref aT, .ref aL, .ref aS, .int xS, .int xF, .int xR, .int xD, .int xC])), (aC, .inr (0, [.ref aCr])), (aCr, .inl (K 0, 55, .inl row)), (aL, .inr (3, [.ref aLc, .int lL])), (aLc, .inl (K 4, 32, .inl lC)), (aO, .inl (K 13, 1, .inr (.inl oL)))] sz)) := by
  refine proH (Qf := fun A => QI D (TY K) (wf_L_line K aX aC aCr aR aH aT aL aLc aS aO xS xF xR xD xC row) v A) (XCf := fun _ => XN) (cc := cL_line) (maxL := 4) (ret := (some .int)) (by decide +kernel) rfl (Nat.le_of_ble_eq_true rfl) ?_
  intro p e s m args below meth c hx hb hr hts hown hlocks hml htab hK A hA hE hP hD hS ls hl
  have hown : s.vm.findClass RL = some m.cls := hown
  have hl : lv_has ls 4 [(0, .ref aX), (1, .int p2), (2, .ref aO)] := hl
  rw [f_L_line] at hF
  refine lv_aload_n hx hb dL_line_0 rfl (lv_at hl 2 rfl) ?_
  refine lv_iconst (v := (0 : Int32)) hx hb dL_line_1 (by decide) ?_
  refine lv_aload_n hx hb dL_line_2 rfl (lv_at hl 0 rfl) ?_
  refine lv_iload_n hx hb dL_line_3 rfl (lv_at hl 1 rfl) ?_
  obtain ⟨v1, hv1, hF⟩ := oB hF
  refine callX_i (wr := [(aO, .inl (K 13, 1, .inr (.inl oL)))]) (wn := [(aX, .inr (5, [.ref aC, .ref aR, .ref aH, .ref aT, .ref aL, .ref aS, .int xS, .int xF, .int xR, .int xD, .int xC])), (aC, .inr (0, [.ref aCr])), (aCr, .inl (K 0, 55, .inl row)), (aL, .inr (3, [.ref aLc, .int v1.2.2.1])), (aLc, .inl (K 4, 32, .inl v1.2.2.2)), (aO, .inl (K 13, 1, .inr (.inl oL)))]) (vx_runV (As := [.int p2]) (rest := [.int (0 : Int32), .ref aO]) ⟨hx, hb, hml, hown, hts⟩ (c_X7_line l hfl D K aX aC aCr aR aH aT aL aLc aS xS xF xR xD xC row lL lC p2 v1 hv1 s.heap.size) (cwV 1 hts gL_line_X7_line rfl rfl rfl (by decide +kernel) ⟨(Nat.le_of_ble_eq_true rfl), (Nat.le_of_ble_eq_true rfl)⟩) (prV hE hK hP hD hS hA [0, 1, 2, 3, 4] rfl rfl 5 0 rfl rfl rfl) rfl rfl hl.1 rfl (lv_room (Nat.le_of_ble_eq_true rfl)) dL_line_4 ⟨(Nat.le_of_ble_eq_true rfl), (Nat.le_of_ble_eq_true rfl)⟩) hP hD hS hA [0, 1, 2, 3, 4] [5] [1, 2, 3, 4, 5, 0] rfl rfl rfl (by decide) rfl rfl (fun hzv1 H locs hP hD hS => ?_) (fun hzv1 q9 ce H locs hP hD hS hce hcv hcl => ?_)
  · have hF := oT hzv1 hF
    refine lv_i2l (v := v1.2.1.toInt64) hx hb dL_line_7 rfl ?_
    refine va_last hx hb hK hP hD hS 5 13 rfl rfl (inB_in (by decide : inB (0 : Int32) 1 = true)) dL_line_8 (fun H locs hP hD hS => ?_)
    have hP : va_P D vwC7 [(aX, .inr (5, [.ref aC, .ref aR, .ref aH, .ref aT, .ref aL, .ref aS, .int xS, .int xF, .int xR, .int xD, .int xC])), (aC, .inr (0, [.ref aCr])), (aCr, .inl (K 0, 55, .inl row)), (aL, .inr (3, [.ref aLc, .int v1.2.2.1])), (aLc, .inl (K 4, 32, .inl v1.2.2.2)), (aO, .inl (K 13, 1, .inr (.inl (vp_updL oL (0 : Int32).toNatClampNeg v1.2.1.toInt64))))] H := hP
    have hD : va_D A [(aX, .inr (5, [.ref aC, .ref aR, .ref aH, .ref aT, .ref aL, .ref aS, .int xS, .int xF, .int xR, .int xD, .int xC])), (aC, .inr (0, [.ref aCr])), (aCr, .inl (K 0, 55, .inl row)), (aL, .inr (3, [.ref aLc, .int v1.2.2.1])), (aLc, .inl (K 4, 32, .inl v1.2.2.2)), (aO, .inl (K 13, 1, .inr (.inl (vp_updL oL (0 : Int32).toNatClampNeg v1.2.1.toInt64))))] := hD
    refine lv_goto (tgt := 15) hx hb dL_line_9 (by decide) ?_
    refine lv_iconst (v := (0 : Int32)) hx hb dL_line_15 (by decide) ?_
    exact vx_ret (fin_i (u := ((0 : Int32), (v1.2.2.1, v1.2.2.2, vp_updL oL (0 : Int32).toNatClampNeg v1.2.1.toInt64))) hF hx hb hr hlocks hK hP hD hS (Nat.le_of_ble_eq_true rfl) (Nat.le_of_ble_eq_true rfl) dL_line_16)
  · have hF := oF hzv1 hF
    by_cases c2 : v1.1 = 1
    · have hF := oT c2 hF
      rw [c2] at hcl
      refine vx_catch (E := "java/lang/IndexOutOfBoundsException") (name := "java/lang/IndexOutOfBoundsException") hown [] ⟨0, 9, 12, 48⟩ [] (htab.trans rfl) (fun z hz => nomatch hz) (by decide) (by decide) (hts (.classLink RL 48 "java/lang/IndexOutOfBoundsException") (List.mem_of_getElem? (i := 1) rfl)) (va_Nw.use rfl (hE.2.2.2.2.1 _ (List.mem_of_getElem? (i := 1) rfl))) hce hcv hcl ?_
      refine lv_astore_n (lv' := [(3, .ref q9), (0, .ref aX), (1, .int p2), (2, .ref aO)]) hx hb dL_line_12 rfl hl (by decide) rfl (fun ls hl => ?_)
      refine lv_iconst (v := (1 : Int32)) hx hb dL_line_13 (by decide) ?_
      exact vx_ret (fin_i (u := ((1 : Int32), (v1.2.2.1, v1.2.2.2, oL))) hF hx hb hr hlocks hK hP hD hS (Nat.le_of_ble_eq_true rfl) (Nat.le_of_ble_eq_true rfl) dL_line_14)
    have hF := oF c2 hF
    exact nomatch hF
abbrev RM_L_character : Room := { frames := 7, cells := 1, slots := 6, locals := 119 }
abbrev MC_L_character : Nat := 1
abbrev MS_L_character : Nat := 6
abbrev wf_L_character (K : Nat → ClassId) (aX : Nat) (aC : Nat) (aR : Nat) (aH : Nat) (aT : Nat) (aL : Nat) (aLc : Nat) (aS : Nat) (aO : Nat) (xS : Int32) (xF : Int32) (xR : Int32) (xD : Int32) (xC : Int32) (lL : Int32) (lC : Nat → Int32) (v : Int32 × (Nat → Int64)) : va_W := [(aX, .inr (5, [.ref aC, .ref aR, .ref aH, .ref aT, .ref aL, .ref aS, .int xS, .int xF, .int xR, .int xD, .int xC])), (aL, .inr (3, [.ref aLc, .int lL])), (aLc, .inl (K 4, 32, .inl lC)), (aO, .inl (K 13, 1, .inr (.inl v.2)))]
set_option maxHeartbeats 4000000 in
set_option maxRecDepth 100000 in
theorem c_L_character (l : Launch) (hfl : l.stackTraces = false) (D : va_G) (K : Nat → ClassId) (aX : Nat) (aC : Nat) (aR : Nat) (aH : Nat) (aT : Nat) (aL : Nat) (aLc : Nat) (aS : Nat) (aO : Nat) (xS : Int32) (xF : Int32) (xR : Int32) (xD : Int32) (xC : Int32) (lL : Int32) (lC : Nat → Int32) (oL : Nat → Int64) (p2 : Int32) (v : Int32 × (Nat → Int64)) (hF : f_L_character lL lC oL p2 = some v) (sz : Nat) :
    (vx_Met l yL_character wsL_character RM_L_character (PC D (TY K) [(aX, .inr (5, [.ref aC, .ref aR, .ref aH, .ref aT, .ref aL, .ref aS, .int xS, .int xF, .int xR, .int xD, .int xC])), (aL, .inr (3, [.ref aLc, .int lL])), (aLc, .inl (K 4, 32, .inl lC)), (aO, .inl (K 13, 1, .inr (.inl oL)))] [.ref aX, .int p2, .ref aO] sz) (QI D (TY K) (wf_L_character K aX aC aR aH aT aL aLc aS aO xS xF xR xD xC lL lC) v (va_A [(aX, .inr (5, [.ref aC, .ref aR, .ref aH, .ref aT, .ref aL, .ref aS, .int xS, .int xF, .int xR, .int xD, .int xC])), (aL, .inr (3, [.ref aLc, .int lL])), (aLc, .inl (K 4, 32, .inl lC)), (aO, .inl (K 13, 1, .inr (.inl oL)))] sz)) XN MC_L_character MS_L_character (va_A [(aX, .inr (5, [.ref aC, .ref aR, .ref aH, .ref aT, .ref aL, .ref aS, .int xS, .int xF, .int xR, .int xD, .int xC])), (aL, .inr (3, [.ref aLc, .int lL])), (aLc, .inl (K 4, 32, .inl lC)), (aO, .inl (K 13, 1, .inr (.inl oL)))] sz)) := by
  refine proH (Qf := fun A => QI D (TY K) (wf_L_character K aX aC aR aH aT aL aLc aS aO xS xF xR xD xC lL lC) v A) (XCf := fun _ => XN) (cc := cL_character) (maxL := 4) (ret := (some .int)) (by decide +kernel) rfl (Nat.le_of_ble_eq_true rfl) ?_
  intro p e s m args below meth c hx hb hr hts hown hlocks hml htab hK A hA hE hP hD hS ls hl
  have hown : s.vm.findClass RL = some m.cls := hown
  have hl : lv_has ls 4 [(0, .ref aX), (1, .int p2), (2, .ref aO)] := hl
  rw [f_L_character] at hF
  refine lv_aload_n hx hb dL_character_0 rfl (lv_at hl 2 rfl) ?_
  refine lv_iconst (v := (0 : Int32)) hx hb dL_character_1 (by decide) ?_
  refine lv_aload_n hx hb dL_character_2 rfl (lv_at hl 0 rfl) ?_
  refine lv_iload_n hx hb dL_character_3 rfl (lv_at hl 1 rfl) ?_
  obtain ⟨v1, hv1, hF⟩ := oB hF
  refine callX_i (wr := [(aO, .inl (K 13, 1, .inr (.inl oL)))]) (wn := [(aX, .inr (5, [.ref aC, .ref aR, .ref aH, .ref aT, .ref aL, .ref aS, .int xS, .int xF, .int xR, .int xD, .int xC])), (aL, .inr (3, [.ref aLc, .int lL])), (aLc, .inl (K 4, 32, .inl lC)), (aO, .inl (K 13, 1, .inr (.inl oL)))]) (vx_runV (As := [.int p2]) (rest := [.int (0 : Int32), .ref aO]) ⟨hx, hb, hml, hown, hts⟩ (c_X7_character l hfl D K aX aC aR aH aT aL aLc aS xS xF xR xD xC lL lC p2 v1 hv1 s.heap.size) (cwV 1 hts gL_character_X7_character rfl rfl rfl (by decide +kernel) ⟨(Nat.le_of_ble_eq_true rfl), (Nat.le_of_ble_eq_true rfl)⟩) (prV hE hK hP hD hS hA [0, 1, 2] rfl rfl 5 0 rfl rfl rfl) rfl rfl hl.1 rfl (lv_room (Nat.le_of_ble_eq_true rfl)) dL_character_4 ⟨(Nat.le_of_ble_eq_true rfl), (Nat.le_of_ble_eq_true rfl)⟩) hP hD hS hA [0, 1, 2] [3] [1, 2, 3, 0] rfl rfl rfl (by decide) rfl rfl (fun hzv1 H locs hP hD hS => ?_) (fun hzv1 q9 ce H locs hP hD hS hce hcv hcl => ?_)
  · have hF := oT hzv1 hF
    refine lv_i2l (v := v1.2.1.toInt64) hx hb dL_character_7 rfl ?_
    refine va_last hx hb hK hP hD hS 3 13 rfl rfl (inB_in (by decide : inB (0 : Int32) 1 = true)) dL_character_8 (fun H locs hP hD hS => ?_)
    have hP : va_P D vwC7 [(aX, .inr (5, [.ref aC, .ref aR, .ref aH, .ref aT, .ref aL, .ref aS, .int xS, .int xF, .int xR, .int xD, .int xC])), (aL, .inr (3, [.ref aLc, .int lL])), (aLc, .inl (K 4, 32, .inl lC)), (aO, .inl (K 13, 1, .inr (.inl (vp_updL oL (0 : Int32).toNatClampNeg v1.2.1.toInt64))))] H := hP
    have hD : va_D A [(aX, .inr (5, [.ref aC, .ref aR, .ref aH, .ref aT, .ref aL, .ref aS, .int xS, .int xF, .int xR, .int xD, .int xC])), (aL, .inr (3, [.ref aLc, .int lL])), (aLc, .inl (K 4, 32, .inl lC)), (aO, .inl (K 13, 1, .inr (.inl (vp_updL oL (0 : Int32).toNatClampNeg v1.2.1.toInt64))))] := hD
    refine lv_goto (tgt := 15) hx hb dL_character_9 (by decide) ?_
    refine lv_iconst (v := (0 : Int32)) hx hb dL_character_15 (by decide) ?_
    exact vx_ret (fin_i (u := ((0 : Int32), vp_updL oL (0 : Int32).toNatClampNeg v1.2.1.toInt64)) hF hx hb hr hlocks hK hP hD hS (Nat.le_of_ble_eq_true rfl) (Nat.le_of_ble_eq_true rfl) dL_character_16)
  · have hF := oF hzv1 hF
    by_cases c2 : v1.1 = 1
    · have hF := oT c2 hF
      rw [c2] at hcl
      refine vx_catch (E := "java/lang/IndexOutOfBoundsException") (name := "java/lang/IndexOutOfBoundsException") hown [] ⟨0, 9, 12, 48⟩ [] (htab.trans rfl) (fun z hz => nomatch hz) (by decide) (by decide) (hts (.classLink RL 48 "java/lang/IndexOutOfBoundsException") (List.mem_of_getElem? (i := 1) rfl)) (va_Nw.use rfl (hE.2.2.2.2.1 _ (List.mem_of_getElem? (i := 1) rfl))) hce hcv hcl ?_
      refine lv_astore_n (lv' := [(3, .ref q9), (0, .ref aX), (1, .int p2), (2, .ref aO)]) hx hb dL_character_12 rfl hl (by decide) rfl (fun ls hl => ?_)
      refine lv_iconst (v := (1 : Int32)) hx hb dL_character_13 (by decide) ?_
      exact vx_ret (fin_i (u := ((1 : Int32), oL)) hF hx hb hr hlocks hK hP hD hS (Nat.le_of_ble_eq_true rfl) (Nat.le_of_ble_eq_true rfl) dL_character_14)
    have hF := oF c2 hF
    exact nomatch hF
abbrev RM_L_meanCoins : Room := { frames := 7, cells := 1, slots := 6, locals := 119 }
abbrev MC_L_meanCoins : Nat := 1
abbrev MS_L_meanCoins : Nat := 6
abbrev wf_L_meanCoins (K : Nat → ClassId) (aX : Nat) (aC : Nat) (aCr : Nat) (aR : Nat) (aH : Nat) (aT : Nat) (aL : Nat) (aS : Nat) (aP : Nat) (xS : Int32) (xF : Int32) (xR : Int32) (xD : Int32) (xC : Int32) (row : Nat → Int32) (v : Int32 × (Nat → UInt64)) : va_W := [(aX, .inr (5, [.ref aC, .ref aR, .ref aH, .ref aT, .ref aL, .ref aS, .int xS, .int xF, .int xR, .int xD, .int xC])), (aC, .inr (0, [.ref aCr])), (aCr, .inl (K 0, 55, .inl row)), (aP, .inl (K 14, 1, .inr (.inr (.inr (.inl v.2)))))]
set_option maxHeartbeats 4000000 in
set_option maxRecDepth 100000 in
theorem c_L_meanCoins (l : Launch) (hfl : l.stackTraces = false) (D : va_G) (K : Nat → ClassId) (aX : Nat) (aC : Nat) (aCr : Nat) (aR : Nat) (aH : Nat) (aT : Nat) (aL : Nat) (aS : Nat) (aP : Nat) (xS : Int32) (xF : Int32) (xR : Int32) (xD : Int32) (xC : Int32) (row : Nat → Int32) (oD : Nat → UInt64)  (v : Int32 × (Nat → UInt64)) (hF : f_L_meanCoins row oD = some v) (sz : Nat) :
    (vx_Met l yL_meanCoins wsL_meanCoins RM_L_meanCoins (PC D (TY K) [(aX, .inr (5, [.ref aC, .ref aR, .ref aH, .ref aT, .ref aL, .ref aS, .int xS, .int xF, .int xR, .int xD, .int xC])), (aC, .inr (0, [.ref aCr])), (aCr, .inl (K 0, 55, .inl row)), (aP, .inl (K 14, 1, .inr (.inr (.inr (.inl oD)))))] [.ref aX, .ref aP] sz) (QI D (TY K) (wf_L_meanCoins K aX aC aCr aR aH aT aL aS aP xS xF xR xD xC row) v (va_A [(aX, .inr (5, [.ref aC, .ref aR, .ref aH, .ref aT, .ref aL, .ref aS, .int xS, .int xF, .int xR, .int xD, .int xC])), (aC, .inr (0, [.ref aCr])), (aCr, .inl (K 0, 55, .inl row)), (aP, .inl (K 14, 1, .inr (.inr (.inr (.inl oD)))))] sz)) XN MC_L_meanCoins MS_L_meanCoins (va_A [(aX, .inr (5, [.ref aC, .ref aR, .ref aH, .ref aT, .ref aL, .ref aS, .int xS, .int xF, .int xR, .int xD, .int xC])), (aC, .inr (0, [.ref aCr])), (aCr, .inl (K 0, 55, .inl row)), (aP, .inl (K 14, 1, .inr (.inr (.inr (.inl oD)))))] sz)) := by
  refine proH (Qf := fun A => QI D (TY K) (wf_L_meanCoins K aX aC aCr aR aH aT aL aS aP xS xF xR xD xC row) v A) (XCf := fun _ => XN) (cc := cL_meanCoins) (maxL := 3) (ret := (some .int)) (by decide +kernel) rfl (Nat.le_of_ble_eq_true rfl) ?_
  intro p e s m args below meth c hx hb hr hts hown hlocks hml htab hK A hA hE hP hD hS ls hl
  have hown : s.vm.findClass RL = some m.cls := hown
  have hl : lv_has ls 3 [(0, .ref aX), (1, .ref aP)] := hl
  rw [f_L_meanCoins] at hF
  refine lv_aload_n hx hb dL_meanCoins_0 rfl (lv_at hl 1 rfl) ?_
  refine lv_iconst (v := (0 : Int32)) hx hb dL_meanCoins_1 (by decide) ?_
  refine lv_aload_n hx hb dL_meanCoins_2 rfl (lv_at hl 0 rfl) ?_
  obtain ⟨v1, hv1, hF⟩ := oB hF
  refine callX_d (wr := [(aP, .inl (K 14, 1, .inr (.inr (.inr (.inl oD)))))]) (wn := [(aX, .inr (5, [.ref aC, .ref aR, .ref aH, .ref aT, .ref aL, .ref aS, .int xS, .int xF, .int xR, .int xD, .int xC])), (aC, .inr (0, [.ref aCr])), (aCr, .inl (K 0, 55, .inl row)), (aP, .inl (K 14, 1, .inr (.inr (.inr (.inl oD)))))]) (vx_runV (As := []) (rest := [.int (0 : Int32), .ref aP]) ⟨hx, hb, hml, hown, hts⟩ (c_X7_meanCoins l hfl D K aX aC aCr aR aH aT aL aS xS xF xR xD xC row v1 hv1 s.heap.size) (cwV 0 hts gL_meanCoins_X7_meanCoins rfl rfl rfl (by decide +kernel) ⟨(Nat.le_of_ble_eq_true rfl), (Nat.le_of_ble_eq_true rfl)⟩) (prV hE hK hP hD hS hA [0, 1, 2] rfl rfl 5 0 rfl rfl rfl) rfl rfl hl.1 rfl (lv_room (Nat.le_of_ble_eq_true rfl)) dL_meanCoins_3 ⟨(Nat.le_of_ble_eq_true rfl), (Nat.le_of_ble_eq_true rfl)⟩) hP hD hS hA [0, 1, 2] [3] [1, 2, 3, 0] rfl rfl rfl (by decide) rfl rfl (fun hzv1 H locs hP hD hS => ?_) (fun hzv1 q9 ce H locs hP hD hS hce hcv hcl => ?_)
  · have hF := oT hzv1 hF
    refine va_dast hx hb hK hP hD hS 3 14 rfl rfl (inB_in (by decide : inB (0 : Int32) 1 = true)) dL_meanCoins_6 (fun H locs hP hD hS => ?_)
    have hP : va_P D vwC7 [(aX, .inr (5, [.ref aC, .ref aR, .ref aH, .ref aT, .ref aL, .ref aS, .int xS, .int xF, .int xR, .int xD, .int xC])), (aC, .inr (0, [.ref aCr])), (aCr, .inl (K 0, 55, .inl row)), (aP, .inl (K 14, 1, .inr (.inr (.inr (.inl (vf_upd oD (0 : Int32).toNatClampNeg v1.2.1))))))] H := hP
    have hD : va_D A [(aX, .inr (5, [.ref aC, .ref aR, .ref aH, .ref aT, .ref aL, .ref aS, .int xS, .int xF, .int xR, .int xD, .int xC])), (aC, .inr (0, [.ref aCr])), (aCr, .inl (K 0, 55, .inl row)), (aP, .inl (K 14, 1, .inr (.inr (.inr (.inl (vf_upd oD (0 : Int32).toNatClampNeg v1.2.1))))))] := hD
    refine lv_goto (tgt := 13) hx hb dL_meanCoins_7 (by decide) ?_
    refine lv_iconst (v := (0 : Int32)) hx hb dL_meanCoins_13 (by decide) ?_
    exact vx_ret (fin_i (u := ((0 : Int32), vf_upd oD (0 : Int32).toNatClampNeg v1.2.1)) hF hx hb hr hlocks hK hP hD hS (Nat.le_of_ble_eq_true rfl) (Nat.le_of_ble_eq_true rfl) dL_meanCoins_14)
  · have hF := oF hzv1 hF
    by_cases c2 : v1.1 = 5
    · have hF := oT c2 hF
      rw [c2] at hcl
      refine vx_catch (E := "java/lang/ArithmeticException") (name := "java/lang/ArithmeticException") hown [] ⟨0, 7, 10, 107⟩ [] (htab.trans rfl) (fun z hz => nomatch hz) (by decide) (by decide) (hts (.classLink RL 107 "java/lang/ArithmeticException") (List.mem_of_getElem? (i := 1) rfl)) (va_Nw.use rfl (hE.2.2.2.2.1 _ (List.mem_of_getElem? (i := 5) rfl))) hce hcv hcl ?_
      refine lv_astore_n (lv' := [(2, .ref q9), (0, .ref aX), (1, .ref aP)]) hx hb dL_meanCoins_10 rfl hl (by decide) rfl (fun ls hl => ?_)
      refine lv_iconst (v := (1 : Int32)) hx hb dL_meanCoins_11 (by decide) ?_
      exact vx_ret (fin_i (u := ((1 : Int32), oD)) hF hx hb hr hlocks hK hP hD hS (Nat.le_of_ble_eq_true rfl) (Nat.le_of_ble_eq_true rfl) dL_meanCoins_12)
    have hF := oF c2 hF
    exact nomatch hF
abbrev RM_L_tappedShare : Room := { frames := 7, cells := 1, slots := 6, locals := 119 }
abbrev MC_L_tappedShare : Nat := 1
abbrev MS_L_tappedShare : Nat := 6
abbrev wf_L_tappedShare (K : Nat → ClassId) (aX : Nat) (aC : Nat) (aCr : Nat) (aR : Nat) (aH : Nat) (aT : Nat) (aL : Nat) (aS : Nat) (aP : Nat) (xS : Int32) (xF : Int32) (xR : Int32) (xD : Int32) (xC : Int32) (row : Nat → Int32) (v : Int32 × (Nat → UInt64)) : va_W := [(aX, .inr (5, [.ref aC, .ref aR, .ref aH, .ref aT, .ref aL, .ref aS, .int xS, .int xF, .int xR, .int xD, .int xC])), (aC, .inr (0, [.ref aCr])), (aCr, .inl (K 0, 55, .inl row)), (aP, .inl (K 14, 1, .inr (.inr (.inr (.inl v.2)))))]
set_option maxHeartbeats 4000000 in
set_option maxRecDepth 100000 in
theorem c_L_tappedShare (l : Launch) (hfl : l.stackTraces = false) (D : va_G) (K : Nat → ClassId) (aX : Nat) (aC : Nat) (aCr : Nat) (aR : Nat) (aH : Nat) (aT : Nat) (aL : Nat) (aS : Nat) (aP : Nat) (xS : Int32) (xF : Int32) (xR : Int32) (xD : Int32) (xC : Int32) (row : Nat → Int32) (oD : Nat → UInt64)  (v : Int32 × (Nat → UInt64)) (hF : f_L_tappedShare row oD = some v) (sz : Nat) :
    (vx_Met l yL_tappedShare wsL_tappedShare RM_L_tappedShare (PC D (TY K) [(aX, .inr (5, [.ref aC, .ref aR, .ref aH, .ref aT, .ref aL, .ref aS, .int xS, .int xF, .int xR, .int xD, .int xC])), (aC, .inr (0, [.ref aCr])), (aCr, .inl (K 0, 55, .inl row)), (aP, .inl (K 14, 1, .inr (.inr (.inr (.inl oD)))))] [.ref aX, .ref aP] sz) (QI D (TY K) (wf_L_tappedShare K aX aC aCr aR aH aT aL aS aP xS xF xR xD xC row) v (va_A [(aX, .inr (5, [.ref aC, .ref aR, .ref aH, .ref aT, .ref aL, .ref aS, .int xS, .int xF, .int xR, .int xD, .int xC])), (aC, .inr (0, [.ref aCr])), (aCr, .inl (K 0, 55, .inl row)), (aP, .inl (K 14, 1, .inr (.inr (.inr (.inl oD)))))] sz)) XN MC_L_tappedShare MS_L_tappedShare (va_A [(aX, .inr (5, [.ref aC, .ref aR, .ref aH, .ref aT, .ref aL, .ref aS, .int xS, .int xF, .int xR, .int xD, .int xC])), (aC, .inr (0, [.ref aCr])), (aCr, .inl (K 0, 55, .inl row)), (aP, .inl (K 14, 1, .inr (.inr (.inr (.inl oD)))))] sz)) := by
  refine proH (Qf := fun A => QI D (TY K) (wf_L_tappedShare K aX aC aCr aR aH aT aL aS aP xS xF xR xD xC row) v A) (XCf := fun _ => XN) (cc := cL_tappedShare) (maxL := 3) (ret := (some .int)) (by decide +kernel) rfl (Nat.le_of_ble_eq_true rfl) ?_
  intro p e s m args below meth c hx hb hr hts hown hlocks hml htab hK A hA hE hP hD hS ls hl
  have hown : s.vm.findClass RL = some m.cls := hown
  have hl : lv_has ls 3 [(0, .ref aX), (1, .ref aP)] := hl
  rw [f_L_tappedShare] at hF
  refine lv_aload_n hx hb dL_tappedShare_0 rfl (lv_at hl 1 rfl) ?_
  refine lv_iconst (v := (0 : Int32)) hx hb dL_tappedShare_1 (by decide) ?_
  refine lv_aload_n hx hb dL_tappedShare_2 rfl (lv_at hl 0 rfl) ?_
  obtain ⟨v1, hv1, hF⟩ := oB hF
  refine callX_f (wr := [(aP, .inl (K 14, 1, .inr (.inr (.inr (.inl oD)))))]) (wn := [(aX, .inr (5, [.ref aC, .ref aR, .ref aH, .ref aT, .ref aL, .ref aS, .int xS, .int xF, .int xR, .int xD, .int xC])), (aC, .inr (0, [.ref aCr])), (aCr, .inl (K 0, 55, .inl row)), (aP, .inl (K 14, 1, .inr (.inr (.inr (.inl oD)))))]) (vx_runV (As := []) (rest := [.int (0 : Int32), .ref aP]) ⟨hx, hb, hml, hown, hts⟩ (c_X7_tappedShare l hfl D K aX aC aCr aR aH aT aL aS xS xF xR xD xC row v1 hv1 s.heap.size) (cwV 0 hts gL_tappedShare_X7_tappedShare rfl rfl rfl (by decide +kernel) ⟨(Nat.le_of_ble_eq_true rfl), (Nat.le_of_ble_eq_true rfl)⟩) (prV hE hK hP hD hS hA [0, 1, 2] rfl rfl 5 0 rfl rfl rfl) rfl rfl hl.1 rfl (lv_room (Nat.le_of_ble_eq_true rfl)) dL_tappedShare_3 ⟨(Nat.le_of_ble_eq_true rfl), (Nat.le_of_ble_eq_true rfl)⟩) hP hD hS hA [0, 1, 2] [3] [1, 2, 3, 0] rfl rfl rfl (by decide) rfl rfl (fun hzv1 H locs hP hD hS => ?_) (fun hzv1 q9 ce H locs hP hD hS hce hcv hcl => ?_)
  · have hF := oT hzv1 hF
    obtain ⟨g2, hF⟩ := oG hF
    refine lv_f2d hx hb dL_tappedShare_6 (n64_n g2) ?_
    refine va_dast hx hb hK hP hD hS 3 14 rfl rfl (inB_in (by decide : inB (0 : Int32) 1 = true)) dL_tappedShare_7 (fun H locs hP hD hS => ?_)
    have hP : va_P D vwC7 [(aX, .inr (5, [.ref aC, .ref aR, .ref aH, .ref aT, .ref aL, .ref aS, .int xS, .int xF, .int xR, .int xD, .int xC])), (aC, .inr (0, [.ref aCr])), (aCr, .inl (K 0, 55, .inl row)), (aP, .inl (K 14, 1, .inr (.inr (.inr (.inl (vf_upd oD (0 : Int32).toNatClampNeg (FP.f2d v1.2.1)))))))] H := hP
    have hD : va_D A [(aX, .inr (5, [.ref aC, .ref aR, .ref aH, .ref aT, .ref aL, .ref aS, .int xS, .int xF, .int xR, .int xD, .int xC])), (aC, .inr (0, [.ref aCr])), (aCr, .inl (K 0, 55, .inl row)), (aP, .inl (K 14, 1, .inr (.inr (.inr (.inl (vf_upd oD (0 : Int32).toNatClampNeg (FP.f2d v1.2.1)))))))] := hD
    refine lv_goto (tgt := 14) hx hb dL_tappedShare_8 (by decide) ?_
    refine lv_iconst (v := (0 : Int32)) hx hb dL_tappedShare_14 (by decide) ?_
    exact vx_ret (fin_i (u := ((0 : Int32), vf_upd oD (0 : Int32).toNatClampNeg (FP.f2d v1.2.1))) hF hx hb hr hlocks hK hP hD hS (Nat.le_of_ble_eq_true rfl) (Nat.le_of_ble_eq_true rfl) dL_tappedShare_15)
  · have hF := oF hzv1 hF
    by_cases c3 : v1.1 = 5
    · have hF := oT c3 hF
      rw [c3] at hcl
      refine vx_catch (E := "java/lang/ArithmeticException") (name := "java/lang/ArithmeticException") hown [] ⟨0, 8, 11, 107⟩ [] (htab.trans rfl) (fun z hz => nomatch hz) (by decide) (by decide) (hts (.classLink RL 107 "java/lang/ArithmeticException") (List.mem_of_getElem? (i := 1) rfl)) (va_Nw.use rfl (hE.2.2.2.2.1 _ (List.mem_of_getElem? (i := 5) rfl))) hce hcv hcl ?_
      refine lv_astore_n (lv' := [(2, .ref q9), (0, .ref aX), (1, .ref aP)]) hx hb dL_tappedShare_11 rfl hl (by decide) rfl (fun ls hl => ?_)
      refine lv_iconst (v := (1 : Int32)) hx hb dL_tappedShare_12 (by decide) ?_
      exact vx_ret (fin_i (u := ((1 : Int32), oD)) hF hx hb hr hlocks hK hP hD hS (Nat.le_of_ble_eq_true rfl) (Nat.le_of_ble_eq_true rfl) dL_tappedShare_13)
    have hF := oF c3 hF
    exact nomatch hF
abbrev RM_L_account : Room := { frames := 7, cells := 1, slots := 6, locals := 119 }
abbrev MC_L_account : Nat := 1
abbrev MS_L_account : Nat := 6
abbrev wf_L_account (K : Nat → ClassId) (aX : Nat) (aC : Nat) (aCr : Nat) (aR : Nat) (aH : Nat) (aHr : Nat) (aT : Nat) (aTc : Nat) (aTp : Nat) (aL : Nat) (aS : Nat) (aO : Nat) (xS : Int32) (xF : Int32) (xR : Int32) (xD : Int32) (xC : Int32) (row : Nat → Int32) (kN : Int32) (kK : Int32) (tL : Int32) (tS : Int32) (tQ : Int32) (tF : Int32) (v : Int32 × (Nat → Int64)) : va_W := [(aX, .inr (5, [.ref aC, .ref aR, .ref aH, .ref aT, .ref aL, .ref aS, .int xS, .int xF, .int xR, .int xD, .int xC])), (aC, .inr (0, [.ref aCr])), (aCr, .inl (K 0, 55, .inl row)), (aH, .inr (2, [.ref aHr, .int kN, .int kK])), (aT, .inr (1, [.ref aTc, .ref aTp, .int tL, .int tS, .int tQ, .int tF])), (aO, .inl (K 13, 1, .inr (.inl v.2)))]
set_option maxHeartbeats 4000000 in
set_option maxRecDepth 100000 in
theorem c_L_account (l : Launch) (hfl : l.stackTraces = false) (D : va_G) (K : Nat → ClassId) (aX : Nat) (aC : Nat) (aCr : Nat) (aR : Nat) (aH : Nat) (aHr : Nat) (aT : Nat) (aTc : Nat) (aTp : Nat) (aL : Nat) (aS : Nat) (aO : Nat) (xS : Int32) (xF : Int32) (xR : Int32) (xD : Int32) (xC : Int32) (row : Nat → Int32) (kN : Int32) (kK : Int32) (tL : Int32) (tS : Int32) (tQ : Int32) (tF : Int32) (oL : Nat → Int64) (p2 : Int32) (v : Int32 × (Nat → Int64)) (hF : f_L_account row kK tL oL p2 = some v) (sz : Nat) :
    (vx_Met l yL_account wsL_account RM_L_account (PC D (TY K) [(aX, .inr (5, [.ref aC, .ref aR, .ref aH, .ref aT, .ref aL, .ref aS, .int xS, .int xF, .int xR, .int xD, .int xC])), (aC, .inr (0, [.ref aCr])), (aCr, .inl (K 0, 55, .inl row)), (aH, .inr (2, [.ref aHr, .int kN, .int kK])), (aT, .inr (1, [.ref aTc, .ref aTp, .int tL, .int tS, .int tQ, .int tF])), (aO, .inl (K 13, 1, .inr (.inl oL)))] [.ref aX, .int p2, .ref aO] sz) (QI D (TY K) (wf_L_account K aX aC aCr aR aH aHr aT aTc aTp aL aS aO xS xF xR xD xC row kN kK tL tS tQ tF) v (va_A [(aX, .inr (5, [.ref aC, .ref aR, .ref aH, .ref aT, .ref aL, .ref aS, .int xS, .int xF, .int xR, .int xD, .int xC])), (aC, .inr (0, [.ref aCr])), (aCr, .inl (K 0, 55, .inl row)), (aH, .inr (2, [.ref aHr, .int kN, .int kK])), (aT, .inr (1, [.ref aTc, .ref aTp, .int tL, .int tS, .int tQ, .int tF])), (aO, .inl (K 13, 1, .inr (.inl oL)))] sz)) XN MC_L_account MS_L_account (va_A [(aX, .inr (5, [.ref aC, .ref aR, .ref aH, .ref aT, .ref aL, .ref aS, .int xS, .int xF, .int xR, .int xD, .int xC])), (aC, .inr (0, [.ref aCr])), (aCr, .inl (K 0, 55, .inl row)), (aH, .inr (2, [.ref aHr, .int kN, .int kK])), (aT, .inr (1, [.ref aTc, .ref aTp, .int tL, .int tS, .int tQ, .int tF])), (aO, .inl (K 13, 1, .inr (.inl oL)))] sz)) := by
  refine proH (Qf := fun A => QI D (TY K) (wf_L_account K aX aC aCr aR aH aHr aT aTc aTp aL aS aO xS xF xR xD xC row kN kK tL tS tQ tF) v A) (XCf := fun _ => XN) (cc := cL_account) (maxL := 4) (ret := (some .int)) (by decide +kernel) rfl (Nat.le_of_ble_eq_true rfl) ?_
  intro p e s m args below meth c hx hb hr hts hown hlocks hml htab hK A hA hE hP hD hS ls hl
  have hown : s.vm.findClass RL = some m.cls := hown
  have hl : lv_has ls 4 [(0, .ref aX), (1, .int p2), (2, .ref aO)] := hl
  rw [f_L_account] at hF
  refine lv_aload_n hx hb dL_account_0 rfl (lv_at hl 2 rfl) ?_
  refine lv_iconst (v := (0 : Int32)) hx hb dL_account_1 (by decide) ?_
  refine lv_aload_n hx hb dL_account_2 rfl (lv_at hl 0 rfl) ?_
  refine lv_iload_n hx hb dL_account_3 rfl (lv_at hl 1 rfl) ?_
  obtain ⟨v1, hv1, hF⟩ := oB hF
  refine callX_i (wr := [(aO, .inl (K 13, 1, .inr (.inl oL)))]) (wn := [(aX, .inr (5, [.ref aC, .ref aR, .ref aH, .ref aT, .ref aL, .ref aS, .int xS, .int xF, .int xR, .int xD, .int xC])), (aC, .inr (0, [.ref aCr])), (aCr, .inl (K 0, 55, .inl row)), (aH, .inr (2, [.ref aHr, .int kN, .int kK])), (aT, .inr (1, [.ref aTc, .ref aTp, .int tL, .int tS, .int tQ, .int tF])), (aO, .inl (K 13, 1, .inr (.inl oL)))]) (vx_runV (As := [.int p2]) (rest := [.int (0 : Int32), .ref aO]) ⟨hx, hb, hml, hown, hts⟩ (c_X7_account l hfl D K aX aC aCr aR aH aHr aT aTc aTp aL aS xS xF xR xD xC row kN kK tL tS tQ tF p2 v1 hv1 s.heap.size) (cwV 1 hts gL_account_X7_account rfl rfl rfl (by decide +kernel) ⟨(Nat.le_of_ble_eq_true rfl), (Nat.le_of_ble_eq_true rfl)⟩) (prV hE hK hP hD hS hA [0, 1, 2, 3, 4] rfl rfl 5 0 rfl rfl rfl) rfl rfl hl.1 rfl (lv_room (Nat.le_of_ble_eq_true rfl)) dL_account_4 ⟨(Nat.le_of_ble_eq_true rfl), (Nat.le_of_ble_eq_true rfl)⟩) hP hD hS hA [0, 1, 2, 3, 4] [5] [1, 2, 3, 4, 5, 0] rfl rfl rfl (by decide) rfl rfl (fun hzv1 H locs hP hD hS => ?_) (fun hzv1 q9 ce H locs hP hD hS hce hcv hcl => ?_)
  · have hF := oT hzv1 hF
    refine lv_i2l (v := v1.2.1.toInt64) hx hb dL_account_7 rfl ?_
    refine va_last hx hb hK hP hD hS 5 13 rfl rfl (inB_in (by decide : inB (0 : Int32) 1 = true)) dL_account_8 (fun H locs hP hD hS => ?_)
    have hP : va_P D vwC7 [(aX, .inr (5, [.ref aC, .ref aR, .ref aH, .ref aT, .ref aL, .ref aS, .int xS, .int xF, .int xR, .int xD, .int xC])), (aC, .inr (0, [.ref aCr])), (aCr, .inl (K 0, 55, .inl row)), (aH, .inr (2, [.ref aHr, .int kN, .int kK])), (aT, .inr (1, [.ref aTc, .ref aTp, .int tL, .int tS, .int tQ, .int tF])), (aO, .inl (K 13, 1, .inr (.inl (vp_updL oL (0 : Int32).toNatClampNeg v1.2.1.toInt64))))] H := hP
    have hD : va_D A [(aX, .inr (5, [.ref aC, .ref aR, .ref aH, .ref aT, .ref aL, .ref aS, .int xS, .int xF, .int xR, .int xD, .int xC])), (aC, .inr (0, [.ref aCr])), (aCr, .inl (K 0, 55, .inl row)), (aH, .inr (2, [.ref aHr, .int kN, .int kK])), (aT, .inr (1, [.ref aTc, .ref aTp, .int tL, .int tS, .int tQ, .int tF])), (aO, .inl (K 13, 1, .inr (.inl (vp_updL oL (0 : Int32).toNatClampNeg v1.2.1.toInt64))))] := hD
    refine lv_goto (tgt := 15) hx hb dL_account_9 (by decide) ?_
    refine lv_iconst (v := (0 : Int32)) hx hb dL_account_15 (by decide) ?_
    exact vx_ret (fin_i (u := ((0 : Int32), vp_updL oL (0 : Int32).toNatClampNeg v1.2.1.toInt64)) hF hx hb hr hlocks hK hP hD hS (Nat.le_of_ble_eq_true rfl) (Nat.le_of_ble_eq_true rfl) dL_account_16)
  · have hF := oF hzv1 hF
    by_cases c2 : v1.1 = 2
    · have hF := oT c2 hF
      rw [c2] at hcl
      refine vx_catch (E := "java/lang/IllegalArgumentException") (name := "java/lang/IllegalArgumentException") hown [] ⟨0, 9, 12, 50⟩ [] (htab.trans rfl) (fun z hz => nomatch hz) (by decide) (by decide) (hts (.classLink RL 50 "java/lang/IllegalArgumentException") (List.mem_of_getElem? (i := 1) rfl)) (va_Nw.use rfl (hE.2.2.2.2.1 _ (List.mem_of_getElem? (i := 2) rfl))) hce hcv hcl ?_
      refine lv_astore_n (lv' := [(3, .ref q9), (0, .ref aX), (1, .int p2), (2, .ref aO)]) hx hb dL_account_12 rfl hl (by decide) rfl (fun ls hl => ?_)
      refine lv_iconst (v := (1 : Int32)) hx hb dL_account_13 (by decide) ?_
      exact vx_ret (fin_i (u := ((1 : Int32), oL)) hF hx hb hr hlocks hK hP hD hS (Nat.le_of_ble_eq_true rfl) (Nat.le_of_ble_eq_true rfl) dL_account_14)
    have hF := oF c2 hF
    exact nomatch hF
abbrev RM_L_undo : Room := { frames := 7, cells := 1, slots := 6, locals := 204 }
abbrev MC_L_undo : Nat := 1
abbrev MS_L_undo : Nat := 6
abbrev wf_L_undo (K : Nat → ClassId) (aX : Nat) (aC : Nat) (aCr : Nat) (aR : Nat) (aH : Nat) (aHr : Nat) (aT : Nat) (aL : Nat) (aS : Nat) (aO : Nat) (xS : Int32) (xF : Int32) (xR : Int32) (xD : Int32) (xC : Int32) (kF : Nat → Int32) (v : Int32 × (Nat → Int32) × Int32 × Int32 × (Nat → Int64)) : va_W := [(aX, .inr (5, [.ref aC, .ref aR, .ref aH, .ref aT, .ref aL, .ref aS, .int xS, .int xF, .int xR, .int xD, .int xC])), (aC, .inr (0, [.ref aCr])), (aCr, .inl (K 0, 55, .inl v.2.1)), (aH, .inr (2, [.ref aHr, .int v.2.2.1, .int v.2.2.2.1])), (aHr, .inl (K 1, 495, .inl kF)), (aO, .inl (K 13, 1, .inr (.inl v.2.2.2.2)))]
set_option maxHeartbeats 4000000 in
set_option maxRecDepth 100000 in
theorem c_L_undo (l : Launch) (hfl : l.stackTraces = false) (D : va_G) (K : Nat → ClassId) (aX : Nat) (aC : Nat) (aCr : Nat) (aR : Nat) (aH : Nat) (aHr : Nat) (aT : Nat) (aL : Nat) (aS : Nat) (aO : Nat) (xS : Int32) (xF : Int32) (xR : Int32) (xD : Int32) (xC : Int32) (row : Nat → Int32) (kN : Int32) (kK : Int32) (kF : Nat → Int32) (oL : Nat → Int64)  (v : Int32 × (Nat → Int32) × Int32 × Int32 × (Nat → Int64)) (hF : f_L_undo row kN kK kF oL = some v) (sz : Nat) :
    (vx_Met l yL_undo wsL_undo RM_L_undo (PC D (TY K) [(aX, .inr (5, [.ref aC, .ref aR, .ref aH, .ref aT, .ref aL, .ref aS, .int xS, .int xF, .int xR, .int xD, .int xC])), (aC, .inr (0, [.ref aCr])), (aCr, .inl (K 0, 55, .inl row)), (aH, .inr (2, [.ref aHr, .int kN, .int kK])), (aHr, .inl (K 1, 495, .inl kF)), (aO, .inl (K 13, 1, .inr (.inl oL)))] [.ref aX, .ref aO] sz) (QI D (TY K) (wf_L_undo K aX aC aCr aR aH aHr aT aL aS aO xS xF xR xD xC kF) v (va_A [(aX, .inr (5, [.ref aC, .ref aR, .ref aH, .ref aT, .ref aL, .ref aS, .int xS, .int xF, .int xR, .int xD, .int xC])), (aC, .inr (0, [.ref aCr])), (aCr, .inl (K 0, 55, .inl row)), (aH, .inr (2, [.ref aHr, .int kN, .int kK])), (aHr, .inl (K 1, 495, .inl kF)), (aO, .inl (K 13, 1, .inr (.inl oL)))] sz)) XN MC_L_undo MS_L_undo (va_A [(aX, .inr (5, [.ref aC, .ref aR, .ref aH, .ref aT, .ref aL, .ref aS, .int xS, .int xF, .int xR, .int xD, .int xC])), (aC, .inr (0, [.ref aCr])), (aCr, .inl (K 0, 55, .inl row)), (aH, .inr (2, [.ref aHr, .int kN, .int kK])), (aHr, .inl (K 1, 495, .inl kF)), (aO, .inl (K 13, 1, .inr (.inl oL)))] sz)) := by
  refine proH (Qf := fun A => QI D (TY K) (wf_L_undo K aX aC aCr aR aH aHr aT aL aS aO xS xF xR xD xC kF) v A) (XCf := fun _ => XN) (cc := cL_undo) (maxL := 3) (ret := (some .int)) (by decide +kernel) rfl (Nat.le_of_ble_eq_true rfl) ?_
  intro p e s m args below meth c hx hb hr hts hown hlocks hml htab hK A hA hE hP hD hS ls hl
  have hown : s.vm.findClass RL = some m.cls := hown
  have hl : lv_has ls 3 [(0, .ref aX), (1, .ref aO)] := hl
  rw [f_L_undo] at hF
  refine lv_aload_n hx hb dL_undo_0 rfl (lv_at hl 1 rfl) ?_
  refine lv_iconst (v := (0 : Int32)) hx hb dL_undo_1 (by decide) ?_
  refine lv_aload_n hx hb dL_undo_2 rfl (lv_at hl 0 rfl) ?_
  obtain ⟨v1, hv1, hF⟩ := oB hF
  refine callX_i (wr := [(aO, .inl (K 13, 1, .inr (.inl oL)))]) (wn := [(aX, .inr (5, [.ref aC, .ref aR, .ref aH, .ref aT, .ref aL, .ref aS, .int xS, .int xF, .int xR, .int xD, .int xC])), (aC, .inr (0, [.ref aCr])), (aCr, .inl (K 0, 55, .inl v1.2.2.1)), (aH, .inr (2, [.ref aHr, .int v1.2.2.2.1, .int v1.2.2.2.2])), (aHr, .inl (K 1, 495, .inl kF)), (aO, .inl (K 13, 1, .inr (.inl oL)))]) (vx_runV (As := []) (rest := [.int (0 : Int32), .ref aO]) ⟨hx, hb, hml, hown, hts⟩ (c_X7_undo l hfl D K aX aC aCr aR aH aHr aT aL aS xS xF xR xD xC row kN kK kF v1 hv1 s.heap.size) (cwV 0 hts gL_undo_X7_undo rfl rfl rfl (by decide +kernel) ⟨(Nat.le_of_ble_eq_true rfl), (Nat.le_of_ble_eq_true rfl)⟩) (prV hE hK hP hD hS hA [0, 1, 2, 3, 4] rfl rfl 5 0 rfl rfl rfl) rfl rfl hl.1 rfl (lv_room (Nat.le_of_ble_eq_true rfl)) dL_undo_3 ⟨(Nat.le_of_ble_eq_true rfl), (Nat.le_of_ble_eq_true rfl)⟩) hP hD hS hA [0, 1, 2, 3, 4] [5] [1, 2, 3, 4, 5, 0] rfl rfl rfl (by decide) rfl rfl (fun hzv1 H locs hP hD hS => ?_) (fun hzv1 q9 ce H locs hP hD hS hce hcv hcl => ?_)
  · have hF := oT hzv1 hF
    refine lv_i2l (v := v1.2.1.toInt64) hx hb dL_undo_6 rfl ?_
    refine va_last hx hb hK hP hD hS 5 13 rfl rfl (inB_in (by decide : inB (0 : Int32) 1 = true)) dL_undo_7 (fun H locs hP hD hS => ?_)
    have hP : va_P D vwC7 [(aX, .inr (5, [.ref aC, .ref aR, .ref aH, .ref aT, .ref aL, .ref aS, .int xS, .int xF, .int xR, .int xD, .int xC])), (aC, .inr (0, [.ref aCr])), (aCr, .inl (K 0, 55, .inl v1.2.2.1)), (aH, .inr (2, [.ref aHr, .int v1.2.2.2.1, .int v1.2.2.2.2])), (aHr, .inl (K 1, 495, .inl kF)), (aO, .inl (K 13, 1, .inr (.inl (vp_updL oL (0 : Int32).toNatClampNeg v1.2.1.toInt64))))] H := hP
    have hD : va_D A [(aX, .inr (5, [.ref aC, .ref aR, .ref aH, .ref aT, .ref aL, .ref aS, .int xS, .int xF, .int xR, .int xD, .int xC])), (aC, .inr (0, [.ref aCr])), (aCr, .inl (K 0, 55, .inl v1.2.2.1)), (aH, .inr (2, [.ref aHr, .int v1.2.2.2.1, .int v1.2.2.2.2])), (aHr, .inl (K 1, 495, .inl kF)), (aO, .inl (K 13, 1, .inr (.inl (vp_updL oL (0 : Int32).toNatClampNeg v1.2.1.toInt64))))] := hD
    refine lv_goto (tgt := 14) hx hb dL_undo_8 (by decide) ?_
    refine lv_iconst (v := (0 : Int32)) hx hb dL_undo_14 (by decide) ?_
    exact vx_ret (fin_i (u := ((0 : Int32), (v1.2.2.1, v1.2.2.2.1, v1.2.2.2.2, vp_updL oL (0 : Int32).toNatClampNeg v1.2.1.toInt64))) hF hx hb hr hlocks hK hP hD hS (Nat.le_of_ble_eq_true rfl) (Nat.le_of_ble_eq_true rfl) dL_undo_15)
  · have hF := oF hzv1 hF
    by_cases c2 : v1.1 = 4
    · have hF := oT c2 hF
      rw [c2] at hcl
      refine vx_catch (E := "java/lang/IllegalStateException") (name := "java/lang/IllegalStateException") hown [] ⟨0, 8, 11, 88⟩ [] (htab.trans rfl) (fun z hz => nomatch hz) (by decide) (by decide) (hts (.classLink RL 88 "java/lang/IllegalStateException") (List.mem_of_getElem? (i := 1) rfl)) (va_Nw.use rfl (hE.2.2.2.2.1 _ (List.mem_of_getElem? (i := 4) rfl))) hce hcv hcl ?_
      refine lv_astore_n (lv' := [(2, .ref q9), (0, .ref aX), (1, .ref aO)]) hx hb dL_undo_11 rfl hl (by decide) rfl (fun ls hl => ?_)
      refine lv_iconst (v := (1 : Int32)) hx hb dL_undo_12 (by decide) ?_
      exact vx_ret (fin_i (u := ((1 : Int32), (v1.2.2.1, v1.2.2.2.1, v1.2.2.2.2, oL))) hF hx hb hr hlocks hK hP hD hS (Nat.le_of_ble_eq_true rfl) (Nat.le_of_ble_eq_true rfl) dL_undo_13)
    have hF := oF c2 hF
    exact nomatch hF
abbrev RM_L_restore : Room := { frames := 7, cells := 1, slots := 6, locals := 162 }
abbrev MC_L_restore : Nat := 1
abbrev MS_L_restore : Nat := 6
abbrev wf_L_restore (K : Nat → ClassId) (aX : Nat) (aC : Nat) (aCr : Nat) (aR : Nat) (aH : Nat) (aHr : Nat) (aT : Nat) (aL : Nat) (aS : Nat) (aO : Nat) (xS : Int32) (xF : Int32) (xR : Int32) (xD : Int32) (xC : Int32) (kN : Int32) (sN : Nat → Int32) (v : Int32 × (Nat → Int32) × Int32 × (Nat → Int64)) : va_W := [(aX, .inr (5, [.ref aC, .ref aR, .ref aH, .ref aT, .ref aL, .ref aS, .int xS, .int xF, .int xR, .int xD, .int xC])), (aC, .inr (0, [.ref aCr])), (aCr, .inl (K 0, 55, .inl v.2.1)), (aH, .inr (2, [.ref aHr, .int kN, .int v.2.2.1])), (aS, .inl (K 5, 55, .inl sN)), (aO, .inl (K 13, 1, .inr (.inl v.2.2.2)))]
set_option maxHeartbeats 4000000 in
set_option maxRecDepth 100000 in
theorem c_L_restore (l : Launch) (hfl : l.stackTraces = false) (D : va_G) (K : Nat → ClassId) (aX : Nat) (aC : Nat) (aCr : Nat) (aR : Nat) (aH : Nat) (aHr : Nat) (aT : Nat) (aL : Nat) (aS : Nat) (aO : Nat) (xS : Int32) (xF : Int32) (xR : Int32) (xD : Int32) (xC : Int32) (row : Nat → Int32) (kN : Int32) (kK : Int32) (sN : Nat → Int32) (oL : Nat → Int64)  (v : Int32 × (Nat → Int32) × Int32 × (Nat → Int64)) (hF : f_L_restore xS row kK sN oL = some v) (sz : Nat) :
    (vx_Met l yL_restore wsL_restore RM_L_restore (PC D (TY K) [(aX, .inr (5, [.ref aC, .ref aR, .ref aH, .ref aT, .ref aL, .ref aS, .int xS, .int xF, .int xR, .int xD, .int xC])), (aC, .inr (0, [.ref aCr])), (aCr, .inl (K 0, 55, .inl row)), (aH, .inr (2, [.ref aHr, .int kN, .int kK])), (aS, .inl (K 5, 55, .inl sN)), (aO, .inl (K 13, 1, .inr (.inl oL)))] [.ref aX, .ref aO] sz) (QI D (TY K) (wf_L_restore K aX aC aCr aR aH aHr aT aL aS aO xS xF xR xD xC kN sN) v (va_A [(aX, .inr (5, [.ref aC, .ref aR, .ref aH, .ref aT, .ref aL, .ref aS, .int xS, .int xF, .int xR, .int xD, .int xC])), (aC, .inr (0, [.ref aCr])), (aCr, .inl (K 0, 55, .inl row)), (aH, .inr (2, [.ref aHr, .int kN, .int kK])), (aS, .inl (K 5, 55, .inl sN)), (aO, .inl (K 13, 1, .inr (.inl oL)))] sz)) XN MC_L_restore MS_L_restore (va_A [(aX, .inr (5, [.ref aC, .ref aR, .ref aH, .ref aT, .ref aL, .ref aS, .int xS, .int xF, .int xR, .int xD, .int xC])), (aC, .inr (0, [.ref aCr])), (aCr, .inl (K 0, 55, .inl row)), (aH, .inr (2, [.ref aHr, .int kN, .int kK])), (aS, .inl (K 5, 55, .inl sN)), (aO, .inl (K 13, 1, .inr (.inl oL)))] sz)) := by
  refine proH (Qf := fun A => QI D (TY K) (wf_L_restore K aX aC aCr aR aH aHr aT aL aS aO xS xF xR xD xC kN sN) v A) (XCf := fun _ => XN) (cc := cL_restore) (maxL := 3) (ret := (some .int)) (by decide +kernel) rfl (Nat.le_of_ble_eq_true rfl) ?_
  intro p e s m args below meth c hx hb hr hts hown hlocks hml htab hK A hA hE hP hD hS ls hl
  have hown : s.vm.findClass RL = some m.cls := hown
  have hl : lv_has ls 3 [(0, .ref aX), (1, .ref aO)] := hl
  rw [f_L_restore] at hF
  refine lv_aload_n hx hb dL_restore_0 rfl (lv_at hl 1 rfl) ?_
  refine lv_iconst (v := (0 : Int32)) hx hb dL_restore_1 (by decide) ?_
  refine lv_aload_n hx hb dL_restore_2 rfl (lv_at hl 0 rfl) ?_
  obtain ⟨v1, hv1, hF⟩ := oB hF
  refine callX_i (wr := [(aO, .inl (K 13, 1, .inr (.inl oL)))]) (wn := [(aX, .inr (5, [.ref aC, .ref aR, .ref aH, .ref aT, .ref aL, .ref aS, .int xS, .int xF, .int xR, .int xD, .int xC])), (aC, .inr (0, [.ref aCr])), (aCr, .inl (K 0, 55, .inl v1.2.2.1)), (aH, .inr (2, [.ref aHr, .int kN, .int v1.2.2.2])), (aS, .inl (K 5, 55, .inl sN)), (aO, .inl (K 13, 1, .inr (.inl oL)))]) (vx_runV (As := []) (rest := [.int (0 : Int32), .ref aO]) ⟨hx, hb, hml, hown, hts⟩ (c_X7_restore l hfl D K aX aC aCr aR aH aHr aT aL aS xS xF xR xD xC row kN kK sN v1 hv1 s.heap.size) (cwV 0 hts gL_restore_X7_restore rfl rfl rfl (by decide +kernel) ⟨(Nat.le_of_ble_eq_true rfl), (Nat.le_of_ble_eq_true rfl)⟩) (prV hE hK hP hD hS hA [0, 1, 2, 3, 4] rfl rfl 5 0 rfl rfl rfl) rfl rfl hl.1 rfl (lv_room (Nat.le_of_ble_eq_true rfl)) dL_restore_3 ⟨(Nat.le_of_ble_eq_true rfl), (Nat.le_of_ble_eq_true rfl)⟩) hP hD hS hA [0, 1, 2, 3, 4] [5] [1, 2, 3, 4, 5, 0] rfl rfl rfl (by decide) rfl rfl (fun hzv1 H locs hP hD hS => ?_) (fun hzv1 q9 ce H locs hP hD hS hce hcv hcl => ?_)
  · have hF := oT hzv1 hF
    refine lv_i2l (v := v1.2.1.toInt64) hx hb dL_restore_6 rfl ?_
    refine va_last hx hb hK hP hD hS 5 13 rfl rfl (inB_in (by decide : inB (0 : Int32) 1 = true)) dL_restore_7 (fun H locs hP hD hS => ?_)
    have hP : va_P D vwC7 [(aX, .inr (5, [.ref aC, .ref aR, .ref aH, .ref aT, .ref aL, .ref aS, .int xS, .int xF, .int xR, .int xD, .int xC])), (aC, .inr (0, [.ref aCr])), (aCr, .inl (K 0, 55, .inl v1.2.2.1)), (aH, .inr (2, [.ref aHr, .int kN, .int v1.2.2.2])), (aS, .inl (K 5, 55, .inl sN)), (aO, .inl (K 13, 1, .inr (.inl (vp_updL oL (0 : Int32).toNatClampNeg v1.2.1.toInt64))))] H := hP
    have hD : va_D A [(aX, .inr (5, [.ref aC, .ref aR, .ref aH, .ref aT, .ref aL, .ref aS, .int xS, .int xF, .int xR, .int xD, .int xC])), (aC, .inr (0, [.ref aCr])), (aCr, .inl (K 0, 55, .inl v1.2.2.1)), (aH, .inr (2, [.ref aHr, .int kN, .int v1.2.2.2])), (aS, .inl (K 5, 55, .inl sN)), (aO, .inl (K 13, 1, .inr (.inl (vp_updL oL (0 : Int32).toNatClampNeg v1.2.1.toInt64))))] := hD
    refine lv_goto (tgt := 14) hx hb dL_restore_8 (by decide) ?_
    refine lv_iconst (v := (0 : Int32)) hx hb dL_restore_14 (by decide) ?_
    exact vx_ret (fin_i (u := ((0 : Int32), (v1.2.2.1, v1.2.2.2, vp_updL oL (0 : Int32).toNatClampNeg v1.2.1.toInt64))) hF hx hb hr hlocks hK hP hD hS (Nat.le_of_ble_eq_true rfl) (Nat.le_of_ble_eq_true rfl) dL_restore_15)
  · have hF := oF hzv1 hF
    by_cases c2 : v1.1 = 4
    · have hF := oT c2 hF
      rw [c2] at hcl
      refine vx_catch (E := "java/lang/IllegalStateException") (name := "java/lang/IllegalStateException") hown [] ⟨0, 8, 11, 88⟩ [] (htab.trans rfl) (fun z hz => nomatch hz) (by decide) (by decide) (hts (.classLink RL 88 "java/lang/IllegalStateException") (List.mem_of_getElem? (i := 1) rfl)) (va_Nw.use rfl (hE.2.2.2.2.1 _ (List.mem_of_getElem? (i := 4) rfl))) hce hcv hcl ?_
      refine lv_astore_n (lv' := [(2, .ref q9), (0, .ref aX), (1, .ref aO)]) hx hb dL_restore_11 rfl hl (by decide) rfl (fun ls hl => ?_)
      refine lv_iconst (v := (1 : Int32)) hx hb dL_restore_12 (by decide) ?_
      exact vx_ret (fin_i (u := ((1 : Int32), (v1.2.2.1, v1.2.2.2, oL))) hF hx hb hr hlocks hK hP hD hS (Nat.le_of_ble_eq_true rfl) (Nat.le_of_ble_eq_true rfl) dL_restore_13)
    have hF := oF c2 hF
    exact nomatch hF
