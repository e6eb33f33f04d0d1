abbrev RM_L_undo : Room := { frames := 7, cells := 1, slots := 6, locals := 204 }
abbrev MC_L_undo : Nat := 1
abbrev MS_L_undo : Nat := 6
abbrev wf_L_undo (K : Nat → ClassId) (aX : Nat) (aC : Nat) (aCr : Nat) (aR : Nat) (aH : Nat) (aHr : Nat) (aT : Nat) (aL : Nat) (aS : Nat) (xS : Int32) (xF : Int32) (xR : Int32) (xD : Int32) (xC : Int32) (kF : Nat → Int32) (v : Int32 × (Nat → Int32) × Int32 × Int32) : va_W := [(aX, .inr (5, [.ref aC, .ref aR, .ref aH, .ref aT, .ref aL, .ref aS, .int xS, .int xF, .int xR, .int xD, .int xC])), (aC, .inr (0, [.ref aCr])), (aCr, .inl (K 0, 55, .inl v.2.1)), (aH, .inr (2, [.ref aHr, .int v.2.2.1, .int v.2.2.2])), (aHr, .inl (K 1, 495, .inl kF))]
set_option maxHeartbeats 4000000 in
set_option maxRecDepth 100000 in
theorem c_L_undo (l : Launch) (hfl : l.stackTraces = false) (D : va_G) (K : Nat → ClassId) (aX : Nat) (aC : Nat) (aCr : Nat) (aR : Nat) (aH : Nat) (aHr : Nat) (aT : Nat) (aL : Nat) (aS : Nat) (xS : Int32) (xF : Int32) (xR : Int32) (xD : Int32) (xC : Int32) (row : Nat → Int32) (kN : Int32) (kK : Int32) (kF : Nat → Int32)  (v : Int32 × (Nat → Int32) × Int32 × Int32) (hF : f_L_undo row kN kK kF = some v) (sz : Nat) :
    (vx_Met l yL_undo wsL_undo RM_L_undo (PC D (TY K) [(aX, .inr (5, [.ref aC, .ref aR, .ref aH, .ref aT, .ref aL, .ref aS, .int xS, .int xF, .int xR, .int xD, .int xC])), (aC, .inr (0, [.ref aCr])), (aCr, .inl (K 0, 55, .inl row)), (aH, .inr (2, [.ref aHr, .int kN, .int kK])), (aHr, .inl (K 1, 495, .inl kF))] [.ref aX] sz) (QI D (TY K) (wf_L_undo K aX aC aCr aR aH aHr aT aL aS xS xF xR xD xC kF) v (va_A [(aX, .inr (5, [.ref aC, .ref aR, .ref aH, .ref aT, .ref aL, .ref aS, .int xS, .int xF, .int xR, .int xD, .int xC])), (aC, .inr (0, [.ref aCr])), (aCr, .inl (K 0, 55, .inl row)), (aH, .inr (2, [.ref aHr, .int kN, .int kK])), (aHr, .inl (K 1, 495, .inl kF))] sz)) XN MC_L_undo MS_L_undo (va_A [(aX, .inr (5, [.ref aC, .ref aR, .ref aH, .ref aT, .ref aL, .ref aS, .int xS, .int xF, .int xR, .int xD, .int xC])), (aC, .inr (0, [.ref aCr])), (aCr, .inl (K 0, 55, .inl row)), (aH, .inr (2, [.ref aHr, .int kN, .int kK])), (aHr, .inl (K 1, 495, .inl kF))] sz)) := by
  refine proH (Qf := fun A => QI D (TY K) (wf_L_undo K aX aC aCr aR aH aHr aT aL aS xS xF xR xD xC kF) v A) (XCf := fun _ => XN) (cc := cL_undo) (maxL := 2) (ret := (some .int)) (by decide +kernel) rfl (Nat.le_of_ble_eq_true rfl) ?_
  intro p e s m args below meth c hx hb hr hts hown hlocks hml htab hK A hA hE hP hD hS ls hl
  have hown : s.vm.findClass RL = some m.cls := hown
  have hl : lv_has ls 2 [(0, .ref aX)] := hl
  rw [f_L_undo] at hF
  refine lv_aload_n hx hb dL_undo_0 rfl (lv_at hl 0 rfl) ?_
  obtain ⟨v1, hv1, hF⟩ := oB hF
  refine callX_i (wr := []) (wn := [(aX, .inr (5, [.ref aC, .ref aR, .ref aH, .ref aT, .ref aL, .ref aS, .int xS, .int xF, .int xR, .int xD, .int xC])), (aC, .inr (0, [.ref aCr])), (aCr, .inl (K 0, 55, .inl v1.2.2.1)), (aH, .inr (2, [.ref aHr, .int v1.2.2.2.1, .int v1.2.2.2.2])), (aHr, .inl (K 1, 495, .inl kF))]) (vx_runV (As := []) (rest := []) ⟨hx, hb, hml, hown, hts⟩ (c_X7_undo l hfl D K aX aC aCr aR aH aHr aT aL aS xS xF xR xD xC row kN kK kF v1 hv1 s.heap.size) (cwV 0 hts gL_undo_X7_undo rfl rfl rfl (by decide +kernel) ⟨(Nat.le_of_ble_eq_true rfl), (Nat.le_of_ble_eq_true rfl)⟩) (prV hE hK hP hD hS hA [0, 1, 2, 3, 4] rfl rfl 5 0 rfl rfl rfl) rfl rfl hl.1 rfl (lv_room (Nat.le_of_ble_eq_true rfl)) dL_undo_1 ⟨(Nat.le_of_ble_eq_true rfl), (Nat.le_of_ble_eq_true rfl)⟩) hP hD hS hA [0, 1, 2, 3, 4] [] [0, 1, 2, 3, 4] rfl rfl rfl (by decide) rfl rfl (fun hzv1 H locs hP hD hS => ?_) (fun hzv1 q9 ce H locs hP hD hS hce hcv hcl => ?_)
  · have hF := oT hzv1 hF
    exact vx_ret (fin_i (u := (v1.2.1, (v1.2.2.1, v1.2.2.2.1, v1.2.2.2.2))) hF hx hb hr hlocks hK hP hD hS (Nat.le_of_ble_eq_true rfl) (Nat.le_of_ble_eq_true rfl) dL_undo_4)
  · have hF := oF hzv1 hF
    by_cases c2 : v1.1 = 4
    · have hF := oT c2 hF
      rw [c2] at hcl
      refine vx_catch (E := "java/lang/IllegalStateException") (name := "java/lang/IllegalStateException") hown [] ⟨0, 4, 5, 88⟩ [] (htab.trans rfl) (fun z hz => nomatch hz) (by decide) (by decide) (hts (.classLink RL 88 "java/lang/IllegalStateException") (List.mem_of_getElem? (i := 1) rfl)) (va_Nw.use rfl (hE.2.2.2.2.1 _ (List.mem_of_getElem? (i := 4) rfl))) hce hcv hcl ?_
      refine lv_astore_n (lv' := [(1, .ref q9), (0, .ref aX)]) hx hb dL_undo_5 rfl hl (by decide) rfl (fun ls hl => ?_)
      refine lv_sipush (v := (-1001 : Int32)) hx hb dL_undo_6 (by decide) ?_
      exact vx_ret (fin_i (u := ((-1001 : Int32), (v1.2.2.1, v1.2.2.2.1, v1.2.2.2.2))) hF hx hb hr hlocks hK hP hD hS (Nat.le_of_ble_eq_true rfl) (Nat.le_of_ble_eq_true rfl) dL_undo_9)
    have hF := oF c2 hF
    exact nomatch hF
abbrev RM_L_restore : Room := { frames := 7, cells := 1, slots := 6, locals := 162 }
abbrev MC_L_restore : Nat := 1
abbrev MS_L_restore : Nat := 6
abbrev wf_L_restore (K : Nat → ClassId) (aX : Nat) (aC : Nat) (aCr : Nat) (aR : Nat) (aH : Nat) (aHr : Nat) (aT : Nat) (aL : Nat) (aS : Nat) (xS : Int32) (xF : Int32) (xR : Int32) (xD : Int32) (xC : Int32) (kN : Int32) (sN : Nat → Int32) (v : Int32 × (Nat → Int32) × Int32) : va_W := [(aX, .inr (5, [.ref aC, .ref aR, .ref aH, .ref aT, .ref aL, .ref aS, .int xS, .int xF, .int xR, .int xD, .int xC])), (aC, .inr (0, [.ref aCr])), (aCr, .inl (K 0, 55, .inl v.2.1)), (aH, .inr (2, [.ref aHr, .int kN, .int v.2.2])), (aS, .inl (K 5, 55, .inl sN))]
set_option maxHeartbeats 4000000 in
set_option maxRecDepth 100000 in
theorem c_L_restore (l : Launch) (hfl : l.stackTraces = false) (D : va_G) (K : Nat → ClassId) (aX : Nat) (aC : Nat) (aCr : Nat) (aR : Nat) (aH : Nat) (aHr : Nat) (aT : Nat) (aL : Nat) (aS : Nat) (xS : Int32) (xF : Int32) (xR : Int32) (xD : Int32) (xC : Int32) (row : Nat → Int32) (kN : Int32) (kK : Int32) (sN : Nat → Int32)  (v : Int32 × (Nat → Int32) × Int32) (hF : f_L_restore xS row kK sN = some v) (sz : Nat) :
    (vx_Met l yL_restore wsL_restore RM_L_restore (PC D (TY K) [(aX, .inr (5, [.ref aC, .ref aR, .ref aH, .ref aT, .ref aL, .ref aS, .int xS, .int xF, .int xR, .int xD, .int xC])), (aC, .inr (0, [.ref aCr])), (aCr, .inl (K 0, 55, .inl row)), (aH, .inr (2, [.ref aHr, .int kN, .int kK])), (aS, .inl (K 5, 55, .inl sN))] [.ref aX] sz) (QI D (TY K) (wf_L_restore K aX aC aCr aR aH aHr aT aL aS xS xF xR xD xC kN sN) v (va_A [(aX, .inr (5, [.ref aC, .ref aR, .ref aH, .ref aT, .ref aL, .ref aS, .int xS, .int xF, .int xR, .int xD, .int xC])), (aC, .inr (0, [.ref aCr])), (aCr, .inl (K 0, 55, .inl row)), (aH, .inr (2, [.ref aHr, .int kN, .int kK])), (aS, .inl (K 5, 55, .inl sN))] sz)) XN MC_L_restore MS_L_restore (va_A [(aX, .inr (5, [.ref aC, .ref aR, .ref aH, .ref aT, .ref aL, .ref aS, .int xS, .int xF, .int xR, .int xD, .int xC])), (aC, .inr (0, [.ref aCr])), (aCr, .inl (K 0, 55, .inl row)), (aH, .inr (2, [.ref aHr, .int kN, .int kK])), (aS, .inl (K 5, 55, .inl sN))] sz)) := by
  refine proH (Qf := fun A => QI D (TY K) (wf_L_restore K aX aC aCr aR aH aHr aT aL aS xS xF xR xD xC kN sN) v A) (XCf := fun _ => XN) (cc := cL_restore) (maxL := 2) (ret := (some .int)) (by decide +kernel) rfl (Nat.le_of_ble_eq_true rfl) ?_
  intro p e s m args below meth c hx hb hr hts hown hlocks hml htab hK A hA hE hP hD hS ls hl
  have hown : s.vm.findClass RL = some m.cls := hown
  have hl : lv_has ls 2 [(0, .ref aX)] := hl
  rw [f_L_restore] at hF
  refine lv_aload_n hx hb dL_restore_0 rfl (lv_at hl 0 rfl) ?_
  obtain ⟨v1, hv1, hF⟩ := oB hF
  refine callX_i (wr := []) (wn := [(aX, .inr (5, [.ref aC, .ref aR, .ref aH, .ref aT, .ref aL, .ref aS, .int xS, .int xF, .int xR, .int xD, .int xC])), (aC, .inr (0, [.ref aCr])), (aCr, .inl (K 0, 55, .inl v1.2.2.1)), (aH, .inr (2, [.ref aHr, .int kN, .int v1.2.2.2])), (aS, .inl (K 5, 55, .inl sN))]) (vx_runV (As := []) (rest := []) ⟨hx, hb, hml, hown, hts⟩ (c_X7_restore l hfl D K aX aC aCr aR aH aHr aT aL aS xS xF xR xD xC row kN kK sN v1 hv1 s.heap.size) (cwV 0 hts gL_restore_X7_restore rfl rfl rfl (by decide +kernel) ⟨(Nat.le_of_ble_eq_true rfl), (Nat.le_of_ble_eq_true rfl)⟩) (prV hE hK hP hD hS hA [0, 1, 2, 3, 4] rfl rfl 5 0 rfl rfl rfl) rfl rfl hl.1 rfl (lv_room (Nat.le_of_ble_eq_true rfl)) dL_restore_1 ⟨(Nat.le_of_ble_eq_true rfl), (Nat.le_of_ble_eq_true rfl)⟩) hP hD hS hA [0, 1, 2, 3, 4] [] [0, 1, 2, 3, 4] rfl rfl rfl (by decide) rfl rfl (fun hzv1 H locs hP hD hS => ?_) (fun hzv1 q9 ce H locs hP hD hS hce hcv hcl => ?_)
  · have hF := oT hzv1 hF
    exact vx_ret (fin_i (u := (v1.2.1, (v1.2.2.1, v1.2.2.2))) hF hx hb hr hlocks hK hP hD hS (Nat.le_of_ble_eq_true rfl) (Nat.le_of_ble_eq_true rfl) dL_restore_4)
  · have hF := oF hzv1 hF
    by_cases c2 : v1.1 = 4
    · have hF := oT c2 hF
      rw [c2] at hcl
      refine vx_catch (E := "java/lang/IllegalStateException") (name := "java/lang/IllegalStateException") hown [] ⟨0, 4, 5, 88⟩ [] (htab.trans rfl) (fun z hz => nomatch hz) (by decide) (by decide) (hts (.classLink RL 88 "java/lang/IllegalStateException") (List.mem_of_getElem? (i := 1) rfl)) (va_Nw.use rfl (hE.2.2.2.2.1 _ (List.mem_of_getElem? (i := 4) rfl))) hce hcv hcl ?_
      refine lv_astore_n (lv' := [(1, .ref q9), (0, .ref aX)]) hx hb dL_restore_5 rfl hl (by decide) rfl (fun ls hl => ?_)
      refine lv_sipush (v := (-1001 : Int32)) hx hb dL_restore_6 (by decide) ?_
      exact vx_ret (fin_i (u := ((-1001 : Int32), (v1.2.2.1, v1.2.2.2))) hF hx hb hr hlocks hK hP hD hS (Nat.le_of_ble_eq_true rfl) (Nat.le_of_ble_eq_true rfl) dL_restore_9)
    have hF := oF c2 hF
    exact nomatch hF
abbrev RM_L_runs : Room := { frames := 8, cells := 14, slots := 84, locals := 205 }
abbrev MC_L_runs : Nat := 14
abbrev MS_L_runs : Nat := 84
abbrev wf_L_runs (K : Nat → ClassId) (aX : Nat) (aC : Nat) (aCr : Nat) (aR : Nat) (aH : Nat) (aHr : Nat) (aT : Nat) (aTc : Nat) (aTp : Nat) (aL : Nat) (aS : Nat) (xS : Int32) (v : Int32 × Int32 × Int32 × Int32 × Int32 × (Nat → Int32) × Int32 × Int32 × Int32 × Int32 × (Nat → Int32) × Int32 × Int32 × Int32 × Int32 × (Nat → Int32) × (Nat → Int32)) : va_W := [(aX, .inr (5, [.ref aC, .ref aR, .ref aH, .ref aT, .ref aL, .ref aS, .int xS, .int v.2.1, .int v.2.2.1, .int v.2.2.2.1, .int v.2.2.2.2.1])), (aC, .inr (0, [.ref aCr])), (aCr, .inl (K 0, 55, .inl v.2.2.2.2.2.1)), (aR, .inr (4, [.int v.2.2.2.2.2.2.1, .int v.2.2.2.2.2.2.2.1])), (aH, .inr (2, [.ref aHr, .int v.2.2.2.2.2.2.2.2.1, .int v.2.2.2.2.2.2.2.2.2.1])), (aHr, .inl (K 1, 495, .inl v.2.2.2.2.2.2.2.2.2.2.1)), (aT, .inr (1, [.ref aTc, .ref aTp, .int v.2.2.2.2.2.2.2.2.2.2.2.1, .int v.2.2.2.2.2.2.2.2.2.2.2.2.1, .int v.2.2.2.2.2.2.2.2.2.2.2.2.2.1, .int v.2.2.2.2.2.2.2.2.2.2.2.2.2.2.1])), (aTc, .inl (K 2, 60, .inl v.2.2.2.2.2.2.2.2.2.2.2.2.2.2.2.1)), (aTp, .inl (K 3, 240, .inl v.2.2.2.2.2.2.2.2.2.2.2.2.2.2.2.2))]
set_option maxHeartbeats 4000000 in
set_option maxRecDepth 100000 in
theorem c_L_runs (l : Launch) (hfl : l.stackTraces = false) (nT : Nat) (tT : List Int32) (aK aV : Nat → Nat) (D : va_G) (K : Nat → ClassId) (aX : Nat) (aC : Nat) (aCr : Nat) (aR : Nat) (aH : Nat) (aHr : Nat) (aT : Nat) (aTc : Nat) (aTp : Nat) (aL : Nat) (aS : Nat) (xS : Int32) (xF : Int32) (xR : Int32) (xD : Int32) (xC : Int32) (row : Nat → Int32) (rR : Int32) (rD : Int32) (kN : Int32) (kK : Int32) (kF : Nat → Int32) (tL : Int32) (tS : Int32) (tQ : Int32) (tF : Int32) (tC : Nat → Int32) (tP : Nat → Int32)  (v : Int32 × Int32 × Int32 × Int32 × Int32 × (Nat → Int32) × Int32 × Int32 × Int32 × Int32 × (Nat → Int32) × Int32 × Int32 × Int32 × Int32 × (Nat → Int32) × (Nat → Int32)) (hF : f_L_runs nT tT xF xR xD xC row rR rD kN kK kF tL tS tQ tF tC tP = some v) (sz : Nat) :
    (Met l yL_runs wsL_runs RM_L_runs (PCE (ExT nT tT aK aV) D (TY K) [(aX, .inr (5, [.ref aC, .ref aR, .ref aH, .ref aT, .ref aL, .ref aS, .int xS, .int xF, .int xR, .int xD, .int xC])), (aC, .inr (0, [.ref aCr])), (aCr, .inl (K 0, 55, .inl row)), (aR, .inr (4, [.int rR, .int rD])), (aH, .inr (2, [.ref aHr, .int kN, .int kK])), (aHr, .inl (K 1, 495, .inl kF)), (aT, .inr (1, [.ref aTc, .ref aTp, .int tL, .int tS, .int tQ, .int tF])), (aTc, .inl (K 2, 60, .inl tC)), (aTp, .inl (K 3, 240, .inl tP))] [.ref aX, .ref (aK 0)] sz) (QI D (TY K) (wf_L_runs K aX aC aCr aR aH aHr aT aTc aTp aL aS xS) v (va_A [(aX, .inr (5, [.ref aC, .ref aR, .ref aH, .ref aT, .ref aL, .ref aS, .int xS, .int xF, .int xR, .int xD, .int xC])), (aC, .inr (0, [.ref aCr])), (aCr, .inl (K 0, 55, .inl row)), (aR, .inr (4, [.int rR, .int rD])), (aH, .inr (2, [.ref aHr, .int kN, .int kK])), (aHr, .inl (K 1, 495, .inl kF)), (aT, .inr (1, [.ref aTc, .ref aTp, .int tL, .int tS, .int tQ, .int tF])), (aTc, .inl (K 2, 60, .inl tC)), (aTp, .inl (K 3, 240, .inl tP))] sz)) MC_L_runs MS_L_runs (va_A [(aX, .inr (5, [.ref aC, .ref aR, .ref aH, .ref aT, .ref aL, .ref aS, .int xS, .int xF, .int xR, .int xD, .int xC])), (aC, .inr (0, [.ref aCr])), (aCr, .inl (K 0, 55, .inl row)), (aR, .inr (4, [.int rR, .int rD])), (aH, .inr (2, [.ref aHr, .int kN, .int kK])), (aHr, .inl (K 1, 495, .inl kF)), (aT, .inr (1, [.ref aTc, .ref aTp, .int tL, .int tS, .int tQ, .int tF])), (aTc, .inl (K 2, 60, .inl tC)), (aTp, .inl (K 3, 240, .inl tP))] sz)) := by
  refine proE (Qf := fun A => QI D (TY K) (wf_L_runs K aX aC aCr aR aH aHr aT aTc aTp aL aS xS) v A) (cc := cL_runs) (maxL := 3) (ret := (some .int)) (by decide +kernel) rfl (Nat.le_of_ble_eq_true rfl) ?_
  intro p e s m args below meth c hx hb hr hts hown hlocks hml hK A hA hE hX hP hD hS ls hl
  have hown : s.vm.findClass RL = some m.cls := hown
  have hl : lv_has ls 3 [(0, .ref aX), (1, .ref (aK 0))] := hl
  have loop_2 : ∀ (xF_2 : Int32) (xR_2 : Int32) (xD_2 : Int32) (xC_2 : Int32) (row_2 : Nat → Int32) (rR_2 : Int32) (rD_2 : Int32) (kN_2 : Int32) (kK_2 : Int32) (kF_2 : Nat → Int32) (tS_2 : Int32) (tQ_2 : Int32) (tF_2 : Int32) (tP_2 : Nat → Int32) (n : Nat) (y2_2 : Int32) (tL_2 : Int32) (tC_2 : Nat → Int32), f_L_runs_L2 nT tT xF_2 xR_2 xD_2 xC_2 row_2 rR_2 rD_2 kN_2 kK_2 kF_2 tS_2 tQ_2 tF_2 tP_2 n y2_2 tL_2 tC_2 = some v → ∀ (k9 j9 : Nat), k9 + 1 * n = 13 → j9 + 6 * n = 78 → ∀ (H : Heap) (locs : List Loc), va_P D vwC7 [(aX, .inr (5, [.ref aC, .ref aR, .ref aH, .ref aT, .ref aL, .ref aS, .int xS, .int xF_2, .int xR_2, .int xD_2, .int xC_2])), (aC, .inr (0, [.ref aCr])), (aCr, .inl (K 0, 55, .inl row_2)), (aR, .inr (4, [.int rR_2, .int rD_2])), (aH, .inr (2, [.ref aHr, .int kN_2, .int kK_2])), (aHr, .inl (K 1, 495, .inl kF_2)), (aT, .inr (1, [.ref aTc, .ref aTp, .int tL_2, .int tS_2, .int tQ_2, .int tF_2])), (aTc, .inl (K 2, 60, .inl tC_2)), (aTp, .inl (K 3, 240, .inl tP_2))] H → va_D A [(aX, .inr (5, [.ref aC, .ref aR, .ref aH, .ref aT, .ref aL, .ref aS, .int xS, .int xF_2, .int xR_2, .int xD_2, .int xC_2])), (aC, .inr (0, [.ref aCr])), (aCr, .inl (K 0, 55, .inl row_2)), (aR, .inr (4, [.int rR_2, .int rD_2])), (aH, .inr (2, [.ref aHr, .int kN_2, .int kK_2])), (aHr, .inl (K 1, 495, .inl kF_2)), (aT, .inr (1, [.ref aTc, .ref aTp, .int tL_2, .int tS_2, .int tQ_2, .int tF_2])), (aTc, .inl (K 2, 60, .inl tC_2)), (aTp, .inl (K 3, 240, .inl tP_2))] → va_S A s.heap H locs → ∀ ls : Array Slot, lv_has ls 3 [(0, .ref aX), (1, .ref (aK 0)), (2, .int y2_2)] → W p l e RM_L_runs s m args below meth c H locs k9 j9 (MQ below (QI D (TY K) (wf_L_runs K aX aC aCr aR aH aHr aT aTc aTp aL aS xS) v A) args s MC_L_runs MS_L_runs A) (F0 m 2 ls []) := by
    intro xF_2 xR_2 xD_2 xC_2 row_2 rR_2 rD_2 kN_2 kK_2 kF_2 tS_2 tQ_2 tF_2 tP_2 n
    induction n with
    | zero =>
      intro y2_2 tL_2 tC_2 hF
      exact nomatch hF
    | succ n ih =>
      intro y2_2 tL_2 tC_2 hF k9 j9 hk9 hj9 H locs hP hD hS ls hl
      rw [f_L_runs_L2.eq_2] at hF
      refine lv_iload_n hx hb dL_runs_2 rfl (lv_at hl 2 rfl) ?_
      refine lv_aload_n hx hb dL_runs_3 rfl (lv_at hl 1 rfl) ?_
      obtain ⟨v1, hv1, hF⟩ := oB hF
      refine call_i (wr := [(aX, .inr (5, [.ref aC, .ref aR, .ref aH, .ref aT, .ref aL, .ref aS, .int xS, .int xF_2, .int xR_2, .int xD_2, .int xC_2])), (aC, .inr (0, [.ref aCr])), (aCr, .inl (K 0, 55, .inl row_2)), (aR, .inr (4, [.int rR_2, .int rD_2])), (aH, .inr (2, [.ref aHr, .int kN_2, .int kK_2])), (aHr, .inl (K 1, 495, .inl kF_2)), (aT, .inr (1, [.ref aTc, .ref aTp, .int tL_2, .int tS_2, .int tQ_2, .int tF_2])), (aTc, .inl (K 2, 60, .inl tC_2)), (aTp, .inl (K 3, 240, .inl tP_2))]) (wn := [(aX, .inr (5, [.ref aC, .ref aR, .ref aH, .ref aT, .ref aL, .ref aS, .int xS, .int xF_2, .int xR_2, .int xD_2, .int xC_2])), (aC, .inr (0, [.ref aCr])), (aCr, .inl (K 0, 55, .inl row_2)), (aR, .inr (4, [.int rR_2, .int rD_2])), (aH, .inr (2, [.ref aHr, .int kN_2, .int kK_2])), (aHr, .inl (K 1, 495, .inl kF_2)), (aT, .inr (1, [.ref aTc, .ref aTp, .int tL_2, .int tS_2, .int tQ_2, .int tF_2])), (aTc, .inl (K 2, 60, .inl tC_2)), (aTp, .inl (K 3, 240, .inl tP_2))]) (va_runV (As := []) (rest := [.int y2_2]) ⟨hx, hb, hml, hown, hts⟩ (c_J0_length_8abf5 l nT tT aK aV D K (TY K) v1 hv1 H.size) (cwV 0 hts gL_runs_J0_length_8abf5 rfl rfl rfl (by decide +kernel) ⟨(Nat.le_of_ble_eq_true rfl), (Nat.le_of_ble_eq_true rfl)⟩) (prVT hX hE hK hP hD hS hA [] rfl rfl) rfl rfl hl.1 rfl (lv_room (Nat.le_of_ble_eq_true rfl)) dL_runs_4 ⟨by show (k9 + 0) ≤ 14; omega, by show (j9 + 0) ≤ 84; omega⟩) hP hD hS hA [] [0, 1, 2, 3, 4, 5, 6, 7, 8] [0, 1, 2, 3, 4, 5, 6, 7, 8] rfl rfl rfl (by decide) rfl rfl (fun H locs hP hD hS => ?_)
      refine lv_icmp_ge (tgt := 35) hx hb dL_runs_7 (by decide) (fun c2 => ?_) (fun c2 => ?_)
      · have hF := oT c2 hF
        refine W.widen (k := 13) (n := 78) (by show (k9 + 0) ≤ _; omega) (by show (j9 + 0) ≤ _; omega) ?_
        refine lv_aload_n hx hb dL_runs_35 rfl (lv_at hl 0 rfl) ?_
        obtain ⟨v3, hv3, hF⟩ := oB hF
        refine callH_i (wr := []) (wn := [(aX, .inr (5, [.ref aC, .ref aR, .ref aH, .ref aT, .ref aL, .ref aS, .int xS, .int v3.2.1, .int v3.2.2.1, .int v3.2.2.2.1, .int v3.2.2.2.2.1])), (aC, .inr (0, [.ref aCr])), (aCr, .inl (K 0, 55, .inl v3.2.2.2.2.2.1)), (aR, .inr (4, [.int v3.2.2.2.2.2.2.1, .int v3.2.2.2.2.2.2.2.1])), (aH, .inr (2, [.ref aHr, .int v3.2.2.2.2.2.2.2.2.1, .int v3.2.2.2.2.2.2.2.2.2.1])), (aHr, .inl (K 1, 495, .inl v3.2.2.2.2.2.2.2.2.2.2.1)), (aT, .inr (1, [.ref aTc, .ref aTp, .int v3.2.2.2.2.2.2.2.2.2.2.2.1, .int v3.2.2.2.2.2.2.2.2.2.2.2.2.1, .int v3.2.2.2.2.2.2.2.2.2.2.2.2.2.1, .int v3.2.2.2.2.2.2.2.2.2.2.2.2.2.2.1])), (aTc, .inl (K 2, 60, .inl tC_2)), (aTp, .inl (K 3, 240, .inl v3.2.2.2.2.2.2.2.2.2.2.2.2.2.2.2))]) (vx_runSX (As := [.ref aX]) (rest := []) ⟨hx, hb, hml, hown, hts⟩ (c_L_commands l hfl D K aX aC aCr aR aH aHr aT aTc aTp aL aS xS xF_2 xR_2 xD_2 xC_2 row_2 rR_2 rD_2 kN_2 kK_2 kF_2 tL_2 tS_2 tQ_2 tF_2 tC_2 tP_2 v3 hv3 H.size) (vx_cwSW 1 hts gL_runs_L_commands rfl rfl rfl (by decide +kernel) ⟨(Nat.le_of_ble_eq_true rfl), (Nat.le_of_ble_eq_true rfl)⟩) (prS hE hK hP hD hS hA [0, 1, 2, 3, 4, 5, 6, 7, 8] rfl rfl) rfl rfl hl.1 rfl (lv_room (Nat.le_of_ble_eq_true rfl)) dL_runs_36 ⟨(Nat.le_of_ble_eq_true rfl), (Nat.le_of_ble_eq_true rfl)⟩) hP hD hS hA [0, 1, 2, 3, 4, 5, 6, 7, 8] [] [0, 1, 2, 3, 4, 5, 6, 7, 8] rfl rfl rfl (by decide) rfl rfl (fun H locs hP hD hS => ?_)
        exact fin_i (u := (v3.1, (v3.2.1, v3.2.2.1, v3.2.2.2.1, v3.2.2.2.2.1, v3.2.2.2.2.2.1, v3.2.2.2.2.2.2.1, v3.2.2.2.2.2.2.2.1, v3.2.2.2.2.2.2.2.2.1, v3.2.2.2.2.2.2.2.2.2.1, v3.2.2.2.2.2.2.2.2.2.2.1, v3.2.2.2.2.2.2.2.2.2.2.2.1, v3.2.2.2.2.2.2.2.2.2.2.2.2.1, v3.2.2.2.2.2.2.2.2.2.2.2.2.2.1, v3.2.2.2.2.2.2.2.2.2.2.2.2.2.2.1, tC_2, v3.2.2.2.2.2.2.2.2.2.2.2.2.2.2.2))) hF hx hb hr hlocks hK hP hD hS (Nat.le_of_ble_eq_true rfl) (Nat.le_of_ble_eq_true rfl) dL_runs_39
      · have hF := oF c2 hF
        refine lv_aload_n hx hb dL_runs_10 rfl (lv_at hl 0 rfl) ?_
        refine lv_aload_n hx hb dL_runs_11 rfl (lv_at hl 1 rfl) ?_
        refine lv_iload_n hx hb dL_runs_12 rfl (lv_at hl 2 rfl) ?_
        obtain ⟨v4, hv4, hF⟩ := oB hF
        refine call_i (wr := [(aX, .inr (5, [.ref aC, .ref aR, .ref aH, .ref aT, .ref aL, .ref aS, .int xS, .int xF_2, .int xR_2, .int xD_2, .int xC_2])), (aC, .inr (0, [.ref aCr])), (aCr, .inl (K 0, 55, .inl row_2)), (aR, .inr (4, [.int rR_2, .int rD_2])), (aH, .inr (2, [.ref aHr, .int kN_2, .int kK_2])), (aHr, .inl (K 1, 495, .inl kF_2)), (aT, .inr (1, [.ref aTc, .ref aTp, .int tL_2, .int tS_2, .int tQ_2, .int tF_2])), (aTc, .inl (K 2, 60, .inl tC_2)), (aTp, .inl (K 3, 240, .inl tP_2))]) (wn := [(aX, .inr (5, [.ref aC, .ref aR, .ref aH, .ref aT, .ref aL, .ref aS, .int xS, .int xF_2, .int xR_2, .int xD_2, .int xC_2])), (aC, .inr (0, [.ref aCr])), (aCr, .inl (K 0, 55, .inl row_2)), (aR, .inr (4, [.int rR_2, .int rD_2])), (aH, .inr (2, [.ref aHr, .int kN_2, .int kK_2])), (aHr, .inl (K 1, 495, .inl kF_2)), (aT, .inr (1, [.ref aTc, .ref aTp, .int tL_2, .int tS_2, .int tQ_2, .int tF_2])), (aTc, .inl (K 2, 60, .inl tC_2)), (aTp, .inl (K 3, 240, .inl tP_2))]) (va_runV (As := [.int y2_2]) (rest := [.ref aX]) ⟨hx, hb, hml, hown, hts⟩ (c_J0_charAt_5068e l nT tT aK aV D K (TY K) y2_2 v4 hv4 H.size) (cwV 1 hts gL_runs_J0_charAt_5068e rfl rfl rfl (by decide +kernel) ⟨(Nat.le_of_ble_eq_true rfl), (Nat.le_of_ble_eq_true rfl)⟩) (prVT hX hE hK hP hD hS hA [] rfl rfl) rfl rfl hl.1 rfl (lv_room (Nat.le_of_ble_eq_true rfl)) dL_runs_13 ⟨by show ((k9 + 0) + 0) ≤ 14; omega, by show ((j9 + 0) + 0) ≤ 84; omega⟩) hP hD hS hA [] [0, 1, 2, 3, 4, 5, 6, 7, 8] [0, 1, 2, 3, 4, 5, 6, 7, 8] rfl rfl rfl (by decide) rfl rfl (fun H locs hP hD hS => ?_)
        obtain ⟨v5, hv5, hF⟩ := oB hF
        refine callH_i (wr := [(aC, .inr (0, [.ref aCr])), (aCr, .inl (K 0, 55, .inl row_2)), (aR, .inr (4, [.int rR_2, .int rD_2])), (aH, .inr (2, [.ref aHr, .int kN_2, .int kK_2])), (aHr, .inl (K 1, 495, .inl kF_2)), (aTp, .inl (K 3, 240, .inl tP_2))]) (wn := [(aX, .inr (5, [.ref aC, .ref aR, .ref aH, .ref aT, .ref aL, .ref aS, .int xS, .int xF_2, .int xR_2, .int xD_2, .int xC_2])), (aC, .inr (0, [.ref aCr])), (aCr, .inl (K 0, 55, .inl row_2)), (aR, .inr (4, [.int rR_2, .int rD_2])), (aH, .inr (2, [.ref aHr, .int kN_2, .int kK_2])), (aHr, .inl (K 1, 495, .inl kF_2)), (aT, .inr (1, [.ref aTc, .ref aTp, .int v5.2.1, .int tS_2, .int tQ_2, .int tF_2])), (aTc, .inl (K 2, 60, .inl v5.2.2)), (aTp, .inl (K 3, 240, .inl tP_2))]) (vx_runSX (As := [.ref aX, .int v4.1]) (rest := []) ⟨hx, hb, hml, hown, hts⟩ (c_L_append l hfl D K aX aC aR aH aT aTc aTp aL aS xS xF_2 xR_2 xD_2 xC_2 tL_2 tS_2 tQ_2 tF_2 tC_2 v4.1 v5 hv5 H.size) (vx_cwSW 2 hts gL_runs_L_append rfl rfl rfl (by decide +kernel) ⟨(Nat.le_of_ble_eq_true rfl), (Nat.le_of_ble_eq_true rfl)⟩) (prS hE hK hP hD hS hA [0, 6, 7] rfl rfl) rfl rfl hl.1 rfl (lv_room (Nat.le_of_ble_eq_true rfl)) dL_runs_16 ⟨by show (((k9 + 0) + 0) + 1) ≤ 14; omega, by show (((j9 + 0) + 0) + 6) ≤ 84; omega⟩) hP hD hS hA [0, 6, 7] [1, 2, 3, 4, 5, 8] [6, 0, 1, 2, 3, 4, 7, 8, 5] rfl rfl rfl (by decide) rfl rfl (fun H locs hP hD hS => ?_)
        refine lv_iload_n hx hb dL_runs_19 rfl (lv_at hl 2 rfl) ?_
        refine lv_iconst (v := (1 : Int32)) hx hb dL_runs_20 (by decide) ?_
        refine lv_iadd hx hb dL_runs_21 ?_
        refine lv_icmp_eq (tgt := 29) hx hb dL_runs_22 (by decide) (fun c6 => ?_) (fun c6 => ?_)
        · have hF := oT c6 hF
          refine lv_iinc (v := y2_2 + (1 : Int32)) (lv' := [(2, .int (y2_2 + (1 : Int32))), (0, .ref aX), (1, .ref (aK 0))]) hx hb dL_runs_29 hl (k := 2) rfl (by first | rfl | decide) (by decide) rfl (fun ls hl => ?_)
          refine lv_goto (tgt := 2) hx hb dL_runs_32 (by decide) ?_
          refine W.widen (k := k9 + 1) (n := j9 + 6) (by show (((k9 + 0) + 0) + 1) ≤ _; omega) (by show (((j9 + 0) + 0) + 6) ≤ _; omega) ?_
          exact ih (y2_2 + (1 : Int32)) v5.2.1 v5.2.2 hF (k9 + 1) (j9 + 6) (by omega) (by omega) _ _ hP hD hS _ (lv_sub hl [1, 2, 0] rfl)
        · have hF := oF c6 hF
          refine W.widen (k := 13) (n := 78) (by show (((k9 + 0) + 0) + 1) ≤ _; omega) (by show (((j9 + 0) + 0) + 6) ≤ _; omega) ?_
          refine lv_sipush (v := (-9999 : Int32)) hx hb dL_runs_25 (by decide) ?_
          exact fin_i (u := ((-9999 : Int32), (xF_2, xR_2, xD_2, xC_2, row_2, rR_2, rD_2, kN_2, kK_2, kF_2, v5.2.1, tS_2, tQ_2, tF_2, v5.2.2, tP_2))) hF hx hb hr hlocks hK hP hD hS (Nat.le_of_ble_eq_true rfl) (Nat.le_of_ble_eq_true rfl) dL_runs_28
  rw [f_L_runs] at hF
  refine lv_iconst (v := (0 : Int32)) hx hb dL_runs_0 (by decide) ?_
  refine lv_istore_n (lv' := [(2, .int (0 : Int32)), (0, .ref aX), (1, .ref (aK 0))]) hx hb dL_runs_1 rfl hl (by decide) rfl (fun ls hl => ?_)
  exact loop_2 xF xR xD xC row rR rD kN kK kF tS tQ tF tP 13 (0 : Int32) tL tC hF 0 0 (by decide) (by decide) _ _ hP hD hS _ (lv_sub hl [1, 2, 0] rfl)
abbrev RM_L_isAt : Room := { frames := 8, cells := 4, slots := 24, locals := 141 }
abbrev MC_L_isAt : Nat := 4
abbrev MS_L_isAt : Nat := 24
abbrev wf_L_isAt (K : Nat → ClassId) (aX : Nat) (aC : Nat) (aR : Nat) (aH : Nat) (aT : Nat) (aL : Nat) (aS : Nat) (xS : Int32) (xF : Int32) (xR : Int32) (xD : Int32) (xC : Int32) (v : Int32 × Unit) : va_W := [(aX, .inr (5, [.ref aC, .ref aR, .ref aH, .ref aT, .ref aL, .ref aS, .int xS, .int xF, .int xR, .int xD, .int xC]))]
set_option maxHeartbeats 4000000 in
set_option maxRecDepth 100000 in
theorem c_L_isAt (l : Launch) (hfl : l.stackTraces = false) (D : va_G) (K : Nat → ClassId) (aX : Nat) (aC : Nat) (aR : Nat) (aH : Nat) (aT : Nat) (aL : Nat) (aS : Nat) (xS : Int32) (xF : Int32) (xR : Int32) (xD : Int32) (xC : Int32) (p2 : Int32) (p3 : Int32) (p4 : Int32) (v : Int32 × Unit) (hF : f_L_isAt xR xD xC p2 p3 p4 = some v) (sz : Nat) :
    (Met l yL_isAt wsL_isAt RM_L_isAt (PC D (TY K) [(aX, .inr (5, [.ref aC, .ref aR, .ref aH, .ref aT, .ref aL, .ref aS, .int xS, .int xF, .int xR, .int xD, .int xC]))] [.ref aX, .int p2, .int p3, .int p4] sz) (QI D (TY K) (wf_L_isAt K aX aC aR aH aT aL aS xS xF xR xD xC) v (va_A [(aX, .inr (5, [.ref aC, .ref aR, .ref aH, .ref aT, .ref aL, .ref aS, .int xS, .int xF, .int xR, .int xD, .int xC]))] sz)) MC_L_isAt MS_L_isAt (va_A [(aX, .inr (5, [.ref aC, .ref aR, .ref aH, .ref aT, .ref aL, .ref aS, .int xS, .int xF, .int xR, .int xD, .int xC]))] sz)) := by
  refine pro (Qf := fun A => QI D (TY K) (wf_L_isAt K aX aC aR aH aT aL aS xS xF xR xD xC) v A) (cc := cL_isAt) (maxL := 4) (ret := (some .boolean)) (by decide +kernel) rfl (Nat.le_of_ble_eq_true rfl) ?_
  intro p e s m args below meth c hx hb hr hts hown hlocks hml hini hK A hA hE hP hD hS ls hl
  have hown : s.vm.findClass RL = some m.cls := hown
  have hl : lv_has ls 4 [(0, .ref aX), (1, .int p2), (2, .int p3), (3, .int p4)] := hl
  rw [f_L_isAt] at hF
  refine lv_aload_n hx hb dL_isAt_0 rfl (lv_at hl 0 rfl) ?_
  refine lv_iconst (v := (0 : Int32)) hx hb dL_isAt_1 (by decide) ?_
  obtain ⟨v1, hv1, hF⟩ := oB hF
  refine callH_i (wr := []) (wn := [(aX, .inr (5, [.ref aC, .ref aR, .ref aH, .ref aT, .ref aL, .ref aS, .int xS, .int xF, .int xR, .int xD, .int xC]))]) (vx_runSX (As := [.ref aX, .int (0 : Int32)]) (rest := []) ⟨hx, hb, hml, hown, hts⟩ (c_L_reason l hfl D K aX aC aR aH aT aL aS xS xF xR xD xC (0 : Int32) v1 hv1 s.heap.size) (vx_cwSW 2 hts gL_isAt_L_reason rfl rfl rfl (by decide +kernel) ⟨(Nat.le_of_ble_eq_true rfl), (Nat.le_of_ble_eq_true rfl)⟩) (prS hE hK hP hD hS hA [0] rfl rfl) rfl rfl hl.1 rfl (lv_room (Nat.le_of_ble_eq_true rfl)) dL_isAt_2 ⟨(Nat.le_of_ble_eq_true rfl), (Nat.le_of_ble_eq_true rfl)⟩) hP hD hS hA [0] [] [0] rfl rfl rfl (by decide) rfl rfl (fun H locs hP hD hS => ?_)
  refine lv_iload_n hx hb dL_isAt_5 rfl (lv_at hl 2 rfl) ?_
  refine lv_icmp_ne (tgt := 42) hx hb dL_isAt_6 (by decide) (fun c2 => ?_) (fun c2 => ?_)
  · have hF := oF c2 hF
    refine lv_iconst (v := (0 : Int32)) hx hb dL_isAt_42 (by decide) ?_
    exact fin_z (u := ((0 : Int32), ())) hF (okN_n (ty := .boolean) (x := (0 : Int32)) (by decide)) hx hb hr hlocks hK hP hD hS (Nat.le_of_ble_eq_true rfl) (Nat.le_of_ble_eq_true rfl) dL_isAt_43
  · have hF := oT c2 hF
    refine lv_aload_n hx hb dL_isAt_9 rfl (lv_at hl 0 rfl) ?_
    refine lv_iconst (v := (1 : Int32)) hx hb dL_isAt_10 (by decide) ?_
    obtain ⟨v3, hv3, hF⟩ := oB hF
    refine callH_i (wr := []) (wn := [(aX, .inr (5, [.ref aC, .ref aR, .ref aH, .ref aT, .ref aL, .ref aS, .int xS, .int xF, .int xR, .int xD, .int xC]))]) (vx_runSX (As := [.ref aX, .int (1 : Int32)]) (rest := []) ⟨hx, hb, hml, hown, hts⟩ (c_L_reason l hfl D K aX aC aR aH aT aL aS xS xF xR xD xC (1 : Int32) v3 hv3 H.size) (vx_cwSW 2 hts gL_isAt_L_reason rfl rfl rfl (by decide +kernel) ⟨(Nat.le_of_ble_eq_true rfl), (Nat.le_of_ble_eq_true rfl)⟩) (prS hE hK hP hD hS hA [0] rfl rfl) rfl rfl hl.1 rfl (lv_room (Nat.le_of_ble_eq_true rfl)) dL_isAt_11 ⟨(Nat.le_of_ble_eq_true rfl), (Nat.le_of_ble_eq_true rfl)⟩) hP hD hS hA [0] [] [0] rfl rfl rfl (by decide) rfl rfl (fun H locs hP hD hS => ?_)
    refine lv_iload_n hx hb dL_isAt_14 rfl (lv_at hl 3 rfl) ?_
    refine lv_icmp_ne (tgt := 42) hx hb dL_isAt_15 (by decide) (fun c4 => ?_) (fun c4 => ?_)
    · have hF := oF c4 hF
      refine lv_iconst (v := (0 : Int32)) hx hb dL_isAt_42 (by decide) ?_
      exact fin_z (u := ((0 : Int32), ())) hF (okN_n (ty := .boolean) (x := (0 : Int32)) (by decide)) hx hb hr hlocks hK hP hD hS (Nat.le_of_ble_eq_true rfl) (Nat.le_of_ble_eq_true rfl) dL_isAt_43
    · have hF := oT c4 hF
      refine lv_aload_n hx hb dL_isAt_18 rfl (lv_at hl 0 rfl) ?_
      refine lv_iconst (v := (2 : Int32)) hx hb dL_isAt_19 (by decide) ?_
      obtain ⟨v5, hv5, hF⟩ := oB hF
      refine callH_i (wr := []) (wn := [(aX, .inr (5, [.ref aC, .ref aR, .ref aH, .ref aT, .ref aL, .ref aS, .int xS, .int xF, .int xR, .int xD, .int xC]))]) (vx_runSX (As := [.ref aX, .int (2 : Int32)]) (rest := []) ⟨hx, hb, hml, hown, hts⟩ (c_L_reason l hfl D K aX aC aR aH aT aL aS xS xF xR xD xC (2 : Int32) v5 hv5 H.size) (vx_cwSW 2 hts gL_isAt_L_reason rfl rfl rfl (by decide +kernel) ⟨(Nat.le_of_ble_eq_true rfl), (Nat.le_of_ble_eq_true rfl)⟩) (prS hE hK hP hD hS hA [0] rfl rfl) rfl rfl hl.1 rfl (lv_room (Nat.le_of_ble_eq_true rfl)) dL_isAt_20 ⟨(Nat.le_of_ble_eq_true rfl), (Nat.le_of_ble_eq_true rfl)⟩) hP hD hS hA [0] [] [0] rfl rfl rfl (by decide) rfl rfl (fun H locs hP hD hS => ?_)
      refine lv_iload_n hx hb dL_isAt_23 rfl (lv_at hl 1 rfl) ?_
      refine lv_icmp_ne (tgt := 42) hx hb dL_isAt_24 (by decide) (fun c6 => ?_) (fun c6 => ?_)
      · have hF := oF c6 hF
        refine lv_iconst (v := (0 : Int32)) hx hb dL_isAt_42 (by decide) ?_
        exact fin_z (u := ((0 : Int32), ())) hF (okN_n (ty := .boolean) (x := (0 : Int32)) (by decide)) hx hb hr hlocks hK hP hD hS (Nat.le_of_ble_eq_true rfl) (Nat.le_of_ble_eq_true rfl) dL_isAt_43
      · have hF := oT c6 hF
        refine lv_aload_n hx hb dL_isAt_27 rfl (lv_at hl 0 rfl) ?_
        refine lv_iconst (v := (3 : Int32)) hx hb dL_isAt_28 (by decide) ?_
        obtain ⟨v7, hv7, hF⟩ := oB hF
        refine callH_i (wr := []) (wn := [(aX, .inr (5, [.ref aC, .ref aR, .ref aH, .ref aT, .ref aL, .ref aS, .int xS, .int xF, .int xR, .int xD, .int xC]))]) (vx_runSX (As := [.ref aX, .int (3 : Int32)]) (rest := []) ⟨hx, hb, hml, hown, hts⟩ (c_L_reason l hfl D K aX aC aR aH aT aL aS xS xF xR xD xC (3 : Int32) v7 hv7 H.size) (vx_cwSW 2 hts gL_isAt_L_reason rfl rfl rfl (by decide +kernel) ⟨(Nat.le_of_ble_eq_true rfl), (Nat.le_of_ble_eq_true rfl)⟩) (prS hE hK hP hD hS hA [0] rfl rfl) rfl rfl hl.1 rfl (lv_room (Nat.le_of_ble_eq_true rfl)) dL_isAt_29 ⟨(Nat.le_of_ble_eq_true rfl), (Nat.le_of_ble_eq_true rfl)⟩) hP hD hS hA [0] [] [0] rfl rfl rfl (by decide) rfl rfl (fun H locs hP hD hS => ?_)
        refine lv_sipush (v := (-1001 : Int32)) hx hb dL_isAt_32 (by decide) ?_
        refine lv_icmp_ne (tgt := 42) hx hb dL_isAt_35 (by decide) (fun c8 => ?_) (fun c8 => ?_)
        · have hF := oF c8 hF
          refine lv_iconst (v := (0 : Int32)) hx hb dL_isAt_42 (by decide) ?_
          exact fin_z (u := ((0 : Int32), ())) hF (okN_n (ty := .boolean) (x := (0 : Int32)) (by decide)) hx hb hr hlocks hK hP hD hS (Nat.le_of_ble_eq_true rfl) (Nat.le_of_ble_eq_true rfl) dL_isAt_43
        · have hF := oT c8 hF
          refine lv_iconst (v := (1 : Int32)) hx hb dL_isAt_38 (by decide) ?_
          refine lv_goto (tgt := 43) hx hb dL_isAt_39 (by decide) ?_
          exact fin_z (u := ((1 : Int32), ())) hF (okN_n (ty := .boolean) (x := (1 : Int32)) (by decide)) hx hb hr hlocks hK hP hD hS (Nat.le_of_ble_eq_true rfl) (Nat.le_of_ble_eq_true rfl) dL_isAt_43
abbrev RM_L_is : Room := { frames := 9, cells := 4, slots := 24, locals := 164 }
abbrev MC_L_is : Nat := 4
abbrev MS_L_is : Nat := 24
abbrev wf_L_is (K : Nat → ClassId) (aX : Nat) (aC : Nat) (aR : Nat) (aH : Nat) (aT : Nat) (aL : Nat) (aS : Nat) (xS : Int32) (xF : Int32) (xR : Int32) (xD : Int32) (xC : Int32) (v : Int32 × Unit) : va_W := [(aX, .inr (5, [.ref aC, .ref aR, .ref aH, .ref aT, .ref aL, .ref aS, .int xS, .int xF, .int xR, .int xD, .int xC]))]
set_option maxHeartbeats 4000000 in
set_option maxRecDepth 100000 in
theorem c_L_is (l : Launch) (hfl : l.stackTraces = false) (D : va_G) (K : Nat → ClassId) (aX : Nat) (aC : Nat) (aR : Nat) (aH : Nat) (aT : Nat) (aL : Nat) (aS : Nat) (xS : Int32) (xF : Int32) (xR : Int32) (xD : Int32) (xC : Int32) (p2 : Int32) (p3 : Int32) (v : Int32 × Unit) (hF : f_L_is xR xD xC p2 p3 = some v) (sz : Nat) :
    (Met l yL_is wsL_is RM_L_is (PC D (TY K) [(aX, .inr (5, [.ref aC, .ref aR, .ref aH, .ref aT, .ref aL, .ref aS, .int xS, .int xF, .int xR, .int xD, .int xC]))] [.ref aX, .int p2, .int p3] sz) (QI D (TY K) (wf_L_is K aX aC aR aH aT aL aS xS xF xR xD xC) v (va_A [(aX, .inr (5, [.ref aC, .ref aR, .ref aH, .ref aT, .ref aL, .ref aS, .int xS, .int xF, .int xR, .int xD, .int xC]))] sz)) MC_L_is MS_L_is (va_A [(aX, .inr (5, [.ref aC, .ref aR, .ref aH, .ref aT, .ref aL, .ref aS, .int xS, .int xF, .int xR, .int xD, .int xC]))] sz)) := by
  refine pro (Qf := fun A => QI D (TY K) (wf_L_is K aX aC aR aH aT aL aS xS xF xR xD xC) v A) (cc := cL_is) (maxL := 3) (ret := (some .boolean)) (by decide +kernel) rfl (Nat.le_of_ble_eq_true rfl) ?_
  intro p e s m args below meth c hx hb hr hts hown hlocks hml hini hK A hA hE hP hD hS ls hl
  have hown : s.vm.findClass RL = some m.cls := hown
  have hl : lv_has ls 3 [(0, .ref aX), (1, .int p2), (2, .int p3)] := hl
  rw [f_L_is] at hF
  refine lv_aload_n hx hb dL_is_0 rfl (lv_at hl 0 rfl) ?_
  refine lv_iconst (v := (0 : Int32)) hx hb dL_is_1 (by decide) ?_
  refine lv_iload_n hx hb dL_is_2 rfl (lv_at hl 1 rfl) ?_
  refine lv_iload_n hx hb dL_is_3 rfl (lv_at hl 2 rfl) ?_
  obtain ⟨v1, hv1, hF⟩ := oB hF
  refine call_i (wr := []) (wn := [(aX, .inr (5, [.ref aC, .ref aR, .ref aH, .ref aT, .ref aL, .ref aS, .int xS, .int xF, .int xR, .int xD, .int xC]))]) (va_runS (As := [.ref aX, .int (0 : Int32), .int p2, .int p3]) (rest := []) ⟨hx, hb, hml, hown, hts⟩ (c_L_isAt l hfl D K aX aC aR aH aT aL aS xS xF xR xD xC (0 : Int32) p2 p3 v1 hv1 s.heap.size) (va_cwS 4 hts gL_is_L_isAt rfl rfl rfl (by decide +kernel) ⟨(Nat.le_of_ble_eq_true rfl), (Nat.le_of_ble_eq_true rfl)⟩) (prS hE hK hP hD hS hA [0] rfl rfl) rfl rfl hl.1 rfl (lv_room (Nat.le_of_ble_eq_true rfl)) dL_is_4 ⟨(Nat.le_of_ble_eq_true rfl), (Nat.le_of_ble_eq_true rfl)⟩) hP hD hS hA [0] [] [0] rfl rfl rfl (by decide) rfl rfl (fun H locs hP hD hS => ?_)
  obtain ⟨g2, hF⟩ := oG hF
  exact fin_z (u := (v1.1, ())) hF (okN_n g2) hx hb hr hlocks hK hP hD hS (Nat.le_of_ble_eq_true rfl) (Nat.le_of_ble_eq_true rfl) dL_is_7
